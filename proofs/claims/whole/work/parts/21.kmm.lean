set_option maxHeartbeats 4000000 in
set_option maxRecDepth 100000 in
theorem k_X9_within {l : Launch} {D : va_G} {ad : Nat → Nat} {cI cJ cZ cO : ClassId} {t : Nat} {A : Nat → Prop} {N : Nat} {σ : zS} {v0 : Int32} {v1 : Int32} {v2 : Int32} {r : Int32}  (hm : m_X9_within N σ v0 v1 v2 = some r) : zCi l yX9_within cX9_within 3 (some .boolean) (zR 0 0) D zclM (zty cI cJ cZ cO) t A (zwM ad cI cJ cZ cO) [.int v0, .int v1, .int v2] σ σ r := by
  refine zMz (by decide) (Nat.le_of_ble_eq_true rfl) ?_
  intro p e s m args below meth c Q hx hb hml hown hT hK hZ hret hP hD hS ls hl
  replace hown : s.vm.findClass RX9 = some m.cls := hown
  replace hl : lv_has ls 3 [(0, .int v0), (1, .int v1), (2, .int v2)] := hl
  unfold m_X9_within at hm
  refine lv_iload_n hx hb dX9_within_0 rfl (lv_at hl 0 rfl) ?_
  refine lv_iload_n hx hb dX9_within_1 rfl (lv_at hl 1 rfl) ?_
  refine lv_icmp_lt (tgt := 14) hx hb dX9_within_2 (by decide) (fun h1 => ?_) (fun h1 => ?_)
  · rw [if_pos h1] at hm
    refine lv_iconst (v := (0 : Int32)) hx hb dX9_within_14 (by decide) ?_
    cases hm
    exact hret _ _ _ _ (by decide) dX9_within_15 hP hD hS
  · rw [if_neg h1] at hm
    refine lv_iload_n hx hb dX9_within_5 rfl (lv_at hl 0 rfl) ?_
    refine lv_iload_n hx hb dX9_within_6 rfl (lv_at hl 2 rfl) ?_
    refine lv_icmp_gt (tgt := 14) hx hb dX9_within_7 (by decide) (fun h2 => ?_) (fun h2 => ?_)
    · rw [if_pos h2] at hm
      refine lv_iconst (v := (0 : Int32)) hx hb dX9_within_14 (by decide) ?_
      cases hm
      exact hret _ _ _ _ (by decide) dX9_within_15 hP hD hS
    · rw [if_neg h2] at hm
      refine lv_iconst (v := (1 : Int32)) hx hb dX9_within_10 (by decide) ?_
      refine lv_goto (tgt := 15) hx hb dX9_within_11 (by decide) ?_
      cases hm
      exact hret _ _ _ _ (by decide) dX9_within_15 hP hD hS
set_option maxHeartbeats 4000000 in
set_option maxRecDepth 100000 in
theorem k_X9_isObject {l : Launch} {D : va_G} {ad : Nat → Nat} {cI cJ cZ cO : ClassId} {t : Nat} {A : Nat → Prop} {N : Nat} {σ : zS} {v1 : Int32} {r : Int32}  (hm : m_X9_isObject N σ v1 = some r) : zCi l yX9_isObject cX9_isObject 2 (some .boolean) (zR 1 22) D zclM (zty cI cJ cZ cO) t A (zwM ad cI cJ cZ cO) [.ref (ad 0), .int v1] σ σ r := by
  refine zMz (by decide) (Nat.le_of_ble_eq_true rfl) ?_
  intro p e s m args below meth c Q hx hb hml hown hT hK hZ hret hP hD hS ls hl
  replace hown : s.vm.findClass RX9 = some m.cls := hown
  replace hl : lv_has ls 2 [(0, .ref (ad 0)), (1, .int v1)] := hl
  unfold m_X9_isObject at hm
  refine lv_iload_n hx hb dX9_isObject_0 rfl (lv_at hl 1 rfl) ?_
  refine lv_iconst (v := (0 : Int32)) hx hb dX9_isObject_1 (by decide) ?_
  refine lv_aload_n hx hb dX9_isObject_2 rfl (lv_at hl 0 rfl) ?_
  refine zget (v := .int (σ.1 0)) hx hb hT zinX9 hown hK hP 0 rfl rfl 0 (by decide) zw622 rfl dX9_isObject_3 ?_
  refine lv_iconst (v := (1 : Int32)) hx hb dX9_isObject_6 (by decide) ?_
  refine lv_isub hx hb dX9_isObject_7 ?_
  obtain ⟨b1, eb1, hm⟩ := Option.bind_eq_some_iff.mp hm
  refine zSi (rest := []) [.int v1, .int (0 : Int32), .int ((σ.1 0) - (1 : Int32))] hx hb hml hl.1 hown hT (k_X9_within eb1) zkX9_within zw739 ⟨by decide, by decide⟩ rfl rfl hK hZ hP hD hS rfl rfl (Nat.le_of_ble_eq_true rfl) ⟨Nat.zero_le _, Nat.zero_le _⟩ dX9_isObject_8 (fun H locs hP hD hS => ?_)
  obtain ⟨b2, eb2, hm⟩ := Option.bind_eq_some_iff.mp hm
  obtain ⟨rfl, hzb2, hwb2, hfb2⟩ := zcz_all eb2
  cases hm
  exact hret _ _ _ _ hzb2 dX9_isObject_11 hP hD hS
set_option maxHeartbeats 4000000 in
set_option maxRecDepth 100000 in
theorem k_X9_isFacet {l : Launch} {D : va_G} {ad : Nat → Nat} {cI cJ cZ cO : ClassId} {t : Nat} {A : Nat → Prop} {N : Nat} {σ : zS} {v1 : Int32} {r : Int32}  (hm : m_X9_isFacet N σ v1 = some r) : zCi l yX9_isFacet cX9_isFacet 2 (some .boolean) (zR 1 22) D zclM (zty cI cJ cZ cO) t A (zwM ad cI cJ cZ cO) [.ref (ad 0), .int v1] σ σ r := by
  refine zMz (by decide) (Nat.le_of_ble_eq_true rfl) ?_
  intro p e s m args below meth c Q hx hb hml hown hT hK hZ hret hP hD hS ls hl
  replace hown : s.vm.findClass RX9 = some m.cls := hown
  replace hl : lv_has ls 2 [(0, .ref (ad 0)), (1, .int v1)] := hl
  unfold m_X9_isFacet at hm
  refine lv_iload_n hx hb dX9_isFacet_0 rfl (lv_at hl 1 rfl) ?_
  refine lv_iconst (v := (0 : Int32)) hx hb dX9_isFacet_1 (by decide) ?_
  refine lv_aload_n hx hb dX9_isFacet_2 rfl (lv_at hl 0 rfl) ?_
  refine zget (v := .int (σ.1 1)) hx hb hT zinX9 hown hK hP 0 rfl rfl 4 (by decide) zw626 rfl dX9_isFacet_3 ?_
  refine lv_iconst (v := (1 : Int32)) hx hb dX9_isFacet_6 (by decide) ?_
  refine lv_isub hx hb dX9_isFacet_7 ?_
  obtain ⟨b1, eb1, hm⟩ := Option.bind_eq_some_iff.mp hm
  refine zSi (rest := []) [.int v1, .int (0 : Int32), .int ((σ.1 1) - (1 : Int32))] hx hb hml hl.1 hown hT (k_X9_within eb1) zkX9_within zw739 ⟨by decide, by decide⟩ rfl rfl hK hZ hP hD hS rfl rfl (Nat.le_of_ble_eq_true rfl) ⟨Nat.zero_le _, Nat.zero_le _⟩ dX9_isFacet_8 (fun H locs hP hD hS => ?_)
  obtain ⟨b2, eb2, hm⟩ := Option.bind_eq_some_iff.mp hm
  obtain ⟨rfl, hzb2, hwb2, hfb2⟩ := zcz_all eb2
  cases hm
  exact hret _ _ _ _ hzb2 dX9_isFacet_11 hP hD hS
set_option maxHeartbeats 4000000 in
set_option maxRecDepth 100000 in
theorem k_X9_isColumn {l : Launch} {D : va_G} {ad : Nat → Nat} {cI cJ cZ cO : ClassId} {t : Nat} {A : Nat → Prop} {N : Nat} {σ : zS} {v0 : Int32} {r : Int32}  (hm : m_X9_isColumn N σ v0 = some r) : zCi l yX9_isColumn cX9_isColumn 1 (some .boolean) (zR 1 22) D zclM (zty cI cJ cZ cO) t A (zwM ad cI cJ cZ cO) [.int v0] σ σ r := by
  refine zMz (by decide) (Nat.le_of_ble_eq_true rfl) ?_
  intro p e s m args below meth c Q hx hb hml hown hT hK hZ hret hP hD hS ls hl
  replace hown : s.vm.findClass RX9 = some m.cls := hown
  replace hl : lv_has ls 1 [(0, .int v0)] := hl
  unfold m_X9_isColumn at hm
  refine lv_iload_n hx hb dX9_isColumn_0 rfl (lv_at hl 0 rfl) ?_
  refine lv_iconst (v := (0 : Int32)) hx hb dX9_isColumn_1 (by decide) ?_
  refine lv_iconst (v := (5 : Int32)) hx hb dX9_isColumn_2 (by decide) ?_
  obtain ⟨b1, eb1, hm⟩ := Option.bind_eq_some_iff.mp hm
  refine zSi (rest := []) [.int v0, .int (0 : Int32), .int (5 : Int32)] hx hb hml hl.1 hown hT (k_X9_within eb1) zkX9_within zw739 ⟨by decide, by decide⟩ rfl rfl hK hZ hP hD hS rfl rfl (Nat.le_of_ble_eq_true rfl) ⟨Nat.zero_le _, Nat.zero_le _⟩ dX9_isColumn_3 (fun H locs hP hD hS => ?_)
  obtain ⟨b2, eb2, hm⟩ := Option.bind_eq_some_iff.mp hm
  obtain ⟨rfl, hzb2, hwb2, hfb2⟩ := zcz_all eb2
  cases hm
  exact hret _ _ _ _ hzb2 dX9_isColumn_6 hP hD hS
set_option maxHeartbeats 4000000 in
set_option maxRecDepth 100000 in
theorem k_X9_isValue {l : Launch} {D : va_G} {ad : Nat → Nat} {cI cJ cZ cO : ClassId} {t : Nat} {A : Nat → Prop} {N : Nat} {σ : zS} {v0 : Int32} {r : Int32}  (hm : m_X9_isValue N σ v0 = some r) : zCi l yX9_isValue cX9_isValue 1 (some .boolean) (zR 1 22) D zclM (zty cI cJ cZ cO) t A (zwM ad cI cJ cZ cO) [.int v0] σ σ r := by
  refine zMz (by decide) (Nat.le_of_ble_eq_true rfl) ?_
  intro p e s m args below meth c Q hx hb hml hown hT hK hZ hret hP hD hS ls hl
  replace hown : s.vm.findClass RX9 = some m.cls := hown
  replace hl : lv_has ls 1 [(0, .int v0)] := hl
  unfold m_X9_isValue at hm
  refine lv_iload_n hx hb dX9_isValue_0 rfl (lv_at hl 0 rfl) ?_
  refine lv_ldc hx hb hown (hT _ zw748) dX9_isValue_1 ?_
  refine lv_ldc hx hb hown (hT _ zw749) dX9_isValue_3 ?_
  obtain ⟨b1, eb1, hm⟩ := Option.bind_eq_some_iff.mp hm
  refine zSi (rest := []) [.int v0, .int (-1000000000 : Int32), .int (1000000000 : Int32)] hx hb hml hl.1 hown hT (k_X9_within eb1) zkX9_within zw739 ⟨by decide, by decide⟩ rfl rfl hK hZ hP hD hS rfl rfl (Nat.le_of_ble_eq_true rfl) ⟨Nat.zero_le _, Nat.zero_le _⟩ dX9_isValue_5 (fun H locs hP hD hS => ?_)
  obtain ⟨b2, eb2, hm⟩ := Option.bind_eq_some_iff.mp hm
  obtain ⟨rfl, hzb2, hwb2, hfb2⟩ := zcz_all eb2
  cases hm
  exact hret _ _ _ _ hzb2 dX9_isValue_8 hP hD hS
set_option maxHeartbeats 4000000 in
set_option maxRecDepth 100000 in
theorem k_X9_changes {l : Launch} {D : va_G} {ad : Nat → Nat} {cI cJ cZ cO : ClassId} {t : Nat} {A : Nat → Prop} {N : Nat} {σ σ' : zS}    (hm : m_X9_changes N σ = some σ') : zCv l yX9_changes cX9_changes 1 (none) (zR 0 0) D zclM (zty cI cJ cZ cO) t A (zwM ad cI cJ cZ cO) [.ref (ad 0)] σ σ' := by
  refine zMv (by decide) (Nat.le_of_ble_eq_true rfl) ?_
  intro p e s m args below meth c Q hx hb hml hown hT hK hZ hret hP hD hS ls hl
  replace hown : s.vm.findClass RX9 = some m.cls := hown
  replace hl : lv_has ls 1 [(0, .ref (ad 0))] := hl
  unfold m_X9_changes at hm
  refine lv_aload_n hx hb dX9_changes_0 rfl (lv_at hl 0 rfl) ?_
  refine lv_iconst (v := (0 : Int32)) hx hb dX9_changes_1 (by decide) ?_
  obtain ⟨σ1, eσ1, hm⟩ := Option.bind_eq_some_iff.mp hm
  refine zput (j := 2) (ty := .int) hx hb hT zinX9 tyX9 tyX9_ok nmX9 hown hK hP hD hS 0 rfl rfl 19 (by decide) zw641 rfl (by decide +kernel) rfl rfl (Nat.le_of_ble_eq_true rfl) eσ1 rfl dX9_changes_2 (fun H locs hP hD hS => ?_)
  cases hm
  exact hret _ _ _ _ dX9_changes_5 hP hD hS
set_option maxHeartbeats 4000000 in
set_option maxRecDepth 100000 in
theorem k_X9_object {l : Launch} {D : va_G} {ad : Nat → Nat} {cI cJ cZ cO : ClassId} {t : Nat} {A : Nat → Prop} {N : Nat} {σ σ' : zS}  {r : Int32}  (hm : m_X9_object N σ = some (r, σ')) : zCi l yX9_object cX9_object 2 (some .int) (zR 1 20) D zclM (zty cI cJ cZ cO) t A (zwM ad cI cJ cZ cO) [.ref (ad 0)] σ σ' r := by
  refine zMi (by decide) (Nat.le_of_ble_eq_true rfl) ?_
  intro p e s m args below meth c Q hx hb hml hown hT hK hZ hret hP hD hS ls hl
  replace hown : s.vm.findClass RX9 = some m.cls := hown
  replace hl : lv_has ls 2 [(0, .ref (ad 0))] := hl
  have hL14 : ∀ (q : zS × Int32) (r : zS), ziter (fun q : zS × Int32 => m_X9_object_L14 N q.1 q.2) N q = some r → (∀ (H : Heap) (locs : List Loc) (ls : Array Slot), va_P D zclM (zwM ad cI cJ cZ cO r) H → va_D A (zwM ad cI cJ cZ cO r) → va_S A s.heap H locs → lv_has ls 2 [(0, .ref (ad 0))] → W p l e (zR 1 20) s m args below meth c H locs 0 0 Q (F0 m 41 ls [])) → ∀ (H : Heap) (locs : List Loc) (ls : Array Slot), va_P D zclM (zwM ad cI cJ cZ cO q.1) H → va_D A (zwM ad cI cJ cZ cO q.1) → va_S A s.heap H locs → lv_has ls 2 [(0, .ref (ad 0)), (1, .int q.2)] → W p l e (zR 1 20) s m args below meth c H locs 0 0 Q (F0 m 14 ls []) := by
    intro q r
    refine ziter_W (Hd := fun q : zS × Int32 => ∀ (H : Heap) (locs : List Loc) (ls : Array Slot), va_P D zclM (zwM ad cI cJ cZ cO q.1) H → va_D A (zwM ad cI cJ cZ cO q.1) → va_S A s.heap H locs → lv_has ls 2 [(0, .ref (ad 0)), (1, .int q.2)] → W p l e (zR 1 20) s m args below meth c H locs 0 0 Q (F0 m 14 ls [])) (Ex := fun r : zS => ∀ (H : Heap) (locs : List Loc) (ls : Array Slot), va_P D zclM (zwM ad cI cJ cZ cO r) H → va_D A (zwM ad cI cJ cZ cO r) → va_S A s.heap H locs → lv_has ls 2 [(0, .ref (ad 0))] → W p l e (zR 1 20) s m args below meth c H locs 0 0 Q (F0 m 41 ls [])) ?_ N q r
    rintro ⟨σ2, v1_2⟩ res hm hk H locs ls hP hD hS hl
    try dsimp only at hP hD hl
    replace hm : m_X9_object_L14 N σ2 v1_2 = some res := hm
    unfold m_X9_object_L14 at hm
    refine lv_iload_n hx hb dX9_object_14 rfl (lv_at hl 1 rfl) ?_
    refine lv_bipush (v := (6 : Int32)) hx hb dX9_object_15 (by decide) ?_
    refine lv_icmp_ge (tgt := 41) hx hb dX9_object_17 (by decide) (fun h3 => ?_) (fun h3 => ?_)
    · rw [if_pos h3] at hm
      cases hm
      exact hk _ _ _ hP hD hS (lv_sub hl [0] rfl)
    · rw [if_neg h3] at hm
      refine lv_aload_n hx hb dX9_object_20 rfl (lv_at hl 0 rfl) ?_
      refine zget (v := .ref (ad 1)) hx hb hT zinX9 hown hK hP 0 rfl rfl 1 (by decide) zw623 rfl dX9_object_21 ?_
      refine lv_bipush (v := (6 : Int32)) hx hb dX9_object_24 (by decide) ?_
      refine lv_aload_n hx hb dX9_object_26 rfl (lv_at hl 0 rfl) ?_
      refine zget (v := .int (σ2.1 0)) hx hb hT zinX9 hown hK hP 0 rfl rfl 0 (by decide) zw622 rfl dX9_object_27 ?_
      refine lv_imul hx hb dX9_object_30 ?_
      refine lv_iload_n hx hb dX9_object_31 rfl (lv_at hl 1 rfl) ?_
      refine lv_iadd hx hb dX9_object_32 ?_
      refine lv_iconst (v := (0 : Int32)) hx hb dX9_object_33 (by decide) ?_
      obtain ⟨σ4, eσ4, hm⟩ := Option.bind_eq_some_iff.mp hm
      refine ziast (j := 0) hx hb hK hP hD hS 1 0 rfl rfl eσ4 (fun _ => rfl) dX9_object_34 (fun H locs hP hD hS => ?_)
      refine lv_iinc (v := (v1_2 + (1 : Int32))) (lv' := [(1, .int (v1_2 + (1 : Int32))), (0, .ref (ad 0))]) hx hb dX9_object_35 hl (k := 1) rfl rfl (by decide) rfl (fun ls hl => ?_)
      refine lv_goto (tgt := 14) hx hb dX9_object_38 (by decide) ?_
      cases hm
      exact hk _ _ _ hP hD hS (lv_sub hl [1, 0] rfl)
  have h41 : ∀ (σ7 : zS), m_X9_object_41 N σ7 = some (r, σ') → ∀ (H : Heap) (locs : List Loc) (ls : Array Slot), va_P D zclM (zwM ad cI cJ cZ cO σ7) H → va_D A (zwM ad cI cJ cZ cO σ7) → va_S A s.heap H locs → lv_has ls 2 [(0, .ref (ad 0))] → W p l e (zR 1 20) s m args below meth c H locs 0 0 Q (F0 m 41 ls []) := by
    intro σ7 hm H locs ls hP hD hS hl
    unfold m_X9_object_41 at hm
    refine lv_aload_n hx hb dX9_object_41 rfl (lv_at hl 0 rfl) ?_
    refine zget (v := .ref (ad 3)) hx hb hT zinX9 hown hK hP 0 rfl rfl 3 (by decide) zw625 rfl dX9_object_42 ?_
    refine lv_aload_n hx hb dX9_object_45 rfl (lv_at hl 0 rfl) ?_
    refine zget (v := .int (σ7.1 0)) hx hb hT zinX9 hown hK hP 0 rfl rfl 0 (by decide) zw622 rfl dX9_object_46 ?_
    refine lv_iconst (v := (0 : Int32)) hx hb dX9_object_49 (by decide) ?_
    obtain ⟨σ8, eσ8, hm⟩ := Option.bind_eq_some_iff.mp hm
    refine zzast (j := 2) hx hb hK hP hD hS 3 2 rfl rfl eσ8 (by decide) (fun _ => rfl) dX9_object_50 (fun H locs hP hD hS => ?_)
    refine lv_aload_n hx hb dX9_object_51 rfl (lv_at hl 0 rfl) ?_
    refine lv_dup hx hb dX9_object_52 rfl ?_
    refine zget (v := .int (σ8.1 0)) hx hb hT zinX9 hown hK hP 0 rfl rfl 0 (by decide) zw622 rfl dX9_object_53 ?_
    refine lv_iconst (v := (1 : Int32)) hx hb dX9_object_56 (by decide) ?_
    refine lv_iadd hx hb dX9_object_57 ?_
    obtain ⟨σ9, eσ9, hm⟩ := Option.bind_eq_some_iff.mp hm
    refine zput (j := 0) (ty := .int) hx hb hT zinX9 tyX9 tyX9_ok nmX9 hown hK hP hD hS 0 rfl rfl 0 (by decide) zw622 rfl (by decide +kernel) rfl rfl (Nat.le_of_ble_eq_true rfl) eσ9 rfl dX9_object_58 (fun H locs hP hD hS => ?_)
    refine lv_aload_n hx hb dX9_object_61 rfl (lv_at hl 0 rfl) ?_
    obtain ⟨σ10, eσ10, hm⟩ := Option.bind_eq_some_iff.mp hm
    refine zVv (rest := []) [] hx hb hml hl.1 hown hT (k_X9_changes eσ10) zkX9_changes zw727 ⟨by decide, by decide⟩ rfl rfl hK hZ hP hD hS 0 rfl rfl rfl rfl (Nat.le_of_ble_eq_true rfl) ⟨Nat.zero_le _, Nat.zero_le _⟩ dX9_object_62 (fun H locs hP hD hS => ?_)
    refine lv_aload_n hx hb dX9_object_65 rfl (lv_at hl 0 rfl) ?_
    refine zget (v := .int (σ10.1 0)) hx hb hT zinX9 hown hK hP 0 rfl rfl 0 (by decide) zw622 rfl dX9_object_66 ?_
    refine lv_iconst (v := (1 : Int32)) hx hb dX9_object_69 (by decide) ?_
    refine lv_isub hx hb dX9_object_70 ?_
    cases hm
    exact hret _ _ _ _ dX9_object_71 hP hD hS
  unfold m_X9_object at hm
  refine lv_aload_n hx hb dX9_object_0 rfl (lv_at hl 0 rfl) ?_
  refine zget (v := .int (σ.1 0)) hx hb hT zinX9 hown hK hP 0 rfl rfl 0 (by decide) zw622 rfl dX9_object_1 ?_
  refine lv_bipush (v := (120 : Int32)) hx hb dX9_object_4 (by decide) ?_
  refine lv_icmp_ne (tgt := 12) hx hb dX9_object_6 (by decide) (fun h1 => ?_) (fun h1 => ?_)
  · rw [if_neg h1] at hm
    refine lv_iconst (v := (0 : Int32)) hx hb dX9_object_12 (by decide) ?_
    refine lv_istore_n (lv' := [(1, .int (0 : Int32)), (0, .ref (ad 0))]) hx hb dX9_object_13 rfl hl (by decide) rfl (fun ls hl => ?_)
    obtain ⟨σ6, e11, hm⟩ := Option.bind_eq_some_iff.mp hm
    refine hL14  _ σ6 e11 ?_ _ _ _ hP hD hS (lv_sub hl [1, 0] rfl)
    intro H locs ls hP hD hS hl
    try dsimp only at hP hD hl
    replace hm : m_X9_object_41 N σ6 = some (r, σ') := hm
    exact h41 σ6 hm _ _ _ hP hD hS (lv_sub hl [0] rfl)
  · rw [if_pos h1] at hm
    refine lv_ldc hx hb hown (hT _ zw726) dX9_object_9 ?_
    cases hm
    exact hret _ _ _ _ dX9_object_11 hP hD hS
set_option maxHeartbeats 4000000 in
set_option maxRecDepth 100000 in
theorem k_X9_value {l : Launch} {D : va_G} {ad : Nat → Nat} {cI cJ cZ cO : ClassId} {t : Nat} {A : Nat → Prop} {N : Nat} {σ σ' : zS} {v1 : Int32} {v2 : Int32} {v3 : Int32} {r : Int32}  (hm : m_X9_value N σ v1 v2 v3 = some (r, σ')) : zCi l yX9_value cX9_value 5 (some .int) (zR 2 43) D zclM (zty cI cJ cZ cO) t A (zwM ad cI cJ cZ cO) [.ref (ad 0), .int v1, .int v2, .int v3] σ σ' r := by
  refine zMi (by decide) (Nat.le_of_ble_eq_true rfl) ?_
  intro p e s m args below meth c Q hx hb hml hown hT hK hZ hret hP hD hS ls hl
  replace hown : s.vm.findClass RX9 = some m.cls := hown
  replace hl : lv_has ls 5 [(0, .ref (ad 0)), (1, .int v1), (2, .int v2), (3, .int v3)] := hl
  unfold m_X9_value at hm
  refine lv_aload_n hx hb dX9_value_0 rfl (lv_at hl 0 rfl) ?_
  refine lv_iload_n hx hb dX9_value_1 rfl (lv_at hl 1 rfl) ?_
  obtain ⟨b1, eb1, hm⟩ := Option.bind_eq_some_iff.mp hm
  refine zVi (rest := []) [.int v1] hx hb hml hl.1 hown hT (k_X9_isObject eb1) zkX9_isObject zw735 ⟨by decide, by decide⟩ rfl rfl hK hZ hP hD hS 0 rfl rfl rfl rfl (Nat.le_of_ble_eq_true rfl) ⟨Nat.zero_le _, Nat.zero_le _⟩ dX9_value_2 (fun H locs hP hD hS => ?_)
  refine lv_if_eq (tgt := 22) hx hb dX9_value_5 (by decide) (fun h2 => ?_) (fun h2 => ?_)
  · rw [if_pos h2] at hm
    refine lv_ldc hx hb hown (hT _ zw750) dX9_value_22 ?_
    cases hm
    exact hret _ _ _ _ dX9_value_24 hP hD hS
  · rw [if_neg h2] at hm
    refine lv_iload_n hx hb dX9_value_8 rfl (lv_at hl 2 rfl) ?_
    obtain ⟨b3, eb3, hm⟩ := Option.bind_eq_some_iff.mp hm
    refine zSi (rest := []) [.int v2] hx hb hml hl.1 hown hT (k_X9_isColumn eb3) zkX9_isColumn zw742 ⟨by decide, by decide⟩ rfl rfl hK hZ hP hD hS rfl rfl (Nat.le_of_ble_eq_true rfl) ⟨Nat.zero_le _, Nat.zero_le _⟩ dX9_value_9 (fun H locs hP hD hS => ?_)
    refine lv_if_eq (tgt := 22) hx hb dX9_value_12 (by decide) (fun h4 => ?_) (fun h4 => ?_)
    · rw [if_pos h4] at hm
      refine lv_ldc hx hb hown (hT _ zw750) dX9_value_22 ?_
      cases hm
      exact hret _ _ _ _ dX9_value_24 hP hD hS
    · rw [if_neg h4] at hm
      refine lv_iload_n hx hb dX9_value_15 rfl (lv_at hl 3 rfl) ?_
      obtain ⟨b5, eb5, hm⟩ := Option.bind_eq_some_iff.mp hm
      refine zSi (rest := []) [.int v3] hx hb hml hl.1 hown hT (k_X9_isValue eb5) zkX9_isValue zw745 ⟨by decide, by decide⟩ rfl rfl hK hZ hP hD hS rfl rfl (Nat.le_of_ble_eq_true rfl) ⟨Nat.zero_le _, Nat.zero_le _⟩ dX9_value_16 (fun H locs hP hD hS => ?_)
      refine lv_if_ne (tgt := 25) hx hb dX9_value_19 (by decide) (fun h6 => ?_) (fun h6 => ?_)
      · rw [if_neg h6] at hm
        refine lv_bipush (v := (6 : Int32)) hx hb dX9_value_25 (by decide) ?_
        refine lv_iload_n hx hb dX9_value_27 rfl (lv_at hl 1 rfl) ?_
        refine lv_imul hx hb dX9_value_28 ?_
        refine lv_iload_n hx hb dX9_value_29 rfl (lv_at hl 2 rfl) ?_
        refine lv_iadd hx hb dX9_value_30 ?_
        refine lv_istore (lv' := [(4, .int (((6 : Int32) * v1) + v2)), (0, .ref (ad 0)), (1, .int v1), (2, .int v2), (3, .int v3)]) hx hb dX9_value_31 hl (by decide) rfl (fun ls hl => ?_)
        refine lv_aload_n hx hb dX9_value_33 rfl (lv_at hl 1 rfl) ?_
        refine zget (v := .ref (ad 1)) hx hb hT zinX9 hown hK hP 0 rfl rfl 1 (by decide) zw623 rfl dX9_value_34 ?_
        refine lv_iload hx hb dX9_value_37 (lv_at hl 0 rfl) ?_
        obtain ⟨b7, eb7, hm⟩ := Option.bind_eq_some_iff.mp hm
        refine ziald hx hb hK hP 1 0 rfl rfl eb7 dX9_value_39 ?_
        refine lv_iconst (v := (3 : Int32)) hx hb dX9_value_40 (by decide) ?_
        refine lv_icmp_ne (tgt := 47) hx hb dX9_value_41 (by decide) (fun h8 => ?_) (fun h8 => ?_)
        · rw [if_neg h8] at hm
          refine lv_aload_n hx hb dX9_value_47 rfl (lv_at hl 1 rfl) ?_
          refine zget (v := .ref (ad 2)) hx hb hT zinX9 hown hK hP 0 rfl rfl 2 (by decide) zw624 rfl dX9_value_48 ?_
          refine lv_iconst (v := (3 : Int32)) hx hb dX9_value_51 (by decide) ?_
          refine lv_iload hx hb dX9_value_52 (lv_at hl 0 rfl) ?_
          refine lv_imul hx hb dX9_value_54 ?_
          refine lv_aload_n hx hb dX9_value_55 rfl (lv_at hl 1 rfl) ?_
          refine zget (v := .ref (ad 1)) hx hb hT zinX9 hown hK hP 0 rfl rfl 1 (by decide) zw623 rfl dX9_value_56 ?_
          refine lv_iload hx hb dX9_value_59 (lv_at hl 0 rfl) ?_
          obtain ⟨b9, eb9, hm⟩ := Option.bind_eq_some_iff.mp hm
          refine ziald hx hb hK hP 1 0 rfl rfl eb9 dX9_value_61 ?_
          refine lv_iadd hx hb dX9_value_62 ?_
          refine lv_iload_n hx hb dX9_value_63 rfl (lv_at hl 4 rfl) ?_
          obtain ⟨σ10, eσ10, hm⟩ := Option.bind_eq_some_iff.mp hm
          refine ziast (j := 1) hx hb hK hP hD hS 2 0 rfl rfl eσ10 (fun _ => rfl) dX9_value_64 (fun H locs hP hD hS => ?_)
          refine lv_aload_n hx hb dX9_value_65 rfl (lv_at hl 1 rfl) ?_
          refine zget (v := .ref (ad 1)) hx hb hT zinX9 hown hK hP 0 rfl rfl 1 (by decide) zw623 rfl dX9_value_66 ?_
          refine lv_iload hx hb dX9_value_69 (lv_at hl 0 rfl) ?_
          refine lv_dup2_11 hx hb dX9_value_71 rfl rfl ?_
          obtain ⟨b11, eb11, hm⟩ := Option.bind_eq_some_iff.mp hm
          refine ziald hx hb hK hP 1 0 rfl rfl eb11 dX9_value_72 ?_
          refine lv_iconst (v := (1 : Int32)) hx hb dX9_value_73 (by decide) ?_
          refine lv_iadd hx hb dX9_value_74 ?_
          obtain ⟨σ12, eσ12, hm⟩ := Option.bind_eq_some_iff.mp hm
          refine ziast (j := 0) hx hb hK hP hD hS 1 0 rfl rfl eσ12 (fun _ => rfl) dX9_value_75 (fun H locs hP hD hS => ?_)
          refine lv_aload_n hx hb dX9_value_76 rfl (lv_at hl 1 rfl) ?_
          obtain ⟨σ13, eσ13, hm⟩ := Option.bind_eq_some_iff.mp hm
          refine zVv (rest := []) [] hx hb hml hl.1 hown hT (k_X9_changes eσ13) zkX9_changes zw727 ⟨by decide, by decide⟩ rfl rfl hK hZ hP hD hS 0 rfl rfl rfl rfl (Nat.le_of_ble_eq_true rfl) ⟨Nat.zero_le _, Nat.zero_le _⟩ dX9_value_77 (fun H locs hP hD hS => ?_)
          refine lv_aload_n hx hb dX9_value_80 rfl (lv_at hl 1 rfl) ?_
          refine zget (v := .ref (ad 1)) hx hb hT zinX9 hown hK hP 0 rfl rfl 1 (by decide) zw623 rfl dX9_value_81 ?_
          refine lv_iload hx hb dX9_value_84 (lv_at hl 0 rfl) ?_
          obtain ⟨b14, eb14, hm⟩ := Option.bind_eq_some_iff.mp hm
          refine ziald hx hb hK hP 1 0 rfl rfl eb14 dX9_value_86 ?_
          cases hm
          exact hret _ _ _ _ dX9_value_87 hP hD hS
        · rw [if_pos h8] at hm
          refine lv_ldc hx hb hown (hT _ zw726) dX9_value_44 ?_
          cases hm
          exact hret _ _ _ _ dX9_value_46 hP hD hS
      · rw [if_pos h6] at hm
        refine lv_ldc hx hb hown (hT _ zw750) dX9_value_22 ?_
        cases hm
        exact hret _ _ _ _ dX9_value_24 hP hD hS
set_option maxHeartbeats 4000000 in
set_option maxRecDepth 100000 in
theorem k_X9_match {l : Launch} {D : va_G} {ad : Nat → Nat} {cI cJ cZ cO : ClassId} {t : Nat} {A : Nat → Prop} {N : Nat} {σ σ' : zS} {v1 : Int32} {v2 : Int32} {r : Int32}  (hm : m_X9_match N σ v1 v2 = some (r, σ')) : zCi l yX9_match cX9_match 4 (some .int) (zR 2 43) D zclM (zty cI cJ cZ cO) t A (zwM ad cI cJ cZ cO) [.ref (ad 0), .int v1, .int v2] σ σ' r := by
  refine zMi (by decide) (Nat.le_of_ble_eq_true rfl) ?_
  intro p e s m args below meth c Q hx hb hml hown hT hK hZ hret hP hD hS ls hl
  replace hown : s.vm.findClass RX9 = some m.cls := hown
  replace hl : lv_has ls 4 [(0, .ref (ad 0)), (1, .int v1), (2, .int v2)] := hl
  have h25 : ∀ (σ5 : zS) (x0_5 : Int32), m_X9_match_25 N v1 v2 σ5 x0_5 = some (r, σ') → ∀ (H : Heap) (locs : List Loc) (ls : Array Slot), va_P D zclM (zwM ad cI cJ cZ cO σ5) H → va_D A (zwM ad cI cJ cZ cO σ5) → va_S A s.heap H locs → lv_has ls 4 [(0, .ref (ad 0)), (1, .int v1), (2, .int v2)] → W p l e (zR 2 43) s m args below meth c H locs 0 0 Q (F0 m 25 ls [.int x0_5]) := by
    intro σ5 x0_5 hm H locs ls hP hD hS hl
    unfold m_X9_match_25 at hm
    refine lv_istore_n (lv' := [(3, .int x0_5), (0, .ref (ad 0)), (1, .int v1), (2, .int v2)]) hx hb dX9_match_25 rfl hl (by decide) rfl (fun ls hl => ?_)
    refine lv_aload_n hx hb dX9_match_26 rfl (lv_at hl 1 rfl) ?_
    refine zget (v := .ref (ad 3)) hx hb hT zinX9 hown hK hP 0 rfl rfl 3 (by decide) zw625 rfl dX9_match_27 ?_
    refine lv_iload_n hx hb dX9_match_30 rfl (lv_at hl 2 rfl) ?_
    refine lv_iload_n hx hb dX9_match_31 rfl (lv_at hl 3 rfl) ?_
    obtain ⟨b6, eb6, hm⟩ := Option.bind_eq_some_iff.mp hm
    obtain ⟨rfl, hzb6, hwb6, hfb6⟩ := zcz_all eb6
    obtain ⟨σ7, eσ7, hm⟩ := Option.bind_eq_some_iff.mp hm
    refine zzast (j := 2) hx hb hK hP hD hS 3 2 rfl rfl eσ7 hwb6 (fun _ => rfl) dX9_match_32 (fun H locs hP hD hS => ?_)
    refine lv_aload_n hx hb dX9_match_33 rfl (lv_at hl 1 rfl) ?_
    obtain ⟨σ8, eσ8, hm⟩ := Option.bind_eq_some_iff.mp hm
    refine zVv (rest := []) [] hx hb hml hl.1 hown hT (k_X9_changes eσ8) zkX9_changes zw727 ⟨by decide, by decide⟩ rfl rfl hK hZ hP hD hS 0 rfl rfl rfl rfl (Nat.le_of_ble_eq_true rfl) ⟨Nat.zero_le _, Nat.zero_le _⟩ dX9_match_34 (fun H locs hP hD hS => ?_)
    refine lv_iload_n hx hb dX9_match_37 rfl (lv_at hl 0 rfl) ?_
    cases hm
    exact hret _ _ _ _ dX9_match_38 hP hD hS
  unfold m_X9_match at hm
  refine lv_aload_n hx hb dX9_match_0 rfl (lv_at hl 0 rfl) ?_
  refine lv_iload_n hx hb dX9_match_1 rfl (lv_at hl 1 rfl) ?_
  obtain ⟨b1, eb1, hm⟩ := Option.bind_eq_some_iff.mp hm
  refine zVi (rest := []) [.int v1] hx hb hml hl.1 hown hT (k_X9_isObject eb1) zkX9_isObject zw735 ⟨by decide, by decide⟩ rfl rfl hK hZ hP hD hS 0 rfl rfl rfl rfl (Nat.le_of_ble_eq_true rfl) ⟨Nat.zero_le _, Nat.zero_le _⟩ dX9_match_2 (fun H locs hP hD hS => ?_)
  refine lv_if_ne (tgt := 11) hx hb dX9_match_5 (by decide) (fun h2 => ?_) (fun h2 => ?_)
  · rw [if_neg h2] at hm
    refine lv_aload_n hx hb dX9_match_11 rfl (lv_at hl 0 rfl) ?_
    refine zget (v := .ref (ad 3)) hx hb hT zinX9 hown hK hP 0 rfl rfl 3 (by decide) zw625 rfl dX9_match_12 ?_
    refine lv_iload_n hx hb dX9_match_15 rfl (lv_at hl 1 rfl) ?_
    obtain ⟨b3, eb3, hm⟩ := Option.bind_eq_some_iff.mp hm
    refine zzald hx hb hK hP 3 2 rfl rfl eb3 dX9_match_16 ?_
    refine lv_if_eq (tgt := 24) hx hb dX9_match_17 (by decide) (fun h4 => ?_) (fun h4 => ?_)
    · rw [if_pos h4] at hm
      refine lv_iconst (v := (0 : Int32)) hx hb dX9_match_24 (by decide) ?_
      exact h25 σ (0 : Int32) hm _ _ _ hP hD hS (lv_sub hl [0, 1, 2] rfl)
    · rw [if_neg h4] at hm
      refine lv_iconst (v := (1 : Int32)) hx hb dX9_match_20 (by decide) ?_
      refine lv_goto (tgt := 25) hx hb dX9_match_21 (by decide) ?_
      exact h25 σ (1 : Int32) hm _ _ _ hP hD hS (lv_sub hl [0, 1, 2] rfl)
  · rw [if_pos h2] at hm
    refine lv_ldc hx hb hown (hT _ zw750) dX9_match_8 ?_
    cases hm
    exact hret _ _ _ _ dX9_match_10 hP hD hS
set_option maxHeartbeats 4000000 in
set_option maxRecDepth 100000 in
theorem k_X9_clear {l : Launch} {D : va_G} {ad : Nat → Nat} {cI cJ cZ cO : ClassId} {t : Nat} {A : Nat → Prop} {N : Nat} {σ σ' : zS}  {r : Int32}  (hm : m_X9_clear N σ = some (r, σ')) : zCi l yX9_clear cX9_clear 2 (some .int) (zR 1 20) D zclM (zty cI cJ cZ cO) t A (zwM ad cI cJ cZ cO) [.ref (ad 0)] σ σ' r := by
  refine zMi (by decide) (Nat.le_of_ble_eq_true rfl) ?_
  intro p e s m args below meth c Q hx hb hml hown hT hK hZ hret hP hD hS ls hl
  replace hown : s.vm.findClass RX9 = some m.cls := hown
  replace hl : lv_has ls 2 [(0, .ref (ad 0))] := hl
  unfold m_X9_clear at hm
  refine lv_aload_n hx hb dX9_clear_0 rfl (lv_at hl 0 rfl) ?_
  refine zget (v := .int (σ.1 0)) hx hb hT zinX9 hown hK hP 0 rfl rfl 0 (by decide) zw622 rfl dX9_clear_1 ?_
  refine lv_istore_n (lv' := [(1, .int (σ.1 0)), (0, .ref (ad 0))]) hx hb dX9_clear_4 rfl hl (by decide) rfl (fun ls hl => ?_)
  refine lv_aload_n hx hb dX9_clear_5 rfl (lv_at hl 1 rfl) ?_
  refine lv_iconst (v := (0 : Int32)) hx hb dX9_clear_6 (by decide) ?_
  obtain ⟨σ1, eσ1, hm⟩ := Option.bind_eq_some_iff.mp hm
  refine zput (j := 0) (ty := .int) hx hb hT zinX9 tyX9 tyX9_ok nmX9 hown hK hP hD hS 0 rfl rfl 0 (by decide) zw622 rfl (by decide +kernel) rfl rfl (Nat.le_of_ble_eq_true rfl) eσ1 rfl dX9_clear_7 (fun H locs hP hD hS => ?_)
  refine lv_aload_n hx hb dX9_clear_10 rfl (lv_at hl 1 rfl) ?_
  refine lv_iconst (v := (0 : Int32)) hx hb dX9_clear_11 (by decide) ?_
  obtain ⟨σ2, eσ2, hm⟩ := Option.bind_eq_some_iff.mp hm
  refine zput (j := 1) (ty := .int) hx hb hT zinX9 tyX9 tyX9_ok nmX9 hown hK hP hD hS 0 rfl rfl 4 (by decide) zw626 rfl (by decide +kernel) rfl rfl (Nat.le_of_ble_eq_true rfl) eσ2 rfl dX9_clear_12 (fun H locs hP hD hS => ?_)
  refine lv_aload_n hx hb dX9_clear_15 rfl (lv_at hl 1 rfl) ?_
  obtain ⟨σ3, eσ3, hm⟩ := Option.bind_eq_some_iff.mp hm
  refine zVv (rest := []) [] hx hb hml hl.1 hown hT (k_X9_changes eσ3) zkX9_changes zw727 ⟨by decide, by decide⟩ rfl rfl hK hZ hP hD hS 0 rfl rfl rfl rfl (Nat.le_of_ble_eq_true rfl) ⟨Nat.zero_le _, Nat.zero_le _⟩ dX9_clear_16 (fun H locs hP hD hS => ?_)
  refine lv_iload_n hx hb dX9_clear_19 rfl (lv_at hl 0 rfl) ?_
  cases hm
  exact hret _ _ _ _ dX9_clear_20 hP hD hS
set_option maxHeartbeats 4000000 in
set_option maxRecDepth 100000 in
theorem k_X9_facet {l : Launch} {D : va_G} {ad : Nat → Nat} {cI cJ cZ cO : ClassId} {t : Nat} {A : Nat → Prop} {N : Nat} {σ σ' : zS} {v1 : Int32} {v2 : Int32} {v3 : Int32} {v4 : Int32} {r : Int32}  (hm : m_X9_facet N σ v1 v2 v3 v4 = some (r, σ')) : zCi l yX9_facet cX9_facet 6 (some .int) (zR 2 42) D zclM (zty cI cJ cZ cO) t A (zwM ad cI cJ cZ cO) [.ref (ad 0), .int v1, .int v2, .int v3, .int v4] σ σ' r := by
  refine zMi (by decide) (Nat.le_of_ble_eq_true rfl) ?_
  intro p e s m args below meth c Q hx hb hml hown hT hK hZ hret hP hD hS ls hl
  replace hown : s.vm.findClass RX9 = some m.cls := hown
  replace hl : lv_has ls 6 [(0, .ref (ad 0)), (1, .int v1), (2, .int v2), (3, .int v3), (4, .int v4)] := hl
  have h72 : ∀ (σ10 : zS), m_X9_facet_72 N v1 v2 v3 v4 σ10 = some (r, σ') → ∀ (H : Heap) (locs : List Loc) (ls : Array Slot), va_P D zclM (zwM ad cI cJ cZ cO σ10) H → va_D A (zwM ad cI cJ cZ cO σ10) → va_S A s.heap H locs → lv_has ls 6 [(0, .ref (ad 0)), (1, .int v1), (2, .int v2), (3, .int v3), (4, .int v4)] → W p l e (zR 2 42) s m args below meth c H locs 0 0 Q (F0 m 72 ls []) := by
    intro σ10 hm H locs ls hP hD hS hl
    unfold m_X9_facet_72 at hm
    refine lv_aload_n hx hb dX9_facet_72 rfl (lv_at hl 0 rfl) ?_
    refine zget (v := .int (σ10.1 1)) hx hb hT zinX9 hown hK hP 0 rfl rfl 4 (by decide) zw626 rfl dX9_facet_73 ?_
    refine lv_bipush (v := (10 : Int32)) hx hb dX9_facet_76 (by decide) ?_
    refine lv_icmp_ne (tgt := 84) hx hb dX9_facet_78 (by decide) (fun h11 => ?_) (fun h11 => ?_)
    · rw [if_neg h11] at hm
      refine lv_aload_n hx hb dX9_facet_84 rfl (lv_at hl 0 rfl) ?_
      refine zget (v := .ref (ad 4)) hx hb hT zinX9 hown hK hP 0 rfl rfl 5 (by decide) zw627 rfl dX9_facet_85 ?_
      refine lv_aload_n hx hb dX9_facet_88 rfl (lv_at hl 0 rfl) ?_
      refine zget (v := .int (σ10.1 1)) hx hb hT zinX9 hown hK hP 0 rfl rfl 4 (by decide) zw626 rfl dX9_facet_89 ?_
      refine lv_iload_n hx hb dX9_facet_92 rfl (lv_at hl 1 rfl) ?_
      obtain ⟨σ12, eσ12, hm⟩ := Option.bind_eq_some_iff.mp hm
      refine ziast (j := 3) hx hb hK hP hD hS 4 0 rfl rfl eσ12 (fun _ => rfl) dX9_facet_93 (fun H locs hP hD hS => ?_)
      refine lv_aload_n hx hb dX9_facet_94 rfl (lv_at hl 0 rfl) ?_
      refine zget (v := .ref (ad 5)) hx hb hT zinX9 hown hK hP 0 rfl rfl 6 (by decide) zw628 rfl dX9_facet_95 ?_
      refine lv_aload_n hx hb dX9_facet_98 rfl (lv_at hl 0 rfl) ?_
      refine zget (v := .int (σ12.1 1)) hx hb hT zinX9 hown hK hP 0 rfl rfl 4 (by decide) zw626 rfl dX9_facet_99 ?_
      refine lv_iload_n hx hb dX9_facet_102 rfl (lv_at hl 2 rfl) ?_
      obtain ⟨σ13, eσ13, hm⟩ := Option.bind_eq_some_iff.mp hm
      refine ziast (j := 4) hx hb hK hP hD hS 5 0 rfl rfl eσ13 (fun _ => rfl) dX9_facet_103 (fun H locs hP hD hS => ?_)
      refine lv_aload_n hx hb dX9_facet_104 rfl (lv_at hl 0 rfl) ?_
      refine zget (v := .ref (ad 6)) hx hb hT zinX9 hown hK hP 0 rfl rfl 7 (by decide) zw629 rfl dX9_facet_105 ?_
      refine lv_aload_n hx hb dX9_facet_108 rfl (lv_at hl 0 rfl) ?_
      refine zget (v := .int (σ13.1 1)) hx hb hT zinX9 hown hK hP 0 rfl rfl 4 (by decide) zw626 rfl dX9_facet_109 ?_
      refine lv_iload_n hx hb dX9_facet_112 rfl (lv_at hl 3 rfl) ?_
      obtain ⟨σ14, eσ14, hm⟩ := Option.bind_eq_some_iff.mp hm
      refine ziast (j := 5) hx hb hK hP hD hS 6 0 rfl rfl eσ14 (fun _ => rfl) dX9_facet_113 (fun H locs hP hD hS => ?_)
      refine lv_aload_n hx hb dX9_facet_114 rfl (lv_at hl 0 rfl) ?_
      refine zget (v := .ref (ad 7)) hx hb hT zinX9 hown hK hP 0 rfl rfl 8 (by decide) zw630 rfl dX9_facet_115 ?_
      refine lv_aload_n hx hb dX9_facet_118 rfl (lv_at hl 0 rfl) ?_
      refine zget (v := .int (σ14.1 1)) hx hb hT zinX9 hown hK hP 0 rfl rfl 4 (by decide) zw626 rfl dX9_facet_119 ?_
      refine lv_iload hx hb dX9_facet_122 (lv_at hl 4 rfl) ?_
      obtain ⟨σ15, eσ15, hm⟩ := Option.bind_eq_some_iff.mp hm
      refine ziast (j := 6) hx hb hK hP hD hS 7 0 rfl rfl eσ15 (fun _ => rfl) dX9_facet_124 (fun H locs hP hD hS => ?_)
      refine lv_aload_n hx hb dX9_facet_125 rfl (lv_at hl 0 rfl) ?_
      refine zget (v := .ref (ad 8)) hx hb hT zinX9 hown hK hP 0 rfl rfl 9 (by decide) zw631 rfl dX9_facet_126 ?_
      refine lv_aload_n hx hb dX9_facet_129 rfl (lv_at hl 0 rfl) ?_
      refine zget (v := .int (σ15.1 1)) hx hb hT zinX9 hown hK hP 0 rfl rfl 4 (by decide) zw626 rfl dX9_facet_130 ?_
      refine lv_iconst (v := (0 : Int32)) hx hb dX9_facet_133 (by decide) ?_
      obtain ⟨σ16, eσ16, hm⟩ := Option.bind_eq_some_iff.mp hm
      refine ziast (j := 7) hx hb hK hP hD hS 8 0 rfl rfl eσ16 (fun _ => rfl) dX9_facet_134 (fun H locs hP hD hS => ?_)
      refine lv_aload_n hx hb dX9_facet_135 rfl (lv_at hl 0 rfl) ?_
      refine zget (v := .ref (ad 11)) hx hb hT zinX9 hown hK hP 0 rfl rfl 12 (by decide) zw634 rfl dX9_facet_136 ?_
      refine lv_aload_n hx hb dX9_facet_139 rfl (lv_at hl 0 rfl) ?_
      refine zget (v := .int (σ16.1 1)) hx hb hT zinX9 hown hK hP 0 rfl rfl 4 (by decide) zw626 rfl dX9_facet_140 ?_
      refine lv_ldc hx hb hown (hT _ zw764) dX9_facet_143 ?_
      obtain ⟨σ17, eσ17, hm⟩ := Option.bind_eq_some_iff.mp hm
      refine ziast (j := 10) hx hb hK hP hD hS 11 0 rfl rfl eσ17 (fun _ => rfl) dX9_facet_145 (fun H locs hP hD hS => ?_)
      refine lv_aload_n hx hb dX9_facet_146 rfl (lv_at hl 0 rfl) ?_
      refine zget (v := .ref (ad 14)) hx hb hT zinX9 hown hK hP 0 rfl rfl 15 (by decide) zw637 rfl dX9_facet_147 ?_
      refine lv_aload_n hx hb dX9_facet_150 rfl (lv_at hl 0 rfl) ?_
      refine zget (v := .int (σ17.1 1)) hx hb hT zinX9 hown hK hP 0 rfl rfl 4 (by decide) zw626 rfl dX9_facet_151 ?_
      refine lv_iconst (v := (1 : Int32)) hx hb dX9_facet_154 (by decide) ?_
      obtain ⟨σ18, eσ18, hm⟩ := Option.bind_eq_some_iff.mp hm
      refine ziast (j := 13) hx hb hK hP hD hS 14 0 rfl rfl eσ18 (fun _ => rfl) dX9_facet_155 (fun H locs hP hD hS => ?_)
      refine lv_aload_n hx hb dX9_facet_156 rfl (lv_at hl 0 rfl) ?_
      refine zget (v := .ref (ad 15)) hx hb hT zinX9 hown hK hP 0 rfl rfl 16 (by decide) zw638 rfl dX9_facet_157 ?_
      refine lv_aload_n hx hb dX9_facet_160 rfl (lv_at hl 0 rfl) ?_
      refine zget (v := .int (σ18.1 1)) hx hb hT zinX9 hown hK hP 0 rfl rfl 4 (by decide) zw626 rfl dX9_facet_161 ?_
      refine lv_iconst (v := (0 : Int32)) hx hb dX9_facet_164 (by decide) ?_
      obtain ⟨σ19, eσ19, hm⟩ := Option.bind_eq_some_iff.mp hm
      refine zzast (j := 14) hx hb hK hP hD hS 15 2 rfl rfl eσ19 (by decide) (fun _ => rfl) dX9_facet_165 (fun H locs hP hD hS => ?_)
      refine lv_aload_n hx hb dX9_facet_166 rfl (lv_at hl 0 rfl) ?_
      refine zget (v := .ref (ad 16)) hx hb hT zinX9 hown hK hP 0 rfl rfl 17 (by decide) zw639 rfl dX9_facet_167 ?_
      refine lv_aload_n hx hb dX9_facet_170 rfl (lv_at hl 0 rfl) ?_
      refine zget (v := .int (σ19.1 1)) hx hb hT zinX9 hown hK hP 0 rfl rfl 4 (by decide) zw626 rfl dX9_facet_171 ?_
      refine lv_iconst (v := (0 : Int32)) hx hb dX9_facet_174 (by decide) ?_
      obtain ⟨σ20, eσ20, hm⟩ := Option.bind_eq_some_iff.mp hm
      refine ziast (j := 15) hx hb hK hP hD hS 16 0 rfl rfl eσ20 (fun _ => rfl) dX9_facet_175 (fun H locs hP hD hS => ?_)
      refine lv_aload_n hx hb dX9_facet_176 rfl (lv_at hl 0 rfl) ?_
      refine lv_dup hx hb dX9_facet_177 rfl ?_
      refine zget (v := .int (σ20.1 1)) hx hb hT zinX9 hown hK hP 0 rfl rfl 4 (by decide) zw626 rfl dX9_facet_178 ?_
      refine lv_iconst (v := (1 : Int32)) hx hb dX9_facet_181 (by decide) ?_
      refine lv_iadd hx hb dX9_facet_182 ?_
      obtain ⟨σ21, eσ21, hm⟩ := Option.bind_eq_some_iff.mp hm
      refine zput (j := 1) (ty := .int) hx hb hT zinX9 tyX9 tyX9_ok nmX9 hown hK hP hD hS 0 rfl rfl 4 (by decide) zw626 rfl (by decide +kernel) rfl rfl (Nat.le_of_ble_eq_true rfl) eσ21 rfl dX9_facet_183 (fun H locs hP hD hS => ?_)
      refine lv_aload_n hx hb dX9_facet_186 rfl (lv_at hl 0 rfl) ?_
      obtain ⟨σ22, eσ22, hm⟩ := Option.bind_eq_some_iff.mp hm
      refine zVv (rest := []) [] hx hb hml hl.1 hown hT (k_X9_changes eσ22) zkX9_changes zw727 ⟨by decide, by decide⟩ rfl rfl hK hZ hP hD hS 0 rfl rfl rfl rfl (Nat.le_of_ble_eq_true rfl) ⟨Nat.zero_le _, Nat.zero_le _⟩ dX9_facet_187 (fun H locs hP hD hS => ?_)
      refine lv_aload_n hx hb dX9_facet_190 rfl (lv_at hl 0 rfl) ?_
      refine zget (v := .int (σ22.1 1)) hx hb hT zinX9 hown hK hP 0 rfl rfl 4 (by decide) zw626 rfl dX9_facet_191 ?_
      refine lv_iconst (v := (1 : Int32)) hx hb dX9_facet_194 (by decide) ?_
      refine lv_isub hx hb dX9_facet_195 ?_
      cases hm
      exact hret _ _ _ _ dX9_facet_196 hP hD hS
    · rw [if_pos h11] at hm
      refine lv_ldc hx hb hown (hT _ zw726) dX9_facet_81 ?_
      cases hm
      exact hret _ _ _ _ dX9_facet_83 hP hD hS
  have h32 : ∀ (σ3 : zS) (x0_3 : Int32), m_X9_facet_32 N v1 v2 v3 v4 σ3 x0_3 = some (r, σ') → ∀ (H : Heap) (locs : List Loc) (ls : Array Slot), va_P D zclM (zwM ad cI cJ cZ cO σ3) H → va_D A (zwM ad cI cJ cZ cO σ3) → va_S A s.heap H locs → lv_has ls 6 [(0, .ref (ad 0)), (1, .int v1), (2, .int v2), (3, .int v3), (4, .int v4)] → W p l e (zR 2 42) s m args below meth c H locs 0 0 Q (F0 m 32 ls [.int x0_3]) := by
    intro σ3 x0_3 hm H locs ls hP hD hS hl
    unfold m_X9_facet_32 at hm
    refine lv_istore (lv' := [(5, .int x0_3), (0, .ref (ad 0)), (1, .int v1), (2, .int v2), (3, .int v3), (4, .int v4)]) hx hb dX9_facet_32 hl (by decide) rfl (fun ls hl => ?_)
    refine lv_iload_n hx hb dX9_facet_34 rfl (lv_at hl 2 rfl) ?_
    refine lv_iconst (v := (0 : Int32)) hx hb dX9_facet_35 (by decide) ?_
    refine lv_iconst (v := (4 : Int32)) hx hb dX9_facet_36 (by decide) ?_
    obtain ⟨b4, eb4, hm⟩ := Option.bind_eq_some_iff.mp hm
    refine zSi (rest := []) [.int v1, .int (0 : Int32), .int (4 : Int32)] hx hb hml hl.1 hown hT (k_X9_within eb4) zkX9_within zw739 ⟨by decide, by decide⟩ rfl rfl hK hZ hP hD hS rfl rfl (Nat.le_of_ble_eq_true rfl) ⟨Nat.zero_le _, Nat.zero_le _⟩ dX9_facet_37 (fun H locs hP hD hS => ?_)
    refine lv_if_eq (tgt := 69) hx hb dX9_facet_40 (by decide) (fun h5 => ?_) (fun h5 => ?_)
    · rw [if_pos h5] at hm
      refine lv_ldc hx hb hown (hT _ zw750) dX9_facet_69 ?_
      cases hm
      exact hret _ _ _ _ dX9_facet_71 hP hD hS
    · rw [if_neg h5] at hm
      refine lv_iload_n hx hb dX9_facet_43 rfl (lv_at hl 3 rfl) ?_
      obtain ⟨b6, eb6, hm⟩ := Option.bind_eq_some_iff.mp hm
      refine zSi (rest := []) [.int v2] hx hb hml hl.1 hown hT (k_X9_isColumn eb6) zkX9_isColumn zw742 ⟨by decide, by decide⟩ rfl rfl hK hZ hP hD hS rfl rfl (Nat.le_of_ble_eq_true rfl) ⟨Nat.zero_le _, Nat.zero_le _⟩ dX9_facet_44 (fun H locs hP hD hS => ?_)
      refine lv_if_eq (tgt := 69) hx hb dX9_facet_47 (by decide) (fun h7 => ?_) (fun h7 => ?_)
      · rw [if_pos h7] at hm
        refine lv_ldc hx hb hown (hT _ zw750) dX9_facet_69 ?_
        cases hm
        exact hret _ _ _ _ dX9_facet_71 hP hD hS
      · rw [if_neg h7] at hm
        refine lv_iload hx hb dX9_facet_50 (lv_at hl 0 rfl) ?_
        refine lv_if_eq (tgt := 69) hx hb dX9_facet_52 (by decide) (fun h8 => ?_) (fun h8 => ?_)
        · rw [if_pos h8] at hm
          refine lv_ldc hx hb hown (hT _ zw750) dX9_facet_69 ?_
          cases hm
          exact hret _ _ _ _ dX9_facet_71 hP hD hS
        · rw [if_neg h8] at hm
          refine lv_iload_n hx hb dX9_facet_55 rfl (lv_at hl 2 rfl) ?_
          refine lv_iconst (v := (4 : Int32)) hx hb dX9_facet_56 (by decide) ?_
          refine lv_icmp_ne (tgt := 72) hx hb dX9_facet_57 (by decide) (fun h9 => ?_) (fun h9 => ?_)
          · rw [if_neg h9] at hm
            exact h72 σ3 hm _ _ _ hP hD hS (lv_sub hl [1, 2, 3, 4, 5] rfl)
          · rw [if_pos h9] at hm
            refine lv_iload_n hx hb dX9_facet_60 rfl (lv_at hl 4 rfl) ?_
            refine lv_iconst (v := (0 : Int32)) hx hb dX9_facet_61 (by decide) ?_
            refine lv_iconst (v := (4 : Int32)) hx hb dX9_facet_62 (by decide) ?_
            obtain ⟨b23, eb23, hm⟩ := Option.bind_eq_some_iff.mp hm
            refine zSi (rest := []) [.int v3, .int (0 : Int32), .int (4 : Int32)] hx hb hml hl.1 hown hT (k_X9_within eb23) zkX9_within zw739 ⟨by decide, by decide⟩ rfl rfl hK hZ hP hD hS rfl rfl (Nat.le_of_ble_eq_true rfl) ⟨Nat.zero_le _, Nat.zero_le _⟩ dX9_facet_63 (fun H locs hP hD hS => ?_)
            refine lv_if_ne (tgt := 72) hx hb dX9_facet_66 (by decide) (fun h24 => ?_) (fun h24 => ?_)
            · rw [if_neg h24] at hm
              exact h72 σ3 hm _ _ _ hP hD hS (lv_sub hl [1, 2, 3, 4, 5] rfl)
            · rw [if_pos h24] at hm
              refine lv_ldc hx hb hown (hT _ zw750) dX9_facet_69 ?_
              cases hm
              exact hret _ _ _ _ dX9_facet_71 hP hD hS
  have h27 : ∀ (σ2 : zS), m_X9_facet_27 N v1 v2 v3 v4 σ2 = some (r, σ') → ∀ (H : Heap) (locs : List Loc) (ls : Array Slot), va_P D zclM (zwM ad cI cJ cZ cO σ2) H → va_D A (zwM ad cI cJ cZ cO σ2) → va_S A s.heap H locs → lv_has ls 6 [(0, .ref (ad 0)), (1, .int v1), (2, .int v2), (3, .int v3), (4, .int v4)] → W p l e (zR 2 42) s m args below meth c H locs 0 0 Q (F0 m 27 ls []) := by
    intro σ2 hm H locs ls hP hD hS hl
    unfold m_X9_facet_27 at hm
    refine lv_iconst (v := (1 : Int32)) hx hb dX9_facet_27 (by decide) ?_
    refine lv_goto (tgt := 32) hx hb dX9_facet_28 (by decide) ?_
    exact h32 σ2 (1 : Int32) hm _ _ _ hP hD hS (lv_sub hl [0, 1, 2, 3, 4] rfl)
  have h31 : ∀ (σ27 : zS), m_X9_facet_31 N v1 v2 v3 v4 σ27 = some (r, σ') → ∀ (H : Heap) (locs : List Loc) (ls : Array Slot), va_P D zclM (zwM ad cI cJ cZ cO σ27) H → va_D A (zwM ad cI cJ cZ cO σ27) → va_S A s.heap H locs → lv_has ls 6 [(0, .ref (ad 0)), (1, .int v1), (2, .int v2), (3, .int v3), (4, .int v4)] → W p l e (zR 2 42) s m args below meth c H locs 0 0 Q (F0 m 31 ls []) := by
    intro σ27 hm H locs ls hP hD hS hl
    unfold m_X9_facet_31 at hm
    refine lv_iconst (v := (0 : Int32)) hx hb dX9_facet_31 (by decide) ?_
    exact h32 σ27 (0 : Int32) hm _ _ _ hP hD hS (lv_sub hl [0, 1, 2, 3, 4] rfl)
  unfold m_X9_facet at hm
  refine lv_iload_n hx hb dX9_facet_0 rfl (lv_at hl 1 rfl) ?_
  refine lv_iconst (v := (3 : Int32)) hx hb dX9_facet_1 (by decide) ?_
  refine lv_icmp_ne (tgt := 27) hx hb dX9_facet_2 (by decide) (fun h1 => ?_) (fun h1 => ?_)
  · rw [if_neg h1] at hm
    exact h27 σ hm _ _ _ hP hD hS (lv_sub hl [0, 1, 2, 3, 4] rfl)
  · rw [if_pos h1] at hm
    refine lv_iload_n hx hb dX9_facet_5 rfl (lv_at hl 3 rfl) ?_
    refine lv_iconst (v := (1 : Int32)) hx hb dX9_facet_6 (by decide) ?_
    refine lv_ldc hx hb hown (hT _ zw763) dX9_facet_7 ?_
    obtain ⟨b25, eb25, hm⟩ := Option.bind_eq_some_iff.mp hm
    refine zSi (rest := []) [.int v3, .int (1 : Int32), .int (1000000 : Int32)] hx hb hml hl.1 hown hT (k_X9_within eb25) zkX9_within zw739 ⟨by decide, by decide⟩ rfl rfl hK hZ hP hD hS rfl rfl (Nat.le_of_ble_eq_true rfl) ⟨Nat.zero_le _, Nat.zero_le _⟩ dX9_facet_9 (fun H locs hP hD hS => ?_)
    refine lv_if_eq (tgt := 31) hx hb dX9_facet_12 (by decide) (fun h26 => ?_) (fun h26 => ?_)
    · rw [if_pos h26] at hm
      exact h31 σ hm _ _ _ hP hD hS (lv_sub hl [0, 1, 2, 3, 4] rfl)
    · rw [if_neg h26] at hm
      refine lv_iload hx hb dX9_facet_15 (lv_at hl 4 rfl) ?_
      refine lv_iconst (v := (0 : Int32)) hx hb dX9_facet_17 (by decide) ?_
      refine lv_iload_n hx hb dX9_facet_18 rfl (lv_at hl 3 rfl) ?_
      refine lv_iconst (v := (1 : Int32)) hx hb dX9_facet_19 (by decide) ?_
      refine lv_isub hx hb dX9_facet_20 ?_
      obtain ⟨b28, eb28, hm⟩ := Option.bind_eq_some_iff.mp hm
      refine zSi (rest := []) [.int v4, .int (0 : Int32), .int (v3 - (1 : Int32))] hx hb hml hl.1 hown hT (k_X9_within eb28) zkX9_within zw739 ⟨by decide, by decide⟩ rfl rfl hK hZ hP hD hS rfl rfl (Nat.le_of_ble_eq_true rfl) ⟨Nat.zero_le _, Nat.zero_le _⟩ dX9_facet_21 (fun H locs hP hD hS => ?_)
      refine lv_if_eq (tgt := 31) hx hb dX9_facet_24 (by decide) (fun h29 => ?_) (fun h29 => ?_)
      · rw [if_pos h29] at hm
        exact h31 σ hm _ _ _ hP hD hS (lv_sub hl [0, 1, 2, 3, 4] rfl)
      · rw [if_neg h29] at hm
        exact h27 σ hm _ _ _ hP hD hS (lv_sub hl [0, 1, 2, 3, 4] rfl)
set_option maxHeartbeats 4000000 in
set_option maxRecDepth 100000 in
theorem k_X9_range {l : Launch} {D : va_G} {ad : Nat → Nat} {cI cJ cZ cO : ClassId} {t : Nat} {A : Nat → Prop} {N : Nat} {σ σ' : zS} {v1 : Int32} {v2 : Int32} {v3 : Int32} {r : Int32}  (hm : m_X9_range N σ v1 v2 v3 = some (r, σ')) : zCi l yX9_range cX9_range 4 (some .int) (zR 2 43) D zclM (zty cI cJ cZ cO) t A (zwM ad cI cJ cZ cO) [.ref (ad 0), .int v1, .int v2, .int v3] σ σ' r := by
  refine zMi (by decide) (Nat.le_of_ble_eq_true rfl) ?_
  intro p e s m args below meth c Q hx hb hml hown hT hK hZ hret hP hD hS ls hl
  replace hown : s.vm.findClass RX9 = some m.cls := hown
  replace hl : lv_has ls 4 [(0, .ref (ad 0)), (1, .int v1), (2, .int v2), (3, .int v3)] := hl
  unfold m_X9_range at hm
  refine lv_aload_n hx hb dX9_range_0 rfl (lv_at hl 0 rfl) ?_
  refine lv_iload_n hx hb dX9_range_1 rfl (lv_at hl 1 rfl) ?_
  obtain ⟨b1, eb1, hm⟩ := Option.bind_eq_some_iff.mp hm
  refine zVi (rest := []) [.int v1] hx hb hml hl.1 hown hT (k_X9_isFacet eb1) zkX9_isFacet zw769 ⟨by decide, by decide⟩ rfl rfl hK hZ hP hD hS 0 rfl rfl rfl rfl (Nat.le_of_ble_eq_true rfl) ⟨Nat.zero_le _, Nat.zero_le _⟩ dX9_range_2 (fun H locs hP hD hS => ?_)
  refine lv_if_eq (tgt := 27) hx hb dX9_range_5 (by decide) (fun h2 => ?_) (fun h2 => ?_)
  · rw [if_pos h2] at hm
    refine lv_ldc hx hb hown (hT _ zw750) dX9_range_27 ?_
    cases hm
    exact hret _ _ _ _ dX9_range_29 hP hD hS
  · rw [if_neg h2] at hm
    refine lv_iload_n hx hb dX9_range_8 rfl (lv_at hl 2 rfl) ?_
    obtain ⟨b3, eb3, hm⟩ := Option.bind_eq_some_iff.mp hm
    refine zSi (rest := []) [.int v2] hx hb hml hl.1 hown hT (k_X9_isValue eb3) zkX9_isValue zw745 ⟨by decide, by decide⟩ rfl rfl hK hZ hP hD hS rfl rfl (Nat.le_of_ble_eq_true rfl) ⟨Nat.zero_le _, Nat.zero_le _⟩ dX9_range_9 (fun H locs hP hD hS => ?_)
    refine lv_if_eq (tgt := 27) hx hb dX9_range_12 (by decide) (fun h4 => ?_) (fun h4 => ?_)
    · rw [if_pos h4] at hm
      refine lv_ldc hx hb hown (hT _ zw750) dX9_range_27 ?_
      cases hm
      exact hret _ _ _ _ dX9_range_29 hP hD hS
    · rw [if_neg h4] at hm
      refine lv_iload_n hx hb dX9_range_15 rfl (lv_at hl 3 rfl) ?_
      obtain ⟨b5, eb5, hm⟩ := Option.bind_eq_some_iff.mp hm
      refine zSi (rest := []) [.int v3] hx hb hml hl.1 hown hT (k_X9_isValue eb5) zkX9_isValue zw745 ⟨by decide, by decide⟩ rfl rfl hK hZ hP hD hS rfl rfl (Nat.le_of_ble_eq_true rfl) ⟨Nat.zero_le _, Nat.zero_le _⟩ dX9_range_16 (fun H locs hP hD hS => ?_)
      refine lv_if_eq (tgt := 27) hx hb dX9_range_19 (by decide) (fun h6 => ?_) (fun h6 => ?_)
      · rw [if_pos h6] at hm
        refine lv_ldc hx hb hown (hT _ zw750) dX9_range_27 ?_
        cases hm
        exact hret _ _ _ _ dX9_range_29 hP hD hS
      · rw [if_neg h6] at hm
        refine lv_iload_n hx hb dX9_range_22 rfl (lv_at hl 2 rfl) ?_
        refine lv_iload_n hx hb dX9_range_23 rfl (lv_at hl 3 rfl) ?_
        refine lv_icmp_le (tgt := 30) hx hb dX9_range_24 (by decide) (fun h7 => ?_) (fun h7 => ?_)
        · rw [if_pos h7] at hm
          refine lv_aload_n hx hb dX9_range_30 rfl (lv_at hl 0 rfl) ?_
          refine zget (v := .ref (ad 4)) hx hb hT zinX9 hown hK hP 0 rfl rfl 5 (by decide) zw627 rfl dX9_range_31 ?_
          refine lv_iload_n hx hb dX9_range_34 rfl (lv_at hl 1 rfl) ?_
          obtain ⟨b8, eb8, hm⟩ := Option.bind_eq_some_iff.mp hm
          refine ziald hx hb hK hP 4 0 rfl rfl eb8 dX9_range_35 ?_
          refine lv_iconst (v := (2 : Int32)) hx hb dX9_range_36 (by decide) ?_
          refine lv_icmp_eq (tgt := 43) hx hb dX9_range_37 (by decide) (fun h9 => ?_) (fun h9 => ?_)
          · rw [if_pos h9] at hm
            refine lv_aload_n hx hb dX9_range_43 rfl (lv_at hl 0 rfl) ?_
            refine zget (v := .ref (ad 8)) hx hb hT zinX9 hown hK hP 0 rfl rfl 9 (by decide) zw631 rfl dX9_range_44 ?_
            refine lv_iload_n hx hb dX9_range_47 rfl (lv_at hl 1 rfl) ?_
            obtain ⟨b10, eb10, hm⟩ := Option.bind_eq_some_iff.mp hm
            refine ziald hx hb hK hP 8 0 rfl rfl eb10 dX9_range_48 ?_
            refine lv_bipush (v := (6 : Int32)) hx hb dX9_range_49 (by decide) ?_
            refine lv_icmp_ne (tgt := 57) hx hb dX9_range_51 (by decide) (fun h11 => ?_) (fun h11 => ?_)
            · rw [if_neg h11] at hm
              refine lv_aload_n hx hb dX9_range_57 rfl (lv_at hl 0 rfl) ?_
              refine zget (v := .ref (ad 9)) hx hb hT zinX9 hown hK hP 0 rfl rfl 10 (by decide) zw632 rfl dX9_range_58 ?_
              refine lv_bipush (v := (6 : Int32)) hx hb dX9_range_61 (by decide) ?_
              refine lv_iload_n hx hb dX9_range_63 rfl (lv_at hl 1 rfl) ?_
              refine lv_imul hx hb dX9_range_64 ?_
              refine lv_aload_n hx hb dX9_range_65 rfl (lv_at hl 0 rfl) ?_
              refine zget (v := .ref (ad 8)) hx hb hT zinX9 hown hK hP 0 rfl rfl 9 (by decide) zw631 rfl dX9_range_66 ?_
              refine lv_iload_n hx hb dX9_range_69 rfl (lv_at hl 1 rfl) ?_
              obtain ⟨b12, eb12, hm⟩ := Option.bind_eq_some_iff.mp hm
              refine ziald hx hb hK hP 8 0 rfl rfl eb12 dX9_range_70 ?_
              refine lv_iadd hx hb dX9_range_71 ?_
              refine lv_iload_n hx hb dX9_range_72 rfl (lv_at hl 2 rfl) ?_
              obtain ⟨σ13, eσ13, hm⟩ := Option.bind_eq_some_iff.mp hm
              refine ziast (j := 8) hx hb hK hP hD hS 9 0 rfl rfl eσ13 (fun _ => rfl) dX9_range_73 (fun H locs hP hD hS => ?_)
              refine lv_aload_n hx hb dX9_range_74 rfl (lv_at hl 0 rfl) ?_
              refine zget (v := .ref (ad 10)) hx hb hT zinX9 hown hK hP 0 rfl rfl 11 (by decide) zw633 rfl dX9_range_75 ?_
              refine lv_bipush (v := (6 : Int32)) hx hb dX9_range_78 (by decide) ?_
              refine lv_iload_n hx hb dX9_range_80 rfl (lv_at hl 1 rfl) ?_
              refine lv_imul hx hb dX9_range_81 ?_
              refine lv_aload_n hx hb dX9_range_82 rfl (lv_at hl 0 rfl) ?_
              refine zget (v := .ref (ad 8)) hx hb hT zinX9 hown hK hP 0 rfl rfl 9 (by decide) zw631 rfl dX9_range_83 ?_
              refine lv_iload_n hx hb dX9_range_86 rfl (lv_at hl 1 rfl) ?_
              obtain ⟨b14, eb14, hm⟩ := Option.bind_eq_some_iff.mp hm
              refine ziald hx hb hK hP 8 0 rfl rfl eb14 dX9_range_87 ?_
              refine lv_iadd hx hb dX9_range_88 ?_
              refine lv_iload_n hx hb dX9_range_89 rfl (lv_at hl 3 rfl) ?_
              obtain ⟨σ15, eσ15, hm⟩ := Option.bind_eq_some_iff.mp hm
              refine ziast (j := 9) hx hb hK hP hD hS 10 0 rfl rfl eσ15 (fun _ => rfl) dX9_range_90 (fun H locs hP hD hS => ?_)
              refine lv_aload_n hx hb dX9_range_91 rfl (lv_at hl 0 rfl) ?_
              refine zget (v := .ref (ad 8)) hx hb hT zinX9 hown hK hP 0 rfl rfl 9 (by decide) zw631 rfl dX9_range_92 ?_
              refine lv_iload_n hx hb dX9_range_95 rfl (lv_at hl 1 rfl) ?_
              refine lv_dup2_11 hx hb dX9_range_96 rfl rfl ?_
              obtain ⟨b16, eb16, hm⟩ := Option.bind_eq_some_iff.mp hm
              refine ziald hx hb hK hP 8 0 rfl rfl eb16 dX9_range_97 ?_
              refine lv_iconst (v := (1 : Int32)) hx hb dX9_range_98 (by decide) ?_
              refine lv_iadd hx hb dX9_range_99 ?_
              obtain ⟨σ17, eσ17, hm⟩ := Option.bind_eq_some_iff.mp hm
              refine ziast (j := 7) hx hb hK hP hD hS 8 0 rfl rfl eσ17 (fun _ => rfl) dX9_range_100 (fun H locs hP hD hS => ?_)
              refine lv_aload_n hx hb dX9_range_101 rfl (lv_at hl 0 rfl) ?_
              obtain ⟨σ18, eσ18, hm⟩ := Option.bind_eq_some_iff.mp hm
              refine zVv (rest := []) [] hx hb hml hl.1 hown hT (k_X9_changes eσ18) zkX9_changes zw727 ⟨by decide, by decide⟩ rfl rfl hK hZ hP hD hS 0 rfl rfl rfl rfl (Nat.le_of_ble_eq_true rfl) ⟨Nat.zero_le _, Nat.zero_le _⟩ dX9_range_102 (fun H locs hP hD hS => ?_)
              refine lv_aload_n hx hb dX9_range_105 rfl (lv_at hl 0 rfl) ?_
              refine zget (v := .ref (ad 8)) hx hb hT zinX9 hown hK hP 0 rfl rfl 9 (by decide) zw631 rfl dX9_range_106 ?_
              refine lv_iload_n hx hb dX9_range_109 rfl (lv_at hl 1 rfl) ?_
              obtain ⟨b19, eb19, hm⟩ := Option.bind_eq_some_iff.mp hm
              refine ziald hx hb hK hP 8 0 rfl rfl eb19 dX9_range_110 ?_
              refine lv_iconst (v := (1 : Int32)) hx hb dX9_range_111 (by decide) ?_
              refine lv_isub hx hb dX9_range_112 ?_
              cases hm
              exact hret _ _ _ _ dX9_range_113 hP hD hS
            · rw [if_pos h11] at hm
              refine lv_ldc hx hb hown (hT _ zw726) dX9_range_54 ?_
              cases hm
              exact hret _ _ _ _ dX9_range_56 hP hD hS
          · rw [if_neg h9] at hm
            refine lv_ldc hx hb hown (hT _ zw773) dX9_range_40 ?_
            cases hm
            exact hret _ _ _ _ dX9_range_42 hP hD hS
        · rw [if_neg h7] at hm
          refine lv_ldc hx hb hown (hT _ zw750) dX9_range_27 ?_
          cases hm
          exact hret _ _ _ _ dX9_range_29 hP hD hS
set_option maxHeartbeats 4000000 in
set_option maxRecDepth 100000 in
theorem k_X9_filter {l : Launch} {D : va_G} {ad : Nat → Nat} {cI cJ cZ cO : ClassId} {t : Nat} {A : Nat → Prop} {N : Nat} {σ σ' : zS} {v1 : Int32} {v2 : Int32} {v3 : Int32} {v4 : Int32} {r : Int32}  (hm : m_X9_filter N σ v1 v2 v3 v4 = some (r, σ')) : zCi l yX9_filter cX9_filter 6 (some .int) (zR 2 43) D zclM (zty cI cJ cZ cO) t A (zwM ad cI cJ cZ cO) [.ref (ad 0), .int v1, .int v2, .int v3, .int v4] σ σ' r := by
  refine zMi (by decide) (Nat.le_of_ble_eq_true rfl) ?_
  intro p e s m args below meth c Q hx hb hml hown hT hK hZ hret hP hD hS ls hl
  replace hown : s.vm.findClass RX9 = some m.cls := hown
  replace hl : lv_has ls 6 [(0, .ref (ad 0)), (1, .int v1), (2, .int v2), (3, .int v3), (4, .int v4)] := hl
  have h46 : ∀ (σ7 : zS) (x0_7 : Int32), m_X9_filter_46 N v1 v2 v3 v4 σ7 x0_7 = some (r, σ') → ∀ (H : Heap) (locs : List Loc) (ls : Array Slot), va_P D zclM (zwM ad cI cJ cZ cO σ7) H → va_D A (zwM ad cI cJ cZ cO σ7) → va_S A s.heap H locs → lv_has ls 6 [(0, .ref (ad 0)), (1, .int v1), (2, .int v2), (3, .int v3), (4, .int v4)] → W p l e (zR 2 43) s m args below meth c H locs 0 0 Q (F0 m 46 ls [.int x0_7]) := by
    intro σ7 x0_7 hm H locs ls hP hD hS hl
    unfold m_X9_filter_46 at hm
    refine lv_istore (lv' := [(5, .int x0_7), (0, .ref (ad 0)), (1, .int v1), (2, .int v2), (3, .int v3), (4, .int v4)]) hx hb dX9_filter_46 hl (by decide) rfl (fun ls hl => ?_)
    refine lv_aload_n hx hb dX9_filter_48 rfl (lv_at hl 1 rfl) ?_
    refine zget (v := .ref (ad 11)) hx hb hT zinX9 hown hK hP 0 rfl rfl 12 (by decide) zw634 rfl dX9_filter_49 ?_
    refine lv_iload_n hx hb dX9_filter_52 rfl (lv_at hl 2 rfl) ?_
    refine lv_iload_n hx hb dX9_filter_53 rfl (lv_at hl 3 rfl) ?_
    obtain ⟨σ8, eσ8, hm⟩ := Option.bind_eq_some_iff.mp hm
    refine ziast (j := 10) hx hb hK hP hD hS 11 0 rfl rfl eσ8 (fun _ => rfl) dX9_filter_54 (fun H locs hP hD hS => ?_)
    refine lv_aload_n hx hb dX9_filter_55 rfl (lv_at hl 1 rfl) ?_
    refine zget (v := .ref (ad 12)) hx hb hT zinX9 hown hK hP 0 rfl rfl 13 (by decide) zw635 rfl dX9_filter_56 ?_
    refine lv_iload_n hx hb dX9_filter_59 rfl (lv_at hl 2 rfl) ?_
    refine lv_iload_n hx hb dX9_filter_60 rfl (lv_at hl 4 rfl) ?_
    obtain ⟨σ9, eσ9, hm⟩ := Option.bind_eq_some_iff.mp hm
    refine ziast (j := 11) hx hb hK hP hD hS 12 0 rfl rfl eσ9 (fun _ => rfl) dX9_filter_61 (fun H locs hP hD hS => ?_)
    refine lv_aload_n hx hb dX9_filter_62 rfl (lv_at hl 1 rfl) ?_
    refine zget (v := .ref (ad 13)) hx hb hT zinX9 hown hK hP 0 rfl rfl 14 (by decide) zw636 rfl dX9_filter_63 ?_
    refine lv_iload_n hx hb dX9_filter_66 rfl (lv_at hl 2 rfl) ?_
    refine lv_iload hx hb dX9_filter_67 (lv_at hl 5 rfl) ?_
    obtain ⟨σ10, eσ10, hm⟩ := Option.bind_eq_some_iff.mp hm
    refine ziast (j := 12) hx hb hK hP hD hS 13 0 rfl rfl eσ10 (fun _ => rfl) dX9_filter_69 (fun H locs hP hD hS => ?_)
    refine lv_aload_n hx hb dX9_filter_70 rfl (lv_at hl 1 rfl) ?_
    obtain ⟨σ11, eσ11, hm⟩ := Option.bind_eq_some_iff.mp hm
    refine zVv (rest := []) [] hx hb hml hl.1 hown hT (k_X9_changes eσ11) zkX9_changes zw727 ⟨by decide, by decide⟩ rfl rfl hK hZ hP hD hS 0 rfl rfl rfl rfl (Nat.le_of_ble_eq_true rfl) ⟨Nat.zero_le _, Nat.zero_le _⟩ dX9_filter_71 (fun H locs hP hD hS => ?_)
    refine lv_iload hx hb dX9_filter_74 (lv_at hl 0 rfl) ?_
    cases hm
    exact hret _ _ _ _ dX9_filter_76 hP hD hS
  have h30 : ∀ (σ4 : zS), m_X9_filter_30 N v1 v2 v3 v4 σ4 = some (r, σ') → ∀ (H : Heap) (locs : List Loc) (ls : Array Slot), va_P D zclM (zwM ad cI cJ cZ cO σ4) H → va_D A (zwM ad cI cJ cZ cO σ4) → va_S A s.heap H locs → lv_has ls 6 [(0, .ref (ad 0)), (1, .int v1), (2, .int v2), (3, .int v3), (4, .int v4)] → W p l e (zR 2 43) s m args below meth c H locs 0 0 Q (F0 m 30 ls []) := by
    intro σ4 hm H locs ls hP hD hS hl
    unfold m_X9_filter_30 at hm
    refine lv_aload_n hx hb dX9_filter_30 rfl (lv_at hl 0 rfl) ?_
    refine zget (v := .ref (ad 11)) hx hb hT zinX9 hown hK hP 0 rfl rfl 12 (by decide) zw634 rfl dX9_filter_31 ?_
    refine lv_iload_n hx hb dX9_filter_34 rfl (lv_at hl 1 rfl) ?_
    obtain ⟨b5, eb5, hm⟩ := Option.bind_eq_some_iff.mp hm
    refine ziald hx hb hK hP 11 0 rfl rfl eb5 dX9_filter_35 ?_
    refine lv_ldc hx hb hown (hT _ zw764) dX9_filter_36 ?_
    refine lv_icmp_ne (tgt := 45) hx hb dX9_filter_38 (by decide) (fun h6 => ?_) (fun h6 => ?_)
    · rw [if_neg h6] at hm
      refine lv_iconst (v := (1 : Int32)) hx hb dX9_filter_45 (by decide) ?_
      exact h46 σ4 (1 : Int32) hm _ _ _ hP hD hS (lv_sub hl [0, 1, 2, 3, 4] rfl)
    · rw [if_pos h6] at hm
      refine lv_iconst (v := (0 : Int32)) hx hb dX9_filter_41 (by decide) ?_
      refine lv_goto (tgt := 46) hx hb dX9_filter_42 (by decide) ?_
      exact h46 σ4 (0 : Int32) hm _ _ _ hP hD hS (lv_sub hl [0, 1, 2, 3, 4] rfl)
  unfold m_X9_filter at hm
  refine lv_aload_n hx hb dX9_filter_0 rfl (lv_at hl 0 rfl) ?_
  refine lv_iload_n hx hb dX9_filter_1 rfl (lv_at hl 1 rfl) ?_
  obtain ⟨b1, eb1, hm⟩ := Option.bind_eq_some_iff.mp hm
  refine zVi (rest := []) [.int v1] hx hb hml hl.1 hown hT (k_X9_isFacet eb1) zkX9_isFacet zw769 ⟨by decide, by decide⟩ rfl rfl hK hZ hP hD hS 0 rfl rfl rfl rfl (Nat.le_of_ble_eq_true rfl) ⟨Nat.zero_le _, Nat.zero_le _⟩ dX9_filter_2 (fun H locs hP hD hS => ?_)
  refine lv_if_eq (tgt := 27) hx hb dX9_filter_5 (by decide) (fun h2 => ?_) (fun h2 => ?_)
  · rw [if_pos h2] at hm
    refine lv_ldc hx hb hown (hT _ zw750) dX9_filter_27 ?_
    cases hm
    exact hret _ _ _ _ dX9_filter_29 hP hD hS
  · rw [if_neg h2] at hm
    refine lv_iload_n hx hb dX9_filter_8 rfl (lv_at hl 2 rfl) ?_
    refine lv_ldc hx hb hown (hT _ zw764) dX9_filter_9 ?_
    refine lv_icmp_eq (tgt := 30) hx hb dX9_filter_11 (by decide) (fun h3 => ?_) (fun h3 => ?_)
    · rw [if_pos h3] at hm
      exact h30 σ hm _ _ _ hP hD hS (lv_sub hl [0, 1, 2, 3, 4] rfl)
    · rw [if_neg h3] at hm
      refine lv_iload_n hx hb dX9_filter_14 rfl (lv_at hl 2 rfl) ?_
      obtain ⟨b12, eb12, hm⟩ := Option.bind_eq_some_iff.mp hm
      refine zSi (rest := []) [.int v2] hx hb hml hl.1 hown hT (k_X9_isColumn eb12) zkX9_isColumn zw742 ⟨by decide, by decide⟩ rfl rfl hK hZ hP hD hS rfl rfl (Nat.le_of_ble_eq_true rfl) ⟨Nat.zero_le _, Nat.zero_le _⟩ dX9_filter_15 (fun H locs hP hD hS => ?_)
      refine lv_if_eq (tgt := 27) hx hb dX9_filter_18 (by decide) (fun h13 => ?_) (fun h13 => ?_)
      · rw [if_pos h13] at hm
        refine lv_ldc hx hb hown (hT _ zw750) dX9_filter_27 ?_
        cases hm
        exact hret _ _ _ _ dX9_filter_29 hP hD hS
      · rw [if_neg h13] at hm
        refine lv_iload_n hx hb dX9_filter_21 rfl (lv_at hl 3 rfl) ?_
        refine lv_iload hx hb dX9_filter_22 (lv_at hl 4 rfl) ?_
        refine lv_icmp_le (tgt := 30) hx hb dX9_filter_24 (by decide) (fun h14 => ?_) (fun h14 => ?_)
        · rw [if_pos h14] at hm
          exact h30 σ hm _ _ _ hP hD hS (lv_sub hl [0, 1, 2, 3, 4] rfl)
        · rw [if_neg h14] at hm
          refine lv_ldc hx hb hown (hT _ zw750) dX9_filter_27 ?_
          cases hm
          exact hret _ _ _ _ dX9_filter_29 hP hD hS
set_option maxHeartbeats 4000000 in
set_option maxRecDepth 100000 in
theorem k_X9_least {l : Launch} {D : va_G} {ad : Nat → Nat} {cI cJ cZ cO : ClassId} {t : Nat} {A : Nat → Prop} {N : Nat} {σ σ' : zS} {v1 : Int32} {v2 : Int32} {r : Int32}  (hm : m_X9_least N σ v1 v2 = some (r, σ')) : zCi l yX9_least cX9_least 4 (some .int) (zR 2 43) D zclM (zty cI cJ cZ cO) t A (zwM ad cI cJ cZ cO) [.ref (ad 0), .int v1, .int v2] σ σ' r := by
  refine zMi (by decide) (Nat.le_of_ble_eq_true rfl) ?_
  intro p e s m args below meth c Q hx hb hml hown hT hK hZ hret hP hD hS ls hl
  replace hown : s.vm.findClass RX9 = some m.cls := hown
  replace hl : lv_has ls 4 [(0, .ref (ad 0)), (1, .int v1), (2, .int v2)] := hl
  unfold m_X9_least at hm
  refine lv_aload_n hx hb dX9_least_0 rfl (lv_at hl 0 rfl) ?_
  refine lv_iload_n hx hb dX9_least_1 rfl (lv_at hl 1 rfl) ?_
  obtain ⟨b1, eb1, hm⟩ := Option.bind_eq_some_iff.mp hm
  refine zVi (rest := []) [.int v1] hx hb hml hl.1 hown hT (k_X9_isFacet eb1) zkX9_isFacet zw769 ⟨by decide, by decide⟩ rfl rfl hK hZ hP hD hS 0 rfl rfl rfl rfl (Nat.le_of_ble_eq_true rfl) ⟨Nat.zero_le _, Nat.zero_le _⟩ dX9_least_2 (fun H locs hP hD hS => ?_)
  refine lv_if_eq (tgt := 18) hx hb dX9_least_5 (by decide) (fun h2 => ?_) (fun h2 => ?_)
  · rw [if_pos h2] at hm
    refine lv_ldc hx hb hown (hT _ zw750) dX9_least_18 ?_
    cases hm
    exact hret _ _ _ _ dX9_least_20 hP hD hS
  · rw [if_neg h2] at hm
    refine lv_iload_n hx hb dX9_least_8 rfl (lv_at hl 2 rfl) ?_
    refine lv_iconst (v := (0 : Int32)) hx hb dX9_least_9 (by decide) ?_
    refine lv_bipush (v := (120 : Int32)) hx hb dX9_least_10 (by decide) ?_
    obtain ⟨b3, eb3, hm⟩ := Option.bind_eq_some_iff.mp hm
    refine zSi (rest := []) [.int v2, .int (0 : Int32), .int (120 : Int32)] hx hb hml hl.1 hown hT (k_X9_within eb3) zkX9_within zw739 ⟨by decide, by decide⟩ rfl rfl hK hZ hP hD hS rfl rfl (Nat.le_of_ble_eq_true rfl) ⟨Nat.zero_le _, Nat.zero_le _⟩ dX9_least_12 (fun H locs hP hD hS => ?_)
    refine lv_if_ne (tgt := 21) hx hb dX9_least_15 (by decide) (fun h4 => ?_) (fun h4 => ?_)
    · rw [if_neg h4] at hm
      refine lv_aload_n hx hb dX9_least_21 rfl (lv_at hl 0 rfl) ?_
      refine zget (v := .ref (ad 14)) hx hb hT zinX9 hown hK hP 0 rfl rfl 15 (by decide) zw637 rfl dX9_least_22 ?_
      refine lv_iload_n hx hb dX9_least_25 rfl (lv_at hl 1 rfl) ?_
      obtain ⟨b5, eb5, hm⟩ := Option.bind_eq_some_iff.mp hm
      refine ziald hx hb hK hP 14 0 rfl rfl eb5 dX9_least_26 ?_
      refine lv_istore_n (lv' := [(3, .int b5), (0, .ref (ad 0)), (1, .int v1), (2, .int v2)]) hx hb dX9_least_27 rfl hl (by decide) rfl (fun ls hl => ?_)
      refine lv_aload_n hx hb dX9_least_28 rfl (lv_at hl 1 rfl) ?_
      refine zget (v := .ref (ad 14)) hx hb hT zinX9 hown hK hP 0 rfl rfl 15 (by decide) zw637 rfl dX9_least_29 ?_
      refine lv_iload_n hx hb dX9_least_32 rfl (lv_at hl 2 rfl) ?_
      refine lv_iload_n hx hb dX9_least_33 rfl (lv_at hl 3 rfl) ?_
      obtain ⟨σ6, eσ6, hm⟩ := Option.bind_eq_some_iff.mp hm
      refine ziast (j := 13) hx hb hK hP hD hS 14 0 rfl rfl eσ6 (fun _ => rfl) dX9_least_34 (fun H locs hP hD hS => ?_)
      refine lv_aload_n hx hb dX9_least_35 rfl (lv_at hl 1 rfl) ?_
      obtain ⟨σ7, eσ7, hm⟩ := Option.bind_eq_some_iff.mp hm
      refine zVv (rest := []) [] hx hb hml hl.1 hown hT (k_X9_changes eσ7) zkX9_changes zw727 ⟨by decide, by decide⟩ rfl rfl hK hZ hP hD hS 0 rfl rfl rfl rfl (Nat.le_of_ble_eq_true rfl) ⟨Nat.zero_le _, Nat.zero_le _⟩ dX9_least_36 (fun H locs hP hD hS => ?_)
      refine lv_iload_n hx hb dX9_least_39 rfl (lv_at hl 0 rfl) ?_
      cases hm
      exact hret _ _ _ _ dX9_least_40 hP hD hS
    · rw [if_pos h4] at hm
      refine lv_ldc hx hb hown (hT _ zw750) dX9_least_18 ?_
      cases hm
      exact hret _ _ _ _ dX9_least_20 hP hD hS
set_option maxHeartbeats 4000000 in
set_option maxRecDepth 100000 in
theorem k_X9_missing {l : Launch} {D : va_G} {ad : Nat → Nat} {cI cJ cZ cO : ClassId} {t : Nat} {A : Nat → Prop} {N : Nat} {σ σ' : zS} {v1 : Int32} {v2 : Int32} {r : Int32}  (hm : m_X9_missing N σ v1 v2 = some (r, σ')) : zCi l yX9_missing cX9_missing 4 (some .int) (zR 2 43) D zclM (zty cI cJ cZ cO) t A (zwM ad cI cJ cZ cO) [.ref (ad 0), .int v1, .int v2] σ σ' r := by
  refine zMi (by decide) (Nat.le_of_ble_eq_true rfl) ?_
  intro p e s m args below meth c Q hx hb hml hown hT hK hZ hret hP hD hS ls hl
  replace hown : s.vm.findClass RX9 = some m.cls := hown
  replace hl : lv_has ls 4 [(0, .ref (ad 0)), (1, .int v1), (2, .int v2)] := hl
  have h25 : ∀ (σ5 : zS) (x0_5 : Int32), m_X9_missing_25 N v1 v2 σ5 x0_5 = some (r, σ') → ∀ (H : Heap) (locs : List Loc) (ls : Array Slot), va_P D zclM (zwM ad cI cJ cZ cO σ5) H → va_D A (zwM ad cI cJ cZ cO σ5) → va_S A s.heap H locs → lv_has ls 4 [(0, .ref (ad 0)), (1, .int v1), (2, .int v2)] → W p l e (zR 2 43) s m args below meth c H locs 0 0 Q (F0 m 25 ls [.int x0_5]) := by
    intro σ5 x0_5 hm H locs ls hP hD hS hl
    unfold m_X9_missing_25 at hm
    refine lv_istore_n (lv' := [(3, .int x0_5), (0, .ref (ad 0)), (1, .int v1), (2, .int v2)]) hx hb dX9_missing_25 rfl hl (by decide) rfl (fun ls hl => ?_)
    refine lv_aload_n hx hb dX9_missing_26 rfl (lv_at hl 1 rfl) ?_
    refine zget (v := .ref (ad 15)) hx hb hT zinX9 hown hK hP 0 rfl rfl 16 (by decide) zw638 rfl dX9_missing_27 ?_
    refine lv_iload_n hx hb dX9_missing_30 rfl (lv_at hl 2 rfl) ?_
    refine lv_iload_n hx hb dX9_missing_31 rfl (lv_at hl 3 rfl) ?_
    obtain ⟨b6, eb6, hm⟩ := Option.bind_eq_some_iff.mp hm
    obtain ⟨rfl, hzb6, hwb6, hfb6⟩ := zcz_all eb6
    obtain ⟨σ7, eσ7, hm⟩ := Option.bind_eq_some_iff.mp hm
    refine zzast (j := 14) hx hb hK hP hD hS 15 2 rfl rfl eσ7 hwb6 (fun _ => rfl) dX9_missing_32 (fun H locs hP hD hS => ?_)
    refine lv_aload_n hx hb dX9_missing_33 rfl (lv_at hl 1 rfl) ?_
    obtain ⟨σ8, eσ8, hm⟩ := Option.bind_eq_some_iff.mp hm
    refine zVv (rest := []) [] hx hb hml hl.1 hown hT (k_X9_changes eσ8) zkX9_changes zw727 ⟨by decide, by decide⟩ rfl rfl hK hZ hP hD hS 0 rfl rfl rfl rfl (Nat.le_of_ble_eq_true rfl) ⟨Nat.zero_le _, Nat.zero_le _⟩ dX9_missing_34 (fun H locs hP hD hS => ?_)
    refine lv_iload_n hx hb dX9_missing_37 rfl (lv_at hl 0 rfl) ?_
    cases hm
    exact hret _ _ _ _ dX9_missing_38 hP hD hS
  unfold m_X9_missing at hm
  refine lv_aload_n hx hb dX9_missing_0 rfl (lv_at hl 0 rfl) ?_
  refine lv_iload_n hx hb dX9_missing_1 rfl (lv_at hl 1 rfl) ?_
  obtain ⟨b1, eb1, hm⟩ := Option.bind_eq_some_iff.mp hm
  refine zVi (rest := []) [.int v1] hx hb hml hl.1 hown hT (k_X9_isFacet eb1) zkX9_isFacet zw769 ⟨by decide, by decide⟩ rfl rfl hK hZ hP hD hS 0 rfl rfl rfl rfl (Nat.le_of_ble_eq_true rfl) ⟨Nat.zero_le _, Nat.zero_le _⟩ dX9_missing_2 (fun H locs hP hD hS => ?_)
  refine lv_if_ne (tgt := 11) hx hb dX9_missing_5 (by decide) (fun h2 => ?_) (fun h2 => ?_)
  · rw [if_neg h2] at hm
    refine lv_aload_n hx hb dX9_missing_11 rfl (lv_at hl 0 rfl) ?_
    refine zget (v := .ref (ad 15)) hx hb hT zinX9 hown hK hP 0 rfl rfl 16 (by decide) zw638 rfl dX9_missing_12 ?_
    refine lv_iload_n hx hb dX9_missing_15 rfl (lv_at hl 1 rfl) ?_
    obtain ⟨b3, eb3, hm⟩ := Option.bind_eq_some_iff.mp hm
    refine zzald hx hb hK hP 15 2 rfl rfl eb3 dX9_missing_16 ?_
    refine lv_if_eq (tgt := 24) hx hb dX9_missing_17 (by decide) (fun h4 => ?_) (fun h4 => ?_)
    · rw [if_pos h4] at hm
      refine lv_iconst (v := (0 : Int32)) hx hb dX9_missing_24 (by decide) ?_
      exact h25 σ (0 : Int32) hm _ _ _ hP hD hS (lv_sub hl [0, 1, 2] rfl)
    · rw [if_neg h4] at hm
      refine lv_iconst (v := (1 : Int32)) hx hb dX9_missing_20 (by decide) ?_
      refine lv_goto (tgt := 25) hx hb dX9_missing_21 (by decide) ?_
      exact h25 σ (1 : Int32) hm _ _ _ hP hD hS (lv_sub hl [0, 1, 2] rfl)
  · rw [if_pos h2] at hm
    refine lv_ldc hx hb hown (hT _ zw750) dX9_missing_8 ?_
    cases hm
    exact hret _ _ _ _ dX9_missing_10 hP hD hS
set_option maxHeartbeats 4000000 in
set_option maxRecDepth 100000 in
theorem k_X9_order {l : Launch} {D : va_G} {ad : Nat → Nat} {cI cJ cZ cO : ClassId} {t : Nat} {A : Nat → Prop} {N : Nat} {σ σ' : zS} {v1 : Int32} {v2 : Int32} {v3 : Int32} {r : Int32}  (hm : m_X9_order N σ v1 v2 v3 = some (r, σ')) : zCi l yX9_order cX9_order 5 (some .int) (zR 2 43) D zclM (zty cI cJ cZ cO) t A (zwM ad cI cJ cZ cO) [.ref (ad 0), .int v1, .int v2, .int v3] σ σ' r := by
  refine zMi (by decide) (Nat.le_of_ble_eq_true rfl) ?_
  intro p e s m args below meth c Q hx hb hml hown hT hK hZ hret hP hD hS ls hl
  replace hown : s.vm.findClass RX9 = some m.cls := hown
  replace hl : lv_has ls 5 [(0, .ref (ad 0)), (1, .int v1), (2, .int v2), (3, .int v3)] := hl
  have h32 : ∀ (σ6 : zS), m_X9_order_32 N v1 v2 v3 σ6 = some (r, σ') → ∀ (H : Heap) (locs : List Loc) (ls : Array Slot), va_P D zclM (zwM ad cI cJ cZ cO σ6) H → va_D A (zwM ad cI cJ cZ cO σ6) → va_S A s.heap H locs → lv_has ls 5 [(0, .ref (ad 0)), (1, .int v1), (2, .int v2), (3, .int v3)] → W p l e (zR 2 43) s m args below meth c H locs 0 0 Q (F0 m 32 ls []) := by
    intro σ6 hm H locs ls hP hD hS hl
    unfold m_X9_order_32 at hm
    refine lv_aload_n hx hb dX9_order_32 rfl (lv_at hl 0 rfl) ?_
    refine zget (v := .ref (ad 16)) hx hb hT zinX9 hown hK hP 0 rfl rfl 17 (by decide) zw639 rfl dX9_order_33 ?_
    refine lv_iload_n hx hb dX9_order_36 rfl (lv_at hl 1 rfl) ?_
    obtain ⟨b7, eb7, hm⟩ := Option.bind_eq_some_iff.mp hm
    refine ziald hx hb hK hP 16 0 rfl rfl eb7 dX9_order_37 ?_
    refine lv_istore (lv' := [(4, .int b7), (0, .ref (ad 0)), (1, .int v1), (2, .int v2), (3, .int v3)]) hx hb dX9_order_38 hl (by decide) rfl (fun ls hl => ?_)
    refine lv_aload_n hx hb dX9_order_40 rfl (lv_at hl 1 rfl) ?_
    refine zget (v := .ref (ad 16)) hx hb hT zinX9 hown hK hP 0 rfl rfl 17 (by decide) zw639 rfl dX9_order_41 ?_
    refine lv_iload_n hx hb dX9_order_44 rfl (lv_at hl 2 rfl) ?_
    refine lv_iload_n hx hb dX9_order_45 rfl (lv_at hl 3 rfl) ?_
    obtain ⟨σ8, eσ8, hm⟩ := Option.bind_eq_some_iff.mp hm
    refine ziast (j := 15) hx hb hK hP hD hS 16 0 rfl rfl eσ8 (fun _ => rfl) dX9_order_46 (fun H locs hP hD hS => ?_)
    refine lv_aload_n hx hb dX9_order_47 rfl (lv_at hl 1 rfl) ?_
    refine zget (v := .ref (ad 17)) hx hb hT zinX9 hown hK hP 0 rfl rfl 18 (by decide) zw640 rfl dX9_order_48 ?_
    refine lv_iload_n hx hb dX9_order_51 rfl (lv_at hl 2 rfl) ?_
    refine lv_iload_n hx hb dX9_order_52 rfl (lv_at hl 4 rfl) ?_
    obtain ⟨σ9, eσ9, hm⟩ := Option.bind_eq_some_iff.mp hm
    refine ziast (j := 16) hx hb hK hP hD hS 17 0 rfl rfl eσ9 (fun _ => rfl) dX9_order_53 (fun H locs hP hD hS => ?_)
    refine lv_aload_n hx hb dX9_order_54 rfl (lv_at hl 1 rfl) ?_
    obtain ⟨σ10, eσ10, hm⟩ := Option.bind_eq_some_iff.mp hm
    refine zVv (rest := []) [] hx hb hml hl.1 hown hT (k_X9_changes eσ10) zkX9_changes zw727 ⟨by decide, by decide⟩ rfl rfl hK hZ hP hD hS 0 rfl rfl rfl rfl (Nat.le_of_ble_eq_true rfl) ⟨Nat.zero_le _, Nat.zero_le _⟩ dX9_order_55 (fun H locs hP hD hS => ?_)
    refine lv_iload hx hb dX9_order_58 (lv_at hl 0 rfl) ?_
    cases hm
    exact hret _ _ _ _ dX9_order_60 hP hD hS
  unfold m_X9_order at hm
  refine lv_aload_n hx hb dX9_order_0 rfl (lv_at hl 0 rfl) ?_
  refine lv_iload_n hx hb dX9_order_1 rfl (lv_at hl 1 rfl) ?_
  obtain ⟨b1, eb1, hm⟩ := Option.bind_eq_some_iff.mp hm
  refine zVi (rest := []) [.int v1] hx hb hml hl.1 hown hT (k_X9_isFacet eb1) zkX9_isFacet zw769 ⟨by decide, by decide⟩ rfl rfl hK hZ hP hD hS 0 rfl rfl rfl rfl (Nat.le_of_ble_eq_true rfl) ⟨Nat.zero_le _, Nat.zero_le _⟩ dX9_order_2 (fun H locs hP hD hS => ?_)
  refine lv_if_eq (tgt := 29) hx hb dX9_order_5 (by decide) (fun h2 => ?_) (fun h2 => ?_)
  · rw [if_pos h2] at hm
    refine lv_ldc hx hb hown (hT _ zw750) dX9_order_29 ?_
    cases hm
    exact hret _ _ _ _ dX9_order_31 hP hD hS
  · rw [if_neg h2] at hm
    refine lv_iload_n hx hb dX9_order_8 rfl (lv_at hl 2 rfl) ?_
    refine lv_iconst (v := (0 : Int32)) hx hb dX9_order_9 (by decide) ?_
    refine lv_iconst (v := (2 : Int32)) hx hb dX9_order_10 (by decide) ?_
    obtain ⟨b3, eb3, hm⟩ := Option.bind_eq_some_iff.mp hm
    refine zSi (rest := []) [.int v2, .int (0 : Int32), .int (2 : Int32)] hx hb hml hl.1 hown hT (k_X9_within eb3) zkX9_within zw739 ⟨by decide, by decide⟩ rfl rfl hK hZ hP hD hS rfl rfl (Nat.le_of_ble_eq_true rfl) ⟨Nat.zero_le _, Nat.zero_le _⟩ dX9_order_11 (fun H locs hP hD hS => ?_)
    refine lv_if_eq (tgt := 29) hx hb dX9_order_14 (by decide) (fun h4 => ?_) (fun h4 => ?_)
    · rw [if_pos h4] at hm
      refine lv_ldc hx hb hown (hT _ zw750) dX9_order_29 ?_
      cases hm
      exact hret _ _ _ _ dX9_order_31 hP hD hS
    · rw [if_neg h4] at hm
      refine lv_iload_n hx hb dX9_order_17 rfl (lv_at hl 2 rfl) ?_
      refine lv_iconst (v := (2 : Int32)) hx hb dX9_order_18 (by decide) ?_
      refine lv_icmp_ne (tgt := 32) hx hb dX9_order_19 (by decide) (fun h5 => ?_) (fun h5 => ?_)
      · rw [if_neg h5] at hm
        exact h32 σ hm _ _ _ hP hD hS (lv_sub hl [0, 1, 2, 3] rfl)
      · rw [if_pos h5] at hm
        refine lv_iload_n hx hb dX9_order_22 rfl (lv_at hl 3 rfl) ?_
        obtain ⟨b11, eb11, hm⟩ := Option.bind_eq_some_iff.mp hm
        refine zSi (rest := []) [.int v3] hx hb hml hl.1 hown hT (k_X9_isColumn eb11) zkX9_isColumn zw742 ⟨by decide, by decide⟩ rfl rfl hK hZ hP hD hS rfl rfl (Nat.le_of_ble_eq_true rfl) ⟨Nat.zero_le _, Nat.zero_le _⟩ dX9_order_23 (fun H locs hP hD hS => ?_)
        refine lv_if_ne (tgt := 32) hx hb dX9_order_26 (by decide) (fun h12 => ?_) (fun h12 => ?_)
        · rw [if_neg h12] at hm
          exact h32 σ hm _ _ _ hP hD hS (lv_sub hl [0, 1, 2, 3] rfl)
        · rw [if_pos h12] at hm
          refine lv_ldc hx hb hown (hT _ zw750) dX9_order_29 ?_
          cases hm
          exact hret _ _ _ _ dX9_order_31 hP hD hS
set_option maxHeartbeats 4000000 in
set_option maxRecDepth 100000 in
theorem k_X9_give {l : Launch} {D : va_G} {ad : Nat → Nat} {cI cJ cZ cO : ClassId} {t : Nat} {A : Nat → Prop} {N : Nat} {σ σ' : zS} {v1 : Int32}   (hm : m_X9_give N σ v1 = some σ') : zCv l yX9_give cX9_give 2 (none) (zR 0 0) D zclM (zty cI cJ cZ cO) t A (zwM ad cI cJ cZ cO) [.ref (ad 0), .int v1] σ σ' := by
  refine zMv (by decide) (Nat.le_of_ble_eq_true rfl) ?_
  intro p e s m args below meth c Q hx hb hml hown hT hK hZ hret hP hD hS ls hl
  replace hown : s.vm.findClass RX9 = some m.cls := hown
  replace hl : lv_has ls 2 [(0, .ref (ad 0)), (1, .int v1)] := hl
  unfold m_X9_give at hm
  refine lv_aload_n hx hb dX9_give_0 rfl (lv_at hl 0 rfl) ?_
  refine zget (v := .ref (ad 19)) hx hb hT zinX9 hown hK hP 0 rfl rfl 22 (by decide) zw644 rfl dX9_give_1 ?_
  refine lv_aload_n hx hb dX9_give_4 rfl (lv_at hl 0 rfl) ?_
  refine zget (v := .int (σ.1 3)) hx hb hT zinX9 hown hK hP 0 rfl rfl 21 (by decide) zw643 rfl dX9_give_5 ?_
  refine lv_iload_n hx hb dX9_give_8 rfl (lv_at hl 1 rfl) ?_
  obtain ⟨σ1, eσ1, hm⟩ := Option.bind_eq_some_iff.mp hm
  refine ziast (j := 18) hx hb hK hP hD hS 19 0 rfl rfl eσ1 (fun _ => rfl) dX9_give_9 (fun H locs hP hD hS => ?_)
  refine lv_aload_n hx hb dX9_give_10 rfl (lv_at hl 0 rfl) ?_
  refine lv_dup hx hb dX9_give_11 rfl ?_
  refine zget (v := .int (σ1.1 3)) hx hb hT zinX9 hown hK hP 0 rfl rfl 21 (by decide) zw643 rfl dX9_give_12 ?_
  refine lv_iconst (v := (1 : Int32)) hx hb dX9_give_15 (by decide) ?_
  refine lv_iadd hx hb dX9_give_16 ?_
  obtain ⟨σ2, eσ2, hm⟩ := Option.bind_eq_some_iff.mp hm
  refine zput (j := 3) (ty := .int) hx hb hT zinX9 tyX9 tyX9_ok nmX9 hown hK hP hD hS 0 rfl rfl 21 (by decide) zw643 rfl (by decide +kernel) rfl rfl (Nat.le_of_ble_eq_true rfl) eσ2 rfl dX9_give_17 (fun H locs hP hD hS => ?_)
  cases hm
  exact hret _ _ _ _ dX9_give_20 hP hD hS
set_option maxHeartbeats 4000000 in
set_option maxRecDepth 100000 in
theorem k_X9_givePaths {l : Launch} {D : va_G} {ad : Nat → Nat} {cI cJ cZ cO : ClassId} {t : Nat} {A : Nat → Prop} {N : Nat} {σ σ' : zS} {v1 : Int32}   (hm : m_X9_givePaths N σ v1 = some σ') : zCv l yX9_givePaths cX9_givePaths 4 (none) (zR 1 22) D zclM (zty cI cJ cZ cO) t A (zwM ad cI cJ cZ cO) [.ref (ad 0), .int v1] σ σ' := by
  refine zMv (by decide) (Nat.le_of_ble_eq_true rfl) ?_
  intro p e s m args below meth c Q hx hb hml hown hT hK hZ hret hP hD hS ls hl
  replace hown : s.vm.findClass RX9 = some m.cls := hown
  replace hl : lv_has ls 4 [(0, .ref (ad 0)), (1, .int v1)] := hl
  have h63 : ∀ (σ7 : zS) (v3_7 : Int32), m_X9_givePaths_63 N v1 σ7 v3_7 = some σ' → ∀ (H : Heap) (locs : List Loc) (ls : Array Slot), va_P D zclM (zwM ad cI cJ cZ cO σ7) H → va_D A (zwM ad cI cJ cZ cO σ7) → va_S A s.heap H locs → lv_has ls 4 [(0, .ref (ad 0)), (1, .int v1), (3, .int v3_7)] → W p l e (zR 1 22) s m args below meth c H locs 0 0 Q (F0 m 63 ls []) := by
    intro σ7 v3_7 hm H locs ls hP hD hS hl
    unfold m_X9_givePaths_63 at hm
    refine lv_iload_n hx hb dX9_givePaths_63 rfl (lv_at hl 2 rfl) ?_
    refine lv_if_eq (tgt := 72) hx hb dX9_givePaths_64 (by decide) (fun h8 => ?_) (fun h8 => ?_)
    · rw [if_pos h8] at hm
      cases hm
      exact hret _ _ _ _ dX9_givePaths_72 hP hD hS
    · rw [if_neg h8] at hm
      refine lv_aload_n hx hb dX9_givePaths_67 rfl (lv_at hl 0 rfl) ?_
      refine lv_iload_n hx hb dX9_givePaths_68 rfl (lv_at hl 1 rfl) ?_
      obtain ⟨σ9, eσ9, hm⟩ := Option.bind_eq_some_iff.mp hm
      refine zVv (rest := []) [.int v1] hx hb hml hl.1 hown hT (k_X9_give eσ9) zkX9_give zw810 ⟨by decide, by decide⟩ rfl rfl hK hZ hP hD hS 0 rfl rfl rfl rfl (Nat.le_of_ble_eq_true rfl) ⟨Nat.zero_le _, Nat.zero_le _⟩ dX9_givePaths_69 (fun H locs hP hD hS => ?_)
      cases hm
      exact hret _ _ _ _ dX9_givePaths_72 hP hD hS
  have h35 : ∀ (σ4 : zS) (v2_4 : Int32) (v3_4 : Int32), m_X9_givePaths_35 N v1 σ4 v2_4 v3_4 = some σ' → ∀ (H : Heap) (locs : List Loc) (ls : Array Slot), va_P D zclM (zwM ad cI cJ cZ cO σ4) H → va_D A (zwM ad cI cJ cZ cO σ4) → va_S A s.heap H locs → lv_has ls 4 [(0, .ref (ad 0)), (1, .int v1), (2, .int v2_4), (3, .int v3_4)] → W p l e (zR 1 22) s m args below meth c H locs 0 0 Q (F0 m 35 ls []) := by
    intro σ4 v2_4 v3_4 hm H locs ls hP hD hS hl
    unfold m_X9_givePaths_35 at hm
    refine lv_aload_n hx hb dX9_givePaths_35 rfl (lv_at hl 0 rfl) ?_
    refine lv_iload_n hx hb dX9_givePaths_36 rfl (lv_at hl 1 rfl) ?_
    refine lv_sipush (v := (10000 : Int32)) hx hb dX9_givePaths_37 (by decide) ?_
    refine lv_idiv hx hb dX9_givePaths_40 (by decide) ?_
    refine lv_sipush (v := (10000 : Int32)) hx hb dX9_givePaths_41 (by decide) ?_
    refine lv_imul hx hb dX9_givePaths_44 ?_
    obtain ⟨σ5, eσ5, hm⟩ := Option.bind_eq_some_iff.mp hm
    refine zVv (rest := []) [.int ((v1 / (10000 : Int32)) * (10000 : Int32))] hx hb hml hl.1 hown hT (k_X9_give eσ5) zkX9_give zw810 ⟨by decide, by decide⟩ rfl rfl hK hZ hP hD hS 0 rfl rfl rfl rfl (Nat.le_of_ble_eq_true rfl) ⟨Nat.zero_le _, Nat.zero_le _⟩ dX9_givePaths_45 (fun H locs hP hD hS => ?_)
    refine lv_iload_n hx hb dX9_givePaths_48 rfl (lv_at hl 2 rfl) ?_
    refine lv_if_eq (tgt := 63) hx hb dX9_givePaths_49 (by decide) (fun h6 => ?_) (fun h6 => ?_)
    · rw [if_pos h6] at hm
      exact h63 σ5 v3_4 hm _ _ _ hP hD hS (lv_sub hl [0, 1, 3] rfl)
    · rw [if_neg h6] at hm
      refine lv_aload_n hx hb dX9_givePaths_52 rfl (lv_at hl 0 rfl) ?_
      refine lv_iload_n hx hb dX9_givePaths_53 rfl (lv_at hl 1 rfl) ?_
      refine lv_bipush (v := (100 : Int32)) hx hb dX9_givePaths_54 (by decide) ?_
      refine lv_idiv hx hb dX9_givePaths_56 (by decide) ?_
      refine lv_bipush (v := (100 : Int32)) hx hb dX9_givePaths_57 (by decide) ?_
      refine lv_imul hx hb dX9_givePaths_59 ?_
      obtain ⟨σ10, eσ10, hm⟩ := Option.bind_eq_some_iff.mp hm
      refine zVv (rest := []) [.int ((v1 / (100 : Int32)) * (100 : Int32))] hx hb hml hl.1 hown hT (k_X9_give eσ10) zkX9_give zw810 ⟨by decide, by decide⟩ rfl rfl hK hZ hP hD hS 0 rfl rfl rfl rfl (Nat.le_of_ble_eq_true rfl) ⟨Nat.zero_le _, Nat.zero_le _⟩ dX9_givePaths_60 (fun H locs hP hD hS => ?_)
      exact h63 σ10 v3_4 hm _ _ _ hP hD hS (lv_sub hl [0, 1, 3] rfl)
  unfold m_X9_givePaths at hm
  refine lv_iload_n hx hb dX9_givePaths_0 rfl (lv_at hl 1 rfl) ?_
  refine lv_sipush (v := (10000 : Int32)) hx hb dX9_givePaths_1 (by decide) ?_
  refine lv_ldc hx hb hown (hT _ zw818) dX9_givePaths_4 ?_
  obtain ⟨b1, eb1, hm⟩ := Option.bind_eq_some_iff.mp hm
  refine zSi (rest := []) [.int v1, .int (10000 : Int32), .int (999999 : Int32)] hx hb hml hl.1 hown hT (k_X9_within eb1) zkX9_within zw739 ⟨by decide, by decide⟩ rfl rfl hK hZ hP hD hS rfl rfl (Nat.le_of_ble_eq_true rfl) ⟨Nat.zero_le _, Nat.zero_le _⟩ dX9_givePaths_6 (fun H locs hP hD hS => ?_)
  refine lv_if_ne (tgt := 13) hx hb dX9_givePaths_9 (by decide) (fun h2 => ?_) (fun h2 => ?_)
  · rw [if_neg h2] at hm
    refine lv_iload_n hx hb dX9_givePaths_13 rfl (lv_at hl 1 rfl) ?_
    refine lv_bipush (v := (100 : Int32)) hx hb dX9_givePaths_14 (by decide) ?_
    refine lv_idiv hx hb dX9_givePaths_16 (by decide) ?_
    refine lv_bipush (v := (100 : Int32)) hx hb dX9_givePaths_17 (by decide) ?_
    refine lv_irem hx hb dX9_givePaths_19 (by decide) ?_
    refine lv_istore_n (lv' := [(2, .int ((v1 / (100 : Int32)) - (v1 / (100 : Int32)) / (100 : Int32) * (100 : Int32))), (0, .ref (ad 0)), (1, .int v1)]) hx hb dX9_givePaths_20 rfl hl (by decide) rfl (fun ls hl => ?_)
    refine lv_iload_n hx hb dX9_givePaths_21 rfl (lv_at hl 2 rfl) ?_
    refine lv_bipush (v := (100 : Int32)) hx hb dX9_givePaths_22 (by decide) ?_
    refine lv_irem hx hb dX9_givePaths_24 (by decide) ?_
    refine lv_istore_n (lv' := [(3, .int (v1 - v1 / (100 : Int32) * (100 : Int32))), (2, .int ((v1 / (100 : Int32)) - (v1 / (100 : Int32)) / (100 : Int32) * (100 : Int32))), (0, .ref (ad 0)), (1, .int v1)]) hx hb dX9_givePaths_25 rfl hl (by decide) rfl (fun ls hl => ?_)
    refine lv_iload_n hx hb dX9_givePaths_26 rfl (lv_at hl 1 rfl) ?_
    refine lv_if_ne (tgt := 35) hx hb dX9_givePaths_27 (by decide) (fun h3 => ?_) (fun h3 => ?_)
    · rw [if_neg h3] at hm
      exact h35 σ ((v1 / (100 : Int32)) - (v1 / (100 : Int32)) / (100 : Int32) * (100 : Int32)) (v1 - v1 / (100 : Int32) * (100 : Int32)) hm _ _ _ hP hD hS (lv_sub hl [2, 3, 1, 0] rfl)
    · rw [if_pos h3] at hm
      refine lv_iload_n hx hb dX9_givePaths_30 rfl (lv_at hl 0 rfl) ?_
      refine lv_if_eq (tgt := 35) hx hb dX9_givePaths_31 (by decide) (fun h11 => ?_) (fun h11 => ?_)
      · rw [if_pos h11] at hm
        exact h35 σ ((v1 / (100 : Int32)) - (v1 / (100 : Int32)) / (100 : Int32) * (100 : Int32)) (v1 - v1 / (100 : Int32) * (100 : Int32)) hm _ _ _ hP hD hS (lv_sub hl [2, 3, 1, 0] rfl)
      · rw [if_neg h11] at hm
        cases hm
        exact hret _ _ _ _ dX9_givePaths_34 hP hD hS
  · rw [if_pos h2] at hm
    cases hm
    exact hret _ _ _ _ dX9_givePaths_12 hP hD hS
set_option maxHeartbeats 4000000 in
set_option maxRecDepth 100000 in
theorem k_X9_isLeap {l : Launch} {D : va_G} {ad : Nat → Nat} {cI cJ cZ cO : ClassId} {t : Nat} {A : Nat → Prop} {N : Nat} {σ : zS} {v0 : Int32} {r : Int32}  (hm : m_X9_isLeap N σ v0 = some r) : zCi l yX9_isLeap cX9_isLeap 1 (some .boolean) (zR 0 0) D zclM (zty cI cJ cZ cO) t A (zwM ad cI cJ cZ cO) [.int v0] σ σ r := by
  refine zMz (by decide) (Nat.le_of_ble_eq_true rfl) ?_
  intro p e s m args below meth c Q hx hb hml hown hT hK hZ hret hP hD hS ls hl
  replace hown : s.vm.findClass RX9 = some m.cls := hown
  replace hl : lv_has ls 1 [(0, .int v0)] := hl
  unfold m_X9_isLeap at hm
  refine lv_iload_n hx hb dX9_isLeap_0 rfl (lv_at hl 0 rfl) ?_
  refine lv_iconst (v := (4 : Int32)) hx hb dX9_isLeap_1 (by decide) ?_
  refine lv_irem hx hb dX9_isLeap_2 (by decide) ?_
  refine lv_if_ne (tgt := 25) hx hb dX9_isLeap_3 (by decide) (fun h1 => ?_) (fun h1 => ?_)
  · rw [if_neg h1] at hm
    refine lv_iconst (v := (0 : Int32)) hx hb dX9_isLeap_25 (by decide) ?_
    cases hm
    exact hret _ _ _ _ (by decide) dX9_isLeap_26 hP hD hS
  · rw [if_pos h1] at hm
    refine lv_iload_n hx hb dX9_isLeap_6 rfl (lv_at hl 0 rfl) ?_
    refine lv_bipush (v := (100 : Int32)) hx hb dX9_isLeap_7 (by decide) ?_
    refine lv_irem hx hb dX9_isLeap_9 (by decide) ?_
    refine lv_if_ne (tgt := 21) hx hb dX9_isLeap_10 (by decide) (fun h2 => ?_) (fun h2 => ?_)
    · rw [if_neg h2] at hm
      refine lv_iconst (v := (1 : Int32)) hx hb dX9_isLeap_21 (by decide) ?_
      refine lv_goto (tgt := 26) hx hb dX9_isLeap_22 (by decide) ?_
      cases hm
      exact hret _ _ _ _ (by decide) dX9_isLeap_26 hP hD hS
    · rw [if_pos h2] at hm
      refine lv_iload_n hx hb dX9_isLeap_13 rfl (lv_at hl 0 rfl) ?_
      refine lv_sipush (v := (400 : Int32)) hx hb dX9_isLeap_14 (by decide) ?_
      refine lv_irem hx hb dX9_isLeap_17 (by decide) ?_
      refine lv_if_ne (tgt := 25) hx hb dX9_isLeap_18 (by decide) (fun h3 => ?_) (fun h3 => ?_)
      · rw [if_neg h3] at hm
        refine lv_iconst (v := (0 : Int32)) hx hb dX9_isLeap_25 (by decide) ?_
        cases hm
        exact hret _ _ _ _ (by decide) dX9_isLeap_26 hP hD hS
      · rw [if_pos h3] at hm
        refine lv_iconst (v := (1 : Int32)) hx hb dX9_isLeap_21 (by decide) ?_
        refine lv_goto (tgt := 26) hx hb dX9_isLeap_22 (by decide) ?_
        cases hm
        exact hret _ _ _ _ (by decide) dX9_isLeap_26 hP hD hS
set_option maxHeartbeats 4000000 in
set_option maxRecDepth 100000 in
theorem k_X9_daysOf {l : Launch} {D : va_G} {ad : Nat → Nat} {cI cJ cZ cO : ClassId} {t : Nat} {A : Nat → Prop} {N : Nat} {σ : zS} {v0 : Int32} {v1 : Int32} {r : Int32}  (hm : m_X9_daysOf N σ v0 v1 = some r) : zCi l yX9_daysOf cX9_daysOf 2 (some .int) (zR 1 20) D zclM (zty cI cJ cZ cO) t A (zwM ad cI cJ cZ cO) [.int v0, .int v1] σ σ r := by
  refine zMi (by decide) (Nat.le_of_ble_eq_true rfl) ?_
  intro p e s m args below meth c Q hx hb hml hown hT hK hZ hret hP hD hS ls hl
  replace hown : s.vm.findClass RX9 = some m.cls := hown
  replace hl : lv_has ls 2 [(0, .int v0), (1, .int v1)] := hl
  unfold m_X9_daysOf at hm
  refine lv_iload_n hx hb dX9_daysOf_0 rfl (lv_at hl 1 rfl) ?_
  refine lv_iconst (v := (2 : Int32)) hx hb dX9_daysOf_1 (by decide) ?_
  refine lv_icmp_ne (tgt := 22) hx hb dX9_daysOf_2 (by decide) (fun h1 => ?_) (fun h1 => ?_)
  · rw [if_neg h1] at hm
    refine lv_iload_n hx hb dX9_daysOf_22 rfl (lv_at hl 1 rfl) ?_
    refine lv_iconst (v := (4 : Int32)) hx hb dX9_daysOf_23 (by decide) ?_
    refine lv_icmp_eq (tgt := 45) hx hb dX9_daysOf_24 (by decide) (fun h2 => ?_) (fun h2 => ?_)
    · rw [if_pos h2] at hm
      refine lv_bipush (v := (30 : Int32)) hx hb dX9_daysOf_45 (by decide) ?_
      refine lv_goto (tgt := 52) hx hb dX9_daysOf_47 (by decide) ?_
      cases hm
      exact hret _ _ _ _ dX9_daysOf_52 hP hD hS
    · rw [if_neg h2] at hm
      refine lv_iload_n hx hb dX9_daysOf_27 rfl (lv_at hl 1 rfl) ?_
      refine lv_bipush (v := (6 : Int32)) hx hb dX9_daysOf_28 (by decide) ?_
      refine lv_icmp_eq (tgt := 45) hx hb dX9_daysOf_30 (by decide) (fun h3 => ?_) (fun h3 => ?_)
      · rw [if_pos h3] at hm
        refine lv_bipush (v := (30 : Int32)) hx hb dX9_daysOf_45 (by decide) ?_
        refine lv_goto (tgt := 52) hx hb dX9_daysOf_47 (by decide) ?_
        cases hm
        exact hret _ _ _ _ dX9_daysOf_52 hP hD hS
      · rw [if_neg h3] at hm
        refine lv_iload_n hx hb dX9_daysOf_33 rfl (lv_at hl 1 rfl) ?_
        refine lv_bipush (v := (9 : Int32)) hx hb dX9_daysOf_34 (by decide) ?_
        refine lv_icmp_eq (tgt := 45) hx hb dX9_daysOf_36 (by decide) (fun h4 => ?_) (fun h4 => ?_)
        · rw [if_pos h4] at hm
          refine lv_bipush (v := (30 : Int32)) hx hb dX9_daysOf_45 (by decide) ?_
          refine lv_goto (tgt := 52) hx hb dX9_daysOf_47 (by decide) ?_
          cases hm
          exact hret _ _ _ _ dX9_daysOf_52 hP hD hS
        · rw [if_neg h4] at hm
          refine lv_iload_n hx hb dX9_daysOf_39 rfl (lv_at hl 1 rfl) ?_
          refine lv_bipush (v := (11 : Int32)) hx hb dX9_daysOf_40 (by decide) ?_
          refine lv_icmp_ne (tgt := 50) hx hb dX9_daysOf_42 (by decide) (fun h5 => ?_) (fun h5 => ?_)
          · rw [if_neg h5] at hm
            refine lv_bipush (v := (31 : Int32)) hx hb dX9_daysOf_50 (by decide) ?_
            cases hm
            exact hret _ _ _ _ dX9_daysOf_52 hP hD hS
          · rw [if_pos h5] at hm
            refine lv_bipush (v := (30 : Int32)) hx hb dX9_daysOf_45 (by decide) ?_
            refine lv_goto (tgt := 52) hx hb dX9_daysOf_47 (by decide) ?_
            cases hm
            exact hret _ _ _ _ dX9_daysOf_52 hP hD hS
  · rw [if_pos h1] at hm
    refine lv_iload_n hx hb dX9_daysOf_5 rfl (lv_at hl 0 rfl) ?_
    obtain ⟨b6, eb6, hm⟩ := Option.bind_eq_some_iff.mp hm
    refine zSi (rest := []) [.int v0] hx hb hml hl.1 hown hT (k_X9_isLeap eb6) zkX9_isLeap zw830 ⟨by decide, by decide⟩ rfl rfl hK hZ hP hD hS rfl rfl (Nat.le_of_ble_eq_true rfl) ⟨Nat.zero_le _, Nat.zero_le _⟩ dX9_daysOf_6 (fun H locs hP hD hS => ?_)
    refine lv_if_eq (tgt := 17) hx hb dX9_daysOf_9 (by decide) (fun h7 => ?_) (fun h7 => ?_)
    · rw [if_pos h7] at hm
      refine lv_bipush (v := (28 : Int32)) hx hb dX9_daysOf_17 (by decide) ?_
      refine lv_goto (tgt := 52) hx hb dX9_daysOf_19 (by decide) ?_
      cases hm
      exact hret _ _ _ _ dX9_daysOf_52 hP hD hS
    · rw [if_neg h7] at hm
      refine lv_bipush (v := (29 : Int32)) hx hb dX9_daysOf_12 (by decide) ?_
      refine lv_goto (tgt := 52) hx hb dX9_daysOf_14 (by decide) ?_
      cases hm
      exact hret _ _ _ _ dX9_daysOf_52 hP hD hS
set_option maxHeartbeats 4000000 in
set_option maxRecDepth 100000 in
theorem k_X9_behind {l : Launch} {D : va_G} {ad : Nat → Nat} {cI cJ cZ cO : ClassId} {t : Nat} {A : Nat → Prop} {N : Nat} {σ : zS} {v0 : Int32} {v1 : Int32} {r : Int32}  (hm : m_X9_behind N σ v0 v1 = some r) : zCi l yX9_behind cX9_behind 7 (some .int) (zR 2 41) D zclM (zty cI cJ cZ cO) t A (zwM ad cI cJ cZ cO) [.int v0, .int v1] σ σ r := by
  refine zMi (by decide) (Nat.le_of_ble_eq_true rfl) ?_
  intro p e s m args below meth c Q hx hb hml hown hT hK hZ hret hP hD hS ls hl
  replace hown : s.vm.findClass RX9 = some m.cls := hown
  replace hl : lv_has ls 7 [(0, .int v0), (1, .int v1)] := hl
  have hL6 : ∀ (q : Int32 × Int32) (r : Int32 × Int32), ziter (fun q : Int32 × Int32 => m_X9_behind_L6 N σ v0 v1 q.1 q.2) N q = some r → (∀ (H : Heap) (locs : List Loc) (ls : Array Slot), va_P D zclM (zwM ad cI cJ cZ cO σ) H → va_D A (zwM ad cI cJ cZ cO σ) → va_S A s.heap H locs → lv_has ls 7 [(1, .int v1), (2, .int r.1), (3, .int r.2)] → W p l e (zR 2 41) s m args below meth c H locs 0 0 Q (F0 m 35 ls [])) → ∀ (H : Heap) (locs : List Loc) (ls : Array Slot), va_P D zclM (zwM ad cI cJ cZ cO σ) H → va_D A (zwM ad cI cJ cZ cO σ) → va_S A s.heap H locs → lv_has ls 7 [(1, .int v1), (2, .int q.1), (3, .int q.2)] → W p l e (zR 2 41) s m args below meth c H locs 0 0 Q (F0 m 6 ls []) := by
    intro q r
    refine ziter_W (Hd := fun q : Int32 × Int32 => ∀ (H : Heap) (locs : List Loc) (ls : Array Slot), va_P D zclM (zwM ad cI cJ cZ cO σ) H → va_D A (zwM ad cI cJ cZ cO σ) → va_S A s.heap H locs → lv_has ls 7 [(1, .int v1), (2, .int q.1), (3, .int q.2)] → W p l e (zR 2 41) s m args below meth c H locs 0 0 Q (F0 m 6 ls [])) (Ex := fun r : Int32 × Int32 => ∀ (H : Heap) (locs : List Loc) (ls : Array Slot), va_P D zclM (zwM ad cI cJ cZ cO σ) H → va_D A (zwM ad cI cJ cZ cO σ) → va_S A s.heap H locs → lv_has ls 7 [(1, .int v1), (2, .int r.1), (3, .int r.2)] → W p l e (zR 2 41) s m args below meth c H locs 0 0 Q (F0 m 35 ls [])) ?_ N q r
    rintro ⟨v2_1, v3_1⟩ res hm hk H locs ls hP hD hS hl
    try dsimp only at hP hD hl
    replace hm : m_X9_behind_L6 N σ v0 v1 v2_1 v3_1 = some res := hm
    have h30 : ∀ (v3_5 : Int32) (x0_5 : Int32) (x1_5 : Int32), m_X9_behind_30_in6 N σ v0 v1 v3_5 x0_5 x1_5 = some res → ∀ (H : Heap) (locs : List Loc) (ls : Array Slot), va_P D zclM (zwM ad cI cJ cZ cO σ) H → va_D A (zwM ad cI cJ cZ cO σ) → va_S A s.heap H locs → lv_has ls 7 [(1, .int v1), (3, .int v3_5)] → W p l e (zR 2 41) s m args below meth c H locs 0 0 Q (F0 m 30 ls [.int x1_5, .int x0_5]) := by
      intro v3_5 x0_5 x1_5 hm H locs ls hP hD hS hl
      unfold m_X9_behind_30_in6 at hm
      refine lv_iadd hx hb dX9_behind_30 ?_
      refine lv_istore_n (lv' := [(2, .int (x0_5 + x1_5)), (1, .int v1), (3, .int v3_5)]) hx hb dX9_behind_31 rfl hl (by decide) rfl (fun ls hl => ?_)
      refine lv_goto (tgt := 6) hx hb dX9_behind_32 (by decide) ?_
      cases hm
      exact hk _ _ _ hP hD hS (lv_sub hl [1, 0, 2] rfl)
    unfold m_X9_behind_L6 at hm
    refine lv_iload_n hx hb dX9_behind_6 rfl (lv_at hl 1 rfl) ?_
    refine lv_if_ge (tgt := 35) hx hb dX9_behind_7 (by decide) (fun h2 => ?_) (fun h2 => ?_)
    · rw [if_pos h2] at hm
      cases hm
      exact hk _ _ _ hP hD hS (lv_sub hl [0, 1, 2] rfl)
    · rw [if_neg h2] at hm
      refine lv_iinc (v := (v3_1 + (-1 : Int32))) (lv' := [(3, .int (v3_1 + (-1 : Int32))), (1, .int v1), (2, .int v2_1)]) hx hb dX9_behind_10 hl (k := 2) rfl rfl (by decide) rfl (fun ls hl => ?_)
      refine lv_iload_n hx hb dX9_behind_13 rfl (lv_at hl 2 rfl) ?_
      refine lv_iload_n hx hb dX9_behind_14 rfl (lv_at hl 0 rfl) ?_
      obtain ⟨b3, eb3, hm⟩ := Option.bind_eq_some_iff.mp hm
      refine zSi (rest := [.int v2_1]) [.int (v3_1 + (-1 : Int32))] hx hb hml hl.1 hown hT (k_X9_isLeap eb3) zkX9_isLeap zw830 ⟨by decide, by decide⟩ rfl rfl hK hZ hP hD hS rfl rfl (Nat.le_of_ble_eq_true rfl) ⟨Nat.zero_le _, Nat.zero_le _⟩ dX9_behind_15 (fun H locs hP hD hS => ?_)
      refine lv_if_eq (tgt := 27) hx hb dX9_behind_18 (by decide) (fun h4 => ?_) (fun h4 => ?_)
      · rw [if_pos h4] at hm
        refine lv_sipush (v := (365 : Int32)) hx hb dX9_behind_27 (by decide) ?_
        exact h30 (v3_1 + (-1 : Int32)) v2_1 (365 : Int32) hm _ _ _ hP hD hS (lv_sub hl [1, 0] rfl)
      · rw [if_neg h4] at hm
        refine lv_sipush (v := (366 : Int32)) hx hb dX9_behind_21 (by decide) ?_
        refine lv_goto (tgt := 30) hx hb dX9_behind_24 (by decide) ?_
        exact h30 (v3_1 + (-1 : Int32)) v2_1 (366 : Int32) hm _ _ _ hP hD hS (lv_sub hl [1, 0] rfl)
  have hL35 : ∀ (q : Int32 × Int32) (r : Int32 × Int32), ziter (fun q : Int32 × Int32 => m_X9_behind_L35 N σ v0 v1 q.1 q.2) N q = some r → (∀ (H : Heap) (locs : List Loc) (ls : Array Slot), va_P D zclM (zwM ad cI cJ cZ cO σ) H → va_D A (zwM ad cI cJ cZ cO σ) → va_S A s.heap H locs → lv_has ls 7 [(1, .int v1), (2, .int r.1), (3, .int r.2)] → W p l e (zR 2 41) s m args below meth c H locs 0 0 Q (F0 m 80 ls [])) → ∀ (H : Heap) (locs : List Loc) (ls : Array Slot), va_P D zclM (zwM ad cI cJ cZ cO σ) H → va_D A (zwM ad cI cJ cZ cO σ) → va_S A s.heap H locs → lv_has ls 7 [(1, .int v1), (2, .int q.1), (3, .int q.2)] → W p l e (zR 2 41) s m args below meth c H locs 0 0 Q (F0 m 35 ls []) := by
    intro q r
    refine ziter_W (Hd := fun q : Int32 × Int32 => ∀ (H : Heap) (locs : List Loc) (ls : Array Slot), va_P D zclM (zwM ad cI cJ cZ cO σ) H → va_D A (zwM ad cI cJ cZ cO σ) → va_S A s.heap H locs → lv_has ls 7 [(1, .int v1), (2, .int q.1), (3, .int q.2)] → W p l e (zR 2 41) s m args below meth c H locs 0 0 Q (F0 m 35 ls [])) (Ex := fun r : Int32 × Int32 => ∀ (H : Heap) (locs : List Loc) (ls : Array Slot), va_P D zclM (zwM ad cI cJ cZ cO σ) H → va_D A (zwM ad cI cJ cZ cO σ) → va_S A s.heap H locs → lv_has ls 7 [(1, .int v1), (2, .int r.1), (3, .int r.2)] → W p l e (zR 2 41) s m args below meth c H locs 0 0 Q (F0 m 80 ls [])) ?_ N q r
    rintro ⟨v2_8, v3_8⟩ res hm hk H locs ls hP hD hS hl
    try dsimp only at hP hD hl
    replace hm : m_X9_behind_L35 N σ v0 v1 v2_8 v3_8 = some res := hm
    have h72 : ∀ (v3_15 : Int32) (x0_15 : Int32) (x1_15 : Int32), m_X9_behind_72_in35 N σ v0 v1 v3_15 x0_15 x1_15 = some res → ∀ (H : Heap) (locs : List Loc) (ls : Array Slot), va_P D zclM (zwM ad cI cJ cZ cO σ) H → va_D A (zwM ad cI cJ cZ cO σ) → va_S A s.heap H locs → lv_has ls 7 [(1, .int v1), (3, .int v3_15)] → W p l e (zR 2 41) s m args below meth c H locs 0 0 Q (F0 m 72 ls [.int x1_15, .int x0_15]) := by
      intro v3_15 x0_15 x1_15 hm H locs ls hP hD hS hl
      unfold m_X9_behind_72_in35 at hm
      refine lv_isub hx hb dX9_behind_72 ?_
      refine lv_istore_n (lv' := [(2, .int (x0_15 - x1_15)), (1, .int v1), (3, .int v3_15)]) hx hb dX9_behind_73 rfl hl (by decide) rfl (fun ls hl => ?_)
      refine lv_iinc (v := (v3_15 + (1 : Int32))) (lv' := [(3, .int (v3_15 + (1 : Int32))), (2, .int (x0_15 - x1_15)), (1, .int v1)]) hx hb dX9_behind_74 hl (k := 2) rfl rfl (by decide) rfl (fun ls hl => ?_)
      refine lv_goto (tgt := 35) hx hb dX9_behind_77 (by decide) ?_
      cases hm
      exact hk _ _ _ hP hD hS (lv_sub hl [2, 1, 0] rfl)
    have h52 : ∀ (v2_11 : Int32) (v3_11 : Int32) (x0_11 : Int32) (x1_11 : Int32), m_X9_behind_52_in35 N σ v0 v1 v2_11 v3_11 x0_11 x1_11 = some res → ∀ (H : Heap) (locs : List Loc) (ls : Array Slot), va_P D zclM (zwM ad cI cJ cZ cO σ) H → va_D A (zwM ad cI cJ cZ cO σ) → va_S A s.heap H locs → lv_has ls 7 [(1, .int v1), (2, .int v2_11), (3, .int v3_11)] → W p l e (zR 2 41) s m args below meth c H locs 0 0 Q (F0 m 52 ls [.int x1_11, .int x0_11]) := by
      intro v2_11 v3_11 x0_11 x1_11 hm H locs ls hP hD hS hl
      unfold m_X9_behind_52_in35 at hm
      refine lv_icmp_lt (tgt := 80) hx hb dX9_behind_52 (by decide) (fun h12 => ?_) (fun h12 => ?_)
      · rw [if_pos h12] at hm
        cases hm
        exact hk _ _ _ hP hD hS (lv_sub hl [0, 1, 2] rfl)
      · rw [if_neg h12] at hm
        refine lv_iload_n hx hb dX9_behind_55 rfl (lv_at hl 1 rfl) ?_
        refine lv_iload_n hx hb dX9_behind_56 rfl (lv_at hl 2 rfl) ?_
        obtain ⟨b13, eb13, hm⟩ := Option.bind_eq_some_iff.mp hm
        refine zSi (rest := [.int v2_11]) [.int v3_11] hx hb hml hl.1 hown hT (k_X9_isLeap eb13) zkX9_isLeap zw830 ⟨by decide, by decide⟩ rfl rfl hK hZ hP hD hS rfl rfl (Nat.le_of_ble_eq_true rfl) ⟨Nat.zero_le _, Nat.zero_le _⟩ dX9_behind_57 (fun H locs hP hD hS => ?_)
        refine lv_if_eq (tgt := 69) hx hb dX9_behind_60 (by decide) (fun h14 => ?_) (fun h14 => ?_)
        · rw [if_pos h14] at hm
          refine lv_sipush (v := (365 : Int32)) hx hb dX9_behind_69 (by decide) ?_
          exact h72 v3_11 v2_11 (365 : Int32) hm _ _ _ hP hD hS (lv_sub hl [0, 2] rfl)
        · rw [if_neg h14] at hm
          refine lv_sipush (v := (366 : Int32)) hx hb dX9_behind_63 (by decide) ?_
          refine lv_goto (tgt := 72) hx hb dX9_behind_66 (by decide) ?_
          exact h72 v3_11 v2_11 (366 : Int32) hm _ _ _ hP hD hS (lv_sub hl [0, 2] rfl)
    unfold m_X9_behind_L35 at hm
    refine lv_iload_n hx hb dX9_behind_35 rfl (lv_at hl 1 rfl) ?_
    refine lv_iload_n hx hb dX9_behind_36 rfl (lv_at hl 2 rfl) ?_
    obtain ⟨b9, eb9, hm⟩ := Option.bind_eq_some_iff.mp hm
    refine zSi (rest := [.int v2_8]) [.int v3_8] hx hb hml hl.1 hown hT (k_X9_isLeap eb9) zkX9_isLeap zw830 ⟨by decide, by decide⟩ rfl rfl hK hZ hP hD hS rfl rfl (Nat.le_of_ble_eq_true rfl) ⟨Nat.zero_le _, Nat.zero_le _⟩ dX9_behind_37 (fun H locs hP hD hS => ?_)
    refine lv_if_eq (tgt := 49) hx hb dX9_behind_40 (by decide) (fun h10 => ?_) (fun h10 => ?_)
    · rw [if_pos h10] at hm
      refine lv_sipush (v := (365 : Int32)) hx hb dX9_behind_49 (by decide) ?_
      exact h52 v2_8 v3_8 v2_8 (365 : Int32) hm _ _ _ hP hD hS (lv_sub hl [0, 1, 2] rfl)
    · rw [if_neg h10] at hm
      refine lv_sipush (v := (366 : Int32)) hx hb dX9_behind_43 (by decide) ?_
      refine lv_goto (tgt := 52) hx hb dX9_behind_46 (by decide) ?_
      exact h52 v2_8 v3_8 v2_8 (366 : Int32) hm _ _ _ hP hD hS (lv_sub hl [0, 1, 2] rfl)
  have hL89 : ∀ (v2_19 : Int32) (v3_19 : Int32), ∀ (q : Int32 × Int32 × Int32) (r : Int32 × Int32), ziter (fun q : Int32 × Int32 × Int32 => m_X9_behind_L89 N σ v0 v1 v2_19 v3_19 q.1 q.2.1 q.2.2) N q = some r → (∀ (H : Heap) (locs : List Loc) (ls : Array Slot), va_P D zclM (zwM ad cI cJ cZ cO σ) H → va_D A (zwM ad cI cJ cZ cO σ) → va_S A s.heap H locs → lv_has ls 7 [(1, .int v1), (2, .int v2_19), (4, .int r.1), (6, .int r.2)] → W p l e (zR 2 41) s m args below meth c H locs 0 0 Q (F0 m 143 ls [])) → ∀ (H : Heap) (locs : List Loc) (ls : Array Slot), va_P D zclM (zwM ad cI cJ cZ cO σ) H → va_D A (zwM ad cI cJ cZ cO σ) → va_S A s.heap H locs → lv_has ls 7 [(1, .int v1), (2, .int v2_19), (3, .int v3_19), (4, .int q.1), (5, .int q.2.1), (6, .int q.2.2)] → W p l e (zR 2 41) s m args below meth c H locs 0 0 Q (F0 m 89 ls []) := by
    intro v2_19 v3_19
    intro q r
    refine ziter_W (Hd := fun q : Int32 × Int32 × Int32 => ∀ (H : Heap) (locs : List Loc) (ls : Array Slot), va_P D zclM (zwM ad cI cJ cZ cO σ) H → va_D A (zwM ad cI cJ cZ cO σ) → va_S A s.heap H locs → lv_has ls 7 [(1, .int v1), (2, .int v2_19), (3, .int v3_19), (4, .int q.1), (5, .int q.2.1), (6, .int q.2.2)] → W p l e (zR 2 41) s m args below meth c H locs 0 0 Q (F0 m 89 ls [])) (Ex := fun r : Int32 × Int32 => ∀ (H : Heap) (locs : List Loc) (ls : Array Slot), va_P D zclM (zwM ad cI cJ cZ cO σ) H → va_D A (zwM ad cI cJ cZ cO σ) → va_S A s.heap H locs → lv_has ls 7 [(1, .int v1), (2, .int v2_19), (4, .int r.1), (6, .int r.2)] → W p l e (zR 2 41) s m args below meth c H locs 0 0 Q (F0 m 143 ls [])) ?_ N q r
    rintro ⟨v4_19, v5_19, v6_19⟩ res hm hk H locs ls hP hD hS hl
    try dsimp only at hP hD hl
    replace hm : m_X9_behind_L89 N σ v0 v1 v2_19 v3_19 v4_19 v5_19 v6_19 = some res := hm
    have h135 : ∀ (v4_25 : Int32) (v5_25 : Int32) (x0_25 : Int32), m_X9_behind_135_in89 N σ v0 v1 v2_19 v3_19 v4_25 v5_25 x0_25 = some res → ∀ (H : Heap) (locs : List Loc) (ls : Array Slot), va_P D zclM (zwM ad cI cJ cZ cO σ) H → va_D A (zwM ad cI cJ cZ cO σ) → va_S A s.heap H locs → lv_has ls 7 [(1, .int v1), (2, .int v2_19), (3, .int v3_19), (4, .int v4_25), (5, .int v5_25)] → W p l e (zR 2 41) s m args below meth c H locs 0 0 Q (F0 m 135 ls [.int x0_25]) := by
      intro v4_25 v5_25 x0_25 hm H locs ls hP hD hS hl
      unfold m_X9_behind_135_in89 at hm
      refine lv_istore (lv' := [(6, .int x0_25), (1, .int v1), (2, .int v2_19), (3, .int v3_19), (4, .int v4_25), (5, .int v5_25)]) hx hb dX9_behind_135 hl (by decide) rfl (fun ls hl => ?_)
      refine lv_iinc (v := (v5_25 + (1 : Int32))) (lv' := [(5, .int (v5_25 + (1 : Int32))), (6, .int x0_25), (1, .int v1), (2, .int v2_19), (3, .int v3_19), (4, .int v4_25)]) hx hb dX9_behind_137 hl (k := 5) rfl rfl (by decide) rfl (fun ls hl => ?_)
      refine lv_goto (tgt := 89) hx hb dX9_behind_140 (by decide) ?_
      cases hm
      exact hk _ _ _ hP hD hS (lv_sub hl [2, 3, 4, 5, 0, 1] rfl)
    unfold m_X9_behind_L89 at hm
    refine lv_iload hx hb dX9_behind_89 (lv_at hl 3 rfl) ?_
    refine lv_iload_n hx hb dX9_behind_91 rfl (lv_at hl 2 rfl) ?_
    refine lv_iload hx hb dX9_behind_92 (lv_at hl 4 rfl) ?_
    obtain ⟨b20, eb20, hm⟩ := Option.bind_eq_some_iff.mp hm
    refine zSi (rest := [.int v4_19]) [.int v3_19, .int v5_19] hx hb hml hl.1 hown hT (k_X9_daysOf eb20) zkX9_daysOf zw833 ⟨by decide, by decide⟩ rfl rfl hK hZ hP hD hS rfl rfl (Nat.le_of_ble_eq_true rfl) ⟨Nat.zero_le _, Nat.zero_le _⟩ dX9_behind_94 (fun H locs hP hD hS => ?_)
    refine lv_icmp_lt (tgt := 143) hx hb dX9_behind_97 (by decide) (fun h21 => ?_) (fun h21 => ?_)
    · rw [if_pos h21] at hm
      cases hm
      exact hk _ _ _ hP hD hS (lv_sub hl [0, 1, 3, 5] rfl)
    · rw [if_neg h21] at hm
      refine lv_iload hx hb dX9_behind_100 (lv_at hl 3 rfl) ?_
      refine lv_iload_n hx hb dX9_behind_102 rfl (lv_at hl 2 rfl) ?_
      refine lv_iload hx hb dX9_behind_103 (lv_at hl 4 rfl) ?_
      obtain ⟨b22, eb22, hm⟩ := Option.bind_eq_some_iff.mp hm
      refine zSi (rest := [.int v4_19]) [.int v3_19, .int v5_19] hx hb hml hl.1 hown hT (k_X9_daysOf eb22) zkX9_daysOf zw833 ⟨by decide, by decide⟩ rfl rfl hK hZ hP hD hS rfl rfl (Nat.le_of_ble_eq_true rfl) ⟨Nat.zero_le _, Nat.zero_le _⟩ dX9_behind_105 (fun H locs hP hD hS => ?_)
      refine lv_isub hx hb dX9_behind_108 ?_
      refine lv_istore (lv' := [(4, .int (v4_19 - b22)), (1, .int v1), (2, .int v2_19), (3, .int v3_19), (5, .int v5_19), (6, .int v6_19)]) hx hb dX9_behind_109 hl (by decide) rfl (fun ls hl => ?_)
      refine lv_iload hx hb dX9_behind_111 (lv_at hl 5 rfl) ?_
      refine lv_iload_n hx hb dX9_behind_113 rfl (lv_at hl 3 rfl) ?_
      refine lv_iload hx hb dX9_behind_114 (lv_at hl 4 rfl) ?_
      obtain ⟨b23, eb23, hm⟩ := Option.bind_eq_some_iff.mp hm
      refine zSi (rest := [.int v6_19]) [.int v3_19, .int v5_19] hx hb hml hl.1 hown hT (k_X9_daysOf eb23) zkX9_daysOf zw833 ⟨by decide, by decide⟩ rfl rfl hK hZ hP hD hS rfl rfl (Nat.le_of_ble_eq_true rfl) ⟨Nat.zero_le _, Nat.zero_le _⟩ dX9_behind_116 (fun H locs hP hD hS => ?_)
      refine lv_iadd hx hb dX9_behind_119 ?_
      refine lv_istore (lv' := [(6, .int (v6_19 + b23)), (4, .int (v4_19 - b22)), (1, .int v1), (2, .int v2_19), (3, .int v3_19), (5, .int v5_19)]) hx hb dX9_behind_120 hl (by decide) rfl (fun ls hl => ?_)
      refine lv_iload hx hb dX9_behind_122 (lv_at hl 5 rfl) ?_
      refine lv_iconst (v := (3 : Int32)) hx hb dX9_behind_124 (by decide) ?_
      refine lv_irem hx hb dX9_behind_125 (by decide) ?_
      refine lv_if_ne (tgt := 133) hx hb dX9_behind_126 (by decide) (fun h24 => ?_) (fun h24 => ?_)
      · rw [if_neg h24] at hm
        refine lv_iload hx hb dX9_behind_133 (lv_at hl 0 rfl) ?_
        exact h135 (v4_19 - b22) v5_19 (v6_19 + b23) hm _ _ _ hP hD hS (lv_sub hl [2, 3, 4, 1, 5] rfl)
      · rw [if_pos h24] at hm
        refine lv_iconst (v := (0 : Int32)) hx hb dX9_behind_129 (by decide) ?_
        refine lv_goto (tgt := 135) hx hb dX9_behind_130 (by decide) ?_
        exact h135 (v4_19 - b22) v5_19 (0 : Int32) hm _ _ _ hP hD hS (lv_sub hl [2, 3, 4, 1, 5] rfl)
  have h143 : ∀ (v2_28 : Int32) (v4_28 : Int32) (v6_28 : Int32), m_X9_behind_143 N σ v0 v1 v2_28 v4_28 v6_28 = some r → ∀ (H : Heap) (locs : List Loc) (ls : Array Slot), va_P D zclM (zwM ad cI cJ cZ cO σ) H → va_D A (zwM ad cI cJ cZ cO σ) → va_S A s.heap H locs → lv_has ls 7 [(1, .int v1), (2, .int v2_28), (4, .int v4_28), (6, .int v6_28)] → W p l e (zR 2 41) s m args below meth c H locs 0 0 Q (F0 m 143 ls []) := by
    intro v2_28 v4_28 v6_28 hm H locs ls hP hD hS hl
    unfold m_X9_behind_143 at hm
    refine lv_iload_n hx hb dX9_behind_143 rfl (lv_at hl 0 rfl) ?_
    refine lv_iconst (v := (2 : Int32)) hx hb dX9_behind_144 (by decide) ?_
    refine lv_icmp_ne (tgt := 153) hx hb dX9_behind_145 (by decide) (fun h29 => ?_) (fun h29 => ?_)
    · rw [if_neg h29] at hm
      refine lv_iload_n hx hb dX9_behind_153 rfl (lv_at hl 0 rfl) ?_
      refine lv_iconst (v := (3 : Int32)) hx hb dX9_behind_154 (by decide) ?_
      refine lv_icmp_ne (tgt := 166) hx hb dX9_behind_155 (by decide) (fun h30 => ?_) (fun h30 => ?_)
      · rw [if_neg h30] at hm
        refine lv_iload_n hx hb dX9_behind_166 rfl (lv_at hl 1 rfl) ?_
        cases hm
        exact hret _ _ _ _ dX9_behind_167 hP hD hS
      · rw [if_pos h30] at hm
        refine lv_iload hx hb dX9_behind_158 (lv_at hl 2 rfl) ?_
        refine lv_iload hx hb dX9_behind_160 (lv_at hl 3 rfl) ?_
        refine lv_iadd hx hb dX9_behind_162 ?_
        refine lv_goto (tgt := 167) hx hb dX9_behind_163 (by decide) ?_
        cases hm
        exact hret _ _ _ _ dX9_behind_167 hP hD hS
    · rw [if_pos h29] at hm
      refine lv_iload hx hb dX9_behind_148 (lv_at hl 2 rfl) ?_
      refine lv_goto (tgt := 167) hx hb dX9_behind_150 (by decide) ?_
      cases hm
      exact hret _ _ _ _ dX9_behind_167 hP hD hS
  have h80 : ∀ (v2_18 : Int32) (v3_18 : Int32), m_X9_behind_80 N σ v0 v1 v2_18 v3_18 = some r → ∀ (H : Heap) (locs : List Loc) (ls : Array Slot), va_P D zclM (zwM ad cI cJ cZ cO σ) H → va_D A (zwM ad cI cJ cZ cO σ) → va_S A s.heap H locs → lv_has ls 7 [(1, .int v1), (2, .int v2_18), (3, .int v3_18)] → W p l e (zR 2 41) s m args below meth c H locs 0 0 Q (F0 m 80 ls []) := by
    intro v2_18 v3_18 hm H locs ls hP hD hS hl
    unfold m_X9_behind_80 at hm
    refine lv_iload_n hx hb dX9_behind_80 rfl (lv_at hl 1 rfl) ?_
    refine lv_istore (lv' := [(4, .int v2_18), (1, .int v1), (2, .int v2_18), (3, .int v3_18)]) hx hb dX9_behind_81 hl (by decide) rfl (fun ls hl => ?_)
    refine lv_iconst (v := (1 : Int32)) hx hb dX9_behind_83 (by decide) ?_
    refine lv_istore (lv' := [(5, .int (1 : Int32)), (4, .int v2_18), (1, .int v1), (2, .int v2_18), (3, .int v3_18)]) hx hb dX9_behind_84 hl (by decide) rfl (fun ls hl => ?_)
    refine lv_iconst (v := (0 : Int32)) hx hb dX9_behind_86 (by decide) ?_
    refine lv_istore (lv' := [(6, .int (0 : Int32)), (5, .int (1 : Int32)), (4, .int v2_18), (1, .int v1), (2, .int v2_18), (3, .int v3_18)]) hx hb dX9_behind_87 hl (by decide) rfl (fun ls hl => ?_)
    obtain ⟨r26, e31, hm⟩ := Option.bind_eq_some_iff.mp hm
    refine hL89 v2_18 v3_18 _ r26 e31 ?_ _ _ _ hP hD hS (lv_sub hl [3, 4, 5, 2, 1, 0] rfl)
    obtain ⟨v4_27, v6_27⟩ := r26
    intro H locs ls hP hD hS hl
    try dsimp only at hP hD hl
    replace hm : m_X9_behind_143 N σ v0 v1 v2_18 v4_27 v6_27 = some r := hm
    exact h143 v2_18 v4_27 v6_27 hm _ _ _ hP hD hS (lv_sub hl [0, 1, 2, 3] rfl)
  unfold m_X9_behind at hm
  refine lv_iload_n hx hb dX9_behind_0 rfl (lv_at hl 0 rfl) ?_
  refine lv_istore_n (lv' := [(2, .int v0), (0, .int v0), (1, .int v1)]) hx hb dX9_behind_1 rfl hl (by decide) rfl (fun ls hl => ?_)
  refine lv_sipush (v := (1970 : Int32)) hx hb dX9_behind_2 (by decide) ?_
  refine lv_istore_n (lv' := [(3, .int (1970 : Int32)), (2, .int v0), (0, .int v0), (1, .int v1)]) hx hb dX9_behind_5 rfl hl (by decide) rfl (fun ls hl => ?_)
  obtain ⟨r6, e33, hm⟩ := Option.bind_eq_some_iff.mp hm
  refine hL6  _ r6 e33 ?_ _ _ _ hP hD hS (lv_sub hl [3, 1, 0] rfl)
  obtain ⟨v2_7, v3_7⟩ := r6
  intro H locs ls hP hD hS hl
  try dsimp only at hP hD hl
  replace hm : (ziter (fun q : Int32 × Int32 => m_X9_behind_L35 N σ v0 v1 q.1 q.2) N (v2_7, v3_7)).bind (fun y : Int32 × Int32 => m_X9_behind_80 N σ v0 v1 y.1 y.2) = some r := hm
  obtain ⟨r16, e32, hm⟩ := Option.bind_eq_some_iff.mp hm
  refine hL35  _ r16 e32 ?_ _ _ _ hP hD hS (lv_sub hl [0, 1, 2] rfl)
  obtain ⟨v2_17, v3_17⟩ := r16
  intro H locs ls hP hD hS hl
  try dsimp only at hP hD hl
  replace hm : m_X9_behind_80 N σ v0 v1 v2_17 v3_17 = some r := hm
  exact h80 v2_17 v3_17 hm _ _ _ hP hD hS (lv_sub hl [0, 1, 2] rfl)
set_option maxHeartbeats 4000000 in
set_option maxRecDepth 100000 in
theorem k_X9_modulo {l : Launch} {D : va_G} {ad : Nat → Nat} {cI cJ cZ cO : ClassId} {t : Nat} {A : Nat → Prop} {N : Nat} {σ : zS} {v0 : Int32} {v1 : Int32} {r : Int32}  (hm : m_X9_modulo N σ v0 v1 = some r) : zCi l yX9_modulo cX9_modulo 3 (some .int) (zR 0 0) D zclM (zty cI cJ cZ cO) t A (zwM ad cI cJ cZ cO) [.int v0, .int v1] σ σ r := by
  refine zMi (by decide) (Nat.le_of_ble_eq_true rfl) ?_
  intro p e s m args below meth c Q hx hb hml hown hT hK hZ hret hP hD hS ls hl
  replace hown : s.vm.findClass RX9 = some m.cls := hown
  replace hl : lv_has ls 3 [(0, .int v0), (1, .int v1)] := hl
  unfold m_X9_modulo at hm
  refine lv_iload_n hx hb dX9_modulo_0 rfl (lv_at hl 0 rfl) ?_
  refine lv_iload_n hx hb dX9_modulo_1 rfl (lv_at hl 1 rfl) ?_
  obtain ⟨b1, eb1, hm⟩ := Option.bind_eq_some_iff.mp hm
  refine lv_irem hx hb dX9_modulo_2 (zrm_some eb1).1 ?_
  rw [(zrm_some eb1).2]
  refine lv_istore_n (lv' := [(2, .int b1), (0, .int v0), (1, .int v1)]) hx hb dX9_modulo_3 rfl hl (by decide) rfl (fun ls hl => ?_)
  refine lv_iload_n hx hb dX9_modulo_4 rfl (lv_at hl 0 rfl) ?_
  refine lv_if_ge (tgt := 14) hx hb dX9_modulo_5 (by decide) (fun h2 => ?_) (fun h2 => ?_)
  · rw [if_pos h2] at hm
    refine lv_iload_n hx hb dX9_modulo_14 rfl (lv_at hl 0 rfl) ?_
    cases hm
    exact hret _ _ _ _ dX9_modulo_15 hP hD hS
  · rw [if_neg h2] at hm
    refine lv_iload_n hx hb dX9_modulo_8 rfl (lv_at hl 0 rfl) ?_
    refine lv_iload_n hx hb dX9_modulo_9 rfl (lv_at hl 2 rfl) ?_
    refine lv_iadd hx hb dX9_modulo_10 ?_
    refine lv_goto (tgt := 15) hx hb dX9_modulo_11 (by decide) ?_
    cases hm
    exact hret _ _ _ _ dX9_modulo_15 hP hD hS
set_option maxHeartbeats 4000000 in
set_option maxRecDepth 100000 in
theorem k_X9_giveDays {l : Launch} {D : va_G} {ad : Nat → Nat} {cI cJ cZ cO : ClassId} {t : Nat} {A : Nat → Prop} {N : Nat} {σ σ' : zS} {v1 : Int32} {v2 : Int32}   (hm : m_X9_giveDays N σ v1 v2 = some σ') : zCv l yX9_giveDays cX9_giveDays 3 (none) (zR 3 67) D zclM (zty cI cJ cZ cO) t A (zwM ad cI cJ cZ cO) [.ref (ad 0), .int v1, .int v2] σ σ' := by
  refine zMv (by decide) (Nat.le_of_ble_eq_true rfl) ?_
  intro p e s m args below meth c Q hx hb hml hown hT hK hZ hret hP hD hS ls hl
  replace hown : s.vm.findClass RX9 = some m.cls := hown
  replace hl : lv_has ls 3 [(0, .ref (ad 0)), (1, .int v1), (2, .int v2)] := hl
  unfold m_X9_giveDays at hm
  refine lv_iload_n hx hb dX9_giveDays_0 rfl (lv_at hl 1 rfl) ?_
  refine lv_ldc hx hb hown (hT _ zw826) dX9_giveDays_1 ?_
  refine lv_ldc hx hb hown (hT _ zw763) dX9_giveDays_3 ?_
  obtain ⟨b1, eb1, hm⟩ := Option.bind_eq_some_iff.mp hm
  refine zSi (rest := []) [.int v1, .int (-1000000 : Int32), .int (1000000 : Int32)] hx hb hml hl.1 hown hT (k_X9_within eb1) zkX9_within zw739 ⟨by decide, by decide⟩ rfl rfl hK hZ hP hD hS rfl rfl (Nat.le_of_ble_eq_true rfl) ⟨Nat.zero_le _, Nat.zero_le _⟩ dX9_giveDays_5 (fun H locs hP hD hS => ?_)
  refine lv_if_eq (tgt := 48) hx hb dX9_giveDays_8 (by decide) (fun h2 => ?_) (fun h2 => ?_)
  · rw [if_pos h2] at hm
    cases hm
    exact hret _ _ _ _ dX9_giveDays_48 hP hD hS
  · rw [if_neg h2] at hm
    refine lv_aload_n hx hb dX9_giveDays_11 rfl (lv_at hl 0 rfl) ?_
    refine lv_iload_n hx hb dX9_giveDays_12 rfl (lv_at hl 2 rfl) ?_
    refine lv_if_ne (tgt := 20) hx hb dX9_giveDays_13 (by decide) (fun h3 => ?_) (fun h3 => ?_)
    · rw [if_neg h3] at hm
      refine lv_iload_n hx hb dX9_giveDays_20 rfl (lv_at hl 2 rfl) ?_
      refine lv_iconst (v := (1 : Int32)) hx hb dX9_giveDays_21 (by decide) ?_
      refine lv_icmp_ne (tgt := 38) hx hb dX9_giveDays_22 (by decide) (fun h4 => ?_) (fun h4 => ?_)
      · rw [if_neg h4] at hm
        refine lv_iload_n hx hb dX9_giveDays_38 rfl (lv_at hl 1 rfl) ?_
        refine lv_iload_n hx hb dX9_giveDays_39 rfl (lv_at hl 1 rfl) ?_
        refine lv_iload_n hx hb dX9_giveDays_40 rfl (lv_at hl 2 rfl) ?_
        obtain ⟨b5, eb5, hm⟩ := Option.bind_eq_some_iff.mp hm
        refine zSi (rest := [.int v1, .ref (ad 0)]) [.int v1, .int v2] hx hb hml hl.1 hown hT (k_X9_behind eb5) zkX9_behind zw827 ⟨by decide, by decide⟩ rfl rfl hK hZ hP hD hS rfl rfl (Nat.le_of_ble_eq_true rfl) ⟨Nat.zero_le _, Nat.zero_le _⟩ dX9_giveDays_41 (fun H locs hP hD hS => ?_)
        refine lv_isub hx hb dX9_giveDays_44 ?_
        obtain ⟨σ6, eσ6, hm⟩ := Option.bind_eq_some_iff.mp hm
        refine zVv (rest := []) [.int (v1 - b5)] hx hb hml hl.1 hown hT (k_X9_give eσ6) zkX9_give zw810 ⟨by decide, by decide⟩ rfl rfl hK hZ hP hD hS 0 rfl rfl rfl rfl (Nat.le_of_ble_eq_true rfl) ⟨Nat.zero_le _, Nat.zero_le _⟩ dX9_giveDays_45 (fun H locs hP hD hS => ?_)
        cases hm
        exact hret _ _ _ _ dX9_giveDays_48 hP hD hS
      · rw [if_pos h4] at hm
        refine lv_iload_n hx hb dX9_giveDays_25 rfl (lv_at hl 1 rfl) ?_
        refine lv_iload_n hx hb dX9_giveDays_26 rfl (lv_at hl 1 rfl) ?_
        refine lv_iconst (v := (3 : Int32)) hx hb dX9_giveDays_27 (by decide) ?_
        refine lv_iadd hx hb dX9_giveDays_28 ?_
        refine lv_bipush (v := (7 : Int32)) hx hb dX9_giveDays_29 (by decide) ?_
        obtain ⟨b7, eb7, hm⟩ := Option.bind_eq_some_iff.mp hm
        refine zSi (rest := [.int v1, .ref (ad 0)]) [.int (v1 + (3 : Int32)), .int (7 : Int32)] hx hb hml hl.1 hown hT (k_X9_modulo eb7) zkX9_modulo zw819 ⟨by decide, by decide⟩ rfl rfl hK hZ hP hD hS rfl rfl (Nat.le_of_ble_eq_true rfl) ⟨Nat.zero_le _, Nat.zero_le _⟩ dX9_giveDays_31 (fun H locs hP hD hS => ?_)
        refine lv_isub hx hb dX9_giveDays_34 ?_
        refine lv_goto (tgt := 45) hx hb dX9_giveDays_35 (by decide) ?_
        obtain ⟨σ8, eσ8, hm⟩ := Option.bind_eq_some_iff.mp hm
        refine zVv (rest := []) [.int (v1 - b7)] hx hb hml hl.1 hown hT (k_X9_give eσ8) zkX9_give zw810 ⟨by decide, by decide⟩ rfl rfl hK hZ hP hD hS 0 rfl rfl rfl rfl (Nat.le_of_ble_eq_true rfl) ⟨Nat.zero_le _, Nat.zero_le _⟩ dX9_giveDays_45 (fun H locs hP hD hS => ?_)
        cases hm
        exact hret _ _ _ _ dX9_giveDays_48 hP hD hS
    · rw [if_pos h3] at hm
      refine lv_iload_n hx hb dX9_giveDays_16 rfl (lv_at hl 1 rfl) ?_
      refine lv_goto (tgt := 45) hx hb dX9_giveDays_17 (by decide) ?_
      obtain ⟨σ9, eσ9, hm⟩ := Option.bind_eq_some_iff.mp hm
      refine zVv (rest := []) [.int v1] hx hb hml hl.1 hown hT (k_X9_give eσ9) zkX9_give zw810 ⟨by decide, by decide⟩ rfl rfl hK hZ hP hD hS 0 rfl rfl rfl rfl (Nat.le_of_ble_eq_true rfl) ⟨Nat.zero_le _, Nat.zero_le _⟩ dX9_giveDays_45 (fun H locs hP hD hS => ?_)
      cases hm
      exact hret _ _ _ _ dX9_giveDays_48 hP hD hS
set_option maxHeartbeats 4000000 in
set_option maxRecDepth 100000 in
theorem k_X9_giveKeys {l : Launch} {D : va_G} {ad : Nat → Nat} {cI cJ cZ cO : ClassId} {t : Nat} {A : Nat → Prop} {N : Nat} {σ σ' : zS} {v1 : Int32} {v2 : Int32}   (hm : m_X9_giveKeys N σ v1 v2 = some σ') : zCv l yX9_giveKeys cX9_giveKeys 4 (none) (zR 4 89) D zclM (zty cI cJ cZ cO) t A (zwM ad cI cJ cZ cO) [.ref (ad 0), .int v1, .int v2] σ σ' := by
  refine zMv (by decide) (Nat.le_of_ble_eq_true rfl) ?_
  intro p e s m args below meth c Q hx hb hml hown hT hK hZ hret hP hD hS ls hl
  replace hown : s.vm.findClass RX9 = some m.cls := hown
  replace hl : lv_has ls 4 [(0, .ref (ad 0)), (1, .int v1), (2, .int v2)] := hl
  have hL58 : ∀ (q : zS × Int32) (r : zS), ziter (fun q : zS × Int32 => m_X9_giveKeys_L58 N v1 v2 q.1 q.2) N q = some r → (∀ (H : Heap) (locs : List Loc) (ls : Array Slot), va_P D zclM (zwM ad cI cJ cZ cO r) H → va_D A (zwM ad cI cJ cZ cO r) → va_S A s.heap H locs → lv_has ls 4 [] → W p l e (zR 4 89) s m args below meth c H locs 0 0 Q (F0 m 108 ls [])) → ∀ (H : Heap) (locs : List Loc) (ls : Array Slot), va_P D zclM (zwM ad cI cJ cZ cO q.1) H → va_D A (zwM ad cI cJ cZ cO q.1) → va_S A s.heap H locs → lv_has ls 4 [(0, .ref (ad 0)), (1, .int v1), (2, .int v2), (3, .int q.2)] → W p l e (zR 4 89) s m args below meth c H locs 0 0 Q (F0 m 58 ls []) := by
    intro q r
    refine ziter_W (Hd := fun q : zS × Int32 => ∀ (H : Heap) (locs : List Loc) (ls : Array Slot), va_P D zclM (zwM ad cI cJ cZ cO q.1) H → va_D A (zwM ad cI cJ cZ cO q.1) → va_S A s.heap H locs → lv_has ls 4 [(0, .ref (ad 0)), (1, .int v1), (2, .int v2), (3, .int q.2)] → W p l e (zR 4 89) s m args below meth c H locs 0 0 Q (F0 m 58 ls [])) (Ex := fun r : zS => ∀ (H : Heap) (locs : List Loc) (ls : Array Slot), va_P D zclM (zwM ad cI cJ cZ cO r) H → va_D A (zwM ad cI cJ cZ cO r) → va_S A s.heap H locs → lv_has ls 4 [] → W p l e (zR 4 89) s m args below meth c H locs 0 0 Q (F0 m 108 ls [])) ?_ N q r
    rintro ⟨σ8, v3_8⟩ res hm hk H locs ls hP hD hS hl
    try dsimp only at hP hD hl
    replace hm : m_X9_giveKeys_L58 N v1 v2 σ8 v3_8 = some res := hm
    have h102 : ∀ (σ15 : zS) (v3_15 : Int32), m_X9_giveKeys_102_in58 N v1 v2 σ15 v3_15 = some res → ∀ (H : Heap) (locs : List Loc) (ls : Array Slot), va_P D zclM (zwM ad cI cJ cZ cO σ15) H → va_D A (zwM ad cI cJ cZ cO σ15) → va_S A s.heap H locs → lv_has ls 4 [(0, .ref (ad 0)), (1, .int v1), (2, .int v2), (3, .int v3_15)] → W p l e (zR 4 89) s m args below meth c H locs 0 0 Q (F0 m 102 ls []) := by
      intro σ15 v3_15 hm H locs ls hP hD hS hl
      unfold m_X9_giveKeys_102_in58 at hm
      refine lv_iinc (v := (v3_15 + (1 : Int32))) (lv' := [(3, .int (v3_15 + (1 : Int32))), (0, .ref (ad 0)), (1, .int v1), (2, .int v2)]) hx hb dX9_giveKeys_102 hl (k := 3) rfl rfl (by decide) rfl (fun ls hl => ?_)
      refine lv_goto (tgt := 58) hx hb dX9_giveKeys_105 (by decide) ?_
      cases hm
      exact hk _ _ _ hP hD hS (lv_sub hl [1, 2, 3, 0] rfl)
    unfold m_X9_giveKeys_L58 at hm
    refine lv_iload_n hx hb dX9_giveKeys_58 rfl (lv_at hl 3 rfl) ?_
    refine lv_aload_n hx hb dX9_giveKeys_59 rfl (lv_at hl 0 rfl) ?_
    refine zget (v := .ref (ad 8)) hx hb hT zinX9 hown hK hP 0 rfl rfl 9 (by decide) zw631 rfl dX9_giveKeys_60 ?_
    refine lv_iload_n hx hb dX9_giveKeys_63 rfl (lv_at hl 1 rfl) ?_
    obtain ⟨b9, eb9, hm⟩ := Option.bind_eq_some_iff.mp hm
    refine ziald hx hb hK hP 8 0 rfl rfl eb9 dX9_giveKeys_64 ?_
    refine lv_icmp_ge (tgt := 108) hx hb dX9_giveKeys_65 (by decide) (fun h10 => ?_) (fun h10 => ?_)
    · rw [if_pos h10] at hm
      cases hm
      exact hk _ _ _ hP hD hS (lv_sub hl [] rfl)
    · rw [if_neg h10] at hm
      refine lv_iload_n hx hb dX9_giveKeys_68 rfl (lv_at hl 2 rfl) ?_
      refine lv_aload_n hx hb dX9_giveKeys_69 rfl (lv_at hl 0 rfl) ?_
      refine zget (v := .ref (ad 9)) hx hb hT zinX9 hown hK hP 0 rfl rfl 10 (by decide) zw632 rfl dX9_giveKeys_70 ?_
      refine lv_bipush (v := (6 : Int32)) hx hb dX9_giveKeys_73 (by decide) ?_
      refine lv_iload_n hx hb dX9_giveKeys_75 rfl (lv_at hl 1 rfl) ?_
      refine lv_imul hx hb dX9_giveKeys_76 ?_
      refine lv_iload_n hx hb dX9_giveKeys_77 rfl (lv_at hl 3 rfl) ?_
      refine lv_iadd hx hb dX9_giveKeys_78 ?_
      obtain ⟨b11, eb11, hm⟩ := Option.bind_eq_some_iff.mp hm
      refine ziald hx hb hK hP 9 0 rfl rfl eb11 dX9_giveKeys_79 ?_
      refine lv_aload_n hx hb dX9_giveKeys_80 rfl (lv_at hl 0 rfl) ?_
      refine zget (v := .ref (ad 10)) hx hb hT zinX9 hown hK hP 0 rfl rfl 11 (by decide) zw633 rfl dX9_giveKeys_81 ?_
      refine lv_bipush (v := (6 : Int32)) hx hb dX9_giveKeys_84 (by decide) ?_
      refine lv_iload_n hx hb dX9_giveKeys_86 rfl (lv_at hl 1 rfl) ?_
      refine lv_imul hx hb dX9_giveKeys_87 ?_
      refine lv_iload_n hx hb dX9_giveKeys_88 rfl (lv_at hl 3 rfl) ?_
      refine lv_iadd hx hb dX9_giveKeys_89 ?_
      obtain ⟨b12, eb12, hm⟩ := Option.bind_eq_some_iff.mp hm
      refine ziald hx hb hK hP 10 0 rfl rfl eb12 dX9_giveKeys_90 ?_
      obtain ⟨b13, eb13, hm⟩ := Option.bind_eq_some_iff.mp hm
      refine zSi (rest := []) [.int v2, .int b11, .int b12] hx hb hml hl.1 hown hT (k_X9_within eb13) zkX9_within zw739 ⟨by decide, by decide⟩ rfl rfl hK hZ hP hD hS rfl rfl (Nat.le_of_ble_eq_true rfl) ⟨Nat.zero_le _, Nat.zero_le _⟩ dX9_giveKeys_91 (fun H locs hP hD hS => ?_)
      refine lv_if_eq (tgt := 102) hx hb dX9_giveKeys_94 (by decide) (fun h14 => ?_) (fun h14 => ?_)
      · rw [if_pos h14] at hm
        exact h102 σ8 v3_8 hm _ _ _ hP hD hS (lv_sub hl [0, 1, 2, 3] rfl)
      · rw [if_neg h14] at hm
        refine lv_aload_n hx hb dX9_giveKeys_97 rfl (lv_at hl 0 rfl) ?_
        refine lv_iload_n hx hb dX9_giveKeys_98 rfl (lv_at hl 3 rfl) ?_
        obtain ⟨σ16, eσ16, hm⟩ := Option.bind_eq_some_iff.mp hm
        refine zVv (rest := []) [.int v3_8] hx hb hml hl.1 hown hT (k_X9_give eσ16) zkX9_give zw810 ⟨by decide, by decide⟩ rfl rfl hK hZ hP hD hS 0 rfl rfl rfl rfl (Nat.le_of_ble_eq_true rfl) ⟨Nat.zero_le _, Nat.zero_le _⟩ dX9_giveKeys_99 (fun H locs hP hD hS => ?_)
        exact h102 σ16 v3_8 hm _ _ _ hP hD hS (lv_sub hl [0, 1, 2, 3] rfl)
  have h108 : ∀ (σ19 : zS), m_X9_giveKeys_108 N v1 v2 σ19 = some σ' → ∀ (H : Heap) (locs : List Loc) (ls : Array Slot), va_P D zclM (zwM ad cI cJ cZ cO σ19) H → va_D A (zwM ad cI cJ cZ cO σ19) → va_S A s.heap H locs → lv_has ls 4 [] → W p l e (zR 4 89) s m args below meth c H locs 0 0 Q (F0 m 108 ls []) := by
    intro σ19 hm H locs ls hP hD hS hl
    unfold m_X9_giveKeys_108 at hm
    refine lv_goto (tgt := 148) hx hb dX9_giveKeys_108 (by decide) ?_
    cases hm
    exact hret _ _ _ _ dX9_giveKeys_148 hP hD hS
  unfold m_X9_giveKeys at hm
  refine lv_aload_n hx hb dX9_giveKeys_0 rfl (lv_at hl 0 rfl) ?_
  refine lv_iconst (v := (0 : Int32)) hx hb dX9_giveKeys_1 (by decide) ?_
  obtain ⟨σ1, eσ1, hm⟩ := Option.bind_eq_some_iff.mp hm
  refine zput (j := 3) (ty := .int) hx hb hT zinX9 tyX9 tyX9_ok nmX9 hown hK hP hD hS 0 rfl rfl 21 (by decide) zw643 rfl (by decide +kernel) rfl rfl (Nat.le_of_ble_eq_true rfl) eσ1 rfl dX9_giveKeys_2 (fun H locs hP hD hS => ?_)
  refine lv_aload_n hx hb dX9_giveKeys_5 rfl (lv_at hl 0 rfl) ?_
  refine zget (v := .ref (ad 4)) hx hb hT zinX9 hown hK hP 0 rfl rfl 5 (by decide) zw627 rfl dX9_giveKeys_6 ?_
  refine lv_iload_n hx hb dX9_giveKeys_9 rfl (lv_at hl 1 rfl) ?_
  obtain ⟨b2, eb2, hm⟩ := Option.bind_eq_some_iff.mp hm
  refine ziald hx hb hK hP 4 0 rfl rfl eb2 dX9_giveKeys_10 ?_
  by_cases h3 : b2 = (0 : Int32)
  · rw [if_pos h3] at hm
    refine lv_tableIn (off := 29) (tgt := 40) hx hb dX9_giveKeys_11 (by rw [h3]; decide) (by rw [h3]; decide) (by rw [h3]; rfl) (by decide) ?_
    refine lv_aload_n hx hb dX9_giveKeys_40 rfl (lv_at hl 0 rfl) ?_
    refine lv_iload_n hx hb dX9_giveKeys_41 rfl (lv_at hl 2 rfl) ?_
    obtain ⟨σ4, eσ4, hm⟩ := Option.bind_eq_some_iff.mp hm
    refine zVv (rest := []) [.int v2] hx hb hml hl.1 hown hT (k_X9_give eσ4) zkX9_give zw810 ⟨by decide, by decide⟩ rfl rfl hK hZ hP hD hS 0 rfl rfl rfl rfl (Nat.le_of_ble_eq_true rfl) ⟨Nat.zero_le _, Nat.zero_le _⟩ dX9_giveKeys_42 (fun H locs hP hD hS => ?_)
    refine lv_goto (tgt := 148) hx hb dX9_giveKeys_45 (by decide) ?_
    cases hm
    exact hret _ _ _ _ dX9_giveKeys_148 hP hD hS
  · rw [if_neg h3] at hm
    by_cases h5 : b2 = (1 : Int32)
    · rw [if_pos h5] at hm
      refine lv_tableIn (off := 37) (tgt := 48) hx hb dX9_giveKeys_11 (by rw [h5]; decide) (by rw [h5]; decide) (by rw [h5]; rfl) (by decide) ?_
      refine lv_aload_n hx hb dX9_giveKeys_48 rfl (lv_at hl 0 rfl) ?_
      refine lv_iload_n hx hb dX9_giveKeys_49 rfl (lv_at hl 2 rfl) ?_
      obtain ⟨σ6, eσ6, hm⟩ := Option.bind_eq_some_iff.mp hm
      refine zVv (rest := []) [.int v2] hx hb hml hl.1 hown hT (k_X9_givePaths eσ6) zkX9_givePaths zw814 ⟨by decide, by decide⟩ rfl rfl hK hZ hP hD hS 0 rfl rfl rfl rfl (Nat.le_of_ble_eq_true rfl) ⟨Nat.zero_le _, Nat.zero_le _⟩ dX9_giveKeys_50 (fun H locs hP hD hS => ?_)
      refine lv_goto (tgt := 148) hx hb dX9_giveKeys_53 (by decide) ?_
      cases hm
      exact hret _ _ _ _ dX9_giveKeys_148 hP hD hS
    · rw [if_neg h5] at hm
      by_cases h7 : b2 = (2 : Int32)
      · rw [if_pos h7] at hm
        refine lv_tableIn (off := 45) (tgt := 56) hx hb dX9_giveKeys_11 (by rw [h7]; decide) (by rw [h7]; decide) (by rw [h7]; rfl) (by decide) ?_
        refine lv_iconst (v := (0 : Int32)) hx hb dX9_giveKeys_56 (by decide) ?_
        refine lv_istore_n (lv' := [(3, .int (0 : Int32)), (0, .ref (ad 0)), (1, .int v1), (2, .int v2)]) hx hb dX9_giveKeys_57 rfl hl (by decide) rfl (fun ls hl => ?_)
        obtain ⟨σ18, e20, hm⟩ := Option.bind_eq_some_iff.mp hm
        refine hL58  _ σ18 e20 ?_ _ _ _ hP hD hS (lv_sub hl [1, 2, 3, 0] rfl)
        intro H locs ls hP hD hS hl
        try dsimp only at hP hD hl
        replace hm : m_X9_giveKeys_108 N v1 v2 σ18 = some σ' := hm
        exact h108 σ18 hm _ _ _ hP hD hS (lv_sub hl [] rfl)
      · rw [if_neg h7] at hm
        by_cases h21 : b2 = (3 : Int32)
        · rw [if_pos h21] at hm
          refine lv_tableIn (off := 100) (tgt := 111) hx hb dX9_giveKeys_11 (by rw [h21]; decide) (by rw [h21]; decide) (by rw [h21]; rfl) (by decide) ?_
          refine lv_aload_n hx hb dX9_giveKeys_111 rfl (lv_at hl 0 rfl) ?_
          refine lv_iload_n hx hb dX9_giveKeys_112 rfl (lv_at hl 2 rfl) ?_
          refine lv_iload_n hx hb dX9_giveKeys_113 rfl (lv_at hl 2 rfl) ?_
          refine lv_aload_n hx hb dX9_giveKeys_114 rfl (lv_at hl 0 rfl) ?_
          refine zget (v := .ref (ad 7)) hx hb hT zinX9 hown hK hP 0 rfl rfl 8 (by decide) zw630 rfl dX9_giveKeys_115 ?_
          refine lv_iload_n hx hb dX9_giveKeys_118 rfl (lv_at hl 1 rfl) ?_
          obtain ⟨b22, eb22, hm⟩ := Option.bind_eq_some_iff.mp hm
          refine ziald hx hb hK hP 7 0 rfl rfl eb22 dX9_giveKeys_119 ?_
          refine lv_isub hx hb dX9_giveKeys_120 ?_
          refine lv_aload_n hx hb dX9_giveKeys_121 rfl (lv_at hl 0 rfl) ?_
          refine zget (v := .ref (ad 6)) hx hb hT zinX9 hown hK hP 0 rfl rfl 7 (by decide) zw629 rfl dX9_giveKeys_122 ?_
          refine lv_iload_n hx hb dX9_giveKeys_125 rfl (lv_at hl 1 rfl) ?_
          obtain ⟨b23, eb23, hm⟩ := Option.bind_eq_some_iff.mp hm
          refine ziald hx hb hK hP 6 0 rfl rfl eb23 dX9_giveKeys_126 ?_
          obtain ⟨b24, eb24, hm⟩ := Option.bind_eq_some_iff.mp hm
          refine zSi (rest := [.int v2, .ref (ad 0)]) [.int (v2 - b22), .int b23] hx hb hml hl.1 hown hT (k_X9_modulo eb24) zkX9_modulo zw819 ⟨by decide, by decide⟩ rfl rfl hK hZ hP hD hS rfl rfl (Nat.le_of_ble_eq_true rfl) ⟨Nat.zero_le _, Nat.zero_le _⟩ dX9_giveKeys_127 (fun H locs hP hD hS => ?_)
          refine lv_isub hx hb dX9_giveKeys_130 ?_
          obtain ⟨σ25, eσ25, hm⟩ := Option.bind_eq_some_iff.mp hm
          refine zVv (rest := []) [.int (v2 - b24)] hx hb hml hl.1 hown hT (k_X9_give eσ25) zkX9_give zw810 ⟨by decide, by decide⟩ rfl rfl hK hZ hP hD hS 0 rfl rfl rfl rfl (Nat.le_of_ble_eq_true rfl) ⟨Nat.zero_le _, Nat.zero_le _⟩ dX9_giveKeys_131 (fun H locs hP hD hS => ?_)
          refine lv_goto (tgt := 148) hx hb dX9_giveKeys_134 (by decide) ?_
          cases hm
          exact hret _ _ _ _ dX9_giveKeys_148 hP hD hS
        · rw [if_neg h21] at hm
          have ah3 := lv_neT (a := 0) h3 (by decide)
          have ah5 := lv_neT (a := 1) h5 (by decide)
          have ah7 := lv_neT (a := 2) h7 (by decide)
          have ah21 := lv_neT (a := 3) h21 (by decide)
          refine lv_tableOut (tgt := 137) hx hb dX9_giveKeys_11 (by omega) (by decide) ?_
          refine lv_aload_n hx hb dX9_giveKeys_137 rfl (lv_at hl 0 rfl) ?_
          refine lv_iload_n hx hb dX9_giveKeys_138 rfl (lv_at hl 2 rfl) ?_
          refine lv_aload_n hx hb dX9_giveKeys_139 rfl (lv_at hl 0 rfl) ?_
          refine zget (v := .ref (ad 6)) hx hb hT zinX9 hown hK hP 0 rfl rfl 7 (by decide) zw629 rfl dX9_giveKeys_140 ?_
          refine lv_iload_n hx hb dX9_giveKeys_143 rfl (lv_at hl 1 rfl) ?_
          obtain ⟨b26, eb26, hm⟩ := Option.bind_eq_some_iff.mp hm
          refine ziald hx hb hK hP 6 0 rfl rfl eb26 dX9_giveKeys_144 ?_
          obtain ⟨σ27, eσ27, hm⟩ := Option.bind_eq_some_iff.mp hm
          refine zVv (rest := []) [.int v2, .int b26] hx hb hml hl.1 hown hT (k_X9_giveDays eσ27) zkX9_giveDays zw822 ⟨by decide, by decide⟩ rfl rfl hK hZ hP hD hS 0 rfl rfl rfl rfl (Nat.le_of_ble_eq_true rfl) ⟨Nat.zero_le _, Nat.zero_le _⟩ dX9_giveKeys_145 (fun H locs hP hD hS => ?_)
          cases hm
          exact hret _ _ _ _ dX9_giveKeys_148 hP hD hS
set_option maxHeartbeats 4000000 in
set_option maxRecDepth 100000 in
theorem k_X9_atHand {l : Launch} {D : va_G} {ad : Nat → Nat} {cI cJ cZ cO : ClassId} {t : Nat} {A : Nat → Prop} {N : Nat} {σ : zS} {v1 : Int32} {r : Int32}  (hm : m_X9_atHand N σ v1 = some r) : zCi l yX9_atHand cX9_atHand 2 (some .boolean) (zR 0 0) D zclM (zty cI cJ cZ cO) t A (zwM ad cI cJ cZ cO) [.ref (ad 0), .int v1] σ σ r := by
  refine zMz (by decide) (Nat.le_of_ble_eq_true rfl) ?_
  intro p e s m args below meth c Q hx hb hml hown hT hK hZ hret hP hD hS ls hl
  replace hown : s.vm.findClass RX9 = some m.cls := hown
  replace hl : lv_has ls 2 [(0, .ref (ad 0)), (1, .int v1)] := hl
  unfold m_X9_atHand at hm
  refine lv_aload_n hx hb dX9_atHand_0 rfl (lv_at hl 0 rfl) ?_
  refine zget (v := .int (σ.1 2)) hx hb hT zinX9 hown hK hP 0 rfl rfl 19 (by decide) zw641 rfl dX9_atHand_1 ?_
  refine lv_if_ne (tgt := 16) hx hb dX9_atHand_4 (by decide) (fun h1 => ?_) (fun h1 => ?_)
  · rw [if_neg h1] at hm
    refine lv_aload_n hx hb dX9_atHand_16 rfl (lv_at hl 0 rfl) ?_
    refine zget (v := .ref (ad 18)) hx hb hT zinX9 hown hK hP 0 rfl rfl 20 (by decide) zw642 rfl dX9_atHand_17 ?_
    refine lv_bipush (v := (120 : Int32)) hx hb dX9_atHand_20 (by decide) ?_
    refine lv_aload_n hx hb dX9_atHand_22 rfl (lv_at hl 0 rfl) ?_
    refine zget (v := .int (σ.1 2)) hx hb hT zinX9 hown hK hP 0 rfl rfl 19 (by decide) zw641 rfl dX9_atHand_23 ?_
    refine lv_iconst (v := (1 : Int32)) hx hb dX9_atHand_26 (by decide) ?_
    refine lv_isub hx hb dX9_atHand_27 ?_
    refine lv_imul hx hb dX9_atHand_28 ?_
    refine lv_iload_n hx hb dX9_atHand_29 rfl (lv_at hl 1 rfl) ?_
    refine lv_iadd hx hb dX9_atHand_30 ?_
    obtain ⟨b2, eb2, hm⟩ := Option.bind_eq_some_iff.mp hm
    refine zzald hx hb hK hP 18 2 rfl rfl eb2 dX9_atHand_31 ?_
    obtain ⟨b3, eb3, hm⟩ := Option.bind_eq_some_iff.mp hm
    obtain ⟨rfl, hzb3, hwb3, hfb3⟩ := zcz_all eb3
    cases hm
    exact hret _ _ _ _ hzb3 dX9_atHand_32 hP hD hS
  · rw [if_pos h1] at hm
    refine lv_aload_n hx hb dX9_atHand_7 rfl (lv_at hl 0 rfl) ?_
    refine zget (v := .ref (ad 3)) hx hb hT zinX9 hown hK hP 0 rfl rfl 3 (by decide) zw625 rfl dX9_atHand_8 ?_
    refine lv_iload_n hx hb dX9_atHand_11 rfl (lv_at hl 1 rfl) ?_
    obtain ⟨b4, eb4, hm⟩ := Option.bind_eq_some_iff.mp hm
    refine zzald hx hb hK hP 3 2 rfl rfl eb4 dX9_atHand_12 ?_
    refine lv_goto (tgt := 32) hx hb dX9_atHand_13 (by decide) ?_
    obtain ⟨b5, eb5, hm⟩ := Option.bind_eq_some_iff.mp hm
    obtain ⟨rfl, hzb5, hwb5, hfb5⟩ := zcz_all eb5
    cases hm
    exact hret _ _ _ _ hzb5 dX9_atHand_32 hP hD hS
set_option maxHeartbeats 4000000 in
set_option maxRecDepth 100000 in
theorem k_X9_counts {l : Launch} {D : va_G} {ad : Nat → Nat} {cI cJ cZ cO : ClassId} {t : Nat} {A : Nat → Prop} {N : Nat} {σ : zS} {v1 : Int32} {v2 : Int32} {r : Int32}  (hm : m_X9_counts N σ v1 v2 = some r) : zCi l yX9_counts cX9_counts 6 (some .boolean) (zR 1 22) D zclM (zty cI cJ cZ cO) t A (zwM ad cI cJ cZ cO) [.ref (ad 0), .int v1, .int v2] σ σ r := by
  refine zMz (by decide) (Nat.le_of_ble_eq_true rfl) ?_
  intro p e s m args below meth c Q hx hb hml hown hT hK hZ hret hP hD hS ls hl
  replace hown : s.vm.findClass RX9 = some m.cls := hown
  replace hl : lv_has ls 6 [(0, .ref (ad 0)), (1, .int v1), (2, .int v2)] := hl
  have hL51 : ∀ (v4_9 : Int32), ∀ (q : Int32 × Int32) (r : Int32), ziter (fun q : Int32 × Int32 => m_X9_counts_L51 N σ v1 v2 v4_9 q.1 q.2) N q = some r → (∀ (H : Heap) (locs : List Loc) (ls : Array Slot), va_P D zclM (zwM ad cI cJ cZ cO σ) H → va_D A (zwM ad cI cJ cZ cO σ) → va_S A s.heap H locs → lv_has ls 6 [(3, .int r)] → W p l e (zR 1 22) s m args below meth c H locs 0 0 Q (F0 m 101 ls [])) → ∀ (H : Heap) (locs : List Loc) (ls : Array Slot), va_P D zclM (zwM ad cI cJ cZ cO σ) H → va_D A (zwM ad cI cJ cZ cO σ) → va_S A s.heap H locs → lv_has ls 6 [(0, .ref (ad 0)), (1, .int v1), (3, .int q.1), (4, .int v4_9), (5, .int q.2)] → W p l e (zR 1 22) s m args below meth c H locs 0 0 Q (F0 m 51 ls []) := by
    intro v4_9
    intro q r
    refine ziter_W (Hd := fun q : Int32 × Int32 => ∀ (H : Heap) (locs : List Loc) (ls : Array Slot), va_P D zclM (zwM ad cI cJ cZ cO σ) H → va_D A (zwM ad cI cJ cZ cO σ) → va_S A s.heap H locs → lv_has ls 6 [(0, .ref (ad 0)), (1, .int v1), (3, .int q.1), (4, .int v4_9), (5, .int q.2)] → W p l e (zR 1 22) s m args below meth c H locs 0 0 Q (F0 m 51 ls [])) (Ex := fun r : Int32 => ∀ (H : Heap) (locs : List Loc) (ls : Array Slot), va_P D zclM (zwM ad cI cJ cZ cO σ) H → va_D A (zwM ad cI cJ cZ cO σ) → va_S A s.heap H locs → lv_has ls 6 [(3, .int r)] → W p l e (zR 1 22) s m args below meth c H locs 0 0 Q (F0 m 101 ls [])) ?_ N q r
    rintro ⟨v3_9, v5_9⟩ res hm hk H locs ls hP hD hS hl
    try dsimp only at hP hD hl
    replace hm : m_X9_counts_L51 N σ v1 v2 v4_9 v3_9 v5_9 = some res := hm
    unfold m_X9_counts_L51 at hm
    refine lv_iload hx hb dX9_counts_51 (lv_at hl 4 rfl) ?_
    refine lv_aload_n hx hb dX9_counts_53 rfl (lv_at hl 0 rfl) ?_
    refine zget (v := .ref (ad 1)) hx hb hT zinX9 hown hK hP 0 rfl rfl 1 (by decide) zw623 rfl dX9_counts_54 ?_
    refine lv_iload hx hb dX9_counts_57 (lv_at hl 3 rfl) ?_
    obtain ⟨b10, eb10, hm⟩ := Option.bind_eq_some_iff.mp hm
    refine ziald hx hb hK hP 1 0 rfl rfl eb10 dX9_counts_59 ?_
    refine lv_icmp_ge (tgt := 101) hx hb dX9_counts_60 (by decide) (fun h11 => ?_) (fun h11 => ?_)
    · rw [if_pos h11] at hm
      cases hm
      exact hk _ _ _ hP hD hS (lv_sub hl [2] rfl)
    · rw [if_neg h11] at hm
      refine lv_iload_n hx hb dX9_counts_63 rfl (lv_at hl 2 rfl) ?_
      refine lv_if_ne (tgt := 101) hx hb dX9_counts_64 (by decide) (fun h12 => ?_) (fun h12 => ?_)
      · rw [if_neg h12] at hm
        cases hm
        exact hk _ _ _ hP hD hS (lv_sub hl [2] rfl)
      · rw [if_pos h12] at hm
        refine lv_aload_n hx hb dX9_counts_67 rfl (lv_at hl 0 rfl) ?_
        refine zget (v := .ref (ad 2)) hx hb hT zinX9 hown hK hP 0 rfl rfl 2 (by decide) zw624 rfl dX9_counts_68 ?_
        refine lv_iconst (v := (3 : Int32)) hx hb dX9_counts_71 (by decide) ?_
        refine lv_iload hx hb dX9_counts_72 (lv_at hl 3 rfl) ?_
        refine lv_imul hx hb dX9_counts_74 ?_
        refine lv_iload hx hb dX9_counts_75 (lv_at hl 4 rfl) ?_
        refine lv_iadd hx hb dX9_counts_77 ?_
        obtain ⟨b13, eb13, hm⟩ := Option.bind_eq_some_iff.mp hm
        refine ziald hx hb hK hP 2 0 rfl rfl eb13 dX9_counts_78 ?_
        refine lv_aload_n hx hb dX9_counts_79 rfl (lv_at hl 0 rfl) ?_
        refine zget (v := .ref (ad 12)) hx hb hT zinX9 hown hK hP 0 rfl rfl 13 (by decide) zw635 rfl dX9_counts_80 ?_
        refine lv_iload_n hx hb dX9_counts_83 rfl (lv_at hl 1 rfl) ?_
        obtain ⟨b14, eb14, hm⟩ := Option.bind_eq_some_iff.mp hm
        refine ziald hx hb hK hP 12 0 rfl rfl eb14 dX9_counts_84 ?_
        refine lv_aload_n hx hb dX9_counts_85 rfl (lv_at hl 0 rfl) ?_
        refine zget (v := .ref (ad 13)) hx hb hT zinX9 hown hK hP 0 rfl rfl 14 (by decide) zw636 rfl dX9_counts_86 ?_
        refine lv_iload_n hx hb dX9_counts_89 rfl (lv_at hl 1 rfl) ?_
        obtain ⟨b15, eb15, hm⟩ := Option.bind_eq_some_iff.mp hm
        refine ziald hx hb hK hP 13 0 rfl rfl eb15 dX9_counts_90 ?_
        obtain ⟨b16, eb16, hm⟩ := Option.bind_eq_some_iff.mp hm
        refine zSi (rest := []) [.int b13, .int b14, .int b15] hx hb hml hl.1 hown hT (k_X9_within eb16) zkX9_within zw739 ⟨by decide, by decide⟩ rfl rfl hK hZ hP hD hS rfl rfl (Nat.le_of_ble_eq_true rfl) ⟨Nat.zero_le _, Nat.zero_le _⟩ dX9_counts_91 (fun H locs hP hD hS => ?_)
        refine lv_istore_n (lv' := [(3, .int b16), (0, .ref (ad 0)), (1, .int v1), (4, .int v4_9), (5, .int v5_9)]) hx hb dX9_counts_94 rfl hl (by decide) rfl (fun ls hl => ?_)
        refine lv_iinc (v := (v5_9 + (1 : Int32))) (lv' := [(5, .int (v5_9 + (1 : Int32))), (3, .int b16), (0, .ref (ad 0)), (1, .int v1), (4, .int v4_9)]) hx hb dX9_counts_95 hl (k := 4) rfl rfl (by decide) rfl (fun ls hl => ?_)
        refine lv_goto (tgt := 51) hx hb dX9_counts_98 (by decide) ?_
        cases hm
        exact hk _ _ _ hP hD hS (lv_sub hl [2, 3, 1, 4, 0] rfl)
  have h101 : ∀ (v3_19 : Int32), m_X9_counts_101 N σ v1 v2 v3_19 = some r → ∀ (H : Heap) (locs : List Loc) (ls : Array Slot), va_P D zclM (zwM ad cI cJ cZ cO σ) H → va_D A (zwM ad cI cJ cZ cO σ) → va_S A s.heap H locs → lv_has ls 6 [(3, .int v3_19)] → W p l e (zR 1 22) s m args below meth c H locs 0 0 Q (F0 m 101 ls []) := by
    intro v3_19 hm H locs ls hP hD hS hl
    unfold m_X9_counts_101 at hm
    refine lv_iload_n hx hb dX9_counts_101 rfl (lv_at hl 0 rfl) ?_
    obtain ⟨b20, eb20, hm⟩ := Option.bind_eq_some_iff.mp hm
    obtain ⟨rfl, hzb20, hwb20, hfb20⟩ := zcz_all eb20
    cases hm
    exact hret _ _ _ _ hzb20 dX9_counts_102 hP hD hS
  have h45 : ∀ (v3_8 : Int32) (x0_8 : Int32) (x1_8 : Int32), m_X9_counts_45 N σ v1 v2 v3_8 x0_8 x1_8 = some r → ∀ (H : Heap) (locs : List Loc) (ls : Array Slot), va_P D zclM (zwM ad cI cJ cZ cO σ) H → va_D A (zwM ad cI cJ cZ cO σ) → va_S A s.heap H locs → lv_has ls 6 [(0, .ref (ad 0)), (1, .int v1), (3, .int v3_8)] → W p l e (zR 1 22) s m args below meth c H locs 0 0 Q (F0 m 45 ls [.int x1_8, .int x0_8]) := by
    intro v3_8 x0_8 x1_8 hm H locs ls hP hD hS hl
    unfold m_X9_counts_45 at hm
    refine lv_iadd hx hb dX9_counts_45 ?_
    refine lv_istore (lv' := [(4, .int (x0_8 + x1_8)), (0, .ref (ad 0)), (1, .int v1), (3, .int v3_8)]) hx hb dX9_counts_46 hl (by decide) rfl (fun ls hl => ?_)
    refine lv_iconst (v := (0 : Int32)) hx hb dX9_counts_48 (by decide) ?_
    refine lv_istore (lv' := [(5, .int (0 : Int32)), (4, .int (x0_8 + x1_8)), (0, .ref (ad 0)), (1, .int v1), (3, .int v3_8)]) hx hb dX9_counts_49 hl (by decide) rfl (fun ls hl => ?_)
    obtain ⟨v3_18, e21, hm⟩ := Option.bind_eq_some_iff.mp hm
    refine hL51 (x0_8 + x1_8) _ v3_18 e21 ?_ _ _ _ hP hD hS (lv_sub hl [2, 3, 4, 1, 0] rfl)
    intro H locs ls hP hD hS hl
    try dsimp only at hP hD hl
    replace hm : m_X9_counts_101 N σ v1 v2 v3_18 = some r := hm
    exact h101 v3_18 hm _ _ _ hP hD hS (lv_sub hl [0] rfl)
  have h26 : ∀ (x0_5 : Int32), m_X9_counts_26 N σ v1 v2 x0_5 = some r → ∀ (H : Heap) (locs : List Loc) (ls : Array Slot), va_P D zclM (zwM ad cI cJ cZ cO σ) H → va_D A (zwM ad cI cJ cZ cO σ) → va_S A s.heap H locs → lv_has ls 6 [(0, .ref (ad 0)), (1, .int v1), (2, .int v2)] → W p l e (zR 1 22) s m args below meth c H locs 0 0 Q (F0 m 26 ls [.int x0_5]) := by
    intro x0_5 hm H locs ls hP hD hS hl
    unfold m_X9_counts_26 at hm
    refine lv_istore_n (lv' := [(3, .int x0_5), (0, .ref (ad 0)), (1, .int v1), (2, .int v2)]) hx hb dX9_counts_26 rfl hl (by decide) rfl (fun ls hl => ?_)
    refine lv_bipush (v := (6 : Int32)) hx hb dX9_counts_27 (by decide) ?_
    refine lv_iload_n hx hb dX9_counts_29 rfl (lv_at hl 3 rfl) ?_
    refine lv_imul hx hb dX9_counts_30 ?_
    refine lv_iload_n hx hb dX9_counts_31 rfl (lv_at hl 0 rfl) ?_
    refine lv_if_eq (tgt := 39) hx hb dX9_counts_32 (by decide) (fun h6 => ?_) (fun h6 => ?_)
    · rw [if_pos h6] at hm
      refine lv_aload_n hx hb dX9_counts_39 rfl (lv_at hl 1 rfl) ?_
      refine zget (v := .ref (ad 11)) hx hb hT zinX9 hown hK hP 0 rfl rfl 12 (by decide) zw634 rfl dX9_counts_40 ?_
      refine lv_iload_n hx hb dX9_counts_43 rfl (lv_at hl 2 rfl) ?_
      obtain ⟨b7, eb7, hm⟩ := Option.bind_eq_some_iff.mp hm
      refine ziald hx hb hK hP 11 0 rfl rfl eb7 dX9_counts_44 ?_
      exact h45 x0_5 ((6 : Int32) * v2) b7 hm _ _ _ hP hD hS (lv_sub hl [1, 2, 0] rfl)
    · rw [if_neg h6] at hm
      refine lv_iconst (v := (0 : Int32)) hx hb dX9_counts_35 (by decide) ?_
      refine lv_goto (tgt := 45) hx hb dX9_counts_36 (by decide) ?_
      exact h45 x0_5 ((6 : Int32) * v2) (0 : Int32) hm _ _ _ hP hD hS (lv_sub hl [1, 2, 0] rfl)
  unfold m_X9_counts at hm
  refine lv_aload_n hx hb dX9_counts_0 rfl (lv_at hl 0 rfl) ?_
  refine lv_iload_n hx hb dX9_counts_1 rfl (lv_at hl 2 rfl) ?_
  obtain ⟨b1, eb1, hm⟩ := Option.bind_eq_some_iff.mp hm
  refine zVi (rest := []) [.int v2] hx hb hml hl.1 hown hT (k_X9_atHand eb1) zkX9_atHand zw840 ⟨by decide, by decide⟩ rfl rfl hK hZ hP hD hS 0 rfl rfl rfl rfl (Nat.le_of_ble_eq_true rfl) ⟨Nat.zero_le _, Nat.zero_le _⟩ dX9_counts_2 (fun H locs hP hD hS => ?_)
  refine lv_if_ne (tgt := 10) hx hb dX9_counts_5 (by decide) (fun h2 => ?_) (fun h2 => ?_)
  · rw [if_neg h2] at hm
    refine lv_aload_n hx hb dX9_counts_10 rfl (lv_at hl 0 rfl) ?_
    refine zget (v := .ref (ad 11)) hx hb hT zinX9 hown hK hP 0 rfl rfl 12 (by decide) zw634 rfl dX9_counts_11 ?_
    refine lv_iload_n hx hb dX9_counts_14 rfl (lv_at hl 1 rfl) ?_
    obtain ⟨b3, eb3, hm⟩ := Option.bind_eq_some_iff.mp hm
    refine ziald hx hb hK hP 11 0 rfl rfl eb3 dX9_counts_15 ?_
    refine lv_ldc hx hb hown (hT _ zw764) dX9_counts_16 ?_
    refine lv_icmp_ne (tgt := 25) hx hb dX9_counts_18 (by decide) (fun h4 => ?_) (fun h4 => ?_)
    · rw [if_neg h4] at hm
      refine lv_iconst (v := (0 : Int32)) hx hb dX9_counts_25 (by decide) ?_
      exact h26 (0 : Int32) hm _ _ _ hP hD hS (lv_sub hl [0, 1, 2] rfl)
    · rw [if_pos h4] at hm
      refine lv_iconst (v := (1 : Int32)) hx hb dX9_counts_21 (by decide) ?_
      refine lv_goto (tgt := 26) hx hb dX9_counts_22 (by decide) ?_
      exact h26 (1 : Int32) hm _ _ _ hP hD hS (lv_sub hl [0, 1, 2] rfl)
  · rw [if_pos h2] at hm
    refine lv_iconst (v := (0 : Int32)) hx hb dX9_counts_8 (by decide) ?_
    cases hm
    exact hret _ _ _ _ (by decide) dX9_counts_9 hP hD hS
set_option maxHeartbeats 4000000 in
set_option maxRecDepth 100000 in
theorem k_X9_findKeysOf {l : Launch} {D : va_G} {ad : Nat → Nat} {cI cJ cZ cO : ClassId} {t : Nat} {A : Nat → Prop} {N : Nat} {σ σ' : zS} {v1 : Int32} {v2 : Int32}   (hm : m_X9_findKeysOf N σ v1 v2 = some σ') : zCv l yX9_findKeysOf cX9_findKeysOf 6 (none) (zR 5 112) D zclM (zty cI cJ cZ cO) t A (zwM ad cI cJ cZ cO) [.ref (ad 0), .int v1, .int v2] σ σ' := by
  refine zMv (by decide) (Nat.le_of_ble_eq_true rfl) ?_
  intro p e s m args below meth c Q hx hb hml hown hT hK hZ hret hP hD hS ls hl
  replace hown : s.vm.findClass RX9 = some m.cls := hown
  replace hl : lv_has ls 6 [(0, .ref (ad 0)), (1, .int v1), (2, .int v2)] := hl
  have hL22 : ∀ (v3_3 : Int32), ∀ (q : zS × Int32) (r : zS), ziter (fun q : zS × Int32 => m_X9_findKeysOf_L22 N v1 v2 v3_3 q.1 q.2) N q = some r → (∀ (H : Heap) (locs : List Loc) (ls : Array Slot), va_P D zclM (zwM ad cI cJ cZ cO r) H → va_D A (zwM ad cI cJ cZ cO r) → va_S A s.heap H locs → lv_has ls 6 [] → W p l e (zR 5 112) s m args below meth c H locs 0 0 Q (F0 m 106 ls [])) → ∀ (H : Heap) (locs : List Loc) (ls : Array Slot), va_P D zclM (zwM ad cI cJ cZ cO q.1) H → va_D A (zwM ad cI cJ cZ cO q.1) → va_S A s.heap H locs → lv_has ls 6 [(0, .ref (ad 0)), (1, .int v1), (2, .int v2), (3, .int v3_3), (4, .int q.2)] → W p l e (zR 5 112) s m args below meth c H locs 0 0 Q (F0 m 22 ls []) := by
    intro v3_3
    intro q r
    refine ziter_W (Hd := fun q : zS × Int32 => ∀ (H : Heap) (locs : List Loc) (ls : Array Slot), va_P D zclM (zwM ad cI cJ cZ cO q.1) H → va_D A (zwM ad cI cJ cZ cO q.1) → va_S A s.heap H locs → lv_has ls 6 [(0, .ref (ad 0)), (1, .int v1), (2, .int v2), (3, .int v3_3), (4, .int q.2)] → W p l e (zR 5 112) s m args below meth c H locs 0 0 Q (F0 m 22 ls [])) (Ex := fun r : zS => ∀ (H : Heap) (locs : List Loc) (ls : Array Slot), va_P D zclM (zwM ad cI cJ cZ cO r) H → va_D A (zwM ad cI cJ cZ cO r) → va_S A s.heap H locs → lv_has ls 6 [] → W p l e (zR 5 112) s m args below meth c H locs 0 0 Q (F0 m 106 ls [])) ?_ N q r
    rintro ⟨σ3, v4_3⟩ res hm hk H locs ls hP hD hS hl
    try dsimp only at hP hD hl
    replace hm : m_X9_findKeysOf_L22 N v1 v2 v3_3 σ3 v4_3 = some res := hm
    have hL52 : ∀ (v4_8 : Int32), ∀ (q : zS × Int32) (r : zS), ziter (fun q : zS × Int32 => m_X9_findKeysOf_L52 N v1 v2 v3_3 v4_8 q.1 q.2) N q = some r → (∀ (H : Heap) (locs : List Loc) (ls : Array Slot), va_P D zclM (zwM ad cI cJ cZ cO r) H → va_D A (zwM ad cI cJ cZ cO r) → va_S A s.heap H locs → lv_has ls 6 [(0, .ref (ad 0)), (1, .int v1), (2, .int v2), (3, .int v3_3), (4, .int v4_8)] → W p l e (zR 5 112) s m args below meth c H locs 0 0 Q (F0 m 100 ls [])) → ∀ (H : Heap) (locs : List Loc) (ls : Array Slot), va_P D zclM (zwM ad cI cJ cZ cO q.1) H → va_D A (zwM ad cI cJ cZ cO q.1) → va_S A s.heap H locs → lv_has ls 6 [(0, .ref (ad 0)), (1, .int v1), (2, .int v2), (3, .int v3_3), (4, .int v4_8), (5, .int q.2)] → W p l e (zR 5 112) s m args below meth c H locs 0 0 Q (F0 m 52 ls []) := by
      intro v4_8
      intro q r
      refine ziter_W (Hd := fun q : zS × Int32 => ∀ (H : Heap) (locs : List Loc) (ls : Array Slot), va_P D zclM (zwM ad cI cJ cZ cO q.1) H → va_D A (zwM ad cI cJ cZ cO q.1) → va_S A s.heap H locs → lv_has ls 6 [(0, .ref (ad 0)), (1, .int v1), (2, .int v2), (3, .int v3_3), (4, .int v4_8), (5, .int q.2)] → W p l e (zR 5 112) s m args below meth c H locs 0 0 Q (F0 m 52 ls [])) (Ex := fun r : zS => ∀ (H : Heap) (locs : List Loc) (ls : Array Slot), va_P D zclM (zwM ad cI cJ cZ cO r) H → va_D A (zwM ad cI cJ cZ cO r) → va_S A s.heap H locs → lv_has ls 6 [(0, .ref (ad 0)), (1, .int v1), (2, .int v2), (3, .int v3_3), (4, .int v4_8)] → W p l e (zR 5 112) s m args below meth c H locs 0 0 Q (F0 m 100 ls [])) ?_ N q r
      rintro ⟨σ8, v5_8⟩ res hm hk H locs ls hP hD hS hl
      try dsimp only at hP hD hl
      replace hm : m_X9_findKeysOf_L52 N v1 v2 v3_3 v4_8 σ8 v5_8 = some res := hm
      unfold m_X9_findKeysOf_L52 at hm
      refine lv_iload hx hb dX9_findKeysOf_52 (lv_at hl 5 rfl) ?_
      refine lv_aload_n hx hb dX9_findKeysOf_54 rfl (lv_at hl 0 rfl) ?_
      refine zget (v := .int (σ8.1 3)) hx hb hT zinX9 hown hK hP 0 rfl rfl 21 (by decide) zw643 rfl dX9_findKeysOf_55 ?_
      refine lv_icmp_ge (tgt := 100) hx hb dX9_findKeysOf_58 (by decide) (fun h9 => ?_) (fun h9 => ?_)
      · rw [if_pos h9] at hm
        cases hm
        exact hk _ _ _ hP hD hS (lv_sub hl [0, 1, 2, 3, 4] rfl)
      · rw [if_neg h9] at hm
        refine lv_aload_n hx hb dX9_findKeysOf_61 rfl (lv_at hl 0 rfl) ?_
        refine zget (v := .ref (ad 24)) hx hb hT zinX9 hown hK hP 0 rfl rfl 29 (by decide) zw651 rfl dX9_findKeysOf_62 ?_
        refine lv_bipush (v := (18 : Int32)) hx hb dX9_findKeysOf_65 (by decide) ?_
        refine lv_iload_n hx hb dX9_findKeysOf_67 rfl (lv_at hl 2 rfl) ?_
        refine lv_imul hx hb dX9_findKeysOf_68 ?_
        refine lv_aload_n hx hb dX9_findKeysOf_69 rfl (lv_at hl 0 rfl) ?_
        refine zget (v := .ref (ad 23)) hx hb hT zinX9 hown hK hP 0 rfl rfl 28 (by decide) zw650 rfl dX9_findKeysOf_70 ?_
        refine lv_iload_n hx hb dX9_findKeysOf_73 rfl (lv_at hl 2 rfl) ?_
        obtain ⟨b10, eb10, hm⟩ := Option.bind_eq_some_iff.mp hm
        refine ziald hx hb hK hP 23 0 rfl rfl eb10 dX9_findKeysOf_74 ?_
        refine lv_iadd hx hb dX9_findKeysOf_75 ?_
        refine lv_aload_n hx hb dX9_findKeysOf_76 rfl (lv_at hl 0 rfl) ?_
        refine zget (v := .ref (ad 19)) hx hb hT zinX9 hown hK hP 0 rfl rfl 22 (by decide) zw644 rfl dX9_findKeysOf_77 ?_
        refine lv_iload hx hb dX9_findKeysOf_80 (lv_at hl 5 rfl) ?_
        obtain ⟨b11, eb11, hm⟩ := Option.bind_eq_some_iff.mp hm
        refine ziald hx hb hK hP 19 0 rfl rfl eb11 dX9_findKeysOf_82 ?_
        obtain ⟨σ12, eσ12, hm⟩ := Option.bind_eq_some_iff.mp hm
        refine ziast (j := 22) hx hb hK hP hD hS 24 0 rfl rfl eσ12 (fun _ => rfl) dX9_findKeysOf_83 (fun H locs hP hD hS => ?_)
        refine lv_aload_n hx hb dX9_findKeysOf_84 rfl (lv_at hl 0 rfl) ?_
        refine zget (v := .ref (ad 23)) hx hb hT zinX9 hown hK hP 0 rfl rfl 28 (by decide) zw650 rfl dX9_findKeysOf_85 ?_
        refine lv_iload_n hx hb dX9_findKeysOf_88 rfl (lv_at hl 2 rfl) ?_
        refine lv_dup2_11 hx hb dX9_findKeysOf_89 rfl rfl ?_
        obtain ⟨b13, eb13, hm⟩ := Option.bind_eq_some_iff.mp hm
        refine ziald hx hb hK hP 23 0 rfl rfl eb13 dX9_findKeysOf_90 ?_
        refine lv_iconst (v := (1 : Int32)) hx hb dX9_findKeysOf_91 (by decide) ?_
        refine lv_iadd hx hb dX9_findKeysOf_92 ?_
        obtain ⟨σ14, eσ14, hm⟩ := Option.bind_eq_some_iff.mp hm
        refine ziast (j := 21) hx hb hK hP hD hS 23 0 rfl rfl eσ14 (fun _ => rfl) dX9_findKeysOf_93 (fun H locs hP hD hS => ?_)
        refine lv_iinc (v := (v5_8 + (1 : Int32))) (lv' := [(5, .int (v5_8 + (1 : Int32))), (0, .ref (ad 0)), (1, .int v1), (2, .int v2), (3, .int v3_3), (4, .int v4_8)]) hx hb dX9_findKeysOf_94 hl (k := 5) rfl rfl (by decide) rfl (fun ls hl => ?_)
        refine lv_goto (tgt := 52) hx hb dX9_findKeysOf_97 (by decide) ?_
        cases hm
        exact hk _ _ _ hP hD hS (lv_sub hl [1, 2, 3, 4, 5, 0] rfl)
    have h100 : ∀ (σ17 : zS) (v4_17 : Int32), m_X9_findKeysOf_100_in22 N v1 v2 v3_3 σ17 v4_17 = some res → ∀ (H : Heap) (locs : List Loc) (ls : Array Slot), va_P D zclM (zwM ad cI cJ cZ cO σ17) H → va_D A (zwM ad cI cJ cZ cO σ17) → va_S A s.heap H locs → lv_has ls 6 [(0, .ref (ad 0)), (1, .int v1), (2, .int v2), (3, .int v3_3), (4, .int v4_17)] → W p l e (zR 5 112) s m args below meth c H locs 0 0 Q (F0 m 100 ls []) := by
      intro σ17 v4_17 hm H locs ls hP hD hS hl
      unfold m_X9_findKeysOf_100_in22 at hm
      refine lv_iinc (v := (v4_17 + (1 : Int32))) (lv' := [(4, .int (v4_17 + (1 : Int32))), (0, .ref (ad 0)), (1, .int v1), (2, .int v2), (3, .int v3_3)]) hx hb dX9_findKeysOf_100 hl (k := 4) rfl rfl (by decide) rfl (fun ls hl => ?_)
      refine lv_goto (tgt := 22) hx hb dX9_findKeysOf_103 (by decide) ?_
      cases hm
      exact hk _ _ _ hP hD hS (lv_sub hl [1, 2, 3, 4, 0] rfl)
    unfold m_X9_findKeysOf_L22 at hm
    refine lv_iload hx hb dX9_findKeysOf_22 (lv_at hl 4 rfl) ?_
    refine lv_aload_n hx hb dX9_findKeysOf_24 rfl (lv_at hl 0 rfl) ?_
    refine zget (v := .ref (ad 1)) hx hb hT zinX9 hown hK hP 0 rfl rfl 1 (by decide) zw623 rfl dX9_findKeysOf_25 ?_
    refine lv_iload_n hx hb dX9_findKeysOf_28 rfl (lv_at hl 3 rfl) ?_
    obtain ⟨b4, eb4, hm⟩ := Option.bind_eq_some_iff.mp hm
    refine ziald hx hb hK hP 1 0 rfl rfl eb4 dX9_findKeysOf_29 ?_
    refine lv_icmp_ge (tgt := 106) hx hb dX9_findKeysOf_30 (by decide) (fun h5 => ?_) (fun h5 => ?_)
    · rw [if_pos h5] at hm
      cases hm
      exact hk _ _ _ hP hD hS (lv_sub hl [] rfl)
    · rw [if_neg h5] at hm
      refine lv_aload_n hx hb dX9_findKeysOf_33 rfl (lv_at hl 0 rfl) ?_
      refine lv_iload_n hx hb dX9_findKeysOf_34 rfl (lv_at hl 1 rfl) ?_
      refine lv_aload_n hx hb dX9_findKeysOf_35 rfl (lv_at hl 0 rfl) ?_
      refine zget (v := .ref (ad 2)) hx hb hT zinX9 hown hK hP 0 rfl rfl 2 (by decide) zw624 rfl dX9_findKeysOf_36 ?_
      refine lv_iconst (v := (3 : Int32)) hx hb dX9_findKeysOf_39 (by decide) ?_
      refine lv_iload_n hx hb dX9_findKeysOf_40 rfl (lv_at hl 3 rfl) ?_
      refine lv_imul hx hb dX9_findKeysOf_41 ?_
      refine lv_iload hx hb dX9_findKeysOf_42 (lv_at hl 4 rfl) ?_
      refine lv_iadd hx hb dX9_findKeysOf_44 ?_
      obtain ⟨b6, eb6, hm⟩ := Option.bind_eq_some_iff.mp hm
      refine ziald hx hb hK hP 2 0 rfl rfl eb6 dX9_findKeysOf_45 ?_
      obtain ⟨σ7, eσ7, hm⟩ := Option.bind_eq_some_iff.mp hm
      refine zVv (rest := []) [.int v1, .int b6] hx hb hml hl.1 hown hT (k_X9_giveKeys eσ7) zkX9_giveKeys zw806 ⟨by decide, by decide⟩ rfl rfl hK hZ hP hD hS 0 rfl rfl rfl rfl (Nat.le_of_ble_eq_true rfl) ⟨Nat.zero_le _, Nat.zero_le _⟩ dX9_findKeysOf_46 (fun H locs hP hD hS => ?_)
      refine lv_iconst (v := (0 : Int32)) hx hb dX9_findKeysOf_49 (by decide) ?_
      refine lv_istore (lv' := [(5, .int (0 : Int32)), (0, .ref (ad 0)), (1, .int v1), (2, .int v2), (3, .int v3_3), (4, .int v4_3)]) hx hb dX9_findKeysOf_50 hl (by decide) rfl (fun ls hl => ?_)
      obtain ⟨σ16, e18, hm⟩ := Option.bind_eq_some_iff.mp hm
      refine hL52 v4_3 _ σ16 e18 ?_ _ _ _ hP hD hS (lv_sub hl [1, 2, 3, 4, 5, 0] rfl)
      intro H locs ls hP hD hS hl
      try dsimp only at hP hD hl
      replace hm : m_X9_findKeysOf_100_in22 N v1 v2 v3_3 σ16 v4_3 = some res := hm
      exact h100 σ16 v4_3 hm _ _ _ hP hD hS (lv_sub hl [0, 1, 2, 3, 4] rfl)
  have h106 : ∀ (σ21 : zS), m_X9_findKeysOf_106 N v1 v2 σ21 = some σ' → ∀ (H : Heap) (locs : List Loc) (ls : Array Slot), va_P D zclM (zwM ad cI cJ cZ cO σ21) H → va_D A (zwM ad cI cJ cZ cO σ21) → va_S A s.heap H locs → lv_has ls 6 [] → W p l e (zR 5 112) s m args below meth c H locs 0 0 Q (F0 m 106 ls []) := by
    intro σ21 hm H locs ls hP hD hS hl
    unfold m_X9_findKeysOf_106 at hm
    cases hm
    exact hret _ _ _ _ dX9_findKeysOf_106 hP hD hS
  unfold m_X9_findKeysOf at hm
  refine lv_bipush (v := (6 : Int32)) hx hb dX9_findKeysOf_0 (by decide) ?_
  refine lv_iload_n hx hb dX9_findKeysOf_2 rfl (lv_at hl 2 rfl) ?_
  refine lv_imul hx hb dX9_findKeysOf_3 ?_
  refine lv_aload_n hx hb dX9_findKeysOf_4 rfl (lv_at hl 0 rfl) ?_
  refine zget (v := .ref (ad 5)) hx hb hT zinX9 hown hK hP 0 rfl rfl 6 (by decide) zw628 rfl dX9_findKeysOf_5 ?_
  refine lv_iload_n hx hb dX9_findKeysOf_8 rfl (lv_at hl 1 rfl) ?_
  obtain ⟨b1, eb1, hm⟩ := Option.bind_eq_some_iff.mp hm
  refine ziald hx hb hK hP 5 0 rfl rfl eb1 dX9_findKeysOf_9 ?_
  refine lv_iadd hx hb dX9_findKeysOf_10 ?_
  refine lv_istore_n (lv' := [(3, .int (((6 : Int32) * v2) + b1)), (0, .ref (ad 0)), (1, .int v1), (2, .int v2)]) hx hb dX9_findKeysOf_11 rfl hl (by decide) rfl (fun ls hl => ?_)
  refine lv_aload_n hx hb dX9_findKeysOf_12 rfl (lv_at hl 1 rfl) ?_
  refine zget (v := .ref (ad 23)) hx hb hT zinX9 hown hK hP 0 rfl rfl 28 (by decide) zw650 rfl dX9_findKeysOf_13 ?_
  refine lv_iload_n hx hb dX9_findKeysOf_16 rfl (lv_at hl 3 rfl) ?_
  refine lv_iconst (v := (0 : Int32)) hx hb dX9_findKeysOf_17 (by decide) ?_
  obtain ⟨σ2, eσ2, hm⟩ := Option.bind_eq_some_iff.mp hm
  refine ziast (j := 21) hx hb hK hP hD hS 23 0 rfl rfl eσ2 (fun _ => rfl) dX9_findKeysOf_18 (fun H locs hP hD hS => ?_)
  refine lv_iconst (v := (0 : Int32)) hx hb dX9_findKeysOf_19 (by decide) ?_
  refine lv_istore (lv' := [(4, .int (0 : Int32)), (3, .int (((6 : Int32) * v2) + b1)), (0, .ref (ad 0)), (1, .int v1), (2, .int v2)]) hx hb dX9_findKeysOf_20 hl (by decide) rfl (fun ls hl => ?_)
  obtain ⟨σ20, e22, hm⟩ := Option.bind_eq_some_iff.mp hm
  refine hL22 (((6 : Int32) * v2) + b1) _ σ20 e22 ?_ _ _ _ hP hD hS (lv_sub hl [2, 3, 4, 1, 0] rfl)
  intro H locs ls hP hD hS hl
  try dsimp only at hP hD hl
  replace hm : m_X9_findKeysOf_106 N v1 v2 σ20 = some σ' := hm
  exact h106 σ20 hm _ _ _ hP hD hS (lv_sub hl [] rfl)
set_option maxHeartbeats 4000000 in
set_option maxRecDepth 100000 in
theorem k_X9_hasKey {l : Launch} {D : va_G} {ad : Nat → Nat} {cI cJ cZ cO : ClassId} {t : Nat} {A : Nat → Prop} {N : Nat} {σ : zS} {v1 : Int32} {v2 : Int32} {r : Int32}  (hm : m_X9_hasKey N σ v1 v2 = some r) : zCi l yX9_hasKey cX9_hasKey 5 (some .boolean) (zR 0 0) D zclM (zty cI cJ cZ cO) t A (zwM ad cI cJ cZ cO) [.ref (ad 0), .int v1, .int v2] σ σ r := by
  refine zMz (by decide) (Nat.le_of_ble_eq_true rfl) ?_
  intro p e s m args below meth c Q hx hb hml hown hT hK hZ hret hP hD hS ls hl
  replace hown : s.vm.findClass RX9 = some m.cls := hown
  replace hl : lv_has ls 5 [(0, .ref (ad 0)), (1, .int v1), (2, .int v2)] := hl
  have hL5 : ∀ (q : Int32 × Int32) (r : Int32), ziter (fun q : Int32 × Int32 => m_X9_hasKey_L5 N σ v1 v2 q.1 q.2) N q = some r → (∀ (H : Heap) (locs : List Loc) (ls : Array Slot), va_P D zclM (zwM ad cI cJ cZ cO σ) H → va_D A (zwM ad cI cJ cZ cO σ) → va_S A s.heap H locs → lv_has ls 5 [(3, .int r)] → W p l e (zR 0 0) s m args below meth c H locs 0 0 Q (F0 m 48 ls [])) → ∀ (H : Heap) (locs : List Loc) (ls : Array Slot), va_P D zclM (zwM ad cI cJ cZ cO σ) H → va_D A (zwM ad cI cJ cZ cO σ) → va_S A s.heap H locs → lv_has ls 5 [(0, .ref (ad 0)), (1, .int v1), (2, .int v2), (3, .int q.1), (4, .int q.2)] → W p l e (zR 0 0) s m args below meth c H locs 0 0 Q (F0 m 5 ls []) := by
    intro q r
    refine ziter_W (Hd := fun q : Int32 × Int32 => ∀ (H : Heap) (locs : List Loc) (ls : Array Slot), va_P D zclM (zwM ad cI cJ cZ cO σ) H → va_D A (zwM ad cI cJ cZ cO σ) → va_S A s.heap H locs → lv_has ls 5 [(0, .ref (ad 0)), (1, .int v1), (2, .int v2), (3, .int q.1), (4, .int q.2)] → W p l e (zR 0 0) s m args below meth c H locs 0 0 Q (F0 m 5 ls [])) (Ex := fun r : Int32 => ∀ (H : Heap) (locs : List Loc) (ls : Array Slot), va_P D zclM (zwM ad cI cJ cZ cO σ) H → va_D A (zwM ad cI cJ cZ cO σ) → va_S A s.heap H locs → lv_has ls 5 [(3, .int r)] → W p l e (zR 0 0) s m args below meth c H locs 0 0 Q (F0 m 48 ls [])) ?_ N q r
    rintro ⟨v3_1, v4_1⟩ res hm hk H locs ls hP hD hS hl
    try dsimp only at hP hD hl
    replace hm : m_X9_hasKey_L5 N σ v1 v2 v3_1 v4_1 = some res := hm
    have h41 : ∀ (v4_6 : Int32) (x0_6 : Int32), m_X9_hasKey_41_in5 N σ v1 v2 v4_6 x0_6 = some res → ∀ (H : Heap) (locs : List Loc) (ls : Array Slot), va_P D zclM (zwM ad cI cJ cZ cO σ) H → va_D A (zwM ad cI cJ cZ cO σ) → va_S A s.heap H locs → lv_has ls 5 [(0, .ref (ad 0)), (1, .int v1), (2, .int v2), (4, .int v4_6)] → W p l e (zR 0 0) s m args below meth c H locs 0 0 Q (F0 m 41 ls [.int x0_6]) := by
      intro v4_6 x0_6 hm H locs ls hP hD hS hl
      unfold m_X9_hasKey_41_in5 at hm
      refine lv_istore_n (lv' := [(3, .int x0_6), (0, .ref (ad 0)), (1, .int v1), (2, .int v2), (4, .int v4_6)]) hx hb dX9_hasKey_41 rfl hl (by decide) rfl (fun ls hl => ?_)
      refine lv_iinc (v := (v4_6 + (1 : Int32))) (lv' := [(4, .int (v4_6 + (1 : Int32))), (3, .int x0_6), (0, .ref (ad 0)), (1, .int v1), (2, .int v2)]) hx hb dX9_hasKey_42 hl (k := 4) rfl rfl (by decide) rfl (fun ls hl => ?_)
      refine lv_goto (tgt := 5) hx hb dX9_hasKey_45 (by decide) ?_
      cases hm
      exact hk _ _ _ hP hD hS (lv_sub hl [2, 3, 4, 1, 0] rfl)
    have h36 : ∀ (v4_5 : Int32), m_X9_hasKey_36_in5 N σ v1 v2 v4_5 = some res → ∀ (H : Heap) (locs : List Loc) (ls : Array Slot), va_P D zclM (zwM ad cI cJ cZ cO σ) H → va_D A (zwM ad cI cJ cZ cO σ) → va_S A s.heap H locs → lv_has ls 5 [(0, .ref (ad 0)), (1, .int v1), (2, .int v2), (4, .int v4_5)] → W p l e (zR 0 0) s m args below meth c H locs 0 0 Q (F0 m 36 ls []) := by
      intro v4_5 hm H locs ls hP hD hS hl
      unfold m_X9_hasKey_36_in5 at hm
      refine lv_iconst (v := (1 : Int32)) hx hb dX9_hasKey_36 (by decide) ?_
      refine lv_goto (tgt := 41) hx hb dX9_hasKey_37 (by decide) ?_
      exact h41 v4_5 (1 : Int32) hm _ _ _ hP hD hS (lv_sub hl [0, 1, 2, 3] rfl)
    unfold m_X9_hasKey_L5 at hm
    refine lv_iload hx hb dX9_hasKey_5 (lv_at hl 4 rfl) ?_
    refine lv_aload_n hx hb dX9_hasKey_7 rfl (lv_at hl 0 rfl) ?_
    refine zget (v := .ref (ad 23)) hx hb hT zinX9 hown hK hP 0 rfl rfl 28 (by decide) zw650 rfl dX9_hasKey_8 ?_
    refine lv_iload_n hx hb dX9_hasKey_11 rfl (lv_at hl 1 rfl) ?_
    obtain ⟨b2, eb2, hm⟩ := Option.bind_eq_some_iff.mp hm
    refine ziald hx hb hK hP 23 0 rfl rfl eb2 dX9_hasKey_12 ?_
    refine lv_icmp_ge (tgt := 48) hx hb dX9_hasKey_13 (by decide) (fun h3 => ?_) (fun h3 => ?_)
    · rw [if_pos h3] at hm
      cases hm
      exact hk _ _ _ hP hD hS (lv_sub hl [3] rfl)
    · rw [if_neg h3] at hm
      refine lv_iload_n hx hb dX9_hasKey_16 rfl (lv_at hl 3 rfl) ?_
      refine lv_if_ne (tgt := 36) hx hb dX9_hasKey_17 (by decide) (fun h4 => ?_) (fun h4 => ?_)
      · rw [if_neg h4] at hm
        exact h36 v4_1 hm _ _ _ hP hD hS (lv_sub hl [0, 1, 2, 4] rfl)
      · rw [if_pos h4] at hm
        refine lv_aload_n hx hb dX9_hasKey_20 rfl (lv_at hl 0 rfl) ?_
        refine zget (v := .ref (ad 24)) hx hb hT zinX9 hown hK hP 0 rfl rfl 29 (by decide) zw651 rfl dX9_hasKey_21 ?_
        refine lv_bipush (v := (18 : Int32)) hx hb dX9_hasKey_24 (by decide) ?_
        refine lv_iload_n hx hb dX9_hasKey_26 rfl (lv_at hl 1 rfl) ?_
        refine lv_imul hx hb dX9_hasKey_27 ?_
        refine lv_iload hx hb dX9_hasKey_28 (lv_at hl 4 rfl) ?_
        refine lv_iadd hx hb dX9_hasKey_30 ?_
        obtain ⟨b7, eb7, hm⟩ := Option.bind_eq_some_iff.mp hm
        refine ziald hx hb hK hP 24 0 rfl rfl eb7 dX9_hasKey_31 ?_
        refine lv_iload_n hx hb dX9_hasKey_32 rfl (lv_at hl 2 rfl) ?_
        refine lv_icmp_ne (tgt := 40) hx hb dX9_hasKey_33 (by decide) (fun h8 => ?_) (fun h8 => ?_)
        · rw [if_neg h8] at hm
          refine lv_iconst (v := (0 : Int32)) hx hb dX9_hasKey_40 (by decide) ?_
          exact h41 v4_1 (0 : Int32) hm _ _ _ hP hD hS (lv_sub hl [0, 1, 2, 4] rfl)
        · rw [if_pos h8] at hm
          exact h36 v4_1 hm _ _ _ hP hD hS (lv_sub hl [0, 1, 2, 4] rfl)
  have h48 : ∀ (v3_11 : Int32), m_X9_hasKey_48 N σ v1 v2 v3_11 = some r → ∀ (H : Heap) (locs : List Loc) (ls : Array Slot), va_P D zclM (zwM ad cI cJ cZ cO σ) H → va_D A (zwM ad cI cJ cZ cO σ) → va_S A s.heap H locs → lv_has ls 5 [(3, .int v3_11)] → W p l e (zR 0 0) s m args below meth c H locs 0 0 Q (F0 m 48 ls []) := by
    intro v3_11 hm H locs ls hP hD hS hl
    unfold m_X9_hasKey_48 at hm
    refine lv_iload_n hx hb dX9_hasKey_48 rfl (lv_at hl 0 rfl) ?_
    obtain ⟨b12, eb12, hm⟩ := Option.bind_eq_some_iff.mp hm
    obtain ⟨rfl, hzb12, hwb12, hfb12⟩ := zcz_all eb12
    cases hm
    exact hret _ _ _ _ hzb12 dX9_hasKey_49 hP hD hS
  unfold m_X9_hasKey at hm
  refine lv_iconst (v := (0 : Int32)) hx hb dX9_hasKey_0 (by decide) ?_
  refine lv_istore_n (lv' := [(3, .int (0 : Int32)), (0, .ref (ad 0)), (1, .int v1), (2, .int v2)]) hx hb dX9_hasKey_1 rfl hl (by decide) rfl (fun ls hl => ?_)
  refine lv_iconst (v := (0 : Int32)) hx hb dX9_hasKey_2 (by decide) ?_
  refine lv_istore (lv' := [(4, .int (0 : Int32)), (3, .int (0 : Int32)), (0, .ref (ad 0)), (1, .int v1), (2, .int v2)]) hx hb dX9_hasKey_3 hl (by decide) rfl (fun ls hl => ?_)
  obtain ⟨v3_10, e13, hm⟩ := Option.bind_eq_some_iff.mp hm
  refine hL5  _ v3_10 e13 ?_ _ _ _ hP hD hS (lv_sub hl [2, 3, 4, 1, 0] rfl)
  intro H locs ls hP hD hS hl
  try dsimp only at hP hD hl
  replace hm : m_X9_hasKey_48 N σ v1 v2 v3_10 = some r := hm
  exact h48 v3_10 hm _ _ _ hP hD hS (lv_sub hl [0] rfl)
set_option maxHeartbeats 4000000 in
set_option maxRecDepth 100000 in
theorem k_X9_sumOf {l : Launch} {D : va_G} {ad : Nat → Nat} {cI cJ cZ cO : ClassId} {t : Nat} {A : Nat → Prop} {N : Nat} {σ : zS} {v1 : Int32} {v2 : Int32} {r : Int64}  (hm : m_X9_sumOf N σ v1 v2 = some r) : zCl l yX9_sumOf cX9_sumOf 6 (some .long) (zR 0 0) D zclM (zty cI cJ cZ cO) t A (zwM ad cI cJ cZ cO) [.ref (ad 0), .int v1, .int v2] σ σ r := by
  refine zMl (by decide) (Nat.le_of_ble_eq_true rfl) ?_
  intro p e s m args below meth c Q hx hb hml hown hT hK hZ hret hP hD hS ls hl
  replace hown : s.vm.findClass RX9 = some m.cls := hown
  replace hl : lv_has ls 6 [(0, .ref (ad 0)), (1, .int v1), (2, .int v2)] := hl
  have hL5 : ∀ (q : Int64 × Int32) (r : Int64), ziter (fun q : Int64 × Int32 => m_X9_sumOf_L5 N σ v1 v2 q.1 q.2) N q = some r → (∀ (H : Heap) (locs : List Loc) (ls : Array Slot), va_P D zclM (zwM ad cI cJ cZ cO σ) H → va_D A (zwM ad cI cJ cZ cO σ) → va_S A s.heap H locs → lv_has ls 6 [(3, .long r)] → W p l e (zR 0 0) s m args below meth c H locs 0 0 Q (F0 m 47 ls [])) → ∀ (H : Heap) (locs : List Loc) (ls : Array Slot), va_P D zclM (zwM ad cI cJ cZ cO σ) H → va_D A (zwM ad cI cJ cZ cO σ) → va_S A s.heap H locs → lv_has ls 6 [(0, .ref (ad 0)), (1, .int v1), (2, .int v2), (3, .long q.1), (5, .int q.2)] → W p l e (zR 0 0) s m args below meth c H locs 0 0 Q (F0 m 5 ls []) := by
    intro q r
    refine ziter_W (Hd := fun q : Int64 × Int32 => ∀ (H : Heap) (locs : List Loc) (ls : Array Slot), va_P D zclM (zwM ad cI cJ cZ cO σ) H → va_D A (zwM ad cI cJ cZ cO σ) → va_S A s.heap H locs → lv_has ls 6 [(0, .ref (ad 0)), (1, .int v1), (2, .int v2), (3, .long q.1), (5, .int q.2)] → W p l e (zR 0 0) s m args below meth c H locs 0 0 Q (F0 m 5 ls [])) (Ex := fun r : Int64 => ∀ (H : Heap) (locs : List Loc) (ls : Array Slot), va_P D zclM (zwM ad cI cJ cZ cO σ) H → va_D A (zwM ad cI cJ cZ cO σ) → va_S A s.heap H locs → lv_has ls 6 [(3, .long r)] → W p l e (zR 0 0) s m args below meth c H locs 0 0 Q (F0 m 47 ls [])) ?_ N q r
    rintro ⟨v3_1, v5_1⟩ res hm hk H locs ls hP hD hS hl
    try dsimp only at hP hD hl
    replace hm : m_X9_sumOf_L5 N σ v1 v2 v3_1 v5_1 = some res := hm
    unfold m_X9_sumOf_L5 at hm
    refine lv_iload hx hb dX9_sumOf_5 (lv_at hl 4 rfl) ?_
    refine lv_aload_n hx hb dX9_sumOf_7 rfl (lv_at hl 0 rfl) ?_
    refine zget (v := .ref (ad 1)) hx hb hT zinX9 hown hK hP 0 rfl rfl 1 (by decide) zw623 rfl dX9_sumOf_8 ?_
    refine lv_bipush (v := (6 : Int32)) hx hb dX9_sumOf_11 (by decide) ?_
    refine lv_iload_n hx hb dX9_sumOf_13 rfl (lv_at hl 1 rfl) ?_
    refine lv_imul hx hb dX9_sumOf_14 ?_
    refine lv_iload_n hx hb dX9_sumOf_15 rfl (lv_at hl 2 rfl) ?_
    refine lv_iadd hx hb dX9_sumOf_16 ?_
    obtain ⟨b2, eb2, hm⟩ := Option.bind_eq_some_iff.mp hm
    refine ziald hx hb hK hP 1 0 rfl rfl eb2 dX9_sumOf_17 ?_
    refine lv_icmp_ge (tgt := 47) hx hb dX9_sumOf_18 (by decide) (fun h3 => ?_) (fun h3 => ?_)
    · rw [if_pos h3] at hm
      cases hm
      exact hk _ _ _ hP hD hS (lv_sub hl [3] rfl)
    · rw [if_neg h3] at hm
      refine lv_lload_n hx hb dX9_sumOf_21 rfl (lv_at hl 3 rfl) ?_
      refine lv_aload_n hx hb dX9_sumOf_22 rfl (lv_at hl 0 rfl) ?_
      refine zget (v := .ref (ad 2)) hx hb hT zinX9 hown hK hP 0 rfl rfl 2 (by decide) zw624 rfl dX9_sumOf_23 ?_
      refine lv_iconst (v := (3 : Int32)) hx hb dX9_sumOf_26 (by decide) ?_
      refine lv_bipush (v := (6 : Int32)) hx hb dX9_sumOf_27 (by decide) ?_
      refine lv_iload_n hx hb dX9_sumOf_29 rfl (lv_at hl 1 rfl) ?_
      refine lv_imul hx hb dX9_sumOf_30 ?_
      refine lv_iload_n hx hb dX9_sumOf_31 rfl (lv_at hl 2 rfl) ?_
      refine lv_iadd hx hb dX9_sumOf_32 ?_
      refine lv_imul hx hb dX9_sumOf_33 ?_
      refine lv_iload hx hb dX9_sumOf_34 (lv_at hl 4 rfl) ?_
      refine lv_iadd hx hb dX9_sumOf_36 ?_
      obtain ⟨b4, eb4, hm⟩ := Option.bind_eq_some_iff.mp hm
      refine ziald hx hb hK hP 2 0 rfl rfl eb4 dX9_sumOf_37 ?_
      refine lv_i2l (v := b4.toInt64) hx hb dX9_sumOf_38 rfl ?_
      refine lv_ladd hx hb dX9_sumOf_39 ?_
      refine lv_lstore_n (lv' := [(3, .long (v3_1 + b4.toInt64)), (0, .ref (ad 0)), (1, .int v1), (2, .int v2), (5, .int v5_1)]) hx hb dX9_sumOf_40 rfl hl (by decide) rfl (fun ls hl => ?_)
      refine lv_iinc (v := (v5_1 + (1 : Int32))) (lv' := [(5, .int (v5_1 + (1 : Int32))), (3, .long (v3_1 + b4.toInt64)), (0, .ref (ad 0)), (1, .int v1), (2, .int v2)]) hx hb dX9_sumOf_41 hl (k := 4) rfl rfl (by decide) rfl (fun ls hl => ?_)
      refine lv_goto (tgt := 5) hx hb dX9_sumOf_44 (by decide) ?_
      cases hm
      exact hk _ _ _ hP hD hS (lv_sub hl [2, 3, 4, 1, 0] rfl)
  have h47 : ∀ (v3_7 : Int64), m_X9_sumOf_47 N σ v1 v2 v3_7 = some r → ∀ (H : Heap) (locs : List Loc) (ls : Array Slot), va_P D zclM (zwM ad cI cJ cZ cO σ) H → va_D A (zwM ad cI cJ cZ cO σ) → va_S A s.heap H locs → lv_has ls 6 [(3, .long v3_7)] → W p l e (zR 0 0) s m args below meth c H locs 0 0 Q (F0 m 47 ls []) := by
    intro v3_7 hm H locs ls hP hD hS hl
    unfold m_X9_sumOf_47 at hm
    refine lv_lload_n hx hb dX9_sumOf_47 rfl (lv_at hl 0 rfl) ?_
    cases hm
    exact hret _ _ _ _ dX9_sumOf_48 hP hD hS
  unfold m_X9_sumOf at hm
  refine lv_lconst (v := (0 : Int64)) hx hb dX9_sumOf_0 (by decide) ?_
  refine lv_lstore_n (lv' := [(3, .long (0 : Int64)), (0, .ref (ad 0)), (1, .int v1), (2, .int v2)]) hx hb dX9_sumOf_1 rfl hl (by decide) rfl (fun ls hl => ?_)
  refine lv_iconst (v := (0 : Int32)) hx hb dX9_sumOf_2 (by decide) ?_
  refine lv_istore (lv' := [(5, .int (0 : Int32)), (3, .long (0 : Int64)), (0, .ref (ad 0)), (1, .int v1), (2, .int v2)]) hx hb dX9_sumOf_3 hl (by decide) rfl (fun ls hl => ?_)
  obtain ⟨v3_6, e8, hm⟩ := Option.bind_eq_some_iff.mp hm
  refine hL5  _ v3_6 e8 ?_ _ _ _ hP hD hS (lv_sub hl [2, 3, 4, 1, 0] rfl)
  intro H locs ls hP hD hS hl
  try dsimp only at hP hD hl
  replace hm : m_X9_sumOf_47 N σ v1 v2 v3_6 = some r := hm
  exact h47 v3_6 hm _ _ _ hP hD hS (lv_sub hl [0] rfl)
set_option maxHeartbeats 4000000 in
set_option maxRecDepth 100000 in
theorem k_X9_isNew {l : Launch} {D : va_G} {ad : Nat → Nat} {cI cJ cZ cO : ClassId} {t : Nat} {A : Nat → Prop} {N : Nat} {σ : zS} {v1 : Int32} {r : Int32}  (hm : m_X9_isNew N σ v1 = some r) : zCi l yX9_isNew cX9_isNew 4 (some .boolean) (zR 0 0) D zclM (zty cI cJ cZ cO) t A (zwM ad cI cJ cZ cO) [.ref (ad 0), .int v1] σ σ r := by
  refine zMz (by decide) (Nat.le_of_ble_eq_true rfl) ?_
  intro p e s m args below meth c Q hx hb hml hown hT hK hZ hret hP hD hS ls hl
  replace hown : s.vm.findClass RX9 = some m.cls := hown
  replace hl : lv_has ls 4 [(0, .ref (ad 0)), (1, .int v1)] := hl
  have hL4 : ∀ (q : Int32 × Int32) (r : Int32), ziter (fun q : Int32 × Int32 => m_X9_isNew_L4 N σ v1 q.1 q.2) N q = some r → (∀ (H : Heap) (locs : List Loc) (ls : Array Slot), va_P D zclM (zwM ad cI cJ cZ cO σ) H → va_D A (zwM ad cI cJ cZ cO σ) → va_S A s.heap H locs → lv_has ls 4 [(2, .int r)] → W p l e (zR 0 0) s m args below meth c H locs 0 0 Q (F0 m 38 ls [])) → ∀ (H : Heap) (locs : List Loc) (ls : Array Slot), va_P D zclM (zwM ad cI cJ cZ cO σ) H → va_D A (zwM ad cI cJ cZ cO σ) → va_S A s.heap H locs → lv_has ls 4 [(0, .ref (ad 0)), (1, .int v1), (2, .int q.1), (3, .int q.2)] → W p l e (zR 0 0) s m args below meth c H locs 0 0 Q (F0 m 4 ls []) := by
    intro q r
    refine ziter_W (Hd := fun q : Int32 × Int32 => ∀ (H : Heap) (locs : List Loc) (ls : Array Slot), va_P D zclM (zwM ad cI cJ cZ cO σ) H → va_D A (zwM ad cI cJ cZ cO σ) → va_S A s.heap H locs → lv_has ls 4 [(0, .ref (ad 0)), (1, .int v1), (2, .int q.1), (3, .int q.2)] → W p l e (zR 0 0) s m args below meth c H locs 0 0 Q (F0 m 4 ls [])) (Ex := fun r : Int32 => ∀ (H : Heap) (locs : List Loc) (ls : Array Slot), va_P D zclM (zwM ad cI cJ cZ cO σ) H → va_D A (zwM ad cI cJ cZ cO σ) → va_S A s.heap H locs → lv_has ls 4 [(2, .int r)] → W p l e (zR 0 0) s m args below meth c H locs 0 0 Q (F0 m 38 ls [])) ?_ N q r
    rintro ⟨v2_1, v3_1⟩ res hm hk H locs ls hP hD hS hl
    try dsimp only at hP hD hl
    replace hm : m_X9_isNew_L4 N σ v1 v2_1 v3_1 = some res := hm
    have h31 : ∀ (v3_5 : Int32) (x0_5 : Int32), m_X9_isNew_31_in4 N σ v1 v3_5 x0_5 = some res → ∀ (H : Heap) (locs : List Loc) (ls : Array Slot), va_P D zclM (zwM ad cI cJ cZ cO σ) H → va_D A (zwM ad cI cJ cZ cO σ) → va_S A s.heap H locs → lv_has ls 4 [(0, .ref (ad 0)), (1, .int v1), (3, .int v3_5)] → W p l e (zR 0 0) s m args below meth c H locs 0 0 Q (F0 m 31 ls [.int x0_5]) := by
      intro v3_5 x0_5 hm H locs ls hP hD hS hl
      unfold m_X9_isNew_31_in4 at hm
      refine lv_istore_n (lv' := [(2, .int x0_5), (0, .ref (ad 0)), (1, .int v1), (3, .int v3_5)]) hx hb dX9_isNew_31 rfl hl (by decide) rfl (fun ls hl => ?_)
      refine lv_iinc (v := (v3_5 + (1 : Int32))) (lv' := [(3, .int (v3_5 + (1 : Int32))), (2, .int x0_5), (0, .ref (ad 0)), (1, .int v1)]) hx hb dX9_isNew_32 hl (k := 3) rfl rfl (by decide) rfl (fun ls hl => ?_)
      refine lv_goto (tgt := 4) hx hb dX9_isNew_35 (by decide) ?_
      cases hm
      exact hk _ _ _ hP hD hS (lv_sub hl [2, 3, 1, 0] rfl)
    have h30 : ∀ (v3_4 : Int32), m_X9_isNew_30_in4 N σ v1 v3_4 = some res → ∀ (H : Heap) (locs : List Loc) (ls : Array Slot), va_P D zclM (zwM ad cI cJ cZ cO σ) H → va_D A (zwM ad cI cJ cZ cO σ) → va_S A s.heap H locs → lv_has ls 4 [(0, .ref (ad 0)), (1, .int v1), (3, .int v3_4)] → W p l e (zR 0 0) s m args below meth c H locs 0 0 Q (F0 m 30 ls []) := by
      intro v3_4 hm H locs ls hP hD hS hl
      unfold m_X9_isNew_30_in4 at hm
      refine lv_iconst (v := (0 : Int32)) hx hb dX9_isNew_30 (by decide) ?_
      exact h31 v3_4 (0 : Int32) hm _ _ _ hP hD hS (lv_sub hl [0, 1, 2] rfl)
    unfold m_X9_isNew_L4 at hm
    refine lv_iload_n hx hb dX9_isNew_4 rfl (lv_at hl 3 rfl) ?_
    refine lv_aload_n hx hb dX9_isNew_5 rfl (lv_at hl 0 rfl) ?_
    refine zget (v := .int (σ.1 4)) hx hb hT zinX9 hown hK hP 0 rfl rfl 23 (by decide) zw645 rfl dX9_isNew_6 ?_
    refine lv_icmp_ge (tgt := 38) hx hb dX9_isNew_9 (by decide) (fun h2 => ?_) (fun h2 => ?_)
    · rw [if_pos h2] at hm
      cases hm
      exact hk _ _ _ hP hD hS (lv_sub hl [2] rfl)
    · rw [if_neg h2] at hm
      refine lv_iload_n hx hb dX9_isNew_12 rfl (lv_at hl 2 rfl) ?_
      refine lv_if_eq (tgt := 30) hx hb dX9_isNew_13 (by decide) (fun h3 => ?_) (fun h3 => ?_)
      · rw [if_pos h3] at hm
        exact h30 v3_1 hm _ _ _ hP hD hS (lv_sub hl [0, 1, 3] rfl)
      · rw [if_neg h3] at hm
        refine lv_aload_n hx hb dX9_isNew_16 rfl (lv_at hl 0 rfl) ?_
        refine zget (v := .ref (ad 20)) hx hb hT zinX9 hown hK hP 0 rfl rfl 24 (by decide) zw646 rfl dX9_isNew_17 ?_
        refine lv_iload_n hx hb dX9_isNew_20 rfl (lv_at hl 3 rfl) ?_
        obtain ⟨b6, eb6, hm⟩ := Option.bind_eq_some_iff.mp hm
        refine ziald hx hb hK hP 20 0 rfl rfl eb6 dX9_isNew_21 ?_
        refine lv_iload_n hx hb dX9_isNew_22 rfl (lv_at hl 1 rfl) ?_
        refine lv_icmp_eq (tgt := 30) hx hb dX9_isNew_23 (by decide) (fun h7 => ?_) (fun h7 => ?_)
        · rw [if_pos h7] at hm
          exact h30 v3_1 hm _ _ _ hP hD hS (lv_sub hl [0, 1, 3] rfl)
        · rw [if_neg h7] at hm
          refine lv_iconst (v := (1 : Int32)) hx hb dX9_isNew_26 (by decide) ?_
          refine lv_goto (tgt := 31) hx hb dX9_isNew_27 (by decide) ?_
          exact h31 v3_1 (1 : Int32) hm _ _ _ hP hD hS (lv_sub hl [0, 1, 3] rfl)
  have h38 : ∀ (v2_10 : Int32), m_X9_isNew_38 N σ v1 v2_10 = some r → ∀ (H : Heap) (locs : List Loc) (ls : Array Slot), va_P D zclM (zwM ad cI cJ cZ cO σ) H → va_D A (zwM ad cI cJ cZ cO σ) → va_S A s.heap H locs → lv_has ls 4 [(2, .int v2_10)] → W p l e (zR 0 0) s m args below meth c H locs 0 0 Q (F0 m 38 ls []) := by
    intro v2_10 hm H locs ls hP hD hS hl
    unfold m_X9_isNew_38 at hm
    refine lv_iload_n hx hb dX9_isNew_38 rfl (lv_at hl 0 rfl) ?_
    obtain ⟨b11, eb11, hm⟩ := Option.bind_eq_some_iff.mp hm
    obtain ⟨rfl, hzb11, hwb11, hfb11⟩ := zcz_all eb11
    cases hm
    exact hret _ _ _ _ hzb11 dX9_isNew_39 hP hD hS
  unfold m_X9_isNew at hm
  refine lv_iconst (v := (1 : Int32)) hx hb dX9_isNew_0 (by decide) ?_
  refine lv_istore_n (lv' := [(2, .int (1 : Int32)), (0, .ref (ad 0)), (1, .int v1)]) hx hb dX9_isNew_1 rfl hl (by decide) rfl (fun ls hl => ?_)
  refine lv_iconst (v := (0 : Int32)) hx hb dX9_isNew_2 (by decide) ?_
  refine lv_istore_n (lv' := [(3, .int (0 : Int32)), (2, .int (1 : Int32)), (0, .ref (ad 0)), (1, .int v1)]) hx hb dX9_isNew_3 rfl hl (by decide) rfl (fun ls hl => ?_)
  obtain ⟨v2_9, e12, hm⟩ := Option.bind_eq_some_iff.mp hm
  refine hL4  _ v2_9 e12 ?_ _ _ _ hP hD hS (lv_sub hl [2, 3, 1, 0] rfl)
  intro H locs ls hP hD hS hl
  try dsimp only at hP hD hl
  replace hm : m_X9_isNew_38 N σ v1 v2_9 = some r := hm
  exact h38 v2_9 hm _ _ _ hP hD hS (lv_sub hl [0] rfl)
set_option maxHeartbeats 4000000 in
set_option maxRecDepth 100000 in
theorem k_X9_findKeys {l : Launch} {D : va_G} {ad : Nat → Nat} {cI cJ cZ cO : ClassId} {t : Nat} {A : Nat → Prop} {N : Nat} {σ σ' : zS} {v1 : Int32}   (hm : m_X9_findKeys N σ v1 = some σ') : zCv l yX9_findKeys cX9_findKeys 5 (none) (zR 6 137) D zclM (zty cI cJ cZ cO) t A (zwM ad cI cJ cZ cO) [.ref (ad 0), .int v1] σ σ' := by
  refine zMv (by decide) (Nat.le_of_ble_eq_true rfl) ?_
  intro p e s m args below meth c Q hx hb hml hown hT hK hZ hret hP hD hS ls hl
  replace hown : s.vm.findClass RX9 = some m.cls := hown
  replace hl : lv_has ls 5 [(0, .ref (ad 0)), (1, .int v1)] := hl
  have hL7 : ∀ (q : zS × Int32) (r : zS), ziter (fun q : zS × Int32 => m_X9_findKeys_L7 N v1 q.1 q.2) N q = some r → (∀ (H : Heap) (locs : List Loc) (ls : Array Slot), va_P D zclM (zwM ad cI cJ cZ cO r) H → va_D A (zwM ad cI cJ cZ cO r) → va_S A s.heap H locs → lv_has ls 5 [(0, .ref (ad 0)), (1, .int v1)] → W p l e (zR 6 137) s m args below meth c H locs 0 0 Q (F0 m 43 ls [])) → ∀ (H : Heap) (locs : List Loc) (ls : Array Slot), va_P D zclM (zwM ad cI cJ cZ cO q.1) H → va_D A (zwM ad cI cJ cZ cO q.1) → va_S A s.heap H locs → lv_has ls 5 [(0, .ref (ad 0)), (1, .int v1), (2, .int q.2)] → W p l e (zR 6 137) s m args below meth c H locs 0 0 Q (F0 m 7 ls []) := by
    intro q r
    refine ziter_W (Hd := fun q : zS × Int32 => ∀ (H : Heap) (locs : List Loc) (ls : Array Slot), va_P D zclM (zwM ad cI cJ cZ cO q.1) H → va_D A (zwM ad cI cJ cZ cO q.1) → va_S A s.heap H locs → lv_has ls 5 [(0, .ref (ad 0)), (1, .int v1), (2, .int q.2)] → W p l e (zR 6 137) s m args below meth c H locs 0 0 Q (F0 m 7 ls [])) (Ex := fun r : zS => ∀ (H : Heap) (locs : List Loc) (ls : Array Slot), va_P D zclM (zwM ad cI cJ cZ cO r) H → va_D A (zwM ad cI cJ cZ cO r) → va_S A s.heap H locs → lv_has ls 5 [(0, .ref (ad 0)), (1, .int v1)] → W p l e (zR 6 137) s m args below meth c H locs 0 0 Q (F0 m 43 ls [])) ?_ N q r
    rintro ⟨σ2, v2_2⟩ res hm hk H locs ls hP hD hS hl
    try dsimp only at hP hD hl
    replace hm : m_X9_findKeys_L7 N v1 σ2 v2_2 = some res := hm
    unfold m_X9_findKeys_L7 at hm
    refine lv_iload_n hx hb dX9_findKeys_7 rfl (lv_at hl 2 rfl) ?_
    refine lv_aload_n hx hb dX9_findKeys_8 rfl (lv_at hl 0 rfl) ?_
    refine zget (v := .ref (ad 8)) hx hb hT zinX9 hown hK hP 0 rfl rfl 9 (by decide) zw631 rfl dX9_findKeys_9 ?_
    refine lv_iload_n hx hb dX9_findKeys_12 rfl (lv_at hl 1 rfl) ?_
    obtain ⟨b3, eb3, hm⟩ := Option.bind_eq_some_iff.mp hm
    refine ziald hx hb hK hP 8 0 rfl rfl eb3 dX9_findKeys_13 ?_
    refine lv_icmp_ge (tgt := 43) hx hb dX9_findKeys_14 (by decide) (fun h4 => ?_) (fun h4 => ?_)
    · rw [if_pos h4] at hm
      cases hm
      exact hk _ _ _ hP hD hS (lv_sub hl [0, 1] rfl)
    · rw [if_neg h4] at hm
      refine lv_aload_n hx hb dX9_findKeys_17 rfl (lv_at hl 0 rfl) ?_
      refine zget (v := .ref (ad 20)) hx hb hT zinX9 hown hK hP 0 rfl rfl 24 (by decide) zw646 rfl dX9_findKeys_18 ?_
      refine lv_aload_n hx hb dX9_findKeys_21 rfl (lv_at hl 0 rfl) ?_
      refine zget (v := .int (σ2.1 4)) hx hb hT zinX9 hown hK hP 0 rfl rfl 23 (by decide) zw645 rfl dX9_findKeys_22 ?_
      refine lv_iload_n hx hb dX9_findKeys_25 rfl (lv_at hl 2 rfl) ?_
      obtain ⟨σ5, eσ5, hm⟩ := Option.bind_eq_some_iff.mp hm
      refine ziast (j := 19) hx hb hK hP hD hS 20 0 rfl rfl eσ5 (fun _ => rfl) dX9_findKeys_26 (fun H locs hP hD hS => ?_)
      refine lv_aload_n hx hb dX9_findKeys_27 rfl (lv_at hl 0 rfl) ?_
      refine lv_dup hx hb dX9_findKeys_28 rfl ?_
      refine zget (v := .int (σ5.1 4)) hx hb hT zinX9 hown hK hP 0 rfl rfl 23 (by decide) zw645 rfl dX9_findKeys_29 ?_
      refine lv_iconst (v := (1 : Int32)) hx hb dX9_findKeys_32 (by decide) ?_
      refine lv_iadd hx hb dX9_findKeys_33 ?_
      obtain ⟨σ6, eσ6, hm⟩ := Option.bind_eq_some_iff.mp hm
      refine zput (j := 4) (ty := .int) hx hb hT zinX9 tyX9 tyX9_ok nmX9 hown hK hP hD hS 0 rfl rfl 23 (by decide) zw645 rfl (by decide +kernel) rfl rfl (Nat.le_of_ble_eq_true rfl) eσ6 rfl dX9_findKeys_34 (fun H locs hP hD hS => ?_)
      refine lv_iinc (v := (v2_2 + (1 : Int32))) (lv' := [(2, .int (v2_2 + (1 : Int32))), (0, .ref (ad 0)), (1, .int v1)]) hx hb dX9_findKeys_37 hl (k := 2) rfl rfl (by decide) rfl (fun ls hl => ?_)
      refine lv_goto (tgt := 7) hx hb dX9_findKeys_40 (by decide) ?_
      cases hm
      exact hk _ _ _ hP hD hS (lv_sub hl [1, 2, 0] rfl)
  have hL45 : ∀ (q : zS × Int32) (r : zS), ziter (fun q : zS × Int32 => m_X9_findKeys_L45 N v1 q.1 q.2) N q = some r → (∀ (H : Heap) (locs : List Loc) (ls : Array Slot), va_P D zclM (zwM ad cI cJ cZ cO r) H → va_D A (zwM ad cI cJ cZ cO r) → va_S A s.heap H locs → lv_has ls 5 [] → W p l e (zR 6 137) s m args below meth c H locs 0 0 Q (F0 m 146 ls [])) → ∀ (H : Heap) (locs : List Loc) (ls : Array Slot), va_P D zclM (zwM ad cI cJ cZ cO q.1) H → va_D A (zwM ad cI cJ cZ cO q.1) → va_S A s.heap H locs → lv_has ls 5 [(0, .ref (ad 0)), (1, .int v1), (2, .int q.2)] → W p l e (zR 6 137) s m args below meth c H locs 0 0 Q (F0 m 45 ls []) := by
    intro q r
    refine ziter_W (Hd := fun q : zS × Int32 => ∀ (H : Heap) (locs : List Loc) (ls : Array Slot), va_P D zclM (zwM ad cI cJ cZ cO q.1) H → va_D A (zwM ad cI cJ cZ cO q.1) → va_S A s.heap H locs → lv_has ls 5 [(0, .ref (ad 0)), (1, .int v1), (2, .int q.2)] → W p l e (zR 6 137) s m args below meth c H locs 0 0 Q (F0 m 45 ls [])) (Ex := fun r : zS => ∀ (H : Heap) (locs : List Loc) (ls : Array Slot), va_P D zclM (zwM ad cI cJ cZ cO r) H → va_D A (zwM ad cI cJ cZ cO r) → va_S A s.heap H locs → lv_has ls 5 [] → W p l e (zR 6 137) s m args below meth c H locs 0 0 Q (F0 m 146 ls [])) ?_ N q r
    rintro ⟨σ10, v2_10⟩ res hm hk H locs ls hP hD hS hl
    try dsimp only at hP hD hl
    replace hm : m_X9_findKeys_L45 N v1 σ10 v2_10 = some res := hm
    have hL69 : ∀ (v2_14 : Int32) (v3_14 : Int32), ∀ (q : zS × Int32) (r : zS), ziter (fun q : zS × Int32 => m_X9_findKeys_L69 N v1 v2_14 v3_14 q.1 q.2) N q = some r → (∀ (H : Heap) (locs : List Loc) (ls : Array Slot), va_P D zclM (zwM ad cI cJ cZ cO r) H → va_D A (zwM ad cI cJ cZ cO r) → va_S A s.heap H locs → lv_has ls 5 [(0, .ref (ad 0)), (1, .int v1), (2, .int v2_14)] → W p l e (zR 6 137) s m args below meth c H locs 0 0 Q (F0 m 140 ls [])) → ∀ (H : Heap) (locs : List Loc) (ls : Array Slot), va_P D zclM (zwM ad cI cJ cZ cO q.1) H → va_D A (zwM ad cI cJ cZ cO q.1) → va_S A s.heap H locs → lv_has ls 5 [(0, .ref (ad 0)), (1, .int v1), (2, .int v2_14), (3, .int v3_14), (4, .int q.2)] → W p l e (zR 6 137) s m args below meth c H locs 0 0 Q (F0 m 69 ls []) := by
      intro v2_14 v3_14
      intro q r
      refine ziter_W (Hd := fun q : zS × Int32 => ∀ (H : Heap) (locs : List Loc) (ls : Array Slot), va_P D zclM (zwM ad cI cJ cZ cO q.1) H → va_D A (zwM ad cI cJ cZ cO q.1) → va_S A s.heap H locs → lv_has ls 5 [(0, .ref (ad 0)), (1, .int v1), (2, .int v2_14), (3, .int v3_14), (4, .int q.2)] → W p l e (zR 6 137) s m args below meth c H locs 0 0 Q (F0 m 69 ls [])) (Ex := fun r : zS => ∀ (H : Heap) (locs : List Loc) (ls : Array Slot), va_P D zclM (zwM ad cI cJ cZ cO r) H → va_D A (zwM ad cI cJ cZ cO r) → va_S A s.heap H locs → lv_has ls 5 [(0, .ref (ad 0)), (1, .int v1), (2, .int v2_14)] → W p l e (zR 6 137) s m args below meth c H locs 0 0 Q (F0 m 140 ls [])) ?_ N q r
      rintro ⟨σ14, v4_14⟩ res hm hk H locs ls hP hD hS hl
      try dsimp only at hP hD hl
      replace hm : m_X9_findKeys_L69 N v1 v2_14 v3_14 σ14 v4_14 = some res := hm
      have h134 : ∀ (σ21 : zS) (v4_21 : Int32), m_X9_findKeys_134_in69 N v1 v2_14 v3_14 σ21 v4_21 = some res → ∀ (H : Heap) (locs : List Loc) (ls : Array Slot), va_P D zclM (zwM ad cI cJ cZ cO σ21) H → va_D A (zwM ad cI cJ cZ cO σ21) → va_S A s.heap H locs → lv_has ls 5 [(0, .ref (ad 0)), (1, .int v1), (2, .int v2_14), (3, .int v3_14), (4, .int v4_21)] → W p l e (zR 6 137) s m args below meth c H locs 0 0 Q (F0 m 134 ls []) := by
        intro σ21 v4_21 hm H locs ls hP hD hS hl
        unfold m_X9_findKeys_134_in69 at hm
        refine lv_iinc (v := (v4_21 + (1 : Int32))) (lv' := [(4, .int (v4_21 + (1 : Int32))), (0, .ref (ad 0)), (1, .int v1), (2, .int v2_14), (3, .int v3_14)]) hx hb dX9_findKeys_134 hl (k := 4) rfl rfl (by decide) rfl (fun ls hl => ?_)
        refine lv_goto (tgt := 69) hx hb dX9_findKeys_137 (by decide) ?_
        cases hm
        exact hk _ _ _ hP hD hS (lv_sub hl [1, 2, 3, 4, 0] rfl)
      unfold m_X9_findKeys_L69 at hm
      refine lv_iload hx hb dX9_findKeys_69 (lv_at hl 4 rfl) ?_
      refine lv_aload_n hx hb dX9_findKeys_71 rfl (lv_at hl 0 rfl) ?_
      refine zget (v := .ref (ad 23)) hx hb hT zinX9 hown hK hP 0 rfl rfl 28 (by decide) zw650 rfl dX9_findKeys_72 ?_
      refine lv_iload_n hx hb dX9_findKeys_75 rfl (lv_at hl 2 rfl) ?_
      obtain ⟨b15, eb15, hm⟩ := Option.bind_eq_some_iff.mp hm
      refine ziald hx hb hK hP 23 0 rfl rfl eb15 dX9_findKeys_76 ?_
      refine lv_icmp_ge (tgt := 140) hx hb dX9_findKeys_77 (by decide) (fun h16 => ?_) (fun h16 => ?_)
      · rw [if_pos h16] at hm
        cases hm
        exact hk _ _ _ hP hD hS (lv_sub hl [0, 1, 2] rfl)
      · rw [if_neg h16] at hm
        refine lv_iload_n hx hb dX9_findKeys_80 rfl (lv_at hl 3 rfl) ?_
        refine lv_if_eq (tgt := 140) hx hb dX9_findKeys_81 (by decide) (fun h17 => ?_) (fun h17 => ?_)
        · rw [if_pos h17] at hm
          cases hm
          exact hk _ _ _ hP hD hS (lv_sub hl [0, 1, 2] rfl)
        · rw [if_neg h17] at hm
          refine lv_aload_n hx hb dX9_findKeys_84 rfl (lv_at hl 0 rfl) ?_
          refine lv_aload_n hx hb dX9_findKeys_85 rfl (lv_at hl 0 rfl) ?_
          refine zget (v := .ref (ad 24)) hx hb hT zinX9 hown hK hP 0 rfl rfl 29 (by decide) zw651 rfl dX9_findKeys_86 ?_
          refine lv_bipush (v := (18 : Int32)) hx hb dX9_findKeys_89 (by decide) ?_
          refine lv_iload_n hx hb dX9_findKeys_91 rfl (lv_at hl 2 rfl) ?_
          refine lv_imul hx hb dX9_findKeys_92 ?_
          refine lv_iload hx hb dX9_findKeys_93 (lv_at hl 4 rfl) ?_
          refine lv_iadd hx hb dX9_findKeys_95 ?_
          obtain ⟨b18, eb18, hm⟩ := Option.bind_eq_some_iff.mp hm
          refine ziald hx hb hK hP 24 0 rfl rfl eb18 dX9_findKeys_96 ?_
          obtain ⟨b19, eb19, hm⟩ := Option.bind_eq_some_iff.mp hm
          refine zVi (rest := []) [.int b18] hx hb hml hl.1 hown hT (k_X9_isNew eb19) zkX9_isNew zw844 ⟨by decide, by decide⟩ rfl rfl hK hZ hP hD hS 0 rfl rfl rfl rfl (Nat.le_of_ble_eq_true rfl) ⟨Nat.zero_le _, Nat.zero_le _⟩ dX9_findKeys_97 (fun H locs hP hD hS => ?_)
          refine lv_if_eq (tgt := 134) hx hb dX9_findKeys_100 (by decide) (fun h20 => ?_) (fun h20 => ?_)
          · rw [if_pos h20] at hm
            exact h134 σ14 v4_14 hm _ _ _ hP hD hS (lv_sub hl [0, 1, 2, 3, 4] rfl)
          · rw [if_neg h20] at hm
            refine lv_aload_n hx hb dX9_findKeys_103 rfl (lv_at hl 0 rfl) ?_
            refine zget (v := .ref (ad 20)) hx hb hT zinX9 hown hK hP 0 rfl rfl 24 (by decide) zw646 rfl dX9_findKeys_104 ?_
            refine lv_aload_n hx hb dX9_findKeys_107 rfl (lv_at hl 0 rfl) ?_
            refine zget (v := .int (σ14.1 4)) hx hb hT zinX9 hown hK hP 0 rfl rfl 23 (by decide) zw645 rfl dX9_findKeys_108 ?_
            refine lv_aload_n hx hb dX9_findKeys_111 rfl (lv_at hl 0 rfl) ?_
            refine zget (v := .ref (ad 24)) hx hb hT zinX9 hown hK hP 0 rfl rfl 29 (by decide) zw651 rfl dX9_findKeys_112 ?_
            refine lv_bipush (v := (18 : Int32)) hx hb dX9_findKeys_115 (by decide) ?_
            refine lv_iload_n hx hb dX9_findKeys_117 rfl (lv_at hl 2 rfl) ?_
            refine lv_imul hx hb dX9_findKeys_118 ?_
            refine lv_iload hx hb dX9_findKeys_119 (lv_at hl 4 rfl) ?_
            refine lv_iadd hx hb dX9_findKeys_121 ?_
            obtain ⟨b22, eb22, hm⟩ := Option.bind_eq_some_iff.mp hm
            refine ziald hx hb hK hP 24 0 rfl rfl eb22 dX9_findKeys_122 ?_
            obtain ⟨σ23, eσ23, hm⟩ := Option.bind_eq_some_iff.mp hm
            refine ziast (j := 19) hx hb hK hP hD hS 20 0 rfl rfl eσ23 (fun _ => rfl) dX9_findKeys_123 (fun H locs hP hD hS => ?_)
            refine lv_aload_n hx hb dX9_findKeys_124 rfl (lv_at hl 0 rfl) ?_
            refine lv_dup hx hb dX9_findKeys_125 rfl ?_
            refine zget (v := .int (σ23.1 4)) hx hb hT zinX9 hown hK hP 0 rfl rfl 23 (by decide) zw645 rfl dX9_findKeys_126 ?_
            refine lv_iconst (v := (1 : Int32)) hx hb dX9_findKeys_129 (by decide) ?_
            refine lv_iadd hx hb dX9_findKeys_130 ?_
            obtain ⟨σ24, eσ24, hm⟩ := Option.bind_eq_some_iff.mp hm
            refine zput (j := 4) (ty := .int) hx hb hT zinX9 tyX9 tyX9_ok nmX9 hown hK hP hD hS 0 rfl rfl 23 (by decide) zw645 rfl (by decide +kernel) rfl rfl (Nat.le_of_ble_eq_true rfl) eσ24 rfl dX9_findKeys_131 (fun H locs hP hD hS => ?_)
            exact h134 σ24 v4_14 hm _ _ _ hP hD hS (lv_sub hl [0, 1, 2, 3, 4] rfl)
    have h140 : ∀ (σ27 : zS) (v2_27 : Int32), m_X9_findKeys_140_in45 N v1 σ27 v2_27 = some res → ∀ (H : Heap) (locs : List Loc) (ls : Array Slot), va_P D zclM (zwM ad cI cJ cZ cO σ27) H → va_D A (zwM ad cI cJ cZ cO σ27) → va_S A s.heap H locs → lv_has ls 5 [(0, .ref (ad 0)), (1, .int v1), (2, .int v2_27)] → W p l e (zR 6 137) s m args below meth c H locs 0 0 Q (F0 m 140 ls []) := by
      intro σ27 v2_27 hm H locs ls hP hD hS hl
      unfold m_X9_findKeys_140_in45 at hm
      refine lv_iinc (v := (v2_27 + (1 : Int32))) (lv' := [(2, .int (v2_27 + (1 : Int32))), (0, .ref (ad 0)), (1, .int v1)]) hx hb dX9_findKeys_140 hl (k := 2) rfl rfl (by decide) rfl (fun ls hl => ?_)
      refine lv_goto (tgt := 45) hx hb dX9_findKeys_143 (by decide) ?_
      cases hm
      exact hk _ _ _ hP hD hS (lv_sub hl [1, 2, 0] rfl)
    unfold m_X9_findKeys_L45 at hm
    refine lv_iload_n hx hb dX9_findKeys_45 rfl (lv_at hl 2 rfl) ?_
    refine lv_aload_n hx hb dX9_findKeys_46 rfl (lv_at hl 0 rfl) ?_
    refine zget (v := .int (σ10.1 0)) hx hb hT zinX9 hown hK hP 0 rfl rfl 0 (by decide) zw622 rfl dX9_findKeys_47 ?_
    refine lv_icmp_ge (tgt := 146) hx hb dX9_findKeys_50 (by decide) (fun h11 => ?_) (fun h11 => ?_)
    · rw [if_pos h11] at hm
      cases hm
      exact hk _ _ _ hP hD hS (lv_sub hl [] rfl)
    · rw [if_neg h11] at hm
      refine lv_aload_n hx hb dX9_findKeys_53 rfl (lv_at hl 0 rfl) ?_
      refine lv_iload_n hx hb dX9_findKeys_54 rfl (lv_at hl 1 rfl) ?_
      refine lv_iload_n hx hb dX9_findKeys_55 rfl (lv_at hl 2 rfl) ?_
      obtain ⟨σ12, eσ12, hm⟩ := Option.bind_eq_some_iff.mp hm
      refine zVv (rest := []) [.int v1, .int v2_10] hx hb hml hl.1 hown hT (k_X9_findKeysOf eσ12) zkX9_findKeysOf zw802 ⟨by decide, by decide⟩ rfl rfl hK hZ hP hD hS 0 rfl rfl rfl rfl (Nat.le_of_ble_eq_true rfl) ⟨Nat.zero_le _, Nat.zero_le _⟩ dX9_findKeys_56 (fun H locs hP hD hS => ?_)
      refine lv_aload_n hx hb dX9_findKeys_59 rfl (lv_at hl 0 rfl) ?_
      refine lv_iload_n hx hb dX9_findKeys_60 rfl (lv_at hl 1 rfl) ?_
      refine lv_iload_n hx hb dX9_findKeys_61 rfl (lv_at hl 2 rfl) ?_
      obtain ⟨b13, eb13, hm⟩ := Option.bind_eq_some_iff.mp hm
      refine zVi (rest := []) [.int v1, .int v2_10] hx hb hml hl.1 hown hT (k_X9_counts eb13) zkX9_counts zw836 ⟨by decide, by decide⟩ rfl rfl hK hZ hP hD hS 0 rfl rfl rfl rfl (Nat.le_of_ble_eq_true rfl) ⟨Nat.zero_le _, Nat.zero_le _⟩ dX9_findKeys_62 (fun H locs hP hD hS => ?_)
      refine lv_istore_n (lv' := [(3, .int b13), (0, .ref (ad 0)), (1, .int v1), (2, .int v2_10)]) hx hb dX9_findKeys_65 rfl hl (by decide) rfl (fun ls hl => ?_)
      refine lv_iconst (v := (0 : Int32)) hx hb dX9_findKeys_66 (by decide) ?_
      refine lv_istore (lv' := [(4, .int (0 : Int32)), (3, .int b13), (0, .ref (ad 0)), (1, .int v1), (2, .int v2_10)]) hx hb dX9_findKeys_67 hl (by decide) rfl (fun ls hl => ?_)
      obtain ⟨σ26, e28, hm⟩ := Option.bind_eq_some_iff.mp hm
      refine hL69 v2_10 b13 _ σ26 e28 ?_ _ _ _ hP hD hS (lv_sub hl [2, 3, 4, 1, 0] rfl)
      intro H locs ls hP hD hS hl
      try dsimp only at hP hD hl
      replace hm : m_X9_findKeys_140_in45 N v1 σ26 v2_10 = some res := hm
      exact h140 σ26 v2_10 hm _ _ _ hP hD hS (lv_sub hl [0, 1, 2] rfl)
  have h146 : ∀ (σ31 : zS), m_X9_findKeys_146 N v1 σ31 = some σ' → ∀ (H : Heap) (locs : List Loc) (ls : Array Slot), va_P D zclM (zwM ad cI cJ cZ cO σ31) H → va_D A (zwM ad cI cJ cZ cO σ31) → va_S A s.heap H locs → lv_has ls 5 [] → W p l e (zR 6 137) s m args below meth c H locs 0 0 Q (F0 m 146 ls []) := by
    intro σ31 hm H locs ls hP hD hS hl
    unfold m_X9_findKeys_146 at hm
    cases hm
    exact hret _ _ _ _ dX9_findKeys_146 hP hD hS
  have h43 : ∀ (σ9 : zS), m_X9_findKeys_43 N v1 σ9 = some σ' → ∀ (H : Heap) (locs : List Loc) (ls : Array Slot), va_P D zclM (zwM ad cI cJ cZ cO σ9) H → va_D A (zwM ad cI cJ cZ cO σ9) → va_S A s.heap H locs → lv_has ls 5 [(0, .ref (ad 0)), (1, .int v1)] → W p l e (zR 6 137) s m args below meth c H locs 0 0 Q (F0 m 43 ls []) := by
    intro σ9 hm H locs ls hP hD hS hl
    unfold m_X9_findKeys_43 at hm
    refine lv_iconst (v := (0 : Int32)) hx hb dX9_findKeys_43 (by decide) ?_
    refine lv_istore_n (lv' := [(2, .int (0 : Int32)), (0, .ref (ad 0)), (1, .int v1)]) hx hb dX9_findKeys_44 rfl hl (by decide) rfl (fun ls hl => ?_)
    obtain ⟨σ30, e32, hm⟩ := Option.bind_eq_some_iff.mp hm
    refine hL45  _ σ30 e32 ?_ _ _ _ hP hD hS (lv_sub hl [1, 2, 0] rfl)
    intro H locs ls hP hD hS hl
    try dsimp only at hP hD hl
    replace hm : m_X9_findKeys_146 N v1 σ30 = some σ' := hm
    exact h146 σ30 hm _ _ _ hP hD hS (lv_sub hl [] rfl)
  unfold m_X9_findKeys at hm
  refine lv_aload_n hx hb dX9_findKeys_0 rfl (lv_at hl 0 rfl) ?_
  refine lv_iconst (v := (0 : Int32)) hx hb dX9_findKeys_1 (by decide) ?_
  obtain ⟨σ1, eσ1, hm⟩ := Option.bind_eq_some_iff.mp hm
  refine zput (j := 4) (ty := .int) hx hb hT zinX9 tyX9 tyX9_ok nmX9 hown hK hP hD hS 0 rfl rfl 23 (by decide) zw645 rfl (by decide +kernel) rfl rfl (Nat.le_of_ble_eq_true rfl) eσ1 rfl dX9_findKeys_2 (fun H locs hP hD hS => ?_)
  refine lv_iconst (v := (0 : Int32)) hx hb dX9_findKeys_5 (by decide) ?_
  refine lv_istore_n (lv' := [(2, .int (0 : Int32)), (0, .ref (ad 0)), (1, .int v1)]) hx hb dX9_findKeys_6 rfl hl (by decide) rfl (fun ls hl => ?_)
  obtain ⟨σ8, e33, hm⟩ := Option.bind_eq_some_iff.mp hm
  refine hL7  _ σ8 e33 ?_ _ _ _ hP hD hS (lv_sub hl [1, 2, 0] rfl)
  intro H locs ls hP hD hS hl
  try dsimp only at hP hD hl
  replace hm : m_X9_findKeys_43 N v1 σ8 = some σ' := hm
  exact h43 σ8 hm _ _ _ hP hD hS (lv_sub hl [0, 1] rfl)
set_option maxHeartbeats 4000000 in
set_option maxRecDepth 100000 in
theorem k_X9_isIn {l : Launch} {D : va_G} {ad : Nat → Nat} {cI cJ cZ cO : ClassId} {t : Nat} {A : Nat → Prop} {N : Nat} {σ : zS} {v1 : Int32} {v2 : Int32} {v3 : Int32} {r : Int32}  (hm : m_X9_isIn N σ v1 v2 v3 = some r) : zCi l yX9_isIn cX9_isIn 5 (some .boolean) (zR 2 47) D zclM (zty cI cJ cZ cO) t A (zwM ad cI cJ cZ cO) [.ref (ad 0), .int v1, .int v2, .int v3] σ σ r := by
  refine zMz (by decide) (Nat.le_of_ble_eq_true rfl) ?_
  intro p e s m args below meth c Q hx hb hml hown hT hK hZ hret hP hD hS ls hl
  replace hown : s.vm.findClass RX9 = some m.cls := hown
  replace hl : lv_has ls 5 [(0, .ref (ad 0)), (1, .int v1), (2, .int v2), (3, .int v3)] := hl
  have h22 : ∀ (x0_3 : Int32), m_X9_isIn_22 N σ v1 v2 v3 x0_3 = some r → ∀ (H : Heap) (locs : List Loc) (ls : Array Slot), va_P D zclM (zwM ad cI cJ cZ cO σ) H → va_D A (zwM ad cI cJ cZ cO σ) → va_S A s.heap H locs → lv_has ls 5 [(0, .ref (ad 0)), (1, .int v1), (2, .int v2), (3, .int v3)] → W p l e (zR 2 47) s m args below meth c H locs 0 0 Q (F0 m 22 ls [.int x0_3]) := by
    intro x0_3 hm H locs ls hP hD hS hl
    unfold m_X9_isIn_22 at hm
    refine lv_istore (lv' := [(4, .int x0_3), (0, .ref (ad 0)), (1, .int v1), (2, .int v2), (3, .int v3)]) hx hb dX9_isIn_22 hl (by decide) rfl (fun ls hl => ?_)
    refine lv_aload_n hx hb dX9_isIn_24 rfl (lv_at hl 1 rfl) ?_
    refine lv_iload_n hx hb dX9_isIn_25 rfl (lv_at hl 2 rfl) ?_
    refine lv_iload_n hx hb dX9_isIn_26 rfl (lv_at hl 4 rfl) ?_
    obtain ⟨b4, eb4, hm⟩ := Option.bind_eq_some_iff.mp hm
    refine zVi (rest := []) [.int v1, .int v3] hx hb hml hl.1 hown hT (k_X9_counts eb4) zkX9_counts zw836 ⟨by decide, by decide⟩ rfl rfl hK hZ hP hD hS 0 rfl rfl rfl rfl (Nat.le_of_ble_eq_true rfl) ⟨Nat.zero_le _, Nat.zero_le _⟩ dX9_isIn_27 (fun H locs hP hD hS => ?_)
    refine lv_if_eq (tgt := 68) hx hb dX9_isIn_30 (by decide) (fun h5 => ?_) (fun h5 => ?_)
    · rw [if_pos h5] at hm
      refine lv_iconst (v := (0 : Int32)) hx hb dX9_isIn_68 (by decide) ?_
      cases hm
      exact hret _ _ _ _ (by decide) dX9_isIn_69 hP hD hS
    · rw [if_neg h5] at hm
      refine lv_iload hx hb dX9_isIn_33 (lv_at hl 0 rfl) ?_
      refine lv_if_eq (tgt := 50) hx hb dX9_isIn_35 (by decide) (fun h6 => ?_) (fun h6 => ?_)
      · rw [if_pos h6] at hm
        refine lv_aload_n hx hb dX9_isIn_50 rfl (lv_at hl 1 rfl) ?_
        refine lv_iload_n hx hb dX9_isIn_51 rfl (lv_at hl 4 rfl) ?_
        refine lv_aload_n hx hb dX9_isIn_52 rfl (lv_at hl 1 rfl) ?_
        refine zget (v := .ref (ad 20)) hx hb hT zinX9 hown hK hP 0 rfl rfl 24 (by decide) zw646 rfl dX9_isIn_53 ?_
        refine lv_iload_n hx hb dX9_isIn_56 rfl (lv_at hl 3 rfl) ?_
        obtain ⟨b7, eb7, hm⟩ := Option.bind_eq_some_iff.mp hm
        refine ziald hx hb hK hP 20 0 rfl rfl eb7 dX9_isIn_57 ?_
        obtain ⟨b8, eb8, hm⟩ := Option.bind_eq_some_iff.mp hm
        refine zVi (rest := []) [.int v3, .int b7] hx hb hml hl.1 hown hT (k_X9_hasKey eb8) zkX9_hasKey zw856 ⟨by decide, by decide⟩ rfl rfl hK hZ hP hD hS 0 rfl rfl rfl rfl (Nat.le_of_ble_eq_true rfl) ⟨Nat.zero_le _, Nat.zero_le _⟩ dX9_isIn_58 (fun H locs hP hD hS => ?_)
        refine lv_if_eq (tgt := 68) hx hb dX9_isIn_61 (by decide) (fun h9 => ?_) (fun h9 => ?_)
        · rw [if_pos h9] at hm
          refine lv_iconst (v := (0 : Int32)) hx hb dX9_isIn_68 (by decide) ?_
          cases hm
          exact hret _ _ _ _ (by decide) dX9_isIn_69 hP hD hS
        · rw [if_neg h9] at hm
          refine lv_iconst (v := (1 : Int32)) hx hb dX9_isIn_64 (by decide) ?_
          refine lv_goto (tgt := 69) hx hb dX9_isIn_65 (by decide) ?_
          cases hm
          exact hret _ _ _ _ (by decide) dX9_isIn_69 hP hD hS
      · rw [if_neg h6] at hm
        refine lv_aload_n hx hb dX9_isIn_38 rfl (lv_at hl 1 rfl) ?_
        refine zget (v := .ref (ad 23)) hx hb hT zinX9 hown hK hP 0 rfl rfl 28 (by decide) zw650 rfl dX9_isIn_39 ?_
        refine lv_iload_n hx hb dX9_isIn_42 rfl (lv_at hl 4 rfl) ?_
        obtain ⟨b10, eb10, hm⟩ := Option.bind_eq_some_iff.mp hm
        refine ziald hx hb hK hP 23 0 rfl rfl eb10 dX9_isIn_43 ?_
        refine lv_if_ne (tgt := 68) hx hb dX9_isIn_44 (by decide) (fun h11 => ?_) (fun h11 => ?_)
        · rw [if_neg h11] at hm
          refine lv_iconst (v := (0 : Int32)) hx hb dX9_isIn_68 (by decide) ?_
          cases hm
          exact hret _ _ _ _ (by decide) dX9_isIn_69 hP hD hS
        · rw [if_pos h11] at hm
          refine lv_goto (tgt := 64) hx hb dX9_isIn_47 (by decide) ?_
          refine lv_iconst (v := (1 : Int32)) hx hb dX9_isIn_64 (by decide) ?_
          refine lv_goto (tgt := 69) hx hb dX9_isIn_65 (by decide) ?_
          cases hm
          exact hret _ _ _ _ (by decide) dX9_isIn_69 hP hD hS
  have h21 : m_X9_isIn_21 N σ v1 v2 v3 = some r → ∀ (H : Heap) (locs : List Loc) (ls : Array Slot), va_P D zclM (zwM ad cI cJ cZ cO σ) H → va_D A (zwM ad cI cJ cZ cO σ) → va_S A s.heap H locs → lv_has ls 5 [(0, .ref (ad 0)), (1, .int v1), (2, .int v2), (3, .int v3)] → W p l e (zR 2 47) s m args below meth c H locs 0 0 Q (F0 m 21 ls []) := by
    intro  hm H locs ls hP hD hS hl
    unfold m_X9_isIn_21 at hm
    refine lv_iconst (v := (0 : Int32)) hx hb dX9_isIn_21 (by decide) ?_
    exact h22 (0 : Int32) hm _ _ _ hP hD hS (lv_sub hl [0, 1, 2, 3] rfl)
  unfold m_X9_isIn at hm
  refine lv_aload_n hx hb dX9_isIn_0 rfl (lv_at hl 0 rfl) ?_
  refine zget (v := .int (σ.1 5)) hx hb hT zinX9 hown hK hP 0 rfl rfl 27 (by decide) zw649 rfl dX9_isIn_1 ?_
  refine lv_if_eq (tgt := 21) hx hb dX9_isIn_4 (by decide) (fun h1 => ?_) (fun h1 => ?_)
  · rw [if_pos h1] at hm
    exact h21  hm _ _ _ hP hD hS (lv_sub hl [0, 1, 2, 3] rfl)
  · rw [if_neg h1] at hm
    refine lv_iload_n hx hb dX9_isIn_7 rfl (lv_at hl 2 rfl) ?_
    refine lv_aload_n hx hb dX9_isIn_8 rfl (lv_at hl 0 rfl) ?_
    refine zget (v := .int (σ.1 4)) hx hb hT zinX9 hown hK hP 0 rfl rfl 23 (by decide) zw645 rfl dX9_isIn_9 ?_
    refine lv_iconst (v := (1 : Int32)) hx hb dX9_isIn_12 (by decide) ?_
    refine lv_isub hx hb dX9_isIn_13 ?_
    refine lv_icmp_ne (tgt := 21) hx hb dX9_isIn_14 (by decide) (fun h12 => ?_) (fun h12 => ?_)
    · rw [if_neg h12] at hm
      exact h21  hm _ _ _ hP hD hS (lv_sub hl [0, 1, 2, 3] rfl)
    · rw [if_pos h12] at hm
      refine lv_iconst (v := (1 : Int32)) hx hb dX9_isIn_17 (by decide) ?_
      refine lv_goto (tgt := 22) hx hb dX9_isIn_18 (by decide) ?_
      exact h22 (1 : Int32) hm _ _ _ hP hD hS (lv_sub hl [0, 1, 2, 3] rfl)
set_option maxHeartbeats 4000000 in
set_option maxRecDepth 100000 in
theorem k_X9_measure {l : Launch} {D : va_G} {ad : Nat → Nat} {cI cJ cZ cO : ClassId} {t : Nat} {A : Nat → Prop} {N : Nat} {σ σ' : zS} {v1 : Int32} {v2 : Int32}   (hm : m_X9_measure N σ v1 v2 = some σ') : zCv l yX9_measure cX9_measure 4 (none) (zR 3 71) D zclM (zty cI cJ cZ cO) t A (zwM ad cI cJ cZ cO) [.ref (ad 0), .int v1, .int v2] σ σ' := by
  refine zMv (by decide) (Nat.le_of_ble_eq_true rfl) ?_
  intro p e s m args below meth c Q hx hb hml hown hT hK hZ hret hP hD hS ls hl
  replace hown : s.vm.findClass RX9 = some m.cls := hown
  replace hl : lv_has ls 4 [(0, .ref (ad 0)), (1, .int v1), (2, .int v2)] := hl
  have hL16 : ∀ (q : zS × Int32) (r : zS), ziter (fun q : zS × Int32 => m_X9_measure_L16 N v1 v2 q.1 q.2) N q = some r → (∀ (H : Heap) (locs : List Loc) (ls : Array Slot), va_P D zclM (zwM ad cI cJ cZ cO r) H → va_D A (zwM ad cI cJ cZ cO r) → va_S A s.heap H locs → lv_has ls 4 [] → W p l e (zR 3 71) s m args below meth c H locs 0 0 Q (F0 m 84 ls [])) → ∀ (H : Heap) (locs : List Loc) (ls : Array Slot), va_P D zclM (zwM ad cI cJ cZ cO q.1) H → va_D A (zwM ad cI cJ cZ cO q.1) → va_S A s.heap H locs → lv_has ls 4 [(0, .ref (ad 0)), (1, .int v1), (2, .int v2), (3, .int q.2)] → W p l e (zR 3 71) s m args below meth c H locs 0 0 Q (F0 m 16 ls []) := by
    intro q r
    refine ziter_W (Hd := fun q : zS × Int32 => ∀ (H : Heap) (locs : List Loc) (ls : Array Slot), va_P D zclM (zwM ad cI cJ cZ cO q.1) H → va_D A (zwM ad cI cJ cZ cO q.1) → va_S A s.heap H locs → lv_has ls 4 [(0, .ref (ad 0)), (1, .int v1), (2, .int v2), (3, .int q.2)] → W p l e (zR 3 71) s m args below meth c H locs 0 0 Q (F0 m 16 ls [])) (Ex := fun r : zS => ∀ (H : Heap) (locs : List Loc) (ls : Array Slot), va_P D zclM (zwM ad cI cJ cZ cO r) H → va_D A (zwM ad cI cJ cZ cO r) → va_S A s.heap H locs → lv_has ls 4 [] → W p l e (zR 3 71) s m args below meth c H locs 0 0 Q (F0 m 84 ls [])) ?_ N q r
    rintro ⟨σ3, v3_3⟩ res hm hk H locs ls hP hD hS hl
    try dsimp only at hP hD hl
    replace hm : m_X9_measure_L16 N v1 v2 σ3 v3_3 = some res := hm
    have h78 : ∀ (σ7 : zS) (v3_7 : Int32), m_X9_measure_78_in16 N v1 v2 σ7 v3_7 = some res → ∀ (H : Heap) (locs : List Loc) (ls : Array Slot), va_P D zclM (zwM ad cI cJ cZ cO σ7) H → va_D A (zwM ad cI cJ cZ cO σ7) → va_S A s.heap H locs → lv_has ls 4 [(0, .ref (ad 0)), (1, .int v1), (2, .int v2), (3, .int v3_7)] → W p l e (zR 3 71) s m args below meth c H locs 0 0 Q (F0 m 78 ls []) := by
      intro σ7 v3_7 hm H locs ls hP hD hS hl
      unfold m_X9_measure_78_in16 at hm
      refine lv_iinc (v := (v3_7 + (1 : Int32))) (lv' := [(3, .int (v3_7 + (1 : Int32))), (0, .ref (ad 0)), (1, .int v1), (2, .int v2)]) hx hb dX9_measure_78 hl (k := 3) rfl rfl (by decide) rfl (fun ls hl => ?_)
      refine lv_goto (tgt := 16) hx hb dX9_measure_81 (by decide) ?_
      cases hm
      exact hk _ _ _ hP hD hS (lv_sub hl [1, 2, 3, 0] rfl)
    have h76 : ∀ (σ13 : zS) (v3_13 : Int32) (x1_13 : Int32) (x2_13 : Int64) (x3_13 : Int64), m_X9_measure_76_in16 N v1 v2 σ13 v3_13 x1_13 x2_13 x3_13 = some res → ∀ (H : Heap) (locs : List Loc) (ls : Array Slot), va_P D zclM (zwM ad cI cJ cZ cO σ13) H → va_D A (zwM ad cI cJ cZ cO σ13) → va_S A s.heap H locs → lv_has ls 4 [(0, .ref (ad 0)), (1, .int v1), (2, .int v2), (3, .int v3_13)] → W p l e (zR 3 71) s m args below meth c H locs 0 0 Q (F0 m 76 ls [.long x3_13, .long x2_13, .int x1_13, .ref (ad 22)]) := by
      intro σ13 v3_13 x1_13 x2_13 x3_13 hm H locs ls hP hD hS hl
      unfold m_X9_measure_76_in16 at hm
      refine lv_ladd hx hb dX9_measure_76 ?_
      obtain ⟨σ14, eσ14, hm⟩ := Option.bind_eq_some_iff.mp hm
      refine zlast (j := 0) hx hb hK hP hD hS 22 1 rfl rfl eσ14 (fun _ => rfl) dX9_measure_77 (fun H locs hP hD hS => ?_)
      exact h78 σ14 v3_13 hm _ _ _ hP hD hS (lv_sub hl [0, 1, 2, 3] rfl)
    unfold m_X9_measure_L16 at hm
    refine lv_iload_n hx hb dX9_measure_16 rfl (lv_at hl 3 rfl) ?_
    refine lv_aload_n hx hb dX9_measure_17 rfl (lv_at hl 0 rfl) ?_
    refine zget (v := .int (σ3.1 0)) hx hb hT zinX9 hown hK hP 0 rfl rfl 0 (by decide) zw622 rfl dX9_measure_18 ?_
    refine lv_icmp_ge (tgt := 84) hx hb dX9_measure_21 (by decide) (fun h4 => ?_) (fun h4 => ?_)
    · rw [if_pos h4] at hm
      cases hm
      exact hk _ _ _ hP hD hS (lv_sub hl [] rfl)
    · rw [if_neg h4] at hm
      refine lv_aload_n hx hb dX9_measure_24 rfl (lv_at hl 0 rfl) ?_
      refine lv_iload_n hx hb dX9_measure_25 rfl (lv_at hl 1 rfl) ?_
      refine lv_iload_n hx hb dX9_measure_26 rfl (lv_at hl 2 rfl) ?_
      refine lv_iload_n hx hb dX9_measure_27 rfl (lv_at hl 3 rfl) ?_
      obtain ⟨b5, eb5, hm⟩ := Option.bind_eq_some_iff.mp hm
      refine zVi (rest := []) [.int v1, .int v2, .int v3_3] hx hb hml hl.1 hown hT (k_X9_isIn eb5) zkX9_isIn zw852 ⟨by decide, by decide⟩ rfl rfl hK hZ hP hD hS 0 rfl rfl rfl rfl (Nat.le_of_ble_eq_true rfl) ⟨Nat.zero_le _, Nat.zero_le _⟩ dX9_measure_28 (fun H locs hP hD hS => ?_)
      refine lv_if_eq (tgt := 78) hx hb dX9_measure_31 (by decide) (fun h6 => ?_) (fun h6 => ?_)
      · rw [if_pos h6] at hm
        exact h78 σ3 v3_3 hm _ _ _ hP hD hS (lv_sub hl [0, 1, 2, 3] rfl)
      · rw [if_neg h6] at hm
        refine lv_aload_n hx hb dX9_measure_34 rfl (lv_at hl 0 rfl) ?_
        refine zget (v := .ref (ad 21)) hx hb hT zinX9 hown hK hP 0 rfl rfl 25 (by decide) zw647 rfl dX9_measure_35 ?_
        refine lv_iload_n hx hb dX9_measure_38 rfl (lv_at hl 2 rfl) ?_
        refine lv_dup2_11 hx hb dX9_measure_39 rfl rfl ?_
        obtain ⟨b8, eb8, hm⟩ := Option.bind_eq_some_iff.mp hm
        refine ziald hx hb hK hP 21 0 rfl rfl eb8 dX9_measure_40 ?_
        refine lv_iconst (v := (1 : Int32)) hx hb dX9_measure_41 (by decide) ?_
        refine lv_iadd hx hb dX9_measure_42 ?_
        obtain ⟨σ9, eσ9, hm⟩ := Option.bind_eq_some_iff.mp hm
        refine ziast (j := 20) hx hb hK hP hD hS 21 0 rfl rfl eσ9 (fun _ => rfl) dX9_measure_43 (fun H locs hP hD hS => ?_)
        refine lv_aload_n hx hb dX9_measure_44 rfl (lv_at hl 0 rfl) ?_
        refine zget (v := .ref (ad 22)) hx hb hT zinX9 hown hK hP 0 rfl rfl 26 (by decide) zw648 rfl dX9_measure_45 ?_
        refine lv_iload_n hx hb dX9_measure_48 rfl (lv_at hl 2 rfl) ?_
        refine lv_dup2_11 hx hb dX9_measure_49 rfl rfl ?_
        obtain ⟨b10, eb10, hm⟩ := Option.bind_eq_some_iff.mp hm
        refine zlald hx hb hK hP 22 1 rfl rfl eb10 dX9_measure_50 ?_
        refine lv_aload_n hx hb dX9_measure_51 rfl (lv_at hl 0 rfl) ?_
        refine zget (v := .ref (ad 16)) hx hb hT zinX9 hown hK hP 0 rfl rfl 17 (by decide) zw639 rfl dX9_measure_52 ?_
        refine lv_iload_n hx hb dX9_measure_55 rfl (lv_at hl 1 rfl) ?_
        obtain ⟨b11, eb11, hm⟩ := Option.bind_eq_some_iff.mp hm
        refine ziald hx hb hK hP 16 0 rfl rfl eb11 dX9_measure_56 ?_
        refine lv_iconst (v := (2 : Int32)) hx hb dX9_measure_57 (by decide) ?_
        refine lv_icmp_ne (tgt := 75) hx hb dX9_measure_58 (by decide) (fun h12 => ?_) (fun h12 => ?_)
        · rw [if_neg h12] at hm
          refine lv_lconst (v := (0 : Int64)) hx hb dX9_measure_75 (by decide) ?_
          exact h76 σ9 v3_3 v2 b10 (0 : Int64) hm _ _ _ hP hD hS (lv_sub hl [0, 1, 2, 3] rfl)
        · rw [if_pos h12] at hm
          refine lv_aload_n hx hb dX9_measure_61 rfl (lv_at hl 0 rfl) ?_
          refine lv_iload_n hx hb dX9_measure_62 rfl (lv_at hl 3 rfl) ?_
          refine lv_aload_n hx hb dX9_measure_63 rfl (lv_at hl 0 rfl) ?_
          refine zget (v := .ref (ad 17)) hx hb hT zinX9 hown hK hP 0 rfl rfl 18 (by decide) zw640 rfl dX9_measure_64 ?_
          refine lv_iload_n hx hb dX9_measure_67 rfl (lv_at hl 1 rfl) ?_
          obtain ⟨b15, eb15, hm⟩ := Option.bind_eq_some_iff.mp hm
          refine ziald hx hb hK hP 17 0 rfl rfl eb15 dX9_measure_68 ?_
          obtain ⟨b16, eb16, hm⟩ := Option.bind_eq_some_iff.mp hm
          refine zVl (rest := [.long b10, .int v2, .ref (ad 22)]) [.int v3_3, .int b15] hx hb hml hl.1 hown hT (k_X9_sumOf eb16) zkX9_sumOf zw860 ⟨by decide, by decide⟩ rfl rfl hK hZ hP hD hS 0 rfl rfl rfl rfl (Nat.le_of_ble_eq_true rfl) ⟨Nat.zero_le _, Nat.zero_le _⟩ dX9_measure_69 (fun H locs hP hD hS => ?_)
          refine lv_goto (tgt := 76) hx hb dX9_measure_72 (by decide) ?_
          exact h76 σ9 v3_3 v2 b10 b16 hm _ _ _ hP hD hS (lv_sub hl [0, 1, 2, 3] rfl)
  have h84 : ∀ (σ19 : zS), m_X9_measure_84 N v1 v2 σ19 = some σ' → ∀ (H : Heap) (locs : List Loc) (ls : Array Slot), va_P D zclM (zwM ad cI cJ cZ cO σ19) H → va_D A (zwM ad cI cJ cZ cO σ19) → va_S A s.heap H locs → lv_has ls 4 [] → W p l e (zR 3 71) s m args below meth c H locs 0 0 Q (F0 m 84 ls []) := by
    intro σ19 hm H locs ls hP hD hS hl
    unfold m_X9_measure_84 at hm
    cases hm
    exact hret _ _ _ _ dX9_measure_84 hP hD hS
  unfold m_X9_measure at hm
  refine lv_aload_n hx hb dX9_measure_0 rfl (lv_at hl 0 rfl) ?_
  refine zget (v := .ref (ad 21)) hx hb hT zinX9 hown hK hP 0 rfl rfl 25 (by decide) zw647 rfl dX9_measure_1 ?_
  refine lv_iload_n hx hb dX9_measure_4 rfl (lv_at hl 2 rfl) ?_
  refine lv_iconst (v := (0 : Int32)) hx hb dX9_measure_5 (by decide) ?_
  obtain ⟨σ1, eσ1, hm⟩ := Option.bind_eq_some_iff.mp hm
  refine ziast (j := 20) hx hb hK hP hD hS 21 0 rfl rfl eσ1 (fun _ => rfl) dX9_measure_6 (fun H locs hP hD hS => ?_)
  refine lv_aload_n hx hb dX9_measure_7 rfl (lv_at hl 0 rfl) ?_
  refine zget (v := .ref (ad 22)) hx hb hT zinX9 hown hK hP 0 rfl rfl 26 (by decide) zw648 rfl dX9_measure_8 ?_
  refine lv_iload_n hx hb dX9_measure_11 rfl (lv_at hl 2 rfl) ?_
  refine lv_lconst (v := (0 : Int64)) hx hb dX9_measure_12 (by decide) ?_
  obtain ⟨σ2, eσ2, hm⟩ := Option.bind_eq_some_iff.mp hm
  refine zlast (j := 0) hx hb hK hP hD hS 22 1 rfl rfl eσ2 (fun _ => rfl) dX9_measure_13 (fun H locs hP hD hS => ?_)
  refine lv_iconst (v := (0 : Int32)) hx hb dX9_measure_14 (by decide) ?_
  refine lv_istore_n (lv' := [(3, .int (0 : Int32)), (0, .ref (ad 0)), (1, .int v1), (2, .int v2)]) hx hb dX9_measure_15 rfl hl (by decide) rfl (fun ls hl => ?_)
  obtain ⟨σ18, e20, hm⟩ := Option.bind_eq_some_iff.mp hm
  refine hL16  _ σ18 e20 ?_ _ _ _ hP hD hS (lv_sub hl [1, 2, 3, 0] rfl)
  intro H locs ls hP hD hS hl
  try dsimp only at hP hD hl
  replace hm : m_X9_measure_84 N v1 v2 σ18 = some σ' := hm
  exact h84 σ18 hm _ _ _ hP hD hS (lv_sub hl [] rfl)
set_option maxHeartbeats 4000000 in
set_option maxRecDepth 100000 in
theorem k_X9_isBefore {l : Launch} {D : va_G} {ad : Nat → Nat} {cI cJ cZ cO : ClassId} {t : Nat} {A : Nat → Prop} {N : Nat} {σ : zS} {v1 : Int32} {v2 : Int32} {v3 : Int32} {r : Int32}  (hm : m_X9_isBefore N σ v1 v2 v3 = some r) : zCi l yX9_isBefore cX9_isBefore 4 (some .boolean) (zR 0 0) D zclM (zty cI cJ cZ cO) t A (zwM ad cI cJ cZ cO) [.ref (ad 0), .int v1, .int v2, .int v3] σ σ r := by
  refine zMz (by decide) (Nat.le_of_ble_eq_true rfl) ?_
  intro p e s m args below meth c Q hx hb hml hown hT hK hZ hret hP hD hS ls hl
  replace hown : s.vm.findClass RX9 = some m.cls := hown
  replace hl : lv_has ls 4 [(0, .ref (ad 0)), (1, .int v1), (2, .int v2), (3, .int v3)] := hl
  have h93 : m_X9_isBefore_93 N σ v1 v2 v3 = some r → ∀ (H : Heap) (locs : List Loc) (ls : Array Slot), va_P D zclM (zwM ad cI cJ cZ cO σ) H → va_D A (zwM ad cI cJ cZ cO σ) → va_S A s.heap H locs → lv_has ls 4 [(0, .ref (ad 0)), (2, .int v2), (3, .int v3)] → W p l e (zR 0 0) s m args below meth c H locs 0 0 Q (F0 m 93 ls []) := by
    intro  hm H locs ls hP hD hS hl
    unfold m_X9_isBefore_93 at hm
    refine lv_aload_n hx hb dX9_isBefore_93 rfl (lv_at hl 0 rfl) ?_
    refine zget (v := .ref (ad 20)) hx hb hT zinX9 hown hK hP 0 rfl rfl 24 (by decide) zw646 rfl dX9_isBefore_94 ?_
    refine lv_iload_n hx hb dX9_isBefore_97 rfl (lv_at hl 1 rfl) ?_
    obtain ⟨b7, eb7, hm⟩ := Option.bind_eq_some_iff.mp hm
    refine ziald hx hb hK hP 20 0 rfl rfl eb7 dX9_isBefore_98 ?_
    refine lv_aload_n hx hb dX9_isBefore_99 rfl (lv_at hl 0 rfl) ?_
    refine zget (v := .ref (ad 20)) hx hb hT zinX9 hown hK hP 0 rfl rfl 24 (by decide) zw646 rfl dX9_isBefore_100 ?_
    refine lv_iload_n hx hb dX9_isBefore_103 rfl (lv_at hl 2 rfl) ?_
    obtain ⟨b8, eb8, hm⟩ := Option.bind_eq_some_iff.mp hm
    refine ziald hx hb hK hP 20 0 rfl rfl eb8 dX9_isBefore_104 ?_
    refine lv_icmp_ge (tgt := 112) hx hb dX9_isBefore_105 (by decide) (fun h9 => ?_) (fun h9 => ?_)
    · rw [if_pos h9] at hm
      refine lv_iconst (v := (0 : Int32)) hx hb dX9_isBefore_112 (by decide) ?_
      cases hm
      exact hret _ _ _ _ (by decide) dX9_isBefore_113 hP hD hS
    · rw [if_neg h9] at hm
      refine lv_iconst (v := (1 : Int32)) hx hb dX9_isBefore_108 (by decide) ?_
      refine lv_goto (tgt := 113) hx hb dX9_isBefore_109 (by decide) ?_
      cases hm
      exact hret _ _ _ _ (by decide) dX9_isBefore_113 hP hD hS
  have h45 : m_X9_isBefore_45 N σ v1 v2 v3 = some r → ∀ (H : Heap) (locs : List Loc) (ls : Array Slot), va_P D zclM (zwM ad cI cJ cZ cO σ) H → va_D A (zwM ad cI cJ cZ cO σ) → va_S A s.heap H locs → lv_has ls 4 [(0, .ref (ad 0)), (1, .int v1), (2, .int v2), (3, .int v3)] → W p l e (zR 0 0) s m args below meth c H locs 0 0 Q (F0 m 45 ls []) := by
    intro  hm H locs ls hP hD hS hl
    unfold m_X9_isBefore_45 at hm
    refine lv_aload_n hx hb dX9_isBefore_45 rfl (lv_at hl 0 rfl) ?_
    refine zget (v := .ref (ad 16)) hx hb hT zinX9 hown hK hP 0 rfl rfl 17 (by decide) zw639 rfl dX9_isBefore_46 ?_
    refine lv_iload_n hx hb dX9_isBefore_49 rfl (lv_at hl 1 rfl) ?_
    obtain ⟨b4, eb4, hm⟩ := Option.bind_eq_some_iff.mp hm
    refine ziald hx hb hK hP 16 0 rfl rfl eb4 dX9_isBefore_50 ?_
    refine lv_iconst (v := (2 : Int32)) hx hb dX9_isBefore_51 (by decide) ?_
    refine lv_icmp_ne (tgt := 93) hx hb dX9_isBefore_52 (by decide) (fun h5 => ?_) (fun h5 => ?_)
    · rw [if_neg h5] at hm
      exact h93  hm _ _ _ hP hD hS (lv_sub hl [0, 2, 3] rfl)
    · rw [if_pos h5] at hm
      refine lv_aload_n hx hb dX9_isBefore_55 rfl (lv_at hl 0 rfl) ?_
      refine zget (v := .ref (ad 22)) hx hb hT zinX9 hown hK hP 0 rfl rfl 26 (by decide) zw648 rfl dX9_isBefore_56 ?_
      refine lv_iload_n hx hb dX9_isBefore_59 rfl (lv_at hl 2 rfl) ?_
      obtain ⟨b10, eb10, hm⟩ := Option.bind_eq_some_iff.mp hm
      refine zlald hx hb hK hP 22 1 rfl rfl eb10 dX9_isBefore_60 ?_
      refine lv_aload_n hx hb dX9_isBefore_61 rfl (lv_at hl 0 rfl) ?_
      refine zget (v := .ref (ad 22)) hx hb hT zinX9 hown hK hP 0 rfl rfl 26 (by decide) zw648 rfl dX9_isBefore_62 ?_
      refine lv_iload_n hx hb dX9_isBefore_65 rfl (lv_at hl 3 rfl) ?_
      obtain ⟨b11, eb11, hm⟩ := Option.bind_eq_some_iff.mp hm
      refine zlald hx hb hK hP 22 1 rfl rfl eb11 dX9_isBefore_66 ?_
      refine W.lcmp hx hb dX9_isBefore_67 ?_
      refine lv_if_eq (tgt := 93) hx hb dX9_isBefore_68 (by decide) (fun h12 => ?_) (fun h12 => ?_)
      · rw [if_pos h12] at hm
        exact h93  hm _ _ _ hP hD hS (lv_sub hl [0, 2, 3] rfl)
      · rw [if_neg h12] at hm
        refine lv_aload_n hx hb dX9_isBefore_71 rfl (lv_at hl 0 rfl) ?_
        refine zget (v := .ref (ad 22)) hx hb hT zinX9 hown hK hP 0 rfl rfl 26 (by decide) zw648 rfl dX9_isBefore_72 ?_
        refine lv_iload_n hx hb dX9_isBefore_75 rfl (lv_at hl 2 rfl) ?_
        obtain ⟨b13, eb13, hm⟩ := Option.bind_eq_some_iff.mp hm
        refine zlald hx hb hK hP 22 1 rfl rfl eb13 dX9_isBefore_76 ?_
        refine lv_aload_n hx hb dX9_isBefore_77 rfl (lv_at hl 0 rfl) ?_
        refine zget (v := .ref (ad 22)) hx hb hT zinX9 hown hK hP 0 rfl rfl 26 (by decide) zw648 rfl dX9_isBefore_78 ?_
        refine lv_iload_n hx hb dX9_isBefore_81 rfl (lv_at hl 3 rfl) ?_
        obtain ⟨b14, eb14, hm⟩ := Option.bind_eq_some_iff.mp hm
        refine zlald hx hb hK hP 22 1 rfl rfl eb14 dX9_isBefore_82 ?_
        refine W.lcmp hx hb dX9_isBefore_83 ?_
        refine lv_if_le (tgt := 91) hx hb dX9_isBefore_84 (by decide) (fun h15 => ?_) (fun h15 => ?_)
        · rw [if_pos h15] at hm
          refine lv_iconst (v := (0 : Int32)) hx hb dX9_isBefore_91 (by decide) ?_
          cases hm
          exact hret _ _ _ _ (by decide) dX9_isBefore_92 hP hD hS
        · rw [if_neg h15] at hm
          refine lv_iconst (v := (1 : Int32)) hx hb dX9_isBefore_87 (by decide) ?_
          refine lv_goto (tgt := 92) hx hb dX9_isBefore_88 (by decide) ?_
          cases hm
          exact hret _ _ _ _ (by decide) dX9_isBefore_92 hP hD hS
  unfold m_X9_isBefore at hm
  refine lv_aload_n hx hb dX9_isBefore_0 rfl (lv_at hl 0 rfl) ?_
  refine zget (v := .ref (ad 16)) hx hb hT zinX9 hown hK hP 0 rfl rfl 17 (by decide) zw639 rfl dX9_isBefore_1 ?_
  refine lv_iload_n hx hb dX9_isBefore_4 rfl (lv_at hl 1 rfl) ?_
  obtain ⟨b1, eb1, hm⟩ := Option.bind_eq_some_iff.mp hm
  refine ziald hx hb hK hP 16 0 rfl rfl eb1 dX9_isBefore_5 ?_
  refine lv_if_ne (tgt := 45) hx hb dX9_isBefore_6 (by decide) (fun h2 => ?_) (fun h2 => ?_)
  · rw [if_neg h2] at hm
    exact h45  hm _ _ _ hP hD hS (lv_sub hl [0, 1, 2, 3] rfl)
  · rw [if_pos h2] at hm
    refine lv_aload_n hx hb dX9_isBefore_9 rfl (lv_at hl 0 rfl) ?_
    refine zget (v := .ref (ad 21)) hx hb hT zinX9 hown hK hP 0 rfl rfl 25 (by decide) zw647 rfl dX9_isBefore_10 ?_
    refine lv_iload_n hx hb dX9_isBefore_13 rfl (lv_at hl 2 rfl) ?_
    obtain ⟨b16, eb16, hm⟩ := Option.bind_eq_some_iff.mp hm
    refine ziald hx hb hK hP 21 0 rfl rfl eb16 dX9_isBefore_14 ?_
    refine lv_aload_n hx hb dX9_isBefore_15 rfl (lv_at hl 0 rfl) ?_
    refine zget (v := .ref (ad 21)) hx hb hT zinX9 hown hK hP 0 rfl rfl 25 (by decide) zw647 rfl dX9_isBefore_16 ?_
    refine lv_iload_n hx hb dX9_isBefore_19 rfl (lv_at hl 3 rfl) ?_
    obtain ⟨b17, eb17, hm⟩ := Option.bind_eq_some_iff.mp hm
    refine ziald hx hb hK hP 21 0 rfl rfl eb17 dX9_isBefore_20 ?_
    refine lv_icmp_eq (tgt := 45) hx hb dX9_isBefore_21 (by decide) (fun h18 => ?_) (fun h18 => ?_)
    · rw [if_pos h18] at hm
      exact h45  hm _ _ _ hP hD hS (lv_sub hl [0, 1, 2, 3] rfl)
    · rw [if_neg h18] at hm
      refine lv_aload_n hx hb dX9_isBefore_24 rfl (lv_at hl 0 rfl) ?_
      refine zget (v := .ref (ad 21)) hx hb hT zinX9 hown hK hP 0 rfl rfl 25 (by decide) zw647 rfl dX9_isBefore_25 ?_
      refine lv_iload_n hx hb dX9_isBefore_28 rfl (lv_at hl 2 rfl) ?_
      obtain ⟨b19, eb19, hm⟩ := Option.bind_eq_some_iff.mp hm
      refine ziald hx hb hK hP 21 0 rfl rfl eb19 dX9_isBefore_29 ?_
      refine lv_aload_n hx hb dX9_isBefore_30 rfl (lv_at hl 0 rfl) ?_
      refine zget (v := .ref (ad 21)) hx hb hT zinX9 hown hK hP 0 rfl rfl 25 (by decide) zw647 rfl dX9_isBefore_31 ?_
      refine lv_iload_n hx hb dX9_isBefore_34 rfl (lv_at hl 3 rfl) ?_
      obtain ⟨b20, eb20, hm⟩ := Option.bind_eq_some_iff.mp hm
      refine ziald hx hb hK hP 21 0 rfl rfl eb20 dX9_isBefore_35 ?_
      refine lv_icmp_le (tgt := 43) hx hb dX9_isBefore_36 (by decide) (fun h21 => ?_) (fun h21 => ?_)
      · rw [if_pos h21] at hm
        refine lv_iconst (v := (0 : Int32)) hx hb dX9_isBefore_43 (by decide) ?_
        cases hm
        exact hret _ _ _ _ (by decide) dX9_isBefore_44 hP hD hS
      · rw [if_neg h21] at hm
        refine lv_iconst (v := (1 : Int32)) hx hb dX9_isBefore_39 (by decide) ?_
        refine lv_goto (tgt := 44) hx hb dX9_isBefore_40 (by decide) ?_
        cases hm
        exact hret _ _ _ _ (by decide) dX9_isBefore_44 hP hD hS
set_option maxHeartbeats 4000000 in
set_option maxRecDepth 100000 in
theorem k_X9_move {l : Launch} {D : va_G} {ad : Nat → Nat} {cI cJ cZ cO : ClassId} {t : Nat} {A : Nat → Prop} {N : Nat} {σ σ' : zS} {v1 : Int32} {v2 : Int32}   (hm : m_X9_move N σ v1 v2 = some σ') : zCv l yX9_move cX9_move 3 (none) (zR 0 0) D zclM (zty cI cJ cZ cO) t A (zwM ad cI cJ cZ cO) [.ref (ad 0), .int v1, .int v2] σ σ' := by
  refine zMv (by decide) (Nat.le_of_ble_eq_true rfl) ?_
  intro p e s m args below meth c Q hx hb hml hown hT hK hZ hret hP hD hS ls hl
  replace hown : s.vm.findClass RX9 = some m.cls := hown
  replace hl : lv_has ls 3 [(0, .ref (ad 0)), (1, .int v1), (2, .int v2)] := hl
  unfold m_X9_move at hm
  refine lv_aload_n hx hb dX9_move_0 rfl (lv_at hl 0 rfl) ?_
  refine zget (v := .ref (ad 20)) hx hb hT zinX9 hown hK hP 0 rfl rfl 24 (by decide) zw646 rfl dX9_move_1 ?_
  refine lv_iload_n hx hb dX9_move_4 rfl (lv_at hl 2 rfl) ?_
  refine lv_aload_n hx hb dX9_move_5 rfl (lv_at hl 0 rfl) ?_
  refine zget (v := .ref (ad 20)) hx hb hT zinX9 hown hK hP 0 rfl rfl 24 (by decide) zw646 rfl dX9_move_6 ?_
  refine lv_iload_n hx hb dX9_move_9 rfl (lv_at hl 1 rfl) ?_
  obtain ⟨b1, eb1, hm⟩ := Option.bind_eq_some_iff.mp hm
  refine ziald hx hb hK hP 20 0 rfl rfl eb1 dX9_move_10 ?_
  obtain ⟨σ2, eσ2, hm⟩ := Option.bind_eq_some_iff.mp hm
  refine ziast (j := 19) hx hb hK hP hD hS 20 0 rfl rfl eσ2 (fun _ => rfl) dX9_move_11 (fun H locs hP hD hS => ?_)
  refine lv_aload_n hx hb dX9_move_12 rfl (lv_at hl 0 rfl) ?_
  refine zget (v := .ref (ad 21)) hx hb hT zinX9 hown hK hP 0 rfl rfl 25 (by decide) zw647 rfl dX9_move_13 ?_
  refine lv_iload_n hx hb dX9_move_16 rfl (lv_at hl 2 rfl) ?_
  refine lv_aload_n hx hb dX9_move_17 rfl (lv_at hl 0 rfl) ?_
  refine zget (v := .ref (ad 21)) hx hb hT zinX9 hown hK hP 0 rfl rfl 25 (by decide) zw647 rfl dX9_move_18 ?_
  refine lv_iload_n hx hb dX9_move_21 rfl (lv_at hl 1 rfl) ?_
  obtain ⟨b3, eb3, hm⟩ := Option.bind_eq_some_iff.mp hm
  refine ziald hx hb hK hP 21 0 rfl rfl eb3 dX9_move_22 ?_
  obtain ⟨σ4, eσ4, hm⟩ := Option.bind_eq_some_iff.mp hm
  refine ziast (j := 20) hx hb hK hP hD hS 21 0 rfl rfl eσ4 (fun _ => rfl) dX9_move_23 (fun H locs hP hD hS => ?_)
  refine lv_aload_n hx hb dX9_move_24 rfl (lv_at hl 0 rfl) ?_
  refine zget (v := .ref (ad 22)) hx hb hT zinX9 hown hK hP 0 rfl rfl 26 (by decide) zw648 rfl dX9_move_25 ?_
  refine lv_iload_n hx hb dX9_move_28 rfl (lv_at hl 2 rfl) ?_
  refine lv_aload_n hx hb dX9_move_29 rfl (lv_at hl 0 rfl) ?_
  refine zget (v := .ref (ad 22)) hx hb hT zinX9 hown hK hP 0 rfl rfl 26 (by decide) zw648 rfl dX9_move_30 ?_
  refine lv_iload_n hx hb dX9_move_33 rfl (lv_at hl 1 rfl) ?_
  obtain ⟨b5, eb5, hm⟩ := Option.bind_eq_some_iff.mp hm
  refine zlald hx hb hK hP 22 1 rfl rfl eb5 dX9_move_34 ?_
  obtain ⟨σ6, eσ6, hm⟩ := Option.bind_eq_some_iff.mp hm
  refine zlast (j := 0) hx hb hK hP hD hS 22 1 rfl rfl eσ6 (fun _ => rfl) dX9_move_35 (fun H locs hP hD hS => ?_)
  cases hm
  exact hret _ _ _ _ dX9_move_36 hP hD hS
set_option maxHeartbeats 4000000 in
set_option maxRecDepth 100000 in
theorem k_X9_findGroups {l : Launch} {D : va_G} {ad : Nat → Nat} {cI cJ cZ cO : ClassId} {t : Nat} {A : Nat → Prop} {N : Nat} {σ σ' : zS} {v1 : Int32}   (hm : m_X9_findGroups N σ v1 = some σ') : zCv l yX9_findGroups cX9_findGroups 6 (none) (zR 7 161) D zclM (zty cI cJ cZ cO) t A (zwM ad cI cJ cZ cO) [.ref (ad 0), .int v1] σ σ' := by
  refine zMv (by decide) (Nat.le_of_ble_eq_true rfl) ?_
  intro p e s m args below meth c Q hx hb hml hown hT hK hZ hret hP hD hS ls hl
  replace hown : s.vm.findClass RX9 = some m.cls := hown
  replace hl : lv_has ls 6 [(0, .ref (ad 0)), (1, .int v1)] := hl
  have hL20 : ∀ (v2_3 : Int32), ∀ (q : zS × Int32 × Int32) (r : zS × Int32), ziter (fun q : zS × Int32 × Int32 => m_X9_findGroups_L20 N v1 v2_3 q.1 q.2.1 q.2.2) N q = some r → (∀ (H : Heap) (locs : List Loc) (ls : Array Slot), va_P D zclM (zwM ad cI cJ cZ cO r.1) H → va_D A (zwM ad cI cJ cZ cO r.1) → va_S A s.heap H locs → lv_has ls 6 [(0, .ref (ad 0)), (1, .int v1), (3, .int r.2)] → W p l e (zR 7 161) s m args below meth c H locs 0 0 Q (F0 m 115 ls [])) → ∀ (H : Heap) (locs : List Loc) (ls : Array Slot), va_P D zclM (zwM ad cI cJ cZ cO q.1) H → va_D A (zwM ad cI cJ cZ cO q.1) → va_S A s.heap H locs → lv_has ls 6 [(0, .ref (ad 0)), (1, .int v1), (2, .int v2_3), (3, .int q.2.1), (4, .int q.2.2)] → W p l e (zR 7 161) s m args below meth c H locs 0 0 Q (F0 m 20 ls []) := by
    intro v2_3
    intro q r
    refine ziter_W (Hd := fun q : zS × Int32 × Int32 => ∀ (H : Heap) (locs : List Loc) (ls : Array Slot), va_P D zclM (zwM ad cI cJ cZ cO q.1) H → va_D A (zwM ad cI cJ cZ cO q.1) → va_S A s.heap H locs → lv_has ls 6 [(0, .ref (ad 0)), (1, .int v1), (2, .int v2_3), (3, .int q.2.1), (4, .int q.2.2)] → W p l e (zR 7 161) s m args below meth c H locs 0 0 Q (F0 m 20 ls [])) (Ex := fun r : zS × Int32 => ∀ (H : Heap) (locs : List Loc) (ls : Array Slot), va_P D zclM (zwM ad cI cJ cZ cO r.1) H → va_D A (zwM ad cI cJ cZ cO r.1) → va_S A s.heap H locs → lv_has ls 6 [(0, .ref (ad 0)), (1, .int v1), (3, .int r.2)] → W p l e (zR 7 161) s m args below meth c H locs 0 0 Q (F0 m 115 ls [])) ?_ N q r
    rintro ⟨σ3, v3_3, v4_3⟩ res hm hk H locs ls hP hD hS hl
    try dsimp only at hP hD hl
    replace hm : m_X9_findGroups_L20 N v1 v2_3 σ3 v3_3 v4_3 = some res := hm
    have h109 : ∀ (σ9 : zS) (v3_9 : Int32) (v4_9 : Int32), m_X9_findGroups_109_in20 N v1 v2_3 σ9 v3_9 v4_9 = some res → ∀ (H : Heap) (locs : List Loc) (ls : Array Slot), va_P D zclM (zwM ad cI cJ cZ cO σ9) H → va_D A (zwM ad cI cJ cZ cO σ9) → va_S A s.heap H locs → lv_has ls 6 [(0, .ref (ad 0)), (1, .int v1), (2, .int v2_3), (3, .int v3_9), (4, .int v4_9)] → W p l e (zR 7 161) s m args below meth c H locs 0 0 Q (F0 m 109 ls []) := by
      intro σ9 v3_9 v4_9 hm H locs ls hP hD hS hl
      unfold m_X9_findGroups_109_in20 at hm
      refine lv_iinc (v := (v4_9 + (1 : Int32))) (lv' := [(4, .int (v4_9 + (1 : Int32))), (0, .ref (ad 0)), (1, .int v1), (2, .int v2_3), (3, .int v3_9)]) hx hb dX9_findGroups_109 hl (k := 4) rfl rfl (by decide) rfl (fun ls hl => ?_)
      refine lv_goto (tgt := 20) hx hb dX9_findGroups_112 (by decide) ?_
      cases hm
      exact hk _ _ _ hP hD hS (lv_sub hl [1, 2, 3, 4, 0] rfl)
    have hL61 : ∀ (v3_11 : Int32) (v4_11 : Int32), ∀ (q : zS × Int32) (r : zS × Int32), ziter (fun q : zS × Int32 => m_X9_findGroups_L61 N v1 v2_3 v3_11 v4_11 q.1 q.2) N q = some r → (∀ (H : Heap) (locs : List Loc) (ls : Array Slot), va_P D zclM (zwM ad cI cJ cZ cO r.1) H → va_D A (zwM ad cI cJ cZ cO r.1) → va_S A s.heap H locs → lv_has ls 6 [(0, .ref (ad 0)), (1, .int v1), (2, .int v2_3), (3, .int v3_11), (4, .int v4_11), (5, .int r.2)] → W p l e (zR 7 161) s m args below meth c H locs 0 0 Q (F0 m 97 ls [])) → ∀ (H : Heap) (locs : List Loc) (ls : Array Slot), va_P D zclM (zwM ad cI cJ cZ cO q.1) H → va_D A (zwM ad cI cJ cZ cO q.1) → va_S A s.heap H locs → lv_has ls 6 [(0, .ref (ad 0)), (1, .int v1), (2, .int v2_3), (3, .int v3_11), (4, .int v4_11), (5, .int q.2)] → W p l e (zR 7 161) s m args below meth c H locs 0 0 Q (F0 m 61 ls []) := by
      intro v3_11 v4_11
      intro q r
      refine ziter_W (Hd := fun q : zS × Int32 => ∀ (H : Heap) (locs : List Loc) (ls : Array Slot), va_P D zclM (zwM ad cI cJ cZ cO q.1) H → va_D A (zwM ad cI cJ cZ cO q.1) → va_S A s.heap H locs → lv_has ls 6 [(0, .ref (ad 0)), (1, .int v1), (2, .int v2_3), (3, .int v3_11), (4, .int v4_11), (5, .int q.2)] → W p l e (zR 7 161) s m args below meth c H locs 0 0 Q (F0 m 61 ls [])) (Ex := fun r : zS × Int32 => ∀ (H : Heap) (locs : List Loc) (ls : Array Slot), va_P D zclM (zwM ad cI cJ cZ cO r.1) H → va_D A (zwM ad cI cJ cZ cO r.1) → va_S A s.heap H locs → lv_has ls 6 [(0, .ref (ad 0)), (1, .int v1), (2, .int v2_3), (3, .int v3_11), (4, .int v4_11), (5, .int r.2)] → W p l e (zR 7 161) s m args below meth c H locs 0 0 Q (F0 m 97 ls [])) ?_ N q r
      rintro ⟨σ11, v5_11⟩ res hm hk H locs ls hP hD hS hl
      try dsimp only at hP hD hl
      replace hm : m_X9_findGroups_L61 N v1 v2_3 v3_11 v4_11 σ11 v5_11 = some res := hm
      unfold m_X9_findGroups_L61 at hm
      refine lv_iload hx hb dX9_findGroups_61 (lv_at hl 5 rfl) ?_
      refine lv_if_le (tgt := 97) hx hb dX9_findGroups_63 (by decide) (fun h12 => ?_) (fun h12 => ?_)
      · rw [if_pos h12] at hm
        cases hm
        exact hk _ _ _ hP hD hS (lv_sub hl [0, 1, 2, 3, 4, 5] rfl)
      · rw [if_neg h12] at hm
        refine lv_aload_n hx hb dX9_findGroups_66 rfl (lv_at hl 0 rfl) ?_
        refine lv_iload_n hx hb dX9_findGroups_67 rfl (lv_at hl 1 rfl) ?_
        refine lv_sipush (v := (1099 : Int32)) hx hb dX9_findGroups_68 (by decide) ?_
        refine lv_iload hx hb dX9_findGroups_71 (lv_at hl 5 rfl) ?_
        refine lv_iconst (v := (1 : Int32)) hx hb dX9_findGroups_73 (by decide) ?_
        refine lv_isub hx hb dX9_findGroups_74 ?_
        obtain ⟨b13, eb13, hm⟩ := Option.bind_eq_some_iff.mp hm
        refine zVi (rest := []) [.int v1, .int (1099 : Int32), .int (v5_11 - (1 : Int32))] hx hb hml hl.1 hown hT (k_X9_isBefore eb13) zkX9_isBefore zw868 ⟨by decide, by decide⟩ rfl rfl hK hZ hP hD hS 0 rfl rfl rfl rfl (Nat.le_of_ble_eq_true rfl) ⟨Nat.zero_le _, Nat.zero_le _⟩ dX9_findGroups_75 (fun H locs hP hD hS => ?_)
        refine lv_if_eq (tgt := 97) hx hb dX9_findGroups_78 (by decide) (fun h14 => ?_) (fun h14 => ?_)
        · rw [if_pos h14] at hm
          cases hm
          exact hk _ _ _ hP hD hS (lv_sub hl [0, 1, 2, 3, 4, 5] rfl)
        · rw [if_neg h14] at hm
          refine lv_aload_n hx hb dX9_findGroups_81 rfl (lv_at hl 0 rfl) ?_
          refine lv_iload hx hb dX9_findGroups_82 (lv_at hl 5 rfl) ?_
          refine lv_iconst (v := (1 : Int32)) hx hb dX9_findGroups_84 (by decide) ?_
          refine lv_isub hx hb dX9_findGroups_85 ?_
          refine lv_iload hx hb dX9_findGroups_86 (lv_at hl 5 rfl) ?_
          obtain ⟨σ15, eσ15, hm⟩ := Option.bind_eq_some_iff.mp hm
          refine zVv (rest := []) [.int (v5_11 - (1 : Int32)), .int v5_11] hx hb hml hl.1 hown hT (k_X9_move eσ15) zkX9_move zw864 ⟨by decide, by decide⟩ rfl rfl hK hZ hP hD hS 0 rfl rfl rfl rfl (Nat.le_of_ble_eq_true rfl) ⟨Nat.zero_le _, Nat.zero_le _⟩ dX9_findGroups_88 (fun H locs hP hD hS => ?_)
          refine lv_iinc (v := (v5_11 + (-1 : Int32))) (lv' := [(5, .int (v5_11 + (-1 : Int32))), (0, .ref (ad 0)), (1, .int v1), (2, .int v2_3), (3, .int v3_11), (4, .int v4_11)]) hx hb dX9_findGroups_91 hl (k := 5) rfl rfl (by decide) rfl (fun ls hl => ?_)
          refine lv_goto (tgt := 61) hx hb dX9_findGroups_94 (by decide) ?_
          cases hm
          exact hk _ _ _ hP hD hS (lv_sub hl [1, 2, 3, 4, 5, 0] rfl)
    have h97 : ∀ (σ18 : zS) (v3_18 : Int32) (v4_18 : Int32) (v5_18 : Int32), m_X9_findGroups_97_in20 N v1 v2_3 σ18 v3_18 v4_18 v5_18 = some res → ∀ (H : Heap) (locs : List Loc) (ls : Array Slot), va_P D zclM (zwM ad cI cJ cZ cO σ18) H → va_D A (zwM ad cI cJ cZ cO σ18) → va_S A s.heap H locs → lv_has ls 6 [(0, .ref (ad 0)), (1, .int v1), (2, .int v2_3), (3, .int v3_18), (4, .int v4_18), (5, .int v5_18)] → W p l e (zR 7 161) s m args below meth c H locs 0 0 Q (F0 m 97 ls []) := by
      intro σ18 v3_18 v4_18 v5_18 hm H locs ls hP hD hS hl
      unfold m_X9_findGroups_97_in20 at hm
      refine lv_aload_n hx hb dX9_findGroups_97 rfl (lv_at hl 0 rfl) ?_
      refine lv_sipush (v := (1099 : Int32)) hx hb dX9_findGroups_98 (by decide) ?_
      refine lv_iload hx hb dX9_findGroups_101 (lv_at hl 5 rfl) ?_
      obtain ⟨σ19, eσ19, hm⟩ := Option.bind_eq_some_iff.mp hm
      refine zVv (rest := []) [.int (1099 : Int32), .int v5_18] hx hb hml hl.1 hown hT (k_X9_move eσ19) zkX9_move zw864 ⟨by decide, by decide⟩ rfl rfl hK hZ hP hD hS 0 rfl rfl rfl rfl (Nat.le_of_ble_eq_true rfl) ⟨Nat.zero_le _, Nat.zero_le _⟩ dX9_findGroups_103 (fun H locs hP hD hS => ?_)
      refine lv_iinc (v := (v3_18 + (1 : Int32))) (lv' := [(3, .int (v3_18 + (1 : Int32))), (0, .ref (ad 0)), (1, .int v1), (2, .int v2_3), (4, .int v4_18), (5, .int v5_18)]) hx hb dX9_findGroups_106 hl (k := 3) rfl rfl (by decide) rfl (fun ls hl => ?_)
      exact h109 σ19 (v3_18 + (1 : Int32)) v4_18 hm _ _ _ hP hD hS (lv_sub hl [1, 2, 3, 0, 4] rfl)
    unfold m_X9_findGroups_L20 at hm
    refine lv_iload hx hb dX9_findGroups_20 (lv_at hl 4 rfl) ?_
    refine lv_iload_n hx hb dX9_findGroups_22 rfl (lv_at hl 2 rfl) ?_
    refine lv_icmp_ge (tgt := 115) hx hb dX9_findGroups_23 (by decide) (fun h4 => ?_) (fun h4 => ?_)
    · rw [if_pos h4] at hm
      cases hm
      exact hk _ _ _ hP hD hS (lv_sub hl [0, 1, 3] rfl)
    · rw [if_neg h4] at hm
      refine lv_aload_n hx hb dX9_findGroups_26 rfl (lv_at hl 0 rfl) ?_
      refine lv_iload_n hx hb dX9_findGroups_27 rfl (lv_at hl 1 rfl) ?_
      refine lv_iload hx hb dX9_findGroups_28 (lv_at hl 4 rfl) ?_
      obtain ⟨σ5, eσ5, hm⟩ := Option.bind_eq_some_iff.mp hm
      refine zVv (rest := []) [.int v1, .int v4_3] hx hb hml hl.1 hown hT (k_X9_measure eσ5) zkX9_measure zw848 ⟨by decide, by decide⟩ rfl rfl hK hZ hP hD hS 0 rfl rfl rfl rfl (Nat.le_of_ble_eq_true rfl) ⟨Nat.zero_le _, Nat.zero_le _⟩ dX9_findGroups_30 (fun H locs hP hD hS => ?_)
      refine lv_aload_n hx hb dX9_findGroups_33 rfl (lv_at hl 0 rfl) ?_
      refine zget (v := .ref (ad 21)) hx hb hT zinX9 hown hK hP 0 rfl rfl 25 (by decide) zw647 rfl dX9_findGroups_34 ?_
      refine lv_iload hx hb dX9_findGroups_37 (lv_at hl 4 rfl) ?_
      obtain ⟨b6, eb6, hm⟩ := Option.bind_eq_some_iff.mp hm
      refine ziald hx hb hK hP 21 0 rfl rfl eb6 dX9_findGroups_39 ?_
      refine lv_aload_n hx hb dX9_findGroups_40 rfl (lv_at hl 0 rfl) ?_
      refine zget (v := .ref (ad 14)) hx hb hT zinX9 hown hK hP 0 rfl rfl 15 (by decide) zw637 rfl dX9_findGroups_41 ?_
      refine lv_iload_n hx hb dX9_findGroups_44 rfl (lv_at hl 1 rfl) ?_
      obtain ⟨b7, eb7, hm⟩ := Option.bind_eq_some_iff.mp hm
      refine ziald hx hb hK hP 14 0 rfl rfl eb7 dX9_findGroups_45 ?_
      refine lv_icmp_lt (tgt := 109) hx hb dX9_findGroups_46 (by decide) (fun h8 => ?_) (fun h8 => ?_)
      · rw [if_pos h8] at hm
        exact h109 σ5 v3_3 v4_3 hm _ _ _ hP hD hS (lv_sub hl [0, 1, 2, 3, 4] rfl)
      · rw [if_neg h8] at hm
        refine lv_aload_n hx hb dX9_findGroups_49 rfl (lv_at hl 0 rfl) ?_
        refine lv_iload hx hb dX9_findGroups_50 (lv_at hl 4 rfl) ?_
        refine lv_sipush (v := (1099 : Int32)) hx hb dX9_findGroups_52 (by decide) ?_
        obtain ⟨σ10, eσ10, hm⟩ := Option.bind_eq_some_iff.mp hm
        refine zVv (rest := []) [.int v4_3, .int (1099 : Int32)] hx hb hml hl.1 hown hT (k_X9_move eσ10) zkX9_move zw864 ⟨by decide, by decide⟩ rfl rfl hK hZ hP hD hS 0 rfl rfl rfl rfl (Nat.le_of_ble_eq_true rfl) ⟨Nat.zero_le _, Nat.zero_le _⟩ dX9_findGroups_55 (fun H locs hP hD hS => ?_)
        refine lv_iload_n hx hb dX9_findGroups_58 rfl (lv_at hl 3 rfl) ?_
        refine lv_istore (lv' := [(5, .int v3_3), (0, .ref (ad 0)), (1, .int v1), (2, .int v2_3), (3, .int v3_3), (4, .int v4_3)]) hx hb dX9_findGroups_59 hl (by decide) rfl (fun ls hl => ?_)
        obtain ⟨r16, e20, hm⟩ := Option.bind_eq_some_iff.mp hm
        refine hL61 v3_3 v4_3 _ r16 e20 ?_ _ _ _ hP hD hS (lv_sub hl [1, 2, 3, 4, 5, 0] rfl)
        obtain ⟨σ17, v5_17⟩ := r16
        intro H locs ls hP hD hS hl
        try dsimp only at hP hD hl
        replace hm : m_X9_findGroups_97_in20 N v1 v2_3 σ17 v3_3 v4_3 v5_17 = some res := hm
        exact h97 σ17 v3_3 v4_3 v5_17 hm _ _ _ hP hD hS (lv_sub hl [0, 1, 2, 3, 4, 5] rfl)
  have h188 : ∀ (σ34 : zS) (v3_34 : Int32) (x1_34 : Int32), m_X9_findGroups_188 N v1 σ34 v3_34 x1_34 = some σ' → ∀ (H : Heap) (locs : List Loc) (ls : Array Slot), va_P D zclM (zwM ad cI cJ cZ cO σ34) H → va_D A (zwM ad cI cJ cZ cO σ34) → va_S A s.heap H locs → lv_has ls 6 [(0, .ref (ad 0)), (3, .int v3_34)] → W p l e (zR 7 161) s m args below meth c H locs 0 0 Q (F0 m 188 ls [.int x1_34, .ref (ad 0)]) := by
    intro σ34 v3_34 x1_34 hm H locs ls hP hD hS hl
    unfold m_X9_findGroups_188 at hm
    obtain ⟨b35, eb35, hm⟩ := Option.bind_eq_some_iff.mp hm
    obtain ⟨rfl, hzb35, hwb35, hfb35⟩ := zcz_all eb35
    obtain ⟨σ36, eσ36, hm⟩ := Option.bind_eq_some_iff.mp hm
    refine zput (j := 5) (ty := .boolean) hx hb hT zinX9 tyX9 tyX9_ok nmX9 hown hK hP hD hS 0 rfl rfl 27 (by decide) zw649 rfl (by decide +kernel) hzb35 hfb35 (Nat.le_of_ble_eq_true rfl) eσ36 rfl dX9_findGroups_188 (fun H locs hP hD hS => ?_)
    refine lv_aload_n hx hb dX9_findGroups_191 rfl (lv_at hl 0 rfl) ?_
    refine lv_aload_n hx hb dX9_findGroups_192 rfl (lv_at hl 0 rfl) ?_
    refine zget (v := .int (σ36.1 5)) hx hb hT zinX9 hown hK hP 0 rfl rfl 27 (by decide) zw649 rfl dX9_findGroups_193 ?_
    refine lv_if_eq (tgt := 206) hx hb dX9_findGroups_196 (by decide) (fun h37 => ?_) (fun h37 => ?_)
    · rw [if_pos h37] at hm
      refine lv_iload_n hx hb dX9_findGroups_206 rfl (lv_at hl 1 rfl) ?_
      obtain ⟨σ38, eσ38, hm⟩ := Option.bind_eq_some_iff.mp hm
      refine zput (j := 4) (ty := .int) hx hb hT zinX9 tyX9 tyX9_ok nmX9 hown hK hP hD hS 0 rfl rfl 23 (by decide) zw645 rfl (by decide +kernel) rfl rfl (Nat.le_of_ble_eq_true rfl) eσ38 rfl dX9_findGroups_207 (fun H locs hP hD hS => ?_)
      cases hm
      exact hret _ _ _ _ dX9_findGroups_210 hP hD hS
    · rw [if_neg h37] at hm
      refine lv_aload_n hx hb dX9_findGroups_199 rfl (lv_at hl 0 rfl) ?_
      refine zget (v := .int (σ36.1 4)) hx hb hT zinX9 hown hK hP 0 rfl rfl 23 (by decide) zw645 rfl dX9_findGroups_200 ?_
      refine lv_goto (tgt := 207) hx hb dX9_findGroups_203 (by decide) ?_
      obtain ⟨σ39, eσ39, hm⟩ := Option.bind_eq_some_iff.mp hm
      refine zput (j := 4) (ty := .int) hx hb hT zinX9 tyX9 tyX9_ok nmX9 hown hK hP hD hS 0 rfl rfl 23 (by decide) zw645 rfl (by decide +kernel) rfl rfl (Nat.le_of_ble_eq_true rfl) eσ39 rfl dX9_findGroups_207 (fun H locs hP hD hS => ?_)
      cases hm
      exact hret _ _ _ _ dX9_findGroups_210 hP hD hS
  have h187 : ∀ (σ33 : zS) (v3_33 : Int32), m_X9_findGroups_187 N v1 σ33 v3_33 = some σ' → ∀ (H : Heap) (locs : List Loc) (ls : Array Slot), va_P D zclM (zwM ad cI cJ cZ cO σ33) H → va_D A (zwM ad cI cJ cZ cO σ33) → va_S A s.heap H locs → lv_has ls 6 [(0, .ref (ad 0)), (3, .int v3_33)] → W p l e (zR 7 161) s m args below meth c H locs 0 0 Q (F0 m 187 ls [.ref (ad 0)]) := by
    intro σ33 v3_33 hm H locs ls hP hD hS hl
    unfold m_X9_findGroups_187 at hm
    refine lv_iconst (v := (0 : Int32)) hx hb dX9_findGroups_187 (by decide) ?_
    exact h188 σ33 v3_33 (0 : Int32) hm _ _ _ hP hD hS (lv_sub hl [0, 1] rfl)
  have h115 : ∀ (σ23 : zS) (v3_23 : Int32), m_X9_findGroups_115 N v1 σ23 v3_23 = some σ' → ∀ (H : Heap) (locs : List Loc) (ls : Array Slot), va_P D zclM (zwM ad cI cJ cZ cO σ23) H → va_D A (zwM ad cI cJ cZ cO σ23) → va_S A s.heap H locs → lv_has ls 6 [(0, .ref (ad 0)), (1, .int v1), (3, .int v3_23)] → W p l e (zR 7 161) s m args below meth c H locs 0 0 Q (F0 m 115 ls []) := by
    intro σ23 v3_23 hm H locs ls hP hD hS hl
    unfold m_X9_findGroups_115 at hm
    refine lv_aload_n hx hb dX9_findGroups_115 rfl (lv_at hl 0 rfl) ?_
    refine lv_iload_n hx hb dX9_findGroups_116 rfl (lv_at hl 2 rfl) ?_
    obtain ⟨σ24, eσ24, hm⟩ := Option.bind_eq_some_iff.mp hm
    refine zput (j := 4) (ty := .int) hx hb hT zinX9 tyX9 tyX9_ok nmX9 hown hK hP hD hS 0 rfl rfl 23 (by decide) zw645 rfl (by decide +kernel) rfl rfl (Nat.le_of_ble_eq_true rfl) eσ24 rfl dX9_findGroups_117 (fun H locs hP hD hS => ?_)
    refine lv_aload_n hx hb dX9_findGroups_120 rfl (lv_at hl 0 rfl) ?_
    refine zget (v := .ref (ad 15)) hx hb hT zinX9 hown hK hP 0 rfl rfl 16 (by decide) zw638 rfl dX9_findGroups_121 ?_
    refine lv_iload_n hx hb dX9_findGroups_124 rfl (lv_at hl 1 rfl) ?_
    obtain ⟨b25, eb25, hm⟩ := Option.bind_eq_some_iff.mp hm
    refine zzald hx hb hK hP 15 2 rfl rfl eb25 dX9_findGroups_125 ?_
    refine lv_if_eq (tgt := 210) hx hb dX9_findGroups_126 (by decide) (fun h26 => ?_) (fun h26 => ?_)
    · rw [if_pos h26] at hm
      cases hm
      exact hret _ _ _ _ dX9_findGroups_210 hP hD hS
    · rw [if_neg h26] at hm
      refine lv_aload_n hx hb dX9_findGroups_129 rfl (lv_at hl 0 rfl) ?_
      refine lv_iconst (v := (1 : Int32)) hx hb dX9_findGroups_130 (by decide) ?_
      obtain ⟨σ27, eσ27, hm⟩ := Option.bind_eq_some_iff.mp hm
      refine zput (j := 5) (ty := .boolean) hx hb hT zinX9 tyX9 tyX9_ok nmX9 hown hK hP hD hS 0 rfl rfl 27 (by decide) zw649 rfl (by decide +kernel) (by decide) (by decide) (Nat.le_of_ble_eq_true rfl) eσ27 rfl dX9_findGroups_131 (fun H locs hP hD hS => ?_)
      refine lv_aload_n hx hb dX9_findGroups_134 rfl (lv_at hl 0 rfl) ?_
      refine lv_dup hx hb dX9_findGroups_135 rfl ?_
      refine zget (v := .int (σ27.1 4)) hx hb hT zinX9 hown hK hP 0 rfl rfl 23 (by decide) zw645 rfl dX9_findGroups_136 ?_
      refine lv_iconst (v := (1 : Int32)) hx hb dX9_findGroups_139 (by decide) ?_
      refine lv_iadd hx hb dX9_findGroups_140 ?_
      obtain ⟨σ28, eσ28, hm⟩ := Option.bind_eq_some_iff.mp hm
      refine zput (j := 4) (ty := .int) hx hb hT zinX9 tyX9 tyX9_ok nmX9 hown hK hP hD hS 0 rfl rfl 23 (by decide) zw645 rfl (by decide +kernel) rfl rfl (Nat.le_of_ble_eq_true rfl) eσ28 rfl dX9_findGroups_141 (fun H locs hP hD hS => ?_)
      refine lv_aload_n hx hb dX9_findGroups_144 rfl (lv_at hl 0 rfl) ?_
      refine zget (v := .ref (ad 20)) hx hb hT zinX9 hown hK hP 0 rfl rfl 24 (by decide) zw646 rfl dX9_findGroups_145 ?_
      refine lv_iload_n hx hb dX9_findGroups_148 rfl (lv_at hl 2 rfl) ?_
      refine lv_ldc hx hb hown (hT _ zw764) dX9_findGroups_149 ?_
      obtain ⟨σ29, eσ29, hm⟩ := Option.bind_eq_some_iff.mp hm
      refine ziast (j := 19) hx hb hK hP hD hS 20 0 rfl rfl eσ29 (fun _ => rfl) dX9_findGroups_151 (fun H locs hP hD hS => ?_)
      refine lv_aload_n hx hb dX9_findGroups_152 rfl (lv_at hl 0 rfl) ?_
      refine lv_iload_n hx hb dX9_findGroups_153 rfl (lv_at hl 1 rfl) ?_
      refine lv_iload_n hx hb dX9_findGroups_154 rfl (lv_at hl 2 rfl) ?_
      obtain ⟨σ30, eσ30, hm⟩ := Option.bind_eq_some_iff.mp hm
      refine zVv (rest := []) [.int v1, .int v3_23] hx hb hml hl.1 hown hT (k_X9_measure eσ30) zkX9_measure zw848 ⟨by decide, by decide⟩ rfl rfl hK hZ hP hD hS 0 rfl rfl rfl rfl (Nat.le_of_ble_eq_true rfl) ⟨Nat.zero_le _, Nat.zero_le _⟩ dX9_findGroups_155 (fun H locs hP hD hS => ?_)
      refine lv_aload_n hx hb dX9_findGroups_158 rfl (lv_at hl 0 rfl) ?_
      refine lv_aload_n hx hb dX9_findGroups_159 rfl (lv_at hl 0 rfl) ?_
      refine zget (v := .ref (ad 21)) hx hb hT zinX9 hown hK hP 0 rfl rfl 25 (by decide) zw647 rfl dX9_findGroups_160 ?_
      refine lv_iload_n hx hb dX9_findGroups_163 rfl (lv_at hl 2 rfl) ?_
      obtain ⟨b31, eb31, hm⟩ := Option.bind_eq_some_iff.mp hm
      refine ziald hx hb hK hP 21 0 rfl rfl eb31 dX9_findGroups_164 ?_
      refine lv_if_le (tgt := 187) hx hb dX9_findGroups_165 (by decide) (fun h32 => ?_) (fun h32 => ?_)
      · rw [if_pos h32] at hm
        exact h187 σ30 v3_23 hm _ _ _ hP hD hS (lv_sub hl [0, 2] rfl)
      · rw [if_neg h32] at hm
        refine lv_aload_n hx hb dX9_findGroups_168 rfl (lv_at hl 0 rfl) ?_
        refine zget (v := .ref (ad 21)) hx hb hT zinX9 hown hK hP 0 rfl rfl 25 (by decide) zw647 rfl dX9_findGroups_169 ?_
        refine lv_iload_n hx hb dX9_findGroups_172 rfl (lv_at hl 2 rfl) ?_
        obtain ⟨b40, eb40, hm⟩ := Option.bind_eq_some_iff.mp hm
        refine ziald hx hb hK hP 21 0 rfl rfl eb40 dX9_findGroups_173 ?_
        refine lv_aload_n hx hb dX9_findGroups_174 rfl (lv_at hl 0 rfl) ?_
        refine zget (v := .ref (ad 14)) hx hb hT zinX9 hown hK hP 0 rfl rfl 15 (by decide) zw637 rfl dX9_findGroups_175 ?_
        refine lv_iload_n hx hb dX9_findGroups_178 rfl (lv_at hl 1 rfl) ?_
        obtain ⟨b41, eb41, hm⟩ := Option.bind_eq_some_iff.mp hm
        refine ziald hx hb hK hP 14 0 rfl rfl eb41 dX9_findGroups_179 ?_
        refine lv_icmp_lt (tgt := 187) hx hb dX9_findGroups_180 (by decide) (fun h42 => ?_) (fun h42 => ?_)
        · rw [if_pos h42] at hm
          exact h187 σ30 v3_23 hm _ _ _ hP hD hS (lv_sub hl [0, 2] rfl)
        · rw [if_neg h42] at hm
          refine lv_iconst (v := (1 : Int32)) hx hb dX9_findGroups_183 (by decide) ?_
          refine lv_goto (tgt := 188) hx hb dX9_findGroups_184 (by decide) ?_
          exact h188 σ30 v3_23 (1 : Int32) hm _ _ _ hP hD hS (lv_sub hl [0, 2] rfl)
  unfold m_X9_findGroups at hm
  refine lv_aload_n hx hb dX9_findGroups_0 rfl (lv_at hl 0 rfl) ?_
  refine lv_iconst (v := (0 : Int32)) hx hb dX9_findGroups_1 (by decide) ?_
  obtain ⟨σ1, eσ1, hm⟩ := Option.bind_eq_some_iff.mp hm
  refine zput (j := 5) (ty := .boolean) hx hb hT zinX9 tyX9 tyX9_ok nmX9 hown hK hP hD hS 0 rfl rfl 27 (by decide) zw649 rfl (by decide +kernel) (by decide) (by decide) (Nat.le_of_ble_eq_true rfl) eσ1 rfl dX9_findGroups_2 (fun H locs hP hD hS => ?_)
  refine lv_aload_n hx hb dX9_findGroups_5 rfl (lv_at hl 0 rfl) ?_
  refine lv_iload_n hx hb dX9_findGroups_6 rfl (lv_at hl 1 rfl) ?_
  obtain ⟨σ2, eσ2, hm⟩ := Option.bind_eq_some_iff.mp hm
  refine zVv (rest := []) [.int v1] hx hb hml hl.1 hown hT (k_X9_findKeys eσ2) zkX9_findKeys zw798 ⟨by decide, by decide⟩ rfl rfl hK hZ hP hD hS 0 rfl rfl rfl rfl (Nat.le_of_ble_eq_true rfl) ⟨Nat.zero_le _, Nat.zero_le _⟩ dX9_findGroups_7 (fun H locs hP hD hS => ?_)
  refine lv_aload_n hx hb dX9_findGroups_10 rfl (lv_at hl 0 rfl) ?_
  refine zget (v := .int (σ2.1 4)) hx hb hT zinX9 hown hK hP 0 rfl rfl 23 (by decide) zw645 rfl dX9_findGroups_11 ?_
  refine lv_istore_n (lv' := [(2, .int (σ2.1 4)), (0, .ref (ad 0)), (1, .int v1)]) hx hb dX9_findGroups_14 rfl hl (by decide) rfl (fun ls hl => ?_)
  refine lv_iconst (v := (0 : Int32)) hx hb dX9_findGroups_15 (by decide) ?_
  refine lv_istore_n (lv' := [(3, .int (0 : Int32)), (2, .int (σ2.1 4)), (0, .ref (ad 0)), (1, .int v1)]) hx hb dX9_findGroups_16 rfl hl (by decide) rfl (fun ls hl => ?_)
  refine lv_iconst (v := (0 : Int32)) hx hb dX9_findGroups_17 (by decide) ?_
  refine lv_istore (lv' := [(4, .int (0 : Int32)), (3, .int (0 : Int32)), (2, .int (σ2.1 4)), (0, .ref (ad 0)), (1, .int v1)]) hx hb dX9_findGroups_18 hl (by decide) rfl (fun ls hl => ?_)
  obtain ⟨r21, e43, hm⟩ := Option.bind_eq_some_iff.mp hm
  refine hL20 (σ2.1 4) _ r21 e43 ?_ _ _ _ hP hD hS (lv_sub hl [3, 4, 2, 1, 0] rfl)
  obtain ⟨σ22, v3_22⟩ := r21
  intro H locs ls hP hD hS hl
  try dsimp only at hP hD hl
  replace hm : m_X9_findGroups_115 N v1 σ22 v3_22 = some σ' := hm
  exact h115 σ22 v3_22 hm _ _ _ hP hD hS (lv_sub hl [0, 1, 2] rfl)
set_option maxHeartbeats 4000000 in
set_option maxRecDepth 100000 in
theorem k_X9_isGroup {l : Launch} {D : va_G} {ad : Nat → Nat} {cI cJ cZ cO : ClassId} {t : Nat} {A : Nat → Prop} {N : Nat} {σ σ' : zS} {v1 : Int32} {v2 : Int32} {r : Int32}  (hm : m_X9_isGroup N σ v1 v2 = some (r, σ')) : zCi l yX9_isGroup cX9_isGroup 3 (some .boolean) (zR 8 186) D zclM (zty cI cJ cZ cO) t A (zwM ad cI cJ cZ cO) [.ref (ad 0), .int v1, .int v2] σ σ' r := by
  refine zMz (by decide) (Nat.le_of_ble_eq_true rfl) ?_
  intro p e s m args below meth c Q hx hb hml hown hT hK hZ hret hP hD hS ls hl
  replace hown : s.vm.findClass RX9 = some m.cls := hown
  replace hl : lv_has ls 3 [(0, .ref (ad 0)), (1, .int v1), (2, .int v2)] := hl
  unfold m_X9_isGroup at hm
  refine lv_aload_n hx hb dX9_isGroup_0 rfl (lv_at hl 0 rfl) ?_
  refine lv_iload_n hx hb dX9_isGroup_1 rfl (lv_at hl 1 rfl) ?_
  obtain ⟨b1, eb1, hm⟩ := Option.bind_eq_some_iff.mp hm
  refine zVi (rest := []) [.int v1] hx hb hml hl.1 hown hT (k_X9_isFacet eb1) zkX9_isFacet zw769 ⟨by decide, by decide⟩ rfl rfl hK hZ hP hD hS 0 rfl rfl rfl rfl (Nat.le_of_ble_eq_true rfl) ⟨Nat.zero_le _, Nat.zero_le _⟩ dX9_isGroup_2 (fun H locs hP hD hS => ?_)
  refine lv_if_ne (tgt := 10) hx hb dX9_isGroup_5 (by decide) (fun h2 => ?_) (fun h2 => ?_)
  · rw [if_neg h2] at hm
    refine lv_aload_n hx hb dX9_isGroup_10 rfl (lv_at hl 0 rfl) ?_
    refine lv_iload_n hx hb dX9_isGroup_11 rfl (lv_at hl 1 rfl) ?_
    obtain ⟨σ3, eσ3, hm⟩ := Option.bind_eq_some_iff.mp hm
    refine zVv (rest := []) [.int v1] hx hb hml hl.1 hown hT (k_X9_findGroups eσ3) zkX9_findGroups zw794 ⟨by decide, by decide⟩ rfl rfl hK hZ hP hD hS 0 rfl rfl rfl rfl (Nat.le_of_ble_eq_true rfl) ⟨Nat.zero_le _, Nat.zero_le _⟩ dX9_isGroup_12 (fun H locs hP hD hS => ?_)
    refine lv_iload_n hx hb dX9_isGroup_15 rfl (lv_at hl 2 rfl) ?_
    refine lv_iconst (v := (0 : Int32)) hx hb dX9_isGroup_16 (by decide) ?_
    refine lv_aload_n hx hb dX9_isGroup_17 rfl (lv_at hl 0 rfl) ?_
    refine zget (v := .int (σ3.1 4)) hx hb hT zinX9 hown hK hP 0 rfl rfl 23 (by decide) zw645 rfl dX9_isGroup_18 ?_
    refine lv_iconst (v := (1 : Int32)) hx hb dX9_isGroup_21 (by decide) ?_
    refine lv_isub hx hb dX9_isGroup_22 ?_
    obtain ⟨b4, eb4, hm⟩ := Option.bind_eq_some_iff.mp hm
    refine zSi (rest := []) [.int v2, .int (0 : Int32), .int ((σ3.1 4) - (1 : Int32))] hx hb hml hl.1 hown hT (k_X9_within eb4) zkX9_within zw739 ⟨by decide, by decide⟩ rfl rfl hK hZ hP hD hS rfl rfl (Nat.le_of_ble_eq_true rfl) ⟨Nat.zero_le _, Nat.zero_le _⟩ dX9_isGroup_23 (fun H locs hP hD hS => ?_)
    obtain ⟨b5, eb5, hm⟩ := Option.bind_eq_some_iff.mp hm
    obtain ⟨rfl, hzb5, hwb5, hfb5⟩ := zcz_all eb5
    cases hm
    exact hret _ _ _ _ hzb5 dX9_isGroup_26 hP hD hS
  · rw [if_pos h2] at hm
    refine lv_iconst (v := (0 : Int32)) hx hb dX9_isGroup_8 (by decide) ?_
    cases hm
    exact hret _ _ _ _ (by decide) dX9_isGroup_9 hP hD hS
set_option maxHeartbeats 4000000 in
set_option maxRecDepth 100000 in
theorem k_X9_groups {l : Launch} {D : va_G} {ad : Nat → Nat} {cI cJ cZ cO : ClassId} {t : Nat} {A : Nat → Prop} {N : Nat} {σ σ' : zS} {v1 : Int32} {r : Int32}  (hm : m_X9_groups N σ v1 = some (r, σ')) : zCi l yX9_groups cX9_groups 2 (some .int) (zR 8 186) D zclM (zty cI cJ cZ cO) t A (zwM ad cI cJ cZ cO) [.ref (ad 0), .int v1] σ σ' r := by
  refine zMi (by decide) (Nat.le_of_ble_eq_true rfl) ?_
  intro p e s m args below meth c Q hx hb hml hown hT hK hZ hret hP hD hS ls hl
  replace hown : s.vm.findClass RX9 = some m.cls := hown
  replace hl : lv_has ls 2 [(0, .ref (ad 0)), (1, .int v1)] := hl
  unfold m_X9_groups at hm
  refine lv_aload_n hx hb dX9_groups_0 rfl (lv_at hl 0 rfl) ?_
  refine lv_iload_n hx hb dX9_groups_1 rfl (lv_at hl 1 rfl) ?_
  obtain ⟨b1, eb1, hm⟩ := Option.bind_eq_some_iff.mp hm
  refine zVi (rest := []) [.int v1] hx hb hml hl.1 hown hT (k_X9_isFacet eb1) zkX9_isFacet zw769 ⟨by decide, by decide⟩ rfl rfl hK hZ hP hD hS 0 rfl rfl rfl rfl (Nat.le_of_ble_eq_true rfl) ⟨Nat.zero_le _, Nat.zero_le _⟩ dX9_groups_2 (fun H locs hP hD hS => ?_)
  refine lv_if_ne (tgt := 11) hx hb dX9_groups_5 (by decide) (fun h2 => ?_) (fun h2 => ?_)
  · rw [if_neg h2] at hm
    refine lv_aload_n hx hb dX9_groups_11 rfl (lv_at hl 0 rfl) ?_
    refine lv_iload_n hx hb dX9_groups_12 rfl (lv_at hl 1 rfl) ?_
    obtain ⟨σ3, eσ3, hm⟩ := Option.bind_eq_some_iff.mp hm
    refine zVv (rest := []) [.int v1] hx hb hml hl.1 hown hT (k_X9_findGroups eσ3) zkX9_findGroups zw794 ⟨by decide, by decide⟩ rfl rfl hK hZ hP hD hS 0 rfl rfl rfl rfl (Nat.le_of_ble_eq_true rfl) ⟨Nat.zero_le _, Nat.zero_le _⟩ dX9_groups_13 (fun H locs hP hD hS => ?_)
    refine lv_aload_n hx hb dX9_groups_16 rfl (lv_at hl 0 rfl) ?_
    refine zget (v := .int (σ3.1 4)) hx hb hT zinX9 hown hK hP 0 rfl rfl 23 (by decide) zw645 rfl dX9_groups_17 ?_
    cases hm
    exact hret _ _ _ _ dX9_groups_20 hP hD hS
  · rw [if_pos h2] at hm
    refine lv_ldc hx hb hown (hT _ zw750) dX9_groups_8 ?_
    cases hm
    exact hret _ _ _ _ dX9_groups_10 hP hD hS
set_option maxHeartbeats 4000000 in
set_option maxRecDepth 100000 in
theorem k_X9_group {l : Launch} {D : va_G} {ad : Nat → Nat} {cI cJ cZ cO : ClassId} {t : Nat} {A : Nat → Prop} {N : Nat} {σ σ' : zS} {v1 : Int32} {v2 : Int32} {v3 : Int32} {r : Int32}  (hm : m_X9_group N σ v1 v2 v3 = some (r, σ')) : zCi l yX9_group cX9_group 4 (some .int) (zR 9 208) D zclM (zty cI cJ cZ cO) t A (zwM ad cI cJ cZ cO) [.ref (ad 0), .int v1, .int v2, .int v3] σ σ' r := by
  refine zMi (by decide) (Nat.le_of_ble_eq_true rfl) ?_
  intro p e s m args below meth c Q hx hb hml hown hT hK hZ hret hP hD hS ls hl
  replace hown : s.vm.findClass RX9 = some m.cls := hown
  replace hl : lv_has ls 4 [(0, .ref (ad 0)), (1, .int v1), (2, .int v2), (3, .int v3)] := hl
  unfold m_X9_group at hm
  refine lv_aload_n hx hb dX9_group_0 rfl (lv_at hl 0 rfl) ?_
  refine lv_iload_n hx hb dX9_group_1 rfl (lv_at hl 1 rfl) ?_
  refine lv_iload_n hx hb dX9_group_2 rfl (lv_at hl 2 rfl) ?_
  obtain ⟨⟨b1, σ3⟩, eb1, hm⟩ := Option.bind_eq_some_iff.mp hm
  try dsimp only at hm
  refine zVi (rest := []) [.int v1, .int v2] hx hb hml hl.1 hown hT (k_X9_isGroup eb1) zkX9_isGroup zw876 ⟨by decide, by decide⟩ rfl rfl hK hZ hP hD hS 0 rfl rfl rfl rfl (Nat.le_of_ble_eq_true rfl) ⟨Nat.zero_le _, Nat.zero_le _⟩ dX9_group_3 (fun H locs hP hD hS => ?_)
  refine lv_if_eq (tgt := 18) hx hb dX9_group_6 (by decide) (fun h4 => ?_) (fun h4 => ?_)
  · rw [if_pos h4] at hm
    refine lv_ldc hx hb hown (hT _ zw750) dX9_group_18 ?_
    cases hm
    exact hret _ _ _ _ dX9_group_20 hP hD hS
  · rw [if_neg h4] at hm
    refine lv_iload_n hx hb dX9_group_9 rfl (lv_at hl 3 rfl) ?_
    refine lv_iconst (v := (0 : Int32)) hx hb dX9_group_10 (by decide) ?_
    refine lv_iconst (v := (2 : Int32)) hx hb dX9_group_11 (by decide) ?_
    obtain ⟨b5, eb5, hm⟩ := Option.bind_eq_some_iff.mp hm
    refine zSi (rest := []) [.int v3, .int (0 : Int32), .int (2 : Int32)] hx hb hml hl.1 hown hT (k_X9_within eb5) zkX9_within zw739 ⟨by decide, by decide⟩ rfl rfl hK hZ hP hD hS rfl rfl (Nat.le_of_ble_eq_true rfl) ⟨Nat.zero_le _, Nat.zero_le _⟩ dX9_group_12 (fun H locs hP hD hS => ?_)
    refine lv_if_ne (tgt := 21) hx hb dX9_group_15 (by decide) (fun h6 => ?_) (fun h6 => ?_)
    · rw [if_neg h6] at hm
      refine lv_iload_n hx hb dX9_group_21 rfl (lv_at hl 3 rfl) ?_
      refine lv_if_ne (tgt := 34) hx hb dX9_group_22 (by decide) (fun h7 => ?_) (fun h7 => ?_)
      · rw [if_neg h7] at hm
        refine lv_iload_n hx hb dX9_group_34 rfl (lv_at hl 3 rfl) ?_
        refine lv_iconst (v := (1 : Int32)) hx hb dX9_group_35 (by decide) ?_
        refine lv_icmp_ne (tgt := 48) hx hb dX9_group_36 (by decide) (fun h8 => ?_) (fun h8 => ?_)
        · rw [if_neg h8] at hm
          refine lv_aload_n hx hb dX9_group_48 rfl (lv_at hl 0 rfl) ?_
          refine zget (v := .int (σ3.1 5)) hx hb hT zinX9 hown hK hP 0 rfl rfl 27 (by decide) zw649 rfl dX9_group_49 ?_
          refine lv_if_eq (tgt := 69) hx hb dX9_group_52 (by decide) (fun h9 => ?_) (fun h9 => ?_)
          · rw [if_pos h9] at hm
            refine lv_iconst (v := (0 : Int32)) hx hb dX9_group_69 (by decide) ?_
            cases hm
            exact hret _ _ _ _ dX9_group_70 hP hD hS
          · rw [if_neg h9] at hm
            refine lv_iload_n hx hb dX9_group_55 rfl (lv_at hl 2 rfl) ?_
            refine lv_aload_n hx hb dX9_group_56 rfl (lv_at hl 0 rfl) ?_
            refine zget (v := .int (σ3.1 4)) hx hb hT zinX9 hown hK hP 0 rfl rfl 23 (by decide) zw645 rfl dX9_group_57 ?_
            refine lv_iconst (v := (1 : Int32)) hx hb dX9_group_60 (by decide) ?_
            refine lv_isub hx hb dX9_group_61 ?_
            refine lv_icmp_ne (tgt := 69) hx hb dX9_group_62 (by decide) (fun h10 => ?_) (fun h10 => ?_)
            · rw [if_neg h10] at hm
              refine lv_iconst (v := (0 : Int32)) hx hb dX9_group_69 (by decide) ?_
              cases hm
              exact hret _ _ _ _ dX9_group_70 hP hD hS
            · rw [if_pos h10] at hm
              refine lv_iconst (v := (1 : Int32)) hx hb dX9_group_65 (by decide) ?_
              refine lv_goto (tgt := 70) hx hb dX9_group_66 (by decide) ?_
              cases hm
              exact hret _ _ _ _ dX9_group_70 hP hD hS
        · rw [if_pos h8] at hm
          refine lv_aload_n hx hb dX9_group_39 rfl (lv_at hl 0 rfl) ?_
          refine zget (v := .ref (ad 21)) hx hb hT zinX9 hown hK hP 0 rfl rfl 25 (by decide) zw647 rfl dX9_group_40 ?_
          refine lv_iload_n hx hb dX9_group_43 rfl (lv_at hl 2 rfl) ?_
          obtain ⟨b11, eb11, hm⟩ := Option.bind_eq_some_iff.mp hm
          refine ziald hx hb hK hP 21 0 rfl rfl eb11 dX9_group_44 ?_
          refine lv_goto (tgt := 70) hx hb dX9_group_45 (by decide) ?_
          cases hm
          exact hret _ _ _ _ dX9_group_70 hP hD hS
      · rw [if_pos h7] at hm
        refine lv_aload_n hx hb dX9_group_25 rfl (lv_at hl 0 rfl) ?_
        refine zget (v := .ref (ad 20)) hx hb hT zinX9 hown hK hP 0 rfl rfl 24 (by decide) zw646 rfl dX9_group_26 ?_
        refine lv_iload_n hx hb dX9_group_29 rfl (lv_at hl 2 rfl) ?_
        obtain ⟨b12, eb12, hm⟩ := Option.bind_eq_some_iff.mp hm
        refine ziald hx hb hK hP 20 0 rfl rfl eb12 dX9_group_30 ?_
        refine lv_goto (tgt := 70) hx hb dX9_group_31 (by decide) ?_
        cases hm
        exact hret _ _ _ _ dX9_group_70 hP hD hS
    · rw [if_pos h6] at hm
      refine lv_ldc hx hb hown (hT _ zw750) dX9_group_18 ?_
      cases hm
      exact hret _ _ _ _ dX9_group_20 hP hD hS
set_option maxHeartbeats 4000000 in
set_option maxRecDepth 100000 in
theorem k_X9_find {l : Launch} {D : va_G} {ad : Nat → Nat} {cI cJ cZ cO : ClassId} {t : Nat} {A : Nat → Prop} {N : Nat} {σ σ' : zS} {v1 : Int32} {v2 : Int32} {r : Int32}  (hm : m_X9_find N σ v1 v2 = some (r, σ')) : zCi l yX9_find cX9_find 4 (some .int) (zR 8 186) D zclM (zty cI cJ cZ cO) t A (zwM ad cI cJ cZ cO) [.ref (ad 0), .int v1, .int v2] σ σ' r := by
  refine zMi (by decide) (Nat.le_of_ble_eq_true rfl) ?_
  intro p e s m args below meth c Q hx hb hml hown hT hK hZ hret hP hD hS ls hl
  replace hown : s.vm.findClass RX9 = some m.cls := hown
  replace hl : lv_has ls 4 [(0, .ref (ad 0)), (1, .int v1), (2, .int v2)] := hl
  have hL18 : ∀ (σ4 : zS), ∀ (q : Int32) (r : (Int32) ⊕ (Unit)), ziter (fun q : Int32 => m_X9_find_L18 N v1 v2 σ4 q) N q = some r → (Sum.elim (fun r : Int32 => ∀ (H : Heap) (locs : List Loc) (ls : Array Slot), va_P D zclM (zwM ad cI cJ cZ cO σ4) H → va_D A (zwM ad cI cJ cZ cO σ4) → va_S A s.heap H locs → lv_has ls 4 [(3, .int r)] → W p l e (zR 8 186) s m args below meth c H locs 0 0 Q (F0 m 49 ls [])) (fun r : Unit => ∀ (H : Heap) (locs : List Loc) (ls : Array Slot), va_P D zclM (zwM ad cI cJ cZ cO σ4) H → va_D A (zwM ad cI cJ cZ cO σ4) → va_S A s.heap H locs → lv_has ls 4 [] → W p l e (zR 8 186) s m args below meth c H locs 0 0 Q (F0 m 57 ls [])) r) → ∀ (H : Heap) (locs : List Loc) (ls : Array Slot), va_P D zclM (zwM ad cI cJ cZ cO σ4) H → va_D A (zwM ad cI cJ cZ cO σ4) → va_S A s.heap H locs → lv_has ls 4 [(0, .ref (ad 0)), (2, .int v2), (3, .int q)] → W p l e (zR 8 186) s m args below meth c H locs 0 0 Q (F0 m 18 ls []) := by
    intro σ4
    intro q r
    refine ziter_W (Hd := fun q : Int32 => ∀ (H : Heap) (locs : List Loc) (ls : Array Slot), va_P D zclM (zwM ad cI cJ cZ cO σ4) H → va_D A (zwM ad cI cJ cZ cO σ4) → va_S A s.heap H locs → lv_has ls 4 [(0, .ref (ad 0)), (2, .int v2), (3, .int q)] → W p l e (zR 8 186) s m args below meth c H locs 0 0 Q (F0 m 18 ls [])) (Ex := fun r : (Int32) ⊕ (Unit) => Sum.elim (fun r : Int32 => ∀ (H : Heap) (locs : List Loc) (ls : Array Slot), va_P D zclM (zwM ad cI cJ cZ cO σ4) H → va_D A (zwM ad cI cJ cZ cO σ4) → va_S A s.heap H locs → lv_has ls 4 [(3, .int r)] → W p l e (zR 8 186) s m args below meth c H locs 0 0 Q (F0 m 49 ls [])) (fun r : Unit => ∀ (H : Heap) (locs : List Loc) (ls : Array Slot), va_P D zclM (zwM ad cI cJ cZ cO σ4) H → va_D A (zwM ad cI cJ cZ cO σ4) → va_S A s.heap H locs → lv_has ls 4 [] → W p l e (zR 8 186) s m args below meth c H locs 0 0 Q (F0 m 57 ls [])) r) ?_ N q r
    rintro v3_4 res hm hk H locs ls hP hD hS hl
    try dsimp only at hP hD hl
    replace hm : m_X9_find_L18 N v1 v2 σ4 v3_4 = some res := hm
    have h35 : ∀ (v3_6 : Int32) (x0_6 : Int32) (x1_6 : Int32) (x2_6 : Int32), m_X9_find_35_in18 N v1 v2 σ4 v3_6 x0_6 x1_6 x2_6 = some res → ∀ (H : Heap) (locs : List Loc) (ls : Array Slot), va_P D zclM (zwM ad cI cJ cZ cO σ4) H → va_D A (zwM ad cI cJ cZ cO σ4) → va_S A s.heap H locs → lv_has ls 4 [(0, .ref (ad 0)), (2, .int v2), (3, .int v3_6)] → W p l e (zR 8 186) s m args below meth c H locs 0 0 Q (F0 m 35 ls [.int x2_6, .int x1_6, .int x0_6]) := by
      intro v3_6 x0_6 x1_6 x2_6 hm H locs ls hP hD hS hl
      unfold m_X9_find_35_in18 at hm
      refine lv_isub hx hb dX9_find_35 ?_
      refine lv_icmp_ge (tgt := 57) hx hb dX9_find_36 (by decide) (fun h7 => ?_) (fun h7 => ?_)
      · rw [if_pos h7] at hm
        cases hm
        exact hk _ _ _ hP hD hS (lv_sub hl [] rfl)
      · rw [if_neg h7] at hm
        refine lv_aload_n hx hb dX9_find_39 rfl (lv_at hl 0 rfl) ?_
        refine zget (v := .ref (ad 20)) hx hb hT zinX9 hown hK hP 0 rfl rfl 24 (by decide) zw646 rfl dX9_find_40 ?_
        refine lv_iload_n hx hb dX9_find_43 rfl (lv_at hl 2 rfl) ?_
        obtain ⟨b8, eb8, hm⟩ := Option.bind_eq_some_iff.mp hm
        refine ziald hx hb hK hP 20 0 rfl rfl eb8 dX9_find_44 ?_
        refine lv_iload_n hx hb dX9_find_45 rfl (lv_at hl 1 rfl) ?_
        refine lv_icmp_ne (tgt := 51) hx hb dX9_find_46 (by decide) (fun h9 => ?_) (fun h9 => ?_)
        · rw [if_neg h9] at hm
          refine lv_iinc (v := (v3_6 + (1 : Int32))) (lv' := [(3, .int (v3_6 + (1 : Int32))), (0, .ref (ad 0)), (2, .int v2)]) hx hb dX9_find_51 hl (k := 2) rfl rfl (by decide) rfl (fun ls hl => ?_)
          refine lv_goto (tgt := 18) hx hb dX9_find_54 (by decide) ?_
          cases hm
          exact hk _ _ _ hP hD hS (lv_sub hl [1, 2, 0] rfl)
        · rw [if_pos h9] at hm
          cases hm
          exact hk _ _ _ hP hD hS (lv_sub hl [2] rfl)
    unfold m_X9_find_L18 at hm
    refine lv_iload_n hx hb dX9_find_18 rfl (lv_at hl 2 rfl) ?_
    refine lv_aload_n hx hb dX9_find_19 rfl (lv_at hl 0 rfl) ?_
    refine zget (v := .int (σ4.1 4)) hx hb hT zinX9 hown hK hP 0 rfl rfl 23 (by decide) zw645 rfl dX9_find_20 ?_
    refine lv_aload_n hx hb dX9_find_23 rfl (lv_at hl 0 rfl) ?_
    refine zget (v := .int (σ4.1 5)) hx hb hT zinX9 hown hK hP 0 rfl rfl 27 (by decide) zw649 rfl dX9_find_24 ?_
    refine lv_if_eq (tgt := 34) hx hb dX9_find_27 (by decide) (fun h5 => ?_) (fun h5 => ?_)
    · rw [if_pos h5] at hm
      refine lv_iconst (v := (0 : Int32)) hx hb dX9_find_34 (by decide) ?_
      exact h35 v3_4 v3_4 (σ4.1 4) (0 : Int32) hm _ _ _ hP hD hS (lv_sub hl [0, 1, 2] rfl)
    · rw [if_neg h5] at hm
      refine lv_iconst (v := (1 : Int32)) hx hb dX9_find_30 (by decide) ?_
      refine lv_goto (tgt := 35) hx hb dX9_find_31 (by decide) ?_
      exact h35 v3_4 v3_4 (σ4.1 4) (1 : Int32) hm _ _ _ hP hD hS (lv_sub hl [0, 1, 2] rfl)
  have h49 : ∀ (σ12 : zS) (v3_12 : Int32), m_X9_find_49 N v1 v2 σ12 v3_12 = some (r, σ') → ∀ (H : Heap) (locs : List Loc) (ls : Array Slot), va_P D zclM (zwM ad cI cJ cZ cO σ12) H → va_D A (zwM ad cI cJ cZ cO σ12) → va_S A s.heap H locs → lv_has ls 4 [(3, .int v3_12)] → W p l e (zR 8 186) s m args below meth c H locs 0 0 Q (F0 m 49 ls []) := by
    intro σ12 v3_12 hm H locs ls hP hD hS hl
    unfold m_X9_find_49 at hm
    refine lv_iload_n hx hb dX9_find_49 rfl (lv_at hl 0 rfl) ?_
    cases hm
    exact hret _ _ _ _ dX9_find_50 hP hD hS
  have h57 : ∀ (σ14 : zS), m_X9_find_57 N v1 v2 σ14 = some (r, σ') → ∀ (H : Heap) (locs : List Loc) (ls : Array Slot), va_P D zclM (zwM ad cI cJ cZ cO σ14) H → va_D A (zwM ad cI cJ cZ cO σ14) → va_S A s.heap H locs → lv_has ls 4 [] → W p l e (zR 8 186) s m args below meth c H locs 0 0 Q (F0 m 57 ls []) := by
    intro σ14 hm H locs ls hP hD hS hl
    unfold m_X9_find_57 at hm
    refine lv_ldc hx hb hown (hT _ zw764) dX9_find_57 ?_
    cases hm
    exact hret _ _ _ _ dX9_find_59 hP hD hS
  unfold m_X9_find at hm
  refine lv_aload_n hx hb dX9_find_0 rfl (lv_at hl 0 rfl) ?_
  refine lv_iload_n hx hb dX9_find_1 rfl (lv_at hl 1 rfl) ?_
  obtain ⟨b1, eb1, hm⟩ := Option.bind_eq_some_iff.mp hm
  refine zVi (rest := []) [.int v1] hx hb hml hl.1 hown hT (k_X9_isFacet eb1) zkX9_isFacet zw769 ⟨by decide, by decide⟩ rfl rfl hK hZ hP hD hS 0 rfl rfl rfl rfl (Nat.le_of_ble_eq_true rfl) ⟨Nat.zero_le _, Nat.zero_le _⟩ dX9_find_2 (fun H locs hP hD hS => ?_)
  refine lv_if_ne (tgt := 11) hx hb dX9_find_5 (by decide) (fun h2 => ?_) (fun h2 => ?_)
  · rw [if_neg h2] at hm
    refine lv_aload_n hx hb dX9_find_11 rfl (lv_at hl 0 rfl) ?_
    refine lv_iload_n hx hb dX9_find_12 rfl (lv_at hl 1 rfl) ?_
    obtain ⟨σ3, eσ3, hm⟩ := Option.bind_eq_some_iff.mp hm
    refine zVv (rest := []) [.int v1] hx hb hml hl.1 hown hT (k_X9_findGroups eσ3) zkX9_findGroups zw794 ⟨by decide, by decide⟩ rfl rfl hK hZ hP hD hS 0 rfl rfl rfl rfl (Nat.le_of_ble_eq_true rfl) ⟨Nat.zero_le _, Nat.zero_le _⟩ dX9_find_13 (fun H locs hP hD hS => ?_)
    refine lv_iconst (v := (0 : Int32)) hx hb dX9_find_16 (by decide) ?_
    refine lv_istore_n (lv' := [(3, .int (0 : Int32)), (0, .ref (ad 0)), (1, .int v1), (2, .int v2)]) hx hb dX9_find_17 rfl hl (by decide) rfl (fun ls hl => ?_)
    obtain ⟨r10, e15, hm⟩ := Option.bind_eq_some_iff.mp hm
    refine hL18 σ3 _ r10 e15 ?_ _ _ _ hP hD hS (lv_sub hl [1, 3, 0] rfl)
    rcases r10 with v3_11 | _
    · intro H locs ls hP hD hS hl
      try dsimp only at hP hD hl
      replace hm : m_X9_find_49 N v1 v2 σ3 v3_11 = some (r, σ') := hm
      exact h49 σ3 v3_11 hm _ _ _ hP hD hS (lv_sub hl [0] rfl)
    · intro H locs ls hP hD hS hl
      try dsimp only at hP hD hl
      replace hm : m_X9_find_57 N v1 v2 σ3 = some (r, σ') := hm
      exact h57 σ3 hm _ _ _ hP hD hS (lv_sub hl [] rfl)
  · rw [if_pos h2] at hm
    refine lv_ldc hx hb hown (hT _ zw750) dX9_find_8 ?_
    cases hm
    exact hret _ _ _ _ dX9_find_10 hP hD hS
set_option maxHeartbeats 4000000 in
set_option maxRecDepth 100000 in
theorem k_X9_in {l : Launch} {D : va_G} {ad : Nat → Nat} {cI cJ cZ cO : ClassId} {t : Nat} {A : Nat → Prop} {N : Nat} {σ σ' : zS} {v1 : Int32} {v2 : Int32} {v3 : Int32} {r : Int32}  (hm : m_X9_in N σ v1 v2 v3 = some (r, σ')) : zCi l yX9_in cX9_in 4 (some .int) (zR 9 208) D zclM (zty cI cJ cZ cO) t A (zwM ad cI cJ cZ cO) [.ref (ad 0), .int v1, .int v2, .int v3] σ σ' r := by
  refine zMi (by decide) (Nat.le_of_ble_eq_true rfl) ?_
  intro p e s m args below meth c Q hx hb hml hown hT hK hZ hret hP hD hS ls hl
  replace hown : s.vm.findClass RX9 = some m.cls := hown
  replace hl : lv_has ls 4 [(0, .ref (ad 0)), (1, .int v1), (2, .int v2), (3, .int v3)] := hl
  unfold m_X9_in at hm
  refine lv_aload_n hx hb dX9_in_0 rfl (lv_at hl 0 rfl) ?_
  refine lv_iload_n hx hb dX9_in_1 rfl (lv_at hl 3 rfl) ?_
  obtain ⟨b1, eb1, hm⟩ := Option.bind_eq_some_iff.mp hm
  refine zVi (rest := []) [.int v3] hx hb hml hl.1 hown hT (k_X9_isObject eb1) zkX9_isObject zw735 ⟨by decide, by decide⟩ rfl rfl hK hZ hP hD hS 0 rfl rfl rfl rfl (Nat.le_of_ble_eq_true rfl) ⟨Nat.zero_le _, Nat.zero_le _⟩ dX9_in_2 (fun H locs hP hD hS => ?_)
  refine lv_if_eq (tgt := 35) hx hb dX9_in_5 (by decide) (fun h2 => ?_) (fun h2 => ?_)
  · rw [if_pos h2] at hm
    refine lv_ldc hx hb hown (hT _ zw750) dX9_in_35 ?_
    cases hm
    exact hret _ _ _ _ dX9_in_37 hP hD hS
  · rw [if_neg h2] at hm
    refine lv_aload_n hx hb dX9_in_8 rfl (lv_at hl 0 rfl) ?_
    refine lv_iload_n hx hb dX9_in_9 rfl (lv_at hl 1 rfl) ?_
    refine lv_iload_n hx hb dX9_in_10 rfl (lv_at hl 2 rfl) ?_
    obtain ⟨⟨b3, σ5⟩, eb3, hm⟩ := Option.bind_eq_some_iff.mp hm
    try dsimp only at hm
    refine zVi (rest := []) [.int v1, .int v2] hx hb hml hl.1 hown hT (k_X9_isGroup eb3) zkX9_isGroup zw876 ⟨by decide, by decide⟩ rfl rfl hK hZ hP hD hS 0 rfl rfl rfl rfl (Nat.le_of_ble_eq_true rfl) ⟨Nat.zero_le _, Nat.zero_le _⟩ dX9_in_11 (fun H locs hP hD hS => ?_)
    refine lv_if_eq (tgt := 35) hx hb dX9_in_14 (by decide) (fun h6 => ?_) (fun h6 => ?_)
    · rw [if_pos h6] at hm
      refine lv_ldc hx hb hown (hT _ zw750) dX9_in_35 ?_
      cases hm
      exact hret _ _ _ _ dX9_in_37 hP hD hS
    · rw [if_neg h6] at hm
      refine lv_aload_n hx hb dX9_in_17 rfl (lv_at hl 0 rfl) ?_
      refine lv_iload_n hx hb dX9_in_18 rfl (lv_at hl 1 rfl) ?_
      refine lv_iload_n hx hb dX9_in_19 rfl (lv_at hl 2 rfl) ?_
      refine lv_iload_n hx hb dX9_in_20 rfl (lv_at hl 3 rfl) ?_
      obtain ⟨b7, eb7, hm⟩ := Option.bind_eq_some_iff.mp hm
      refine zVi (rest := []) [.int v1, .int v2, .int v3] hx hb hml hl.1 hown hT (k_X9_isIn eb7) zkX9_isIn zw852 ⟨by decide, by decide⟩ rfl rfl hK hZ hP hD hS 0 rfl rfl rfl rfl (Nat.le_of_ble_eq_true rfl) ⟨Nat.zero_le _, Nat.zero_le _⟩ dX9_in_21 (fun H locs hP hD hS => ?_)
      refine lv_if_eq (tgt := 31) hx hb dX9_in_24 (by decide) (fun h8 => ?_) (fun h8 => ?_)
      · rw [if_pos h8] at hm
        refine lv_iconst (v := (0 : Int32)) hx hb dX9_in_31 (by decide) ?_
        refine lv_goto (tgt := 37) hx hb dX9_in_32 (by decide) ?_
        cases hm
        exact hret _ _ _ _ dX9_in_37 hP hD hS
      · rw [if_neg h8] at hm
        refine lv_iconst (v := (1 : Int32)) hx hb dX9_in_27 (by decide) ?_
        refine lv_goto (tgt := 37) hx hb dX9_in_28 (by decide) ?_
        cases hm
        exact hret _ _ _ _ dX9_in_37 hP hD hS
set_option maxHeartbeats 4000000 in
set_option maxRecDepth 100000 in
theorem k_X9_hand {l : Launch} {D : va_G} {ad : Nat → Nat} {cI cJ cZ cO : ClassId} {t : Nat} {A : Nat → Prop} {N : Nat} {σ : zS}  {r : Int32}  (hm : m_X9_hand N σ = some r) : zCi l yX9_hand cX9_hand 3 (some .int) (zR 1 21) D zclM (zty cI cJ cZ cO) t A (zwM ad cI cJ cZ cO) [.ref (ad 0)] σ σ r := by
  refine zMi (by decide) (Nat.le_of_ble_eq_true rfl) ?_
  intro p e s m args below meth c Q hx hb hml hown hT hK hZ hret hP hD hS ls hl
  replace hown : s.vm.findClass RX9 = some m.cls := hown
  replace hl : lv_has ls 3 [(0, .ref (ad 0))] := hl
  have hL4 : ∀ (q : Int32 × Int32) (r : Int32), ziter (fun q : Int32 × Int32 => m_X9_hand_L4 N σ q.1 q.2) N q = some r → (∀ (H : Heap) (locs : List Loc) (ls : Array Slot), va_P D zclM (zwM ad cI cJ cZ cO σ) H → va_D A (zwM ad cI cJ cZ cO σ) → va_S A s.heap H locs → lv_has ls 3 [(1, .int r)] → W p l e (zR 1 21) s m args below meth c H locs 0 0 Q (F0 m 34 ls [])) → ∀ (H : Heap) (locs : List Loc) (ls : Array Slot), va_P D zclM (zwM ad cI cJ cZ cO σ) H → va_D A (zwM ad cI cJ cZ cO σ) → va_S A s.heap H locs → lv_has ls 3 [(0, .ref (ad 0)), (1, .int q.1), (2, .int q.2)] → W p l e (zR 1 21) s m args below meth c H locs 0 0 Q (F0 m 4 ls []) := by
    intro q r
    refine ziter_W (Hd := fun q : Int32 × Int32 => ∀ (H : Heap) (locs : List Loc) (ls : Array Slot), va_P D zclM (zwM ad cI cJ cZ cO σ) H → va_D A (zwM ad cI cJ cZ cO σ) → va_S A s.heap H locs → lv_has ls 3 [(0, .ref (ad 0)), (1, .int q.1), (2, .int q.2)] → W p l e (zR 1 21) s m args below meth c H locs 0 0 Q (F0 m 4 ls [])) (Ex := fun r : Int32 => ∀ (H : Heap) (locs : List Loc) (ls : Array Slot), va_P D zclM (zwM ad cI cJ cZ cO σ) H → va_D A (zwM ad cI cJ cZ cO σ) → va_S A s.heap H locs → lv_has ls 3 [(1, .int r)] → W p l e (zR 1 21) s m args below meth c H locs 0 0 Q (F0 m 34 ls [])) ?_ N q r
    rintro ⟨v1_1, v2_1⟩ res hm hk H locs ls hP hD hS hl
    try dsimp only at hP hD hl
    replace hm : m_X9_hand_L4 N σ v1_1 v2_1 = some res := hm
    have h26 : ∀ (v2_5 : Int32) (x0_5 : Int32) (x1_5 : Int32), m_X9_hand_26_in4 N σ v2_5 x0_5 x1_5 = some res → ∀ (H : Heap) (locs : List Loc) (ls : Array Slot), va_P D zclM (zwM ad cI cJ cZ cO σ) H → va_D A (zwM ad cI cJ cZ cO σ) → va_S A s.heap H locs → lv_has ls 3 [(0, .ref (ad 0)), (2, .int v2_5)] → W p l e (zR 1 21) s m args below meth c H locs 0 0 Q (F0 m 26 ls [.int x1_5, .int x0_5]) := by
      intro v2_5 x0_5 x1_5 hm H locs ls hP hD hS hl
      unfold m_X9_hand_26_in4 at hm
      refine lv_iadd hx hb dX9_hand_26 ?_
      refine lv_istore_n (lv' := [(1, .int (x0_5 + x1_5)), (0, .ref (ad 0)), (2, .int v2_5)]) hx hb dX9_hand_27 rfl hl (by decide) rfl (fun ls hl => ?_)
      refine lv_iinc (v := (v2_5 + (1 : Int32))) (lv' := [(2, .int (v2_5 + (1 : Int32))), (1, .int (x0_5 + x1_5)), (0, .ref (ad 0))]) hx hb dX9_hand_28 hl (k := 2) rfl rfl (by decide) rfl (fun ls hl => ?_)
      refine lv_goto (tgt := 4) hx hb dX9_hand_31 (by decide) ?_
      cases hm
      exact hk _ _ _ hP hD hS (lv_sub hl [2, 1, 0] rfl)
    unfold m_X9_hand_L4 at hm
    refine lv_iload_n hx hb dX9_hand_4 rfl (lv_at hl 2 rfl) ?_
    refine lv_aload_n hx hb dX9_hand_5 rfl (lv_at hl 0 rfl) ?_
    refine zget (v := .int (σ.1 0)) hx hb hT zinX9 hown hK hP 0 rfl rfl 0 (by decide) zw622 rfl dX9_hand_6 ?_
    refine lv_icmp_ge (tgt := 34) hx hb dX9_hand_9 (by decide) (fun h2 => ?_) (fun h2 => ?_)
    · rw [if_pos h2] at hm
      cases hm
      exact hk _ _ _ hP hD hS (lv_sub hl [1] rfl)
    · rw [if_neg h2] at hm
      refine lv_iload_n hx hb dX9_hand_12 rfl (lv_at hl 1 rfl) ?_
      refine lv_aload_n hx hb dX9_hand_13 rfl (lv_at hl 0 rfl) ?_
      refine lv_iload_n hx hb dX9_hand_14 rfl (lv_at hl 2 rfl) ?_
      obtain ⟨b3, eb3, hm⟩ := Option.bind_eq_some_iff.mp hm
      refine zVi (rest := [.int v1_1]) [.int v2_1] hx hb hml hl.1 hown hT (k_X9_atHand eb3) zkX9_atHand zw840 ⟨by decide, by decide⟩ rfl rfl hK hZ hP hD hS 0 rfl rfl rfl rfl (Nat.le_of_ble_eq_true rfl) ⟨Nat.zero_le _, Nat.zero_le _⟩ dX9_hand_15 (fun H locs hP hD hS => ?_)
      refine lv_if_eq (tgt := 25) hx hb dX9_hand_18 (by decide) (fun h4 => ?_) (fun h4 => ?_)
      · rw [if_pos h4] at hm
        refine lv_iconst (v := (0 : Int32)) hx hb dX9_hand_25 (by decide) ?_
        exact h26 v2_1 v1_1 (0 : Int32) hm _ _ _ hP hD hS (lv_sub hl [0, 2] rfl)
      · rw [if_neg h4] at hm
        refine lv_iconst (v := (1 : Int32)) hx hb dX9_hand_21 (by decide) ?_
        refine lv_goto (tgt := 26) hx hb dX9_hand_22 (by decide) ?_
        exact h26 v2_1 v1_1 (1 : Int32) hm _ _ _ hP hD hS (lv_sub hl [0, 2] rfl)
  have h34 : ∀ (v1_8 : Int32), m_X9_hand_34 N σ v1_8 = some r → ∀ (H : Heap) (locs : List Loc) (ls : Array Slot), va_P D zclM (zwM ad cI cJ cZ cO σ) H → va_D A (zwM ad cI cJ cZ cO σ) → va_S A s.heap H locs → lv_has ls 3 [(1, .int v1_8)] → W p l e (zR 1 21) s m args below meth c H locs 0 0 Q (F0 m 34 ls []) := by
    intro v1_8 hm H locs ls hP hD hS hl
    unfold m_X9_hand_34 at hm
    refine lv_iload_n hx hb dX9_hand_34 rfl (lv_at hl 0 rfl) ?_
    cases hm
    exact hret _ _ _ _ dX9_hand_35 hP hD hS
  unfold m_X9_hand at hm
  refine lv_iconst (v := (0 : Int32)) hx hb dX9_hand_0 (by decide) ?_
  refine lv_istore_n (lv' := [(1, .int (0 : Int32)), (0, .ref (ad 0))]) hx hb dX9_hand_1 rfl hl (by decide) rfl (fun ls hl => ?_)
  refine lv_iconst (v := (0 : Int32)) hx hb dX9_hand_2 (by decide) ?_
  refine lv_istore_n (lv' := [(2, .int (0 : Int32)), (1, .int (0 : Int32)), (0, .ref (ad 0))]) hx hb dX9_hand_3 rfl hl (by decide) rfl (fun ls hl => ?_)
  obtain ⟨v1_7, e9, hm⟩ := Option.bind_eq_some_iff.mp hm
  refine hL4  _ v1_7 e9 ?_ _ _ _ hP hD hS (lv_sub hl [2, 1, 0] rfl)
  intro H locs ls hP hD hS hl
  try dsimp only at hP hD hl
  replace hm : m_X9_hand_34 N σ v1_7 = some r := hm
  exact h34 v1_7 hm _ _ _ hP hD hS (lv_sub hl [0] rfl)
set_option maxHeartbeats 4000000 in
set_option maxRecDepth 100000 in
theorem k_X9_enter {l : Launch} {D : va_G} {ad : Nat → Nat} {cI cJ cZ cO : ClassId} {t : Nat} {A : Nat → Prop} {N : Nat} {σ σ' : zS} {v1 : Int32} {v2 : Int32} {r : Int32}  (hm : m_X9_enter N σ v1 v2 = some (r, σ')) : zCi l yX9_enter cX9_enter 4 (some .int) (zR 9 208) D zclM (zty cI cJ cZ cO) t A (zwM ad cI cJ cZ cO) [.ref (ad 0), .int v1, .int v2] σ σ' r := by
  refine zMi (by decide) (Nat.le_of_ble_eq_true rfl) ?_
  intro p e s m args below meth c Q hx hb hml hown hT hK hZ hret hP hD hS ls hl
  replace hown : s.vm.findClass RX9 = some m.cls := hown
  replace hl : lv_has ls 4 [(0, .ref (ad 0)), (1, .int v1), (2, .int v2)] := hl
  have hL26 : ∀ (q : zS × Int32) (r : zS), ziter (fun q : zS × Int32 => m_X9_enter_L26 N v1 v2 q.1 q.2) N q = some r → (∀ (H : Heap) (locs : List Loc) (ls : Array Slot), va_P D zclM (zwM ad cI cJ cZ cO r) H → va_D A (zwM ad cI cJ cZ cO r) → va_S A s.heap H locs → lv_has ls 4 [(0, .ref (ad 0))] → W p l e (zR 9 208) s m args below meth c H locs 0 0 Q (F0 m 53 ls [])) → ∀ (H : Heap) (locs : List Loc) (ls : Array Slot), va_P D zclM (zwM ad cI cJ cZ cO q.1) H → va_D A (zwM ad cI cJ cZ cO q.1) → va_S A s.heap H locs → lv_has ls 4 [(0, .ref (ad 0)), (1, .int v1), (2, .int v2), (3, .int q.2)] → W p l e (zR 9 208) s m args below meth c H locs 0 0 Q (F0 m 26 ls []) := by
    intro q r
    refine ziter_W (Hd := fun q : zS × Int32 => ∀ (H : Heap) (locs : List Loc) (ls : Array Slot), va_P D zclM (zwM ad cI cJ cZ cO q.1) H → va_D A (zwM ad cI cJ cZ cO q.1) → va_S A s.heap H locs → lv_has ls 4 [(0, .ref (ad 0)), (1, .int v1), (2, .int v2), (3, .int q.2)] → W p l e (zR 9 208) s m args below meth c H locs 0 0 Q (F0 m 26 ls [])) (Ex := fun r : zS => ∀ (H : Heap) (locs : List Loc) (ls : Array Slot), va_P D zclM (zwM ad cI cJ cZ cO r) H → va_D A (zwM ad cI cJ cZ cO r) → va_S A s.heap H locs → lv_has ls 4 [(0, .ref (ad 0))] → W p l e (zR 9 208) s m args below meth c H locs 0 0 Q (F0 m 53 ls [])) ?_ N q r
    rintro ⟨σ6, v3_6⟩ res hm hk H locs ls hP hD hS hl
    try dsimp only at hP hD hl
    replace hm : m_X9_enter_L26 N v1 v2 σ6 v3_6 = some res := hm
    unfold m_X9_enter_L26 at hm
    refine lv_iload_n hx hb dX9_enter_26 rfl (lv_at hl 3 rfl) ?_
    refine lv_aload_n hx hb dX9_enter_27 rfl (lv_at hl 0 rfl) ?_
    refine zget (v := .int (σ6.1 0)) hx hb hT zinX9 hown hK hP 0 rfl rfl 0 (by decide) zw622 rfl dX9_enter_28 ?_
    refine lv_icmp_ge (tgt := 53) hx hb dX9_enter_31 (by decide) (fun h7 => ?_) (fun h7 => ?_)
    · rw [if_pos h7] at hm
      cases hm
      exact hk _ _ _ hP hD hS (lv_sub hl [0] rfl)
    · rw [if_neg h7] at hm
      refine lv_aload_n hx hb dX9_enter_34 rfl (lv_at hl 0 rfl) ?_
      refine zget (v := .ref (ad 25)) hx hb hT zinX9 hown hK hP 0 rfl rfl 30 (by decide) zw652 rfl dX9_enter_35 ?_
      refine lv_iload_n hx hb dX9_enter_38 rfl (lv_at hl 3 rfl) ?_
      refine lv_aload_n hx hb dX9_enter_39 rfl (lv_at hl 0 rfl) ?_
      refine lv_iload_n hx hb dX9_enter_40 rfl (lv_at hl 1 rfl) ?_
      refine lv_iload_n hx hb dX9_enter_41 rfl (lv_at hl 2 rfl) ?_
      refine lv_iload_n hx hb dX9_enter_42 rfl (lv_at hl 3 rfl) ?_
      obtain ⟨b8, eb8, hm⟩ := Option.bind_eq_some_iff.mp hm
      refine zVi (rest := [.int v3_6, .ref (ad 25)]) [.int v1, .int v2, .int v3_6] hx hb hml hl.1 hown hT (k_X9_isIn eb8) zkX9_isIn zw852 ⟨by decide, by decide⟩ rfl rfl hK hZ hP hD hS 0 rfl rfl rfl rfl (Nat.le_of_ble_eq_true rfl) ⟨Nat.zero_le _, Nat.zero_le _⟩ dX9_enter_43 (fun H locs hP hD hS => ?_)
      obtain ⟨b9, eb9, hm⟩ := Option.bind_eq_some_iff.mp hm
      obtain ⟨rfl, hzb9, hwb9, hfb9⟩ := zcz_all eb9
      obtain ⟨σ10, eσ10, hm⟩ := Option.bind_eq_some_iff.mp hm
      refine zzast (j := 23) hx hb hK hP hD hS 25 2 rfl rfl eσ10 hwb9 (fun _ => rfl) dX9_enter_46 (fun H locs hP hD hS => ?_)
      refine lv_iinc (v := (v3_6 + (1 : Int32))) (lv' := [(3, .int (v3_6 + (1 : Int32))), (0, .ref (ad 0)), (1, .int v1), (2, .int v2)]) hx hb dX9_enter_47 hl (k := 3) rfl rfl (by decide) rfl (fun ls hl => ?_)
      refine lv_goto (tgt := 26) hx hb dX9_enter_50 (by decide) ?_
      cases hm
      exact hk _ _ _ hP hD hS (lv_sub hl [1, 2, 3, 0] rfl)
  have hL55 : ∀ (q : zS × Int32) (r : zS), ziter (fun q : zS × Int32 => m_X9_enter_L55 N v1 v2 q.1 q.2) N q = some r → (∀ (H : Heap) (locs : List Loc) (ls : Array Slot), va_P D zclM (zwM ad cI cJ cZ cO r) H → va_D A (zwM ad cI cJ cZ cO r) → va_S A s.heap H locs → lv_has ls 4 [(0, .ref (ad 0))] → W p l e (zR 9 208) s m args below meth c H locs 0 0 Q (F0 m 89 ls [])) → ∀ (H : Heap) (locs : List Loc) (ls : Array Slot), va_P D zclM (zwM ad cI cJ cZ cO q.1) H → va_D A (zwM ad cI cJ cZ cO q.1) → va_S A s.heap H locs → lv_has ls 4 [(0, .ref (ad 0)), (3, .int q.2)] → W p l e (zR 9 208) s m args below meth c H locs 0 0 Q (F0 m 55 ls []) := by
    intro q r
    refine ziter_W (Hd := fun q : zS × Int32 => ∀ (H : Heap) (locs : List Loc) (ls : Array Slot), va_P D zclM (zwM ad cI cJ cZ cO q.1) H → va_D A (zwM ad cI cJ cZ cO q.1) → va_S A s.heap H locs → lv_has ls 4 [(0, .ref (ad 0)), (3, .int q.2)] → W p l e (zR 9 208) s m args below meth c H locs 0 0 Q (F0 m 55 ls [])) (Ex := fun r : zS => ∀ (H : Heap) (locs : List Loc) (ls : Array Slot), va_P D zclM (zwM ad cI cJ cZ cO r) H → va_D A (zwM ad cI cJ cZ cO r) → va_S A s.heap H locs → lv_has ls 4 [(0, .ref (ad 0))] → W p l e (zR 9 208) s m args below meth c H locs 0 0 Q (F0 m 89 ls [])) ?_ N q r
    rintro ⟨σ14, v3_14⟩ res hm hk H locs ls hP hD hS hl
    try dsimp only at hP hD hl
    replace hm : m_X9_enter_L55 N v1 v2 σ14 v3_14 = some res := hm
    unfold m_X9_enter_L55 at hm
    refine lv_iload_n hx hb dX9_enter_55 rfl (lv_at hl 1 rfl) ?_
    refine lv_aload_n hx hb dX9_enter_56 rfl (lv_at hl 0 rfl) ?_
    refine zget (v := .int (σ14.1 0)) hx hb hT zinX9 hown hK hP 0 rfl rfl 0 (by decide) zw622 rfl dX9_enter_57 ?_
    refine lv_icmp_ge (tgt := 89) hx hb dX9_enter_60 (by decide) (fun h15 => ?_) (fun h15 => ?_)
    · rw [if_pos h15] at hm
      cases hm
      exact hk _ _ _ hP hD hS (lv_sub hl [0] rfl)
    · rw [if_neg h15] at hm
      refine lv_aload_n hx hb dX9_enter_63 rfl (lv_at hl 0 rfl) ?_
      refine zget (v := .ref (ad 18)) hx hb hT zinX9 hown hK hP 0 rfl rfl 20 (by decide) zw642 rfl dX9_enter_64 ?_
      refine lv_bipush (v := (120 : Int32)) hx hb dX9_enter_67 (by decide) ?_
      refine lv_aload_n hx hb dX9_enter_69 rfl (lv_at hl 0 rfl) ?_
      refine zget (v := .int (σ14.1 2)) hx hb hT zinX9 hown hK hP 0 rfl rfl 19 (by decide) zw641 rfl dX9_enter_70 ?_
      refine lv_imul hx hb dX9_enter_73 ?_
      refine lv_iload_n hx hb dX9_enter_74 rfl (lv_at hl 1 rfl) ?_
      refine lv_iadd hx hb dX9_enter_75 ?_
      refine lv_aload_n hx hb dX9_enter_76 rfl (lv_at hl 0 rfl) ?_
      refine zget (v := .ref (ad 25)) hx hb hT zinX9 hown hK hP 0 rfl rfl 30 (by decide) zw652 rfl dX9_enter_77 ?_
      refine lv_iload_n hx hb dX9_enter_80 rfl (lv_at hl 1 rfl) ?_
      obtain ⟨b16, eb16, hm⟩ := Option.bind_eq_some_iff.mp hm
      refine zzald hx hb hK hP 25 2 rfl rfl eb16 dX9_enter_81 ?_
      obtain ⟨b17, eb17, hm⟩ := Option.bind_eq_some_iff.mp hm
      obtain ⟨rfl, hzb17, hwb17, hfb17⟩ := zcz_all eb17
      obtain ⟨σ18, eσ18, hm⟩ := Option.bind_eq_some_iff.mp hm
      refine zzast (j := 17) hx hb hK hP hD hS 18 2 rfl rfl eσ18 hwb17 (fun _ => rfl) dX9_enter_82 (fun H locs hP hD hS => ?_)
      refine lv_iinc (v := (v3_14 + (1 : Int32))) (lv' := [(3, .int (v3_14 + (1 : Int32))), (0, .ref (ad 0))]) hx hb dX9_enter_83 hl (k := 1) rfl rfl (by decide) rfl (fun ls hl => ?_)
      refine lv_goto (tgt := 55) hx hb dX9_enter_86 (by decide) ?_
      cases hm
      exact hk _ _ _ hP hD hS (lv_sub hl [1, 0] rfl)
  have h89 : ∀ (σ21 : zS), m_X9_enter_89 N v1 v2 σ21 = some (r, σ') → ∀ (H : Heap) (locs : List Loc) (ls : Array Slot), va_P D zclM (zwM ad cI cJ cZ cO σ21) H → va_D A (zwM ad cI cJ cZ cO σ21) → va_S A s.heap H locs → lv_has ls 4 [(0, .ref (ad 0))] → W p l e (zR 9 208) s m args below meth c H locs 0 0 Q (F0 m 89 ls []) := by
    intro σ21 hm H locs ls hP hD hS hl
    unfold m_X9_enter_89 at hm
    refine lv_aload_n hx hb dX9_enter_89 rfl (lv_at hl 0 rfl) ?_
    refine lv_dup hx hb dX9_enter_90 rfl ?_
    refine zget (v := .int (σ21.1 2)) hx hb hT zinX9 hown hK hP 0 rfl rfl 19 (by decide) zw641 rfl dX9_enter_91 ?_
    refine lv_iconst (v := (1 : Int32)) hx hb dX9_enter_94 (by decide) ?_
    refine lv_iadd hx hb dX9_enter_95 ?_
    obtain ⟨σ22, eσ22, hm⟩ := Option.bind_eq_some_iff.mp hm
    refine zput (j := 2) (ty := .int) hx hb hT zinX9 tyX9 tyX9_ok nmX9 hown hK hP hD hS 0 rfl rfl 19 (by decide) zw641 rfl (by decide +kernel) rfl rfl (Nat.le_of_ble_eq_true rfl) eσ22 rfl dX9_enter_96 (fun H locs hP hD hS => ?_)
    refine lv_aload_n hx hb dX9_enter_99 rfl (lv_at hl 0 rfl) ?_
    obtain ⟨b23, eb23, hm⟩ := Option.bind_eq_some_iff.mp hm
    refine zVi (rest := []) [] hx hb hml hl.1 hown hT (k_X9_hand eb23) zkX9_hand zw892 ⟨by decide, by decide⟩ rfl rfl hK hZ hP hD hS 0 rfl rfl rfl rfl (Nat.le_of_ble_eq_true rfl) ⟨Nat.zero_le _, Nat.zero_le _⟩ dX9_enter_100 (fun H locs hP hD hS => ?_)
    cases hm
    exact hret _ _ _ _ dX9_enter_103 hP hD hS
  have h53 : ∀ (σ13 : zS), m_X9_enter_53 N v1 v2 σ13 = some (r, σ') → ∀ (H : Heap) (locs : List Loc) (ls : Array Slot), va_P D zclM (zwM ad cI cJ cZ cO σ13) H → va_D A (zwM ad cI cJ cZ cO σ13) → va_S A s.heap H locs → lv_has ls 4 [(0, .ref (ad 0))] → W p l e (zR 9 208) s m args below meth c H locs 0 0 Q (F0 m 53 ls []) := by
    intro σ13 hm H locs ls hP hD hS hl
    unfold m_X9_enter_53 at hm
    refine lv_iconst (v := (0 : Int32)) hx hb dX9_enter_53 (by decide) ?_
    refine lv_istore_n (lv' := [(3, .int (0 : Int32)), (0, .ref (ad 0))]) hx hb dX9_enter_54 rfl hl (by decide) rfl (fun ls hl => ?_)
    obtain ⟨σ20, e24, hm⟩ := Option.bind_eq_some_iff.mp hm
    refine hL55  _ σ20 e24 ?_ _ _ _ hP hD hS (lv_sub hl [1, 0] rfl)
    intro H locs ls hP hD hS hl
    try dsimp only at hP hD hl
    replace hm : m_X9_enter_89 N v1 v2 σ20 = some (r, σ') := hm
    exact h89 σ20 hm _ _ _ hP hD hS (lv_sub hl [0] rfl)
  unfold m_X9_enter at hm
  refine lv_aload_n hx hb dX9_enter_0 rfl (lv_at hl 0 rfl) ?_
  refine lv_iload_n hx hb dX9_enter_1 rfl (lv_at hl 1 rfl) ?_
  refine lv_iload_n hx hb dX9_enter_2 rfl (lv_at hl 2 rfl) ?_
  obtain ⟨⟨b1, σ3⟩, eb1, hm⟩ := Option.bind_eq_some_iff.mp hm
  try dsimp only at hm
  refine zVi (rest := []) [.int v1, .int v2] hx hb hml hl.1 hown hT (k_X9_isGroup eb1) zkX9_isGroup zw876 ⟨by decide, by decide⟩ rfl rfl hK hZ hP hD hS 0 rfl rfl rfl rfl (Nat.le_of_ble_eq_true rfl) ⟨Nat.zero_le _, Nat.zero_le _⟩ dX9_enter_3 (fun H locs hP hD hS => ?_)
  refine lv_if_ne (tgt := 12) hx hb dX9_enter_6 (by decide) (fun h4 => ?_) (fun h4 => ?_)
  · rw [if_neg h4] at hm
    refine lv_aload_n hx hb dX9_enter_12 rfl (lv_at hl 0 rfl) ?_
    refine zget (v := .int (σ3.1 2)) hx hb hT zinX9 hown hK hP 0 rfl rfl 19 (by decide) zw641 rfl dX9_enter_13 ?_
    refine lv_bipush (v := (6 : Int32)) hx hb dX9_enter_16 (by decide) ?_
    refine lv_icmp_ne (tgt := 24) hx hb dX9_enter_18 (by decide) (fun h5 => ?_) (fun h5 => ?_)
    · rw [if_neg h5] at hm
      refine lv_iconst (v := (0 : Int32)) hx hb dX9_enter_24 (by decide) ?_
      refine lv_istore_n (lv' := [(3, .int (0 : Int32)), (0, .ref (ad 0)), (1, .int v1), (2, .int v2)]) hx hb dX9_enter_25 rfl hl (by decide) rfl (fun ls hl => ?_)
      obtain ⟨σ12, e25, hm⟩ := Option.bind_eq_some_iff.mp hm
      refine hL26  _ σ12 e25 ?_ _ _ _ hP hD hS (lv_sub hl [1, 2, 3, 0] rfl)
      intro H locs ls hP hD hS hl
      try dsimp only at hP hD hl
      replace hm : m_X9_enter_53 N v1 v2 σ12 = some (r, σ') := hm
      exact h53 σ12 hm _ _ _ hP hD hS (lv_sub hl [0] rfl)
    · rw [if_pos h5] at hm
      refine lv_ldc hx hb hown (hT _ zw726) dX9_enter_21 ?_
      cases hm
      exact hret _ _ _ _ dX9_enter_23 hP hD hS
  · rw [if_pos h4] at hm
    refine lv_ldc hx hb hown (hT _ zw750) dX9_enter_9 ?_
    cases hm
    exact hret _ _ _ _ dX9_enter_11 hP hD hS
set_option maxHeartbeats 4000000 in
set_option maxRecDepth 100000 in
theorem k_X9_leave {l : Launch} {D : va_G} {ad : Nat → Nat} {cI cJ cZ cO : ClassId} {t : Nat} {A : Nat → Prop} {N : Nat} {σ σ' : zS}  {r : Int32}  (hm : m_X9_leave N σ = some (r, σ')) : zCi l yX9_leave cX9_leave 1 (some .int) (zR 0 0) D zclM (zty cI cJ cZ cO) t A (zwM ad cI cJ cZ cO) [.ref (ad 0)] σ σ' r := by
  refine zMi (by decide) (Nat.le_of_ble_eq_true rfl) ?_
  intro p e s m args below meth c Q hx hb hml hown hT hK hZ hret hP hD hS ls hl
  replace hown : s.vm.findClass RX9 = some m.cls := hown
  replace hl : lv_has ls 1 [(0, .ref (ad 0))] := hl
  unfold m_X9_leave at hm
  refine lv_aload_n hx hb dX9_leave_0 rfl (lv_at hl 0 rfl) ?_
  refine zget (v := .int (σ.1 2)) hx hb hT zinX9 hown hK hP 0 rfl rfl 19 (by decide) zw641 rfl dX9_leave_1 ?_
  refine lv_if_ne (tgt := 10) hx hb dX9_leave_4 (by decide) (fun h1 => ?_) (fun h1 => ?_)
  · rw [if_neg h1] at hm
    refine lv_aload_n hx hb dX9_leave_10 rfl (lv_at hl 0 rfl) ?_
    refine lv_dup hx hb dX9_leave_11 rfl ?_
    refine zget (v := .int (σ.1 2)) hx hb hT zinX9 hown hK hP 0 rfl rfl 19 (by decide) zw641 rfl dX9_leave_12 ?_
    refine lv_iconst (v := (1 : Int32)) hx hb dX9_leave_15 (by decide) ?_
    refine lv_isub hx hb dX9_leave_16 ?_
    obtain ⟨σ2, eσ2, hm⟩ := Option.bind_eq_some_iff.mp hm
    refine zput (j := 2) (ty := .int) hx hb hT zinX9 tyX9 tyX9_ok nmX9 hown hK hP hD hS 0 rfl rfl 19 (by decide) zw641 rfl (by decide +kernel) rfl rfl (Nat.le_of_ble_eq_true rfl) eσ2 rfl dX9_leave_17 (fun H locs hP hD hS => ?_)
    refine lv_aload_n hx hb dX9_leave_20 rfl (lv_at hl 0 rfl) ?_
    refine zget (v := .int (σ2.1 2)) hx hb hT zinX9 hown hK hP 0 rfl rfl 19 (by decide) zw641 rfl dX9_leave_21 ?_
    cases hm
    exact hret _ _ _ _ dX9_leave_24 hP hD hS
  · rw [if_pos h1] at hm
    refine lv_ldc hx hb hown (hT _ zw773) dX9_leave_7 ?_
    cases hm
    exact hret _ _ _ _ dX9_leave_9 hP hD hS
set_option maxHeartbeats 4000000 in
set_option maxRecDepth 100000 in
theorem k_X9_lay {l : Launch} {D : va_G} {ad : Nat → Nat} {cI cJ cZ cO : ClassId} {t : Nat} {A : Nat → Prop} {N : Nat} {σ σ' : zS} {v1 : Int32}   (hm : m_X9_lay N σ v1 = some σ') : zCv l yX9_lay cX9_lay 3 (none) (zR 0 0) D zclM (zty cI cJ cZ cO) t A (zwM ad cI cJ cZ cO) [.ref (ad 0), .int v1] σ σ' := by
  refine zMv (by decide) (Nat.le_of_ble_eq_true rfl) ?_
  intro p e s m args below meth c Q hx hb hml hown hT hK hZ hret hP hD hS ls hl
  replace hown : s.vm.findClass RX9 = some m.cls := hown
  replace hl : lv_has ls 3 [(0, .ref (ad 0)), (1, .int v1)] := hl
  have hL5 : ∀ (q : zS × Int32) (r : zS × Int32), ziter (fun q : zS × Int32 => m_X9_lay_L5 N v1 q.1 q.2) N q = some r → (∀ (H : Heap) (locs : List Loc) (ls : Array Slot), va_P D zclM (zwM ad cI cJ cZ cO r.1) H → va_D A (zwM ad cI cJ cZ cO r.1) → va_S A s.heap H locs → lv_has ls 3 [(0, .ref (ad 0)), (1, .int v1), (2, .int r.2)] → W p l e (zR 0 0) s m args below meth c H locs 0 0 Q (F0 m 41 ls [])) → ∀ (H : Heap) (locs : List Loc) (ls : Array Slot), va_P D zclM (zwM ad cI cJ cZ cO q.1) H → va_D A (zwM ad cI cJ cZ cO q.1) → va_S A s.heap H locs → lv_has ls 3 [(0, .ref (ad 0)), (1, .int v1), (2, .int q.2)] → W p l e (zR 0 0) s m args below meth c H locs 0 0 Q (F0 m 5 ls []) := by
    intro q r
    refine ziter_W (Hd := fun q : zS × Int32 => ∀ (H : Heap) (locs : List Loc) (ls : Array Slot), va_P D zclM (zwM ad cI cJ cZ cO q.1) H → va_D A (zwM ad cI cJ cZ cO q.1) → va_S A s.heap H locs → lv_has ls 3 [(0, .ref (ad 0)), (1, .int v1), (2, .int q.2)] → W p l e (zR 0 0) s m args below meth c H locs 0 0 Q (F0 m 5 ls [])) (Ex := fun r : zS × Int32 => ∀ (H : Heap) (locs : List Loc) (ls : Array Slot), va_P D zclM (zwM ad cI cJ cZ cO r.1) H → va_D A (zwM ad cI cJ cZ cO r.1) → va_S A s.heap H locs → lv_has ls 3 [(0, .ref (ad 0)), (1, .int v1), (2, .int r.2)] → W p l e (zR 0 0) s m args below meth c H locs 0 0 Q (F0 m 41 ls [])) ?_ N q r
    rintro ⟨σ1, v2_1⟩ res hm hk H locs ls hP hD hS hl
    try dsimp only at hP hD hl
    replace hm : m_X9_lay_L5 N v1 σ1 v2_1 = some res := hm
    unfold m_X9_lay_L5 at hm
    refine lv_iload_n hx hb dX9_lay_5 rfl (lv_at hl 2 rfl) ?_
    refine lv_if_le (tgt := 41) hx hb dX9_lay_6 (by decide) (fun h2 => ?_) (fun h2 => ?_)
    · rw [if_pos h2] at hm
      cases hm
      exact hk _ _ _ hP hD hS (lv_sub hl [0, 1, 2] rfl)
    · rw [if_neg h2] at hm
      refine lv_aload_n hx hb dX9_lay_9 rfl (lv_at hl 0 rfl) ?_
      refine zget (v := .ref (ad 26)) hx hb hT zinX9 hown hK hP 0 rfl rfl 32 (by decide) zw654 rfl dX9_lay_10 ?_
      refine lv_iload_n hx hb dX9_lay_13 rfl (lv_at hl 2 rfl) ?_
      refine lv_iconst (v := (1 : Int32)) hx hb dX9_lay_14 (by decide) ?_
      refine lv_isub hx hb dX9_lay_15 ?_
      obtain ⟨b3, eb3, hm⟩ := Option.bind_eq_some_iff.mp hm
      refine ziald hx hb hK hP 26 0 rfl rfl eb3 dX9_lay_16 ?_
      refine lv_iload_n hx hb dX9_lay_17 rfl (lv_at hl 1 rfl) ?_
      refine lv_icmp_le (tgt := 41) hx hb dX9_lay_18 (by decide) (fun h4 => ?_) (fun h4 => ?_)
      · rw [if_pos h4] at hm
        cases hm
        exact hk _ _ _ hP hD hS (lv_sub hl [0, 1, 2] rfl)
      · rw [if_neg h4] at hm
        refine lv_aload_n hx hb dX9_lay_21 rfl (lv_at hl 0 rfl) ?_
        refine zget (v := .ref (ad 26)) hx hb hT zinX9 hown hK hP 0 rfl rfl 32 (by decide) zw654 rfl dX9_lay_22 ?_
        refine lv_iload_n hx hb dX9_lay_25 rfl (lv_at hl 2 rfl) ?_
        refine lv_aload_n hx hb dX9_lay_26 rfl (lv_at hl 0 rfl) ?_
        refine zget (v := .ref (ad 26)) hx hb hT zinX9 hown hK hP 0 rfl rfl 32 (by decide) zw654 rfl dX9_lay_27 ?_
        refine lv_iload_n hx hb dX9_lay_30 rfl (lv_at hl 2 rfl) ?_
        refine lv_iconst (v := (1 : Int32)) hx hb dX9_lay_31 (by decide) ?_
        refine lv_isub hx hb dX9_lay_32 ?_
        obtain ⟨b5, eb5, hm⟩ := Option.bind_eq_some_iff.mp hm
        refine ziald hx hb hK hP 26 0 rfl rfl eb5 dX9_lay_33 ?_
        obtain ⟨σ6, eσ6, hm⟩ := Option.bind_eq_some_iff.mp hm
        refine ziast (j := 24) hx hb hK hP hD hS 26 0 rfl rfl eσ6 (fun _ => rfl) dX9_lay_34 (fun H locs hP hD hS => ?_)
        refine lv_iinc (v := (v2_1 + (-1 : Int32))) (lv' := [(2, .int (v2_1 + (-1 : Int32))), (0, .ref (ad 0)), (1, .int v1)]) hx hb dX9_lay_35 hl (k := 2) rfl rfl (by decide) rfl (fun ls hl => ?_)
        refine lv_goto (tgt := 5) hx hb dX9_lay_38 (by decide) ?_
        cases hm
        exact hk _ _ _ hP hD hS (lv_sub hl [1, 2, 0] rfl)
  have h41 : ∀ (σ9 : zS) (v2_9 : Int32), m_X9_lay_41 N v1 σ9 v2_9 = some σ' → ∀ (H : Heap) (locs : List Loc) (ls : Array Slot), va_P D zclM (zwM ad cI cJ cZ cO σ9) H → va_D A (zwM ad cI cJ cZ cO σ9) → va_S A s.heap H locs → lv_has ls 3 [(0, .ref (ad 0)), (1, .int v1), (2, .int v2_9)] → W p l e (zR 0 0) s m args below meth c H locs 0 0 Q (F0 m 41 ls []) := by
    intro σ9 v2_9 hm H locs ls hP hD hS hl
    unfold m_X9_lay_41 at hm
    refine lv_aload_n hx hb dX9_lay_41 rfl (lv_at hl 0 rfl) ?_
    refine zget (v := .ref (ad 26)) hx hb hT zinX9 hown hK hP 0 rfl rfl 32 (by decide) zw654 rfl dX9_lay_42 ?_
    refine lv_iload_n hx hb dX9_lay_45 rfl (lv_at hl 2 rfl) ?_
    refine lv_iload_n hx hb dX9_lay_46 rfl (lv_at hl 1 rfl) ?_
    obtain ⟨σ10, eσ10, hm⟩ := Option.bind_eq_some_iff.mp hm
    refine ziast (j := 24) hx hb hK hP hD hS 26 0 rfl rfl eσ10 (fun _ => rfl) dX9_lay_47 (fun H locs hP hD hS => ?_)
    refine lv_aload_n hx hb dX9_lay_48 rfl (lv_at hl 0 rfl) ?_
    refine lv_dup hx hb dX9_lay_49 rfl ?_
    refine zget (v := .int (σ10.1 6)) hx hb hT zinX9 hown hK hP 0 rfl rfl 31 (by decide) zw653 rfl dX9_lay_50 ?_
    refine lv_iconst (v := (1 : Int32)) hx hb dX9_lay_53 (by decide) ?_
    refine lv_iadd hx hb dX9_lay_54 ?_
    obtain ⟨σ11, eσ11, hm⟩ := Option.bind_eq_some_iff.mp hm
    refine zput (j := 6) (ty := .int) hx hb hT zinX9 tyX9 tyX9_ok nmX9 hown hK hP hD hS 0 rfl rfl 31 (by decide) zw653 rfl (by decide +kernel) rfl rfl (Nat.le_of_ble_eq_true rfl) eσ11 rfl dX9_lay_55 (fun H locs hP hD hS => ?_)
    cases hm
    exact hret _ _ _ _ dX9_lay_58 hP hD hS
  unfold m_X9_lay at hm
  refine lv_aload_n hx hb dX9_lay_0 rfl (lv_at hl 0 rfl) ?_
  refine zget (v := .int (σ.1 6)) hx hb hT zinX9 hown hK hP 0 rfl rfl 31 (by decide) zw653 rfl dX9_lay_1 ?_
  refine lv_istore_n (lv' := [(2, .int (σ.1 6)), (0, .ref (ad 0)), (1, .int v1)]) hx hb dX9_lay_4 rfl hl (by decide) rfl (fun ls hl => ?_)
  obtain ⟨r7, e12, hm⟩ := Option.bind_eq_some_iff.mp hm
  refine hL5  _ r7 e12 ?_ _ _ _ hP hD hS (lv_sub hl [1, 2, 0] rfl)
  obtain ⟨σ8, v2_8⟩ := r7
  intro H locs ls hP hD hS hl
  try dsimp only at hP hD hl
  replace hm : m_X9_lay_41 N v1 σ8 v2_8 = some σ' := hm
  exact h41 σ8 v2_8 hm _ _ _ hP hD hS (lv_sub hl [0, 1, 2] rfl)
set_option maxHeartbeats 4000000 in
set_option maxRecDepth 100000 in
theorem k_X9_findRow {l : Launch} {D : va_G} {ad : Nat → Nat} {cI cJ cZ cO : ClassId} {t : Nat} {A : Nat → Prop} {N : Nat} {σ σ' : zS} {v1 : Int32} {v2 : Int32} {v3 : Int32} {r : Int32}  (hm : m_X9_findRow N σ v1 v2 v3 = some (r, σ')) : zCi l yX9_findRow cX9_findRow 7 (some .boolean) (zR 9 208) D zclM (zty cI cJ cZ cO) t A (zwM ad cI cJ cZ cO) [.ref (ad 0), .int v1, .int v2, .int v3] σ σ' r := by
  refine zMz (by decide) (Nat.le_of_ble_eq_true rfl) ?_
  intro p e s m args below meth c Q hx hb hml hown hT hK hZ hret hP hD hS ls hl
  replace hown : s.vm.findClass RX9 = some m.cls := hown
  replace hl : lv_has ls 7 [(0, .ref (ad 0)), (1, .int v1), (2, .int v2), (3, .int v3)] := hl
  have hL25 : ∀ (q : zS × Int32) (r : zS), ziter (fun q : zS × Int32 => m_X9_findRow_L25 N v1 v2 v3 q.1 q.2) N q = some r → (∀ (H : Heap) (locs : List Loc) (ls : Array Slot), va_P D zclM (zwM ad cI cJ cZ cO r) H → va_D A (zwM ad cI cJ cZ cO r) → va_S A s.heap H locs → lv_has ls 7 [] → W p l e (zR 9 208) s m args below meth c H locs 0 0 Q (F0 m 117 ls [])) → ∀ (H : Heap) (locs : List Loc) (ls : Array Slot), va_P D zclM (zwM ad cI cJ cZ cO q.1) H → va_D A (zwM ad cI cJ cZ cO q.1) → va_S A s.heap H locs → lv_has ls 7 [(0, .ref (ad 0)), (1, .int v1), (2, .int v2), (3, .int v3), (4, .int q.2)] → W p l e (zR 9 208) s m args below meth c H locs 0 0 Q (F0 m 25 ls []) := by
    intro q r
    refine ziter_W (Hd := fun q : zS × Int32 => ∀ (H : Heap) (locs : List Loc) (ls : Array Slot), va_P D zclM (zwM ad cI cJ cZ cO q.1) H → va_D A (zwM ad cI cJ cZ cO q.1) → va_S A s.heap H locs → lv_has ls 7 [(0, .ref (ad 0)), (1, .int v1), (2, .int v2), (3, .int v3), (4, .int q.2)] → W p l e (zR 9 208) s m args below meth c H locs 0 0 Q (F0 m 25 ls [])) (Ex := fun r : zS => ∀ (H : Heap) (locs : List Loc) (ls : Array Slot), va_P D zclM (zwM ad cI cJ cZ cO r) H → va_D A (zwM ad cI cJ cZ cO r) → va_S A s.heap H locs → lv_has ls 7 [] → W p l e (zR 9 208) s m args below meth c H locs 0 0 Q (F0 m 117 ls [])) ?_ N q r
    rintro ⟨σ4, v4_4⟩ res hm hk H locs ls hP hD hS hl
    try dsimp only at hP hD hl
    replace hm : m_X9_findRow_L25 N v1 v2 v3 σ4 v4_4 = some res := hm
    have hL62 : ∀ (v4_9 : Int32) (v5_9 : Int32), ∀ (q : zS × Int32) (r : zS), ziter (fun q : zS × Int32 => m_X9_findRow_L62 N v1 v2 v3 v4_9 v5_9 q.1 q.2) N q = some r → (∀ (H : Heap) (locs : List Loc) (ls : Array Slot), va_P D zclM (zwM ad cI cJ cZ cO r) H → va_D A (zwM ad cI cJ cZ cO r) → va_S A s.heap H locs → lv_has ls 7 [(0, .ref (ad 0)), (1, .int v1), (2, .int v2), (3, .int v3), (4, .int v4_9)] → W p l e (zR 9 208) s m args below meth c H locs 0 0 Q (F0 m 111 ls [])) → ∀ (H : Heap) (locs : List Loc) (ls : Array Slot), va_P D zclM (zwM ad cI cJ cZ cO q.1) H → va_D A (zwM ad cI cJ cZ cO q.1) → va_S A s.heap H locs → lv_has ls 7 [(0, .ref (ad 0)), (1, .int v1), (2, .int v2), (3, .int v3), (4, .int v4_9), (5, .int v5_9), (6, .int q.2)] → W p l e (zR 9 208) s m args below meth c H locs 0 0 Q (F0 m 62 ls []) := by
      intro v4_9 v5_9
      intro q r
      refine ziter_W (Hd := fun q : zS × Int32 => ∀ (H : Heap) (locs : List Loc) (ls : Array Slot), va_P D zclM (zwM ad cI cJ cZ cO q.1) H → va_D A (zwM ad cI cJ cZ cO q.1) → va_S A s.heap H locs → lv_has ls 7 [(0, .ref (ad 0)), (1, .int v1), (2, .int v2), (3, .int v3), (4, .int v4_9), (5, .int v5_9), (6, .int q.2)] → W p l e (zR 9 208) s m args below meth c H locs 0 0 Q (F0 m 62 ls [])) (Ex := fun r : zS => ∀ (H : Heap) (locs : List Loc) (ls : Array Slot), va_P D zclM (zwM ad cI cJ cZ cO r) H → va_D A (zwM ad cI cJ cZ cO r) → va_S A s.heap H locs → lv_has ls 7 [(0, .ref (ad 0)), (1, .int v1), (2, .int v2), (3, .int v3), (4, .int v4_9)] → W p l e (zR 9 208) s m args below meth c H locs 0 0 Q (F0 m 111 ls [])) ?_ N q r
      rintro ⟨σ9, v6_9⟩ res hm hk H locs ls hP hD hS hl
      try dsimp only at hP hD hl
      replace hm : m_X9_findRow_L62 N v1 v2 v3 v4_9 v5_9 σ9 v6_9 = some res := hm
      unfold m_X9_findRow_L62 at hm
      refine lv_iload hx hb dX9_findRow_62 (lv_at hl 6 rfl) ?_
      refine lv_aload_n hx hb dX9_findRow_64 rfl (lv_at hl 0 rfl) ?_
      refine zget (v := .ref (ad 1)) hx hb hT zinX9 hown hK hP 0 rfl rfl 1 (by decide) zw623 rfl dX9_findRow_65 ?_
      refine lv_bipush (v := (6 : Int32)) hx hb dX9_findRow_68 (by decide) ?_
      refine lv_iload hx hb dX9_findRow_70 (lv_at hl 4 rfl) ?_
      refine lv_imul hx hb dX9_findRow_72 ?_
      refine lv_iload_n hx hb dX9_findRow_73 rfl (lv_at hl 3 rfl) ?_
      refine lv_iadd hx hb dX9_findRow_74 ?_
      obtain ⟨b10, eb10, hm⟩ := Option.bind_eq_some_iff.mp hm
      refine ziald hx hb hK hP 1 0 rfl rfl eb10 dX9_findRow_75 ?_
      refine lv_icmp_ge (tgt := 111) hx hb dX9_findRow_76 (by decide) (fun h11 => ?_) (fun h11 => ?_)
      · rw [if_pos h11] at hm
        cases hm
        exact hk _ _ _ hP hD hS (lv_sub hl [0, 1, 2, 3, 4] rfl)
      · rw [if_neg h11] at hm
        refine lv_iload hx hb dX9_findRow_79 (lv_at hl 5 rfl) ?_
        refine lv_if_eq (tgt := 111) hx hb dX9_findRow_81 (by decide) (fun h12 => ?_) (fun h12 => ?_)
        · rw [if_pos h12] at hm
          cases hm
          exact hk _ _ _ hP hD hS (lv_sub hl [0, 1, 2, 3, 4] rfl)
        · rw [if_neg h12] at hm
          refine lv_aload_n hx hb dX9_findRow_84 rfl (lv_at hl 0 rfl) ?_
          refine lv_aload_n hx hb dX9_findRow_85 rfl (lv_at hl 0 rfl) ?_
          refine zget (v := .ref (ad 2)) hx hb hT zinX9 hown hK hP 0 rfl rfl 2 (by decide) zw624 rfl dX9_findRow_86 ?_
          refine lv_iconst (v := (3 : Int32)) hx hb dX9_findRow_89 (by decide) ?_
          refine lv_bipush (v := (6 : Int32)) hx hb dX9_findRow_90 (by decide) ?_
          refine lv_iload hx hb dX9_findRow_92 (lv_at hl 4 rfl) ?_
          refine lv_imul hx hb dX9_findRow_94 ?_
          refine lv_iload_n hx hb dX9_findRow_95 rfl (lv_at hl 3 rfl) ?_
          refine lv_iadd hx hb dX9_findRow_96 ?_
          refine lv_imul hx hb dX9_findRow_97 ?_
          refine lv_iload hx hb dX9_findRow_98 (lv_at hl 6 rfl) ?_
          refine lv_iadd hx hb dX9_findRow_100 ?_
          obtain ⟨b13, eb13, hm⟩ := Option.bind_eq_some_iff.mp hm
          refine ziald hx hb hK hP 2 0 rfl rfl eb13 dX9_findRow_101 ?_
          obtain ⟨σ14, eσ14, hm⟩ := Option.bind_eq_some_iff.mp hm
          refine zVv (rest := []) [.int b13] hx hb hml hl.1 hown hT (k_X9_lay eσ14) zkX9_lay zw909 ⟨by decide, by decide⟩ rfl rfl hK hZ hP hD hS 0 rfl rfl rfl rfl (Nat.le_of_ble_eq_true rfl) ⟨Nat.zero_le _, Nat.zero_le _⟩ dX9_findRow_102 (fun H locs hP hD hS => ?_)
          refine lv_iinc (v := (v6_9 + (1 : Int32))) (lv' := [(6, .int (v6_9 + (1 : Int32))), (0, .ref (ad 0)), (1, .int v1), (2, .int v2), (3, .int v3), (4, .int v4_9), (5, .int v5_9)]) hx hb dX9_findRow_105 hl (k := 6) rfl rfl (by decide) rfl (fun ls hl => ?_)
          refine lv_goto (tgt := 62) hx hb dX9_findRow_108 (by decide) ?_
          cases hm
          exact hk _ _ _ hP hD hS (lv_sub hl [1, 2, 3, 4, 5, 6, 0] rfl)
    have h111 : ∀ (σ17 : zS) (v4_17 : Int32), m_X9_findRow_111_in25 N v1 v2 v3 σ17 v4_17 = some res → ∀ (H : Heap) (locs : List Loc) (ls : Array Slot), va_P D zclM (zwM ad cI cJ cZ cO σ17) H → va_D A (zwM ad cI cJ cZ cO σ17) → va_S A s.heap H locs → lv_has ls 7 [(0, .ref (ad 0)), (1, .int v1), (2, .int v2), (3, .int v3), (4, .int v4_17)] → W p l e (zR 9 208) s m args below meth c H locs 0 0 Q (F0 m 111 ls []) := by
      intro σ17 v4_17 hm H locs ls hP hD hS hl
      unfold m_X9_findRow_111_in25 at hm
      refine lv_iinc (v := (v4_17 + (1 : Int32))) (lv' := [(4, .int (v4_17 + (1 : Int32))), (0, .ref (ad 0)), (1, .int v1), (2, .int v2), (3, .int v3)]) hx hb dX9_findRow_111 hl (k := 4) rfl rfl (by decide) rfl (fun ls hl => ?_)
      refine lv_goto (tgt := 25) hx hb dX9_findRow_114 (by decide) ?_
      cases hm
      exact hk _ _ _ hP hD hS (lv_sub hl [1, 2, 3, 4, 0] rfl)
    have h57 : ∀ (σ8 : zS) (v4_8 : Int32) (x0_8 : Int32), m_X9_findRow_57_in25 N v1 v2 v3 σ8 v4_8 x0_8 = some res → ∀ (H : Heap) (locs : List Loc) (ls : Array Slot), va_P D zclM (zwM ad cI cJ cZ cO σ8) H → va_D A (zwM ad cI cJ cZ cO σ8) → va_S A s.heap H locs → lv_has ls 7 [(0, .ref (ad 0)), (1, .int v1), (2, .int v2), (3, .int v3), (4, .int v4_8)] → W p l e (zR 9 208) s m args below meth c H locs 0 0 Q (F0 m 57 ls [.int x0_8]) := by
      intro σ8 v4_8 x0_8 hm H locs ls hP hD hS hl
      unfold m_X9_findRow_57_in25 at hm
      refine lv_istore (lv' := [(5, .int x0_8), (0, .ref (ad 0)), (1, .int v1), (2, .int v2), (3, .int v3), (4, .int v4_8)]) hx hb dX9_findRow_57 hl (by decide) rfl (fun ls hl => ?_)
      refine lv_iconst (v := (0 : Int32)) hx hb dX9_findRow_59 (by decide) ?_
      refine lv_istore (lv' := [(6, .int (0 : Int32)), (5, .int x0_8), (0, .ref (ad 0)), (1, .int v1), (2, .int v2), (3, .int v3), (4, .int v4_8)]) hx hb dX9_findRow_60 hl (by decide) rfl (fun ls hl => ?_)
      obtain ⟨σ16, e18, hm⟩ := Option.bind_eq_some_iff.mp hm
      refine hL62 v4_8 x0_8 _ σ16 e18 ?_ _ _ _ hP hD hS (lv_sub hl [2, 3, 4, 5, 6, 1, 0] rfl)
      intro H locs ls hP hD hS hl
      try dsimp only at hP hD hl
      replace hm : m_X9_findRow_111_in25 N v1 v2 v3 σ16 v4_8 = some res := hm
      exact h111 σ16 v4_8 hm _ _ _ hP hD hS (lv_sub hl [0, 1, 2, 3, 4] rfl)
    unfold m_X9_findRow_L25 at hm
    refine lv_iload hx hb dX9_findRow_25 (lv_at hl 4 rfl) ?_
    refine lv_aload_n hx hb dX9_findRow_27 rfl (lv_at hl 0 rfl) ?_
    refine zget (v := .int (σ4.1 0)) hx hb hT zinX9 hown hK hP 0 rfl rfl 0 (by decide) zw622 rfl dX9_findRow_28 ?_
    refine lv_icmp_ge (tgt := 117) hx hb dX9_findRow_31 (by decide) (fun h5 => ?_) (fun h5 => ?_)
    · rw [if_pos h5] at hm
      cases hm
      exact hk _ _ _ hP hD hS (lv_sub hl [] rfl)
    · rw [if_neg h5] at hm
      refine lv_iload_n hx hb dX9_findRow_34 rfl (lv_at hl 2 rfl) ?_
      refine lv_ldc hx hb hown (hT _ zw764) dX9_findRow_35 ?_
      refine lv_icmp_ne (tgt := 49) hx hb dX9_findRow_37 (by decide) (fun h6 => ?_) (fun h6 => ?_)
      · rw [if_neg h6] at hm
        refine lv_aload_n hx hb dX9_findRow_49 rfl (lv_at hl 0 rfl) ?_
        refine lv_iload_n hx hb dX9_findRow_50 rfl (lv_at hl 1 rfl) ?_
        refine lv_iload_n hx hb dX9_findRow_51 rfl (lv_at hl 2 rfl) ?_
        refine lv_iload hx hb dX9_findRow_52 (lv_at hl 4 rfl) ?_
        obtain ⟨b7, eb7, hm⟩ := Option.bind_eq_some_iff.mp hm
        refine zVi (rest := []) [.int v1, .int v2, .int v4_4] hx hb hml hl.1 hown hT (k_X9_isIn eb7) zkX9_isIn zw852 ⟨by decide, by decide⟩ rfl rfl hK hZ hP hD hS 0 rfl rfl rfl rfl (Nat.le_of_ble_eq_true rfl) ⟨Nat.zero_le _, Nat.zero_le _⟩ dX9_findRow_54 (fun H locs hP hD hS => ?_)
        exact h57 σ4 v4_4 b7 hm _ _ _ hP hD hS (lv_sub hl [0, 1, 2, 3, 4] rfl)
      · rw [if_pos h6] at hm
        refine lv_aload_n hx hb dX9_findRow_40 rfl (lv_at hl 0 rfl) ?_
        refine lv_iload hx hb dX9_findRow_41 (lv_at hl 4 rfl) ?_
        obtain ⟨b19, eb19, hm⟩ := Option.bind_eq_some_iff.mp hm
        refine zVi (rest := []) [.int v4_4] hx hb hml hl.1 hown hT (k_X9_atHand eb19) zkX9_atHand zw840 ⟨by decide, by decide⟩ rfl rfl hK hZ hP hD hS 0 rfl rfl rfl rfl (Nat.le_of_ble_eq_true rfl) ⟨Nat.zero_le _, Nat.zero_le _⟩ dX9_findRow_43 (fun H locs hP hD hS => ?_)
        refine lv_goto (tgt := 57) hx hb dX9_findRow_46 (by decide) ?_
        exact h57 σ4 v4_4 b19 hm _ _ _ hP hD hS (lv_sub hl [0, 1, 2, 3, 4] rfl)
  have h117 : ∀ (σ22 : zS), m_X9_findRow_117 N v1 v2 v3 σ22 = some (r, σ') → ∀ (H : Heap) (locs : List Loc) (ls : Array Slot), va_P D zclM (zwM ad cI cJ cZ cO σ22) H → va_D A (zwM ad cI cJ cZ cO σ22) → va_S A s.heap H locs → lv_has ls 7 [] → W p l e (zR 9 208) s m args below meth c H locs 0 0 Q (F0 m 117 ls []) := by
    intro σ22 hm H locs ls hP hD hS hl
    unfold m_X9_findRow_117 at hm
    refine lv_iconst (v := (1 : Int32)) hx hb dX9_findRow_117 (by decide) ?_
    cases hm
    exact hret _ _ _ _ (by decide) dX9_findRow_118 hP hD hS
  have h17 : ∀ (σ2 : zS), m_X9_findRow_17 N v1 v2 v3 σ2 = some (r, σ') → ∀ (H : Heap) (locs : List Loc) (ls : Array Slot), va_P D zclM (zwM ad cI cJ cZ cO σ2) H → va_D A (zwM ad cI cJ cZ cO σ2) → va_S A s.heap H locs → lv_has ls 7 [(0, .ref (ad 0)), (1, .int v1), (2, .int v2), (3, .int v3)] → W p l e (zR 9 208) s m args below meth c H locs 0 0 Q (F0 m 17 ls []) := by
    intro σ2 hm H locs ls hP hD hS hl
    unfold m_X9_findRow_17 at hm
    refine lv_aload_n hx hb dX9_findRow_17 rfl (lv_at hl 0 rfl) ?_
    refine lv_iconst (v := (0 : Int32)) hx hb dX9_findRow_18 (by decide) ?_
    obtain ⟨σ3, eσ3, hm⟩ := Option.bind_eq_some_iff.mp hm
    refine zput (j := 6) (ty := .int) hx hb hT zinX9 tyX9 tyX9_ok nmX9 hown hK hP hD hS 0 rfl rfl 31 (by decide) zw653 rfl (by decide +kernel) rfl rfl (Nat.le_of_ble_eq_true rfl) eσ3 rfl dX9_findRow_19 (fun H locs hP hD hS => ?_)
    refine lv_iconst (v := (0 : Int32)) hx hb dX9_findRow_22 (by decide) ?_
    refine lv_istore (lv' := [(4, .int (0 : Int32)), (0, .ref (ad 0)), (1, .int v1), (2, .int v2), (3, .int v3)]) hx hb dX9_findRow_23 hl (by decide) rfl (fun ls hl => ?_)
    obtain ⟨σ21, e23, hm⟩ := Option.bind_eq_some_iff.mp hm
    refine hL25  _ σ21 e23 ?_ _ _ _ hP hD hS (lv_sub hl [1, 2, 3, 4, 0] rfl)
    intro H locs ls hP hD hS hl
    try dsimp only at hP hD hl
    replace hm : m_X9_findRow_117 N v1 v2 v3 σ21 = some (r, σ') := hm
    exact h117 σ21 hm _ _ _ hP hD hS (lv_sub hl [] rfl)
  unfold m_X9_findRow at hm
  refine lv_iload_n hx hb dX9_findRow_0 rfl (lv_at hl 2 rfl) ?_
  refine lv_ldc hx hb hown (hT _ zw764) dX9_findRow_1 ?_
  refine lv_icmp_eq (tgt := 17) hx hb dX9_findRow_3 (by decide) (fun h1 => ?_) (fun h1 => ?_)
  · rw [if_pos h1] at hm
    exact h17 σ hm _ _ _ hP hD hS (lv_sub hl [0, 1, 2, 3] rfl)
  · rw [if_neg h1] at hm
    refine lv_aload_n hx hb dX9_findRow_6 rfl (lv_at hl 0 rfl) ?_
    refine lv_iload_n hx hb dX9_findRow_7 rfl (lv_at hl 1 rfl) ?_
    refine lv_iload_n hx hb dX9_findRow_8 rfl (lv_at hl 2 rfl) ?_
    obtain ⟨⟨b24, σ26⟩, eb24, hm⟩ := Option.bind_eq_some_iff.mp hm
    try dsimp only at hm
    refine zVi (rest := []) [.int v1, .int v2] hx hb hml hl.1 hown hT (k_X9_isGroup eb24) zkX9_isGroup zw876 ⟨by decide, by decide⟩ rfl rfl hK hZ hP hD hS 0 rfl rfl rfl rfl (Nat.le_of_ble_eq_true rfl) ⟨Nat.zero_le _, Nat.zero_le _⟩ dX9_findRow_9 (fun H locs hP hD hS => ?_)
    refine lv_if_ne (tgt := 17) hx hb dX9_findRow_12 (by decide) (fun h27 => ?_) (fun h27 => ?_)
    · rw [if_neg h27] at hm
      exact h17 σ26 hm _ _ _ hP hD hS (lv_sub hl [0, 1, 2, 3] rfl)
    · rw [if_pos h27] at hm
      refine lv_iconst (v := (0 : Int32)) hx hb dX9_findRow_15 (by decide) ?_
      cases hm
      exact hret _ _ _ _ (by decide) dX9_findRow_16 hP hD hS
set_option maxHeartbeats 4000000 in
set_option maxRecDepth 100000 in
theorem k_X9_figure {l : Launch} {D : va_G} {ad : Nat → Nat} {cI cJ cZ cO : ClassId} {t : Nat} {A : Nat → Prop} {N : Nat} {σ σ' : zS} {v1 : Int32} {v2 : Int32} {v3 : Int32} {v4 : Int32} {r : Int64}  (hm : m_X9_figure N σ v1 v2 v3 v4 = some (r, σ')) : zCl l yX9_figure cX9_figure 9 (some .long) (zR 10 234) D zclM (zty cI cJ cZ cO) t A (zwM ad cI cJ cZ cO) [.ref (ad 0), .int v1, .int v2, .int v3, .int v4] σ σ' r := by
  refine zMl (by decide) (Nat.le_of_ble_eq_true rfl) ?_
  intro p e s m args below meth c Q hx hb hml hown hT hK hZ hret hP hD hS ls hl
  replace hown : s.vm.findClass RX9 = some m.cls := hown
  replace hl : lv_has ls 9 [(0, .ref (ad 0)), (1, .int v1), (2, .int v2), (3, .int v3), (4, .int v4)] := hl
  have hL40 : ∀ (σ9 : zS), ∀ (q : Int64 × Int32 × Int32) (r : Int64 × Int32), ziter (fun q : Int64 × Int32 × Int32 => m_X9_figure_L40 N v1 v2 v3 v4 σ9 q.1 q.2.1 q.2.2) N q = some r → (∀ (H : Heap) (locs : List Loc) (ls : Array Slot), va_P D zclM (zwM ad cI cJ cZ cO σ9) H → va_D A (zwM ad cI cJ cZ cO σ9) → va_S A s.heap H locs → lv_has ls 9 [(0, .ref (ad 0)), (4, .int v4), (5, .long r.1), (7, .int r.2)] → W p l e (zR 10 234) s m args below meth c H locs 0 0 Q (F0 m 102 ls [])) → ∀ (H : Heap) (locs : List Loc) (ls : Array Slot), va_P D zclM (zwM ad cI cJ cZ cO σ9) H → va_D A (zwM ad cI cJ cZ cO σ9) → va_S A s.heap H locs → lv_has ls 9 [(0, .ref (ad 0)), (4, .int v4), (5, .long q.1), (7, .int q.2.1), (8, .int q.2.2)] → W p l e (zR 10 234) s m args below meth c H locs 0 0 Q (F0 m 40 ls []) := by
    intro σ9
    intro q r
    refine ziter_W (Hd := fun q : Int64 × Int32 × Int32 => ∀ (H : Heap) (locs : List Loc) (ls : Array Slot), va_P D zclM (zwM ad cI cJ cZ cO σ9) H → va_D A (zwM ad cI cJ cZ cO σ9) → va_S A s.heap H locs → lv_has ls 9 [(0, .ref (ad 0)), (4, .int v4), (5, .long q.1), (7, .int q.2.1), (8, .int q.2.2)] → W p l e (zR 10 234) s m args below meth c H locs 0 0 Q (F0 m 40 ls [])) (Ex := fun r : Int64 × Int32 => ∀ (H : Heap) (locs : List Loc) (ls : Array Slot), va_P D zclM (zwM ad cI cJ cZ cO σ9) H → va_D A (zwM ad cI cJ cZ cO σ9) → va_S A s.heap H locs → lv_has ls 9 [(0, .ref (ad 0)), (4, .int v4), (5, .long r.1), (7, .int r.2)] → W p l e (zR 10 234) s m args below meth c H locs 0 0 Q (F0 m 102 ls [])) ?_ N q r
    rintro ⟨v5_9, v7_9, v8_9⟩ res hm hk H locs ls hP hD hS hl
    try dsimp only at hP hD hl
    replace hm : m_X9_figure_L40 N v1 v2 v3 v4 σ9 v5_9 v7_9 v8_9 = some res := hm
    have h93 : ∀ (v5_14 : Int64) (v8_14 : Int32) (x0_14 : Int32) (x1_14 : Int32), m_X9_figure_93_in40 N v1 v2 v3 v4 σ9 v5_14 v8_14 x0_14 x1_14 = some res → ∀ (H : Heap) (locs : List Loc) (ls : Array Slot), va_P D zclM (zwM ad cI cJ cZ cO σ9) H → va_D A (zwM ad cI cJ cZ cO σ9) → va_S A s.heap H locs → lv_has ls 9 [(0, .ref (ad 0)), (4, .int v4), (5, .long v5_14), (8, .int v8_14)] → W p l e (zR 10 234) s m args below meth c H locs 0 0 Q (F0 m 93 ls [.int x1_14, .int x0_14]) := by
      intro v5_14 v8_14 x0_14 x1_14 hm H locs ls hP hD hS hl
      unfold m_X9_figure_93_in40 at hm
      refine lv_iadd hx hb dX9_figure_93 ?_
      refine lv_istore (lv' := [(7, .int (x0_14 + x1_14)), (0, .ref (ad 0)), (4, .int v4), (5, .long v5_14), (8, .int v8_14)]) hx hb dX9_figure_94 hl (by decide) rfl (fun ls hl => ?_)
      refine lv_iinc (v := (v8_14 + (1 : Int32))) (lv' := [(8, .int (v8_14 + (1 : Int32))), (7, .int (x0_14 + x1_14)), (0, .ref (ad 0)), (4, .int v4), (5, .long v5_14)]) hx hb dX9_figure_96 hl (k := 4) rfl rfl (by decide) rfl (fun ls hl => ?_)
      refine lv_goto (tgt := 40) hx hb dX9_figure_99 (by decide) ?_
      cases hm
      exact hk _ _ _ hP hD hS (lv_sub hl [2, 3, 4, 1, 0] rfl)
    have h88 : ∀ (v5_13 : Int64) (v8_13 : Int32) (x0_13 : Int32), m_X9_figure_88_in40 N v1 v2 v3 v4 σ9 v5_13 v8_13 x0_13 = some res → ∀ (H : Heap) (locs : List Loc) (ls : Array Slot), va_P D zclM (zwM ad cI cJ cZ cO σ9) H → va_D A (zwM ad cI cJ cZ cO σ9) → va_S A s.heap H locs → lv_has ls 9 [(0, .ref (ad 0)), (4, .int v4), (5, .long v5_13), (8, .int v8_13)] → W p l e (zR 10 234) s m args below meth c H locs 0 0 Q (F0 m 88 ls [.int x0_13]) := by
      intro v5_13 v8_13 x0_13 hm H locs ls hP hD hS hl
      unfold m_X9_figure_88_in40 at hm
      refine lv_iconst (v := (1 : Int32)) hx hb dX9_figure_88 (by decide) ?_
      refine lv_goto (tgt := 93) hx hb dX9_figure_89 (by decide) ?_
      exact h93 v5_13 v8_13 x0_13 (1 : Int32) hm _ _ _ hP hD hS (lv_sub hl [0, 1, 2, 3] rfl)
    unfold m_X9_figure_L40 at hm
    refine lv_iload hx hb dX9_figure_40 (lv_at hl 4 rfl) ?_
    refine lv_aload_n hx hb dX9_figure_42 rfl (lv_at hl 0 rfl) ?_
    refine zget (v := .int (σ9.1 6)) hx hb hT zinX9 hown hK hP 0 rfl rfl 31 (by decide) zw653 rfl dX9_figure_43 ?_
    refine lv_icmp_ge (tgt := 102) hx hb dX9_figure_46 (by decide) (fun h10 => ?_) (fun h10 => ?_)
    · rw [if_pos h10] at hm
      cases hm
      exact hk _ _ _ hP hD hS (lv_sub hl [0, 1, 2, 3] rfl)
    · rw [if_neg h10] at hm
      refine lv_lload hx hb dX9_figure_49 (lv_at hl 2 rfl) ?_
      refine lv_aload_n hx hb dX9_figure_51 rfl (lv_at hl 0 rfl) ?_
      refine zget (v := .ref (ad 26)) hx hb hT zinX9 hown hK hP 0 rfl rfl 32 (by decide) zw654 rfl dX9_figure_52 ?_
      refine lv_iload hx hb dX9_figure_55 (lv_at hl 4 rfl) ?_
      obtain ⟨b11, eb11, hm⟩ := Option.bind_eq_some_iff.mp hm
      refine ziald hx hb hK hP 26 0 rfl rfl eb11 dX9_figure_57 ?_
      refine lv_i2l (v := b11.toInt64) hx hb dX9_figure_58 rfl ?_
      refine lv_ladd hx hb dX9_figure_59 ?_
      refine lv_lstore (lv' := [(5, .long (v5_9 + b11.toInt64)), (0, .ref (ad 0)), (4, .int v4), (7, .int v7_9), (8, .int v8_9)]) hx hb dX9_figure_60 hl (by decide) rfl (fun ls hl => ?_)
      refine lv_iload hx hb dX9_figure_62 (lv_at hl 3 rfl) ?_
      refine lv_iload hx hb dX9_figure_64 (lv_at hl 4 rfl) ?_
      refine lv_if_eq (tgt := 88) hx hb dX9_figure_66 (by decide) (fun h12 => ?_) (fun h12 => ?_)
      · rw [if_pos h12] at hm
        exact h88 (v5_9 + b11.toInt64) v8_9 v7_9 hm _ _ _ hP hD hS (lv_sub hl [1, 2, 0, 4] rfl)
      · rw [if_neg h12] at hm
        refine lv_aload_n hx hb dX9_figure_69 rfl (lv_at hl 1 rfl) ?_
        refine zget (v := .ref (ad 26)) hx hb hT zinX9 hown hK hP 0 rfl rfl 32 (by decide) zw654 rfl dX9_figure_70 ?_
        refine lv_iload hx hb dX9_figure_73 (lv_at hl 4 rfl) ?_
        obtain ⟨b15, eb15, hm⟩ := Option.bind_eq_some_iff.mp hm
        refine ziald hx hb hK hP 26 0 rfl rfl eb15 dX9_figure_75 ?_
        refine lv_aload_n hx hb dX9_figure_76 rfl (lv_at hl 1 rfl) ?_
        refine zget (v := .ref (ad 26)) hx hb hT zinX9 hown hK hP 0 rfl rfl 32 (by decide) zw654 rfl dX9_figure_77 ?_
        refine lv_iload hx hb dX9_figure_80 (lv_at hl 4 rfl) ?_
        refine lv_iconst (v := (1 : Int32)) hx hb dX9_figure_82 (by decide) ?_
        refine lv_isub hx hb dX9_figure_83 ?_
        obtain ⟨b16, eb16, hm⟩ := Option.bind_eq_some_iff.mp hm
        refine ziald hx hb hK hP 26 0 rfl rfl eb16 dX9_figure_84 ?_
        refine lv_icmp_eq (tgt := 92) hx hb dX9_figure_85 (by decide) (fun h17 => ?_) (fun h17 => ?_)
        · rw [if_pos h17] at hm
          refine lv_iconst (v := (0 : Int32)) hx hb dX9_figure_92 (by decide) ?_
          exact h93 (v5_9 + b11.toInt64) v8_9 v7_9 (0 : Int32) hm _ _ _ hP hD hS (lv_sub hl [1, 2, 0, 4] rfl)
        · rw [if_neg h17] at hm
          exact h88 (v5_9 + b11.toInt64) v8_9 v7_9 hm _ _ _ hP hD hS (lv_sub hl [1, 2, 0, 4] rfl)
  have h102 : ∀ (σ20 : zS) (v5_20 : Int64) (v7_20 : Int32), m_X9_figure_102 N v1 v2 v3 v4 σ20 v5_20 v7_20 = some (r, σ') → ∀ (H : Heap) (locs : List Loc) (ls : Array Slot), va_P D zclM (zwM ad cI cJ cZ cO σ20) H → va_D A (zwM ad cI cJ cZ cO σ20) → va_S A s.heap H locs → lv_has ls 9 [(0, .ref (ad 0)), (4, .int v4), (5, .long v5_20), (7, .int v7_20)] → W p l e (zR 10 234) s m args below meth c H locs 0 0 Q (F0 m 102 ls []) := by
    intro σ20 v5_20 v7_20 hm H locs ls hP hD hS hl
    unfold m_X9_figure_102 at hm
    refine lv_iload hx hb dX9_figure_102 (lv_at hl 1 rfl) ?_
    refine lv_if_ne (tgt := 113) hx hb dX9_figure_104 (by decide) (fun h21 => ?_) (fun h21 => ?_)
    · rw [if_neg h21] at hm
      refine lv_iload hx hb dX9_figure_113 (lv_at hl 1 rfl) ?_
      refine lv_iconst (v := (1 : Int32)) hx hb dX9_figure_115 (by decide) ?_
      refine lv_icmp_ne (tgt := 122) hx hb dX9_figure_116 (by decide) (fun h22 => ?_) (fun h22 => ?_)
      · rw [if_neg h22] at hm
        refine lv_iload hx hb dX9_figure_122 (lv_at hl 1 rfl) ?_
        refine lv_iconst (v := (4 : Int32)) hx hb dX9_figure_124 (by decide) ?_
        refine lv_icmp_ne (tgt := 134) hx hb dX9_figure_125 (by decide) (fun h23 => ?_) (fun h23 => ?_)
        · rw [if_neg h23] at hm
          refine lv_aload_n hx hb dX9_figure_134 rfl (lv_at hl 0 rfl) ?_
          refine zget (v := .int (σ20.1 6)) hx hb hT zinX9 hown hK hP 0 rfl rfl 31 (by decide) zw653 rfl dX9_figure_135 ?_
          refine lv_if_ne (tgt := 147) hx hb dX9_figure_138 (by decide) (fun h24 => ?_) (fun h24 => ?_)
          · rw [if_neg h24] at hm
            refine lv_iload hx hb dX9_figure_147 (lv_at hl 1 rfl) ?_
            refine lv_iconst (v := (2 : Int32)) hx hb dX9_figure_149 (by decide) ?_
            refine lv_icmp_ne (tgt := 163) hx hb dX9_figure_150 (by decide) (fun h25 => ?_) (fun h25 => ?_)
            · rw [if_neg h25] at hm
              refine lv_aload_n hx hb dX9_figure_163 rfl (lv_at hl 0 rfl) ?_
              refine zget (v := .ref (ad 26)) hx hb hT zinX9 hown hK hP 0 rfl rfl 32 (by decide) zw654 rfl dX9_figure_164 ?_
              refine lv_aload_n hx hb dX9_figure_167 rfl (lv_at hl 0 rfl) ?_
              refine zget (v := .int (σ20.1 6)) hx hb hT zinX9 hown hK hP 0 rfl rfl 31 (by decide) zw653 rfl dX9_figure_168 ?_
              refine lv_iconst (v := (1 : Int32)) hx hb dX9_figure_171 (by decide) ?_
              refine lv_isub hx hb dX9_figure_172 ?_
              obtain ⟨b26, eb26, hm⟩ := Option.bind_eq_some_iff.mp hm
              refine ziald hx hb hK hP 26 0 rfl rfl eb26 dX9_figure_173 ?_
              refine lv_i2l (v := b26.toInt64) hx hb dX9_figure_174 rfl ?_
              cases hm
              exact hret _ _ _ _ dX9_figure_175 hP hD hS
            · rw [if_pos h25] at hm
              refine lv_aload_n hx hb dX9_figure_153 rfl (lv_at hl 0 rfl) ?_
              refine zget (v := .ref (ad 26)) hx hb hT zinX9 hown hK hP 0 rfl rfl 32 (by decide) zw654 rfl dX9_figure_154 ?_
              refine lv_iconst (v := (0 : Int32)) hx hb dX9_figure_157 (by decide) ?_
              obtain ⟨b27, eb27, hm⟩ := Option.bind_eq_some_iff.mp hm
              refine ziald hx hb hK hP 26 0 rfl rfl eb27 dX9_figure_158 ?_
              refine lv_i2l (v := b27.toInt64) hx hb dX9_figure_159 rfl ?_
              refine lv_goto (tgt := 175) hx hb dX9_figure_160 (by decide) ?_
              cases hm
              exact hret _ _ _ _ dX9_figure_175 hP hD hS
          · rw [if_pos h24] at hm
            refine lv_ldc2 hx hb hown (hT _ zw914) dX9_figure_141 ?_
            refine lv_goto (tgt := 175) hx hb dX9_figure_144 (by decide) ?_
            cases hm
            exact hret _ _ _ _ dX9_figure_175 hP hD hS
        · rw [if_pos h23] at hm
          refine lv_iload hx hb dX9_figure_128 (lv_at hl 3 rfl) ?_
          refine lv_i2l (v := v7_20.toInt64) hx hb dX9_figure_130 rfl ?_
          refine lv_goto (tgt := 175) hx hb dX9_figure_131 (by decide) ?_
          cases hm
          exact hret _ _ _ _ dX9_figure_175 hP hD hS
      · rw [if_pos h22] at hm
        refine lv_lload hx hb dX9_figure_119 (lv_at hl 2 rfl) ?_
        cases hm
        exact hret _ _ _ _ dX9_figure_121 hP hD hS
    · rw [if_pos h21] at hm
      refine lv_aload_n hx hb dX9_figure_107 rfl (lv_at hl 0 rfl) ?_
      refine zget (v := .int (σ20.1 6)) hx hb hT zinX9 hown hK hP 0 rfl rfl 31 (by decide) zw653 rfl dX9_figure_108 ?_
      refine lv_i2l (v := (σ20.1 6).toInt64) hx hb dX9_figure_111 rfl ?_
      cases hm
      exact hret _ _ _ _ dX9_figure_112 hP hD hS
  unfold m_X9_figure at hm
  refine lv_iload_n hx hb dX9_figure_0 rfl (lv_at hl 3 rfl) ?_
  obtain ⟨b1, eb1, hm⟩ := Option.bind_eq_some_iff.mp hm
  refine zSi (rest := []) [.int v3] hx hb hml hl.1 hown hT (k_X9_isColumn eb1) zkX9_isColumn zw742 ⟨by decide, by decide⟩ rfl rfl hK hZ hP hD hS rfl rfl (Nat.le_of_ble_eq_true rfl) ⟨Nat.zero_le _, Nat.zero_le _⟩ dX9_figure_1 (fun H locs hP hD hS => ?_)
  refine lv_if_eq (tgt := 27) hx hb dX9_figure_4 (by decide) (fun h2 => ?_) (fun h2 => ?_)
  · rw [if_pos h2] at hm
    refine lv_ldc2 hx hb hown (hT _ zw913) dX9_figure_27 ?_
    cases hm
    exact hret _ _ _ _ dX9_figure_30 hP hD hS
  · rw [if_neg h2] at hm
    refine lv_iload hx hb dX9_figure_7 (lv_at hl 4 rfl) ?_
    refine lv_iconst (v := (0 : Int32)) hx hb dX9_figure_9 (by decide) ?_
    refine lv_iconst (v := (4 : Int32)) hx hb dX9_figure_10 (by decide) ?_
    obtain ⟨b3, eb3, hm⟩ := Option.bind_eq_some_iff.mp hm
    refine zSi (rest := []) [.int v4, .int (0 : Int32), .int (4 : Int32)] hx hb hml hl.1 hown hT (k_X9_within eb3) zkX9_within zw739 ⟨by decide, by decide⟩ rfl rfl hK hZ hP hD hS rfl rfl (Nat.le_of_ble_eq_true rfl) ⟨Nat.zero_le _, Nat.zero_le _⟩ dX9_figure_11 (fun H locs hP hD hS => ?_)
    refine lv_if_eq (tgt := 27) hx hb dX9_figure_14 (by decide) (fun h4 => ?_) (fun h4 => ?_)
    · rw [if_pos h4] at hm
      refine lv_ldc2 hx hb hown (hT _ zw913) dX9_figure_27 ?_
      cases hm
      exact hret _ _ _ _ dX9_figure_30 hP hD hS
    · rw [if_neg h4] at hm
      refine lv_aload_n hx hb dX9_figure_17 rfl (lv_at hl 0 rfl) ?_
      refine lv_iload_n hx hb dX9_figure_18 rfl (lv_at hl 1 rfl) ?_
      refine lv_iload_n hx hb dX9_figure_19 rfl (lv_at hl 2 rfl) ?_
      refine lv_iload_n hx hb dX9_figure_20 rfl (lv_at hl 3 rfl) ?_
      obtain ⟨⟨b5, σ7⟩, eb5, hm⟩ := Option.bind_eq_some_iff.mp hm
      try dsimp only at hm
      refine zVi (rest := []) [.int v1, .int v2, .int v3] hx hb hml hl.1 hown hT (k_X9_findRow eb5) zkX9_findRow zw905 ⟨by decide, by decide⟩ rfl rfl hK hZ hP hD hS 0 rfl rfl rfl rfl (Nat.le_of_ble_eq_true rfl) ⟨Nat.zero_le _, Nat.zero_le _⟩ dX9_figure_21 (fun H locs hP hD hS => ?_)
      refine lv_if_ne (tgt := 31) hx hb dX9_figure_24 (by decide) (fun h8 => ?_) (fun h8 => ?_)
      · rw [if_neg h8] at hm
        refine lv_lconst (v := (0 : Int64)) hx hb dX9_figure_31 (by decide) ?_
        refine lv_lstore (lv' := [(5, .long (0 : Int64)), (0, .ref (ad 0)), (1, .int v1), (2, .int v2), (3, .int v3), (4, .int v4)]) hx hb dX9_figure_32 hl (by decide) rfl (fun ls hl => ?_)
        refine lv_iconst (v := (0 : Int32)) hx hb dX9_figure_34 (by decide) ?_
        refine lv_istore (lv' := [(7, .int (0 : Int32)), (5, .long (0 : Int64)), (0, .ref (ad 0)), (1, .int v1), (2, .int v2), (3, .int v3), (4, .int v4)]) hx hb dX9_figure_35 hl (by decide) rfl (fun ls hl => ?_)
        refine lv_iconst (v := (0 : Int32)) hx hb dX9_figure_37 (by decide) ?_
        refine lv_istore (lv' := [(8, .int (0 : Int32)), (7, .int (0 : Int32)), (5, .long (0 : Int64)), (0, .ref (ad 0)), (1, .int v1), (2, .int v2), (3, .int v3), (4, .int v4)]) hx hb dX9_figure_38 hl (by decide) rfl (fun ls hl => ?_)
        obtain ⟨r18, e28, hm⟩ := Option.bind_eq_some_iff.mp hm
        refine hL40 σ7 _ r18 e28 ?_ _ _ _ hP hD hS (lv_sub hl [3, 7, 2, 1, 0] rfl)
        obtain ⟨v5_19, v7_19⟩ := r18
        intro H locs ls hP hD hS hl
        try dsimp only at hP hD hl
        replace hm : m_X9_figure_102 N v1 v2 v3 v4 σ7 v5_19 v7_19 = some (r, σ') := hm
        exact h102 σ7 v5_19 v7_19 hm _ _ _ hP hD hS (lv_sub hl [0, 1, 2, 3] rfl)
      · rw [if_pos h8] at hm
        refine lv_ldc2 hx hb hown (hT _ zw913) dX9_figure_27 ?_
        cases hm
        exact hret _ _ _ _ dX9_figure_30 hP hD hS
set_option maxHeartbeats 4000000 in
set_option maxRecDepth 100000 in
theorem k_X9_place {l : Launch} {D : va_G} {ad : Nat → Nat} {cI cJ cZ cO : ClassId} {t : Nat} {A : Nat → Prop} {N : Nat} {σ σ' : zS} {v1 : Int32} {v2 : Int32} {v3 : Int32} {v4 : Int32} {r : Int32}  (hm : m_X9_place N σ v1 v2 v3 v4 = some (r, σ')) : zCi l yX9_place cX9_place 6 (some .int) (zR 10 234) D zclM (zty cI cJ cZ cO) t A (zwM ad cI cJ cZ cO) [.ref (ad 0), .int v1, .int v2, .int v3, .int v4] σ σ' r := by
  refine zMi (by decide) (Nat.le_of_ble_eq_true rfl) ?_
  intro p e s m args below meth c Q hx hb hml hown hT hK hZ hret hP hD hS ls hl
  replace hown : s.vm.findClass RX9 = some m.cls := hown
  replace hl : lv_has ls 6 [(0, .ref (ad 0)), (1, .int v1), (2, .int v2), (3, .int v3), (4, .int v4)] := hl
  unfold m_X9_place at hm
  refine lv_iload_n hx hb dX9_place_0 rfl (lv_at hl 3 rfl) ?_
  obtain ⟨b1, eb1, hm⟩ := Option.bind_eq_some_iff.mp hm
  refine zSi (rest := []) [.int v3] hx hb hml hl.1 hown hT (k_X9_isColumn eb1) zkX9_isColumn zw742 ⟨by decide, by decide⟩ rfl rfl hK hZ hP hD hS rfl rfl (Nat.le_of_ble_eq_true rfl) ⟨Nat.zero_le _, Nat.zero_le _⟩ dX9_place_1 (fun H locs hP hD hS => ?_)
  refine lv_if_eq (tgt := 28) hx hb dX9_place_4 (by decide) (fun h2 => ?_) (fun h2 => ?_)
  · rw [if_pos h2] at hm
    refine lv_ldc hx hb hown (hT _ zw750) dX9_place_28 ?_
    cases hm
    exact hret _ _ _ _ dX9_place_30 hP hD hS
  · rw [if_neg h2] at hm
    refine lv_iload hx hb dX9_place_7 (lv_at hl 4 rfl) ?_
    refine lv_iconst (v := (0 : Int32)) hx hb dX9_place_9 (by decide) ?_
    refine lv_bipush (v := (100 : Int32)) hx hb dX9_place_10 (by decide) ?_
    obtain ⟨b3, eb3, hm⟩ := Option.bind_eq_some_iff.mp hm
    refine zSi (rest := []) [.int v4, .int (0 : Int32), .int (100 : Int32)] hx hb hml hl.1 hown hT (k_X9_within eb3) zkX9_within zw739 ⟨by decide, by decide⟩ rfl rfl hK hZ hP hD hS rfl rfl (Nat.le_of_ble_eq_true rfl) ⟨Nat.zero_le _, Nat.zero_le _⟩ dX9_place_12 (fun H locs hP hD hS => ?_)
    refine lv_if_eq (tgt := 28) hx hb dX9_place_15 (by decide) (fun h4 => ?_) (fun h4 => ?_)
    · rw [if_pos h4] at hm
      refine lv_ldc hx hb hown (hT _ zw750) dX9_place_28 ?_
      cases hm
      exact hret _ _ _ _ dX9_place_30 hP hD hS
    · rw [if_neg h4] at hm
      refine lv_aload_n hx hb dX9_place_18 rfl (lv_at hl 0 rfl) ?_
      refine lv_iload_n hx hb dX9_place_19 rfl (lv_at hl 1 rfl) ?_
      refine lv_iload_n hx hb dX9_place_20 rfl (lv_at hl 2 rfl) ?_
      refine lv_iload_n hx hb dX9_place_21 rfl (lv_at hl 3 rfl) ?_
      obtain ⟨⟨b5, σ7⟩, eb5, hm⟩ := Option.bind_eq_some_iff.mp hm
      try dsimp only at hm
      refine zVi (rest := []) [.int v1, .int v2, .int v3] hx hb hml hl.1 hown hT (k_X9_findRow eb5) zkX9_findRow zw905 ⟨by decide, by decide⟩ rfl rfl hK hZ hP hD hS 0 rfl rfl rfl rfl (Nat.le_of_ble_eq_true rfl) ⟨Nat.zero_le _, Nat.zero_le _⟩ dX9_place_22 (fun H locs hP hD hS => ?_)
      refine lv_if_ne (tgt := 31) hx hb dX9_place_25 (by decide) (fun h8 => ?_) (fun h8 => ?_)
      · rw [if_neg h8] at hm
        refine lv_iload hx hb dX9_place_31 (lv_at hl 4 rfl) ?_
        refine lv_aload_n hx hb dX9_place_33 rfl (lv_at hl 0 rfl) ?_
        refine zget (v := .int (σ7.1 6)) hx hb hT zinX9 hown hK hP 0 rfl rfl 31 (by decide) zw653 rfl dX9_place_34 ?_
        refine lv_imul hx hb dX9_place_37 ?_
        refine lv_bipush (v := (99 : Int32)) hx hb dX9_place_38 (by decide) ?_
        refine lv_iadd hx hb dX9_place_40 ?_
        refine lv_bipush (v := (100 : Int32)) hx hb dX9_place_41 (by decide) ?_
        refine lv_idiv hx hb dX9_place_43 (by decide) ?_
        refine lv_istore (lv' := [(5, .int (((v4 * (σ7.1 6)) + (99 : Int32)) / (100 : Int32))), (0, .ref (ad 0)), (1, .int v1), (2, .int v2), (3, .int v3), (4, .int v4)]) hx hb dX9_place_44 hl (by decide) rfl (fun ls hl => ?_)
        refine lv_aload_n hx hb dX9_place_46 rfl (lv_at hl 1 rfl) ?_
        refine zget (v := .int (σ7.1 6)) hx hb hT zinX9 hown hK hP 0 rfl rfl 31 (by decide) zw653 rfl dX9_place_47 ?_
        refine lv_if_ne (tgt := 58) hx hb dX9_place_50 (by decide) (fun h9 => ?_) (fun h9 => ?_)
        · rw [if_neg h9] at hm
          refine lv_aload_n hx hb dX9_place_58 rfl (lv_at hl 1 rfl) ?_
          refine zget (v := .ref (ad 26)) hx hb hT zinX9 hown hK hP 0 rfl rfl 32 (by decide) zw654 rfl dX9_place_59 ?_
          refine lv_iload hx hb dX9_place_62 (lv_at hl 0 rfl) ?_
          refine lv_if_ne (tgt := 71) hx hb dX9_place_64 (by decide) (fun h10 => ?_) (fun h10 => ?_)
          · rw [if_neg h10] at hm
            refine lv_iload hx hb dX9_place_71 (lv_at hl 0 rfl) ?_
            refine lv_iconst (v := (1 : Int32)) hx hb dX9_place_73 (by decide) ?_
            refine lv_isub hx hb dX9_place_74 ?_
            obtain ⟨b11, eb11, hm⟩ := Option.bind_eq_some_iff.mp hm
            refine ziald hx hb hK hP 26 0 rfl rfl eb11 dX9_place_75 ?_
            cases hm
            exact hret _ _ _ _ dX9_place_76 hP hD hS
          · rw [if_pos h10] at hm
            refine lv_iconst (v := (0 : Int32)) hx hb dX9_place_67 (by decide) ?_
            refine lv_goto (tgt := 75) hx hb dX9_place_68 (by decide) ?_
            obtain ⟨b12, eb12, hm⟩ := Option.bind_eq_some_iff.mp hm
            refine ziald hx hb hK hP 26 0 rfl rfl eb12 dX9_place_75 ?_
            cases hm
            exact hret _ _ _ _ dX9_place_76 hP hD hS
        · rw [if_pos h9] at hm
          refine lv_ldc hx hb hown (hT _ zw764) dX9_place_53 ?_
          refine lv_goto (tgt := 76) hx hb dX9_place_55 (by decide) ?_
          cases hm
          exact hret _ _ _ _ dX9_place_76 hP hD hS
      · rw [if_pos h8] at hm
        refine lv_ldc hx hb hown (hT _ zw750) dX9_place_28 ?_
        cases hm
        exact hret _ _ _ _ dX9_place_30 hP hD hS
set_option maxHeartbeats 4000000 in
set_option maxRecDepth 100000 in
theorem k_X9_told {l : Launch} {D : va_G} {ad : Nat → Nat} {cI cJ cZ cO : ClassId} {t : Nat} {A : Nat → Prop} {N : Nat} {σ : zS} {v1 : Int32} {r : Int32}  (hm : m_X9_told N σ v1 = some r) : zCi l yX9_told cX9_told 4 (some .int) (zR 0 0) D zclM (zty cI cJ cZ cO) t A (zwM ad cI cJ cZ cO) [.ref (ad 0), .int v1] σ σ r := by
  refine zMi (by decide) (Nat.le_of_ble_eq_true rfl) ?_
  intro p e s m args below meth c Q hx hb hml hown hT hK hZ hret hP hD hS ls hl
  replace hown : s.vm.findClass RX9 = some m.cls := hown
  replace hl : lv_has ls 4 [(0, .ref (ad 0)), (1, .int v1)] := hl
  have hL4 : ∀ (q : Int32 × Int32) (r : Int32), ziter (fun q : Int32 × Int32 => m_X9_told_L4 N σ v1 q.1 q.2) N q = some r → (∀ (H : Heap) (locs : List Loc) (ls : Array Slot), va_P D zclM (zwM ad cI cJ cZ cO σ) H → va_D A (zwM ad cI cJ cZ cO σ) → va_S A s.heap H locs → lv_has ls 4 [(0, .ref (ad 0)), (1, .int v1), (2, .int r)] → W p l e (zR 0 0) s m args below meth c H locs 0 0 Q (F0 m 35 ls [])) → ∀ (H : Heap) (locs : List Loc) (ls : Array Slot), va_P D zclM (zwM ad cI cJ cZ cO σ) H → va_D A (zwM ad cI cJ cZ cO σ) → va_S A s.heap H locs → lv_has ls 4 [(0, .ref (ad 0)), (1, .int v1), (2, .int q.1), (3, .int q.2)] → W p l e (zR 0 0) s m args below meth c H locs 0 0 Q (F0 m 4 ls []) := by
    intro q r
    refine ziter_W (Hd := fun q : Int32 × Int32 => ∀ (H : Heap) (locs : List Loc) (ls : Array Slot), va_P D zclM (zwM ad cI cJ cZ cO σ) H → va_D A (zwM ad cI cJ cZ cO σ) → va_S A s.heap H locs → lv_has ls 4 [(0, .ref (ad 0)), (1, .int v1), (2, .int q.1), (3, .int q.2)] → W p l e (zR 0 0) s m args below meth c H locs 0 0 Q (F0 m 4 ls [])) (Ex := fun r : Int32 => ∀ (H : Heap) (locs : List Loc) (ls : Array Slot), va_P D zclM (zwM ad cI cJ cZ cO σ) H → va_D A (zwM ad cI cJ cZ cO σ) → va_S A s.heap H locs → lv_has ls 4 [(0, .ref (ad 0)), (1, .int v1), (2, .int r)] → W p l e (zR 0 0) s m args below meth c H locs 0 0 Q (F0 m 35 ls [])) ?_ N q r
    rintro ⟨v2_1, v3_1⟩ res hm hk H locs ls hP hD hS hl
    try dsimp only at hP hD hl
    replace hm : m_X9_told_L4 N σ v1 v2_1 v3_1 = some res := hm
    have h27 : ∀ (v3_5 : Int32) (x0_5 : Int32) (x1_5 : Int32), m_X9_told_27_in4 N σ v1 v3_5 x0_5 x1_5 = some res → ∀ (H : Heap) (locs : List Loc) (ls : Array Slot), va_P D zclM (zwM ad cI cJ cZ cO σ) H → va_D A (zwM ad cI cJ cZ cO σ) → va_S A s.heap H locs → lv_has ls 4 [(0, .ref (ad 0)), (1, .int v1), (3, .int v3_5)] → W p l e (zR 0 0) s m args below meth c H locs 0 0 Q (F0 m 27 ls [.int x1_5, .int x0_5]) := by
      intro v3_5 x0_5 x1_5 hm H locs ls hP hD hS hl
      unfold m_X9_told_27_in4 at hm
      refine lv_iadd hx hb dX9_told_27 ?_
      refine lv_istore_n (lv' := [(2, .int (x0_5 + x1_5)), (0, .ref (ad 0)), (1, .int v1), (3, .int v3_5)]) hx hb dX9_told_28 rfl hl (by decide) rfl (fun ls hl => ?_)
      refine lv_iinc (v := (v3_5 + (1 : Int32))) (lv' := [(3, .int (v3_5 + (1 : Int32))), (2, .int (x0_5 + x1_5)), (0, .ref (ad 0)), (1, .int v1)]) hx hb dX9_told_29 hl (k := 3) rfl rfl (by decide) rfl (fun ls hl => ?_)
      refine lv_goto (tgt := 4) hx hb dX9_told_32 (by decide) ?_
      cases hm
      exact hk _ _ _ hP hD hS (lv_sub hl [2, 3, 1, 0] rfl)
    unfold m_X9_told_L4 at hm
    refine lv_iload_n hx hb dX9_told_4 rfl (lv_at hl 3 rfl) ?_
    refine lv_aload_n hx hb dX9_told_5 rfl (lv_at hl 0 rfl) ?_
    refine zget (v := .int (σ.1 0)) hx hb hT zinX9 hown hK hP 0 rfl rfl 0 (by decide) zw622 rfl dX9_told_6 ?_
    refine lv_icmp_ge (tgt := 35) hx hb dX9_told_9 (by decide) (fun h2 => ?_) (fun h2 => ?_)
    · rw [if_pos h2] at hm
      cases hm
      exact hk _ _ _ hP hD hS (lv_sub hl [0, 1, 2] rfl)
    · rw [if_neg h2] at hm
      refine lv_iload_n hx hb dX9_told_12 rfl (lv_at hl 2 rfl) ?_
      refine lv_aload_n hx hb dX9_told_13 rfl (lv_at hl 0 rfl) ?_
      refine zget (v := .ref (ad 3)) hx hb hT zinX9 hown hK hP 0 rfl rfl 3 (by decide) zw625 rfl dX9_told_14 ?_
      refine lv_iload_n hx hb dX9_told_17 rfl (lv_at hl 3 rfl) ?_
      obtain ⟨b3, eb3, hm⟩ := Option.bind_eq_some_iff.mp hm
      refine zzald hx hb hK hP 3 2 rfl rfl eb3 dX9_told_18 ?_
      refine lv_if_eq (tgt := 26) hx hb dX9_told_19 (by decide) (fun h4 => ?_) (fun h4 => ?_)
      · rw [if_pos h4] at hm
        refine lv_iconst (v := (0 : Int32)) hx hb dX9_told_26 (by decide) ?_
        exact h27 v3_1 v2_1 (0 : Int32) hm _ _ _ hP hD hS (lv_sub hl [0, 1, 3] rfl)
      · rw [if_neg h4] at hm
        refine lv_iconst (v := (1 : Int32)) hx hb dX9_told_22 (by decide) ?_
        refine lv_goto (tgt := 27) hx hb dX9_told_23 (by decide) ?_
        exact h27 v3_1 v2_1 (1 : Int32) hm _ _ _ hP hD hS (lv_sub hl [0, 1, 3] rfl)
  have h35 : ∀ (v2_8 : Int32), m_X9_told_35 N σ v1 v2_8 = some r → ∀ (H : Heap) (locs : List Loc) (ls : Array Slot), va_P D zclM (zwM ad cI cJ cZ cO σ) H → va_D A (zwM ad cI cJ cZ cO σ) → va_S A s.heap H locs → lv_has ls 4 [(0, .ref (ad 0)), (1, .int v1), (2, .int v2_8)] → W p l e (zR 0 0) s m args below meth c H locs 0 0 Q (F0 m 35 ls []) := by
    intro v2_8 hm H locs ls hP hD hS hl
    unfold m_X9_told_35 at hm
    refine lv_iload_n hx hb dX9_told_35 rfl (lv_at hl 1 rfl) ?_
    refine lv_if_ne (tgt := 46) hx hb dX9_told_36 (by decide) (fun h9 => ?_) (fun h9 => ?_)
    · rw [if_neg h9] at hm
      refine lv_iload_n hx hb dX9_told_46 rfl (lv_at hl 1 rfl) ?_
      refine lv_iconst (v := (1 : Int32)) hx hb dX9_told_47 (by decide) ?_
      refine lv_icmp_ne (tgt := 55) hx hb dX9_told_48 (by decide) (fun h10 => ?_) (fun h10 => ?_)
      · rw [if_neg h10] at hm
        refine lv_iload_n hx hb dX9_told_55 rfl (lv_at hl 1 rfl) ?_
        refine lv_iconst (v := (2 : Int32)) hx hb dX9_told_56 (by decide) ?_
        refine lv_icmp_ne (tgt := 67) hx hb dX9_told_57 (by decide) (fun h11 => ?_) (fun h11 => ?_)
        · rw [if_neg h11] at hm
          refine lv_iload_n hx hb dX9_told_67 rfl (lv_at hl 1 rfl) ?_
          refine lv_iconst (v := (3 : Int32)) hx hb dX9_told_68 (by decide) ?_
          refine lv_icmp_ne (tgt := 79) hx hb dX9_told_69 (by decide) (fun h12 => ?_) (fun h12 => ?_)
          · rw [if_neg h12] at hm
            refine lv_ldc hx hb hown (hT _ zw750) dX9_told_79 ?_
            cases hm
            exact hret _ _ _ _ dX9_told_81 hP hD hS
          · rw [if_pos h12] at hm
            refine lv_aload_n hx hb dX9_told_72 rfl (lv_at hl 0 rfl) ?_
            refine zget (v := .int (σ.1 2)) hx hb hT zinX9 hown hK hP 0 rfl rfl 19 (by decide) zw641 rfl dX9_told_73 ?_
            refine lv_goto (tgt := 81) hx hb dX9_told_76 (by decide) ?_
            cases hm
            exact hret _ _ _ _ dX9_told_81 hP hD hS
        · rw [if_pos h11] at hm
          refine lv_aload_n hx hb dX9_told_60 rfl (lv_at hl 0 rfl) ?_
          refine zget (v := .int (σ.1 1)) hx hb hT zinX9 hown hK hP 0 rfl rfl 4 (by decide) zw626 rfl dX9_told_61 ?_
          refine lv_goto (tgt := 81) hx hb dX9_told_64 (by decide) ?_
          cases hm
          exact hret _ _ _ _ dX9_told_81 hP hD hS
      · rw [if_pos h10] at hm
        refine lv_iload_n hx hb dX9_told_51 rfl (lv_at hl 2 rfl) ?_
        refine lv_goto (tgt := 81) hx hb dX9_told_52 (by decide) ?_
        cases hm
        exact hret _ _ _ _ dX9_told_81 hP hD hS
    · rw [if_pos h9] at hm
      refine lv_aload_n hx hb dX9_told_39 rfl (lv_at hl 0 rfl) ?_
      refine zget (v := .int (σ.1 0)) hx hb hT zinX9 hown hK hP 0 rfl rfl 0 (by decide) zw622 rfl dX9_told_40 ?_
      refine lv_goto (tgt := 81) hx hb dX9_told_43 (by decide) ?_
      cases hm
      exact hret _ _ _ _ dX9_told_81 hP hD hS
  unfold m_X9_told at hm
  refine lv_iconst (v := (0 : Int32)) hx hb dX9_told_0 (by decide) ?_
  refine lv_istore_n (lv' := [(2, .int (0 : Int32)), (0, .ref (ad 0)), (1, .int v1)]) hx hb dX9_told_1 rfl hl (by decide) rfl (fun ls hl => ?_)
  refine lv_iconst (v := (0 : Int32)) hx hb dX9_told_2 (by decide) ?_
  refine lv_istore_n (lv' := [(3, .int (0 : Int32)), (2, .int (0 : Int32)), (0, .ref (ad 0)), (1, .int v1)]) hx hb dX9_told_3 rfl hl (by decide) rfl (fun ls hl => ?_)
  obtain ⟨v2_7, e13, hm⟩ := Option.bind_eq_some_iff.mp hm
  refine hL4  _ v2_7 e13 ?_ _ _ _ hP hD hS (lv_sub hl [2, 3, 1, 0] rfl)
  intro H locs ls hP hD hS hl
  try dsimp only at hP hD hl
  replace hm : m_X9_told_35 N σ v1 v2_7 = some r := hm
  exact h35 v2_7 hm _ _ _ hP hD hS (lv_sub hl [0, 1, 2] rfl)
