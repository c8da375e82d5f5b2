set_option maxHeartbeats 4000000 in
set_option maxRecDepth 100000 in
theorem k_X8_leaveAll {l : Launch} {D : va_G} {ad : Nat → Nat} {cI cJ cZ cO : ClassId} {t : Nat} {A : Nat → Prop} {N : Nat} {σ σ' : zS}    (hm : m_X8_leaveAll N σ = some σ') : zCv l yX8_leaveAll cX8_leaveAll 1 (none) (zR 3 63) D zclX (zty cI cJ cZ cO) t A (zwX ad cI cJ cZ cO) [.ref (ad 0)] σ σ' := by
  refine zMv (by decide) (Nat.le_of_ble_eq_true rfl) ?_
  intro p e s m args below meth c Q hx hb hml hown hT hK hZ hret hP hD hS ls hl
  replace hown : s.vm.findClass RX8 = some m.cls := hown
  replace hl : lv_has ls 1 [(0, .ref (ad 0))] := hl
  unfold m_X8_leaveAll at hm
  refine lv_aload_n hx hb dX8_leaveAll_0 rfl (lv_at hl 0 rfl) ?_
  refine zget (v := .ref (ad 2)) hx hb hT zinX8 hown hK hP 0 rfl rfl 1 (by decide) zw245 rfl dX8_leaveAll_1 ?_
  obtain ⟨σ1, eσ1, hm⟩ := Option.bind_eq_some_iff.mp hm
  refine zVv (rest := []) [] hx hb hml hl.1 hown hT (k_X3_widenWholly eσ1) zkX3_widenWholly zw275 ⟨by decide, by decide⟩ rfl rfl hK hZ hP hD hS 2 rfl rfl rfl rfl (Nat.le_of_ble_eq_true rfl) ⟨Nat.zero_le _, Nat.zero_le _⟩ dX8_leaveAll_4 (fun H locs hP hD hS => ?_)
  refine lv_aload_n hx hb dX8_leaveAll_7 rfl (lv_at hl 0 rfl) ?_
  refine lv_ldc hx hb hown (hT _ zw243) dX8_leaveAll_8 ?_
  obtain ⟨σ2, eσ2, hm⟩ := Option.bind_eq_some_iff.mp hm
  refine zput (j := 1) (ty := .int) hx hb hT zinX8 tyX8 tyX8_ok nmX8 hown hK hP hD hS 0 rfl rfl 6 (by decide) zw250 rfl (by decide +kernel) rfl rfl (Nat.le_of_ble_eq_true rfl) eσ2 rfl dX8_leaveAll_10 (fun H locs hP hD hS => ?_)
  cases hm
  exact hret _ _ _ _ dX8_leaveAll_13 hP hD hS
set_option maxHeartbeats 4000000 in
set_option maxRecDepth 100000 in
theorem k_X8_object {l : Launch} {D : va_G} {ad : Nat → Nat} {cI cJ cZ cO : ClassId} {t : Nat} {A : Nat → Prop} {N : Nat} {σ σ' : zS}  {r : Int32}  (hm : m_X8_object N σ = some (r, σ')) : zCi l yX8_object cX8_object 1 (some .int) (zR 4 83) D zclX (zty cI cJ cZ cO) t A (zwX ad cI cJ cZ cO) [.ref (ad 0)] σ σ' r := by
  refine zMi (by decide) (Nat.le_of_ble_eq_true rfl) ?_
  intro p e s m args below meth c Q hx hb hml hown hT hK hZ hret hP hD hS ls hl
  replace hown : s.vm.findClass RX8 = some m.cls := hown
  replace hl : lv_has ls 1 [(0, .ref (ad 0))] := hl
  unfold m_X8_object at hm
  refine lv_aload_n hx hb dX8_object_0 rfl (lv_at hl 0 rfl) ?_
  refine zget (v := .ref (ad 1)) hx hb hT zinX8 hown hK hP 0 rfl rfl 0 (by decide) zw244 rfl dX8_object_1 ?_
  refine zget (v := .int (σ.1 2)) hx hb hT zinX6 hown hK hP 1 rfl rfl 0 (by decide) zw78 rfl dX8_object_4 ?_
  refine lv_bipush (v := (120 : Int32)) hx hb dX8_object_7 (by decide) ?_
  refine lv_icmp_lt (tgt := 15) hx hb dX8_object_9 (by decide) (fun h1 => ?_) (fun h1 => ?_)
  · rw [if_pos h1] at hm
    refine lv_aload_n hx hb dX8_object_15 rfl (lv_at hl 0 rfl) ?_
    obtain ⟨σ2, eσ2, hm⟩ := Option.bind_eq_some_iff.mp hm
    refine zVv (rest := []) [] hx hb hml hl.1 hown hT (k_X8_leaveAll eσ2) zkX8_leaveAll zw271 ⟨by decide, by decide⟩ rfl rfl hK hZ hP hD hS 0 rfl rfl rfl rfl (Nat.le_of_ble_eq_true rfl) ⟨Nat.zero_le _, Nat.zero_le _⟩ dX8_object_16 (fun H locs hP hD hS => ?_)
    refine lv_aload_n hx hb dX8_object_19 rfl (lv_at hl 0 rfl) ?_
    refine zget (v := .ref (ad 1)) hx hb hT zinX8 hown hK hP 0 rfl rfl 0 (by decide) zw244 rfl dX8_object_20 ?_
    obtain ⟨⟨b3, σ5⟩, eb3, hm⟩ := Option.bind_eq_some_iff.mp hm
    try dsimp only at hm
    refine zVi (rest := []) [] hx hb hml hl.1 hown hT (k_X6_addObject eb3) zkX6_addObject zw286 ⟨by decide, by decide⟩ rfl rfl hK hZ hP hD hS 1 rfl rfl rfl rfl (Nat.le_of_ble_eq_true rfl) ⟨Nat.zero_le _, Nat.zero_le _⟩ dX8_object_23 (fun H locs hP hD hS => ?_)
    cases hm
    exact hret _ _ _ _ dX8_object_26 hP hD hS
  · rw [if_neg h1] at hm
    refine lv_ldc hx hb hown (hT _ zw270) dX8_object_12 ?_
    cases hm
    exact hret _ _ _ _ dX8_object_14 hP hD hS
set_option maxHeartbeats 4000000 in
set_option maxRecDepth 100000 in
theorem k_X8_isColumn {l : Launch} {D : va_G} {ad : Nat → Nat} {cI cJ cZ cO : ClassId} {t : Nat} {A : Nat → Prop} {N : Nat} {σ : zS} {v0 : Int32} {r : Int32}  (hm : m_X8_isColumn N σ v0 = some r) : zCi l yX8_isColumn cX8_isColumn 1 (some .boolean) (zR 0 0) D zclX (zty cI cJ cZ cO) t A (zwX ad cI cJ cZ cO) [.int v0] σ σ r := by
  refine zMz (by decide) (Nat.le_of_ble_eq_true rfl) ?_
  intro p e s m args below meth c Q hx hb hml hown hT hK hZ hret hP hD hS ls hl
  replace hown : s.vm.findClass RX8 = some m.cls := hown
  replace hl : lv_has ls 1 [(0, .int v0)] := hl
  unfold m_X8_isColumn at hm
  refine lv_iload_n hx hb dX8_isColumn_0 rfl (lv_at hl 0 rfl) ?_
  refine lv_if_lt (tgt := 14) hx hb dX8_isColumn_1 (by decide) (fun h1 => ?_) (fun h1 => ?_)
  · rw [if_pos h1] at hm
    refine lv_iconst (v := (0 : Int32)) hx hb dX8_isColumn_14 (by decide) ?_
    cases hm
    exact hret _ _ _ _ (by decide) dX8_isColumn_15 hP hD hS
  · rw [if_neg h1] at hm
    refine lv_iload_n hx hb dX8_isColumn_4 rfl (lv_at hl 0 rfl) ?_
    refine lv_bipush (v := (6 : Int32)) hx hb dX8_isColumn_5 (by decide) ?_
    refine lv_icmp_ge (tgt := 14) hx hb dX8_isColumn_7 (by decide) (fun h2 => ?_) (fun h2 => ?_)
    · rw [if_pos h2] at hm
      refine lv_iconst (v := (0 : Int32)) hx hb dX8_isColumn_14 (by decide) ?_
      cases hm
      exact hret _ _ _ _ (by decide) dX8_isColumn_15 hP hD hS
    · rw [if_neg h2] at hm
      refine lv_iconst (v := (1 : Int32)) hx hb dX8_isColumn_10 (by decide) ?_
      refine lv_goto (tgt := 15) hx hb dX8_isColumn_11 (by decide) ?_
      cases hm
      exact hret _ _ _ _ (by decide) dX8_isColumn_15 hP hD hS
set_option maxHeartbeats 4000000 in
set_option maxRecDepth 100000 in
theorem k_X8_isValue {l : Launch} {D : va_G} {ad : Nat → Nat} {cI cJ cZ cO : ClassId} {t : Nat} {A : Nat → Prop} {N : Nat} {σ : zS} {v0 : Int32} {r : Int32}  (hm : m_X8_isValue N σ v0 = some r) : zCi l yX8_isValue cX8_isValue 1 (some .boolean) (zR 0 0) D zclX (zty cI cJ cZ cO) t A (zwX ad cI cJ cZ cO) [.int v0] σ σ r := by
  refine zMz (by decide) (Nat.le_of_ble_eq_true rfl) ?_
  intro p e s m args below meth c Q hx hb hml hown hT hK hZ hret hP hD hS ls hl
  replace hown : s.vm.findClass RX8 = some m.cls := hown
  replace hl : lv_has ls 1 [(0, .int v0)] := hl
  unfold m_X8_isValue at hm
  refine lv_iload_n hx hb dX8_isValue_0 rfl (lv_at hl 0 rfl) ?_
  refine lv_ldc hx hb hown (hT _ zw304) dX8_isValue_1 ?_
  refine lv_icmp_lt (tgt := 16) hx hb dX8_isValue_3 (by decide) (fun h1 => ?_) (fun h1 => ?_)
  · rw [if_pos h1] at hm
    refine lv_iconst (v := (0 : Int32)) hx hb dX8_isValue_16 (by decide) ?_
    cases hm
    exact hret _ _ _ _ (by decide) dX8_isValue_17 hP hD hS
  · rw [if_neg h1] at hm
    refine lv_iload_n hx hb dX8_isValue_6 rfl (lv_at hl 0 rfl) ?_
    refine lv_ldc hx hb hown (hT _ zw305) dX8_isValue_7 ?_
    refine lv_icmp_gt (tgt := 16) hx hb dX8_isValue_9 (by decide) (fun h2 => ?_) (fun h2 => ?_)
    · rw [if_pos h2] at hm
      refine lv_iconst (v := (0 : Int32)) hx hb dX8_isValue_16 (by decide) ?_
      cases hm
      exact hret _ _ _ _ (by decide) dX8_isValue_17 hP hD hS
    · rw [if_neg h2] at hm
      refine lv_iconst (v := (1 : Int32)) hx hb dX8_isValue_12 (by decide) ?_
      refine lv_goto (tgt := 17) hx hb dX8_isValue_13 (by decide) ?_
      cases hm
      exact hret _ _ _ _ (by decide) dX8_isValue_17 hP hD hS
set_option maxHeartbeats 4000000 in
set_option maxRecDepth 100000 in
theorem k_X8_value {l : Launch} {D : va_G} {ad : Nat → Nat} {cI cJ cZ cO : ClassId} {t : Nat} {A : Nat → Prop} {N : Nat} {σ σ' : zS} {v1 : Int32} {v2 : Int32} {v3 : Int32} {r : Int32}  (hm : m_X8_value N σ v1 v2 v3 = some (r, σ')) : zCi l yX8_value cX8_value 4 (some .int) (zR 4 83) D zclX (zty cI cJ cZ cO) t A (zwX ad cI cJ cZ cO) [.ref (ad 0), .int v1, .int v2, .int v3] σ σ' r := by
  refine zMi (by decide) (Nat.le_of_ble_eq_true rfl) ?_
  intro p e s m args below meth c Q hx hb hml hown hT hK hZ hret hP hD hS ls hl
  replace hown : s.vm.findClass RX8 = some m.cls := hown
  replace hl : lv_has ls 4 [(0, .ref (ad 0)), (1, .int v1), (2, .int v2), (3, .int v3)] := hl
  unfold m_X8_value at hm
  refine lv_aload_n hx hb dX8_value_0 rfl (lv_at hl 0 rfl) ?_
  refine zget (v := .ref (ad 1)) hx hb hT zinX8 hown hK hP 0 rfl rfl 0 (by decide) zw244 rfl dX8_value_1 ?_
  refine lv_iload_n hx hb dX8_value_4 rfl (lv_at hl 1 rfl) ?_
  obtain ⟨b1, eb1, hm⟩ := Option.bind_eq_some_iff.mp hm
  refine zVi (rest := []) [.int v1] hx hb hml hl.1 hown hT (k_X6_has eb1) zkX6_has zw294 ⟨by decide, by decide⟩ rfl rfl hK hZ hP hD hS 1 rfl rfl rfl rfl (Nat.le_of_ble_eq_true rfl) ⟨Nat.zero_le _, Nat.zero_le _⟩ dX8_value_5 (fun H locs hP hD hS => ?_)
  refine lv_if_eq (tgt := 25) hx hb dX8_value_8 (by decide) (fun h2 => ?_) (fun h2 => ?_)
  · rw [if_pos h2] at hm
    refine lv_ldc hx hb hown (hT _ zw306) dX8_value_25 ?_
    cases hm
    exact hret _ _ _ _ dX8_value_27 hP hD hS
  · rw [if_neg h2] at hm
    refine lv_iload_n hx hb dX8_value_11 rfl (lv_at hl 2 rfl) ?_
    obtain ⟨b3, eb3, hm⟩ := Option.bind_eq_some_iff.mp hm
    refine zSi (rest := []) [.int v2] hx hb hml hl.1 hown hT (k_X8_isColumn eb3) zkX8_isColumn zw298 ⟨by decide, by decide⟩ rfl rfl hK hZ hP hD hS rfl rfl (Nat.le_of_ble_eq_true rfl) ⟨Nat.zero_le _, Nat.zero_le _⟩ dX8_value_12 (fun H locs hP hD hS => ?_)
    refine lv_if_eq (tgt := 25) hx hb dX8_value_15 (by decide) (fun h4 => ?_) (fun h4 => ?_)
    · rw [if_pos h4] at hm
      refine lv_ldc hx hb hown (hT _ zw306) dX8_value_25 ?_
      cases hm
      exact hret _ _ _ _ dX8_value_27 hP hD hS
    · rw [if_neg h4] at hm
      refine lv_iload_n hx hb dX8_value_18 rfl (lv_at hl 3 rfl) ?_
      obtain ⟨b5, eb5, hm⟩ := Option.bind_eq_some_iff.mp hm
      refine zSi (rest := []) [.int v3] hx hb hml hl.1 hown hT (k_X8_isValue eb5) zkX8_isValue zw301 ⟨by decide, by decide⟩ rfl rfl hK hZ hP hD hS rfl rfl (Nat.le_of_ble_eq_true rfl) ⟨Nat.zero_le _, Nat.zero_le _⟩ dX8_value_19 (fun H locs hP hD hS => ?_)
      refine lv_if_ne (tgt := 28) hx hb dX8_value_22 (by decide) (fun h6 => ?_) (fun h6 => ?_)
      · rw [if_neg h6] at hm
        refine lv_aload_n hx hb dX8_value_28 rfl (lv_at hl 0 rfl) ?_
        refine zget (v := .ref (ad 1)) hx hb hT zinX8 hown hK hP 0 rfl rfl 0 (by decide) zw244 rfl dX8_value_29 ?_
        refine lv_iload_n hx hb dX8_value_32 rfl (lv_at hl 1 rfl) ?_
        refine lv_iload_n hx hb dX8_value_33 rfl (lv_at hl 2 rfl) ?_
        obtain ⟨b7, eb7, hm⟩ := Option.bind_eq_some_iff.mp hm
        refine zVi (rest := []) [.int v1, .int v2] hx hb hml hl.1 hown hT (k_X6_valueCount eb7) zkX6_valueCount zw307 ⟨by decide, by decide⟩ rfl rfl hK hZ hP hD hS 1 rfl rfl rfl rfl (Nat.le_of_ble_eq_true rfl) ⟨Nat.zero_le _, Nat.zero_le _⟩ dX8_value_34 (fun H locs hP hD hS => ?_)
        refine lv_iconst (v := (3 : Int32)) hx hb dX8_value_37 (by decide) ?_
        refine lv_icmp_lt (tgt := 44) hx hb dX8_value_38 (by decide) (fun h8 => ?_) (fun h8 => ?_)
        · rw [if_pos h8] at hm
          refine lv_aload_n hx hb dX8_value_44 rfl (lv_at hl 0 rfl) ?_
          obtain ⟨σ9, eσ9, hm⟩ := Option.bind_eq_some_iff.mp hm
          refine zVv (rest := []) [] hx hb hml hl.1 hown hT (k_X8_leaveAll eσ9) zkX8_leaveAll zw271 ⟨by decide, by decide⟩ rfl rfl hK hZ hP hD hS 0 rfl rfl rfl rfl (Nat.le_of_ble_eq_true rfl) ⟨Nat.zero_le _, Nat.zero_le _⟩ dX8_value_45 (fun H locs hP hD hS => ?_)
          refine lv_aload_n hx hb dX8_value_48 rfl (lv_at hl 0 rfl) ?_
          refine zget (v := .ref (ad 1)) hx hb hT zinX8 hown hK hP 0 rfl rfl 0 (by decide) zw244 rfl dX8_value_49 ?_
          refine lv_iload_n hx hb dX8_value_52 rfl (lv_at hl 1 rfl) ?_
          refine lv_iload_n hx hb dX8_value_53 rfl (lv_at hl 2 rfl) ?_
          refine lv_iload_n hx hb dX8_value_54 rfl (lv_at hl 3 rfl) ?_
          obtain ⟨⟨b10, σ12⟩, eb10, hm⟩ := Option.bind_eq_some_iff.mp hm
          try dsimp only at hm
          refine zVi (rest := []) [.int v1, .int v2, .int v3] hx hb hml hl.1 hown hT (k_X6_addValue eb10) zkX6_addValue zw311 ⟨by decide, by decide⟩ rfl rfl hK hZ hP hD hS 1 rfl rfl rfl rfl (Nat.le_of_ble_eq_true rfl) ⟨Nat.zero_le _, Nat.zero_le _⟩ dX8_value_55 (fun H locs hP hD hS => ?_)
          cases hm
          exact hret _ _ _ _ dX8_value_58 hP hD hS
        · rw [if_neg h8] at hm
          refine lv_ldc hx hb hown (hT _ zw270) dX8_value_41 ?_
          cases hm
          exact hret _ _ _ _ dX8_value_43 hP hD hS
      · rw [if_pos h6] at hm
        refine lv_ldc hx hb hown (hT _ zw306) dX8_value_25 ?_
        cases hm
        exact hret _ _ _ _ dX8_value_27 hP hD hS
set_option maxHeartbeats 4000000 in
set_option maxRecDepth 100000 in
theorem k_X8_match {l : Launch} {D : va_G} {ad : Nat → Nat} {cI cJ cZ cO : ClassId} {t : Nat} {A : Nat → Prop} {N : Nat} {σ σ' : zS} {v1 : Int32} {v2 : Int32} {r : Int32}  (hm : m_X8_match N σ v1 v2 = some (r, σ')) : zCi l yX8_match cX8_match 4 (some .int) (zR 4 83) D zclX (zty cI cJ cZ cO) t A (zwX ad cI cJ cZ cO) [.ref (ad 0), .int v1, .int v2] σ σ' r := by
  refine zMi (by decide) (Nat.le_of_ble_eq_true rfl) ?_
  intro p e s m args below meth c Q hx hb hml hown hT hK hZ hret hP hD hS ls hl
  replace hown : s.vm.findClass RX8 = some m.cls := hown
  replace hl : lv_has ls 4 [(0, .ref (ad 0)), (1, .int v1), (2, .int v2)] := hl
  unfold m_X8_match at hm
  refine lv_aload_n hx hb dX8_match_0 rfl (lv_at hl 0 rfl) ?_
  refine zget (v := .ref (ad 1)) hx hb hT zinX8 hown hK hP 0 rfl rfl 0 (by decide) zw244 rfl dX8_match_1 ?_
  refine lv_iload_n hx hb dX8_match_4 rfl (lv_at hl 1 rfl) ?_
  obtain ⟨b1, eb1, hm⟩ := Option.bind_eq_some_iff.mp hm
  refine zVi (rest := []) [.int v1] hx hb hml hl.1 hown hT (k_X6_has eb1) zkX6_has zw294 ⟨by decide, by decide⟩ rfl rfl hK hZ hP hD hS 1 rfl rfl rfl rfl (Nat.le_of_ble_eq_true rfl) ⟨Nat.zero_le _, Nat.zero_le _⟩ dX8_match_5 (fun H locs hP hD hS => ?_)
  refine lv_if_ne (tgt := 14) hx hb dX8_match_8 (by decide) (fun h2 => ?_) (fun h2 => ?_)
  · rw [if_neg h2] at hm
    refine lv_aload_n hx hb dX8_match_14 rfl (lv_at hl 0 rfl) ?_
    obtain ⟨σ3, eσ3, hm⟩ := Option.bind_eq_some_iff.mp hm
    refine zVv (rest := []) [] hx hb hml hl.1 hown hT (k_X8_leaveAll eσ3) zkX8_leaveAll zw271 ⟨by decide, by decide⟩ rfl rfl hK hZ hP hD hS 0 rfl rfl rfl rfl (Nat.le_of_ble_eq_true rfl) ⟨Nat.zero_le _, Nat.zero_le _⟩ dX8_match_15 (fun H locs hP hD hS => ?_)
    refine lv_aload_n hx hb dX8_match_18 rfl (lv_at hl 0 rfl) ?_
    refine zget (v := .ref (ad 1)) hx hb hT zinX8 hown hK hP 0 rfl rfl 0 (by decide) zw244 rfl dX8_match_19 ?_
    refine zget (v := .ref (ad 8)) hx hb hT zinX6 hown hK hP 1 rfl rfl 1 (by decide) zw82 rfl dX8_match_22 ?_
    refine lv_iload_n hx hb dX8_match_25 rfl (lv_at hl 1 rfl) ?_
    obtain ⟨b4, eb4, hm⟩ := Option.bind_eq_some_iff.mp hm
    refine zzald hx hb hK hP 8 2 rfl rfl eb4 dX8_match_26 ?_
    refine lv_istore_n (lv' := [(3, .int b4), (0, .ref (ad 0)), (1, .int v1), (2, .int v2)]) hx hb dX8_match_27 rfl hl (by decide) rfl (fun ls hl => ?_)
    refine lv_aload_n hx hb dX8_match_28 rfl (lv_at hl 1 rfl) ?_
    refine zget (v := .ref (ad 1)) hx hb hT zinX8 hown hK hP 0 rfl rfl 0 (by decide) zw244 rfl dX8_match_29 ?_
    refine zget (v := .ref (ad 8)) hx hb hT zinX6 hown hK hP 1 rfl rfl 1 (by decide) zw82 rfl dX8_match_32 ?_
    refine lv_iload_n hx hb dX8_match_35 rfl (lv_at hl 2 rfl) ?_
    refine lv_iload_n hx hb dX8_match_36 rfl (lv_at hl 3 rfl) ?_
    obtain ⟨b5, eb5, hm⟩ := Option.bind_eq_some_iff.mp hm
    obtain ⟨rfl, hzb5, hwb5, hfb5⟩ := zcz_all eb5
    obtain ⟨σ6, eσ6, hm⟩ := Option.bind_eq_some_iff.mp hm
    refine zzast (j := 0) hx hb hK hP hD hS 8 2 rfl rfl eσ6 hwb5 (fun _ => rfl) dX8_match_37 (fun H locs hP hD hS => ?_)
    refine lv_iload_n hx hb dX8_match_38 rfl (lv_at hl 0 rfl) ?_
    refine lv_if_eq (tgt := 46) hx hb dX8_match_39 (by decide) (fun h7 => ?_) (fun h7 => ?_)
    · rw [if_pos h7] at hm
      refine lv_iconst (v := (0 : Int32)) hx hb dX8_match_46 (by decide) ?_
      cases hm
      exact hret _ _ _ _ dX8_match_47 hP hD hS
    · rw [if_neg h7] at hm
      refine lv_iconst (v := (1 : Int32)) hx hb dX8_match_42 (by decide) ?_
      refine lv_goto (tgt := 47) hx hb dX8_match_43 (by decide) ?_
      cases hm
      exact hret _ _ _ _ dX8_match_47 hP hD hS
  · rw [if_pos h2] at hm
    refine lv_ldc hx hb hown (hT _ zw306) dX8_match_11 ?_
    cases hm
    exact hret _ _ _ _ dX8_match_13 hP hD hS
set_option maxHeartbeats 4000000 in
set_option maxRecDepth 100000 in
theorem k_X8_clear {l : Launch} {D : va_G} {ad : Nat → Nat} {cI cJ cZ cO : ClassId} {t : Nat} {A : Nat → Prop} {N : Nat} {σ σ' : zS}  {r : Int32}  (hm : m_X8_clear N σ = some (r, σ')) : zCi l yX8_clear cX8_clear 2 (some .int) (zR 4 83) D zclX (zty cI cJ cZ cO) t A (zwX ad cI cJ cZ cO) [.ref (ad 0)] σ σ' r := by
  refine zMi (by decide) (Nat.le_of_ble_eq_true rfl) ?_
  intro p e s m args below meth c Q hx hb hml hown hT hK hZ hret hP hD hS ls hl
  replace hown : s.vm.findClass RX8 = some m.cls := hown
  replace hl : lv_has ls 2 [(0, .ref (ad 0))] := hl
  unfold m_X8_clear at hm
  refine lv_aload_n hx hb dX8_clear_0 rfl (lv_at hl 0 rfl) ?_
  refine zget (v := .ref (ad 1)) hx hb hT zinX8 hown hK hP 0 rfl rfl 0 (by decide) zw244 rfl dX8_clear_1 ?_
  refine zget (v := .int (σ.1 2)) hx hb hT zinX6 hown hK hP 1 rfl rfl 0 (by decide) zw78 rfl dX8_clear_4 ?_
  refine lv_istore_n (lv' := [(1, .int (σ.1 2)), (0, .ref (ad 0))]) hx hb dX8_clear_7 rfl hl (by decide) rfl (fun ls hl => ?_)
  refine lv_aload_n hx hb dX8_clear_8 rfl (lv_at hl 1 rfl) ?_
  obtain ⟨σ1, eσ1, hm⟩ := Option.bind_eq_some_iff.mp hm
  refine zVv (rest := []) [] hx hb hml hl.1 hown hT (k_X8_leaveAll eσ1) zkX8_leaveAll zw271 ⟨by decide, by decide⟩ rfl rfl hK hZ hP hD hS 0 rfl rfl rfl rfl (Nat.le_of_ble_eq_true rfl) ⟨Nat.zero_le _, Nat.zero_le _⟩ dX8_clear_9 (fun H locs hP hD hS => ?_)
  refine lv_aload_n hx hb dX8_clear_12 rfl (lv_at hl 1 rfl) ?_
  refine zget (v := .ref (ad 1)) hx hb hT zinX8 hown hK hP 0 rfl rfl 0 (by decide) zw244 rfl dX8_clear_13 ?_
  refine lv_iconst (v := (0 : Int32)) hx hb dX8_clear_16 (by decide) ?_
  obtain ⟨σ2, eσ2, hm⟩ := Option.bind_eq_some_iff.mp hm
  refine zput (j := 2) (ty := .int) hx hb hT zinX6 tyX6 tyX6_ok nmX6 hown hK hP hD hS 1 rfl rfl 0 (by decide) zw78 rfl (by decide +kernel) rfl rfl (Nat.le_of_ble_eq_true rfl) eσ2 rfl dX8_clear_17 (fun H locs hP hD hS => ?_)
  refine lv_aload_n hx hb dX8_clear_20 rfl (lv_at hl 1 rfl) ?_
  refine lv_iconst (v := (0 : Int32)) hx hb dX8_clear_21 (by decide) ?_
  obtain ⟨σ3, eσ3, hm⟩ := Option.bind_eq_some_iff.mp hm
  refine zput (j := 0) (ty := .int) hx hb hT zinX8 tyX8 tyX8_ok nmX8 hown hK hP hD hS 0 rfl rfl 5 (by decide) zw249 rfl (by decide +kernel) rfl rfl (Nat.le_of_ble_eq_true rfl) eσ3 rfl dX8_clear_22 (fun H locs hP hD hS => ?_)
  refine lv_iload_n hx hb dX8_clear_25 rfl (lv_at hl 0 rfl) ?_
  cases hm
  exact hret _ _ _ _ dX8_clear_26 hP hD hS
set_option maxHeartbeats 4000000 in
set_option maxRecDepth 100000 in
theorem k_X8_facet {l : Launch} {D : va_G} {ad : Nat → Nat} {cI cJ cZ cO : ClassId} {t : Nat} {A : Nat → Prop} {N : Nat} {σ σ' : zS} {v1 : Int32} {v2 : Int32} {v3 : Int32} {v4 : Int32} {r : Int32}  (hm : m_X8_facet N σ v1 v2 v3 v4 = some (r, σ')) : zCi l yX8_facet cX8_facet 5 (some .int) (zR 4 83) D zclX (zty cI cJ cZ cO) t A (zwX ad cI cJ cZ cO) [.ref (ad 0), .int v1, .int v2, .int v3, .int v4] σ σ' r := by
  refine zMi (by decide) (Nat.le_of_ble_eq_true rfl) ?_
  intro p e s m args below meth c Q hx hb hml hown hT hK hZ hret hP hD hS ls hl
  replace hown : s.vm.findClass RX8 = some m.cls := hown
  replace hl : lv_has ls 5 [(0, .ref (ad 0)), (1, .int v1), (2, .int v2), (3, .int v3), (4, .int v4)] := hl
  have h66 : ∀ (σ8 : zS), m_X8_facet_66 N v1 v2 v3 v4 σ8 = some (r, σ') → ∀ (H : Heap) (locs : List Loc) (ls : Array Slot), va_P D zclX (zwX ad cI cJ cZ cO σ8) H → va_D A (zwX ad cI cJ cZ cO σ8) → va_S A s.heap H locs → lv_has ls 5 [(0, .ref (ad 0)), (1, .int v1), (2, .int v2), (3, .int v3), (4, .int v4)] → W p l e (zR 4 83) s m args below meth c H locs 0 0 Q (F0 m 66 ls []) := by
    intro σ8 hm H locs ls hP hD hS hl
    unfold m_X8_facet_66 at hm
    refine lv_aload_n hx hb dX8_facet_66 rfl (lv_at hl 0 rfl) ?_
    refine zget (v := .int (σ8.1 0)) hx hb hT zinX8 hown hK hP 0 rfl rfl 5 (by decide) zw249 rfl dX8_facet_67 ?_
    refine lv_bipush (v := (10 : Int32)) hx hb dX8_facet_70 (by decide) ?_
    refine lv_icmp_lt (tgt := 78) hx hb dX8_facet_72 (by decide) (fun h9 => ?_) (fun h9 => ?_)
    · rw [if_pos h9] at hm
      refine lv_aload_n hx hb dX8_facet_78 rfl (lv_at hl 0 rfl) ?_
      obtain ⟨σ10, eσ10, hm⟩ := Option.bind_eq_some_iff.mp hm
      refine zVv (rest := []) [] hx hb hml hl.1 hown hT (k_X8_leaveAll eσ10) zkX8_leaveAll zw271 ⟨by decide, by decide⟩ rfl rfl hK hZ hP hD hS 0 rfl rfl rfl rfl (Nat.le_of_ble_eq_true rfl) ⟨Nat.zero_le _, Nat.zero_le _⟩ dX8_facet_79 (fun H locs hP hD hS => ?_)
      refine lv_aload_n hx hb dX8_facet_82 rfl (lv_at hl 0 rfl) ?_
      refine zget (v := .ref (ad 3)) hx hb hT zinX8 hown hK hP 0 rfl rfl 2 (by decide) zw246 rfl dX8_facet_83 ?_
      refine lv_aload_n hx hb dX8_facet_86 rfl (lv_at hl 0 rfl) ?_
      refine zget (v := .int (σ10.1 0)) hx hb hT zinX8 hown hK hP 0 rfl rfl 5 (by decide) zw249 rfl dX8_facet_87 ?_
      obtain ⟨k11, ek11, hm⟩ := Option.bind_eq_some_iff.mp hm
      have hk11 : k11 < 10 := zrd_lt ek11
      refine zaald hx hb hK hP 3 3 rfl rfl ek11 dX8_facet_90 ?_
      refine lv_iload_n hx hb dX8_facet_91 rfl (lv_at hl 1 rfl) ?_
      refine lv_iload_n hx hb dX8_facet_92 rfl (lv_at hl 2 rfl) ?_
      refine lv_iload_n hx hb dX8_facet_93 rfl (lv_at hl 3 rfl) ?_
      refine lv_iload hx hb dX8_facet_94 (lv_at hl 4 rfl) ?_
      obtain ⟨σ12, eσ12, hm⟩ := Option.bind_eq_some_iff.mp hm
      refine zVv (rest := []) [.int v1, .int v2, .int v3, .int v4] hx hb hml hl.1 hown hT (k_X1_startOver hk11 eσ12) zkX1_startOver zw328 ⟨by decide, by decide⟩ rfl rfl hK hZ hP hD hS (20 + k11) (zF_obj hk11) rfl rfl rfl (Nat.le_of_ble_eq_true rfl) ⟨Nat.zero_le _, Nat.zero_le _⟩ dX8_facet_96 (fun H locs hP hD hS => ?_)
      refine lv_aload_n hx hb dX8_facet_99 rfl (lv_at hl 0 rfl) ?_
      refine lv_dup hx hb dX8_facet_100 rfl ?_
      refine zget (v := .int (σ12.1 0)) hx hb hT zinX8 hown hK hP 0 rfl rfl 5 (by decide) zw249 rfl dX8_facet_101 ?_
      refine lv_iconst (v := (1 : Int32)) hx hb dX8_facet_104 (by decide) ?_
      refine lv_iadd hx hb dX8_facet_105 ?_
      obtain ⟨σ13, eσ13, hm⟩ := Option.bind_eq_some_iff.mp hm
      refine zput (j := 0) (ty := .int) hx hb hT zinX8 tyX8 tyX8_ok nmX8 hown hK hP hD hS 0 rfl rfl 5 (by decide) zw249 rfl (by decide +kernel) rfl rfl (Nat.le_of_ble_eq_true rfl) eσ13 rfl dX8_facet_106 (fun H locs hP hD hS => ?_)
      refine lv_aload_n hx hb dX8_facet_109 rfl (lv_at hl 0 rfl) ?_
      refine zget (v := .int (σ13.1 0)) hx hb hT zinX8 hown hK hP 0 rfl rfl 5 (by decide) zw249 rfl dX8_facet_110 ?_
      refine lv_iconst (v := (1 : Int32)) hx hb dX8_facet_113 (by decide) ?_
      refine lv_isub hx hb dX8_facet_114 ?_
      cases hm
      exact hret _ _ _ _ dX8_facet_115 hP hD hS
    · rw [if_neg h9] at hm
      refine lv_ldc hx hb hown (hT _ zw270) dX8_facet_75 ?_
      cases hm
      exact hret _ _ _ _ dX8_facet_77 hP hD hS
  have h49 : ∀ (σ6 : zS), m_X8_facet_49 N v1 v2 v3 v4 σ6 = some (r, σ') → ∀ (H : Heap) (locs : List Loc) (ls : Array Slot), va_P D zclX (zwX ad cI cJ cZ cO σ6) H → va_D A (zwX ad cI cJ cZ cO σ6) → va_S A s.heap H locs → lv_has ls 5 [(0, .ref (ad 0)), (1, .int v1), (2, .int v2), (3, .int v3), (4, .int v4)] → W p l e (zR 4 83) s m args below meth c H locs 0 0 Q (F0 m 49 ls []) := by
    intro σ6 hm H locs ls hP hD hS hl
    unfold m_X8_facet_49 at hm
    refine lv_iload_n hx hb dX8_facet_49 rfl (lv_at hl 1 rfl) ?_
    refine lv_iconst (v := (4 : Int32)) hx hb dX8_facet_50 (by decide) ?_
    refine lv_icmp_ne (tgt := 66) hx hb dX8_facet_51 (by decide) (fun h7 => ?_) (fun h7 => ?_)
    · rw [if_neg h7] at hm
      exact h66 σ6 hm _ _ _ hP hD hS (lv_sub hl [0, 1, 2, 3, 4] rfl)
    · rw [if_pos h7] at hm
      refine lv_iload_n hx hb dX8_facet_54 rfl (lv_at hl 3 rfl) ?_
      refine lv_if_lt (tgt := 63) hx hb dX8_facet_55 (by decide) (fun h14 => ?_) (fun h14 => ?_)
      · rw [if_pos h14] at hm
        refine lv_ldc hx hb hown (hT _ zw306) dX8_facet_63 ?_
        cases hm
        exact hret _ _ _ _ dX8_facet_65 hP hD hS
      · rw [if_neg h14] at hm
        refine lv_iload_n hx hb dX8_facet_58 rfl (lv_at hl 3 rfl) ?_
        refine lv_iconst (v := (4 : Int32)) hx hb dX8_facet_59 (by decide) ?_
        refine lv_icmp_le (tgt := 66) hx hb dX8_facet_60 (by decide) (fun h15 => ?_) (fun h15 => ?_)
        · rw [if_pos h15] at hm
          exact h66 σ6 hm _ _ _ hP hD hS (lv_sub hl [0, 1, 2, 3, 4] rfl)
        · rw [if_neg h15] at hm
          refine lv_ldc hx hb hown (hT _ zw306) dX8_facet_63 ?_
          cases hm
          exact hret _ _ _ _ dX8_facet_65 hP hD hS
  unfold m_X8_facet at hm
  refine lv_iload_n hx hb dX8_facet_0 rfl (lv_at hl 1 rfl) ?_
  refine lv_if_lt (tgt := 16) hx hb dX8_facet_1 (by decide) (fun h1 => ?_) (fun h1 => ?_)
  · rw [if_pos h1] at hm
    refine lv_ldc hx hb hown (hT _ zw306) dX8_facet_16 ?_
    cases hm
    exact hret _ _ _ _ dX8_facet_18 hP hD hS
  · rw [if_neg h1] at hm
    refine lv_iload_n hx hb dX8_facet_4 rfl (lv_at hl 1 rfl) ?_
    refine lv_iconst (v := (4 : Int32)) hx hb dX8_facet_5 (by decide) ?_
    refine lv_icmp_gt (tgt := 16) hx hb dX8_facet_6 (by decide) (fun h2 => ?_) (fun h2 => ?_)
    · rw [if_pos h2] at hm
      refine lv_ldc hx hb hown (hT _ zw306) dX8_facet_16 ?_
      cases hm
      exact hret _ _ _ _ dX8_facet_18 hP hD hS
    · rw [if_neg h2] at hm
      refine lv_iload_n hx hb dX8_facet_9 rfl (lv_at hl 2 rfl) ?_
      obtain ⟨b3, eb3, hm⟩ := Option.bind_eq_some_iff.mp hm
      refine zSi (rest := []) [.int v2] hx hb hml hl.1 hown hT (k_X8_isColumn eb3) zkX8_isColumn zw298 ⟨by decide, by decide⟩ rfl rfl hK hZ hP hD hS rfl rfl (Nat.le_of_ble_eq_true rfl) ⟨Nat.zero_le _, Nat.zero_le _⟩ dX8_facet_10 (fun H locs hP hD hS => ?_)
      refine lv_if_ne (tgt := 19) hx hb dX8_facet_13 (by decide) (fun h4 => ?_) (fun h4 => ?_)
      · rw [if_neg h4] at hm
        refine lv_iload_n hx hb dX8_facet_19 rfl (lv_at hl 1 rfl) ?_
        refine lv_iconst (v := (3 : Int32)) hx hb dX8_facet_20 (by decide) ?_
        refine lv_icmp_ne (tgt := 49) hx hb dX8_facet_21 (by decide) (fun h5 => ?_) (fun h5 => ?_)
        · rw [if_neg h5] at hm
          exact h49 σ hm _ _ _ hP hD hS (lv_sub hl [0, 1, 2, 3, 4] rfl)
        · rw [if_pos h5] at hm
          refine lv_iload_n hx hb dX8_facet_24 rfl (lv_at hl 3 rfl) ?_
          refine lv_iconst (v := (1 : Int32)) hx hb dX8_facet_25 (by decide) ?_
          refine lv_icmp_lt (tgt := 46) hx hb dX8_facet_26 (by decide) (fun h16 => ?_) (fun h16 => ?_)
          · rw [if_pos h16] at hm
            refine lv_ldc hx hb hown (hT _ zw306) dX8_facet_46 ?_
            cases hm
            exact hret _ _ _ _ dX8_facet_48 hP hD hS
          · rw [if_neg h16] at hm
            refine lv_iload_n hx hb dX8_facet_29 rfl (lv_at hl 3 rfl) ?_
            refine lv_ldc hx hb hown (hT _ zw327) dX8_facet_30 ?_
            refine lv_icmp_gt (tgt := 46) hx hb dX8_facet_32 (by decide) (fun h17 => ?_) (fun h17 => ?_)
            · rw [if_pos h17] at hm
              refine lv_ldc hx hb hown (hT _ zw306) dX8_facet_46 ?_
              cases hm
              exact hret _ _ _ _ dX8_facet_48 hP hD hS
            · rw [if_neg h17] at hm
              refine lv_iload hx hb dX8_facet_35 (lv_at hl 4 rfl) ?_
              refine lv_if_lt (tgt := 46) hx hb dX8_facet_37 (by decide) (fun h18 => ?_) (fun h18 => ?_)
              · rw [if_pos h18] at hm
                refine lv_ldc hx hb hown (hT _ zw306) dX8_facet_46 ?_
                cases hm
                exact hret _ _ _ _ dX8_facet_48 hP hD hS
              · rw [if_neg h18] at hm
                refine lv_iload hx hb dX8_facet_40 (lv_at hl 4 rfl) ?_
                refine lv_iload_n hx hb dX8_facet_42 rfl (lv_at hl 3 rfl) ?_
                refine lv_icmp_lt (tgt := 49) hx hb dX8_facet_43 (by decide) (fun h19 => ?_) (fun h19 => ?_)
                · rw [if_pos h19] at hm
                  exact h49 σ hm _ _ _ hP hD hS (lv_sub hl [0, 1, 2, 3, 4] rfl)
                · rw [if_neg h19] at hm
                  refine lv_ldc hx hb hown (hT _ zw306) dX8_facet_46 ?_
                  cases hm
                  exact hret _ _ _ _ dX8_facet_48 hP hD hS
      · rw [if_pos h4] at hm
        refine lv_ldc hx hb hown (hT _ zw306) dX8_facet_16 ?_
        cases hm
        exact hret _ _ _ _ dX8_facet_18 hP hD hS
set_option maxHeartbeats 4000000 in
set_option maxRecDepth 100000 in
theorem k_X8_range {l : Launch} {D : va_G} {ad : Nat → Nat} {cI cJ cZ cO : ClassId} {t : Nat} {A : Nat → Prop} {N : Nat} {σ σ' : zS} {v1 : Int32} {v2 : Int32} {v3 : Int32} {r : Int32}  (hm : m_X8_range N σ v1 v2 v3 = some (r, σ')) : zCi l yX8_range cX8_range 5 (some .int) (zR 4 83) D zclX (zty cI cJ cZ cO) t A (zwX ad cI cJ cZ cO) [.ref (ad 0), .int v1, .int v2, .int v3] σ σ' r := by
  refine zMi (by decide) (Nat.le_of_ble_eq_true rfl) ?_
  intro p e s m args below meth c Q hx hb hml hown hT hK hZ hret hP hD hS ls hl
  replace hown : s.vm.findClass RX8 = some m.cls := hown
  replace hl : lv_has ls 5 [(0, .ref (ad 0)), (1, .int v1), (2, .int v2), (3, .int v3)] := hl
  unfold m_X8_range at hm
  refine lv_aload_n hx hb dX8_range_0 rfl (lv_at hl 0 rfl) ?_
  refine lv_iload_n hx hb dX8_range_1 rfl (lv_at hl 1 rfl) ?_
  obtain ⟨o1, eo1, hm⟩ := Option.bind_eq_some_iff.mp hm
  refine zVq (rest := []) [.int v1] hx hb hml hl.1 hown hT (k_X8_facetAt eo1) zkX8_facetAt zw337 ⟨by decide, by decide⟩ rfl rfl hK hZ hP hD hS 0 rfl rfl rfl rfl (Nat.le_of_ble_eq_true rfl) ⟨Nat.zero_le _, Nat.zero_le _⟩ dX8_range_2 (fun H locs hP hD hS => ?_)
  rcases o1 with _ | k2
  · simp only [Option.elim_none] at hm
    refine lv_astoreN (lv' := [(4, .null), (0, .ref (ad 0)), (1, .int v1), (2, .int v2), (3, .int v3)]) hx hb dX8_range_5 hl (by decide) rfl (fun ls hl => ?_)
    refine lv_aloadN hx hb dX8_range_7 (lv_at hl 0 rfl) ?_
    refine lv_ifnullN (tgt := 31) hx hb dX8_range_9 (by decide) ?_
    refine lv_ldc hx hb hown (hT _ zw306) dX8_range_31 ?_
    cases hm
    exact hret _ _ _ _ dX8_range_33 hP hD hS
  · simp only [Option.elim_some] at hm
    have hk2 : k2 < 10 := zfacetAt_lt eo1
    refine lv_astore (lv' := [(4, .ref (ad (20 + k2))), (0, .ref (ad 0)), (1, .int v1), (2, .int v2), (3, .int v3)]) hx hb dX8_range_5 hl (by decide) rfl (fun ls hl => ?_)
    refine lv_aload hx hb dX8_range_7 (lv_at hl 0 rfl) ?_
    refine lv_ifnull hx hb dX8_range_9 ?_
    refine lv_iload_n hx hb dX8_range_12 rfl (lv_at hl 3 rfl) ?_
    obtain ⟨b3, eb3, hm⟩ := Option.bind_eq_some_iff.mp hm
    refine zSi (rest := []) [.int v2] hx hb hml hl.1 hown hT (k_X8_isValue eb3) zkX8_isValue zw301 ⟨by decide, by decide⟩ rfl rfl hK hZ hP hD hS rfl rfl (Nat.le_of_ble_eq_true rfl) ⟨Nat.zero_le _, Nat.zero_le _⟩ dX8_range_13 (fun H locs hP hD hS => ?_)
    refine lv_if_eq (tgt := 31) hx hb dX8_range_16 (by decide) (fun h4 => ?_) (fun h4 => ?_)
    · rw [if_pos h4] at hm
      refine lv_ldc hx hb hown (hT _ zw306) dX8_range_31 ?_
      cases hm
      exact hret _ _ _ _ dX8_range_33 hP hD hS
    · rw [if_neg h4] at hm
      refine lv_iload_n hx hb dX8_range_19 rfl (lv_at hl 4 rfl) ?_
      obtain ⟨b5, eb5, hm⟩ := Option.bind_eq_some_iff.mp hm
      refine zSi (rest := []) [.int v3] hx hb hml hl.1 hown hT (k_X8_isValue eb5) zkX8_isValue zw301 ⟨by decide, by decide⟩ rfl rfl hK hZ hP hD hS rfl rfl (Nat.le_of_ble_eq_true rfl) ⟨Nat.zero_le _, Nat.zero_le _⟩ dX8_range_20 (fun H locs hP hD hS => ?_)
      refine lv_if_eq (tgt := 31) hx hb dX8_range_23 (by decide) (fun h6 => ?_) (fun h6 => ?_)
      · rw [if_pos h6] at hm
        refine lv_ldc hx hb hown (hT _ zw306) dX8_range_31 ?_
        cases hm
        exact hret _ _ _ _ dX8_range_33 hP hD hS
      · rw [if_neg h6] at hm
        refine lv_iload_n hx hb dX8_range_26 rfl (lv_at hl 3 rfl) ?_
        refine lv_iload_n hx hb dX8_range_27 rfl (lv_at hl 4 rfl) ?_
        refine lv_icmp_le (tgt := 34) hx hb dX8_range_28 (by decide) (fun h7 => ?_) (fun h7 => ?_)
        · rw [if_pos h7] at hm
          refine lv_aload hx hb dX8_range_34 (lv_at hl 0 rfl) ?_
          refine zget (v := .int (σ.1 (8 + 12 * k2))) hx hb hT zinX1 hown hK hP (20 + k2) (zF_obj hk2) rfl 0 (by decide) zw121 rfl dX8_range_36 ?_
          refine lv_iconst (v := (2 : Int32)) hx hb dX8_range_39 (by decide) ?_
          refine lv_icmp_eq (tgt := 46) hx hb dX8_range_40 (by decide) (fun h8 => ?_) (fun h8 => ?_)
          · rw [if_pos h8] at hm
            refine lv_aload hx hb dX8_range_46 (lv_at hl 0 rfl) ?_
            refine zget (v := .int (σ.1 (19 + 12 * k2))) hx hb hT zinX1 hown hK hP (20 + k2) (zF_obj hk2) rfl 11 (by decide) zw145 rfl dX8_range_48 ?_
            refine lv_bipush (v := (6 : Int32)) hx hb dX8_range_51 (by decide) ?_
            refine lv_icmp_lt (tgt := 59) hx hb dX8_range_53 (by decide) (fun h9 => ?_) (fun h9 => ?_)
            · rw [if_pos h9] at hm
              refine lv_aload_n hx hb dX8_range_59 rfl (lv_at hl 1 rfl) ?_
              obtain ⟨σ10, eσ10, hm⟩ := Option.bind_eq_some_iff.mp hm
              refine zVv (rest := []) [] hx hb hml hl.1 hown hT (k_X8_leaveAll eσ10) zkX8_leaveAll zw271 ⟨by decide, by decide⟩ rfl rfl hK hZ hP hD hS 0 rfl rfl rfl rfl (Nat.le_of_ble_eq_true rfl) ⟨Nat.zero_le _, Nat.zero_le _⟩ dX8_range_60 (fun H locs hP hD hS => ?_)
              refine lv_aload hx hb dX8_range_63 (lv_at hl 0 rfl) ?_
              refine lv_iload_n hx hb dX8_range_65 rfl (lv_at hl 3 rfl) ?_
              refine lv_iload_n hx hb dX8_range_66 rfl (lv_at hl 4 rfl) ?_
              obtain ⟨⟨b11, σ13⟩, eb11, hm⟩ := Option.bind_eq_some_iff.mp hm
              try dsimp only at hm
              refine zVi (rest := []) [.int v2, .int v3] hx hb hml hl.1 hown hT (k_X1_addRange hk2 eb11) zkX1_addRange zw342 ⟨by decide, by decide⟩ rfl rfl hK hZ hP hD hS (20 + k2) (zF_obj hk2) rfl rfl rfl (Nat.le_of_ble_eq_true rfl) ⟨Nat.zero_le _, Nat.zero_le _⟩ dX8_range_67 (fun H locs hP hD hS => ?_)
              cases hm
              exact hret _ _ _ _ dX8_range_70 hP hD hS
            · rw [if_neg h9] at hm
              refine lv_ldc hx hb hown (hT _ zw270) dX8_range_56 ?_
              cases hm
              exact hret _ _ _ _ dX8_range_58 hP hD hS
          · rw [if_neg h8] at hm
            refine lv_ldc hx hb hown (hT _ zw341) dX8_range_43 ?_
            cases hm
            exact hret _ _ _ _ dX8_range_45 hP hD hS
        · rw [if_neg h7] at hm
          refine lv_ldc hx hb hown (hT _ zw306) dX8_range_31 ?_
          cases hm
          exact hret _ _ _ _ dX8_range_33 hP hD hS
set_option maxHeartbeats 4000000 in
set_option maxRecDepth 100000 in
theorem k_X8_filter {l : Launch} {D : va_G} {ad : Nat → Nat} {cI cJ cZ cO : ClassId} {t : Nat} {A : Nat → Prop} {N : Nat} {σ σ' : zS} {v1 : Int32} {v2 : Int32} {v3 : Int32} {v4 : Int32} {r : Int32}  (hm : m_X8_filter N σ v1 v2 v3 v4 = some (r, σ')) : zCi l yX8_filter cX8_filter 7 (some .int) (zR 4 83) D zclX (zty cI cJ cZ cO) t A (zwX ad cI cJ cZ cO) [.ref (ad 0), .int v1, .int v2, .int v3, .int v4] σ σ' r := by
  refine zMi (by decide) (Nat.le_of_ble_eq_true rfl) ?_
  intro p e s m args below meth c Q hx hb hml hown hT hK hZ hret hP hD hS ls hl
  replace hown : s.vm.findClass RX8 = some m.cls := hown
  replace hl : lv_has ls 7 [(0, .ref (ad 0)), (1, .int v1), (2, .int v2), (3, .int v3), (4, .int v4)] := hl
  have h53 : ∀ (σ7 : zS) (k5_7 : Nat) (x0_7 : Int32), k5_7 < 10 → m_X8_filter_53 N v1 v2 v3 v4 σ7 k5_7 x0_7 = some (r, σ') → ∀ (H : Heap) (locs : List Loc) (ls : Array Slot), va_P D zclX (zwX ad cI cJ cZ cO σ7) H → va_D A (zwX ad cI cJ cZ cO σ7) → va_S A s.heap H locs → lv_has ls 7 [(2, .int v2), (3, .int v3), (4, .int v4), (5, .ref (ad (20 + k5_7)))] → W p l e (zR 4 83) s m args below meth c H locs 0 0 Q (F0 m 53 ls [.int x0_7]) := by
    intro σ7 k5_7 x0_7 hk5_7 hm H locs ls hP hD hS hl
    unfold m_X8_filter_53 at hm
    refine lv_istore (lv' := [(6, .int x0_7), (2, .int v2), (3, .int v3), (4, .int v4), (5, .ref (ad (20 + k5_7)))]) hx hb dX8_filter_53 hl (by decide) rfl (fun ls hl => ?_)
    refine lv_aload hx hb dX8_filter_55 (lv_at hl 4 rfl) ?_
    refine lv_iload_n hx hb dX8_filter_57 rfl (lv_at hl 1 rfl) ?_
    obtain ⟨σ8, eσ8, hm⟩ := Option.bind_eq_some_iff.mp hm
    refine zput (j := (12 + 12 * k5_7)) (ty := .int) hx hb hT zinX1 tyX1 tyX1_ok nmX1 hown hK hP hD hS (20 + k5_7) (zF_obj hk5_7) rfl 4 (by decide) zw126 rfl (by decide +kernel) rfl rfl (Nat.le_of_ble_eq_true rfl) eσ8 (zF_set4 hk5_7 _) dX8_filter_58 (fun H locs hP hD hS => ?_)
    refine lv_aload hx hb dX8_filter_61 (lv_at hl 4 rfl) ?_
    refine lv_iload_n hx hb dX8_filter_63 rfl (lv_at hl 2 rfl) ?_
    obtain ⟨σ9, eσ9, hm⟩ := Option.bind_eq_some_iff.mp hm
    refine zput (j := (13 + 12 * k5_7)) (ty := .int) hx hb hT zinX1 tyX1 tyX1_ok nmX1 hown hK hP hD hS (20 + k5_7) (zF_obj hk5_7) rfl 5 (by decide) zw128 rfl (by decide +kernel) rfl rfl (Nat.le_of_ble_eq_true rfl) eσ9 (zF_set5 hk5_7 _) dX8_filter_64 (fun H locs hP hD hS => ?_)
    refine lv_aload hx hb dX8_filter_67 (lv_at hl 4 rfl) ?_
    refine lv_iload hx hb dX8_filter_69 (lv_at hl 3 rfl) ?_
    obtain ⟨σ10, eσ10, hm⟩ := Option.bind_eq_some_iff.mp hm
    refine zput (j := (14 + 12 * k5_7)) (ty := .int) hx hb hT zinX1 tyX1 tyX1_ok nmX1 hown hK hP hD hS (20 + k5_7) (zF_obj hk5_7) rfl 6 (by decide) zw130 rfl (by decide +kernel) rfl rfl (Nat.le_of_ble_eq_true rfl) eσ10 (zF_set6 hk5_7 _) dX8_filter_71 (fun H locs hP hD hS => ?_)
    refine lv_iload hx hb dX8_filter_74 (lv_at hl 0 rfl) ?_
    cases hm
    exact hret _ _ _ _ dX8_filter_76 hP hD hS
  have h34 : ∀ (σ4 : zS) (k5_4 : Nat), k5_4 < 10 → m_X8_filter_34 N v1 v2 v3 v4 σ4 k5_4 = some (r, σ') → ∀ (H : Heap) (locs : List Loc) (ls : Array Slot), va_P D zclX (zwX ad cI cJ cZ cO σ4) H → va_D A (zwX ad cI cJ cZ cO σ4) → va_S A s.heap H locs → lv_has ls 7 [(0, .ref (ad 0)), (2, .int v2), (3, .int v3), (4, .int v4), (5, .ref (ad (20 + k5_4)))] → W p l e (zR 4 83) s m args below meth c H locs 0 0 Q (F0 m 34 ls []) := by
    intro σ4 k5_4 hk5_4 hm H locs ls hP hD hS hl
    unfold m_X8_filter_34 at hm
    refine lv_aload_n hx hb dX8_filter_34 rfl (lv_at hl 0 rfl) ?_
    obtain ⟨σ5, eσ5, hm⟩ := Option.bind_eq_some_iff.mp hm
    refine zVv (rest := []) [] hx hb hml hl.1 hown hT (k_X8_leaveAll eσ5) zkX8_leaveAll zw271 ⟨by decide, by decide⟩ rfl rfl hK hZ hP hD hS 0 rfl rfl rfl rfl (Nat.le_of_ble_eq_true rfl) ⟨Nat.zero_le _, Nat.zero_le _⟩ dX8_filter_35 (fun H locs hP hD hS => ?_)
    refine lv_aload hx hb dX8_filter_38 (lv_at hl 4 rfl) ?_
    refine zget (v := .int (σ5.1 (12 + 12 * k5_4))) hx hb hT zinX1 hown hK hP (20 + k5_4) (zF_obj hk5_4) rfl 4 (by decide) zw126 rfl dX8_filter_40 ?_
    refine lv_ldc hx hb hown (hT _ zw243) dX8_filter_43 ?_
    refine lv_icmp_eq (tgt := 52) hx hb dX8_filter_45 (by decide) (fun h6 => ?_) (fun h6 => ?_)
    · rw [if_pos h6] at hm
      refine lv_iconst (v := (0 : Int32)) hx hb dX8_filter_52 (by decide) ?_
      exact h53 σ5 k5_4 (0 : Int32) hk5_4 hm _ _ _ hP hD hS (lv_sub hl [1, 2, 3, 4] rfl)
    · rw [if_neg h6] at hm
      refine lv_iconst (v := (1 : Int32)) hx hb dX8_filter_48 (by decide) ?_
      refine lv_goto (tgt := 53) hx hb dX8_filter_49 (by decide) ?_
      exact h53 σ5 k5_4 (1 : Int32) hk5_4 hm _ _ _ hP hD hS (lv_sub hl [1, 2, 3, 4] rfl)
  unfold m_X8_filter at hm
  refine lv_aload_n hx hb dX8_filter_0 rfl (lv_at hl 0 rfl) ?_
  refine lv_iload_n hx hb dX8_filter_1 rfl (lv_at hl 1 rfl) ?_
  obtain ⟨o1, eo1, hm⟩ := Option.bind_eq_some_iff.mp hm
  refine zVq (rest := []) [.int v1] hx hb hml hl.1 hown hT (k_X8_facetAt eo1) zkX8_facetAt zw337 ⟨by decide, by decide⟩ rfl rfl hK hZ hP hD hS 0 rfl rfl rfl rfl (Nat.le_of_ble_eq_true rfl) ⟨Nat.zero_le _, Nat.zero_le _⟩ dX8_filter_2 (fun H locs hP hD hS => ?_)
  rcases o1 with _ | k2
  · simp only [Option.elim_none] at hm
    refine lv_astoreN (lv' := [(5, .null), (0, .ref (ad 0)), (1, .int v1), (2, .int v2), (3, .int v3), (4, .int v4)]) hx hb dX8_filter_5 hl (by decide) rfl (fun ls hl => ?_)
    refine lv_aloadN hx hb dX8_filter_7 (lv_at hl 0 rfl) ?_
    refine lv_ifnullN (tgt := 31) hx hb dX8_filter_9 (by decide) ?_
    refine lv_ldc hx hb hown (hT _ zw306) dX8_filter_31 ?_
    cases hm
    exact hret _ _ _ _ dX8_filter_33 hP hD hS
  · simp only [Option.elim_some] at hm
    have hk2 : k2 < 10 := zfacetAt_lt eo1
    refine lv_astore (lv' := [(5, .ref (ad (20 + k2))), (0, .ref (ad 0)), (1, .int v1), (2, .int v2), (3, .int v3), (4, .int v4)]) hx hb dX8_filter_5 hl (by decide) rfl (fun ls hl => ?_)
    refine lv_aload hx hb dX8_filter_7 (lv_at hl 0 rfl) ?_
    refine lv_ifnull hx hb dX8_filter_9 ?_
    refine lv_iload_n hx hb dX8_filter_12 rfl (lv_at hl 3 rfl) ?_
    refine lv_ldc hx hb hown (hT _ zw243) dX8_filter_13 ?_
    refine lv_icmp_eq (tgt := 34) hx hb dX8_filter_15 (by decide) (fun h3 => ?_) (fun h3 => ?_)
    · rw [if_pos h3] at hm
      exact h34 σ k2 hk2 hm _ _ _ hP hD hS (lv_sub hl [1, 3, 4, 5, 0] rfl)
    · rw [if_neg h3] at hm
      refine lv_iload_n hx hb dX8_filter_18 rfl (lv_at hl 3 rfl) ?_
      obtain ⟨b11, eb11, hm⟩ := Option.bind_eq_some_iff.mp hm
      refine zSi (rest := []) [.int v2] hx hb hml hl.1 hown hT (k_X8_isColumn eb11) zkX8_isColumn zw298 ⟨by decide, by decide⟩ rfl rfl hK hZ hP hD hS rfl rfl (Nat.le_of_ble_eq_true rfl) ⟨Nat.zero_le _, Nat.zero_le _⟩ dX8_filter_19 (fun H locs hP hD hS => ?_)
      refine lv_if_eq (tgt := 31) hx hb dX8_filter_22 (by decide) (fun h12 => ?_) (fun h12 => ?_)
      · rw [if_pos h12] at hm
        refine lv_ldc hx hb hown (hT _ zw306) dX8_filter_31 ?_
        cases hm
        exact hret _ _ _ _ dX8_filter_33 hP hD hS
      · rw [if_neg h12] at hm
        refine lv_iload_n hx hb dX8_filter_25 rfl (lv_at hl 4 rfl) ?_
        refine lv_iload hx hb dX8_filter_26 (lv_at hl 5 rfl) ?_
        refine lv_icmp_le (tgt := 34) hx hb dX8_filter_28 (by decide) (fun h13 => ?_) (fun h13 => ?_)
        · rw [if_pos h13] at hm
          exact h34 σ k2 hk2 hm _ _ _ hP hD hS (lv_sub hl [1, 3, 4, 5, 0] rfl)
        · rw [if_neg h13] at hm
          refine lv_ldc hx hb hown (hT _ zw306) dX8_filter_31 ?_
          cases hm
          exact hret _ _ _ _ dX8_filter_33 hP hD hS
set_option maxHeartbeats 4000000 in
set_option maxRecDepth 100000 in
theorem k_X8_least {l : Launch} {D : va_G} {ad : Nat → Nat} {cI cJ cZ cO : ClassId} {t : Nat} {A : Nat → Prop} {N : Nat} {σ σ' : zS} {v1 : Int32} {v2 : Int32} {r : Int32}  (hm : m_X8_least N σ v1 v2 = some (r, σ')) : zCi l yX8_least cX8_least 5 (some .int) (zR 4 83) D zclX (zty cI cJ cZ cO) t A (zwX ad cI cJ cZ cO) [.ref (ad 0), .int v1, .int v2] σ σ' r := by
  refine zMi (by decide) (Nat.le_of_ble_eq_true rfl) ?_
  intro p e s m args below meth c Q hx hb hml hown hT hK hZ hret hP hD hS ls hl
  replace hown : s.vm.findClass RX8 = some m.cls := hown
  replace hl : lv_has ls 5 [(0, .ref (ad 0)), (1, .int v1), (2, .int v2)] := hl
  unfold m_X8_least at hm
  refine lv_aload_n hx hb dX8_least_0 rfl (lv_at hl 0 rfl) ?_
  refine lv_iload_n hx hb dX8_least_1 rfl (lv_at hl 1 rfl) ?_
  obtain ⟨o1, eo1, hm⟩ := Option.bind_eq_some_iff.mp hm
  refine zVq (rest := []) [.int v1] hx hb hml hl.1 hown hT (k_X8_facetAt eo1) zkX8_facetAt zw337 ⟨by decide, by decide⟩ rfl rfl hK hZ hP hD hS 0 rfl rfl rfl rfl (Nat.le_of_ble_eq_true rfl) ⟨Nat.zero_le _, Nat.zero_le _⟩ dX8_least_2 (fun H locs hP hD hS => ?_)
  rcases o1 with _ | k2
  · simp only [Option.elim_none] at hm
    refine lv_astore_nN (lv' := [(3, .null), (0, .ref (ad 0)), (1, .int v1), (2, .int v2)]) hx hb dX8_least_5 rfl hl (by decide) rfl (fun ls hl => ?_)
    refine lv_aload_nN hx hb dX8_least_6 rfl (lv_at hl 0 rfl) ?_
    refine lv_ifnullN (tgt := 20) hx hb dX8_least_7 (by decide) ?_
    refine lv_ldc hx hb hown (hT _ zw306) dX8_least_20 ?_
    cases hm
    exact hret _ _ _ _ dX8_least_22 hP hD hS
  · simp only [Option.elim_some] at hm
    have hk2 : k2 < 10 := zfacetAt_lt eo1
    refine lv_astore_n (lv' := [(3, .ref (ad (20 + k2))), (0, .ref (ad 0)), (1, .int v1), (2, .int v2)]) hx hb dX8_least_5 rfl hl (by decide) rfl (fun ls hl => ?_)
    refine lv_aload_n hx hb dX8_least_6 rfl (lv_at hl 0 rfl) ?_
    refine lv_ifnull hx hb dX8_least_7 ?_
    refine lv_iload_n hx hb dX8_least_10 rfl (lv_at hl 3 rfl) ?_
    refine lv_if_lt (tgt := 20) hx hb dX8_least_11 (by decide) (fun h3 => ?_) (fun h3 => ?_)
    · rw [if_pos h3] at hm
      refine lv_ldc hx hb hown (hT _ zw306) dX8_least_20 ?_
      cases hm
      exact hret _ _ _ _ dX8_least_22 hP hD hS
    · rw [if_neg h3] at hm
      refine lv_iload_n hx hb dX8_least_14 rfl (lv_at hl 3 rfl) ?_
      refine lv_bipush (v := (120 : Int32)) hx hb dX8_least_15 (by decide) ?_
      refine lv_icmp_le (tgt := 23) hx hb dX8_least_17 (by decide) (fun h4 => ?_) (fun h4 => ?_)
      · rw [if_pos h4] at hm
        refine lv_aload_n hx hb dX8_least_23 rfl (lv_at hl 1 rfl) ?_
        obtain ⟨σ5, eσ5, hm⟩ := Option.bind_eq_some_iff.mp hm
        refine zVv (rest := []) [] hx hb hml hl.1 hown hT (k_X8_leaveAll eσ5) zkX8_leaveAll zw271 ⟨by decide, by decide⟩ rfl rfl hK hZ hP hD hS 0 rfl rfl rfl rfl (Nat.le_of_ble_eq_true rfl) ⟨Nat.zero_le _, Nat.zero_le _⟩ dX8_least_24 (fun H locs hP hD hS => ?_)
        refine lv_aload_n hx hb dX8_least_27 rfl (lv_at hl 0 rfl) ?_
        refine zget (v := .int (σ5.1 (15 + 12 * k2))) hx hb hT zinX1 hown hK hP (20 + k2) (zF_obj hk2) rfl 7 (by decide) zw133 rfl dX8_least_28 ?_
        refine lv_istore (lv' := [(4, .int (σ5.1 (15 + 12 * k2))), (3, .ref (ad (20 + k2))), (0, .ref (ad 0)), (1, .int v1), (2, .int v2)]) hx hb dX8_least_31 hl (by decide) rfl (fun ls hl => ?_)
        refine lv_aload_n hx hb dX8_least_33 rfl (lv_at hl 1 rfl) ?_
        refine lv_iload_n hx hb dX8_least_34 rfl (lv_at hl 4 rfl) ?_
        obtain ⟨σ6, eσ6, hm⟩ := Option.bind_eq_some_iff.mp hm
        refine zput (j := (15 + 12 * k2)) (ty := .int) hx hb hT zinX1 tyX1 tyX1_ok nmX1 hown hK hP hD hS (20 + k2) (zF_obj hk2) rfl 7 (by decide) zw133 rfl (by decide +kernel) rfl rfl (Nat.le_of_ble_eq_true rfl) eσ6 (zF_set7 hk2 _) dX8_least_35 (fun H locs hP hD hS => ?_)
        refine lv_iload hx hb dX8_least_38 (lv_at hl 0 rfl) ?_
        cases hm
        exact hret _ _ _ _ dX8_least_40 hP hD hS
      · rw [if_neg h4] at hm
        refine lv_ldc hx hb hown (hT _ zw306) dX8_least_20 ?_
        cases hm
        exact hret _ _ _ _ dX8_least_22 hP hD hS
set_option maxHeartbeats 4000000 in
set_option maxRecDepth 100000 in
theorem k_X8_missing {l : Launch} {D : va_G} {ad : Nat → Nat} {cI cJ cZ cO : ClassId} {t : Nat} {A : Nat → Prop} {N : Nat} {σ σ' : zS} {v1 : Int32} {v2 : Int32} {r : Int32}  (hm : m_X8_missing N σ v1 v2 = some (r, σ')) : zCi l yX8_missing cX8_missing 5 (some .int) (zR 4 83) D zclX (zty cI cJ cZ cO) t A (zwX ad cI cJ cZ cO) [.ref (ad 0), .int v1, .int v2] σ σ' r := by
  refine zMi (by decide) (Nat.le_of_ble_eq_true rfl) ?_
  intro p e s m args below meth c Q hx hb hml hown hT hK hZ hret hP hD hS ls hl
  replace hown : s.vm.findClass RX8 = some m.cls := hown
  replace hl : lv_has ls 5 [(0, .ref (ad 0)), (1, .int v1), (2, .int v2)] := hl
  unfold m_X8_missing at hm
  refine lv_aload_n hx hb dX8_missing_0 rfl (lv_at hl 0 rfl) ?_
  refine lv_iload_n hx hb dX8_missing_1 rfl (lv_at hl 1 rfl) ?_
  obtain ⟨o1, eo1, hm⟩ := Option.bind_eq_some_iff.mp hm
  refine zVq (rest := []) [.int v1] hx hb hml hl.1 hown hT (k_X8_facetAt eo1) zkX8_facetAt zw337 ⟨by decide, by decide⟩ rfl rfl hK hZ hP hD hS 0 rfl rfl rfl rfl (Nat.le_of_ble_eq_true rfl) ⟨Nat.zero_le _, Nat.zero_le _⟩ dX8_missing_2 (fun H locs hP hD hS => ?_)
  rcases o1 with _ | k2
  · simp only [Option.elim_none] at hm
    refine lv_astore_nN (lv' := [(3, .null), (0, .ref (ad 0)), (1, .int v1), (2, .int v2)]) hx hb dX8_missing_5 rfl hl (by decide) rfl (fun ls hl => ?_)
    refine lv_aload_nN hx hb dX8_missing_6 rfl (lv_at hl 0 rfl) ?_
    refine lv_ifnonnullN hx hb dX8_missing_7 ?_
    refine lv_ldc hx hb hown (hT _ zw306) dX8_missing_10 ?_
    cases hm
    exact hret _ _ _ _ dX8_missing_12 hP hD hS
  · simp only [Option.elim_some] at hm
    have hk2 : k2 < 10 := zfacetAt_lt eo1
    refine lv_astore_n (lv' := [(3, .ref (ad (20 + k2))), (0, .ref (ad 0)), (1, .int v1), (2, .int v2)]) hx hb dX8_missing_5 rfl hl (by decide) rfl (fun ls hl => ?_)
    refine lv_aload_n hx hb dX8_missing_6 rfl (lv_at hl 0 rfl) ?_
    refine lv_ifnonnull (tgt := 13) hx hb dX8_missing_7 (by decide) ?_
    refine lv_aload_n hx hb dX8_missing_13 rfl (lv_at hl 1 rfl) ?_
    obtain ⟨σ3, eσ3, hm⟩ := Option.bind_eq_some_iff.mp hm
    refine zVv (rest := []) [] hx hb hml hl.1 hown hT (k_X8_leaveAll eσ3) zkX8_leaveAll zw271 ⟨by decide, by decide⟩ rfl rfl hK hZ hP hD hS 0 rfl rfl rfl rfl (Nat.le_of_ble_eq_true rfl) ⟨Nat.zero_le _, Nat.zero_le _⟩ dX8_missing_14 (fun H locs hP hD hS => ?_)
    refine lv_aload_n hx hb dX8_missing_17 rfl (lv_at hl 0 rfl) ?_
    refine zget (v := .int (σ3.1 (16 + 12 * k2))) hx hb hT zinX1 hown hK hP (20 + k2) (zF_obj hk2) rfl 8 (by decide) zw136 rfl dX8_missing_18 ?_
    refine lv_istore (lv' := [(4, .int (σ3.1 (16 + 12 * k2))), (3, .ref (ad (20 + k2))), (0, .ref (ad 0)), (1, .int v1), (2, .int v2)]) hx hb dX8_missing_21 hl (by decide) rfl (fun ls hl => ?_)
    refine lv_aload_n hx hb dX8_missing_23 rfl (lv_at hl 1 rfl) ?_
    refine lv_iload_n hx hb dX8_missing_24 rfl (lv_at hl 4 rfl) ?_
    obtain ⟨b4, eb4, hm⟩ := Option.bind_eq_some_iff.mp hm
    obtain ⟨rfl, hzb4, hwb4, hfb4⟩ := zcz_all eb4
    obtain ⟨σ5, eσ5, hm⟩ := Option.bind_eq_some_iff.mp hm
    refine zput (j := (16 + 12 * k2)) (ty := .boolean) hx hb hT zinX1 tyX1 tyX1_ok nmX1 hown hK hP hD hS (20 + k2) (zF_obj hk2) rfl 8 (by decide) zw136 rfl (by decide +kernel) hzb4 hfb4 (Nat.le_of_ble_eq_true rfl) eσ5 (zF_set8 hk2 _) dX8_missing_25 (fun H locs hP hD hS => ?_)
    refine lv_iload hx hb dX8_missing_28 (lv_at hl 0 rfl) ?_
    refine lv_if_eq (tgt := 37) hx hb dX8_missing_30 (by decide) (fun h6 => ?_) (fun h6 => ?_)
    · rw [if_pos h6] at hm
      refine lv_iconst (v := (0 : Int32)) hx hb dX8_missing_37 (by decide) ?_
      cases hm
      exact hret _ _ _ _ dX8_missing_38 hP hD hS
    · rw [if_neg h6] at hm
      refine lv_iconst (v := (1 : Int32)) hx hb dX8_missing_33 (by decide) ?_
      refine lv_goto (tgt := 38) hx hb dX8_missing_34 (by decide) ?_
      cases hm
      exact hret _ _ _ _ dX8_missing_38 hP hD hS
set_option maxHeartbeats 4000000 in
set_option maxRecDepth 100000 in
theorem k_X8_order {l : Launch} {D : va_G} {ad : Nat → Nat} {cI cJ cZ cO : ClassId} {t : Nat} {A : Nat → Prop} {N : Nat} {σ σ' : zS} {v1 : Int32} {v2 : Int32} {v3 : Int32} {r : Int32}  (hm : m_X8_order N σ v1 v2 v3 = some (r, σ')) : zCi l yX8_order cX8_order 6 (some .int) (zR 4 83) D zclX (zty cI cJ cZ cO) t A (zwX ad cI cJ cZ cO) [.ref (ad 0), .int v1, .int v2, .int v3] σ σ' r := by
  refine zMi (by decide) (Nat.le_of_ble_eq_true rfl) ?_
  intro p e s m args below meth c Q hx hb hml hown hT hK hZ hret hP hD hS ls hl
  replace hown : s.vm.findClass RX8 = some m.cls := hown
  replace hl : lv_has ls 6 [(0, .ref (ad 0)), (1, .int v1), (2, .int v2), (3, .int v3)] := hl
  have h36 : ∀ (σ6 : zS) (k4_6 : Nat), k4_6 < 10 → m_X8_order_36 N v1 v2 v3 σ6 k4_6 = some (r, σ') → ∀ (H : Heap) (locs : List Loc) (ls : Array Slot), va_P D zclX (zwX ad cI cJ cZ cO σ6) H → va_D A (zwX ad cI cJ cZ cO σ6) → va_S A s.heap H locs → lv_has ls 6 [(0, .ref (ad 0)), (2, .int v2), (3, .int v3), (4, .ref (ad (20 + k4_6)))] → W p l e (zR 4 83) s m args below meth c H locs 0 0 Q (F0 m 36 ls []) := by
    intro σ6 k4_6 hk4_6 hm H locs ls hP hD hS hl
    unfold m_X8_order_36 at hm
    refine lv_aload_n hx hb dX8_order_36 rfl (lv_at hl 0 rfl) ?_
    obtain ⟨σ7, eσ7, hm⟩ := Option.bind_eq_some_iff.mp hm
    refine zVv (rest := []) [] hx hb hml hl.1 hown hT (k_X8_leaveAll eσ7) zkX8_leaveAll zw271 ⟨by decide, by decide⟩ rfl rfl hK hZ hP hD hS 0 rfl rfl rfl rfl (Nat.le_of_ble_eq_true rfl) ⟨Nat.zero_le _, Nat.zero_le _⟩ dX8_order_37 (fun H locs hP hD hS => ?_)
    refine lv_aload hx hb dX8_order_40 (lv_at hl 3 rfl) ?_
    refine zget (v := .int (σ7.1 (17 + 12 * k4_6))) hx hb hT zinX1 hown hK hP (20 + k4_6) (zF_obj hk4_6) rfl 9 (by decide) zw139 rfl dX8_order_42 ?_
    refine lv_istore (lv' := [(5, .int (σ7.1 (17 + 12 * k4_6))), (0, .ref (ad 0)), (2, .int v2), (3, .int v3), (4, .ref (ad (20 + k4_6)))]) hx hb dX8_order_45 hl (by decide) rfl (fun ls hl => ?_)
    refine lv_aload hx hb dX8_order_47 (lv_at hl 4 rfl) ?_
    refine lv_iload_n hx hb dX8_order_49 rfl (lv_at hl 2 rfl) ?_
    obtain ⟨σ8, eσ8, hm⟩ := Option.bind_eq_some_iff.mp hm
    refine zput (j := (17 + 12 * k4_6)) (ty := .int) hx hb hT zinX1 tyX1 tyX1_ok nmX1 hown hK hP hD hS (20 + k4_6) (zF_obj hk4_6) rfl 9 (by decide) zw139 rfl (by decide +kernel) rfl rfl (Nat.le_of_ble_eq_true rfl) eσ8 (zF_set9 hk4_6 _) dX8_order_50 (fun H locs hP hD hS => ?_)
    refine lv_aload hx hb dX8_order_53 (lv_at hl 4 rfl) ?_
    refine lv_iload_n hx hb dX8_order_55 rfl (lv_at hl 2 rfl) ?_
    refine lv_iconst (v := (2 : Int32)) hx hb dX8_order_56 (by decide) ?_
    refine lv_icmp_ne (tgt := 64) hx hb dX8_order_57 (by decide) (fun h9 => ?_) (fun h9 => ?_)
    · rw [if_neg h9] at hm
      refine lv_iconst (v := (0 : Int32)) hx hb dX8_order_64 (by decide) ?_
      obtain ⟨σ10, eσ10, hm⟩ := Option.bind_eq_some_iff.mp hm
      refine zput (j := (18 + 12 * k4_6)) (ty := .int) hx hb hT zinX1 tyX1 tyX1_ok nmX1 hown hK hP hD hS (20 + k4_6) (zF_obj hk4_6) rfl 10 (by decide) zw142 rfl (by decide +kernel) rfl rfl (Nat.le_of_ble_eq_true rfl) eσ10 (zF_set10 hk4_6 _) dX8_order_65 (fun H locs hP hD hS => ?_)
      refine lv_iload hx hb dX8_order_68 (lv_at hl 0 rfl) ?_
      cases hm
      exact hret _ _ _ _ dX8_order_70 hP hD hS
    · rw [if_pos h9] at hm
      refine lv_iload_n hx hb dX8_order_60 rfl (lv_at hl 3 rfl) ?_
      refine lv_goto (tgt := 65) hx hb dX8_order_61 (by decide) ?_
      obtain ⟨σ11, eσ11, hm⟩ := Option.bind_eq_some_iff.mp hm
      refine zput (j := (18 + 12 * k4_6)) (ty := .int) hx hb hT zinX1 tyX1 tyX1_ok nmX1 hown hK hP hD hS (20 + k4_6) (zF_obj hk4_6) rfl 10 (by decide) zw142 rfl (by decide +kernel) rfl rfl (Nat.le_of_ble_eq_true rfl) eσ11 (zF_set10 hk4_6 _) dX8_order_65 (fun H locs hP hD hS => ?_)
      refine lv_iload hx hb dX8_order_68 (lv_at hl 0 rfl) ?_
      cases hm
      exact hret _ _ _ _ dX8_order_70 hP hD hS
  unfold m_X8_order at hm
  refine lv_aload_n hx hb dX8_order_0 rfl (lv_at hl 0 rfl) ?_
  refine lv_iload_n hx hb dX8_order_1 rfl (lv_at hl 1 rfl) ?_
  obtain ⟨o1, eo1, hm⟩ := Option.bind_eq_some_iff.mp hm
  refine zVq (rest := []) [.int v1] hx hb hml hl.1 hown hT (k_X8_facetAt eo1) zkX8_facetAt zw337 ⟨by decide, by decide⟩ rfl rfl hK hZ hP hD hS 0 rfl rfl rfl rfl (Nat.le_of_ble_eq_true rfl) ⟨Nat.zero_le _, Nat.zero_le _⟩ dX8_order_2 (fun H locs hP hD hS => ?_)
  rcases o1 with _ | k2
  · simp only [Option.elim_none] at hm
    refine lv_astoreN (lv' := [(4, .null), (0, .ref (ad 0)), (1, .int v1), (2, .int v2), (3, .int v3)]) hx hb dX8_order_5 hl (by decide) rfl (fun ls hl => ?_)
    refine lv_aloadN hx hb dX8_order_7 (lv_at hl 0 rfl) ?_
    refine lv_ifnullN (tgt := 33) hx hb dX8_order_9 (by decide) ?_
    refine lv_ldc hx hb hown (hT _ zw306) dX8_order_33 ?_
    cases hm
    exact hret _ _ _ _ dX8_order_35 hP hD hS
  · simp only [Option.elim_some] at hm
    have hk2 : k2 < 10 := zfacetAt_lt eo1
    refine lv_astore (lv' := [(4, .ref (ad (20 + k2))), (0, .ref (ad 0)), (1, .int v1), (2, .int v2), (3, .int v3)]) hx hb dX8_order_5 hl (by decide) rfl (fun ls hl => ?_)
    refine lv_aload hx hb dX8_order_7 (lv_at hl 0 rfl) ?_
    refine lv_ifnull hx hb dX8_order_9 ?_
    refine lv_iload_n hx hb dX8_order_12 rfl (lv_at hl 3 rfl) ?_
    refine lv_if_lt (tgt := 33) hx hb dX8_order_13 (by decide) (fun h3 => ?_) (fun h3 => ?_)
    · rw [if_pos h3] at hm
      refine lv_ldc hx hb hown (hT _ zw306) dX8_order_33 ?_
      cases hm
      exact hret _ _ _ _ dX8_order_35 hP hD hS
    · rw [if_neg h3] at hm
      refine lv_iload_n hx hb dX8_order_16 rfl (lv_at hl 3 rfl) ?_
      refine lv_iconst (v := (2 : Int32)) hx hb dX8_order_17 (by decide) ?_
      refine lv_icmp_gt (tgt := 33) hx hb dX8_order_18 (by decide) (fun h4 => ?_) (fun h4 => ?_)
      · rw [if_pos h4] at hm
        refine lv_ldc hx hb hown (hT _ zw306) dX8_order_33 ?_
        cases hm
        exact hret _ _ _ _ dX8_order_35 hP hD hS
      · rw [if_neg h4] at hm
        refine lv_iload_n hx hb dX8_order_21 rfl (lv_at hl 3 rfl) ?_
        refine lv_iconst (v := (2 : Int32)) hx hb dX8_order_22 (by decide) ?_
        refine lv_icmp_ne (tgt := 36) hx hb dX8_order_23 (by decide) (fun h5 => ?_) (fun h5 => ?_)
        · rw [if_neg h5] at hm
          exact h36 σ k2 hk2 hm _ _ _ hP hD hS (lv_sub hl [1, 3, 4, 0] rfl)
        · rw [if_pos h5] at hm
          refine lv_iload_n hx hb dX8_order_26 rfl (lv_at hl 4 rfl) ?_
          obtain ⟨b12, eb12, hm⟩ := Option.bind_eq_some_iff.mp hm
          refine zSi (rest := []) [.int v3] hx hb hml hl.1 hown hT (k_X8_isColumn eb12) zkX8_isColumn zw298 ⟨by decide, by decide⟩ rfl rfl hK hZ hP hD hS rfl rfl (Nat.le_of_ble_eq_true rfl) ⟨Nat.zero_le _, Nat.zero_le _⟩ dX8_order_27 (fun H locs hP hD hS => ?_)
          refine lv_if_ne (tgt := 36) hx hb dX8_order_30 (by decide) (fun h13 => ?_) (fun h13 => ?_)
          · rw [if_neg h13] at hm
            exact h36 σ k2 hk2 hm _ _ _ hP hD hS (lv_sub hl [1, 3, 4, 0] rfl)
          · rw [if_pos h13] at hm
            refine lv_ldc hx hb hown (hT _ zw306) dX8_order_33 ?_
            cases hm
            exact hret _ _ _ _ dX8_order_35 hP hD hS
set_option maxHeartbeats 4000000 in
set_option maxRecDepth 100000 in
theorem k_X8_groupsOf {l : Launch} {D : va_G} {ad : Nat → Nat} {cI cJ cZ cO : ClassId} {t : Nat} {A : Nat → Prop} {N : Nat} {σ σ' : zS} {v1 : Int32} {r : Option Nat}  (hm : m_X8_groupsOf N σ v1 = some (r, σ')) : zCq l yX8_groupsOf cX8_groupsOf 3 (some (.object "FacetFigures$GroupList")) (zR 5 122) D zclX (zty cI cJ cZ cO) t A (zwX ad cI cJ cZ cO) [.ref (ad 0), .int v1] σ σ' (r.map (fun _ => ad 4)) := by
  refine zMq (Or.inl ⟨_, rfl⟩) (by decide) (Nat.le_of_ble_eq_true rfl) ?_
  intro p e s m args below meth c Q hx hb hml hown hT hK hZ hret hP hD hS ls hl
  replace hown : s.vm.findClass RX8 = some m.cls := hown
  replace hl : lv_has ls 3 [(0, .ref (ad 0)), (1, .int v1)] := hl
  have h59n2 : ∀ (σ2 : zS), m_X8_groupsOf_59n2 N v1 σ2 = some (r, σ') → ∀ (H : Heap) (locs : List Loc) (ls : Array Slot), va_P D zclX (zwX ad cI cJ cZ cO σ2) H → va_D A (zwX ad cI cJ cZ cO σ2) → va_S A s.heap H locs → lv_has ls 3 [(0, .ref (ad 0)), (2, .null)] → W p l e (zR 5 122) s m args below meth c H locs 0 0 Q (F0 m 59 ls []) := by
    intro σ2 hm H locs ls hP hD hS hl
    unfold m_X8_groupsOf_59n2 at hm
    refine lv_aload_nN hx hb dX8_groupsOf_59 rfl (lv_at hl 1 rfl) ?_
    refine lv_ifnonnullN hx hb dX8_groupsOf_60 ?_
    refine lv_null hx hb dX8_groupsOf_63 ?_
    refine lv_goto (tgt := 71) hx hb dX8_groupsOf_64 (by decide) ?_
    cases hm
    exact hret _ _ _ _ dX8_groupsOf_71 hP hD hS
  have h59 : ∀ (σ5 : zS) (k2_5 : Nat), k2_5 < 10 → m_X8_groupsOf_59 N v1 σ5 k2_5 = some (r, σ') → ∀ (H : Heap) (locs : List Loc) (ls : Array Slot), va_P D zclX (zwX ad cI cJ cZ cO σ5) H → va_D A (zwX ad cI cJ cZ cO σ5) → va_S A s.heap H locs → lv_has ls 3 [(0, .ref (ad 0)), (2, .ref (ad (20 + k2_5)))] → W p l e (zR 5 122) s m args below meth c H locs 0 0 Q (F0 m 59 ls []) := by
    intro σ5 k2_5 hk2_5 hm H locs ls hP hD hS hl
    unfold m_X8_groupsOf_59 at hm
    refine lv_aload_n hx hb dX8_groupsOf_59 rfl (lv_at hl 1 rfl) ?_
    refine lv_ifnonnull (tgt := 67) hx hb dX8_groupsOf_60 (by decide) ?_
    refine lv_aload_n hx hb dX8_groupsOf_67 rfl (lv_at hl 0 rfl) ?_
    refine zget (v := .ref (ad 4)) hx hb hT zinX8 hown hK hP 0 rfl rfl 3 (by decide) zw247 rfl dX8_groupsOf_68 ?_
    cases hm
    exact hret _ _ _ _ dX8_groupsOf_71 hP hD hS
  unfold m_X8_groupsOf at hm
  refine lv_aload_n hx hb dX8_groupsOf_0 rfl (lv_at hl 0 rfl) ?_
  refine lv_iload_n hx hb dX8_groupsOf_1 rfl (lv_at hl 1 rfl) ?_
  obtain ⟨o1, eo1, hm⟩ := Option.bind_eq_some_iff.mp hm
  refine zVq (rest := []) [.int v1] hx hb hml hl.1 hown hT (k_X8_facetAt eo1) zkX8_facetAt zw337 ⟨by decide, by decide⟩ rfl rfl hK hZ hP hD hS 0 rfl rfl rfl rfl (Nat.le_of_ble_eq_true rfl) ⟨Nat.zero_le _, Nat.zero_le _⟩ dX8_groupsOf_2 (fun H locs hP hD hS => ?_)
  rcases o1 with _ | k3
  · simp only [Option.elim_none] at hm
    refine lv_astore_nN (lv' := [(2, .null), (0, .ref (ad 0)), (1, .int v1)]) hx hb dX8_groupsOf_5 rfl hl (by decide) rfl (fun ls hl => ?_)
    refine lv_aload_nN hx hb dX8_groupsOf_6 rfl (lv_at hl 0 rfl) ?_
    refine lv_ifnullN (tgt := 59) hx hb dX8_groupsOf_7 (by decide) ?_
    exact h59n2 σ hm _ _ _ hP hD hS (lv_sub hl [1, 0] rfl)
  · simp only [Option.elim_some] at hm
    have hk3 : k3 < 10 := zfacetAt_lt eo1
    refine lv_astore_n (lv' := [(2, .ref (ad (20 + k3))), (0, .ref (ad 0)), (1, .int v1)]) hx hb dX8_groupsOf_5 rfl hl (by decide) rfl (fun ls hl => ?_)
    refine lv_aload_n hx hb dX8_groupsOf_6 rfl (lv_at hl 0 rfl) ?_
    refine lv_ifnull hx hb dX8_groupsOf_7 ?_
    refine lv_aload_n hx hb dX8_groupsOf_10 rfl (lv_at hl 1 rfl) ?_
    refine zget (v := .int (σ.1 1)) hx hb hT zinX8 hown hK hP 0 rfl rfl 6 (by decide) zw250 rfl dX8_groupsOf_11 ?_
    refine lv_iload_n hx hb dX8_groupsOf_14 rfl (lv_at hl 2 rfl) ?_
    refine lv_icmp_eq (tgt := 59) hx hb dX8_groupsOf_15 (by decide) (fun h4 => ?_) (fun h4 => ?_)
    · rw [if_pos h4] at hm
      exact h59 σ k3 hk3 hm _ _ _ hP hD hS (lv_sub hl [1, 0] rfl)
    · rw [if_neg h4] at hm
      refine lv_aload_n hx hb dX8_groupsOf_18 rfl (lv_at hl 1 rfl) ?_
      refine zget (v := .ref (ad 4)) hx hb hT zinX8 hown hK hP 0 rfl rfl 3 (by decide) zw247 rfl dX8_groupsOf_19 ?_
      refine lv_aload_n hx hb dX8_groupsOf_22 rfl (lv_at hl 0 rfl) ?_
      refine lv_aload_n hx hb dX8_groupsOf_23 rfl (lv_at hl 1 rfl) ?_
      refine zget (v := .ref (ad 1)) hx hb hT zinX8 hown hK hP 0 rfl rfl 0 (by decide) zw244 rfl dX8_groupsOf_24 ?_
      refine lv_aload_n hx hb dX8_groupsOf_27 rfl (lv_at hl 1 rfl) ?_
      refine zget (v := .ref (ad 2)) hx hb hT zinX8 hown hK hP 0 rfl rfl 1 (by decide) zw245 rfl dX8_groupsOf_28 ?_
      obtain ⟨σ6, eσ6, hm⟩ := Option.bind_eq_some_iff.mp hm
      refine zVv (rest := []) [.ref (ad (20 + k3)), .ref (ad 1), .ref (ad 2)] hx hb hml hl.1 hown hT (k_X2_gather hk3 eσ6) zkX2_gather zw370 ⟨by decide, by decide⟩ rfl rfl hK hZ hP hD hS 4 rfl rfl rfl rfl (Nat.le_of_ble_eq_true rfl) ⟨Nat.zero_le _, Nat.zero_le _⟩ dX8_groupsOf_31 (fun H locs hP hD hS => ?_)
      refine lv_aload_n hx hb dX8_groupsOf_34 rfl (lv_at hl 1 rfl) ?_
      refine zget (v := .ref (ad 4)) hx hb hT zinX8 hown hK hP 0 rfl rfl 3 (by decide) zw247 rfl dX8_groupsOf_35 ?_
      refine lv_aload_n hx hb dX8_groupsOf_38 rfl (lv_at hl 0 rfl) ?_
      obtain ⟨σ7, eσ7, hm⟩ := Option.bind_eq_some_iff.mp hm
      refine zVv (rest := []) [.ref (ad (20 + k3))] hx hb hml hl.1 hown hT (k_X2_cut hk3 eσ7) zkX2_cut zw455 ⟨by decide, by decide⟩ rfl rfl hK hZ hP hD hS 4 rfl rfl rfl rfl (Nat.le_of_ble_eq_true rfl) ⟨Nat.zero_le _, Nat.zero_le _⟩ dX8_groupsOf_39 (fun H locs hP hD hS => ?_)
      refine lv_aload_n hx hb dX8_groupsOf_42 rfl (lv_at hl 1 rfl) ?_
      refine zget (v := .ref (ad 4)) hx hb hT zinX8 hown hK hP 0 rfl rfl 3 (by decide) zw247 rfl dX8_groupsOf_43 ?_
      refine lv_aload_n hx hb dX8_groupsOf_46 rfl (lv_at hl 0 rfl) ?_
      refine lv_aload_n hx hb dX8_groupsOf_47 rfl (lv_at hl 1 rfl) ?_
      refine zget (v := .ref (ad 1)) hx hb hT zinX8 hown hK hP 0 rfl rfl 0 (by decide) zw244 rfl dX8_groupsOf_48 ?_
      obtain ⟨σ8, eσ8, hm⟩ := Option.bind_eq_some_iff.mp hm
      refine zVv (rest := []) [.ref (ad (20 + k3)), .ref (ad 1)] hx hb hml hl.1 hown hT (k_X2_rank hk3 eσ8) zkX2_rank zw467 ⟨by decide, by decide⟩ rfl rfl hK hZ hP hD hS 4 rfl rfl rfl rfl (Nat.le_of_ble_eq_true rfl) ⟨Nat.zero_le _, Nat.zero_le _⟩ dX8_groupsOf_51 (fun H locs hP hD hS => ?_)
      refine lv_aload_n hx hb dX8_groupsOf_54 rfl (lv_at hl 1 rfl) ?_
      refine lv_iload_n hx hb dX8_groupsOf_55 rfl (lv_at hl 2 rfl) ?_
      obtain ⟨σ9, eσ9, hm⟩ := Option.bind_eq_some_iff.mp hm
      refine zput (j := 1) (ty := .int) hx hb hT zinX8 tyX8 tyX8_ok nmX8 hown hK hP hD hS 0 rfl rfl 6 (by decide) zw250 rfl (by decide +kernel) rfl rfl (Nat.le_of_ble_eq_true rfl) eσ9 rfl dX8_groupsOf_56 (fun H locs hP hD hS => ?_)
      exact h59 σ9 k3 hk3 hm _ _ _ hP hD hS (lv_sub hl [1, 0] rfl)
set_option maxHeartbeats 4000000 in
set_option maxRecDepth 100000 in
theorem k_X8_groups {l : Launch} {D : va_G} {ad : Nat → Nat} {cI cJ cZ cO : ClassId} {t : Nat} {A : Nat → Prop} {N : Nat} {σ σ' : zS} {v1 : Int32} {r : Int32}  (hm : m_X8_groups N σ v1 = some (r, σ')) : zCi l yX8_groups cX8_groups 3 (some .int) (zR 6 144) D zclX (zty cI cJ cZ cO) t A (zwX ad cI cJ cZ cO) [.ref (ad 0), .int v1] σ σ' r := by
  refine zMi (by decide) (Nat.le_of_ble_eq_true rfl) ?_
  intro p e s m args below meth c Q hx hb hml hown hT hK hZ hret hP hD hS ls hl
  replace hown : s.vm.findClass RX8 = some m.cls := hown
  replace hl : lv_has ls 3 [(0, .ref (ad 0)), (1, .int v1)] := hl
  unfold m_X8_groups at hm
  refine lv_aload_n hx hb dX8_groups_0 rfl (lv_at hl 0 rfl) ?_
  refine lv_iload_n hx hb dX8_groups_1 rfl (lv_at hl 1 rfl) ?_
  obtain ⟨⟨o1, σ3⟩, eo1, hm⟩ := Option.bind_eq_some_iff.mp hm
  try dsimp only at hm
  refine zVq (rest := []) [.int v1] hx hb hml hl.1 hown hT (k_X8_groupsOf eo1) zkX8_groupsOf zw366 ⟨by decide, by decide⟩ rfl rfl hK hZ hP hD hS 0 rfl rfl rfl rfl (Nat.le_of_ble_eq_true rfl) ⟨Nat.zero_le _, Nat.zero_le _⟩ dX8_groups_2 (fun H locs hP hD hS => ?_)
  rcases o1 with _ | k4
  · simp only [Option.elim_none] at hm
    refine lv_astore_nN (lv' := [(2, .null), (0, .ref (ad 0)), (1, .int v1)]) hx hb dX8_groups_5 rfl hl (by decide) rfl (fun ls hl => ?_)
    refine lv_aload_nN hx hb dX8_groups_6 rfl (lv_at hl 0 rfl) ?_
    refine lv_ifnonnullN hx hb dX8_groups_7 ?_
    refine lv_ldc hx hb hown (hT _ zw306) dX8_groups_10 ?_
    refine lv_goto (tgt := 19) hx hb dX8_groups_12 (by decide) ?_
    cases hm
    exact hret _ _ _ _ dX8_groups_19 hP hD hS
  · simp only [Option.elim_some] at hm
    refine lv_astore_n (lv' := [(2, .ref (ad 4)), (0, .ref (ad 0)), (1, .int v1)]) hx hb dX8_groups_5 rfl hl (by decide) rfl (fun ls hl => ?_)
    refine lv_aload_n hx hb dX8_groups_6 rfl (lv_at hl 0 rfl) ?_
    refine lv_ifnonnull (tgt := 15) hx hb dX8_groups_7 (by decide) ?_
    refine lv_aload_n hx hb dX8_groups_15 rfl (lv_at hl 0 rfl) ?_
    refine zget (v := .int (σ3.1 5)) hx hb hT zinX2 hown hK hP 4 rfl rfl 0 (by decide) zw199 rfl dX8_groups_16 ?_
    cases hm
    exact hret _ _ _ _ dX8_groups_19 hP hD hS
set_option maxHeartbeats 4000000 in
set_option maxRecDepth 100000 in
theorem k_X8_group {l : Launch} {D : va_G} {ad : Nat → Nat} {cI cJ cZ cO : ClassId} {t : Nat} {A : Nat → Prop} {N : Nat} {σ σ' : zS} {v1 : Int32} {v2 : Int32} {v3 : Int32} {r : Int32}  (hm : m_X8_group N σ v1 v2 v3 = some (r, σ')) : zCi l yX8_group cX8_group 5 (some .int) (zR 6 144) D zclX (zty cI cJ cZ cO) t A (zwX ad cI cJ cZ cO) [.ref (ad 0), .int v1, .int v2, .int v3] σ σ' r := by
  refine zMi (by decide) (Nat.le_of_ble_eq_true rfl) ?_
  intro p e s m args below meth c Q hx hb hml hown hT hK hZ hret hP hD hS ls hl
  replace hown : s.vm.findClass RX8 = some m.cls := hown
  replace hl : lv_has ls 5 [(0, .ref (ad 0)), (1, .int v1), (2, .int v2), (3, .int v3)] := hl
  unfold m_X8_group at hm
  refine lv_aload_n hx hb dX8_group_0 rfl (lv_at hl 0 rfl) ?_
  refine lv_iload_n hx hb dX8_group_1 rfl (lv_at hl 1 rfl) ?_
  obtain ⟨⟨o1, σ3⟩, eo1, hm⟩ := Option.bind_eq_some_iff.mp hm
  try dsimp only at hm
  refine zVq (rest := []) [.int v1] hx hb hml hl.1 hown hT (k_X8_groupsOf eo1) zkX8_groupsOf zw366 ⟨by decide, by decide⟩ rfl rfl hK hZ hP hD hS 0 rfl rfl rfl rfl (Nat.le_of_ble_eq_true rfl) ⟨Nat.zero_le _, Nat.zero_le _⟩ dX8_group_2 (fun H locs hP hD hS => ?_)
  rcases o1 with _ | k4
  · simp only [Option.elim_none] at hm
    refine lv_astoreN (lv' := [(4, .null), (0, .ref (ad 0)), (1, .int v1), (2, .int v2), (3, .int v3)]) hx hb dX8_group_5 hl (by decide) rfl (fun ls hl => ?_)
    refine lv_aloadN hx hb dX8_group_7 (lv_at hl 0 rfl) ?_
    refine lv_ifnullN (tgt := 21) hx hb dX8_group_9 (by decide) ?_
    refine lv_ldc hx hb hown (hT _ zw306) dX8_group_21 ?_
    cases hm
    exact hret _ _ _ _ dX8_group_23 hP hD hS
  · simp only [Option.elim_some] at hm
    refine lv_astore (lv' := [(4, .ref (ad 4)), (0, .ref (ad 0)), (1, .int v1), (2, .int v2), (3, .int v3)]) hx hb dX8_group_5 hl (by decide) rfl (fun ls hl => ?_)
    refine lv_aload hx hb dX8_group_7 (lv_at hl 0 rfl) ?_
    refine lv_ifnull hx hb dX8_group_9 ?_
    refine lv_aload hx hb dX8_group_12 (lv_at hl 0 rfl) ?_
    refine lv_iload_n hx hb dX8_group_14 rfl (lv_at hl 3 rfl) ?_
    obtain ⟨b5, eb5, hm⟩ := Option.bind_eq_some_iff.mp hm
    refine zVi (rest := []) [.int v2] hx hb hml hl.1 hown hT (k_X2_has eb5) zkX2_has zw488 ⟨by decide, by decide⟩ rfl rfl hK hZ hP hD hS 4 rfl rfl rfl rfl (Nat.le_of_ble_eq_true rfl) ⟨Nat.zero_le _, Nat.zero_le _⟩ dX8_group_15 (fun H locs hP hD hS => ?_)
    refine lv_if_ne (tgt := 24) hx hb dX8_group_18 (by decide) (fun h6 => ?_) (fun h6 => ?_)
    · rw [if_neg h6] at hm
      refine lv_iload_n hx hb dX8_group_24 rfl (lv_at hl 4 rfl) ?_
      by_cases h7 : v3 = (0 : Int32)
      · rw [if_pos h7] at hm
        refine lv_tableIn (off := 27) (tgt := 52) hx hb dX8_group_25 (by rw [h7]; decide) (by rw [h7]; decide) (by rw [h7]; rfl) (by decide) ?_
        refine lv_aload hx hb dX8_group_52 (lv_at hl 0 rfl) ?_
        refine lv_iload_n hx hb dX8_group_54 rfl (lv_at hl 3 rfl) ?_
        obtain ⟨b8, eb8, hm⟩ := Option.bind_eq_some_iff.mp hm
        refine zVi (rest := []) [.int v2] hx hb hml hl.1 hown hT (k_X2_keyOf eb8) zkX2_keyOf zw492 ⟨by decide, by decide⟩ rfl rfl hK hZ hP hD hS 4 rfl rfl rfl rfl (Nat.le_of_ble_eq_true rfl) ⟨Nat.zero_le _, Nat.zero_le _⟩ dX8_group_55 (fun H locs hP hD hS => ?_)
        cases hm
        exact hret _ _ _ _ dX8_group_58 hP hD hS
      · rw [if_neg h7] at hm
        by_cases h9 : v3 = (1 : Int32)
        · rw [if_pos h9] at hm
          refine lv_tableIn (off := 34) (tgt := 59) hx hb dX8_group_25 (by rw [h9]; decide) (by rw [h9]; decide) (by rw [h9]; rfl) (by decide) ?_
          refine lv_aload hx hb dX8_group_59 (lv_at hl 0 rfl) ?_
          refine lv_iload_n hx hb dX8_group_61 rfl (lv_at hl 3 rfl) ?_
          obtain ⟨b10, eb10, hm⟩ := Option.bind_eq_some_iff.mp hm
          refine zVi (rest := []) [.int v2] hx hb hml hl.1 hown hT (k_X2_sizeOf eb10) zkX2_sizeOf zw506 ⟨by decide, by decide⟩ rfl rfl hK hZ hP hD hS 4 rfl rfl rfl rfl (Nat.le_of_ble_eq_true rfl) ⟨Nat.zero_le _, Nat.zero_le _⟩ dX8_group_62 (fun H locs hP hD hS => ?_)
          cases hm
          exact hret _ _ _ _ dX8_group_65 hP hD hS
        · rw [if_neg h9] at hm
          by_cases h11 : v3 = (2 : Int32)
          · rw [if_pos h11] at hm
            refine lv_tableIn (off := 41) (tgt := 66) hx hb dX8_group_25 (by rw [h11]; decide) (by rw [h11]; decide) (by rw [h11]; rfl) (by decide) ?_
            refine lv_aload hx hb dX8_group_66 (lv_at hl 0 rfl) ?_
            refine lv_iload_n hx hb dX8_group_68 rfl (lv_at hl 3 rfl) ?_
            obtain ⟨b12, eb12, hm⟩ := Option.bind_eq_some_iff.mp hm
            refine zVi (rest := []) [.int v2] hx hb hml hl.1 hown hT (k_X2_isMissing eb12) zkX2_isMissing zw510 ⟨by decide, by decide⟩ rfl rfl hK hZ hP hD hS 4 rfl rfl rfl rfl (Nat.le_of_ble_eq_true rfl) ⟨Nat.zero_le _, Nat.zero_le _⟩ dX8_group_69 (fun H locs hP hD hS => ?_)
            refine lv_if_eq (tgt := 79) hx hb dX8_group_72 (by decide) (fun h13 => ?_) (fun h13 => ?_)
            · rw [if_pos h13] at hm
              refine lv_iconst (v := (0 : Int32)) hx hb dX8_group_79 (by decide) ?_
              cases hm
              exact hret _ _ _ _ dX8_group_80 hP hD hS
            · rw [if_neg h13] at hm
              refine lv_iconst (v := (1 : Int32)) hx hb dX8_group_75 (by decide) ?_
              refine lv_goto (tgt := 80) hx hb dX8_group_76 (by decide) ?_
              cases hm
              exact hret _ _ _ _ dX8_group_80 hP hD hS
          · rw [if_neg h11] at hm
            have ah7 := lv_neT (a := 0) h7 (by decide)
            have ah9 := lv_neT (a := 1) h9 (by decide)
            have ah11 := lv_neT (a := 2) h11 (by decide)
            refine lv_tableOut (tgt := 81) hx hb dX8_group_25 (by omega) (by decide) ?_
            refine lv_ldc hx hb hown (hT _ zw306) dX8_group_81 ?_
            cases hm
            exact hret _ _ _ _ dX8_group_83 hP hD hS
    · rw [if_pos h6] at hm
      refine lv_ldc hx hb hown (hT _ zw306) dX8_group_21 ?_
      cases hm
      exact hret _ _ _ _ dX8_group_23 hP hD hS
set_option maxHeartbeats 4000000 in
set_option maxRecDepth 100000 in
theorem k_X8_find {l : Launch} {D : va_G} {ad : Nat → Nat} {cI cJ cZ cO : ClassId} {t : Nat} {A : Nat → Prop} {N : Nat} {σ σ' : zS} {v1 : Int32} {v2 : Int32} {r : Int32}  (hm : m_X8_find N σ v1 v2 = some (r, σ')) : zCi l yX8_find cX8_find 4 (some .int) (zR 6 144) D zclX (zty cI cJ cZ cO) t A (zwX ad cI cJ cZ cO) [.ref (ad 0), .int v1, .int v2] σ σ' r := by
  refine zMi (by decide) (Nat.le_of_ble_eq_true rfl) ?_
  intro p e s m args below meth c Q hx hb hml hown hT hK hZ hret hP hD hS ls hl
  replace hown : s.vm.findClass RX8 = some m.cls := hown
  replace hl : lv_has ls 4 [(0, .ref (ad 0)), (1, .int v1), (2, .int v2)] := hl
  unfold m_X8_find at hm
  refine lv_aload_n hx hb dX8_find_0 rfl (lv_at hl 0 rfl) ?_
  refine lv_iload_n hx hb dX8_find_1 rfl (lv_at hl 1 rfl) ?_
  obtain ⟨⟨o1, σ3⟩, eo1, hm⟩ := Option.bind_eq_some_iff.mp hm
  try dsimp only at hm
  refine zVq (rest := []) [.int v1] hx hb hml hl.1 hown hT (k_X8_groupsOf eo1) zkX8_groupsOf zw366 ⟨by decide, by decide⟩ rfl rfl hK hZ hP hD hS 0 rfl rfl rfl rfl (Nat.le_of_ble_eq_true rfl) ⟨Nat.zero_le _, Nat.zero_le _⟩ dX8_find_2 (fun H locs hP hD hS => ?_)
  rcases o1 with _ | k4
  · simp only [Option.elim_none] at hm
    refine lv_astore_nN (lv' := [(3, .null), (0, .ref (ad 0)), (1, .int v1), (2, .int v2)]) hx hb dX8_find_5 rfl hl (by decide) rfl (fun ls hl => ?_)
    refine lv_aload_nN hx hb dX8_find_6 rfl (lv_at hl 0 rfl) ?_
    refine lv_ifnonnullN hx hb dX8_find_7 ?_
    refine lv_ldc hx hb hown (hT _ zw306) dX8_find_10 ?_
    refine lv_goto (tgt := 20) hx hb dX8_find_12 (by decide) ?_
    cases hm
    exact hret _ _ _ _ dX8_find_20 hP hD hS
  · simp only [Option.elim_some] at hm
    refine lv_astore_n (lv' := [(3, .ref (ad 4)), (0, .ref (ad 0)), (1, .int v1), (2, .int v2)]) hx hb dX8_find_5 rfl hl (by decide) rfl (fun ls hl => ?_)
    refine lv_aload_n hx hb dX8_find_6 rfl (lv_at hl 0 rfl) ?_
    refine lv_ifnonnull (tgt := 15) hx hb dX8_find_7 (by decide) ?_
    refine lv_aload_n hx hb dX8_find_15 rfl (lv_at hl 0 rfl) ?_
    refine lv_iload_n hx hb dX8_find_16 rfl (lv_at hl 3 rfl) ?_
    obtain ⟨b5, eb5, hm⟩ := Option.bind_eq_some_iff.mp hm
    refine zVi (rest := []) [.int v2] hx hb hml hl.1 hown hT (k_X2_numberOf eb5) zkX2_numberOf zw515 ⟨by decide, by decide⟩ rfl rfl hK hZ hP hD hS 4 rfl rfl rfl rfl (Nat.le_of_ble_eq_true rfl) ⟨Nat.zero_le _, Nat.zero_le _⟩ dX8_find_17 (fun H locs hP hD hS => ?_)
    cases hm
    exact hret _ _ _ _ dX8_find_20 hP hD hS
set_option maxHeartbeats 4000000 in
set_option maxRecDepth 100000 in
theorem k_X8_in {l : Launch} {D : va_G} {ad : Nat → Nat} {cI cJ cZ cO : ClassId} {t : Nat} {A : Nat → Prop} {N : Nat} {σ σ' : zS} {v1 : Int32} {v2 : Int32} {v3 : Int32} {r : Int32}  (hm : m_X8_in N σ v1 v2 v3 = some (r, σ')) : zCi l yX8_in cX8_in 5 (some .int) (zR 6 144) D zclX (zty cI cJ cZ cO) t A (zwX ad cI cJ cZ cO) [.ref (ad 0), .int v1, .int v2, .int v3] σ σ' r := by
  refine zMi (by decide) (Nat.le_of_ble_eq_true rfl) ?_
  intro p e s m args below meth c Q hx hb hml hown hT hK hZ hret hP hD hS ls hl
  replace hown : s.vm.findClass RX8 = some m.cls := hown
  replace hl : lv_has ls 5 [(0, .ref (ad 0)), (1, .int v1), (2, .int v2), (3, .int v3)] := hl
  unfold m_X8_in at hm
  refine lv_aload_n hx hb dX8_in_0 rfl (lv_at hl 0 rfl) ?_
  refine lv_iload_n hx hb dX8_in_1 rfl (lv_at hl 1 rfl) ?_
  obtain ⟨⟨o1, σ3⟩, eo1, hm⟩ := Option.bind_eq_some_iff.mp hm
  try dsimp only at hm
  refine zVq (rest := []) [.int v1] hx hb hml hl.1 hown hT (k_X8_groupsOf eo1) zkX8_groupsOf zw366 ⟨by decide, by decide⟩ rfl rfl hK hZ hP hD hS 0 rfl rfl rfl rfl (Nat.le_of_ble_eq_true rfl) ⟨Nat.zero_le _, Nat.zero_le _⟩ dX8_in_2 (fun H locs hP hD hS => ?_)
  rcases o1 with _ | k4
  · simp only [Option.elim_none] at hm
    refine lv_astoreN (lv' := [(4, .null), (0, .ref (ad 0)), (1, .int v1), (2, .int v2), (3, .int v3)]) hx hb dX8_in_5 hl (by decide) rfl (fun ls hl => ?_)
    refine lv_aloadN hx hb dX8_in_7 (lv_at hl 0 rfl) ?_
    refine lv_ifnullN (tgt := 32) hx hb dX8_in_9 (by decide) ?_
    refine lv_ldc hx hb hown (hT _ zw306) dX8_in_32 ?_
    cases hm
    exact hret _ _ _ _ dX8_in_34 hP hD hS
  · simp only [Option.elim_some] at hm
    refine lv_astore (lv' := [(4, .ref (ad 4)), (0, .ref (ad 0)), (1, .int v1), (2, .int v2), (3, .int v3)]) hx hb dX8_in_5 hl (by decide) rfl (fun ls hl => ?_)
    refine lv_aload hx hb dX8_in_7 (lv_at hl 0 rfl) ?_
    refine lv_ifnull hx hb dX8_in_9 ?_
    refine lv_aload hx hb dX8_in_12 (lv_at hl 0 rfl) ?_
    refine lv_iload_n hx hb dX8_in_14 rfl (lv_at hl 3 rfl) ?_
    obtain ⟨b5, eb5, hm⟩ := Option.bind_eq_some_iff.mp hm
    refine zVi (rest := []) [.int v2] hx hb hml hl.1 hown hT (k_X2_has eb5) zkX2_has zw488 ⟨by decide, by decide⟩ rfl rfl hK hZ hP hD hS 4 rfl rfl rfl rfl (Nat.le_of_ble_eq_true rfl) ⟨Nat.zero_le _, Nat.zero_le _⟩ dX8_in_15 (fun H locs hP hD hS => ?_)
    refine lv_if_eq (tgt := 32) hx hb dX8_in_18 (by decide) (fun h6 => ?_) (fun h6 => ?_)
    · rw [if_pos h6] at hm
      refine lv_ldc hx hb hown (hT _ zw306) dX8_in_32 ?_
      cases hm
      exact hret _ _ _ _ dX8_in_34 hP hD hS
    · rw [if_neg h6] at hm
      refine lv_aload_n hx hb dX8_in_21 rfl (lv_at hl 1 rfl) ?_
      refine zget (v := .ref (ad 1)) hx hb hT zinX8 hown hK hP 0 rfl rfl 0 (by decide) zw244 rfl dX8_in_22 ?_
      refine lv_iload_n hx hb dX8_in_25 rfl (lv_at hl 4 rfl) ?_
      obtain ⟨b7, eb7, hm⟩ := Option.bind_eq_some_iff.mp hm
      refine zVi (rest := []) [.int v3] hx hb hml hl.1 hown hT (k_X6_has eb7) zkX6_has zw294 ⟨by decide, by decide⟩ rfl rfl hK hZ hP hD hS 1 rfl rfl rfl rfl (Nat.le_of_ble_eq_true rfl) ⟨Nat.zero_le _, Nat.zero_le _⟩ dX8_in_26 (fun H locs hP hD hS => ?_)
      refine lv_if_ne (tgt := 35) hx hb dX8_in_29 (by decide) (fun h8 => ?_) (fun h8 => ?_)
      · rw [if_neg h8] at hm
        refine lv_aload hx hb dX8_in_35 (lv_at hl 0 rfl) ?_
        refine lv_iload_n hx hb dX8_in_37 rfl (lv_at hl 3 rfl) ?_
        refine lv_iload_n hx hb dX8_in_38 rfl (lv_at hl 4 rfl) ?_
        obtain ⟨b9, eb9, hm⟩ := Option.bind_eq_some_iff.mp hm
        refine zVi (rest := []) [.int v2, .int v3] hx hb hml hl.1 hown hT (k_X2_holds eb9) zkX2_holds zw524 ⟨by decide, by decide⟩ rfl rfl hK hZ hP hD hS 4 rfl rfl rfl rfl (Nat.le_of_ble_eq_true rfl) ⟨Nat.zero_le _, Nat.zero_le _⟩ dX8_in_39 (fun H locs hP hD hS => ?_)
        refine lv_if_eq (tgt := 49) hx hb dX8_in_42 (by decide) (fun h10 => ?_) (fun h10 => ?_)
        · rw [if_pos h10] at hm
          refine lv_iconst (v := (0 : Int32)) hx hb dX8_in_49 (by decide) ?_
          cases hm
          exact hret _ _ _ _ dX8_in_50 hP hD hS
        · rw [if_neg h10] at hm
          refine lv_iconst (v := (1 : Int32)) hx hb dX8_in_45 (by decide) ?_
          refine lv_goto (tgt := 50) hx hb dX8_in_46 (by decide) ?_
          cases hm
          exact hret _ _ _ _ dX8_in_50 hP hD hS
      · rw [if_pos h8] at hm
        refine lv_ldc hx hb hown (hT _ zw306) dX8_in_32 ?_
        cases hm
        exact hret _ _ _ _ dX8_in_34 hP hD hS
set_option maxHeartbeats 4000000 in
set_option maxRecDepth 100000 in
theorem k_X8_enter {l : Launch} {D : va_G} {ad : Nat → Nat} {cI cJ cZ cO : ClassId} {t : Nat} {A : Nat → Prop} {N : Nat} {σ σ' : zS} {v1 : Int32} {v2 : Int32} {r : Int32}  (hm : m_X8_enter N σ v1 v2 = some (r, σ')) : zCi l yX8_enter cX8_enter 6 (some .int) (zR 6 144) D zclX (zty cI cJ cZ cO) t A (zwX ad cI cJ cZ cO) [.ref (ad 0), .int v1, .int v2] σ σ' r := by
  refine zMi (by decide) (Nat.le_of_ble_eq_true rfl) ?_
  intro p e s m args below meth c Q hx hb hml hown hT hK hZ hret hP hD hS ls hl
  replace hown : s.vm.findClass RX8 = some m.cls := hown
  replace hl : lv_has ls 6 [(0, .ref (ad 0)), (1, .int v1), (2, .int v2)] := hl
  have hL53 : ∀ (v4_10 : Int32), ∀ (q : zS × Int32) (r : zS), ziter (fun q : zS × Int32 => m_X8_enter_L53 N v1 v2 v4_10 q.1 q.2) N q = some r → (∀ (H : Heap) (locs : List Loc) (ls : Array Slot), va_P D zclX (zwX ad cI cJ cZ cO r) H → va_D A (zwX ad cI cJ cZ cO r) → va_S A s.heap H locs → lv_has ls 6 [(0, .ref (ad 0)), (4, .int v4_10)] → W p l e (zR 6 144) s m args below meth c H locs 0 0 Q (F0 m 80 ls [])) → ∀ (H : Heap) (locs : List Loc) (ls : Array Slot), va_P D zclX (zwX ad cI cJ cZ cO q.1) H → va_D A (zwX ad cI cJ cZ cO q.1) → va_S A s.heap H locs → lv_has ls 6 [(0, .ref (ad 0)), (2, .int v2), (3, .ref (ad 4)), (4, .int v4_10), (5, .int q.2)] → W p l e (zR 6 144) s m args below meth c H locs 0 0 Q (F0 m 53 ls []) := by
    intro v4_10
    intro q r
    refine ziter_W (Hd := fun q : zS × Int32 => ∀ (H : Heap) (locs : List Loc) (ls : Array Slot), va_P D zclX (zwX ad cI cJ cZ cO q.1) H → va_D A (zwX ad cI cJ cZ cO q.1) → va_S A s.heap H locs → lv_has ls 6 [(0, .ref (ad 0)), (2, .int v2), (3, .ref (ad 4)), (4, .int v4_10), (5, .int q.2)] → W p l e (zR 6 144) s m args below meth c H locs 0 0 Q (F0 m 53 ls [])) (Ex := fun r : zS => ∀ (H : Heap) (locs : List Loc) (ls : Array Slot), va_P D zclX (zwX ad cI cJ cZ cO r) H → va_D A (zwX ad cI cJ cZ cO r) → va_S A s.heap H locs → lv_has ls 6 [(0, .ref (ad 0)), (4, .int v4_10)] → W p l e (zR 6 144) s m args below meth c H locs 0 0 Q (F0 m 80 ls [])) ?_ N q r
    rintro ⟨σ10, v5_10⟩ res hm hk H locs ls hP hD hS hl
    try dsimp only at hP hD hl
    replace hm : m_X8_enter_L53 N v1 v2 v4_10 σ10 v5_10 = some res := hm
    unfold m_X8_enter_L53 at hm
    refine lv_iload hx hb dX8_enter_53 (lv_at hl 4 rfl) ?_
    refine lv_iload hx hb dX8_enter_55 (lv_at hl 3 rfl) ?_
    refine lv_icmp_ge (tgt := 80) hx hb dX8_enter_57 (by decide) (fun h11 => ?_) (fun h11 => ?_)
    · rw [if_pos h11] at hm
      cases hm
      exact hk _ _ _ hP hD hS (lv_sub hl [0, 3] rfl)
    · rw [if_neg h11] at hm
      refine lv_aload_n hx hb dX8_enter_60 rfl (lv_at hl 0 rfl) ?_
      refine zget (v := .ref (ad 2)) hx hb hT zinX8 hown hK hP 0 rfl rfl 1 (by decide) zw245 rfl dX8_enter_61 ?_
      refine lv_aload_n hx hb dX8_enter_64 rfl (lv_at hl 2 rfl) ?_
      refine lv_iload_n hx hb dX8_enter_65 rfl (lv_at hl 1 rfl) ?_
      refine lv_iload hx hb dX8_enter_66 (lv_at hl 4 rfl) ?_
      obtain ⟨b12, eb12, hm⟩ := Option.bind_eq_some_iff.mp hm
      refine zVi (rest := [.ref (ad 2)]) [.int v2, .int v5_10] hx hb hml hl.1 hown hT (k_X2_memberOf eb12) zkX2_memberOf zw541 ⟨by decide, by decide⟩ rfl rfl hK hZ hP hD hS 4 rfl rfl rfl rfl (Nat.le_of_ble_eq_true rfl) ⟨Nat.zero_le _, Nat.zero_le _⟩ dX8_enter_68 (fun H locs hP hD hS => ?_)
      obtain ⟨σ13, eσ13, hm⟩ := Option.bind_eq_some_iff.mp hm
      refine zVv (rest := []) [.int b12] hx hb hml hl.1 hown hT (k_X3_keep eσ13) zkX3_keep zw542 ⟨by decide, by decide⟩ rfl rfl hK hZ hP hD hS 2 rfl rfl rfl rfl (Nat.le_of_ble_eq_true rfl) ⟨Nat.zero_le _, Nat.zero_le _⟩ dX8_enter_71 (fun H locs hP hD hS => ?_)
      refine lv_iinc (v := (v5_10 + (1 : Int32))) (lv' := [(5, .int (v5_10 + (1 : Int32))), (0, .ref (ad 0)), (2, .int v2), (3, .ref (ad 4)), (4, .int v4_10)]) hx hb dX8_enter_74 hl (k := 4) rfl rfl (by decide) rfl (fun ls hl => ?_)
      refine lv_goto (tgt := 53) hx hb dX8_enter_77 (by decide) ?_
      cases hm
      exact hk _ _ _ hP hD hS (lv_sub hl [1, 2, 3, 4, 0] rfl)
  have h80 : ∀ (σ16 : zS) (v4_16 : Int32), m_X8_enter_80 N v1 v2 σ16 v4_16 = some (r, σ') → ∀ (H : Heap) (locs : List Loc) (ls : Array Slot), va_P D zclX (zwX ad cI cJ cZ cO σ16) H → va_D A (zwX ad cI cJ cZ cO σ16) → va_S A s.heap H locs → lv_has ls 6 [(0, .ref (ad 0)), (4, .int v4_16)] → W p l e (zR 6 144) s m args below meth c H locs 0 0 Q (F0 m 80 ls []) := by
    intro σ16 v4_16 hm H locs ls hP hD hS hl
    unfold m_X8_enter_80 at hm
    refine lv_aload_n hx hb dX8_enter_80 rfl (lv_at hl 0 rfl) ?_
    refine lv_ldc hx hb hown (hT _ zw243) dX8_enter_81 ?_
    obtain ⟨σ17, eσ17, hm⟩ := Option.bind_eq_some_iff.mp hm
    refine zput (j := 1) (ty := .int) hx hb hT zinX8 tyX8 tyX8_ok nmX8 hown hK hP hD hS 0 rfl rfl 6 (by decide) zw250 rfl (by decide +kernel) rfl rfl (Nat.le_of_ble_eq_true rfl) eσ17 rfl dX8_enter_83 (fun H locs hP hD hS => ?_)
    refine lv_iload hx hb dX8_enter_86 (lv_at hl 1 rfl) ?_
    cases hm
    exact hret _ _ _ _ dX8_enter_88 hP hD hS
  unfold m_X8_enter at hm
  refine lv_aload_n hx hb dX8_enter_0 rfl (lv_at hl 0 rfl) ?_
  refine lv_iload_n hx hb dX8_enter_1 rfl (lv_at hl 1 rfl) ?_
  obtain ⟨⟨o1, σ3⟩, eo1, hm⟩ := Option.bind_eq_some_iff.mp hm
  try dsimp only at hm
  refine zVq (rest := []) [.int v1] hx hb hml hl.1 hown hT (k_X8_groupsOf eo1) zkX8_groupsOf zw366 ⟨by decide, by decide⟩ rfl rfl hK hZ hP hD hS 0 rfl rfl rfl rfl (Nat.le_of_ble_eq_true rfl) ⟨Nat.zero_le _, Nat.zero_le _⟩ dX8_enter_2 (fun H locs hP hD hS => ?_)
  rcases o1 with _ | k4
  · simp only [Option.elim_none] at hm
    refine lv_astore_nN (lv' := [(3, .null), (0, .ref (ad 0)), (1, .int v1), (2, .int v2)]) hx hb dX8_enter_5 rfl hl (by decide) rfl (fun ls hl => ?_)
    refine lv_aload_nN hx hb dX8_enter_6 rfl (lv_at hl 0 rfl) ?_
    refine lv_ifnullN (tgt := 18) hx hb dX8_enter_7 (by decide) ?_
    refine lv_ldc hx hb hown (hT _ zw306) dX8_enter_18 ?_
    cases hm
    exact hret _ _ _ _ dX8_enter_20 hP hD hS
  · simp only [Option.elim_some] at hm
    refine lv_astore_n (lv' := [(3, .ref (ad 4)), (0, .ref (ad 0)), (1, .int v1), (2, .int v2)]) hx hb dX8_enter_5 rfl hl (by decide) rfl (fun ls hl => ?_)
    refine lv_aload_n hx hb dX8_enter_6 rfl (lv_at hl 0 rfl) ?_
    refine lv_ifnull hx hb dX8_enter_7 ?_
    refine lv_aload_n hx hb dX8_enter_10 rfl (lv_at hl 0 rfl) ?_
    refine lv_iload_n hx hb dX8_enter_11 rfl (lv_at hl 3 rfl) ?_
    obtain ⟨b5, eb5, hm⟩ := Option.bind_eq_some_iff.mp hm
    refine zVi (rest := []) [.int v2] hx hb hml hl.1 hown hT (k_X2_has eb5) zkX2_has zw488 ⟨by decide, by decide⟩ rfl rfl hK hZ hP hD hS 4 rfl rfl rfl rfl (Nat.le_of_ble_eq_true rfl) ⟨Nat.zero_le _, Nat.zero_le _⟩ dX8_enter_12 (fun H locs hP hD hS => ?_)
    refine lv_if_ne (tgt := 21) hx hb dX8_enter_15 (by decide) (fun h6 => ?_) (fun h6 => ?_)
    · rw [if_neg h6] at hm
      refine lv_aload_n hx hb dX8_enter_21 rfl (lv_at hl 1 rfl) ?_
      refine zget (v := .ref (ad 2)) hx hb hT zinX8 hown hK hP 0 rfl rfl 1 (by decide) zw245 rfl dX8_enter_22 ?_
      refine zget (v := .int (σ3.1 3)) hx hb hT zinX3 hown hK hP 2 rfl rfl 0 (by decide) zw103 rfl dX8_enter_25 ?_
      refine lv_bipush (v := (6 : Int32)) hx hb dX8_enter_28 (by decide) ?_
      refine lv_icmp_lt (tgt := 36) hx hb dX8_enter_30 (by decide) (fun h7 => ?_) (fun h7 => ?_)
      · rw [if_pos h7] at hm
        refine lv_aload_n hx hb dX8_enter_36 rfl (lv_at hl 0 rfl) ?_
        refine lv_iload_n hx hb dX8_enter_37 rfl (lv_at hl 3 rfl) ?_
        obtain ⟨b8, eb8, hm⟩ := Option.bind_eq_some_iff.mp hm
        refine zVi (rest := []) [.int v2] hx hb hml hl.1 hown hT (k_X2_sizeOf eb8) zkX2_sizeOf zw506 ⟨by decide, by decide⟩ rfl rfl hK hZ hP hD hS 4 rfl rfl rfl rfl (Nat.le_of_ble_eq_true rfl) ⟨Nat.zero_le _, Nat.zero_le _⟩ dX8_enter_38 (fun H locs hP hD hS => ?_)
        refine lv_istore (lv' := [(4, .int b8), (3, .ref (ad 4)), (0, .ref (ad 0)), (1, .int v1), (2, .int v2)]) hx hb dX8_enter_41 hl (by decide) rfl (fun ls hl => ?_)
        refine lv_aload_n hx hb dX8_enter_43 rfl (lv_at hl 2 rfl) ?_
        refine zget (v := .ref (ad 2)) hx hb hT zinX8 hown hK hP 0 rfl rfl 1 (by decide) zw245 rfl dX8_enter_44 ?_
        obtain ⟨σ9, eσ9, hm⟩ := Option.bind_eq_some_iff.mp hm
        refine zVv (rest := []) [] hx hb hml hl.1 hown hT (k_X3_startNarrowing eσ9) zkX3_startNarrowing zw537 ⟨by decide, by decide⟩ rfl rfl hK hZ hP hD hS 2 rfl rfl rfl rfl (Nat.le_of_ble_eq_true rfl) ⟨Nat.zero_le _, Nat.zero_le _⟩ dX8_enter_47 (fun H locs hP hD hS => ?_)
        refine lv_iconst (v := (0 : Int32)) hx hb dX8_enter_50 (by decide) ?_
        refine lv_istore (lv' := [(5, .int (0 : Int32)), (4, .int b8), (3, .ref (ad 4)), (0, .ref (ad 0)), (1, .int v1), (2, .int v2)]) hx hb dX8_enter_51 hl (by decide) rfl (fun ls hl => ?_)
        obtain ⟨σ15, e18, hm⟩ := Option.bind_eq_some_iff.mp hm
        refine hL53 b8 _ σ15 e18 ?_ _ _ _ hP hD hS (lv_sub hl [3, 5, 2, 1, 0] rfl)
        intro H locs ls hP hD hS hl
        try dsimp only at hP hD hl
        replace hm : m_X8_enter_80 N v1 v2 σ15 b8 = some (r, σ') := hm
        exact h80 σ15 b8 hm _ _ _ hP hD hS (lv_sub hl [0, 1] rfl)
      · rw [if_neg h7] at hm
        refine lv_ldc hx hb hown (hT _ zw270) dX8_enter_33 ?_
        cases hm
        exact hret _ _ _ _ dX8_enter_35 hP hD hS
    · rw [if_pos h6] at hm
      refine lv_ldc hx hb hown (hT _ zw306) dX8_enter_18 ?_
      cases hm
      exact hret _ _ _ _ dX8_enter_20 hP hD hS
set_option maxHeartbeats 4000000 in
set_option maxRecDepth 100000 in
theorem k_X8_leave {l : Launch} {D : va_G} {ad : Nat → Nat} {cI cJ cZ cO : ClassId} {t : Nat} {A : Nat → Prop} {N : Nat} {σ σ' : zS}  {r : Int32}  (hm : m_X8_leave N σ = some (r, σ')) : zCi l yX8_leave cX8_leave 1 (some .int) (zR 3 63) D zclX (zty cI cJ cZ cO) t A (zwX ad cI cJ cZ cO) [.ref (ad 0)] σ σ' r := by
  refine zMi (by decide) (Nat.le_of_ble_eq_true rfl) ?_
  intro p e s m args below meth c Q hx hb hml hown hT hK hZ hret hP hD hS ls hl
  replace hown : s.vm.findClass RX8 = some m.cls := hown
  replace hl : lv_has ls 1 [(0, .ref (ad 0))] := hl
  unfold m_X8_leave at hm
  refine lv_aload_n hx hb dX8_leave_0 rfl (lv_at hl 0 rfl) ?_
  refine zget (v := .ref (ad 2)) hx hb hT zinX8 hown hK hP 0 rfl rfl 1 (by decide) zw245 rfl dX8_leave_1 ?_
  refine zget (v := .int (σ.1 3)) hx hb hT zinX3 hown hK hP 2 rfl rfl 0 (by decide) zw103 rfl dX8_leave_4 ?_
  refine lv_if_ne (tgt := 13) hx hb dX8_leave_7 (by decide) (fun h1 => ?_) (fun h1 => ?_)
  · rw [if_neg h1] at hm
    refine lv_aload_n hx hb dX8_leave_13 rfl (lv_at hl 0 rfl) ?_
    refine zget (v := .ref (ad 2)) hx hb hT zinX8 hown hK hP 0 rfl rfl 1 (by decide) zw245 rfl dX8_leave_14 ?_
    obtain ⟨σ2, eσ2, hm⟩ := Option.bind_eq_some_iff.mp hm
    refine zVv (rest := []) [] hx hb hml hl.1 hown hT (k_X3_widen eσ2) zkX3_widen zw550 ⟨by decide, by decide⟩ rfl rfl hK hZ hP hD hS 2 rfl rfl rfl rfl (Nat.le_of_ble_eq_true rfl) ⟨Nat.zero_le _, Nat.zero_le _⟩ dX8_leave_17 (fun H locs hP hD hS => ?_)
    refine lv_aload_n hx hb dX8_leave_20 rfl (lv_at hl 0 rfl) ?_
    refine lv_ldc hx hb hown (hT _ zw243) dX8_leave_21 ?_
    obtain ⟨σ3, eσ3, hm⟩ := Option.bind_eq_some_iff.mp hm
    refine zput (j := 1) (ty := .int) hx hb hT zinX8 tyX8 tyX8_ok nmX8 hown hK hP hD hS 0 rfl rfl 6 (by decide) zw250 rfl (by decide +kernel) rfl rfl (Nat.le_of_ble_eq_true rfl) eσ3 rfl dX8_leave_23 (fun H locs hP hD hS => ?_)
    refine lv_aload_n hx hb dX8_leave_26 rfl (lv_at hl 0 rfl) ?_
    refine zget (v := .ref (ad 2)) hx hb hT zinX8 hown hK hP 0 rfl rfl 1 (by decide) zw245 rfl dX8_leave_27 ?_
    refine zget (v := .int (σ3.1 3)) hx hb hT zinX3 hown hK hP 2 rfl rfl 0 (by decide) zw103 rfl dX8_leave_30 ?_
    cases hm
    exact hret _ _ _ _ dX8_leave_33 hP hD hS
  · rw [if_pos h1] at hm
    refine lv_ldc hx hb hown (hT _ zw341) dX8_leave_10 ?_
    cases hm
    exact hret _ _ _ _ dX8_leave_12 hP hD hS
set_option maxHeartbeats 4000000 in
set_option maxRecDepth 100000 in
theorem k_X8_hand {l : Launch} {D : va_G} {ad : Nat → Nat} {cI cJ cZ cO : ClassId} {t : Nat} {A : Nat → Prop} {N : Nat} {σ : zS}  {r : Int32}  (hm : m_X8_hand N σ = some r) : zCi l yX8_hand cX8_hand 3 (some .int) (zR 1 21) D zclX (zty cI cJ cZ cO) t A (zwX ad cI cJ cZ cO) [.ref (ad 0)] σ σ r := by
  refine zMi (by decide) (Nat.le_of_ble_eq_true rfl) ?_
  intro p e s m args below meth c Q hx hb hml hown hT hK hZ hret hP hD hS ls hl
  replace hown : s.vm.findClass RX8 = some m.cls := hown
  replace hl : lv_has ls 3 [(0, .ref (ad 0))] := hl
  have hL4 : ∀ (q : Int32 × Int32) (r : Int32), ziter (fun q : Int32 × Int32 => m_X8_hand_L4 N σ q.1 q.2) N q = some r → (∀ (H : Heap) (locs : List Loc) (ls : Array Slot), va_P D zclX (zwX ad cI cJ cZ cO σ) H → va_D A (zwX ad cI cJ cZ cO σ) → va_S A s.heap H locs → lv_has ls 3 [(1, .int r)] → W p l e (zR 1 21) s m args below meth c H locs 0 0 Q (F0 m 35 ls [])) → ∀ (H : Heap) (locs : List Loc) (ls : Array Slot), va_P D zclX (zwX ad cI cJ cZ cO σ) H → va_D A (zwX ad cI cJ cZ cO σ) → va_S A s.heap H locs → lv_has ls 3 [(0, .ref (ad 0)), (1, .int q.1), (2, .int q.2)] → W p l e (zR 1 21) s m args below meth c H locs 0 0 Q (F0 m 4 ls []) := by
    intro q r
    refine ziter_W (Hd := fun q : Int32 × Int32 => ∀ (H : Heap) (locs : List Loc) (ls : Array Slot), va_P D zclX (zwX ad cI cJ cZ cO σ) H → va_D A (zwX ad cI cJ cZ cO σ) → va_S A s.heap H locs → lv_has ls 3 [(0, .ref (ad 0)), (1, .int q.1), (2, .int q.2)] → W p l e (zR 1 21) s m args below meth c H locs 0 0 Q (F0 m 4 ls [])) (Ex := fun r : Int32 => ∀ (H : Heap) (locs : List Loc) (ls : Array Slot), va_P D zclX (zwX ad cI cJ cZ cO σ) H → va_D A (zwX ad cI cJ cZ cO σ) → va_S A s.heap H locs → lv_has ls 3 [(1, .int r)] → W p l e (zR 1 21) s m args below meth c H locs 0 0 Q (F0 m 35 ls [])) ?_ N q r
    rintro ⟨v1_1, v2_1⟩ res hm hk H locs ls hP hD hS hl
    try dsimp only at hP hD hl
    replace hm : m_X8_hand_L4 N σ v1_1 v2_1 = some res := hm
    have h29 : ∀ (v1_5 : Int32) (v2_5 : Int32), m_X8_hand_29_in4 N σ v1_5 v2_5 = some res → ∀ (H : Heap) (locs : List Loc) (ls : Array Slot), va_P D zclX (zwX ad cI cJ cZ cO σ) H → va_D A (zwX ad cI cJ cZ cO σ) → va_S A s.heap H locs → lv_has ls 3 [(0, .ref (ad 0)), (1, .int v1_5), (2, .int v2_5)] → W p l e (zR 1 21) s m args below meth c H locs 0 0 Q (F0 m 29 ls []) := by
      intro v1_5 v2_5 hm H locs ls hP hD hS hl
      unfold m_X8_hand_29_in4 at hm
      refine lv_iinc (v := (v2_5 + (1 : Int32))) (lv' := [(2, .int (v2_5 + (1 : Int32))), (0, .ref (ad 0)), (1, .int v1_5)]) hx hb dX8_hand_29 hl (k := 2) rfl rfl (by decide) rfl (fun ls hl => ?_)
      refine lv_goto (tgt := 4) hx hb dX8_hand_32 (by decide) ?_
      cases hm
      exact hk _ _ _ hP hD hS (lv_sub hl [1, 2, 0] rfl)
    unfold m_X8_hand_L4 at hm
    refine lv_iload_n hx hb dX8_hand_4 rfl (lv_at hl 2 rfl) ?_
    refine lv_aload_n hx hb dX8_hand_5 rfl (lv_at hl 0 rfl) ?_
    refine zget (v := .ref (ad 1)) hx hb hT zinX8 hown hK hP 0 rfl rfl 0 (by decide) zw244 rfl dX8_hand_6 ?_
    refine zget (v := .int (σ.1 2)) hx hb hT zinX6 hown hK hP 1 rfl rfl 0 (by decide) zw78 rfl dX8_hand_9 ?_
    refine lv_icmp_ge (tgt := 35) hx hb dX8_hand_12 (by decide) (fun h2 => ?_) (fun h2 => ?_)
    · rw [if_pos h2] at hm
      cases hm
      exact hk _ _ _ hP hD hS (lv_sub hl [1] rfl)
    · rw [if_neg h2] at hm
      refine lv_aload_n hx hb dX8_hand_15 rfl (lv_at hl 0 rfl) ?_
      refine zget (v := .ref (ad 2)) hx hb hT zinX8 hown hK hP 0 rfl rfl 1 (by decide) zw245 rfl dX8_hand_16 ?_
      refine lv_iload_n hx hb dX8_hand_19 rfl (lv_at hl 2 rfl) ?_
      obtain ⟨b3, eb3, hm⟩ := Option.bind_eq_some_iff.mp hm
      refine zVi (rest := []) [.int v2_1] hx hb hml hl.1 hown hT (k_X3_has eb3) zkX3_has zw558 ⟨by decide, by decide⟩ rfl rfl hK hZ hP hD hS 2 rfl rfl rfl rfl (Nat.le_of_ble_eq_true rfl) ⟨Nat.zero_le _, Nat.zero_le _⟩ dX8_hand_20 (fun H locs hP hD hS => ?_)
      refine lv_if_eq (tgt := 29) hx hb dX8_hand_23 (by decide) (fun h4 => ?_) (fun h4 => ?_)
      · rw [if_pos h4] at hm
        exact h29 v1_1 v2_1 hm _ _ _ hP hD hS (lv_sub hl [0, 1, 2] rfl)
      · rw [if_neg h4] at hm
        refine lv_iinc (v := (v1_1 + (1 : Int32))) (lv' := [(1, .int (v1_1 + (1 : Int32))), (0, .ref (ad 0)), (2, .int v2_1)]) hx hb dX8_hand_26 hl (k := 1) rfl rfl (by decide) rfl (fun ls hl => ?_)
        exact h29 (v1_1 + (1 : Int32)) v2_1 hm _ _ _ hP hD hS (lv_sub hl [1, 0, 2] rfl)
  have h35 : ∀ (v1_8 : Int32), m_X8_hand_35 N σ v1_8 = some r → ∀ (H : Heap) (locs : List Loc) (ls : Array Slot), va_P D zclX (zwX ad cI cJ cZ cO σ) H → va_D A (zwX ad cI cJ cZ cO σ) → va_S A s.heap H locs → lv_has ls 3 [(1, .int v1_8)] → W p l e (zR 1 21) s m args below meth c H locs 0 0 Q (F0 m 35 ls []) := by
    intro v1_8 hm H locs ls hP hD hS hl
    unfold m_X8_hand_35 at hm
    refine lv_iload_n hx hb dX8_hand_35 rfl (lv_at hl 0 rfl) ?_
    cases hm
    exact hret _ _ _ _ dX8_hand_36 hP hD hS
  unfold m_X8_hand at hm
  refine lv_iconst (v := (0 : Int32)) hx hb dX8_hand_0 (by decide) ?_
  refine lv_istore_n (lv' := [(1, .int (0 : Int32)), (0, .ref (ad 0))]) hx hb dX8_hand_1 rfl hl (by decide) rfl (fun ls hl => ?_)
  refine lv_iconst (v := (0 : Int32)) hx hb dX8_hand_2 (by decide) ?_
  refine lv_istore_n (lv' := [(2, .int (0 : Int32)), (1, .int (0 : Int32)), (0, .ref (ad 0))]) hx hb dX8_hand_3 rfl hl (by decide) rfl (fun ls hl => ?_)
  obtain ⟨v1_7, e9, hm⟩ := Option.bind_eq_some_iff.mp hm
  refine hL4  _ v1_7 e9 ?_ _ _ _ hP hD hS (lv_sub hl [2, 1, 0] rfl)
  intro H locs ls hP hD hS hl
  try dsimp only at hP hD hl
  replace hm : m_X8_hand_35 N σ v1_7 = some r := hm
  exact h35 v1_7 hm _ _ _ hP hD hS (lv_sub hl [0] rfl)
set_option maxHeartbeats 4000000 in
set_option maxRecDepth 100000 in
theorem k_X8_sampleIsTaken {l : Launch} {D : va_G} {ad : Nat → Nat} {cI cJ cZ cO : ClassId} {t : Nat} {A : Nat → Prop} {N : Nat} {σ σ' : zS} {v1 : Int32} {v2 : Int32} {v3 : Int32} {r : Int32}  (hm : m_X8_sampleIsTaken N σ v1 v2 v3 = some (r, σ')) : zCi l yX8_sampleIsTaken cX8_sampleIsTaken 7 (some .boolean) (zR 6 144) D zclX (zty cI cJ cZ cO) t A (zwX ad cI cJ cZ cO) [.ref (ad 0), .int v1, .int v2, .int v3] σ σ' r := by
  refine zMz (by decide) (Nat.le_of_ble_eq_true rfl) ?_
  intro p e s m args below meth c Q hx hb hml hown hT hK hZ hret hP hD hS ls hl
  replace hown : s.vm.findClass RX8 = some m.cls := hown
  replace hl : lv_has ls 7 [(0, .ref (ad 0)), (1, .int v1), (2, .int v2), (3, .int v3)] := hl
  have hL105 : ∀ (v5_12 : Int32), ∀ (q : zS × Int32) (r : zS), ziter (fun q : zS × Int32 => m_X8_sampleIsTaken_L105 N v1 v2 v3 v5_12 q.1 q.2) N q = some r → (∀ (H : Heap) (locs : List Loc) (ls : Array Slot), va_P D zclX (zwX ad cI cJ cZ cO r) H → va_D A (zwX ad cI cJ cZ cO r) → va_S A s.heap H locs → lv_has ls 7 [] → W p l e (zR 6 144) s m args below meth c H locs 0 0 Q (F0 m 138 ls [])) → ∀ (H : Heap) (locs : List Loc) (ls : Array Slot), va_P D zclX (zwX ad cI cJ cZ cO q.1) H → va_D A (zwX ad cI cJ cZ cO q.1) → va_S A s.heap H locs → lv_has ls 7 [(0, .ref (ad 0)), (2, .int v2), (3, .int v3), (4, .ref (ad 4)), (5, .int v5_12), (6, .int q.2)] → W p l e (zR 6 144) s m args below meth c H locs 0 0 Q (F0 m 105 ls []) := by
    intro v5_12
    intro q r
    refine ziter_W (Hd := fun q : zS × Int32 => ∀ (H : Heap) (locs : List Loc) (ls : Array Slot), va_P D zclX (zwX ad cI cJ cZ cO q.1) H → va_D A (zwX ad cI cJ cZ cO q.1) → va_S A s.heap H locs → lv_has ls 7 [(0, .ref (ad 0)), (2, .int v2), (3, .int v3), (4, .ref (ad 4)), (5, .int v5_12), (6, .int q.2)] → W p l e (zR 6 144) s m args below meth c H locs 0 0 Q (F0 m 105 ls [])) (Ex := fun r : zS => ∀ (H : Heap) (locs : List Loc) (ls : Array Slot), va_P D zclX (zwX ad cI cJ cZ cO r) H → va_D A (zwX ad cI cJ cZ cO r) → va_S A s.heap H locs → lv_has ls 7 [] → W p l e (zR 6 144) s m args below meth c H locs 0 0 Q (F0 m 138 ls [])) ?_ N q r
    rintro ⟨σ12, v6_12⟩ res hm hk H locs ls hP hD hS hl
    try dsimp only at hP hD hl
    replace hm : m_X8_sampleIsTaken_L105 N v1 v2 v3 v5_12 σ12 v6_12 = some res := hm
    unfold m_X8_sampleIsTaken_L105 at hm
    refine lv_iload hx hb dX8_sampleIsTaken_105 (lv_at hl 5 rfl) ?_
    refine lv_iload hx hb dX8_sampleIsTaken_107 (lv_at hl 4 rfl) ?_
    refine lv_icmp_ge (tgt := 138) hx hb dX8_sampleIsTaken_109 (by decide) (fun h13 => ?_) (fun h13 => ?_)
    · rw [if_pos h13] at hm
      cases hm
      exact hk _ _ _ hP hD hS (lv_sub hl [] rfl)
    · rw [if_neg h13] at hm
      refine lv_aload_n hx hb dX8_sampleIsTaken_112 rfl (lv_at hl 0 rfl) ?_
      refine zget (v := .ref (ad 5)) hx hb hT zinX8 hown hK hP 0 rfl rfl 4 (by decide) zw248 rfl dX8_sampleIsTaken_113 ?_
      refine lv_aload_n hx hb dX8_sampleIsTaken_116 rfl (lv_at hl 0 rfl) ?_
      refine zget (v := .ref (ad 1)) hx hb hT zinX8 hown hK hP 0 rfl rfl 0 (by decide) zw244 rfl dX8_sampleIsTaken_117 ?_
      refine lv_aload hx hb dX8_sampleIsTaken_120 (lv_at hl 3 rfl) ?_
      refine lv_iload_n hx hb dX8_sampleIsTaken_122 rfl (lv_at hl 1 rfl) ?_
      refine lv_iload hx hb dX8_sampleIsTaken_123 (lv_at hl 5 rfl) ?_
      obtain ⟨b14, eb14, hm⟩ := Option.bind_eq_some_iff.mp hm
      refine zVi (rest := [.ref (ad 1), .ref (ad 5)]) [.int v2, .int v6_12] hx hb hml hl.1 hown hT (k_X2_memberOf eb14) zkX2_memberOf zw541 ⟨by decide, by decide⟩ rfl rfl hK hZ hP hD hS 4 rfl rfl rfl rfl (Nat.le_of_ble_eq_true rfl) ⟨Nat.zero_le _, Nat.zero_le _⟩ dX8_sampleIsTaken_125 (fun H locs hP hD hS => ?_)
      refine lv_iload_n hx hb dX8_sampleIsTaken_128 rfl (lv_at hl 2 rfl) ?_
      obtain ⟨σ15, eσ15, hm⟩ := Option.bind_eq_some_iff.mp hm
      refine zVv (rest := []) [.ref (ad 1), .int b14, .int v3] hx hb hml hl.1 hown hT (k_X7_take eσ15) zkX7_take zw571 ⟨by decide, by decide⟩ rfl rfl hK hZ hP hD hS 5 rfl rfl rfl rfl (Nat.le_of_ble_eq_true rfl) ⟨Nat.zero_le _, Nat.zero_le _⟩ dX8_sampleIsTaken_129 (fun H locs hP hD hS => ?_)
      refine lv_iinc (v := (v6_12 + (1 : Int32))) (lv' := [(6, .int (v6_12 + (1 : Int32))), (0, .ref (ad 0)), (2, .int v2), (3, .int v3), (4, .ref (ad 4)), (5, .int v5_12)]) hx hb dX8_sampleIsTaken_132 hl (k := 5) rfl rfl (by decide) rfl (fun ls hl => ?_)
      refine lv_goto (tgt := 105) hx hb dX8_sampleIsTaken_135 (by decide) ?_
      cases hm
      exact hk _ _ _ hP hD hS (lv_sub hl [1, 2, 3, 4, 5, 0] rfl)
  have h138 : ∀ (σ18 : zS), m_X8_sampleIsTaken_138 N v1 v2 v3 σ18 = some (r, σ') → ∀ (H : Heap) (locs : List Loc) (ls : Array Slot), va_P D zclX (zwX ad cI cJ cZ cO σ18) H → va_D A (zwX ad cI cJ cZ cO σ18) → va_S A s.heap H locs → lv_has ls 7 [] → W p l e (zR 6 144) s m args below meth c H locs 0 0 Q (F0 m 138 ls []) := by
    intro σ18 hm H locs ls hP hD hS hl
    unfold m_X8_sampleIsTaken_138 at hm
    refine lv_iconst (v := (1 : Int32)) hx hb dX8_sampleIsTaken_138 (by decide) ?_
    cases hm
    exact hret _ _ _ _ (by decide) dX8_sampleIsTaken_139 hP hD hS
  have hL25 : ∀ (q : zS × Int32) (r : zS), ziter (fun q : zS × Int32 => m_X8_sampleIsTaken_L25 N v1 v2 v3 q.1 q.2) N q = some r → (∀ (H : Heap) (locs : List Loc) (ls : Array Slot), va_P D zclX (zwX ad cI cJ cZ cO r) H → va_D A (zwX ad cI cJ cZ cO r) → va_S A s.heap H locs → lv_has ls 7 [] → W p l e (zR 6 144) s m args below meth c H locs 0 0 Q (F0 m 69 ls [])) → ∀ (H : Heap) (locs : List Loc) (ls : Array Slot), va_P D zclX (zwX ad cI cJ cZ cO q.1) H → va_D A (zwX ad cI cJ cZ cO q.1) → va_S A s.heap H locs → lv_has ls 7 [(0, .ref (ad 0)), (3, .int v3), (4, .int q.2)] → W p l e (zR 6 144) s m args below meth c H locs 0 0 Q (F0 m 25 ls []) := by
    intro q r
    refine ziter_W (Hd := fun q : zS × Int32 => ∀ (H : Heap) (locs : List Loc) (ls : Array Slot), va_P D zclX (zwX ad cI cJ cZ cO q.1) H → va_D A (zwX ad cI cJ cZ cO q.1) → va_S A s.heap H locs → lv_has ls 7 [(0, .ref (ad 0)), (3, .int v3), (4, .int q.2)] → W p l e (zR 6 144) s m args below meth c H locs 0 0 Q (F0 m 25 ls [])) (Ex := fun r : zS => ∀ (H : Heap) (locs : List Loc) (ls : Array Slot), va_P D zclX (zwX ad cI cJ cZ cO r) H → va_D A (zwX ad cI cJ cZ cO r) → va_S A s.heap H locs → lv_has ls 7 [] → W p l e (zR 6 144) s m args below meth c H locs 0 0 Q (F0 m 69 ls [])) ?_ N q r
    rintro ⟨σ20, v4_20⟩ res hm hk H locs ls hP hD hS hl
    try dsimp only at hP hD hl
    replace hm : m_X8_sampleIsTaken_L25 N v1 v2 v3 σ20 v4_20 = some res := hm
    have h63 : ∀ (σ24 : zS) (v4_24 : Int32), m_X8_sampleIsTaken_63_in25 N v1 v2 v3 σ24 v4_24 = some res → ∀ (H : Heap) (locs : List Loc) (ls : Array Slot), va_P D zclX (zwX ad cI cJ cZ cO σ24) H → va_D A (zwX ad cI cJ cZ cO σ24) → va_S A s.heap H locs → lv_has ls 7 [(0, .ref (ad 0)), (3, .int v3), (4, .int v4_24)] → W p l e (zR 6 144) s m args below meth c H locs 0 0 Q (F0 m 63 ls []) := by
      intro σ24 v4_24 hm H locs ls hP hD hS hl
      unfold m_X8_sampleIsTaken_63_in25 at hm
      refine lv_iinc (v := (v4_24 + (1 : Int32))) (lv' := [(4, .int (v4_24 + (1 : Int32))), (0, .ref (ad 0)), (3, .int v3)]) hx hb dX8_sampleIsTaken_63 hl (k := 2) rfl rfl (by decide) rfl (fun ls hl => ?_)
      refine lv_goto (tgt := 25) hx hb dX8_sampleIsTaken_66 (by decide) ?_
      cases hm
      exact hk _ _ _ hP hD hS (lv_sub hl [1, 2, 0] rfl)
    unfold m_X8_sampleIsTaken_L25 at hm
    refine lv_iload hx hb dX8_sampleIsTaken_25 (lv_at hl 2 rfl) ?_
    refine lv_aload_n hx hb dX8_sampleIsTaken_27 rfl (lv_at hl 0 rfl) ?_
    refine zget (v := .ref (ad 1)) hx hb hT zinX8 hown hK hP 0 rfl rfl 0 (by decide) zw244 rfl dX8_sampleIsTaken_28 ?_
    refine zget (v := .int (σ20.1 2)) hx hb hT zinX6 hown hK hP 1 rfl rfl 0 (by decide) zw78 rfl dX8_sampleIsTaken_31 ?_
    refine lv_icmp_ge (tgt := 69) hx hb dX8_sampleIsTaken_34 (by decide) (fun h21 => ?_) (fun h21 => ?_)
    · rw [if_pos h21] at hm
      cases hm
      exact hk _ _ _ hP hD hS (lv_sub hl [] rfl)
    · rw [if_neg h21] at hm
      refine lv_aload_n hx hb dX8_sampleIsTaken_37 rfl (lv_at hl 0 rfl) ?_
      refine zget (v := .ref (ad 2)) hx hb hT zinX8 hown hK hP 0 rfl rfl 1 (by decide) zw245 rfl dX8_sampleIsTaken_38 ?_
      refine lv_iload hx hb dX8_sampleIsTaken_41 (lv_at hl 2 rfl) ?_
      obtain ⟨b22, eb22, hm⟩ := Option.bind_eq_some_iff.mp hm
      refine zVi (rest := []) [.int v4_20] hx hb hml hl.1 hown hT (k_X3_has eb22) zkX3_has zw558 ⟨by decide, by decide⟩ rfl rfl hK hZ hP hD hS 2 rfl rfl rfl rfl (Nat.le_of_ble_eq_true rfl) ⟨Nat.zero_le _, Nat.zero_le _⟩ dX8_sampleIsTaken_43 (fun H locs hP hD hS => ?_)
      refine lv_if_eq (tgt := 63) hx hb dX8_sampleIsTaken_46 (by decide) (fun h23 => ?_) (fun h23 => ?_)
      · rw [if_pos h23] at hm
        exact h63 σ20 v4_20 hm _ _ _ hP hD hS (lv_sub hl [0, 1, 2] rfl)
      · rw [if_neg h23] at hm
        refine lv_aload_n hx hb dX8_sampleIsTaken_49 rfl (lv_at hl 0 rfl) ?_
        refine zget (v := .ref (ad 5)) hx hb hT zinX8 hown hK hP 0 rfl rfl 4 (by decide) zw248 rfl dX8_sampleIsTaken_50 ?_
        refine lv_aload_n hx hb dX8_sampleIsTaken_53 rfl (lv_at hl 0 rfl) ?_
        refine zget (v := .ref (ad 1)) hx hb hT zinX8 hown hK hP 0 rfl rfl 0 (by decide) zw244 rfl dX8_sampleIsTaken_54 ?_
        refine lv_iload hx hb dX8_sampleIsTaken_57 (lv_at hl 2 rfl) ?_
        refine lv_iload_n hx hb dX8_sampleIsTaken_59 rfl (lv_at hl 1 rfl) ?_
        obtain ⟨σ25, eσ25, hm⟩ := Option.bind_eq_some_iff.mp hm
        refine zVv (rest := []) [.ref (ad 1), .int v4_20, .int v3] hx hb hml hl.1 hown hT (k_X7_take eσ25) zkX7_take zw571 ⟨by decide, by decide⟩ rfl rfl hK hZ hP hD hS 5 rfl rfl rfl rfl (Nat.le_of_ble_eq_true rfl) ⟨Nat.zero_le _, Nat.zero_le _⟩ dX8_sampleIsTaken_60 (fun H locs hP hD hS => ?_)
        exact h63 σ25 v4_20 hm _ _ _ hP hD hS (lv_sub hl [0, 1, 2] rfl)
  have h69 : ∀ (σ28 : zS), m_X8_sampleIsTaken_69 N v1 v2 v3 σ28 = some (r, σ') → ∀ (H : Heap) (locs : List Loc) (ls : Array Slot), va_P D zclX (zwX ad cI cJ cZ cO σ28) H → va_D A (zwX ad cI cJ cZ cO σ28) → va_S A s.heap H locs → lv_has ls 7 [] → W p l e (zR 6 144) s m args below meth c H locs 0 0 Q (F0 m 69 ls []) := by
    intro σ28 hm H locs ls hP hD hS hl
    unfold m_X8_sampleIsTaken_69 at hm
    refine lv_iconst (v := (1 : Int32)) hx hb dX8_sampleIsTaken_69 (by decide) ?_
    cases hm
    exact hret _ _ _ _ (by decide) dX8_sampleIsTaken_70 hP hD hS
  unfold m_X8_sampleIsTaken at hm
  refine lv_iload_n hx hb dX8_sampleIsTaken_0 rfl (lv_at hl 3 rfl) ?_
  obtain ⟨b1, eb1, hm⟩ := Option.bind_eq_some_iff.mp hm
  refine zSi (rest := []) [.int v3] hx hb hml hl.1 hown hT (k_X8_isColumn eb1) zkX8_isColumn zw298 ⟨by decide, by decide⟩ rfl rfl hK hZ hP hD hS rfl rfl (Nat.le_of_ble_eq_true rfl) ⟨Nat.zero_le _, Nat.zero_le _⟩ dX8_sampleIsTaken_1 (fun H locs hP hD hS => ?_)
  refine lv_if_ne (tgt := 9) hx hb dX8_sampleIsTaken_4 (by decide) (fun h2 => ?_) (fun h2 => ?_)
  · rw [if_neg h2] at hm
    refine lv_aload_n hx hb dX8_sampleIsTaken_9 rfl (lv_at hl 0 rfl) ?_
    refine zget (v := .ref (ad 5)) hx hb hT zinX8 hown hK hP 0 rfl rfl 4 (by decide) zw248 rfl dX8_sampleIsTaken_10 ?_
    obtain ⟨σ3, eσ3, hm⟩ := Option.bind_eq_some_iff.mp hm
    refine zVv (rest := []) [] hx hb hml hl.1 hown hT (k_X7_startOver eσ3) zkX7_startOver zw567 ⟨by decide, by decide⟩ rfl rfl hK hZ hP hD hS 5 rfl rfl rfl rfl (Nat.le_of_ble_eq_true rfl) ⟨Nat.zero_le _, Nat.zero_le _⟩ dX8_sampleIsTaken_13 (fun H locs hP hD hS => ?_)
    refine lv_iload_n hx hb dX8_sampleIsTaken_16 rfl (lv_at hl 2 rfl) ?_
    refine lv_ldc hx hb hown (hT _ zw243) dX8_sampleIsTaken_17 ?_
    refine lv_icmp_ne (tgt := 71) hx hb dX8_sampleIsTaken_19 (by decide) (fun h4 => ?_) (fun h4 => ?_)
    · rw [if_neg h4] at hm
      refine lv_aload_n hx hb dX8_sampleIsTaken_71 rfl (lv_at hl 0 rfl) ?_
      refine lv_iload_n hx hb dX8_sampleIsTaken_72 rfl (lv_at hl 1 rfl) ?_
      obtain ⟨⟨o5, σ7⟩, eo5, hm⟩ := Option.bind_eq_some_iff.mp hm
      try dsimp only at hm
      refine zVq (rest := []) [.int v1] hx hb hml hl.1 hown hT (k_X8_groupsOf eo5) zkX8_groupsOf zw366 ⟨by decide, by decide⟩ rfl rfl hK hZ hP hD hS 0 rfl rfl rfl rfl (Nat.le_of_ble_eq_true rfl) ⟨Nat.zero_le _, Nat.zero_le _⟩ dX8_sampleIsTaken_73 (fun H locs hP hD hS => ?_)
      rcases o5 with _ | k8
      · simp only [Option.elim_none] at hm
        refine lv_astoreN (lv' := [(4, .null), (0, .ref (ad 0)), (1, .int v1), (2, .int v2), (3, .int v3)]) hx hb dX8_sampleIsTaken_76 hl (by decide) rfl (fun ls hl => ?_)
        refine lv_aloadN hx hb dX8_sampleIsTaken_78 (lv_at hl 0 rfl) ?_
        refine lv_ifnullN (tgt := 92) hx hb dX8_sampleIsTaken_80 (by decide) ?_
        refine lv_iconst (v := (0 : Int32)) hx hb dX8_sampleIsTaken_92 (by decide) ?_
        cases hm
        exact hret _ _ _ _ (by decide) dX8_sampleIsTaken_93 hP hD hS
      · simp only [Option.elim_some] at hm
        refine lv_astore (lv' := [(4, .ref (ad 4)), (0, .ref (ad 0)), (1, .int v1), (2, .int v2), (3, .int v3)]) hx hb dX8_sampleIsTaken_76 hl (by decide) rfl (fun ls hl => ?_)
        refine lv_aload hx hb dX8_sampleIsTaken_78 (lv_at hl 0 rfl) ?_
        refine lv_ifnull hx hb dX8_sampleIsTaken_80 ?_
        refine lv_aload hx hb dX8_sampleIsTaken_83 (lv_at hl 0 rfl) ?_
        refine lv_iload_n hx hb dX8_sampleIsTaken_85 rfl (lv_at hl 3 rfl) ?_
        obtain ⟨b9, eb9, hm⟩ := Option.bind_eq_some_iff.mp hm
        refine zVi (rest := []) [.int v2] hx hb hml hl.1 hown hT (k_X2_has eb9) zkX2_has zw488 ⟨by decide, by decide⟩ rfl rfl hK hZ hP hD hS 4 rfl rfl rfl rfl (Nat.le_of_ble_eq_true rfl) ⟨Nat.zero_le _, Nat.zero_le _⟩ dX8_sampleIsTaken_86 (fun H locs hP hD hS => ?_)
        refine lv_if_ne (tgt := 94) hx hb dX8_sampleIsTaken_89 (by decide) (fun h10 => ?_) (fun h10 => ?_)
        · rw [if_neg h10] at hm
          refine lv_aload hx hb dX8_sampleIsTaken_94 (lv_at hl 0 rfl) ?_
          refine lv_iload_n hx hb dX8_sampleIsTaken_96 rfl (lv_at hl 3 rfl) ?_
          obtain ⟨b11, eb11, hm⟩ := Option.bind_eq_some_iff.mp hm
          refine zVi (rest := []) [.int v2] hx hb hml hl.1 hown hT (k_X2_sizeOf eb11) zkX2_sizeOf zw506 ⟨by decide, by decide⟩ rfl rfl hK hZ hP hD hS 4 rfl rfl rfl rfl (Nat.le_of_ble_eq_true rfl) ⟨Nat.zero_le _, Nat.zero_le _⟩ dX8_sampleIsTaken_97 (fun H locs hP hD hS => ?_)
          refine lv_istore (lv' := [(5, .int b11), (4, .ref (ad 4)), (0, .ref (ad 0)), (1, .int v1), (2, .int v2), (3, .int v3)]) hx hb dX8_sampleIsTaken_100 hl (by decide) rfl (fun ls hl => ?_)
          refine lv_iconst (v := (0 : Int32)) hx hb dX8_sampleIsTaken_102 (by decide) ?_
          refine lv_istore (lv' := [(6, .int (0 : Int32)), (5, .int b11), (4, .ref (ad 4)), (0, .ref (ad 0)), (1, .int v1), (2, .int v2), (3, .int v3)]) hx hb dX8_sampleIsTaken_103 hl (by decide) rfl (fun ls hl => ?_)
          obtain ⟨σ17, e19, hm⟩ := Option.bind_eq_some_iff.mp hm
          refine hL105 b11 _ σ17 e19 ?_ _ _ _ hP hD hS (lv_sub hl [3, 5, 6, 2, 1, 0] rfl)
          intro H locs ls hP hD hS hl
          try dsimp only at hP hD hl
          replace hm : m_X8_sampleIsTaken_138 N v1 v2 v3 σ17 = some (r, σ') := hm
          exact h138 σ17 hm _ _ _ hP hD hS (lv_sub hl [] rfl)
        · rw [if_pos h10] at hm
          refine lv_iconst (v := (0 : Int32)) hx hb dX8_sampleIsTaken_92 (by decide) ?_
          cases hm
          exact hret _ _ _ _ (by decide) dX8_sampleIsTaken_93 hP hD hS
    · rw [if_pos h4] at hm
      refine lv_iconst (v := (0 : Int32)) hx hb dX8_sampleIsTaken_22 (by decide) ?_
      refine lv_istore (lv' := [(4, .int (0 : Int32)), (0, .ref (ad 0)), (1, .int v1), (2, .int v2), (3, .int v3)]) hx hb dX8_sampleIsTaken_23 hl (by decide) rfl (fun ls hl => ?_)
      obtain ⟨σ27, e29, hm⟩ := Option.bind_eq_some_iff.mp hm
      refine hL25  _ σ27 e29 ?_ _ _ _ hP hD hS (lv_sub hl [1, 4, 0] rfl)
      intro H locs ls hP hD hS hl
      try dsimp only at hP hD hl
      replace hm : m_X8_sampleIsTaken_69 N v1 v2 v3 σ27 = some (r, σ') := hm
      exact h69 σ27 hm _ _ _ hP hD hS (lv_sub hl [] rfl)
  · rw [if_pos h2] at hm
    refine lv_iconst (v := (0 : Int32)) hx hb dX8_sampleIsTaken_7 (by decide) ?_
    cases hm
    exact hret _ _ _ _ (by decide) dX8_sampleIsTaken_8 hP hD hS
set_option maxHeartbeats 4000000 in
set_option maxRecDepth 100000 in
theorem k_X8_figure {l : Launch} {D : va_G} {ad : Nat → Nat} {cI cJ cZ cO : ClassId} {t : Nat} {A : Nat → Prop} {N : Nat} {σ σ' : zS} {v1 : Int32} {v2 : Int32} {v3 : Int32} {v4 : Int32} {r : Int64}  (hm : m_X8_figure N σ v1 v2 v3 v4 = some (r, σ')) : zCl l yX8_figure cX8_figure 5 (some .long) (zR 7 170) D zclX (zty cI cJ cZ cO) t A (zwX ad cI cJ cZ cO) [.ref (ad 0), .int v1, .int v2, .int v3, .int v4] σ σ' r := by
  refine zMl (by decide) (Nat.le_of_ble_eq_true rfl) ?_
  intro p e s m args below meth c Q hx hb hml hown hT hK hZ hret hP hD hS ls hl
  replace hown : s.vm.findClass RX8 = some m.cls := hown
  replace hl : lv_has ls 5 [(0, .ref (ad 0)), (1, .int v1), (2, .int v2), (3, .int v3), (4, .int v4)] := hl
  unfold m_X8_figure at hm
  refine lv_aload_n hx hb dX8_figure_0 rfl (lv_at hl 0 rfl) ?_
  refine lv_iload_n hx hb dX8_figure_1 rfl (lv_at hl 1 rfl) ?_
  refine lv_iload_n hx hb dX8_figure_2 rfl (lv_at hl 2 rfl) ?_
  refine lv_iload_n hx hb dX8_figure_3 rfl (lv_at hl 3 rfl) ?_
  obtain ⟨⟨b1, σ3⟩, eb1, hm⟩ := Option.bind_eq_some_iff.mp hm
  try dsimp only at hm
  refine zVi (rest := []) [.int v1, .int v2, .int v3] hx hb hml hl.1 hown hT (k_X8_sampleIsTaken eb1) zkX8_sampleIsTaken zw563 ⟨by decide, by decide⟩ rfl rfl hK hZ hP hD hS 0 rfl rfl rfl rfl (Nat.le_of_ble_eq_true rfl) ⟨Nat.zero_le _, Nat.zero_le _⟩ dX8_figure_4 (fun H locs hP hD hS => ?_)
  refine lv_if_eq (tgt := 22) hx hb dX8_figure_7 (by decide) (fun h4 => ?_) (fun h4 => ?_)
  · rw [if_pos h4] at hm
    refine lv_ldc2 hx hb hown (hT _ zw596) dX8_figure_22 ?_
    cases hm
    exact hret _ _ _ _ dX8_figure_25 hP hD hS
  · rw [if_neg h4] at hm
    refine lv_aload_n hx hb dX8_figure_10 rfl (lv_at hl 0 rfl) ?_
    refine zget (v := .ref (ad 5)) hx hb hT zinX8 hown hK hP 0 rfl rfl 4 (by decide) zw248 rfl dX8_figure_11 ?_
    refine lv_iload hx hb dX8_figure_14 (lv_at hl 4 rfl) ?_
    obtain ⟨⟨b5, σ7⟩, eb5, hm⟩ := Option.bind_eq_some_iff.mp hm
    try dsimp only at hm
    refine zVl (rest := []) [.int v4] hx hb hml hl.1 hown hT (k_X7_tell eb5) zkX7_tell zw577 ⟨by decide, by decide⟩ rfl rfl hK hZ hP hD hS 5 rfl rfl rfl rfl (Nat.le_of_ble_eq_true rfl) ⟨Nat.zero_le _, Nat.zero_le _⟩ dX8_figure_16 (fun H locs hP hD hS => ?_)
    refine lv_goto (tgt := 25) hx hb dX8_figure_19 (by decide) ?_
    cases hm
    exact hret _ _ _ _ dX8_figure_25 hP hD hS
set_option maxHeartbeats 4000000 in
set_option maxRecDepth 100000 in
theorem k_X8_place {l : Launch} {D : va_G} {ad : Nat → Nat} {cI cJ cZ cO : ClassId} {t : Nat} {A : Nat → Prop} {N : Nat} {σ σ' : zS} {v1 : Int32} {v2 : Int32} {v3 : Int32} {v4 : Int32} {r : Int32}  (hm : m_X8_place N σ v1 v2 v3 v4 = some (r, σ')) : zCi l yX8_place cX8_place 5 (some .int) (zR 7 170) D zclX (zty cI cJ cZ cO) t A (zwX ad cI cJ cZ cO) [.ref (ad 0), .int v1, .int v2, .int v3, .int v4] σ σ' r := by
  refine zMi (by decide) (Nat.le_of_ble_eq_true rfl) ?_
  intro p e s m args below meth c Q hx hb hml hown hT hK hZ hret hP hD hS ls hl
  replace hown : s.vm.findClass RX8 = some m.cls := hown
  replace hl : lv_has ls 5 [(0, .ref (ad 0)), (1, .int v1), (2, .int v2), (3, .int v3), (4, .int v4)] := hl
  unfold m_X8_place at hm
  refine lv_iload hx hb dX8_place_0 (lv_at hl 4 rfl) ?_
  refine lv_if_lt (tgt := 22) hx hb dX8_place_2 (by decide) (fun h1 => ?_) (fun h1 => ?_)
  · rw [if_pos h1] at hm
    refine lv_ldc hx hb hown (hT _ zw306) dX8_place_22 ?_
    cases hm
    exact hret _ _ _ _ dX8_place_24 hP hD hS
  · rw [if_neg h1] at hm
    refine lv_iload hx hb dX8_place_5 (lv_at hl 4 rfl) ?_
    refine lv_bipush (v := (100 : Int32)) hx hb dX8_place_7 (by decide) ?_
    refine lv_icmp_gt (tgt := 22) hx hb dX8_place_9 (by decide) (fun h2 => ?_) (fun h2 => ?_)
    · rw [if_pos h2] at hm
      refine lv_ldc hx hb hown (hT _ zw306) dX8_place_22 ?_
      cases hm
      exact hret _ _ _ _ dX8_place_24 hP hD hS
    · rw [if_neg h2] at hm
      refine lv_aload_n hx hb dX8_place_12 rfl (lv_at hl 0 rfl) ?_
      refine lv_iload_n hx hb dX8_place_13 rfl (lv_at hl 1 rfl) ?_
      refine lv_iload_n hx hb dX8_place_14 rfl (lv_at hl 2 rfl) ?_
      refine lv_iload_n hx hb dX8_place_15 rfl (lv_at hl 3 rfl) ?_
      obtain ⟨⟨b3, σ5⟩, eb3, hm⟩ := Option.bind_eq_some_iff.mp hm
      try dsimp only at hm
      refine zVi (rest := []) [.int v1, .int v2, .int v3] hx hb hml hl.1 hown hT (k_X8_sampleIsTaken eb3) zkX8_sampleIsTaken zw563 ⟨by decide, by decide⟩ rfl rfl hK hZ hP hD hS 0 rfl rfl rfl rfl (Nat.le_of_ble_eq_true rfl) ⟨Nat.zero_le _, Nat.zero_le _⟩ dX8_place_16 (fun H locs hP hD hS => ?_)
      refine lv_if_ne (tgt := 25) hx hb dX8_place_19 (by decide) (fun h6 => ?_) (fun h6 => ?_)
      · rw [if_neg h6] at hm
        refine lv_aload_n hx hb dX8_place_25 rfl (lv_at hl 0 rfl) ?_
        refine zget (v := .ref (ad 5)) hx hb hT zinX8 hown hK hP 0 rfl rfl 4 (by decide) zw248 rfl dX8_place_26 ?_
        refine lv_iload hx hb dX8_place_29 (lv_at hl 4 rfl) ?_
        obtain ⟨⟨b7, σ9⟩, eb7, hm⟩ := Option.bind_eq_some_iff.mp hm
        try dsimp only at hm
        refine zVi (rest := []) [.int v4] hx hb hml hl.1 hown hT (k_X7_atPercent eb7) zkX7_atPercent zw601 ⟨by decide, by decide⟩ rfl rfl hK hZ hP hD hS 5 rfl rfl rfl rfl (Nat.le_of_ble_eq_true rfl) ⟨Nat.zero_le _, Nat.zero_le _⟩ dX8_place_31 (fun H locs hP hD hS => ?_)
        cases hm
        exact hret _ _ _ _ dX8_place_34 hP hD hS
      · rw [if_pos h6] at hm
        refine lv_ldc hx hb hown (hT _ zw306) dX8_place_22 ?_
        cases hm
        exact hret _ _ _ _ dX8_place_24 hP hD hS
set_option maxHeartbeats 4000000 in
set_option maxRecDepth 100000 in
theorem k_X8_told {l : Launch} {D : va_G} {ad : Nat → Nat} {cI cJ cZ cO : ClassId} {t : Nat} {A : Nat → Prop} {N : Nat} {σ : zS} {v1 : Int32} {r : Int32}  (hm : m_X8_told N σ v1 = some r) : zCi l yX8_told cX8_told 2 (some .int) (zR 1 22) D zclX (zty cI cJ cZ cO) t A (zwX ad cI cJ cZ cO) [.ref (ad 0), .int v1] σ σ r := by
  refine zMi (by decide) (Nat.le_of_ble_eq_true rfl) ?_
  intro p e s m args below meth c Q hx hb hml hown hT hK hZ hret hP hD hS ls hl
  replace hown : s.vm.findClass RX8 = some m.cls := hown
  replace hl : lv_has ls 2 [(0, .ref (ad 0)), (1, .int v1)] := hl
  unfold m_X8_told at hm
  refine lv_iload_n hx hb dX8_told_0 rfl (lv_at hl 1 rfl) ?_
  by_cases h1 : v1 = (0 : Int32)
  · rw [if_pos h1] at hm
    refine lv_tableIn (off := 31) (tgt := 32) hx hb dX8_told_1 (by rw [h1]; decide) (by rw [h1]; decide) (by rw [h1]; rfl) (by decide) ?_
    refine lv_aload_n hx hb dX8_told_32 rfl (lv_at hl 0 rfl) ?_
    refine zget (v := .ref (ad 1)) hx hb hT zinX8 hown hK hP 0 rfl rfl 0 (by decide) zw244 rfl dX8_told_33 ?_
    refine zget (v := .int (σ.1 2)) hx hb hT zinX6 hown hK hP 1 rfl rfl 0 (by decide) zw78 rfl dX8_told_36 ?_
    cases hm
    exact hret _ _ _ _ dX8_told_39 hP hD hS
  · rw [if_neg h1] at hm
    by_cases h2 : v1 = (1 : Int32)
    · rw [if_pos h2] at hm
      refine lv_tableIn (off := 39) (tgt := 40) hx hb dX8_told_1 (by rw [h2]; decide) (by rw [h2]; decide) (by rw [h2]; rfl) (by decide) ?_
      refine lv_aload_n hx hb dX8_told_40 rfl (lv_at hl 0 rfl) ?_
      refine zget (v := .ref (ad 1)) hx hb hT zinX8 hown hK hP 0 rfl rfl 0 (by decide) zw244 rfl dX8_told_41 ?_
      obtain ⟨b3, eb3, hm⟩ := Option.bind_eq_some_iff.mp hm
      refine zVi (rest := []) [] hx hb hml hl.1 hown hT (k_X6_matching eb3) zkX6_matching zw612 ⟨by decide, by decide⟩ rfl rfl hK hZ hP hD hS 1 rfl rfl rfl rfl (Nat.le_of_ble_eq_true rfl) ⟨Nat.zero_le _, Nat.zero_le _⟩ dX8_told_44 (fun H locs hP hD hS => ?_)
      cases hm
      exact hret _ _ _ _ dX8_told_47 hP hD hS
    · rw [if_neg h2] at hm
      by_cases h4 : v1 = (2 : Int32)
      · rw [if_pos h4] at hm
        refine lv_tableIn (off := 47) (tgt := 48) hx hb dX8_told_1 (by rw [h4]; decide) (by rw [h4]; decide) (by rw [h4]; rfl) (by decide) ?_
        refine lv_aload_n hx hb dX8_told_48 rfl (lv_at hl 0 rfl) ?_
        refine zget (v := .int (σ.1 0)) hx hb hT zinX8 hown hK hP 0 rfl rfl 5 (by decide) zw249 rfl dX8_told_49 ?_
        cases hm
        exact hret _ _ _ _ dX8_told_52 hP hD hS
      · rw [if_neg h4] at hm
        by_cases h5 : v1 = (3 : Int32)
        · rw [if_pos h5] at hm
          refine lv_tableIn (off := 52) (tgt := 53) hx hb dX8_told_1 (by rw [h5]; decide) (by rw [h5]; decide) (by rw [h5]; rfl) (by decide) ?_
          refine lv_aload_n hx hb dX8_told_53 rfl (lv_at hl 0 rfl) ?_
          refine zget (v := .ref (ad 2)) hx hb hT zinX8 hown hK hP 0 rfl rfl 1 (by decide) zw245 rfl dX8_told_54 ?_
          refine zget (v := .int (σ.1 3)) hx hb hT zinX3 hown hK hP 2 rfl rfl 0 (by decide) zw103 rfl dX8_told_57 ?_
          cases hm
          exact hret _ _ _ _ dX8_told_60 hP hD hS
        · rw [if_neg h5] at hm
          have ah1 := lv_neT (a := 0) h1 (by decide)
          have ah2 := lv_neT (a := 1) h2 (by decide)
          have ah4 := lv_neT (a := 2) h4 (by decide)
          have ah5 := lv_neT (a := 3) h5 (by decide)
          refine lv_tableOut (tgt := 61) hx hb dX8_told_1 (by omega) (by decide) ?_
          refine lv_ldc hx hb hown (hT _ zw306) dX8_told_61 ?_
          cases hm
          exact hret _ _ _ _ dX8_told_63 hP hD hS
