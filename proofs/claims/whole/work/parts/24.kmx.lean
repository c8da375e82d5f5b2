set_option maxHeartbeats 4000000 in
set_option maxRecDepth 100000 in
theorem k_J9_floorMod_7cf53 {l : Launch} {D : va_G} {ad : Nat → Nat} {cI cJ cZ cO : ClassId} {t : Nat} {A : Nat → Prop} {N : Nat} {σ : zS} {v0 : Int32} {v1 : Int32} {r : Int32}  (hm : m_J9_floorMod_7cf53 N σ v0 v1 = some r) : zCi l yJ9_floorMod_7cf53 cJ9_floorMod_7cf53 3 (some .int) (zR 0 0) D zclX (zty cI cJ cZ cO) t A (zwX ad cI cJ cZ cO) [.int v0, .int v1] σ σ r := by
  refine zMiF (by decide +kernel) (Nat.le_of_ble_eq_true rfl) ?_
  intro p e s m args below meth c Q hx hb hml hown hT hK hZ hret hP hD hS ls hl
  replace hown : s.vm.findClass RJ9 = some m.cls := hown
  replace hl : lv_has ls 3 [(0, .int v0), (1, .int v1)] := hl
  unfold m_J9_floorMod_7cf53 at hm
  refine lv_iload_n hx hb dJ9_floorMod_7cf53_0 rfl (lv_at hl 0 rfl) ?_
  refine lv_iload_n hx hb dJ9_floorMod_7cf53_1 rfl (lv_at hl 1 rfl) ?_
  obtain ⟨b1, eb1, hm⟩ := Option.bind_eq_some_iff.mp hm
  refine lv_irem hx hb dJ9_floorMod_7cf53_2 (zrm_some eb1).1 ?_
  rw [(zrm_some eb1).2]
  refine lv_istore_n (lv' := [(2, .int b1), (0, .int v0), (1, .int v1)]) hx hb dJ9_floorMod_7cf53_3 rfl hl (by decide) rfl (fun ls hl => ?_)
  refine lv_iload_n hx hb dJ9_floorMod_7cf53_4 rfl (lv_at hl 1 rfl) ?_
  refine lv_iload_n hx hb dJ9_floorMod_7cf53_5 rfl (lv_at hl 2 rfl) ?_
  refine lv_ixor hx hb dJ9_floorMod_7cf53_6 ?_
  refine lv_if_ge (tgt := 18) hx hb dJ9_floorMod_7cf53_7 (by decide) (fun h2 => ?_) (fun h2 => ?_)
  · rw [if_pos h2] at hm
    refine lv_iload_n hx hb dJ9_floorMod_7cf53_18 rfl (lv_at hl 0 rfl) ?_
    cases hm
    exact hret _ _ _ _ dJ9_floorMod_7cf53_19 hP hD hS
  · rw [if_neg h2] at hm
    refine lv_iload_n hx hb dJ9_floorMod_7cf53_10 rfl (lv_at hl 0 rfl) ?_
    refine lv_if_eq (tgt := 18) hx hb dJ9_floorMod_7cf53_11 (by decide) (fun h3 => ?_) (fun h3 => ?_)
    · rw [if_pos h3] at hm
      refine lv_iload_n hx hb dJ9_floorMod_7cf53_18 rfl (lv_at hl 0 rfl) ?_
      cases hm
      exact hret _ _ _ _ dJ9_floorMod_7cf53_19 hP hD hS
    · rw [if_neg h3] at hm
      refine lv_iload_n hx hb dJ9_floorMod_7cf53_14 rfl (lv_at hl 0 rfl) ?_
      refine lv_iload_n hx hb dJ9_floorMod_7cf53_15 rfl (lv_at hl 2 rfl) ?_
      refine lv_iadd hx hb dJ9_floorMod_7cf53_16 ?_
      cases hm
      exact hret _ _ _ _ dJ9_floorMod_7cf53_17 hP hD hS
set_option maxHeartbeats 4000000 in
set_option maxRecDepth 100000 in
theorem k_X0_yearStart {l : Launch} {D : va_G} {ad : Nat → Nat} {cI cJ cZ cO : ClassId} {t : Nat} {A : Nat → Prop} {N : Nat} {σ : zS} {v0 : Int32} {r : Int32}  (hm : m_X0_yearStart N σ v0 = some r) : zCi l yX0_yearStart cX0_yearStart 1 (some .int) (zR 0 0) D zclX (zty cI cJ cZ cO) t A (zwX ad cI cJ cZ cO) [.int v0] σ σ r := by
  refine zMi (by decide) (Nat.le_of_ble_eq_true rfl) ?_
  intro p e s m args below meth c Q hx hb hml hown hT hK hZ hret hP hD hS ls hl
  replace hown : s.vm.findClass RX0 = some m.cls := hown
  replace hl : lv_has ls 1 [(0, .int v0)] := hl
  unfold m_X0_yearStart at hm
  refine lv_sipush (v := (365 : Int32)) hx hb dX0_yearStart_0 (by decide) ?_
  refine lv_iload_n hx hb dX0_yearStart_3 rfl (lv_at hl 0 rfl) ?_
  refine lv_imul hx hb dX0_yearStart_4 ?_
  refine lv_iload_n hx hb dX0_yearStart_5 rfl (lv_at hl 0 rfl) ?_
  refine lv_iconst (v := (3 : Int32)) hx hb dX0_yearStart_6 (by decide) ?_
  refine lv_iadd hx hb dX0_yearStart_7 ?_
  refine lv_iconst (v := (4 : Int32)) hx hb dX0_yearStart_8 (by decide) ?_
  refine lv_idiv hx hb dX0_yearStart_9 (by decide) ?_
  refine lv_iadd hx hb dX0_yearStart_10 ?_
  refine lv_iload_n hx hb dX0_yearStart_11 rfl (lv_at hl 0 rfl) ?_
  refine lv_bipush (v := (99 : Int32)) hx hb dX0_yearStart_12 (by decide) ?_
  refine lv_iadd hx hb dX0_yearStart_14 ?_
  refine lv_bipush (v := (100 : Int32)) hx hb dX0_yearStart_15 (by decide) ?_
  refine lv_idiv hx hb dX0_yearStart_17 (by decide) ?_
  refine lv_isub hx hb dX0_yearStart_18 ?_
  refine lv_iload_n hx hb dX0_yearStart_19 rfl (lv_at hl 0 rfl) ?_
  refine lv_sipush (v := (399 : Int32)) hx hb dX0_yearStart_20 (by decide) ?_
  refine lv_iadd hx hb dX0_yearStart_23 ?_
  refine lv_sipush (v := (400 : Int32)) hx hb dX0_yearStart_24 (by decide) ?_
  refine lv_idiv hx hb dX0_yearStart_27 (by decide) ?_
  refine lv_iadd hx hb dX0_yearStart_28 ?_
  cases hm
  exact hret _ _ _ _ dX0_yearStart_29 hP hD hS
set_option maxHeartbeats 4000000 in
set_option maxRecDepth 100000 in
theorem k_X0_partStart {l : Launch} {D : va_G} {ad : Nat → Nat} {cI cJ cZ cO : ClassId} {t : Nat} {A : Nat → Prop} {N : Nat} {σ : zS} {v0 : Int32} {v1 : Int32} {v2 : Int32} {r : Int32}  (hm : m_X0_partStart N σ v0 v1 v2 = some r) : zCi l yX0_partStart cX0_partStart 6 (some .int) (zR 0 0) D zclX (zty cI cJ cZ cO) t A (zwX ad cI cJ cZ cO) [.int v0, .int v1, .int v2] σ σ r := by
  refine zMi (by decide) (Nat.le_of_ble_eq_true rfl) ?_
  intro p e s m args below meth c Q hx hb hml hown hT hK hZ hret hP hD hS ls hl
  replace hown : s.vm.findClass RX0 = some m.cls := hown
  replace hl : lv_has ls 6 [(0, .int v0), (1, .int v1), (2, .int v2)] := hl
  have hL5 : ∀ (q : Int32 × Int32) (r : Int32), ziter (fun q : Int32 × Int32 => m_X0_partStart_L5 N σ v0 v1 v2 q.1 q.2) N q = some r → (∀ (H : Heap) (locs : List Loc) (ls : Array Slot), va_P D zclX (zwX ad cI cJ cZ cO σ) H → va_D A (zwX ad cI cJ cZ cO σ) → va_S A s.heap H locs → lv_has ls 6 [(3, .int r)] → W p l e (zR 0 0) s m args below meth c H locs 0 0 Q (F0 m 60 ls [])) → ∀ (H : Heap) (locs : List Loc) (ls : Array Slot), va_P D zclX (zwX ad cI cJ cZ cO σ) H → va_D A (zwX ad cI cJ cZ cO σ) → va_S A s.heap H locs → lv_has ls 6 [(0, .int v0), (1, .int v1), (2, .int v2), (3, .int q.1), (4, .int q.2)] → W p l e (zR 0 0) s m args below meth c H locs 0 0 Q (F0 m 5 ls []) := by
    intro q r
    refine ziter_W (Hd := fun q : Int32 × Int32 => ∀ (H : Heap) (locs : List Loc) (ls : Array Slot), va_P D zclX (zwX ad cI cJ cZ cO σ) H → va_D A (zwX ad cI cJ cZ cO σ) → va_S A s.heap H locs → lv_has ls 6 [(0, .int v0), (1, .int v1), (2, .int v2), (3, .int q.1), (4, .int q.2)] → W p l e (zR 0 0) s m args below meth c H locs 0 0 Q (F0 m 5 ls [])) (Ex := fun r : Int32 => ∀ (H : Heap) (locs : List Loc) (ls : Array Slot), va_P D zclX (zwX ad cI cJ cZ cO σ) H → va_D A (zwX ad cI cJ cZ cO σ) → va_S A s.heap H locs → lv_has ls 6 [(3, .int r)] → W p l e (zR 0 0) s m args below meth c H locs 0 0 Q (F0 m 60 ls [])) ?_ N q r
    rintro ⟨v3_1, v4_1⟩ res hm hk H locs ls hP hD hS hl
    try dsimp only at hP hD hl
    replace hm : m_X0_partStart_L5 N σ v0 v1 v2 v3_1 v4_1 = some res := hm
    have h54 : ∀ (v3_8 : Int32) (v4_8 : Int32), m_X0_partStart_54_in5 N σ v0 v1 v2 v3_8 v4_8 = some res → ∀ (H : Heap) (locs : List Loc) (ls : Array Slot), va_P D zclX (zwX ad cI cJ cZ cO σ) H → va_D A (zwX ad cI cJ cZ cO σ) → va_S A s.heap H locs → lv_has ls 6 [(0, .int v0), (1, .int v1), (2, .int v2), (3, .int v3_8), (4, .int v4_8)] → W p l e (zR 0 0) s m args below meth c H locs 0 0 Q (F0 m 54 ls []) := by
      intro v3_8 v4_8 hm H locs ls hP hD hS hl
      unfold m_X0_partStart_54_in5 at hm
      refine lv_iinc (v := (v4_8 + (1 : Int32))) (lv' := [(4, .int (v4_8 + (1 : Int32))), (0, .int v0), (1, .int v1), (2, .int v2), (3, .int v3_8)]) hx hb dX0_partStart_54 hl (k := 4) rfl rfl (by decide) rfl (fun ls hl => ?_)
      refine lv_goto (tgt := 5) hx hb dX0_partStart_57 (by decide) ?_
      cases hm
      exact hk _ _ _ hP hD hS (lv_sub hl [1, 2, 3, 4, 0] rfl)
    have h35 : ∀ (v3_6 : Int32) (v4_6 : Int32) (x0_6 : Int32) (x1_6 : Int32), m_X0_partStart_35_in5 N σ v0 v1 v2 v3_6 v4_6 x0_6 x1_6 = some res → ∀ (H : Heap) (locs : List Loc) (ls : Array Slot), va_P D zclX (zwX ad cI cJ cZ cO σ) H → va_D A (zwX ad cI cJ cZ cO σ) → va_S A s.heap H locs → lv_has ls 6 [(0, .int v0), (1, .int v1), (2, .int v2), (3, .int v3_6), (4, .int v4_6)] → W p l e (zR 0 0) s m args below meth c H locs 0 0 Q (F0 m 35 ls [.int x1_6, .int x0_6]) := by
      intro v3_6 v4_6 x0_6 x1_6 hm H locs ls hP hD hS hl
      unfold m_X0_partStart_35_in5 at hm
      refine lv_iadd hx hb dX0_partStart_35 ?_
      refine lv_istore (lv' := [(5, .int (x0_6 + x1_6)), (0, .int v0), (1, .int v1), (2, .int v2), (3, .int v3_6), (4, .int v4_6)]) hx hb dX0_partStart_36 hl (by decide) rfl (fun ls hl => ?_)
      refine lv_iload hx hb dX0_partStart_38 (lv_at hl 0 rfl) ?_
      refine lv_iload_n hx hb dX0_partStart_40 rfl (lv_at hl 1 rfl) ?_
      refine lv_icmp_gt (tgt := 54) hx hb dX0_partStart_41 (by decide) (fun h7 => ?_) (fun h7 => ?_)
      · rw [if_pos h7] at hm
        exact h54 v3_6 v4_6 hm _ _ _ hP hD hS (lv_sub hl [1, 2, 3, 4, 5] rfl)
      · rw [if_neg h7] at hm
        refine lv_iload hx hb dX0_partStart_44 (lv_at hl 5 rfl) ?_
        refine lv_iload_n hx hb dX0_partStart_46 rfl (lv_at hl 3 rfl) ?_
        obtain ⟨b9, eb9, hm⟩ := Option.bind_eq_some_iff.mp hm
        refine lv_irem hx hb dX0_partStart_47 (zrm_some eb9).1 ?_
        rw [(zrm_some eb9).2]
        refine lv_if_ne (tgt := 54) hx hb dX0_partStart_48 (by decide) (fun h10 => ?_) (fun h10 => ?_)
        · rw [if_neg h10] at hm
          exact h54 v3_6 v4_6 hm _ _ _ hP hD hS (lv_sub hl [1, 2, 3, 4, 5] rfl)
        · rw [if_pos h10] at hm
          refine lv_iload hx hb dX0_partStart_51 (lv_at hl 0 rfl) ?_
          refine lv_istore_n (lv' := [(3, .int (x0_6 + x1_6)), (5, .int (x0_6 + x1_6)), (0, .int v0), (1, .int v1), (2, .int v2), (4, .int v4_6)]) hx hb dX0_partStart_53 rfl hl (by decide) rfl (fun ls hl => ?_)
          exact h54 (x0_6 + x1_6) v4_6 hm _ _ _ hP hD hS (lv_sub hl [2, 3, 4, 0, 5] rfl)
    have h34 : ∀ (v3_5 : Int32) (v4_5 : Int32) (x0_5 : Int32), m_X0_partStart_34_in5 N σ v0 v1 v2 v3_5 v4_5 x0_5 = some res → ∀ (H : Heap) (locs : List Loc) (ls : Array Slot), va_P D zclX (zwX ad cI cJ cZ cO σ) H → va_D A (zwX ad cI cJ cZ cO σ) → va_S A s.heap H locs → lv_has ls 6 [(0, .int v0), (1, .int v1), (2, .int v2), (3, .int v3_5), (4, .int v4_5)] → W p l e (zR 0 0) s m args below meth c H locs 0 0 Q (F0 m 34 ls [.int x0_5]) := by
      intro v3_5 v4_5 x0_5 hm H locs ls hP hD hS hl
      unfold m_X0_partStart_34_in5 at hm
      refine lv_iconst (v := (0 : Int32)) hx hb dX0_partStart_34 (by decide) ?_
      exact h35 v3_5 v4_5 x0_5 (0 : Int32) hm _ _ _ hP hD hS (lv_sub hl [0, 1, 2, 3, 4] rfl)
    unfold m_X0_partStart_L5 at hm
    refine lv_iload hx hb dX0_partStart_5 (lv_at hl 4 rfl) ?_
    refine va_gets hx hb hZ.1 hS hown (hT _ zw436) (fun _ h => h) dX0_partStart_7 ?_
    refine va_tlen (v := (12 : Int32)) hx hb hZ.2 hS rfl dX0_partStart_10 ?_
    refine lv_icmp_ge (tgt := 60) hx hb dX0_partStart_11 (by decide) (fun h2 => ?_) (fun h2 => ?_)
    · rw [if_pos h2] at hm
      cases hm
      exact hk _ _ _ hP hD hS (lv_sub hl [3] rfl)
    · rw [if_neg h2] at hm
      refine va_gets hx hb hZ.1 hS hown (hT _ zw436) (fun _ h => h) dX0_partStart_14 ?_
      refine lv_iload hx hb dX0_partStart_17 (lv_at hl 4 rfl) ?_
      obtain ⟨b3, eb3, hm⟩ := Option.bind_eq_some_iff.mp hm
      refine va_ti (v := .int b3) hx hb hZ.2 hS (zrd_some eb3).1 (zms_of eb3) dX0_partStart_19 ?_
      refine lv_iload_n hx hb dX0_partStart_20 rfl (lv_at hl 1 rfl) ?_
      refine lv_if_eq (tgt := 34) hx hb dX0_partStart_21 (by decide) (fun h4 => ?_) (fun h4 => ?_)
      · rw [if_pos h4] at hm
        exact h34 v3_1 v4_1 b3 hm _ _ _ hP hD hS (lv_sub hl [0, 1, 2, 3, 4] rfl)
      · rw [if_neg h4] at hm
        refine lv_iload hx hb dX0_partStart_24 (lv_at hl 4 rfl) ?_
        refine lv_iconst (v := (1 : Int32)) hx hb dX0_partStart_26 (by decide) ?_
        refine lv_icmp_le (tgt := 34) hx hb dX0_partStart_27 (by decide) (fun h11 => ?_) (fun h11 => ?_)
        · rw [if_pos h11] at hm
          exact h34 v3_1 v4_1 b3 hm _ _ _ hP hD hS (lv_sub hl [0, 1, 2, 3, 4] rfl)
        · rw [if_neg h11] at hm
          refine lv_iconst (v := (1 : Int32)) hx hb dX0_partStart_30 (by decide) ?_
          refine lv_goto (tgt := 35) hx hb dX0_partStart_31 (by decide) ?_
          exact h35 v3_1 v4_1 b3 (1 : Int32) hm _ _ _ hP hD hS (lv_sub hl [0, 1, 2, 3, 4] rfl)
  have h60 : ∀ (v3_14 : Int32), m_X0_partStart_60 N σ v0 v1 v2 v3_14 = some r → ∀ (H : Heap) (locs : List Loc) (ls : Array Slot), va_P D zclX (zwX ad cI cJ cZ cO σ) H → va_D A (zwX ad cI cJ cZ cO σ) → va_S A s.heap H locs → lv_has ls 6 [(3, .int v3_14)] → W p l e (zR 0 0) s m args below meth c H locs 0 0 Q (F0 m 60 ls []) := by
    intro v3_14 hm H locs ls hP hD hS hl
    unfold m_X0_partStart_60 at hm
    refine lv_iload_n hx hb dX0_partStart_60 rfl (lv_at hl 0 rfl) ?_
    cases hm
    exact hret _ _ _ _ dX0_partStart_61 hP hD hS
  unfold m_X0_partStart at hm
  refine lv_iconst (v := (0 : Int32)) hx hb dX0_partStart_0 (by decide) ?_
  refine lv_istore_n (lv' := [(3, .int (0 : Int32)), (0, .int v0), (1, .int v1), (2, .int v2)]) hx hb dX0_partStart_1 rfl hl (by decide) rfl (fun ls hl => ?_)
  refine lv_iconst (v := (0 : Int32)) hx hb dX0_partStart_2 (by decide) ?_
  refine lv_istore (lv' := [(4, .int (0 : Int32)), (3, .int (0 : Int32)), (0, .int v0), (1, .int v1), (2, .int v2)]) hx hb dX0_partStart_3 hl (by decide) rfl (fun ls hl => ?_)
  obtain ⟨v3_13, e15, hm⟩ := Option.bind_eq_some_iff.mp hm
  refine hL5  _ v3_13 e15 ?_ _ _ _ hP hD hS (lv_sub hl [2, 3, 4, 1, 0] rfl)
  intro H locs ls hP hD hS hl
  try dsimp only at hP hD hl
  replace hm : m_X0_partStart_60 N σ v0 v1 v2 v3_13 = some r := hm
  exact h60 v3_13 hm _ _ _ hP hD hS (lv_sub hl [0] rfl)
set_option maxHeartbeats 4000000 in
set_option maxRecDepth 100000 in
theorem k_X0_firstDay {l : Launch} {D : va_G} {ad : Nat → Nat} {cI cJ cZ cO : ClassId} {t : Nat} {A : Nat → Prop} {N : Nat} {σ : zS} {v0 : Int32} {v1 : Int32} {r : Int32}  (hm : m_X0_firstDay N σ v0 v1 = some r) : zCi l yX0_firstDay cX0_firstDay 6 (some .int) (zR 1 25) D zclX (zty cI cJ cZ cO) t A (zwX ad cI cJ cZ cO) [.int v0, .int v1] σ σ r := by
  refine zMi (by decide) (Nat.le_of_ble_eq_true rfl) ?_
  intro p e s m args below meth c Q hx hb hml hown hT hK hZ hret hP hD hS ls hl
  replace hown : s.vm.findClass RX0 = some m.cls := hown
  replace hl : lv_has ls 6 [(0, .int v0), (1, .int v1)] := hl
  have h111 : ∀ (v4_14 : Int32) (x0_14 : Int32), m_X0_firstDay_111 N σ v0 v1 v4_14 x0_14 = some r → ∀ (H : Heap) (locs : List Loc) (ls : Array Slot), va_P D zclX (zwX ad cI cJ cZ cO σ) H → va_D A (zwX ad cI cJ cZ cO σ) → va_S A s.heap H locs → lv_has ls 6 [(0, .int v0), (1, .int v1), (4, .int v4_14)] → W p l e (zR 1 25) s m args below meth c H locs 0 0 Q (F0 m 111 ls [.int x0_14]) := by
    intro v4_14 x0_14 hm H locs ls hP hD hS hl
    unfold m_X0_firstDay_111 at hm
    refine lv_istore (lv' := [(5, .int x0_14), (0, .int v0), (1, .int v1), (4, .int v4_14)]) hx hb dX0_firstDay_111 hl (by decide) rfl (fun ls hl => ?_)
    refine lv_iload_n hx hb dX0_firstDay_113 rfl (lv_at hl 1 rfl) ?_
    refine lv_iload hx hb dX0_firstDay_114 (lv_at hl 3 rfl) ?_
    refine lv_isub hx hb dX0_firstDay_116 ?_
    refine lv_iload hx hb dX0_firstDay_117 (lv_at hl 3 rfl) ?_
    refine lv_iload hx hb dX0_firstDay_119 (lv_at hl 0 rfl) ?_
    refine lv_iload_n hx hb dX0_firstDay_121 rfl (lv_at hl 2 rfl) ?_
    refine lv_iconst (v := (3 : Int32)) hx hb dX0_firstDay_122 (by decide) ?_
    refine lv_icmp_ne (tgt := 130) hx hb dX0_firstDay_123 (by decide) (fun h15 => ?_) (fun h15 => ?_)
    · rw [if_neg h15] at hm
      refine lv_iconst (v := (1 : Int32)) hx hb dX0_firstDay_130 (by decide) ?_
      obtain ⟨b16, eb16, hm⟩ := Option.bind_eq_some_iff.mp hm
      refine zSi (rest := [.int (v0 - v4_14)]) [.int v4_14, .int x0_14, .int (1 : Int32)] hx hb hml hl.1 hown hT (k_X0_partStart eb16) zkX0_partStart zw433 ⟨by decide, by decide⟩ rfl rfl hK hZ hP hD hS rfl rfl (Nat.le_of_ble_eq_true rfl) ⟨Nat.zero_le _, Nat.zero_le _⟩ dX0_firstDay_131 (fun H locs hP hD hS => ?_)
      refine lv_iadd hx hb dX0_firstDay_134 ?_
      cases hm
      exact hret _ _ _ _ dX0_firstDay_135 hP hD hS
    · rw [if_pos h15] at hm
      refine lv_iconst (v := (3 : Int32)) hx hb dX0_firstDay_126 (by decide) ?_
      refine lv_goto (tgt := 131) hx hb dX0_firstDay_127 (by decide) ?_
      obtain ⟨b17, eb17, hm⟩ := Option.bind_eq_some_iff.mp hm
      refine zSi (rest := [.int (v0 - v4_14)]) [.int v4_14, .int x0_14, .int (3 : Int32)] hx hb hml hl.1 hown hT (k_X0_partStart eb17) zkX0_partStart zw433 ⟨by decide, by decide⟩ rfl rfl hK hZ hP hD hS rfl rfl (Nat.le_of_ble_eq_true rfl) ⟨Nat.zero_le _, Nat.zero_le _⟩ dX0_firstDay_131 (fun H locs hP hD hS => ?_)
      refine lv_iadd hx hb dX0_firstDay_134 ?_
      cases hm
      exact hret _ _ _ _ dX0_firstDay_135 hP hD hS
  have h71 : ∀ (v2_8 : Int32) (v3_8 : Int32), m_X0_firstDay_71 N σ v0 v1 v2_8 v3_8 = some r → ∀ (H : Heap) (locs : List Loc) (ls : Array Slot), va_P D zclX (zwX ad cI cJ cZ cO σ) H → va_D A (zwX ad cI cJ cZ cO σ) → va_S A s.heap H locs → lv_has ls 6 [(0, .int v0), (1, .int v1), (2, .int v2_8), (3, .int v3_8)] → W p l e (zR 1 25) s m args below meth c H locs 0 0 Q (F0 m 71 ls []) := by
    intro v2_8 v3_8 hm H locs ls hP hD hS hl
    unfold m_X0_firstDay_71 at hm
    refine lv_iload_n hx hb dX0_firstDay_71 rfl (lv_at hl 2 rfl) ?_
    refine lv_iload_n hx hb dX0_firstDay_72 rfl (lv_at hl 3 rfl) ?_
    obtain ⟨b9, eb9, hm⟩ := Option.bind_eq_some_iff.mp hm
    refine zSi (rest := [.int v2_8]) [.int v3_8] hx hb hml hl.1 hown hT (k_X0_yearStart eb9) zkX0_yearStart zw430 ⟨by decide, by decide⟩ rfl rfl hK hZ hP hD hS rfl rfl (Nat.le_of_ble_eq_true rfl) ⟨Nat.zero_le _, Nat.zero_le _⟩ dX0_firstDay_73 (fun H locs hP hD hS => ?_)
    refine lv_isub hx hb dX0_firstDay_76 ?_
    refine lv_istore (lv' := [(4, .int (v2_8 - b9)), (0, .int v0), (1, .int v1), (2, .int v2_8), (3, .int v3_8)]) hx hb dX0_firstDay_77 hl (by decide) rfl (fun ls hl => ?_)
    refine lv_iload_n hx hb dX0_firstDay_79 rfl (lv_at hl 2 rfl) ?_
    refine lv_iconst (v := (4 : Int32)) hx hb dX0_firstDay_80 (by decide) ?_
    refine lv_icmp_ne (tgt := 89) hx hb dX0_firstDay_81 (by decide) (fun h10 => ?_) (fun h10 => ?_)
    · rw [if_neg h10] at hm
      refine lv_iload_n hx hb dX0_firstDay_89 rfl (lv_at hl 4 rfl) ?_
      refine lv_iconst (v := (1 : Int32)) hx hb dX0_firstDay_90 (by decide) ?_
      refine lv_iadd hx hb dX0_firstDay_91 ?_
      obtain ⟨b11, eb11, hm⟩ := Option.bind_eq_some_iff.mp hm
      refine zSi (rest := []) [.int (v3_8 + (1 : Int32))] hx hb hml hl.1 hown hT (k_X0_yearStart eb11) zkX0_yearStart zw430 ⟨by decide, by decide⟩ rfl rfl hK hZ hP hD hS rfl rfl (Nat.le_of_ble_eq_true rfl) ⟨Nat.zero_le _, Nat.zero_le _⟩ dX0_firstDay_92 (fun H locs hP hD hS => ?_)
      refine lv_iload_n hx hb dX0_firstDay_95 rfl (lv_at hl 4 rfl) ?_
      obtain ⟨b12, eb12, hm⟩ := Option.bind_eq_some_iff.mp hm
      refine zSi (rest := [.int b11]) [.int v3_8] hx hb hml hl.1 hown hT (k_X0_yearStart eb12) zkX0_yearStart zw430 ⟨by decide, by decide⟩ rfl rfl hK hZ hP hD hS rfl rfl (Nat.le_of_ble_eq_true rfl) ⟨Nat.zero_le _, Nat.zero_le _⟩ dX0_firstDay_96 (fun H locs hP hD hS => ?_)
      refine lv_isub hx hb dX0_firstDay_99 ?_
      refine lv_sipush (v := (366 : Int32)) hx hb dX0_firstDay_100 (by decide) ?_
      refine lv_icmp_ne (tgt := 110) hx hb dX0_firstDay_103 (by decide) (fun h13 => ?_) (fun h13 => ?_)
      · rw [if_neg h13] at hm
        refine lv_iconst (v := (0 : Int32)) hx hb dX0_firstDay_110 (by decide) ?_
        exact h111 (v2_8 - b9) (0 : Int32) hm _ _ _ hP hD hS (lv_sub hl [1, 2, 0] rfl)
      · rw [if_pos h13] at hm
        refine lv_iconst (v := (1 : Int32)) hx hb dX0_firstDay_106 (by decide) ?_
        refine lv_goto (tgt := 111) hx hb dX0_firstDay_107 (by decide) ?_
        exact h111 (v2_8 - b9) (1 : Int32) hm _ _ _ hP hD hS (lv_sub hl [1, 2, 0] rfl)
    · rw [if_pos h10] at hm
      refine lv_iload_n hx hb dX0_firstDay_84 rfl (lv_at hl 1 rfl) ?_
      refine lv_iload hx hb dX0_firstDay_85 (lv_at hl 0 rfl) ?_
      refine lv_isub hx hb dX0_firstDay_87 ?_
      cases hm
      exact hret _ _ _ _ dX0_firstDay_88 hP hD hS
  unfold m_X0_firstDay at hm
  refine lv_iload_n hx hb dX0_firstDay_0 rfl (lv_at hl 1 rfl) ?_
  refine lv_if_ne (tgt := 6) hx hb dX0_firstDay_1 (by decide) (fun h1 => ?_) (fun h1 => ?_)
  · rw [if_neg h1] at hm
    refine lv_iload_n hx hb dX0_firstDay_6 rfl (lv_at hl 1 rfl) ?_
    refine lv_iconst (v := (1 : Int32)) hx hb dX0_firstDay_7 (by decide) ?_
    refine lv_icmp_ne (tgt := 22) hx hb dX0_firstDay_8 (by decide) (fun h2 => ?_) (fun h2 => ?_)
    · rw [if_neg h2] at hm
      refine lv_iload_n hx hb dX0_firstDay_22 rfl (lv_at hl 0 rfl) ?_
      refine lv_ldc hx hb hown (hT _ zw426) dX0_firstDay_23 ?_
      refine lv_iadd hx hb dX0_firstDay_25 ?_
      refine lv_ldc hx hb hown (hT _ zw427) dX0_firstDay_26 ?_
      obtain ⟨b3, eb3, hm⟩ := Option.bind_eq_some_iff.mp hm
      refine zSi (rest := []) [.int (v0 + (719528 : Int32)), .int (146097 : Int32)] hx hb hml hl.1 hown hT (k_J9_floorMod_7cf53 eb3) zkJ9_floorMod_7cf53 zw425 ⟨by decide, by decide⟩ rfl rfl hK hZ hP hD hS rfl rfl (Nat.le_of_ble_eq_true rfl) ⟨Nat.zero_le _, Nat.zero_le _⟩ dX0_firstDay_28 (fun H locs hP hD hS => ?_)
      refine lv_istore_n (lv' := [(2, .int b3), (0, .int v0), (1, .int v1)]) hx hb dX0_firstDay_31 rfl hl (by decide) rfl (fun ls hl => ?_)
      refine lv_iload_n hx hb dX0_firstDay_32 rfl (lv_at hl 0 rfl) ?_
      refine lv_i2l (v := b3.toInt64) hx hb dX0_firstDay_33 rfl ?_
      refine lv_ldc2 hx hb hown (hT _ zw428) dX0_firstDay_34 ?_
      refine lv_lmul hx hb dX0_firstDay_37 ?_
      refine lv_ldc2 hx hb hown (hT _ zw429) dX0_firstDay_38 ?_
      refine lv_ldiv hx hb dX0_firstDay_41 (by decide) ?_
      refine lv_l2i (v := ((b3.toInt64 * (400 : Int64)) / (146097 : Int64)).toInt32) hx hb dX0_firstDay_42 rfl ?_
      refine lv_istore_n (lv' := [(3, .int ((b3.toInt64 * (400 : Int64)) / (146097 : Int64)).toInt32), (2, .int b3), (0, .int v0), (1, .int v1)]) hx hb dX0_firstDay_43 rfl hl (by decide) rfl (fun ls hl => ?_)
      refine lv_iload_n hx hb dX0_firstDay_44 rfl (lv_at hl 0 rfl) ?_
      obtain ⟨b4, eb4, hm⟩ := Option.bind_eq_some_iff.mp hm
      refine zSi (rest := []) [.int ((b3.toInt64 * (400 : Int64)) / (146097 : Int64)).toInt32] hx hb hml hl.1 hown hT (k_X0_yearStart eb4) zkX0_yearStart zw430 ⟨by decide, by decide⟩ rfl rfl hK hZ hP hD hS rfl rfl (Nat.le_of_ble_eq_true rfl) ⟨Nat.zero_le _, Nat.zero_le _⟩ dX0_firstDay_45 (fun H locs hP hD hS => ?_)
      refine lv_iload_n hx hb dX0_firstDay_48 rfl (lv_at hl 1 rfl) ?_
      refine lv_icmp_le (tgt := 58) hx hb dX0_firstDay_49 (by decide) (fun h5 => ?_) (fun h5 => ?_)
      · rw [if_pos h5] at hm
        refine lv_iload_n hx hb dX0_firstDay_58 rfl (lv_at hl 0 rfl) ?_
        refine lv_iconst (v := (1 : Int32)) hx hb dX0_firstDay_59 (by decide) ?_
        refine lv_iadd hx hb dX0_firstDay_60 ?_
        obtain ⟨b6, eb6, hm⟩ := Option.bind_eq_some_iff.mp hm
        refine zSi (rest := []) [.int (((b3.toInt64 * (400 : Int64)) / (146097 : Int64)).toInt32 + (1 : Int32))] hx hb hml hl.1 hown hT (k_X0_yearStart eb6) zkX0_yearStart zw430 ⟨by decide, by decide⟩ rfl rfl hK hZ hP hD hS rfl rfl (Nat.le_of_ble_eq_true rfl) ⟨Nat.zero_le _, Nat.zero_le _⟩ dX0_firstDay_61 (fun H locs hP hD hS => ?_)
        refine lv_iload_n hx hb dX0_firstDay_64 rfl (lv_at hl 1 rfl) ?_
        refine lv_icmp_gt (tgt := 71) hx hb dX0_firstDay_65 (by decide) (fun h7 => ?_) (fun h7 => ?_)
        · rw [if_pos h7] at hm
          exact h71 b3 ((b3.toInt64 * (400 : Int64)) / (146097 : Int64)).toInt32 hm _ _ _ hP hD hS (lv_sub hl [2, 3, 1, 0] rfl)
        · rw [if_neg h7] at hm
          refine lv_iinc (v := (((b3.toInt64 * (400 : Int64)) / (146097 : Int64)).toInt32 + (1 : Int32))) (lv' := [(3, .int (((b3.toInt64 * (400 : Int64)) / (146097 : Int64)).toInt32 + (1 : Int32))), (2, .int b3), (0, .int v0), (1, .int v1)]) hx hb dX0_firstDay_68 hl (k := 0) rfl rfl (by decide) rfl (fun ls hl => ?_)
          exact h71 b3 (((b3.toInt64 * (400 : Int64)) / (146097 : Int64)).toInt32 + (1 : Int32)) hm _ _ _ hP hD hS (lv_sub hl [2, 3, 1, 0] rfl)
      · rw [if_neg h5] at hm
        refine lv_iinc (v := (((b3.toInt64 * (400 : Int64)) / (146097 : Int64)).toInt32 + (-1 : Int32))) (lv' := [(3, .int (((b3.toInt64 * (400 : Int64)) / (146097 : Int64)).toInt32 + (-1 : Int32))), (2, .int b3), (0, .int v0), (1, .int v1)]) hx hb dX0_firstDay_52 hl (k := 0) rfl rfl (by decide) rfl (fun ls hl => ?_)
        refine lv_goto (tgt := 71) hx hb dX0_firstDay_55 (by decide) ?_
        exact h71 b3 (((b3.toInt64 * (400 : Int64)) / (146097 : Int64)).toInt32 + (-1 : Int32)) hm _ _ _ hP hD hS (lv_sub hl [2, 3, 1, 0] rfl)
    · rw [if_pos h2] at hm
      refine lv_iload_n hx hb dX0_firstDay_11 rfl (lv_at hl 0 rfl) ?_
      refine lv_iload_n hx hb dX0_firstDay_12 rfl (lv_at hl 0 rfl) ?_
      refine lv_iconst (v := (3 : Int32)) hx hb dX0_firstDay_13 (by decide) ?_
      refine lv_iadd hx hb dX0_firstDay_14 ?_
      refine lv_bipush (v := (7 : Int32)) hx hb dX0_firstDay_15 (by decide) ?_
      obtain ⟨b18, eb18, hm⟩ := Option.bind_eq_some_iff.mp hm
      refine zSi (rest := [.int v0]) [.int (v0 + (3 : Int32)), .int (7 : Int32)] hx hb hml hl.1 hown hT (k_J9_floorMod_7cf53 eb18) zkJ9_floorMod_7cf53 zw425 ⟨by decide, by decide⟩ rfl rfl hK hZ hP hD hS rfl rfl (Nat.le_of_ble_eq_true rfl) ⟨Nat.zero_le _, Nat.zero_le _⟩ dX0_firstDay_17 (fun H locs hP hD hS => ?_)
      refine lv_isub hx hb dX0_firstDay_20 ?_
      cases hm
      exact hret _ _ _ _ dX0_firstDay_21 hP hD hS
  · rw [if_pos h1] at hm
    refine lv_iload_n hx hb dX0_firstDay_4 rfl (lv_at hl 0 rfl) ?_
    cases hm
    exact hret _ _ _ _ dX0_firstDay_5 hP hD hS
set_option maxHeartbeats 4000000 in
set_option maxRecDepth 100000 in
theorem k_X1_startOver {l : Launch} {D : va_G} {ad : Nat → Nat} {cI cJ cZ cO : ClassId} {t : Nat} {A : Nat → Prop} {N : Nat} {σ σ' : zS} {k : Nat} {v1 : Int32} {v2 : Int32} {v3 : Int32} {v4 : Int32}  (hkf : k < 10) (hm : m_X1_startOver N σ k v1 v2 v3 v4 = some σ') : zCv l yX1_startOver cX1_startOver 5 (none) (zR 0 0) D zclX (zty cI cJ cZ cO) t A (zwX ad cI cJ cZ cO) [.ref (ad (20 + k)), .int v1, .int v2, .int v3, .int v4] σ σ' := by
  refine zMv (by decide) (Nat.le_of_ble_eq_true rfl) ?_
  intro p e s m args below meth c Q hx hb hml hown hT hK hZ hret hP hD hS ls hl
  replace hown : s.vm.findClass RX1 = some m.cls := hown
  replace hl : lv_has ls 5 [(0, .ref (ad (20 + k))), (1, .int v1), (2, .int v2), (3, .int v3), (4, .int v4)] := hl
  unfold m_X1_startOver at hm
  refine lv_aload_n hx hb dX1_startOver_0 rfl (lv_at hl 0 rfl) ?_
  refine lv_iload_n hx hb dX1_startOver_1 rfl (lv_at hl 1 rfl) ?_
  obtain ⟨σ1, eσ1, hm⟩ := Option.bind_eq_some_iff.mp hm
  refine zput (j := (8 + 12 * k)) (ty := .int) hx hb hT zinX1 tyX1 tyX1_ok nmX1 hown hK hP hD hS (20 + k) (zF_obj hkf) rfl 0 (by decide) zw120 rfl (by decide +kernel) rfl rfl (Nat.le_of_ble_eq_true rfl) eσ1 (zF_set0 hkf _) dX1_startOver_2 (fun H locs hP hD hS => ?_)
  refine lv_aload_n hx hb dX1_startOver_5 rfl (lv_at hl 0 rfl) ?_
  refine lv_iload_n hx hb dX1_startOver_6 rfl (lv_at hl 2 rfl) ?_
  obtain ⟨σ2, eσ2, hm⟩ := Option.bind_eq_some_iff.mp hm
  refine zput (j := (9 + 12 * k)) (ty := .int) hx hb hT zinX1 tyX1 tyX1_ok nmX1 hown hK hP hD hS (20 + k) (zF_obj hkf) rfl 1 (by decide) zw122 rfl (by decide +kernel) rfl rfl (Nat.le_of_ble_eq_true rfl) eσ2 (zF_set1 hkf _) dX1_startOver_7 (fun H locs hP hD hS => ?_)
  refine lv_aload_n hx hb dX1_startOver_10 rfl (lv_at hl 0 rfl) ?_
  refine lv_iload_n hx hb dX1_startOver_11 rfl (lv_at hl 3 rfl) ?_
  obtain ⟨σ3, eσ3, hm⟩ := Option.bind_eq_some_iff.mp hm
  refine zput (j := (10 + 12 * k)) (ty := .int) hx hb hT zinX1 tyX1 tyX1_ok nmX1 hown hK hP hD hS (20 + k) (zF_obj hkf) rfl 2 (by decide) zw123 rfl (by decide +kernel) rfl rfl (Nat.le_of_ble_eq_true rfl) eσ3 (zF_set2 hkf _) dX1_startOver_12 (fun H locs hP hD hS => ?_)
  refine lv_aload_n hx hb dX1_startOver_15 rfl (lv_at hl 0 rfl) ?_
  refine lv_iload hx hb dX1_startOver_16 (lv_at hl 4 rfl) ?_
  obtain ⟨σ4, eσ4, hm⟩ := Option.bind_eq_some_iff.mp hm
  refine zput (j := (11 + 12 * k)) (ty := .int) hx hb hT zinX1 tyX1 tyX1_ok nmX1 hown hK hP hD hS (20 + k) (zF_obj hkf) rfl 3 (by decide) zw124 rfl (by decide +kernel) rfl rfl (Nat.le_of_ble_eq_true rfl) eσ4 (zF_set3 hkf _) dX1_startOver_18 (fun H locs hP hD hS => ?_)
  refine lv_aload_n hx hb dX1_startOver_21 rfl (lv_at hl 0 rfl) ?_
  refine lv_ldc hx hb hown (hT _ zw332) dX1_startOver_22 ?_
  obtain ⟨σ5, eσ5, hm⟩ := Option.bind_eq_some_iff.mp hm
  refine zput (j := (12 + 12 * k)) (ty := .int) hx hb hT zinX1 tyX1 tyX1_ok nmX1 hown hK hP hD hS (20 + k) (zF_obj hkf) rfl 4 (by decide) zw125 rfl (by decide +kernel) rfl rfl (Nat.le_of_ble_eq_true rfl) eσ5 (zF_set4 hkf _) dX1_startOver_24 (fun H locs hP hD hS => ?_)
  refine lv_aload_n hx hb dX1_startOver_27 rfl (lv_at hl 0 rfl) ?_
  refine lv_iconst (v := (0 : Int32)) hx hb dX1_startOver_28 (by decide) ?_
  obtain ⟨σ6, eσ6, hm⟩ := Option.bind_eq_some_iff.mp hm
  refine zput (j := (13 + 12 * k)) (ty := .int) hx hb hT zinX1 tyX1 tyX1_ok nmX1 hown hK hP hD hS (20 + k) (zF_obj hkf) rfl 5 (by decide) zw127 rfl (by decide +kernel) rfl rfl (Nat.le_of_ble_eq_true rfl) eσ6 (zF_set5 hkf _) dX1_startOver_29 (fun H locs hP hD hS => ?_)
  refine lv_aload_n hx hb dX1_startOver_32 rfl (lv_at hl 0 rfl) ?_
  refine lv_iconst (v := (0 : Int32)) hx hb dX1_startOver_33 (by decide) ?_
  obtain ⟨σ7, eσ7, hm⟩ := Option.bind_eq_some_iff.mp hm
  refine zput (j := (14 + 12 * k)) (ty := .int) hx hb hT zinX1 tyX1 tyX1_ok nmX1 hown hK hP hD hS (20 + k) (zF_obj hkf) rfl 6 (by decide) zw129 rfl (by decide +kernel) rfl rfl (Nat.le_of_ble_eq_true rfl) eσ7 (zF_set6 hkf _) dX1_startOver_34 (fun H locs hP hD hS => ?_)
  refine lv_aload_n hx hb dX1_startOver_37 rfl (lv_at hl 0 rfl) ?_
  refine lv_iconst (v := (1 : Int32)) hx hb dX1_startOver_38 (by decide) ?_
  obtain ⟨σ8, eσ8, hm⟩ := Option.bind_eq_some_iff.mp hm
  refine zput (j := (15 + 12 * k)) (ty := .int) hx hb hT zinX1 tyX1 tyX1_ok nmX1 hown hK hP hD hS (20 + k) (zF_obj hkf) rfl 7 (by decide) zw131 rfl (by decide +kernel) rfl rfl (Nat.le_of_ble_eq_true rfl) eσ8 (zF_set7 hkf _) dX1_startOver_39 (fun H locs hP hD hS => ?_)
  refine lv_aload_n hx hb dX1_startOver_42 rfl (lv_at hl 0 rfl) ?_
  refine lv_iconst (v := (0 : Int32)) hx hb dX1_startOver_43 (by decide) ?_
  obtain ⟨σ9, eσ9, hm⟩ := Option.bind_eq_some_iff.mp hm
  refine zput (j := (16 + 12 * k)) (ty := .boolean) hx hb hT zinX1 tyX1 tyX1_ok nmX1 hown hK hP hD hS (20 + k) (zF_obj hkf) rfl 8 (by decide) zw134 rfl (by decide +kernel) (by decide) (by decide) (Nat.le_of_ble_eq_true rfl) eσ9 (zF_set8 hkf _) dX1_startOver_44 (fun H locs hP hD hS => ?_)
  refine lv_aload_n hx hb dX1_startOver_47 rfl (lv_at hl 0 rfl) ?_
  refine lv_iconst (v := (0 : Int32)) hx hb dX1_startOver_48 (by decide) ?_
  obtain ⟨σ10, eσ10, hm⟩ := Option.bind_eq_some_iff.mp hm
  refine zput (j := (17 + 12 * k)) (ty := .int) hx hb hT zinX1 tyX1 tyX1_ok nmX1 hown hK hP hD hS (20 + k) (zF_obj hkf) rfl 9 (by decide) zw137 rfl (by decide +kernel) rfl rfl (Nat.le_of_ble_eq_true rfl) eσ10 (zF_set9 hkf _) dX1_startOver_49 (fun H locs hP hD hS => ?_)
  refine lv_aload_n hx hb dX1_startOver_52 rfl (lv_at hl 0 rfl) ?_
  refine lv_iconst (v := (0 : Int32)) hx hb dX1_startOver_53 (by decide) ?_
  obtain ⟨σ11, eσ11, hm⟩ := Option.bind_eq_some_iff.mp hm
  refine zput (j := (18 + 12 * k)) (ty := .int) hx hb hT zinX1 tyX1 tyX1_ok nmX1 hown hK hP hD hS (20 + k) (zF_obj hkf) rfl 10 (by decide) zw140 rfl (by decide +kernel) rfl rfl (Nat.le_of_ble_eq_true rfl) eσ11 (zF_set10 hkf _) dX1_startOver_54 (fun H locs hP hD hS => ?_)
  refine lv_aload_n hx hb dX1_startOver_57 rfl (lv_at hl 0 rfl) ?_
  refine lv_iconst (v := (0 : Int32)) hx hb dX1_startOver_58 (by decide) ?_
  obtain ⟨σ12, eσ12, hm⟩ := Option.bind_eq_some_iff.mp hm
  refine zput (j := (19 + 12 * k)) (ty := .int) hx hb hT zinX1 tyX1 tyX1_ok nmX1 hown hK hP hD hS (20 + k) (zF_obj hkf) rfl 11 (by decide) zw143 rfl (by decide +kernel) rfl rfl (Nat.le_of_ble_eq_true rfl) eσ12 (zF_set11 hkf _) dX1_startOver_59 (fun H locs hP hD hS => ?_)
  cases hm
  exact hret _ _ _ _ dX1_startOver_62 hP hD hS
set_option maxHeartbeats 4000000 in
set_option maxRecDepth 100000 in
theorem k_X1_addRange {l : Launch} {D : va_G} {ad : Nat → Nat} {cI cJ cZ cO : ClassId} {t : Nat} {A : Nat → Prop} {N : Nat} {σ σ' : zS} {k : Nat} {v1 : Int32} {v2 : Int32} {r : Int32} (hkf : k < 10) (hm : m_X1_addRange N σ k v1 v2 = some (r, σ')) : zCi l yX1_addRange cX1_addRange 3 (some .int) (zR 0 0) D zclX (zty cI cJ cZ cO) t A (zwX ad cI cJ cZ cO) [.ref (ad (20 + k)), .int v1, .int v2] σ σ' r := by
  refine zMi (by decide) (Nat.le_of_ble_eq_true rfl) ?_
  intro p e s m args below meth c Q hx hb hml hown hT hK hZ hret hP hD hS ls hl
  replace hown : s.vm.findClass RX1 = some m.cls := hown
  replace hl : lv_has ls 3 [(0, .ref (ad (20 + k))), (1, .int v1), (2, .int v2)] := hl
  unfold m_X1_addRange at hm
  refine lv_aload_n hx hb dX1_addRange_0 rfl (lv_at hl 0 rfl) ?_
  refine zget (v := .ref (ad (30 + k))) hx hb hT zinX1 hown hK hP (20 + k) (zF_obj hkf) rfl 12 (by decide) zw146 rfl dX1_addRange_1 ?_
  refine lv_aload_n hx hb dX1_addRange_4 rfl (lv_at hl 0 rfl) ?_
  refine zget (v := .int (σ.1 (19 + 12 * k))) hx hb hT zinX1 hown hK hP (20 + k) (zF_obj hkf) rfl 11 (by decide) zw143 rfl dX1_addRange_5 ?_
  refine lv_iload_n hx hb dX1_addRange_8 rfl (lv_at hl 1 rfl) ?_
  obtain ⟨σ1, eσ1, hm⟩ := Option.bind_eq_some_iff.mp hm
  refine ziast (j := (8 + k)) hx hb hK hP hD hS (30 + k) 0 (zF_froms hkf) rfl eσ1 (zF_fset hkf) dX1_addRange_9 (fun H locs hP hD hS => ?_)
  refine lv_aload_n hx hb dX1_addRange_10 rfl (lv_at hl 0 rfl) ?_
  refine zget (v := .ref (ad (40 + k))) hx hb hT zinX1 hown hK hP (20 + k) (zF_obj hkf) rfl 13 (by decide) zw147 rfl dX1_addRange_11 ?_
  refine lv_aload_n hx hb dX1_addRange_14 rfl (lv_at hl 0 rfl) ?_
  refine zget (v := .int (σ1.1 (19 + 12 * k))) hx hb hT zinX1 hown hK hP (20 + k) (zF_obj hkf) rfl 11 (by decide) zw143 rfl dX1_addRange_15 ?_
  refine lv_iload_n hx hb dX1_addRange_18 rfl (lv_at hl 2 rfl) ?_
  obtain ⟨σ2, eσ2, hm⟩ := Option.bind_eq_some_iff.mp hm
  refine ziast (j := (18 + k)) hx hb hK hP hD hS (40 + k) 0 (zF_tos hkf) rfl eσ2 (zF_tset hkf) dX1_addRange_19 (fun H locs hP hD hS => ?_)
  refine lv_aload_n hx hb dX1_addRange_20 rfl (lv_at hl 0 rfl) ?_
  refine lv_dup hx hb dX1_addRange_21 rfl ?_
  refine zget (v := .int (σ2.1 (19 + 12 * k))) hx hb hT zinX1 hown hK hP (20 + k) (zF_obj hkf) rfl 11 (by decide) zw143 rfl dX1_addRange_22 ?_
  refine lv_iconst (v := (1 : Int32)) hx hb dX1_addRange_25 (by decide) ?_
  refine lv_iadd hx hb dX1_addRange_26 ?_
  obtain ⟨σ3, eσ3, hm⟩ := Option.bind_eq_some_iff.mp hm
  refine zput (j := (19 + 12 * k)) (ty := .int) hx hb hT zinX1 tyX1 tyX1_ok nmX1 hown hK hP hD hS (20 + k) (zF_obj hkf) rfl 11 (by decide) zw143 rfl (by decide +kernel) rfl rfl (Nat.le_of_ble_eq_true rfl) eσ3 (zF_set11 hkf _) dX1_addRange_27 (fun H locs hP hD hS => ?_)
  refine lv_aload_n hx hb dX1_addRange_30 rfl (lv_at hl 0 rfl) ?_
  refine zget (v := .int (σ3.1 (19 + 12 * k))) hx hb hT zinX1 hown hK hP (20 + k) (zF_obj hkf) rfl 11 (by decide) zw143 rfl dX1_addRange_31 ?_
  refine lv_iconst (v := (1 : Int32)) hx hb dX1_addRange_34 (by decide) ?_
  refine lv_isub hx hb dX1_addRange_35 ?_
  cases hm
  exact hret _ _ _ _ dX1_addRange_36 hP hD hS
set_option maxHeartbeats 4000000 in
set_option maxRecDepth 100000 in
theorem k_X6_valueCount {l : Launch} {D : va_G} {ad : Nat → Nat} {cI cJ cZ cO : ClassId} {t : Nat} {A : Nat → Prop} {N : Nat} {σ : zS} {v1 : Int32} {v2 : Int32} {r : Int32}  (hm : m_X6_valueCount N σ v1 v2 = some r) : zCi l yX6_valueCount cX6_valueCount 3 (some .int) (zR 0 0) D zclX (zty cI cJ cZ cO) t A (zwX ad cI cJ cZ cO) [.ref (ad 1), .int v1, .int v2] σ σ r := by
  refine zMi (by decide) (Nat.le_of_ble_eq_true rfl) ?_
  intro p e s m args below meth c Q hx hb hml hown hT hK hZ hret hP hD hS ls hl
  replace hown : s.vm.findClass RX6 = some m.cls := hown
  replace hl : lv_has ls 3 [(0, .ref (ad 1)), (1, .int v1), (2, .int v2)] := hl
  unfold m_X6_valueCount at hm
  refine lv_aload_n hx hb dX6_valueCount_0 rfl (lv_at hl 0 rfl) ?_
  refine zget (v := .ref (ad 10)) hx hb hT zinX6 hown hK hP 1 rfl rfl 3 (by decide) zw84 rfl dX6_valueCount_1 ?_
  refine lv_iload_n hx hb dX6_valueCount_4 rfl (lv_at hl 1 rfl) ?_
  refine lv_bipush (v := (6 : Int32)) hx hb dX6_valueCount_5 (by decide) ?_
  refine lv_imul hx hb dX6_valueCount_7 ?_
  refine lv_iload_n hx hb dX6_valueCount_8 rfl (lv_at hl 2 rfl) ?_
  refine lv_iadd hx hb dX6_valueCount_9 ?_
  obtain ⟨b1, eb1, hm⟩ := Option.bind_eq_some_iff.mp hm
  refine ziald hx hb hK hP 10 0 rfl rfl eb1 dX6_valueCount_10 ?_
  cases hm
  exact hret _ _ _ _ dX6_valueCount_11 hP hD hS
set_option maxHeartbeats 4000000 in
set_option maxRecDepth 100000 in
theorem k_X6_valueAt {l : Launch} {D : va_G} {ad : Nat → Nat} {cI cJ cZ cO : ClassId} {t : Nat} {A : Nat → Prop} {N : Nat} {σ : zS} {v1 : Int32} {v2 : Int32} {v3 : Int32} {r : Int32}  (hm : m_X6_valueAt N σ v1 v2 v3 = some r) : zCi l yX6_valueAt cX6_valueAt 4 (some .int) (zR 0 0) D zclX (zty cI cJ cZ cO) t A (zwX ad cI cJ cZ cO) [.ref (ad 1), .int v1, .int v2, .int v3] σ σ r := by
  refine zMi (by decide) (Nat.le_of_ble_eq_true rfl) ?_
  intro p e s m args below meth c Q hx hb hml hown hT hK hZ hret hP hD hS ls hl
  replace hown : s.vm.findClass RX6 = some m.cls := hown
  replace hl : lv_has ls 4 [(0, .ref (ad 1)), (1, .int v1), (2, .int v2), (3, .int v3)] := hl
  unfold m_X6_valueAt at hm
  refine lv_aload_n hx hb dX6_valueAt_0 rfl (lv_at hl 0 rfl) ?_
  refine zget (v := .ref (ad 9)) hx hb hT zinX6 hown hK hP 1 rfl rfl 2 (by decide) zw83 rfl dX6_valueAt_1 ?_
  refine lv_iload_n hx hb dX6_valueAt_4 rfl (lv_at hl 1 rfl) ?_
  refine lv_bipush (v := (6 : Int32)) hx hb dX6_valueAt_5 (by decide) ?_
  refine lv_imul hx hb dX6_valueAt_7 ?_
  refine lv_iload_n hx hb dX6_valueAt_8 rfl (lv_at hl 2 rfl) ?_
  refine lv_iadd hx hb dX6_valueAt_9 ?_
  refine lv_iconst (v := (3 : Int32)) hx hb dX6_valueAt_10 (by decide) ?_
  refine lv_imul hx hb dX6_valueAt_11 ?_
  refine lv_iload_n hx hb dX6_valueAt_12 rfl (lv_at hl 3 rfl) ?_
  refine lv_iadd hx hb dX6_valueAt_13 ?_
  obtain ⟨b1, eb1, hm⟩ := Option.bind_eq_some_iff.mp hm
  refine ziald hx hb hK hP 9 0 rfl rfl eb1 dX6_valueAt_14 ?_
  cases hm
  exact hret _ _ _ _ dX6_valueAt_15 hP hD hS
set_option maxHeartbeats 4000000 in
set_option maxRecDepth 100000 in
theorem k_X6_hasWithin {l : Launch} {D : va_G} {ad : Nat → Nat} {cI cJ cZ cO : ClassId} {t : Nat} {A : Nat → Prop} {N : Nat} {σ : zS} {v1 : Int32} {v2 : Int32} {v3 : Int32} {v4 : Int32} {r : Int32}  (hm : m_X6_hasWithin N σ v1 v2 v3 v4 = some r) : zCi l yX6_hasWithin cX6_hasWithin 8 (some .boolean) (zR 1 23) D zclX (zty cI cJ cZ cO) t A (zwX ad cI cJ cZ cO) [.ref (ad 1), .int v1, .int v2, .int v3, .int v4] σ σ r := by
  refine zMz (by decide) (Nat.le_of_ble_eq_true rfl) ?_
  intro p e s m args below meth c Q hx hb hml hown hT hK hZ hret hP hD hS ls hl
  replace hown : s.vm.findClass RX6 = some m.cls := hown
  replace hl : lv_has ls 8 [(0, .ref (ad 1)), (1, .int v1), (2, .int v2), (3, .int v3), (4, .int v4)] := hl
  have hL11 : ∀ (v5_2 : Int32), ∀ (q : Int32) (r : (Unit) ⊕ (Unit)), ziter (fun q : Int32 => m_X6_hasWithin_L11 N σ v1 v2 v3 v4 v5_2 q) N q = some r → (Sum.elim (fun r : Unit => ∀ (H : Heap) (locs : List Loc) (ls : Array Slot), va_P D zclX (zwX ad cI cJ cZ cO σ) H → va_D A (zwX ad cI cJ cZ cO σ) → va_S A s.heap H locs → lv_has ls 8 [] → W p l e (zR 1 23) s m args below meth c H locs 0 0 Q (F0 m 41 ls [])) (fun r : Unit => ∀ (H : Heap) (locs : List Loc) (ls : Array Slot), va_P D zclX (zwX ad cI cJ cZ cO σ) H → va_D A (zwX ad cI cJ cZ cO σ) → va_S A s.heap H locs → lv_has ls 8 [] → W p l e (zR 1 23) s m args below meth c H locs 0 0 Q (F0 m 49 ls [])) r) → ∀ (H : Heap) (locs : List Loc) (ls : Array Slot), va_P D zclX (zwX ad cI cJ cZ cO σ) H → va_D A (zwX ad cI cJ cZ cO σ) → va_S A s.heap H locs → lv_has ls 8 [(0, .ref (ad 1)), (1, .int v1), (2, .int v2), (3, .int v3), (4, .int v4), (5, .int v5_2), (6, .int q)] → W p l e (zR 1 23) s m args below meth c H locs 0 0 Q (F0 m 11 ls []) := by
    intro v5_2
    intro q r
    refine ziter_W (Hd := fun q : Int32 => ∀ (H : Heap) (locs : List Loc) (ls : Array Slot), va_P D zclX (zwX ad cI cJ cZ cO σ) H → va_D A (zwX ad cI cJ cZ cO σ) → va_S A s.heap H locs → lv_has ls 8 [(0, .ref (ad 1)), (1, .int v1), (2, .int v2), (3, .int v3), (4, .int v4), (5, .int v5_2), (6, .int q)] → W p l e (zR 1 23) s m args below meth c H locs 0 0 Q (F0 m 11 ls [])) (Ex := fun r : (Unit) ⊕ (Unit) => Sum.elim (fun r : Unit => ∀ (H : Heap) (locs : List Loc) (ls : Array Slot), va_P D zclX (zwX ad cI cJ cZ cO σ) H → va_D A (zwX ad cI cJ cZ cO σ) → va_S A s.heap H locs → lv_has ls 8 [] → W p l e (zR 1 23) s m args below meth c H locs 0 0 Q (F0 m 41 ls [])) (fun r : Unit => ∀ (H : Heap) (locs : List Loc) (ls : Array Slot), va_P D zclX (zwX ad cI cJ cZ cO σ) H → va_D A (zwX ad cI cJ cZ cO σ) → va_S A s.heap H locs → lv_has ls 8 [] → W p l e (zR 1 23) s m args below meth c H locs 0 0 Q (F0 m 49 ls [])) r) ?_ N q r
    rintro v6_2 res hm hk H locs ls hP hD hS hl
    try dsimp only at hP hD hl
    replace hm : m_X6_hasWithin_L11 N σ v1 v2 v3 v4 v5_2 v6_2 = some res := hm
    have h43 : ∀ (v6_6 : Int32), m_X6_hasWithin_43_in11 N σ v1 v2 v3 v4 v5_2 v6_6 = some res → ∀ (H : Heap) (locs : List Loc) (ls : Array Slot), va_P D zclX (zwX ad cI cJ cZ cO σ) H → va_D A (zwX ad cI cJ cZ cO σ) → va_S A s.heap H locs → lv_has ls 8 [(0, .ref (ad 1)), (1, .int v1), (2, .int v2), (3, .int v3), (4, .int v4), (5, .int v5_2), (6, .int v6_6)] → W p l e (zR 1 23) s m args below meth c H locs 0 0 Q (F0 m 43 ls []) := by
      intro v6_6 hm H locs ls hP hD hS hl
      unfold m_X6_hasWithin_43_in11 at hm
      refine lv_iinc (v := (v6_6 + (1 : Int32))) (lv' := [(6, .int (v6_6 + (1 : Int32))), (0, .ref (ad 1)), (1, .int v1), (2, .int v2), (3, .int v3), (4, .int v4), (5, .int v5_2)]) hx hb dX6_hasWithin_43 hl (k := 6) rfl rfl (by decide) rfl (fun ls hl => ?_)
      refine lv_goto (tgt := 11) hx hb dX6_hasWithin_46 (by decide) ?_
      cases hm
      exact hk _ _ _ hP hD hS (lv_sub hl [1, 2, 3, 4, 5, 6, 0] rfl)
    unfold m_X6_hasWithin_L11 at hm
    refine lv_iload hx hb dX6_hasWithin_11 (lv_at hl 6 rfl) ?_
    refine lv_iload hx hb dX6_hasWithin_13 (lv_at hl 5 rfl) ?_
    refine lv_icmp_ge (tgt := 49) hx hb dX6_hasWithin_15 (by decide) (fun h3 => ?_) (fun h3 => ?_)
    · rw [if_pos h3] at hm
      cases hm
      exact hk _ _ _ hP hD hS (lv_sub hl [] rfl)
    · rw [if_neg h3] at hm
      refine lv_aload_n hx hb dX6_hasWithin_18 rfl (lv_at hl 0 rfl) ?_
      refine lv_iload_n hx hb dX6_hasWithin_19 rfl (lv_at hl 1 rfl) ?_
      refine lv_iload_n hx hb dX6_hasWithin_20 rfl (lv_at hl 2 rfl) ?_
      refine lv_iload hx hb dX6_hasWithin_21 (lv_at hl 6 rfl) ?_
      obtain ⟨b4, eb4, hm⟩ := Option.bind_eq_some_iff.mp hm
      refine zVi (rest := []) [.int v1, .int v2, .int v6_2] hx hb hml hl.1 hown hT (k_X6_valueAt eb4) zkX6_valueAt zw387 ⟨by decide, by decide⟩ rfl rfl hK hZ hP hD hS 1 rfl rfl rfl rfl (Nat.le_of_ble_eq_true rfl) ⟨Nat.zero_le _, Nat.zero_le _⟩ dX6_hasWithin_23 (fun H locs hP hD hS => ?_)
      refine lv_istore (lv' := [(7, .int b4), (0, .ref (ad 1)), (1, .int v1), (2, .int v2), (3, .int v3), (4, .int v4), (5, .int v5_2), (6, .int v6_2)]) hx hb dX6_hasWithin_26 hl (by decide) rfl (fun ls hl => ?_)
      refine lv_iload hx hb dX6_hasWithin_28 (lv_at hl 0 rfl) ?_
      refine lv_iload_n hx hb dX6_hasWithin_30 rfl (lv_at hl 4 rfl) ?_
      refine lv_icmp_lt (tgt := 43) hx hb dX6_hasWithin_31 (by decide) (fun h5 => ?_) (fun h5 => ?_)
      · rw [if_pos h5] at hm
        exact h43 v6_2 hm _ _ _ hP hD hS (lv_sub hl [1, 2, 3, 4, 5, 6, 7] rfl)
      · rw [if_neg h5] at hm
        refine lv_iload hx hb dX6_hasWithin_34 (lv_at hl 0 rfl) ?_
        refine lv_iload hx hb dX6_hasWithin_36 (lv_at hl 5 rfl) ?_
        refine lv_icmp_gt (tgt := 43) hx hb dX6_hasWithin_38 (by decide) (fun h7 => ?_) (fun h7 => ?_)
        · rw [if_pos h7] at hm
          exact h43 v6_2 hm _ _ _ hP hD hS (lv_sub hl [1, 2, 3, 4, 5, 6, 7] rfl)
        · rw [if_neg h7] at hm
          cases hm
          exact hk _ _ _ hP hD hS (lv_sub hl [] rfl)
  have h41 : m_X6_hasWithin_41 N σ v1 v2 v3 v4 = some r → ∀ (H : Heap) (locs : List Loc) (ls : Array Slot), va_P D zclX (zwX ad cI cJ cZ cO σ) H → va_D A (zwX ad cI cJ cZ cO σ) → va_S A s.heap H locs → lv_has ls 8 [] → W p l e (zR 1 23) s m args below meth c H locs 0 0 Q (F0 m 41 ls []) := by
    intro  hm H locs ls hP hD hS hl
    unfold m_X6_hasWithin_41 at hm
    refine lv_iconst (v := (1 : Int32)) hx hb dX6_hasWithin_41 (by decide) ?_
    cases hm
    exact hret _ _ _ _ (by decide) dX6_hasWithin_42 hP hD hS
  have h49 : m_X6_hasWithin_49 N σ v1 v2 v3 v4 = some r → ∀ (H : Heap) (locs : List Loc) (ls : Array Slot), va_P D zclX (zwX ad cI cJ cZ cO σ) H → va_D A (zwX ad cI cJ cZ cO σ) → va_S A s.heap H locs → lv_has ls 8 [] → W p l e (zR 1 23) s m args below meth c H locs 0 0 Q (F0 m 49 ls []) := by
    intro  hm H locs ls hP hD hS hl
    unfold m_X6_hasWithin_49 at hm
    refine lv_iconst (v := (0 : Int32)) hx hb dX6_hasWithin_49 (by decide) ?_
    cases hm
    exact hret _ _ _ _ (by decide) dX6_hasWithin_50 hP hD hS
  unfold m_X6_hasWithin at hm
  refine lv_aload_n hx hb dX6_hasWithin_0 rfl (lv_at hl 0 rfl) ?_
  refine lv_iload_n hx hb dX6_hasWithin_1 rfl (lv_at hl 1 rfl) ?_
  refine lv_iload_n hx hb dX6_hasWithin_2 rfl (lv_at hl 2 rfl) ?_
  obtain ⟨b1, eb1, hm⟩ := Option.bind_eq_some_iff.mp hm
  refine zVi (rest := []) [.int v1, .int v2] hx hb hml hl.1 hown hT (k_X6_valueCount eb1) zkX6_valueCount zw386 ⟨by decide, by decide⟩ rfl rfl hK hZ hP hD hS 1 rfl rfl rfl rfl (Nat.le_of_ble_eq_true rfl) ⟨Nat.zero_le _, Nat.zero_le _⟩ dX6_hasWithin_3 (fun H locs hP hD hS => ?_)
  refine lv_istore (lv' := [(5, .int b1), (0, .ref (ad 1)), (1, .int v1), (2, .int v2), (3, .int v3), (4, .int v4)]) hx hb dX6_hasWithin_6 hl (by decide) rfl (fun ls hl => ?_)
  refine lv_iconst (v := (0 : Int32)) hx hb dX6_hasWithin_8 (by decide) ?_
  refine lv_istore (lv' := [(6, .int (0 : Int32)), (5, .int b1), (0, .ref (ad 1)), (1, .int v1), (2, .int v2), (3, .int v3), (4, .int v4)]) hx hb dX6_hasWithin_9 hl (by decide) rfl (fun ls hl => ?_)
  obtain ⟨r8, e13, hm⟩ := Option.bind_eq_some_iff.mp hm
  refine hL11 b1 _ r8 e13 ?_ _ _ _ hP hD hS (lv_sub hl [2, 3, 4, 5, 6, 1, 0] rfl)
  rcases r8 with _ | _
  · intro H locs ls hP hD hS hl
    try dsimp only at hP hD hl
    replace hm : m_X6_hasWithin_41 N σ v1 v2 v3 v4 = some r := hm
    exact h41  hm _ _ _ hP hD hS (lv_sub hl [] rfl)
  · intro H locs ls hP hD hS hl
    try dsimp only at hP hD hl
    replace hm : m_X6_hasWithin_49 N σ v1 v2 v3 v4 = some r := hm
    exact h49  hm _ _ _ hP hD hS (lv_sub hl [] rfl)
set_option maxHeartbeats 4000000 in
set_option maxRecDepth 100000 in
theorem k_X1_counts {l : Launch} {D : va_G} {ad : Nat → Nat} {cI cJ cZ cO : ClassId} {t : Nat} {A : Nat → Prop} {N : Nat} {σ : zS} {k : Nat} {v2 : Int32} {r : Int32} (hkf : k < 10) (hm : m_X1_counts N σ k v2 = some r) : zCi l yX1_counts cX1_counts 3 (some .boolean) (zR 2 50) D zclX (zty cI cJ cZ cO) t A (zwX ad cI cJ cZ cO) [.ref (ad (20 + k)), .ref (ad 1), .int v2] σ σ r := by
  refine zMz (by decide) (Nat.le_of_ble_eq_true rfl) ?_
  intro p e s m args below meth c Q hx hb hml hown hT hK hZ hret hP hD hS ls hl
  replace hown : s.vm.findClass RX1 = some m.cls := hown
  replace hl : lv_has ls 3 [(0, .ref (ad (20 + k))), (1, .ref (ad 1)), (2, .int v2)] := hl
  unfold m_X1_counts at hm
  refine lv_aload_n hx hb dX1_counts_0 rfl (lv_at hl 0 rfl) ?_
  refine zget (v := .int (σ.1 (12 + 12 * k))) hx hb hT zinX1 hown hK hP (20 + k) (zF_obj hkf) rfl 4 (by decide) zw125 rfl dX1_counts_1 ?_
  refine lv_ldc hx hb hown (hT _ zw332) dX1_counts_4 ?_
  refine lv_icmp_eq (tgt := 29) hx hb dX1_counts_6 (by decide) (fun h1 => ?_) (fun h1 => ?_)
  · rw [if_pos h1] at hm
    refine lv_iconst (v := (1 : Int32)) hx hb dX1_counts_29 (by decide) ?_
    refine lv_goto (tgt := 34) hx hb dX1_counts_30 (by decide) ?_
    cases hm
    exact hret _ _ _ _ (by decide) dX1_counts_34 hP hD hS
  · rw [if_neg h1] at hm
    refine lv_aload_n hx hb dX1_counts_9 rfl (lv_at hl 1 rfl) ?_
    refine lv_iload_n hx hb dX1_counts_10 rfl (lv_at hl 2 rfl) ?_
    refine lv_aload_n hx hb dX1_counts_11 rfl (lv_at hl 0 rfl) ?_
    refine zget (v := .int (σ.1 (12 + 12 * k))) hx hb hT zinX1 hown hK hP (20 + k) (zF_obj hkf) rfl 4 (by decide) zw125 rfl dX1_counts_12 ?_
    refine lv_aload_n hx hb dX1_counts_15 rfl (lv_at hl 0 rfl) ?_
    refine zget (v := .int (σ.1 (13 + 12 * k))) hx hb hT zinX1 hown hK hP (20 + k) (zF_obj hkf) rfl 5 (by decide) zw127 rfl dX1_counts_16 ?_
    refine lv_aload_n hx hb dX1_counts_19 rfl (lv_at hl 0 rfl) ?_
    refine zget (v := .int (σ.1 (14 + 12 * k))) hx hb hT zinX1 hown hK hP (20 + k) (zF_obj hkf) rfl 6 (by decide) zw129 rfl dX1_counts_20 ?_
    obtain ⟨b2, eb2, hm⟩ := Option.bind_eq_some_iff.mp hm
    refine zVi (rest := []) [.int v2, .int (σ.1 (12 + 12 * k)), .int (σ.1 (13 + 12 * k)), .int (σ.1 (14 + 12 * k))] hx hb hml hl.1 hown hT (k_X6_hasWithin eb2) zkX6_hasWithin zw382 ⟨by decide, by decide⟩ rfl rfl hK hZ hP hD hS 1 rfl rfl rfl rfl (Nat.le_of_ble_eq_true rfl) ⟨Nat.zero_le _, Nat.zero_le _⟩ dX1_counts_23 (fun H locs hP hD hS => ?_)
    refine lv_if_eq (tgt := 33) hx hb dX1_counts_26 (by decide) (fun h3 => ?_) (fun h3 => ?_)
    · rw [if_pos h3] at hm
      refine lv_iconst (v := (0 : Int32)) hx hb dX1_counts_33 (by decide) ?_
      cases hm
      exact hret _ _ _ _ (by decide) dX1_counts_34 hP hD hS
    · rw [if_neg h3] at hm
      refine lv_iconst (v := (1 : Int32)) hx hb dX1_counts_29 (by decide) ?_
      refine lv_goto (tgt := 34) hx hb dX1_counts_30 (by decide) ?_
      cases hm
      exact hret _ _ _ _ (by decide) dX1_counts_34 hP hD hS
set_option maxHeartbeats 4000000 in
set_option maxRecDepth 100000 in
theorem k_X4_startOver {l : Launch} {D : va_G} {ad : Nat → Nat} {cI cJ cZ cO : ClassId} {t : Nat} {A : Nat → Prop} {N : Nat} {σ σ' : zS}    (hm : m_X4_startOver N σ = some σ') : zCv l yX4_startOver cX4_startOver 1 (none) (zR 0 0) D zclX (zty cI cJ cZ cO) t A (zwX ad cI cJ cZ cO) [.ref (ad 6)] σ σ' := by
  refine zMv (by decide) (Nat.le_of_ble_eq_true rfl) ?_
  intro p e s m args below meth c Q hx hb hml hown hT hK hZ hret hP hD hS ls hl
  replace hown : s.vm.findClass RX4 = some m.cls := hown
  replace hl : lv_has ls 1 [(0, .ref (ad 6))] := hl
  unfold m_X4_startOver at hm
  refine lv_aload_n hx hb dX4_startOver_0 rfl (lv_at hl 0 rfl) ?_
  refine lv_iconst (v := (0 : Int32)) hx hb dX4_startOver_1 (by decide) ?_
  obtain ⟨σ1, eσ1, hm⟩ := Option.bind_eq_some_iff.mp hm
  refine zput (j := 4) (ty := .int) hx hb hT zinX4 tyX4 tyX4_ok nmX4 hown hK hP hD hS 6 rfl rfl 0 (by decide) zw189 rfl (by decide +kernel) rfl rfl (Nat.le_of_ble_eq_true rfl) eσ1 rfl dX4_startOver_2 (fun H locs hP hD hS => ?_)
  cases hm
  exact hret _ _ _ _ dX4_startOver_5 hP hD hS
set_option maxHeartbeats 4000000 in
set_option maxRecDepth 100000 in
theorem k_X4_add {l : Launch} {D : va_G} {ad : Nat → Nat} {cI cJ cZ cO : ClassId} {t : Nat} {A : Nat → Prop} {N : Nat} {σ σ' : zS} {v1 : Int32}   (hm : m_X4_add N σ v1 = some σ') : zCv l yX4_add cX4_add 3 (none) (zR 0 0) D zclX (zty cI cJ cZ cO) t A (zwX ad cI cJ cZ cO) [.ref (ad 6), .int v1] σ σ' := by
  refine zMv (by decide) (Nat.le_of_ble_eq_true rfl) ?_
  intro p e s m args below meth c Q hx hb hml hown hT hK hZ hret hP hD hS ls hl
  replace hown : s.vm.findClass RX4 = some m.cls := hown
  replace hl : lv_has ls 3 [(0, .ref (ad 6)), (1, .int v1)] := hl
  have hL2 : ∀ (σ1 : zS), ∀ (q : Int32) (r : (Unit) ⊕ (Unit)), ziter (fun q : Int32 => m_X4_add_L2 N v1 σ1 q) N q = some r → (Sum.elim (fun r : Unit => ∀ (H : Heap) (locs : List Loc) (ls : Array Slot), va_P D zclX (zwX ad cI cJ cZ cO σ1) H → va_D A (zwX ad cI cJ cZ cO σ1) → va_S A s.heap H locs → lv_has ls 3 [] → W p l e (zR 0 0) s m args below meth c H locs 0 0 Q (F0 m 20 ls [])) (fun r : Unit => ∀ (H : Heap) (locs : List Loc) (ls : Array Slot), va_P D zclX (zwX ad cI cJ cZ cO σ1) H → va_D A (zwX ad cI cJ cZ cO σ1) → va_S A s.heap H locs → lv_has ls 3 [(0, .ref (ad 6)), (1, .int v1)] → W p l e (zR 0 0) s m args below meth c H locs 0 0 Q (F0 m 27 ls [])) r) → ∀ (H : Heap) (locs : List Loc) (ls : Array Slot), va_P D zclX (zwX ad cI cJ cZ cO σ1) H → va_D A (zwX ad cI cJ cZ cO σ1) → va_S A s.heap H locs → lv_has ls 3 [(0, .ref (ad 6)), (1, .int v1), (2, .int q)] → W p l e (zR 0 0) s m args below meth c H locs 0 0 Q (F0 m 2 ls []) := by
    intro σ1
    intro q r
    refine ziter_W (Hd := fun q : Int32 => ∀ (H : Heap) (locs : List Loc) (ls : Array Slot), va_P D zclX (zwX ad cI cJ cZ cO σ1) H → va_D A (zwX ad cI cJ cZ cO σ1) → va_S A s.heap H locs → lv_has ls 3 [(0, .ref (ad 6)), (1, .int v1), (2, .int q)] → W p l e (zR 0 0) s m args below meth c H locs 0 0 Q (F0 m 2 ls [])) (Ex := fun r : (Unit) ⊕ (Unit) => Sum.elim (fun r : Unit => ∀ (H : Heap) (locs : List Loc) (ls : Array Slot), va_P D zclX (zwX ad cI cJ cZ cO σ1) H → va_D A (zwX ad cI cJ cZ cO σ1) → va_S A s.heap H locs → lv_has ls 3 [] → W p l e (zR 0 0) s m args below meth c H locs 0 0 Q (F0 m 20 ls [])) (fun r : Unit => ∀ (H : Heap) (locs : List Loc) (ls : Array Slot), va_P D zclX (zwX ad cI cJ cZ cO σ1) H → va_D A (zwX ad cI cJ cZ cO σ1) → va_S A s.heap H locs → lv_has ls 3 [(0, .ref (ad 6)), (1, .int v1)] → W p l e (zR 0 0) s m args below meth c H locs 0 0 Q (F0 m 27 ls [])) r) ?_ N q r
    rintro v2_1 res hm hk H locs ls hP hD hS hl
    try dsimp only at hP hD hl
    replace hm : m_X4_add_L2 N v1 σ1 v2_1 = some res := hm
    unfold m_X4_add_L2 at hm
    refine lv_iload_n hx hb dX4_add_2 rfl (lv_at hl 2 rfl) ?_
    refine lv_aload_n hx hb dX4_add_3 rfl (lv_at hl 0 rfl) ?_
    refine zget (v := .int (σ1.1 4)) hx hb hT zinX4 hown hK hP 6 rfl rfl 0 (by decide) zw189 rfl dX4_add_4 ?_
    refine lv_icmp_ge (tgt := 27) hx hb dX4_add_7 (by decide) (fun h2 => ?_) (fun h2 => ?_)
    · rw [if_pos h2] at hm
      cases hm
      exact hk _ _ _ hP hD hS (lv_sub hl [0, 1] rfl)
    · rw [if_neg h2] at hm
      refine lv_aload_n hx hb dX4_add_10 rfl (lv_at hl 0 rfl) ?_
      refine zget (v := .ref (ad 12)) hx hb hT zinX4 hown hK hP 6 rfl rfl 1 (by decide) zw191 rfl dX4_add_11 ?_
      refine lv_iload_n hx hb dX4_add_14 rfl (lv_at hl 2 rfl) ?_
      obtain ⟨b3, eb3, hm⟩ := Option.bind_eq_some_iff.mp hm
      refine ziald hx hb hK hP 12 0 rfl rfl eb3 dX4_add_15 ?_
      refine lv_iload_n hx hb dX4_add_16 rfl (lv_at hl 1 rfl) ?_
      refine lv_icmp_ne (tgt := 21) hx hb dX4_add_17 (by decide) (fun h4 => ?_) (fun h4 => ?_)
      · rw [if_neg h4] at hm
        refine lv_iinc (v := (v2_1 + (1 : Int32))) (lv' := [(2, .int (v2_1 + (1 : Int32))), (0, .ref (ad 6)), (1, .int v1)]) hx hb dX4_add_21 hl (k := 2) rfl rfl (by decide) rfl (fun ls hl => ?_)
        refine lv_goto (tgt := 2) hx hb dX4_add_24 (by decide) ?_
        cases hm
        exact hk _ _ _ hP hD hS (lv_sub hl [1, 2, 0] rfl)
      · rw [if_pos h4] at hm
        cases hm
        exact hk _ _ _ hP hD hS (lv_sub hl [] rfl)
  have h20 : ∀ (σ7 : zS), m_X4_add_20 N v1 σ7 = some σ' → ∀ (H : Heap) (locs : List Loc) (ls : Array Slot), va_P D zclX (zwX ad cI cJ cZ cO σ7) H → va_D A (zwX ad cI cJ cZ cO σ7) → va_S A s.heap H locs → lv_has ls 3 [] → W p l e (zR 0 0) s m args below meth c H locs 0 0 Q (F0 m 20 ls []) := by
    intro σ7 hm H locs ls hP hD hS hl
    unfold m_X4_add_20 at hm
    cases hm
    exact hret _ _ _ _ dX4_add_20 hP hD hS
  have h27 : ∀ (σ9 : zS), m_X4_add_27 N v1 σ9 = some σ' → ∀ (H : Heap) (locs : List Loc) (ls : Array Slot), va_P D zclX (zwX ad cI cJ cZ cO σ9) H → va_D A (zwX ad cI cJ cZ cO σ9) → va_S A s.heap H locs → lv_has ls 3 [(0, .ref (ad 6)), (1, .int v1)] → W p l e (zR 0 0) s m args below meth c H locs 0 0 Q (F0 m 27 ls []) := by
    intro σ9 hm H locs ls hP hD hS hl
    unfold m_X4_add_27 at hm
    refine lv_aload_n hx hb dX4_add_27 rfl (lv_at hl 0 rfl) ?_
    refine zget (v := .int (σ9.1 4)) hx hb hT zinX4 hown hK hP 6 rfl rfl 0 (by decide) zw189 rfl dX4_add_28 ?_
    refine lv_bipush (v := (18 : Int32)) hx hb dX4_add_31 (by decide) ?_
    refine lv_icmp_ge (tgt := 56) hx hb dX4_add_33 (by decide) (fun h10 => ?_) (fun h10 => ?_)
    · rw [if_pos h10] at hm
      cases hm
      exact hret _ _ _ _ dX4_add_56 hP hD hS
    · rw [if_neg h10] at hm
      refine lv_aload_n hx hb dX4_add_36 rfl (lv_at hl 0 rfl) ?_
      refine zget (v := .ref (ad 12)) hx hb hT zinX4 hown hK hP 6 rfl rfl 1 (by decide) zw191 rfl dX4_add_37 ?_
      refine lv_aload_n hx hb dX4_add_40 rfl (lv_at hl 0 rfl) ?_
      refine zget (v := .int (σ9.1 4)) hx hb hT zinX4 hown hK hP 6 rfl rfl 0 (by decide) zw189 rfl dX4_add_41 ?_
      refine lv_iload_n hx hb dX4_add_44 rfl (lv_at hl 1 rfl) ?_
      obtain ⟨σ11, eσ11, hm⟩ := Option.bind_eq_some_iff.mp hm
      refine ziast (j := 4) hx hb hK hP hD hS 12 0 rfl rfl eσ11 (fun _ => rfl) dX4_add_45 (fun H locs hP hD hS => ?_)
      refine lv_aload_n hx hb dX4_add_46 rfl (lv_at hl 0 rfl) ?_
      refine lv_dup hx hb dX4_add_47 rfl ?_
      refine zget (v := .int (σ11.1 4)) hx hb hT zinX4 hown hK hP 6 rfl rfl 0 (by decide) zw189 rfl dX4_add_48 ?_
      refine lv_iconst (v := (1 : Int32)) hx hb dX4_add_51 (by decide) ?_
      refine lv_iadd hx hb dX4_add_52 ?_
      obtain ⟨σ12, eσ12, hm⟩ := Option.bind_eq_some_iff.mp hm
      refine zput (j := 4) (ty := .int) hx hb hT zinX4 tyX4 tyX4_ok nmX4 hown hK hP hD hS 6 rfl rfl 0 (by decide) zw189 rfl (by decide +kernel) rfl rfl (Nat.le_of_ble_eq_true rfl) eσ12 rfl dX4_add_53 (fun H locs hP hD hS => ?_)
      cases hm
      exact hret _ _ _ _ dX4_add_56 hP hD hS
  unfold m_X4_add at hm
  refine lv_iconst (v := (0 : Int32)) hx hb dX4_add_0 (by decide) ?_
  refine lv_istore_n (lv' := [(2, .int (0 : Int32)), (0, .ref (ad 6)), (1, .int v1)]) hx hb dX4_add_1 rfl hl (by decide) rfl (fun ls hl => ?_)
  obtain ⟨r5, e13, hm⟩ := Option.bind_eq_some_iff.mp hm
  refine hL2 σ _ r5 e13 ?_ _ _ _ hP hD hS (lv_sub hl [1, 2, 0] rfl)
  rcases r5 with _ | _
  · intro H locs ls hP hD hS hl
    try dsimp only at hP hD hl
    replace hm : m_X4_add_20 N v1 σ = some σ' := hm
    exact h20 σ hm _ _ _ hP hD hS (lv_sub hl [] rfl)
  · intro H locs ls hP hD hS hl
    try dsimp only at hP hD hl
    replace hm : m_X4_add_27 N v1 σ = some σ' := hm
    exact h27 σ hm _ _ _ hP hD hS (lv_sub hl [0, 1] rfl)
set_option maxHeartbeats 4000000 in
set_option maxRecDepth 100000 in
theorem k_X1_addPathKeys {l : Launch} {D : va_G} {ad : Nat → Nat} {cI cJ cZ cO : ClassId} {t : Nat} {A : Nat → Prop} {N : Nat} {σ σ' : zS} {v0 : Int32}   (hm : m_X1_addPathKeys N σ v0 = some σ') : zCv l yX1_addPathKeys cX1_addPathKeys 4 (none) (zR 1 22) D zclX (zty cI cJ cZ cO) t A (zwX ad cI cJ cZ cO) [.int v0, .ref (ad 6)] σ σ' := by
  refine zMv (by decide) (Nat.le_of_ble_eq_true rfl) ?_
  intro p e s m args below meth c Q hx hb hml hown hT hK hZ hret hP hD hS ls hl
  replace hown : s.vm.findClass RX1 = some m.cls := hown
  replace hl : lv_has ls 4 [(0, .int v0), (1, .ref (ad 6))] := hl
  have h77 : ∀ (σ11 : zS) (v3_11 : Int32), m_X1_addPathKeys_77 N v0 σ11 v3_11 = some σ' → ∀ (H : Heap) (locs : List Loc) (ls : Array Slot), va_P D zclX (zwX ad cI cJ cZ cO σ11) H → va_D A (zwX ad cI cJ cZ cO σ11) → va_S A s.heap H locs → lv_has ls 4 [(0, .int v0), (1, .ref (ad 6)), (3, .int v3_11)] → W p l e (zR 1 22) s m args below meth c H locs 0 0 Q (F0 m 77 ls []) := by
    intro σ11 v3_11 hm H locs ls hP hD hS hl
    unfold m_X1_addPathKeys_77 at hm
    refine lv_iload_n hx hb dX1_addPathKeys_77 rfl (lv_at hl 2 rfl) ?_
    refine lv_if_eq (tgt := 86) hx hb dX1_addPathKeys_78 (by decide) (fun h12 => ?_) (fun h12 => ?_)
    · rw [if_pos h12] at hm
      cases hm
      exact hret _ _ _ _ dX1_addPathKeys_86 hP hD hS
    · rw [if_neg h12] at hm
      refine lv_aload_n hx hb dX1_addPathKeys_81 rfl (lv_at hl 1 rfl) ?_
      refine lv_iload_n hx hb dX1_addPathKeys_82 rfl (lv_at hl 0 rfl) ?_
      obtain ⟨σ13, eσ13, hm⟩ := Option.bind_eq_some_iff.mp hm
      refine zVv (rest := []) [.int v0] hx hb hml hl.1 hown hT (k_X4_add eσ13) zkX4_add zw405 ⟨by decide, by decide⟩ rfl rfl hK hZ hP hD hS 6 rfl rfl rfl rfl (Nat.le_of_ble_eq_true rfl) ⟨Nat.zero_le _, Nat.zero_le _⟩ dX1_addPathKeys_83 (fun H locs hP hD hS => ?_)
      cases hm
      exact hret _ _ _ _ dX1_addPathKeys_86 hP hD hS
  have h52 : ∀ (σ8 : zS) (v2_8 : Int32) (v3_8 : Int32), m_X1_addPathKeys_52 N v0 σ8 v2_8 v3_8 = some σ' → ∀ (H : Heap) (locs : List Loc) (ls : Array Slot), va_P D zclX (zwX ad cI cJ cZ cO σ8) H → va_D A (zwX ad cI cJ cZ cO σ8) → va_S A s.heap H locs → lv_has ls 4 [(0, .int v0), (1, .ref (ad 6)), (2, .int v2_8), (3, .int v3_8)] → W p l e (zR 1 22) s m args below meth c H locs 0 0 Q (F0 m 52 ls []) := by
    intro σ8 v2_8 v3_8 hm H locs ls hP hD hS hl
    unfold m_X1_addPathKeys_52 at hm
    refine lv_aload_n hx hb dX1_addPathKeys_52 rfl (lv_at hl 1 rfl) ?_
    refine lv_iload_n hx hb dX1_addPathKeys_53 rfl (lv_at hl 0 rfl) ?_
    refine lv_iload_n hx hb dX1_addPathKeys_54 rfl (lv_at hl 0 rfl) ?_
    refine lv_sipush (v := (10000 : Int32)) hx hb dX1_addPathKeys_55 (by decide) ?_
    refine lv_irem hx hb dX1_addPathKeys_58 (by decide) ?_
    refine lv_isub hx hb dX1_addPathKeys_59 ?_
    obtain ⟨σ9, eσ9, hm⟩ := Option.bind_eq_some_iff.mp hm
    refine zVv (rest := []) [.int (v0 - (v0 - v0 / (10000 : Int32) * (10000 : Int32)))] hx hb hml hl.1 hown hT (k_X4_add eσ9) zkX4_add zw405 ⟨by decide, by decide⟩ rfl rfl hK hZ hP hD hS 6 rfl rfl rfl rfl (Nat.le_of_ble_eq_true rfl) ⟨Nat.zero_le _, Nat.zero_le _⟩ dX1_addPathKeys_60 (fun H locs hP hD hS => ?_)
    refine lv_iload_n hx hb dX1_addPathKeys_63 rfl (lv_at hl 2 rfl) ?_
    refine lv_if_eq (tgt := 77) hx hb dX1_addPathKeys_64 (by decide) (fun h10 => ?_) (fun h10 => ?_)
    · rw [if_pos h10] at hm
      exact h77 σ9 v3_8 hm _ _ _ hP hD hS (lv_sub hl [0, 1, 3] rfl)
    · rw [if_neg h10] at hm
      refine lv_aload_n hx hb dX1_addPathKeys_67 rfl (lv_at hl 1 rfl) ?_
      refine lv_iload_n hx hb dX1_addPathKeys_68 rfl (lv_at hl 0 rfl) ?_
      refine lv_iload_n hx hb dX1_addPathKeys_69 rfl (lv_at hl 0 rfl) ?_
      refine lv_bipush (v := (100 : Int32)) hx hb dX1_addPathKeys_70 (by decide) ?_
      refine lv_irem hx hb dX1_addPathKeys_72 (by decide) ?_
      refine lv_isub hx hb dX1_addPathKeys_73 ?_
      obtain ⟨σ14, eσ14, hm⟩ := Option.bind_eq_some_iff.mp hm
      refine zVv (rest := []) [.int (v0 - (v0 - v0 / (100 : Int32) * (100 : Int32)))] hx hb hml hl.1 hown hT (k_X4_add eσ14) zkX4_add zw405 ⟨by decide, by decide⟩ rfl rfl hK hZ hP hD hS 6 rfl rfl rfl rfl (Nat.le_of_ble_eq_true rfl) ⟨Nat.zero_le _, Nat.zero_le _⟩ dX1_addPathKeys_74 (fun H locs hP hD hS => ?_)
      exact h77 σ14 v3_8 hm _ _ _ hP hD hS (lv_sub hl [0, 1, 3] rfl)
  have h42 : ∀ (σ6 : zS) (v2_6 : Int32) (x0_6 : Int32), m_X1_addPathKeys_42 N v0 σ6 v2_6 x0_6 = some σ' → ∀ (H : Heap) (locs : List Loc) (ls : Array Slot), va_P D zclX (zwX ad cI cJ cZ cO σ6) H → va_D A (zwX ad cI cJ cZ cO σ6) → va_S A s.heap H locs → lv_has ls 4 [(0, .int v0), (1, .ref (ad 6)), (2, .int v2_6)] → W p l e (zR 1 22) s m args below meth c H locs 0 0 Q (F0 m 42 ls [.int x0_6]) := by
    intro σ6 v2_6 x0_6 hm H locs ls hP hD hS hl
    unfold m_X1_addPathKeys_42 at hm
    refine lv_istore_n (lv' := [(3, .int x0_6), (0, .int v0), (1, .ref (ad 6)), (2, .int v2_6)]) hx hb dX1_addPathKeys_42 rfl hl (by decide) rfl (fun ls hl => ?_)
    refine lv_iload_n hx hb dX1_addPathKeys_43 rfl (lv_at hl 0 rfl) ?_
    refine lv_if_eq (tgt := 52) hx hb dX1_addPathKeys_44 (by decide) (fun h7 => ?_) (fun h7 => ?_)
    · rw [if_pos h7] at hm
      exact h52 σ6 v2_6 x0_6 hm _ _ _ hP hD hS (lv_sub hl [1, 2, 3, 0] rfl)
    · rw [if_neg h7] at hm
      refine lv_iload_n hx hb dX1_addPathKeys_47 rfl (lv_at hl 3 rfl) ?_
      refine lv_if_ne (tgt := 52) hx hb dX1_addPathKeys_48 (by decide) (fun h15 => ?_) (fun h15 => ?_)
      · rw [if_neg h15] at hm
        exact h52 σ6 v2_6 x0_6 hm _ _ _ hP hD hS (lv_sub hl [1, 2, 3, 0] rfl)
      · rw [if_pos h15] at hm
        cases hm
        exact hret _ _ _ _ dX1_addPathKeys_51 hP hD hS
  have h29 : ∀ (σ4 : zS) (x0_4 : Int32), m_X1_addPathKeys_29 N v0 σ4 x0_4 = some σ' → ∀ (H : Heap) (locs : List Loc) (ls : Array Slot), va_P D zclX (zwX ad cI cJ cZ cO σ4) H → va_D A (zwX ad cI cJ cZ cO σ4) → va_S A s.heap H locs → lv_has ls 4 [(0, .int v0), (1, .ref (ad 6))] → W p l e (zR 1 22) s m args below meth c H locs 0 0 Q (F0 m 29 ls [.int x0_4]) := by
    intro σ4 x0_4 hm H locs ls hP hD hS hl
    unfold m_X1_addPathKeys_29 at hm
    refine lv_istore_n (lv' := [(2, .int x0_4), (0, .int v0), (1, .ref (ad 6))]) hx hb dX1_addPathKeys_29 rfl hl (by decide) rfl (fun ls hl => ?_)
    refine lv_iload_n hx hb dX1_addPathKeys_30 rfl (lv_at hl 1 rfl) ?_
    refine lv_bipush (v := (100 : Int32)) hx hb dX1_addPathKeys_31 (by decide) ?_
    refine lv_irem hx hb dX1_addPathKeys_33 (by decide) ?_
    refine lv_if_eq (tgt := 41) hx hb dX1_addPathKeys_34 (by decide) (fun h5 => ?_) (fun h5 => ?_)
    · rw [if_pos h5] at hm
      refine lv_iconst (v := (0 : Int32)) hx hb dX1_addPathKeys_41 (by decide) ?_
      exact h42 σ4 x0_4 (0 : Int32) hm _ _ _ hP hD hS (lv_sub hl [1, 2, 0] rfl)
    · rw [if_neg h5] at hm
      refine lv_iconst (v := (1 : Int32)) hx hb dX1_addPathKeys_37 (by decide) ?_
      refine lv_goto (tgt := 42) hx hb dX1_addPathKeys_38 (by decide) ?_
      exact h42 σ4 x0_4 (1 : Int32) hm _ _ _ hP hD hS (lv_sub hl [1, 2, 0] rfl)
  unfold m_X1_addPathKeys at hm
  refine lv_iload_n hx hb dX1_addPathKeys_0 rfl (lv_at hl 0 rfl) ?_
  refine lv_sipush (v := (10000 : Int32)) hx hb dX1_addPathKeys_1 (by decide) ?_
  refine lv_icmp_lt (tgt := 13) hx hb dX1_addPathKeys_4 (by decide) (fun h1 => ?_) (fun h1 => ?_)
  · rw [if_pos h1] at hm
    cases hm
    exact hret _ _ _ _ dX1_addPathKeys_13 hP hD hS
  · rw [if_neg h1] at hm
    refine lv_iload_n hx hb dX1_addPathKeys_7 rfl (lv_at hl 0 rfl) ?_
    refine lv_ldc hx hb hown (hT _ zw412) dX1_addPathKeys_8 ?_
    refine lv_icmp_le (tgt := 14) hx hb dX1_addPathKeys_10 (by decide) (fun h2 => ?_) (fun h2 => ?_)
    · rw [if_pos h2] at hm
      refine lv_iload_n hx hb dX1_addPathKeys_14 rfl (lv_at hl 0 rfl) ?_
      refine lv_bipush (v := (100 : Int32)) hx hb dX1_addPathKeys_15 (by decide) ?_
      refine lv_idiv hx hb dX1_addPathKeys_17 (by decide) ?_
      refine lv_bipush (v := (100 : Int32)) hx hb dX1_addPathKeys_18 (by decide) ?_
      refine lv_irem hx hb dX1_addPathKeys_20 (by decide) ?_
      refine lv_if_eq (tgt := 28) hx hb dX1_addPathKeys_21 (by decide) (fun h3 => ?_) (fun h3 => ?_)
      · rw [if_pos h3] at hm
        refine lv_iconst (v := (0 : Int32)) hx hb dX1_addPathKeys_28 (by decide) ?_
        exact h29 σ (0 : Int32) hm _ _ _ hP hD hS (lv_sub hl [0, 1] rfl)
      · rw [if_neg h3] at hm
        refine lv_iconst (v := (1 : Int32)) hx hb dX1_addPathKeys_24 (by decide) ?_
        refine lv_goto (tgt := 29) hx hb dX1_addPathKeys_25 (by decide) ?_
        exact h29 σ (1 : Int32) hm _ _ _ hP hD hS (lv_sub hl [0, 1] rfl)
    · rw [if_neg h2] at hm
      cases hm
      exact hret _ _ _ _ dX1_addPathKeys_13 hP hD hS
set_option maxHeartbeats 4000000 in
set_option maxRecDepth 100000 in
theorem k_X1_addRangeKeys {l : Launch} {D : va_G} {ad : Nat → Nat} {cI cJ cZ cO : ClassId} {t : Nat} {A : Nat → Prop} {N : Nat} {σ σ' : zS} {k : Nat} {v1 : Int32}  (hkf : k < 10) (hm : m_X1_addRangeKeys N σ k v1 = some σ') : zCv l yX1_addRangeKeys cX1_addRangeKeys 4 (none) (zR 1 22) D zclX (zty cI cJ cZ cO) t A (zwX ad cI cJ cZ cO) [.ref (ad (20 + k)), .int v1, .ref (ad 6)] σ σ' := by
  refine zMv (by decide) (Nat.le_of_ble_eq_true rfl) ?_
  intro p e s m args below meth c Q hx hb hml hown hT hK hZ hret hP hD hS ls hl
  replace hown : s.vm.findClass RX1 = some m.cls := hown
  replace hl : lv_has ls 4 [(0, .ref (ad (20 + k))), (1, .int v1), (2, .ref (ad 6))] := hl
  have hL2 : ∀ (q : zS × Int32) (r : zS), ziter (fun q : zS × Int32 => m_X1_addRangeKeys_L2 N k v1 q.1 q.2) N q = some r → (∀ (H : Heap) (locs : List Loc) (ls : Array Slot), va_P D zclX (zwX ad cI cJ cZ cO r) H → va_D A (zwX ad cI cJ cZ cO r) → va_S A s.heap H locs → lv_has ls 4 [] → W p l e (zR 1 22) s m args below meth c H locs 0 0 Q (F0 m 41 ls [])) → ∀ (H : Heap) (locs : List Loc) (ls : Array Slot), va_P D zclX (zwX ad cI cJ cZ cO q.1) H → va_D A (zwX ad cI cJ cZ cO q.1) → va_S A s.heap H locs → lv_has ls 4 [(0, .ref (ad (20 + k))), (1, .int v1), (2, .ref (ad 6)), (3, .int q.2)] → W p l e (zR 1 22) s m args below meth c H locs 0 0 Q (F0 m 2 ls []) := by
    intro q r
    refine ziter_W (Hd := fun q : zS × Int32 => ∀ (H : Heap) (locs : List Loc) (ls : Array Slot), va_P D zclX (zwX ad cI cJ cZ cO q.1) H → va_D A (zwX ad cI cJ cZ cO q.1) → va_S A s.heap H locs → lv_has ls 4 [(0, .ref (ad (20 + k))), (1, .int v1), (2, .ref (ad 6)), (3, .int q.2)] → W p l e (zR 1 22) s m args below meth c H locs 0 0 Q (F0 m 2 ls [])) (Ex := fun r : zS => ∀ (H : Heap) (locs : List Loc) (ls : Array Slot), va_P D zclX (zwX ad cI cJ cZ cO r) H → va_D A (zwX ad cI cJ cZ cO r) → va_S A s.heap H locs → lv_has ls 4 [] → W p l e (zR 1 22) s m args below meth c H locs 0 0 Q (F0 m 41 ls [])) ?_ N q r
    rintro ⟨σ1, v3_1⟩ res hm hk H locs ls hP hD hS hl
    try dsimp only at hP hD hl
    replace hm : m_X1_addRangeKeys_L2 N k v1 σ1 v3_1 = some res := hm
    have h35 : ∀ (σ5 : zS) (v3_5 : Int32), m_X1_addRangeKeys_35_in2 N k v1 σ5 v3_5 = some res → ∀ (H : Heap) (locs : List Loc) (ls : Array Slot), va_P D zclX (zwX ad cI cJ cZ cO σ5) H → va_D A (zwX ad cI cJ cZ cO σ5) → va_S A s.heap H locs → lv_has ls 4 [(0, .ref (ad (20 + k))), (1, .int v1), (2, .ref (ad 6)), (3, .int v3_5)] → W p l e (zR 1 22) s m args below meth c H locs 0 0 Q (F0 m 35 ls []) := by
      intro σ5 v3_5 hm H locs ls hP hD hS hl
      unfold m_X1_addRangeKeys_35_in2 at hm
      refine lv_iinc (v := (v3_5 + (1 : Int32))) (lv' := [(3, .int (v3_5 + (1 : Int32))), (0, .ref (ad (20 + k))), (1, .int v1), (2, .ref (ad 6))]) hx hb dX1_addRangeKeys_35 hl (k := 3) rfl rfl (by decide) rfl (fun ls hl => ?_)
      refine lv_goto (tgt := 2) hx hb dX1_addRangeKeys_38 (by decide) ?_
      cases hm
      exact hk _ _ _ hP hD hS (lv_sub hl [1, 2, 3, 0] rfl)
    unfold m_X1_addRangeKeys_L2 at hm
    refine lv_iload_n hx hb dX1_addRangeKeys_2 rfl (lv_at hl 3 rfl) ?_
    refine lv_aload_n hx hb dX1_addRangeKeys_3 rfl (lv_at hl 0 rfl) ?_
    refine zget (v := .int (σ1.1 (19 + 12 * k))) hx hb hT zinX1 hown hK hP (20 + k) (zF_obj hkf) rfl 11 (by decide) zw143 rfl dX1_addRangeKeys_4 ?_
    refine lv_icmp_ge (tgt := 41) hx hb dX1_addRangeKeys_7 (by decide) (fun h2 => ?_) (fun h2 => ?_)
    · rw [if_pos h2] at hm
      cases hm
      exact hk _ _ _ hP hD hS (lv_sub hl [] rfl)
    · rw [if_neg h2] at hm
      refine lv_iload_n hx hb dX1_addRangeKeys_10 rfl (lv_at hl 1 rfl) ?_
      refine lv_aload_n hx hb dX1_addRangeKeys_11 rfl (lv_at hl 0 rfl) ?_
      refine zget (v := .ref (ad (30 + k))) hx hb hT zinX1 hown hK hP (20 + k) (zF_obj hkf) rfl 12 (by decide) zw146 rfl dX1_addRangeKeys_12 ?_
      refine lv_iload_n hx hb dX1_addRangeKeys_15 rfl (lv_at hl 3 rfl) ?_
      obtain ⟨b3, eb3, hm⟩ := Option.bind_eq_some_iff.mp hm
      refine ziald hx hb hK hP (30 + k) 0 (zF_froms hkf) rfl eb3 dX1_addRangeKeys_16 ?_
      refine lv_icmp_lt (tgt := 35) hx hb dX1_addRangeKeys_17 (by decide) (fun h4 => ?_) (fun h4 => ?_)
      · rw [if_pos h4] at hm
        exact h35 σ1 v3_1 hm _ _ _ hP hD hS (lv_sub hl [0, 1, 2, 3] rfl)
      · rw [if_neg h4] at hm
        refine lv_iload_n hx hb dX1_addRangeKeys_20 rfl (lv_at hl 1 rfl) ?_
        refine lv_aload_n hx hb dX1_addRangeKeys_21 rfl (lv_at hl 0 rfl) ?_
        refine zget (v := .ref (ad (40 + k))) hx hb hT zinX1 hown hK hP (20 + k) (zF_obj hkf) rfl 13 (by decide) zw147 rfl dX1_addRangeKeys_22 ?_
        refine lv_iload_n hx hb dX1_addRangeKeys_25 rfl (lv_at hl 3 rfl) ?_
        obtain ⟨b6, eb6, hm⟩ := Option.bind_eq_some_iff.mp hm
        refine ziald hx hb hK hP (40 + k) 0 (zF_tos hkf) rfl eb6 dX1_addRangeKeys_26 ?_
        refine lv_icmp_gt (tgt := 35) hx hb dX1_addRangeKeys_27 (by decide) (fun h7 => ?_) (fun h7 => ?_)
        · rw [if_pos h7] at hm
          exact h35 σ1 v3_1 hm _ _ _ hP hD hS (lv_sub hl [0, 1, 2, 3] rfl)
        · rw [if_neg h7] at hm
          refine lv_aload_n hx hb dX1_addRangeKeys_30 rfl (lv_at hl 2 rfl) ?_
          refine lv_iload_n hx hb dX1_addRangeKeys_31 rfl (lv_at hl 3 rfl) ?_
          obtain ⟨σ8, eσ8, hm⟩ := Option.bind_eq_some_iff.mp hm
          refine zVv (rest := []) [.int v3_1] hx hb hml hl.1 hown hT (k_X4_add eσ8) zkX4_add zw405 ⟨by decide, by decide⟩ rfl rfl hK hZ hP hD hS 6 rfl rfl rfl rfl (Nat.le_of_ble_eq_true rfl) ⟨Nat.zero_le _, Nat.zero_le _⟩ dX1_addRangeKeys_32 (fun H locs hP hD hS => ?_)
          exact h35 σ8 v3_1 hm _ _ _ hP hD hS (lv_sub hl [0, 1, 2, 3] rfl)
  have h41 : ∀ (σ11 : zS), m_X1_addRangeKeys_41 N k v1 σ11 = some σ' → ∀ (H : Heap) (locs : List Loc) (ls : Array Slot), va_P D zclX (zwX ad cI cJ cZ cO σ11) H → va_D A (zwX ad cI cJ cZ cO σ11) → va_S A s.heap H locs → lv_has ls 4 [] → W p l e (zR 1 22) s m args below meth c H locs 0 0 Q (F0 m 41 ls []) := by
    intro σ11 hm H locs ls hP hD hS hl
    unfold m_X1_addRangeKeys_41 at hm
    cases hm
    exact hret _ _ _ _ dX1_addRangeKeys_41 hP hD hS
  unfold m_X1_addRangeKeys at hm
  refine lv_iconst (v := (0 : Int32)) hx hb dX1_addRangeKeys_0 (by decide) ?_
  refine lv_istore_n (lv' := [(3, .int (0 : Int32)), (0, .ref (ad (20 + k))), (1, .int v1), (2, .ref (ad 6))]) hx hb dX1_addRangeKeys_1 rfl hl (by decide) rfl (fun ls hl => ?_)
  obtain ⟨σ10, e12, hm⟩ := Option.bind_eq_some_iff.mp hm
  refine hL2  _ σ10 e12 ?_ _ _ _ hP hD hS (lv_sub hl [1, 2, 3, 0] rfl)
  intro H locs ls hP hD hS hl
  try dsimp only at hP hD hl
  replace hm : m_X1_addRangeKeys_41 N k v1 σ10 = some σ' := hm
  exact h41 σ10 hm _ _ _ hP hD hS (lv_sub hl [] rfl)
set_option maxHeartbeats 4000000 in
set_option maxRecDepth 100000 in
theorem k_X1_addKeysOf {l : Launch} {D : va_G} {ad : Nat → Nat} {cI cJ cZ cO : ClassId} {t : Nat} {A : Nat → Prop} {N : Nat} {σ σ' : zS} {k : Nat} {v1 : Int32}  (hkf : k < 10) (hm : m_X1_addKeysOf N σ k v1 = some σ') : zCv l yX1_addKeysOf cX1_addKeysOf 3 (none) (zR 2 50) D zclX (zty cI cJ cZ cO) t A (zwX ad cI cJ cZ cO) [.ref (ad (20 + k)), .int v1, .ref (ad 6)] σ σ' := by
  refine zMv (by decide) (Nat.le_of_ble_eq_true rfl) ?_
  intro p e s m args below meth c Q hx hb hml hown hT hK hZ hret hP hD hS ls hl
  replace hown : s.vm.findClass RX1 = some m.cls := hown
  replace hl : lv_has ls 3 [(0, .ref (ad (20 + k))), (1, .int v1), (2, .ref (ad 6))] := hl
  unfold m_X1_addKeysOf at hm
  refine lv_aload_n hx hb dX1_addKeysOf_0 rfl (lv_at hl 0 rfl) ?_
  refine zget (v := .int (σ.1 (8 + 12 * k))) hx hb hT zinX1 hown hK hP (20 + k) (zF_obj hkf) rfl 0 (by decide) zw120 rfl dX1_addKeysOf_1 ?_
  by_cases h1 : (σ.1 (8 + 12 * k)) = (0 : Int32)
  · rw [if_pos h1] at hm
    refine lv_tableIn (off := 36) (tgt := 40) hx hb dX1_addKeysOf_4 (by rw [h1]; decide) (by rw [h1]; decide) (by rw [h1]; rfl) (by decide) ?_
    refine lv_aload_n hx hb dX1_addKeysOf_40 rfl (lv_at hl 2 rfl) ?_
    refine lv_iload_n hx hb dX1_addKeysOf_41 rfl (lv_at hl 1 rfl) ?_
    obtain ⟨σ2, eσ2, hm⟩ := Option.bind_eq_some_iff.mp hm
    refine zVv (rest := []) [.int v1] hx hb hml hl.1 hown hT (k_X4_add eσ2) zkX4_add zw405 ⟨by decide, by decide⟩ rfl rfl hK hZ hP hD hS 6 rfl rfl rfl rfl (Nat.le_of_ble_eq_true rfl) ⟨Nat.zero_le _, Nat.zero_le _⟩ dX1_addKeysOf_42 (fun H locs hP hD hS => ?_)
    refine lv_goto (tgt := 121) hx hb dX1_addKeysOf_45 (by decide) ?_
    cases hm
    exact hret _ _ _ _ dX1_addKeysOf_121 hP hD hS
  · rw [if_neg h1] at hm
    by_cases h3 : (σ.1 (8 + 12 * k)) = (1 : Int32)
    · rw [if_pos h3] at hm
      refine lv_tableIn (off := 44) (tgt := 48) hx hb dX1_addKeysOf_4 (by rw [h3]; decide) (by rw [h3]; decide) (by rw [h3]; rfl) (by decide) ?_
      refine lv_iload_n hx hb dX1_addKeysOf_48 rfl (lv_at hl 1 rfl) ?_
      refine lv_aload_n hx hb dX1_addKeysOf_49 rfl (lv_at hl 2 rfl) ?_
      obtain ⟨σ4, eσ4, hm⟩ := Option.bind_eq_some_iff.mp hm
      refine zSv (rest := []) [.int v1, .ref (ad 6)] hx hb hml hl.1 hown hT (k_X1_addPathKeys eσ4) zkX1_addPathKeys zw409 ⟨by decide, by decide⟩ rfl rfl hK hZ hP hD hS rfl rfl (Nat.le_of_ble_eq_true rfl) ⟨Nat.zero_le _, Nat.zero_le _⟩ dX1_addKeysOf_50 (fun H locs hP hD hS => ?_)
      refine lv_goto (tgt := 121) hx hb dX1_addKeysOf_53 (by decide) ?_
      cases hm
      exact hret _ _ _ _ dX1_addKeysOf_121 hP hD hS
    · rw [if_neg h3] at hm
      by_cases h5 : (σ.1 (8 + 12 * k)) = (2 : Int32)
      · rw [if_pos h5] at hm
        refine lv_tableIn (off := 52) (tgt := 56) hx hb dX1_addKeysOf_4 (by rw [h5]; decide) (by rw [h5]; decide) (by rw [h5]; rfl) (by decide) ?_
        refine lv_aload_n hx hb dX1_addKeysOf_56 rfl (lv_at hl 0 rfl) ?_
        refine lv_iload_n hx hb dX1_addKeysOf_57 rfl (lv_at hl 1 rfl) ?_
        refine lv_aload_n hx hb dX1_addKeysOf_58 rfl (lv_at hl 2 rfl) ?_
        obtain ⟨σ6, eσ6, hm⟩ := Option.bind_eq_some_iff.mp hm
        refine zVv (rest := []) [.int v1, .ref (ad 6)] hx hb hml hl.1 hown hT (k_X1_addRangeKeys hkf eσ6) zkX1_addRangeKeys zw413 ⟨by decide, by decide⟩ rfl rfl hK hZ hP hD hS (20 + k) (zF_obj hkf) rfl rfl rfl (Nat.le_of_ble_eq_true rfl) ⟨Nat.zero_le _, Nat.zero_le _⟩ dX1_addKeysOf_59 (fun H locs hP hD hS => ?_)
        refine lv_goto (tgt := 121) hx hb dX1_addKeysOf_62 (by decide) ?_
        cases hm
        exact hret _ _ _ _ dX1_addKeysOf_121 hP hD hS
      · rw [if_neg h5] at hm
        by_cases h7 : (σ.1 (8 + 12 * k)) = (3 : Int32)
        · rw [if_pos h7] at hm
          refine lv_tableIn (off := 61) (tgt := 65) hx hb dX1_addKeysOf_4 (by rw [h7]; decide) (by rw [h7]; decide) (by rw [h7]; rfl) (by decide) ?_
          refine lv_aload_n hx hb dX1_addKeysOf_65 rfl (lv_at hl 0 rfl) ?_
          refine zget (v := .int (σ.1 (10 + 12 * k))) hx hb hT zinX1 hown hK hP (20 + k) (zF_obj hkf) rfl 2 (by decide) zw123 rfl dX1_addKeysOf_66 ?_
          refine lv_if_le (tgt := 121) hx hb dX1_addKeysOf_69 (by decide) (fun h8 => ?_) (fun h8 => ?_)
          · rw [if_pos h8] at hm
            cases hm
            exact hret _ _ _ _ dX1_addKeysOf_121 hP hD hS
          · rw [if_neg h8] at hm
            refine lv_aload_n hx hb dX1_addKeysOf_72 rfl (lv_at hl 2 rfl) ?_
            refine lv_iload_n hx hb dX1_addKeysOf_73 rfl (lv_at hl 1 rfl) ?_
            refine lv_iload_n hx hb dX1_addKeysOf_74 rfl (lv_at hl 1 rfl) ?_
            refine lv_aload_n hx hb dX1_addKeysOf_75 rfl (lv_at hl 0 rfl) ?_
            refine zget (v := .int (σ.1 (11 + 12 * k))) hx hb hT zinX1 hown hK hP (20 + k) (zF_obj hkf) rfl 3 (by decide) zw124 rfl dX1_addKeysOf_76 ?_
            refine lv_isub hx hb dX1_addKeysOf_79 ?_
            refine lv_aload_n hx hb dX1_addKeysOf_80 rfl (lv_at hl 0 rfl) ?_
            refine zget (v := .int (σ.1 (10 + 12 * k))) hx hb hT zinX1 hown hK hP (20 + k) (zF_obj hkf) rfl 2 (by decide) zw123 rfl dX1_addKeysOf_81 ?_
            obtain ⟨b9, eb9, hm⟩ := Option.bind_eq_some_iff.mp hm
            refine zSi (rest := [.int v1, .ref (ad 6)]) [.int (v1 - (σ.1 (11 + 12 * k))), .int (σ.1 (10 + 12 * k))] hx hb hml hl.1 hown hT (k_J9_floorMod_7cf53 eb9) zkJ9_floorMod_7cf53 zw417 ⟨by decide, by decide⟩ rfl rfl hK hZ hP hD hS rfl rfl (Nat.le_of_ble_eq_true rfl) ⟨Nat.zero_le _, Nat.zero_le _⟩ dX1_addKeysOf_84 (fun H locs hP hD hS => ?_)
            refine lv_isub hx hb dX1_addKeysOf_87 ?_
            obtain ⟨σ10, eσ10, hm⟩ := Option.bind_eq_some_iff.mp hm
            refine zVv (rest := []) [.int (v1 - b9)] hx hb hml hl.1 hown hT (k_X4_add eσ10) zkX4_add zw405 ⟨by decide, by decide⟩ rfl rfl hK hZ hP hD hS 6 rfl rfl rfl rfl (Nat.le_of_ble_eq_true rfl) ⟨Nat.zero_le _, Nat.zero_le _⟩ dX1_addKeysOf_88 (fun H locs hP hD hS => ?_)
            refine lv_goto (tgt := 121) hx hb dX1_addKeysOf_91 (by decide) ?_
            cases hm
            exact hret _ _ _ _ dX1_addKeysOf_121 hP hD hS
        · rw [if_neg h7] at hm
          by_cases h11 : (σ.1 (8 + 12 * k)) = (4 : Int32)
          · rw [if_pos h11] at hm
            refine lv_tableIn (off := 90) (tgt := 94) hx hb dX1_addKeysOf_4 (by rw [h11]; decide) (by rw [h11]; decide) (by rw [h11]; rfl) (by decide) ?_
            refine lv_iload_n hx hb dX1_addKeysOf_94 rfl (lv_at hl 1 rfl) ?_
            refine lv_ldc hx hb hown (hT _ zw420) dX1_addKeysOf_95 ?_
            refine lv_icmp_lt (tgt := 121) hx hb dX1_addKeysOf_97 (by decide) (fun h12 => ?_) (fun h12 => ?_)
            · rw [if_pos h12] at hm
              cases hm
              exact hret _ _ _ _ dX1_addKeysOf_121 hP hD hS
            · rw [if_neg h12] at hm
              refine lv_iload_n hx hb dX1_addKeysOf_100 rfl (lv_at hl 1 rfl) ?_
              refine lv_ldc hx hb hown (hT _ zw421) dX1_addKeysOf_101 ?_
              refine lv_icmp_gt (tgt := 121) hx hb dX1_addKeysOf_103 (by decide) (fun h13 => ?_) (fun h13 => ?_)
              · rw [if_pos h13] at hm
                cases hm
                exact hret _ _ _ _ dX1_addKeysOf_121 hP hD hS
              · rw [if_neg h13] at hm
                refine lv_aload_n hx hb dX1_addKeysOf_106 rfl (lv_at hl 2 rfl) ?_
                refine lv_iload_n hx hb dX1_addKeysOf_107 rfl (lv_at hl 1 rfl) ?_
                refine lv_aload_n hx hb dX1_addKeysOf_108 rfl (lv_at hl 0 rfl) ?_
                refine zget (v := .int (σ.1 (10 + 12 * k))) hx hb hT zinX1 hown hK hP (20 + k) (zF_obj hkf) rfl 2 (by decide) zw123 rfl dX1_addKeysOf_109 ?_
                obtain ⟨b14, eb14, hm⟩ := Option.bind_eq_some_iff.mp hm
                refine zSi (rest := [.ref (ad 6)]) [.int v1, .int (σ.1 (10 + 12 * k))] hx hb hml hl.1 hown hT (k_X0_firstDay eb14) zkX0_firstDay zw422 ⟨by decide, by decide⟩ rfl rfl hK hZ hP hD hS rfl rfl (Nat.le_of_ble_eq_true rfl) ⟨Nat.zero_le _, Nat.zero_le _⟩ dX1_addKeysOf_112 (fun H locs hP hD hS => ?_)
                obtain ⟨σ15, eσ15, hm⟩ := Option.bind_eq_some_iff.mp hm
                refine zVv (rest := []) [.int b14] hx hb hml hl.1 hown hT (k_X4_add eσ15) zkX4_add zw405 ⟨by decide, by decide⟩ rfl rfl hK hZ hP hD hS 6 rfl rfl rfl rfl (Nat.le_of_ble_eq_true rfl) ⟨Nat.zero_le _, Nat.zero_le _⟩ dX1_addKeysOf_115 (fun H locs hP hD hS => ?_)
                refine lv_goto (tgt := 121) hx hb dX1_addKeysOf_118 (by decide) ?_
                cases hm
                exact hret _ _ _ _ dX1_addKeysOf_121 hP hD hS
          · rw [if_neg h11] at hm
            have ah1 := lv_neT (a := 0) h1 (by decide)
            have ah3 := lv_neT (a := 1) h3 (by decide)
            have ah5 := lv_neT (a := 2) h5 (by decide)
            have ah7 := lv_neT (a := 3) h7 (by decide)
            have ah11 := lv_neT (a := 4) h11 (by decide)
            refine lv_tableOut (tgt := 121) hx hb dX1_addKeysOf_4 (by omega) (by decide) ?_
            cases hm
            exact hret _ _ _ _ dX1_addKeysOf_121 hP hD hS
set_option maxHeartbeats 4000000 in
set_option maxRecDepth 100000 in
theorem k_X1_collectKeys {l : Launch} {D : va_G} {ad : Nat → Nat} {cI cJ cZ cO : ClassId} {t : Nat} {A : Nat → Prop} {N : Nat} {σ σ' : zS} {k : Nat} {v2 : Int32}  (hkf : k < 10) (hm : m_X1_collectKeys N σ k v2 = some σ') : zCv l yX1_collectKeys cX1_collectKeys 6 (none) (zR 3 72) D zclX (zty cI cJ cZ cO) t A (zwX ad cI cJ cZ cO) [.ref (ad (20 + k)), .ref (ad 1), .int v2, .ref (ad 6)] σ σ' := by
  refine zMv (by decide) (Nat.le_of_ble_eq_true rfl) ?_
  intro p e s m args below meth c Q hx hb hml hown hT hK hZ hret hP hD hS ls hl
  replace hown : s.vm.findClass RX1 = some m.cls := hown
  replace hl : lv_has ls 6 [(0, .ref (ad (20 + k))), (1, .ref (ad 1)), (2, .int v2), (3, .ref (ad 6))] := hl
  have hL18 : ∀ (v4_3 : Int32), ∀ (q : zS × Int32) (r : zS), ziter (fun q : zS × Int32 => m_X1_collectKeys_L18 N k v2 v4_3 q.1 q.2) N q = some r → (∀ (H : Heap) (locs : List Loc) (ls : Array Slot), va_P D zclX (zwX ad cI cJ cZ cO r) H → va_D A (zwX ad cI cJ cZ cO r) → va_S A s.heap H locs → lv_has ls 6 [] → W p l e (zR 3 72) s m args below meth c H locs 0 0 Q (F0 m 47 ls [])) → ∀ (H : Heap) (locs : List Loc) (ls : Array Slot), va_P D zclX (zwX ad cI cJ cZ cO q.1) H → va_D A (zwX ad cI cJ cZ cO q.1) → va_S A s.heap H locs → lv_has ls 6 [(0, .ref (ad (20 + k))), (1, .ref (ad 1)), (2, .int v2), (3, .ref (ad 6)), (4, .int v4_3), (5, .int q.2)] → W p l e (zR 3 72) s m args below meth c H locs 0 0 Q (F0 m 18 ls []) := by
    intro v4_3
    intro q r
    refine ziter_W (Hd := fun q : zS × Int32 => ∀ (H : Heap) (locs : List Loc) (ls : Array Slot), va_P D zclX (zwX ad cI cJ cZ cO q.1) H → va_D A (zwX ad cI cJ cZ cO q.1) → va_S A s.heap H locs → lv_has ls 6 [(0, .ref (ad (20 + k))), (1, .ref (ad 1)), (2, .int v2), (3, .ref (ad 6)), (4, .int v4_3), (5, .int q.2)] → W p l e (zR 3 72) s m args below meth c H locs 0 0 Q (F0 m 18 ls [])) (Ex := fun r : zS => ∀ (H : Heap) (locs : List Loc) (ls : Array Slot), va_P D zclX (zwX ad cI cJ cZ cO r) H → va_D A (zwX ad cI cJ cZ cO r) → va_S A s.heap H locs → lv_has ls 6 [] → W p l e (zR 3 72) s m args below meth c H locs 0 0 Q (F0 m 47 ls [])) ?_ N q r
    rintro ⟨σ3, v5_3⟩ res hm hk H locs ls hP hD hS hl
    try dsimp only at hP hD hl
    replace hm : m_X1_collectKeys_L18 N k v2 v4_3 σ3 v5_3 = some res := hm
    unfold m_X1_collectKeys_L18 at hm
    refine lv_iload hx hb dX1_collectKeys_18 (lv_at hl 5 rfl) ?_
    refine lv_iload hx hb dX1_collectKeys_20 (lv_at hl 4 rfl) ?_
    refine lv_icmp_ge (tgt := 47) hx hb dX1_collectKeys_22 (by decide) (fun h4 => ?_) (fun h4 => ?_)
    · rw [if_pos h4] at hm
      cases hm
      exact hk _ _ _ hP hD hS (lv_sub hl [] rfl)
    · rw [if_neg h4] at hm
      refine lv_aload_n hx hb dX1_collectKeys_25 rfl (lv_at hl 0 rfl) ?_
      refine lv_aload_n hx hb dX1_collectKeys_26 rfl (lv_at hl 1 rfl) ?_
      refine lv_iload_n hx hb dX1_collectKeys_27 rfl (lv_at hl 2 rfl) ?_
      refine lv_aload_n hx hb dX1_collectKeys_28 rfl (lv_at hl 0 rfl) ?_
      refine zget (v := .int (σ3.1 (9 + 12 * k))) hx hb hT zinX1 hown hK hP (20 + k) (zF_obj hkf) rfl 1 (by decide) zw122 rfl dX1_collectKeys_29 ?_
      refine lv_iload hx hb dX1_collectKeys_32 (lv_at hl 5 rfl) ?_
      obtain ⟨b5, eb5, hm⟩ := Option.bind_eq_some_iff.mp hm
      refine zVi (rest := [.ref (ad (20 + k))]) [.int v2, .int (σ3.1 (9 + 12 * k)), .int v5_3] hx hb hml hl.1 hown hT (k_X6_valueAt eb5) zkX6_valueAt zw400 ⟨by decide, by decide⟩ rfl rfl hK hZ hP hD hS 1 rfl rfl rfl rfl (Nat.le_of_ble_eq_true rfl) ⟨Nat.zero_le _, Nat.zero_le _⟩ dX1_collectKeys_34 (fun H locs hP hD hS => ?_)
      refine lv_aload_n hx hb dX1_collectKeys_37 rfl (lv_at hl 3 rfl) ?_
      obtain ⟨σ6, eσ6, hm⟩ := Option.bind_eq_some_iff.mp hm
      refine zVv (rest := []) [.int b5, .ref (ad 6)] hx hb hml hl.1 hown hT (k_X1_addKeysOf hkf eσ6) zkX1_addKeysOf zw401 ⟨by decide, by decide⟩ rfl rfl hK hZ hP hD hS (20 + k) (zF_obj hkf) rfl rfl rfl (Nat.le_of_ble_eq_true rfl) ⟨Nat.zero_le _, Nat.zero_le _⟩ dX1_collectKeys_38 (fun H locs hP hD hS => ?_)
      refine lv_iinc (v := (v5_3 + (1 : Int32))) (lv' := [(5, .int (v5_3 + (1 : Int32))), (0, .ref (ad (20 + k))), (1, .ref (ad 1)), (2, .int v2), (3, .ref (ad 6)), (4, .int v4_3)]) hx hb dX1_collectKeys_41 hl (k := 5) rfl rfl (by decide) rfl (fun ls hl => ?_)
      refine lv_goto (tgt := 18) hx hb dX1_collectKeys_44 (by decide) ?_
      cases hm
      exact hk _ _ _ hP hD hS (lv_sub hl [1, 2, 3, 4, 5, 0] rfl)
  have h47 : ∀ (σ9 : zS), m_X1_collectKeys_47 N k v2 σ9 = some σ' → ∀ (H : Heap) (locs : List Loc) (ls : Array Slot), va_P D zclX (zwX ad cI cJ cZ cO σ9) H → va_D A (zwX ad cI cJ cZ cO σ9) → va_S A s.heap H locs → lv_has ls 6 [] → W p l e (zR 3 72) s m args below meth c H locs 0 0 Q (F0 m 47 ls []) := by
    intro σ9 hm H locs ls hP hD hS hl
    unfold m_X1_collectKeys_47 at hm
    cases hm
    exact hret _ _ _ _ dX1_collectKeys_47 hP hD hS
  unfold m_X1_collectKeys at hm
  refine lv_aload_n hx hb dX1_collectKeys_0 rfl (lv_at hl 3 rfl) ?_
  obtain ⟨σ1, eσ1, hm⟩ := Option.bind_eq_some_iff.mp hm
  refine zVv (rest := []) [] hx hb hml hl.1 hown hT (k_X4_startOver eσ1) zkX4_startOver zw395 ⟨by decide, by decide⟩ rfl rfl hK hZ hP hD hS 6 rfl rfl rfl rfl (Nat.le_of_ble_eq_true rfl) ⟨Nat.zero_le _, Nat.zero_le _⟩ dX1_collectKeys_1 (fun H locs hP hD hS => ?_)
  refine lv_aload_n hx hb dX1_collectKeys_4 rfl (lv_at hl 1 rfl) ?_
  refine lv_iload_n hx hb dX1_collectKeys_5 rfl (lv_at hl 2 rfl) ?_
  refine lv_aload_n hx hb dX1_collectKeys_6 rfl (lv_at hl 0 rfl) ?_
  refine zget (v := .int (σ1.1 (9 + 12 * k))) hx hb hT zinX1 hown hK hP (20 + k) (zF_obj hkf) rfl 1 (by decide) zw122 rfl dX1_collectKeys_7 ?_
  obtain ⟨b2, eb2, hm⟩ := Option.bind_eq_some_iff.mp hm
  refine zVi (rest := []) [.int v2, .int (σ1.1 (9 + 12 * k))] hx hb hml hl.1 hown hT (k_X6_valueCount eb2) zkX6_valueCount zw399 ⟨by decide, by decide⟩ rfl rfl hK hZ hP hD hS 1 rfl rfl rfl rfl (Nat.le_of_ble_eq_true rfl) ⟨Nat.zero_le _, Nat.zero_le _⟩ dX1_collectKeys_10 (fun H locs hP hD hS => ?_)
  refine lv_istore (lv' := [(4, .int b2), (0, .ref (ad (20 + k))), (1, .ref (ad 1)), (2, .int v2), (3, .ref (ad 6))]) hx hb dX1_collectKeys_13 hl (by decide) rfl (fun ls hl => ?_)
  refine lv_iconst (v := (0 : Int32)) hx hb dX1_collectKeys_15 (by decide) ?_
  refine lv_istore (lv' := [(5, .int (0 : Int32)), (4, .int b2), (0, .ref (ad (20 + k))), (1, .ref (ad 1)), (2, .int v2), (3, .ref (ad 6))]) hx hb dX1_collectKeys_16 hl (by decide) rfl (fun ls hl => ?_)
  obtain ⟨σ8, e10, hm⟩ := Option.bind_eq_some_iff.mp hm
  refine hL18 b2 _ σ8 e10 ?_ _ _ _ hP hD hS (lv_sub hl [2, 3, 4, 5, 1, 0] rfl)
  intro H locs ls hP hD hS hl
  try dsimp only at hP hD hl
  replace hm : m_X1_collectKeys_47 N k v2 σ8 = some σ' := hm
  exact h47 σ8 hm _ _ _ hP hD hS (lv_sub hl [] rfl)
set_option maxHeartbeats 4000000 in
set_option maxRecDepth 100000 in
theorem k_X3_has {l : Launch} {D : va_G} {ad : Nat → Nat} {cI cJ cZ cO : ClassId} {t : Nat} {A : Nat → Prop} {N : Nat} {σ : zS} {v1 : Int32} {r : Int32}  (hm : m_X3_has N σ v1 = some r) : zCi l yX3_has cX3_has 2 (some .boolean) (zR 0 0) D zclX (zty cI cJ cZ cO) t A (zwX ad cI cJ cZ cO) [.ref (ad 2), .int v1] σ σ r := by
  refine zMz (by decide) (Nat.le_of_ble_eq_true rfl) ?_
  intro p e s m args below meth c Q hx hb hml hown hT hK hZ hret hP hD hS ls hl
  replace hown : s.vm.findClass RX3 = some m.cls := hown
  replace hl : lv_has ls 2 [(0, .ref (ad 2)), (1, .int v1)] := hl
  unfold m_X3_has at hm
  refine lv_aload_n hx hb dX3_has_0 rfl (lv_at hl 0 rfl) ?_
  refine zget (v := .ref (ad 1)) hx hb hT zinX3 hown hK hP 2 rfl rfl 1 (by decide) zw104 rfl dX3_has_1 ?_
  refine zget (v := .ref (ad 8)) hx hb hT zinX6 hown hK hP 1 rfl rfl 1 (by decide) zw81 rfl dX3_has_4 ?_
  refine lv_iload_n hx hb dX3_has_7 rfl (lv_at hl 1 rfl) ?_
  obtain ⟨b1, eb1, hm⟩ := Option.bind_eq_some_iff.mp hm
  refine zzald hx hb hK hP 8 2 rfl rfl eb1 dX3_has_8 ?_
  refine lv_if_eq (tgt := 29) hx hb dX3_has_9 (by decide) (fun h2 => ?_) (fun h2 => ?_)
  · rw [if_pos h2] at hm
    refine lv_iconst (v := (0 : Int32)) hx hb dX3_has_29 (by decide) ?_
    cases hm
    exact hret _ _ _ _ (by decide) dX3_has_30 hP hD hS
  · rw [if_neg h2] at hm
    refine lv_aload_n hx hb dX3_has_12 rfl (lv_at hl 0 rfl) ?_
    refine zget (v := .ref (ad 11)) hx hb hT zinX3 hown hK hP 2 rfl rfl 2 (by decide) zw105 rfl dX3_has_13 ?_
    refine lv_iload_n hx hb dX3_has_16 rfl (lv_at hl 1 rfl) ?_
    obtain ⟨b3, eb3, hm⟩ := Option.bind_eq_some_iff.mp hm
    refine ziald hx hb hK hP 11 0 rfl rfl eb3 dX3_has_17 ?_
    refine lv_aload_n hx hb dX3_has_18 rfl (lv_at hl 0 rfl) ?_
    refine zget (v := .int (σ.1 3)) hx hb hT zinX3 hown hK hP 2 rfl rfl 0 (by decide) zw102 rfl dX3_has_19 ?_
    refine lv_icmp_lt (tgt := 29) hx hb dX3_has_22 (by decide) (fun h4 => ?_) (fun h4 => ?_)
    · rw [if_pos h4] at hm
      refine lv_iconst (v := (0 : Int32)) hx hb dX3_has_29 (by decide) ?_
      cases hm
      exact hret _ _ _ _ (by decide) dX3_has_30 hP hD hS
    · rw [if_neg h4] at hm
      refine lv_iconst (v := (1 : Int32)) hx hb dX3_has_25 (by decide) ?_
      refine lv_goto (tgt := 30) hx hb dX3_has_26 (by decide) ?_
      cases hm
      exact hret _ _ _ _ (by decide) dX3_has_30 hP hD hS
set_option maxHeartbeats 4000000 in
set_option maxRecDepth 100000 in
theorem k_X2_addPair {l : Launch} {D : va_G} {ad : Nat → Nat} {cI cJ cZ cO : ClassId} {t : Nat} {A : Nat → Prop} {N : Nat} {σ σ' : zS} {v1 : Int32} {v2 : Int32}   (hm : m_X2_addPair N σ v1 v2 = some σ') : zCv l yX2_addPair cX2_addPair 3 (none) (zR 0 0) D zclX (zty cI cJ cZ cO) t A (zwX ad cI cJ cZ cO) [.ref (ad 4), .int v1, .int v2] σ σ' := by
  refine zMv (by decide) (Nat.le_of_ble_eq_true rfl) ?_
  intro p e s m args below meth c Q hx hb hml hown hT hK hZ hret hP hD hS ls hl
  replace hown : s.vm.findClass RX2 = some m.cls := hown
  replace hl : lv_has ls 3 [(0, .ref (ad 4)), (1, .int v1), (2, .int v2)] := hl
  unfold m_X2_addPair at hm
  refine lv_aload_n hx hb dX2_addPair_0 rfl (lv_at hl 0 rfl) ?_
  refine zget (v := .int (σ.1 6)) hx hb hT zinX2 hown hK hP 4 rfl rfl 1 (by decide) zw200 rfl dX2_addPair_1 ?_
  refine lv_sipush (v := (1080 : Int32)) hx hb dX2_addPair_4 (by decide) ?_
  refine lv_icmp_ge (tgt := 37) hx hb dX2_addPair_7 (by decide) (fun h1 => ?_) (fun h1 => ?_)
  · rw [if_pos h1] at hm
    cases hm
    exact hret _ _ _ _ dX2_addPair_37 hP hD hS
  · rw [if_neg h1] at hm
    refine lv_aload_n hx hb dX2_addPair_10 rfl (lv_at hl 0 rfl) ?_
    refine zget (v := .ref (ad 13)) hx hb hT zinX2 hown hK hP 4 rfl rfl 4 (by decide) zw203 rfl dX2_addPair_11 ?_
    refine lv_aload_n hx hb dX2_addPair_14 rfl (lv_at hl 0 rfl) ?_
    refine zget (v := .int (σ.1 6)) hx hb hT zinX2 hown hK hP 4 rfl rfl 1 (by decide) zw200 rfl dX2_addPair_15 ?_
    refine lv_iload_n hx hb dX2_addPair_18 rfl (lv_at hl 1 rfl) ?_
    refine lv_i2l (v := v1.toInt64) hx hb dX2_addPair_19 rfl ?_
    refine lv_bipush (v := (7 : Int32)) hx hb dX2_addPair_20 (by decide) ?_
    refine lv_lshl (v := (v1.toInt64 <<< ((7 : Int32).toInt64 &&& 63))) hx hb dX2_addPair_22 rfl ?_
    refine lv_iload_n hx hb dX2_addPair_23 rfl (lv_at hl 2 rfl) ?_
    refine lv_i2l (v := v2.toInt64) hx hb dX2_addPair_24 rfl ?_
    refine lv_ladd hx hb dX2_addPair_25 ?_
    obtain ⟨σ2, eσ2, hm⟩ := Option.bind_eq_some_iff.mp hm
    refine zlast (j := 1) hx hb hK hP hD hS 13 1 rfl rfl eσ2 (fun _ => rfl) dX2_addPair_26 (fun H locs hP hD hS => ?_)
    refine lv_aload_n hx hb dX2_addPair_27 rfl (lv_at hl 0 rfl) ?_
    refine lv_dup hx hb dX2_addPair_28 rfl ?_
    refine zget (v := .int (σ2.1 6)) hx hb hT zinX2 hown hK hP 4 rfl rfl 1 (by decide) zw200 rfl dX2_addPair_29 ?_
    refine lv_iconst (v := (1 : Int32)) hx hb dX2_addPair_32 (by decide) ?_
    refine lv_iadd hx hb dX2_addPair_33 ?_
    obtain ⟨σ3, eσ3, hm⟩ := Option.bind_eq_some_iff.mp hm
    refine zput (j := 6) (ty := .int) hx hb hT zinX2 tyX2 tyX2_ok nmX2 hown hK hP hD hS 4 rfl rfl 1 (by decide) zw200 rfl (by decide +kernel) rfl rfl (Nat.le_of_ble_eq_true rfl) eσ3 rfl dX2_addPair_34 (fun H locs hP hD hS => ?_)
    cases hm
    exact hret _ _ _ _ dX2_addPair_37 hP hD hS
set_option maxHeartbeats 4000000 in
set_option maxRecDepth 100000 in
theorem k_J9_min_7cf53 {l : Launch} {D : va_G} {ad : Nat → Nat} {cI cJ cZ cO : ClassId} {t : Nat} {A : Nat → Prop} {N : Nat} {σ : zS} {v0 : Int32} {v1 : Int32} {r : Int32}  (hm : m_J9_min_7cf53 N σ v0 v1 = some r) : zCi l yJ9_min_7cf53 cJ9_min_7cf53 2 (some .int) (zR 0 0) D zclX (zty cI cJ cZ cO) t A (zwX ad cI cJ cZ cO) [.int v0, .int v1] σ σ r := by
  refine zMiF (by decide +kernel) (Nat.le_of_ble_eq_true rfl) ?_
  intro p e s m args below meth c Q hx hb hml hown hT hK hZ hret hP hD hS ls hl
  replace hown : s.vm.findClass RJ9 = some m.cls := hown
  replace hl : lv_has ls 2 [(0, .int v0), (1, .int v1)] := hl
  unfold m_J9_min_7cf53 at hm
  refine lv_iload_n hx hb dJ9_min_7cf53_0 rfl (lv_at hl 0 rfl) ?_
  refine lv_iload_n hx hb dJ9_min_7cf53_1 rfl (lv_at hl 1 rfl) ?_
  refine lv_icmp_gt (tgt := 9) hx hb dJ9_min_7cf53_2 (by decide) (fun h1 => ?_) (fun h1 => ?_)
  · rw [if_pos h1] at hm
    refine lv_iload_n hx hb dJ9_min_7cf53_9 rfl (lv_at hl 1 rfl) ?_
    cases hm
    exact hret _ _ _ _ dJ9_min_7cf53_10 hP hD hS
  · rw [if_neg h1] at hm
    refine lv_iload_n hx hb dJ9_min_7cf53_5 rfl (lv_at hl 0 rfl) ?_
    refine lv_goto (tgt := 10) hx hb dJ9_min_7cf53_6 (by decide) ?_
    cases hm
    exact hret _ _ _ _ dJ9_min_7cf53_10 hP hD hS
set_option maxHeartbeats 4000000 in
set_option maxRecDepth 100000 in
theorem k_X5_merge {l : Launch} {D : va_G} {ad : Nat → Nat} {cI cJ cZ cO : ClassId} {t : Nat} {A : Nat → Prop} {N : Nat} {σ σ' : zS} {j : Nat} {v2 : Int32} {v3 : Int32} {v4 : Int32}  (hj : j = 1 ∨ j = 2 ∨ j = 3) (hm : m_X5_merge N σ j v2 v3 v4 = some σ') : zCv l yX5_merge cX5_merge 8 (none) (zR 0 0) D zclX (zty cI cJ cZ cO) t A (zwX ad cI cJ cZ cO) [.ref (ad 7), .ref (ad (zpl j)), .int v2, .int v3, .int v4] σ σ' := by
  refine zMv (by decide) (Nat.le_of_ble_eq_true rfl) ?_
  intro p e s m args below meth c Q hx hb hml hown hT hK hZ hret hP hD hS ls hl
  replace hown : s.vm.findClass RX5 = some m.cls := hown
  replace hl : lv_has ls 8 [(0, .ref (ad 7)), (1, .ref (ad (zpl j))), (2, .int v2), (3, .int v3), (4, .int v4)] := hl
  have hL9 : ∀ (q : zS × Int32 × Int32 × Int32) (r : zS), ziter (fun q : zS × Int32 × Int32 × Int32 => m_X5_merge_L9 N j v2 v3 v4 q.1 q.2.1 q.2.2.1 q.2.2.2) N q = some r → (∀ (H : Heap) (locs : List Loc) (ls : Array Slot), va_P D zclX (zwX ad cI cJ cZ cO r) H → va_D A (zwX ad cI cJ cZ cO r) → va_S A s.heap H locs → lv_has ls 8 [] → W p l e (zR 0 0) s m args below meth c H locs 0 0 Q (F0 m 78 ls [])) → ∀ (H : Heap) (locs : List Loc) (ls : Array Slot), va_P D zclX (zwX ad cI cJ cZ cO q.1) H → va_D A (zwX ad cI cJ cZ cO q.1) → va_S A s.heap H locs → lv_has ls 8 [(0, .ref (ad 7)), (1, .ref (ad (zpl j))), (3, .int v3), (4, .int v4), (5, .int q.2.1), (6, .int q.2.2.1), (7, .int q.2.2.2)] → W p l e (zR 0 0) s m args below meth c H locs 0 0 Q (F0 m 9 ls []) := by
    intro q r
    refine ziter_W (Hd := fun q : zS × Int32 × Int32 × Int32 => ∀ (H : Heap) (locs : List Loc) (ls : Array Slot), va_P D zclX (zwX ad cI cJ cZ cO q.1) H → va_D A (zwX ad cI cJ cZ cO q.1) → va_S A s.heap H locs → lv_has ls 8 [(0, .ref (ad 7)), (1, .ref (ad (zpl j))), (3, .int v3), (4, .int v4), (5, .int q.2.1), (6, .int q.2.2.1), (7, .int q.2.2.2)] → W p l e (zR 0 0) s m args below meth c H locs 0 0 Q (F0 m 9 ls [])) (Ex := fun r : zS => ∀ (H : Heap) (locs : List Loc) (ls : Array Slot), va_P D zclX (zwX ad cI cJ cZ cO r) H → va_D A (zwX ad cI cJ cZ cO r) → va_S A s.heap H locs → lv_has ls 8 [] → W p l e (zR 0 0) s m args below meth c H locs 0 0 Q (F0 m 78 ls [])) ?_ N q r
    rintro ⟨σ1, v5_1, v6_1, v7_1⟩ res hm hk H locs ls hP hD hS hl
    try dsimp only at hP hD hl
    replace hm : m_X5_merge_L9 N j v2 v3 v4 σ1 v5_1 v6_1 v7_1 = some res := hm
    have h72 : ∀ (σ7 : zS) (v5_7 : Int32) (v6_7 : Int32) (v7_7 : Int32), m_X5_merge_72_in9 N j v2 v3 v4 σ7 v5_7 v6_7 v7_7 = some res → ∀ (H : Heap) (locs : List Loc) (ls : Array Slot), va_P D zclX (zwX ad cI cJ cZ cO σ7) H → va_D A (zwX ad cI cJ cZ cO σ7) → va_S A s.heap H locs → lv_has ls 8 [(0, .ref (ad 7)), (1, .ref (ad (zpl j))), (3, .int v3), (4, .int v4), (5, .int v5_7), (6, .int v6_7), (7, .int v7_7)] → W p l e (zR 0 0) s m args below meth c H locs 0 0 Q (F0 m 72 ls []) := by
      intro σ7 v5_7 v6_7 v7_7 hm H locs ls hP hD hS hl
      unfold m_X5_merge_72_in9 at hm
      refine lv_iinc (v := (v7_7 + (1 : Int32))) (lv' := [(7, .int (v7_7 + (1 : Int32))), (0, .ref (ad 7)), (1, .ref (ad (zpl j))), (3, .int v3), (4, .int v4), (5, .int v5_7), (6, .int v6_7)]) hx hb dX5_merge_72 hl (k := 6) rfl rfl (by decide) rfl (fun ls hl => ?_)
      refine lv_goto (tgt := 9) hx hb dX5_merge_75 (by decide) ?_
      cases hm
      exact hk _ _ _ hP hD hS (lv_sub hl [1, 2, 3, 4, 5, 6, 0] rfl)
    have h58 : ∀ (σ4 : zS) (v5_4 : Int32) (v6_4 : Int32) (v7_4 : Int32), m_X5_merge_58_in9 N j v2 v3 v4 σ4 v5_4 v6_4 v7_4 = some res → ∀ (H : Heap) (locs : List Loc) (ls : Array Slot), va_P D zclX (zwX ad cI cJ cZ cO σ4) H → va_D A (zwX ad cI cJ cZ cO σ4) → va_S A s.heap H locs → lv_has ls 8 [(0, .ref (ad 7)), (1, .ref (ad (zpl j))), (3, .int v3), (4, .int v4), (5, .int v5_4), (6, .int v6_4), (7, .int v7_4)] → W p l e (zR 0 0) s m args below meth c H locs 0 0 Q (F0 m 58 ls []) := by
      intro σ4 v5_4 v6_4 v7_4 hm H locs ls hP hD hS hl
      unfold m_X5_merge_58_in9 at hm
      refine lv_aload_n hx hb dX5_merge_58 rfl (lv_at hl 0 rfl) ?_
      refine zget (v := .ref (ad 19)) hx hb hT zinX5 hown hK hP 7 rfl rfl 0 (by decide) zw66 rfl dX5_merge_59 ?_
      refine lv_iload hx hb dX5_merge_62 (lv_at hl 6 rfl) ?_
      refine lv_aload_n hx hb dX5_merge_64 rfl (lv_at hl 1 rfl) ?_
      refine lv_iload hx hb dX5_merge_65 (lv_at hl 5 rfl) ?_
      obtain ⟨b5, eb5, hm⟩ := Option.bind_eq_some_iff.mp hm
      refine zlald hx hb hK hP (zpl j) 1 (zrow_at hj) rfl eb5 dX5_merge_67 ?_
      obtain ⟨σ6, eσ6, hm⟩ := Option.bind_eq_some_iff.mp hm
      refine zlast (j := 0) hx hb hK hP hD hS 19 1 rfl rfl eσ6 (fun _ => rfl) dX5_merge_68 (fun H locs hP hD hS => ?_)
      refine lv_iinc (v := (v6_4 + (1 : Int32))) (lv' := [(6, .int (v6_4 + (1 : Int32))), (0, .ref (ad 7)), (1, .ref (ad (zpl j))), (3, .int v3), (4, .int v4), (5, .int v5_4), (7, .int v7_4)]) hx hb dX5_merge_69 hl (k := 5) rfl rfl (by decide) rfl (fun ls hl => ?_)
      exact h72 σ6 v5_4 (v6_4 + (1 : Int32)) v7_4 hm _ _ _ hP hD hS (lv_sub hl [1, 2, 3, 4, 5, 0, 6] rfl)
    have h41 : ∀ (σ9 : zS) (v5_9 : Int32) (v6_9 : Int32) (v7_9 : Int32), m_X5_merge_41_in9 N j v2 v3 v4 σ9 v5_9 v6_9 v7_9 = some res → ∀ (H : Heap) (locs : List Loc) (ls : Array Slot), va_P D zclX (zwX ad cI cJ cZ cO σ9) H → va_D A (zwX ad cI cJ cZ cO σ9) → va_S A s.heap H locs → lv_has ls 8 [(0, .ref (ad 7)), (1, .ref (ad (zpl j))), (3, .int v3), (4, .int v4), (5, .int v5_9), (6, .int v6_9), (7, .int v7_9)] → W p l e (zR 0 0) s m args below meth c H locs 0 0 Q (F0 m 41 ls []) := by
      intro σ9 v5_9 v6_9 v7_9 hm H locs ls hP hD hS hl
      unfold m_X5_merge_41_in9 at hm
      refine lv_aload_n hx hb dX5_merge_41 rfl (lv_at hl 0 rfl) ?_
      refine zget (v := .ref (ad 19)) hx hb hT zinX5 hown hK hP 7 rfl rfl 0 (by decide) zw66 rfl dX5_merge_42 ?_
      refine lv_iload hx hb dX5_merge_45 (lv_at hl 6 rfl) ?_
      refine lv_aload_n hx hb dX5_merge_47 rfl (lv_at hl 1 rfl) ?_
      refine lv_iload hx hb dX5_merge_48 (lv_at hl 4 rfl) ?_
      obtain ⟨b10, eb10, hm⟩ := Option.bind_eq_some_iff.mp hm
      refine zlald hx hb hK hP (zpl j) 1 (zrow_at hj) rfl eb10 dX5_merge_50 ?_
      obtain ⟨σ11, eσ11, hm⟩ := Option.bind_eq_some_iff.mp hm
      refine zlast (j := 0) hx hb hK hP hD hS 19 1 rfl rfl eσ11 (fun _ => rfl) dX5_merge_51 (fun H locs hP hD hS => ?_)
      refine lv_iinc (v := (v5_9 + (1 : Int32))) (lv' := [(5, .int (v5_9 + (1 : Int32))), (0, .ref (ad 7)), (1, .ref (ad (zpl j))), (3, .int v3), (4, .int v4), (6, .int v6_9), (7, .int v7_9)]) hx hb dX5_merge_52 hl (k := 4) rfl rfl (by decide) rfl (fun ls hl => ?_)
      refine lv_goto (tgt := 72) hx hb dX5_merge_55 (by decide) ?_
      exact h72 σ11 (v5_9 + (1 : Int32)) v6_9 v7_9 hm _ _ _ hP hD hS (lv_sub hl [1, 2, 3, 4, 0, 5, 6] rfl)
    unfold m_X5_merge_L9 at hm
    refine lv_iload hx hb dX5_merge_9 (lv_at hl 6 rfl) ?_
    refine lv_iload hx hb dX5_merge_11 (lv_at hl 3 rfl) ?_
    refine lv_icmp_ge (tgt := 78) hx hb dX5_merge_13 (by decide) (fun h2 => ?_) (fun h2 => ?_)
    · rw [if_pos h2] at hm
      cases hm
      exact hk _ _ _ hP hD hS (lv_sub hl [] rfl)
    · rw [if_neg h2] at hm
      refine lv_iload hx hb dX5_merge_16 (lv_at hl 4 rfl) ?_
      refine lv_iload_n hx hb dX5_merge_18 rfl (lv_at hl 2 rfl) ?_
      refine lv_icmp_ge (tgt := 58) hx hb dX5_merge_19 (by decide) (fun h3 => ?_) (fun h3 => ?_)
      · rw [if_pos h3] at hm
        exact h58 σ1 v5_1 v6_1 v7_1 hm _ _ _ hP hD hS (lv_sub hl [0, 1, 2, 3, 4, 5, 6] rfl)
      · rw [if_neg h3] at hm
        refine lv_iload hx hb dX5_merge_22 (lv_at hl 5 rfl) ?_
        refine lv_iload hx hb dX5_merge_24 (lv_at hl 3 rfl) ?_
        refine lv_icmp_ge (tgt := 41) hx hb dX5_merge_26 (by decide) (fun h8 => ?_) (fun h8 => ?_)
        · rw [if_pos h8] at hm
          exact h41 σ1 v5_1 v6_1 v7_1 hm _ _ _ hP hD hS (lv_sub hl [0, 1, 2, 3, 4, 5, 6] rfl)
        · rw [if_neg h8] at hm
          refine lv_aload_n hx hb dX5_merge_29 rfl (lv_at hl 1 rfl) ?_
          refine lv_iload hx hb dX5_merge_30 (lv_at hl 4 rfl) ?_
          obtain ⟨b12, eb12, hm⟩ := Option.bind_eq_some_iff.mp hm
          refine zlald hx hb hK hP (zpl j) 1 (zrow_at hj) rfl eb12 dX5_merge_32 ?_
          refine lv_aload_n hx hb dX5_merge_33 rfl (lv_at hl 1 rfl) ?_
          refine lv_iload hx hb dX5_merge_34 (lv_at hl 5 rfl) ?_
          obtain ⟨b13, eb13, hm⟩ := Option.bind_eq_some_iff.mp hm
          refine zlald hx hb hK hP (zpl j) 1 (zrow_at hj) rfl eb13 dX5_merge_36 ?_
          refine W.lcmp hx hb dX5_merge_37 ?_
          refine lv_if_gt (tgt := 58) hx hb dX5_merge_38 (by decide) (fun h14 => ?_) (fun h14 => ?_)
          · rw [if_pos h14] at hm
            exact h58 σ1 v5_1 v6_1 v7_1 hm _ _ _ hP hD hS (lv_sub hl [0, 1, 2, 3, 4, 5, 6] rfl)
          · rw [if_neg h14] at hm
            exact h41 σ1 v5_1 v6_1 v7_1 hm _ _ _ hP hD hS (lv_sub hl [0, 1, 2, 3, 4, 5, 6] rfl)
  have h78 : ∀ (σ17 : zS), m_X5_merge_78 N j v2 v3 v4 σ17 = some σ' → ∀ (H : Heap) (locs : List Loc) (ls : Array Slot), va_P D zclX (zwX ad cI cJ cZ cO σ17) H → va_D A (zwX ad cI cJ cZ cO σ17) → va_S A s.heap H locs → lv_has ls 8 [] → W p l e (zR 0 0) s m args below meth c H locs 0 0 Q (F0 m 78 ls []) := by
    intro σ17 hm H locs ls hP hD hS hl
    unfold m_X5_merge_78 at hm
    cases hm
    exact hret _ _ _ _ dX5_merge_78 hP hD hS
  unfold m_X5_merge at hm
  refine lv_iload_n hx hb dX5_merge_0 rfl (lv_at hl 2 rfl) ?_
  refine lv_istore (lv' := [(5, .int v2), (0, .ref (ad 7)), (1, .ref (ad (zpl j))), (2, .int v2), (3, .int v3), (4, .int v4)]) hx hb dX5_merge_1 hl (by decide) rfl (fun ls hl => ?_)
  refine lv_iload_n hx hb dX5_merge_3 rfl (lv_at hl 4 rfl) ?_
  refine lv_istore (lv' := [(6, .int v3), (5, .int v2), (0, .ref (ad 7)), (1, .ref (ad (zpl j))), (2, .int v2), (3, .int v3), (4, .int v4)]) hx hb dX5_merge_4 hl (by decide) rfl (fun ls hl => ?_)
  refine lv_iload_n hx hb dX5_merge_6 rfl (lv_at hl 4 rfl) ?_
  refine lv_istore (lv' := [(7, .int v2), (6, .int v3), (5, .int v2), (0, .ref (ad 7)), (1, .ref (ad (zpl j))), (2, .int v2), (3, .int v3), (4, .int v4)]) hx hb dX5_merge_7 hl (by decide) rfl (fun ls hl => ?_)
  obtain ⟨σ16, e18, hm⟩ := Option.bind_eq_some_iff.mp hm
  refine hL9  _ σ16 e18 ?_ _ _ _ hP hD hS (lv_sub hl [3, 4, 6, 7, 2, 1, 0] rfl)
  intro H locs ls hP hD hS hl
  try dsimp only at hP hD hl
  replace hm : m_X5_merge_78 N j v2 v3 v4 σ16 = some σ' := hm
  exact h78 σ16 hm _ _ _ hP hD hS (lv_sub hl [] rfl)
set_option maxHeartbeats 4000000 in
set_option maxRecDepth 100000 in
theorem k_X5_sort {l : Launch} {D : va_G} {ad : Nat → Nat} {cI cJ cZ cO : ClassId} {t : Nat} {A : Nat → Prop} {N : Nat} {σ σ' : zS} {j : Nat} {v2 : Int32}  (hj : j = 1 ∨ j = 2 ∨ j = 3) (hm : m_X5_sort N σ j v2 = some σ') : zCv l yX5_sort cX5_sort 6 (none) (zR 1 60) D zclX (zty cI cJ cZ cO) t A (zwX ad cI cJ cZ cO) [.ref (ad 7), .ref (ad (zpl j)), .int v2] σ σ' := by
  refine zMv (by decide) (Nat.le_of_ble_eq_true rfl) ?_
  intro p e s m args below meth c Q hx hb hml hown hT hK hZ hret hP hD hS ls hl
  replace hown : s.vm.findClass RX5 = some m.cls := hown
  replace hl : lv_has ls 6 [(0, .ref (ad 7)), (1, .ref (ad (zpl j))), (2, .int v2)] := hl
  have hL18 : ∀ (v3_3 : Int32), ∀ (q : zS × Int32) (r : zS), ziter (fun q : zS × Int32 => m_X5_sort_L18 N j v2 v3_3 q.1 q.2) N q = some r → (∀ (H : Heap) (locs : List Loc) (ls : Array Slot), va_P D zclX (zwX ad cI cJ cZ cO r) H → va_D A (zwX ad cI cJ cZ cO r) → va_S A s.heap H locs → lv_has ls 6 [] → W p l e (zR 1 60) s m args below meth c H locs 0 0 Q (F0 m 92 ls [])) → ∀ (H : Heap) (locs : List Loc) (ls : Array Slot), va_P D zclX (zwX ad cI cJ cZ cO q.1) H → va_D A (zwX ad cI cJ cZ cO q.1) → va_S A s.heap H locs → lv_has ls 6 [(0, .ref (ad 7)), (1, .ref (ad (zpl j))), (3, .int v3_3), (4, .int q.2)] → W p l e (zR 1 60) s m args below meth c H locs 0 0 Q (F0 m 18 ls []) := by
    intro v3_3
    intro q r
    refine ziter_W (Hd := fun q : zS × Int32 => ∀ (H : Heap) (locs : List Loc) (ls : Array Slot), va_P D zclX (zwX ad cI cJ cZ cO q.1) H → va_D A (zwX ad cI cJ cZ cO q.1) → va_S A s.heap H locs → lv_has ls 6 [(0, .ref (ad 7)), (1, .ref (ad (zpl j))), (3, .int v3_3), (4, .int q.2)] → W p l e (zR 1 60) s m args below meth c H locs 0 0 Q (F0 m 18 ls [])) (Ex := fun r : zS => ∀ (H : Heap) (locs : List Loc) (ls : Array Slot), va_P D zclX (zwX ad cI cJ cZ cO r) H → va_D A (zwX ad cI cJ cZ cO r) → va_S A s.heap H locs → lv_has ls 6 [] → W p l e (zR 1 60) s m args below meth c H locs 0 0 Q (F0 m 92 ls [])) ?_ N q r
    rintro ⟨σ3, v4_3⟩ res hm hk H locs ls hP hD hS hl
    try dsimp only at hP hD hl
    replace hm : m_X5_sort_L18 N j v2 v3_3 σ3 v4_3 = some res := hm
    have hL27 : ∀ (v4_5 : Int32), ∀ (q : zS × Int32) (r : zS), ziter (fun q : zS × Int32 => m_X5_sort_L27 N j v2 v3_3 v4_5 q.1 q.2) N q = some r → (∀ (H : Heap) (locs : List Loc) (ls : Array Slot), va_P D zclX (zwX ad cI cJ cZ cO r) H → va_D A (zwX ad cI cJ cZ cO r) → va_S A s.heap H locs → lv_has ls 6 [(0, .ref (ad 7)), (1, .ref (ad (zpl j))), (3, .int v3_3), (4, .int v4_5)] → W p l e (zR 1 60) s m args below meth c H locs 0 0 Q (F0 m 72 ls [])) → ∀ (H : Heap) (locs : List Loc) (ls : Array Slot), va_P D zclX (zwX ad cI cJ cZ cO q.1) H → va_D A (zwX ad cI cJ cZ cO q.1) → va_S A s.heap H locs → lv_has ls 6 [(0, .ref (ad 7)), (1, .ref (ad (zpl j))), (3, .int v3_3), (4, .int v4_5), (5, .int q.2)] → W p l e (zR 1 60) s m args below meth c H locs 0 0 Q (F0 m 27 ls []) := by
      intro v4_5
      intro q r
      refine ziter_W (Hd := fun q : zS × Int32 => ∀ (H : Heap) (locs : List Loc) (ls : Array Slot), va_P D zclX (zwX ad cI cJ cZ cO q.1) H → va_D A (zwX ad cI cJ cZ cO q.1) → va_S A s.heap H locs → lv_has ls 6 [(0, .ref (ad 7)), (1, .ref (ad (zpl j))), (3, .int v3_3), (4, .int v4_5), (5, .int q.2)] → W p l e (zR 1 60) s m args below meth c H locs 0 0 Q (F0 m 27 ls [])) (Ex := fun r : zS => ∀ (H : Heap) (locs : List Loc) (ls : Array Slot), va_P D zclX (zwX ad cI cJ cZ cO r) H → va_D A (zwX ad cI cJ cZ cO r) → va_S A s.heap H locs → lv_has ls 6 [(0, .ref (ad 7)), (1, .ref (ad (zpl j))), (3, .int v3_3), (4, .int v4_5)] → W p l e (zR 1 60) s m args below meth c H locs 0 0 Q (F0 m 72 ls [])) ?_ N q r
      rintro ⟨σ5, v5_5⟩ res hm hk H locs ls hP hD hS hl
      try dsimp only at hP hD hl
      replace hm : m_X5_sort_L27 N j v2 v3_3 v4_5 σ5 v5_5 = some res := hm
      unfold m_X5_sort_L27 at hm
      refine lv_iload hx hb dX5_sort_27 (lv_at hl 4 rfl) ?_
      refine lv_iload_n hx hb dX5_sort_29 rfl (lv_at hl 2 rfl) ?_
      refine lv_icmp_ge (tgt := 72) hx hb dX5_sort_30 (by decide) (fun h6 => ?_) (fun h6 => ?_)
      · rw [if_pos h6] at hm
        cases hm
        exact hk _ _ _ hP hD hS (lv_sub hl [0, 1, 2, 3] rfl)
      · rw [if_neg h6] at hm
        refine lv_aload_n hx hb dX5_sort_33 rfl (lv_at hl 0 rfl) ?_
        refine lv_aload_n hx hb dX5_sort_34 rfl (lv_at hl 1 rfl) ?_
        refine lv_iload hx hb dX5_sort_35 (lv_at hl 4 rfl) ?_
        refine lv_iload hx hb dX5_sort_37 (lv_at hl 4 rfl) ?_
        refine lv_iload hx hb dX5_sort_39 (lv_at hl 3 rfl) ?_
        refine lv_iadd hx hb dX5_sort_41 ?_
        refine lv_iload_n hx hb dX5_sort_42 rfl (lv_at hl 2 rfl) ?_
        obtain ⟨b7, eb7, hm⟩ := Option.bind_eq_some_iff.mp hm
        refine zSi (rest := [.int v5_5, .ref (ad (zpl j)), .ref (ad 7)]) [.int (v5_5 + v4_5), .int v3_3] hx hb hml hl.1 hown hT (k_J9_min_7cf53 eb7) zkJ9_min_7cf53 zw447 ⟨by decide, by decide⟩ rfl rfl hK hZ hP hD hS rfl rfl (Nat.le_of_ble_eq_true rfl) ⟨Nat.zero_le _, Nat.zero_le _⟩ dX5_sort_43 (fun H locs hP hD hS => ?_)
        refine lv_iload hx hb dX5_sort_46 (lv_at hl 4 rfl) ?_
        refine lv_iconst (v := (2 : Int32)) hx hb dX5_sort_48 (by decide) ?_
        refine lv_iload hx hb dX5_sort_49 (lv_at hl 3 rfl) ?_
        refine lv_imul hx hb dX5_sort_51 ?_
        refine lv_iadd hx hb dX5_sort_52 ?_
        refine lv_iload_n hx hb dX5_sort_53 rfl (lv_at hl 2 rfl) ?_
        obtain ⟨b8, eb8, hm⟩ := Option.bind_eq_some_iff.mp hm
        refine zSi (rest := [.int b7, .int v5_5, .ref (ad (zpl j)), .ref (ad 7)]) [.int (v5_5 + ((2 : Int32) * v4_5)), .int v3_3] hx hb hml hl.1 hown hT (k_J9_min_7cf53 eb8) zkJ9_min_7cf53 zw447 ⟨by decide, by decide⟩ rfl rfl hK hZ hP hD hS rfl rfl (Nat.le_of_ble_eq_true rfl) ⟨Nat.zero_le _, Nat.zero_le _⟩ dX5_sort_54 (fun H locs hP hD hS => ?_)
        obtain ⟨σ9, eσ9, hm⟩ := Option.bind_eq_some_iff.mp hm
        refine zVv (rest := []) [.ref (ad (zpl j)), .int v5_5, .int b7, .int b8] hx hb hml hl.1 hown hT (k_X5_merge hj eσ9) zkX5_merge zw448 ⟨by decide, by decide⟩ rfl rfl hK hZ hP hD hS 7 rfl rfl rfl rfl (Nat.le_of_ble_eq_true rfl) ⟨Nat.zero_le _, Nat.zero_le _⟩ dX5_sort_57 (fun H locs hP hD hS => ?_)
        refine lv_iload hx hb dX5_sort_60 (lv_at hl 4 rfl) ?_
        refine lv_iconst (v := (2 : Int32)) hx hb dX5_sort_62 (by decide) ?_
        refine lv_iload hx hb dX5_sort_63 (lv_at hl 3 rfl) ?_
        refine lv_imul hx hb dX5_sort_65 ?_
        refine lv_iadd hx hb dX5_sort_66 ?_
        refine lv_istore (lv' := [(5, .int (v5_5 + ((2 : Int32) * v4_5))), (0, .ref (ad 7)), (1, .ref (ad (zpl j))), (3, .int v3_3), (4, .int v4_5)]) hx hb dX5_sort_67 hl (by decide) rfl (fun ls hl => ?_)
        refine lv_goto (tgt := 27) hx hb dX5_sort_69 (by decide) ?_
        cases hm
        exact hk _ _ _ hP hD hS (lv_sub hl [1, 2, 3, 4, 0] rfl)
    have h72 : ∀ (σ12 : zS) (v4_12 : Int32), m_X5_sort_72_in18 N j v2 v3_3 σ12 v4_12 = some res → ∀ (H : Heap) (locs : List Loc) (ls : Array Slot), va_P D zclX (zwX ad cI cJ cZ cO σ12) H → va_D A (zwX ad cI cJ cZ cO σ12) → va_S A s.heap H locs → lv_has ls 6 [(0, .ref (ad 7)), (1, .ref (ad (zpl j))), (3, .int v3_3), (4, .int v4_12)] → W p l e (zR 1 60) s m args below meth c H locs 0 0 Q (F0 m 72 ls []) := by
      intro σ12 v4_12 hm H locs ls hP hD hS hl
      unfold m_X5_sort_72_in18 at hm
      refine lv_aload_n hx hb dX5_sort_72 rfl (lv_at hl 0 rfl) ?_
      refine zget (v := .ref (ad 19)) hx hb hT zinX5 hown hK hP 7 rfl rfl 0 (by decide) zw66 rfl dX5_sort_73 ?_
      refine lv_iconst (v := (0 : Int32)) hx hb dX5_sort_76 (by decide) ?_
      refine lv_aload_n hx hb dX5_sort_77 rfl (lv_at hl 1 rfl) ?_
      refine lv_iconst (v := (0 : Int32)) hx hb dX5_sort_78 (by decide) ?_
      refine lv_iload_n hx hb dX5_sort_79 rfl (lv_at hl 2 rfl) ?_
      obtain ⟨σ13, eσ13, hm⟩ := Option.bind_eq_some_iff.mp hm
      refine zacopy hx hb hml hl.1 hown (hT _ zw452) (hT _ zw454) (hT _ zw453) (hT _ zw51) hK hP hD hS 19 (zpl j) rfl (zrow_at hj) rfl eσ13 (zrow_set hj) (by decide) (by decide) dX5_sort_80 (fun H locs hP hD hS => ?_)
      refine lv_iload hx hb dX5_sort_83 (lv_at hl 3 rfl) ?_
      refine lv_iconst (v := (2 : Int32)) hx hb dX5_sort_85 (by decide) ?_
      refine lv_imul hx hb dX5_sort_86 ?_
      refine lv_istore (lv' := [(4, .int (v4_12 * (2 : Int32))), (0, .ref (ad 7)), (1, .ref (ad (zpl j))), (3, .int v3_3)]) hx hb dX5_sort_87 hl (by decide) rfl (fun ls hl => ?_)
      refine lv_goto (tgt := 18) hx hb dX5_sort_89 (by decide) ?_
      cases hm
      exact hk _ _ _ hP hD hS (lv_sub hl [1, 2, 3, 0] rfl)
    unfold m_X5_sort_L18 at hm
    refine lv_iload hx hb dX5_sort_18 (lv_at hl 3 rfl) ?_
    refine lv_iload_n hx hb dX5_sort_20 rfl (lv_at hl 2 rfl) ?_
    refine lv_icmp_ge (tgt := 92) hx hb dX5_sort_21 (by decide) (fun h4 => ?_) (fun h4 => ?_)
    · rw [if_pos h4] at hm
      cases hm
      exact hk _ _ _ hP hD hS (lv_sub hl [] rfl)
    · rw [if_neg h4] at hm
      refine lv_iconst (v := (0 : Int32)) hx hb dX5_sort_24 (by decide) ?_
      refine lv_istore (lv' := [(5, .int (0 : Int32)), (0, .ref (ad 7)), (1, .ref (ad (zpl j))), (3, .int v3_3), (4, .int v4_3)]) hx hb dX5_sort_25 hl (by decide) rfl (fun ls hl => ?_)
      obtain ⟨σ11, e14, hm⟩ := Option.bind_eq_some_iff.mp hm
      refine hL27 v4_3 _ σ11 e14 ?_ _ _ _ hP hD hS (lv_sub hl [1, 2, 3, 4, 0] rfl)
      intro H locs ls hP hD hS hl
      try dsimp only at hP hD hl
      replace hm : m_X5_sort_72_in18 N j v2 v3_3 σ11 v4_3 = some res := hm
      exact h72 σ11 v4_3 hm _ _ _ hP hD hS (lv_sub hl [0, 1, 2, 3] rfl)
  have h92 : ∀ (σ17 : zS), m_X5_sort_92 N j v2 σ17 = some σ' → ∀ (H : Heap) (locs : List Loc) (ls : Array Slot), va_P D zclX (zwX ad cI cJ cZ cO σ17) H → va_D A (zwX ad cI cJ cZ cO σ17) → va_S A s.heap H locs → lv_has ls 6 [] → W p l e (zR 1 60) s m args below meth c H locs 0 0 Q (F0 m 92 ls []) := by
    intro σ17 hm H locs ls hP hD hS hl
    unfold m_X5_sort_92 at hm
    cases hm
    exact hret _ _ _ _ dX5_sort_92 hP hD hS
  unfold m_X5_sort at hm
  refine lv_iload_n hx hb dX5_sort_0 rfl (lv_at hl 2 rfl) ?_
  refine lv_aload_n hx hb dX5_sort_1 rfl (lv_at hl 1 rfl) ?_
  refine va_alen (v := (Int32.ofNat (zln j))) hx hb hK hP (zpl j) 1 (zrow_at hj) rfl rfl dX5_sort_2 ?_
  refine lv_aload_n hx hb dX5_sort_3 rfl (lv_at hl 0 rfl) ?_
  refine zget (v := .ref (ad 19)) hx hb hT zinX5 hown hK hP 7 rfl rfl 0 (by decide) zw66 rfl dX5_sort_4 ?_
  refine va_alen (v := (1080 : Int32)) hx hb hK hP 19 1 rfl rfl rfl dX5_sort_7 ?_
  obtain ⟨b1, eb1, hm⟩ := Option.bind_eq_some_iff.mp hm
  refine zSi (rest := [.int v2]) [.int (Int32.ofNat (zln j)), .int (1080 : Int32)] hx hb hml hl.1 hown hT (k_J9_min_7cf53 eb1) zkJ9_min_7cf53 zw447 ⟨by decide, by decide⟩ rfl rfl hK hZ hP hD hS rfl rfl (Nat.le_of_ble_eq_true rfl) ⟨Nat.zero_le _, Nat.zero_le _⟩ dX5_sort_8 (fun H locs hP hD hS => ?_)
  obtain ⟨b2, eb2, hm⟩ := Option.bind_eq_some_iff.mp hm
  refine zSi (rest := []) [.int v2, .int b1] hx hb hml hl.1 hown hT (k_J9_min_7cf53 eb2) zkJ9_min_7cf53 zw447 ⟨by decide, by decide⟩ rfl rfl hK hZ hP hD hS rfl rfl (Nat.le_of_ble_eq_true rfl) ⟨Nat.zero_le _, Nat.zero_le _⟩ dX5_sort_11 (fun H locs hP hD hS => ?_)
  refine lv_istore_n (lv' := [(3, .int b2), (0, .ref (ad 7)), (1, .ref (ad (zpl j))), (2, .int v2)]) hx hb dX5_sort_14 rfl hl (by decide) rfl (fun ls hl => ?_)
  refine lv_iconst (v := (1 : Int32)) hx hb dX5_sort_15 (by decide) ?_
  refine lv_istore (lv' := [(4, .int (1 : Int32)), (3, .int b2), (0, .ref (ad 7)), (1, .ref (ad (zpl j))), (2, .int v2)]) hx hb dX5_sort_16 hl (by decide) rfl (fun ls hl => ?_)
  obtain ⟨σ16, e18, hm⟩ := Option.bind_eq_some_iff.mp hm
  refine hL18 b2 _ σ16 e18 ?_ _ _ _ hP hD hS (lv_sub hl [2, 3, 1, 0] rfl)
  intro H locs ls hP hD hS hl
  try dsimp only at hP hD hl
  replace hm : m_X5_sort_92 N j v2 σ16 = some σ' := hm
  exact h92 σ16 hm _ _ _ hP hD hS (lv_sub hl [] rfl)
set_option maxHeartbeats 4000000 in
set_option maxRecDepth 100000 in
theorem k_X2_gather {l : Launch} {D : va_G} {ad : Nat → Nat} {cI cJ cZ cO : ClassId} {t : Nat} {A : Nat → Prop} {N : Nat} {σ σ' : zS} {k : Nat}  (hkf : k < 10) (hm : m_X2_gather N σ k = some σ') : zCv l yX2_gather cX2_gather 6 (none) (zR 4 97) D zclX (zty cI cJ cZ cO) t A (zwX ad cI cJ cZ cO) [.ref (ad 4), .ref (ad (20 + k)), .ref (ad 1), .ref (ad 2)] σ σ' := by
  refine zMv (by decide) (Nat.le_of_ble_eq_true rfl) ?_
  intro p e s m args below meth c Q hx hb hml hown hT hK hZ hret hP hD hS ls hl
  replace hown : s.vm.findClass RX2 = some m.cls := hown
  replace hl : lv_has ls 6 [(0, .ref (ad 4)), (1, .ref (ad (20 + k))), (2, .ref (ad 1)), (3, .ref (ad 2))] := hl
  have hL8 : ∀ (q : zS × Int32) (r : zS), ziter (fun q : zS × Int32 => m_X2_gather_L8 N k q.1 q.2) N q = some r → (∀ (H : Heap) (locs : List Loc) (ls : Array Slot), va_P D zclX (zwX ad cI cJ cZ cO r) H → va_D A (zwX ad cI cJ cZ cO r) → va_S A s.heap H locs → lv_has ls 6 [(0, .ref (ad 4))] → W p l e (zR 4 97) s m args below meth c H locs 0 0 Q (F0 m 115 ls [])) → ∀ (H : Heap) (locs : List Loc) (ls : Array Slot), va_P D zclX (zwX ad cI cJ cZ cO q.1) H → va_D A (zwX ad cI cJ cZ cO q.1) → va_S A s.heap H locs → lv_has ls 6 [(0, .ref (ad 4)), (1, .ref (ad (20 + k))), (2, .ref (ad 1)), (3, .ref (ad 2)), (4, .int q.2)] → W p l e (zR 4 97) s m args below meth c H locs 0 0 Q (F0 m 8 ls []) := by
    intro q r
    refine ziter_W (Hd := fun q : zS × Int32 => ∀ (H : Heap) (locs : List Loc) (ls : Array Slot), va_P D zclX (zwX ad cI cJ cZ cO q.1) H → va_D A (zwX ad cI cJ cZ cO q.1) → va_S A s.heap H locs → lv_has ls 6 [(0, .ref (ad 4)), (1, .ref (ad (20 + k))), (2, .ref (ad 1)), (3, .ref (ad 2)), (4, .int q.2)] → W p l e (zR 4 97) s m args below meth c H locs 0 0 Q (F0 m 8 ls [])) (Ex := fun r : zS => ∀ (H : Heap) (locs : List Loc) (ls : Array Slot), va_P D zclX (zwX ad cI cJ cZ cO r) H → va_D A (zwX ad cI cJ cZ cO r) → va_S A s.heap H locs → lv_has ls 6 [(0, .ref (ad 4))] → W p l e (zR 4 97) s m args below meth c H locs 0 0 Q (F0 m 115 ls [])) ?_ N q r
    rintro ⟨σ2, v4_2⟩ res hm hk H locs ls hP hD hS hl
    try dsimp only at hP hD hl
    replace hm : m_X2_gather_L8 N k σ2 v4_2 = some res := hm
    have h109 : ∀ (σ6 : zS) (v4_6 : Int32), m_X2_gather_109_in8 N k σ6 v4_6 = some res → ∀ (H : Heap) (locs : List Loc) (ls : Array Slot), va_P D zclX (zwX ad cI cJ cZ cO σ6) H → va_D A (zwX ad cI cJ cZ cO σ6) → va_S A s.heap H locs → lv_has ls 6 [(0, .ref (ad 4)), (1, .ref (ad (20 + k))), (2, .ref (ad 1)), (3, .ref (ad 2)), (4, .int v4_6)] → W p l e (zR 4 97) s m args below meth c H locs 0 0 Q (F0 m 109 ls []) := by
      intro σ6 v4_6 hm H locs ls hP hD hS hl
      unfold m_X2_gather_109_in8 at hm
      refine lv_iinc (v := (v4_6 + (1 : Int32))) (lv' := [(4, .int (v4_6 + (1 : Int32))), (0, .ref (ad 4)), (1, .ref (ad (20 + k))), (2, .ref (ad 1)), (3, .ref (ad 2))]) hx hb dX2_gather_109 hl (k := 4) rfl rfl (by decide) rfl (fun ls hl => ?_)
      refine lv_goto (tgt := 8) hx hb dX2_gather_112 (by decide) ?_
      cases hm
      exact hk _ _ _ hP hD hS (lv_sub hl [1, 2, 3, 4, 0] rfl)
    have hL50 : ∀ (v4_10 : Int32), ∀ (q : zS × Int32) (r : zS), ziter (fun q : zS × Int32 => m_X2_gather_L50 N k v4_10 q.1 q.2) N q = some r → (∀ (H : Heap) (locs : List Loc) (ls : Array Slot), va_P D zclX (zwX ad cI cJ cZ cO r) H → va_D A (zwX ad cI cJ cZ cO r) → va_S A s.heap H locs → lv_has ls 6 [(0, .ref (ad 4)), (1, .ref (ad (20 + k))), (2, .ref (ad 1)), (3, .ref (ad 2)), (4, .int v4_10)] → W p l e (zR 4 97) s m args below meth c H locs 0 0 Q (F0 m 84 ls [])) → ∀ (H : Heap) (locs : List Loc) (ls : Array Slot), va_P D zclX (zwX ad cI cJ cZ cO q.1) H → va_D A (zwX ad cI cJ cZ cO q.1) → va_S A s.heap H locs → lv_has ls 6 [(0, .ref (ad 4)), (1, .ref (ad (20 + k))), (2, .ref (ad 1)), (3, .ref (ad 2)), (4, .int v4_10), (5, .int q.2)] → W p l e (zR 4 97) s m args below meth c H locs 0 0 Q (F0 m 50 ls []) := by
      intro v4_10
      intro q r
      refine ziter_W (Hd := fun q : zS × Int32 => ∀ (H : Heap) (locs : List Loc) (ls : Array Slot), va_P D zclX (zwX ad cI cJ cZ cO q.1) H → va_D A (zwX ad cI cJ cZ cO q.1) → va_S A s.heap H locs → lv_has ls 6 [(0, .ref (ad 4)), (1, .ref (ad (20 + k))), (2, .ref (ad 1)), (3, .ref (ad 2)), (4, .int v4_10), (5, .int q.2)] → W p l e (zR 4 97) s m args below meth c H locs 0 0 Q (F0 m 50 ls [])) (Ex := fun r : zS => ∀ (H : Heap) (locs : List Loc) (ls : Array Slot), va_P D zclX (zwX ad cI cJ cZ cO r) H → va_D A (zwX ad cI cJ cZ cO r) → va_S A s.heap H locs → lv_has ls 6 [(0, .ref (ad 4)), (1, .ref (ad (20 + k))), (2, .ref (ad 1)), (3, .ref (ad 2)), (4, .int v4_10)] → W p l e (zR 4 97) s m args below meth c H locs 0 0 Q (F0 m 84 ls [])) ?_ N q r
      rintro ⟨σ10, v5_10⟩ res hm hk H locs ls hP hD hS hl
      try dsimp only at hP hD hl
      replace hm : m_X2_gather_L50 N k v4_10 σ10 v5_10 = some res := hm
      unfold m_X2_gather_L50 at hm
      refine lv_iload hx hb dX2_gather_50 (lv_at hl 5 rfl) ?_
      refine lv_aload_n hx hb dX2_gather_52 rfl (lv_at hl 0 rfl) ?_
      refine zget (v := .ref (ad 6)) hx hb hT zinX2 hown hK hP 4 rfl rfl 3 (by decide) zw202 rfl dX2_gather_53 ?_
      refine zget (v := .int (σ10.1 4)) hx hb hT zinX4 hown hK hP 6 rfl rfl 0 (by decide) zw190 rfl dX2_gather_56 ?_
      refine lv_icmp_ge (tgt := 84) hx hb dX2_gather_59 (by decide) (fun h11 => ?_) (fun h11 => ?_)
      · rw [if_pos h11] at hm
        cases hm
        exact hk _ _ _ hP hD hS (lv_sub hl [0, 1, 2, 3, 4] rfl)
      · rw [if_neg h11] at hm
        refine lv_aload_n hx hb dX2_gather_62 rfl (lv_at hl 0 rfl) ?_
        refine lv_aload_n hx hb dX2_gather_63 rfl (lv_at hl 0 rfl) ?_
        refine zget (v := .ref (ad 6)) hx hb hT zinX2 hown hK hP 4 rfl rfl 3 (by decide) zw202 rfl dX2_gather_64 ?_
        refine zget (v := .ref (ad 12)) hx hb hT zinX4 hown hK hP 6 rfl rfl 1 (by decide) zw192 rfl dX2_gather_67 ?_
        refine lv_iload hx hb dX2_gather_70 (lv_at hl 5 rfl) ?_
        obtain ⟨b12, eb12, hm⟩ := Option.bind_eq_some_iff.mp hm
        refine ziald hx hb hK hP 12 0 rfl rfl eb12 dX2_gather_72 ?_
        refine lv_iload hx hb dX2_gather_73 (lv_at hl 4 rfl) ?_
        obtain ⟨σ13, eσ13, hm⟩ := Option.bind_eq_some_iff.mp hm
        refine zVv (rest := []) [.int b12, .int v4_10] hx hb hml hl.1 hown hT (k_X2_addPair eσ13) zkX2_addPair zw438 ⟨by decide, by decide⟩ rfl rfl hK hZ hP hD hS 4 rfl rfl rfl rfl (Nat.le_of_ble_eq_true rfl) ⟨Nat.zero_le _, Nat.zero_le _⟩ dX2_gather_75 (fun H locs hP hD hS => ?_)
        refine lv_iinc (v := (v5_10 + (1 : Int32))) (lv' := [(5, .int (v5_10 + (1 : Int32))), (0, .ref (ad 4)), (1, .ref (ad (20 + k))), (2, .ref (ad 1)), (3, .ref (ad 2)), (4, .int v4_10)]) hx hb dX2_gather_78 hl (k := 5) rfl rfl (by decide) rfl (fun ls hl => ?_)
        refine lv_goto (tgt := 50) hx hb dX2_gather_81 (by decide) ?_
        cases hm
        exact hk _ _ _ hP hD hS (lv_sub hl [1, 2, 3, 4, 5, 0] rfl)
    have h84 : ∀ (σ16 : zS) (v4_16 : Int32), m_X2_gather_84_in8 N k σ16 v4_16 = some res → ∀ (H : Heap) (locs : List Loc) (ls : Array Slot), va_P D zclX (zwX ad cI cJ cZ cO σ16) H → va_D A (zwX ad cI cJ cZ cO σ16) → va_S A s.heap H locs → lv_has ls 6 [(0, .ref (ad 4)), (1, .ref (ad (20 + k))), (2, .ref (ad 1)), (3, .ref (ad 2)), (4, .int v4_16)] → W p l e (zR 4 97) s m args below meth c H locs 0 0 Q (F0 m 84 ls []) := by
      intro σ16 v4_16 hm H locs ls hP hD hS hl
      unfold m_X2_gather_84_in8 at hm
      refine lv_aload_n hx hb dX2_gather_84 rfl (lv_at hl 0 rfl) ?_
      refine zget (v := .ref (ad 6)) hx hb hT zinX2 hown hK hP 4 rfl rfl 3 (by decide) zw202 rfl dX2_gather_85 ?_
      refine zget (v := .int (σ16.1 4)) hx hb hT zinX4 hown hK hP 6 rfl rfl 0 (by decide) zw190 rfl dX2_gather_88 ?_
      refine lv_if_ne (tgt := 109) hx hb dX2_gather_91 (by decide) (fun h17 => ?_) (fun h17 => ?_)
      · rw [if_neg h17] at hm
        exact h109 σ16 v4_16 hm _ _ _ hP hD hS (lv_sub hl [0, 1, 2, 3, 4] rfl)
      · rw [if_pos h17] at hm
        refine lv_aload_n hx hb dX2_gather_94 rfl (lv_at hl 1 rfl) ?_
        refine zget (v := .int (σ16.1 (16 + 12 * k))) hx hb hT zinX1 hown hK hP (20 + k) (zF_obj hkf) rfl 8 (by decide) zw135 rfl dX2_gather_95 ?_
        refine lv_if_eq (tgt := 109) hx hb dX2_gather_98 (by decide) (fun h18 => ?_) (fun h18 => ?_)
        · rw [if_pos h18] at hm
          exact h109 σ16 v4_16 hm _ _ _ hP hD hS (lv_sub hl [0, 1, 2, 3, 4] rfl)
        · rw [if_neg h18] at hm
          refine lv_aload_n hx hb dX2_gather_101 rfl (lv_at hl 0 rfl) ?_
          refine lv_ldc hx hb hown (hT _ zw442) dX2_gather_102 ?_
          refine lv_iload hx hb dX2_gather_104 (lv_at hl 4 rfl) ?_
          obtain ⟨σ19, eσ19, hm⟩ := Option.bind_eq_some_iff.mp hm
          refine zVv (rest := []) [.int (2000000000 : Int32), .int v4_16] hx hb hml hl.1 hown hT (k_X2_addPair eσ19) zkX2_addPair zw438 ⟨by decide, by decide⟩ rfl rfl hK hZ hP hD hS 4 rfl rfl rfl rfl (Nat.le_of_ble_eq_true rfl) ⟨Nat.zero_le _, Nat.zero_le _⟩ dX2_gather_106 (fun H locs hP hD hS => ?_)
          exact h109 σ19 v4_16 hm _ _ _ hP hD hS (lv_sub hl [0, 1, 2, 3, 4] rfl)
    unfold m_X2_gather_L8 at hm
    refine lv_iload hx hb dX2_gather_8 (lv_at hl 4 rfl) ?_
    refine lv_aload_n hx hb dX2_gather_10 rfl (lv_at hl 2 rfl) ?_
    refine zget (v := .int (σ2.1 2)) hx hb hT zinX6 hown hK hP 1 rfl rfl 0 (by decide) zw79 rfl dX2_gather_11 ?_
    refine lv_icmp_ge (tgt := 115) hx hb dX2_gather_14 (by decide) (fun h3 => ?_) (fun h3 => ?_)
    · rw [if_pos h3] at hm
      cases hm
      exact hk _ _ _ hP hD hS (lv_sub hl [0] rfl)
    · rw [if_neg h3] at hm
      refine lv_aload_n hx hb dX2_gather_17 rfl (lv_at hl 3 rfl) ?_
      refine lv_iload hx hb dX2_gather_18 (lv_at hl 4 rfl) ?_
      obtain ⟨b4, eb4, hm⟩ := Option.bind_eq_some_iff.mp hm
      refine zVi (rest := []) [.int v4_2] hx hb hml hl.1 hown hT (k_X3_has eb4) zkX3_has zw374 ⟨by decide, by decide⟩ rfl rfl hK hZ hP hD hS 2 rfl rfl rfl rfl (Nat.le_of_ble_eq_true rfl) ⟨Nat.zero_le _, Nat.zero_le _⟩ dX2_gather_20 (fun H locs hP hD hS => ?_)
      refine lv_if_eq (tgt := 109) hx hb dX2_gather_23 (by decide) (fun h5 => ?_) (fun h5 => ?_)
      · rw [if_pos h5] at hm
        exact h109 σ2 v4_2 hm _ _ _ hP hD hS (lv_sub hl [0, 1, 2, 3, 4] rfl)
      · rw [if_neg h5] at hm
        refine lv_aload_n hx hb dX2_gather_26 rfl (lv_at hl 1 rfl) ?_
        refine lv_aload_n hx hb dX2_gather_27 rfl (lv_at hl 2 rfl) ?_
        refine lv_iload hx hb dX2_gather_28 (lv_at hl 4 rfl) ?_
        obtain ⟨b7, eb7, hm⟩ := Option.bind_eq_some_iff.mp hm
        refine zVi (rest := []) [.ref (ad 1), .int v4_2] hx hb hml hl.1 hown hT (k_X1_counts hkf eb7) zkX1_counts zw378 ⟨by decide, by decide⟩ rfl rfl hK hZ hP hD hS (20 + k) (zF_obj hkf) rfl rfl rfl (Nat.le_of_ble_eq_true rfl) ⟨Nat.zero_le _, Nat.zero_le _⟩ dX2_gather_30 (fun H locs hP hD hS => ?_)
        refine lv_if_eq (tgt := 109) hx hb dX2_gather_33 (by decide) (fun h8 => ?_) (fun h8 => ?_)
        · rw [if_pos h8] at hm
          exact h109 σ2 v4_2 hm _ _ _ hP hD hS (lv_sub hl [0, 1, 2, 3, 4] rfl)
        · rw [if_neg h8] at hm
          refine lv_aload_n hx hb dX2_gather_36 rfl (lv_at hl 1 rfl) ?_
          refine lv_aload_n hx hb dX2_gather_37 rfl (lv_at hl 2 rfl) ?_
          refine lv_iload hx hb dX2_gather_38 (lv_at hl 4 rfl) ?_
          refine lv_aload_n hx hb dX2_gather_40 rfl (lv_at hl 0 rfl) ?_
          refine zget (v := .ref (ad 6)) hx hb hT zinX2 hown hK hP 4 rfl rfl 3 (by decide) zw202 rfl dX2_gather_41 ?_
          obtain ⟨σ9, eσ9, hm⟩ := Option.bind_eq_some_iff.mp hm
          refine zVv (rest := []) [.ref (ad 1), .int v4_2, .ref (ad 6)] hx hb hml hl.1 hown hT (k_X1_collectKeys hkf eσ9) zkX1_collectKeys zw391 ⟨by decide, by decide⟩ rfl rfl hK hZ hP hD hS (20 + k) (zF_obj hkf) rfl rfl rfl (Nat.le_of_ble_eq_true rfl) ⟨Nat.zero_le _, Nat.zero_le _⟩ dX2_gather_44 (fun H locs hP hD hS => ?_)
          refine lv_iconst (v := (0 : Int32)) hx hb dX2_gather_47 (by decide) ?_
          refine lv_istore (lv' := [(5, .int (0 : Int32)), (0, .ref (ad 4)), (1, .ref (ad (20 + k))), (2, .ref (ad 1)), (3, .ref (ad 2)), (4, .int v4_2)]) hx hb dX2_gather_48 hl (by decide) rfl (fun ls hl => ?_)
          obtain ⟨σ15, e20, hm⟩ := Option.bind_eq_some_iff.mp hm
          refine hL50 v4_2 _ σ15 e20 ?_ _ _ _ hP hD hS (lv_sub hl [1, 2, 3, 4, 5, 0] rfl)
          intro H locs ls hP hD hS hl
          try dsimp only at hP hD hl
          replace hm : m_X2_gather_84_in8 N k σ15 v4_2 = some res := hm
          exact h84 σ15 v4_2 hm _ _ _ hP hD hS (lv_sub hl [0, 1, 2, 3, 4] rfl)
  have h115 : ∀ (σ23 : zS), m_X2_gather_115 N k σ23 = some σ' → ∀ (H : Heap) (locs : List Loc) (ls : Array Slot), va_P D zclX (zwX ad cI cJ cZ cO σ23) H → va_D A (zwX ad cI cJ cZ cO σ23) → va_S A s.heap H locs → lv_has ls 6 [(0, .ref (ad 4))] → W p l e (zR 4 97) s m args below meth c H locs 0 0 Q (F0 m 115 ls []) := by
    intro σ23 hm H locs ls hP hD hS hl
    unfold m_X2_gather_115 at hm
    refine lv_aload_n hx hb dX2_gather_115 rfl (lv_at hl 0 rfl) ?_
    refine zget (v := .ref (ad 7)) hx hb hT zinX2 hown hK hP 4 rfl rfl 2 (by decide) zw201 rfl dX2_gather_116 ?_
    refine lv_aload_n hx hb dX2_gather_119 rfl (lv_at hl 0 rfl) ?_
    refine zget (v := .ref (ad 13)) hx hb hT zinX2 hown hK hP 4 rfl rfl 4 (by decide) zw203 rfl dX2_gather_120 ?_
    refine lv_aload_n hx hb dX2_gather_123 rfl (lv_at hl 0 rfl) ?_
    refine zget (v := .int (σ23.1 6)) hx hb hT zinX2 hown hK hP 4 rfl rfl 1 (by decide) zw200 rfl dX2_gather_124 ?_
    obtain ⟨σ24, eσ24, hm⟩ := Option.bind_eq_some_iff.mp hm
    refine zVv (rest := []) [.ref (ad 13), .int (σ23.1 6)] hx hb hml hl.1 hown hT (k_X5_sort (by decide) eσ24) zkX5_sort zw443 ⟨by decide, by decide⟩ rfl rfl hK hZ hP hD hS 7 rfl rfl rfl rfl (Nat.le_of_ble_eq_true rfl) ⟨Nat.zero_le _, Nat.zero_le _⟩ dX2_gather_127 (fun H locs hP hD hS => ?_)
    cases hm
    exact hret _ _ _ _ dX2_gather_130 hP hD hS
  unfold m_X2_gather at hm
  refine lv_aload_n hx hb dX2_gather_0 rfl (lv_at hl 0 rfl) ?_
  refine lv_iconst (v := (0 : Int32)) hx hb dX2_gather_1 (by decide) ?_
  obtain ⟨σ1, eσ1, hm⟩ := Option.bind_eq_some_iff.mp hm
  refine zput (j := 6) (ty := .int) hx hb hT zinX2 tyX2 tyX2_ok nmX2 hown hK hP hD hS 4 rfl rfl 1 (by decide) zw200 rfl (by decide +kernel) rfl rfl (Nat.le_of_ble_eq_true rfl) eσ1 rfl dX2_gather_2 (fun H locs hP hD hS => ?_)
  refine lv_iconst (v := (0 : Int32)) hx hb dX2_gather_5 (by decide) ?_
  refine lv_istore (lv' := [(4, .int (0 : Int32)), (0, .ref (ad 4)), (1, .ref (ad (20 + k))), (2, .ref (ad 1)), (3, .ref (ad 2))]) hx hb dX2_gather_6 hl (by decide) rfl (fun ls hl => ?_)
  obtain ⟨σ22, e25, hm⟩ := Option.bind_eq_some_iff.mp hm
  refine hL8  _ σ22 e25 ?_ _ _ _ hP hD hS (lv_sub hl [1, 2, 3, 4, 0] rfl)
  intro H locs ls hP hD hS hl
  try dsimp only at hP hD hl
  replace hm : m_X2_gather_115 N k σ22 = some σ' := hm
  exact h115 σ22 hm _ _ _ hP hD hS (lv_sub hl [0] rfl)
set_option maxHeartbeats 4000000 in
set_option maxRecDepth 100000 in
theorem k_X2_pairKey {l : Launch} {D : va_G} {ad : Nat → Nat} {cI cJ cZ cO : ClassId} {t : Nat} {A : Nat → Prop} {N : Nat} {σ : zS} {v1 : Int32} {r : Int32}  (hm : m_X2_pairKey N σ v1 = some r) : zCi l yX2_pairKey cX2_pairKey 2 (some .int) (zR 0 0) D zclX (zty cI cJ cZ cO) t A (zwX ad cI cJ cZ cO) [.ref (ad 4), .int v1] σ σ r := by
  refine zMi (by decide) (Nat.le_of_ble_eq_true rfl) ?_
  intro p e s m args below meth c Q hx hb hml hown hT hK hZ hret hP hD hS ls hl
  replace hown : s.vm.findClass RX2 = some m.cls := hown
  replace hl : lv_has ls 2 [(0, .ref (ad 4)), (1, .int v1)] := hl
  unfold m_X2_pairKey at hm
  refine lv_aload_n hx hb dX2_pairKey_0 rfl (lv_at hl 0 rfl) ?_
  refine zget (v := .ref (ad 13)) hx hb hT zinX2 hown hK hP 4 rfl rfl 4 (by decide) zw203 rfl dX2_pairKey_1 ?_
  refine lv_iload_n hx hb dX2_pairKey_4 rfl (lv_at hl 1 rfl) ?_
  obtain ⟨b1, eb1, hm⟩ := Option.bind_eq_some_iff.mp hm
  refine zlald hx hb hK hP 13 1 rfl rfl eb1 dX2_pairKey_5 ?_
  refine lv_bipush (v := (7 : Int32)) hx hb dX2_pairKey_6 (by decide) ?_
  refine lv_lshr (v := (b1 >>> ((7 : Int32).toInt64 &&& 63))) hx hb dX2_pairKey_8 rfl ?_
  refine lv_l2i (v := (b1 >>> ((7 : Int32).toInt64 &&& 63)).toInt32) hx hb dX2_pairKey_9 rfl ?_
  cases hm
  exact hret _ _ _ _ dX2_pairKey_10 hP hD hS
set_option maxHeartbeats 4000000 in
set_option maxRecDepth 100000 in
theorem k_X2_cutRun {l : Launch} {D : va_G} {ad : Nat → Nat} {cI cJ cZ cO : ClassId} {t : Nat} {A : Nat → Prop} {N : Nat} {σ σ' : zS} {k : Nat} {v2 : Int32} {v3 : Int32} {r : Int32} (hkf : k < 10) (hm : m_X2_cutRun N σ k v2 v3 = some (r, σ')) : zCi l yX2_cutRun cX2_cutRun 5 (some .int) (zR 1 21) D zclX (zty cI cJ cZ cO) t A (zwX ad cI cJ cZ cO) [.ref (ad 4), .ref (ad (20 + k)), .int v2, .int v3] σ σ' r := by
  refine zMi (by decide) (Nat.le_of_ble_eq_true rfl) ?_
  intro p e s m args below meth c Q hx hb hml hown hT hK hZ hret hP hD hS ls hl
  replace hown : s.vm.findClass RX2 = some m.cls := hown
  replace hl : lv_has ls 5 [(0, .ref (ad 4)), (1, .ref (ad (20 + k))), (2, .int v2), (3, .int v3)] := hl
  have hL3 : ∀ (σ1 : zS), ∀ (q : Int32) (r : Int32), ziter (fun q : Int32 => m_X2_cutRun_L3 N k v2 v3 σ1 q) N q = some r → (∀ (H : Heap) (locs : List Loc) (ls : Array Slot), va_P D zclX (zwX ad cI cJ cZ cO σ1) H → va_D A (zwX ad cI cJ cZ cO σ1) → va_S A s.heap H locs → lv_has ls 5 [(0, .ref (ad 4)), (1, .ref (ad (20 + k))), (2, .int v2), (3, .int v3), (4, .int r)] → W p l e (zR 1 21) s m args below meth c H locs 0 0 Q (F0 m 28 ls [])) → ∀ (H : Heap) (locs : List Loc) (ls : Array Slot), va_P D zclX (zwX ad cI cJ cZ cO σ1) H → va_D A (zwX ad cI cJ cZ cO σ1) → va_S A s.heap H locs → lv_has ls 5 [(0, .ref (ad 4)), (1, .ref (ad (20 + k))), (2, .int v2), (3, .int v3), (4, .int q)] → W p l e (zR 1 21) s m args below meth c H locs 0 0 Q (F0 m 3 ls []) := by
    intro σ1
    intro q r
    refine ziter_W (Hd := fun q : Int32 => ∀ (H : Heap) (locs : List Loc) (ls : Array Slot), va_P D zclX (zwX ad cI cJ cZ cO σ1) H → va_D A (zwX ad cI cJ cZ cO σ1) → va_S A s.heap H locs → lv_has ls 5 [(0, .ref (ad 4)), (1, .ref (ad (20 + k))), (2, .int v2), (3, .int v3), (4, .int q)] → W p l e (zR 1 21) s m args below meth c H locs 0 0 Q (F0 m 3 ls [])) (Ex := fun r : Int32 => ∀ (H : Heap) (locs : List Loc) (ls : Array Slot), va_P D zclX (zwX ad cI cJ cZ cO σ1) H → va_D A (zwX ad cI cJ cZ cO σ1) → va_S A s.heap H locs → lv_has ls 5 [(0, .ref (ad 4)), (1, .ref (ad (20 + k))), (2, .int v2), (3, .int v3), (4, .int r)] → W p l e (zR 1 21) s m args below meth c H locs 0 0 Q (F0 m 28 ls [])) ?_ N q r
    rintro v4_1 res hm hk H locs ls hP hD hS hl
    try dsimp only at hP hD hl
    replace hm : m_X2_cutRun_L3 N k v2 v3 σ1 v4_1 = some res := hm
    unfold m_X2_cutRun_L3 at hm
    refine lv_iload hx hb dX2_cutRun_3 (lv_at hl 4 rfl) ?_
    refine lv_aload_n hx hb dX2_cutRun_5 rfl (lv_at hl 0 rfl) ?_
    refine zget (v := .int (σ1.1 6)) hx hb hT zinX2 hown hK hP 4 rfl rfl 1 (by decide) zw200 rfl dX2_cutRun_6 ?_
    refine lv_icmp_ge (tgt := 28) hx hb dX2_cutRun_9 (by decide) (fun h2 => ?_) (fun h2 => ?_)
    · rw [if_pos h2] at hm
      cases hm
      exact hk _ _ _ hP hD hS (lv_sub hl [0, 1, 2, 3, 4] rfl)
    · rw [if_neg h2] at hm
      refine lv_aload_n hx hb dX2_cutRun_12 rfl (lv_at hl 0 rfl) ?_
      refine lv_iload hx hb dX2_cutRun_13 (lv_at hl 4 rfl) ?_
      obtain ⟨b3, eb3, hm⟩ := Option.bind_eq_some_iff.mp hm
      refine zVi (rest := []) [.int v4_1] hx hb hml hl.1 hown hT (k_X2_pairKey eb3) zkX2_pairKey zw463 ⟨by decide, by decide⟩ rfl rfl hK hZ hP hD hS 4 rfl rfl rfl rfl (Nat.le_of_ble_eq_true rfl) ⟨Nat.zero_le _, Nat.zero_le _⟩ dX2_cutRun_15 (fun H locs hP hD hS => ?_)
      refine lv_iload_n hx hb dX2_cutRun_18 rfl (lv_at hl 2 rfl) ?_
      refine lv_icmp_ne (tgt := 28) hx hb dX2_cutRun_19 (by decide) (fun h4 => ?_) (fun h4 => ?_)
      · rw [if_neg h4] at hm
        cases hm
        exact hk _ _ _ hP hD hS (lv_sub hl [0, 1, 2, 3, 4] rfl)
      · rw [if_pos h4] at hm
        refine lv_iinc (v := (v4_1 + (1 : Int32))) (lv' := [(4, .int (v4_1 + (1 : Int32))), (0, .ref (ad 4)), (1, .ref (ad (20 + k))), (2, .int v2), (3, .int v3)]) hx hb dX2_cutRun_22 hl (k := 4) rfl rfl (by decide) rfl (fun ls hl => ?_)
        refine lv_goto (tgt := 3) hx hb dX2_cutRun_25 (by decide) ?_
        cases hm
        exact hk _ _ _ hP hD hS (lv_sub hl [1, 2, 3, 4, 0] rfl)
  have h28 : ∀ (σ7 : zS) (v4_7 : Int32), m_X2_cutRun_28 N k v2 v3 σ7 v4_7 = some (r, σ') → ∀ (H : Heap) (locs : List Loc) (ls : Array Slot), va_P D zclX (zwX ad cI cJ cZ cO σ7) H → va_D A (zwX ad cI cJ cZ cO σ7) → va_S A s.heap H locs → lv_has ls 5 [(0, .ref (ad 4)), (1, .ref (ad (20 + k))), (2, .int v2), (3, .int v3), (4, .int v4_7)] → W p l e (zR 1 21) s m args below meth c H locs 0 0 Q (F0 m 28 ls []) := by
    intro σ7 v4_7 hm H locs ls hP hD hS hl
    unfold m_X2_cutRun_28 at hm
    refine lv_iload hx hb dX2_cutRun_28 (lv_at hl 4 rfl) ?_
    refine lv_iload_n hx hb dX2_cutRun_30 rfl (lv_at hl 3 rfl) ?_
    refine lv_isub hx hb dX2_cutRun_31 ?_
    refine lv_aload_n hx hb dX2_cutRun_32 rfl (lv_at hl 1 rfl) ?_
    refine zget (v := .int (σ7.1 (15 + 12 * k))) hx hb hT zinX1 hown hK hP (20 + k) (zF_obj hkf) rfl 7 (by decide) zw132 rfl dX2_cutRun_33 ?_
    refine lv_icmp_lt (tgt := 90) hx hb dX2_cutRun_36 (by decide) (fun h8 => ?_) (fun h8 => ?_)
    · rw [if_pos h8] at hm
      refine lv_iload hx hb dX2_cutRun_90 (lv_at hl 4 rfl) ?_
      cases hm
      exact hret _ _ _ _ dX2_cutRun_92 hP hD hS
    · rw [if_neg h8] at hm
      refine lv_aload_n hx hb dX2_cutRun_39 rfl (lv_at hl 0 rfl) ?_
      refine zget (v := .int (σ7.1 5)) hx hb hT zinX2 hown hK hP 4 rfl rfl 0 (by decide) zw198 rfl dX2_cutRun_40 ?_
      refine lv_sipush (v := (1080 : Int32)) hx hb dX2_cutRun_43 (by decide) ?_
      refine lv_icmp_ge (tgt := 90) hx hb dX2_cutRun_46 (by decide) (fun h9 => ?_) (fun h9 => ?_)
      · rw [if_pos h9] at hm
        refine lv_iload hx hb dX2_cutRun_90 (lv_at hl 4 rfl) ?_
        cases hm
        exact hret _ _ _ _ dX2_cutRun_92 hP hD hS
      · rw [if_neg h9] at hm
        refine lv_aload_n hx hb dX2_cutRun_49 rfl (lv_at hl 0 rfl) ?_
        refine zget (v := .ref (ad 14)) hx hb hT zinX2 hown hK hP 4 rfl rfl 5 (by decide) zw204 rfl dX2_cutRun_50 ?_
        refine lv_aload_n hx hb dX2_cutRun_53 rfl (lv_at hl 0 rfl) ?_
        refine zget (v := .int (σ7.1 5)) hx hb hT zinX2 hown hK hP 4 rfl rfl 0 (by decide) zw198 rfl dX2_cutRun_54 ?_
        refine lv_iload_n hx hb dX2_cutRun_57 rfl (lv_at hl 2 rfl) ?_
        obtain ⟨σ10, eσ10, hm⟩ := Option.bind_eq_some_iff.mp hm
        refine ziast (j := 5) hx hb hK hP hD hS 14 0 rfl rfl eσ10 (fun _ => rfl) dX2_cutRun_58 (fun H locs hP hD hS => ?_)
        refine lv_aload_n hx hb dX2_cutRun_59 rfl (lv_at hl 0 rfl) ?_
        refine zget (v := .ref (ad 15)) hx hb hT zinX2 hown hK hP 4 rfl rfl 6 (by decide) zw205 rfl dX2_cutRun_60 ?_
        refine lv_aload_n hx hb dX2_cutRun_63 rfl (lv_at hl 0 rfl) ?_
        refine zget (v := .int (σ10.1 5)) hx hb hT zinX2 hown hK hP 4 rfl rfl 0 (by decide) zw198 rfl dX2_cutRun_64 ?_
        refine lv_iload_n hx hb dX2_cutRun_67 rfl (lv_at hl 3 rfl) ?_
        obtain ⟨σ11, eσ11, hm⟩ := Option.bind_eq_some_iff.mp hm
        refine ziast (j := 6) hx hb hK hP hD hS 15 0 rfl rfl eσ11 (fun _ => rfl) dX2_cutRun_68 (fun H locs hP hD hS => ?_)
        refine lv_aload_n hx hb dX2_cutRun_69 rfl (lv_at hl 0 rfl) ?_
        refine zget (v := .ref (ad 16)) hx hb hT zinX2 hown hK hP 4 rfl rfl 7 (by decide) zw206 rfl dX2_cutRun_70 ?_
        refine lv_aload_n hx hb dX2_cutRun_73 rfl (lv_at hl 0 rfl) ?_
        refine zget (v := .int (σ11.1 5)) hx hb hT zinX2 hown hK hP 4 rfl rfl 0 (by decide) zw198 rfl dX2_cutRun_74 ?_
        refine lv_iload hx hb dX2_cutRun_77 (lv_at hl 4 rfl) ?_
        obtain ⟨σ12, eσ12, hm⟩ := Option.bind_eq_some_iff.mp hm
        refine ziast (j := 7) hx hb hK hP hD hS 16 0 rfl rfl eσ12 (fun _ => rfl) dX2_cutRun_79 (fun H locs hP hD hS => ?_)
        refine lv_aload_n hx hb dX2_cutRun_80 rfl (lv_at hl 0 rfl) ?_
        refine lv_dup hx hb dX2_cutRun_81 rfl ?_
        refine zget (v := .int (σ12.1 5)) hx hb hT zinX2 hown hK hP 4 rfl rfl 0 (by decide) zw198 rfl dX2_cutRun_82 ?_
        refine lv_iconst (v := (1 : Int32)) hx hb dX2_cutRun_85 (by decide) ?_
        refine lv_iadd hx hb dX2_cutRun_86 ?_
        obtain ⟨σ13, eσ13, hm⟩ := Option.bind_eq_some_iff.mp hm
        refine zput (j := 5) (ty := .int) hx hb hT zinX2 tyX2 tyX2_ok nmX2 hown hK hP hD hS 4 rfl rfl 0 (by decide) zw198 rfl (by decide +kernel) rfl rfl (Nat.le_of_ble_eq_true rfl) eσ13 rfl dX2_cutRun_87 (fun H locs hP hD hS => ?_)
        refine lv_iload hx hb dX2_cutRun_90 (lv_at hl 4 rfl) ?_
        cases hm
        exact hret _ _ _ _ dX2_cutRun_92 hP hD hS
  unfold m_X2_cutRun at hm
  refine lv_iload_n hx hb dX2_cutRun_0 rfl (lv_at hl 3 rfl) ?_
  refine lv_istore (lv' := [(4, .int v3), (0, .ref (ad 4)), (1, .ref (ad (20 + k))), (2, .int v2), (3, .int v3)]) hx hb dX2_cutRun_1 hl (by decide) rfl (fun ls hl => ?_)
  obtain ⟨v4_6, e14, hm⟩ := Option.bind_eq_some_iff.mp hm
  refine hL3 σ _ v4_6 e14 ?_ _ _ _ hP hD hS (lv_sub hl [1, 2, 3, 4, 0] rfl)
  intro H locs ls hP hD hS hl
  try dsimp only at hP hD hl
  replace hm : m_X2_cutRun_28 N k v2 v3 σ v4_6 = some (r, σ') := hm
  exact h28 σ v4_6 hm _ _ _ hP hD hS (lv_sub hl [0, 1, 2, 3, 4] rfl)
set_option maxHeartbeats 4000000 in
set_option maxRecDepth 100000 in
theorem k_X2_cut {l : Launch} {D : va_G} {ad : Nat → Nat} {cI cJ cZ cO : ClassId} {t : Nat} {A : Nat → Prop} {N : Nat} {σ σ' : zS} {k : Nat}  (hkf : k < 10) (hm : m_X2_cut N σ k = some σ') : zCv l yX2_cut cX2_cut 4 (none) (zR 2 45) D zclX (zty cI cJ cZ cO) t A (zwX ad cI cJ cZ cO) [.ref (ad 4), .ref (ad (20 + k))] σ σ' := by
  refine zMv (by decide) (Nat.le_of_ble_eq_true rfl) ?_
  intro p e s m args below meth c Q hx hb hml hown hT hK hZ hret hP hD hS ls hl
  replace hown : s.vm.findClass RX2 = some m.cls := hown
  replace hl : lv_has ls 4 [(0, .ref (ad 4)), (1, .ref (ad (20 + k)))] := hl
  have hL9 : ∀ (q : zS × Int32 × Int32) (r : zS × Int32), ziter (fun q : zS × Int32 × Int32 => m_X2_cut_L9 N k q.1 q.2.1 q.2.2) N q = some r → (∀ (H : Heap) (locs : List Loc) (ls : Array Slot), va_P D zclX (zwX ad cI cJ cZ cO r.1) H → va_D A (zwX ad cI cJ cZ cO r.1) → va_S A s.heap H locs → lv_has ls 4 [(0, .ref (ad 4)), (1, .ref (ad (20 + k))), (2, .int r.2)] → W p l e (zR 2 45) s m args below meth c H locs 0 0 Q (F0 m 31 ls [])) → ∀ (H : Heap) (locs : List Loc) (ls : Array Slot), va_P D zclX (zwX ad cI cJ cZ cO q.1) H → va_D A (zwX ad cI cJ cZ cO q.1) → va_S A s.heap H locs → lv_has ls 4 [(0, .ref (ad 4)), (1, .ref (ad (20 + k))), (2, .int q.2.1), (3, .int q.2.2)] → W p l e (zR 2 45) s m args below meth c H locs 0 0 Q (F0 m 9 ls []) := by
    intro q r
    refine ziter_W (Hd := fun q : zS × Int32 × Int32 => ∀ (H : Heap) (locs : List Loc) (ls : Array Slot), va_P D zclX (zwX ad cI cJ cZ cO q.1) H → va_D A (zwX ad cI cJ cZ cO q.1) → va_S A s.heap H locs → lv_has ls 4 [(0, .ref (ad 4)), (1, .ref (ad (20 + k))), (2, .int q.2.1), (3, .int q.2.2)] → W p l e (zR 2 45) s m args below meth c H locs 0 0 Q (F0 m 9 ls [])) (Ex := fun r : zS × Int32 => ∀ (H : Heap) (locs : List Loc) (ls : Array Slot), va_P D zclX (zwX ad cI cJ cZ cO r.1) H → va_D A (zwX ad cI cJ cZ cO r.1) → va_S A s.heap H locs → lv_has ls 4 [(0, .ref (ad 4)), (1, .ref (ad (20 + k))), (2, .int r.2)] → W p l e (zR 2 45) s m args below meth c H locs 0 0 Q (F0 m 31 ls [])) ?_ N q r
    rintro ⟨σ2, v2_2, v3_2⟩ res hm hk H locs ls hP hD hS hl
    try dsimp only at hP hD hl
    replace hm : m_X2_cut_L9 N k σ2 v2_2 v3_2 = some res := hm
    unfold m_X2_cut_L9 at hm
    refine lv_iload_n hx hb dX2_cut_9 rfl (lv_at hl 3 rfl) ?_
    refine lv_aload_n hx hb dX2_cut_10 rfl (lv_at hl 1 rfl) ?_
    refine zget (v := .int (σ2.1 (19 + 12 * k))) hx hb hT zinX1 hown hK hP (20 + k) (zF_obj hkf) rfl 11 (by decide) zw144 rfl dX2_cut_11 ?_
    refine lv_icmp_ge (tgt := 31) hx hb dX2_cut_14 (by decide) (fun h3 => ?_) (fun h3 => ?_)
    · rw [if_pos h3] at hm
      cases hm
      exact hk _ _ _ hP hD hS (lv_sub hl [0, 1, 2] rfl)
    · rw [if_neg h3] at hm
      refine lv_aload_n hx hb dX2_cut_17 rfl (lv_at hl 0 rfl) ?_
      refine lv_aload_n hx hb dX2_cut_18 rfl (lv_at hl 1 rfl) ?_
      refine lv_iload_n hx hb dX2_cut_19 rfl (lv_at hl 3 rfl) ?_
      refine lv_iload_n hx hb dX2_cut_20 rfl (lv_at hl 2 rfl) ?_
      obtain ⟨⟨b4, σ6⟩, eb4, hm⟩ := Option.bind_eq_some_iff.mp hm
      try dsimp only at hm
      refine zVi (rest := []) [.ref (ad (20 + k)), .int v3_2, .int v2_2] hx hb hml hl.1 hown hT (k_X2_cutRun hkf eb4) zkX2_cutRun zw459 ⟨by decide, by decide⟩ rfl rfl hK hZ hP hD hS 4 rfl rfl rfl rfl (Nat.le_of_ble_eq_true rfl) ⟨Nat.zero_le _, Nat.zero_le _⟩ dX2_cut_21 (fun H locs hP hD hS => ?_)
      refine lv_istore_n (lv' := [(2, .int b4), (0, .ref (ad 4)), (1, .ref (ad (20 + k))), (3, .int v3_2)]) hx hb dX2_cut_24 rfl hl (by decide) rfl (fun ls hl => ?_)
      refine lv_iinc (v := (v3_2 + (1 : Int32))) (lv' := [(3, .int (v3_2 + (1 : Int32))), (2, .int b4), (0, .ref (ad 4)), (1, .ref (ad (20 + k)))]) hx hb dX2_cut_25 hl (k := 3) rfl rfl (by decide) rfl (fun ls hl => ?_)
      refine lv_goto (tgt := 9) hx hb dX2_cut_28 (by decide) ?_
      cases hm
      exact hk _ _ _ hP hD hS (lv_sub hl [2, 3, 1, 0] rfl)
  have hL33 : ∀ (q : zS × Int32 × Int32) (r : zS), ziter (fun q : zS × Int32 × Int32 => m_X2_cut_L33 N k q.1 q.2.1 q.2.2) N q = some r → (∀ (H : Heap) (locs : List Loc) (ls : Array Slot), va_P D zclX (zwX ad cI cJ cZ cO r) H → va_D A (zwX ad cI cJ cZ cO r) → va_S A s.heap H locs → lv_has ls 4 [] → W p l e (zR 2 45) s m args below meth c H locs 0 0 Q (F0 m 64 ls [])) → ∀ (H : Heap) (locs : List Loc) (ls : Array Slot), va_P D zclX (zwX ad cI cJ cZ cO q.1) H → va_D A (zwX ad cI cJ cZ cO q.1) → va_S A s.heap H locs → lv_has ls 4 [(0, .ref (ad 4)), (1, .ref (ad (20 + k))), (2, .int q.2.1), (3, .int q.2.2)] → W p l e (zR 2 45) s m args below meth c H locs 0 0 Q (F0 m 33 ls []) := by
    intro q r
    refine ziter_W (Hd := fun q : zS × Int32 × Int32 => ∀ (H : Heap) (locs : List Loc) (ls : Array Slot), va_P D zclX (zwX ad cI cJ cZ cO q.1) H → va_D A (zwX ad cI cJ cZ cO q.1) → va_S A s.heap H locs → lv_has ls 4 [(0, .ref (ad 4)), (1, .ref (ad (20 + k))), (2, .int q.2.1), (3, .int q.2.2)] → W p l e (zR 2 45) s m args below meth c H locs 0 0 Q (F0 m 33 ls [])) (Ex := fun r : zS => ∀ (H : Heap) (locs : List Loc) (ls : Array Slot), va_P D zclX (zwX ad cI cJ cZ cO r) H → va_D A (zwX ad cI cJ cZ cO r) → va_S A s.heap H locs → lv_has ls 4 [] → W p l e (zR 2 45) s m args below meth c H locs 0 0 Q (F0 m 64 ls [])) ?_ N q r
    rintro ⟨σ10, v2_10, v3_10⟩ res hm hk H locs ls hP hD hS hl
    try dsimp only at hP hD hl
    replace hm : m_X2_cut_L33 N k σ10 v2_10 v3_10 = some res := hm
    have h58 : ∀ (σ13 : zS) (v2_13 : Int32) (v3_13 : Int32), m_X2_cut_58_in33 N k σ13 v2_13 v3_13 = some res → ∀ (H : Heap) (locs : List Loc) (ls : Array Slot), va_P D zclX (zwX ad cI cJ cZ cO σ13) H → va_D A (zwX ad cI cJ cZ cO σ13) → va_S A s.heap H locs → lv_has ls 4 [(0, .ref (ad 4)), (1, .ref (ad (20 + k))), (2, .int v2_13), (3, .int v3_13)] → W p l e (zR 2 45) s m args below meth c H locs 0 0 Q (F0 m 58 ls []) := by
      intro σ13 v2_13 v3_13 hm H locs ls hP hD hS hl
      unfold m_X2_cut_58_in33 at hm
      refine lv_iinc (v := (v3_13 + (1 : Int32))) (lv' := [(3, .int (v3_13 + (1 : Int32))), (0, .ref (ad 4)), (1, .ref (ad (20 + k))), (2, .int v2_13)]) hx hb dX2_cut_58 hl (k := 3) rfl rfl (by decide) rfl (fun ls hl => ?_)
      refine lv_goto (tgt := 33) hx hb dX2_cut_61 (by decide) ?_
      cases hm
      exact hk _ _ _ hP hD hS (lv_sub hl [1, 2, 3, 0] rfl)
    unfold m_X2_cut_L33 at hm
    refine lv_iload_n hx hb dX2_cut_33 rfl (lv_at hl 3 rfl) ?_
    refine lv_aload_n hx hb dX2_cut_34 rfl (lv_at hl 0 rfl) ?_
    refine zget (v := .int (σ10.1 6)) hx hb hT zinX2 hown hK hP 4 rfl rfl 1 (by decide) zw200 rfl dX2_cut_35 ?_
    refine lv_icmp_ge (tgt := 64) hx hb dX2_cut_38 (by decide) (fun h11 => ?_) (fun h11 => ?_)
    · rw [if_pos h11] at hm
      cases hm
      exact hk _ _ _ hP hD hS (lv_sub hl [] rfl)
    · rw [if_neg h11] at hm
      refine lv_iload_n hx hb dX2_cut_41 rfl (lv_at hl 3 rfl) ?_
      refine lv_iload_n hx hb dX2_cut_42 rfl (lv_at hl 2 rfl) ?_
      refine lv_icmp_ne (tgt := 58) hx hb dX2_cut_43 (by decide) (fun h12 => ?_) (fun h12 => ?_)
      · rw [if_neg h12] at hm
        exact h58 σ10 v2_10 v3_10 hm _ _ _ hP hD hS (lv_sub hl [0, 1, 2, 3] rfl)
      · rw [if_pos h12] at hm
        refine lv_aload_n hx hb dX2_cut_46 rfl (lv_at hl 0 rfl) ?_
        refine lv_aload_n hx hb dX2_cut_47 rfl (lv_at hl 1 rfl) ?_
        refine lv_aload_n hx hb dX2_cut_48 rfl (lv_at hl 0 rfl) ?_
        refine lv_iload_n hx hb dX2_cut_49 rfl (lv_at hl 3 rfl) ?_
        obtain ⟨b14, eb14, hm⟩ := Option.bind_eq_some_iff.mp hm
        refine zVi (rest := [.ref (ad (20 + k)), .ref (ad 4)]) [.int v3_10] hx hb hml hl.1 hown hT (k_X2_pairKey eb14) zkX2_pairKey zw463 ⟨by decide, by decide⟩ rfl rfl hK hZ hP hD hS 4 rfl rfl rfl rfl (Nat.le_of_ble_eq_true rfl) ⟨Nat.zero_le _, Nat.zero_le _⟩ dX2_cut_50 (fun H locs hP hD hS => ?_)
        refine lv_iload_n hx hb dX2_cut_53 rfl (lv_at hl 2 rfl) ?_
        obtain ⟨⟨b15, σ17⟩, eb15, hm⟩ := Option.bind_eq_some_iff.mp hm
        try dsimp only at hm
        refine zVi (rest := []) [.ref (ad (20 + k)), .int b14, .int v2_10] hx hb hml hl.1 hown hT (k_X2_cutRun hkf eb15) zkX2_cutRun zw459 ⟨by decide, by decide⟩ rfl rfl hK hZ hP hD hS 4 rfl rfl rfl rfl (Nat.le_of_ble_eq_true rfl) ⟨Nat.zero_le _, Nat.zero_le _⟩ dX2_cut_54 (fun H locs hP hD hS => ?_)
        refine lv_istore_n (lv' := [(2, .int b15), (0, .ref (ad 4)), (1, .ref (ad (20 + k))), (3, .int v3_10)]) hx hb dX2_cut_57 rfl hl (by decide) rfl (fun ls hl => ?_)
        exact h58 σ17 b15 v3_10 hm _ _ _ hP hD hS (lv_sub hl [1, 2, 0, 3] rfl)
  have h64 : ∀ (σ20 : zS), m_X2_cut_64 N k σ20 = some σ' → ∀ (H : Heap) (locs : List Loc) (ls : Array Slot), va_P D zclX (zwX ad cI cJ cZ cO σ20) H → va_D A (zwX ad cI cJ cZ cO σ20) → va_S A s.heap H locs → lv_has ls 4 [] → W p l e (zR 2 45) s m args below meth c H locs 0 0 Q (F0 m 64 ls []) := by
    intro σ20 hm H locs ls hP hD hS hl
    unfold m_X2_cut_64 at hm
    cases hm
    exact hret _ _ _ _ dX2_cut_64 hP hD hS
  have h31 : ∀ (σ9 : zS) (v2_9 : Int32), m_X2_cut_31 N k σ9 v2_9 = some σ' → ∀ (H : Heap) (locs : List Loc) (ls : Array Slot), va_P D zclX (zwX ad cI cJ cZ cO σ9) H → va_D A (zwX ad cI cJ cZ cO σ9) → va_S A s.heap H locs → lv_has ls 4 [(0, .ref (ad 4)), (1, .ref (ad (20 + k))), (2, .int v2_9)] → W p l e (zR 2 45) s m args below meth c H locs 0 0 Q (F0 m 31 ls []) := by
    intro σ9 v2_9 hm H locs ls hP hD hS hl
    unfold m_X2_cut_31 at hm
    refine lv_iload_n hx hb dX2_cut_31 rfl (lv_at hl 2 rfl) ?_
    refine lv_istore_n (lv' := [(3, .int v2_9), (0, .ref (ad 4)), (1, .ref (ad (20 + k))), (2, .int v2_9)]) hx hb dX2_cut_32 rfl hl (by decide) rfl (fun ls hl => ?_)
    obtain ⟨σ19, e21, hm⟩ := Option.bind_eq_some_iff.mp hm
    refine hL33  _ σ19 e21 ?_ _ _ _ hP hD hS (lv_sub hl [1, 2, 3, 0] rfl)
    intro H locs ls hP hD hS hl
    try dsimp only at hP hD hl
    replace hm : m_X2_cut_64 N k σ19 = some σ' := hm
    exact h64 σ19 hm _ _ _ hP hD hS (lv_sub hl [] rfl)
  unfold m_X2_cut at hm
  refine lv_aload_n hx hb dX2_cut_0 rfl (lv_at hl 0 rfl) ?_
  refine lv_iconst (v := (0 : Int32)) hx hb dX2_cut_1 (by decide) ?_
  obtain ⟨σ1, eσ1, hm⟩ := Option.bind_eq_some_iff.mp hm
  refine zput (j := 5) (ty := .int) hx hb hT zinX2 tyX2 tyX2_ok nmX2 hown hK hP hD hS 4 rfl rfl 0 (by decide) zw198 rfl (by decide +kernel) rfl rfl (Nat.le_of_ble_eq_true rfl) eσ1 rfl dX2_cut_2 (fun H locs hP hD hS => ?_)
  refine lv_iconst (v := (0 : Int32)) hx hb dX2_cut_5 (by decide) ?_
  refine lv_istore_n (lv' := [(2, .int (0 : Int32)), (0, .ref (ad 4)), (1, .ref (ad (20 + k)))]) hx hb dX2_cut_6 rfl hl (by decide) rfl (fun ls hl => ?_)
  refine lv_iconst (v := (0 : Int32)) hx hb dX2_cut_7 (by decide) ?_
  refine lv_istore_n (lv' := [(3, .int (0 : Int32)), (2, .int (0 : Int32)), (0, .ref (ad 4)), (1, .ref (ad (20 + k)))]) hx hb dX2_cut_8 rfl hl (by decide) rfl (fun ls hl => ?_)
  obtain ⟨r7, e22, hm⟩ := Option.bind_eq_some_iff.mp hm
  refine hL9  _ r7 e22 ?_ _ _ _ hP hD hS (lv_sub hl [2, 3, 1, 0] rfl)
  obtain ⟨σ8, v2_8⟩ := r7
  intro H locs ls hP hD hS hl
  try dsimp only at hP hD hl
  replace hm : m_X2_cut_31 N k σ8 v2_8 = some σ' := hm
  exact h31 σ8 v2_8 hm _ _ _ hP hD hS (lv_sub hl [0, 1, 2] rfl)
set_option maxHeartbeats 4000000 in
set_option maxRecDepth 100000 in
theorem k_X2_pairObject {l : Launch} {D : va_G} {ad : Nat → Nat} {cI cJ cZ cO : ClassId} {t : Nat} {A : Nat → Prop} {N : Nat} {σ : zS} {v1 : Int32} {r : Int32}  (hm : m_X2_pairObject N σ v1 = some r) : zCi l yX2_pairObject cX2_pairObject 2 (some .int) (zR 0 0) D zclX (zty cI cJ cZ cO) t A (zwX ad cI cJ cZ cO) [.ref (ad 4), .int v1] σ σ r := by
  refine zMi (by decide) (Nat.le_of_ble_eq_true rfl) ?_
  intro p e s m args below meth c Q hx hb hml hown hT hK hZ hret hP hD hS ls hl
  replace hown : s.vm.findClass RX2 = some m.cls := hown
  replace hl : lv_has ls 2 [(0, .ref (ad 4)), (1, .int v1)] := hl
  unfold m_X2_pairObject at hm
  refine lv_aload_n hx hb dX2_pairObject_0 rfl (lv_at hl 0 rfl) ?_
  refine zget (v := .ref (ad 13)) hx hb hT zinX2 hown hK hP 4 rfl rfl 4 (by decide) zw203 rfl dX2_pairObject_1 ?_
  refine lv_iload_n hx hb dX2_pairObject_4 rfl (lv_at hl 1 rfl) ?_
  obtain ⟨b1, eb1, hm⟩ := Option.bind_eq_some_iff.mp hm
  refine zlald hx hb hK hP 13 1 rfl rfl eb1 dX2_pairObject_5 ?_
  refine lv_ldc2 hx hb hown (hT _ zw479) dX2_pairObject_6 ?_
  refine lv_land hx hb dX2_pairObject_9 ?_
  refine lv_l2i (v := (b1 &&& (127 : Int64)).toInt32) hx hb dX2_pairObject_10 rfl ?_
  cases hm
  exact hret _ _ _ _ dX2_pairObject_11 hP hD hS
set_option maxHeartbeats 4000000 in
set_option maxRecDepth 100000 in
theorem k_X6_sumOf {l : Launch} {D : va_G} {ad : Nat → Nat} {cI cJ cZ cO : ClassId} {t : Nat} {A : Nat → Prop} {N : Nat} {σ : zS} {v1 : Int32} {v2 : Int32} {r : Int64}  (hm : m_X6_sumOf N σ v1 v2 = some r) : zCl l yX6_sumOf cX6_sumOf 7 (some .long) (zR 1 23) D zclX (zty cI cJ cZ cO) t A (zwX ad cI cJ cZ cO) [.ref (ad 1), .int v1, .int v2] σ σ r := by
  refine zMl (by decide) (Nat.le_of_ble_eq_true rfl) ?_
  intro p e s m args below meth c Q hx hb hml hown hT hK hZ hret hP hD hS ls hl
  replace hown : s.vm.findClass RX6 = some m.cls := hown
  replace hl : lv_has ls 7 [(0, .ref (ad 1)), (1, .int v1), (2, .int v2)] := hl
  have hL13 : ∀ (v5_2 : Int32), ∀ (q : Int64 × Int32) (r : Int64), ziter (fun q : Int64 × Int32 => m_X6_sumOf_L13 N σ v1 v2 v5_2 q.1 q.2) N q = some r → (∀ (H : Heap) (locs : List Loc) (ls : Array Slot), va_P D zclX (zwX ad cI cJ cZ cO σ) H → va_D A (zwX ad cI cJ cZ cO σ) → va_S A s.heap H locs → lv_has ls 7 [(3, .long r)] → W p l e (zR 1 23) s m args below meth c H locs 0 0 Q (F0 m 38 ls [])) → ∀ (H : Heap) (locs : List Loc) (ls : Array Slot), va_P D zclX (zwX ad cI cJ cZ cO σ) H → va_D A (zwX ad cI cJ cZ cO σ) → va_S A s.heap H locs → lv_has ls 7 [(0, .ref (ad 1)), (1, .int v1), (2, .int v2), (3, .long q.1), (5, .int v5_2), (6, .int q.2)] → W p l e (zR 1 23) s m args below meth c H locs 0 0 Q (F0 m 13 ls []) := by
    intro v5_2
    intro q r
    refine ziter_W (Hd := fun q : Int64 × Int32 => ∀ (H : Heap) (locs : List Loc) (ls : Array Slot), va_P D zclX (zwX ad cI cJ cZ cO σ) H → va_D A (zwX ad cI cJ cZ cO σ) → va_S A s.heap H locs → lv_has ls 7 [(0, .ref (ad 1)), (1, .int v1), (2, .int v2), (3, .long q.1), (5, .int v5_2), (6, .int q.2)] → W p l e (zR 1 23) s m args below meth c H locs 0 0 Q (F0 m 13 ls [])) (Ex := fun r : Int64 => ∀ (H : Heap) (locs : List Loc) (ls : Array Slot), va_P D zclX (zwX ad cI cJ cZ cO σ) H → va_D A (zwX ad cI cJ cZ cO σ) → va_S A s.heap H locs → lv_has ls 7 [(3, .long r)] → W p l e (zR 1 23) s m args below meth c H locs 0 0 Q (F0 m 38 ls [])) ?_ N q r
    rintro ⟨v3_2, v6_2⟩ res hm hk H locs ls hP hD hS hl
    try dsimp only at hP hD hl
    replace hm : m_X6_sumOf_L13 N σ v1 v2 v5_2 v3_2 v6_2 = some res := hm
    unfold m_X6_sumOf_L13 at hm
    refine lv_iload hx hb dX6_sumOf_13 (lv_at hl 5 rfl) ?_
    refine lv_iload hx hb dX6_sumOf_15 (lv_at hl 4 rfl) ?_
    refine lv_icmp_ge (tgt := 38) hx hb dX6_sumOf_17 (by decide) (fun h3 => ?_) (fun h3 => ?_)
    · rw [if_pos h3] at hm
      cases hm
      exact hk _ _ _ hP hD hS (lv_sub hl [3] rfl)
    · rw [if_neg h3] at hm
      refine lv_lload_n hx hb dX6_sumOf_20 rfl (lv_at hl 3 rfl) ?_
      refine lv_aload_n hx hb dX6_sumOf_21 rfl (lv_at hl 0 rfl) ?_
      refine lv_iload_n hx hb dX6_sumOf_22 rfl (lv_at hl 1 rfl) ?_
      refine lv_iload_n hx hb dX6_sumOf_23 rfl (lv_at hl 2 rfl) ?_
      refine lv_iload hx hb dX6_sumOf_24 (lv_at hl 5 rfl) ?_
      obtain ⟨b4, eb4, hm⟩ := Option.bind_eq_some_iff.mp hm
      refine zVi (rest := [.long v3_2]) [.int v1, .int v2, .int v6_2] hx hb hml hl.1 hown hT (k_X6_valueAt eb4) zkX6_valueAt zw387 ⟨by decide, by decide⟩ rfl rfl hK hZ hP hD hS 1 rfl rfl rfl rfl (Nat.le_of_ble_eq_true rfl) ⟨Nat.zero_le _, Nat.zero_le _⟩ dX6_sumOf_26 (fun H locs hP hD hS => ?_)
      refine lv_i2l (v := b4.toInt64) hx hb dX6_sumOf_29 rfl ?_
      refine lv_ladd hx hb dX6_sumOf_30 ?_
      refine lv_lstore_n (lv' := [(3, .long (v3_2 + b4.toInt64)), (0, .ref (ad 1)), (1, .int v1), (2, .int v2), (5, .int v5_2), (6, .int v6_2)]) hx hb dX6_sumOf_31 rfl hl (by decide) rfl (fun ls hl => ?_)
      refine lv_iinc (v := (v6_2 + (1 : Int32))) (lv' := [(6, .int (v6_2 + (1 : Int32))), (3, .long (v3_2 + b4.toInt64)), (0, .ref (ad 1)), (1, .int v1), (2, .int v2), (5, .int v5_2)]) hx hb dX6_sumOf_32 hl (k := 5) rfl rfl (by decide) rfl (fun ls hl => ?_)
      refine lv_goto (tgt := 13) hx hb dX6_sumOf_35 (by decide) ?_
      cases hm
      exact hk _ _ _ hP hD hS (lv_sub hl [2, 3, 4, 1, 5, 0] rfl)
  have h38 : ∀ (v3_7 : Int64), m_X6_sumOf_38 N σ v1 v2 v3_7 = some r → ∀ (H : Heap) (locs : List Loc) (ls : Array Slot), va_P D zclX (zwX ad cI cJ cZ cO σ) H → va_D A (zwX ad cI cJ cZ cO σ) → va_S A s.heap H locs → lv_has ls 7 [(3, .long v3_7)] → W p l e (zR 1 23) s m args below meth c H locs 0 0 Q (F0 m 38 ls []) := by
    intro v3_7 hm H locs ls hP hD hS hl
    unfold m_X6_sumOf_38 at hm
    refine lv_lload_n hx hb dX6_sumOf_38 rfl (lv_at hl 0 rfl) ?_
    cases hm
    exact hret _ _ _ _ dX6_sumOf_39 hP hD hS
  unfold m_X6_sumOf at hm
  refine lv_lconst (v := (0 : Int64)) hx hb dX6_sumOf_0 (by decide) ?_
  refine lv_lstore_n (lv' := [(3, .long (0 : Int64)), (0, .ref (ad 1)), (1, .int v1), (2, .int v2)]) hx hb dX6_sumOf_1 rfl hl (by decide) rfl (fun ls hl => ?_)
  refine lv_aload_n hx hb dX6_sumOf_2 rfl (lv_at hl 1 rfl) ?_
  refine lv_iload_n hx hb dX6_sumOf_3 rfl (lv_at hl 2 rfl) ?_
  refine lv_iload_n hx hb dX6_sumOf_4 rfl (lv_at hl 3 rfl) ?_
  obtain ⟨b1, eb1, hm⟩ := Option.bind_eq_some_iff.mp hm
  refine zVi (rest := []) [.int v1, .int v2] hx hb hml hl.1 hown hT (k_X6_valueCount eb1) zkX6_valueCount zw386 ⟨by decide, by decide⟩ rfl rfl hK hZ hP hD hS 1 rfl rfl rfl rfl (Nat.le_of_ble_eq_true rfl) ⟨Nat.zero_le _, Nat.zero_le _⟩ dX6_sumOf_5 (fun H locs hP hD hS => ?_)
  refine lv_istore (lv' := [(5, .int b1), (3, .long (0 : Int64)), (0, .ref (ad 1)), (1, .int v1), (2, .int v2)]) hx hb dX6_sumOf_8 hl (by decide) rfl (fun ls hl => ?_)
  refine lv_iconst (v := (0 : Int32)) hx hb dX6_sumOf_10 (by decide) ?_
  refine lv_istore (lv' := [(6, .int (0 : Int32)), (5, .int b1), (3, .long (0 : Int64)), (0, .ref (ad 1)), (1, .int v1), (2, .int v2)]) hx hb dX6_sumOf_11 hl (by decide) rfl (fun ls hl => ?_)
  obtain ⟨v3_6, e8, hm⟩ := Option.bind_eq_some_iff.mp hm
  refine hL13 b1 _ v3_6 e8 ?_ _ _ _ hP hD hS (lv_sub hl [3, 4, 5, 2, 1, 0] rfl)
  intro H locs ls hP hD hS hl
  try dsimp only at hP hD hl
  replace hm : m_X6_sumOf_38 N σ v1 v2 v3_6 = some r := hm
  exact h38 v3_6 hm _ _ _ hP hD hS (lv_sub hl [0] rfl)
set_option maxHeartbeats 4000000 in
set_option maxRecDepth 100000 in
theorem k_X2_weight {l : Launch} {D : va_G} {ad : Nat → Nat} {cI cJ cZ cO : ClassId} {t : Nat} {A : Nat → Prop} {N : Nat} {σ : zS} {k : Nat} {v3 : Int32} {r : Int64} (hkf : k < 10) (hm : m_X2_weight N σ k v3 = some r) : zCl l yX2_weight cX2_weight 7 (some .long) (zR 2 49) D zclX (zty cI cJ cZ cO) t A (zwX ad cI cJ cZ cO) [.ref (ad 4), .ref (ad (20 + k)), .ref (ad 1), .int v3] σ σ r := by
  refine zMl (by decide) (Nat.le_of_ble_eq_true rfl) ?_
  intro p e s m args below meth c Q hx hb hml hown hT hK hZ hret hP hD hS ls hl
  replace hown : s.vm.findClass RX2 = some m.cls := hown
  replace hl : lv_has ls 7 [(0, .ref (ad 4)), (1, .ref (ad (20 + k))), (2, .ref (ad 1)), (3, .int v3)] := hl
  have hL41 : ∀ (q : Int64 × Int32) (r : Int64), ziter (fun q : Int64 × Int32 => m_X2_weight_L41 N σ k v3 q.1 q.2) N q = some r → (∀ (H : Heap) (locs : List Loc) (ls : Array Slot), va_P D zclX (zwX ad cI cJ cZ cO σ) H → va_D A (zwX ad cI cJ cZ cO σ) → va_S A s.heap H locs → lv_has ls 7 [(4, .long r)] → W p l e (zR 2 49) s m args below meth c H locs 0 0 Q (F0 m 77 ls [])) → ∀ (H : Heap) (locs : List Loc) (ls : Array Slot), va_P D zclX (zwX ad cI cJ cZ cO σ) H → va_D A (zwX ad cI cJ cZ cO σ) → va_S A s.heap H locs → lv_has ls 7 [(0, .ref (ad 4)), (1, .ref (ad (20 + k))), (2, .ref (ad 1)), (3, .int v3), (4, .long q.1), (6, .int q.2)] → W p l e (zR 2 49) s m args below meth c H locs 0 0 Q (F0 m 41 ls []) := by
    intro q r
    refine ziter_W (Hd := fun q : Int64 × Int32 => ∀ (H : Heap) (locs : List Loc) (ls : Array Slot), va_P D zclX (zwX ad cI cJ cZ cO σ) H → va_D A (zwX ad cI cJ cZ cO σ) → va_S A s.heap H locs → lv_has ls 7 [(0, .ref (ad 4)), (1, .ref (ad (20 + k))), (2, .ref (ad 1)), (3, .int v3), (4, .long q.1), (6, .int q.2)] → W p l e (zR 2 49) s m args below meth c H locs 0 0 Q (F0 m 41 ls [])) (Ex := fun r : Int64 => ∀ (H : Heap) (locs : List Loc) (ls : Array Slot), va_P D zclX (zwX ad cI cJ cZ cO σ) H → va_D A (zwX ad cI cJ cZ cO σ) → va_S A s.heap H locs → lv_has ls 7 [(4, .long r)] → W p l e (zR 2 49) s m args below meth c H locs 0 0 Q (F0 m 77 ls [])) ?_ N q r
    rintro ⟨v4_4, v6_4⟩ res hm hk H locs ls hP hD hS hl
    try dsimp only at hP hD hl
    replace hm : m_X2_weight_L41 N σ k v3 v4_4 v6_4 = some res := hm
    unfold m_X2_weight_L41 at hm
    refine lv_iload hx hb dX2_weight_41 (lv_at hl 5 rfl) ?_
    refine lv_aload_n hx hb dX2_weight_43 rfl (lv_at hl 0 rfl) ?_
    refine zget (v := .ref (ad 16)) hx hb hT zinX2 hown hK hP 4 rfl rfl 7 (by decide) zw206 rfl dX2_weight_44 ?_
    refine lv_iload_n hx hb dX2_weight_47 rfl (lv_at hl 3 rfl) ?_
    obtain ⟨b5, eb5, hm⟩ := Option.bind_eq_some_iff.mp hm
    refine ziald hx hb hK hP 16 0 rfl rfl eb5 dX2_weight_48 ?_
    refine lv_icmp_ge (tgt := 77) hx hb dX2_weight_49 (by decide) (fun h6 => ?_) (fun h6 => ?_)
    · rw [if_pos h6] at hm
      cases hm
      exact hk _ _ _ hP hD hS (lv_sub hl [4] rfl)
    · rw [if_neg h6] at hm
      refine lv_lload hx hb dX2_weight_52 (lv_at hl 4 rfl) ?_
      refine lv_aload_n hx hb dX2_weight_54 rfl (lv_at hl 2 rfl) ?_
      refine lv_aload_n hx hb dX2_weight_55 rfl (lv_at hl 0 rfl) ?_
      refine lv_iload hx hb dX2_weight_56 (lv_at hl 5 rfl) ?_
      obtain ⟨b7, eb7, hm⟩ := Option.bind_eq_some_iff.mp hm
      refine zVi (rest := [.ref (ad 1), .long v4_4]) [.int v6_4] hx hb hml hl.1 hown hT (k_X2_pairObject eb7) zkX2_pairObject zw475 ⟨by decide, by decide⟩ rfl rfl hK hZ hP hD hS 4 rfl rfl rfl rfl (Nat.le_of_ble_eq_true rfl) ⟨Nat.zero_le _, Nat.zero_le _⟩ dX2_weight_58 (fun H locs hP hD hS => ?_)
      refine lv_aload_n hx hb dX2_weight_61 rfl (lv_at hl 1 rfl) ?_
      refine zget (v := .int (σ.1 (18 + 12 * k))) hx hb hT zinX1 hown hK hP (20 + k) (zF_obj hkf) rfl 10 (by decide) zw141 rfl dX2_weight_62 ?_
      obtain ⟨b8, eb8, hm⟩ := Option.bind_eq_some_iff.mp hm
      refine zVl (rest := [.long v4_4]) [.int b7, .int (σ.1 (18 + 12 * k))] hx hb hml hl.1 hown hT (k_X6_sumOf eb8) zkX6_sumOf zw480 ⟨by decide, by decide⟩ rfl rfl hK hZ hP hD hS 1 rfl rfl rfl rfl (Nat.le_of_ble_eq_true rfl) ⟨Nat.zero_le _, Nat.zero_le _⟩ dX2_weight_65 (fun H locs hP hD hS => ?_)
      refine lv_ladd hx hb dX2_weight_68 ?_
      refine lv_lstore (lv' := [(4, .long (v4_4 + b8)), (0, .ref (ad 4)), (1, .ref (ad (20 + k))), (2, .ref (ad 1)), (3, .int v3), (6, .int v6_4)]) hx hb dX2_weight_69 hl (by decide) rfl (fun ls hl => ?_)
      refine lv_iinc (v := (v6_4 + (1 : Int32))) (lv' := [(6, .int (v6_4 + (1 : Int32))), (4, .long (v4_4 + b8)), (0, .ref (ad 4)), (1, .ref (ad (20 + k))), (2, .ref (ad 1)), (3, .int v3)]) hx hb dX2_weight_71 hl (k := 5) rfl rfl (by decide) rfl (fun ls hl => ?_)
      refine lv_goto (tgt := 41) hx hb dX2_weight_74 (by decide) ?_
      cases hm
      exact hk _ _ _ hP hD hS (lv_sub hl [2, 3, 4, 5, 1, 0] rfl)
  have h77 : ∀ (v4_11 : Int64), m_X2_weight_77 N σ k v3 v4_11 = some r → ∀ (H : Heap) (locs : List Loc) (ls : Array Slot), va_P D zclX (zwX ad cI cJ cZ cO σ) H → va_D A (zwX ad cI cJ cZ cO σ) → va_S A s.heap H locs → lv_has ls 7 [(4, .long v4_11)] → W p l e (zR 2 49) s m args below meth c H locs 0 0 Q (F0 m 77 ls []) := by
    intro v4_11 hm H locs ls hP hD hS hl
    unfold m_X2_weight_77 at hm
    refine lv_lload hx hb dX2_weight_77 (lv_at hl 0 rfl) ?_
    cases hm
    exact hret _ _ _ _ dX2_weight_79 hP hD hS
  unfold m_X2_weight at hm
  refine lv_aload_n hx hb dX2_weight_0 rfl (lv_at hl 1 rfl) ?_
  refine zget (v := .int (σ.1 (17 + 12 * k))) hx hb hT zinX1 hown hK hP (20 + k) (zF_obj hkf) rfl 9 (by decide) zw138 rfl dX2_weight_1 ?_
  refine lv_if_ne (tgt := 22) hx hb dX2_weight_4 (by decide) (fun h1 => ?_) (fun h1 => ?_)
  · rw [if_neg h1] at hm
    refine lv_lconst (v := (0 : Int64)) hx hb dX2_weight_22 (by decide) ?_
    refine lv_lstore (lv' := [(4, .long (0 : Int64)), (0, .ref (ad 4)), (1, .ref (ad (20 + k))), (2, .ref (ad 1)), (3, .int v3)]) hx hb dX2_weight_23 hl (by decide) rfl (fun ls hl => ?_)
    refine lv_aload_n hx hb dX2_weight_25 rfl (lv_at hl 2 rfl) ?_
    refine zget (v := .int (σ.1 (17 + 12 * k))) hx hb hT zinX1 hown hK hP (20 + k) (zF_obj hkf) rfl 9 (by decide) zw138 rfl dX2_weight_26 ?_
    refine lv_iconst (v := (2 : Int32)) hx hb dX2_weight_29 (by decide) ?_
    refine lv_icmp_ne (tgt := 77) hx hb dX2_weight_30 (by decide) (fun h2 => ?_) (fun h2 => ?_)
    · rw [if_neg h2] at hm
      refine lv_lload hx hb dX2_weight_77 (lv_at hl 0 rfl) ?_
      cases hm
      exact hret _ _ _ _ dX2_weight_79 hP hD hS
    · rw [if_pos h2] at hm
      refine lv_aload_n hx hb dX2_weight_33 rfl (lv_at hl 1 rfl) ?_
      refine zget (v := .ref (ad 15)) hx hb hT zinX2 hown hK hP 4 rfl rfl 6 (by decide) zw205 rfl dX2_weight_34 ?_
      refine lv_iload_n hx hb dX2_weight_37 rfl (lv_at hl 4 rfl) ?_
      obtain ⟨b3, eb3, hm⟩ := Option.bind_eq_some_iff.mp hm
      refine ziald hx hb hK hP 15 0 rfl rfl eb3 dX2_weight_38 ?_
      refine lv_istore (lv' := [(6, .int b3), (4, .long (0 : Int64)), (0, .ref (ad 4)), (1, .ref (ad (20 + k))), (2, .ref (ad 1)), (3, .int v3)]) hx hb dX2_weight_39 hl (by decide) rfl (fun ls hl => ?_)
      obtain ⟨v4_10, e12, hm⟩ := Option.bind_eq_some_iff.mp hm
      refine hL41  _ v4_10 e12 ?_ _ _ _ hP hD hS (lv_sub hl [2, 3, 4, 5, 1, 0] rfl)
      intro H locs ls hP hD hS hl
      try dsimp only at hP hD hl
      replace hm : m_X2_weight_77 N σ k v3 v4_10 = some r := hm
      exact h77 v4_10 hm _ _ _ hP hD hS (lv_sub hl [0] rfl)
  · rw [if_pos h1] at hm
    refine lv_aload_n hx hb dX2_weight_7 rfl (lv_at hl 0 rfl) ?_
    refine zget (v := .ref (ad 16)) hx hb hT zinX2 hown hK hP 4 rfl rfl 7 (by decide) zw206 rfl dX2_weight_8 ?_
    refine lv_iload_n hx hb dX2_weight_11 rfl (lv_at hl 3 rfl) ?_
    obtain ⟨b13, eb13, hm⟩ := Option.bind_eq_some_iff.mp hm
    refine ziald hx hb hK hP 16 0 rfl rfl eb13 dX2_weight_12 ?_
    refine lv_aload_n hx hb dX2_weight_13 rfl (lv_at hl 0 rfl) ?_
    refine zget (v := .ref (ad 15)) hx hb hT zinX2 hown hK hP 4 rfl rfl 6 (by decide) zw205 rfl dX2_weight_14 ?_
    refine lv_iload_n hx hb dX2_weight_17 rfl (lv_at hl 3 rfl) ?_
    obtain ⟨b14, eb14, hm⟩ := Option.bind_eq_some_iff.mp hm
    refine ziald hx hb hK hP 15 0 rfl rfl eb14 dX2_weight_18 ?_
    refine lv_isub hx hb dX2_weight_19 ?_
    refine lv_i2l (v := (b13 - b14).toInt64) hx hb dX2_weight_20 rfl ?_
    cases hm
    exact hret _ _ _ _ dX2_weight_21 hP hD hS
set_option maxHeartbeats 4000000 in
set_option maxRecDepth 100000 in
theorem k_X2_rank {l : Launch} {D : va_G} {ad : Nat → Nat} {cI cJ cZ cO : ClassId} {t : Nat} {A : Nat → Prop} {N : Nat} {σ σ' : zS} {k : Nat}  (hkf : k < 10) (hm : m_X2_rank N σ k = some σ') : zCv l yX2_rank cX2_rank 4 (none) (zR 3 85) D zclX (zty cI cJ cZ cO) t A (zwX ad cI cJ cZ cO) [.ref (ad 4), .ref (ad (20 + k)), .ref (ad 1)] σ σ' := by
  refine zMv (by decide) (Nat.le_of_ble_eq_true rfl) ?_
  intro p e s m args below meth c Q hx hb hml hown hT hK hZ hret hP hD hS ls hl
  replace hown : s.vm.findClass RX2 = some m.cls := hown
  replace hl : lv_has ls 4 [(0, .ref (ad 4)), (1, .ref (ad (20 + k))), (2, .ref (ad 1))] := hl
  have hL2 : ∀ (q : zS × Int32) (r : zS), ziter (fun q : zS × Int32 => m_X2_rank_L2 N k q.1 q.2) N q = some r → (∀ (H : Heap) (locs : List Loc) (ls : Array Slot), va_P D zclX (zwX ad cI cJ cZ cO r) H → va_D A (zwX ad cI cJ cZ cO r) → va_S A s.heap H locs → lv_has ls 4 [(0, .ref (ad 4))] → W p l e (zR 3 85) s m args below meth c H locs 0 0 Q (F0 m 35 ls [])) → ∀ (H : Heap) (locs : List Loc) (ls : Array Slot), va_P D zclX (zwX ad cI cJ cZ cO q.1) H → va_D A (zwX ad cI cJ cZ cO q.1) → va_S A s.heap H locs → lv_has ls 4 [(0, .ref (ad 4)), (1, .ref (ad (20 + k))), (2, .ref (ad 1)), (3, .int q.2)] → W p l e (zR 3 85) s m args below meth c H locs 0 0 Q (F0 m 2 ls []) := by
    intro q r
    refine ziter_W (Hd := fun q : zS × Int32 => ∀ (H : Heap) (locs : List Loc) (ls : Array Slot), va_P D zclX (zwX ad cI cJ cZ cO q.1) H → va_D A (zwX ad cI cJ cZ cO q.1) → va_S A s.heap H locs → lv_has ls 4 [(0, .ref (ad 4)), (1, .ref (ad (20 + k))), (2, .ref (ad 1)), (3, .int q.2)] → W p l e (zR 3 85) s m args below meth c H locs 0 0 Q (F0 m 2 ls [])) (Ex := fun r : zS => ∀ (H : Heap) (locs : List Loc) (ls : Array Slot), va_P D zclX (zwX ad cI cJ cZ cO r) H → va_D A (zwX ad cI cJ cZ cO r) → va_S A s.heap H locs → lv_has ls 4 [(0, .ref (ad 4))] → W p l e (zR 3 85) s m args below meth c H locs 0 0 Q (F0 m 35 ls [])) ?_ N q r
    rintro ⟨σ1, v3_1⟩ res hm hk H locs ls hP hD hS hl
    try dsimp only at hP hD hl
    replace hm : m_X2_rank_L2 N k σ1 v3_1 = some res := hm
    unfold m_X2_rank_L2 at hm
    refine lv_iload_n hx hb dX2_rank_2 rfl (lv_at hl 3 rfl) ?_
    refine lv_aload_n hx hb dX2_rank_3 rfl (lv_at hl 0 rfl) ?_
    refine zget (v := .int (σ1.1 5)) hx hb hT zinX2 hown hK hP 4 rfl rfl 0 (by decide) zw198 rfl dX2_rank_4 ?_
    refine lv_icmp_ge (tgt := 35) hx hb dX2_rank_7 (by decide) (fun h2 => ?_) (fun h2 => ?_)
    · rw [if_pos h2] at hm
      cases hm
      exact hk _ _ _ hP hD hS (lv_sub hl [0] rfl)
    · rw [if_neg h2] at hm
      refine lv_aload_n hx hb dX2_rank_10 rfl (lv_at hl 0 rfl) ?_
      refine zget (v := .ref (ad 17)) hx hb hT zinX2 hown hK hP 4 rfl rfl 8 (by decide) zw207 rfl dX2_rank_11 ?_
      refine lv_iload_n hx hb dX2_rank_14 rfl (lv_at hl 3 rfl) ?_
      refine lv_iload_n hx hb dX2_rank_15 rfl (lv_at hl 3 rfl) ?_
      refine lv_i2l (v := v3_1.toInt64) hx hb dX2_rank_16 rfl ?_
      refine lv_aload_n hx hb dX2_rank_17 rfl (lv_at hl 0 rfl) ?_
      refine lv_aload_n hx hb dX2_rank_18 rfl (lv_at hl 1 rfl) ?_
      refine lv_aload_n hx hb dX2_rank_19 rfl (lv_at hl 2 rfl) ?_
      refine lv_iload_n hx hb dX2_rank_20 rfl (lv_at hl 3 rfl) ?_
      obtain ⟨b3, eb3, hm⟩ := Option.bind_eq_some_iff.mp hm
      refine zVl (rest := [.long v3_1.toInt64, .int v3_1, .ref (ad 17)]) [.ref (ad (20 + k)), .ref (ad 1), .int v3_1] hx hb hml hl.1 hown hT (k_X2_weight hkf eb3) zkX2_weight zw471 ⟨by decide, by decide⟩ rfl rfl hK hZ hP hD hS 4 rfl rfl rfl rfl (Nat.le_of_ble_eq_true rfl) ⟨Nat.zero_le _, Nat.zero_le _⟩ dX2_rank_21 (fun H locs hP hD hS => ?_)
      refine lv_bipush (v := (11 : Int32)) hx hb dX2_rank_24 (by decide) ?_
      refine lv_lshl (v := (b3 <<< ((11 : Int32).toInt64 &&& 63))) hx hb dX2_rank_26 rfl ?_
      refine lv_lsub hx hb dX2_rank_27 ?_
      obtain ⟨σ4, eσ4, hm⟩ := Option.bind_eq_some_iff.mp hm
      refine zlast (j := 2) hx hb hK hP hD hS 17 1 rfl rfl eσ4 (fun _ => rfl) dX2_rank_28 (fun H locs hP hD hS => ?_)
      refine lv_iinc (v := (v3_1 + (1 : Int32))) (lv' := [(3, .int (v3_1 + (1 : Int32))), (0, .ref (ad 4)), (1, .ref (ad (20 + k))), (2, .ref (ad 1))]) hx hb dX2_rank_29 hl (k := 3) rfl rfl (by decide) rfl (fun ls hl => ?_)
      refine lv_goto (tgt := 2) hx hb dX2_rank_32 (by decide) ?_
      cases hm
      exact hk _ _ _ hP hD hS (lv_sub hl [1, 2, 3, 0] rfl)
  have h63 : ∀ (σ10 : zS) (x0_10 : Int32), m_X2_rank_63 N k σ10 x0_10 = some σ' → ∀ (H : Heap) (locs : List Loc) (ls : Array Slot), va_P D zclX (zwX ad cI cJ cZ cO σ10) H → va_D A (zwX ad cI cJ cZ cO σ10) → va_S A s.heap H locs → lv_has ls 4 [(0, .ref (ad 4))] → W p l e (zR 3 85) s m args below meth c H locs 0 0 Q (F0 m 63 ls [.int x0_10]) := by
    intro σ10 x0_10 hm H locs ls hP hD hS hl
    unfold m_X2_rank_63 at hm
    refine lv_istore_n (lv' := [(3, .int x0_10), (0, .ref (ad 4))]) hx hb dX2_rank_63 rfl hl (by decide) rfl (fun ls hl => ?_)
    refine lv_aload_n hx hb dX2_rank_64 rfl (lv_at hl 1 rfl) ?_
    refine zget (v := .ref (ad 7)) hx hb hT zinX2 hown hK hP 4 rfl rfl 2 (by decide) zw201 rfl dX2_rank_65 ?_
    refine lv_aload_n hx hb dX2_rank_68 rfl (lv_at hl 1 rfl) ?_
    refine zget (v := .ref (ad 17)) hx hb hT zinX2 hown hK hP 4 rfl rfl 8 (by decide) zw207 rfl dX2_rank_69 ?_
    refine lv_iload_n hx hb dX2_rank_72 rfl (lv_at hl 0 rfl) ?_
    refine lv_if_eq (tgt := 85) hx hb dX2_rank_73 (by decide) (fun h11 => ?_) (fun h11 => ?_)
    · rw [if_pos h11] at hm
      refine lv_aload_n hx hb dX2_rank_85 rfl (lv_at hl 1 rfl) ?_
      refine zget (v := .int (σ10.1 5)) hx hb hT zinX2 hown hK hP 4 rfl rfl 0 (by decide) zw198 rfl dX2_rank_86 ?_
      obtain ⟨σ12, eσ12, hm⟩ := Option.bind_eq_some_iff.mp hm
      refine zVv (rest := []) [.ref (ad 17), .int (σ10.1 5)] hx hb hml hl.1 hown hT (k_X5_sort (by decide) eσ12) zkX5_sort zw443 ⟨by decide, by decide⟩ rfl rfl hK hZ hP hD hS 7 rfl rfl rfl rfl (Nat.le_of_ble_eq_true rfl) ⟨Nat.zero_le _, Nat.zero_le _⟩ dX2_rank_89 (fun H locs hP hD hS => ?_)
      cases hm
      exact hret _ _ _ _ dX2_rank_92 hP hD hS
    · rw [if_neg h11] at hm
      refine lv_aload_n hx hb dX2_rank_76 rfl (lv_at hl 1 rfl) ?_
      refine zget (v := .int (σ10.1 5)) hx hb hT zinX2 hown hK hP 4 rfl rfl 0 (by decide) zw198 rfl dX2_rank_77 ?_
      refine lv_iconst (v := (1 : Int32)) hx hb dX2_rank_80 (by decide) ?_
      refine lv_isub hx hb dX2_rank_81 ?_
      refine lv_goto (tgt := 89) hx hb dX2_rank_82 (by decide) ?_
      obtain ⟨σ13, eσ13, hm⟩ := Option.bind_eq_some_iff.mp hm
      refine zVv (rest := []) [.ref (ad 17), .int ((σ10.1 5) - (1 : Int32))] hx hb hml hl.1 hown hT (k_X5_sort (by decide) eσ13) zkX5_sort zw443 ⟨by decide, by decide⟩ rfl rfl hK hZ hP hD hS 7 rfl rfl rfl rfl (Nat.le_of_ble_eq_true rfl) ⟨Nat.zero_le _, Nat.zero_le _⟩ dX2_rank_89 (fun H locs hP hD hS => ?_)
      cases hm
      exact hret _ _ _ _ dX2_rank_92 hP hD hS
  have h62 : ∀ (σ9 : zS), m_X2_rank_62 N k σ9 = some σ' → ∀ (H : Heap) (locs : List Loc) (ls : Array Slot), va_P D zclX (zwX ad cI cJ cZ cO σ9) H → va_D A (zwX ad cI cJ cZ cO σ9) → va_S A s.heap H locs → lv_has ls 4 [(0, .ref (ad 4))] → W p l e (zR 3 85) s m args below meth c H locs 0 0 Q (F0 m 62 ls []) := by
    intro σ9 hm H locs ls hP hD hS hl
    unfold m_X2_rank_62 at hm
    refine lv_iconst (v := (0 : Int32)) hx hb dX2_rank_62 (by decide) ?_
    exact h63 σ9 (0 : Int32) hm _ _ _ hP hD hS (lv_sub hl [0] rfl)
  have h35 : ∀ (σ7 : zS), m_X2_rank_35 N k σ7 = some σ' → ∀ (H : Heap) (locs : List Loc) (ls : Array Slot), va_P D zclX (zwX ad cI cJ cZ cO σ7) H → va_D A (zwX ad cI cJ cZ cO σ7) → va_S A s.heap H locs → lv_has ls 4 [(0, .ref (ad 4))] → W p l e (zR 3 85) s m args below meth c H locs 0 0 Q (F0 m 35 ls []) := by
    intro σ7 hm H locs ls hP hD hS hl
    unfold m_X2_rank_35 at hm
    refine lv_aload_n hx hb dX2_rank_35 rfl (lv_at hl 0 rfl) ?_
    refine zget (v := .int (σ7.1 5)) hx hb hT zinX2 hown hK hP 4 rfl rfl 0 (by decide) zw198 rfl dX2_rank_36 ?_
    refine lv_if_le (tgt := 62) hx hb dX2_rank_39 (by decide) (fun h8 => ?_) (fun h8 => ?_)
    · rw [if_pos h8] at hm
      exact h62 σ7 hm _ _ _ hP hD hS (lv_sub hl [0] rfl)
    · rw [if_neg h8] at hm
      refine lv_aload_n hx hb dX2_rank_42 rfl (lv_at hl 0 rfl) ?_
      refine zget (v := .ref (ad 14)) hx hb hT zinX2 hown hK hP 4 rfl rfl 5 (by decide) zw204 rfl dX2_rank_43 ?_
      refine lv_aload_n hx hb dX2_rank_46 rfl (lv_at hl 0 rfl) ?_
      refine zget (v := .int (σ7.1 5)) hx hb hT zinX2 hown hK hP 4 rfl rfl 0 (by decide) zw198 rfl dX2_rank_47 ?_
      refine lv_iconst (v := (1 : Int32)) hx hb dX2_rank_50 (by decide) ?_
      refine lv_isub hx hb dX2_rank_51 ?_
      obtain ⟨b14, eb14, hm⟩ := Option.bind_eq_some_iff.mp hm
      refine ziald hx hb hK hP 14 0 rfl rfl eb14 dX2_rank_52 ?_
      refine lv_ldc hx hb hown (hT _ zw442) dX2_rank_53 ?_
      refine lv_icmp_ne (tgt := 62) hx hb dX2_rank_55 (by decide) (fun h15 => ?_) (fun h15 => ?_)
      · rw [if_neg h15] at hm
        exact h62 σ7 hm _ _ _ hP hD hS (lv_sub hl [0] rfl)
      · rw [if_pos h15] at hm
        refine lv_iconst (v := (1 : Int32)) hx hb dX2_rank_58 (by decide) ?_
        refine lv_goto (tgt := 63) hx hb dX2_rank_59 (by decide) ?_
        exact h63 σ7 (1 : Int32) hm _ _ _ hP hD hS (lv_sub hl [0] rfl)
  unfold m_X2_rank at hm
  refine lv_iconst (v := (0 : Int32)) hx hb dX2_rank_0 (by decide) ?_
  refine lv_istore_n (lv' := [(3, .int (0 : Int32)), (0, .ref (ad 4)), (1, .ref (ad (20 + k))), (2, .ref (ad 1))]) hx hb dX2_rank_1 rfl hl (by decide) rfl (fun ls hl => ?_)
  obtain ⟨σ6, e16, hm⟩ := Option.bind_eq_some_iff.mp hm
  refine hL2  _ σ6 e16 ?_ _ _ _ hP hD hS (lv_sub hl [1, 2, 3, 0] rfl)
  intro H locs ls hP hD hS hl
  try dsimp only at hP hD hl
  replace hm : m_X2_rank_35 N k σ6 = some σ' := hm
  exact h35 σ6 hm _ _ _ hP hD hS (lv_sub hl [0] rfl)
set_option maxHeartbeats 4000000 in
set_option maxRecDepth 100000 in
theorem k_X2_groupAt {l : Launch} {D : va_G} {ad : Nat → Nat} {cI cJ cZ cO : ClassId} {t : Nat} {A : Nat → Prop} {N : Nat} {σ : zS} {v1 : Int32} {r : Int32}  (hm : m_X2_groupAt N σ v1 = some r) : zCi l yX2_groupAt cX2_groupAt 2 (some .int) (zR 0 0) D zclX (zty cI cJ cZ cO) t A (zwX ad cI cJ cZ cO) [.ref (ad 4), .int v1] σ σ r := by
  refine zMi (by decide) (Nat.le_of_ble_eq_true rfl) ?_
  intro p e s m args below meth c Q hx hb hml hown hT hK hZ hret hP hD hS ls hl
  replace hown : s.vm.findClass RX2 = some m.cls := hown
  replace hl : lv_has ls 2 [(0, .ref (ad 4)), (1, .int v1)] := hl
  unfold m_X2_groupAt at hm
  refine lv_aload_n hx hb dX2_groupAt_0 rfl (lv_at hl 0 rfl) ?_
  refine zget (v := .ref (ad 17)) hx hb hT zinX2 hown hK hP 4 rfl rfl 8 (by decide) zw207 rfl dX2_groupAt_1 ?_
  refine lv_iload_n hx hb dX2_groupAt_4 rfl (lv_at hl 1 rfl) ?_
  obtain ⟨b1, eb1, hm⟩ := Option.bind_eq_some_iff.mp hm
  refine zlald hx hb hK hP 17 1 rfl rfl eb1 dX2_groupAt_5 ?_
  refine lv_ldc2 hx hb hown (hT _ zw504) dX2_groupAt_6 ?_
  refine lv_land hx hb dX2_groupAt_9 ?_
  refine lv_l2i (v := (b1 &&& (2047 : Int64)).toInt32) hx hb dX2_groupAt_10 rfl ?_
  cases hm
  exact hret _ _ _ _ dX2_groupAt_11 hP hD hS
set_option maxHeartbeats 4000000 in
set_option maxRecDepth 100000 in
theorem k_X2_has {l : Launch} {D : va_G} {ad : Nat → Nat} {cI cJ cZ cO : ClassId} {t : Nat} {A : Nat → Prop} {N : Nat} {σ : zS} {v1 : Int32} {r : Int32}  (hm : m_X2_has N σ v1 = some r) : zCi l yX2_has cX2_has 2 (some .boolean) (zR 0 0) D zclX (zty cI cJ cZ cO) t A (zwX ad cI cJ cZ cO) [.ref (ad 4), .int v1] σ σ r := by
  refine zMz (by decide) (Nat.le_of_ble_eq_true rfl) ?_
  intro p e s m args below meth c Q hx hb hml hown hT hK hZ hret hP hD hS ls hl
  replace hown : s.vm.findClass RX2 = some m.cls := hown
  replace hl : lv_has ls 2 [(0, .ref (ad 4)), (1, .int v1)] := hl
  unfold m_X2_has at hm
  refine lv_iload_n hx hb dX2_has_0 rfl (lv_at hl 1 rfl) ?_
  refine lv_if_lt (tgt := 16) hx hb dX2_has_1 (by decide) (fun h1 => ?_) (fun h1 => ?_)
  · rw [if_pos h1] at hm
    refine lv_iconst (v := (0 : Int32)) hx hb dX2_has_16 (by decide) ?_
    cases hm
    exact hret _ _ _ _ (by decide) dX2_has_17 hP hD hS
  · rw [if_neg h1] at hm
    refine lv_iload_n hx hb dX2_has_4 rfl (lv_at hl 1 rfl) ?_
    refine lv_aload_n hx hb dX2_has_5 rfl (lv_at hl 0 rfl) ?_
    refine zget (v := .int (σ.1 5)) hx hb hT zinX2 hown hK hP 4 rfl rfl 0 (by decide) zw198 rfl dX2_has_6 ?_
    refine lv_icmp_ge (tgt := 16) hx hb dX2_has_9 (by decide) (fun h2 => ?_) (fun h2 => ?_)
    · rw [if_pos h2] at hm
      refine lv_iconst (v := (0 : Int32)) hx hb dX2_has_16 (by decide) ?_
      cases hm
      exact hret _ _ _ _ (by decide) dX2_has_17 hP hD hS
    · rw [if_neg h2] at hm
      refine lv_iconst (v := (1 : Int32)) hx hb dX2_has_12 (by decide) ?_
      refine lv_goto (tgt := 17) hx hb dX2_has_13 (by decide) ?_
      cases hm
      exact hret _ _ _ _ (by decide) dX2_has_17 hP hD hS
set_option maxHeartbeats 4000000 in
set_option maxRecDepth 100000 in
theorem k_X2_isMissing {l : Launch} {D : va_G} {ad : Nat → Nat} {cI cJ cZ cO : ClassId} {t : Nat} {A : Nat → Prop} {N : Nat} {σ : zS} {v1 : Int32} {r : Int32}  (hm : m_X2_isMissing N σ v1 = some r) : zCi l yX2_isMissing cX2_isMissing 2 (some .boolean) (zR 1 21) D zclX (zty cI cJ cZ cO) t A (zwX ad cI cJ cZ cO) [.ref (ad 4), .int v1] σ σ r := by
  refine zMz (by decide) (Nat.le_of_ble_eq_true rfl) ?_
  intro p e s m args below meth c Q hx hb hml hown hT hK hZ hret hP hD hS ls hl
  replace hown : s.vm.findClass RX2 = some m.cls := hown
  replace hl : lv_has ls 2 [(0, .ref (ad 4)), (1, .int v1)] := hl
  unfold m_X2_isMissing at hm
  refine lv_aload_n hx hb dX2_isMissing_0 rfl (lv_at hl 0 rfl) ?_
  refine zget (v := .ref (ad 14)) hx hb hT zinX2 hown hK hP 4 rfl rfl 5 (by decide) zw204 rfl dX2_isMissing_1 ?_
  refine lv_aload_n hx hb dX2_isMissing_4 rfl (lv_at hl 0 rfl) ?_
  refine lv_iload_n hx hb dX2_isMissing_5 rfl (lv_at hl 1 rfl) ?_
  obtain ⟨b1, eb1, hm⟩ := Option.bind_eq_some_iff.mp hm
  refine zVi (rest := [.ref (ad 14)]) [.int v1] hx hb hml hl.1 hown hT (k_X2_groupAt eb1) zkX2_groupAt zw500 ⟨by decide, by decide⟩ rfl rfl hK hZ hP hD hS 4 rfl rfl rfl rfl (Nat.le_of_ble_eq_true rfl) ⟨Nat.zero_le _, Nat.zero_le _⟩ dX2_isMissing_6 (fun H locs hP hD hS => ?_)
  obtain ⟨b2, eb2, hm⟩ := Option.bind_eq_some_iff.mp hm
  refine ziald hx hb hK hP 14 0 rfl rfl eb2 dX2_isMissing_9 ?_
  refine lv_ldc hx hb hown (hT _ zw442) dX2_isMissing_10 ?_
  refine lv_icmp_ne (tgt := 19) hx hb dX2_isMissing_12 (by decide) (fun h3 => ?_) (fun h3 => ?_)
  · rw [if_neg h3] at hm
    refine lv_iconst (v := (0 : Int32)) hx hb dX2_isMissing_19 (by decide) ?_
    cases hm
    exact hret _ _ _ _ (by decide) dX2_isMissing_20 hP hD hS
  · rw [if_pos h3] at hm
    refine lv_iconst (v := (1 : Int32)) hx hb dX2_isMissing_15 (by decide) ?_
    refine lv_goto (tgt := 20) hx hb dX2_isMissing_16 (by decide) ?_
    cases hm
    exact hret _ _ _ _ (by decide) dX2_isMissing_20 hP hD hS
set_option maxHeartbeats 4000000 in
set_option maxRecDepth 100000 in
theorem k_X2_keyOf {l : Launch} {D : va_G} {ad : Nat → Nat} {cI cJ cZ cO : ClassId} {t : Nat} {A : Nat → Prop} {N : Nat} {σ : zS} {v1 : Int32} {r : Int32}  (hm : m_X2_keyOf N σ v1 = some r) : zCi l yX2_keyOf cX2_keyOf 2 (some .int) (zR 2 42) D zclX (zty cI cJ cZ cO) t A (zwX ad cI cJ cZ cO) [.ref (ad 4), .int v1] σ σ r := by
  refine zMi (by decide) (Nat.le_of_ble_eq_true rfl) ?_
  intro p e s m args below meth c Q hx hb hml hown hT hK hZ hret hP hD hS ls hl
  replace hown : s.vm.findClass RX2 = some m.cls := hown
  replace hl : lv_has ls 2 [(0, .ref (ad 4)), (1, .int v1)] := hl
  unfold m_X2_keyOf at hm
  refine lv_aload_n hx hb dX2_keyOf_0 rfl (lv_at hl 0 rfl) ?_
  refine lv_iload_n hx hb dX2_keyOf_1 rfl (lv_at hl 1 rfl) ?_
  obtain ⟨b1, eb1, hm⟩ := Option.bind_eq_some_iff.mp hm
  refine zVi (rest := []) [.int v1] hx hb hml hl.1 hown hT (k_X2_isMissing eb1) zkX2_isMissing zw496 ⟨by decide, by decide⟩ rfl rfl hK hZ hP hD hS 4 rfl rfl rfl rfl (Nat.le_of_ble_eq_true rfl) ⟨Nat.zero_le _, Nat.zero_le _⟩ dX2_keyOf_2 (fun H locs hP hD hS => ?_)
  refine lv_if_eq (tgt := 13) hx hb dX2_keyOf_5 (by decide) (fun h2 => ?_) (fun h2 => ?_)
  · rw [if_pos h2] at hm
    refine lv_aload_n hx hb dX2_keyOf_13 rfl (lv_at hl 0 rfl) ?_
    refine zget (v := .ref (ad 14)) hx hb hT zinX2 hown hK hP 4 rfl rfl 5 (by decide) zw204 rfl dX2_keyOf_14 ?_
    refine lv_aload_n hx hb dX2_keyOf_17 rfl (lv_at hl 0 rfl) ?_
    refine lv_iload_n hx hb dX2_keyOf_18 rfl (lv_at hl 1 rfl) ?_
    obtain ⟨b3, eb3, hm⟩ := Option.bind_eq_some_iff.mp hm
    refine zVi (rest := [.ref (ad 14)]) [.int v1] hx hb hml hl.1 hown hT (k_X2_groupAt eb3) zkX2_groupAt zw500 ⟨by decide, by decide⟩ rfl rfl hK hZ hP hD hS 4 rfl rfl rfl rfl (Nat.le_of_ble_eq_true rfl) ⟨Nat.zero_le _, Nat.zero_le _⟩ dX2_keyOf_19 (fun H locs hP hD hS => ?_)
    obtain ⟨b4, eb4, hm⟩ := Option.bind_eq_some_iff.mp hm
    refine ziald hx hb hK hP 14 0 rfl rfl eb4 dX2_keyOf_22 ?_
    cases hm
    exact hret _ _ _ _ dX2_keyOf_23 hP hD hS
  · rw [if_neg h2] at hm
    refine lv_ldc hx hb hown (hT _ zw505) dX2_keyOf_8 ?_
    refine lv_goto (tgt := 23) hx hb dX2_keyOf_10 (by decide) ?_
    cases hm
    exact hret _ _ _ _ dX2_keyOf_23 hP hD hS
set_option maxHeartbeats 4000000 in
set_option maxRecDepth 100000 in
theorem k_X2_sizeOf {l : Launch} {D : va_G} {ad : Nat → Nat} {cI cJ cZ cO : ClassId} {t : Nat} {A : Nat → Prop} {N : Nat} {σ : zS} {v1 : Int32} {r : Int32}  (hm : m_X2_sizeOf N σ v1 = some r) : zCi l yX2_sizeOf cX2_sizeOf 3 (some .int) (zR 1 21) D zclX (zty cI cJ cZ cO) t A (zwX ad cI cJ cZ cO) [.ref (ad 4), .int v1] σ σ r := by
  refine zMi (by decide) (Nat.le_of_ble_eq_true rfl) ?_
  intro p e s m args below meth c Q hx hb hml hown hT hK hZ hret hP hD hS ls hl
  replace hown : s.vm.findClass RX2 = some m.cls := hown
  replace hl : lv_has ls 3 [(0, .ref (ad 4)), (1, .int v1)] := hl
  unfold m_X2_sizeOf at hm
  refine lv_aload_n hx hb dX2_sizeOf_0 rfl (lv_at hl 0 rfl) ?_
  refine lv_iload_n hx hb dX2_sizeOf_1 rfl (lv_at hl 1 rfl) ?_
  obtain ⟨b1, eb1, hm⟩ := Option.bind_eq_some_iff.mp hm
  refine zVi (rest := []) [.int v1] hx hb hml hl.1 hown hT (k_X2_groupAt eb1) zkX2_groupAt zw500 ⟨by decide, by decide⟩ rfl rfl hK hZ hP hD hS 4 rfl rfl rfl rfl (Nat.le_of_ble_eq_true rfl) ⟨Nat.zero_le _, Nat.zero_le _⟩ dX2_sizeOf_2 (fun H locs hP hD hS => ?_)
  refine lv_istore_n (lv' := [(2, .int b1), (0, .ref (ad 4)), (1, .int v1)]) hx hb dX2_sizeOf_5 rfl hl (by decide) rfl (fun ls hl => ?_)
  refine lv_aload_n hx hb dX2_sizeOf_6 rfl (lv_at hl 1 rfl) ?_
  refine zget (v := .ref (ad 16)) hx hb hT zinX2 hown hK hP 4 rfl rfl 7 (by decide) zw206 rfl dX2_sizeOf_7 ?_
  refine lv_iload_n hx hb dX2_sizeOf_10 rfl (lv_at hl 0 rfl) ?_
  obtain ⟨b2, eb2, hm⟩ := Option.bind_eq_some_iff.mp hm
  refine ziald hx hb hK hP 16 0 rfl rfl eb2 dX2_sizeOf_11 ?_
  refine lv_aload_n hx hb dX2_sizeOf_12 rfl (lv_at hl 1 rfl) ?_
  refine zget (v := .ref (ad 15)) hx hb hT zinX2 hown hK hP 4 rfl rfl 6 (by decide) zw205 rfl dX2_sizeOf_13 ?_
  refine lv_iload_n hx hb dX2_sizeOf_16 rfl (lv_at hl 0 rfl) ?_
  obtain ⟨b3, eb3, hm⟩ := Option.bind_eq_some_iff.mp hm
  refine ziald hx hb hK hP 15 0 rfl rfl eb3 dX2_sizeOf_17 ?_
  refine lv_isub hx hb dX2_sizeOf_18 ?_
  cases hm
  exact hret _ _ _ _ dX2_sizeOf_19 hP hD hS
set_option maxHeartbeats 4000000 in
set_option maxRecDepth 100000 in
theorem k_X2_memberOf {l : Launch} {D : va_G} {ad : Nat → Nat} {cI cJ cZ cO : ClassId} {t : Nat} {A : Nat → Prop} {N : Nat} {σ : zS} {v1 : Int32} {v2 : Int32} {r : Int32}  (hm : m_X2_memberOf N σ v1 v2 = some r) : zCi l yX2_memberOf cX2_memberOf 3 (some .int) (zR 1 21) D zclX (zty cI cJ cZ cO) t A (zwX ad cI cJ cZ cO) [.ref (ad 4), .int v1, .int v2] σ σ r := by
  refine zMi (by decide) (Nat.le_of_ble_eq_true rfl) ?_
  intro p e s m args below meth c Q hx hb hml hown hT hK hZ hret hP hD hS ls hl
  replace hown : s.vm.findClass RX2 = some m.cls := hown
  replace hl : lv_has ls 3 [(0, .ref (ad 4)), (1, .int v1), (2, .int v2)] := hl
  unfold m_X2_memberOf at hm
  refine lv_aload_n hx hb dX2_memberOf_0 rfl (lv_at hl 0 rfl) ?_
  refine lv_aload_n hx hb dX2_memberOf_1 rfl (lv_at hl 0 rfl) ?_
  refine zget (v := .ref (ad 15)) hx hb hT zinX2 hown hK hP 4 rfl rfl 6 (by decide) zw205 rfl dX2_memberOf_2 ?_
  refine lv_aload_n hx hb dX2_memberOf_5 rfl (lv_at hl 0 rfl) ?_
  refine lv_iload_n hx hb dX2_memberOf_6 rfl (lv_at hl 1 rfl) ?_
  obtain ⟨b1, eb1, hm⟩ := Option.bind_eq_some_iff.mp hm
  refine zVi (rest := [.ref (ad 15), .ref (ad 4)]) [.int v1] hx hb hml hl.1 hown hT (k_X2_groupAt eb1) zkX2_groupAt zw500 ⟨by decide, by decide⟩ rfl rfl hK hZ hP hD hS 4 rfl rfl rfl rfl (Nat.le_of_ble_eq_true rfl) ⟨Nat.zero_le _, Nat.zero_le _⟩ dX2_memberOf_7 (fun H locs hP hD hS => ?_)
  obtain ⟨b2, eb2, hm⟩ := Option.bind_eq_some_iff.mp hm
  refine ziald hx hb hK hP 15 0 rfl rfl eb2 dX2_memberOf_10 ?_
  refine lv_iload_n hx hb dX2_memberOf_11 rfl (lv_at hl 2 rfl) ?_
  refine lv_iadd hx hb dX2_memberOf_12 ?_
  obtain ⟨b3, eb3, hm⟩ := Option.bind_eq_some_iff.mp hm
  refine zVi (rest := []) [.int (b2 + v2)] hx hb hml hl.1 hown hT (k_X2_pairObject eb3) zkX2_pairObject zw475 ⟨by decide, by decide⟩ rfl rfl hK hZ hP hD hS 4 rfl rfl rfl rfl (Nat.le_of_ble_eq_true rfl) ⟨Nat.zero_le _, Nat.zero_le _⟩ dX2_memberOf_13 (fun H locs hP hD hS => ?_)
  cases hm
  exact hret _ _ _ _ dX2_memberOf_16 hP hD hS
set_option maxHeartbeats 4000000 in
set_option maxRecDepth 100000 in
theorem k_X2_holds {l : Launch} {D : va_G} {ad : Nat → Nat} {cI cJ cZ cO : ClassId} {t : Nat} {A : Nat → Prop} {N : Nat} {σ : zS} {v1 : Int32} {v2 : Int32} {r : Int32}  (hm : m_X2_holds N σ v1 v2 = some r) : zCi l yX2_holds cX2_holds 5 (some .boolean) (zR 2 43) D zclX (zty cI cJ cZ cO) t A (zwX ad cI cJ cZ cO) [.ref (ad 4), .int v1, .int v2] σ σ r := by
  refine zMz (by decide) (Nat.le_of_ble_eq_true rfl) ?_
  intro p e s m args below meth c Q hx hb hml hown hT hK hZ hret hP hD hS ls hl
  replace hown : s.vm.findClass RX2 = some m.cls := hown
  replace hl : lv_has ls 5 [(0, .ref (ad 4)), (1, .int v1), (2, .int v2)] := hl
  have hL9 : ∀ (v3_2 : Int32), ∀ (q : Int32) (r : (Unit) ⊕ (Unit)), ziter (fun q : Int32 => m_X2_holds_L9 N σ v1 v2 v3_2 q) N q = some r → (Sum.elim (fun r : Unit => ∀ (H : Heap) (locs : List Loc) (ls : Array Slot), va_P D zclX (zwX ad cI cJ cZ cO σ) H → va_D A (zwX ad cI cJ cZ cO σ) → va_S A s.heap H locs → lv_has ls 5 [] → W p l e (zR 2 43) s m args below meth c H locs 0 0 Q (F0 m 26 ls [])) (fun r : Unit => ∀ (H : Heap) (locs : List Loc) (ls : Array Slot), va_P D zclX (zwX ad cI cJ cZ cO σ) H → va_D A (zwX ad cI cJ cZ cO σ) → va_S A s.heap H locs → lv_has ls 5 [] → W p l e (zR 2 43) s m args below meth c H locs 0 0 Q (F0 m 34 ls [])) r) → ∀ (H : Heap) (locs : List Loc) (ls : Array Slot), va_P D zclX (zwX ad cI cJ cZ cO σ) H → va_D A (zwX ad cI cJ cZ cO σ) → va_S A s.heap H locs → lv_has ls 5 [(0, .ref (ad 4)), (1, .int v1), (2, .int v2), (3, .int v3_2), (4, .int q)] → W p l e (zR 2 43) s m args below meth c H locs 0 0 Q (F0 m 9 ls []) := by
    intro v3_2
    intro q r
    refine ziter_W (Hd := fun q : Int32 => ∀ (H : Heap) (locs : List Loc) (ls : Array Slot), va_P D zclX (zwX ad cI cJ cZ cO σ) H → va_D A (zwX ad cI cJ cZ cO σ) → va_S A s.heap H locs → lv_has ls 5 [(0, .ref (ad 4)), (1, .int v1), (2, .int v2), (3, .int v3_2), (4, .int q)] → W p l e (zR 2 43) s m args below meth c H locs 0 0 Q (F0 m 9 ls [])) (Ex := fun r : (Unit) ⊕ (Unit) => Sum.elim (fun r : Unit => ∀ (H : Heap) (locs : List Loc) (ls : Array Slot), va_P D zclX (zwX ad cI cJ cZ cO σ) H → va_D A (zwX ad cI cJ cZ cO σ) → va_S A s.heap H locs → lv_has ls 5 [] → W p l e (zR 2 43) s m args below meth c H locs 0 0 Q (F0 m 26 ls [])) (fun r : Unit => ∀ (H : Heap) (locs : List Loc) (ls : Array Slot), va_P D zclX (zwX ad cI cJ cZ cO σ) H → va_D A (zwX ad cI cJ cZ cO σ) → va_S A s.heap H locs → lv_has ls 5 [] → W p l e (zR 2 43) s m args below meth c H locs 0 0 Q (F0 m 34 ls [])) r) ?_ N q r
    rintro v4_2 res hm hk H locs ls hP hD hS hl
    try dsimp only at hP hD hl
    replace hm : m_X2_holds_L9 N σ v1 v2 v3_2 v4_2 = some res := hm
    unfold m_X2_holds_L9 at hm
    refine lv_iload hx hb dX2_holds_9 (lv_at hl 4 rfl) ?_
    refine lv_iload_n hx hb dX2_holds_11 rfl (lv_at hl 3 rfl) ?_
    refine lv_icmp_ge (tgt := 34) hx hb dX2_holds_12 (by decide) (fun h3 => ?_) (fun h3 => ?_)
    · rw [if_pos h3] at hm
      cases hm
      exact hk _ _ _ hP hD hS (lv_sub hl [] rfl)
    · rw [if_neg h3] at hm
      refine lv_aload_n hx hb dX2_holds_15 rfl (lv_at hl 0 rfl) ?_
      refine lv_iload_n hx hb dX2_holds_16 rfl (lv_at hl 1 rfl) ?_
      refine lv_iload hx hb dX2_holds_17 (lv_at hl 4 rfl) ?_
      obtain ⟨b4, eb4, hm⟩ := Option.bind_eq_some_iff.mp hm
      refine zVi (rest := []) [.int v1, .int v4_2] hx hb hml hl.1 hown hT (k_X2_memberOf eb4) zkX2_memberOf zw529 ⟨by decide, by decide⟩ rfl rfl hK hZ hP hD hS 4 rfl rfl rfl rfl (Nat.le_of_ble_eq_true rfl) ⟨Nat.zero_le _, Nat.zero_le _⟩ dX2_holds_19 (fun H locs hP hD hS => ?_)
      refine lv_iload_n hx hb dX2_holds_22 rfl (lv_at hl 2 rfl) ?_
      refine lv_icmp_ne (tgt := 28) hx hb dX2_holds_23 (by decide) (fun h5 => ?_) (fun h5 => ?_)
      · rw [if_neg h5] at hm
        refine lv_iinc (v := (v4_2 + (1 : Int32))) (lv' := [(4, .int (v4_2 + (1 : Int32))), (0, .ref (ad 4)), (1, .int v1), (2, .int v2), (3, .int v3_2)]) hx hb dX2_holds_28 hl (k := 4) rfl rfl (by decide) rfl (fun ls hl => ?_)
        refine lv_goto (tgt := 9) hx hb dX2_holds_31 (by decide) ?_
        cases hm
        exact hk _ _ _ hP hD hS (lv_sub hl [1, 2, 3, 4, 0] rfl)
      · rw [if_pos h5] at hm
        cases hm
        exact hk _ _ _ hP hD hS (lv_sub hl [] rfl)
  have h26 : m_X2_holds_26 N σ v1 v2 = some r → ∀ (H : Heap) (locs : List Loc) (ls : Array Slot), va_P D zclX (zwX ad cI cJ cZ cO σ) H → va_D A (zwX ad cI cJ cZ cO σ) → va_S A s.heap H locs → lv_has ls 5 [] → W p l e (zR 2 43) s m args below meth c H locs 0 0 Q (F0 m 26 ls []) := by
    intro  hm H locs ls hP hD hS hl
    unfold m_X2_holds_26 at hm
    refine lv_iconst (v := (1 : Int32)) hx hb dX2_holds_26 (by decide) ?_
    cases hm
    exact hret _ _ _ _ (by decide) dX2_holds_27 hP hD hS
  have h34 : m_X2_holds_34 N σ v1 v2 = some r → ∀ (H : Heap) (locs : List Loc) (ls : Array Slot), va_P D zclX (zwX ad cI cJ cZ cO σ) H → va_D A (zwX ad cI cJ cZ cO σ) → va_S A s.heap H locs → lv_has ls 5 [] → W p l e (zR 2 43) s m args below meth c H locs 0 0 Q (F0 m 34 ls []) := by
    intro  hm H locs ls hP hD hS hl
    unfold m_X2_holds_34 at hm
    refine lv_iconst (v := (0 : Int32)) hx hb dX2_holds_34 (by decide) ?_
    cases hm
    exact hret _ _ _ _ (by decide) dX2_holds_35 hP hD hS
  unfold m_X2_holds at hm
  refine lv_aload_n hx hb dX2_holds_0 rfl (lv_at hl 0 rfl) ?_
  refine lv_iload_n hx hb dX2_holds_1 rfl (lv_at hl 1 rfl) ?_
  obtain ⟨b1, eb1, hm⟩ := Option.bind_eq_some_iff.mp hm
  refine zVi (rest := []) [.int v1] hx hb hml hl.1 hown hT (k_X2_sizeOf eb1) zkX2_sizeOf zw528 ⟨by decide, by decide⟩ rfl rfl hK hZ hP hD hS 4 rfl rfl rfl rfl (Nat.le_of_ble_eq_true rfl) ⟨Nat.zero_le _, Nat.zero_le _⟩ dX2_holds_2 (fun H locs hP hD hS => ?_)
  refine lv_istore_n (lv' := [(3, .int b1), (0, .ref (ad 4)), (1, .int v1), (2, .int v2)]) hx hb dX2_holds_5 rfl hl (by decide) rfl (fun ls hl => ?_)
  refine lv_iconst (v := (0 : Int32)) hx hb dX2_holds_6 (by decide) ?_
  refine lv_istore (lv' := [(4, .int (0 : Int32)), (3, .int b1), (0, .ref (ad 4)), (1, .int v1), (2, .int v2)]) hx hb dX2_holds_7 hl (by decide) rfl (fun ls hl => ?_)
  obtain ⟨r6, e11, hm⟩ := Option.bind_eq_some_iff.mp hm
  refine hL9 b1 _ r6 e11 ?_ _ _ _ hP hD hS (lv_sub hl [2, 3, 4, 1, 0] rfl)
  rcases r6 with _ | _
  · intro H locs ls hP hD hS hl
    try dsimp only at hP hD hl
    replace hm : m_X2_holds_26 N σ v1 v2 = some r := hm
    exact h26  hm _ _ _ hP hD hS (lv_sub hl [] rfl)
  · intro H locs ls hP hD hS hl
    try dsimp only at hP hD hl
    replace hm : m_X2_holds_34 N σ v1 v2 = some r := hm
    exact h34  hm _ _ _ hP hD hS (lv_sub hl [] rfl)
set_option maxHeartbeats 4000000 in
set_option maxRecDepth 100000 in
theorem k_X2_numberOf {l : Launch} {D : va_G} {ad : Nat → Nat} {cI cJ cZ cO : ClassId} {t : Nat} {A : Nat → Prop} {N : Nat} {σ : zS} {v1 : Int32} {r : Int32}  (hm : m_X2_numberOf N σ v1 = some r) : zCi l yX2_numberOf cX2_numberOf 3 (some .int) (zR 3 63) D zclX (zty cI cJ cZ cO) t A (zwX ad cI cJ cZ cO) [.ref (ad 4), .int v1] σ σ r := by
  refine zMi (by decide) (Nat.le_of_ble_eq_true rfl) ?_
  intro p e s m args below meth c Q hx hb hml hown hT hK hZ hret hP hD hS ls hl
  replace hown : s.vm.findClass RX2 = some m.cls := hown
  replace hl : lv_has ls 3 [(0, .ref (ad 4)), (1, .int v1)] := hl
  have hL2 : ∀ (q : Int32) (r : (Int32) ⊕ (Unit)), ziter (fun q : Int32 => m_X2_numberOf_L2 N σ v1 q) N q = some r → (Sum.elim (fun r : Int32 => ∀ (H : Heap) (locs : List Loc) (ls : Array Slot), va_P D zclX (zwX ad cI cJ cZ cO σ) H → va_D A (zwX ad cI cJ cZ cO σ) → va_S A s.heap H locs → lv_has ls 3 [(2, .int r)] → W p l e (zR 3 63) s m args below meth c H locs 0 0 Q (F0 m 27 ls [])) (fun r : Unit => ∀ (H : Heap) (locs : List Loc) (ls : Array Slot), va_P D zclX (zwX ad cI cJ cZ cO σ) H → va_D A (zwX ad cI cJ cZ cO σ) → va_S A s.heap H locs → lv_has ls 3 [] → W p l e (zR 3 63) s m args below meth c H locs 0 0 Q (F0 m 35 ls [])) r) → ∀ (H : Heap) (locs : List Loc) (ls : Array Slot), va_P D zclX (zwX ad cI cJ cZ cO σ) H → va_D A (zwX ad cI cJ cZ cO σ) → va_S A s.heap H locs → lv_has ls 3 [(0, .ref (ad 4)), (1, .int v1), (2, .int q)] → W p l e (zR 3 63) s m args below meth c H locs 0 0 Q (F0 m 2 ls []) := by
    intro q r
    refine ziter_W (Hd := fun q : Int32 => ∀ (H : Heap) (locs : List Loc) (ls : Array Slot), va_P D zclX (zwX ad cI cJ cZ cO σ) H → va_D A (zwX ad cI cJ cZ cO σ) → va_S A s.heap H locs → lv_has ls 3 [(0, .ref (ad 4)), (1, .int v1), (2, .int q)] → W p l e (zR 3 63) s m args below meth c H locs 0 0 Q (F0 m 2 ls [])) (Ex := fun r : (Int32) ⊕ (Unit) => Sum.elim (fun r : Int32 => ∀ (H : Heap) (locs : List Loc) (ls : Array Slot), va_P D zclX (zwX ad cI cJ cZ cO σ) H → va_D A (zwX ad cI cJ cZ cO σ) → va_S A s.heap H locs → lv_has ls 3 [(2, .int r)] → W p l e (zR 3 63) s m args below meth c H locs 0 0 Q (F0 m 27 ls [])) (fun r : Unit => ∀ (H : Heap) (locs : List Loc) (ls : Array Slot), va_P D zclX (zwX ad cI cJ cZ cO σ) H → va_D A (zwX ad cI cJ cZ cO σ) → va_S A s.heap H locs → lv_has ls 3 [] → W p l e (zR 3 63) s m args below meth c H locs 0 0 Q (F0 m 35 ls [])) r) ?_ N q r
    rintro v2_1 res hm hk H locs ls hP hD hS hl
    try dsimp only at hP hD hl
    replace hm : m_X2_numberOf_L2 N σ v1 v2_1 = some res := hm
    have h29 : ∀ (v2_5 : Int32), m_X2_numberOf_29_in2 N σ v1 v2_5 = some res → ∀ (H : Heap) (locs : List Loc) (ls : Array Slot), va_P D zclX (zwX ad cI cJ cZ cO σ) H → va_D A (zwX ad cI cJ cZ cO σ) → va_S A s.heap H locs → lv_has ls 3 [(0, .ref (ad 4)), (1, .int v1), (2, .int v2_5)] → W p l e (zR 3 63) s m args below meth c H locs 0 0 Q (F0 m 29 ls []) := by
      intro v2_5 hm H locs ls hP hD hS hl
      unfold m_X2_numberOf_29_in2 at hm
      refine lv_iinc (v := (v2_5 + (1 : Int32))) (lv' := [(2, .int (v2_5 + (1 : Int32))), (0, .ref (ad 4)), (1, .int v1)]) hx hb dX2_numberOf_29 hl (k := 2) rfl rfl (by decide) rfl (fun ls hl => ?_)
      refine lv_goto (tgt := 2) hx hb dX2_numberOf_32 (by decide) ?_
      cases hm
      exact hk _ _ _ hP hD hS (lv_sub hl [1, 2, 0] rfl)
    unfold m_X2_numberOf_L2 at hm
    refine lv_iload_n hx hb dX2_numberOf_2 rfl (lv_at hl 2 rfl) ?_
    refine lv_aload_n hx hb dX2_numberOf_3 rfl (lv_at hl 0 rfl) ?_
    refine zget (v := .int (σ.1 5)) hx hb hT zinX2 hown hK hP 4 rfl rfl 0 (by decide) zw198 rfl dX2_numberOf_4 ?_
    refine lv_icmp_ge (tgt := 35) hx hb dX2_numberOf_7 (by decide) (fun h2 => ?_) (fun h2 => ?_)
    · rw [if_pos h2] at hm
      cases hm
      exact hk _ _ _ hP hD hS (lv_sub hl [] rfl)
    · rw [if_neg h2] at hm
      refine lv_aload_n hx hb dX2_numberOf_10 rfl (lv_at hl 0 rfl) ?_
      refine lv_iload_n hx hb dX2_numberOf_11 rfl (lv_at hl 2 rfl) ?_
      obtain ⟨b3, eb3, hm⟩ := Option.bind_eq_some_iff.mp hm
      refine zVi (rest := []) [.int v2_1] hx hb hml hl.1 hown hT (k_X2_isMissing eb3) zkX2_isMissing zw496 ⟨by decide, by decide⟩ rfl rfl hK hZ hP hD hS 4 rfl rfl rfl rfl (Nat.le_of_ble_eq_true rfl) ⟨Nat.zero_le _, Nat.zero_le _⟩ dX2_numberOf_12 (fun H locs hP hD hS => ?_)
      refine lv_if_ne (tgt := 29) hx hb dX2_numberOf_15 (by decide) (fun h4 => ?_) (fun h4 => ?_)
      · rw [if_neg h4] at hm
        exact h29 v2_1 hm _ _ _ hP hD hS (lv_sub hl [0, 1, 2] rfl)
      · rw [if_pos h4] at hm
        refine lv_aload_n hx hb dX2_numberOf_18 rfl (lv_at hl 0 rfl) ?_
        refine lv_iload_n hx hb dX2_numberOf_19 rfl (lv_at hl 2 rfl) ?_
        obtain ⟨b6, eb6, hm⟩ := Option.bind_eq_some_iff.mp hm
        refine zVi (rest := []) [.int v2_1] hx hb hml hl.1 hown hT (k_X2_keyOf eb6) zkX2_keyOf zw519 ⟨by decide, by decide⟩ rfl rfl hK hZ hP hD hS 4 rfl rfl rfl rfl (Nat.le_of_ble_eq_true rfl) ⟨Nat.zero_le _, Nat.zero_le _⟩ dX2_numberOf_20 (fun H locs hP hD hS => ?_)
        refine lv_iload_n hx hb dX2_numberOf_23 rfl (lv_at hl 1 rfl) ?_
        refine lv_icmp_ne (tgt := 29) hx hb dX2_numberOf_24 (by decide) (fun h7 => ?_) (fun h7 => ?_)
        · rw [if_neg h7] at hm
          exact h29 v2_1 hm _ _ _ hP hD hS (lv_sub hl [0, 1, 2] rfl)
        · rw [if_pos h7] at hm
          cases hm
          exact hk _ _ _ hP hD hS (lv_sub hl [2] rfl)
  have h27 : ∀ (v2_10 : Int32), m_X2_numberOf_27 N σ v1 v2_10 = some r → ∀ (H : Heap) (locs : List Loc) (ls : Array Slot), va_P D zclX (zwX ad cI cJ cZ cO σ) H → va_D A (zwX ad cI cJ cZ cO σ) → va_S A s.heap H locs → lv_has ls 3 [(2, .int v2_10)] → W p l e (zR 3 63) s m args below meth c H locs 0 0 Q (F0 m 27 ls []) := by
    intro v2_10 hm H locs ls hP hD hS hl
    unfold m_X2_numberOf_27 at hm
    refine lv_iload_n hx hb dX2_numberOf_27 rfl (lv_at hl 0 rfl) ?_
    cases hm
    exact hret _ _ _ _ dX2_numberOf_28 hP hD hS
  have h35 : m_X2_numberOf_35 N σ v1 = some r → ∀ (H : Heap) (locs : List Loc) (ls : Array Slot), va_P D zclX (zwX ad cI cJ cZ cO σ) H → va_D A (zwX ad cI cJ cZ cO σ) → va_S A s.heap H locs → lv_has ls 3 [] → W p l e (zR 3 63) s m args below meth c H locs 0 0 Q (F0 m 35 ls []) := by
    intro  hm H locs ls hP hD hS hl
    unfold m_X2_numberOf_35 at hm
    refine lv_ldc hx hb hown (hT _ zw505) dX2_numberOf_35 ?_
    cases hm
    exact hret _ _ _ _ dX2_numberOf_37 hP hD hS
  unfold m_X2_numberOf at hm
  refine lv_iconst (v := (0 : Int32)) hx hb dX2_numberOf_0 (by decide) ?_
  refine lv_istore_n (lv' := [(2, .int (0 : Int32)), (0, .ref (ad 4)), (1, .int v1)]) hx hb dX2_numberOf_1 rfl hl (by decide) rfl (fun ls hl => ?_)
  obtain ⟨r8, e13, hm⟩ := Option.bind_eq_some_iff.mp hm
  refine hL2  _ r8 e13 ?_ _ _ _ hP hD hS (lv_sub hl [1, 2, 0] rfl)
  rcases r8 with v2_9 | _
  · intro H locs ls hP hD hS hl
    try dsimp only at hP hD hl
    replace hm : m_X2_numberOf_27 N σ v1 v2_9 = some r := hm
    exact h27 v2_9 hm _ _ _ hP hD hS (lv_sub hl [0] rfl)
  · intro H locs ls hP hD hS hl
    try dsimp only at hP hD hl
    replace hm : m_X2_numberOf_35 N σ v1 = some r := hm
    exact h35  hm _ _ _ hP hD hS (lv_sub hl [] rfl)
set_option maxHeartbeats 4000000 in
set_option maxRecDepth 100000 in
theorem k_X3_startNarrowing {l : Launch} {D : va_G} {ad : Nat → Nat} {cI cJ cZ cO : ClassId} {t : Nat} {A : Nat → Prop} {N : Nat} {σ σ' : zS}    (hm : m_X3_startNarrowing N σ = some σ') : zCv l yX3_startNarrowing cX3_startNarrowing 1 (none) (zR 0 0) D zclX (zty cI cJ cZ cO) t A (zwX ad cI cJ cZ cO) [.ref (ad 2)] σ σ' := by
  refine zMv (by decide) (Nat.le_of_ble_eq_true rfl) ?_
  intro p e s m args below meth c Q hx hb hml hown hT hK hZ hret hP hD hS ls hl
  replace hown : s.vm.findClass RX3 = some m.cls := hown
  replace hl : lv_has ls 1 [(0, .ref (ad 2))] := hl
  unfold m_X3_startNarrowing at hm
  refine lv_aload_n hx hb dX3_startNarrowing_0 rfl (lv_at hl 0 rfl) ?_
  refine lv_dup hx hb dX3_startNarrowing_1 rfl ?_
  refine zget (v := .int (σ.1 3)) hx hb hT zinX3 hown hK hP 2 rfl rfl 0 (by decide) zw102 rfl dX3_startNarrowing_2 ?_
  refine lv_iconst (v := (1 : Int32)) hx hb dX3_startNarrowing_5 (by decide) ?_
  refine lv_iadd hx hb dX3_startNarrowing_6 ?_
  obtain ⟨σ1, eσ1, hm⟩ := Option.bind_eq_some_iff.mp hm
  refine zput (j := 3) (ty := .int) hx hb hT zinX3 tyX3 tyX3_ok nmX3 hown hK hP hD hS 2 rfl rfl 0 (by decide) zw102 rfl (by decide +kernel) rfl rfl (Nat.le_of_ble_eq_true rfl) eσ1 rfl dX3_startNarrowing_7 (fun H locs hP hD hS => ?_)
  cases hm
  exact hret _ _ _ _ dX3_startNarrowing_10 hP hD hS
set_option maxHeartbeats 4000000 in
set_option maxRecDepth 100000 in
theorem k_X3_keep {l : Launch} {D : va_G} {ad : Nat → Nat} {cI cJ cZ cO : ClassId} {t : Nat} {A : Nat → Prop} {N : Nat} {σ σ' : zS} {v1 : Int32}   (hm : m_X3_keep N σ v1 = some σ') : zCv l yX3_keep cX3_keep 2 (none) (zR 0 0) D zclX (zty cI cJ cZ cO) t A (zwX ad cI cJ cZ cO) [.ref (ad 2), .int v1] σ σ' := by
  refine zMv (by decide) (Nat.le_of_ble_eq_true rfl) ?_
  intro p e s m args below meth c Q hx hb hml hown hT hK hZ hret hP hD hS ls hl
  replace hown : s.vm.findClass RX3 = some m.cls := hown
  replace hl : lv_has ls 2 [(0, .ref (ad 2)), (1, .int v1)] := hl
  unfold m_X3_keep at hm
  refine lv_aload_n hx hb dX3_keep_0 rfl (lv_at hl 0 rfl) ?_
  refine zget (v := .ref (ad 11)) hx hb hT zinX3 hown hK hP 2 rfl rfl 2 (by decide) zw105 rfl dX3_keep_1 ?_
  refine lv_iload_n hx hb dX3_keep_4 rfl (lv_at hl 1 rfl) ?_
  refine lv_aload_n hx hb dX3_keep_5 rfl (lv_at hl 0 rfl) ?_
  refine zget (v := .int (σ.1 3)) hx hb hT zinX3 hown hK hP 2 rfl rfl 0 (by decide) zw102 rfl dX3_keep_6 ?_
  obtain ⟨σ1, eσ1, hm⟩ := Option.bind_eq_some_iff.mp hm
  refine ziast (j := 3) hx hb hK hP hD hS 11 0 rfl rfl eσ1 (fun _ => rfl) dX3_keep_9 (fun H locs hP hD hS => ?_)
  cases hm
  exact hret _ _ _ _ dX3_keep_10 hP hD hS
set_option maxHeartbeats 4000000 in
set_option maxRecDepth 100000 in
theorem k_X3_shrinkTo {l : Launch} {D : va_G} {ad : Nat → Nat} {cI cJ cZ cO : ClassId} {t : Nat} {A : Nat → Prop} {N : Nat} {σ σ' : zS} {v1 : Int32}   (hm : m_X3_shrinkTo N σ v1 = some σ') : zCv l yX3_shrinkTo cX3_shrinkTo 3 (none) (zR 1 21) D zclX (zty cI cJ cZ cO) t A (zwX ad cI cJ cZ cO) [.ref (ad 2), .int v1] σ σ' := by
  refine zMv (by decide) (Nat.le_of_ble_eq_true rfl) ?_
  intro p e s m args below meth c Q hx hb hml hown hT hK hZ hret hP hD hS ls hl
  replace hown : s.vm.findClass RX3 = some m.cls := hown
  replace hl : lv_has ls 3 [(0, .ref (ad 2)), (1, .int v1)] := hl
  have hL7 : ∀ (q : zS × Int32) (r : zS), ziter (fun q : zS × Int32 => m_X3_shrinkTo_L7 N v1 q.1 q.2) N q = some r → (∀ (H : Heap) (locs : List Loc) (ls : Array Slot), va_P D zclX (zwX ad cI cJ cZ cO r) H → va_D A (zwX ad cI cJ cZ cO r) → va_S A s.heap H locs → lv_has ls 3 [] → W p l e (zR 1 21) s m args below meth c H locs 0 0 Q (F0 m 35 ls [])) → ∀ (H : Heap) (locs : List Loc) (ls : Array Slot), va_P D zclX (zwX ad cI cJ cZ cO q.1) H → va_D A (zwX ad cI cJ cZ cO q.1) → va_S A s.heap H locs → lv_has ls 3 [(0, .ref (ad 2)), (1, .int v1), (2, .int q.2)] → W p l e (zR 1 21) s m args below meth c H locs 0 0 Q (F0 m 7 ls []) := by
    intro q r
    refine ziter_W (Hd := fun q : zS × Int32 => ∀ (H : Heap) (locs : List Loc) (ls : Array Slot), va_P D zclX (zwX ad cI cJ cZ cO q.1) H → va_D A (zwX ad cI cJ cZ cO q.1) → va_S A s.heap H locs → lv_has ls 3 [(0, .ref (ad 2)), (1, .int v1), (2, .int q.2)] → W p l e (zR 1 21) s m args below meth c H locs 0 0 Q (F0 m 7 ls [])) (Ex := fun r : zS => ∀ (H : Heap) (locs : List Loc) (ls : Array Slot), va_P D zclX (zwX ad cI cJ cZ cO r) H → va_D A (zwX ad cI cJ cZ cO r) → va_S A s.heap H locs → lv_has ls 3 [] → W p l e (zR 1 21) s m args below meth c H locs 0 0 Q (F0 m 35 ls [])) ?_ N q r
    rintro ⟨σ2, v2_2⟩ res hm hk H locs ls hP hD hS hl
    try dsimp only at hP hD hl
    replace hm : m_X3_shrinkTo_L7 N v1 σ2 v2_2 = some res := hm
    unfold m_X3_shrinkTo_L7 at hm
    refine lv_iload_n hx hb dX3_shrinkTo_7 rfl (lv_at hl 2 rfl) ?_
    refine lv_bipush (v := (120 : Int32)) hx hb dX3_shrinkTo_8 (by decide) ?_
    refine lv_icmp_ge (tgt := 35) hx hb dX3_shrinkTo_10 (by decide) (fun h3 => ?_) (fun h3 => ?_)
    · rw [if_pos h3] at hm
      cases hm
      exact hk _ _ _ hP hD hS (lv_sub hl [] rfl)
    · rw [if_neg h3] at hm
      refine lv_aload_n hx hb dX3_shrinkTo_13 rfl (lv_at hl 0 rfl) ?_
      refine zget (v := .ref (ad 11)) hx hb hT zinX3 hown hK hP 2 rfl rfl 2 (by decide) zw105 rfl dX3_shrinkTo_14 ?_
      refine lv_iload_n hx hb dX3_shrinkTo_17 rfl (lv_at hl 2 rfl) ?_
      refine lv_aload_n hx hb dX3_shrinkTo_18 rfl (lv_at hl 0 rfl) ?_
      refine zget (v := .ref (ad 11)) hx hb hT zinX3 hown hK hP 2 rfl rfl 2 (by decide) zw105 rfl dX3_shrinkTo_19 ?_
      refine lv_iload_n hx hb dX3_shrinkTo_22 rfl (lv_at hl 2 rfl) ?_
      obtain ⟨b4, eb4, hm⟩ := Option.bind_eq_some_iff.mp hm
      refine ziald hx hb hK hP 11 0 rfl rfl eb4 dX3_shrinkTo_23 ?_
      refine lv_iload_n hx hb dX3_shrinkTo_24 rfl (lv_at hl 1 rfl) ?_
      obtain ⟨b5, eb5, hm⟩ := Option.bind_eq_some_iff.mp hm
      refine zSi (rest := [.int v2_2, .ref (ad 11)]) [.int b4, .int v1] hx hb hml hl.1 hown hT (k_J9_min_7cf53 eb5) zkJ9_min_7cf53 zw283 ⟨by decide, by decide⟩ rfl rfl hK hZ hP hD hS rfl rfl (Nat.le_of_ble_eq_true rfl) ⟨Nat.zero_le _, Nat.zero_le _⟩ dX3_shrinkTo_25 (fun H locs hP hD hS => ?_)
      obtain ⟨σ6, eσ6, hm⟩ := Option.bind_eq_some_iff.mp hm
      refine ziast (j := 3) hx hb hK hP hD hS 11 0 rfl rfl eσ6 (fun _ => rfl) dX3_shrinkTo_28 (fun H locs hP hD hS => ?_)
      refine lv_iinc (v := (v2_2 + (1 : Int32))) (lv' := [(2, .int (v2_2 + (1 : Int32))), (0, .ref (ad 2)), (1, .int v1)]) hx hb dX3_shrinkTo_29 hl (k := 2) rfl rfl (by decide) rfl (fun ls hl => ?_)
      refine lv_goto (tgt := 7) hx hb dX3_shrinkTo_32 (by decide) ?_
      cases hm
      exact hk _ _ _ hP hD hS (lv_sub hl [1, 2, 0] rfl)
  have h35 : ∀ (σ9 : zS), m_X3_shrinkTo_35 N v1 σ9 = some σ' → ∀ (H : Heap) (locs : List Loc) (ls : Array Slot), va_P D zclX (zwX ad cI cJ cZ cO σ9) H → va_D A (zwX ad cI cJ cZ cO σ9) → va_S A s.heap H locs → lv_has ls 3 [] → W p l e (zR 1 21) s m args below meth c H locs 0 0 Q (F0 m 35 ls []) := by
    intro σ9 hm H locs ls hP hD hS hl
    unfold m_X3_shrinkTo_35 at hm
    cases hm
    exact hret _ _ _ _ dX3_shrinkTo_35 hP hD hS
  unfold m_X3_shrinkTo at hm
  refine lv_aload_n hx hb dX3_shrinkTo_0 rfl (lv_at hl 0 rfl) ?_
  refine lv_iload_n hx hb dX3_shrinkTo_1 rfl (lv_at hl 1 rfl) ?_
  obtain ⟨σ1, eσ1, hm⟩ := Option.bind_eq_some_iff.mp hm
  refine zput (j := 3) (ty := .int) hx hb hT zinX3 tyX3 tyX3_ok nmX3 hown hK hP hD hS 2 rfl rfl 0 (by decide) zw102 rfl (by decide +kernel) rfl rfl (Nat.le_of_ble_eq_true rfl) eσ1 rfl dX3_shrinkTo_2 (fun H locs hP hD hS => ?_)
  refine lv_iconst (v := (0 : Int32)) hx hb dX3_shrinkTo_5 (by decide) ?_
  refine lv_istore_n (lv' := [(2, .int (0 : Int32)), (0, .ref (ad 2)), (1, .int v1)]) hx hb dX3_shrinkTo_6 rfl hl (by decide) rfl (fun ls hl => ?_)
  obtain ⟨σ8, e10, hm⟩ := Option.bind_eq_some_iff.mp hm
  refine hL7  _ σ8 e10 ?_ _ _ _ hP hD hS (lv_sub hl [1, 2, 0] rfl)
  intro H locs ls hP hD hS hl
  try dsimp only at hP hD hl
  replace hm : m_X3_shrinkTo_35 N v1 σ8 = some σ' := hm
  exact h35 σ8 hm _ _ _ hP hD hS (lv_sub hl [] rfl)
set_option maxHeartbeats 4000000 in
set_option maxRecDepth 100000 in
theorem k_X3_widen {l : Launch} {D : va_G} {ad : Nat → Nat} {cI cJ cZ cO : ClassId} {t : Nat} {A : Nat → Prop} {N : Nat} {σ σ' : zS}    (hm : m_X3_widen N σ = some σ') : zCv l yX3_widen cX3_widen 1 (none) (zR 2 43) D zclX (zty cI cJ cZ cO) t A (zwX ad cI cJ cZ cO) [.ref (ad 2)] σ σ' := by
  refine zMv (by decide) (Nat.le_of_ble_eq_true rfl) ?_
  intro p e s m args below meth c Q hx hb hml hown hT hK hZ hret hP hD hS ls hl
  replace hown : s.vm.findClass RX3 = some m.cls := hown
  replace hl : lv_has ls 1 [(0, .ref (ad 2))] := hl
  unfold m_X3_widen at hm
  refine lv_aload_n hx hb dX3_widen_0 rfl (lv_at hl 0 rfl) ?_
  refine zget (v := .int (σ.1 3)) hx hb hT zinX3 hown hK hP 2 rfl rfl 0 (by decide) zw102 rfl dX3_widen_1 ?_
  refine lv_if_le (tgt := 17) hx hb dX3_widen_4 (by decide) (fun h1 => ?_) (fun h1 => ?_)
  · rw [if_pos h1] at hm
    cases hm
    exact hret _ _ _ _ dX3_widen_17 hP hD hS
  · rw [if_neg h1] at hm
    refine lv_aload_n hx hb dX3_widen_7 rfl (lv_at hl 0 rfl) ?_
    refine lv_aload_n hx hb dX3_widen_8 rfl (lv_at hl 0 rfl) ?_
    refine zget (v := .int (σ.1 3)) hx hb hT zinX3 hown hK hP 2 rfl rfl 0 (by decide) zw102 rfl dX3_widen_9 ?_
    refine lv_iconst (v := (1 : Int32)) hx hb dX3_widen_12 (by decide) ?_
    refine lv_isub hx hb dX3_widen_13 ?_
    obtain ⟨σ2, eσ2, hm⟩ := Option.bind_eq_some_iff.mp hm
    refine zVv (rest := []) [.int ((σ.1 3) - (1 : Int32))] hx hb hml hl.1 hown hT (k_X3_shrinkTo eσ2) zkX3_shrinkTo zw279 ⟨by decide, by decide⟩ rfl rfl hK hZ hP hD hS 2 rfl rfl rfl rfl (Nat.le_of_ble_eq_true rfl) ⟨Nat.zero_le _, Nat.zero_le _⟩ dX3_widen_14 (fun H locs hP hD hS => ?_)
    cases hm
    exact hret _ _ _ _ dX3_widen_17 hP hD hS
set_option maxHeartbeats 4000000 in
set_option maxRecDepth 100000 in
theorem k_X3_widenWholly {l : Launch} {D : va_G} {ad : Nat → Nat} {cI cJ cZ cO : ClassId} {t : Nat} {A : Nat → Prop} {N : Nat} {σ σ' : zS}    (hm : m_X3_widenWholly N σ = some σ') : zCv l yX3_widenWholly cX3_widenWholly 1 (none) (zR 2 43) D zclX (zty cI cJ cZ cO) t A (zwX ad cI cJ cZ cO) [.ref (ad 2)] σ σ' := by
  refine zMv (by decide) (Nat.le_of_ble_eq_true rfl) ?_
  intro p e s m args below meth c Q hx hb hml hown hT hK hZ hret hP hD hS ls hl
  replace hown : s.vm.findClass RX3 = some m.cls := hown
  replace hl : lv_has ls 1 [(0, .ref (ad 2))] := hl
  unfold m_X3_widenWholly at hm
  refine lv_aload_n hx hb dX3_widenWholly_0 rfl (lv_at hl 0 rfl) ?_
  refine zget (v := .int (σ.1 3)) hx hb hT zinX3 hown hK hP 2 rfl rfl 0 (by decide) zw102 rfl dX3_widenWholly_1 ?_
  refine lv_if_le (tgt := 12) hx hb dX3_widenWholly_4 (by decide) (fun h1 => ?_) (fun h1 => ?_)
  · rw [if_pos h1] at hm
    cases hm
    exact hret _ _ _ _ dX3_widenWholly_12 hP hD hS
  · rw [if_neg h1] at hm
    refine lv_aload_n hx hb dX3_widenWholly_7 rfl (lv_at hl 0 rfl) ?_
    refine lv_iconst (v := (0 : Int32)) hx hb dX3_widenWholly_8 (by decide) ?_
    obtain ⟨σ2, eσ2, hm⟩ := Option.bind_eq_some_iff.mp hm
    refine zVv (rest := []) [.int (0 : Int32)] hx hb hml hl.1 hown hT (k_X3_shrinkTo eσ2) zkX3_shrinkTo zw279 ⟨by decide, by decide⟩ rfl rfl hK hZ hP hD hS 2 rfl rfl rfl rfl (Nat.le_of_ble_eq_true rfl) ⟨Nat.zero_le _, Nat.zero_le _⟩ dX3_widenWholly_9 (fun H locs hP hD hS => ?_)
    cases hm
    exact hret _ _ _ _ dX3_widenWholly_12 hP hD hS
set_option maxHeartbeats 4000000 in
set_option maxRecDepth 100000 in
theorem k_X6_has {l : Launch} {D : va_G} {ad : Nat → Nat} {cI cJ cZ cO : ClassId} {t : Nat} {A : Nat → Prop} {N : Nat} {σ : zS} {v1 : Int32} {r : Int32}  (hm : m_X6_has N σ v1 = some r) : zCi l yX6_has cX6_has 2 (some .boolean) (zR 0 0) D zclX (zty cI cJ cZ cO) t A (zwX ad cI cJ cZ cO) [.ref (ad 1), .int v1] σ σ r := by
  refine zMz (by decide) (Nat.le_of_ble_eq_true rfl) ?_
  intro p e s m args below meth c Q hx hb hml hown hT hK hZ hret hP hD hS ls hl
  replace hown : s.vm.findClass RX6 = some m.cls := hown
  replace hl : lv_has ls 2 [(0, .ref (ad 1)), (1, .int v1)] := hl
  unfold m_X6_has at hm
  refine lv_iload_n hx hb dX6_has_0 rfl (lv_at hl 1 rfl) ?_
  refine lv_if_lt (tgt := 16) hx hb dX6_has_1 (by decide) (fun h1 => ?_) (fun h1 => ?_)
  · rw [if_pos h1] at hm
    refine lv_iconst (v := (0 : Int32)) hx hb dX6_has_16 (by decide) ?_
    cases hm
    exact hret _ _ _ _ (by decide) dX6_has_17 hP hD hS
  · rw [if_neg h1] at hm
    refine lv_iload_n hx hb dX6_has_4 rfl (lv_at hl 1 rfl) ?_
    refine lv_aload_n hx hb dX6_has_5 rfl (lv_at hl 0 rfl) ?_
    refine zget (v := .int (σ.1 2)) hx hb hT zinX6 hown hK hP 1 rfl rfl 0 (by decide) zw77 rfl dX6_has_6 ?_
    refine lv_icmp_ge (tgt := 16) hx hb dX6_has_9 (by decide) (fun h2 => ?_) (fun h2 => ?_)
    · rw [if_pos h2] at hm
      refine lv_iconst (v := (0 : Int32)) hx hb dX6_has_16 (by decide) ?_
      cases hm
      exact hret _ _ _ _ (by decide) dX6_has_17 hP hD hS
    · rw [if_neg h2] at hm
      refine lv_iconst (v := (1 : Int32)) hx hb dX6_has_12 (by decide) ?_
      refine lv_goto (tgt := 17) hx hb dX6_has_13 (by decide) ?_
      cases hm
      exact hret _ _ _ _ (by decide) dX6_has_17 hP hD hS
set_option maxHeartbeats 4000000 in
set_option maxRecDepth 100000 in
theorem k_X6_addObject {l : Launch} {D : va_G} {ad : Nat → Nat} {cI cJ cZ cO : ClassId} {t : Nat} {A : Nat → Prop} {N : Nat} {σ σ' : zS}  {r : Int32}  (hm : m_X6_addObject N σ = some (r, σ')) : zCi l yX6_addObject cX6_addObject 3 (some .int) (zR 0 0) D zclX (zty cI cJ cZ cO) t A (zwX ad cI cJ cZ cO) [.ref (ad 1)] σ σ' r := by
  refine zMi (by decide) (Nat.le_of_ble_eq_true rfl) ?_
  intro p e s m args below meth c Q hx hb hml hown hT hK hZ hret hP hD hS ls hl
  replace hown : s.vm.findClass RX6 = some m.cls := hown
  replace hl : lv_has ls 3 [(0, .ref (ad 1))] := hl
  have hL14 : ∀ (v1_2 : Int32), ∀ (q : zS × Int32) (r : zS), ziter (fun q : zS × Int32 => m_X6_addObject_L14 N v1_2 q.1 q.2) N q = some r → (∀ (H : Heap) (locs : List Loc) (ls : Array Slot), va_P D zclX (zwX ad cI cJ cZ cO r) H → va_D A (zwX ad cI cJ cZ cO r) → va_S A s.heap H locs → lv_has ls 3 [(0, .ref (ad 1)), (1, .int v1_2)] → W p l e (zR 0 0) s m args below meth c H locs 0 0 Q (F0 m 38 ls [])) → ∀ (H : Heap) (locs : List Loc) (ls : Array Slot), va_P D zclX (zwX ad cI cJ cZ cO q.1) H → va_D A (zwX ad cI cJ cZ cO q.1) → va_S A s.heap H locs → lv_has ls 3 [(0, .ref (ad 1)), (1, .int v1_2), (2, .int q.2)] → W p l e (zR 0 0) s m args below meth c H locs 0 0 Q (F0 m 14 ls []) := by
    intro v1_2
    intro q r
    refine ziter_W (Hd := fun q : zS × Int32 => ∀ (H : Heap) (locs : List Loc) (ls : Array Slot), va_P D zclX (zwX ad cI cJ cZ cO q.1) H → va_D A (zwX ad cI cJ cZ cO q.1) → va_S A s.heap H locs → lv_has ls 3 [(0, .ref (ad 1)), (1, .int v1_2), (2, .int q.2)] → W p l e (zR 0 0) s m args below meth c H locs 0 0 Q (F0 m 14 ls [])) (Ex := fun r : zS => ∀ (H : Heap) (locs : List Loc) (ls : Array Slot), va_P D zclX (zwX ad cI cJ cZ cO r) H → va_D A (zwX ad cI cJ cZ cO r) → va_S A s.heap H locs → lv_has ls 3 [(0, .ref (ad 1)), (1, .int v1_2)] → W p l e (zR 0 0) s m args below meth c H locs 0 0 Q (F0 m 38 ls [])) ?_ N q r
    rintro ⟨σ2, v2_2⟩ res hm hk H locs ls hP hD hS hl
    try dsimp only at hP hD hl
    replace hm : m_X6_addObject_L14 N v1_2 σ2 v2_2 = some res := hm
    unfold m_X6_addObject_L14 at hm
    refine lv_iload_n hx hb dX6_addObject_14 rfl (lv_at hl 2 rfl) ?_
    refine lv_bipush (v := (6 : Int32)) hx hb dX6_addObject_15 (by decide) ?_
    refine lv_icmp_ge (tgt := 38) hx hb dX6_addObject_17 (by decide) (fun h3 => ?_) (fun h3 => ?_)
    · rw [if_pos h3] at hm
      cases hm
      exact hk _ _ _ hP hD hS (lv_sub hl [0, 1] rfl)
    · rw [if_neg h3] at hm
      refine lv_aload_n hx hb dX6_addObject_20 rfl (lv_at hl 0 rfl) ?_
      refine zget (v := .ref (ad 10)) hx hb hT zinX6 hown hK hP 1 rfl rfl 3 (by decide) zw84 rfl dX6_addObject_21 ?_
      refine lv_iload_n hx hb dX6_addObject_24 rfl (lv_at hl 1 rfl) ?_
      refine lv_bipush (v := (6 : Int32)) hx hb dX6_addObject_25 (by decide) ?_
      refine lv_imul hx hb dX6_addObject_27 ?_
      refine lv_iload_n hx hb dX6_addObject_28 rfl (lv_at hl 2 rfl) ?_
      refine lv_iadd hx hb dX6_addObject_29 ?_
      refine lv_iconst (v := (0 : Int32)) hx hb dX6_addObject_30 (by decide) ?_
      obtain ⟨σ4, eσ4, hm⟩ := Option.bind_eq_some_iff.mp hm
      refine ziast (j := 2) hx hb hK hP hD hS 10 0 rfl rfl eσ4 (fun _ => rfl) dX6_addObject_31 (fun H locs hP hD hS => ?_)
      refine lv_iinc (v := (v2_2 + (1 : Int32))) (lv' := [(2, .int (v2_2 + (1 : Int32))), (0, .ref (ad 1)), (1, .int v1_2)]) hx hb dX6_addObject_32 hl (k := 2) rfl rfl (by decide) rfl (fun ls hl => ?_)
      refine lv_goto (tgt := 14) hx hb dX6_addObject_35 (by decide) ?_
      cases hm
      exact hk _ _ _ hP hD hS (lv_sub hl [1, 2, 0] rfl)
  have h38 : ∀ (σ7 : zS) (v1_7 : Int32), m_X6_addObject_38 N σ7 v1_7 = some (r, σ') → ∀ (H : Heap) (locs : List Loc) (ls : Array Slot), va_P D zclX (zwX ad cI cJ cZ cO σ7) H → va_D A (zwX ad cI cJ cZ cO σ7) → va_S A s.heap H locs → lv_has ls 3 [(0, .ref (ad 1)), (1, .int v1_7)] → W p l e (zR 0 0) s m args below meth c H locs 0 0 Q (F0 m 38 ls []) := by
    intro σ7 v1_7 hm H locs ls hP hD hS hl
    unfold m_X6_addObject_38 at hm
    refine lv_aload_n hx hb dX6_addObject_38 rfl (lv_at hl 0 rfl) ?_
    refine lv_dup hx hb dX6_addObject_39 rfl ?_
    refine zget (v := .int (σ7.1 2)) hx hb hT zinX6 hown hK hP 1 rfl rfl 0 (by decide) zw77 rfl dX6_addObject_40 ?_
    refine lv_iconst (v := (1 : Int32)) hx hb dX6_addObject_43 (by decide) ?_
    refine lv_iadd hx hb dX6_addObject_44 ?_
    obtain ⟨σ8, eσ8, hm⟩ := Option.bind_eq_some_iff.mp hm
    refine zput (j := 2) (ty := .int) hx hb hT zinX6 tyX6 tyX6_ok nmX6 hown hK hP hD hS 1 rfl rfl 0 (by decide) zw77 rfl (by decide +kernel) rfl rfl (Nat.le_of_ble_eq_true rfl) eσ8 rfl dX6_addObject_45 (fun H locs hP hD hS => ?_)
    refine lv_iload_n hx hb dX6_addObject_48 rfl (lv_at hl 1 rfl) ?_
    cases hm
    exact hret _ _ _ _ dX6_addObject_49 hP hD hS
  unfold m_X6_addObject at hm
  refine lv_aload_n hx hb dX6_addObject_0 rfl (lv_at hl 0 rfl) ?_
  refine zget (v := .int (σ.1 2)) hx hb hT zinX6 hown hK hP 1 rfl rfl 0 (by decide) zw77 rfl dX6_addObject_1 ?_
  refine lv_istore_n (lv' := [(1, .int (σ.1 2)), (0, .ref (ad 1))]) hx hb dX6_addObject_4 rfl hl (by decide) rfl (fun ls hl => ?_)
  refine lv_aload_n hx hb dX6_addObject_5 rfl (lv_at hl 1 rfl) ?_
  refine zget (v := .ref (ad 8)) hx hb hT zinX6 hown hK hP 1 rfl rfl 1 (by decide) zw80 rfl dX6_addObject_6 ?_
  refine lv_iload_n hx hb dX6_addObject_9 rfl (lv_at hl 0 rfl) ?_
  refine lv_iconst (v := (0 : Int32)) hx hb dX6_addObject_10 (by decide) ?_
  obtain ⟨σ1, eσ1, hm⟩ := Option.bind_eq_some_iff.mp hm
  refine zzast (j := 0) hx hb hK hP hD hS 8 2 rfl rfl eσ1 (by decide) (fun _ => rfl) dX6_addObject_11 (fun H locs hP hD hS => ?_)
  refine lv_iconst (v := (0 : Int32)) hx hb dX6_addObject_12 (by decide) ?_
  refine lv_istore_n (lv' := [(2, .int (0 : Int32)), (1, .int (σ.1 2)), (0, .ref (ad 1))]) hx hb dX6_addObject_13 rfl hl (by decide) rfl (fun ls hl => ?_)
  obtain ⟨σ6, e9, hm⟩ := Option.bind_eq_some_iff.mp hm
  refine hL14 (σ.1 2) _ σ6 e9 ?_ _ _ _ hP hD hS (lv_sub hl [2, 1, 0] rfl)
  intro H locs ls hP hD hS hl
  try dsimp only at hP hD hl
  replace hm : m_X6_addObject_38 N σ6 (σ.1 2) = some (r, σ') := hm
  exact h38 σ6 (σ.1 2) hm _ _ _ hP hD hS (lv_sub hl [0, 1] rfl)
set_option maxHeartbeats 4000000 in
set_option maxRecDepth 100000 in
theorem k_X6_addValue {l : Launch} {D : va_G} {ad : Nat → Nat} {cI cJ cZ cO : ClassId} {t : Nat} {A : Nat → Prop} {N : Nat} {σ σ' : zS} {v1 : Int32} {v2 : Int32} {v3 : Int32} {r : Int32}  (hm : m_X6_addValue N σ v1 v2 v3 = some (r, σ')) : zCi l yX6_addValue cX6_addValue 5 (some .int) (zR 0 0) D zclX (zty cI cJ cZ cO) t A (zwX ad cI cJ cZ cO) [.ref (ad 1), .int v1, .int v2, .int v3] σ σ' r := by
  refine zMi (by decide) (Nat.le_of_ble_eq_true rfl) ?_
  intro p e s m args below meth c Q hx hb hml hown hT hK hZ hret hP hD hS ls hl
  replace hown : s.vm.findClass RX6 = some m.cls := hown
  replace hl : lv_has ls 5 [(0, .ref (ad 1)), (1, .int v1), (2, .int v2), (3, .int v3)] := hl
  unfold m_X6_addValue at hm
  refine lv_iload_n hx hb dX6_addValue_0 rfl (lv_at hl 1 rfl) ?_
  refine lv_bipush (v := (6 : Int32)) hx hb dX6_addValue_1 (by decide) ?_
  refine lv_imul hx hb dX6_addValue_3 ?_
  refine lv_iload_n hx hb dX6_addValue_4 rfl (lv_at hl 2 rfl) ?_
  refine lv_iadd hx hb dX6_addValue_5 ?_
  refine lv_istore (lv' := [(4, .int ((v1 * (6 : Int32)) + v2)), (0, .ref (ad 1)), (1, .int v1), (2, .int v2), (3, .int v3)]) hx hb dX6_addValue_6 hl (by decide) rfl (fun ls hl => ?_)
  refine lv_aload_n hx hb dX6_addValue_8 rfl (lv_at hl 1 rfl) ?_
  refine zget (v := .ref (ad 9)) hx hb hT zinX6 hown hK hP 1 rfl rfl 2 (by decide) zw83 rfl dX6_addValue_9 ?_
  refine lv_iload hx hb dX6_addValue_12 (lv_at hl 0 rfl) ?_
  refine lv_iconst (v := (3 : Int32)) hx hb dX6_addValue_14 (by decide) ?_
  refine lv_imul hx hb dX6_addValue_15 ?_
  refine lv_aload_n hx hb dX6_addValue_16 rfl (lv_at hl 1 rfl) ?_
  refine zget (v := .ref (ad 10)) hx hb hT zinX6 hown hK hP 1 rfl rfl 3 (by decide) zw84 rfl dX6_addValue_17 ?_
  refine lv_iload hx hb dX6_addValue_20 (lv_at hl 0 rfl) ?_
  obtain ⟨b1, eb1, hm⟩ := Option.bind_eq_some_iff.mp hm
  refine ziald hx hb hK hP 10 0 rfl rfl eb1 dX6_addValue_22 ?_
  refine lv_iadd hx hb dX6_addValue_23 ?_
  refine lv_iload_n hx hb dX6_addValue_24 rfl (lv_at hl 4 rfl) ?_
  obtain ⟨σ2, eσ2, hm⟩ := Option.bind_eq_some_iff.mp hm
  refine ziast (j := 1) hx hb hK hP hD hS 9 0 rfl rfl eσ2 (fun _ => rfl) dX6_addValue_25 (fun H locs hP hD hS => ?_)
  refine lv_aload_n hx hb dX6_addValue_26 rfl (lv_at hl 1 rfl) ?_
  refine zget (v := .ref (ad 10)) hx hb hT zinX6 hown hK hP 1 rfl rfl 3 (by decide) zw84 rfl dX6_addValue_27 ?_
  refine lv_iload hx hb dX6_addValue_30 (lv_at hl 0 rfl) ?_
  refine lv_dup2_11 hx hb dX6_addValue_32 rfl rfl ?_
  obtain ⟨b3, eb3, hm⟩ := Option.bind_eq_some_iff.mp hm
  refine ziald hx hb hK hP 10 0 rfl rfl eb3 dX6_addValue_33 ?_
  refine lv_iconst (v := (1 : Int32)) hx hb dX6_addValue_34 (by decide) ?_
  refine lv_iadd hx hb dX6_addValue_35 ?_
  obtain ⟨σ4, eσ4, hm⟩ := Option.bind_eq_some_iff.mp hm
  refine ziast (j := 2) hx hb hK hP hD hS 10 0 rfl rfl eσ4 (fun _ => rfl) dX6_addValue_36 (fun H locs hP hD hS => ?_)
  refine lv_aload_n hx hb dX6_addValue_37 rfl (lv_at hl 1 rfl) ?_
  refine zget (v := .ref (ad 10)) hx hb hT zinX6 hown hK hP 1 rfl rfl 3 (by decide) zw84 rfl dX6_addValue_38 ?_
  refine lv_iload hx hb dX6_addValue_41 (lv_at hl 0 rfl) ?_
  obtain ⟨b5, eb5, hm⟩ := Option.bind_eq_some_iff.mp hm
  refine ziald hx hb hK hP 10 0 rfl rfl eb5 dX6_addValue_43 ?_
  cases hm
  exact hret _ _ _ _ dX6_addValue_44 hP hD hS
set_option maxHeartbeats 4000000 in
set_option maxRecDepth 100000 in
theorem k_X6_matching {l : Launch} {D : va_G} {ad : Nat → Nat} {cI cJ cZ cO : ClassId} {t : Nat} {A : Nat → Prop} {N : Nat} {σ : zS}  {r : Int32}  (hm : m_X6_matching N σ = some r) : zCi l yX6_matching cX6_matching 3 (some .int) (zR 0 0) D zclX (zty cI cJ cZ cO) t A (zwX ad cI cJ cZ cO) [.ref (ad 1)] σ σ r := by
  refine zMi (by decide) (Nat.le_of_ble_eq_true rfl) ?_
  intro p e s m args below meth c Q hx hb hml hown hT hK hZ hret hP hD hS ls hl
  replace hown : s.vm.findClass RX6 = some m.cls := hown
  replace hl : lv_has ls 3 [(0, .ref (ad 1))] := hl
  have hL4 : ∀ (q : Int32 × Int32) (r : Int32), ziter (fun q : Int32 × Int32 => m_X6_matching_L4 N σ q.1 q.2) N q = some r → (∀ (H : Heap) (locs : List Loc) (ls : Array Slot), va_P D zclX (zwX ad cI cJ cZ cO σ) H → va_D A (zwX ad cI cJ cZ cO σ) → va_S A s.heap H locs → lv_has ls 3 [(1, .int r)] → W p l e (zR 0 0) s m args below meth c H locs 0 0 Q (F0 m 30 ls [])) → ∀ (H : Heap) (locs : List Loc) (ls : Array Slot), va_P D zclX (zwX ad cI cJ cZ cO σ) H → va_D A (zwX ad cI cJ cZ cO σ) → va_S A s.heap H locs → lv_has ls 3 [(0, .ref (ad 1)), (1, .int q.1), (2, .int q.2)] → W p l e (zR 0 0) s m args below meth c H locs 0 0 Q (F0 m 4 ls []) := by
    intro q r
    refine ziter_W (Hd := fun q : Int32 × Int32 => ∀ (H : Heap) (locs : List Loc) (ls : Array Slot), va_P D zclX (zwX ad cI cJ cZ cO σ) H → va_D A (zwX ad cI cJ cZ cO σ) → va_S A s.heap H locs → lv_has ls 3 [(0, .ref (ad 1)), (1, .int q.1), (2, .int q.2)] → W p l e (zR 0 0) s m args below meth c H locs 0 0 Q (F0 m 4 ls [])) (Ex := fun r : Int32 => ∀ (H : Heap) (locs : List Loc) (ls : Array Slot), va_P D zclX (zwX ad cI cJ cZ cO σ) H → va_D A (zwX ad cI cJ cZ cO σ) → va_S A s.heap H locs → lv_has ls 3 [(1, .int r)] → W p l e (zR 0 0) s m args below meth c H locs 0 0 Q (F0 m 30 ls [])) ?_ N q r
    rintro ⟨v1_1, v2_1⟩ res hm hk H locs ls hP hD hS hl
    try dsimp only at hP hD hl
    replace hm : m_X6_matching_L4 N σ v1_1 v2_1 = some res := hm
    have h24 : ∀ (v1_5 : Int32) (v2_5 : Int32), m_X6_matching_24_in4 N σ v1_5 v2_5 = some res → ∀ (H : Heap) (locs : List Loc) (ls : Array Slot), va_P D zclX (zwX ad cI cJ cZ cO σ) H → va_D A (zwX ad cI cJ cZ cO σ) → va_S A s.heap H locs → lv_has ls 3 [(0, .ref (ad 1)), (1, .int v1_5), (2, .int v2_5)] → W p l e (zR 0 0) s m args below meth c H locs 0 0 Q (F0 m 24 ls []) := by
      intro v1_5 v2_5 hm H locs ls hP hD hS hl
      unfold m_X6_matching_24_in4 at hm
      refine lv_iinc (v := (v2_5 + (1 : Int32))) (lv' := [(2, .int (v2_5 + (1 : Int32))), (0, .ref (ad 1)), (1, .int v1_5)]) hx hb dX6_matching_24 hl (k := 2) rfl rfl (by decide) rfl (fun ls hl => ?_)
      refine lv_goto (tgt := 4) hx hb dX6_matching_27 (by decide) ?_
      cases hm
      exact hk _ _ _ hP hD hS (lv_sub hl [1, 2, 0] rfl)
    unfold m_X6_matching_L4 at hm
    refine lv_iload_n hx hb dX6_matching_4 rfl (lv_at hl 2 rfl) ?_
    refine lv_aload_n hx hb dX6_matching_5 rfl (lv_at hl 0 rfl) ?_
    refine zget (v := .int (σ.1 2)) hx hb hT zinX6 hown hK hP 1 rfl rfl 0 (by decide) zw77 rfl dX6_matching_6 ?_
    refine lv_icmp_ge (tgt := 30) hx hb dX6_matching_9 (by decide) (fun h2 => ?_) (fun h2 => ?_)
    · rw [if_pos h2] at hm
      cases hm
      exact hk _ _ _ hP hD hS (lv_sub hl [1] rfl)
    · rw [if_neg h2] at hm
      refine lv_aload_n hx hb dX6_matching_12 rfl (lv_at hl 0 rfl) ?_
      refine zget (v := .ref (ad 8)) hx hb hT zinX6 hown hK hP 1 rfl rfl 1 (by decide) zw80 rfl dX6_matching_13 ?_
      refine lv_iload_n hx hb dX6_matching_16 rfl (lv_at hl 2 rfl) ?_
      obtain ⟨b3, eb3, hm⟩ := Option.bind_eq_some_iff.mp hm
      refine zzald hx hb hK hP 8 2 rfl rfl eb3 dX6_matching_17 ?_
      refine lv_if_eq (tgt := 24) hx hb dX6_matching_18 (by decide) (fun h4 => ?_) (fun h4 => ?_)
      · rw [if_pos h4] at hm
        exact h24 v1_1 v2_1 hm _ _ _ hP hD hS (lv_sub hl [0, 1, 2] rfl)
      · rw [if_neg h4] at hm
        refine lv_iinc (v := (v1_1 + (1 : Int32))) (lv' := [(1, .int (v1_1 + (1 : Int32))), (0, .ref (ad 1)), (2, .int v2_1)]) hx hb dX6_matching_21 hl (k := 1) rfl rfl (by decide) rfl (fun ls hl => ?_)
        exact h24 (v1_1 + (1 : Int32)) v2_1 hm _ _ _ hP hD hS (lv_sub hl [1, 0, 2] rfl)
  have h30 : ∀ (v1_8 : Int32), m_X6_matching_30 N σ v1_8 = some r → ∀ (H : Heap) (locs : List Loc) (ls : Array Slot), va_P D zclX (zwX ad cI cJ cZ cO σ) H → va_D A (zwX ad cI cJ cZ cO σ) → va_S A s.heap H locs → lv_has ls 3 [(1, .int v1_8)] → W p l e (zR 0 0) s m args below meth c H locs 0 0 Q (F0 m 30 ls []) := by
    intro v1_8 hm H locs ls hP hD hS hl
    unfold m_X6_matching_30 at hm
    refine lv_iload_n hx hb dX6_matching_30 rfl (lv_at hl 0 rfl) ?_
    cases hm
    exact hret _ _ _ _ dX6_matching_31 hP hD hS
  unfold m_X6_matching at hm
  refine lv_iconst (v := (0 : Int32)) hx hb dX6_matching_0 (by decide) ?_
  refine lv_istore_n (lv' := [(1, .int (0 : Int32)), (0, .ref (ad 1))]) hx hb dX6_matching_1 rfl hl (by decide) rfl (fun ls hl => ?_)
  refine lv_iconst (v := (0 : Int32)) hx hb dX6_matching_2 (by decide) ?_
  refine lv_istore_n (lv' := [(2, .int (0 : Int32)), (1, .int (0 : Int32)), (0, .ref (ad 1))]) hx hb dX6_matching_3 rfl hl (by decide) rfl (fun ls hl => ?_)
  obtain ⟨v1_7, e9, hm⟩ := Option.bind_eq_some_iff.mp hm
  refine hL4  _ v1_7 e9 ?_ _ _ _ hP hD hS (lv_sub hl [2, 1, 0] rfl)
  intro H locs ls hP hD hS hl
  try dsimp only at hP hD hl
  replace hm : m_X6_matching_30 N σ v1_7 = some r := hm
  exact h30 v1_7 hm _ _ _ hP hD hS (lv_sub hl [0] rfl)
set_option maxHeartbeats 4000000 in
set_option maxRecDepth 100000 in
theorem k_X7_startOver {l : Launch} {D : va_G} {ad : Nat → Nat} {cI cJ cZ cO : ClassId} {t : Nat} {A : Nat → Prop} {N : Nat} {σ σ' : zS}    (hm : m_X7_startOver N σ = some σ') : zCv l yX7_startOver cX7_startOver 1 (none) (zR 0 0) D zclX (zty cI cJ cZ cO) t A (zwX ad cI cJ cZ cO) [.ref (ad 5)] σ σ' := by
  refine zMv (by decide) (Nat.le_of_ble_eq_true rfl) ?_
  intro p e s m args below meth c Q hx hb hml hown hT hK hZ hret hP hD hS ls hl
  replace hown : s.vm.findClass RX7 = some m.cls := hown
  replace hl : lv_has ls 1 [(0, .ref (ad 5))] := hl
  unfold m_X7_startOver at hm
  refine lv_aload_n hx hb dX7_startOver_0 rfl (lv_at hl 0 rfl) ?_
  refine lv_iconst (v := (0 : Int32)) hx hb dX7_startOver_1 (by decide) ?_
  obtain ⟨σ1, eσ1, hm⟩ := Option.bind_eq_some_iff.mp hm
  refine zput (j := 7) (ty := .int) hx hb hT zinX7 tyX7 tyX7_ok nmX7 hown hK hP hD hS 5 rfl rfl 0 (by decide) zw233 rfl (by decide +kernel) rfl rfl (Nat.le_of_ble_eq_true rfl) eσ1 rfl dX7_startOver_2 (fun H locs hP hD hS => ?_)
  cases hm
  exact hret _ _ _ _ dX7_startOver_5 hP hD hS
set_option maxHeartbeats 4000000 in
set_option maxRecDepth 100000 in
theorem k_X7_take {l : Launch} {D : va_G} {ad : Nat → Nat} {cI cJ cZ cO : ClassId} {t : Nat} {A : Nat → Prop} {N : Nat} {σ σ' : zS} {v2 : Int32} {v3 : Int32}   (hm : m_X7_take N σ v2 v3 = some σ') : zCv l yX7_take cX7_take 6 (none) (zR 1 23) D zclX (zty cI cJ cZ cO) t A (zwX ad cI cJ cZ cO) [.ref (ad 5), .ref (ad 1), .int v2, .int v3] σ σ' := by
  refine zMv (by decide) (Nat.le_of_ble_eq_true rfl) ?_
  intro p e s m args below meth c Q hx hb hml hown hT hK hZ hret hP hD hS ls hl
  replace hown : s.vm.findClass RX7 = some m.cls := hown
  replace hl : lv_has ls 6 [(0, .ref (ad 5)), (1, .ref (ad 1)), (2, .int v2), (3, .int v3)] := hl
  have hL11 : ∀ (v4_2 : Int32), ∀ (q : zS × Int32) (r : zS), ziter (fun q : zS × Int32 => m_X7_take_L11 N v2 v3 v4_2 q.1 q.2) N q = some r → (∀ (H : Heap) (locs : List Loc) (ls : Array Slot), va_P D zclX (zwX ad cI cJ cZ cO r) H → va_D A (zwX ad cI cJ cZ cO r) → va_S A s.heap H locs → lv_has ls 6 [] → W p l e (zR 1 23) s m args below meth c H locs 0 0 Q (F0 m 62 ls [])) → ∀ (H : Heap) (locs : List Loc) (ls : Array Slot), va_P D zclX (zwX ad cI cJ cZ cO q.1) H → va_D A (zwX ad cI cJ cZ cO q.1) → va_S A s.heap H locs → lv_has ls 6 [(0, .ref (ad 5)), (1, .ref (ad 1)), (2, .int v2), (3, .int v3), (4, .int v4_2), (5, .int q.2)] → W p l e (zR 1 23) s m args below meth c H locs 0 0 Q (F0 m 11 ls []) := by
    intro v4_2
    intro q r
    refine ziter_W (Hd := fun q : zS × Int32 => ∀ (H : Heap) (locs : List Loc) (ls : Array Slot), va_P D zclX (zwX ad cI cJ cZ cO q.1) H → va_D A (zwX ad cI cJ cZ cO q.1) → va_S A s.heap H locs → lv_has ls 6 [(0, .ref (ad 5)), (1, .ref (ad 1)), (2, .int v2), (3, .int v3), (4, .int v4_2), (5, .int q.2)] → W p l e (zR 1 23) s m args below meth c H locs 0 0 Q (F0 m 11 ls [])) (Ex := fun r : zS => ∀ (H : Heap) (locs : List Loc) (ls : Array Slot), va_P D zclX (zwX ad cI cJ cZ cO r) H → va_D A (zwX ad cI cJ cZ cO r) → va_S A s.heap H locs → lv_has ls 6 [] → W p l e (zR 1 23) s m args below meth c H locs 0 0 Q (F0 m 62 ls [])) ?_ N q r
    rintro ⟨σ2, v5_2⟩ res hm hk H locs ls hP hD hS hl
    try dsimp only at hP hD hl
    replace hm : m_X7_take_L11 N v2 v3 v4_2 σ2 v5_2 = some res := hm
    unfold m_X7_take_L11 at hm
    refine lv_iload hx hb dX7_take_11 (lv_at hl 5 rfl) ?_
    refine lv_iload hx hb dX7_take_13 (lv_at hl 4 rfl) ?_
    refine lv_icmp_ge (tgt := 62) hx hb dX7_take_15 (by decide) (fun h3 => ?_) (fun h3 => ?_)
    · rw [if_pos h3] at hm
      cases hm
      exact hk _ _ _ hP hD hS (lv_sub hl [] rfl)
    · rw [if_neg h3] at hm
      refine lv_aload_n hx hb dX7_take_18 rfl (lv_at hl 0 rfl) ?_
      refine zget (v := .int (σ2.1 7)) hx hb hT zinX7 hown hK hP 5 rfl rfl 0 (by decide) zw233 rfl dX7_take_19 ?_
      refine lv_sipush (v := (360 : Int32)) hx hb dX7_take_22 (by decide) ?_
      refine lv_icmp_ge (tgt := 62) hx hb dX7_take_25 (by decide) (fun h4 => ?_) (fun h4 => ?_)
      · rw [if_pos h4] at hm
        cases hm
        exact hk _ _ _ hP hD hS (lv_sub hl [] rfl)
      · rw [if_neg h4] at hm
        refine lv_aload_n hx hb dX7_take_28 rfl (lv_at hl 0 rfl) ?_
        refine zget (v := .ref (ad 18)) hx hb hT zinX7 hown hK hP 5 rfl rfl 2 (by decide) zw235 rfl dX7_take_29 ?_
        refine lv_aload_n hx hb dX7_take_32 rfl (lv_at hl 0 rfl) ?_
        refine zget (v := .int (σ2.1 7)) hx hb hT zinX7 hown hK hP 5 rfl rfl 0 (by decide) zw233 rfl dX7_take_33 ?_
        refine lv_aload_n hx hb dX7_take_36 rfl (lv_at hl 1 rfl) ?_
        refine lv_iload_n hx hb dX7_take_37 rfl (lv_at hl 2 rfl) ?_
        refine lv_iload_n hx hb dX7_take_38 rfl (lv_at hl 3 rfl) ?_
        refine lv_iload hx hb dX7_take_39 (lv_at hl 5 rfl) ?_
        obtain ⟨b5, eb5, hm⟩ := Option.bind_eq_some_iff.mp hm
        refine zVi (rest := [.int (σ2.1 7), .ref (ad 18)]) [.int v2, .int v3, .int v5_2] hx hb hml hl.1 hown hT (k_X6_valueAt eb5) zkX6_valueAt zw576 ⟨by decide, by decide⟩ rfl rfl hK hZ hP hD hS 1 rfl rfl rfl rfl (Nat.le_of_ble_eq_true rfl) ⟨Nat.zero_le _, Nat.zero_le _⟩ dX7_take_41 (fun H locs hP hD hS => ?_)
        refine lv_i2l (v := b5.toInt64) hx hb dX7_take_44 rfl ?_
        obtain ⟨σ6, eσ6, hm⟩ := Option.bind_eq_some_iff.mp hm
        refine zlast (j := 3) hx hb hK hP hD hS 18 1 rfl rfl eσ6 (fun _ => rfl) dX7_take_45 (fun H locs hP hD hS => ?_)
        refine lv_aload_n hx hb dX7_take_46 rfl (lv_at hl 0 rfl) ?_
        refine lv_dup hx hb dX7_take_47 rfl ?_
        refine zget (v := .int (σ6.1 7)) hx hb hT zinX7 hown hK hP 5 rfl rfl 0 (by decide) zw233 rfl dX7_take_48 ?_
        refine lv_iconst (v := (1 : Int32)) hx hb dX7_take_51 (by decide) ?_
        refine lv_iadd hx hb dX7_take_52 ?_
        obtain ⟨σ7, eσ7, hm⟩ := Option.bind_eq_some_iff.mp hm
        refine zput (j := 7) (ty := .int) hx hb hT zinX7 tyX7 tyX7_ok nmX7 hown hK hP hD hS 5 rfl rfl 0 (by decide) zw233 rfl (by decide +kernel) rfl rfl (Nat.le_of_ble_eq_true rfl) eσ7 rfl dX7_take_53 (fun H locs hP hD hS => ?_)
        refine lv_iinc (v := (v5_2 + (1 : Int32))) (lv' := [(5, .int (v5_2 + (1 : Int32))), (0, .ref (ad 5)), (1, .ref (ad 1)), (2, .int v2), (3, .int v3), (4, .int v4_2)]) hx hb dX7_take_56 hl (k := 5) rfl rfl (by decide) rfl (fun ls hl => ?_)
        refine lv_goto (tgt := 11) hx hb dX7_take_59 (by decide) ?_
        cases hm
        exact hk _ _ _ hP hD hS (lv_sub hl [1, 2, 3, 4, 5, 0] rfl)
  have h62 : ∀ (σ10 : zS), m_X7_take_62 N v2 v3 σ10 = some σ' → ∀ (H : Heap) (locs : List Loc) (ls : Array Slot), va_P D zclX (zwX ad cI cJ cZ cO σ10) H → va_D A (zwX ad cI cJ cZ cO σ10) → va_S A s.heap H locs → lv_has ls 6 [] → W p l e (zR 1 23) s m args below meth c H locs 0 0 Q (F0 m 62 ls []) := by
    intro σ10 hm H locs ls hP hD hS hl
    unfold m_X7_take_62 at hm
    cases hm
    exact hret _ _ _ _ dX7_take_62 hP hD hS
  unfold m_X7_take at hm
  refine lv_aload_n hx hb dX7_take_0 rfl (lv_at hl 1 rfl) ?_
  refine lv_iload_n hx hb dX7_take_1 rfl (lv_at hl 2 rfl) ?_
  refine lv_iload_n hx hb dX7_take_2 rfl (lv_at hl 3 rfl) ?_
  obtain ⟨b1, eb1, hm⟩ := Option.bind_eq_some_iff.mp hm
  refine zVi (rest := []) [.int v2, .int v3] hx hb hml hl.1 hown hT (k_X6_valueCount eb1) zkX6_valueCount zw575 ⟨by decide, by decide⟩ rfl rfl hK hZ hP hD hS 1 rfl rfl rfl rfl (Nat.le_of_ble_eq_true rfl) ⟨Nat.zero_le _, Nat.zero_le _⟩ dX7_take_3 (fun H locs hP hD hS => ?_)
  refine lv_istore (lv' := [(4, .int b1), (0, .ref (ad 5)), (1, .ref (ad 1)), (2, .int v2), (3, .int v3)]) hx hb dX7_take_6 hl (by decide) rfl (fun ls hl => ?_)
  refine lv_iconst (v := (0 : Int32)) hx hb dX7_take_8 (by decide) ?_
  refine lv_istore (lv' := [(5, .int (0 : Int32)), (4, .int b1), (0, .ref (ad 5)), (1, .ref (ad 1)), (2, .int v2), (3, .int v3)]) hx hb dX7_take_9 hl (by decide) rfl (fun ls hl => ?_)
  obtain ⟨σ9, e11, hm⟩ := Option.bind_eq_some_iff.mp hm
  refine hL11 b1 _ σ9 e11 ?_ _ _ _ hP hD hS (lv_sub hl [2, 3, 4, 5, 1, 0] rfl)
  intro H locs ls hP hD hS hl
  try dsimp only at hP hD hl
  replace hm : m_X7_take_62 N v2 v3 σ9 = some σ' := hm
  exact h62 σ9 hm _ _ _ hP hD hS (lv_sub hl [] rfl)
set_option maxHeartbeats 4000000 in
set_option maxRecDepth 100000 in
theorem k_X7_sum {l : Launch} {D : va_G} {ad : Nat → Nat} {cI cJ cZ cO : ClassId} {t : Nat} {A : Nat → Prop} {N : Nat} {σ : zS}  {r : Int64}  (hm : m_X7_sum N σ = some r) : zCl l yX7_sum cX7_sum 4 (some .long) (zR 0 0) D zclX (zty cI cJ cZ cO) t A (zwX ad cI cJ cZ cO) [.ref (ad 5)] σ σ r := by
  refine zMl (by decide) (Nat.le_of_ble_eq_true rfl) ?_
  intro p e s m args below meth c Q hx hb hml hown hT hK hZ hret hP hD hS ls hl
  replace hown : s.vm.findClass RX7 = some m.cls := hown
  replace hl : lv_has ls 4 [(0, .ref (ad 5))] := hl
  have hL4 : ∀ (q : Int64 × Int32) (r : Int64), ziter (fun q : Int64 × Int32 => m_X7_sum_L4 N σ q.1 q.2) N q = some r → (∀ (H : Heap) (locs : List Loc) (ls : Array Slot), va_P D zclX (zwX ad cI cJ cZ cO σ) H → va_D A (zwX ad cI cJ cZ cO σ) → va_S A s.heap H locs → lv_has ls 4 [(1, .long r)] → W p l e (zR 0 0) s m args below meth c H locs 0 0 Q (F0 m 27 ls [])) → ∀ (H : Heap) (locs : List Loc) (ls : Array Slot), va_P D zclX (zwX ad cI cJ cZ cO σ) H → va_D A (zwX ad cI cJ cZ cO σ) → va_S A s.heap H locs → lv_has ls 4 [(0, .ref (ad 5)), (1, .long q.1), (3, .int q.2)] → W p l e (zR 0 0) s m args below meth c H locs 0 0 Q (F0 m 4 ls []) := by
    intro q r
    refine ziter_W (Hd := fun q : Int64 × Int32 => ∀ (H : Heap) (locs : List Loc) (ls : Array Slot), va_P D zclX (zwX ad cI cJ cZ cO σ) H → va_D A (zwX ad cI cJ cZ cO σ) → va_S A s.heap H locs → lv_has ls 4 [(0, .ref (ad 5)), (1, .long q.1), (3, .int q.2)] → W p l e (zR 0 0) s m args below meth c H locs 0 0 Q (F0 m 4 ls [])) (Ex := fun r : Int64 => ∀ (H : Heap) (locs : List Loc) (ls : Array Slot), va_P D zclX (zwX ad cI cJ cZ cO σ) H → va_D A (zwX ad cI cJ cZ cO σ) → va_S A s.heap H locs → lv_has ls 4 [(1, .long r)] → W p l e (zR 0 0) s m args below meth c H locs 0 0 Q (F0 m 27 ls [])) ?_ N q r
    rintro ⟨v1_1, v3_1⟩ res hm hk H locs ls hP hD hS hl
    try dsimp only at hP hD hl
    replace hm : m_X7_sum_L4 N σ v1_1 v3_1 = some res := hm
    unfold m_X7_sum_L4 at hm
    refine lv_iload_n hx hb dX7_sum_4 rfl (lv_at hl 2 rfl) ?_
    refine lv_aload_n hx hb dX7_sum_5 rfl (lv_at hl 0 rfl) ?_
    refine zget (v := .int (σ.1 7)) hx hb hT zinX7 hown hK hP 5 rfl rfl 0 (by decide) zw233 rfl dX7_sum_6 ?_
    refine lv_icmp_ge (tgt := 27) hx hb dX7_sum_9 (by decide) (fun h2 => ?_) (fun h2 => ?_)
    · rw [if_pos h2] at hm
      cases hm
      exact hk _ _ _ hP hD hS (lv_sub hl [1] rfl)
    · rw [if_neg h2] at hm
      refine lv_lload_n hx hb dX7_sum_12 rfl (lv_at hl 1 rfl) ?_
      refine lv_aload_n hx hb dX7_sum_13 rfl (lv_at hl 0 rfl) ?_
      refine zget (v := .ref (ad 18)) hx hb hT zinX7 hown hK hP 5 rfl rfl 2 (by decide) zw235 rfl dX7_sum_14 ?_
      refine lv_iload_n hx hb dX7_sum_17 rfl (lv_at hl 2 rfl) ?_
      obtain ⟨b3, eb3, hm⟩ := Option.bind_eq_some_iff.mp hm
      refine zlald hx hb hK hP 18 1 rfl rfl eb3 dX7_sum_18 ?_
      refine lv_ladd hx hb dX7_sum_19 ?_
      refine lv_lstore_n (lv' := [(1, .long (v1_1 + b3)), (0, .ref (ad 5)), (3, .int v3_1)]) hx hb dX7_sum_20 rfl hl (by decide) rfl (fun ls hl => ?_)
      refine lv_iinc (v := (v3_1 + (1 : Int32))) (lv' := [(3, .int (v3_1 + (1 : Int32))), (1, .long (v1_1 + b3)), (0, .ref (ad 5))]) hx hb dX7_sum_21 hl (k := 2) rfl rfl (by decide) rfl (fun ls hl => ?_)
      refine lv_goto (tgt := 4) hx hb dX7_sum_24 (by decide) ?_
      cases hm
      exact hk _ _ _ hP hD hS (lv_sub hl [2, 1, 0] rfl)
  have h27 : ∀ (v1_6 : Int64), m_X7_sum_27 N σ v1_6 = some r → ∀ (H : Heap) (locs : List Loc) (ls : Array Slot), va_P D zclX (zwX ad cI cJ cZ cO σ) H → va_D A (zwX ad cI cJ cZ cO σ) → va_S A s.heap H locs → lv_has ls 4 [(1, .long v1_6)] → W p l e (zR 0 0) s m args below meth c H locs 0 0 Q (F0 m 27 ls []) := by
    intro v1_6 hm H locs ls hP hD hS hl
    unfold m_X7_sum_27 at hm
    refine lv_lload_n hx hb dX7_sum_27 rfl (lv_at hl 0 rfl) ?_
    cases hm
    exact hret _ _ _ _ dX7_sum_28 hP hD hS
  unfold m_X7_sum at hm
  refine lv_lconst (v := (0 : Int64)) hx hb dX7_sum_0 (by decide) ?_
  refine lv_lstore_n (lv' := [(1, .long (0 : Int64)), (0, .ref (ad 5))]) hx hb dX7_sum_1 rfl hl (by decide) rfl (fun ls hl => ?_)
  refine lv_iconst (v := (0 : Int32)) hx hb dX7_sum_2 (by decide) ?_
  refine lv_istore_n (lv' := [(3, .int (0 : Int32)), (1, .long (0 : Int64)), (0, .ref (ad 5))]) hx hb dX7_sum_3 rfl hl (by decide) rfl (fun ls hl => ?_)
  obtain ⟨v1_5, e7, hm⟩ := Option.bind_eq_some_iff.mp hm
  refine hL4  _ v1_5 e7 ?_ _ _ _ hP hD hS (lv_sub hl [2, 1, 0] rfl)
  intro H locs ls hP hD hS hl
  try dsimp only at hP hD hl
  replace hm : m_X7_sum_27 N σ v1_5 = some r := hm
  exact h27 v1_5 hm _ _ _ hP hD hS (lv_sub hl [0] rfl)
set_option maxHeartbeats 4000000 in
set_option maxRecDepth 100000 in
theorem k_X7_atPlace {l : Launch} {D : va_G} {ad : Nat → Nat} {cI cJ cZ cO : ClassId} {t : Nat} {A : Nat → Prop} {N : Nat} {σ σ' : zS} {v1 : Int32} {r : Int32}  (hm : m_X7_atPlace N σ v1 = some (r, σ')) : zCi l yX7_atPlace cX7_atPlace 2 (some .int) (zR 2 85) D zclX (zty cI cJ cZ cO) t A (zwX ad cI cJ cZ cO) [.ref (ad 5), .int v1] σ σ' r := by
  refine zMi (by decide) (Nat.le_of_ble_eq_true rfl) ?_
  intro p e s m args below meth c Q hx hb hml hown hT hK hZ hret hP hD hS ls hl
  replace hown : s.vm.findClass RX7 = some m.cls := hown
  replace hl : lv_has ls 2 [(0, .ref (ad 5)), (1, .int v1)] := hl
  unfold m_X7_atPlace at hm
  refine lv_iload_n hx hb dX7_atPlace_0 rfl (lv_at hl 1 rfl) ?_
  refine lv_iconst (v := (1 : Int32)) hx hb dX7_atPlace_1 (by decide) ?_
  refine lv_icmp_lt (tgt := 13) hx hb dX7_atPlace_2 (by decide) (fun h1 => ?_) (fun h1 => ?_)
  · rw [if_pos h1] at hm
    refine lv_ldc hx hb hown (hT _ zw589) dX7_atPlace_13 ?_
    cases hm
    exact hret _ _ _ _ dX7_atPlace_15 hP hD hS
  · rw [if_neg h1] at hm
    refine lv_iload_n hx hb dX7_atPlace_5 rfl (lv_at hl 1 rfl) ?_
    refine lv_aload_n hx hb dX7_atPlace_6 rfl (lv_at hl 0 rfl) ?_
    refine zget (v := .int (σ.1 7)) hx hb hT zinX7 hown hK hP 5 rfl rfl 0 (by decide) zw233 rfl dX7_atPlace_7 ?_
    refine lv_icmp_le (tgt := 16) hx hb dX7_atPlace_10 (by decide) (fun h2 => ?_) (fun h2 => ?_)
    · rw [if_pos h2] at hm
      refine lv_aload_n hx hb dX7_atPlace_16 rfl (lv_at hl 0 rfl) ?_
      refine zget (v := .ref (ad 7)) hx hb hT zinX7 hown hK hP 5 rfl rfl 1 (by decide) zw234 rfl dX7_atPlace_17 ?_
      refine lv_aload_n hx hb dX7_atPlace_20 rfl (lv_at hl 0 rfl) ?_
      refine zget (v := .ref (ad 18)) hx hb hT zinX7 hown hK hP 5 rfl rfl 2 (by decide) zw235 rfl dX7_atPlace_21 ?_
      refine lv_aload_n hx hb dX7_atPlace_24 rfl (lv_at hl 0 rfl) ?_
      refine zget (v := .int (σ.1 7)) hx hb hT zinX7 hown hK hP 5 rfl rfl 0 (by decide) zw233 rfl dX7_atPlace_25 ?_
      obtain ⟨σ3, eσ3, hm⟩ := Option.bind_eq_some_iff.mp hm
      refine zVv (rest := []) [.ref (ad 18), .int (σ.1 7)] hx hb hml hl.1 hown hT (k_X5_sort (by decide) eσ3) zkX5_sort zw590 ⟨by decide, by decide⟩ rfl rfl hK hZ hP hD hS 7 rfl rfl rfl rfl (Nat.le_of_ble_eq_true rfl) ⟨Nat.zero_le _, Nat.zero_le _⟩ dX7_atPlace_28 (fun H locs hP hD hS => ?_)
      refine lv_aload_n hx hb dX7_atPlace_31 rfl (lv_at hl 0 rfl) ?_
      refine zget (v := .ref (ad 18)) hx hb hT zinX7 hown hK hP 5 rfl rfl 2 (by decide) zw235 rfl dX7_atPlace_32 ?_
      refine lv_iload_n hx hb dX7_atPlace_35 rfl (lv_at hl 1 rfl) ?_
      refine lv_iconst (v := (1 : Int32)) hx hb dX7_atPlace_36 (by decide) ?_
      refine lv_isub hx hb dX7_atPlace_37 ?_
      obtain ⟨b4, eb4, hm⟩ := Option.bind_eq_some_iff.mp hm
      refine zlald hx hb hK hP 18 1 rfl rfl eb4 dX7_atPlace_38 ?_
      refine lv_l2i (v := b4.toInt32) hx hb dX7_atPlace_39 rfl ?_
      cases hm
      exact hret _ _ _ _ dX7_atPlace_40 hP hD hS
    · rw [if_neg h2] at hm
      refine lv_ldc hx hb hown (hT _ zw589) dX7_atPlace_13 ?_
      cases hm
      exact hret _ _ _ _ dX7_atPlace_15 hP hD hS
set_option maxHeartbeats 4000000 in
set_option maxRecDepth 100000 in
theorem k_X7_different {l : Launch} {D : va_G} {ad : Nat → Nat} {cI cJ cZ cO : ClassId} {t : Nat} {A : Nat → Prop} {N : Nat} {σ σ' : zS}  {r : Int32}  (hm : m_X7_different N σ = some (r, σ')) : zCi l yX7_different cX7_different 3 (some .int) (zR 2 85) D zclX (zty cI cJ cZ cO) t A (zwX ad cI cJ cZ cO) [.ref (ad 5)] σ σ' r := by
  refine zMi (by decide) (Nat.le_of_ble_eq_true rfl) ?_
  intro p e s m args below meth c Q hx hb hml hown hT hK hZ hret hP hD hS ls hl
  replace hown : s.vm.findClass RX7 = some m.cls := hown
  replace hl : lv_has ls 3 [(0, .ref (ad 5))] := hl
  have hL19 : ∀ (σ2 : zS), ∀ (q : Int32 × Int32) (r : Int32), ziter (fun q : Int32 × Int32 => m_X7_different_L19 N σ2 q.1 q.2) N q = some r → (∀ (H : Heap) (locs : List Loc) (ls : Array Slot), va_P D zclX (zwX ad cI cJ cZ cO σ2) H → va_D A (zwX ad cI cJ cZ cO σ2) → va_S A s.heap H locs → lv_has ls 3 [(1, .int r)] → W p l e (zR 2 85) s m args below meth c H locs 0 0 Q (F0 m 58 ls [])) → ∀ (H : Heap) (locs : List Loc) (ls : Array Slot), va_P D zclX (zwX ad cI cJ cZ cO σ2) H → va_D A (zwX ad cI cJ cZ cO σ2) → va_S A s.heap H locs → lv_has ls 3 [(0, .ref (ad 5)), (1, .int q.1), (2, .int q.2)] → W p l e (zR 2 85) s m args below meth c H locs 0 0 Q (F0 m 19 ls []) := by
    intro σ2
    intro q r
    refine ziter_W (Hd := fun q : Int32 × Int32 => ∀ (H : Heap) (locs : List Loc) (ls : Array Slot), va_P D zclX (zwX ad cI cJ cZ cO σ2) H → va_D A (zwX ad cI cJ cZ cO σ2) → va_S A s.heap H locs → lv_has ls 3 [(0, .ref (ad 5)), (1, .int q.1), (2, .int q.2)] → W p l e (zR 2 85) s m args below meth c H locs 0 0 Q (F0 m 19 ls [])) (Ex := fun r : Int32 => ∀ (H : Heap) (locs : List Loc) (ls : Array Slot), va_P D zclX (zwX ad cI cJ cZ cO σ2) H → va_D A (zwX ad cI cJ cZ cO σ2) → va_S A s.heap H locs → lv_has ls 3 [(1, .int r)] → W p l e (zR 2 85) s m args below meth c H locs 0 0 Q (F0 m 58 ls [])) ?_ N q r
    rintro ⟨v1_2, v2_2⟩ res hm hk H locs ls hP hD hS hl
    try dsimp only at hP hD hl
    replace hm : m_X7_different_L19 N σ2 v1_2 v2_2 = some res := hm
    have h52 : ∀ (v1_6 : Int32) (v2_6 : Int32), m_X7_different_52_in19 N σ2 v1_6 v2_6 = some res → ∀ (H : Heap) (locs : List Loc) (ls : Array Slot), va_P D zclX (zwX ad cI cJ cZ cO σ2) H → va_D A (zwX ad cI cJ cZ cO σ2) → va_S A s.heap H locs → lv_has ls 3 [(0, .ref (ad 5)), (1, .int v1_6), (2, .int v2_6)] → W p l e (zR 2 85) s m args below meth c H locs 0 0 Q (F0 m 52 ls []) := by
      intro v1_6 v2_6 hm H locs ls hP hD hS hl
      unfold m_X7_different_52_in19 at hm
      refine lv_iinc (v := (v2_6 + (1 : Int32))) (lv' := [(2, .int (v2_6 + (1 : Int32))), (0, .ref (ad 5)), (1, .int v1_6)]) hx hb dX7_different_52 hl (k := 2) rfl rfl (by decide) rfl (fun ls hl => ?_)
      refine lv_goto (tgt := 19) hx hb dX7_different_55 (by decide) ?_
      cases hm
      exact hk _ _ _ hP hD hS (lv_sub hl [1, 2, 0] rfl)
    have h49 : ∀ (v1_5 : Int32) (v2_5 : Int32), m_X7_different_49_in19 N σ2 v1_5 v2_5 = some res → ∀ (H : Heap) (locs : List Loc) (ls : Array Slot), va_P D zclX (zwX ad cI cJ cZ cO σ2) H → va_D A (zwX ad cI cJ cZ cO σ2) → va_S A s.heap H locs → lv_has ls 3 [(0, .ref (ad 5)), (1, .int v1_5), (2, .int v2_5)] → W p l e (zR 2 85) s m args below meth c H locs 0 0 Q (F0 m 49 ls []) := by
      intro v1_5 v2_5 hm H locs ls hP hD hS hl
      unfold m_X7_different_49_in19 at hm
      refine lv_iinc (v := (v1_5 + (1 : Int32))) (lv' := [(1, .int (v1_5 + (1 : Int32))), (0, .ref (ad 5)), (2, .int v2_5)]) hx hb dX7_different_49 hl (k := 1) rfl rfl (by decide) rfl (fun ls hl => ?_)
      exact h52 (v1_5 + (1 : Int32)) v2_5 hm _ _ _ hP hD hS (lv_sub hl [1, 0, 2] rfl)
    unfold m_X7_different_L19 at hm
    refine lv_iload_n hx hb dX7_different_19 rfl (lv_at hl 2 rfl) ?_
    refine lv_aload_n hx hb dX7_different_20 rfl (lv_at hl 0 rfl) ?_
    refine zget (v := .int (σ2.1 7)) hx hb hT zinX7 hown hK hP 5 rfl rfl 0 (by decide) zw233 rfl dX7_different_21 ?_
    refine lv_icmp_ge (tgt := 58) hx hb dX7_different_24 (by decide) (fun h3 => ?_) (fun h3 => ?_)
    · rw [if_pos h3] at hm
      cases hm
      exact hk _ _ _ hP hD hS (lv_sub hl [1] rfl)
    · rw [if_neg h3] at hm
      refine lv_iload_n hx hb dX7_different_27 rfl (lv_at hl 2 rfl) ?_
      refine lv_if_eq (tgt := 49) hx hb dX7_different_28 (by decide) (fun h4 => ?_) (fun h4 => ?_)
      · rw [if_pos h4] at hm
        exact h49 v1_2 v2_2 hm _ _ _ hP hD hS (lv_sub hl [0, 1, 2] rfl)
      · rw [if_neg h4] at hm
        refine lv_aload_n hx hb dX7_different_31 rfl (lv_at hl 0 rfl) ?_
        refine zget (v := .ref (ad 18)) hx hb hT zinX7 hown hK hP 5 rfl rfl 2 (by decide) zw235 rfl dX7_different_32 ?_
        refine lv_iload_n hx hb dX7_different_35 rfl (lv_at hl 2 rfl) ?_
        obtain ⟨b7, eb7, hm⟩ := Option.bind_eq_some_iff.mp hm
        refine zlald hx hb hK hP 18 1 rfl rfl eb7 dX7_different_36 ?_
        refine lv_aload_n hx hb dX7_different_37 rfl (lv_at hl 0 rfl) ?_
        refine zget (v := .ref (ad 18)) hx hb hT zinX7 hown hK hP 5 rfl rfl 2 (by decide) zw235 rfl dX7_different_38 ?_
        refine lv_iload_n hx hb dX7_different_41 rfl (lv_at hl 2 rfl) ?_
        refine lv_iconst (v := (1 : Int32)) hx hb dX7_different_42 (by decide) ?_
        refine lv_isub hx hb dX7_different_43 ?_
        obtain ⟨b8, eb8, hm⟩ := Option.bind_eq_some_iff.mp hm
        refine zlald hx hb hK hP 18 1 rfl rfl eb8 dX7_different_44 ?_
        refine W.lcmp hx hb dX7_different_45 ?_
        refine lv_if_eq (tgt := 52) hx hb dX7_different_46 (by decide) (fun h9 => ?_) (fun h9 => ?_)
        · rw [if_pos h9] at hm
          exact h52 v1_2 v2_2 hm _ _ _ hP hD hS (lv_sub hl [0, 1, 2] rfl)
        · rw [if_neg h9] at hm
          exact h49 v1_2 v2_2 hm _ _ _ hP hD hS (lv_sub hl [0, 1, 2] rfl)
  have h58 : ∀ (σ12 : zS) (v1_12 : Int32), m_X7_different_58 N σ12 v1_12 = some (r, σ') → ∀ (H : Heap) (locs : List Loc) (ls : Array Slot), va_P D zclX (zwX ad cI cJ cZ cO σ12) H → va_D A (zwX ad cI cJ cZ cO σ12) → va_S A s.heap H locs → lv_has ls 3 [(1, .int v1_12)] → W p l e (zR 2 85) s m args below meth c H locs 0 0 Q (F0 m 58 ls []) := by
    intro σ12 v1_12 hm H locs ls hP hD hS hl
    unfold m_X7_different_58 at hm
    refine lv_iload_n hx hb dX7_different_58 rfl (lv_at hl 0 rfl) ?_
    cases hm
    exact hret _ _ _ _ dX7_different_59 hP hD hS
  unfold m_X7_different at hm
  refine lv_aload_n hx hb dX7_different_0 rfl (lv_at hl 0 rfl) ?_
  refine zget (v := .ref (ad 7)) hx hb hT zinX7 hown hK hP 5 rfl rfl 1 (by decide) zw234 rfl dX7_different_1 ?_
  refine lv_aload_n hx hb dX7_different_4 rfl (lv_at hl 0 rfl) ?_
  refine zget (v := .ref (ad 18)) hx hb hT zinX7 hown hK hP 5 rfl rfl 2 (by decide) zw235 rfl dX7_different_5 ?_
  refine lv_aload_n hx hb dX7_different_8 rfl (lv_at hl 0 rfl) ?_
  refine zget (v := .int (σ.1 7)) hx hb hT zinX7 hown hK hP 5 rfl rfl 0 (by decide) zw233 rfl dX7_different_9 ?_
  obtain ⟨σ1, eσ1, hm⟩ := Option.bind_eq_some_iff.mp hm
  refine zVv (rest := []) [.ref (ad 18), .int (σ.1 7)] hx hb hml hl.1 hown hT (k_X5_sort (by decide) eσ1) zkX5_sort zw590 ⟨by decide, by decide⟩ rfl rfl hK hZ hP hD hS 7 rfl rfl rfl rfl (Nat.le_of_ble_eq_true rfl) ⟨Nat.zero_le _, Nat.zero_le _⟩ dX7_different_12 (fun H locs hP hD hS => ?_)
  refine lv_iconst (v := (0 : Int32)) hx hb dX7_different_15 (by decide) ?_
  refine lv_istore_n (lv' := [(1, .int (0 : Int32)), (0, .ref (ad 5))]) hx hb dX7_different_16 rfl hl (by decide) rfl (fun ls hl => ?_)
  refine lv_iconst (v := (0 : Int32)) hx hb dX7_different_17 (by decide) ?_
  refine lv_istore_n (lv' := [(2, .int (0 : Int32)), (1, .int (0 : Int32)), (0, .ref (ad 5))]) hx hb dX7_different_18 rfl hl (by decide) rfl (fun ls hl => ?_)
  obtain ⟨v1_11, e13, hm⟩ := Option.bind_eq_some_iff.mp hm
  refine hL19 σ1 _ v1_11 e13 ?_ _ _ _ hP hD hS (lv_sub hl [2, 1, 0] rfl)
  intro H locs ls hP hD hS hl
  try dsimp only at hP hD hl
  replace hm : m_X7_different_58 N σ1 v1_11 = some (r, σ') := hm
  exact h58 σ1 v1_11 hm _ _ _ hP hD hS (lv_sub hl [0] rfl)
set_option maxHeartbeats 4000000 in
set_option maxRecDepth 100000 in
theorem k_X7_tell {l : Launch} {D : va_G} {ad : Nat → Nat} {cI cJ cZ cO : ClassId} {t : Nat} {A : Nat → Prop} {N : Nat} {σ σ' : zS} {v1 : Int32} {r : Int64}  (hm : m_X7_tell N σ v1 = some (r, σ')) : zCl l yX7_tell cX7_tell 2 (some .long) (zR 3 107) D zclX (zty cI cJ cZ cO) t A (zwX ad cI cJ cZ cO) [.ref (ad 5), .int v1] σ σ' r := by
  refine zMl (by decide) (Nat.le_of_ble_eq_true rfl) ?_
  intro p e s m args below meth c Q hx hb hml hown hT hK hZ hret hP hD hS ls hl
  replace hown : s.vm.findClass RX7 = some m.cls := hown
  replace hl : lv_has ls 2 [(0, .ref (ad 5)), (1, .int v1)] := hl
  unfold m_X7_tell at hm
  refine lv_iload_n hx hb dX7_tell_0 rfl (lv_at hl 1 rfl) ?_
  by_cases h1 : v1 = (0 : Int32)
  · rw [if_pos h1] at hm
    refine lv_tableIn (off := 35) (tgt := 36) hx hb dX7_tell_1 (by rw [h1]; decide) (by rw [h1]; decide) (by rw [h1]; rfl) (by decide) ?_
    refine lv_aload_n hx hb dX7_tell_36 rfl (lv_at hl 0 rfl) ?_
    refine zget (v := .int (σ.1 7)) hx hb hT zinX7 hown hK hP 5 rfl rfl 0 (by decide) zw233 rfl dX7_tell_37 ?_
    refine lv_i2l (v := (σ.1 7).toInt64) hx hb dX7_tell_40 rfl ?_
    cases hm
    exact hret _ _ _ _ dX7_tell_41 hP hD hS
  · rw [if_neg h1] at hm
    by_cases h2 : v1 = (1 : Int32)
    · rw [if_pos h2] at hm
      refine lv_tableIn (off := 41) (tgt := 42) hx hb dX7_tell_1 (by rw [h2]; decide) (by rw [h2]; decide) (by rw [h2]; rfl) (by decide) ?_
      refine lv_aload_n hx hb dX7_tell_42 rfl (lv_at hl 0 rfl) ?_
      obtain ⟨b3, eb3, hm⟩ := Option.bind_eq_some_iff.mp hm
      refine zVl (rest := []) [] hx hb hml hl.1 hown hT (k_X7_sum eb3) zkX7_sum zw581 ⟨by decide, by decide⟩ rfl rfl hK hZ hP hD hS 5 rfl rfl rfl rfl (Nat.le_of_ble_eq_true rfl) ⟨Nat.zero_le _, Nat.zero_le _⟩ dX7_tell_43 (fun H locs hP hD hS => ?_)
      cases hm
      exact hret _ _ _ _ dX7_tell_46 hP hD hS
    · rw [if_neg h2] at hm
      by_cases h4 : v1 = (2 : Int32)
      · rw [if_pos h4] at hm
        refine lv_tableIn (off := 46) (tgt := 47) hx hb dX7_tell_1 (by rw [h4]; decide) (by rw [h4]; decide) (by rw [h4]; rfl) (by decide) ?_
        refine lv_aload_n hx hb dX7_tell_47 rfl (lv_at hl 0 rfl) ?_
        refine lv_iconst (v := (1 : Int32)) hx hb dX7_tell_48 (by decide) ?_
        obtain ⟨⟨b5, σ7⟩, eb5, hm⟩ := Option.bind_eq_some_iff.mp hm
        try dsimp only at hm
        refine zVi (rest := []) [.int (1 : Int32)] hx hb hml hl.1 hown hT (k_X7_atPlace eb5) zkX7_atPlace zw585 ⟨by decide, by decide⟩ rfl rfl hK hZ hP hD hS 5 rfl rfl rfl rfl (Nat.le_of_ble_eq_true rfl) ⟨Nat.zero_le _, Nat.zero_le _⟩ dX7_tell_49 (fun H locs hP hD hS => ?_)
        refine lv_i2l (v := b5.toInt64) hx hb dX7_tell_52 rfl ?_
        cases hm
        exact hret _ _ _ _ dX7_tell_53 hP hD hS
      · rw [if_neg h4] at hm
        by_cases h8 : v1 = (3 : Int32)
        · rw [if_pos h8] at hm
          refine lv_tableIn (off := 53) (tgt := 54) hx hb dX7_tell_1 (by rw [h8]; decide) (by rw [h8]; decide) (by rw [h8]; rfl) (by decide) ?_
          refine lv_aload_n hx hb dX7_tell_54 rfl (lv_at hl 0 rfl) ?_
          refine lv_aload_n hx hb dX7_tell_55 rfl (lv_at hl 0 rfl) ?_
          refine zget (v := .int (σ.1 7)) hx hb hT zinX7 hown hK hP 5 rfl rfl 0 (by decide) zw233 rfl dX7_tell_56 ?_
          obtain ⟨⟨b9, σ11⟩, eb9, hm⟩ := Option.bind_eq_some_iff.mp hm
          try dsimp only at hm
          refine zVi (rest := []) [.int (σ.1 7)] hx hb hml hl.1 hown hT (k_X7_atPlace eb9) zkX7_atPlace zw585 ⟨by decide, by decide⟩ rfl rfl hK hZ hP hD hS 5 rfl rfl rfl rfl (Nat.le_of_ble_eq_true rfl) ⟨Nat.zero_le _, Nat.zero_le _⟩ dX7_tell_59 (fun H locs hP hD hS => ?_)
          refine lv_i2l (v := b9.toInt64) hx hb dX7_tell_62 rfl ?_
          cases hm
          exact hret _ _ _ _ dX7_tell_63 hP hD hS
        · rw [if_neg h8] at hm
          by_cases h12 : v1 = (4 : Int32)
          · rw [if_pos h12] at hm
            refine lv_tableIn (off := 63) (tgt := 64) hx hb dX7_tell_1 (by rw [h12]; decide) (by rw [h12]; decide) (by rw [h12]; rfl) (by decide) ?_
            refine lv_aload_n hx hb dX7_tell_64 rfl (lv_at hl 0 rfl) ?_
            obtain ⟨⟨b13, σ15⟩, eb13, hm⟩ := Option.bind_eq_some_iff.mp hm
            try dsimp only at hm
            refine zVi (rest := []) [] hx hb hml hl.1 hown hT (k_X7_different eb13) zkX7_different zw591 ⟨by decide, by decide⟩ rfl rfl hK hZ hP hD hS 5 rfl rfl rfl rfl (Nat.le_of_ble_eq_true rfl) ⟨Nat.zero_le _, Nat.zero_le _⟩ dX7_tell_65 (fun H locs hP hD hS => ?_)
            refine lv_i2l (v := b13.toInt64) hx hb dX7_tell_68 rfl ?_
            cases hm
            exact hret _ _ _ _ dX7_tell_69 hP hD hS
          · rw [if_neg h12] at hm
            have ah1 := lv_neT (a := 0) h1 (by decide)
            have ah2 := lv_neT (a := 1) h2 (by decide)
            have ah4 := lv_neT (a := 2) h4 (by decide)
            have ah8 := lv_neT (a := 3) h8 (by decide)
            have ah12 := lv_neT (a := 4) h12 (by decide)
            refine lv_tableOut (tgt := 70) hx hb dX7_tell_1 (by omega) (by decide) ?_
            refine lv_ldc2 hx hb hown (hT _ zw595) dX7_tell_70 ?_
            cases hm
            exact hret _ _ _ _ dX7_tell_73 hP hD hS
set_option maxHeartbeats 4000000 in
set_option maxRecDepth 100000 in
theorem k_J9_max_7cf53 {l : Launch} {D : va_G} {ad : Nat → Nat} {cI cJ cZ cO : ClassId} {t : Nat} {A : Nat → Prop} {N : Nat} {σ : zS} {v0 : Int32} {v1 : Int32} {r : Int32}  (hm : m_J9_max_7cf53 N σ v0 v1 = some r) : zCi l yJ9_max_7cf53 cJ9_max_7cf53 2 (some .int) (zR 0 0) D zclX (zty cI cJ cZ cO) t A (zwX ad cI cJ cZ cO) [.int v0, .int v1] σ σ r := by
  refine zMiF (by decide +kernel) (Nat.le_of_ble_eq_true rfl) ?_
  intro p e s m args below meth c Q hx hb hml hown hT hK hZ hret hP hD hS ls hl
  replace hown : s.vm.findClass RJ9 = some m.cls := hown
  replace hl : lv_has ls 2 [(0, .int v0), (1, .int v1)] := hl
  unfold m_J9_max_7cf53 at hm
  refine lv_iload_n hx hb dJ9_max_7cf53_0 rfl (lv_at hl 0 rfl) ?_
  refine lv_iload_n hx hb dJ9_max_7cf53_1 rfl (lv_at hl 1 rfl) ?_
  refine lv_icmp_lt (tgt := 9) hx hb dJ9_max_7cf53_2 (by decide) (fun h1 => ?_) (fun h1 => ?_)
  · rw [if_pos h1] at hm
    refine lv_iload_n hx hb dJ9_max_7cf53_9 rfl (lv_at hl 1 rfl) ?_
    cases hm
    exact hret _ _ _ _ dJ9_max_7cf53_10 hP hD hS
  · rw [if_neg h1] at hm
    refine lv_iload_n hx hb dJ9_max_7cf53_5 rfl (lv_at hl 0 rfl) ?_
    refine lv_goto (tgt := 10) hx hb dJ9_max_7cf53_6 (by decide) ?_
    cases hm
    exact hret _ _ _ _ dJ9_max_7cf53_10 hP hD hS
set_option maxHeartbeats 4000000 in
set_option maxRecDepth 100000 in
theorem k_X7_atPercent {l : Launch} {D : va_G} {ad : Nat → Nat} {cI cJ cZ cO : ClassId} {t : Nat} {A : Nat → Prop} {N : Nat} {σ σ' : zS} {v1 : Int32} {r : Int32}  (hm : m_X7_atPercent N σ v1 = some (r, σ')) : zCi l yX7_atPercent cX7_atPercent 2 (some .int) (zR 3 106) D zclX (zty cI cJ cZ cO) t A (zwX ad cI cJ cZ cO) [.ref (ad 5), .int v1] σ σ' r := by
  refine zMi (by decide) (Nat.le_of_ble_eq_true rfl) ?_
  intro p e s m args below meth c Q hx hb hml hown hT hK hZ hret hP hD hS ls hl
  replace hown : s.vm.findClass RX7 = some m.cls := hown
  replace hl : lv_has ls 2 [(0, .ref (ad 5)), (1, .int v1)] := hl
  unfold m_X7_atPercent at hm
  refine lv_aload_n hx hb dX7_atPercent_0 rfl (lv_at hl 0 rfl) ?_
  refine lv_iconst (v := (1 : Int32)) hx hb dX7_atPercent_1 (by decide) ?_
  refine lv_iload_n hx hb dX7_atPercent_2 rfl (lv_at hl 1 rfl) ?_
  refine lv_aload_n hx hb dX7_atPercent_3 rfl (lv_at hl 0 rfl) ?_
  refine zget (v := .int (σ.1 7)) hx hb hT zinX7 hown hK hP 5 rfl rfl 0 (by decide) zw233 rfl dX7_atPercent_4 ?_
  refine lv_imul hx hb dX7_atPercent_7 ?_
  refine lv_bipush (v := (99 : Int32)) hx hb dX7_atPercent_8 (by decide) ?_
  refine lv_iadd hx hb dX7_atPercent_10 ?_
  refine lv_bipush (v := (100 : Int32)) hx hb dX7_atPercent_11 (by decide) ?_
  refine lv_idiv hx hb dX7_atPercent_13 (by decide) ?_
  obtain ⟨b1, eb1, hm⟩ := Option.bind_eq_some_iff.mp hm
  refine zSi (rest := [.ref (ad 5)]) [.int (1 : Int32), .int (((v1 * (σ.1 7)) + (99 : Int32)) / (100 : Int32))] hx hb hml hl.1 hown hT (k_J9_max_7cf53 eb1) zkJ9_max_7cf53 zw605 ⟨by decide, by decide⟩ rfl rfl hK hZ hP hD hS rfl rfl (Nat.le_of_ble_eq_true rfl) ⟨Nat.zero_le _, Nat.zero_le _⟩ dX7_atPercent_14 (fun H locs hP hD hS => ?_)
  obtain ⟨⟨b2, σ4⟩, eb2, hm⟩ := Option.bind_eq_some_iff.mp hm
  try dsimp only at hm
  refine zVi (rest := []) [.int b1] hx hb hml hl.1 hown hT (k_X7_atPlace eb2) zkX7_atPlace zw585 ⟨by decide, by decide⟩ rfl rfl hK hZ hP hD hS 5 rfl rfl rfl rfl (Nat.le_of_ble_eq_true rfl) ⟨Nat.zero_le _, Nat.zero_le _⟩ dX7_atPercent_17 (fun H locs hP hD hS => ?_)
  cases hm
  exact hret _ _ _ _ dX7_atPercent_20 hP hD hS
set_option maxHeartbeats 4000000 in
set_option maxRecDepth 100000 in
theorem k_X8_facetAt {l : Launch} {D : va_G} {ad : Nat → Nat} {cI cJ cZ cO : ClassId} {t : Nat} {A : Nat → Prop} {N : Nat} {σ : zS} {v1 : Int32} {r : Option Nat}  (hm : m_X8_facetAt N σ v1 = some r) : zCq l yX8_facetAt cX8_facetAt 2 (some (.object "FacetFigures$Facet")) (zR 0 0) D zclX (zty cI cJ cZ cO) t A (zwX ad cI cJ cZ cO) [.ref (ad 0), .int v1] σ σ (r.map (fun k => ad (20 + k))) := by
  refine zMq (Or.inl ⟨_, rfl⟩) (by decide) (Nat.le_of_ble_eq_true rfl) ?_
  intro p e s m args below meth c Q hx hb hml hown hT hK hZ hret hP hD hS ls hl
  replace hown : s.vm.findClass RX8 = some m.cls := hown
  replace hl : lv_has ls 2 [(0, .ref (ad 0)), (1, .int v1)] := hl
  unfold m_X8_facetAt at hm
  refine lv_iload_n hx hb dX8_facetAt_0 rfl (lv_at hl 1 rfl) ?_
  refine lv_if_lt (tgt := 21) hx hb dX8_facetAt_1 (by decide) (fun h1 => ?_) (fun h1 => ?_)
  · rw [if_pos h1] at hm
    refine lv_null hx hb dX8_facetAt_21 ?_
    cases hm
    exact hret _ _ _ _ dX8_facetAt_22 hP hD hS
  · rw [if_neg h1] at hm
    refine lv_iload_n hx hb dX8_facetAt_4 rfl (lv_at hl 1 rfl) ?_
    refine lv_aload_n hx hb dX8_facetAt_5 rfl (lv_at hl 0 rfl) ?_
    refine zget (v := .int (σ.1 0)) hx hb hT zinX8 hown hK hP 0 rfl rfl 5 (by decide) zw249 rfl dX8_facetAt_6 ?_
    refine lv_icmp_ge (tgt := 21) hx hb dX8_facetAt_9 (by decide) (fun h2 => ?_) (fun h2 => ?_)
    · rw [if_pos h2] at hm
      refine lv_null hx hb dX8_facetAt_21 ?_
      cases hm
      exact hret _ _ _ _ dX8_facetAt_22 hP hD hS
    · rw [if_neg h2] at hm
      refine lv_aload_n hx hb dX8_facetAt_12 rfl (lv_at hl 0 rfl) ?_
      refine zget (v := .ref (ad 3)) hx hb hT zinX8 hown hK hP 0 rfl rfl 2 (by decide) zw246 rfl dX8_facetAt_13 ?_
      refine lv_iload_n hx hb dX8_facetAt_16 rfl (lv_at hl 1 rfl) ?_
      obtain ⟨k3, ek3, hm⟩ := Option.bind_eq_some_iff.mp hm
      have hk3 : k3 < 10 := zrd_lt ek3
      refine zaald hx hb hK hP 3 3 rfl rfl ek3 dX8_facetAt_17 ?_
      refine lv_goto (tgt := 22) hx hb dX8_facetAt_18 (by decide) ?_
      cases hm
      exact hret _ _ _ _ dX8_facetAt_22 hP hD hS
