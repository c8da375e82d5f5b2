/-! leave, hand, told -/
theorem o_leave {N : Nat} {σ μ : zS} (h : zRE σ μ) (hN : 3000 < N) : zop (m_X8_leave N σ) (m_X9_leave N μ) := by
  have h0 := h
  obtain ⟨n, cn, vs, mt, FL, e, d, hF, hD, hH, hC⟩ := h
  obtain ⟨c1, c2, c3, c4, c5⟩ := id hH
  unfold m_X8_leave m_X9_leave
  rw [c2, c3]
  by_cases he : e = 0
  · rw [if_pos (show nI e = 0 by rw [he]; rfl), if_pos (show nI e = 0 by rw [he]; rfl)]
    exact zop.same h0
  rw [if_neg (nI_ne0 (by omega) (by omega)), if_neg (nI_ne0 (by omega) (by omega))]
  obtain ⟨l, rfl⟩ : ∃ l, e = l + 1 := ⟨e - 1, by omega⟩
  unfold m_X3_widen zop
  rw [c2, if_neg (nI_nle (by omega) (by omega)), nI_pred]
  refine zok_bind (zok_bind (w_shrink (N := N) (σ := σ) (t := l) (d := d) (fun o ho => ⟨(c4 o ho).1, by have := (c4 o ho).2; omega⟩) (by omega) hN) (fun s hs => zok_some hs)) ?_
  rintro s ⟨dp, rfl, hdp⟩
  rw [Option.bind_some]
  refine zok_some ?_
  rw [Option.bind_some]
  refine zok_some ⟨?_, ?_⟩
  · have a1 : (zsI (zsA (zsI σ 3 (nI l)) 3 dp) 1 (-2000000000)).1 3 = nI l := (zsI_ne (zsA (zsI σ 3 (nI l)) 3 dp) (k := 1) (j := 3) (-2000000000) (by omega)).trans (zsI_at σ 3 (nI l))
    have a2 : (zsI μ 2 (nI l)).1 2 = nI l := zsI_at μ 2 (nI l)
    exact a1.trans a2.symm
  · show zRE (zsI (zsA (zsI σ 3 (nI l)) 3 dp) 1 (-2000000000)) (zsI μ 2 (nI l))
    have hq : zqx σ (zsI (zsA (zsI σ 3 (nI l)) 3 dp) 1 (-2000000000)) := ⟨fun j hj => (zsI_ne (zsA (zsI σ 3 (nI l)) 3 dp) _ (by omega)).trans (zsI_ne σ _ (by omega)), fun j hj => zsA_ne (zsI σ 3 (nI l)) _ (by omega)⟩
    refine ⟨n, cn, vs, mt, FL, l, fun o => min (d o) l, (hF.qx hq).moved rfl (fun _ _ => rfl) (fun _ _ => rfl) rfl (fun _ _ _ => rfl), (hD.qx hq).moved rfl (fun _ _ => rfl) rfl (fun _ _ => rfl), ⟨by omega, ?_, zsI_at μ 2 _, fun o ho => ⟨hdp o ho, Nat.min_le_right _ _⟩, fun o i ho hi => ?_⟩, Or.inl (zsI_at (zsA (zsI σ 3 (nI l)) 3 dp) 1 (-2000000000))⟩
    · exact (zsI_ne (zsA (zsI σ 3 (nI l)) 3 dp) (k := 1) (j := 3) (-2000000000) (by omega)).trans (zsI_at σ 3 (nI l))
    · show μ.2.1 17 (120 * i + o) = _
      rw [c5 o i ho (by omega)]
      congr 2
      show decide (i + 1 ≤ d o) = decide (i + 1 ≤ min (d o) l)
      exact decide_eq_decide.mpr ⟨fun q => by omega, fun q => by omega⟩
theorem zcount {α : Type} {P : α → Bool} {l : List α} {x : α} : ((l ++ [x]).filter P).length = (l.filter P).length + (P x).toNat := by
  rw [List.filter_append, List.length_append]
  congr 1
  cases h : P x
  · rw [List.filter_cons_of_neg (by rw [h]; decide)]; rfl
  · rw [List.filter_cons_of_pos h]; rfl
theorem w_handM {N : Nat} {μ : zS} {n : Nat} {P : Nat → Bool} (h0 : μ.1 0 = nI n) (hn : n ≤ 120) (hN : 3000 < N) (hP : ∀ o, o < n → m_X9_atHand N μ (nI o) = some (zbo (P o))) : m_X9_hand N μ = some (nI ((List.range n).filter P).length) := by
  have main : zok (ziter (fun q : Int32 × Int32 => m_X9_hand_L4 N μ q.1 q.2) N ((0 : Int32), (0 : Int32))) (fun r => r = nI ((List.range n).filter P).length) := by
    refine zok_for n (fun i q => q = (nI ((List.range i).filter P).length, nI i)) ?_ ?_ n N 0 _ (by omega) rfl (by omega)
    · rintro i q hi rfl
      show zok (m_X9_hand_L4 N μ _ (nI i)) _
      unfold m_X9_hand_L4 m_X9_hand_26_in4
      rw [h0, if_neg (nI_ge hi (by omega)), hP i hi, Option.bind_some, nI_1]
      have e := zcount (P := P) (l := List.range i) (x := i)
      rw [← List.range_succ] at e
      cases hp : P i
      · rw [if_pos (show zbo false = 0 from rfl)]
        refine zok_some ?_
        show _ = _
        rw [e, hp]
        show (nI ((List.range i).filter P).length + nI 0, nI (i + 1)) = _
        rw [nI_add]; rfl
      · rw [if_neg (show ¬ zbo true = 0 by decide)]
        refine zok_some ?_
        show _ = _
        rw [e, hp]
        show (nI ((List.range i).filter P).length + nI 1, nI (i + 1)) = _
        rw [nI_add]; rfl
    · rintro q rfl
      show zok (m_X9_hand_L4 N μ _ (nI n)) _
      unfold m_X9_hand_L4
      rw [h0, if_pos (Int32.le_refl _)]
      exact zok_some rfl
  obtain ⟨r, e, rfl⟩ := main
  unfold m_X9_hand m_X9_hand_34
  rw [e, Option.bind_some]
theorem o_hand {N : Nat} {σ μ : zS} (h : zRE σ μ) (hN : 3000 < N) : ∃ r, m_X8_hand N σ = some r ∧ m_X9_hand N μ = some r := by
  obtain ⟨n, cn, vs, mt, FL, e, d, hF, hD, hH, hC⟩ := h
  have hn := hD.2.2.2.2.2.2.2.2.1
  refine ⟨_, ?_, w_handM (P := fun o => mt o && decide (e ≤ d o)) hD.2.1 hn hN (fun o ho => (zR_has hD hH ho).2)⟩
  have main : zok (ziter (fun q : Int32 × Int32 => m_X8_hand_L4 N σ q.1 q.2) N ((0 : Int32), (0 : Int32))) (fun r => r = nI ((List.range n).filter (fun o => mt o && decide (e ≤ d o))).length) := by
    refine zok_for n (fun i q => q = (nI ((List.range i).filter (fun o => mt o && decide (e ≤ d o))).length, nI i)) ?_ ?_ n N 0 _ (by omega) rfl (by omega)
    · rintro i q hi rfl
      show zok (m_X8_hand_L4 N σ _ (nI i)) _
      unfold m_X8_hand_L4 m_X8_hand_29_in4
      rw [hD.1, if_neg (nI_ge hi (by omega)), (zR_has hD hH hi).1, Option.bind_some, nI_1, nI_1]
      have e2 := zcount (P := fun o => mt o && decide (e ≤ d o)) (l := List.range i) (x := i)
      rw [← List.range_succ] at e2
      cases hp : (mt i && decide (e ≤ d i))
      · rw [hp] at e2
        rw [if_pos (show zbo false = 0 from rfl)]
        refine zok_some ?_
        show _ = _
        rw [e2]; rfl
      · rw [hp] at e2
        rw [if_neg (show ¬ zbo true = 0 by decide)]
        refine zok_some ?_
        show _ = _
        rw [e2]; rfl
    · rintro q rfl
      show zok (m_X8_hand_L4 N σ _ (nI n)) _
      unfold m_X8_hand_L4
      rw [hD.1, if_pos (Int32.le_refl _)]
      exact zok_some rfl
  obtain ⟨r, e, rfl⟩ := main
  unfold m_X8_hand m_X8_hand_35
  rw [e, Option.bind_some]
theorem o_told {N : Nat} {σ μ : zS} (h : zRE σ μ) (hN : 3000 < N) (v : Int32) : ∃ r, m_X8_told N σ v = some r ∧ m_X9_told N μ v = some r := by
  obtain ⟨n, cn, vs, mt, FL, e, d, hF, hD, hH, hC⟩ := h
  obtain ⟨b1, b2, b3, b4, b5, b6, b7, b8, b9, b10, b11⟩ := hD
  have mx : zok (ziter (fun q : Int32 × Int32 => m_X6_matching_L4 N σ q.1 q.2) N ((0 : Int32), (0 : Int32))) (fun r => r = nI ((List.range n).filter mt).length) := by
    refine zok_for n (fun i q => q = (nI ((List.range i).filter mt).length, nI i)) ?_ ?_ n N 0 _ (by omega) rfl (by omega)
    · rintro i q hi rfl
      show zok (m_X6_matching_L4 N σ _ (nI i)) _
      unfold m_X6_matching_L4 m_X6_matching_24_in4
      rw [b1, if_neg (nI_ge hi (by omega)), zrd_nI (by omega) (by omega), b7, Option.bind_some, nI_1, nI_1]
      have e2 := zcount (P := mt) (l := List.range i) (x := i)
      rw [← List.range_succ] at e2
      cases hp : mt i
      · rw [hp] at e2
        rw [if_pos (show zbo false = 0 from rfl)]
        refine zok_some ?_
        show _ = _
        rw [e2]; rfl
      · rw [hp] at e2
        rw [if_neg (show ¬ zbo true = 0 by decide)]
        refine zok_some ?_
        show _ = _
        rw [e2]; rfl
    · rintro q rfl
      show zok (m_X6_matching_L4 N σ _ (nI n)) _
      unfold m_X6_matching_L4
      rw [b1, if_pos (Int32.le_refl _)]
      exact zok_some rfl
  have mm : zok (ziter (fun q : Int32 × Int32 => m_X9_told_L4 N μ v q.1 q.2) N ((0 : Int32), (0 : Int32))) (fun r => r = nI ((List.range n).filter mt).length) := by
    refine zok_for n (fun i q => q = (nI ((List.range i).filter mt).length, nI i)) ?_ ?_ n N 0 _ (by omega) rfl (by omega)
    · rintro i q hi rfl
      show zok (m_X9_told_L4 N μ v _ (nI i)) _
      unfold m_X9_told_L4 m_X9_told_27_in4
      rw [b2, if_neg (nI_ge hi (by omega)), zrd_nI (by omega) (by omega), b8, Option.bind_some, nI_1]
      have e2 := zcount (P := mt) (l := List.range i) (x := i)
      rw [← List.range_succ] at e2
      cases hp : mt i
      · rw [hp] at e2
        rw [if_pos (show zbo false = 0 from rfl)]
        refine zok_some ?_
        show _ = _
        rw [e2]
        show (nI ((List.range i).filter mt).length + nI 0, nI (i + 1)) = _
        rw [nI_add]; rfl
      · rw [hp] at e2
        rw [if_neg (show ¬ zbo true = 0 by decide)]
        refine zok_some ?_
        show _ = _
        rw [e2]
        show (nI ((List.range i).filter mt).length + nI 1, nI (i + 1)) = _
        rw [nI_add]; rfl
    · rintro q rfl
      show zok (m_X9_told_L4 N μ v _ (nI n)) _
      unfold m_X9_told_L4
      rw [b2, if_pos (Int32.le_refl _)]
      exact zok_some rfl
  obtain ⟨rx, ex, rfl⟩ := mx
  obtain ⟨rm, em, rfl⟩ := mm
  unfold m_X8_told m_X9_told m_X9_told_35 m_X6_matching m_X6_matching_30
  rw [em, ex, Option.bind_some, Option.bind_some, Option.bind_some, b1, b2, hF.2.2.1, hF.2.2.2, hH.2.1, hH.2.2.1]
  by_cases q0 : v = 0
  · rw [if_pos q0]; exact ⟨_, rfl, rfl⟩
  rw [if_neg q0]
  by_cases q1 : v = 1
  · rw [if_pos q1]; exact ⟨_, rfl, rfl⟩
  rw [if_neg q1]
  by_cases q2 : v = 2
  · rw [if_pos q2]; exact ⟨_, rfl, rfl⟩
  rw [if_neg q2]
  by_cases q3 : v = 3
  · rw [if_pos q3]; exact ⟨_, rfl, rfl⟩
  rw [if_neg q3]
  exact ⟨_, rfl, rfl⟩
