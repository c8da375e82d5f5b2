/-! the law's loop: every run of calls -/
def zin18 (i : Nat) (s : ((zS × zS) × Int32) ⊕ (zS × zS)) : Prop := Sum.elim (fun q => ∃ σ μ, q = ((σ, μ), nI (5 * (i + 1))) ∧ zRE σ μ) (fun _ => True) s
theorem zl_851 {N L i : Nat} {xs : Nat → Int32} {σ μ : zS} (h : zRE σ μ) : zok (m_L_law_851_in18 N L xs (σ, μ) (nI (5 * i))) (zin18 i) := by
  unfold m_L_law_851_in18
  have e : nI (5 * i) + 5 = nI (5 * (i + 1)) := (nI_add (5 * i) 5).trans (by rw [show 5 * i + 5 = 5 * (i + 1) by omega])
  rw [e]
  exact zok_some ⟨σ, μ, rfl, h⟩
theorem zl_end {N L i : Nat} {xs : Nat → Int32} {A B : Option (Int32 × zS)} (h : zop A B) : zok (A.bind fun p => B.bind fun q => if p.1 = q.1 then m_L_law_851_in18 N L xs (p.2, q.2) (nI (5 * i)) else none) (zin18 i) := by
  obtain ⟨p, rfl, q, rfl, e, hR⟩ := h
  rw [Option.bind_some, Option.bind_some, if_pos e]
  exact zl_851 hR
theorem zl_end64 {N L i : Nat} {xs : Nat → Int32} {A B : Option (Int64 × zS)} (h : zop A B) : zok (A.bind fun p => B.bind fun q => if lg_cmp p.1 q.1 = 0 then m_L_law_851_in18 N L xs (p.2, q.2) (nI (5 * i)) else none) (zin18 i) := by
  obtain ⟨p, rfl, q, rfl, e, hR⟩ := h
  rw [Option.bind_some, Option.bind_some, if_pos ((lg_0 _ _).mpr e)]
  exact zl_851 hR
theorem zl_tell {N L i : Nat} {xs : Nat → Int32} {σ μ : zS} {A B : Option Int32} (hR : zRE σ μ) (h : ∃ r, A = some r ∧ B = some r) : zok (A.bind fun p => B.bind fun q => if p = q then m_L_law_851_in18 N L xs (σ, μ) (nI (5 * i)) else none) (zin18 i) := by
  obtain ⟨r, rfl, rfl⟩ := h
  rw [Option.bind_some, Option.bind_some, if_pos rfl]
  exact zl_851 hR
theorem zl_step {N L i : Nat} {xs : Nat → Int32} {σ μ : zS} (h : zRE σ μ) (hN : 3000 < N) (hL : L ≤ 2560) (hi : 5 * i + 5 ≤ L) : zok (m_L_law_L18 N L xs (σ, μ) (nI (5 * i))) (zin18 i) := by
  have r0 : zrd L xs (nI (5 * i)) = some (xs (5 * i)) := zrd_nI (by omega) (by omega)
  have r1 : zrd L xs (nI (5 * i) + 1) = some (xs (5 * i + 1)) := by rw [nI_1]; exact zrd_nI (by omega) (by omega)
  have r2 : zrd L xs (nI (5 * i) + 2) = some (xs (5 * i + 2)) := by rw [show nI (5 * i) + 2 = nI (5 * i + 2) from nI_add _ 2]; exact zrd_nI (by omega) (by omega)
  have r3 : zrd L xs (nI (5 * i) + 3) = some (xs (5 * i + 3)) := by rw [show nI (5 * i) + 3 = nI (5 * i + 3) from nI_add _ 3]; exact zrd_nI (by omega) (by omega)
  have r4 : zrd L xs (nI (5 * i) + 4) = some (xs (5 * i + 4)) := by rw [show nI (5 * i) + 4 = nI (5 * i + 4) from nI_add _ 4]; exact zrd_nI (by omega) (by omega)
  have hc : ¬ (Int32.ofNat L - 5) < nI (5 * i) := by
    have e : Int32.ofNat L - 5 = nI (L - 5) := pk_sub (a := L) (b := 5) (by omega)
    rw [e]
    exact nI_nlt (by omega) (by omega)
  unfold m_L_law_L18
  rw [if_neg hc, r0, Option.bind_some]
  generalize xs (5 * i) = b3
  generalize xs (5 * i + 1) = x1 at r1
  generalize xs (5 * i + 2) = x2 at r2
  generalize xs (5 * i + 3) = x3 at r3
  generalize xs (5 * i + 4) = x4 at r4
  by_cases c0 : (b3 &&& (31 : Int32)) = (0 : Int32)
  · rw [if_pos c0]
    exact zl_end (o_object h hN)
  rw [if_neg c0]
  by_cases c1 : (b3 &&& (31 : Int32)) = (1 : Int32)
  · rw [if_pos c1]
    simp only [r1, r2, r3, Option.bind_some]
    exact zl_end (o_value h hN x1 x2 x3)
  rw [if_neg c1]
  by_cases c2 : (b3 &&& (31 : Int32)) = (2 : Int32)
  · rw [if_pos c2]
    simp only [r1, r2, Option.bind_some]
    by_cases z : x2 = 0
    · rw [if_pos z]
      unfold m_L_law_203_in18
      simp only [r1, r2, Option.bind_some]
      simp only [if_pos z]
      exact zl_end (o_match h hN x1 false)
    · rw [if_neg z]
      unfold m_L_law_203_in18
      simp only [r1, r2, Option.bind_some]
      simp only [if_neg z]
      exact zl_end (o_match h hN x1 true)
  rw [if_neg c2]
  by_cases c3 : (b3 &&& (31 : Int32)) = (3 : Int32)
  · rw [if_pos c3]
    exact zl_end (o_clear h hN)
  rw [if_neg c3]
  by_cases c4 : (b3 &&& (31 : Int32)) = (4 : Int32)
  · rw [if_pos c4]
    simp only [r1, r2, r3, r4, Option.bind_some]
    exact zl_end (o_facet h hN x1 x2 x3 x4)
  rw [if_neg c4]
  by_cases c5 : (b3 &&& (31 : Int32)) = (5 : Int32)
  · rw [if_pos c5]
    simp only [r1, r2, r3, Option.bind_some]
    exact zl_end (o_range h hN x1 x2 x3)
  rw [if_neg c5]
  by_cases c6 : (b3 &&& (31 : Int32)) = (6 : Int32)
  · rw [if_pos c6]
    simp only [r1, r2, r3, r4, Option.bind_some]
    exact zl_end (o_filter h hN x1 x2 x3 x4)
  rw [if_neg c6]
  by_cases c7 : (b3 &&& (31 : Int32)) = (7 : Int32)
  · rw [if_pos c7]
    simp only [r1, r2, Option.bind_some]
    exact zl_end (o_least h hN x1 x2)
  rw [if_neg c7]
  by_cases c8 : (b3 &&& (31 : Int32)) = (8 : Int32)
  · rw [if_pos c8]
    simp only [r1, r2, Option.bind_some]
    by_cases z : x2 = 0
    · rw [if_pos z]
      unfold m_L_law_447_in18
      simp only [r1, r2, Option.bind_some]
      simp only [if_pos z]
      exact zl_end (o_missing h hN x1 false)
    · rw [if_neg z]
      unfold m_L_law_447_in18
      simp only [r1, r2, Option.bind_some]
      simp only [if_neg z]
      exact zl_end (o_missing h hN x1 true)
  rw [if_neg c8]
  by_cases c9 : (b3 &&& (31 : Int32)) = (9 : Int32)
  · rw [if_pos c9]
    simp only [r1, r2, r3, Option.bind_some]
    exact zl_end (o_order h hN x1 x2 x3)
  rw [if_neg c9]
  by_cases c10 : (b3 &&& (31 : Int32)) = (10 : Int32)
  · rw [if_pos c10]
    simp only [r1, Option.bind_some]
    exact zl_end (o_groups h hN x1)
  rw [if_neg c10]
  by_cases c11 : (b3 &&& (31 : Int32)) = (11 : Int32)
  · rw [if_pos c11]
    simp only [r1, r2, r3, Option.bind_some]
    exact zl_end (o_group h hN x1 x2 x3)
  rw [if_neg c11]
  by_cases c12 : (b3 &&& (31 : Int32)) = (12 : Int32)
  · rw [if_pos c12]
    simp only [r1, r2, Option.bind_some]
    exact zl_end (o_find h hN x1 x2)
  rw [if_neg c12]
  by_cases c13 : (b3 &&& (31 : Int32)) = (13 : Int32)
  · rw [if_pos c13]
    simp only [r1, r2, r3, Option.bind_some]
    exact zl_end (o_in h hN x1 x2 x3)
  rw [if_neg c13]
  by_cases c14 : (b3 &&& (31 : Int32)) = (14 : Int32)
  · rw [if_pos c14]
    simp only [r1, r2, Option.bind_some]
    exact zl_end (o_enter h hN x1 x2)
  rw [if_neg c14]
  by_cases c15 : (b3 &&& (31 : Int32)) = (15 : Int32)
  · rw [if_pos c15]
    exact zl_end (o_leave h hN)
  rw [if_neg c15]
  by_cases c16 : (b3 &&& (31 : Int32)) = (16 : Int32)
  · rw [if_pos c16]
    exact zl_tell h (o_hand h hN)
  rw [if_neg c16]
  by_cases c17 : (b3 &&& (31 : Int32)) = (17 : Int32)
  · rw [if_pos c17]
    simp only [r1, r2, r3, r4, Option.bind_some]
    exact zl_end64 (o_figure h hN x1 x2 x3 x4)
  rw [if_neg c17]
  by_cases c18 : (b3 &&& (31 : Int32)) = (18 : Int32)
  · rw [if_pos c18]
    simp only [r1, r2, r3, r4, Option.bind_some]
    exact zl_end (o_place h hN x1 x2 x3 x4)
  rw [if_neg c18]
  by_cases c19 : (b3 &&& (31 : Int32)) = (19 : Int32)
  · rw [if_pos c19]
    simp only [r1, Option.bind_some]
    exact zl_tell h (o_told h hN x1)
  rw [if_neg c19]
  exact zl_851 h
theorem zRE_0 : zRE zX0 zM0 := by
  refine zR_new (n := 0) (cn := fun _ => 0) (vs := fun _ => 0) (mt := fun _ => false) (FL := []) ⟨fun k F hk => (by cases hk), Nat.zero_le _, rfl, rfl⟩ ⟨rfl, rfl, rfl, rfl, rfl, rfl, fun _ => rfl, fun _ => rfl, Nat.zero_le _, fun i => ⟨0, Nat.zero_le _, rfl⟩, fun i => ?_⟩ ⟨rfl, rfl, fun _ _ => rfl⟩ rfl
  have z : (0 : Int32).toInt = 0 := rfl
  show -1000000000 ≤ (0 : Int32).toInt ∧ (0 : Int32).toInt ≤ 1000000000
  omega
theorem law_ok : law_fine := by
  intro L xs hL
  have main : zok (ziter (fun q : (zS × zS) × Int32 => m_L_law_L18 5000 L xs q.1 q.2) 5000 ((zX0, zM0), (0 : Int32))) (fun _ => True) := by
    refine zok_for (L / 5) (fun i q => ∃ σ μ, q = ((σ, μ), nI (5 * i)) ∧ zRE σ μ) ?_ ?_ (L / 5) 5000 0 _ (Nat.zero_add _) ⟨zX0, zM0, rfl, zRE_0⟩ (by omega)
    · rintro i q hi ⟨σ, μ, rfl, h⟩
      exact zl_step h (by omega) hL (by omega)
    · rintro q ⟨σ, μ, rfl, h⟩
      show zok (m_L_law_L18 5000 L xs (σ, μ) (nI (5 * (L / 5)))) _
      unfold m_L_law_L18
      have hc : (Int32.ofNat L - 5) < nI (5 * (L / 5)) := by
        apply Int32.lt_iff_toInt_lt.mpr
        have e : (Int32.ofNat L - 5).toInt = (L : Int) - 5 := pk_sub_toInt (a := L) (b := 5) (by omega) (by omega)
        rw [e, nI_toInt (by omega)]
        omega
      rw [if_pos hc]
      exact zok_some trivial
  obtain ⟨r, e, -⟩ := main
  exact ⟨5000, r, e⟩
