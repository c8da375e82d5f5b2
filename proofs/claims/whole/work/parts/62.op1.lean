/-! calls that change objects -/
def zu6 (f : Nat → Int32) (a : Nat) : Nat → (Nat → Int32)
  | 0 => f
  | c + 1 => upd (zu6 f a c) (a + c) 0
theorem zu6_c {f : Nat → Int32} {a : Nat} (hf : ∀ i, ∃ c, c ≤ 3 ∧ f i = nI c) : ∀ (c i : Nat), ∃ x, x ≤ 3 ∧ zu6 f a c i = nI x
  | 0, i => hf i
  | c + 1, i => by
    by_cases h : i = a + c
    · subst h
      exact ⟨0, by omega, upd_at _ _ _⟩
    · obtain ⟨x, h1, h2⟩ := zu6_c hf c i
      exact ⟨x, h1, (upd_ne _ _ h).trans h2⟩
theorem w_obj {N : Nat} {σ μ : zS} {n : Nat} (h1 : σ.1 2 = nI n) (h2 : μ.1 0 = nI n) (hn : n ≤ 120) (v : Int32) : (∃ o, o < n ∧ v = nI o ∧ m_X6_has N σ v = some 1 ∧ m_X9_isObject N μ v = some 1) ∨ (m_X6_has N σ v = some 0 ∧ m_X9_isObject N μ v = some 0) := by
  unfold m_X6_has m_X9_isObject
  rw [h1, h2]
  rcases w_idx (N := N) (μ := μ) (n := n) (by omega) v with ⟨o, ho, e, q1, q2, q3⟩ | ⟨q, q3⟩
  · left
    refine ⟨o, ho, e, by rw [if_neg q1, if_neg q2], by rw [q3]; rfl⟩
  · right
    refine ⟨?_, by rw [q3]; rfl⟩
    rcases q with q | ⟨q, q2⟩
    · rw [if_pos q]
    · rw [if_neg q, if_pos q2]
theorem w_col {N : Nat} {σ μ : zS} (v : Int32) : (∃ c, c ≤ 5 ∧ v = nI c ∧ m_X8_isColumn N σ v = some 1 ∧ m_X9_isColumn N μ v = some 1) ∨ (m_X8_isColumn N σ v = some 0 ∧ m_X9_isColumn N μ v = some 0) := by
  unfold m_X8_isColumn m_X9_isColumn
  rcases w_idx (N := N) (μ := μ) (n := 6) (by omega) v with ⟨o, ho, e, q1, q2, q3⟩ | ⟨q, q3⟩
  · left
    have q2 : ¬ (6 : Int32) ≤ v := q2
    have q3 : m_X9_within N μ v 0 5 = some 1 := q3
    refine ⟨o, by omega, e, by rw [if_neg q1, if_neg q2], by rw [q3]; rfl⟩
  · right
    have q3 : m_X9_within N μ v 0 5 = some 0 := q3
    refine ⟨?_, by rw [q3]; rfl⟩
    rcases q with q | ⟨q, q2⟩
    · rw [if_pos q]
    · have q2 : (6 : Int32) ≤ v := q2
      rw [if_neg q, if_pos q2]
theorem w_val {N : Nat} {σ μ : zS} (v : Int32) : (-1000000000 ≤ v.toInt ∧ v.toInt ≤ 1000000000 ∧ m_X8_isValue N σ v = some 1 ∧ m_X9_isValue N μ v = some 1) ∨ (m_X8_isValue N σ v = some 0 ∧ m_X9_isValue N μ v = some 0) := by
  have c1 : (-1000000000 : Int32).toInt = -1000000000 := by decide
  have c2 : (1000000000 : Int32).toInt = 1000000000 := by decide
  unfold m_X8_isValue m_X9_isValue m_X9_within
  by_cases h1 : v < -1000000000
  · right
    rw [if_pos h1]
    exact ⟨rfl, rfl⟩
  · rw [if_neg h1]
    by_cases h2 : 1000000000 < v
    · right
      rw [if_pos h2]
      exact ⟨rfl, rfl⟩
    · left
      have a1 := Int32.le_iff_toInt_le.mp (Int32.not_lt.mp h1)
      have a2 := Int32.le_iff_toInt_le.mp (Int32.not_lt.mp h2)
      rw [if_neg h2]
      exact ⟨by omega, by omega, rfl, rfl⟩
theorem w_fac {N : Nat} {σ μ : zS} {FL : List zF} (h : zFs σ μ FL) (v : Int32) : (∃ k F, FL[k]? = some F ∧ v = nI k ∧ m_X8_facetAt N σ v = some (some k) ∧ m_X9_isFacet N μ v = some 1) ∨ (m_X8_facetAt N σ v = some none ∧ m_X9_isFacet N μ v = some 0) := by
  obtain ⟨-, h10, h1, h2⟩ := h
  unfold m_X8_facetAt m_X9_isFacet
  rw [h1, h2]
  rcases w_idx (N := N) (μ := μ) (n := FL.length) (by omega) v with ⟨o, ho, e, q1, q2, q3⟩ | ⟨q, q3⟩
  · left
    refine ⟨o, FL[o], List.getElem?_eq_getElem ho, e, ?_, by rw [q3]; rfl⟩
    rw [if_neg q1, if_neg q2, e, zrd_nI (by omega) (by omega)]
    rfl
  · right
    refine ⟨?_, by rw [q3]; rfl⟩
    rcases q with q | ⟨q, q2⟩
    · rw [if_pos q]
    · rw [if_neg q, if_pos q2]
def zmt (mt : Nat → Bool) (n : Nat) (b : Bool) : Nat → Bool := fun o => if o = n then b else mt o
theorem zmt_upd {f : Nat → Int32} {mt : Nat → Bool} (h : ∀ o, f o = zbo (mt o)) (n : Nat) (b : Bool) (o : Nat) : upd f n (zbo b) o = zbo (zmt mt n b o) := by
  unfold zmt
  by_cases q : o = n
  · subst q
    rw [upd_at, if_pos rfl]
  · rw [upd_ne _ _ q, if_neg q]
    exact h o
theorem o_object {N : Nat} {σ μ : zS} (h : zRE σ μ) (hN : 3000 < N) : zop (m_X8_object N σ) (m_X9_object N μ) := by
  have h0 := h
  obtain ⟨n, cn, vs, mt, FL, e, d, hF, hD, hH, hC⟩ := h
  have hn := hD.2.2.2.2.2.2.2.2.1
  unfold m_X8_object m_X9_object
  rw [hD.1, hD.2.1]
  by_cases hr : n = 120
  · rw [if_neg (show ¬ nI n < (120 : Int32) from nI_nlt (b := 120) (by omega) (by omega)), if_pos (show nI n = (120 : Int32) by rw [hr]; rfl)]
    exact zop.same h0
  rw [if_pos (show nI n < (120 : Int32) from nI_lt (b := 120) (by omega) (by omega)), if_neg (show ¬ nI n = (120 : Int32) from fun q => hr ((nI_eq (b := 120) (by omega) (by omega)).mp q))]
  unfold zop
  refine zok_bind (w_leaveAll hH hN) ?_
  rintro σ1 ⟨hq, hl⟩
  obtain ⟨b1, b2, b3, b4, b5, b6, b7, b8, b9, b10, b11⟩ := hD.qx hq
  have hF1 := hF.qx hq
  unfold m_X6_addObject
  rw [b1, zwA_nI (by omega) (by omega), Option.bind_some]
  refine zok_bind (P := fun r => r = (nI n, zsI (zsA (zsA σ1 0 (upd (σ1.2.1 0) n 0)) 2 (zu6 cn (6 * n) 6)) 2 (nI (n + 1)))) ?_ ?_
  · refine zok_bind (P := fun s => s = zsA (zsA σ1 0 (upd (σ1.2.1 0) n 0)) 2 (zu6 cn (6 * n) 6)) ?_ ?_
    · refine zok_for 6 (fun c q => q = (zsA (zsA σ1 0 (upd (σ1.2.1 0) n 0)) 2 (zu6 cn (6 * n) c), nI c)) ?_ ?_ 6 N 0 _ rfl ?_ (by omega)
      · rintro c q hc rfl
        show zok (m_X6_addObject_L14 N (nI n) (zsA (zsA σ1 0 (upd (σ1.2.1 0) n 0)) 2 (zu6 cn (6 * n) c)) (nI c)) _
        unfold m_X6_addObject_L14
        have e6 : nI n * 6 = nI (6 * n) := by rw [Nat.mul_comm]; exact pk_mul n 6
        rw [if_neg (show ¬ (6 : Int32) ≤ nI c from nI_ge (b := 6) hc (by omega)), e6, nI_add, zwA_nI (by omega) (by omega), Option.bind_some, zsA_idem, zsA_at (zsA σ1 0 (upd (σ1.2.1 0) n 0)) 2, nI_1]
        exact zok_some rfl
      · rintro q rfl
        show zok (m_X6_addObject_L14 N (nI n) (zsA (zsA σ1 0 (upd (σ1.2.1 0) n 0)) 2 (zu6 cn (6 * n) 6)) (nI 6)) _
        unfold m_X6_addObject_L14
        rw [if_pos (show (6 : Int32) ≤ nI 6 from Int32.le_refl _)]
        exact zok_some rfl
      · have e2 : (zsA σ1 0 (upd (σ1.2.1 0) n 0)).2.1 2 = cn := b3
        show (zsA σ1 0 (upd (σ1.2.1 0) n 0), nI 0) = (zsA (zsA σ1 0 (upd (σ1.2.1 0) n 0)) 2 cn, nI 0)
        rw [← e2, zsA_self]
    · rintro s rfl
      unfold m_X6_addObject_38
      rw [Option.bind_some]
      have e2 : (zsA (zsA σ1 0 (upd (σ1.2.1 0) n 0)) 2 (zu6 cn (6 * n) 6)).1 2 = nI n := b1
      rw [e2, nI_1]
      exact zok_some rfl
  rintro p rfl
  refine zok_some ?_
  refine zok_bind (P := fun s => s = zsA μ 0 (zu6 cn (6 * n) 6)) ?_ ?_
  · refine zok_for 6 (fun c q => q = (zsA μ 0 (zu6 cn (6 * n) c), nI c)) ?_ ?_ 6 N 0 _ rfl ?_ (by omega)
    · rintro c q hc rfl
      show zok (m_X9_object_L14 N (zsA μ 0 (zu6 cn (6 * n) c)) (nI c)) _
      unfold m_X9_object_L14
      have e0 : (zsA μ 0 (zu6 cn (6 * n) c)).1 0 = nI n := hD.2.1
      have e6 : (6 : Int32) * nI n = nI (6 * n) := pk_mul 6 n
      rw [if_neg (show ¬ (6 : Int32) ≤ nI c from nI_ge (b := 6) hc (by omega)), e0, e6, nI_add, zwA_nI (by omega) (by omega), Option.bind_some, zsA_idem, zsA_at μ 0, nI_1]
      exact zok_some rfl
    · rintro q rfl
      show zok (m_X9_object_L14 N (zsA μ 0 (zu6 cn (6 * n) 6)) (nI 6)) _
      unfold m_X9_object_L14
      rw [if_pos (show (6 : Int32) ≤ nI 6 from Int32.le_refl _)]
      exact zok_some rfl
    · show (μ, nI 0) = (zsA μ 0 cn, nI 0)
      rw [← hD.2.2.2.1, zsA_self]
  rintro s rfl
  unfold m_X9_object_41 m_X9_changes
  have e0 : (zsA μ 0 (zu6 cn (6 * n) 6)).1 0 = nI n := hD.2.1
  rw [e0, zwA_nI (by omega) (by omega), Option.bind_some, Option.bind_some, Option.bind_some, Option.bind_some]
  refine zok_some ⟨?_, ?_⟩
  · show nI n = ((zsA μ 0 (zu6 cn (6 * n) 6)).1 0 + 1) - 1
    rw [e0, nI_1, nI_pred]
  · refine zR_new (n := n + 1) (cn := zu6 cn (6 * n) 6) (vs := vs) (mt := zmt mt n false) (FL := FL) ?_ ?_ ?_ ?_
    · exact hF1.moved rfl (fun j hj => zsI_ne _ _ (by omega)) (fun j hj => (zsA_ne (zsA σ1 0 (upd (σ1.2.1 0) n 0)) _ (by omega)).trans (zsA_ne σ1 _ (by omega))) rfl (fun j h1 h2 => (zsA_ne (zsA μ 0 (zu6 cn (6 * n) 6)) _ (by omega)).trans (zsA_ne μ _ (by omega)))
    · refine ⟨zsI_at _ 2 _, ?_, rfl, rfl, b5, b6, fun o => ?_, fun o => ?_, by omega, zu6_c b10 6, b11⟩
      · show (zsA μ 0 (zu6 cn (6 * n) 6)).1 0 + 1 = _
        rw [e0, nI_1]
      · exact zmt_upd b7 n false o
      · exact zmt_upd b8 n false o
    · exact ((hl.sA (by omega)).sA (by omega)).sI (by omega) (by omega)
    · exact zsI_at _ 2 _
theorem o_value {N : Nat} {σ μ : zS} (h : zRE σ μ) (hN : 3000 < N) (v1 v2 v3 : Int32) : zop (m_X8_value N σ v1 v2 v3) (m_X9_value N μ v1 v2 v3) := by
  have h0 := h
  obtain ⟨n, cn, vs, mt, FL, e, d, hF, hD, hH, hC⟩ := h
  have hn := hD.2.2.2.2.2.2.2.2.1
  unfold m_X8_value m_X9_value
  rcases (w_obj (N := N) hD.1 hD.2.1 hn v1).symm with ⟨q1, q2⟩ | ⟨o, ho, rfl, q1, q2⟩
  · rw [q1, q2, Option.bind_some, Option.bind_some, if_pos rfl, if_pos rfl]
    exact zop.same h0
  rw [q1, q2, Option.bind_some, Option.bind_some, if_neg (by decide), if_neg (by decide)]
  rcases (w_col (N := N) (σ := σ) (μ := μ) v2).symm with ⟨q3, q4⟩ | ⟨c, hc, rfl, q3, q4⟩
  · rw [q3, q4, Option.bind_some, Option.bind_some, if_pos rfl, if_pos rfl]
    exact zop.same h0
  rw [q3, q4, Option.bind_some, Option.bind_some, if_neg (by decide), if_neg (by decide)]
  rcases (w_val (N := N) (σ := σ) (μ := μ) v3).symm with ⟨q5, q6⟩ | ⟨g1, g2, q5, q6⟩
  · rw [q5, q6, Option.bind_some, Option.bind_some, if_pos rfl, if_pos rfl]
    exact zop.same h0
  rw [q5, q6, Option.bind_some, Option.bind_some, if_neg (by decide), if_neg (by decide)]
  have e6 : nI o * 6 = nI (6 * o) := by rw [Nat.mul_comm]; exact pk_mul o 6
  have e6' : (6 : Int32) * nI o = nI (6 * o) := pk_mul 6 o
  have e3 : nI (6 * o + c) * 3 = nI (3 * (6 * o + c)) := by rw [Nat.mul_comm 3]; exact pk_mul _ 3
  have e3' : (3 : Int32) * nI (6 * o + c) = nI (3 * (6 * o + c)) := pk_mul 3 _
  obtain ⟨m, hm, hcm⟩ := hD.2.2.2.2.2.2.2.2.2.1 (6 * o + c)
  unfold m_X6_valueCount
  rw [e6, e6', nI_add, zrd_nI (by omega) (by omega), Option.bind_some, Option.bind_some, zrd_nI (by omega) (by omega), Option.bind_some, hD.2.2.1, hD.2.2.2.1, hcm]
  by_cases h3 : m = 3
  · rw [if_neg (show ¬ nI m < (3 : Int32) from nI_nlt (b := 3) (by omega) (by omega)), if_pos (show nI m = (3 : Int32) by rw [h3]; rfl)]
    exact zop.same h0
  rw [if_pos (show nI m < (3 : Int32) from nI_lt (b := 3) (by omega) (by omega)), if_neg (show ¬ nI m = (3 : Int32) from fun q => h3 ((nI_eq (b := 3) (by omega) (by omega)).mp q))]
  unfold zop
  refine zok_bind (w_leaveAll hH hN) ?_
  rintro σ1 ⟨hq, hl⟩
  obtain ⟨b1, b2, b3, b4, b5, b6, b7, b8, b9, b10, b11⟩ := hD.qx hq
  have hF1 := hF.qx hq
  unfold m_X6_addValue
  rw [e6, nI_add, zrd_nI (by omega) (by omega), Option.bind_some, b3, hcm, e3, nI_add, zwA_nI (by omega) (by omega), Option.bind_some]
  have f3 : (zsA σ1 1 (upd (σ1.2.1 1) (3 * (6 * o + c) + m) v3)).2.1 2 = cn := b3
  rw [f3, zrd_nI (by omega) (by omega), Option.bind_some, hcm, nI_1, zwA_nI (by omega) (by omega), Option.bind_some, zrd_nI (by omega) (by omega), Option.bind_some, Option.bind_some, f3]
  refine zok_some ?_
  rw [Option.bind_some, e3', nI_add, zwA_nI (by omega) (by omega), Option.bind_some]
  have f4 : (zsA μ 1 (upd (μ.2.1 1) (3 * (6 * o + c) + m) v3)).2.1 0 = cn := b4
  rw [f4, zrd_nI (by omega) (by omega), Option.bind_some, hcm, nI_1, zwA_nI (by omega) (by omega), Option.bind_some, f4]
  unfold m_X9_changes
  rw [Option.bind_some, Option.bind_some, zrd_nI (by omega) (by omega), Option.bind_some]
  refine zok_some ⟨rfl, ?_⟩
  refine zR_new (n := n) (cn := upd cn (6 * o + c) (nI (m + 1))) (vs := upd vs (3 * (6 * o + c) + m) v3) (mt := mt) (FL := FL) ?_ ?_ ?_ ?_
  · exact hF1.moved rfl (fun j hj => rfl) (fun j hj => (zsA_ne (zsA σ1 1 (upd (σ1.2.1 1) (3 * (6 * o + c) + m) v3)) _ (by omega)).trans (zsA_ne σ1 _ (by omega))) rfl (fun j h1 h2 => (zsA_ne (zsA μ 1 (upd (μ.2.1 1) (3 * (6 * o + c) + m) v3)) _ (by omega)).trans (zsA_ne μ _ (by omega)))
  · refine ⟨b1, b2, rfl, rfl, ?_, ?_, b7, b8, b9, fun i => ?_, fun i => ?_⟩
    · rw [← b5]; rfl
    · rw [← b6]; rfl
    · by_cases q : i = 6 * o + c
      · subst q
        exact ⟨m + 1, by omega, upd_at _ _ _⟩
      · rw [upd_ne _ _ q]
        exact b10 i
    · by_cases q : i = 3 * (6 * o + c) + m
      · subst q
        rw [upd_at]
        exact ⟨g1, g2⟩
      · rw [upd_ne _ _ q]
        exact b11 i
  · exact (hl.sA (by omega)).sA (by omega)
  · exact zsI_at _ 2 _
theorem o_match {N : Nat} {σ μ : zS} (h : zRE σ μ) (hN : 3000 < N) (v1 : Int32) (b : Bool) : zop (m_X8_match N σ v1 (zbo b)) (m_X9_match N μ v1 (zbo b)) := by
  have h0 := h
  obtain ⟨n, cn, vs, mt, FL, e, d, hF, hD, hH, hC⟩ := h
  have hn := hD.2.2.2.2.2.2.2.2.1
  unfold m_X8_match m_X9_match
  rcases (w_obj (N := N) hD.1 hD.2.1 hn v1).symm with ⟨q1, q2⟩ | ⟨o, ho, rfl, q1, q2⟩
  · rw [q1, q2, Option.bind_some, Option.bind_some, if_pos rfl, if_pos rfl]
    exact zop.same h0
  rw [q1, q2, Option.bind_some, Option.bind_some, if_neg (by decide), if_neg (by decide)]
  unfold zop
  refine zok_bind (w_leaveAll hH hN) ?_
  rintro σ1 ⟨hq, hl⟩
  obtain ⟨b1, b2, b3, b4, b5, b6, b7, b8, b9, b10, b11⟩ := hD.qx hq
  have hF1 := hF.qx hq
  rw [zrd_nI (by omega) (by omega), Option.bind_some, zcz_zbo, Option.bind_some, zwA_nI (by omega) (by omega), Option.bind_some, b7 o]
  have key : ∀ x : Int32, zok (m_X9_match_25 N (nI o) (zbo b) μ x) (fun q => x = q.1 ∧ zRE (zsA σ1 0 (upd (σ1.2.1 0) o (zbo b))) q.2) := by
    intro x
    unfold m_X9_match_25 m_X9_changes
    rw [zcz_zbo, Option.bind_some, zwA_nI (by omega) (by omega), Option.bind_some, Option.bind_some, Option.bind_some]
    refine zok_some ⟨rfl, ?_⟩
    refine zR_new (n := n) (cn := cn) (vs := vs) (mt := zmt mt o b) (FL := FL) ?_ ?_ ?_ ?_
    · exact hF1.moved rfl (fun j hj => rfl) (fun j hj => zsA_ne σ1 _ (by omega)) rfl (fun j h1 h2 => zsA_ne μ _ (by omega))
    · exact ⟨b1, b2, b3, b4, b5, b6, zmt_upd b7 o b, zmt_upd b8 o b, b9, b10, b11⟩
    · exact hl.sA (by omega)
    · exact zsI_at _ 2 _
  cases hm : mt o
  · rw [if_pos (show zbo false = 0 from rfl)]
    refine zok_some ?_
    rw [zrd_nI (by omega) (by omega), Option.bind_some, b8 o, hm, if_pos (show zbo false = 0 from rfl)]
    exact key 0
  · rw [if_neg (show ¬ zbo true = 0 by decide)]
    refine zok_some ?_
    rw [zrd_nI (by omega) (by omega), Option.bind_some, b8 o, hm, if_neg (show ¬ zbo true = 0 by decide)]
    exact key 1
theorem o_clear {N : Nat} {σ μ : zS} (h : zRE σ μ) (hN : 3000 < N) : zop (m_X8_clear N σ) (m_X9_clear N μ) := by
  obtain ⟨n, cn, vs, mt, FL, e, d, hF, hD, hH, hC⟩ := h
  unfold m_X8_clear m_X9_clear zop
  refine zok_bind (w_leaveAll hH hN) ?_
  rintro σ1 ⟨hq, hl⟩
  obtain ⟨b1, b2, b3, b4, b5, b6, b7, b8, b9, b10, b11⟩ := hD.qx hq
  unfold m_X9_changes
  rw [Option.bind_some, Option.bind_some]
  refine zok_some ?_
  rw [Option.bind_some, Option.bind_some, Option.bind_some, Option.bind_some]
  refine zok_some ⟨?_, ?_⟩
  · show σ.1 2 = μ.1 0
    rw [hD.1, hD.2.1]
  refine zR_new (n := 0) (cn := cn) (vs := vs) (mt := mt) (FL := []) ⟨fun k F hk => (by cases hk), Nat.zero_le _, rfl, rfl⟩ ?_ ?_ ?_
  · exact ⟨rfl, rfl, b3, b4, b5, b6, b7, b8, by omega, b10, b11⟩
  · exact (hl.sI (by omega) (by omega)).sI (by omega) (by omega)
  · rfl
