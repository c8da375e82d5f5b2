/-! calls that change facets -/
theorem zsI_i (σ : zS) (k : Nat) (v : Int32) (j : Nat) : (zsI σ k v).1 j = if j = k then v else σ.1 j := zup_if _ _ _ _
theorem zun {s : zS} {k a : Nat} {x : Int32} {j i : Nat} (hi : i ≠ a) : (zsA s k (upd (s.2.1 k) a x)).2.1 j i = s.2.1 j i := by
  by_cases h : j = k
  · subst h
    rw [zsA_at s j, upd_ne _ _ hi]
  · rw [zsA_ne s _ h]
theorem zDs.moved {σ σ' μ μ' : zS} {n : Nat} {cn vs : Nat → Int32} {mt : Nat → Bool} (h : zDs σ μ n cn vs mt) (h1 : σ'.1 2 = σ.1 2) (h2 : ∀ j, j < 3 → σ'.2.1 j = σ.2.1 j) (m1 : μ'.1 0 = μ.1 0) (m2 : ∀ j, j < 3 → μ'.2.1 j = μ.2.1 j) : zDs σ' μ' n cn vs mt := by
  obtain ⟨b1, b2, b3, b4, b5, b6, b7, b8, b9⟩ := h
  exact ⟨h1.trans b1, m1.trans b2, (h2 2 (by omega)).trans b3, (m2 0 (by omega)).trans b4, (h2 1 (by omega)).trans b5, (m2 1 (by omega)).trans b6, fun o => by rw [h2 0 (by omega)]; exact b7 o, fun o => by rw [m2 2 (by omega)]; exact b8 o, b9⟩
theorem zFs.put {σ σ' μ μ' : zS} {FL FL' : List zF} {k : Nat} {F' : zF} (h : zFs σ μ FL) (hk : k < 10) (hl : FL'.length ≤ 10) (h0 : σ'.1 0 = nI FL'.length) (hm : μ'.1 1 = nI FL'.length) (hFL : ∀ j G, FL'[j]? = some G → (j = k ∧ G = F') ∨ (j ≠ k ∧ FL[j]? = some G))
    (h8 : ∀ j, 8 ≤ j → (j < 8 + 12 * k ∨ 19 + 12 * k < j) → σ'.1 j = σ.1 j) (h82 : ∀ j, 8 ≤ j → j ≠ 8 + k → j ≠ 18 + k → σ'.2.1 j = σ.2.1 j)
    (m3 : ∀ j i, 3 ≤ j → j ≤ 16 → j ≠ 8 → j ≠ 9 → i ≠ k → μ'.2.1 j i = μ.2.1 j i) (m8 : ∀ i, (i < 6 * k ∨ 6 * k + 6 ≤ i) → μ'.2.1 8 i = μ.2.1 8 i ∧ μ'.2.1 9 i = μ.2.1 9 i)
    (hX : zFX σ' k F') (hM : zFM μ' k F') (hV : zVF F') : zFs σ' μ' FL' := by
  obtain ⟨a1, a2, a3, a4⟩ := h
  refine ⟨fun j G hj => ?_, hl, h0, hm⟩
  rcases hFL j G hj with ⟨rfl, rfl⟩ | ⟨hne, hj2⟩
  · exact ⟨hX, hM, hV⟩
  · obtain ⟨b1, b2, b3⟩ := a1 j G hj2
    have hj10 := (List.getElem?_eq_some_iff.mp hj2).1
    refine ⟨b1.congr (fun i q1 q2 => h8 i (by omega) (by omega)) (h82 _ (by omega) (by omega) (by omega)) (h82 _ (by omega) (by omega) (by omega)), b2.congr b3.2.2.1 (fun i q1 q2 q3 q4 => m3 i j q1 q2 q3 q4 hne) (fun r hr => (m8 _ (by omega)).1) (fun r hr => (m8 _ (by omega)).2), b3⟩
theorem zset_get {FL : List zF} {k : Nat} {F' : zF} (j : Nat) (G : zF) (h : (FL.set k F')[j]? = some G) : (j = k ∧ G = F') ∨ (j ≠ k ∧ FL[j]? = some G) := by
  by_cases hj : j = k
  · subst hj
    have hl := (List.getElem?_eq_some_iff.mp h).1
    rw [List.length_set] at hl
    rw [List.getElem?_set_self hl] at h
    exact Or.inl ⟨rfl, (Option.some.inj h).symm⟩
  · rw [List.getElem?_set_ne (Ne.symm hj)] at h
    exact Or.inr ⟨hj, h⟩
theorem w_startOver {N : Nat} {σ : zS} {k : Nat} {v1 v2 v3 v4 : Int32} : zok (m_X1_startOver N σ k v1 v2 v3 v4) (fun s => (∀ j, (j < 8 + 12 * k ∨ 19 + 12 * k < j) → s.1 j = σ.1 j) ∧ s.2 = σ.2 ∧ s.1 (8 + 12 * k) = v1 ∧ s.1 (9 + 12 * k) = v2 ∧ s.1 (10 + 12 * k) = v3 ∧ s.1 (11 + 12 * k) = v4 ∧ s.1 (12 + 12 * k) = -2000000000 ∧ s.1 (15 + 12 * k) = 1 ∧ s.1 (16 + 12 * k) = 0 ∧ s.1 (17 + 12 * k) = 0 ∧ s.1 (19 + 12 * k) = 0) := by
  unfold m_X1_startOver
  simp only [Option.bind_some]
  refine zok_some ⟨fun j hj => ?_, rfl, ?_⟩
  · simp only [zsI_i]
    rw [if_neg (by omega), if_neg (by omega), if_neg (by omega), if_neg (by omega), if_neg (by omega), if_neg (by omega), if_neg (by omega), if_neg (by omega), if_neg (by omega), if_neg (by omega), if_neg (by omega), if_neg (by omega)]
  · simp [zsI_i]
theorem w_newM {N : Nat} {μ : zS} {k : Nat} {v1 v2 v3 v4 : Int32} (hm : μ.1 1 = nI k) (hk : k < 10) : zok (m_X9_facet_72 N v1 v2 v3 v4 μ) (fun q => q.1 = nI k ∧ q.2.1 1 = nI (k + 1) ∧ q.2.1 0 = μ.1 0 ∧ q.2.1 2 = 0 ∧ (∀ j, j < 3 → q.2.2.1 j = μ.2.1 j) ∧ (∀ j i, 3 ≤ j → j ≤ 16 → j ≠ 8 → j ≠ 9 → i ≠ k → q.2.2.1 j i = μ.2.1 j i) ∧ q.2.2.1 8 = μ.2.1 8 ∧ q.2.2.1 9 = μ.2.1 9 ∧ q.2.2.1 3 k = v1 ∧ q.2.2.1 4 k = v2 ∧ q.2.2.1 5 k = v3 ∧ q.2.2.1 6 k = v4 ∧ q.2.2.1 7 k = 0 ∧ q.2.2.1 10 k = -2000000000 ∧ q.2.2.1 13 k = 1 ∧ q.2.2.1 14 k = 0 ∧ q.2.2.1 15 k = 0) := by
  have wA : ∀ (j : Nat) (s : zS) (x : Int32), zwA 10 j s (nI k) x = some (zsA s j (upd (s.2.1 j) k x)) := fun _ _ _ => zwA_nI hk (by omega)
  have z1 : ∀ (j : Nat) (s : zS) (f : Nat → Int32), (zsA s j f).1 = s.1 := fun _ _ _ => rfl
  unfold m_X9_facet_72 m_X9_changes
  rw [hm, if_neg (show ¬ nI k = (10 : Int32) from fun q => by have := (nI_eq (a := k) (b := 10) (by omega) (by omega)).mp q; omega)]
  simp only [z1, hm, wA, Option.bind_some]
  refine zok_some ⟨?_, ?_, rfl, rfl, fun j hj => ?_, fun j i q1 q2 q3 q4 q5 => ?_, rfl, rfl, upd_at _ _ _, upd_at _ _ _, upd_at _ _ _, upd_at _ _ _, upd_at _ _ _, upd_at _ _ _, upd_at _ _ _, upd_at _ _ _, upd_at _ _ _⟩
  · show (nI k + 1) - 1 = nI k
    rw [nI_1, nI_pred]
  · show nI k + 1 = _
    rw [nI_1]
  · exact (zsA_ne _ _ (by omega)).trans ((zsA_ne _ _ (by omega)).trans ((zsA_ne _ _ (by omega)).trans ((zsA_ne _ _ (by omega)).trans ((zsA_ne _ _ (by omega)).trans ((zsA_ne _ _ (by omega)).trans ((zsA_ne _ _ (by omega)).trans ((zsA_ne _ _ (by omega)).trans (zsA_ne _ _ (by omega)))))))))
  · exact (zun q5).trans ((zun q5).trans ((zun q5).trans ((zun q5).trans ((zun q5).trans ((zun q5).trans ((zun q5).trans ((zun q5).trans (zun q5))))))))
theorem o_facet66 {N : Nat} {σ μ : zS} (h : zRE σ μ) (hN : 3000 < N) {j c : Nat} {v3 v4 : Int32} (hj : j ≤ 4) (hc : c ≤ 5) (h3 : j = 3 → 0 < v3.toInt ∧ v3.toInt ≤ 1000000 ∧ 0 ≤ v4.toInt ∧ v4.toInt ≤ 1000000) (h4 : j = 4 → ∃ p, p ≤ 4 ∧ v3 = nI p) : zop (m_X8_facet_66 N (nI j) (nI c) v3 v4 σ) (m_X9_facet_72 N (nI j) (nI c) v3 v4 μ) := by
  have h0 := h
  obtain ⟨n, cn, vs, mt, FL, e, d, hF, hD, hH, hC⟩ := h
  have h10 := hF.2.1
  unfold m_X8_facet_66
  rw [hF.2.2.1]
  by_cases hr : FL.length = 10
  · rw [if_neg (show ¬ nI FL.length < (10 : Int32) from nI_nlt (b := 10) (by omega) (by omega))]
    unfold m_X9_facet_72
    rw [hF.2.2.2, if_pos (show nI FL.length = (10 : Int32) by rw [hr]; rfl)]
    exact zop.same h0
  rw [if_pos (show nI FL.length < (10 : Int32) from nI_lt (b := 10) (by omega) (by omega))]
  unfold zop
  refine zok_bind (w_leaveAll hH hN) ?_
  rintro σ1 ⟨hq, hl⟩
  have hF1 := hF.qx hq
  rw [hF1.2.2.1, zrd_nI (by omega) (by omega), Option.bind_some]
  refine zok_bind w_startOver ?_
  rintro s ⟨s1, s2, s3, s4, s5, s6, s7, s8, s9, s10, s11⟩
  rw [Option.bind_some]
  refine zok_some ?_
  have e0 : s.1 0 = nI FL.length := (s1 0 (by omega)).trans hF1.2.2.1
  refine zok_mono (w_newM hF.2.2.2 (show FL.length < 10 by omega)) ?_
  rintro ⟨r, m⟩ ⟨t1, t2, t3, t4, t5, t6, t7, t8, t9, t10, t11, t12, t13, t14, t15, t16, t17⟩
  dsimp only at t1 t2 t3 t4 t5 t6 t7 t8 t9 t10 t11 t12 t13 t14 t15 t16 t17
  refine ⟨?_, ?_⟩
  · show (zsI s 0 (s.1 0 + 1)).1 0 - 1 = r
    rw [zsI_at s 0, e0, nI_1, nI_pred, t1]
  · show zRE (zsI s 0 (s.1 0 + 1)) m
    rw [e0, nI_1]
    have es : ∀ i, i ≠ 0 → (zsI s 0 (nI (FL.length + 1))).1 i = s.1 i := fun i hi => zsI_ne s _ hi
    have es2 : (zsI s 0 (nI (FL.length + 1))).2 = σ1.2 := s2
    refine zR_new (FL := FL ++ [(j, v3, v4, [], c, none, 1, false, 0, 0)]) (hF1.put (k := FL.length) (F' := (j, v3, v4, [], c, none, 1, false, 0, 0)) (by omega) ?_ ?_ ?_ ?_ ?_ ?_ t6 ?_ ?_ ?_ ?_) ((hD.qx hq).moved ?_ ?_ t3 t5) ?_ t4
    · rw [List.length_append]; show FL.length + 1 ≤ 10; omega
    · rw [List.length_append]; exact zsI_at s 0 _
    · rw [List.length_append]; exact t2
    · intro i G hi
      by_cases q : i < FL.length
      · rw [List.getElem?_append_left q] at hi
        exact Or.inr ⟨by omega, hi⟩
      · rw [List.getElem?_append_right (by omega)] at hi
        have q1 : i - FL.length < 1 := (List.getElem?_eq_some_iff.mp hi).1
        have q2 : i = FL.length := by omega
        subst q2
        rw [Nat.sub_self] at hi
        exact Or.inl ⟨rfl, (Option.some.inj hi).symm⟩
    · intro i h8 hi
      rw [es i (by omega)]
      exact s1 i hi
    · intro i _ _ _
      rw [es2]
    · intro i _
      rw [t7, t8]
      exact ⟨rfl, rfl⟩
    · exact ⟨(es _ (by omega)).trans s3, (es _ (by omega)).trans s4, (es _ (by omega)).trans s5, (es _ (by omega)).trans s6, (es _ (by omega)).trans s11, fun r hr => absurd hr (Nat.not_lt_zero r), (es _ (by omega)).trans s7, (es _ (by omega)).trans s8, (es _ (by omega)).trans s9, (es _ (by omega)).trans s10, fun q => by cases q⟩
    · exact ⟨t9, t10, t11, t12, t13, fun r hr => absurd hr (Nat.not_lt_zero r), t14, t15, t16, t17, fun q => by cases q⟩
    · exact ⟨hj, hc, Nat.zero_le _, Or.inl rfl, (show 1 ≤ 120 by omega), Nat.zero_le _, Nat.zero_le _, h3, h4, fun q hq => by cases hq⟩
    · rw [es 2 (by omega)]; exact s1 2 (by omega)
    · intro i _
      rw [es2]
    · refine ⟨?_, ?_, fun o ho => ?_⟩
      · rw [es 1 (by omega), s1 1 (by omega)]; exact hl.1
      · rw [es 3 (by omega), s1 3 (by omega)]; exact hl.2.1
      · rw [es2]; exact hl.2.2 o ho
theorem w_facetM {N : Nat} {μ : zS} {v1 v2 v3 v4 : Int32} : ∃ b : Bool, m_X9_facet N μ v1 v2 v3 v4 = m_X9_facet_32 N v1 v2 v3 v4 μ (zbo b) ∧ (b = true ↔ (v1 = 3 → (1 ≤ v3 ∧ v3 ≤ 1000000) ∧ 0 ≤ v4 ∧ v4 ≤ v3 - 1)) := by
  unfold m_X9_facet m_X9_facet_31 m_X9_facet_27
  by_cases h : v1 = 3
  · rw [if_pos h, w_within, w_within, Option.bind_some, Option.bind_some]
    by_cases h1 : 1 ≤ v3 ∧ v3 ≤ 1000000
    · rw [decide_eq_true h1, if_neg (show ¬ zbo true = 0 by decide)]
      by_cases h2 : 0 ≤ v4 ∧ v4 ≤ v3 - 1
      · rw [decide_eq_true h2, if_neg (show ¬ zbo true = 0 by decide)]
        exact ⟨true, rfl, ⟨fun _ _ => ⟨h1, h2⟩, fun _ => rfl⟩⟩
      · rw [decide_eq_false h2, if_pos (show zbo false = 0 from rfl)]
        exact ⟨false, rfl, ⟨fun q => (by cases q), fun q => absurd (q h).2 h2⟩⟩
    · rw [decide_eq_false h1, if_pos (show zbo false = 0 from rfl)]
      exact ⟨false, rfl, ⟨fun q => (by cases q), fun q => absurd (q h).1 h1⟩⟩
  · rw [if_neg h]
    exact ⟨true, rfl, ⟨fun _ q => absurd q h, fun _ => rfl⟩⟩
theorem o_facet {N : Nat} {σ μ : zS} (h : zRE σ μ) (hN : 3000 < N) (v1 v2 v3 v4 : Int32) : zop (m_X8_facet N σ v1 v2 v3 v4) (m_X9_facet N μ v1 v2 v3 v4) := by
  obtain ⟨b, eb, hb⟩ := w_facetM (N := N) (μ := μ) (v1 := v1) (v2 := v2) (v3 := v3) (v4 := v4)
  rw [eb]
  unfold m_X8_facet m_X9_facet_32
  have z0 : (0 : Int32).toInt = 0 := rfl
  have z1 : (1 : Int32).toInt = 1 := by decide
  have z4 : (4 : Int32).toInt = 4 := by decide
  have z6 : (1000000 : Int32).toInt = 1000000 := by decide
  rcases (w_idx (N := N) (μ := μ) (n := 5) (by omega) v1).symm with ⟨q, q3⟩ | ⟨j, hj, rfl, q1, q2, q3⟩
  · have q3 : m_X9_within N μ v1 0 4 = some 0 := q3
    rw [q3, Option.bind_some, if_pos rfl]
    rcases q with q | ⟨q, q2⟩
    · rw [if_pos q]
      exact zop.same h
    · rw [if_neg q]
      have t := Int32.le_iff_toInt_le.mp q2
      rw [nI_toInt (by omega)] at t
      rw [if_pos (show (4 : Int32) < v1 from Int32.lt_iff_toInt_lt.mpr (by omega))]
      exact zop.same h
  have q3 : m_X9_within N μ (nI j) 0 4 = some 1 := q3
  rw [if_neg q1, if_neg (show ¬ (4 : Int32) < nI j from nI_nlt (a := 4) (by omega) (by omega)), q3, Option.bind_some, if_neg (show ¬ (1 : Int32) = 0 by decide)]
  rcases (w_col (N := N) (σ := σ) (μ := μ) v2).symm with ⟨g1, g2⟩ | ⟨c, hc, rfl, g1, g2⟩
  · rw [g1, g2, Option.bind_some, Option.bind_some, if_pos rfl, if_pos rfl]
    exact zop.same h
  rw [g1, g2, Option.bind_some, Option.bind_some, if_neg (show ¬ (1 : Int32) = 0 by decide), if_neg (show ¬ (1 : Int32) = 0 by decide)]
  have j3 : nI j = (3 : Int32) ↔ j = 3 := nI_eq (b := 3) (by omega) (by omega)
  have j4 : nI j = (4 : Int32) ↔ j = 4 := nI_eq (b := 4) (by omega) (by omega)
  by_cases k3 : j = 3
  · subst k3
    rw [if_pos (j3.mpr rfl), if_neg (show ¬ nI 3 = (4 : Int32) by decide)]
    unfold m_X8_facet_49
    rw [if_neg (show ¬ nI 3 = (4 : Int32) by decide)]
    have out : ¬ ((1 ≤ v3 ∧ v3 ≤ 1000000) ∧ 0 ≤ v4 ∧ v4 ≤ v3 - 1) → b = false := by
      intro q
      cases b
      · rfl
      · exact absurd (hb.mp rfl rfl) q
    by_cases r1 : v3 < 1
    · rw [if_pos r1, out (fun q => absurd r1 (Int32.not_lt.mpr q.1.1)), if_pos (show zbo false = 0 from rfl)]
      exact zop.same h
    rw [if_neg r1]
    by_cases r2 : 1000000 < v3
    · rw [if_pos r2, out (fun q => absurd r2 (Int32.not_lt.mpr q.1.2)), if_pos (show zbo false = 0 from rfl)]
      exact zop.same h
    rw [if_neg r2]
    by_cases r3 : v4 < 0
    · rw [if_pos r3, out (fun q => absurd r3 (Int32.not_lt.mpr q.2.1)), if_pos (show zbo false = 0 from rfl)]
      exact zop.same h
    rw [if_neg r3]
    have t1 := Int32.le_iff_toInt_le.mp (Int32.not_lt.mp r1)
    have t2 := Int32.le_iff_toInt_le.mp (Int32.not_lt.mp r2)
    have t3 := Int32.le_iff_toInt_le.mp (Int32.not_lt.mp r3)
    have ts : (v3 - 1).toInt = v3.toInt - 1 := by
      rw [Int32.toInt_sub, z1, Int.bmod_eq_of_le (by omega) (by omega)]
    by_cases r4 : v4 < v3
    · have t4 := Int32.lt_iff_toInt_lt.mp r4
      have : b = true := hb.mpr (fun _ => ⟨⟨Int32.not_lt.mp r1, Int32.not_lt.mp r2⟩, Int32.not_lt.mp r3, Int32.le_iff_toInt_le.mpr (by omega)⟩)
      rw [if_pos r4, this, if_neg (show ¬ zbo true = 0 by decide)]
      exact o_facet66 h hN (by omega) hc (fun _ => ⟨by omega, by omega, by omega, by omega⟩) (fun q => by omega)
    · have t4 := Int32.le_iff_toInt_le.mp (Int32.not_lt.mp r4)
      rw [if_neg r4, out (fun q => by have := Int32.le_iff_toInt_le.mp q.2.2; omega), if_pos (show zbo false = 0 from rfl)]
      exact zop.same h
  · have : b = true := hb.mpr (fun q => absurd (j3.mp q) k3)
    rw [if_neg (mt j3.mp k3), this, if_neg (show ¬ zbo true = 0 by decide)]
    unfold m_X8_facet_49
    by_cases k4 : j = 4
    · rw [if_pos (j4.mpr k4), if_pos (j4.mpr k4)]
      rcases (w_idx (N := N) (μ := μ) (n := 5) (by omega) v3).symm with ⟨q, q3⟩ | ⟨p, hp, rfl, q1, q2, q3⟩
      · have q3 : m_X9_within N μ v3 0 4 = some 0 := q3
        rw [q3, Option.bind_some, if_pos rfl]
        rcases q with q | ⟨q, q2⟩
        · rw [if_pos q]
          exact zop.same h
        · rw [if_neg q]
          have t := Int32.le_iff_toInt_le.mp q2
          rw [nI_toInt (by omega)] at t
          rw [if_neg (show ¬ v3 ≤ (4 : Int32) from fun q => by have := Int32.le_iff_toInt_le.mp q; omega)]
          exact zop.same h
      · have q3 : m_X9_within N μ (nI p) 0 4 = some 1 := q3
        rw [q3, Option.bind_some, if_neg q1, if_neg (show ¬ (1 : Int32) = 0 by decide), if_pos (show nI p ≤ (4 : Int32) from nI_le (b := 4) (by omega) (by omega))]
        exact o_facet66 h hN (by omega) hc (fun q => absurd q k3) (fun _ => ⟨p, by omega, rfl⟩)
    · rw [if_neg (mt j4.mp k4), if_neg (mt j4.mp k4)]
      exact o_facet66 h hN (by omega) hc (fun q => absurd q k3) (fun q => absurd q k4)
