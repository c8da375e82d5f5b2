/-! calls that change one facet -/
theorem zR_put {σ σ' μ μ' : zS} {n : Nat} {cn vs : Nat → Int32} {mt : Nat → Bool} {FL : List zF} {k : Nat} {F F' : zF} (hF : zFs σ μ FL) (hD : zDs σ μ n cn vs mt) (hl : zlv σ) (hk : FL[k]? = some F)
    (h1 : ∀ j, (j < 8 + 12 * k ∨ 19 + 12 * k < j) → σ'.1 j = σ.1 j) (h2 : ∀ j, j ≠ 8 + k → j ≠ 18 + k → σ'.2.1 j = σ.2.1 j)
    (m0 : μ'.1 0 = μ.1 0) (m1 : μ'.1 1 = μ.1 1) (m2 : μ'.1 2 = 0) (md : ∀ j, j < 3 → μ'.2.1 j = μ.2.1 j) (m3 : ∀ j i, 3 ≤ j → j ≤ 16 → j ≠ 8 → j ≠ 9 → i ≠ k → μ'.2.1 j i = μ.2.1 j i) (m8 : ∀ i, (i < 6 * k ∨ 6 * k + 6 ≤ i) → μ'.2.1 8 i = μ.2.1 8 i ∧ μ'.2.1 9 i = μ.2.1 9 i)
    (hX : zFX σ' k F') (hM : zFM μ' k F') (hV : zVF F') : zRE σ' μ' := by
  have hkl := (List.getElem?_eq_some_iff.mp hk).1
  have h10 := hF.2.1
  refine zR_new (FL := FL.set k F') (hF.put (k := k) (F' := F') (by omega) (by rw [List.length_set]; exact h10) ?_ ?_ (fun j G => zset_get j G) (fun j _ q => h1 j q) (fun j _ q1 q2 => h2 j q1 q2) m3 m8 hX hM hV) (hD.moved (h1 2 (by omega)) (fun j hj => h2 j (by omega) (by omega)) m0 md) ⟨?_, ?_, fun o ho => ?_⟩ m2
  · rw [List.length_set, h1 0 (by omega)]; exact hF.2.2.1
  · rw [List.length_set, m1]; exact hF.2.2.2
  · rw [h1 1 (by omega)]; exact hl.1
  · rw [h1 3 (by omega)]; exact hl.2.1
  · rw [h2 3 (by omega) (by omega)]; exact hl.2.2 o ho
theorem o_least {N : Nat} {σ μ : zS} (h : zRE σ μ) (hN : 3000 < N) (v1 v2 : Int32) : zop (m_X8_least N σ v1 v2) (m_X9_least N μ v1 v2) := by
  have h0 := h
  obtain ⟨n, cn, vs, mt, FL, e, d, hF, hD, hH, hC⟩ := h
  unfold m_X8_least m_X9_least
  rcases (w_fac (N := N) hF v1).symm with ⟨q1, q2⟩ | ⟨k, F, hk, rfl, q1, q2⟩
  · rw [q1, q2, Option.bind_some, Option.bind_some, if_pos rfl]
    exact zop.same h0
  have hkl := (List.getElem?_eq_some_iff.mp hk).1
  have h10 := hF.2.1
  rw [q1, q2, Option.bind_some, Option.bind_some, if_neg (show ¬ (1 : Int32) = 0 by decide)]
  show zop (if v2 < 0 then _ else _) _
  rcases (w_idx (N := N) (μ := μ) (n := 121) (by omega) v2).symm with ⟨q, q3⟩ | ⟨t, ht, rfl, g1, g2, g3⟩
  · have q3 : m_X9_within N μ v2 0 120 = some 0 := q3
    rw [q3, Option.bind_some, if_pos rfl]
    rcases q with q | ⟨q, q2⟩
    · rw [if_pos q]
      exact zop.same h0
    · have t := Int32.le_iff_toInt_le.mp q2
      rw [nI_toInt (by omega)] at t
      have z : (120 : Int32).toInt = 120 := by decide
      rw [if_neg q, if_neg (show ¬ v2 ≤ (120 : Int32) from fun q => by have := Int32.le_iff_toInt_le.mp q; omega)]
      exact zop.same h0
  have g3 : m_X9_within N μ (nI t) 0 120 = some 1 := g3
  rw [g3, Option.bind_some, if_neg (show ¬ (1 : Int32) = 0 by decide), if_neg g1, if_pos (show nI t ≤ (120 : Int32) from nI_le (b := 120) (by omega) (by omega))]
  unfold zop
  refine zok_bind (w_leaveAll hH hN) ?_
  rintro σ1 ⟨hq, hl⟩
  have hF1 := hF.qx hq
  obtain ⟨fx, fm, fv⟩ := hF1.1 k F hk
  obtain ⟨x1, x2, x3, x4, x5, x6, x7, x8, x9, x10, x11⟩ := id fx
  obtain ⟨y1, y2, y3, y4, y5, y6, y7, y8, y9, y10, y11⟩ := id fm
  obtain ⟨v1, v2, v3, v4, v5, v6, v7, v8, v9, v10⟩ := fv
  rw [Option.bind_some]
  refine zok_some ?_
  unfold m_X9_changes
  rw [zrd_nI (by omega) (by omega), Option.bind_some, zwA_nI (by omega) (by omega), Option.bind_some, Option.bind_some, Option.bind_some]
  refine zok_some ⟨?_, ?_⟩
  · show σ1.1 (15 + 12 * k) = μ.2.1 13 k
    rw [x8, y8]
  · have es : ∀ i, i ≠ 15 + 12 * k → (zsI σ1 (15 + 12 * k) (nI t)).1 i = σ1.1 i := fun i hi => zsI_ne σ1 _ hi
    refine zR_put (F' := (F.1, F.2.1, F.2.2.1, F.2.2.2.1, F.2.2.2.2.1, F.2.2.2.2.2.1, t, F.2.2.2.2.2.2.2)) hF1 (hD.qx hq) hl hk (fun j hj => es j (by omega)) (fun j _ _ => rfl) rfl rfl rfl (fun j hj => zsA_ne μ _ (by omega)) (fun j i _ _ _ _ hi => zun hi) (fun i _ => ⟨rfl, rfl⟩) ?_ ?_ ?_
    · refine ⟨(es _ (by omega)).trans x1, (es _ (by omega)).trans x2, (es _ (by omega)).trans x3, (es _ (by omega)).trans x4, (es _ (by omega)).trans x5, x6, ?_, zsI_at σ1 _ _, (es _ (by omega)).trans x9, (es _ (by omega)).trans x10, fun q => (es _ (by omega)).trans (x11 q)⟩
      rw [es _ (by omega), es _ (by omega), es _ (by omega)]
      exact x7
    · exact ⟨y1, y2, y3, y4, y5, y6, y7, upd_at _ _ _, y9, y10, y11⟩
    · exact ⟨v1, v2, v3, v4, (by show t ≤ 120; omega), v6, v7, v8, v9, v10⟩
theorem o_missing {N : Nat} {σ μ : zS} (h : zRE σ μ) (hN : 3000 < N) (v1 : Int32) (b : Bool) : zop (m_X8_missing N σ v1 (zbo b)) (m_X9_missing N μ v1 (zbo b)) := by
  have h0 := h
  obtain ⟨n, cn, vs, mt, FL, e, d, hF, hD, hH, hC⟩ := h
  unfold m_X8_missing m_X9_missing
  rcases (w_fac (N := N) hF v1).symm with ⟨q1, q2⟩ | ⟨k, F, hk, rfl, q1, q2⟩
  · rw [q1, q2, Option.bind_some, Option.bind_some, if_pos rfl]
    exact zop.same h0
  have hkl := (List.getElem?_eq_some_iff.mp hk).1
  have h10 := hF.2.1
  rw [q1, q2, Option.bind_some, Option.bind_some, if_neg (show ¬ (1 : Int32) = 0 by decide)]
  show zop ((m_X8_leaveAll N σ).bind _) _
  unfold zop
  refine zok_bind (w_leaveAll hH hN) ?_
  rintro σ1 ⟨hq, hl⟩
  have hF1 := hF.qx hq
  obtain ⟨fx, fm, fv⟩ := hF1.1 k F hk
  obtain ⟨x1, x2, x3, x4, x5, x6, x7, x8, x9, x10, x11⟩ := id fx
  obtain ⟨y1, y2, y3, y4, y5, y6, y7, y8, y9, y10, y11⟩ := id fm
  obtain ⟨v1, v2, v3, v4, v5, v6, v7, v8, v9, v10⟩ := fv
  rw [zcz_zbo, Option.bind_some, Option.bind_some, x9]
  have key : ∀ x : Int32, zok (m_X9_missing_25 N (nI k) (zbo b) μ x) (fun q => x = q.1 ∧ zRE (zsI σ1 (16 + 12 * k) (zbo b)) q.2) := by
    intro x
    unfold m_X9_missing_25 m_X9_changes
    rw [zcz_zbo, Option.bind_some, zwA_nI (by omega) (by omega), Option.bind_some, Option.bind_some, Option.bind_some]
    refine zok_some ⟨rfl, ?_⟩
    have es : ∀ i, i ≠ 16 + 12 * k → (zsI σ1 (16 + 12 * k) (zbo b)).1 i = σ1.1 i := fun i hi => zsI_ne σ1 _ hi
    refine zR_put (F' := (F.1, F.2.1, F.2.2.1, F.2.2.2.1, F.2.2.2.2.1, F.2.2.2.2.2.1, F.2.2.2.2.2.2.1, b, F.2.2.2.2.2.2.2.2)) hF1 (hD.qx hq) hl hk (fun j hj => es j (by omega)) (fun j _ _ => rfl) rfl rfl rfl (fun j hj => zsA_ne μ _ (by omega)) (fun j i _ _ _ _ hi => zun hi) (fun i _ => ⟨rfl, rfl⟩) ?_ ?_ ?_
    · refine ⟨(es _ (by omega)).trans x1, (es _ (by omega)).trans x2, (es _ (by omega)).trans x3, (es _ (by omega)).trans x4, (es _ (by omega)).trans x5, x6, ?_, (es _ (by omega)).trans x8, zsI_at σ1 _ _, (es _ (by omega)).trans x10, fun q => (es _ (by omega)).trans (x11 q)⟩
      rw [es _ (by omega), es _ (by omega), es _ (by omega)]
      exact x7
    · exact ⟨y1, y2, y3, y4, y5, y6, y7, y8, upd_at _ _ _, y10, y11⟩
    · exact ⟨v1, v2, v3, v4, v5, v6, v7, v8, v9, v10⟩
  cases hm : zAk F
  · rw [if_pos (show zbo false = 0 from rfl)]
    refine zok_some ?_
    rw [zrd_nI (by omega) (by omega), Option.bind_some, y9, hm, if_pos (show zbo false = 0 from rfl)]
    exact key 0
  · rw [if_neg (show ¬ zbo true = 0 by decide)]
    refine zok_some ?_
    rw [zrd_nI (by omega) (by omega), Option.bind_some, y9, hm, if_neg (show ¬ zbo true = 0 by decide)]
    exact key 1
theorem o_order36 {N : Nat} {σ μ : zS} {n : Nat} {cn vs : Nat → Int32} {mt : Nat → Bool} {FL : List zF} {e : Nat} {d : Nat → Nat} {k t : Nat} {F : zF} {v3 : Int32} (hF : zFs σ μ FL) (hD : zDs σ μ n cn vs mt) (hH : zHs σ μ n mt e d) (hN : 3000 < N) (hk : FL[k]? = some F) (ht : t ≤ 2) (h3 : t = 2 → ∃ c, c ≤ 5 ∧ v3 = nI c) (v1 : Int32) : zop (m_X8_order_36 N v1 (nI t) v3 σ k) (m_X9_order_32 N (nI k) (nI t) v3 μ) := by
  have hkl := (List.getElem?_eq_some_iff.mp hk).1
  have h10 := hF.2.1
  unfold m_X8_order_36 m_X9_order_32 zop
  refine zok_bind (w_leaveAll hH hN) ?_
  rintro σ1 ⟨hq, hl⟩
  have hF1 := hF.qx hq
  obtain ⟨fx, fm, fv⟩ := hF1.1 k F hk
  obtain ⟨x1, x2, x3, x4, x5, x6, x7, x8, x9, x10, x11⟩ := id fx
  obtain ⟨y1, y2, y3, y4, y5, y6, y7, y8, y9, y10, y11⟩ := id fm
  obtain ⟨w1, w2, w3, w4, w5, w6, w7, w8, w9, w10⟩ := fv
  rw [Option.bind_some]
  obtain ⟨c, hc, hc2⟩ : ∃ c, c ≤ 5 ∧ (t = 2 → v3 = nI c) := by
    by_cases q : t = 2
    · obtain ⟨c, q1, q2⟩ := h3 q
      exact ⟨c, q1, fun _ => q2⟩
    · exact ⟨0, by omega, fun q2 => absurd q2 q⟩
  have key : ∀ x : Int32, (t = 2 → x = v3) → zok ((zrd 10 (μ.2.1 15) (nI k)).bind fun b7 => (zwA 10 15 μ (nI k) (nI t)).bind fun σ8 => (zwA 10 16 σ8 (nI k) v3).bind fun σ9 => (m_X9_changes N σ9).bind fun σ10 => some (b7, σ10)) (fun q => σ1.1 (17 + 12 * k) = q.1 ∧ zRE (zsI (zsI σ1 (17 + 12 * k) (nI t)) (18 + 12 * k) x) q.2) := by
    intro x hx
    unfold m_X9_changes
    rw [zrd_nI (by omega) (by omega), Option.bind_some, zwA_nI (by omega) (by omega), Option.bind_some, zwA_nI (by omega) (by omega), Option.bind_some, Option.bind_some, Option.bind_some]
    refine zok_some ⟨by rw [x10]; exact y10.symm, ?_⟩
    have es : ∀ i, i ≠ 17 + 12 * k → i ≠ 18 + 12 * k → (zsI (zsI σ1 (17 + 12 * k) (nI t)) (18 + 12 * k) x).1 i = σ1.1 i := fun i hi hi2 => (zsI_ne (zsI σ1 (17 + 12 * k) (nI t)) _ hi2).trans (zsI_ne σ1 _ hi)
    refine zR_put (F' := (F.1, F.2.1, F.2.2.1, F.2.2.2.1, F.2.2.2.2.1, F.2.2.2.2.2.1, F.2.2.2.2.2.2.1, F.2.2.2.2.2.2.2.1, t, c)) hF1 (hD.qx hq) hl hk (fun j hj => es j (by omega) (by omega)) (fun j _ _ => rfl) rfl rfl rfl (fun j hj => (zsA_ne (zsA μ 15 (upd (μ.2.1 15) k (nI t))) _ (by omega)).trans (zsA_ne μ _ (by omega))) (fun j i _ _ _ _ hi => (zun hi).trans (zun hi)) (fun i _ => ⟨rfl, rfl⟩) ?_ ?_ ?_
    · refine ⟨(es _ (by omega) (by omega)).trans x1, (es _ (by omega) (by omega)).trans x2, (es _ (by omega) (by omega)).trans x3, (es _ (by omega) (by omega)).trans x4, (es _ (by omega) (by omega)).trans x5, x6, ?_, (es _ (by omega) (by omega)).trans x8, (es _ (by omega) (by omega)).trans x9, (zsI_ne (zsI σ1 (17 + 12 * k) (nI t)) _ (by omega)).trans (zsI_at σ1 _ _), fun q => (zsI_at _ _ _).trans ?_⟩
      · rw [es _ (by omega) (by omega), es _ (by omega) (by omega), es _ (by omega) (by omega)]
        exact x7
      · rw [hx q, hc2 q]
    · exact ⟨y1, y2, y3, y4, y5, y6, y7, y8, y9, upd_at _ _ _, fun q => (upd_at _ _ _).trans (hc2 q)⟩
    · exact ⟨w1, w2, w3, w4, w5, ht, hc, w8, w9, w10⟩
  have t2 : nI t = (2 : Int32) ↔ t = 2 := nI_eq (b := 2) (by omega) (by omega)
  by_cases q : t = 2
  · rw [if_pos (t2.mpr q), Option.bind_some]
    exact zok_some (key v3 (fun _ => rfl))
  · rw [if_neg (fun q2 => q (t2.mp q2)), Option.bind_some]
    exact zok_some (key 0 (fun q2 => absurd q2 q))
theorem o_order {N : Nat} {σ μ : zS} (h : zRE σ μ) (hN : 3000 < N) (v1 v2 v3 : Int32) : zop (m_X8_order N σ v1 v2 v3) (m_X9_order N μ v1 v2 v3) := by
  have h0 := h
  obtain ⟨n, cn, vs, mt, FL, e, d, hF, hD, hH, hC⟩ := h
  unfold m_X8_order m_X9_order
  rcases (w_fac (N := N) hF v1).symm with ⟨q1, q2⟩ | ⟨k, F, hk, rfl, q1, q2⟩
  · rw [q1, q2, Option.bind_some, Option.bind_some, if_pos rfl]
    exact zop.same h0
  rw [q1, q2, Option.bind_some, Option.bind_some, if_neg (show ¬ (1 : Int32) = 0 by decide)]
  show zop (if v2 < 0 then _ else _) _
  rcases (w_idx (N := N) (μ := μ) (n := 3) (by omega) v2).symm with ⟨q, q3⟩ | ⟨t, ht, rfl, g1, g2, g3⟩
  · have q3 : m_X9_within N μ v2 0 2 = some 0 := q3
    rw [q3, Option.bind_some, if_pos rfl]
    rcases q with q | ⟨q, q2⟩
    · rw [if_pos q]
      exact zop.same h0
    · have t := Int32.le_iff_toInt_le.mp q2
      rw [nI_toInt (by omega)] at t
      have z : (2 : Int32).toInt = 2 := by decide
      rw [if_neg q, if_pos (show (2 : Int32) < v2 from Int32.lt_iff_toInt_lt.mpr (by omega))]
      exact zop.same h0
  have g3 : m_X9_within N μ (nI t) 0 2 = some 1 := g3
  have t2 : nI t = (2 : Int32) ↔ t = 2 := nI_eq (b := 2) (by omega) (by omega)
  rw [g3, Option.bind_some, if_neg (show ¬ (1 : Int32) = 0 by decide), if_neg g1, if_neg (show ¬ (2 : Int32) < nI t from nI_nlt (a := 2) (by omega) (by omega))]
  by_cases q : t = 2
  · rw [if_pos (t2.mpr q), if_pos (t2.mpr q)]
    rcases (w_col (N := N) (σ := σ) (μ := μ) v3).symm with ⟨f1, f2⟩ | ⟨c, hc, rfl, f1, f2⟩
    · rw [f1, f2, Option.bind_some, Option.bind_some, if_pos rfl, if_pos rfl]
      exact zop.same h0
    rw [f1, f2, Option.bind_some, Option.bind_some, if_neg (show ¬ (1 : Int32) = 0 by decide), if_neg (show ¬ (1 : Int32) = 0 by decide)]
    exact o_order36 hF hD hH hN hk (by omega) (fun _ => ⟨c, hc, rfl⟩) _
  · rw [if_neg (fun q2 => q (t2.mp q2)), if_neg (fun q2 => q (t2.mp q2))]
    exact o_order36 hF hD hH hN hk (by omega) (fun q2 => absurd q2 q) _
