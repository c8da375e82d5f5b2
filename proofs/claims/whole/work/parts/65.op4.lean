/-! filter and range -/
theorem znone {c : Nat} (hc : c ≤ 5) : ¬ nI c = (-2000000000 : Int32) := by
  intro h
  have := congrArg Int32.toInt h
  rw [nI_toInt (by omega)] at this
  have h2 : (-2000000000 : Int32).toInt = -2000000000 := by decide
  omega
theorem o_filter34 {N : Nat} {σ μ : zS} {n : Nat} {cn vs : Nat → Int32} {mt : Nat → Bool} {FL : List zF} {e : Nat} {d : Nat → Nat} {k : Nat} {F : zF} {v1 v2 v3 v4 : Int32} (hF : zFs σ μ FL) (hD : zDs σ μ n cn vs mt) (hH : zHs σ μ n mt e d) (hN : 3000 < N) (hk : FL[k]? = some F) (h2 : v2 = -2000000000 ∨ ∃ c, c ≤ 5 ∧ v2 = nI c) : zop (m_X8_filter_34 N v1 v2 v3 v4 σ k) (m_X9_filter_30 N (nI k) v2 v3 v4 μ) := by
  have hkl := (List.getElem?_eq_some_iff.mp hk).1
  have h10 := hF.2.1
  unfold m_X8_filter_34 m_X9_filter_30 zop
  refine zok_bind (w_leaveAll hH hN) ?_
  rintro σ1 ⟨hq, hl⟩
  have hF1 := hF.qx hq
  obtain ⟨fx, fm, fv⟩ := hF1.1 k F hk
  obtain ⟨x1, x2, x3, x4, x5, x6, x7, x8, x9, x10, x11⟩ := id fx
  obtain ⟨y1, y2, y3, y4, y5, y6, y7, y8, y9, y10, y11⟩ := id fm
  obtain ⟨w1, w2, w3, w4, w5, w6, w7, w8, w9, w10⟩ := id fv
  have same : (σ1.1 (12 + 12 * k) = -2000000000 ↔ zFl F = none) ∧ (μ.2.1 10 k = -2000000000 ↔ zFl F = none) := by
    cases hfl : zFl F with
    | none =>
      rw [hfl] at x7 y7
      exact ⟨⟨fun _ => rfl, fun _ => x7⟩, ⟨fun _ => rfl, fun _ => y7⟩⟩
    | some q =>
      rw [hfl] at x7 y7
      have hq5 := w10 q hfl
      refine ⟨⟨fun q2 => ?_, fun q2 => by cases q2⟩, ⟨fun q2 => ?_, fun q2 => by cases q2⟩⟩
      · rw [x7.1] at q2; exact absurd q2 (znone hq5)
      · rw [y7.1] at q2; exact absurd q2 (znone hq5)
  have key : ∀ x : Int32, zok (m_X9_filter_46 N (nI k) v2 v3 v4 μ x) (fun q => x = q.1 ∧ zRE (zsI (zsI (zsI σ1 (12 + 12 * k) v2) (13 + 12 * k) v3) (14 + 12 * k) v4) q.2) := by
    intro x
    unfold m_X9_filter_46 m_X9_changes
    rw [zwA_nI (by omega) (by omega), Option.bind_some, zwA_nI (by omega) (by omega), Option.bind_some, zwA_nI (by omega) (by omega), Option.bind_some, Option.bind_some, Option.bind_some]
    refine zok_some ⟨rfl, ?_⟩
    have es : ∀ i, i ≠ 12 + 12 * k → i ≠ 13 + 12 * k → i ≠ 14 + 12 * k → (zsI (zsI (zsI σ1 (12 + 12 * k) v2) (13 + 12 * k) v3) (14 + 12 * k) v4).1 i = σ1.1 i := fun i h1 h2 h3 => (zsI_ne (zsI (zsI σ1 (12 + 12 * k) v2) (13 + 12 * k) v3) _ h3).trans ((zsI_ne (zsI σ1 (12 + 12 * k) v2) _ h2).trans (zsI_ne σ1 _ h1))
    have e12 : (zsI (zsI (zsI σ1 (12 + 12 * k) v2) (13 + 12 * k) v3) (14 + 12 * k) v4).1 (12 + 12 * k) = v2 := (zsI_ne (zsI (zsI σ1 (12 + 12 * k) v2) (13 + 12 * k) v3) _ (by omega)).trans ((zsI_ne (zsI σ1 (12 + 12 * k) v2) _ (by omega)).trans (zsI_at σ1 _ _))
    have e13 : (zsI (zsI (zsI σ1 (12 + 12 * k) v2) (13 + 12 * k) v3) (14 + 12 * k) v4).1 (13 + 12 * k) = v3 := (zsI_ne (zsI (zsI σ1 (12 + 12 * k) v2) (13 + 12 * k) v3) _ (by omega)).trans (zsI_at _ _ _)
    have e14 : (zsI (zsI (zsI σ1 (12 + 12 * k) v2) (13 + 12 * k) v3) (14 + 12 * k) v4).1 (14 + 12 * k) = v4 := zsI_at _ _ _
    have fin : ∀ fl : Option (Nat × Int32 × Int32), (match fl with
        | none => v2 = -2000000000
        | some q => v2 = nI q.1 ∧ v3 = q.2.1 ∧ v4 = q.2.2) → (∀ q, fl = some q → q.1 ≤ 5) → zRE (zsI (zsI (zsI σ1 (12 + 12 * k) v2) (13 + 12 * k) v3) (14 + 12 * k) v4) (zsI (zsA (zsA (zsA μ 10 (upd (μ.2.1 10) k v2)) 11 (upd ((zsA μ 10 (upd (μ.2.1 10) k v2)).2.1 11) k v3)) 12 (upd ((zsA (zsA μ 10 (upd (μ.2.1 10) k v2)) 11 (upd ((zsA μ 10 (upd (μ.2.1 10) k v2)).2.1 11) k v3)).2.1 12) k v4)) 2 0) := by
      intro fl hfl hf5
      refine zR_put (F' := (F.1, F.2.1, F.2.2.1, F.2.2.2.1, F.2.2.2.2.1, fl, F.2.2.2.2.2.2)) hF1 (hD.qx hq) hl hk (fun j hj => es j (by omega) (by omega) (by omega)) (fun j _ _ => rfl) rfl rfl rfl (fun j hj => (zsA_ne (zsA (zsA μ 10 (upd (μ.2.1 10) k v2)) 11 (upd ((zsA μ 10 (upd (μ.2.1 10) k v2)).2.1 11) k v3)) _ (by omega)).trans ((zsA_ne (zsA μ 10 (upd (μ.2.1 10) k v2)) _ (by omega)).trans (zsA_ne μ _ (by omega)))) (fun j i _ _ _ _ hi => (zun hi).trans ((zun hi).trans (zun hi))) (fun i _ => ⟨rfl, rfl⟩) ?_ ?_ ?_
      · refine ⟨(es _ (by omega) (by omega) (by omega)).trans x1, (es _ (by omega) (by omega) (by omega)).trans x2, (es _ (by omega) (by omega) (by omega)).trans x3, (es _ (by omega) (by omega) (by omega)).trans x4, (es _ (by omega) (by omega) (by omega)).trans x5, x6, ?_, (es _ (by omega) (by omega) (by omega)).trans x8, (es _ (by omega) (by omega) (by omega)).trans x9, (es _ (by omega) (by omega) (by omega)).trans x10, fun q => (es _ (by omega) (by omega) (by omega)).trans (x11 q)⟩
        rw [e12, e13, e14]
        exact hfl
      · refine ⟨y1, y2, y3, y4, y5, y6, ?_, y8, y9, y10, y11⟩
        have u10 : (zsI (zsA (zsA (zsA μ 10 (upd (μ.2.1 10) k v2)) 11 (upd ((zsA μ 10 (upd (μ.2.1 10) k v2)).2.1 11) k v3)) 12 (upd ((zsA (zsA μ 10 (upd (μ.2.1 10) k v2)) 11 (upd ((zsA μ 10 (upd (μ.2.1 10) k v2)).2.1 11) k v3)).2.1 12) k v4)) 2 0).2.1 10 k = v2 := upd_at _ _ _
        have u11 : (zsI (zsA (zsA (zsA μ 10 (upd (μ.2.1 10) k v2)) 11 (upd ((zsA μ 10 (upd (μ.2.1 10) k v2)).2.1 11) k v3)) 12 (upd ((zsA (zsA μ 10 (upd (μ.2.1 10) k v2)) 11 (upd ((zsA μ 10 (upd (μ.2.1 10) k v2)).2.1 11) k v3)).2.1 12) k v4)) 2 0).2.1 11 k = v3 := upd_at _ _ _
        have u12 : (zsI (zsA (zsA (zsA μ 10 (upd (μ.2.1 10) k v2)) 11 (upd ((zsA μ 10 (upd (μ.2.1 10) k v2)).2.1 11) k v3)) 12 (upd ((zsA (zsA μ 10 (upd (μ.2.1 10) k v2)) 11 (upd ((zsA μ 10 (upd (μ.2.1 10) k v2)).2.1 11) k v3)).2.1 12) k v4)) 2 0).2.1 12 k = v4 := upd_at _ _ _
        rw [u10, u11, u12]
        exact hfl
      · exact ⟨w1, w2, w3, w4, w5, w6, w7, w8, w9, hf5⟩
    rcases h2 with h2 | ⟨c, hc, h2⟩
    · exact fin none h2 (fun q hq => by cases hq)
    · exact fin (some (c, v3, v4)) ⟨h2, rfl, rfl⟩ (fun q hq => by cases hq; exact hc)
  unfold m_X8_filter_53
  by_cases q : zFl F = none
  · rw [if_pos (same.1.mpr q), Option.bind_some, Option.bind_some, Option.bind_some]
    refine zok_some ?_
    rw [zrd_nI (by omega) (by omega), Option.bind_some, if_pos (same.2.mpr q)]
    exact key 0
  · rw [if_neg (fun q2 => q (same.1.mp q2)), Option.bind_some, Option.bind_some, Option.bind_some]
    refine zok_some ?_
    rw [zrd_nI (by omega) (by omega), Option.bind_some, if_neg (fun q2 => q (same.2.mp q2))]
    exact key 1
theorem o_filter {N : Nat} {σ μ : zS} (h : zRE σ μ) (hN : 3000 < N) (v1 v2 v3 v4 : Int32) : zop (m_X8_filter N σ v1 v2 v3 v4) (m_X9_filter N μ v1 v2 v3 v4) := by
  have h0 := h
  obtain ⟨n, cn, vs, mt, FL, e, d, hF, hD, hH, hC⟩ := h
  unfold m_X8_filter m_X9_filter
  rcases (w_fac (N := N) hF v1).symm with ⟨q1, q2⟩ | ⟨k, F, hk, rfl, q1, q2⟩
  · rw [q1, q2, Option.bind_some, Option.bind_some, if_pos rfl]
    exact zop.same h0
  rw [q1, q2, Option.bind_some, Option.bind_some, if_neg (show ¬ (1 : Int32) = 0 by decide)]
  show zop (if v2 = -2000000000 then _ else _) _
  by_cases hn : v2 = -2000000000
  · rw [if_pos hn, if_pos hn]
    exact o_filter34 hF hD hH hN hk (Or.inl hn)
  rw [if_neg hn, if_neg hn]
  rcases (w_col (N := N) (σ := σ) (μ := μ) v2).symm with ⟨f1, f2⟩ | ⟨c, hc, rfl, f1, f2⟩
  · rw [f1, f2, Option.bind_some, Option.bind_some, if_pos rfl, if_pos rfl]
    exact zop.same h0
  rw [f1, f2, Option.bind_some, Option.bind_some, if_neg (show ¬ (1 : Int32) = 0 by decide), if_neg (show ¬ (1 : Int32) = 0 by decide)]
  by_cases q : v3 ≤ v4
  · rw [if_pos q, if_pos q]
    exact o_filter34 hF hD hH hN hk (Or.inr ⟨c, hc, rfl⟩)
  · rw [if_neg q, if_neg q]
    exact zop.same h0
theorem zgetD_app {L : List (Int32 × Int32)} {x : Int32 × Int32} {r : Nat} : (L ++ [x]).getD r (0, 0) = if r < L.length then L.getD r (0, 0) else if r = L.length then x else (0, 0) := by
  rw [List.getD_eq_getElem?_getD]
  by_cases h : r < L.length
  · rw [if_pos h, List.getElem?_append_left h, List.getD_eq_getElem?_getD]
  · rw [if_neg h, List.getElem?_append_right (by omega)]
    by_cases h2 : r = L.length
    · rw [if_pos h2, h2, Nat.sub_self]; rfl
    · rw [if_neg h2, List.getElem?_eq_none (by show 1 ≤ _; omega)]; rfl
theorem o_range {N : Nat} {σ μ : zS} (h : zRE σ μ) (hN : 3000 < N) (v1 v2 v3 : Int32) : zop (m_X8_range N σ v1 v2 v3) (m_X9_range N μ v1 v2 v3) := by
  have h0 := h
  obtain ⟨n, cn, vs, mt, FL, e, d, hF, hD, hH, hC⟩ := h
  unfold m_X8_range m_X9_range
  rcases (w_fac (N := N) hF v1).symm with ⟨q1, q2⟩ | ⟨k, F, hk, rfl, q1, q2⟩
  · rw [q1, q2, Option.bind_some, Option.bind_some, if_pos rfl]
    exact zop.same h0
  have hkl := (List.getElem?_eq_some_iff.mp hk).1
  have h10 := hF.2.1
  rw [q1, q2, Option.bind_some, Option.bind_some, if_neg (show ¬ (1 : Int32) = 0 by decide)]
  show zop ((m_X8_isValue N σ v2).bind _) _
  rcases (w_val (N := N) (σ := σ) (μ := μ) v2).symm with ⟨f1, f2⟩ | ⟨-, -, f1, f2⟩
  · rw [f1, f2, Option.bind_some, Option.bind_some, if_pos rfl, if_pos rfl]
    exact zop.same h0
  rw [f1, f2, Option.bind_some, Option.bind_some, if_neg (show ¬ (1 : Int32) = 0 by decide), if_neg (show ¬ (1 : Int32) = 0 by decide)]
  rcases (w_val (N := N) (σ := σ) (μ := μ) v3).symm with ⟨f3, f4⟩ | ⟨-, -, f3, f4⟩
  · rw [f3, f4, Option.bind_some, Option.bind_some, if_pos rfl, if_pos rfl]
    exact zop.same h0
  rw [f3, f4, Option.bind_some, Option.bind_some, if_neg (show ¬ (1 : Int32) = 0 by decide), if_neg (show ¬ (1 : Int32) = 0 by decide)]
  refine (Decidable.em (v2 ≤ v3)).symm.elim (fun q => ?_) (fun q => ?_)
  · rw [if_neg q, if_neg q]
    exact zop.same h0
  obtain ⟨gx, gm, fv⟩ := hF.1 k F hk
  have kd2 : nI (zKd F) = (2 : Int32) ↔ zKd F = 2 := nI_eq (b := 2) (by have := fv.1; omega) (by omega)
  have hR := fv.2.2.1
  rw [if_pos q, if_pos q, gx.1, zrd_nI (by omega) (by omega), Option.bind_some, gm.1]
  refine (Decidable.em (zKd F = 2)).symm.elim (fun h2 => ?_) (fun h2 => ?_)
  · rw [if_neg (fun q => h2 (kd2.mp q)), if_neg (fun q => h2 (kd2.mp q))]
    exact zop.same h0
  rw [if_pos (kd2.mpr h2), if_pos (kd2.mpr h2), gx.2.2.2.2.1, zrd_nI (by omega) (by omega), Option.bind_some, gm.2.2.2.2.1]
  by_cases h6 : (zRl F).length = 6
  · rw [if_neg (show ¬ nI (zRl F).length < (6 : Int32) from nI_nlt (b := 6) (by omega) (by omega)), if_pos (show nI (zRl F).length = (6 : Int32) by rw [h6]; rfl)]
    exact zop.same h0
  rw [if_pos (show nI (zRl F).length < (6 : Int32) from nI_lt (b := 6) (by omega) (by omega)), if_neg (show ¬ nI (zRl F).length = (6 : Int32) from fun q => h6 ((nI_eq (b := 6) (by omega) (by omega)).mp q))]
  unfold zop
  refine zok_bind (w_leaveAll hH hN) ?_
  rintro σ1 ⟨hq, hl⟩
  have hF1 := hF.qx hq
  obtain ⟨fx, fm, -⟩ := hF1.1 k F hk
  obtain ⟨x1, x2, x3, x4, x5, x6, x7, x8, x9, x10, x11⟩ := id fx
  obtain ⟨y1, y2, y3, y4, y5, y6, y7, y8, y9, y10, y11⟩ := id fm
  obtain ⟨w1, w2, w3, w4, w5, w6, w7, w8, w9, w10⟩ := id fv
  unfold m_X1_addRange m_X9_changes
  have xa : ∀ (j : Nat) (f : Nat → Int32), (zsA σ1 j f).1 (19 + 12 * k) = nI (zRl F).length := fun _ _ => x5
  have xb : ∀ (j i : Nat) (f g : Nat → Int32), (zsA (zsA σ1 j f) i g).1 (19 + 12 * k) = nI (zRl F).length := fun _ _ _ _ => x5
  rw [x5, zwA_nI (by omega) (by omega), Option.bind_some, xa, zwA_nI (by omega) (by omega), Option.bind_some, Option.bind_some, xb, nI_1, Option.bind_some]
  have ne1 : (zsA σ1 (8 + k) (upd (σ1.2.1 (8 + k)) (zRl F).length v2)).2.1 (18 + k) = σ1.2.1 (18 + k) := zsA_ne σ1 _ (by omega)
  rw [ne1]
  refine zok_some ?_
  have e6 : (6 : Int32) * nI k = nI (6 * k) := pk_mul 6 k
  have ya : (zsA μ 8 (upd (μ.2.1 8) (6 * k + (zRl F).length) v2)).2.1 7 = μ.2.1 7 := rfl
  have ya2 : (zsA μ 8 (upd (μ.2.1 8) (6 * k + (zRl F).length) v2)).2.1 9 = μ.2.1 9 := rfl
  have yb : (zsA (zsA μ 8 (upd (μ.2.1 8) (6 * k + (zRl F).length) v2)) 9 (upd (μ.2.1 9) (6 * k + (zRl F).length) v3)).2.1 7 = μ.2.1 7 := rfl
  rw [Option.bind_some, e6, nI_add, zwA_nI (by omega) (by omega), Option.bind_some, ya, zrd_nI (by omega) (by omega), Option.bind_some, y5, nI_add, zwA_nI (by omega) (by omega), Option.bind_some, ya2, yb, zrd_nI (by omega) (by omega), Option.bind_some, y5, nI_1, zwA_nI (by omega) (by omega), Option.bind_some, Option.bind_some, Option.bind_some, zrd_nI (by omega) (by omega), Option.bind_some, yb]
  refine zok_some ⟨?_, ?_⟩
  · show (zsI (zsA (zsA σ1 (8 + k) (upd (σ1.2.1 (8 + k)) (zRl F).length v2)) (18 + k) (upd (σ1.2.1 (18 + k)) (zRl F).length v3)) (19 + 12 * k) (nI ((zRl F).length + 1))).1 (19 + 12 * k) - 1 = upd (μ.2.1 7) k (nI ((zRl F).length + 1)) k - 1
    rw [zsI_at _ (19 + 12 * k), upd_at]
  · have es : ∀ i, i ≠ 19 + 12 * k → (zsI (zsA (zsA σ1 (8 + k) (upd (σ1.2.1 (8 + k)) (zRl F).length v2)) (18 + k) (upd (σ1.2.1 (18 + k)) (zRl F).length v3)) (19 + 12 * k) (nI ((zRl F).length + 1))).1 i = σ1.1 i := fun i hi => zsI_ne (zsA (zsA σ1 (8 + k) (upd (σ1.2.1 (8 + k)) (zRl F).length v2)) (18 + k) (upd (σ1.2.1 (18 + k)) (zRl F).length v3)) _ hi
    refine zR_put (F' := (F.1, F.2.1, F.2.2.1, F.2.2.2.1 ++ [(v2, v3)], F.2.2.2.2)) hF1 (hD.qx hq) hl hk (fun j hj => es j (by omega)) (fun j h1 h2 => (zsA_ne (zsA σ1 (8 + k) (upd (σ1.2.1 (8 + k)) (zRl F).length v2)) _ h2).trans (zsA_ne σ1 _ h1)) rfl rfl rfl (fun j hj => (zsA_ne (zsA (zsA μ 8 (upd (μ.2.1 8) (6 * k + (zRl F).length) v2)) 9 (upd (μ.2.1 9) (6 * k + (zRl F).length) v3)) _ (by omega)).trans ((zsA_ne (zsA μ 8 (upd (μ.2.1 8) (6 * k + (zRl F).length) v2)) _ (by omega)).trans (zsA_ne μ _ (by omega)))) (fun j i _ _ h8 h9 hi => ?_) (fun i hi => ⟨?_, ?_⟩) ?_ ?_ ?_
    · have r1 : (zsA (zsA μ 8 (upd (μ.2.1 8) (6 * k + (zRl F).length) v2)) 9 (upd (μ.2.1 9) (6 * k + (zRl F).length) v3)).2.1 j = μ.2.1 j := (zsA_ne (zsA μ 8 (upd (μ.2.1 8) (6 * k + (zRl F).length) v2)) _ h9).trans (zsA_ne μ _ h8)
      by_cases h7 : j = 7
      · subst h7
        exact upd_ne _ _ hi
      · refine (congrFun (zsA_ne (zsA (zsA μ 8 (upd (μ.2.1 8) (6 * k + (zRl F).length) v2)) 9 (upd (μ.2.1 9) (6 * k + (zRl F).length) v3)) _ h7) i).trans (congrFun r1 i)
    · exact upd_ne (μ.2.1 8) v2 (by omega)
    · exact upd_ne (μ.2.1 9) v3 (by omega)
    · have e8 : (zsI (zsA (zsA σ1 (8 + k) (upd (σ1.2.1 (8 + k)) (zRl F).length v2)) (18 + k) (upd (σ1.2.1 (18 + k)) (zRl F).length v3)) (19 + 12 * k) (nI ((zRl F).length + 1))).2.1 (8 + k) = upd (σ1.2.1 (8 + k)) (zRl F).length v2 := (zsA_ne (zsA σ1 (8 + k) (upd (σ1.2.1 (8 + k)) (zRl F).length v2)) _ (by omega)).trans (zsA_at σ1 _ _)
      have e18 : (zsI (zsA (zsA σ1 (8 + k) (upd (σ1.2.1 (8 + k)) (zRl F).length v2)) (18 + k) (upd (σ1.2.1 (18 + k)) (zRl F).length v3)) (19 + 12 * k) (nI ((zRl F).length + 1))).2.1 (18 + k) = upd (σ1.2.1 (18 + k)) (zRl F).length v3 := zsA_at _ _ _
      refine ⟨(es _ (by omega)).trans x1, (es _ (by omega)).trans x2, (es _ (by omega)).trans x3, (es _ (by omega)).trans x4, (zsI_at _ _ _).trans ?_, fun r hr => ?_, ?_, (es _ (by omega)).trans x8, (es _ (by omega)).trans x9, (es _ (by omega)).trans x10, fun q => (es _ (by omega)).trans (x11 q)⟩
      · show _ = nI ((zRl F) ++ [(v2, v3)]).length
        rw [List.length_append]; rfl
      · have hr : r < ((zRl F) ++ [(v2, v3)]).length := hr
        rw [List.length_append] at hr
        have hr : r < (zRl F).length + 1 := hr
        show _ = ((zRl F) ++ [(v2, v3)]).getD r (0, 0)
        rw [e8, e18, zgetD_app]
        by_cases q : r < (zRl F).length
        · rw [if_pos q, upd_ne _ _ (by omega), upd_ne _ _ (by omega)]
          exact x6 r q
        · have : r = (zRl F).length := by omega
          rw [if_neg q, if_pos this, this, upd_at, upd_at]
      · rw [es _ (by omega), es _ (by omega), es _ (by omega)]
        exact x7
    · refine ⟨y1, y2, y3, y4, (upd_at _ _ _).trans ?_, fun r hr => ?_, y7, y8, y9, y10, y11⟩
      · show _ = nI ((zRl F) ++ [(v2, v3)]).length
        rw [List.length_append]; rfl
      · have hr : r < ((zRl F) ++ [(v2, v3)]).length := hr
        rw [List.length_append] at hr
        have hr : r < (zRl F).length + 1 := hr
        show (upd (μ.2.1 8) (6 * k + (zRl F).length) v2 (6 * k + r), upd (μ.2.1 9) (6 * k + (zRl F).length) v3 (6 * k + r)) = ((zRl F) ++ [(v2, v3)]).getD r (0, 0)
        rw [zgetD_app]
        by_cases q : r < (zRl F).length
        · rw [if_pos q, upd_ne _ _ (by omega), upd_ne _ _ (by omega)]
          exact y6 r q
        · have : r = (zRl F).length := by omega
          rw [if_neg q, if_pos this, this, upd_at, upd_at]
    · refine ⟨w1, w2, ?_, Or.inr h2, w5, w6, w7, w8, w9, w10⟩
      show ((zRl F) ++ [(v2, v3)]).length ≤ 6
      rw [List.length_append]
      show (zRl F).length + 1 ≤ 6
      omega
