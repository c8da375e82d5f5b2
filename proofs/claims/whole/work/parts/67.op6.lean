/-! groups, group, find, in -/
theorem znone10 {c : Nat} (hc : c < 2000) : ¬ nI c = (-2000000000 : Int32) := by
  intro h
  have := congrArg Int32.toInt h
  rw [nI_toInt (by omega)] at this
  have h2 : (-2000000000 : Int32).toInt = -2000000000 := by decide
  omega
theorem zCL.moved {G : zG} {F : zF} {s s' : zS} {K : List Int32} (h : zCL G F s K) (h1 : s'.1 5 = s.1 5) (h2 : s'.2.1 5 = s.2.1 5) (h3 : s'.2.1 6 = s.2.1 6) (h4 : s'.2.1 7 = s.2.1 7) (h5 : s'.2.2 1 = s.2.2 1) (h6 : s'.2.2 2 = s.2.2 2) : zCL G F s' K := by
  unfold zCL
  rw [h1, h2, h3, h4, h5, h6]
  exact h
/-- both have the groups of the facet that v1 names, or there is no such facet -/
def zgrp (N : Nat) (σ μ : zS) (n : Nat) (cn vs : Nat → Int32) (mt : Nat → Bool) (FL : List zF) (e : Nat) (d : Nat → Nat) (v1 : Int32) : Prop :=
  (m_X8_groupsOf N σ v1 = some (none, σ) ∧ m_X9_isFacet N μ v1 = some 0) ∨
  ∃ k F L s m, FL[k]? = some F ∧ v1 = nI k ∧ k < 10 ∧ zVF F ∧ m_X8_groupsOf N σ v1 = some (some 4, s) ∧ m_X9_isFacet N μ v1 = some 1 ∧ m_X9_findGroups N μ v1 = some m ∧ zpx σ s ∧ zpm μ m ∧ zLs (zGG n cn vs mt e d) F L ∧ zCL (zGG n cn vs mt e d) F s (zLK (zGG n cn vs mt e d) F L) ∧ zrdy μ k (zGG n cn vs mt e d) F m ∧ zGM (zGG n cn vs mt e d) F m L ∧ zFs s m FL ∧ zDs s m n cn vs mt ∧ zHs s m n mt e d ∧ zCs s (zGG n cn vs mt e d) FL
theorem w_grp {N : Nat} {σ μ : zS} {n : Nat} {cn vs : Nat → Int32} {mt : Nat → Bool} {FL : List zF} {e : Nat} {d : Nat → Nat} (hF : zFs σ μ FL) (hD : zDs σ μ n cn vs mt) (hH : zHs σ μ n mt e d) (hC : zCs σ (zGG n cn vs mt e d) FL) (hN : 3000 < N) (v1 : Int32) : zgrp N σ μ n cn vs mt FL e d v1 := by
  have hG := hD.VG e d
  rcases (w_fac (N := N) hF v1).symm with ⟨q1, q2⟩ | ⟨k, F, hk, rfl, q1, q2⟩
  · left
    refine ⟨?_, q2⟩
    unfold m_X8_groupsOf
    rw [q1, Option.bind_some]
    rfl
  · right
    have hkl := (List.getElem?_eq_some_iff.mp hk).1
    have h10 := hF.2.1
    have hV := (hF.1 k F hk).2.2
    have hLX := zR_LX hF hD hH hk
    obtain ⟨m, em, hr, L2, hL2, hGM⟩ := w_findGroups (N := N) (zR_LM hF hD hH hk) hG hV hN
    have main : zok (m_X8_groupsOf N σ (nI k)) (fun p => p.1 = some 4 ∧ zpx σ p.2 ∧ p.2.1 1 = nI k ∧ ∃ L, zLs (zGG n cn vs mt e d) F L ∧ zCL (zGG n cn vs mt e d) F p.2 (zLK (zGG n cn vs mt e d) F L)) := by
      unfold m_X8_groupsOf
      rw [q1, Option.bind_some]
      show zok (if σ.1 1 = nI k then _ else _) _
      refine zok_ite (fun hc => ?_) (fun hc => ?_)
      · refine zok_some ⟨rfl, zpx.rfl', hc, ?_⟩
        rcases hC with hn | ⟨k', F', L, c1, c2, c3, c4⟩
        · rw [hn] at hc
          exact absurd hc.symm (znone10 (by omega))
        · have hk'l := (List.getElem?_eq_some_iff.mp c1).1
          have : k' = k := (nI_eq (by omega) (by omega)).mp (c2.symm.trans hc)
          subst this
          rw [hk] at c1
          cases c1
          exact ⟨L, c3, c4⟩
      · obtain ⟨s', e1, hpx, L, hL, hCL⟩ := w_made hLX hG hV hN
        obtain ⟨s1, e2, hs1⟩ := w_gather hLX hG hV hN
        rw [e2, Option.bind_some] at e1
        rw [e2, Option.bind_some]
        cases hcut : m_X2_cut N s1 k with
        | none => rw [hcut] at e1; cases e1
        | some s2 =>
          rw [hcut, Option.bind_some] at e1
          rw [Option.bind_some, e1, Option.bind_some, Option.bind_some]
          refine zok_some ⟨rfl, hpx.trans (zpx.sI (by omega)), zsI_at s' 1 _, L, hL, hCL.moved rfl rfl rfl rfl rfl rfl⟩
    obtain ⟨⟨o4, s⟩, es, ho4, hpx, hs1, L, hL, hCL⟩ := main
    dsimp only at ho4 hpx hs1 hCL
    subst ho4
    have : L2 = L := zLs_uniq hL2 hL
    subst this
    exact ⟨k, F, L2, s, m, hk, rfl, by omega, hV, es, q2, em, hpx, hr.2.1, hL, hCL, hr, hGM, (hF.qx hpx.qx).pm hr.2.1, (hD.qx hpx.qx).pm hr.2.1, (hH.px hpx).pm hr.2.1, Or.inr ⟨k, F, L2, hk, hs1, hL, hCL⟩⟩
theorem w_hasg {N : Nat} {s m : zS} {K : List Int32} (h1 : s.1 5 = nI K.length) (h2 : m.1 4 = nI K.length) (hl : K.length ≤ 1087) (v : Int32) : (∃ i key, K[i]? = some key ∧ i < 1100 ∧ v = nI i ∧ m_X2_has N s v = some 1 ∧ (m_X9_within N m v 0 (m.1 4 - 1)).bind (fun b4 => (zcz b4).bind fun b5 => some (b5, m)) = some (1, m)) ∨ (m_X2_has N s v = some 0 ∧ (m_X9_within N m v 0 (m.1 4 - 1)).bind (fun b4 => (zcz b4).bind fun b5 => some (b5, m)) = some (0, m)) := by
  unfold m_X2_has
  rw [h1, h2]
  rcases w_idx (N := N) (μ := m) (n := K.length) (by omega) v with ⟨i, hi, e, q1, q2, q3⟩ | ⟨q, q3⟩
  · left
    refine ⟨i, K[i], List.getElem?_eq_getElem hi, by omega, e, by rw [if_neg q1, if_neg q2], by rw [q3]; rfl⟩
  · right
    refine ⟨?_, by rw [q3]; rfl⟩
    rcases q with q | ⟨q, q2⟩
    · rw [if_pos q]
    · rw [if_neg q, if_pos q2]
theorem o_groups {N : Nat} {σ μ : zS} (h : zRE σ μ) (hN : 3000 < N) (v1 : Int32) : zop (m_X8_groups N σ v1) (m_X9_groups N μ v1) := by
  have h0 := h
  obtain ⟨n, cn, vs, mt, FL, e, d, hF, hD, hH, hC⟩ := h
  unfold m_X8_groups m_X9_groups
  rcases w_grp hF hD hH hC hN v1 with ⟨q1, q2⟩ | ⟨k, F, L, s, m, hk, rfl, hk10, hV, q1, q2, q3, hpx, hpm, hL, hCL, hr, hGM, r1, r2, r3, r4⟩
  · rw [q1, q2, Option.bind_some, Option.bind_some, if_pos rfl]
    exact zop.same h0
  · rw [q1, q2, q3, Option.bind_some, Option.bind_some, Option.bind_some, if_neg (show ¬ (1 : Int32) = 0 by decide)]
    refine zok_some (zok_some ⟨?_, n, cn, vs, mt, FL, e, d, r1, r2, r3, r4⟩)
    exact hCL.1.trans (w_refg (hD.VG e d) hV hN hr hL hGM).1.symm
theorem o_group {N : Nat} {σ μ : zS} (h : zRE σ μ) (hN : 3000 < N) (v1 v2 v3 : Int32) : zop (m_X8_group N σ v1 v2 v3) (m_X9_group N μ v1 v2 v3) := by
  have h0 := h
  obtain ⟨n, cn, vs, mt, FL, e, d, hF, hD, hH, hC⟩ := h
  unfold m_X8_group m_X9_group m_X9_isGroup
  rcases w_grp hF hD hH hC hN v1 with ⟨q1, q2⟩ | ⟨k, F, L, s, m, hk, rfl, hk10, hV, q1, q2, q3, hpx, hpm, hL, hCL, hr, hGM, r1, r2, r3, r4⟩
  · rw [q1, q2, Option.bind_some, Option.bind_some, if_pos rfl, Option.bind_some, if_pos rfl]
    exact zop.same h0
  have hG := hD.VG e d
  have hRE : zRE s m := ⟨n, cn, vs, mt, FL, e, d, r1, r2, r3, r4⟩
  obtain ⟨g1, g2, g3⟩ := w_refg hG hV hN hr hL hGM
  rw [q1, q2, q3, Option.bind_some, Option.bind_some, Option.bind_some, if_neg (show ¬ (1 : Int32) = 0 by decide)]
  show zop ((m_X2_has N s v2).bind _) _
  rcases (w_hasg (N := N) hCL.1 g1 g2 v2).symm with ⟨f1, f2⟩ | ⟨i, key, hi, hil, rfl, f1, f2⟩
  · rw [f1, f2, Option.bind_some, Option.bind_some, if_pos rfl, if_pos rfl]
    exact zop.same hRE
  obtain ⟨a1, a2, a3, a4⟩ := g3 i key hi
  obtain ⟨b1, b2, b3, b4⟩ := w_read (N := N) hG hCL hi
  rw [f1, f2, Option.bind_some, Option.bind_some, if_neg (show ¬ (1 : Int32) = 0 by decide), if_neg (show ¬ (1 : Int32) = 0 by decide)]
  rcases (w_idx (N := N) (μ := m) (n := 3) (by omega) v3).symm with ⟨q, q3⟩ | ⟨t, ht, rfl, -, -, q3⟩
  · have q3 : m_X9_within N m v3 0 2 = some 0 := q3
    show zop _ ((m_X9_within N m v3 0 2).bind _)
    rw [q3, Option.bind_some, if_pos rfl]
    have ne : ∀ t : Nat, t < 3 → ¬ v3 = nI t := by
      rintro t ht rfl
      rcases q with q | ⟨-, q⟩
      · exact nI_pos (by omega) q
      · exact nI_ge ht (by omega) q
    rw [if_neg (show ¬ v3 = (0 : Int32) from ne 0 (by omega)), if_neg (show ¬ v3 = (1 : Int32) from ne 1 (by omega)), if_neg (show ¬ v3 = (2 : Int32) from ne 2 (by omega))]
    exact zop.same hRE
  have q3 : m_X9_within N m (nI t) 0 2 = some 1 := q3
  show zop _ ((m_X9_within N m (nI t) 0 2).bind _)
  rw [q3, Option.bind_some, if_neg (show ¬ (1 : Int32) = 0 by decide)]
  have t0 : nI t = (0 : Int32) ↔ t = 0 := nI_eq (b := 0) (by omega) (by omega)
  have t1 : nI t = (1 : Int32) ↔ t = 1 := nI_eq (b := 1) (by omega) (by omega)
  have t2 : nI t = (2 : Int32) ↔ t = 2 := nI_eq (b := 2) (by omega) (by omega)
  by_cases k0 : t = 0
  · rw [if_pos (t0.mpr k0), if_pos (t0.mpr k0), b2, Option.bind_some, zrd_nI hil (by omega), Option.bind_some]
    show zop _ (some (m.2.1 19 i, m))
    rw [a1]
    exact zop.same hRE
  rw [if_neg (fun q => k0 (t0.mp q)), if_neg (fun q => k0 (t0.mp q))]
  by_cases k1 : t = 1
  · rw [if_pos (t1.mpr k1), if_pos (t1.mpr k1), b3, Option.bind_some, zrd_nI hil (by omega), Option.bind_some]
    show zop _ (some (m.2.1 20 i, m))
    rw [a2]
    exact zop.same hRE
  rw [if_neg (fun q => k1 (t1.mp q)), if_neg (fun q => k1 (t1.mp q)), if_pos (t2.mpr (by omega)), b1, Option.bind_some]
  show zop _ (if m.1 5 = 0 then _ else if nI i = m.1 4 - 1 then _ else _)
  rw [hGM.2.1]
  have hiK := (List.getElem?_eq_some_iff.mp hi).1
  have ev : nI i = m.1 4 - 1 ↔ i + 1 = (zLK (zGG n cn vs mt e d) F L).length := by
    obtain ⟨c, hc⟩ : ∃ c, (zLK (zGG n cn vs mt e d) F L).length = c + 1 := ⟨(zLK (zGG n cn vs mt e d) F L).length - 1, by omega⟩
    rw [g1, hc, nI_pred]
    rw [nI_eq (by omega) (by omega)]
    omega
  by_cases hkey : key = 2000000000
  · obtain ⟨z1, z2⟩ := a4.mp hkey
    rw [decide_eq_true hkey, z1, if_neg (show ¬ zbo true = 0 by decide), if_neg (show ¬ zbo true = 0 by decide), if_pos (ev.mpr z2)]
    exact zop.same hRE
  · rw [decide_eq_false hkey, if_pos (show zbo false = 0 from rfl)]
    cases hz : zhm (zGG n cn vs mt e d) F
    · rw [if_pos (show zbo false = 0 from rfl)]
      exact zop.same hRE
    · rw [if_neg (show ¬ zbo true = 0 by decide), if_neg (fun q => hkey (a4.mpr ⟨hz, ev.mp q⟩))]
      exact zop.same hRE
