/-! the call place -/
theorem o_place {N : Nat} {σ μ : zS} (h : zRE σ μ) (hN : 3000 < N) (v1 v2 v3 v4 : Int32) : zop (m_X8_place N σ v1 v2 v3 v4) (m_X9_place N μ v1 v2 v3 v4) := by
  unfold m_X8_place m_X9_place
  have z100 : (100 : Int32).toInt = 100 := by decide
  rcases (w_idx (N := N) (μ := μ) (n := 101) (by omega) v4).symm with ⟨q, q3⟩ | ⟨t, ht, rfl, g1, -, q3⟩
  · have q3 : m_X9_within N μ v4 0 100 = some 0 := q3
    have hx : zop (some ((-2000000001 : Int32), σ)) ((m_X9_isColumn N μ v3).bind fun b1 => if b1 = (0 : Int32) then (some ((-2000000001 : Int32), μ)) else ((m_X9_within N μ v4 (0 : Int32) (100 : Int32)).bind fun b3 => if b3 = (0 : Int32) then (some ((-2000000001 : Int32), μ)) else ((m_X9_findRow N μ v1 v2 v3).bind fun p6 => if p6.1 = (0 : Int32) then (some ((-2000000001 : Int32), p6.2)) else (if (p6.2.1 6) = (0 : Int32) then (some ((-2000000000 : Int32), p6.2)) else (if (((v4 * (p6.2.1 6)) + (99 : Int32)) / (100 : Int32)) = (0 : Int32) then ((zrd 360 (p6.2.2.1 24) (0 : Int32)).bind fun b12 => some (b12, p6.2)) else ((zrd 360 (p6.2.2.1 24) ((((v4 * (p6.2.1 6)) + (99 : Int32)) / (100 : Int32)) - (1 : Int32))).bind fun b11 => some (b11, p6.2))))))) := by
      rcases (w_col (N := N) (σ := σ) (μ := μ) v3).symm with ⟨f1, f2⟩ | ⟨c, hc, rfl, f1, f2⟩
      · rw [f2, Option.bind_some, if_pos rfl]
        exact zop.same h
      · rw [f2, Option.bind_some, if_neg (show ¬ (1 : Int32) = 0 by decide), q3, Option.bind_some, if_pos rfl]
        exact zop.same h
    rcases q with q | ⟨q, q2⟩
    · rw [if_pos q]
      exact hx
    · have tt := Int32.le_iff_toInt_le.mp q2
      rw [nI_toInt (by omega)] at tt
      rw [if_neg q, if_pos (show (100 : Int32) < v4 from Int32.lt_iff_toInt_lt.mpr (by omega))]
      exact hx
  have q3 : m_X9_within N μ (nI t) 0 100 = some 1 := q3
  rw [if_neg g1, if_neg (show ¬ (100 : Int32) < nI t from nI_nlt (a := 100) (by omega) (by omega)), q3]
  rcases (w_col (N := N) (σ := σ) (μ := μ) v3).symm with ⟨f1, f2⟩ | ⟨c, hc, rfl, f1, f2⟩
  · have : m_X8_sampleIsTaken N σ v1 v2 v3 = some (0, σ) := by
      unfold m_X8_sampleIsTaken
      rw [f1, Option.bind_some, if_pos rfl]
    rw [this, f2, Option.bind_some, Option.bind_some, if_pos rfl, if_pos rfl]
    exact zop.same h
  rw [f2, Option.bind_some, if_neg (show ¬ (1 : Int32) = 0 by decide), Option.bind_some, if_neg (show ¬ (1 : Int32) = 0 by decide)]
  rcases w_sample h hN v1 v2 hc with ⟨s, m, e1, e2, r1, r2⟩ | ⟨s, s0, m, m0, V, R, e1, e2, hs, hm, hle, hp, hl, hre⟩
  · rw [e1, e2, Option.bind_some, Option.bind_some, if_pos rfl, if_pos rfl]
    exact zop.same r1
  have hRl := hp.length_eq
  have hid : zRE s m := (hre s ⟨fun _ _ => rfl, rfl, rfl, rfl⟩).1
  obtain ⟨h6, h24⟩ := hm.at6
  have rd : ∀ i x, R[i]? = some x → m.2.1 24 i = x := fun i x hx => by have := h24 i x hx; rw [Nat.zero_add] at this; exact this
  rw [e1, e2, Option.bind_some, Option.bind_some, if_neg (show ¬ (1 : Int32) = 0 by decide), if_neg (show ¬ (1 : Int32) = 0 by decide)]
  show zop ((m_X7_atPercent N s (nI t)).bind _) (if m.1 6 = 0 then _ else if (nI t * m.1 6 + 99) / 100 = 0 then (zrd 360 (m.2.1 24) 0).bind _ else (zrd 360 (m.2.1 24) ((nI t * m.1 6 + 99) / 100 - 1)).bind _)
  have z6 : nI R.length = (0 : Int32) ↔ R.length = 0 := nI_eq (b := 0) (by omega) (by omega)
  have hm1 : t * R.length ≤ 100 * R.length := Nat.mul_le_mul_right _ (by omega)
  have ep : (nI t * nI R.length + 99) / 100 = nI ((t * R.length + 99) / 100) := by
    rw [pk_mul]
    have : nI (t * R.length) + 99 = nI (t * R.length + 99) := nI_add _ 99
    rw [this]
    exact pk_div (d := 100) (by omega) (by omega) (by omega)
  unfold m_X7_atPercent m_J9_max_7cf53
  rw [hs.at7.1, ← hRl, h6, ep]
  have hpp : (t * R.length + 99) / 100 ≤ R.length := by omega
  have pz : nI ((t * R.length + 99) / 100) = (0 : Int32) ↔ (t * R.length + 99) / 100 = 0 := nI_eq (b := 0) (by omega) (by omega)
  generalize (t * R.length + 99) / 100 = p at hpp pz ep
  have hmax : (if (1 : Int32) < nI p then some (nI p) else some (1 : Int32)) = some (nI (max 1 p)) := by
    by_cases q : 1 < p
    · rw [if_pos (show (1 : Int32) < nI p from nI_lt (a := 1) q (by omega)), show max 1 p = p by omega]
    · rw [if_neg (show ¬ (1 : Int32) < nI p from nI_nlt (b := p) (a := 1) (by omega) (by omega)), show max 1 p = 1 by omega]
      rfl
  rw [hmax, Option.bind_some]
  obtain ⟨⟨r, s2⟩, er, hr, hs2⟩ := w_atPlace (p := max 1 p) hN hs hle hp hl (by omega) (by omega)
  dsimp only at hr hs2
  rw [er, Option.bind_some, Option.bind_some]
  by_cases hz : R.length = 0
  · rw [if_pos (z6.mpr hz), hr, List.getElem?_eq_none (by omega)]
    exact zop.same (hre s2 hs2).1
  rw [if_neg (fun q => hz (z6.mp q))]
  have hx : R[max 1 p - 1]? = some (R[max 1 p - 1]'(by omega)) := List.getElem?_eq_getElem (by omega)
  generalize R[max 1 p - 1]'(by omega) = x at hx
  rw [hr, hx]
  by_cases hp0 : p = 0
  · have e0 : zrd 360 (m.2.1 24) (0 : Int32) = some (m.2.1 24 0) := zrd_nI (j := 0) (by omega) (by omega)
    rw [show max 1 p - 1 = 0 by omega] at hx
    rw [if_pos (pz.mpr hp0), e0, Option.bind_some, rd 0 x hx]
    exact zop.same (hre s2 hs2).1
  · obtain ⟨u, rfl⟩ : ∃ u, p = u + 1 := ⟨p - 1, by omega⟩
    rw [show max 1 (u + 1) - 1 = u by omega] at hx
    rw [if_neg (fun q => hp0 (pz.mp q)), nI_pred, zrd_nI (by omega) (by omega), Option.bind_some, rd u x hx]
    exact zop.same (hre s2 hs2).1
