/-! sums, different values; the calls figure and place -/
def zdf (R : List Int32) : Nat → Nat
  | 0 => 0
  | i + 1 => zdf R i + (if i = 0 ∨ R[i]? ≠ R[i - 1]? then 1 else 0)
theorem zdf_le (R : List Int32) : ∀ i, zdf R i ≤ i
  | 0 => Nat.le_refl _
  | i + 1 => by
    have := zdf_le R i
    unfold zdf
    split <;> omega
theorem zperm_sum {l1 l2 : List Int32} (h : l1.Perm l2) : ∀ acc : Int64, l1.foldl (fun s v => s + v.toInt64) acc = l2.foldl (fun s v => s + v.toInt64) acc := by
  induction h with
  | nil => intro acc; rfl
  | cons x _ ih => intro acc; exact ih _
  | swap x y l =>
    intro acc
    show l.foldl (fun s v => s + v.toInt64) (acc + y.toInt64 + x.toInt64) = l.foldl (fun s v => s + v.toInt64) (acc + x.toInt64 + y.toInt64)
    rw [Int64.add_assoc, Int64.add_comm y.toInt64, ← Int64.add_assoc]
  | trans _ _ ih1 ih2 => intro acc; exact (ih1 acc).trans (ih2 acc)
theorem zsp.at7 {s0 s : zS} {V : List Int32} (h : zsp s0 V s) : s.1 7 = nI V.length ∧ zpreL (s.2.2 3) (V.map Int32.toInt64) := by
  obtain ⟨g, rfl, hg⟩ := h
  refine ⟨zsI_at (zsL s0 3 g) 7 _, ?_⟩
  have e3 : (zsI (zsL s0 3 g) 7 (nI V.length)).2.2 3 = g := zsL_at s0 3 g
  rw [e3]
  exact hg
theorem zro.at6 {m0 m : zS} {R : List Int32} (h : zro m0 R m) : m.1 6 = nI R.length ∧ zpre (m.2.1 24) 0 R := by
  obtain ⟨g, rfl, hg⟩ := h
  refine ⟨zsI_at m0 6 _, ?_⟩
  rw [zsA_at (zsI m0 6 (nI R.length)) 24]
  exact hg
theorem w_sumX {N : Nat} {s0 s : zS} {V : List Int32} (hN : 3000 < N) (h : zsp s0 V s) (hl : V.length ≤ 360) : m_X7_sum N s = some (V.foldl (fun s v => s + v.toInt64) 0) := by
  obtain ⟨h7, h3⟩ := h.at7
  have main : zok (ziter (fun q : Int64 × Int32 => m_X7_sum_L4 N s q.1 q.2) N ((0 : Int64), (0 : Int32))) (fun r => r = V.foldl (fun s v => s + v.toInt64) 0) := by
    refine zok_for V.length (fun i q => q = ((V.take i).foldl (fun s v => s + v.toInt64) 0, nI i)) ?_ ?_ _ N 0 _ (Nat.zero_add _) rfl (by omega)
    · rintro i q hi rfl
      show zok (m_X7_sum_L4 N s _ (nI i)) _
      have hx : V[i]? = some V[i] := List.getElem?_eq_getElem hi
      generalize V[i] = x at hx
      unfold m_X7_sum_L4
      rw [h7, if_neg (nI_ge hi (by omega)), zrd_nI (by omega) (by omega), Option.bind_some, h3 i x.toInt64 (by rw [List.getElem?_map, hx]; rfl), nI_1]
      refine zok_some ?_
      show _ = _
      rw [ztake hx, List.foldl_append]
      rfl
    · rintro q rfl
      show zok (m_X7_sum_L4 N s _ (nI V.length)) _
      unfold m_X7_sum_L4
      rw [h7, if_pos (Int32.le_refl _)]
      refine zok_some ?_
      show _ = _
      rw [List.take_of_length_le (Nat.le_refl _)]
  obtain ⟨r, e, rfl⟩ := main
  unfold m_X7_sum
  rw [e, Option.bind_some]
  rfl
theorem z64 {x y : Int32} : x.toInt64 = y.toInt64 ↔ x = y := by
  constructor
  · intro h
    have := congrArg Int64.toInt h
    rw [Int32.toInt_toInt64, Int32.toInt_toInt64] at this
    exact Int32.toInt_inj.mp this
  · intro h
    rw [h]
theorem w_diffX {N : Nat} {s0 s : zS} {V R : List Int32} (hN : 3000 < N) (h : zsp s0 V s) (hR : zle_ R) (hp : R.Perm V) (hl : V.length ≤ 360) : zok (m_X7_different N s) (fun r => r.1 = nI (zdf R R.length) ∧ zsame s r.2) := by
  have hRl := hp.length_eq
  unfold m_X7_different
  rw [h.at7.1]
  refine zok_bind (w_ssort hN h hR hp hl) ?_
  rintro s2 ⟨a1, a2, a3⟩
  refine zok_bind (P := fun r => r = nI (zdf R R.length)) ?_ (fun r hr => zok_some ⟨hr, a1⟩)
  have rd : ∀ i x, R[i]? = some x → s2.2.2 3 i = x.toInt64 := fun i x hx => a3 i x.toInt64 (by rw [List.getElem?_map, hx]; rfl)
  refine zok_for R.length (fun i q => q = (nI (zdf R i), nI i)) ?_ ?_ _ N 0 _ (Nat.zero_add _) rfl (by omega)
  · rintro i q hi rfl
    show zok (m_X7_different_L19 N s2 (nI (zdf R i)) (nI i)) _
    unfold m_X7_different_L19 m_X7_different_49_in19 m_X7_different_52_in19
    rw [a2, ← hRl, if_neg (nI_ge hi (by omega)), nI_1, nI_1]
    by_cases h0 : i = 0
    · subst h0
      rw [if_pos (show nI 0 = (0 : Int32) from rfl)]
      refine zok_some ?_
      show _ = _
      rfl
    · obtain ⟨t, rfl⟩ : ∃ t, i = t + 1 := ⟨i - 1, by omega⟩
      have hx : R[t + 1]? = some (R[t + 1]) := List.getElem?_eq_getElem hi
      have hy : R[t]? = some (R[t]'(by omega)) := List.getElem?_eq_getElem (by omega)
      generalize R[t + 1] = x at hx
      generalize R[t]'(by omega) = y at hy
      have hz : zdf R (t + 1 + 1) = zdf R (t + 1) + (if t + 1 = 0 ∨ R[t + 1]? ≠ R[t]? then 1 else 0) := rfl
      rw [if_neg (nI_ne0 (by omega) (by omega)), zrd_nI (by omega) (by omega), Option.bind_some, nI_pred, zrd_nI (by omega) (by omega), Option.bind_some, rd (t + 1) x hx, rd t y hy]
      rw [hx, hy] at hz
      by_cases q : x = y
      · rw [if_pos ((lg_0 _ _).mpr (z64.mpr q))]
        refine zok_some ?_
        show _ = _
        rw [hz, if_neg (fun w => w.elim (by omega) (fun w => w (by rw [q])))]
        rfl
      · rw [if_neg (fun w => q (z64.mp ((lg_0 _ _).mp w)))]
        refine zok_some ?_
        show _ = _
        rw [hz, if_pos (Or.inr (fun w => q (Option.some.inj w)))]
  · rintro q rfl
    show zok (m_X7_different_L19 N s2 (nI (zdf R R.length)) (nI R.length)) _
    unfold m_X7_different_L19
    rw [a2, ← hRl, if_pos (Int32.le_refl _)]
    exact zok_some rfl
theorem w_figM {N : Nat} {m0 m : zS} {R : List Int32} (v1 v2 v3 v4 : Int32) (hN : 3000 < N) (h : zro m0 R m) (hl : R.length ≤ 360) : zok (ziter (fun q : Int64 × Int32 × Int32 => m_X9_figure_L40 N v1 v2 v3 v4 m q.1 q.2.1 q.2.2) N ((0 : Int64), (0 : Int32), (0 : Int32))) (fun r => r = (R.foldl (fun s v => s + v.toInt64) 0, nI (zdf R R.length))) := by
  obtain ⟨h6, h24⟩ := h.at6
  have rd : ∀ i x, R[i]? = some x → m.2.1 24 i = x := fun i x hx => by have := h24 i x hx; rw [Nat.zero_add] at this; exact this
  refine zok_for R.length (fun i q => q = ((R.take i).foldl (fun s v => s + v.toInt64) 0, nI (zdf R i), nI i)) ?_ ?_ _ N 0 _ (Nat.zero_add _) rfl (by omega)
  · rintro i q hi rfl
    show zok (m_X9_figure_L40 N v1 v2 v3 v4 m _ (nI (zdf R i)) (nI i)) _
    have hx : R[i]? = some R[i] := List.getElem?_eq_getElem hi
    generalize R[i] = x at hx
    unfold m_X9_figure_L40 m_X9_figure_88_in40 m_X9_figure_93_in40
    rw [h6, if_neg (nI_ge hi (by omega)), zrd_nI (by omega) (by omega), Option.bind_some, rd i x hx, nI_1]
    have ef : (R.take (i + 1)).foldl (fun s v => s + v.toInt64) 0 = (R.take i).foldl (fun s v => s + v.toInt64) 0 + x.toInt64 := by
      rw [ztake hx, List.foldl_append]
      rfl
    by_cases h0 : i = 0
    · subst h0
      rw [if_pos (show nI 0 = (0 : Int32) from rfl), nI_1]
      refine zok_some ?_
      show _ = _
      rw [ef]
      rfl
    · obtain ⟨t, rfl⟩ : ∃ t, i = t + 1 := ⟨i - 1, by omega⟩
      have hy : R[t]? = some (R[t]'(by omega)) := List.getElem?_eq_getElem (by omega)
      generalize R[t]'(by omega) = y at hy
      have hz : zdf R (t + 1 + 1) = zdf R (t + 1) + (if t + 1 = 0 ∨ R[t + 1]? ≠ R[t]? then 1 else 0) := rfl
      rw [if_neg (nI_ne0 (by omega) (by omega)), Option.bind_some, nI_pred, zrd_nI (by omega) (by omega), Option.bind_some, rd t y hy]
      rw [hx, hy] at hz
      by_cases q : x = y
      · rw [if_pos q]
        refine zok_some ?_
        show _ = _
        rw [ef, hz, if_neg (fun w => w.elim (by omega) (fun w => w (by rw [q])))]
        show (_, nI (zdf R (t + 1)) + nI 0, _) = _
        rw [nI_add, nI_1]
      · rw [if_neg q, nI_1]
        refine zok_some ?_
        show _ = _
        rw [ef, hz, if_pos (Or.inr (fun w => q (Option.some.inj w)))]
  · rintro q rfl
    show zok (m_X9_figure_L40 N v1 v2 v3 v4 m _ (nI (zdf R R.length)) (nI R.length)) _
    unfold m_X9_figure_L40
    rw [h6, if_pos (Int32.le_refl _)]
    refine zok_some ?_
    show _ = _
    rw [List.take_of_length_le (Nat.le_refl _)]
theorem o_figure {N : Nat} {σ μ : zS} (h : zRE σ μ) (hN : 3000 < N) (v1 v2 v3 v4 : Int32) : zop (m_X8_figure N σ v1 v2 v3 v4) (m_X9_figure N μ v1 v2 v3 v4) := by
  unfold m_X8_figure m_X9_figure
  rcases (w_col (N := N) (σ := σ) (μ := μ) v3).symm with ⟨f1, f2⟩ | ⟨c, hc, rfl, f1, f2⟩
  · have : m_X8_sampleIsTaken N σ v1 v2 v3 = some (0, σ) := by
      unfold m_X8_sampleIsTaken
      rw [f1, Option.bind_some, if_pos rfl]
    rw [this, f2, Option.bind_some, Option.bind_some, if_pos rfl, if_pos rfl]
    exact zop.same h
  rw [f2, Option.bind_some, if_neg (show ¬ (1 : Int32) = 0 by decide)]
  have hsm := w_sample h hN v1 v2 hc
  rcases (w_idx (N := N) (μ := μ) (n := 5) (by omega) v4).symm with ⟨q, q3⟩ | ⟨t, ht, rfl, -, -, q3⟩
  · have q3 : m_X9_within N μ v4 0 4 = some 0 := q3
    rw [q3, Option.bind_some, if_pos rfl]
    have ne : ∀ t : Nat, t < 5 → ¬ v4 = nI t := by
      rintro t ht rfl
      rcases q with q | ⟨-, q⟩
      · exact nI_pos (by omega) q
      · exact nI_ge ht (by omega) q
    rcases hsm with ⟨s, m, e1, e2, r1, r2⟩ | ⟨s, s0, m, m0, V, R, e1, e2, hs, hm, hle, hp, hl, hre⟩
    · rw [e1, Option.bind_some, if_pos rfl]
      exact zop.same r2
    · rw [e1, Option.bind_some, if_neg (show ¬ (1 : Int32) = 0 by decide)]
      unfold m_X7_tell
      rw [if_neg (show ¬ v4 = (0 : Int32) from ne 0 (by omega)), if_neg (show ¬ v4 = (1 : Int32) from ne 1 (by omega)), if_neg (show ¬ v4 = (2 : Int32) from ne 2 (by omega)), if_neg (show ¬ v4 = (3 : Int32) from ne 3 (by omega)), if_neg (show ¬ v4 = (4 : Int32) from ne 4 (by omega)), Option.bind_some]
      exact zop.same (hre s ⟨fun _ _ => rfl, rfl, rfl, rfl⟩).2
  have q3 : m_X9_within N μ (nI t) 0 4 = some 1 := q3
  rw [q3, Option.bind_some, if_neg (show ¬ (1 : Int32) = 0 by decide)]
  rcases hsm with ⟨s, m, e1, e2, r1, r2⟩ | ⟨s, s0, m, m0, V, R, e1, e2, hs, hm, hle, hp, hl, hre⟩
  · rw [e1, e2, Option.bind_some, Option.bind_some, if_pos rfl, if_pos rfl]
    exact zop.same r1
  have hRl := hp.length_eq
  have hid : zRE s m := (hre s ⟨fun _ _ => rfl, rfl, rfl, rfl⟩).1
  obtain ⟨h6, h24⟩ := hm.at6
  have rd : ∀ i x, R[i]? = some x → m.2.1 24 i = x := fun i x hx => by have := h24 i x hx; rw [Nat.zero_add] at this; exact this
  obtain ⟨y, ey, rfl⟩ := w_figM v1 v2 (nI c) (nI t) hN hm (by omega)
  rw [e1, e2, Option.bind_some, Option.bind_some, if_neg (show ¬ (1 : Int32) = 0 by decide), if_neg (show ¬ (1 : Int32) = 0 by decide)]
  show zop ((m_X7_tell N s (nI t)).bind _) ((ziter _ N _).bind _)
  rw [ey, Option.bind_some]
  show zop _ (m_X9_figure_102 N v1 v2 (nI c) (nI t) m (R.foldl (fun s v => s + v.toInt64) 0) (nI (zdf R R.length)))
  have tt : ∀ a : Nat, a < 5 → (nI t = nI a ↔ t = a) := fun a ha => nI_eq (by omega) (by omega)
  have t0 : nI t = (0 : Int32) ↔ t = 0 := tt 0 (by omega)
  have t1 : nI t = (1 : Int32) ↔ t = 1 := tt 1 (by omega)
  have t2 : nI t = (2 : Int32) ↔ t = 2 := tt 2 (by omega)
  have t3 : nI t = (3 : Int32) ↔ t = 3 := tt 3 (by omega)
  have t4 : nI t = (4 : Int32) ↔ t = 4 := tt 4 (by omega)
  unfold m_X7_tell m_X9_figure_102
  rw [h6]
  have z6 : nI R.length = (0 : Int32) ↔ R.length = 0 := nI_eq (b := 0) (by omega) (by omega)
  have nn : (-2000000000 : Int32).toInt64 = (-2000000000 : Int64) := by decide
  by_cases k0 : t = 0
  · rw [if_pos (t0.mpr k0), if_pos (t0.mpr k0), hs.at7.1, hRl, Option.bind_some]
    exact zop.same hid
  rw [if_neg (fun q => k0 (t0.mp q)), if_neg (fun q => k0 (t0.mp q))]
  by_cases k1 : t = 1
  · rw [if_pos (t1.mpr k1), if_pos (t1.mpr k1), w_sumX hN hs hl, Option.bind_some, Option.bind_some, zperm_sum hp]
    exact zop.same hid
  rw [if_neg (fun q => k1 (t1.mp q)), if_neg (fun q => k1 (t1.mp q))]
  by_cases k4 : t = 4
  · rw [if_neg (fun q => by have := t2.mp q; omega), if_neg (fun q => by have := t3.mp q; omega), if_pos (t4.mpr k4), if_pos (t4.mpr k4)]
    unfold zop
    obtain ⟨⟨r, s2⟩, er, hr, hs2⟩ := w_diffX hN hs hle hp hl
    dsimp only at hr hs2
    rw [er, Option.bind_some, Option.bind_some, hr]
    exact zop.same (hre s2 hs2).1
  rw [if_neg (fun q => k4 (t4.mp q)), if_neg (fun q => k4 (t4.mp q))]
  by_cases k2 : t = 2
  · rw [if_pos (t2.mpr k2), if_pos (t2.mpr k2)]
    obtain ⟨⟨r, s2⟩, er, hr, hs2⟩ := w_atPlace (p := 1) hN hs hle hp hl (by omega) (by omega)
    dsimp only at hr hs2
    have er : m_X7_atPlace N s (1 : Int32) = some (r, s2) := er
    rw [er, Option.bind_some, Option.bind_some]
    by_cases hz : R.length = 0
    · rw [if_pos (z6.mpr hz), hr, List.getElem?_eq_none (by omega)]
      show zop (some ((-2000000000 : Int32).toInt64, s2)) _
      rw [nn]
      exact zop.same (hre s2 hs2).1
    · have hx : R[0]? = some (R[0]'(by omega)) := List.getElem?_eq_getElem (by omega)
      generalize R[0]'(by omega) = x at hx
      have e0 : zrd 360 (m.2.1 24) (0 : Int32) = some (m.2.1 24 0) := zrd_nI (j := 0) (by omega) (by omega)
      rw [if_neg (fun q => hz (z6.mp q)), hr, hx, e0, Option.bind_some, rd 0 x hx]
      exact zop.same (hre s2 hs2).1
  · have k3 : t = 3 := by omega
    rw [if_neg (fun q => k2 (t2.mp q)), if_neg (fun q => k2 (t2.mp q)), if_pos (t3.mpr k3), hs.at7.1]
    by_cases hz : R.length = 0
    · have ev : m_X7_atPlace N s (nI V.length) = some ((-2000000000 : Int32), s) := by
        unfold m_X7_atPlace
        rw [if_pos (show nI V.length < (1 : Int32) from nI_lt (b := 1) (by omega) (by omega))]
      rw [ev, Option.bind_some, Option.bind_some, if_pos (z6.mpr hz)]
      show zop (some ((-2000000000 : Int32).toInt64, s)) _
      rw [nn]
      exact zop.same hid
    · obtain ⟨⟨r, s2⟩, er, hr, hs2⟩ := w_atPlace (p := V.length) hN hs hle hp hl (by omega) (by omega)
      dsimp only at hr hs2
      obtain ⟨u, hu⟩ : ∃ u, R.length = u + 1 := ⟨R.length - 1, by omega⟩
      have hx : R[u]? = some (R[u]'(by omega)) := List.getElem?_eq_getElem (by omega)
      generalize R[u]'(by omega) = x at hx
      rw [er, Option.bind_some, Option.bind_some, if_neg (fun q => hz (z6.mp q)), hr, ← hRl, hu, Nat.add_sub_cancel, hx, nI_pred, zrd_nI (by omega) (by omega), Option.bind_some, rd u x hx]
      exact zop.same (hre s2 hs2).1
