/-! the sample of the class, the row of the reference -/
def zvo (G : zG) (c : Nat) (l : List Nat) : List Int32 := l.flatMap (fun o => zvl G.2.1 G.2.2.1 o c)
theorem zvo_app (G : zG) (c : Nat) (l : List Nat) (o : Nat) : zvo G c (l ++ [o]) = zvo G c l ++ zvl G.2.1 G.2.2.1 o c := by
  unfold zvo
  rw [List.flatMap_append, List.flatMap_cons, List.flatMap_nil, List.append_nil]
theorem zvo_len {G : zG} (hG : zVG G) (c : Nat) : ∀ l : List Nat, (zvo G c l).length ≤ 3 * l.length
  | [] => Nat.zero_le _
  | o :: l => by
    obtain ⟨m, hm, hcm⟩ := hG.2.1 (6 * o + c)
    have h1 := zvl_len (vs := G.2.2.1) hcm (by omega)
    have h2 := zvo_len hG c l
    unfold zvo at *
    rw [List.flatMap_cons, List.length_append, List.length_cons]
    omega
/-- the sample holds V, all else is as in s0 -/
def zsp (s0 : zS) (V : List Int32) (s : zS) : Prop := ∃ g, s = zsI (zsL s0 3 g) 7 (nI V.length) ∧ zpreL g (V.map Int32.toInt64)
theorem w_take {N : Nat} {s0 s : zS} {G : zG} {V : List Int32} {o c : Nat} (hG : zVG G) (hN : 3000 < N) (h2 : s0.2.1 2 = G.2.1) (h1 : s0.2.1 1 = G.2.2.1) (h : zsp s0 V s) (ho : o < 120) (hc : c ≤ 5) (hV : V.length + 3 ≤ 360) : zok (m_X7_take N s (nI o) (nI c)) (zsp s0 (V ++ zvl G.2.1 G.2.2.1 o c)) := by
  obtain ⟨k, hk, hcm⟩ := hG.2.1 (6 * o + c)
  have hlen := zvl_len (vs := G.2.2.1) hcm (by omega)
  have e2 : ∀ s, ∀ V, zsp s0 V s → s.2.1 2 = G.2.1 ∧ s.2.1 1 = G.2.2.1 ∧ s.1 7 = nI V.length := by
    rintro s V ⟨g, rfl, -⟩
    exact ⟨h2, h1, zsI_at _ 7 _⟩
  unfold m_X7_take
  rw [w_valueCount (e2 s V h).1 ho hc, Option.bind_some, hcm]
  refine zok_bind (P := zsp s0 (V ++ zvl G.2.1 G.2.2.1 o c)) ?_ (fun s h => zok_some h)
  refine zok_for k (fun i q => ∃ s, q = (s, nI i) ∧ zsp s0 (V ++ (zvl G.2.1 G.2.2.1 o c).take i) s) ?_ ?_ k N 0 _ (by omega) ⟨s, rfl, by rw [List.take_zero, List.append_nil]; exact h⟩ (by omega)
  · rintro i q hi ⟨s, rfl, hs⟩
    show zok (m_X7_take_L11 N (nI o) (nI c) (nI k) s (nI i)) _
    have hx := zvl_get (vs := G.2.2.1) hcm (by omega) hi
    obtain ⟨f2, f1, f7⟩ := e2 s _ hs
    have hl : (V ++ (zvl G.2.1 G.2.2.1 o c).take i).length < 360 := by
      rw [List.length_append, List.length_take]
      omega
    unfold m_X7_take_L11
    rw [if_neg (nI_ge hi (by omega)), f7, if_neg (show ¬ (360 : Int32) ≤ nI _ from nI_ge (b := 360) hl (by omega)), w_valueAt f1 ho hc (by omega), Option.bind_some, zwL_nI hl (by omega), Option.bind_some, Option.bind_some]
    generalize G.2.2.1 (3 * (6 * o + c) + i) = x at hx
    rw [ztake hx, ← List.append_assoc, nI_1]
    generalize V ++ (zvl G.2.1 G.2.2.1 o c).take i = W at hs hl
    obtain ⟨g, rfl, hg⟩ := hs
    refine zok_some ⟨_, rfl, vp_updL g W.length x.toInt64, ?_, ?_⟩
    · have e3 : (zsI (zsL s0 3 g) 7 (nI W.length)).2.2 3 = g := zsL_at s0 3 g
      have e7 : (zsL (zsI (zsL s0 3 g) 7 (nI W.length)) 3 (vp_updL ((zsI (zsL s0 3 g) 7 (nI W.length)).2.2 3) W.length x.toInt64)).1 7 = nI W.length := zsI_at (zsL s0 3 g) 7 _
      rw [e7, nI_1, e3]
      show zsI (zsI (zsL (zsL s0 3 g) 3 _) 7 _) 7 _ = _
      rw [zsI_idem, zsL_idem, List.length_append]
      rfl
    · rw [List.map_append]
      have := zpreL.snoc (x := x.toInt64) hg
      rw [List.length_map] at this
      exact this
  · rintro q ⟨s, rfl, hs⟩
    show zok (m_X7_take_L11 N (nI o) (nI c) (nI k) s (nI k)) _
    unfold m_X7_take_L11
    rw [if_pos (Int32.le_refl _)]
    rw [List.take_of_length_le (by omega)] at hs
    exact zok_some hs
/-- the row holds R, all else is as in m0 -/
def zro (m0 : zS) (R : List Int32) (m : zS) : Prop := ∃ g, m = zsA (zsI m0 6 (nI R.length)) 24 g ∧ zpre g 0 R
def zle_ (R : List Int32) : Prop := R.Pairwise (fun a b => a.toInt ≤ b.toInt)
theorem zins_le {R : List Int32} {v : Int32} {j : Nat} (hR : zle_ R) (hj : j ≤ R.length) (h1 : ∀ i x, j ≤ i → R[i]? = some x → v.toInt ≤ x.toInt) (h2 : ∀ x, j ≠ 0 → R[j - 1]? = some x → x.toInt ≤ v.toInt) : zle_ (R.take j ++ v :: R.drop j) := by
  have hd : ∀ b, b ∈ R.drop j → v.toInt ≤ b.toInt := by
    intro b hb
    obtain ⟨i, hi⟩ := List.getElem?_of_mem hb
    rw [List.getElem?_drop] at hi
    exact h1 _ b (by omega) hi
  have ht : ∀ a, a ∈ R.take j → a.toInt ≤ v.toInt := by
    intro a ha
    obtain ⟨i, hi⟩ := List.getElem?_of_mem ha
    have hij : i < j := by
      by_cases q : i < j
      · exact q
      · rw [List.getElem?_take_eq_none (by omega)] at hi
        cases hi
    rw [List.getElem?_take_of_lt hij] at hi
    have hl : R[j - 1]? = some (R[j - 1]'(by omega)) := List.getElem?_eq_getElem (by omega)
    have h3 := h2 _ (by omega) hl
    by_cases q : i = j - 1
    · subst q
      rw [hi] at hl
      rw [Option.some.inj hl]
      exact h3
    · have h4 := List.pairwise_iff_getElem.mp hR i (j - 1) (by omega) (by omega) (by omega)
      rw [(List.getElem?_eq_some_iff.mp hi).2] at h4
      omega
  refine List.pairwise_append.mpr ⟨hR.sublist (List.take_sublist _ _), List.pairwise_cons.mpr ⟨hd, hR.sublist (List.drop_sublist _ _)⟩, fun a ha b hb => ?_⟩
  rcases List.mem_cons.mp hb with rfl | hb
  · exact ht a ha
  · have := ht a ha
    have := hd b hb
    omega
theorem w_lay {N : Nat} {m0 m : zS} {R : List Int32} {v : Int32} (hN : 3000 < N) (h : zro m0 R m) (hR : zle_ R) (hl : R.length < 360) : zok (m_X9_lay N m v) (fun m' => ∃ R', zro m0 R' m' ∧ zle_ R' ∧ R'.Perm (R ++ [v]) ∧ R'.length = R.length + 1) := by
  obtain ⟨g, rfl, hg⟩ := h
  unfold m_X9_lay
  have e6 : (zsA (zsI m0 6 (nI R.length)) 24 g).1 6 = nI R.length := zsI_at m0 6 _
  rw [e6]
  refine zok_bind (P := fun y => ∃ j g', y = (zsA (zsI m0 6 (nI R.length)) 24 g', nI j) ∧ j ≤ R.length ∧ (∀ i x, i < j → R[i]? = some x → g' i = x) ∧ (∀ i x, j ≤ i → R[i]? = some x → g' (i + 1) = x ∧ v.toInt ≤ x.toInt) ∧ ∀ x, j ≠ 0 → R[j - 1]? = some x → x.toInt ≤ v.toInt) ?_ ?_
  · refine zok_iter (fun q => ∃ j g', q = (zsA (zsI m0 6 (nI R.length)) 24 g', nI j) ∧ j ≤ R.length ∧ (∀ i x, i < j → R[i]? = some x → g' i = x) ∧ (∀ i x, j ≤ i → R[i]? = some x → g' (i + 1) = x ∧ v.toInt ≤ x.toInt)) (fun q => q.2.toNatClampNeg) ?_ N _ ⟨R.length, g, rfl, Nat.le_refl _, fun i x _ hx => by have := hg i x hx; rw [Nat.zero_add] at this; exact this, fun i x hi hx => by have := (List.getElem?_eq_some_iff.mp hx).1; omega⟩ (by show (nI R.length).toNatClampNeg < N; rw [nI_clamp (by omega)]; omega)
    rintro q ⟨j, g', rfl, p1, p2, p3⟩
    show zok (m_X9_lay_L5 N v (zsA (zsI m0 6 (nI R.length)) 24 g') (nI j)) _
    unfold m_X9_lay_L5
    by_cases h0 : j = 0
    · subst h0
      rw [if_pos (show nI 0 ≤ (0 : Int32) from Int32.le_refl _)]
      exact zok_some ⟨0, g', rfl, p1, p2, p3, fun x q => absurd rfl q⟩
    · obtain ⟨t, rfl⟩ : ∃ t, j = t + 1 := ⟨j - 1, by omega⟩
      have hx : R[t]? = some (R[t]'(by omega)) := List.getElem?_eq_getElem (by omega)
      generalize R[t]'(by omega) = x at hx
      rw [if_neg (nI_nle (by omega) (by omega)), nI_pred, zsA_at (zsI m0 6 (nI R.length)) 24, zrd_nI (by omega) (by omega), Option.bind_some, p2 t x (by omega) hx]
      refine zok_ite (fun q => ?_) (fun q => ?_)
      · refine zok_some ⟨t + 1, g', rfl, p1, p2, p3, fun y _ hy => ?_⟩
        have hy : R[t]? = some y := hy
        rw [hx] at hy
        rw [← Option.some.inj hy]
        exact Int32.le_iff_toInt_le.mp q
      · rw [Option.bind_some, zwA_nI (by omega) (by omega), Option.bind_some, pk_m1, zsA_idem, zsA_at (zsI m0 6 (nI R.length)) 24]
        refine zok_some ⟨⟨t, _, rfl, by omega, fun i y hi hy => ?_, fun i y hi hy => ?_⟩, ?_⟩
        · rw [upd_ne _ _ (by omega)]
          exact p2 i y (by omega) hy
        · by_cases w : i = t
          · subst w
            rw [hx] at hy
            rw [upd_at]
            refine ⟨Option.some.inj hy, ?_⟩
            rw [← Option.some.inj hy]
            have := Int32.lt_iff_toInt_lt.mp (Int32.not_le.mp q)
            omega
          · rw [upd_ne _ _ (by omega)]
            exact p3 i y (by omega) hy
        · show (nI t).toNatClampNeg < (nI (t + 1)).toNatClampNeg
          rw [nI_clamp (by omega), nI_clamp (by omega)]
          omega
  · rintro _ ⟨j, g', rfl, p1, p2, p3, p4⟩
    show zok (m_X9_lay_41 N v (zsA (zsI m0 6 (nI R.length)) 24 g') (nI j)) _
    unfold m_X9_lay_41
    rw [zwA_nI (by omega) (by omega), Option.bind_some, Option.bind_some, zsA_idem, zsA_at (zsI m0 6 (nI R.length)) 24]
    have hlen : (R.take j ++ v :: R.drop j).length = R.length + 1 := by
      rw [List.length_append, List.length_cons, List.length_take, List.length_drop]
      omega
    refine zok_some ⟨R.take j ++ v :: R.drop j, ⟨upd g' j v, ?_, ?_⟩, zins_le hR p1 (fun i x hi hx => (p3 i x hi hx).2) p4, ?_, hlen⟩
    · show zsA (zsI (zsI m0 6 (nI R.length)) 6 ((zsI m0 6 (nI R.length)).1 6 + 1)) 24 _ = _
      rw [zsI_idem, zsI_at m0 6, nI_1, hlen]
    · intro i x hx
      rw [Nat.zero_add]
      have hil := (List.getElem?_eq_some_iff.mp hx).1
      have htl : (R.take j).length = j := by rw [List.length_take]; omega
      by_cases q : i < j
      · rw [List.getElem?_append_left (by omega), List.getElem?_take_of_lt q] at hx
        rw [upd_ne _ _ (by omega)]
        exact p2 i x q hx
      · rw [List.getElem?_append_right (by omega), htl] at hx
        by_cases w : i = j
        · subst w
          rw [Nat.sub_self, List.getElem?_cons_zero] at hx
          rw [upd_at]
          exact Option.some.inj hx
        · obtain ⟨t, rfl⟩ : ∃ t, i = j + t + 1 := ⟨i - j - 1, by omega⟩
          rw [show j + t + 1 - j = t + 1 by omega, List.getElem?_cons_succ, List.getElem?_drop] at hx
          rw [upd_ne _ _ (by omega)]
          exact (p3 (j + t) x (by omega) hx).1
    · refine List.perm_middle.trans ?_
      rw [List.take_append_drop]
      exact (List.perm_append_singleton v R).symm
