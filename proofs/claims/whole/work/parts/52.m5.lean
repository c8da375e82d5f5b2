/-! the reference: the groups of a facet -/
def zGM (G : zG) (F : zF) (m : zS) (L : List Int32) : Prop :=
  m.1 4 = nI (L.length + (zhm G F).toNat) ∧ m.1 5 = zbo (zhm G F) ∧ (∀ i x, L[i]? = some x → m.2.1 19 i = x ∧ m.2.1 20 i = nI (zsz G F x)) ∧
  (zhm G F = true → m.2.1 19 L.length = -2000000000 ∧ m.2.1 20 L.length = nI (zmm G F G.1).length) ∧ L.length ≤ 1086
/-- where the new group is put in -/
def zinP (μ : zS) (f : Nat) (G : zG) (F : zF) (P : List Int32) (key : Int32) (m0 m : zS) (k : Nat) : Prop :=
  zrdy μ f G F m ∧ m.1 5 = 0 ∧ m.1 4 = m0.1 4 ∧ k ≤ P.length ∧ zat_ G F m 1099 key ∧ (∀ i x, i < k → P[i]? = some x → zat_ G F m i x) ∧ (∀ i x, k ≤ i → P[i]? = some x → zat_ G F m (i + 1) x ∧ zbf G F key x) ∧ ∀ i, P.length < i → i < 1099 → m.2.1 19 i = m0.2.1 19 i
theorem w_insert {N : Nat} {μ m0 : zS} {f : Nat} {G : zG} {F : zF} {P : List Int32} {key : Int32} {v2 v3 v4 : Int32} (hG : zVG G) (hF : zVF F) (hl : P.length ≤ 1086) : ∀ (k N' : Nat) (m : zS), k < N' → zinP μ f G F P key m0 m k →
    zok (ziter (fun q : zS × Int32 => m_X9_findGroups_L61 N (nI f) v2 v3 v4 q.1 q.2) N' (m, nI k)) (fun r => ∃ k' m', r = (m', nI k') ∧ zinP μ f G F P key m0 m' k' ∧ (∀ x, k' ≠ 0 → P[k' - 1]? = some x → ¬ zbf G F key x)) := by
  intro k
  induction k with
  | zero =>
    intro N' m hN h
    cases N' with
    | zero => omega
    | succ N' =>
      unfold ziter
      show zok ((m_X9_findGroups_L61 N (nI f) v2 v3 v4 m (nI 0)).bind _) _
      unfold m_X9_findGroups_L61
      rw [if_pos (show nI 0 ≤ 0 from Int32.le_refl _), Option.bind_some]
      exact zok_some ⟨0, m, rfl, h, fun x q => absurd rfl q⟩
  | succ k ih =>
    intro N' m hN h
    cases N' with
    | zero => omega
    | succ N' =>
      obtain ⟨h1, h2, h2', h3, h4, h5, h6, h7⟩ := id h
      have hx : P[k]? = some P[k] := List.getElem?_eq_getElem (by omega)
      generalize P[k] = x at hx
      have hatk := h5 k x (by omega) hx
      unfold ziter
      show zok ((m_X9_findGroups_L61 N (nI f) v2 v3 v4 m (nI (k + 1))).bind _) _
      unfold m_X9_findGroups_L61
      have e99 : (1099 : Int32) = nI 1099 := rfl
      rw [if_neg (nI_nle (by omega) (by omega)), nI_pred, e99, w_isBefore h1 hG hF (by omega) (by omega) h4 hatk, Option.bind_some]
      cases hb : zbfb G F key x
      · rw [if_pos (show zbo false = 0 from rfl), Option.bind_some]
        refine zok_some ⟨k + 1, m, rfl, h, fun y _ hy => ?_⟩
        rw [Nat.add_sub_cancel, hx] at hy
        cases hy
        unfold zbf
        rw [hb]
        decide
      · rw [if_neg (show ¬ zbo true = 0 by decide), w_move (by omega) (by omega), Option.bind_some, pk_m1, Option.bind_some]
        refine ih N' (zmv m k (k + 1)) (by omega) ⟨zmv_ready h1 _ _, h2, h2', by omega, h4.mvo (by omega), fun i y hi hy => (h5 i y (by omega) hy).mvo (by omega), fun i y hi hy => ?_, fun i hi hi2 => ?_⟩
        · by_cases e : i = k
          · subst e
            rw [hx] at hy
            cases hy
            exact ⟨hatk.mv, hb⟩
          · obtain ⟨q1, q2⟩ := h6 i y (by omega) hy
            exact ⟨q1.mvo (by omega), q2⟩
        · rw [(zmv_ne (m := m) (a := k) (by omega)).1]
          exact h7 i hi hi2
theorem zins_list {G : zG} {F : zF} {P : List Int32} {key : Int32} {k : Nat} (hk : k ≤ P.length) (hp : P.Pairwise (zbf G F)) (hn : key ∉ P) (h1 : ∀ i x, k ≤ i → P[i]? = some x → zbf G F key x) (h2 : ∀ x, k ≠ 0 → P[k - 1]? = some x → ¬ zbf G F key x) : (P.take k ++ key :: P.drop k).Pairwise (zbf G F) := by
  rw [List.pairwise_append, List.pairwise_cons]
  have hp' := hp
  rw [← List.take_append_drop k P, List.pairwise_append] at hp'
  obtain ⟨q1, q2, q3⟩ := hp'
  have hd : ∀ x, x ∈ P.drop k → zbf G F key x := by
    intro x hx
    obtain ⟨i, hi⟩ := List.getElem?_of_mem hx
    rw [List.getElem?_drop] at hi
    exact h1 (k + i) x (by omega) hi
  have ht : ∀ x, x ∈ P.take k → zbf G F x key := by
    intro x hx
    have hk0 : k ≠ 0 := by intro e; subst e; simp at hx
    have hy : P[k - 1]? = some P[k - 1] := List.getElem?_eq_getElem (by omega)
    have hymem : P[k - 1] ∈ P := List.getElem_mem _
    generalize P[k - 1] = y at hy hymem
    have hyk : zbf G F y key := by
      rcases zbf_tot (G := G) (F := F) (show y ≠ key from fun e => hn (e ▸ hymem)) with q | q
      · exact q
      · exact absurd q (h2 y hk0 hy)
    obtain ⟨i, hi⟩ := List.getElem?_of_mem hx
    have hilt : i < k := by
      have := (List.getElem?_eq_some_iff.mp hi).1
      rw [List.length_take] at this
      omega
    rw [List.getElem?_take_of_lt hilt] at hi
    by_cases e : i = k - 1
    · subst e
      rw [hy] at hi
      cases hi
      exact hyk
    · obtain ⟨l1, g1⟩ := List.getElem?_eq_some_iff.mp hi
      obtain ⟨l2, g2⟩ := List.getElem?_eq_some_iff.mp hy
      have := List.pairwise_iff_getElem.mp hp i (k - 1) l1 l2 (by omega)
      rw [g1, g2] at this
      exact zbf_trans this hyk
  refine ⟨q1, ⟨hd, q2⟩, fun a ha b hb => ?_⟩
  rcases List.mem_cons.mp hb with e | e
  · rw [e]; exact ht a ha
  · exact q3 a ha b e
set_option maxHeartbeats 1000000 in
theorem w_fgloop {N : Nat} {μ m0 : zS} {f : Nat} {G : zG} {F : zF} {C : List Int32} (hG : zVG G) (hF : zVF F) (hN : 3000 < N) (hr0 : zrdy μ f G F m0) (p5' : m0.1 5 = 0) (c2 : zpre (m0.2.1 19) 0 C) (c3 : C.Nodup) (c4 : C.length ≤ 1086) (c5 : ∀ key, key ∈ C ↔ zcd G F key) :
    zok (ziter (fun q : zS × Int32 × Int32 => m_X9_findGroups_L20 N (nI f) (nI C.length) q.1 q.2.1 q.2.2) N (m0, (0 : Int32), (0 : Int32))) (fun r => ∃ P m, r = (m, nI P.length) ∧ zrdy μ f G F m ∧ m.1 5 = 0 ∧ P.length ≤ 1086 ∧ (∀ i x, P[i]? = some x → zat_ G F m i x) ∧ zLs G F P) := by
  have hn := hG.1
  refine zok_for C.length (fun g s => ∃ P m, s = (m, nI P.length, nI g) ∧ zrdy μ f G F m ∧ m.1 5 = 0 ∧ P.length ≤ g ∧ (∀ i x, P[i]? = some x → zat_ G F m i x) ∧ (∀ i x, g ≤ i → C[i]? = some x → m.2.1 19 i = x) ∧ P.Pairwise (zbf G F) ∧ ∀ key, key ∈ P ↔ key ∈ C.take g ∧ zLe F ≤ zsz G F key) ?_ ?_ _ N 0 _ (Nat.zero_add _) ⟨[], m0, rfl, hr0, p5', Nat.le_refl _, fun i x h => (by cases h), fun i x _ hx => (by have := c2 i x hx; rw [Nat.zero_add] at this; exact this), List.Pairwise.nil, fun key => by simp⟩ (by omega)
  · rintro g s hg ⟨P, m, rfl, q1, q2, q3, q4, q5, q6, q7⟩
    show zok (m_X9_findGroups_L20 N (nI f) (nI C.length) m (nI P.length) (nI g)) _
    have hx : C[g]? = some C[g] := List.getElem?_eq_getElem hg
    generalize C[g] = key at hx
    have hk19 := q5 g key (Nat.le_refl _) hx
    unfold m_X9_findGroups_L20
    have hmeas := w_measure (N := N) (g := g) (P := zin_ G F key) q1 hG hF (by omega) hN (fun a b o ho => by
      have := w_isIn0 (N := N) (g := g) (zmz_ready q1 g a b) hG hF ho (by omega) hN (Or.inl q2)
      have e : (zmz m g a b).2.1 19 g = key := hk19
      rw [e] at this
      exact this)
    rw [if_neg (nI_ge hg (by omega)), hmeas, Option.bind_some]
    have es : ((List.range G.1).filter (zin_ G F key)).length = zsz G F key := rfl
    have em : zsmL G F ((List.range G.1).filter (zin_ G F key)) = zsm G F key := rfl
    rw [es, em]
    have hat1 : zat_ G F (zmz m g (nI (zsz G F key)) (zsm G F key)) g key := ⟨hk19, upd_at (m.2.1 20) g _, vp_updL_at (m.2.2 0) g _⟩
    have hato : ∀ i x, i ≠ g → zat_ G F m i x → zat_ G F (zmz m g (nI (zsz G F key)) (zsm G F key)) i x := fun i x hi h => ⟨h.1, (upd_ne (m.2.1 20) _ hi).trans h.2.1, (vp_updL_ne (m.2.2 0) _ hi).trans h.2.2⟩
    have hrd := zmz_ready q1 g (nI (zsz G F key)) (zsm G F key)
    generalize hm1 : zmz m g (nI (zsz G F key)) (zsm G F key) = m1 at *
    have h5m1 : m1.1 5 = 0 := by rw [← hm1]; exact q2
    have h19m1 : m1.2.1 19 = m.2.1 19 := by rw [← hm1]; rfl
    have hsz := zsz_le (F := F) hG key
    have hle := hF.2.2.2.2.1
    obtain ⟨a1, a2, a3, a4, a5, a6, a7, a8, a9, a10, a11, a12, a13, a14, a15, a16⟩ := hrd.1
    rw [zrd_nI (show g < 1100 by omega) (by omega), Option.bind_some, zrd_nI a1 (by omega), Option.bind_some, hat1.2.1, a13]
    have emk : ∀ y, y ∈ C.take (g + 1) ↔ y ∈ C.take g ∨ y = key := fun y => by rw [ztake hx, List.mem_append, List.mem_singleton]
    have hnk : key ∉ C.take g := by
      intro h
      have hnd := c3
      rw [← List.take_append_drop (g + 1) C, ztake hx, List.nodup_append] at hnd
      have hnd2 := hnd.1
      rw [List.nodup_append] at hnd2
      exact hnd2.2.2 key h key (List.mem_singleton.mpr rfl) rfl
    have hnP : key ∉ P := fun h => hnk ((q7 key).mp h).1
    refine zok_ite (fun hc => ?_) (fun hc => ?_)
    · have hc := (nI_ltI (by omega) (by omega)).mp hc
      unfold m_X9_findGroups_109_in20
      rw [nI_1]
      refine zok_some ⟨P, m1, rfl, hrd, h5m1, by omega, fun i x hix => hato i x (by have := (List.getElem?_eq_some_iff.mp hix).1; omega) (q4 i x hix), fun i x hi hix => by rw [h19m1]; exact q5 i x (by omega) hix, q6, fun y => ?_⟩
      rw [q7 y, emk y]
      constructor
      · rintro ⟨h, h'⟩; exact ⟨Or.inl h, h'⟩
      · rintro ⟨h | h, h'⟩
        · exact ⟨h, h'⟩
        · subst h; omega
    · have hc := mt (nI_ltI (a := zsz G F key) (b := zLe F) (by omega) (by omega)).mpr hc
      have e99 : (1099 : Int32) = nI 1099 := rfl
      rw [e99, w_move (by omega) (by omega), Option.bind_some]
      have hstart : zinP μ f G F P key m1 (zmv m1 g 1099) P.length := by
        refine ⟨zmv_ready hrd _ _, h5m1, rfl, Nat.le_refl _, hat1.mv, fun i x hi hix => (hato i x (by omega) (q4 i x hix)).mvo (by omega), fun i x hi hix => ?_, fun i hi hi2 => (zmv_ne (by omega)).1⟩
        have := (List.getElem?_eq_some_iff.mp hix).1
        omega
      refine zok_bind (w_insert (N := N) (v2 := nI C.length) (v3 := nI P.length) (v4 := nI g) hG hF (by omega) P.length N _ (by omega) hstart) ?_
      rintro _ ⟨k, m2, rfl, ⟨z1, z2, z2', z3, z4, z5, z6, z7⟩, z8⟩
      show zok (m_X9_findGroups_97_in20 N (nI f) (nI C.length) m2 (nI P.length) (nI g) (nI k)) _
      unfold m_X9_findGroups_97_in20 m_X9_findGroups_109_in20
      rw [e99, w_move (by omega) (by omega), Option.bind_some, nI_1, nI_1]
      have hlen : (P.take k ++ key :: P.drop k).length = P.length + 1 := by
        rw [List.length_append, List.length_cons, List.length_take, List.length_drop]; omega
      refine zok_some ⟨P.take k ++ key :: P.drop k, zmv m2 1099 k, by rw [hlen], zmv_ready z1 _ _, z2, by omega, fun i x hix => ?_, fun i x hi hix => ?_, zins_list z3 q6 hnP (fun i x h h' => (z6 i x h h').2) z8, fun y => ?_⟩
      · by_cases hik : i < k
        · rw [List.getElem?_append_left (by rw [List.length_take]; omega), List.getElem?_take_of_lt hik] at hix
          exact (z5 i x hik hix).mvo (by omega)
        · rw [List.getElem?_append_right (by rw [List.length_take]; omega), List.length_take, show min k P.length = k by omega] at hix
          by_cases hie : i = k
          · subst hie
            rw [Nat.sub_self, List.getElem?_cons_zero] at hix
            cases hix
            exact z4.mv
          · rw [show i - k = (i - k - 1) + 1 by omega, List.getElem?_cons_succ, List.getElem?_drop, show k + (i - k - 1) = i - 1 by omega] at hix
            have := (z6 (i - 1) x (by omega) hix).1
            rw [show i - 1 + 1 = i by omega] at this
            exact this.mvo (by omega)
      · have := (List.getElem?_eq_some_iff.mp hix).1
        rw [(zmv_ne (m := m2) (a := 1099) (b := k) (show i ≠ k by omega)).1, z7 i (by omega) (by omega), h19m1]
        exact q5 i x (by omega) hix
      · have hm : y ∈ (P.take k ++ key :: P.drop k) ↔ y ∈ P ∨ y = key := by
          rw [List.mem_append, List.mem_cons]
          conv => rhs; rw [← List.take_append_drop k P, List.mem_append]
          constructor
          · rintro (h | h | h)
            · exact Or.inl (Or.inl h)
            · exact Or.inr h
            · exact Or.inl (Or.inr h)
          · rintro ((h | h) | h)
            · exact Or.inl h
            · exact Or.inr (Or.inr h)
            · exact Or.inr (Or.inl h)
        rw [hm, q7 y, emk y]
        constructor
        · rintro (⟨h, h'⟩ | h)
          · exact ⟨Or.inl h, h'⟩
          · subst h; exact ⟨Or.inr rfl, by omega⟩
        · rintro ⟨h | h, h'⟩
          · exact Or.inl ⟨h, h'⟩
          · exact Or.inr h
  · rintro s ⟨P, m, rfl, q1, q2, q3, q4, q5, q6, q7⟩
    show zok (m_X9_findGroups_L20 N (nI f) (nI C.length) m (nI P.length) (nI C.length)) _
    unfold m_X9_findGroups_L20
    rw [if_pos (Int32.le_refl _)]
    refine zok_some ⟨P, m, rfl, q1, q2, by omega, q4, q6, fun key => ?_⟩
    rw [q7 key, List.take_of_length_le (Nat.le_refl _), c5 key]
theorem zmz_1 (m : zS) (g : Nat) (a : Int32) (b : Int64) : (zmz m g a b).1 = m.1 := rfl
theorem zmz_19 (m : zS) (g : Nat) (a : Int32) (b : Int64) : (zmz m g a b).2.1 19 = m.2.1 19 := rfl
theorem zmz_20 (m : zS) (g : Nat) (a : Int32) (b : Int64) : (zmz m g a b).2.1 20 = upd (m.2.1 20) g a := rfl
set_option maxHeartbeats 1000000 in
theorem w_fgtail2 {N : Nat} {μ m m4 : zS} {f : Nat} {G : zG} {F : zF} {P : List Int32} (hG : zVG G) (hF : zVF F) (hN : 3000 < N) (q3 : P.length ≤ 1086) (q4 : ∀ i x, P[i]? = some x → zat_ G F m i x) (q5 : zLs G F P) (hak : zAk F = true) (hmm : (zmm G F G.1).length ≤ 120) (r4 : zrdy μ f G F m4) (h5' : m4.1 5 = 1) (h4' : m4.1 4 = nI (P.length + 1)) (h19' : m4.2.1 19 = upd (m.2.1 19) P.length (-2000000000)) (h20' : m4.2.1 20 = upd (m.2.1 20) P.length (nI (zmm G F G.1).length)) :
    zok ((zrd 1100 (m4.2.1 20) (nI P.length)).bind fun b31 => if b31 ≤ (0 : Int32) then (m_X9_findGroups_187 N (nI f) m4 (nI P.length)) else ((zrd 1100 (m4.2.1 20) (nI P.length)).bind fun b40 => (zrd 10 (m4.2.1 13) (nI f)).bind fun b41 => if b40 < b41 then (m_X9_findGroups_187 N (nI f) m4 (nI P.length)) else (m_X9_findGroups_188 N (nI f) m4 (nI P.length) (1 : Int32)))) (fun m => zrdy μ f G F m ∧ ∃ L, zLs G F L ∧ zGM G F m L) := by
  have hn := hG.1
  obtain ⟨b1, b2, b3, b4, b5, b6, b7, b8, b9, b10, b11, b12, b13, b14, b15, b16⟩ := r4.1
  have hgrp : ∀ i x, P[i]? = some x → m4.2.1 19 i = x ∧ m4.2.1 20 i = nI (zsz G F x) := by
    intro i x h
    have hi := (List.getElem?_eq_some_iff.mp h).1
    rw [h19', h20', upd_ne _ _ (by omega), upd_ne _ _ (by omega)]
    exact ⟨(q4 i x h).1, (q4 i x h).2.1⟩
  have no : zhm G F = false → zok (m_X9_findGroups_187 N (nI f) m4 (nI P.length)) (fun m => zrdy μ f G F m ∧ ∃ L, zLs G F L ∧ zGM G F m L) := by
    intro hhm
    unfold m_X9_findGroups_187 m_X9_findGroups_188
    rw [show zcz 0 = some 0 from rfl, Option.bind_some, Option.bind_some, zsI_at m4 5 0, if_pos rfl, Option.bind_some]
    refine zok_some ⟨r4.moved' ((zpm.sI (by omega)).trans (zpm.sI (by omega))) rfl rfl, P, q5, ?_, ?_, hgrp, fun h => (by rw [hhm] at h; cases h), q3⟩
    · rw [hhm, Bool.toNat_false, Nat.add_zero]; exact zsI_at _ 4 _
    · rw [hhm]; exact (zsI_ne _ (k := 4) (j := 5) (nI P.length) (by omega)).trans (zsI_at m4 5 0)
  have hle := hF.2.2.2.2.1
  rw [zrd_nI (show P.length < 1100 by omega) (by omega), Option.bind_some, h20', upd_at]
  refine zok_ite (fun hc => ?_) (fun hc => ?_)
  · refine no ?_
    unfold zhm
    have : (zmm G F G.1).length ≤ 0 := (nI_leI (b := 0) (by omega) (by omega)).mp hc
    rw [decide_eq_false (by omega), Bool.and_false]
  · have hpos : ¬ (zmm G F G.1).length ≤ 0 := mt (nI_leI (b := 0) (by omega) (by omega)).mpr hc
    rw [Option.bind_some, zrd_nI b1 (by omega), Option.bind_some, b13]
    refine zok_ite (fun hc2 => ?_) (fun hc2 => ?_)
    · refine no ?_
      unfold zhm
      have := (nI_ltI (by omega) (by omega)).mp hc2
      rw [decide_eq_false (by omega), Bool.and_false]
    · have hc2 := mt (nI_ltI (a := (zmm G F G.1).length) (b := zLe F) (by omega) (by omega)).mpr hc2
      have hhm : zhm G F = true := by
        unfold zhm
        rw [hak, decide_eq_true (by omega)]
        rfl
      unfold m_X9_findGroups_188
      rw [show zcz 1 = some 1 from rfl, Option.bind_some, Option.bind_some, zsI_at m4 5 1, if_neg (by decide), Option.bind_some]
      refine zok_some ⟨r4.moved' ((zpm.sI (by omega)).trans (zpm.sI (by omega))) rfl rfl, P, q5, ?_, ?_, hgrp, fun _ => ⟨?_, ?_⟩, q3⟩
      · rw [hhm, Bool.toNat_true]
        refine (zsI_at _ 4 _).trans ((zsI_ne m4 (k := 5) (j := 4) 1 (by omega)).trans h4')
      · rw [hhm]; exact (zsI_ne _ (k := 4) (j := 5) _ (by omega)).trans (zsI_at m4 5 1)
      · show m4.2.1 19 P.length = _
        rw [h19', upd_at]
      · show m4.2.1 20 P.length = _
        rw [h20', upd_at]
set_option maxHeartbeats 1000000 in
theorem w_fgtail {N : Nat} {μ m : zS} {f : Nat} {G : zG} {F : zF} {P : List Int32} (hG : zVG G) (hF : zVF F) (hN : 3000 < N) (q1 : zrdy μ f G F m) (q2 : m.1 5 = 0) (q3 : P.length ≤ 1086) (q4 : ∀ i x, P[i]? = some x → zat_ G F m i x) (q5 : zLs G F P) : zok (m_X9_findGroups_115 N (nI f) m (nI P.length)) (fun m => zrdy μ f G F m ∧ ∃ L, zLs G F L ∧ zGM G F m L) := by
  have hn := hG.1
  show zok (m_X9_findGroups_115 N (nI f) m (nI P.length)) _
  unfold m_X9_findGroups_115
  obtain ⟨a1, a2, a3, a4, a5, a6, a7, a8, a9, a10, a11, a12, a13, a14, a15, a16⟩ := q1.1
  rw [Option.bind_some, zrd_nI a1 (by omega), Option.bind_some]
  have e14 : (zsI m 4 (nI P.length)).2.1 14 f = zbo (zAk F) := a14
  rw [e14]
  cases hak : zAk F
  · rw [if_pos (show zbo false = 0 from rfl)]
    have hhm : zhm G F = false := by unfold zhm; rw [hak]; rfl
    refine zok_some ⟨q1.moved' (zpm.sI (by omega)) rfl rfl, P, q5, ?_, ?_, fun i x h => ⟨(q4 i x h).1, (q4 i x h).2.1⟩, fun h => (by rw [hhm] at h; cases h), q3⟩
    · rw [hhm, Bool.toNat_false, Nat.add_zero]; exact zsI_at m 4 _
    · rw [hhm]; exact (zsI_ne m (k := 4) (j := 5) (nI P.length) (by omega)).trans q2
  · rw [if_neg (show ¬ zbo true = 0 by decide), Option.bind_some, Option.bind_some]
    have e4 : (zsI (zsI m 4 (nI P.length)) 5 1).1 4 = nI P.length := (zsI_ne _ (k := 5) (j := 4) 1 (by omega)).trans (zsI_at m 4 _)
    rw [e4, nI_1, zwA_nI (by omega) (by omega), Option.bind_some]
    generalize hm3 : zsA (zsI (zsI (zsI m 4 (nI P.length)) 5 1) 4 (nI (P.length + 1))) 19 (upd ((zsI (zsI (zsI m 4 (nI P.length)) 5 1) 4 (nI (P.length + 1))).2.1 19) P.length (-2000000000)) = m3
    have r3 : zrdy μ f G F m3 := by
      rw [← hm3]
      exact q1.moved' ((((zpm.sI (by omega)).trans (zpm.sI (by omega))).trans (zpm.sI (by omega))).trans (zpm.sA (by omega))) rfl rfl
    have h5 : m3.1 5 = 1 := by rw [← hm3]; rfl
    have h4 : m3.1 4 = nI (P.length + 1) := by rw [← hm3]; rfl
    have h19 : m3.2.1 19 = upd (m.2.1 19) P.length (-2000000000) := by rw [← hm3]; rfl
    have h20 : m3.2.1 20 = m.2.1 20 := by rw [← hm3]; rfl
    have hmeas := w_measure (N := N) (g := P.length) (P := zims G F) r3 hG hF (by omega) hN (fun a b o ho => w_isInM (zmz_ready r3 _ a b) hG hF ho (by omega) hN h5 h4)
    rw [hmeas, Option.bind_some]
    have es : ((List.range G.1).filter (zims G F)).length = (zmm G F G.1).length := rfl
    rw [es]
    have hmm : (zmm G F G.1).length ≤ 120 := by
      unfold zmm
      exact Nat.le_trans (List.length_filter_le _ _) (by rw [List.length_range]; exact hn)
    refine w_fgtail2 (m := m) hG hF hN q3 q4 q5 hak hmm (zmz_ready r3 P.length _ _) ?_ ?_ ?_ ?_
    · rw [zmz_1]; exact h5
    · rw [zmz_1]; exact h4
    · rw [zmz_19]; exact h19
    · rw [zmz_20, h20]
theorem w_findGroups {N : Nat} {μ : zS} {f : Nat} {G : zG} {F : zF} (hL : zLM μ f G F) (hG : zVG G) (hF : zVF F) (hN : 3000 < N) :
    zok (m_X9_findGroups N μ (nI f)) (fun m => zrdy μ f G F m ∧ ∃ L, zLs G F L ∧ zGM G F m L) := by
  unfold m_X9_findGroups
  rw [Option.bind_some]
  have hp0 : zpm μ (zsI μ 5 0) := zpm.sI (by omega)
  refine zok_bind (zfk_keys (hL.moved hp0) hG hF hN) ?_
  rintro m0 ⟨p1, p5, C, c1, c2, c3, c4, c5, c6⟩
  have hr0 : zrdy μ f G F m0 := ⟨hL.moved (hp0.trans p1), hp0.trans p1, c6⟩
  have p5' : m0.1 5 = 0 := p5.trans (zsI_at μ 5 0)
  rw [c1]
  refine zok_bind (w_fgloop hG hF hN hr0 p5' c2 c3 c4 c5) ?_
  rintro _ ⟨P, m, rfl, q1, q2, q3, q4, q5⟩
  exact w_fgtail hG hF hN q1 q2 q3 q4 q5
