/-! find, in -/
def zfnd (L : List Int32) (key r : Int32) : Prop := (∃ i, L[i]? = some key ∧ key ∉ L.take i ∧ r = nI i) ∨ (key ∉ L ∧ r = -2000000000)
theorem zfnd_uniq {L : List Int32} {key r1 r2 : Int32} (h1 : zfnd L key r1) (h2 : zfnd L key r2) : r1 = r2 := by
  have le : ∀ i j, L[i]? = some key → key ∉ L.take j → j ≤ i := by
    intro i j hi hj
    by_cases q : j ≤ i
    · exact q
    · exact absurd (List.mem_of_getElem? (i := i) (by rw [List.getElem?_take_of_lt (by omega)]; exact hi)) hj
  rcases h1 with ⟨i, a1, a2, rfl⟩ | ⟨a1, rfl⟩
  · rcases h2 with ⟨j, b1, b2, rfl⟩ | ⟨b1, rfl⟩
    · have := le i j a1 b2
      have := le j i b1 a2
      rw [show i = j by omega]
    · exact absurd (List.mem_of_getElem? a1) b1
  · rcases h2 with ⟨j, b1, b2, rfl⟩ | ⟨b1, rfl⟩
    · exact absurd (List.mem_of_getElem? b1) a1
    · rfl
theorem w_numberOf {N : Nat} {G : zG} {F : zF} {s : zS} {L : List Int32} {v : Int32} (hG : zVG G) (hF : zVF F) (hN : 3000 < N) (hL : zLs G F L) (h : zCL G F s (zLK G F L)) : zok (m_X2_numberOf N s v) (zfnd L v) := by
  have hlen := zLK_len G F L
  have hl := h.2.1
  have hnm := zLs_nm hG hF hL
  unfold m_X2_numberOf
  refine zok_bind (P := fun r => (∃ i, L[i]? = some v ∧ v ∉ L.take i ∧ r = .inl (nI i)) ∨ (v ∉ L ∧ r = .inr ())) ?_ ?_
  · refine zok_for (zLK G F L).length (fun i q => q = nI i ∧ v ∉ L.take i) ?_ ?_ _ N 0 _ (Nat.zero_add _) ⟨rfl, by simp⟩ (by omega)
    · rintro i q hi ⟨rfl, hn⟩
      show zok (m_X2_numberOf_L2 N s v (nI i)) _
      have hx : (zLK G F L)[i]? = some (zLK G F L)[i] := List.getElem?_eq_getElem hi
      generalize (zLK G F L)[i] = key at hx
      obtain ⟨b1, b2, -, -⟩ := w_read (N := N) hG h hx
      unfold m_X2_numberOf_L2 m_X2_numberOf_29_in2
      rw [h.1, if_neg (nI_ge hi (by omega)), b1, Option.bind_some, nI_1]
      rcases zLK_at hx with ⟨hil, hxl⟩ | ⟨rfl, rfl, hz⟩
      · have hk : key ≠ 2000000000 := fun q => hnm (by rw [← q]; exact List.mem_of_getElem? hxl)
        rw [decide_eq_false hk, if_pos (show zbo false = 0 from rfl), b2, Option.bind_some, if_neg hk]
        refine zok_ite (fun q => ?_) (fun q => ?_)
        · subst q
          exact zok_some (Or.inl ⟨i, hxl, hn, rfl⟩)
        · refine zok_some ⟨rfl, ?_⟩
          rw [ztake hxl, List.mem_append, List.mem_singleton]
          rintro (w | w)
          · exact hn w
          · exact q w.symm
      · rw [decide_eq_true rfl, if_neg (show ¬ zbo true = 0 by decide)]
        refine zok_some ⟨rfl, ?_⟩
        rw [List.take_of_length_le (Nat.le_refl _)] at hn
        rw [List.take_of_length_le (by omega)]
        exact hn
    · rintro q ⟨rfl, hn⟩
      show zok (m_X2_numberOf_L2 N s v (nI (zLK G F L).length)) _
      unfold m_X2_numberOf_L2
      rw [h.1, if_pos (Int32.le_refl _)]
      rw [List.take_of_length_le (by omega)] at hn
      exact zok_some (Or.inr ⟨hn, rfl⟩)
  · rintro r (⟨i, h1, h2, rfl⟩ | ⟨h1, rfl⟩)
    · exact zok_some (Or.inl ⟨i, h1, h2, rfl⟩)
    · exact zok_some (Or.inr ⟨h1, rfl⟩)
theorem o_find {N : Nat} {σ μ : zS} (h : zRE σ μ) (hN : 3000 < N) (v1 v2 : Int32) : zop (m_X8_find N σ v1 v2) (m_X9_find N μ v1 v2) := by
  have h0 := h
  obtain ⟨n, cn, vs, mt, FL, e, d, hF, hD, hH, hC⟩ := h
  unfold m_X8_find m_X9_find
  rcases w_grp hF hD hH hC hN v1 with ⟨q1, q2⟩ | ⟨k, F, L, s, m, hk, rfl, hk10, hV, q1, q2, q3, hpx, hpm, hL, hCL, hr, hGM, r1, r2, r3, r4⟩
  · rw [q1, q2, Option.bind_some, Option.bind_some, if_pos rfl]
    exact zop.same h0
  have hG := hD.VG e d
  have hRE : zRE s m := ⟨n, cn, vs, mt, FL, e, d, r1, r2, r3, r4⟩
  obtain ⟨g1, g2, g3⟩ := w_refg hG hV hN hr hL hGM
  have hlen := zLK_len (zGG n cn vs mt e d) F L
  rw [q1, q2, q3, Option.bind_some, Option.bind_some, Option.bind_some, if_neg (show ¬ (1 : Int32) = 0 by decide)]
  show zop ((m_X2_numberOf N s v2).bind fun b5 => some (b5, s)) _
  obtain ⟨x, ex, hx⟩ := w_numberOf (v := v2) hG hV hN hL hCL
  rw [ex, Option.bind_some]
  have main : zok (ziter (fun q : Int32 => m_X9_find_L18 N (nI k) v2 m q) N (0 : Int32)) (fun r => (∃ i, L[i]? = some v2 ∧ v2 ∉ L.take i ∧ r = .inl (nI i)) ∨ (v2 ∉ L ∧ r = .inr ())) := by
    have step : ∀ i, m_X9_find_L18 N (nI k) v2 m (nI i) = (if nI L.length ≤ nI i then some (.inr (.inr ())) else (zrd 1100 (m.2.1 19) (nI i)).bind fun b8 => if b8 = v2 then some (.inr (.inl (nI i))) else some (.inl (nI i + 1))) := by
      intro i
      unfold m_X9_find_L18 m_X9_find_35_in18
      rw [hGM.2.1, g1, hlen]
      cases zhm (zGG n cn vs mt e d) F
      · rw [if_pos (show zbo false = 0 from rfl)]
        have : nI (L.length + false.toNat) - 0 = nI L.length := pk_sub (a := L.length) (b := 0) (by omega)
        rw [this]
      · rw [if_neg (show ¬ zbo true = 0 by decide)]
        have : nI (L.length + true.toNat) - 1 = nI L.length := nI_pred _
        rw [this]
    have hL8 := hGM.2.2.2.2
    refine zok_for L.length (fun i q => q = nI i ∧ v2 ∉ L.take i) ?_ ?_ _ N 0 _ (Nat.zero_add _) ⟨rfl, by simp⟩ (by omega)
    · rintro i q hi ⟨rfl, hn⟩
      show zok (m_X9_find_L18 N (nI k) v2 m (nI i)) _
      have hxl : L[i]? = some L[i] := List.getElem?_eq_getElem hi
      generalize L[i] = key at hxl
      rw [step, if_neg (nI_ge hi (by omega)), zrd_nI (by omega) (by omega), Option.bind_some, (hGM.2.2.1 i key hxl).1, nI_1]
      refine zok_ite (fun q => ?_) (fun q => ?_)
      · subst q
        exact zok_some (Or.inl ⟨i, hxl, hn, rfl⟩)
      · refine zok_some ⟨rfl, ?_⟩
        rw [ztake hxl, List.mem_append, List.mem_singleton]
        rintro (w | w)
        · exact hn w
        · exact q w.symm
    · rintro q ⟨rfl, hn⟩
      show zok (m_X9_find_L18 N (nI k) v2 m (nI L.length)) _
      rw [step, if_pos (Int32.le_refl _)]
      rw [List.take_of_length_le (Nat.le_refl _)] at hn
      exact zok_some (Or.inr ⟨hn, rfl⟩)
  obtain ⟨y, ey, hy⟩ := main
  rw [ey, Option.bind_some]
  refine zok_some ?_
  rcases hy with ⟨i, y1, y2, rfl⟩ | ⟨y1, rfl⟩
  · exact zok_some ⟨zfnd_uniq hx (Or.inl ⟨i, y1, y2, rfl⟩), hRE⟩
  · exact zok_some ⟨zfnd_uniq hx (Or.inr ⟨y1, rfl⟩), hRE⟩
theorem w_holds {N : Nat} {G : zG} {F : zF} {s : zS} {K : List Int32} {i o : Nat} {key : Int32} (hG : zVG G) (hN : 3000 < N) (h : zCL G F s K) (hi : K[i]? = some key) (ho : o < 120) : m_X2_holds N s (nI i) (nI o) = some (zbo (decide (o ∈ zob G F key))) := by
  obtain ⟨-, -, b3, b4⟩ := w_read (N := N) hG h hi
  have hl := zob_len (F := F) hG key
  have hG1 := hG.1
  have main : zok (ziter (fun q : Int32 => m_X2_holds_L9 N s (nI i) (nI o) (nI (zob G F key).length) q) N (0 : Int32)) (fun r => r = if o ∈ zob G F key then .inl () else .inr ()) := by
    refine zok_for (zob G F key).length (fun j q => q = nI j ∧ o ∉ (zob G F key).take j) ?_ ?_ _ N 0 _ (Nat.zero_add _) ⟨rfl, by simp⟩ (by omega)
    · rintro j q hj ⟨rfl, hn⟩
      show zok (m_X2_holds_L9 N s (nI i) (nI o) (nI (zob G F key).length) (nI j)) _
      have hx : (zob G F key)[j]? = some (zob G F key)[j] := List.getElem?_eq_getElem hj
      generalize (zob G F key)[j] = x at hx
      have hxm := List.mem_of_getElem? hx
      have hxn := (zob_mem.mp hxm).1
      unfold m_X2_holds_L9
      rw [if_neg (nI_ge hj (by omega)), b4 j x hx, Option.bind_some, nI_1]
      refine zok_ite (fun q => ?_) (fun q => ?_)
      · have : x = o := (nI_eq (by omega) (by omega)).mp q
        subst this
        refine zok_some ?_
        show _ = _
        rw [if_pos hxm]
      · refine zok_some ⟨rfl, ?_⟩
        rw [ztake hx, List.mem_append, List.mem_singleton]
        rintro (w | w)
        · exact hn w
        · exact q (by rw [w])
    · rintro q ⟨rfl, hn⟩
      show zok (m_X2_holds_L9 N s (nI i) (nI o) (nI (zob G F key).length) (nI (zob G F key).length)) _
      unfold m_X2_holds_L9
      rw [List.take_of_length_le (Nat.le_refl _)] at hn
      rw [if_pos (Int32.le_refl _)]
      refine zok_some ?_
      show _ = _
      rw [if_neg hn]
  obtain ⟨r, e, rfl⟩ := main
  unfold m_X2_holds
  rw [b3, Option.bind_some, e, Option.bind_some]
  by_cases q : o ∈ zob G F key
  · rw [if_pos q, decide_eq_true q]; rfl
  · rw [if_neg q, decide_eq_false q]; rfl
theorem o_in {N : Nat} {σ μ : zS} (h : zRE σ μ) (hN : 3000 < N) (v1 v2 v3 : Int32) : zop (m_X8_in N σ v1 v2 v3) (m_X9_in N μ v1 v2 v3) := by
  have h0 := h
  obtain ⟨n, cn, vs, mt, FL, e, d, hF, hD, hH, hC⟩ := h
  have hn := hD.2.2.2.2.2.2.2.2.1
  unfold m_X8_in m_X9_in m_X9_isGroup
  rcases w_grp hF hD hH hC hN v1 with ⟨q1, q2⟩ | ⟨k, F, L, s, m, hk, rfl, hk10, hV, q1, q2, q3, hpx, hpm, hL, hCL, hr, hGM, r1, r2, r3, r4⟩
  · rw [q1, q2, Option.bind_some, Option.bind_some, if_pos rfl, Option.bind_some, if_pos rfl]
    rcases (w_obj (N := N) hD.1 hD.2.1 hn v3).symm with ⟨p1, p2⟩ | ⟨o, ho, rfl, p1, p2⟩
    · rw [p2, Option.bind_some, if_pos rfl]
      exact zop.same h0
    · rw [p2, Option.bind_some, if_neg (show ¬ (1 : Int32) = 0 by decide)]
      exact zop.same h0
  have hG := hD.VG e d
  have hRE : zRE s m := ⟨n, cn, vs, mt, FL, e, d, r1, r2, r3, r4⟩
  have hRE0 : zRE s μ := ⟨n, cn, vs, mt, FL, e, d, hF.qx hpx.qx, hD.qx hpx.qx, hH.px hpx, r4⟩
  obtain ⟨g1, g2, g3⟩ := w_refg hG hV hN hr hL hGM
  rw [q1, q2, q3, Option.bind_some, Option.bind_some, Option.bind_some, if_neg (show ¬ (1 : Int32) = 0 by decide)]
  show zop ((m_X2_has N s v2).bind _) _
  have s2 : s.1 2 = nI n := r2.1
  rcases (w_obj (N := N) s2 hD.2.1 hn v3).symm with ⟨p1, p2⟩ | ⟨o, ho, rfl, p1, p2⟩
  · rw [p2, Option.bind_some, if_pos rfl]
    rcases (w_hasg (N := N) hCL.1 g1 g2 v2).symm with ⟨f1, f2⟩ | ⟨i, key, hi, hil, rfl, f1, f2⟩
    · rw [f1, Option.bind_some, if_pos rfl]
      exact zop.same hRE0
    · rw [f1, Option.bind_some, if_neg (show ¬ (1 : Int32) = 0 by decide)]
      show zop ((m_X6_has N s v3).bind _) _
      rw [p1, Option.bind_some, if_pos rfl]
      exact zop.same hRE0
  rw [p2, Option.bind_some, if_neg (show ¬ (1 : Int32) = 0 by decide)]
  rcases (w_hasg (N := N) hCL.1 g1 g2 v2).symm with ⟨f1, f2⟩ | ⟨i, key, hi, hil, rfl, f1, f2⟩
  · rw [f1, f2, Option.bind_some, Option.bind_some, if_pos rfl, if_pos rfl]
    exact zop.same hRE
  obtain ⟨a1, a2, a3, a4⟩ := g3 i key hi
  rw [f1, f2, Option.bind_some, Option.bind_some, if_neg (show ¬ (1 : Int32) = 0 by decide), if_neg (show ¬ (1 : Int32) = 0 by decide)]
  show zop ((m_X6_has N s (nI o)).bind _) ((m_X9_isIn N m (nI k) (nI i) (nI o)).bind _)
  rw [p1, Option.bind_some, if_neg (show ¬ (1 : Int32) = 0 by decide), a3 o ho, Option.bind_some]
  show zop ((m_X2_holds N s (nI i) (nI o)).bind _) _
  rw [w_holds hG hN hCL hi (by omega), Option.bind_some]
  cases decide (o ∈ zob (zGG n cn vs mt e d) F key)
  · rw [if_pos (show zbo false = 0 from rfl), if_pos (show zbo false = 0 from rfl)]
    exact zop.same hRE
  · rw [if_neg (show ¬ zbo true = 0 by decide), if_neg (show ¬ zbo true = 0 by decide)]
    exact zop.same hRE
