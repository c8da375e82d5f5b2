/-! enter -/
theorem zob_hand {G : zG} {F : zF} {key : Int32} {o : Nat} (h : o ∈ zob G F key) : G.2.2.2 o = true := by
  have hk := (zob_mem.mp h).2
  have hc : zct G F o = true := by
    rcases zkl_mem.mp hk with q | ⟨-, -, q⟩
    · unfold zin_ at q
      rw [Bool.and_eq_true] at q
      exact q.1
    · unfold zims at q
      rw [Bool.and_eq_true] at q
      exact q.1
  unfold zct at hc
  rw [Bool.and_eq_true] at hc
  exact hc.1
theorem w_enterX {N : Nat} {G : zG} {F : zF} {s : zS} {K : List Int32} {i e : Nat} {key : Int32} {d : Nat → Nat} (v1 : Int32) (hG : zVG G) (hN : 3000 < N) (h : zCL G F s K) (hi : K[i]? = some key) (hd : ∀ o, o < 120 → s.2.1 3 o = nI (d o)) :
    zok (ziter (fun q : zS × Int32 => m_X8_enter_L53 N v1 (nI i) (nI (zob G F key).length) q.1 q.2) N (zsI s 3 (nI (e + 1)), (0 : Int32))) (fun r => ∃ dp, r = zsA (zsI s 3 (nI (e + 1))) 3 dp ∧ ∀ o, o < 120 → dp o = nI (if o ∈ zob G F key then e + 1 else d o)) := by
  have hl := zob_len (F := F) hG key
  have hG1 := hG.1
  refine zok_for (zob G F key).length (fun j q => ∃ dp, q = (zsA (zsI s 3 (nI (e + 1))) 3 dp, nI j) ∧ ∀ o, o < 120 → dp o = nI (if o ∈ (zob G F key).take j then e + 1 else d o)) ?_ ?_ _ N 0 _ (Nat.zero_add _) ⟨s.2.1 3, ?_, fun o ho => ?_⟩ (by omega)
  · rintro j q hj ⟨dp, rfl, hdp⟩
    show zok (m_X8_enter_L53 N v1 (nI i) (nI (zob G F key).length) (zsA (zsI s 3 (nI (e + 1))) 3 dp) (nI j)) _
    have hx : (zob G F key)[j]? = some (zob G F key)[j] := List.getElem?_eq_getElem hj
    generalize (zob G F key)[j] = x at hx
    have hxn := (zob_mem.mp (List.mem_of_getElem? hx)).1
    have h' : zCL G F (zsA (zsI s 3 (nI (e + 1))) 3 dp) K := h.moved rfl rfl rfl rfl rfl rfl
    obtain ⟨-, -, -, b4⟩ := w_read (N := N) hG h' hi
    have e3 : (zsA (zsI s 3 (nI (e + 1))) 3 dp).1 3 = nI (e + 1) := zsI_at s 3 _
    unfold m_X8_enter_L53 m_X3_keep
    rw [if_neg (nI_ge hj (by omega)), b4 j x hx, Option.bind_some, e3, zwA_nI (by omega) (by omega), Option.bind_some, Option.bind_some, zsA_idem, zsA_at (zsI s 3 (nI (e + 1))) 3, nI_1]
    refine zok_some ⟨_, rfl, fun o ho => ?_⟩
    rw [ztake hx]
    by_cases q : o = x
    · subst q
      rw [upd_at, if_pos (List.mem_append_right _ (List.mem_singleton.mpr rfl))]
    · rw [upd_ne _ _ q, hdp o ho]
      by_cases w : o ∈ (zob G F key).take j
      · rw [if_pos w, if_pos (List.mem_append_left _ w)]
      · rw [if_neg w, if_neg (fun w2 => (List.mem_append.mp w2).elim w (fun w3 => q (List.mem_singleton.mp w3)))]
  · rintro q ⟨dp, rfl, hdp⟩
    show zok (m_X8_enter_L53 N v1 (nI i) (nI (zob G F key).length) (zsA (zsI s 3 (nI (e + 1))) 3 dp) (nI (zob G F key).length)) _
    unfold m_X8_enter_L53
    rw [if_pos (Int32.le_refl _)]
    rw [List.take_of_length_le (Nat.le_refl _)] at hdp
    exact zok_some ⟨dp, rfl, hdp⟩
  · show _ = (zsA (zsI s 3 (nI (e + 1))) 3 ((zsI s 3 (nI (e + 1))).2.1 3), nI 0)
    rw [zsA_self]
    rfl
  · rw [List.take_zero, if_neg (by simp)]
    exact hd o ho
theorem w_enterM {N : Nat} {μ m : zS} {k i e : Nat} {G : zG} {F : zF} {L : List Int32} {key : Int32} (hG : zVG G) (hF : zVF F) (hN : 3000 < N) (hr : zrdy μ k G F m) (hLs : zLs G F L) (hM : zGM G F m L) (hi : (zLK G F L)[i]? = some key) (he : e < 6) (h2 : m.1 2 = nI e) :
    zok ((ziter (fun q : zS × Int32 => m_X9_enter_L26 N (nI k) (nI i) q.1 q.2) N (m, (0 : Int32))).bind (fun y : zS => m_X9_enter_53 N (nI k) (nI i) y)) (fun r => r.1 = nI (zob G F key).length ∧ ∃ f hs, r.2 = zsI (zsA (zsA m 23 f) 17 hs) 2 (nI (e + 1)) ∧ (∀ o, o < G.1 → hs (120 * e + o) = zbo (decide (o ∈ zob G F key))) ∧ ∀ x, (x < 120 * e ∨ 120 * e + 120 ≤ x) → hs x = m.2.1 17 x) := by
  have hG1 := hG.1
  have h0 : m.1 0 = nI G.1 := hr.1.2.1
  have isIn : ∀ f o, o < G.1 → m_X9_isIn N (zsA m 23 f) (nI k) (nI i) (nI o) = some (zbo (decide (o ∈ zob G F key))) := by
    intro f o ho
    have hr' : zrdy μ k G F (zsA m 23 f) := hr.moved' (zpm.sA (by omega)) rfl rfl
    have hM' : zGM G F (zsA m 23 f) L := hM
    exact ((w_refg hG hF hN hr' hLs hM').2.2 i key hi).2.2.1 o ho
  refine zok_bind (P := fun y => ∃ f, y = zsA m 23 f ∧ ∀ o, o < G.1 → f o = zbo (decide (o ∈ zob G F key))) ?_ ?_
  · refine zok_for G.1 (fun j q => ∃ f, q = (zsA m 23 f, nI j) ∧ ∀ o, o < j → f o = zbo (decide (o ∈ zob G F key))) ?_ ?_ _ N 0 _ (Nat.zero_add _) ⟨m.2.1 23, by rw [zsA_self]; rfl, fun o ho => absurd ho (by omega)⟩ (by omega)
    · rintro j q hj ⟨f, rfl, hf⟩
      show zok (m_X9_enter_L26 N (nI k) (nI i) (zsA m 23 f) (nI j)) _
      unfold m_X9_enter_L26
      have e0 : (zsA m 23 f).1 0 = nI G.1 := h0
      rw [e0, if_neg (nI_ge hj (by omega)), isIn f j hj, Option.bind_some, zcz_zbo, Option.bind_some, zwA_nI (by omega) (by omega), Option.bind_some, zsA_idem, zsA_at m 23, nI_1]
      refine zok_some ⟨_, rfl, fun o ho => ?_⟩
      by_cases q : o = j
      · subst q
        exact upd_at _ _ _
      · rw [upd_ne _ _ q]
        exact hf o (by omega)
    · rintro q ⟨f, rfl, hf⟩
      show zok (m_X9_enter_L26 N (nI k) (nI i) (zsA m 23 f) (nI G.1)) _
      unfold m_X9_enter_L26
      have e0 : (zsA m 23 f).1 0 = nI G.1 := h0
      rw [e0, if_pos (Int32.le_refl _)]
      exact zok_some ⟨f, rfl, hf⟩
  rintro _ ⟨f, rfl, hf⟩
  unfold m_X9_enter_53
  refine zok_bind (P := fun y => ∃ hs, y = zsA (zsA m 23 f) 17 hs ∧ (∀ o, o < G.1 → hs (120 * e + o) = zbo (decide (o ∈ zob G F key))) ∧ ∀ x, (x < 120 * e ∨ 120 * e + 120 ≤ x) → hs x = m.2.1 17 x) ?_ ?_
  · refine zok_for G.1 (fun j q => ∃ hs, q = (zsA (zsA m 23 f) 17 hs, nI j) ∧ (∀ o, o < j → hs (120 * e + o) = zbo (decide (o ∈ zob G F key))) ∧ ∀ x, (x < 120 * e ∨ 120 * e + 120 ≤ x) → hs x = m.2.1 17 x) ?_ ?_ _ N 0 _ (Nat.zero_add _) ⟨(zsA m 23 f).2.1 17, by rw [zsA_self]; rfl, fun o ho => absurd ho (by omega), fun _ _ => rfl⟩ (by omega)
    · rintro j q hj ⟨hs, rfl, p1, p2⟩
      show zok (m_X9_enter_L55 N (nI k) (nI i) (zsA (zsA m 23 f) 17 hs) (nI j)) _
      unfold m_X9_enter_L55
      have e0 : (zsA (zsA m 23 f) 17 hs).1 0 = nI G.1 := h0
      have e2 : (zsA (zsA m 23 f) 17 hs).1 2 = nI e := h2
      have e23 : (zsA (zsA m 23 f) 17 hs).2.1 23 = f := rfl
      have em : (120 : Int32) * nI e = nI (120 * e) := pk_mul 120 e
      rw [e0, if_neg (nI_ge hj (by omega)), e23, zrd_nI (by omega) (by omega), Option.bind_some, hf j hj, zcz_zbo, Option.bind_some, e2, em, nI_add, zwA_nI (by omega) (by omega), Option.bind_some, zsA_idem, zsA_at (zsA m 23 f) 17, nI_1]
      refine zok_some ⟨_, rfl, fun o ho => ?_, fun x hx => ?_⟩
      · by_cases q : o = j
        · subst q
          exact upd_at _ _ _
        · rw [upd_ne _ _ (by omega)]
          exact p1 o (by omega)
      · rw [upd_ne _ _ (by omega)]
        exact p2 x hx
    · rintro q ⟨hs, rfl, p1, p2⟩
      show zok (m_X9_enter_L55 N (nI k) (nI i) (zsA (zsA m 23 f) 17 hs) (nI G.1)) _
      unfold m_X9_enter_L55
      have e0 : (zsA (zsA m 23 f) 17 hs).1 0 = nI G.1 := h0
      rw [e0, if_pos (Int32.le_refl _)]
      exact zok_some ⟨hs, rfl, p1, p2⟩
  rintro _ ⟨hs, rfl, p1, p2⟩
  unfold m_X9_enter_89
  have e2 : (zsA (zsA m 23 f) 17 hs).1 2 = nI e := h2
  rw [Option.bind_some, e2, nI_1]
  have hh := w_handM (N := N) (μ := zsI (zsA (zsA m 23 f) 17 hs) 2 (nI (e + 1))) (n := G.1) (P := fun o => decide (o ∈ zob G F key)) h0 hG1 hN (by
    intro o ho
    unfold m_X9_atHand
    have e22 : (zsI (zsA (zsA m 23 f) 17 hs) 2 (nI (e + 1))).1 2 = nI (e + 1) := zsI_at _ 2 _
    have e17 : (zsI (zsA (zsA m 23 f) 17 hs) 2 (nI (e + 1))).2.1 17 = hs := rfl
    have em : (120 : Int32) * nI e = nI (120 * e) := pk_mul 120 e
    rw [e22, if_neg (nI_ne0 (by omega) (by omega)), nI_pred, e17, em, nI_add, zrd_nI (by omega) (by omega), Option.bind_some, p1 o ho, zcz_zbo]
    rfl)
  rw [hh, Option.bind_some]
  have hfe : (List.range G.1).filter (fun o => decide (o ∈ zob G F key)) = zob G F key := by
    show _ = (List.range G.1).filter (fun o => decide (key ∈ zkl G F o))
    refine List.filter_congr (fun o ho => ?_)
    exact decide_eq_decide.mpr ⟨fun q => (zob_mem.mp q).2, fun q => zob_mem.mpr ⟨List.mem_range.mp ho, q⟩⟩
  rw [hfe]
  exact zok_some ⟨rfl, f, hs, rfl, p1, p2⟩
theorem o_enter {N : Nat} {σ μ : zS} (h : zRE σ μ) (hN : 3000 < N) (v1 v2 : Int32) : zop (m_X8_enter N σ v1 v2) (m_X9_enter N μ v1 v2) := by
  have h0 := h
  obtain ⟨n, cn, vs, mt, FL, e, d, hF, hD, hH, hC⟩ := h
  have hn := hD.2.2.2.2.2.2.2.2.1
  unfold m_X8_enter m_X9_enter m_X9_isGroup
  rcases w_grp hF hD hH hC hN v1 with ⟨q1, q2⟩ | ⟨k, F, L, s, m, hk, rfl, hk10, hV, q1, q2, q3, hpx, hpm, hL, hCL, hr, hGM, r1, r2, r3, r4⟩
  · rw [q1, q2, Option.bind_some, Option.bind_some, if_pos rfl, Option.bind_some, if_pos rfl]
    exact zop.same h0
  have hG := hD.VG e d
  have hRE : zRE s m := ⟨n, cn, vs, mt, FL, e, d, r1, r2, r3, r4⟩
  obtain ⟨g1, g2, g3⟩ := w_refg hG hV hN hr hL hGM
  rw [q1, q2, q3, Option.bind_some, Option.bind_some, Option.bind_some, if_neg (show ¬ (1 : Int32) = 0 by decide)]
  show zop ((m_X2_has N s v2).bind _) _
  rcases (w_hasg (N := N) hCL.1 g1 g2 v2).symm with ⟨f1, f2⟩ | ⟨i, key, hi, hil, rfl, f1, f2⟩
  · rw [f1, f2, Option.bind_some, Option.bind_some, if_pos rfl, if_pos rfl]
    exact zop.same hRE
  rw [f1, f2, Option.bind_some, Option.bind_some, if_neg (show ¬ (1 : Int32) = 0 by decide), if_neg (show ¬ (1 : Int32) = 0 by decide)]
  obtain ⟨c1, c2, c3, c4, c5⟩ := id r3
  show zop (if s.1 3 < 6 then _ else _) (if m.1 2 = 6 then _ else _)
  rw [c2, c3]
  by_cases he : e = 6
  · rw [if_neg (show ¬ nI e < (6 : Int32) from nI_nlt (b := 6) (by omega) (by omega)), if_pos (show nI e = (6 : Int32) by rw [he]; rfl)]
    exact zop.same hRE
  rw [if_pos (show nI e < (6 : Int32) from nI_lt (b := 6) (by omega) (by omega)), if_neg (show ¬ nI e = (6 : Int32) from fun q => he ((nI_eq (b := 6) (by omega) (by omega)).mp q))]
  obtain ⟨-, -, b3, -⟩ := w_read (N := N) hG hCL hi
  unfold m_X3_startNarrowing zop
  rw [b3, Option.bind_some, c2, nI_1]
  refine zok_bind (P := fun x => x = zsI s 3 (nI (e + 1))) (zok_some rfl) ?_
  rintro _ rfl
  refine zok_bind (w_enterX (e := e) (nI k) hG hN hCL hi (fun o ho => (c4 o ho).1)) ?_
  rintro _ ⟨dp, rfl, hdp⟩
  unfold m_X8_enter_80
  rw [Option.bind_some]
  refine zok_some ?_
  refine zok_mono (w_enterM (e := e) hG hV hN hr hL hGM hi (by omega) c3) ?_
  rintro ⟨x, w⟩ ⟨rfl, f, hs, ew, p1, p2⟩
  dsimp only at ew
  subst ew
  refine ⟨rfl, ?_⟩
  have hq : zqx s (zsI (zsA (zsI s 3 (nI (e + 1))) 3 dp) 1 (-2000000000)) := ⟨fun j hj => (zsI_ne (zsA (zsI s 3 (nI (e + 1))) 3 dp) (-2000000000) (by omega)).trans (zsI_ne s _ (by omega)), fun j hj => zsA_ne (zsI s 3 (nI (e + 1))) _ (by omega)⟩
  have hd120 : ∀ o, o ∈ zob (zGG n cn vs mt e d) F key → o < n ∧ mt o = true ∧ e ≤ d o := by
    intro o ho
    have h1 := zob_hand ho
    have h2 : (mt o && decide (e ≤ d o)) = true := h1
    rw [Bool.and_eq_true, decide_eq_true_eq] at h2
    exact ⟨(zob_mem.mp ho).1, h2⟩
  refine ⟨n, cn, vs, mt, FL, e + 1, fun o => if o ∈ zob (zGG n cn vs mt e d) F key then e + 1 else d o, ?_, ?_, ?_, ?_⟩
  · exact (r1.qx hq).moved rfl (fun _ _ => rfl) (fun _ _ => rfl) rfl (fun j h1 h2 => (zsA_ne (zsA m 23 f) _ (by omega)).trans (zsA_ne m _ (by omega)))
  · exact (r2.qx hq).moved rfl (fun _ _ => rfl) rfl (fun j h1 => (zsA_ne (zsA m 23 f) _ (by omega)).trans (zsA_ne m _ (by omega)))
  · refine ⟨by omega, ?_, zsI_at (zsA (zsA m 23 f) 17 hs) 2 _, fun o ho => ⟨hdp o ho, ?_⟩, fun o l ho hl => ?_⟩
    · exact (zsI_ne (zsA (zsI s 3 (nI (e + 1))) 3 dp) (k := 1) (j := 3) (-2000000000) (by omega)).trans (zsI_at s 3 (nI (e + 1)))
    · have := (c4 o ho).2
      show (if o ∈ zob (zGG n cn vs mt e d) F key then e + 1 else d o) ≤ e + 1
      split <;> omega
    · show hs (120 * l + o) = zbo (mt o && decide (l + 1 ≤ if o ∈ zob (zGG n cn vs mt e d) F key then e + 1 else d o))
      have hde := (c4 o (by omega)).2
      by_cases hle : l = e
      · subst hle
        rw [p1 o ho]
        by_cases q : o ∈ zob (zGG n cn vs mt l d) F key
        · rw [if_pos q, decide_eq_true q, (hd120 o q).2.1, decide_eq_true (Nat.le_refl _)]
          rfl
        · rw [if_neg q, decide_eq_false q, decide_eq_false (by omega), Bool.and_false]
      · rw [p2 _ (by omega), c5 o l ho (by omega)]
        by_cases q : o ∈ zob (zGG n cn vs mt e d) F key
        · have := (hd120 o q).2.2
          rw [if_pos q, decide_eq_true (show l + 1 ≤ d o by omega), decide_eq_true (show l + 1 ≤ e + 1 by omega)]
        · rw [if_neg q]
  · exact Or.inl (zsI_at (zsA (zsI s 3 (nI (e + 1))) 3 dp) 1 (-2000000000))
