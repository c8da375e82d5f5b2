/-! the reference: sizes and sums of groups -/
theorem w_sumOf {N : Nat} {m : zS} {o c : Nat} {G : zG} (h0 : m.2.1 0 = G.2.1) (h1 : m.2.1 1 = G.2.2.1) (hG : zVG G) (ho : o < 120) (hc : c ≤ 5) (hN : 10 < N) : m_X9_sumOf N m (nI o) (nI c) = some (zvsum G o c) := by
  obtain ⟨k, hk, hcm⟩ := hG.2.1 (6 * o + c)
  have hlen := zvl_len (vs := G.2.2.1) hcm (by omega)
  have e6 : (6 : Int32) * nI o = nI (6 * o) := pk_mul 6 o
  have e3 : (3 : Int32) * nI (6 * o + c) = nI (3 * (6 * o + c)) := pk_mul 3 _
  have main : zok (ziter (fun q : Int64 × Int32 => m_X9_sumOf_L5 N m (nI o) (nI c) q.1 q.2) N ((0 : Int64), (0 : Int32))) (fun r => r = zvsum G o c) := by
    refine zok_for k (fun i s => s = (((zvl G.2.1 G.2.2.1 o c).take i).foldl (fun s v => s + v.toInt64) 0, nI i)) ?_ ?_ k N 0 _ (by omega) (by simp [nI_0]) (by omega)
    · rintro i s hi rfl
      show zok (m_X9_sumOf_L5 N m (nI o) (nI c) _ (nI i)) _
      unfold m_X9_sumOf_L5
      rw [h0, h1, e6, nI_add, zrd_nI (by omega) (by omega), Option.bind_some, hcm, if_neg (nI_ge hi (by omega)), e3, nI_add, zrd_nI (by omega) (by omega), Option.bind_some, nI_1]
      refine zok_some ?_
      show _ = _
      rw [ztake (zvl_get hcm (by omega) hi), List.foldl_append]
      rfl
    · rintro s rfl
      show zok (m_X9_sumOf_L5 N m (nI o) (nI c) _ (nI k)) _
      unfold m_X9_sumOf_L5
      rw [h0, e6, nI_add, zrd_nI (by omega) (by omega), Option.bind_some, hcm, if_pos (Int32.le_refl _)]
      refine zok_some ?_
      show _ = _
      rw [List.take_of_length_le (by omega)]
      rfl
  obtain ⟨r, e, rfl⟩ := main
  unfold m_X9_sumOf m_X9_sumOf_47
  rw [e, Option.bind_some]
/-- what the reference's state holds while groups are measured -/
def zrdy (μ : zS) (f : Nat) (G : zG) (F : zF) (m : zS) : Prop := zLM m f G F ∧ zpm μ m ∧ ∀ o, o < G.1 → zko m o (zks G F o)
theorem zrdy.moved' {μ m m' : zS} {f : Nat} {G : zG} {F : zF} (h : zrdy μ f G F m) (hp : zpm m m') (h21 : m'.2.1 21 = m.2.1 21) (h22 : m'.2.1 22 = m.2.1 22) : zrdy μ f G F m' :=
  ⟨h.1.moved hp, h.2.1.trans hp, fun o ho => by unfold zko; rw [h21, h22]; exact h.2.2 o ho⟩
theorem w_isIn22 {N : Nat} {μ m : zS} {f g o : Nat} {G : zG} {F : zF} (h : zrdy μ f G F m) (hG : zVG G) (hF : zVF F) (ho : o < G.1) (hg : g < 1100) (hN : 3000 < N) :
    m_X9_isIn_22 N m (nI f) (nI g) (nI o) 0 = some (zbo (zin_ G F (m.2.1 19 g) o)) ∧ m_X9_isIn_22 N m (nI f) (nI g) (nI o) 1 = some (zbo (zims G F o)) := by
  have hn := hG.1
  have hk := h.2.2 o ho
  have hl := zks_le hG hF o
  have c := w_counts (N := N) h.1 hG hF ho (by omega)
  have k := w_hasKey (N := N) (key := m.2.1 19 g) hk hl (show o < 120 by omega) (by omega)
  unfold m_X9_isIn_22 zin_ zims
  refine ⟨?_, ?_⟩
  · rw [c, Option.bind_some, if_pos rfl, zrd_nI hg (by omega), Option.bind_some, k, Option.bind_some]
    cases zct G F o
    · rfl
    · cases decide (m.2.1 19 g ∈ zks G F o) <;> rfl
  · rw [c, Option.bind_some, if_neg (show ¬ (1 : Int32) = 0 by decide), zrd_nI (show o < 120 by omega) (by omega), Option.bind_some, hk.1]
    cases zct G F o
    · rfl
    · cases hz : zks G F o with
      | nil => rfl
      | cons a l =>
        rw [if_neg (show ¬ zbo true = 0 by decide), if_neg (nI_ne0 (by simp) (by rw [← hz]; omega))]
        rfl
theorem w_isIn0 {N : Nat} {μ m : zS} {f g o : Nat} {G : zG} {F : zF} (h : zrdy μ f G F m) (hG : zVG G) (hF : zVF F) (ho : o < G.1) (hg : g < 1100) (hN : 3000 < N) (hx : m.1 5 = 0 ∨ ∃ s, m.1 5 = 1 ∧ m.1 4 = nI (s + 1) ∧ s < 1100 ∧ g ≠ s) :
    m_X9_isIn N m (nI f) (nI g) (nI o) = some (zbo (zin_ G F (m.2.1 19 g) o)) := by
  have k := (w_isIn22 h hG hF ho hg hN).1
  unfold m_X9_isIn m_X9_isIn_21
  rcases hx with hx | ⟨s, h5, h4, hs, hne⟩
  · rw [if_pos hx]; exact k
  · rw [h5, if_neg (by decide), h4, nI_pred, if_neg (mt (nI_eq (by omega) (by omega)).mp hne)]
    exact k
theorem w_isInM {N : Nat} {μ m : zS} {f g o : Nat} {G : zG} {F : zF} (h : zrdy μ f G F m) (hG : zVG G) (hF : zVF F) (ho : o < G.1) (hg : g < 1100) (hN : 3000 < N) (h5 : m.1 5 = 1) (h4 : m.1 4 = nI (g + 1)) :
    m_X9_isIn N m (nI f) (nI g) (nI o) = some (zbo (zims G F o)) := by
  have k := (w_isIn22 h hG hF ho hg hN).2
  unfold m_X9_isIn
  rw [h5, if_neg (by decide), h4, nI_pred, if_pos rfl]
  exact k
def zmz (m : zS) (g : Nat) (a : Int32) (b : Int64) : zS := zsL (zsA m 20 (upd (m.2.1 20) g a)) 0 (vp_updL (m.2.2 0) g b)
theorem upd_idem (f : Nat → Int32) (k : Nat) (x y : Int32) : upd (upd f k x) k y = upd f k y := by
  funext j
  by_cases h : j = k
  · subst h; rw [upd_at, upd_at]
  · rw [upd_ne _ _ h, upd_ne _ _ h, upd_ne _ _ h]
theorem vp_updL_idem (f : Nat → Int64) (k : Nat) (x y : Int64) : vp_updL (vp_updL f k x) k y = vp_updL f k y := by
  funext j
  by_cases h : j = k
  · subst h; rw [vp_updL_at, vp_updL_at]
  · rw [vp_updL_ne _ _ h, vp_updL_ne _ _ h, vp_updL_ne _ _ h]
theorem zmz_ready {μ m : zS} {f : Nat} {G : zG} {F : zF} (h : zrdy μ f G F m) (g : Nat) (a : Int32) (b : Int64) : zrdy μ f G F (zmz m g a b) :=
  h.moved' ((zpm.sA (by omega)).trans zpm.sL) rfl rfl
theorem w_measure {N : Nat} {μ m : zS} {f g : Nat} {G : zG} {F : zF} {P : Nat → Bool} (h : zrdy μ f G F m) (hG : zVG G) (hF : zVF F) (hg : g < 1100) (hN : 3000 < N) (hin : ∀ a b o, o < G.1 → m_X9_isIn N (zmz m g a b) (nI f) (nI g) (nI o) = some (zbo (P o))) :
    m_X9_measure N m (nI f) (nI g) = some (zmz m g (nI ((List.range G.1).filter P).length) (zsmL G F ((List.range G.1).filter P))) := by
  have hn := hG.1
  obtain ⟨a1, a2, a3, a4, a5, a6, a7, a8, a9, a10, a11, a12, a13, a14, a15, a16⟩ := h.1
  have main : zok (ziter (fun q : zS × Int32 => m_X9_measure_L16 N (nI f) (nI g) q.1 q.2) N (zmz m g 0 0, (0 : Int32))) (fun r => r = zmz m g (nI ((List.range G.1).filter P).length) (zsmL G F ((List.range G.1).filter P))) := by
    refine zok_for G.1 (fun i s => s = (zmz m g (nI ((List.range i).filter P).length) (zsmL G F ((List.range i).filter P)), nI i)) ?_ ?_ _ N 0 _ (Nat.zero_add _) ?_ (by omega)
    · rintro i s hi rfl
      show zok (m_X9_measure_L16 N (nI f) (nI g) _ (nI i)) _
      have hle : ((List.range i).filter P).length ≤ i := Nat.le_trans (List.length_filter_le _ _) (by rw [List.length_range]; exact Nat.le_refl _)
      have e20 : ∀ a b, (zmz m g a b).2.1 20 g = a := fun a b => by show upd (m.2.1 20) g a g = a; exact upd_at _ _ _
      have eL : ∀ a b, (zmz m g a b).2.2 0 g = b := fun a b => by unfold zmz; rw [zsL_at, vp_updL_at]
      have eA : ∀ a b a', zsA (zmz m g a b) 20 (upd ((zmz m g a b).2.1 20) g a') = zmz m g a' b := fun a b a' => by
        show zsL (zsA (zsA m 20 (upd (m.2.1 20) g a)) 20 (upd (upd (m.2.1 20) g a) g a')) 0 (vp_updL (m.2.2 0) g b) = _
        rw [zsA_idem, upd_idem]
        rfl
      have eZ : ∀ a b b', zsL (zmz m g a b) 0 (vp_updL ((zmz m g a b).2.2 0) g b') = zmz m g a b' := fun a b b' => by
        unfold zmz
        rw [zsL_idem, zsL_at, vp_updL_idem]
      have hs : (List.range (i + 1)).filter P = (List.range i).filter P ++ (if P i = true then [i] else []) := by
        rw [List.range_succ, List.filter_append]
        congr 1
        by_cases hp : P i = true
        · rw [if_pos hp, List.filter_cons_of_pos hp]; rfl
        · rw [if_neg hp, List.filter_cons_of_neg hp]; rfl
      unfold m_X9_measure_L16
      have e0 : ∀ a b, (zmz m g a b).1 0 = nI G.1 := fun a b => a2
      rw [e0, if_neg (nI_ge hi (by omega)), hin _ _ i hi, Option.bind_some]
      unfold m_X9_measure_78_in16
      cases hp : P i
      · rw [if_pos (show zbo false = 0 from rfl), nI_1]
        refine zok_some ?_
        show _ = _
        rw [hs, if_neg (by rw [hp]; decide), List.append_nil]
      · rw [if_neg (show ¬ zbo true = 0 by decide), zrd_nI hg (by omega), Option.bind_some, e20, nI_1, zwA_nI hg (by omega), Option.bind_some, eA, zrd_nI hg (by omega), Option.bind_some, eL, zrd_nI a1 (by omega), Option.bind_some]
        have e15 : ∀ a b, (zmz m g a b).2.1 15 f = nI (zOr F) := fun a b => a15
        have e16 : ∀ a b, (zmz m g a b).2.1 16 = m.2.1 16 := fun a b => rfl
        have ez0 : ∀ a b, (zmz m g a b).2.1 0 = G.2.1 := fun a b => a3
        have ez1 : ∀ a b, (zmz m g a b).2.1 1 = G.2.2.1 := fun a b => a4
        have hor := hF.2.2.2.2.2.1
        have k2 : nI (zOr F) = (2 : Int32) ↔ zOr F = 2 := nI_eq (b := 2) (by omega) (by omega)
        have hlen : ((List.range i).filter P).length + 1 = ((List.range (i + 1)).filter P).length := by
          rw [hs, if_pos hp, List.length_append]; rfl
        rw [e15]
        unfold m_X9_measure_76_in16 m_X9_measure_78_in16
        by_cases h2 : zOr F = 2
        · rw [if_pos (k2.mpr h2), e16, zrd_nI a1 (by omega), Option.bind_some, a16 h2, w_sumOf (ez0 _ _) (ez1 _ _) hG (by omega) (hF.2.2.2.2.2.2.1) (by omega), Option.bind_some, zwL_nI hg (by omega), Option.bind_some, eZ, nI_1]
          refine zok_some ?_
          show _ = _
          rw [hlen]
          congr 2
          unfold zsmL
          rw [if_pos h2, if_pos h2, hs, if_pos hp, List.foldl_append]
          rfl
        · rw [if_neg (mt k2.mp h2), zwL_nI hg (by omega), Option.bind_some, eZ, nI_1]
          refine zok_some ?_
          show _ = _
          rw [hlen]
          congr 2
          unfold zsmL
          rw [if_neg h2, if_neg h2]
          rfl
    · rintro s rfl
      show zok (m_X9_measure_L16 N (nI f) (nI g) _ (nI G.1)) _
      unfold m_X9_measure_L16
      have e0 : ∀ a b, (zmz m g a b).1 0 = nI G.1 := fun a b => a2
      rw [e0, if_pos (Int32.le_refl _)]
      exact zok_some rfl
    · rw [List.range_zero, List.filter_nil]
      unfold zsmL
      simp only [List.foldl_nil, List.length_nil, ite_self]
      rfl
  obtain ⟨r, e, rfl⟩ := main
  unfold m_X9_measure m_X9_measure_84
  rw [zwA_nI hg (by omega), Option.bind_some, zwL_nI hg (by omega), Option.bind_some]
  have e9 : zsL (zsA m 20 (upd (m.2.1 20) g 0)) 0 (vp_updL ((zsA m 20 (upd (m.2.1 20) g 0)).2.2 0) g 0) = zmz m g 0 0 := rfl
  rw [e9, e, Option.bind_some]
def zmv (m : zS) (a b : Nat) : zS := zsL (zsA (zsA m 19 (upd (m.2.1 19) b (m.2.1 19 a))) 20 (upd (m.2.1 20) b (m.2.1 20 a))) 0 (vp_updL (m.2.2 0) b (m.2.2 0 a))
theorem w_move {N : Nat} {m : zS} {a b : Nat} (ha : a < 1100) (hb : b < 1100) : m_X9_move N m (nI a) (nI b) = some (zmv m a b) := by
  unfold m_X9_move
  rw [zrd_nI ha (by omega), Option.bind_some, zwA_nI hb (by omega), Option.bind_some]
  have e20 : (zsA m 19 (upd (m.2.1 19) b (m.2.1 19 a))).2.1 20 = m.2.1 20 := zsA_ne _ _ (by omega)
  rw [e20, zrd_nI ha (by omega), Option.bind_some, zwA_nI hb (by omega), Option.bind_some, e20, zrd_nI ha (by omega), Option.bind_some, zwL_nI hb (by omega), Option.bind_some]
  rfl
/-- place i holds the group of a key, with its size and sum -/
def zat_ (G : zG) (F : zF) (m : zS) (i : Nat) (key : Int32) : Prop := m.2.1 19 i = key ∧ m.2.1 20 i = nI (zsz G F key) ∧ m.2.2 0 i = zsm G F key
theorem zmv_at {m : zS} {a b : Nat} : (zmv m a b).2.1 19 b = m.2.1 19 a ∧ (zmv m a b).2.1 20 b = m.2.1 20 a ∧ (zmv m a b).2.2 0 b = m.2.2 0 a :=
  ⟨upd_at (m.2.1 19) b (m.2.1 19 a), upd_at (m.2.1 20) b (m.2.1 20 a), vp_updL_at (m.2.2 0) b (m.2.2 0 a)⟩
theorem zmv_ne {m : zS} {a b i : Nat} (h : i ≠ b) : (zmv m a b).2.1 19 i = m.2.1 19 i ∧ (zmv m a b).2.1 20 i = m.2.1 20 i ∧ (zmv m a b).2.2 0 i = m.2.2 0 i :=
  ⟨upd_ne (m.2.1 19) (m.2.1 19 a) h, upd_ne (m.2.1 20) (m.2.1 20 a) h, vp_updL_ne (m.2.2 0) (m.2.2 0 a) h⟩
theorem zat_.mv {G : zG} {F : zF} {m : zS} {a b : Nat} {key : Int32} (h : zat_ G F m a key) : zat_ G F (zmv m a b) b key := by
  obtain ⟨e1, e2, e3⟩ := zmv_at (m := m) (a := a) (b := b)
  exact ⟨e1.trans h.1, e2.trans h.2.1, e3.trans h.2.2⟩
theorem zat_.mvo {G : zG} {F : zF} {m : zS} {a b i : Nat} {key : Int32} (h : zat_ G F m i key) (hi : i ≠ b) : zat_ G F (zmv m a b) i key := by
  obtain ⟨e1, e2, e3⟩ := zmv_ne (m := m) (a := a) hi
  exact ⟨e1.trans h.1, e2.trans h.2.1, e3.trans h.2.2⟩
theorem zmv_ready {μ m : zS} {f : Nat} {G : zG} {F : zF} (h : zrdy μ f G F m) (a b : Nat) : zrdy μ f G F (zmv m a b) :=
  h.moved' (((zpm.sA (by omega)).trans (zpm.sA (by omega))).trans zpm.sL) rfl rfl
theorem zsz_le {G : zG} {F : zF} (hG : zVG G) (key : Int32) : zsz G F key ≤ 120 := by
  unfold zsz zmb
  exact Nat.le_trans (List.length_filter_le _ _) (by rw [List.length_range]; exact hG.1)
theorem lg_0 (x y : Int64) : lg_cmp x y = 0 ↔ x = y := by
  unfold lg_cmp
  by_cases h : x > y
  · rw [if_pos h]
    exact ⟨fun q => absurd q (by decide), fun q => absurd h (by rw [q]; exact Int64.lt_irrefl)⟩
  · rw [if_neg h]
    by_cases h2 : x = y
    · rw [if_pos h2]; exact ⟨fun _ => h2, fun _ => rfl⟩
    · rw [if_neg h2]; exact ⟨fun q => absurd q (by decide), fun q => absurd q h2⟩
theorem w_isBefore {N : Nat} {μ m : zS} {f a b : Nat} {G : zG} {F : zF} {ka kb : Int32} (h : zrdy μ f G F m) (hG : zVG G) (hF : zVF F) (ha : a < 1100) (hb : b < 1100) (h1 : zat_ G F m a ka) (h2 : zat_ G F m b kb) : m_X9_isBefore N m (nI f) (nI a) (nI b) = some (zbo (zbfb G F ka kb)) := by
  obtain ⟨a1, a2, a3, a4, a5, a6, a7, a8, a9, a10, a11, a12, a13, a14, a15, a16⟩ := h.1
  obtain ⟨p1, p2, p3⟩ := h1
  obtain ⟨q1, q2, q3⟩ := h2
  have hor := hF.2.2.2.2.2.1
  have k2 : nI (zOr F) = (2 : Int32) ↔ zOr F = 2 := nI_eq (b := 2) (by omega) (by omega)
  have k0 : nI (zOr F) = (0 : Int32) ↔ zOr F = 0 := nI_eq (b := 0) (by omega) (by omega)
  have s1 := zsz_le (F := F) hG ka
  have s2 := zsz_le (F := F) hG kb
  have last : m_X9_isBefore_93 N m (nI f) (nI a) (nI b) = some (zbo (decide (ka < kb))) := by
    unfold m_X9_isBefore_93
    rw [zrd_nI ha (by omega), Option.bind_some, zrd_nI hb (by omega), Option.bind_some, p1, q1]
    by_cases c : kb ≤ ka
    · rw [if_pos c, decide_eq_false (fun q => absurd q (Int32.not_lt.mpr c))]; rfl
    · rw [if_neg c, decide_eq_true (Int32.not_le.mp c)]; rfl
  have mid : m_X9_isBefore_45 N m (nI f) (nI a) (nI b) = some (zbo (if zOr F = 2 ∧ zsm G F ka ≠ zsm G F kb then decide (zsm G F kb < zsm G F ka) else decide (ka < kb))) := by
    unfold m_X9_isBefore_45
    rw [zrd_nI a1 (by omega), Option.bind_some, a15]
    by_cases c2 : zOr F = 2
    · rw [if_pos (k2.mpr c2), zrd_nI ha (by omega), Option.bind_some, zrd_nI hb (by omega), Option.bind_some, p3, q3, Option.bind_some, Option.bind_some]
      by_cases c : zsm G F ka = zsm G F kb
      · rw [if_pos ((lg_0 _ _).mpr c), if_neg (fun q => q.2 c)]
        exact last
      · rw [if_neg (mt (lg_0 _ _).mp c), if_pos (show zOr F = 2 ∧ zsm G F ka ≠ zsm G F kb from ⟨c2, c⟩)]
        by_cases d : zsm G F kb < zsm G F ka
        · rw [if_neg (fun q => absurd ((lg_pos _ _).mpr d) (Int32.not_lt.mpr q)), decide_eq_true d]; rfl
        · rw [if_pos (Int32.not_lt.mp (mt (lg_pos _ _).mp d)), decide_eq_false d]; rfl
    · rw [if_neg (mt k2.mp c2), if_neg (fun q => c2 q.1)]
      exact last
  unfold m_X9_isBefore zbfb
  rw [zrd_nI a1 (by omega), Option.bind_some, a15]
  by_cases c0 : zOr F = 0
  · rw [if_pos (k0.mpr c0), zrd_nI ha (by omega), Option.bind_some, zrd_nI hb (by omega), Option.bind_some, p2, q2, Option.bind_some, Option.bind_some]
    by_cases c : zsz G F ka = zsz G F kb
    · rw [if_pos (by rw [c]), if_neg (fun q => q.2 c)]
      exact mid
    · rw [if_neg (mt (nI_eq (by omega) (by omega)).mp c), if_pos (show zOr F = 0 ∧ zsz G F ka ≠ zsz G F kb from ⟨c0, c⟩)]
      by_cases d : zsz G F kb < zsz G F ka
      · rw [if_neg (nI_ge d (by omega)), decide_eq_true d]; rfl
      · rw [if_pos (nI_le (by omega) (by omega)), decide_eq_false d]; rfl
  · rw [if_neg (mt k0.mp c0), if_neg (fun q => c0 q.1)]
    exact mid
