/-! the reference: the keys of an object -/
theorem zsA_idem (σ : zS) (k : Nat) (f g : Nat → Int32) : zsA (zsA σ k f) k g = zsA σ k g := by
  unfold zsA
  simp only [zup_idem]
theorem zsA_self (σ : zS) (k : Nat) : zsA σ k (σ.2.1 k) = σ := by
  unfold zsA
  rw [zup_self]
theorem zsA_at (σ : zS) (k : Nat) (f : Nat → Int32) : (zsA σ k f).2.1 k = f := zup_same _ _ _
theorem zsA_ne (σ : zS) {k j : Nat} (f : Nat → Int32) (h : j ≠ k) : (zsA σ k f).2.1 j = σ.2.1 j := zup_ne _ _ h
theorem zsI_at (σ : zS) (k : Nat) (v : Int32) : (zsI σ k v).1 k = v := zup_same _ _ _
theorem zsI_ne (σ : zS) {k j : Nat} (v : Int32) (h : j ≠ k) : (zsI σ k v).1 j = σ.1 j := zup_ne _ _ h
theorem zsI_idem (σ : zS) (k : Nat) (f g : Int32) : zsI (zsI σ k f) k g = zsI σ k g := by
  unfold zsI
  simp only [zup_idem]
/-- an array holds a list from a place on -/
def zpre (f : Nat → Int32) (a : Nat) (L : List Int32) : Prop := ∀ i x, L[i]? = some x → f (a + i) = x
theorem zpre.nil {f : Nat → Int32} {a : Nat} : zpre f a [] := fun i x h => by cases h
theorem zpre.snoc {f : Nat → Int32} {a : Nat} {L : List Int32} {x : Int32} (h : zpre f a L) : zpre (upd f (a + L.length) x) a (L ++ [x]) := by
  intro i y hy
  by_cases hi : i < L.length
  · rw [List.getElem?_append_left hi] at hy
    rw [upd_ne _ _ (by omega)]
    exact h i y hy
  · rw [List.getElem?_append_right (by omega)] at hy
    have h1 : i - L.length < 1 := (List.getElem?_eq_some_iff.mp hy).1
    have h2 : i = L.length := by omega
    subst h2
    rw [Nat.sub_self] at hy
    cases hy
    exact upd_at _ _ _
theorem zpre.other {f : Nat → Int32} {a b : Nat} {L : List Int32} {x : Int32} (h : zpre f a L) (hb : b < a ∨ a + L.length ≤ b) : zpre (upd f b x) a L := by
  intro i y hy
  have := (List.getElem?_eq_some_iff.mp hy).1
  rw [upd_ne _ _ (by omega)]
  exact h i y hy
/-- the keys given so far -/
def zgk (μ : zS) (L : List Int32) (m : zS) : Prop := ∃ ky, m = zsA (zsI μ 3 (nI L.length)) 18 ky ∧ zpre ky 0 L
theorem w_give {N : Nat} {μ m : zS} {L : List Int32} {key : Int32} (h : zgk μ L m) (hl : L.length < 6) : zok (m_X9_give N m key) (zgk μ (L ++ [key])) := by
  obtain ⟨ky, rfl, h⟩ := h
  unfold m_X9_give
  have e1 : (zsA (zsI μ 3 (nI L.length)) 18 ky).1 3 = nI L.length := zsI_at μ 3 (nI L.length)
  rw [e1, zwA_nI hl (by omega), Option.bind_some, Option.bind_some, zsA_at, zsA_idem]
  refine zok_some ⟨upd ky L.length key, ?_, ?_⟩
  · show zsI (zsA (zsI μ 3 (nI L.length)) 18 _) 3 ((zsI μ 3 (nI L.length)).1 3 + 1) = _
    rw [zsI_at, nI_1]
    show zsA (zsI (zsI μ 3 _) 3 _) 18 _ = _
    rw [zsI_idem, List.length_append]
    rfl
  · have := zpre.snoc (x := key) h
    rw [Nat.zero_add] at this
    exact this
theorem zgk.start {μ : zS} : zgk μ [] (zsI μ 3 0) := ⟨(zsI μ 3 0).2.1 18, (zsA_self _ _).symm, zpre.nil⟩
theorem zgk.pm {μ m : zS} {L : List Int32} (h : zgk μ L m) : zpm μ m := by
  obtain ⟨ky, rfl, -⟩ := h
  exact (zpm.sI (by omega)).trans (zpm.sA (by omega))
theorem zout {lo hi v : Int32} (h : lo ≤ v ∧ v ≤ hi) : ¬ (v < lo ∨ hi < v) := fun q => q.elim (fun q => absurd q (Int32.not_lt.mpr h.1)) (fun q => absurd q (Int32.not_lt.mpr h.2))
theorem zout' {lo hi v : Int32} (h : ¬ (lo ≤ v ∧ v ≤ hi)) : v < lo ∨ hi < v := by
  by_cases q : v < lo
  · exact Or.inl q
  · exact Or.inr (Int32.not_le.mp (fun q2 => h ⟨Int32.not_lt.mp q, q2⟩))
theorem w_givePaths {N : Nat} {μ : zS} {v : Int32} : zok (m_X9_givePaths N (zsI μ 3 0) v) (zgk μ (zkp v)) := by
  unfold m_X9_givePaths
  rw [w_within, Option.bind_some]
  unfold zkp
  by_cases hr : (10000 : Int32) ≤ v ∧ v ≤ 999999
  · rw [decide_eq_true hr, if_neg (show ¬ zbo true = 0 by decide), if_neg (zout hr)]
    have body : zok (m_X9_givePaths_35 N v (zsI μ 3 0) (v / 100 - v / 100 / 100 * 100) (v - v / 100 * 100)) (zgk μ ([v / 10000 * 10000] ++ (if (v / 100 - v / 100 / 100 * 100) = 0 then [] else [v / 100 * 100]) ++ (if (v - v / 100 * 100) = 0 then [] else [v]))) := by
      unfold m_X9_givePaths_35
      refine zok_bind (w_give zgk.start (by show 0 < 6; omega)) (fun m1 h1 => ?_)
      have third : ∀ (L : List Int32) (m : zS), L.length < 3 → zgk μ L m → zok (m_X9_givePaths_63 N v m (v - v / 100 * 100)) (zgk μ (L ++ (if (v - v / 100 * 100) = 0 then [] else [v]))) := by
        intro L m hl hm
        unfold m_X9_givePaths_63
        by_cases h3 : (v - v / 100 * 100) = 0
        · rw [if_pos h3, if_pos h3, List.append_nil]; exact zok_some hm
        · rw [if_neg h3, if_neg h3]
          exact zok_bind (w_give hm (by omega)) (fun m2 h2 => zok_some h2)
      by_cases h2 : (v / 100 - v / 100 / 100 * 100) = 0
      · rw [if_pos h2, if_pos h2, List.append_nil]
        exact third _ m1 (by show 1 < 3; omega) h1
      · rw [if_neg h2, if_neg h2]
        refine zok_bind (w_give h1 (by show 1 < 6; omega)) (fun m2 h2 => ?_)
        exact third _ m2 (by show 2 < 3; omega) h2
    by_cases h2 : (v / 100 - v / 100 / 100 * 100) = 0
    · rw [if_pos h2]
      by_cases h3 : (v - v / 100 * 100) = 0
      · rw [if_pos h3, if_neg (fun q => q.2 h3)]
        exact body
      · rw [if_neg h3, if_pos ⟨h2, h3⟩]
        exact zok_some zgk.start
    · rw [if_neg h2, if_neg (fun q => h2 q.1)]
      exact body
  · rw [decide_eq_false hr, if_pos (show zbo false = 0 from rfl), if_pos (zout' hr)]
    exact zok_some zgk.start
theorem w_giveDays {N : Nat} {μ : zS} {v : Int32} {p : Nat} (hN : 3000 < N) (hp : p ≤ 4) : zok (m_X9_giveDays N (zsI μ 3 0) v (nI p)) (zgk μ (zkd v (nI p))) := by
  unfold m_X9_giveDays
  rw [w_within, Option.bind_some]
  unfold zkd
  have c1 : (-1000000 : Int32).toInt = -1000000 := by decide
  have c2 : (1000000 : Int32).toInt = 1000000 := by decide
  by_cases hr : (-1000000 : Int32) ≤ v ∧ v ≤ 1000000
  · rw [decide_eq_true hr, if_neg (show ¬ zbo true = 0 by decide), if_neg (zout hr)]
    have r1 := Int32.le_iff_toInt_le.mp hr.1
    have r2 := Int32.le_iff_toInt_le.mp hr.2
    rw [c1] at r1
    rw [c2] at r2
    have one : ∀ key : Int32, zok (m_X9_give N (zsI μ 3 0) key) (zgk μ [key]) := fun key => w_give zgk.start (by show 0 < 6; omega)
    by_cases h0 : nI p = (0 : Int32)
    · rw [if_pos h0, if_pos h0]
      exact zok_bind (one v) (fun m h => zok_some h)
    · rw [if_neg h0, if_neg h0]
      by_cases h1 : nI p = (1 : Int32)
      · rw [if_pos h1, if_pos h1, w_modulo (by decide), Option.bind_some]
        exact zok_bind (one _) (fun m h => zok_some h)
      · have p0 : p ≠ 0 := fun q => h0 (by rw [q]; rfl)
        have p1 : p ≠ 1 := fun q => h1 (by rw [q]; rfl)
        rw [if_neg h1, if_neg h1, (zbv_eq hN (by omega) (by omega) r1 r2 _ zX0).1, Option.bind_some, nI_clamp (by omega)]
        exact zok_bind (one _) (fun m h => zok_some h)
  · rw [decide_eq_false hr, if_pos (show zbo false = 0 from rfl), if_pos (zout' hr)]
    exact zok_some zgk.start
theorem zkr_s (rl : List (Int32 × Int32)) (v : Int32) (m : Nat) : zkr rl v (m + 1) = zkr rl v m ++ (if (rl.getD m (0, 0)).1 ≤ v ∧ v ≤ (rl.getD m (0, 0)).2 then [nI m] else []) := by
  unfold zkr
  rw [List.range_succ, List.filter_append, List.map_append]
  congr 1
  by_cases h : (rl.getD m (0, 0)).1 ≤ v ∧ v ≤ (rl.getD m (0, 0)).2
  · rw [if_pos h, List.filter_cons_of_pos (by simpa using h)]; rfl
  · rw [if_neg h, List.filter_cons_of_neg (by simpa using h)]; rfl
theorem zkr_le (rl : List (Int32 × Int32)) (v : Int32) (m : Nat) : (zkr rl v m).length ≤ m := by
  unfold zkr
  rw [List.length_map]
  exact Nat.le_trans (List.length_filter_le _ _) (by rw [List.length_range]; exact Nat.le_refl _)
theorem w_giveKeys {N : Nat} {μ : zS} {f : Nat} {v : Int32} {G : zG} {F : zF} (hL : zLM μ f G F) (hF : zVF F) (hN : 3000 < N) : zok (m_X9_giveKeys N μ (nI f) v) (zgk μ (zkv F v)) := by
  have hL' := hL
  obtain ⟨a1, a2, a3, a4, a5, a6, a7, a8, a9, a10, a11, a12, a13, a14, a15, a16⟩ := hL
  obtain ⟨v1, v2, v3, v4, v5, v6, v7, v8, v9, v10⟩ := hF
  unfold m_X9_giveKeys
  have k : ∀ c : Nat, c ≤ 4 → (nI (zKd F) = nI c ↔ zKd F = c) := fun c hc => nI_eq (by omega) (by omega)
  have k0 : nI (zKd F) = (0 : Int32) ↔ zKd F = 0 := k 0 (by omega)
  have k1 : nI (zKd F) = (1 : Int32) ↔ zKd F = 1 := k 1 (by omega)
  have k2 : nI (zKd F) = (2 : Int32) ↔ zKd F = 2 := k 2 (by omega)
  have k3 : nI (zKd F) = (3 : Int32) ↔ zKd F = 3 := k 3 (by omega)
  rw [Option.bind_some, zrd_nI a1 (by omega), Option.bind_some]
  have e33 : (zsI μ 3 0).2.1 3 f = nI (zKd F) := a6
  rw [e33]
  unfold zkv
  by_cases h0 : zKd F = 0
  · rw [if_pos (k0.mpr h0), if_pos h0]
    exact zok_bind (w_give zgk.start (by show 0 < 6; omega)) (fun m h => zok_some h)
  rw [if_neg (mt k0.mp h0), if_neg h0]
  by_cases h1 : zKd F = 1
  · rw [if_pos (k1.mpr h1), if_pos h1]
    exact zok_bind w_givePaths (fun m h => zok_some h)
  rw [if_neg (mt k1.mp h1), if_neg h1]
  by_cases h2 : zKd F = 2
  · rw [if_pos (k2.mpr h2), if_pos h2]
    refine zok_bind (P := zgk μ (zkr (zRl F) v (zRl F).length)) ?_ (fun m h => zok_some h)
    refine zok_for (zRl F).length (fun i s => ∃ m, s = (m, nI i) ∧ zgk μ (zkr (zRl F) v i) m) ?_ ?_ (zRl F).length N 0 _ (by omega) ⟨_, rfl, zgk.start⟩ (by omega)
    · rintro i s hi ⟨m, rfl, hm⟩
      show zok (m_X9_giveKeys_L58 N (nI f) v m (nI i)) _
      have hp := hm.pm
      unfold m_X9_giveKeys_L58
      have e6 : (6 : Int32) * nI f = nI (6 * f) := pk_mul 6 f
      rw [hp.2.2.2 7 (by omega), hp.2.2.2 8 (by omega), hp.2.2.2 9 (by omega), zrd_nI a1 (by omega), Option.bind_some, a10, if_neg (nI_ge hi (by omega)), e6, nI_add, zrd_nI (by omega) (by omega), Option.bind_some, zrd_nI (by omega) (by omega), Option.bind_some, w_within, Option.bind_some]
      have ea := a11 i hi
      have ea1 := congrArg Prod.fst ea
      have ea2 := congrArg Prod.snd ea
      dsimp only at ea1 ea2
      rw [ea1, ea2]
      unfold m_X9_giveKeys_102_in58
      rw [nI_1]
      have hle := zkr_le (zRl F) v i
      by_cases hc : ((zRl F).getD i (0, 0)).1 ≤ v ∧ v ≤ ((zRl F).getD i (0, 0)).2
      · rw [decide_eq_true hc, if_neg (show ¬ zbo true = 0 by decide)]
        refine zok_bind (w_give hm (by omega)) (fun m2 h2 => zok_some ⟨m2, rfl, ?_⟩)
        rw [zkr_s, if_pos hc]
        exact h2
      · rw [decide_eq_false hc, if_pos (show zbo false = 0 from rfl)]
        refine zok_some ⟨m, rfl, ?_⟩
        rw [zkr_s, if_neg hc, List.append_nil]
        exact hm
    · rintro s ⟨m, rfl, hm⟩
      show zok (m_X9_giveKeys_L58 N (nI f) v m (nI (zRl F).length)) _
      unfold m_X9_giveKeys_L58
      rw [hm.pm.2.2.2 7 (by omega), zrd_nI a1 (by omega), Option.bind_some, a10, if_pos (Int32.le_refl _)]
      exact zok_some hm
  rw [if_neg (mt k2.mp h2), if_neg h2]
  by_cases h3 : zKd F = 3
  · obtain ⟨p1, p2, p3, p4⟩ := v8 h3
    have hb0 : ¬ zFa F = 0 := by
      intro h
      rw [h] at p1
      exact absurd p1 (by decide)
    rw [if_pos (k3.mpr h3), if_pos h3, zrd_nI a1 (by omega), Option.bind_some, zrd_nI a1 (by omega), Option.bind_some]
    show zok ((m_X9_modulo N _ (v - μ.2.1 6 f) (μ.2.1 5 f)).bind _) _
    rw [a8, a9, w_modulo hb0, Option.bind_some]
    exact zok_bind (w_give zgk.start (by show 0 < 6; omega)) (fun m h => zok_some h)
  · rw [if_neg (mt k3.mp h3), if_neg h3, zrd_nI a1 (by omega), Option.bind_some]
    obtain ⟨p, hp, ep⟩ := v9 (by omega)
    show zok ((m_X9_giveDays N _ v (μ.2.1 5 f)).bind _) _
    rw [a8, ep]
    exact zok_bind (w_giveDays hN hp) (fun m h => zok_some h)
theorem zkv_le (F : zF) (hF : zVF F) (v : Int32) : (zkv F v).length ≤ 6 := by
  unfold zkv
  repeat' split
  · show 1 ≤ 6; omega
  · unfold zkp
    repeat' split
    all_goals (simp only [List.length_append, List.length_nil, List.length_cons]; omega)
  · exact Nat.le_trans (zkr_le _ _ _) hF.2.2.1
  · show 1 ≤ 6; omega
  · unfold zkd
    split
    · show 0 ≤ 6; omega
    · show 1 ≤ 6; omega
