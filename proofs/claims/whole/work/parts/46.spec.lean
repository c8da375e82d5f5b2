/-! what groups are, in plain words: G = (how many objects, counts of values, values, at hand), F = a facet -/
abbrev zG : Type := Nat × (Nat → Int32) × (Nat → Int32) × (Nat → Bool)
abbrev zF : Type := Nat × Int32 × Int32 × List (Int32 × Int32) × Nat × Option (Nat × Int32 × Int32) × Nat × Bool × Nat × Nat
abbrev zKd (F : zF) : Nat := F.1
abbrev zFa (F : zF) : Int32 := F.2.1
abbrev zFb (F : zF) : Int32 := F.2.2.1
abbrev zRl (F : zF) : List (Int32 × Int32) := F.2.2.2.1
abbrev zCo (F : zF) : Nat := F.2.2.2.2.1
abbrev zFl (F : zF) : Option (Nat × Int32 × Int32) := F.2.2.2.2.2.1
abbrev zLe (F : zF) : Nat := F.2.2.2.2.2.2.1
abbrev zAk (F : zF) : Bool := F.2.2.2.2.2.2.2.1
abbrev zOr (F : zF) : Nat := F.2.2.2.2.2.2.2.2.1
abbrev zOc (F : zF) : Nat := F.2.2.2.2.2.2.2.2.2
def zvl (cn vs : Nat → Int32) (o c : Nat) : List Int32 := (List.range (cn (6 * o + c)).toNatClampNeg).map (fun k => vs (3 * (6 * o + c) + k))
def zbv (v : Int32) (how : Nat) : Int32 := (m_X9_behind 4000 zM0 v (nI how)).getD 0
def zkp (v : Int32) : List Int32 :=
  if v < 10000 ∨ 999999 < v then [] else
  if (v / 100 - v / 100 / 100 * 100) = 0 ∧ ¬ (v - v / 100 * 100) = 0 then [] else
  [v / 10000 * 10000] ++ (if (v / 100 - v / 100 / 100 * 100) = 0 then [] else [v / 100 * 100]) ++ (if (v - v / 100 * 100) = 0 then [] else [v])
def zkd (v a : Int32) : List Int32 := if v < -1000000 ∨ 1000000 < v then [] else [if a = 0 then v else if a = 1 then v - fmv (v + 3) 7 else v - zbv v a.toNatClampNeg]
def zkr (rl : List (Int32 × Int32)) (v : Int32) (m : Nat) : List Int32 := ((List.range m).filter (fun r => decide ((rl.getD r (0, 0)).1 ≤ v ∧ v ≤ (rl.getD r (0, 0)).2))).map nI
def zkv (F : zF) (v : Int32) : List Int32 :=
  if zKd F = 0 then [v] else if zKd F = 1 then zkp v else if zKd F = 2 then zkr (zRl F) v (zRl F).length else if zKd F = 3 then [v - fmv (v - zFb F) (zFa F)] else zkd v (zFa F)
def zks (G : zG) (F : zF) (o : Nat) : List Int32 := (zvl G.2.1 G.2.2.1 o (zCo F)).flatMap (zkv F)
def zct (G : zG) (F : zF) (o : Nat) : Bool := G.2.2.2 o && (match zFl F with
  | none => true
  | some q => (zvl G.2.1 G.2.2.1 o q.1).any (fun v => decide (q.2.1 ≤ v ∧ v ≤ q.2.2)))
def zin_ (G : zG) (F : zF) (key : Int32) (o : Nat) : Bool := zct G F o && decide (key ∈ zks G F o)
def zmb (G : zG) (F : zF) (key : Int32) (m : Nat) : List Nat := (List.range m).filter (zin_ G F key)
def zsz (G : zG) (F : zF) (key : Int32) : Nat := (zmb G F key G.1).length
def zvsum (G : zG) (o c : Nat) : Int64 := (zvl G.2.1 G.2.2.1 o c).foldl (fun s v => s + v.toInt64) 0
def zsmL (G : zG) (F : zF) (l : List Nat) : Int64 := if zOr F = 2 then l.foldl (fun s o => s + zvsum G o (zOc F)) 0 else 0
def zsm (G : zG) (F : zF) (key : Int32) : Int64 := zsmL G F (zmb G F key G.1)
def zbfb (G : zG) (F : zF) (g o : Int32) : Bool :=
  if zOr F = 0 ∧ zsz G F g ≠ zsz G F o then decide (zsz G F o < zsz G F g) else
  if zOr F = 2 ∧ zsm G F g ≠ zsm G F o then decide (zsm G F o < zsm G F g) else decide (g < o)
def zbf (G : zG) (F : zF) (g o : Int32) : Prop := zbfb G F g o = true
def zcd (G : zG) (F : zF) (key : Int32) : Prop := (∃ r, r < (zRl F).length ∧ key = nI r) ∨ ∃ o, o < G.1 ∧ zin_ G F key o = true
def zLs (G : zG) (F : zF) (L : List Int32) : Prop := L.Pairwise (zbf G F) ∧ ∀ key, key ∈ L ↔ zcd G F key ∧ zLe F ≤ zsz G F key
def zims (G : zG) (F : zF) (o : Nat) : Bool := zct G F o && (zks G F o).isEmpty
def zmm (G : zG) (F : zF) (m : Nat) : List Nat := (List.range m).filter (zims G F)
def zhm (G : zG) (F : zF) : Bool := zAk F && decide (0 < (zmm G F G.1).length ∧ zLe F ≤ (zmm G F G.1).length)
/-- what always holds of the data -/
def zVG (G : zG) : Prop := G.1 ≤ 120 ∧ (∀ i, ∃ c, c ≤ 3 ∧ G.2.1 i = nI c) ∧ ∀ i, -1000000000 ≤ (G.2.2.1 i).toInt ∧ (G.2.2.1 i).toInt ≤ 1000000000
def zVF (F : zF) : Prop := zKd F ≤ 4 ∧ zCo F ≤ 5 ∧ (zRl F).length ≤ 6 ∧ ((zRl F).length = 0 ∨ zKd F = 2) ∧ zLe F ≤ 120 ∧ zOr F ≤ 2 ∧ zOc F ≤ 5 ∧ (zKd F = 3 → 0 < (zFa F).toInt ∧ (zFa F).toInt ≤ 1000000 ∧ 0 ≤ (zFb F).toInt ∧ (zFb F).toInt ≤ 1000000) ∧ (zKd F = 4 → ∃ p, p ≤ 4 ∧ zFa F = nI p) ∧ ∀ q, zFl F = some q → q.1 ≤ 5
theorem zbv_eq {N : Nat} {v : Int32} {how : Nat} (hN : 3000 < N) (hh : how < 5) (hh2 : 2 ≤ how) (h1 : -1000000 ≤ v.toInt) (h2 : v.toInt ≤ 1000000) (μ σ : zS) : m_X9_behind N μ v (nI how) = some (zbv v how) ∧ m_X0_firstDay N σ v (nI how) = some (v - zbv v how) := by
  obtain ⟨Y1, x1, a1, a2, a3⟩ := w_behind (N := N) (μ := μ) (v := v) (how := how) hN hh h1 h2
  obtain ⟨Y2, x2, b1, b2, b3⟩ := w_behind (N := 4000) (μ := zM0) (v := v) (how := how) (by omega) hh h1 h2
  obtain ⟨Y3, x3, c1, c2, c3⟩ := w_firstDay (N := N) (σ := σ) (v := v) (how := how) hN hh hh2 h1 h2
  have s1 := zSY_step Y1
  have s2 := zSY_step Y2
  have s3 := zSY_step Y3
  have e12 : Y1 = Y2 := zSY_uniq (v := v.toInt + 719528) (by omega) (by omega) (by omega) (by omega)
  have e13 : Y1 = Y3 := zSY_uniq (v := v.toInt + 719528) (by omega) (by omega) (by omega) (by omega)
  subst e12
  subst e13
  have f12 : x1 = x2 := by omega
  have f13 : x1 = x3 := by omega
  subst f12
  subst f13
  have e : zbv v how = nI (zbh (zlp Y1) x1 how) := by
    unfold zbv
    rw [b3]
    rfl
  rw [e]
  exact ⟨a3, c3⟩
theorem zvl_len {cn vs : Nat → Int32} {o c m : Nat} (h : cn (6 * o + c) = nI m) (hm : m < 2 ^ 31) : (zvl cn vs o c).length = m := by
  unfold zvl
  rw [List.length_map, List.length_range, h, nI_clamp hm]
theorem zvl_get {cn vs : Nat → Int32} {o c m i : Nat} (h : cn (6 * o + c) = nI m) (hm : m < 2 ^ 31) (hi : i < m) : (zvl cn vs o c)[i]? = some (vs (3 * (6 * o + c) + i)) := by
  unfold zvl
  rw [h, nI_clamp hm, List.getElem?_map, List.getElem?_range hi]
  rfl
theorem ztake {α : Type} {L : List α} {i : Nat} {x : α} (h : L[i]? = some x) : L.take (i + 1) = L.take i ++ [x] := by
  rw [List.take_succ, h]
  rfl
theorem w_within {N : Nat} {σ : zS} {v lo hi : Int32} : m_X9_within N σ v lo hi = some (zbo (decide (lo ≤ v ∧ v ≤ hi))) := by
  unfold m_X9_within
  by_cases h1 : v < lo
  · rw [if_pos h1, decide_eq_false (fun q => absurd h1 (Int32.not_lt.mpr q.1))]; rfl
  · rw [if_neg h1]
    by_cases h2 : hi < v
    · rw [if_pos h2, decide_eq_false (fun q => absurd h2 (Int32.not_lt.mpr q.2))]; rfl
    · rw [if_neg h2, decide_eq_true ⟨Int32.not_lt.mp h1, Int32.not_lt.mp h2⟩]; rfl
theorem zcz_zbo (b : Bool) : zcz (zbo b) = some (zbo b) := by cases b <;> rfl
/-- the reference's state says this of facet f -/
def zLM (μ : zS) (f : Nat) (G : zG) (F : zF) : Prop :=
  f < 10 ∧ μ.1 0 = nI G.1 ∧ μ.2.1 0 = G.2.1 ∧ μ.2.1 1 = G.2.2.1 ∧ (∀ (N o : Nat), o < G.1 → m_X9_atHand N μ (nI o) = some (zbo (G.2.2.2 o))) ∧
  μ.2.1 3 f = nI (zKd F) ∧ μ.2.1 4 f = nI (zCo F) ∧ μ.2.1 5 f = zFa F ∧ μ.2.1 6 f = zFb F ∧ μ.2.1 7 f = nI (zRl F).length ∧ (∀ r, r < (zRl F).length → (μ.2.1 8 (6 * f + r), μ.2.1 9 (6 * f + r)) = (zRl F).getD r (0, 0)) ∧
  (match zFl F with
    | none => μ.2.1 10 f = -2000000000
    | some q => μ.2.1 10 f = nI q.1 ∧ μ.2.1 11 f = q.2.1 ∧ μ.2.1 12 f = q.2.2) ∧
  μ.2.1 13 f = nI (zLe F) ∧ μ.2.1 14 f = zbo (zAk F) ∧ μ.2.1 15 f = nI (zOr F) ∧ (zOr F = 2 → μ.2.1 16 f = nI (zOc F))
/-- two states of the reference that differ in what is only used within a call -/
def zpm (μ μ' : zS) : Prop := μ'.1 0 = μ.1 0 ∧ μ'.1 1 = μ.1 1 ∧ μ'.1 2 = μ.1 2 ∧ ∀ j, j < 18 → μ'.2.1 j = μ.2.1 j
theorem zpm.rfl' {μ : zS} : zpm μ μ := ⟨rfl, rfl, rfl, fun _ _ => rfl⟩
theorem zpm.trans {a b c : zS} (h1 : zpm a b) (h2 : zpm b c) : zpm a c := ⟨h2.1.trans h1.1, h2.2.1.trans h1.2.1, h2.2.2.1.trans h1.2.2.1, fun j hj => (h2.2.2.2 j hj).trans (h1.2.2.2 j hj)⟩
theorem zpm.sI {μ : zS} {j : Nat} {v : Int32} (hj : 3 ≤ j) : zpm μ (zsI μ j v) := ⟨zup_ne _ _ (by omega), zup_ne _ _ (by omega), zup_ne _ _ (by omega), fun _ _ => rfl⟩
theorem zpm.sA {μ : zS} {j : Nat} {f : Nat → Int32} (hj : 18 ≤ j) : zpm μ (zsA μ j f) := ⟨rfl, rfl, rfl, fun _ h => zup_ne _ _ (by omega)⟩
theorem zpm.sL {μ : zS} {j : Nat} {f : Nat → Int64} : zpm μ (zsL μ j f) := ⟨rfl, rfl, rfl, fun _ _ => rfl⟩
theorem zpm_atHand {N : Nat} {μ μ' : zS} {v : Int32} (h : zpm μ μ') : m_X9_atHand N μ' v = m_X9_atHand N μ v := by
  unfold m_X9_atHand
  rw [h.2.2.1, h.2.2.2 2 (by omega), h.2.2.2 17 (by omega)]
theorem zLM.moved {μ μ' : zS} {f : Nat} {G : zG} {F : zF} (h : zpm μ μ') (hL : zLM μ f G F) : zLM μ' f G F := by
  obtain ⟨a1, a2, a3, a4, a5, a6, a7, a8, a9, a10, a11, a12, a13, a14, a15, a16⟩ := hL
  have e := h.2.2.2
  refine ⟨a1, h.1.trans a2, (e 0 (by omega)).trans a3, (e 1 (by omega)).trans a4, fun N o ho => (zpm_atHand h).trans (a5 N o ho), ?_, ?_, ?_, ?_, ?_, ?_, ?_, ?_, ?_, ?_, ?_⟩
  · rw [e 3 (by omega)]; exact a6
  · rw [e 4 (by omega)]; exact a7
  · rw [e 5 (by omega)]; exact a8
  · rw [e 6 (by omega)]; exact a9
  · rw [e 7 (by omega)]; exact a10
  · rw [e 8 (by omega), e 9 (by omega)]; exact a11
  · rw [e 10 (by omega), e 11 (by omega), e 12 (by omega)]; exact a12
  · rw [e 13 (by omega)]; exact a13
  · rw [e 14 (by omega)]; exact a14
  · rw [e 15 (by omega)]; exact a15
  · rw [e 16 (by omega)]; exact a16
theorem w_counts {N : Nat} {μ : zS} {f o : Nat} {G : zG} {F : zF} (hL : zLM μ f G F) (hG : zVG G) (hF : zVF F) (hog : o < G.1) (hN : 10 < N) : m_X9_counts N μ (nI f) (nI o) = some (zbo (zct G F o)) := by
  obtain ⟨a1, a2, a3, a4, a5, a6, a7, a8, a9, a10, a11, a12, a13, a14, a15, a16⟩ := hL
  have hg1 := hG.1
  have ho : o < 120 := by omega
  unfold m_X9_counts
  rw [a5 N o hog, Option.bind_some]
  unfold zct
  cases hh : G.2.2.2 o
  · rw [if_pos (show zbo false = 0 from rfl)]
    rfl
  rw [if_neg (show ¬ zbo true = 0 by decide), zrd_nI a1 (by omega), Option.bind_some, Bool.true_and]
  -- the loop over the filter's column
  have loop : ∀ (c : Nat) (is0 : Bool) (p : Int32 → Bool), c ≤ 5 → (is0 = true ∨ (is0 = false ∧ zFl F ≠ none ∧ ∀ v, m_X9_within N μ v (μ.2.1 11 f) (μ.2.1 12 f) = some (zbo (p v)))) → zok (ziter (fun q : Int32 × Int32 => m_X9_counts_L51 N μ (nI f) (nI o) (nI (6 * o + c)) q.1 q.2) N (zbo is0, (0 : Int32))) (fun r => r = zbo (is0 || (zvl G.2.1 G.2.2.1 o c).any p)) := by
    intro c is0 p hc hp
    obtain ⟨m, hm, hcm⟩ := hG.2.1 (6 * o + c)
    have hlen := zvl_len (vs := G.2.2.1) hcm (by omega)
    refine zok_for m (fun i s => s = (zbo (is0 || ((zvl G.2.1 G.2.2.1 o c).take i).any p), nI i)) ?_ ?_ m N 0 _ (by omega) (by simp [nI_0]) (by omega)
    · rintro i s hi rfl
      show zok (m_X9_counts_L51 N μ (nI f) (nI o) (nI (6 * o + c)) _ (nI i)) _
      unfold m_X9_counts_L51
      rw [a3, zrd_nI (show 6 * o + c < 720 by omega) (by omega), Option.bind_some, hcm, if_neg (nI_ge hi (by omega))]
      cases hb : (is0 || ((zvl G.2.1 G.2.2.1 o c).take i).any p)
      · rw [if_pos (show zbo false = 0 from rfl)]
        have h0 : is0 = false := by cases is0 <;> simp at hb ⊢
        rcases hp with hp | ⟨-, -, hp⟩
        · rw [hp] at h0; cases h0
        have e3 : (3 : Int32) * nI (6 * o + c) = nI (3 * (6 * o + c)) := pk_mul 3 _
        rw [e3, nI_add, a4, zrd_nI (by omega) (by omega), Option.bind_some, zrd_nI a1 (by omega), Option.bind_some, zrd_nI a1 (by omega), Option.bind_some, hp, Option.bind_some, nI_1]
        refine zok_some ?_
        show _ = _
        rw [ztake (zvl_get hcm (by omega) hi), List.any_append]
        rw [h0, Bool.false_or] at hb
        rw [h0, hb]
        simp
      · rw [if_neg (show ¬ zbo true = 0 by decide)]
        refine zok_some ?_
        show zbo true = _
        have : (is0 || (zvl G.2.1 G.2.2.1 o c).any p) = true := by
          rcases Bool.or_eq_true_iff.mp hb with q | q
          · rw [q]; rfl
          · rw [Bool.or_eq_true]
            right
            obtain ⟨x, hx, hpx⟩ := List.any_eq_true.mp q
            exact List.any_eq_true.mpr ⟨x, List.mem_of_mem_take hx, hpx⟩
        rw [this]
    · rintro s rfl
      show zok (m_X9_counts_L51 N μ (nI f) (nI o) (nI (6 * o + c)) _ (nI m)) _
      unfold m_X9_counts_L51
      rw [a3, zrd_nI (show 6 * o + c < 720 by omega) (by omega), Option.bind_some, hcm, if_pos (Int32.le_refl _)]
      refine zok_some ?_
      show _ = _
      rw [List.take_of_length_le (by omega)]
  have e6 : (6 : Int32) * nI o = nI (6 * o) := pk_mul 6 o
  cases hfl : zFl F with
  | none =>
    rw [hfl] at a12
    have a12 : μ.2.1 10 f = -2000000000 := a12
    rw [a12, if_pos rfl]
    unfold m_X9_counts_26 m_X9_counts_45 m_X9_counts_101
    rw [if_neg (by decide), e6, show (0 : Int32) = nI 0 from rfl, nI_add]
    obtain ⟨r, e, hr⟩ := loop 0 true (fun _ => true) (by omega) (Or.inl rfl)
    have e' : ziter (fun q : Int32 × Int32 => m_X9_counts_L51 N μ (nI f) (nI o) (nI (6 * o + 0)) q.1 q.2) N ((1 : Int32), nI 0) = some r := e
    rw [e', Option.bind_some, hr, zcz_zbo]
    rfl
  | some q =>
    rw [hfl] at a12
    obtain ⟨b1, b2, b3⟩ : μ.2.1 10 f = nI q.1 ∧ μ.2.1 11 f = q.2.1 ∧ μ.2.1 12 f = q.2.2 := a12
    have hq := hF.2.2.2.2.2.2.2.2.2 q hfl
    have hne : ¬ nI q.1 = (-2000000000 : Int32) := by
      intro h
      have := congrArg Int32.toInt h
      rw [nI_toInt (by omega)] at this
      have h2 : (-2000000000 : Int32).toInt = -2000000000 := by decide
      omega
    rw [b1, if_neg hne]
    unfold m_X9_counts_26 m_X9_counts_45 m_X9_counts_101
    rw [if_pos rfl, zrd_nI a1 (by omega), Option.bind_some, b1, e6, nI_add]
    obtain ⟨r, e, hr⟩ := loop q.1 false (fun v => decide (q.2.1 ≤ v ∧ v ≤ q.2.2)) hq (Or.inr ⟨rfl, (by rw [hfl]; intro h; cases h), fun v => (by rw [b2, b3]; exact w_within)⟩)
    have e' : ziter (fun x : Int32 × Int32 => m_X9_counts_L51 N μ (nI f) (nI o) (nI (6 * o + q.1)) x.1 x.2) N ((0 : Int32), (0 : Int32)) = some r := e
    rw [e', Option.bind_some, hr, zcz_zbo]
    rfl
