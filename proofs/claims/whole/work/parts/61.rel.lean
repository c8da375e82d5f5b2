/-! what the class's state has to do with the reference's -/
def zFX (σ : zS) (k : Nat) (F : zF) : Prop :=
  σ.1 (8 + 12 * k) = nI (zKd F) ∧ σ.1 (9 + 12 * k) = nI (zCo F) ∧ σ.1 (10 + 12 * k) = zFa F ∧ σ.1 (11 + 12 * k) = zFb F ∧ σ.1 (19 + 12 * k) = nI (zRl F).length ∧ (∀ r, r < (zRl F).length → (σ.2.1 (8 + k) r, σ.2.1 (18 + k) r) = (zRl F).getD r (0, 0)) ∧
  (match zFl F with
    | none => σ.1 (12 + 12 * k) = -2000000000
    | some q => σ.1 (12 + 12 * k) = nI q.1 ∧ σ.1 (13 + 12 * k) = q.2.1 ∧ σ.1 (14 + 12 * k) = q.2.2) ∧
  σ.1 (15 + 12 * k) = nI (zLe F) ∧ σ.1 (16 + 12 * k) = zbo (zAk F) ∧ σ.1 (17 + 12 * k) = nI (zOr F) ∧ (zOr F = 2 → σ.1 (18 + 12 * k) = nI (zOc F))
def zFM (μ : zS) (f : Nat) (F : zF) : Prop :=
  μ.2.1 3 f = nI (zKd F) ∧ μ.2.1 4 f = nI (zCo F) ∧ μ.2.1 5 f = zFa F ∧ μ.2.1 6 f = zFb F ∧ μ.2.1 7 f = nI (zRl F).length ∧ (∀ r, r < (zRl F).length → (μ.2.1 8 (6 * f + r), μ.2.1 9 (6 * f + r)) = (zRl F).getD r (0, 0)) ∧
  (match zFl F with
    | none => μ.2.1 10 f = -2000000000
    | some q => μ.2.1 10 f = nI q.1 ∧ μ.2.1 11 f = q.2.1 ∧ μ.2.1 12 f = q.2.2) ∧
  μ.2.1 13 f = nI (zLe F) ∧ μ.2.1 14 f = zbo (zAk F) ∧ μ.2.1 15 f = nI (zOr F) ∧ (zOr F = 2 → μ.2.1 16 f = nI (zOc F))
theorem zFX.congr {σ σ' : zS} {k : Nat} {F : zF} (h : zFX σ k F) (h1 : ∀ j, 8 + 12 * k ≤ j → j ≤ 19 + 12 * k → σ'.1 j = σ.1 j) (h2 : σ'.2.1 (8 + k) = σ.2.1 (8 + k)) (h3 : σ'.2.1 (18 + k) = σ.2.1 (18 + k)) : zFX σ' k F := by
  unfold zFX
  rw [h1 (8 + 12 * k) (by omega) (by omega), h1 (9 + 12 * k) (by omega) (by omega), h1 (10 + 12 * k) (by omega) (by omega), h1 (11 + 12 * k) (by omega) (by omega), h1 (12 + 12 * k) (by omega) (by omega), h1 (13 + 12 * k) (by omega) (by omega), h1 (14 + 12 * k) (by omega) (by omega), h1 (15 + 12 * k) (by omega) (by omega), h1 (16 + 12 * k) (by omega) (by omega), h1 (17 + 12 * k) (by omega) (by omega), h1 (18 + 12 * k) (by omega) (by omega), h1 (19 + 12 * k) (by omega) (by omega), h2, h3]
  exact h
theorem zFM.congr {μ μ' : zS} {f : Nat} {F : zF} (h : zFM μ f F) (hl : (zRl F).length ≤ 6) (h1 : ∀ j, 3 ≤ j → j ≤ 16 → j ≠ 8 → j ≠ 9 → μ'.2.1 j f = μ.2.1 j f) (h2 : ∀ r, r < 6 → μ'.2.1 8 (6 * f + r) = μ.2.1 8 (6 * f + r)) (h3 : ∀ r, r < 6 → μ'.2.1 9 (6 * f + r) = μ.2.1 9 (6 * f + r)) : zFM μ' f F := by
  obtain ⟨a1, a2, a3, a4, a5, a6, a7⟩ := h
  unfold zFM
  rw [h1 3 (by omega) (by omega) (by omega) (by omega), h1 4 (by omega) (by omega) (by omega) (by omega), h1 5 (by omega) (by omega) (by omega) (by omega), h1 6 (by omega) (by omega) (by omega) (by omega), h1 7 (by omega) (by omega) (by omega) (by omega), h1 10 (by omega) (by omega) (by omega) (by omega), h1 11 (by omega) (by omega) (by omega) (by omega), h1 12 (by omega) (by omega) (by omega) (by omega), h1 13 (by omega) (by omega) (by omega) (by omega), h1 14 (by omega) (by omega) (by omega) (by omega), h1 15 (by omega) (by omega) (by omega) (by omega), h1 16 (by omega) (by omega) (by omega) (by omega)]
  exact ⟨a1, a2, a3, a4, a5, fun r hr => by rw [h2 r (by omega), h3 r (by omega)]; exact a6 r hr, a7⟩
def zFs (σ μ : zS) (FL : List zF) : Prop := (∀ k F, FL[k]? = some F → zFX σ k F ∧ zFM μ k F ∧ zVF F) ∧ FL.length ≤ 10 ∧ σ.1 0 = nI FL.length ∧ μ.1 1 = nI FL.length
def zDs (σ μ : zS) (n : Nat) (cn vs : Nat → Int32) (mt : Nat → Bool) : Prop :=
  σ.1 2 = nI n ∧ μ.1 0 = nI n ∧ σ.2.1 2 = cn ∧ μ.2.1 0 = cn ∧ σ.2.1 1 = vs ∧ μ.2.1 1 = vs ∧ (∀ o, σ.2.1 0 o = zbo (mt o)) ∧ (∀ o, μ.2.1 2 o = zbo (mt o)) ∧ n ≤ 120 ∧ (∀ i, ∃ c, c ≤ 3 ∧ cn i = nI c) ∧ ∀ i, -1000000000 ≤ (vs i).toInt ∧ (vs i).toInt ≤ 1000000000
def zHs (σ μ : zS) (n : Nat) (mt : Nat → Bool) (e : Nat) (d : Nat → Nat) : Prop :=
  e ≤ 6 ∧ σ.1 3 = nI e ∧ μ.1 2 = nI e ∧ (∀ o, o < 120 → σ.2.1 3 o = nI (d o) ∧ d o ≤ e) ∧ ∀ o l, o < n → l < e → μ.2.1 17 (120 * l + o) = zbo (mt o && decide (l + 1 ≤ d o))
def zGG (n : Nat) (cn vs : Nat → Int32) (mt : Nat → Bool) (e : Nat) (d : Nat → Nat) : zG := (n, cn, vs, fun o => mt o && decide (e ≤ d o))
def zCs (σ : zS) (G : zG) (FL : List zF) : Prop := σ.1 1 = -2000000000 ∨ ∃ k F L, FL[k]? = some F ∧ σ.1 1 = nI k ∧ zLs G F L ∧ zCL G F σ (zLK G F L)
def zRE (σ μ : zS) : Prop := ∃ n cn vs mt FL e d, zFs σ μ FL ∧ zDs σ μ n cn vs mt ∧ zHs σ μ n mt e d ∧ zCs σ (zGG n cn vs mt e d) FL
theorem zDs.VG {σ μ : zS} {n : Nat} {cn vs : Nat → Int32} {mt : Nat → Bool} (h : zDs σ μ n cn vs mt) (e : Nat) (d : Nat → Nat) : zVG (zGG n cn vs mt e d) := ⟨h.2.2.2.2.2.2.2.2.1, h.2.2.2.2.2.2.2.2.2.1, h.2.2.2.2.2.2.2.2.2.2⟩
theorem zR_has {σ μ : zS} {n : Nat} {cn vs : Nat → Int32} {mt : Nat → Bool} {e : Nat} {d : Nat → Nat} (hD : zDs σ μ n cn vs mt) (hH : zHs σ μ n mt e d) {N o : Nat} (ho : o < n) : m_X3_has N σ (nI o) = some (zbo (mt o && decide (e ≤ d o))) ∧ m_X9_atHand N μ (nI o) = some (zbo (mt o && decide (e ≤ d o))) := by
  obtain ⟨b1, b2, b3, b4, b5, b6, b7, b8, b9, b10, b11⟩ := hD
  obtain ⟨c1, c2, c3, c4, c5⟩ := hH
  obtain ⟨c6, c7⟩ := c4 o (by omega)
  constructor
  · unfold m_X3_has
    rw [zrd_nI (by omega) (by omega), Option.bind_some, b7 o]
    cases hm : mt o
    · rfl
    · rw [if_neg (show ¬ zbo true = 0 by decide), zrd_nI (by omega) (by omega), Option.bind_some, c6, c2]
      by_cases q : e ≤ d o
      · rw [if_neg (nI_nlt q (by omega)), decide_eq_true q]; rfl
      · rw [if_pos (nI_lt (by omega) (by omega)), decide_eq_false q]; rfl
  · unfold m_X9_atHand
    rw [c3]
    by_cases h0 : e = 0
    · subst h0
      rw [if_pos (show nI 0 = 0 from rfl), zrd_nI (by omega) (by omega), Option.bind_some, b8 o, zcz_zbo, decide_eq_true (Nat.zero_le _), Bool.and_true]
      rfl
    · obtain ⟨l, rfl⟩ : ∃ l, e = l + 1 := ⟨e - 1, by omega⟩
      rw [if_neg (nI_ne0 (by omega) (by omega)), nI_pred]
      have e1 : (120 : Int32) * nI l = nI (120 * l) := pk_mul 120 l
      rw [e1, nI_add, zrd_nI (by omega) (by omega), Option.bind_some, c5 o l ho (by omega), zcz_zbo]
      rfl
theorem zR_LX {σ μ : zS} {n : Nat} {cn vs : Nat → Int32} {mt : Nat → Bool} {FL : List zF} {e : Nat} {d : Nat → Nat} (hF : zFs σ μ FL) (hD : zDs σ μ n cn vs mt) (hH : zHs σ μ n mt e d) {k : Nat} {F : zF} (hk : FL[k]? = some F) : zLX σ k (zGG n cn vs mt e d) F := by
  have := (List.getElem?_eq_some_iff.mp hk).1
  have h10 := hF.2.1
  exact ⟨by omega, hD.1, hD.2.2.1, hD.2.2.2.2.1, fun N o ho => (zR_has hD hH ho).1, (hF.1 k F hk).1⟩
theorem zR_LM {σ μ : zS} {n : Nat} {cn vs : Nat → Int32} {mt : Nat → Bool} {FL : List zF} {e : Nat} {d : Nat → Nat} (hF : zFs σ μ FL) (hD : zDs σ μ n cn vs mt) (hH : zHs σ μ n mt e d) {k : Nat} {F : zF} (hk : FL[k]? = some F) : zLM μ k (zGG n cn vs mt e d) F := by
  have := (List.getElem?_eq_some_iff.mp hk).1
  have h10 := hF.2.1
  exact ⟨by omega, hD.2.1, hD.2.2.2.1, hD.2.2.2.2.2.1, fun N o ho => (zR_has hD hH ho).2, (hF.1 k F hk).2.1⟩
/-- states of the class that are the same but for the hand, the list and the sample -/
def zqx (σ σ' : zS) : Prop := (∀ j, (j = 0 ∨ j = 2 ∨ 8 ≤ j) → σ'.1 j = σ.1 j) ∧ ∀ j, (j < 3 ∨ 8 ≤ j) → σ'.2.1 j = σ.2.1 j
theorem zpx.qx {σ σ' : zS} (h : zpx σ σ') : zqx σ σ' := ⟨fun j hj => h.1 j (by omega), fun j hj => h.2 j (by omega)⟩
theorem zFs.moved {σ σ' μ μ' : zS} {FL : List zF} (h : zFs σ μ FL) (h0 : σ'.1 0 = σ.1 0) (h8 : ∀ j, 8 ≤ j → σ'.1 j = σ.1 j) (h82 : ∀ j, 8 ≤ j → σ'.2.1 j = σ.2.1 j) (hm : μ'.1 1 = μ.1 1) (hm3 : ∀ j, 3 ≤ j → j ≤ 16 → μ'.2.1 j = μ.2.1 j) : zFs σ' μ' FL := by
  obtain ⟨a1, a2, a3, a4⟩ := h
  refine ⟨fun k F hk => ?_, a2, h0.trans a3, hm.trans a4⟩
  obtain ⟨b1, b2, b3⟩ := a1 k F hk
  refine ⟨b1.congr (fun j q _ => h8 j (by omega)) (h82 _ (by omega)) (h82 _ (by omega)), b2.congr b3.2.2.1 (fun j q1 q2 _ _ => by rw [hm3 j q1 q2]) (fun r _ => by rw [hm3 8 (by omega) (by omega)]) (fun r _ => by rw [hm3 9 (by omega) (by omega)]), b3⟩
theorem zFs.qx {σ σ' μ : zS} {FL : List zF} (h : zFs σ μ FL) (hq : zqx σ σ') : zFs σ' μ FL := h.moved (hq.1 0 (by omega)) (fun j hj => hq.1 j (by omega)) (fun j hj => hq.2 j (by omega)) rfl (fun _ _ _ => rfl)
theorem zFs.pm {σ μ μ' : zS} {FL : List zF} (h : zFs σ μ FL) (hq : zpm μ μ') : zFs σ μ' FL := h.moved rfl (fun _ _ => rfl) (fun _ _ => rfl) hq.2.1 (fun j h1 h2 => hq.2.2.2 j (by omega))
theorem zDs.qx {σ σ' μ : zS} {n : Nat} {cn vs : Nat → Int32} {mt : Nat → Bool} (h : zDs σ μ n cn vs mt) (hq : zqx σ σ') : zDs σ' μ n cn vs mt := by
  obtain ⟨b1, b2, b3, b4, b5, b6, b7, b8, b9⟩ := h
  exact ⟨(hq.1 2 (by omega)).trans b1, b2, (hq.2 2 (by omega)).trans b3, b4, (hq.2 1 (by omega)).trans b5, b6, fun o => by rw [hq.2 0 (by omega)]; exact b7 o, b8, b9⟩
theorem zDs.pm {σ μ μ' : zS} {n : Nat} {cn vs : Nat → Int32} {mt : Nat → Bool} (h : zDs σ μ n cn vs mt) (hq : zpm μ μ') : zDs σ μ' n cn vs mt := by
  obtain ⟨b1, b2, b3, b4, b5, b6, b7, b8, b9⟩ := h
  exact ⟨b1, hq.1.trans b2, b3, (hq.2.2.2 0 (by omega)).trans b4, b5, (hq.2.2.2 1 (by omega)).trans b6, b7, fun o => by rw [hq.2.2.2 2 (by omega)]; exact b8 o, b9⟩
theorem zHs.px {σ σ' μ : zS} {n : Nat} {mt : Nat → Bool} {e : Nat} {d : Nat → Nat} (h : zHs σ μ n mt e d) (hq : zpx σ σ') : zHs σ' μ n mt e d := by
  obtain ⟨c1, c2, c3, c4, c5⟩ := h
  exact ⟨c1, (hq.1 3 (by omega)).trans c2, c3, fun o ho => by rw [hq.2 3 (by omega)]; exact c4 o ho, c5⟩
theorem zHs.pm {σ μ μ' : zS} {n : Nat} {mt : Nat → Bool} {e : Nat} {d : Nat → Nat} (h : zHs σ μ n mt e d) (hq : zpm μ μ') : zHs σ μ' n mt e d := by
  obtain ⟨c1, c2, c3, c4, c5⟩ := h
  exact ⟨c1, c2, hq.2.2.1.trans c3, c4, fun o l ho hl => by rw [hq.2.2.2 17 (by omega)]; exact c5 o l ho hl⟩
theorem zRE.pm {σ μ μ' : zS} (h : zRE σ μ) (hq : zpm μ μ') : zRE σ μ' := by
  obtain ⟨n, cn, vs, mt, FL, e, d, h1, h2, h3, h4⟩ := h
  exact ⟨n, cn, vs, mt, FL, e, d, h1.pm hq, h2.pm hq, h3.pm hq, h4⟩
/-- nothing is entered, nothing is listed -/
def zlv (σ : zS) : Prop := σ.1 1 = -2000000000 ∧ σ.1 3 = 0 ∧ ∀ o, o < 120 → σ.2.1 3 o = 0
theorem zlv.sI {σ : zS} {j : Nat} {v : Int32} (h : zlv σ) (h1 : j ≠ 1) (h3 : j ≠ 3) : zlv (zsI σ j v) := ⟨(zsI_ne σ v (Ne.symm h1)).trans h.1, (zsI_ne σ v (Ne.symm h3)).trans h.2.1, h.2.2⟩
theorem zlv.sA {σ : zS} {j : Nat} {f : Nat → Int32} (h : zlv σ) (h3 : j ≠ 3) : zlv (zsA σ j f) := ⟨h.1, h.2.1, fun o ho => by rw [zsA_ne σ f (Ne.symm h3)]; exact h.2.2 o ho⟩
theorem zR_new {σ μ : zS} {n : Nat} {cn vs : Nat → Int32} {mt : Nat → Bool} {FL : List zF} (hF : zFs σ μ FL) (hD : zDs σ μ n cn vs mt) (hl : zlv σ) (hm : μ.1 2 = 0) : zRE σ μ :=
  ⟨n, cn, vs, mt, FL, 0, fun _ => 0, hF, hD, ⟨Nat.zero_le _, hl.2.1, hm, fun o ho => ⟨hl.2.2 o ho, Nat.le_refl _⟩, fun o l _ h => absurd h (by omega)⟩, Or.inl hl.1⟩
theorem w_shrink {N : Nat} {σ : zS} {t : Nat} {d : Nat → Nat} (hd : ∀ o, o < 120 → σ.2.1 3 o = nI (d o) ∧ d o ≤ 6) (ht : t ≤ 6) (hN : 3000 < N) : zok (m_X3_shrinkTo N σ (nI t)) (fun σ' => ∃ dp, σ' = zsA (zsI σ 3 (nI t)) 3 dp ∧ ∀ o, o < 120 → dp o = nI (min (d o) t)) := by
  unfold m_X3_shrinkTo
  rw [Option.bind_some]
  refine zok_bind (P := fun σ' => ∃ dp, σ' = zsA (zsI σ 3 (nI t)) 3 dp ∧ ∀ o, o < 120 → dp o = nI (min (d o) t)) ?_ (fun s h => zok_some h)
  refine zok_for 120 (fun i q => ∃ dp, q = (zsA (zsI σ 3 (nI t)) 3 dp, nI i) ∧ ∀ o, o < 120 → dp o = nI (if o < i then min (d o) t else d o)) ?_ ?_ 120 N 0 _ rfl ⟨σ.2.1 3, ?_, fun o ho => by rw [if_neg (by omega)]; exact (hd o ho).1⟩ (by omega)
  · rintro i q hi ⟨dp, rfl, h⟩
    show zok (m_X3_shrinkTo_L7 N (nI t) (zsA (zsI σ 3 (nI t)) 3 dp) (nI i)) _
    have hdi := h i hi
    rw [if_neg (by omega)] at hdi
    have h6 := (hd i hi).2
    unfold m_X3_shrinkTo_L7
    rw [if_neg (show ¬ (120 : Int32) ≤ nI i from nI_ge (b := 120) hi (by omega)), zsA_at (zsI σ 3 (nI t)) 3, zrd_nI hi (by omega), Option.bind_some, hdi, w_min (by omega) (by omega), Option.bind_some, zwA_nI hi (by omega), Option.bind_some, nI_1, zsA_idem, zsA_at (zsI σ 3 (nI t)) 3]
    refine zok_some ⟨_, rfl, fun o ho => ?_⟩
    by_cases e : o = i
    · subst e
      rw [upd_at, if_pos (by omega)]
    · rw [upd_ne _ _ e, h o ho]
      by_cases q : o < i
      · rw [if_pos q, if_pos (by omega)]
      · rw [if_neg q, if_neg (by omega)]
  · rintro q ⟨dp, rfl, h⟩
    show zok (m_X3_shrinkTo_L7 N (nI t) (zsA (zsI σ 3 (nI t)) 3 dp) (nI 120)) _
    unfold m_X3_shrinkTo_L7
    rw [if_pos (show (120 : Int32) ≤ nI 120 from Int32.le_refl _)]
    refine zok_some ⟨dp, rfl, fun o ho => ?_⟩
    rw [h o ho, if_pos ho]
  · show _ = (zsA (zsI σ 3 (nI t)) 3 ((zsI σ 3 (nI t)).2.1 3), nI 0)
    rw [zsA_self]
    rfl
theorem w_leaveAll {N : Nat} {σ μ : zS} {n : Nat} {mt : Nat → Bool} {e : Nat} {d : Nat → Nat} (h : zHs σ μ n mt e d) (hN : 3000 < N) : zok (m_X8_leaveAll N σ) (fun σ' => zqx σ σ' ∧ zlv σ') := by
  obtain ⟨c1, c2, c3, c4, c5⟩ := h
  unfold m_X8_leaveAll m_X3_widenWholly
  rw [c2]
  by_cases h0 : e = 0
  · subst h0
    rw [if_pos (show nI 0 ≤ (0 : Int32) from Int32.le_refl _), Option.bind_some, Option.bind_some]
    refine zok_some ⟨⟨fun j hj => zsI_ne σ _ (by omega), fun _ _ => rfl⟩, zsI_at σ 1 _, (zsI_ne σ (k := 1) (j := 3) _ (by omega)).trans c2, fun o ho => ?_⟩
    have := c4 o ho
    show σ.2.1 3 o = 0
    rw [this.1, show d o = 0 by omega]
    rfl
  · rw [if_neg (nI_nle (by omega) (by omega))]
    obtain ⟨s, e1, dp, rfl, hdp⟩ := w_shrink (N := N) (σ := σ) (t := 0) (d := d) (fun o ho => ⟨(c4 o ho).1, by have := (c4 o ho).2; omega⟩) (by omega) hN
    have e1 : m_X3_shrinkTo N σ (0 : Int32) = some (zsA (zsI σ 3 (nI 0)) 3 dp) := e1
    rw [e1, Option.bind_some, Option.bind_some, Option.bind_some]
    refine zok_some ⟨⟨fun j hj => ?_, fun j hj => ?_⟩, zsI_at _ 1 _, ?_, fun o ho => ?_⟩
    · exact (zsI_ne (zsA (zsI σ 3 (nI 0)) 3 dp) _ (by omega)).trans (zsI_ne σ _ (by omega))
    · exact zsA_ne (zsI σ 3 (nI 0)) _ (by omega)
    · exact (zsI_ne (zsA (zsI σ 3 (nI 0)) 3 dp) (k := 1) (j := 3) _ (by omega)).trans (zsI_at σ 3 _)
    · show (zsA (zsI σ 3 (nI 0)) 3 dp).2.1 3 o = 0
      rw [zsA_at (zsI σ 3 (nI 0)) 3, hdp o ho, Nat.min_zero]
      rfl
/-- both answer the same, and what they have to do with one another still holds -/
def zop {α : Type} (A B : Option (α × zS)) : Prop := zok A (fun p => zok B (fun q => p.1 = q.1 ∧ zRE p.2 q.2))
theorem zop.same {α : Type} {v : α} {σ μ : zS} (h : zRE σ μ) : zop (some (v, σ)) (some (v, μ)) := zok_some (zok_some ⟨rfl, h⟩)
theorem w_idx {N : Nat} {μ : zS} {n : Nat} (hn : n < 2 ^ 30) (x : Int32) : (∃ j, j < n ∧ x = nI j ∧ ¬ x < 0 ∧ ¬ nI n ≤ x ∧ m_X9_within N μ x 0 (nI n - 1) = some 1) ∨ ((x < 0 ∨ (¬ x < 0 ∧ nI n ≤ x)) ∧ m_X9_within N μ x 0 (nI n - 1) = some 0) := by
  have hb : (nI n - 1).toInt = (n : Int) - 1 := pk_sub_toInt (a := n) (b := 1) hn (by omega)
  have h0 : (0 : Int32).toInt = 0 := rfl
  rw [w_within]
  rcases pk_ix x (n := n) (by omega) with h | h | ⟨j, hj, rfl⟩
  · right
    refine ⟨Or.inl h, ?_⟩
    rw [decide_eq_false (fun q => absurd h (Int32.not_lt.mpr q.1))]
    rfl
  · right
    have h2 := Int32.le_iff_toInt_le.mp h
    rw [nI_toInt (by omega)] at h2
    refine ⟨Or.inr ⟨fun q => ?_, h⟩, ?_⟩
    · have := Int32.lt_iff_toInt_lt.mp q
      omega
    · rw [decide_eq_false (fun q => by have := Int32.le_iff_toInt_le.mp q.2; omega)]
      rfl
  · left
    refine ⟨j, hj, rfl, nI_pos (by omega), nI_ge hj (by omega), ?_⟩
    rw [decide_eq_true ⟨nI_pos' (by omega), Int32.le_iff_toInt_le.mpr (by rw [nI_toInt (by omega), hb]; omega)⟩]
    rfl
