/-! the class's sort: the row's first n numbers come into order, each as often as before -/
def zcn (p : Int64 → Bool) (f : Nat → Int64) (a : Nat) : Nat → Nat
  | 0 => 0
  | k + 1 => zcn p f a k + (if p (f (a + k)) = true then 1 else 0)
theorem zcn_s (p : Int64 → Bool) (f : Nat → Int64) (a k : Nat) : zcn p f a (k + 1) = zcn p f a k + (if p (f (a + k)) = true then 1 else 0) := rfl
theorem zcn_congr {p : Int64 → Bool} {f g : Nat → Int64} {a : Nat} : ∀ {k : Nat}, (∀ i, a ≤ i → i < a + k → f i = g i) → zcn p f a k = zcn p g a k
  | 0, _ => rfl
  | k + 1, h => by
    rw [zcn_s, zcn_s, zcn_congr (k := k) (fun i h1 h2 => h i h1 (by omega)), h (a + k) (by omega) (by omega)]
theorem zcn_add (p : Int64 → Bool) (f : Nat → Int64) (a k : Nat) : ∀ m : Nat, zcn p f a (k + m) = zcn p f a k + zcn p f (a + k) m
  | 0 => rfl
  | m + 1 => by
    rw [← Nat.add_assoc, zcn_s, zcn_s, zcn_add p f a k m, Nat.add_assoc a k m]
    omega
def zsrt (f : Nat → Int64) (a b : Nat) : Prop := ∀ i j, a ≤ i → i ≤ j → j < b → f i ≤ f j
theorem lg_pos (x y : Int64) : (0 : Int32) < lg_cmp x y ↔ y < x := by
  unfold lg_cmp
  by_cases h : x > y
  · rw [if_pos h]; exact ⟨fun _ => h, fun _ => by decide⟩
  · rw [if_neg h]
    constructor
    · intro h2
      by_cases h3 : x = y
      · rw [if_pos h3] at h2; exact absurd h2 (by decide)
      · rw [if_neg h3] at h2; exact absurd h2 (by decide)
    · intro h2; exact absurd h2 h
/-- what stands when the merging has come to 'at' -/
def zmi_inv (σ : zS) (f g0 : Nat → Int64) (a m b at_ : Nat) (q : zS × Int32 × Int32 × Int32) : Prop :=
  ∃ (g : Nat → Int64) (l r : Nat), q = (zsL σ 0 g, nI l, nI r, nI at_) ∧ a ≤ l ∧ l ≤ m ∧ m ≤ r ∧ r ≤ b ∧ (l - a) + (r - m) = at_ - a ∧ a ≤ at_ ∧
    (∀ i, (i < a ∨ at_ ≤ i) → g i = g0 i) ∧ zsrt g a at_ ∧ (∀ i, a ≤ i → i < at_ → (l < m → g i ≤ f l) ∧ (r < b → g i ≤ f r)) ∧
    ∀ p, zcn p g a (at_ - a) = zcn p f a (l - a) + zcn p f m (r - m)
theorem zl_le_trans {x y z : Int64} (h1 : x ≤ y) (h2 : y ≤ z) : x ≤ z := Int64.le_trans h1 h2
theorem zmi_step {σ : zS} {f g0 g : Nat → Int64} {a m b at_ l r : Nat} {x : Int64} {l' r' : Nat} (hf1 : zsrt f a m) (hf2 : zsrt f m b) (hl1 : a ≤ l) (hl2 : l ≤ m) (hr1 : m ≤ r) (hr2 : r ≤ b) (hsum : (l - a) + (r - m) = at_ - a) (hat : a ≤ at_)
    (hout : ∀ i, (i < a ∨ at_ ≤ i) → g i = g0 i) (hs : zsrt g a at_) (hle : ∀ i, a ≤ i → i < at_ → (l < m → g i ≤ f l) ∧ (r < b → g i ≤ f r)) (hc : ∀ p, zcn p g a (at_ - a) = zcn p f a (l - a) + zcn p f m (r - m))
    (hx : (l < m ∧ x = f l ∧ l' = l + 1 ∧ r' = r ∧ (r < b → f l ≤ f r)) ∨ (r < b ∧ x = f r ∧ l' = l ∧ r' = r + 1 ∧ (l < m → f r ≤ f l))) : zmi_inv σ f g0 a m b (at_ + 1) (zsL σ 0 (vp_updL g at_ x), nI l', nI r', nI (at_ + 1)) := by
  have hnew : ∀ i, a ≤ i → i < at_ → g i ≤ x := by
    intro i h1 h2
    rcases hx with ⟨h, rfl, -⟩ | ⟨h, rfl, -⟩
    · exact (hle i h1 h2).1 h
    · exact (hle i h1 h2).2 h
  have hbound : ∀ y, y ≤ x → (l' < m → y ≤ f l') ∧ (r' < b → y ≤ f r') := by
    intro y hy
    rcases hx with ⟨h, rfl, rfl, rfl, h5⟩ | ⟨h, rfl, rfl, rfl, h5⟩
    · exact ⟨fun q => zl_le_trans hy (hf1 l (l + 1) hl1 (by omega) q), fun q => zl_le_trans hy (h5 q)⟩
    · exact ⟨fun q => zl_le_trans hy (h5 q), fun q => zl_le_trans hy (hf2 r (r + 1) hr1 (by omega) q)⟩
  have hidx : a ≤ l' ∧ l' ≤ m ∧ m ≤ r' ∧ r' ≤ b ∧ (l' - a) + (r' - m) = at_ + 1 - a := by
    rcases hx with ⟨h, -, rfl, rfl, -⟩ | ⟨h, -, rfl, rfl, -⟩ <;> omega
  refine ⟨vp_updL g at_ x, l', r', rfl, hidx.1, hidx.2.1, hidx.2.2.1, hidx.2.2.2.1, hidx.2.2.2.2, by omega, ?_, ?_, ?_, ?_⟩
  · intro i hi
    rw [vp_updL_ne _ _ (by omega)]
    exact hout i (by omega)
  · intro i j h1 h2 h3
    by_cases hj : j = at_
    · subst hj
      rw [vp_updL_at]
      by_cases hi : i = j
      · subst hi; rw [vp_updL_at]; exact Int64.le_refl _
      · rw [vp_updL_ne _ _ hi]; exact hnew i h1 (by omega)
    · rw [vp_updL_ne _ _ hj, vp_updL_ne _ _ (by omega)]
      exact hs i j h1 h2 (by omega)
  · intro i h1 h2
    by_cases hi : i = at_
    · subst hi; rw [vp_updL_at]; exact hbound x (Int64.le_refl _)
    · rw [vp_updL_ne _ _ hi]; exact hbound _ (hnew i h1 (by omega))
  · intro p
    have e1 : at_ + 1 - a = (at_ - a) + 1 := by omega
    rw [e1, zcn_s, zcn_congr (g := g) (fun i h1 h2 => vp_updL_ne _ _ (by omega)), hc p, show a + (at_ - a) = at_ by omega, vp_updL_at]
    rcases hx with ⟨h, rfl, rfl, rfl, -⟩ | ⟨h, rfl, rfl, rfl, -⟩
    · rw [show l + 1 - a = (l - a) + 1 by omega, zcn_s, show a + (l - a) = l by omega]
      omega
    · rw [show r + 1 - m = (r - m) + 1 by omega, zcn_s, show m + (r - m) = r by omega]
      omega
theorem zln_le {j : Nat} : zln j ≤ 1080 := by
  unfold zln
  split <;> omega
theorem w_merge {N j : Nat} {σ : zS} {a m b : Nat} (hj : j = 1 ∨ j = 2 ∨ j = 3) (ham : a ≤ m) (hmb : m ≤ b) (hb : b ≤ zln j) (hN : 1080 < N) (hf1 : zsrt (σ.2.2 j) a m) (hf2 : zsrt (σ.2.2 j) m b) :
    zok (m_X5_merge N σ j (nI a) (nI m) (nI b)) (fun σ' => ∃ g, σ' = zsL σ 0 g ∧ (∀ i, (i < a ∨ b ≤ i) → g i = σ.2.2 0 i) ∧ zsrt g a b ∧ ∀ p, zcn p g a (b - a) = zcn p (σ.2.2 j) a (b - a)) := by
  have hz := zln_le (j := j)
  have hj0 : j ≠ 0 := by omega
  unfold m_X5_merge
  refine zok_bind (P := fun σ' => ∃ g, σ' = zsL σ 0 g ∧ (∀ i, (i < a ∨ b ≤ i) → g i = σ.2.2 0 i) ∧ zsrt g a b ∧ ∀ p, zcn p g a (b - a) = zcn p (σ.2.2 j) a (b - a)) ?_ (fun s h => zok_some h)
  refine zok_for b (zmi_inv σ (σ.2.2 j) (σ.2.2 0) a m b) ?_ ?_ (b - a) N a _ (by omega) ?_ (by omega)
  · rintro at_ s hat ⟨g, l, r, rfl, h1, h2, h3, h4, h5, h6, h7, h8, h9, h10⟩
    show zok (m_X5_merge_L9 N j (nI a) (nI m) (nI b) (zsL σ 0 g) (nI l) (nI r) (nI at_)) _
    have hfj : (zsL σ 0 g).2.2 j = σ.2.2 j := zsL_ne _ _ hj0
    have stepL : l < m → (r < b → σ.2.2 j l ≤ σ.2.2 j r) → zok (m_X5_merge_41_in9 N j (nI a) (nI m) (nI b) (zsL σ 0 g) (nI l) (nI r) (nI at_)) (Sum.elim (fun s' => zmi_inv σ (σ.2.2 j) (σ.2.2 0) a m b (at_ + 1) s') (fun σ' => ∃ g, σ' = zsL σ 0 g ∧ (∀ i, (i < a ∨ b ≤ i) → g i = σ.2.2 0 i) ∧ zsrt g a b ∧ ∀ p, zcn p g a (b - a) = zcn p (σ.2.2 j) a (b - a))) := by
      intro hlm hle
      unfold m_X5_merge_41_in9 m_X5_merge_72_in9
      rw [hfj, zrd_nI (show l < zln j by omega) (by omega), Option.bind_some, zwL_nI (by omega) (by omega), Option.bind_some, nI_1, nI_1, zsL_idem, zsL_at]
      exact zok_some (zmi_step hf1 hf2 h1 h2 h3 h4 h5 h6 h7 h8 h9 h10 (Or.inl ⟨hlm, rfl, rfl, rfl, hle⟩))
    have stepR : r < b → (l < m → σ.2.2 j r ≤ σ.2.2 j l) → zok (m_X5_merge_58_in9 N j (nI a) (nI m) (nI b) (zsL σ 0 g) (nI l) (nI r) (nI at_)) (Sum.elim (fun s' => zmi_inv σ (σ.2.2 j) (σ.2.2 0) a m b (at_ + 1) s') (fun σ' => ∃ g, σ' = zsL σ 0 g ∧ (∀ i, (i < a ∨ b ≤ i) → g i = σ.2.2 0 i) ∧ zsrt g a b ∧ ∀ p, zcn p g a (b - a) = zcn p (σ.2.2 j) a (b - a))) := by
      intro hrb hle
      unfold m_X5_merge_58_in9 m_X5_merge_72_in9
      rw [hfj, zrd_nI (show r < zln j by omega) (by omega), Option.bind_some, zwL_nI (by omega) (by omega), Option.bind_some, nI_1, nI_1, zsL_idem, zsL_at]
      exact zok_some (zmi_step hf1 hf2 h1 h2 h3 h4 h5 h6 h7 h8 h9 h10 (Or.inr ⟨hrb, rfl, rfl, rfl, hle⟩))
    unfold m_X5_merge_L9
    rw [if_neg (nI_ge hat (by omega))]
    refine zok_ite (fun hc => ?_) (fun hc => ?_)
    · have := (nI_leI (by omega) (by omega)).mp hc
      exact stepR (by omega) (fun q => by omega)
    · have hlm : l < m := by
        have := mt (nI_leI (a := m) (b := l) (by omega) (by omega)).mpr hc
        omega
      refine zok_ite (fun hc2 => ?_) (fun hc2 => ?_)
      · have := (nI_leI (by omega) (by omega)).mp hc2
        exact stepL hlm (fun q => by omega)
      · have hrb : r < b := by
          have := mt (nI_leI (a := b) (b := r) (by omega) (by omega)).mpr hc2
          omega
        rw [hfj, zrd_nI (show l < zln j by omega) (by omega), Option.bind_some, zrd_nI (show r < zln j by omega) (by omega), Option.bind_some]
        refine zok_ite (fun hc3 => ?_) (fun hc3 => ?_)
        · exact stepR hrb (fun _ => Int64.le_of_lt ((lg_pos _ _).mp hc3))
        · exact stepL hlm (fun _ => Int64.not_lt.mp (mt (lg_pos _ _).mpr hc3))
  · rintro s ⟨g, l, r, rfl, h1, h2, h3, h4, h5, h6, h7, h8, h9, h10⟩
    show zok (m_X5_merge_L9 N j (nI a) (nI m) (nI b) (zsL σ 0 g) (nI l) (nI r) (nI b)) _
    unfold m_X5_merge_L9
    rw [if_pos (Int32.le_refl _)]
    refine zok_some ⟨g, rfl, h7, h8, fun p => ?_⟩
    have e1 : l = m := by omega
    have e2 : r = b := by omega
    rw [h10 p, e1, e2, show b - a = (m - a) + (b - m) by omega, zcn_add, show a + (m - a) = m by omega]
  · refine ⟨σ.2.2 0, a, m, by rw [zsL_self], Nat.le_refl _, ham, Nat.le_refl _, hmb, by omega, Nat.le_refl _, fun _ _ => rfl, fun i j h1 h2 h3 => by omega, fun i h1 h2 => by omega, fun p => by simp [zcn]⟩
