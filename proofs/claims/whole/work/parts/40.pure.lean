/-! the pure part: words for programs in Option -/
def zok {α : Type} (m : Option α) (P : α → Prop) : Prop := ∃ a, m = some a ∧ P a
theorem zok_some {α : Type} {a : α} {P : α → Prop} (h : P a) : zok (some a) P := ⟨a, rfl, h⟩
theorem zok_bind {α β : Type} {m : Option α} {f : α → Option β} {P : α → Prop} {Q : β → Prop} (h1 : zok m P) (h2 : ∀ a, P a → zok (f a) Q) : zok (m.bind f) Q := by
  obtain ⟨a, rfl, h⟩ := h1
  exact h2 a h
theorem zok_mono {α : Type} {m : Option α} {P Q : α → Prop} (h1 : zok m P) (h2 : ∀ a, P a → Q a) : zok m Q := by
  obtain ⟨a, e, h⟩ := h1
  exact ⟨a, e, h2 a h⟩
theorem zok_eq {α : Type} {m : Option α} {a : α} (h : m = some a) : zok m (fun x => x = a) := ⟨a, h, rfl⟩
theorem zok_of {α : Type} {m : Option α} {a : α} {P : α → Prop} (h : m = some a) (hp : P a) : zok m P := ⟨a, h, hp⟩
theorem zok_ite {α : Type} {c : Prop} [Decidable c] {A B : Option α} {P : α → Prop} (h1 : c → zok A P) (h2 : ¬ c → zok B P) : zok (if c then A else B) P := by
  by_cases h : c
  · rw [if_pos h]; exact h1 h
  · rw [if_neg h]; exact h2 h
/-- a loop: an invariant, a measure that falls -/
theorem zok_iter {S R : Type} {f : S → Option (S ⊕ R)} (Inv : S → Prop) (mu : S → Nat) {Post : R → Prop} (hs : ∀ s, Inv s → zok (f s) (Sum.elim (fun s' => Inv s' ∧ mu s' < mu s) Post)) : ∀ (N : Nat) (s : S), Inv s → mu s < N → zok (ziter f N s) Post := by
  intro N
  induction N with
  | zero => intro s _ h; omega
  | succ n ih =>
    intro s hI hm
    obtain ⟨r, e, h⟩ := hs s hI
    unfold ziter
    rw [e]
    cases r with
    | inl s' => exact ih s' h.1 (by have := h.2; omega)
    | inr r => exact ⟨r, rfl, h⟩
/-- a loop that counts: what turn i does -/
theorem zok_for {S R : Type} {f : S → Option (S ⊕ R)} (n : Nat) (Inv : Nat → S → Prop) {Post : R → Prop} (hs : ∀ i s, i < n → Inv i s → zok (f s) (Sum.elim (fun s' => Inv (i + 1) s') Post)) (he : ∀ s, Inv n s → zok (f s) (Sum.elim (fun _ => False) Post)) : ∀ (k N i : Nat) (s : S), i + k = n → Inv i s → k < N → zok (ziter f N s) Post := by
  intro k
  induction k with
  | zero =>
    intro N i s hi hI hN
    have : i = n := by omega
    subst this
    cases N with
    | zero => omega
    | succ N =>
      obtain ⟨r, e, h⟩ := he s hI
      unfold ziter
      rw [e]
      cases r with
      | inl s' => exact absurd h (fun q => q)
      | inr r => exact ⟨r, rfl, h⟩
  | succ k ih =>
    intro N i s hi hI hN
    cases N with
    | zero => omega
    | succ N =>
      obtain ⟨r, e, h⟩ := hs i s (by omega) hI
      unfold ziter
      rw [e]
      cases r with
      | inl s' => exact ih N (i + 1) s' (by omega) h (by omega)
      | inr r => exact ⟨r, rfl, h⟩
theorem nI_lit (n : Nat) : (OfNat.ofNat n : Int32) = nI n := rfl
def zb (p : Prop) [Decidable p] : Int32 := if p then 1 else 0
theorem zcz_zb (p : Prop) [Decidable p] : zcz (zb p) = some (zb p) := by
  unfold zcz zb
  by_cases h : p
  · rw [if_pos h]; rfl
  · rw [if_neg h]; rfl
theorem zb_0 {p : Prop} [Decidable p] : zb p = 0 ↔ ¬ p := by
  unfold zb
  by_cases h : p <;> simp [h]
theorem zrd_nI {α : Type} {n : Nat} {f : Nat → α} {j : Nat} (hj : j < n) (hn : n < 2 ^ 31) : zrd n f (nI j) = some (f j) := by
  unfold zrd
  rw [if_neg (nI_in hj hn), nI_clamp (by omega)]
theorem zwA_nI {n k : Nat} {σ : zS} {j : Nat} {x : Int32} (hj : j < n) (hn : n < 2 ^ 31) : zwA n k σ (nI j) x = some (zsA σ k (upd (σ.2.1 k) j x)) := by
  unfold zwA
  rw [if_neg (nI_in hj hn), nI_clamp (by omega)]
theorem zwL_nI {n k : Nat} {σ : zS} {j : Nat} {x : Int64} (hj : j < n) (hn : n < 2 ^ 31) : zwL n k σ (nI j) x = some (zsL σ k (vp_updL (σ.2.2 k) j x)) := by
  unfold zwL
  rw [if_neg (nI_in hj hn), nI_clamp (by omega)]
theorem zup_idem {α : Type} (f : Nat → α) (k : Nat) (v w : α) : zup (zup f k v) k w = zup f k w := by
  funext j
  rw [zup_if, zup_if, zup_if]
  by_cases h : j = k <;> simp [h]
theorem zup_self {α : Type} (f : Nat → α) (k : Nat) : zup f k (f k) = f := by
  funext j
  rw [zup_if]
  by_cases h : j = k <;> simp [h]
theorem zsL_idem (σ : zS) (k : Nat) (f g : Nat → Int64) : zsL (zsL σ k f) k g = zsL σ k g := by
  unfold zsL
  simp only [zup_idem]
theorem zsL_self (σ : zS) (k : Nat) : zsL σ k (σ.2.2 k) = σ := by
  unfold zsL
  rw [zup_self]
theorem zsL_at (σ : zS) (k : Nat) (f : Nat → Int64) : (zsL σ k f).2.2 k = f := zup_same _ _ _
theorem zsL_ne (σ : zS) {k j : Nat} (f : Nat → Int64) (h : j ≠ k) : (zsL σ k f).2.2 j = σ.2.2 j := zup_ne _ _ h
theorem vp_updL_at (f : Nat → Int64) (k : Nat) (x : Int64) : vp_updL f k x k = x := by simp [vp_updL]
theorem vp_updL_ne (f : Nat → Int64) {k j : Nat} (x : Int64) (h : j ≠ k) : vp_updL f k x j = f j := by simp [vp_updL, h]
theorem upd_at (f : Nat → Int32) (k : Nat) (x : Int32) : upd f k x k = x := by simp [upd]
theorem upd_ne (f : Nat → Int32) {k j : Nat} (x : Int32) (h : j ≠ k) : upd f k x j = f j := by simp [upd, h]
