theorem zsL_comm (σ : zS) {a b : Nat} (h : a ≠ b) (x y : Nat → Int64) : zsL (zsL σ a x) b y = zsL (zsL σ b y) a x := by
  unfold zsL
  congr 2
  funext j
  show zup (zup σ.2.2 a x) b y j = zup (zup σ.2.2 b y) a x j
  rw [zup_if, zup_if, zup_if, zup_if]
  by_cases h1 : j = b
  · subst h1
    rw [if_pos rfl, if_neg (fun q => h q.symm), if_pos rfl]
  · rw [if_neg h1, if_neg h1]
def zst (σ : zS) (j : Nat) (g f : Nat → Int64) : zS := zsL (zsL σ 0 g) j f
theorem zst_self (σ : zS) (j : Nat) (hj : j ≠ 0) : zst σ j (σ.2.2 0) (σ.2.2 j) = σ := by
  unfold zst
  rw [zsL_self, zsL_self]
theorem zst_0 {σ : zS} {j : Nat} {g f : Nat → Int64} (hj : j ≠ 0) : (zst σ j g f).2.2 0 = g := by
  unfold zst
  rw [zsL_ne _ _ (Ne.symm hj), zsL_at]
theorem zst_j {σ : zS} {j : Nat} {g f : Nat → Int64} : (zst σ j g f).2.2 j = f := zsL_at _ _ _
theorem zst_set0 {σ : zS} {j : Nat} {g f g' : Nat → Int64} (hj : j ≠ 0) : zsL (zst σ j g f) 0 g' = zst σ j g' f := by
  unfold zst
  rw [zsL_comm _ hj, zsL_idem]
theorem zst_setj {σ : zS} {j : Nat} {g f f' : Nat → Int64} : zsL (zst σ j g f) j f' = zst σ j g f' := zsL_idem _ _ _ _
def zblk (f : Nat → Int64) (w n : Nat) : Prop := ∀ b, zsrt f (w * b) (min (w * (b + 1)) n)
theorem w_min {N : Nat} {σ : zS} {a b : Nat} (ha : a < 2 ^ 31) (hb : b < 2 ^ 31) : m_J9_min_7cf53 N σ (nI a) (nI b) = some (nI (min a b)) := by
  unfold m_J9_min_7cf53
  by_cases h : b < a
  · rw [if_pos (nI_lt h ha), show min a b = b by omega]
  · rw [if_neg (nI_nlt (by omega) hb), show min a b = a by omega]
theorem w_sort_inner {N j : Nat} {σ : zS} {n w : Nat} {g0 f : Nat → Int64} (v2 : Int32) (hj : j = 1 ∨ j = 2 ∨ j = 3) (hn : n ≤ zln j) (hN : 1090 < N) (hw : 1 ≤ w) (hwn : w < n) (hf : zblk f w n) :
    zok (ziter (fun q : zS × Int32 => m_X5_sort_L27 N j v2 (nI n) (nI w) q.1 q.2) N (zst σ j g0 f, (0 : Int32))) (fun σ' => ∃ g, σ' = zst σ j g f ∧ zblk g (2 * w) n ∧ ∀ p, zcn p g 0 n = zcn p f 0 n) := by
  have hz := zln_le (j := j)
  have hj0 : j ≠ 0 := by omega
  refine zok_iter (fun s => ∃ t g, s = (zst σ j g f, nI (2 * w * t)) ∧ 2 * w * t < n + 2 * w ∧ (∀ b, b < t → zsrt g (2 * w * b) (min (2 * w * (b + 1)) n)) ∧ ∀ p, zcn p g 0 (min (2 * w * t) n) = zcn p f 0 (min (2 * w * t) n)) (fun s => n + 1 - s.2.toNatClampNeg) ?_ N _ ⟨0, g0, rfl, by omega, fun b h => by omega, fun p => by simp [zcn]⟩ (by show n + 1 - (0 : Int32).toNatClampNeg < N; omega)
  rintro s ⟨t, g, rfl, h1, h2, h3⟩
  show zok (m_X5_sort_L27 N j v2 (nI n) (nI w) (zst σ j g f) (nI (2 * w * t))) _
  unfold m_X5_sort_L27
  refine zok_ite (fun hc => ?_) (fun hc => ?_)
  · have hc := (nI_leI (by omega) (by omega)).mp hc
    refine zok_some ⟨g, rfl, fun b => ?_, fun p => ?_⟩
    · by_cases hb : b < t
      · exact h2 b hb
      · intro x y a1 a2 a3
        have : 2 * w * t ≤ 2 * w * b := Nat.mul_le_mul_left _ (by omega)
        omega
    · have := h3 p
      rw [show min (2 * w * t) n = n by omega] at this
      exact this
  · have hlt : 2 * w * t < n := by
      have := mt (nI_leI (a := n) (b := 2 * w * t) (by omega) (by omega)).mpr hc
      omega
    have e2 : (2 : Int32) * nI w = nI (2 * w) := pk_mul 2 w
    rw [e2, nI_add, nI_add, w_min (by omega) (by omega), Option.bind_some, w_min (by omega) (by omega), Option.bind_some]
    refine zok_bind (w_merge (σ := zst σ j g f) (a := 2 * w * t) (m := min (2 * w * t + w) n) (b := min (2 * w * t + 2 * w) n) hj (by omega) (by omega) (by omega) (by omega) ?_ ?_) ?_
    · rw [zst_j]
      have := hf (2 * t)
      rw [show w * (2 * t) = 2 * w * t by rw [← Nat.mul_assoc, Nat.mul_comm w 2], show w * (2 * t + 1) = 2 * w * t + w by rw [Nat.mul_add, ← Nat.mul_assoc, Nat.mul_comm w 2]; omega] at this
      exact this
    · rw [zst_j]
      have := hf (2 * t + 1)
      rw [show w * (2 * t + 1) = 2 * w * t + w by rw [Nat.mul_add, ← Nat.mul_assoc, Nat.mul_comm w 2]; omega, show w * (2 * t + 1 + 1) = 2 * w * t + 2 * w by rw [show 2 * t + 1 + 1 = 2 * t + 2 by omega, Nat.mul_add, ← Nat.mul_assoc, Nat.mul_comm w 2]] at this
      intro x y a1 a2 a3
      exact this x y (by omega) a2 a3
    · rintro σ' ⟨g', rfl, k1, k2, k3⟩
      rw [zst_set0 hj0] at *
      rw [zst_0 hj0] at k1
      rw [zst_j] at k3
      have et : 2 * w * (t + 1) = 2 * w * t + 2 * w := by rw [Nat.mul_add]; omega
      refine zok_some ⟨⟨t + 1, g', by rw [et], by omega, fun b hb => ?_, fun p => ?_⟩, ?_⟩
      · by_cases hbt : b = t
        · subst hbt
          rw [et]
          exact k2
        · intro x y a1 a2 a3
          have hle : 2 * w * (b + 1) ≤ 2 * w * t := Nat.mul_le_mul_left _ (by omega)
          rw [k1 x (by omega), k1 y (by omega)]
          exact h2 b (by omega) x y a1 a2 a3
      · rw [et]
        have m1 : min (2 * w * t + 2 * w) n = 2 * w * t + (min (2 * w * t + 2 * w) n - 2 * w * t) := by omega
        have h3p := h3 p
        rw [show min (2 * w * t) n = 2 * w * t by omega] at h3p
        rw [m1, zcn_add, zcn_add, Nat.zero_add, k3 p, zcn_congr (g := g) (fun i a1 a2 => k1 i (by omega)), h3p]
      · show n + 1 - (nI (2 * w * t + 2 * w)).toNatClampNeg < n + 1 - (nI (2 * w * t)).toNatClampNeg
        rw [nI_clamp (by omega), nI_clamp (by omega)]
        omega
theorem w_sort {N j : Nat} {σ : zS} {n : Nat} (hj : j = 1 ∨ j = 2 ∨ j = 3) (hn : n ≤ zln j) (hN : 1090 < N) :
    zok (m_X5_sort N σ j (nI n)) (fun σ' => ∃ g f, σ' = zst σ j g f ∧ (∀ i, n ≤ i → f i = σ.2.2 j i) ∧ zsrt f 0 n ∧ ∀ p, zcn p f 0 n = zcn p (σ.2.2 j) 0 n) := by
  have hz := zln_le (j := j)
  have hj0 : j ≠ 0 := by omega
  unfold m_X5_sort
  have e1 : m_J9_min_7cf53 N σ (Int32.ofNat (zln j)) 1080 = some (nI (min (zln j) 1080)) := w_min (a := zln j) (b := 1080) (by omega) (by omega)
  rw [e1, Option.bind_some, w_min (by omega) (by omega), Option.bind_some, show min n (min (zln j) 1080) = n by omega]
  refine zok_bind (P := fun σ' => ∃ g f, σ' = zst σ j g f ∧ (∀ i, n ≤ i → f i = σ.2.2 j i) ∧ zsrt f 0 n ∧ ∀ p, zcn p f 0 n = zcn p (σ.2.2 j) 0 n) ?_ (fun s h => zok_some h)
  refine zok_iter (fun s => ∃ w g f, s = (zst σ j g f, nI w) ∧ 1 ≤ w ∧ w ≤ 2160 ∧ zblk f w n ∧ (∀ i, n ≤ i → f i = σ.2.2 j i) ∧ ∀ p, zcn p f 0 n = zcn p (σ.2.2 j) 0 n) (fun s => n + 1 - s.2.toNatClampNeg) ?_ N _ ⟨1, σ.2.2 0, σ.2.2 j, by rw [zst_self _ _ hj0]; rfl, Nat.le_refl _, by omega, fun b x y a1 a2 a3 => ?_, fun _ _ => rfl, fun _ => rfl⟩ (by show n + 1 - (1 : Int32).toNatClampNeg < N; omega)
  · rintro s ⟨w, g, f, rfl, h1, h2, h3, h4, h5⟩
    show zok (m_X5_sort_L18 N j (nI n) (nI n) (zst σ j g f) (nI w)) _
    unfold m_X5_sort_L18
    refine zok_ite (fun hc => ?_) (fun hc => ?_)
    · have hc := (nI_leI (by omega) (by omega)).mp hc
      refine zok_some ⟨g, f, rfl, h4, ?_, h5⟩
      have := h3 0
      rw [show min (w * (0 + 1)) n = n by omega] at this
      exact this
    · have hlt : w < n := by
        have := mt (nI_leI (a := n) (b := w) (by omega) (by omega)).mpr hc
        omega
      refine zok_bind (w_sort_inner (σ := σ) (g0 := g) (f := f) (nI n) hj hn hN h1 hlt h3) ?_
      rintro σ' ⟨g', rfl, k1, k2⟩
      unfold m_X5_sort_72_in18
      have hcp : zcpy 1080 (zln j) 0 j (zst σ j g' f) (nI n) = some (zst σ j g' (va_cpy g' f 0 0 n)) := by
        unfold zcpy
        rw [nI_clamp (by omega), if_neg (by
          rintro (q | q | q)
          · exact nI_pos (by omega) q
          · omega
          · omega), zst_0 hj0, zst_j, zst_setj]
      have hat : ∀ i, i < n → va_cpy g' f 0 0 n i = g' i := by
        intro i hi
        unfold va_cpy
        rw [if_pos (by omega)]
        congr 1
        omega
      rw [hcp, Option.bind_some, show nI w * (2 : Int32) = nI (w * 2) from pk_mul w 2]
      refine zok_some ⟨⟨w * 2, g', _, rfl, by omega, by omega, fun b x y a1 a2 a3 => ?_, fun i hi => ?_, fun p => ?_⟩, ?_⟩
      · rw [hat x (by omega), hat y (by omega)]
        have := k1 b
        rw [Nat.mul_comm 2 w] at this
        exact this x y a1 a2 a3
      · unfold va_cpy
        rw [if_neg (by omega)]
        exact h4 i hi
      · rw [zcn_congr (g := g') (fun i _ hi => hat i (by omega)), k2 p]
        exact h5 p
      · show n + 1 - (nI (w * 2)).toNatClampNeg < n + 1 - (nI w).toNatClampNeg
        rw [nI_clamp (by omega), nI_clamp (by omega)]
        omega
  · have : x = y := by omega
    subst this
    exact Int64.le_refl _
