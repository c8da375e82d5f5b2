/-! remainders, the calendar: years -/
theorem zxor_nonneg (x y : Int32) (hy : 0 ≤ y) : 0 ≤ x ^^^ y ↔ 0 ≤ x := by
  have key : ∀ z : Int32, 0 ≤ z ↔ z.toBitVec.msb = false := by
    intro z
    rw [BitVec.msb_eq_toInt, Int32.le_iff_toInt_le]
    show (0 : Int) ≤ z.toBitVec.toInt ↔ _
    simp
  rw [key, key]
  have h := (key y).mp hy
  rw [Int32.toBitVec_xor, BitVec.msb_xor, h, Bool.xor_false]
theorem fmv_emod {a m : Int32} (hm : 0 < m.toInt) : (fmv a m).toInt = a.toInt % m.toInt := by
  have hb := fmv_bounds (a := a) hm
  have e1 : (a - a / m * m).toInt = a.toInt.tmod m.toInt := rem_toInt a m
  have e2 := Int.mul_tdiv_add_tmod a.toInt m.toInt
  have key : ∀ q r : Int, m.toInt * q + r = a.toInt → 0 ≤ r → r < m.toInt → r = a.toInt % m.toInt := by
    intro q r h1 h2 h3
    rw [← h1, Int.add_comm, Int.add_mul_emod_self_left, Int.emod_eq_of_lt h2 h3]
  by_cases h : 0 ≤ (a - a / m * m)
  · have e3 : fmv a m = a - a / m * m := if_pos h
    rw [e3] at hb ⊢
    refine key (a.toInt.tdiv m.toInt) _ (by rw [e1]; exact e2) hb.1 hb.2
  · have e3 : fmv a m = (a - a / m * m) + m := if_neg h
    have h' : ¬ 0 ≤ (a - a / m * m).toInt := mt Jvm.Kit.i32_nonneg.mpr h
    have a1 := Int32.toInt_lt m
    have a2 := Int32.le_toInt (a - a / m * m)
    have e4 : ((a - a / m * m) + m).toInt = (a - a / m * m).toInt + m.toInt := Jvm.Kit.i32_add (by omega) (by omega)
    rw [e3] at hb ⊢
    refine key (a.toInt.tdiv m.toInt - 1) _ ?_ hb.1 hb.2
    rw [e4, e1, Int.mul_sub]
    omega
theorem w_modulo {N : Nat} {μ : zS} {v b : Int32} (hb : ¬ b = 0) : m_X9_modulo N μ v b = some (fmv v b) := by
  unfold m_X9_modulo zrm
  rw [if_neg hb, Option.bind_some]
  unfold fmv fmOf
  by_cases h : 0 ≤ v - v / b * b
  · rw [if_pos h, if_pos h]
  · rw [if_neg h, if_neg h]
theorem w_floorMod {N : Nat} {σ : zS} {v b : Int32} (hb : 0 < b.toInt) : m_J9_floorMod_7cf53 N σ v b = some (fmv v b) := by
  have hb0 : ¬ b = 0 := by intro h; subst h; exact absurd hb (by decide)
  have hbn : 0 ≤ b := Jvm.Kit.i32_nonneg.mpr (by omega)
  unfold m_J9_floorMod_7cf53 zrm
  rw [if_neg hb0, Option.bind_some]
  have e1 : (v - v / b * b).toInt = v.toInt.tmod b.toInt := rem_toInt v b
  by_cases h : 0 ≤ v
  · rw [if_pos ((zxor_nonneg v b hbn).mpr h)]
    have : 0 ≤ v - v / b * b := Jvm.Kit.i32_nonneg.mpr (by rw [e1]; exact Int.tmod_nonneg _ (Jvm.Kit.i32_nonneg.mp h))
    unfold fmv fmOf
    rw [if_pos this]
  · rw [if_neg (mt (zxor_nonneg v b hbn).mp h)]
    have hv : ¬ 0 ≤ v.toInt := mt Jvm.Kit.i32_nonneg.mpr h
    have hle : (v - v / b * b).toInt ≤ 0 := by
      rw [e1]
      have h5 := Int.tmod_nonneg b.toInt (show 0 ≤ -v.toInt by omega)
      rw [Int.neg_tmod] at h5
      omega
    by_cases h2 : v - v / b * b = 0
    · rw [if_pos h2, h2]
      unfold fmv
      rw [h2]
      rfl
    · rw [if_neg h2]
      unfold fmv fmOf
      rw [if_neg]
      intro h3
      have := Jvm.Kit.i32_nonneg.mp h3
      exact h2 (Int32.toInt_inj.mp (by show _ = (0 : Int); omega))
-- years
def zys (y : Nat) : Nat := 365 * y + (y + 3) / 4 + (y + 399) / 400 - (y + 99) / 100
def zlpN (y : Nat) : Bool := y % 4 == 0 && (y % 100 != 0 || y % 400 == 0)
def zlp (Y : Int) : Bool := Y % 4 == 0 && (Y % 100 != 0 || Y % 400 == 0)
def zyl (b : Bool) : Nat := cond b 366 365
set_option maxRecDepth 100000 in
theorem zys_step : ∀ y, y < 400 → zys (y + 1) = zys y + zyl (zlpN y) := by decide +kernel
theorem zys_400 : zys 400 = 146097 := by decide
def zSY (Y : Int) : Int := 146097 * (Y / 400) + zys (Y % 400).toNat
theorem zlp_N (Y : Int) : zlp Y = zlpN (Y % 400).toNat := by
  have h : 0 ≤ Y % 400 ∧ Y % 400 < 400 := by omega
  have e4 : ((Y % 400).toNat % 4 : Nat) = (Y % 4).toNat := by omega
  have e100 : ((Y % 400).toNat % 100 : Nat) = (Y % 100).toNat := by omega
  have e400 : ((Y % 400).toNat % 400 : Nat) = (Y % 400).toNat := by omega
  unfold zlp zlpN
  rw [e4, e100, e400]
  have k : ∀ z : Int, 0 ≤ z → (z == 0) = (z.toNat == 0) := by
    intro z hz
    rw [Bool.eq_iff_iff, beq_iff_eq, beq_iff_eq]
    omega
  have k2 : ∀ z : Int, 0 ≤ z → (z != 0) = (z.toNat != 0) := by
    intro z hz
    show (!(z == 0)) = !(z.toNat == 0)
    rw [k z hz]
  rw [k _ (by omega), k2 _ (by omega), k _ (by omega)]
theorem zSY_step (Y : Int) : zSY (Y + 1) = zSY Y + zyl (zlp Y) := by
  rw [zlp_N]
  have h : 0 ≤ Y % 400 ∧ Y % 400 < 400 := by omega
  have hs := zys_step (Y % 400).toNat (by omega)
  unfold zSY
  by_cases h1 : Y % 400 = 399
  · have e1 : (Y + 1) / 400 = Y / 400 + 1 := by omega
    have e2 : (Y + 1) % 400 = 0 := by omega
    rw [e1, e2]
    have e3 : (Y % 400).toNat = 399 := by omega
    rw [e3] at hs ⊢
    have e5 : zys (399 + 1) = 146097 := zys_400
    have e6 : zys (0 : Int).toNat = 0 := by decide
    rw [e6]
    omega
  · have e1 : (Y + 1) / 400 = Y / 400 := by omega
    have e2 : ((Y + 1) % 400).toNat = (Y % 400).toNat + 1 := by omega
    rw [e1, e2, hs]
    omega
theorem zyl_b (b : Bool) : 365 ≤ zyl b ∧ zyl b ≤ 366 := by cases b <;> decide
theorem zSY_mono {Y Z : Int} (h : Y < Z) : zSY Y < zSY Z := by
  obtain ⟨n, rfl⟩ : ∃ n : Nat, Z = Y + 1 + n := ⟨(Z - Y - 1).toNat, by omega⟩
  clear h
  induction n with
  | zero =>
    have := zSY_step Y
    have := zyl_b (zlp Y)
    rw [show Y + 1 + ((0 : Nat) : Int) = Y + 1 by omega]
    omega
  | succ n ih =>
    have h1 := zSY_step (Y + 1 + n)
    have h2 := zyl_b (zlp (Y + 1 + n))
    rw [show Y + 1 + ((n + 1 : Nat) : Int) = Y + 1 + n + 1 by omega]
    omega
theorem zSY_uniq {Y Z v : Int} (h1 : zSY Y ≤ v) (h2 : v < zSY (Y + 1)) (h3 : zSY Z ≤ v) (h4 : v < zSY (Z + 1)) : Y = Z := by
  rcases Int.lt_trichotomy Y Z with h | h | h
  · have : zSY (Y + 1) ≤ zSY Z := by
      rcases Int.lt_or_eq_of_le (show Y + 1 ≤ Z by omega) with q | q
      · exact Int.le_of_lt (zSY_mono q)
      · rw [q]; exact Int.le_refl _
    omega
  · exact h
  · have : zSY (Z + 1) ≤ zSY Y := by
      rcases Int.lt_or_eq_of_le (show Z + 1 ≤ Y by omega) with q | q
      · exact Int.le_of_lt (zSY_mono q)
      · rw [q]; exact Int.le_refl _
    omega
