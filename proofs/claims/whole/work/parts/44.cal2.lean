/-! the calendar of the reference -/
theorem zrem0 (v m : Int32) : v - v / m * m = 0 ↔ v.toInt % m.toInt = 0 := by
  have e1 : (v - v / m * m).toInt = v.toInt.tmod m.toInt := rem_toInt v m
  rw [← Int32.toInt_inj, e1]
  show v.toInt.tmod m.toInt = 0 ↔ _
  rw [← Int.dvd_iff_tmod_eq_zero, ← Int.dvd_iff_emod_eq_zero]
def zbo (b : Bool) : Int32 := cond b 1 0
theorem w_isLeap {N : Nat} {μ : zS} {y : Int32} : m_X9_isLeap N μ y = some (zbo (zlp y.toInt)) := by
  unfold m_X9_isLeap
  have h4 := zrem0 y 4
  have h100 := zrem0 y 100
  have h400 := zrem0 y 400
  have t4 : (4 : Int32).toInt = 4 := by decide
  have t100 : (100 : Int32).toInt = 100 := by decide
  have t400 : (400 : Int32).toInt = 400 := by decide
  rw [t4] at h4
  rw [t100] at h100
  rw [t400] at h400
  by_cases a : y.toInt % 4 = 0
  · rw [if_pos (h4.mpr a)]
    by_cases b : y.toInt % 100 = 0
    · rw [if_pos (h100.mpr b)]
      by_cases c : y.toInt % 400 = 0
      · rw [if_pos (h400.mpr c), show zlp y.toInt = true by simp [zlp, a, b, c]]; rfl
      · rw [if_neg (mt h400.mp c), show zlp y.toInt = false by simp [zlp, a, b, c]]; rfl
    · rw [if_neg (mt h100.mp b), show zlp y.toInt = true by simp [zlp, a, b]]; rfl
  · rw [if_neg (mt h4.mp a), show zlp y.toInt = false by simp [zlp, a]]; rfl
theorem zbo_0 (b : Bool) : zbo b = 0 ↔ b = false := by cases b <;> decide
def zdm (l : Bool) (m : Nat) : Nat := if m = 2 then cond l 29 28 else if m = 4 then 30 else if m = 6 then 30 else if m = 9 then 30 else if m = 11 then 30 else 31
theorem w_daysOf {N : Nat} {μ : zS} {y : Int32} {m : Nat} (hm : m < 2 ^ 31) : m_X9_daysOf N μ y (nI m) = some (nI (zdm (zlp y.toInt) m)) := by
  unfold m_X9_daysOf zdm
  have k2 : nI m = (2 : Int32) ↔ m = 2 := nI_eq (b := 2) hm (by omega)
  have k4 : nI m = (4 : Int32) ↔ m = 4 := nI_eq (b := 4) hm (by omega)
  have k6 : nI m = (6 : Int32) ↔ m = 6 := nI_eq (b := 6) hm (by omega)
  have k9 : nI m = (9 : Int32) ↔ m = 9 := nI_eq (b := 9) hm (by omega)
  have k11 : nI m = (11 : Int32) ↔ m = 11 := nI_eq (b := 11) hm (by omega)
  by_cases h2 : m = 2
  · rw [if_pos (k2.mpr h2), if_pos h2, w_isLeap, Option.bind_some]
    cases zlp y.toInt <;> rfl
  rw [if_neg (mt k2.mp h2), if_neg h2]
  by_cases h4 : m = 4
  · rw [if_pos (k4.mpr h4), if_pos h4]; rfl
  rw [if_neg (mt k4.mp h4), if_neg h4]
  by_cases h6 : m = 6
  · rw [if_pos (k6.mpr h6), if_pos h6]; rfl
  rw [if_neg (mt k6.mp h6), if_neg h6]
  by_cases h9 : m = 9
  · rw [if_pos (k9.mpr h9), if_pos h9]; rfl
  rw [if_neg (mt k9.mp h9), if_neg h9]
  by_cases h11 : m = 11
  · rw [if_pos (k11.mpr h11), if_pos h11]; rfl
  rw [if_neg (mt k11.mp h11), if_neg h11]
  rfl
-- months, over plain numbers
def zmr : Nat → Bool → Nat → Nat → Nat → Option (Nat × Nat)
  | 0, _, _, _, _ => none
  | k + 1, l, s, m, q => if s < zdm l m then some (s, q) else zmr k l (s - zdm l m) (m + 1) (if m % 3 = 0 then 0 else q + zdm l m)
def zmst (l : Bool) (i : Nat) : Nat := ([0, 31, 59, 90, 120, 151, 181, 212, 243, 273, 304, 334] : List Nat).getD i 0 + (if l = true ∧ 1 < i then 1 else 0)
def zps (l : Bool) (k x : Nat) : Nat := (List.range 12).foldl (fun s i => if zmst l i ≤ x ∧ i % k = 0 then zmst l i else s) 0
set_option maxRecDepth 100000 in
theorem zmr_f : ∀ x, x < 365 → zmr 13 false x 1 0 = some (x - zps false 1 x, zps false 1 x - zps false 3 x) ∧ zps false 3 x ≤ zps false 1 x ∧ zps false 1 x ≤ x := by decide +kernel
set_option maxRecDepth 100000 in
theorem zmr_t : ∀ x, x < 366 → zmr 13 true x 1 0 = some (x - zps true 1 x, zps true 1 x - zps true 3 x) ∧ zps true 3 x ≤ zps true 1 x ∧ zps true 1 x ≤ x := by decide +kernel
theorem zmr_ok (l : Bool) {x : Nat} (hx : x < zyl l) : zmr 13 l x 1 0 = some (x - zps l 1 x, zps l 1 x - zps l 3 x) ∧ zps l 3 x ≤ zps l 1 x ∧ zps l 1 x ≤ x := by
  cases l
  · exact zmr_f x hx
  · exact zmr_t x hx
theorem zdm_b (l : Bool) (m : Nat) : zdm l m ≤ 31 := by
  unfold zdm
  cases l <;> (simp only [cond]; repeat' split) <;> omega
theorem w_months {N : Nat} {μ : zS} {v how left y : Int32} : ∀ (k : Nat) (s m q : Nat) (r : Nat × Nat), zmr k (zlp y.toInt) s m q = some r → s + q ≤ 400 → m + k ≤ 100 → ∀ N', k ≤ N' →
    ziter (fun q : Int32 × Int32 × Int32 => m_X9_behind_L89 N μ v how left y q.1 q.2.1 q.2.2) N' (nI s, nI m, nI q) = some (nI r.1, nI r.2) := by
  intro k
  induction k with
  | zero => intro s m q r h; cases h
  | succ k ih =>
    intro s m q r h hs hm N' hN
    cases N' with
    | zero => omega
    | succ N' =>
      have hd := zdm_b (zlp y.toInt) m
      unfold ziter
      show ((m_X9_behind_L89 N μ v how left y (nI s) (nI m) (nI q)).bind _) = _
      unfold m_X9_behind_L89
      rw [w_daysOf (by omega), Option.bind_some]
      unfold zmr at h
      by_cases hc : s < zdm (zlp y.toInt) m
      · rw [if_pos hc] at h
        cases h
        rw [if_pos (nI_lt hc (by omega))]
        rfl
      · rw [if_neg hc] at h
        rw [if_neg (nI_nlt (by omega) (by omega)), Option.bind_some, Option.bind_some, pk_sub (by omega), nI_add]
        have e3 : nI m - nI m / 3 * 3 = nI (m % 3) := pk_rem (d := 3) (by omega) (by omega) (by omega)
        by_cases h3 : m % 3 = 0
        · rw [if_pos h3] at h
          rw [if_pos (by rw [e3, h3]; rfl)]
          unfold m_X9_behind_135_in89
          rw [nI_1, Option.bind_some]
          exact ih _ _ 0 r h (by omega) (by omega) N' (by omega)
        · rw [if_neg h3] at h
          rw [if_neg (by rw [e3]; exact nI_ne0 (by omega) (by omega))]
          unfold m_X9_behind_135_in89
          rw [nI_1, Option.bind_some]
          exact ih _ _ _ r h (by omega) (by omega) N' (by omega)
def zbh (l : Bool) (x how : Nat) : Nat := if how = 2 then x - zps l 1 x else if how = 3 then x - zps l 3 x else x
theorem zi_small {x : Int32} {a : Int} (h : x.toInt = a) (h0 : 0 ≤ a) : x = nI a.toNat := by
  apply Int32.toInt_inj.mp
  have := Int32.toInt_lt x
  rw [nI_toInt (by omega), h]
  omega
set_option maxHeartbeats 1000000 in
theorem w_behind {N : Nat} {μ : zS} {v : Int32} {how : Nat} (hN : 3000 < N) (hh : how < 5) (h1 : -1000000 ≤ v.toInt) (h2 : v.toInt ≤ 1000000) :
    ∃ (Y : Int) (x : Nat), zSY Y + x = v.toInt + 719528 ∧ x < zyl (zlp Y) ∧ m_X9_behind N μ v (nI how) = some (nI (zbh (zlp Y) x how)) := by
  have c70 : (1970 : Int32).toInt = 1970 := by decide
  have s70 : zSY 1970 = 719528 := by decide
  -- back to a year that begins before the day
  have L1 : zok (ziter (fun q : Int32 × Int32 => m_X9_behind_L6 N μ v (nI how) q.1 q.2) N (v, (1970 : Int32))) (fun r => zSY r.2.toInt + r.1.toInt = v.toInt + 719528 ∧ 0 ≤ r.1.toInt ∧ r.1.toInt ≤ 1000000 ∧ -4000 ≤ r.2.toInt ∧ r.2.toInt ≤ 1970) := by
    refine zok_iter (fun s => zSY s.2.toInt + s.1.toInt = v.toInt + 719528 ∧ -1000000 ≤ s.1.toInt ∧ s.1.toInt ≤ 1000000 ∧ s.2.toInt ≤ 1970 ∧ (1970 - s.2.toInt) * 365 ≤ s.1.toInt + 1000000 + 366) (fun s => ((-s.1.toInt).toNat + 364) / 365) ?_ N _ ⟨by show zSY (1970 : Int32).toInt + v.toInt = _; rw [c70, s70]; omega, h1, h2, by show (1970 : Int32).toInt ≤ _; rw [c70]; omega, by show (1970 - (1970 : Int32).toInt) * 365 ≤ _; rw [c70]; show _ ≤ v.toInt + 1000000 + 366; omega⟩ (by show ((-v.toInt).toNat + 364) / 365 < N; omega)
    rintro ⟨a, y⟩ ⟨i1, i2, i3, i4, i5⟩
    dsimp only at i1 i2 i3 i4 i5
    show zok (m_X9_behind_L6 N μ v (nI how) a y) _
    unfold m_X9_behind_L6
    refine zok_ite (fun hc => ?_) (fun hc => ?_)
    · have hc := Jvm.Kit.i32_nonneg.mp hc
      exact zok_some ⟨i1, hc, i3, by show -4000 ≤ y.toInt; omega, i4⟩
    · have hc : ¬ 0 ≤ a.toInt := mt Jvm.Kit.i32_nonneg.mpr hc
      have m1 : (-1 : Int32).toInt = -1 := by decide
      have ey : (y + -1).toInt = y.toInt - 1 := by rw [Jvm.Kit.i32_add (by rw [m1]; omega) (by rw [m1]; omega), m1]; omega
      have st := zSY_step (y.toInt - 1)
      rw [show y.toInt - 1 + 1 = y.toInt by omega] at st
      rw [w_isLeap, Option.bind_some, ey]
      have d1 : (365 : Int32).toInt = 365 := by decide
      have d2 : (366 : Int32).toInt = 366 := by decide
      cases hl : zlp (y.toInt - 1)
      · rw [if_pos (show zbo false = 0 from rfl)]
        have ea : (a + 365).toInt = a.toInt + 365 := by rw [Jvm.Kit.i32_add (by rw [d1]; omega) (by rw [d1]; omega), d1]
        rw [hl] at st
        have st' : zSY y.toInt = zSY (y.toInt - 1) + 365 := st
        unfold m_X9_behind_30_in6
        refine zok_some ⟨⟨?_, ?_, ?_, ?_, ?_⟩, ?_⟩
        · show zSY (y + -1).toInt + (a + 365).toInt = _; rw [ey, ea]; omega
        · show _ ≤ (a + 365).toInt; omega
        · show (a + 365).toInt ≤ _; omega
        · show (y + -1).toInt ≤ _; omega
        · show (1970 - (y + -1).toInt) * 365 ≤ (a + 365).toInt + _ + _; rw [ey, ea]; omega
        · show ((-(a + 365).toInt).toNat + 364) / 365 < ((-a.toInt).toNat + 364) / 365; rw [ea]; omega
      · rw [if_neg (by decide)]
        have ea : (a + 366).toInt = a.toInt + 366 := by rw [Jvm.Kit.i32_add (by rw [d2]; omega) (by rw [d2]; omega), d2]
        rw [hl] at st
        have st' : zSY y.toInt = zSY (y.toInt - 1) + 366 := st
        unfold m_X9_behind_30_in6
        refine zok_some ⟨⟨?_, ?_, ?_, ?_, ?_⟩, ?_⟩
        · show zSY (y + -1).toInt + (a + 366).toInt = _; rw [ey, ea]; omega
        · show _ ≤ (a + 366).toInt; omega
        · show (a + 366).toInt ≤ _; omega
        · show (y + -1).toInt ≤ _; omega
        · show (1970 - (y + -1).toInt) * 365 ≤ (a + 366).toInt + _ + _; rw [ey, ea]; omega
        · show ((-(a + 366).toInt).toNat + 364) / 365 < ((-a.toInt).toNat + 364) / 365; rw [ea]; omega
  obtain ⟨⟨a1, y1⟩, e1, p1, p2, p3, p4, p5⟩ := L1
  dsimp only at p1 p2 p3 p4 p5
  have L2 : zok (ziter (fun q : Int32 × Int32 => m_X9_behind_L35 N μ v (nI how) q.1 q.2) N (a1, y1)) (fun r => zSY r.2.toInt + r.1.toInt = v.toInt + 719528 ∧ 0 ≤ r.1.toInt ∧ r.1.toInt < zyl (zlp r.2.toInt)) := by
    refine zok_iter (fun s => zSY s.2.toInt + s.1.toInt = v.toInt + 719528 ∧ 0 ≤ s.1.toInt ∧ s.1.toInt ≤ 1000000 ∧ -4000 ≤ s.2.toInt ∧ s.2.toInt ≤ 1970 + 3000 - s.1.toInt / 365) (fun s => s.1.toInt.toNat / 365) ?_ N _ ⟨p1, p2, p3, p4, by show y1.toInt ≤ 1970 + 3000 - a1.toInt / 365; omega⟩ (by show a1.toInt.toNat / 365 < N; omega)
    rintro ⟨a, y⟩ ⟨i1, i2, i3, i4, i5⟩
    dsimp only at i1 i2 i3 i4 i5
    show zok (m_X9_behind_L35 N μ v (nI how) a y) _
    have d0 : (1 : Int32).toInt = 1 := by decide
    have ey : (y + 1).toInt = y.toInt + 1 := by rw [Jvm.Kit.i32_add (by rw [d0]; omega) (by rw [d0]; omega), d0]
    have st := zSY_step y.toInt
    have d1 : (365 : Int32).toInt = 365 := by decide
    have d2 : (366 : Int32).toInt = 366 := by decide
    unfold m_X9_behind_L35
    rw [w_isLeap, Option.bind_some]
    cases hl : zlp y.toInt
    · rw [if_pos (show zbo false = 0 from rfl)]
      unfold m_X9_behind_52_in35
      rw [hl] at st
      have st' : zSY (y.toInt + 1) = zSY y.toInt + 365 := st
      refine zok_ite (fun hc => ?_) (fun hc => ?_)
      · refine zok_some ⟨i1, i2, ?_⟩
        rw [Int32.lt_iff_toInt_lt, d1] at hc
        show a.toInt < ((zyl (zlp y.toInt) : Nat) : Int)
        rw [hl]
        exact hc
      · rw [Int32.lt_iff_toInt_lt, d1] at hc
        rw [w_isLeap, Option.bind_some, hl, if_pos (show zbo false = 0 from rfl)]
        have ea : (a - 365).toInt = a.toInt - 365 := by rw [Jvm.Kit.i32_sub (by rw [d1]; omega) (by rw [d1]; omega), d1]
        unfold m_X9_behind_72_in35
        refine zok_some ⟨⟨?_, ?_, ?_, ?_, ?_⟩, ?_⟩
        · show zSY (y + 1).toInt + (a - 365).toInt = _; rw [ey, ea]; omega
        · show _ ≤ (a - 365).toInt; omega
        · show (a - 365).toInt ≤ _; omega
        · show _ ≤ (y + 1).toInt; omega
        · show (y + 1).toInt ≤ 1970 + 3000 - (a - 365).toInt / 365; rw [ey, ea]; omega
        · show (a - 365).toInt.toNat / 365 < a.toInt.toNat / 365; rw [ea]; omega
    · rw [if_neg (by decide)]
      unfold m_X9_behind_52_in35
      rw [hl] at st
      have st' : zSY (y.toInt + 1) = zSY y.toInt + 366 := st
      refine zok_ite (fun hc => ?_) (fun hc => ?_)
      · refine zok_some ⟨i1, i2, ?_⟩
        rw [Int32.lt_iff_toInt_lt, d2] at hc
        show a.toInt < ((zyl (zlp y.toInt) : Nat) : Int)
        rw [hl]
        exact hc
      · rw [Int32.lt_iff_toInt_lt, d2] at hc
        rw [w_isLeap, Option.bind_some, hl, if_neg (by decide)]
        have ea : (a - 366).toInt = a.toInt - 366 := by rw [Jvm.Kit.i32_sub (by rw [d2]; omega) (by rw [d2]; omega), d2]
        unfold m_X9_behind_72_in35
        refine zok_some ⟨⟨?_, ?_, ?_, ?_, ?_⟩, ?_⟩
        · show zSY (y + 1).toInt + (a - 366).toInt = _; rw [ey, ea]; omega
        · show _ ≤ (a - 366).toInt; omega
        · show (a - 366).toInt ≤ _; omega
        · show _ ≤ (y + 1).toInt; omega
        · show (y + 1).toInt ≤ 1970 + 3000 - (a - 366).toInt / 365; rw [ey, ea]; omega
        · show (a - 366).toInt.toNat / 365 < a.toInt.toNat / 365; rw [ea]; omega
  obtain ⟨⟨a2, y2⟩, e2, r1, r2, r3⟩ := L2
  dsimp only at r1 r2 r3
  have hyl := zyl_b (zlp y2.toInt)
  refine ⟨y2.toInt, a2.toInt.toNat, by omega, by omega, ?_⟩
  have ea2 : a2 = nI a2.toInt.toNat := zi_small rfl r2
  have hx : a2.toInt.toNat < zyl (zlp y2.toInt) := by omega
  generalize a2.toInt.toNat = x at *
  obtain ⟨k1, k2, k3⟩ := zmr_ok (zlp y2.toInt) hx
  unfold m_X9_behind
  rw [e1, Option.bind_some, e2, Option.bind_some]
  unfold m_X9_behind_80
  have := w_months (N := N) (μ := μ) (v := v) (how := nI how) (left := a2) (y := y2) 13 x 1 0 _ k1 (by omega) (by omega) N (by omega)
  show (ziter _ N (a2, (1 : Int32), (0 : Int32))).bind _ = _
  rw [ea2] at this ⊢
  have this2 : ziter (fun q : Int32 × Int32 × Int32 => m_X9_behind_L89 N μ v (nI how) (nI x) y2 q.1 q.2.1 q.2.2) N (nI x, (1 : Int32), (0 : Int32)) = some (nI (x - zps (zlp y2.toInt) 1 x), nI (zps (zlp y2.toInt) 1 x - zps (zlp y2.toInt) 3 x)) := this
  rw [this2, Option.bind_some]
  unfold m_X9_behind_143 zbh
  have q2 : nI how = (2 : Int32) ↔ how = 2 := nI_eq (b := 2) (by omega) (by omega)
  have q3 : nI how = (3 : Int32) ↔ how = 3 := nI_eq (b := 3) (by omega) (by omega)
  by_cases h2' : how = 2
  · rw [if_pos h2', if_pos (q2.mpr h2')]
  · rw [if_neg h2', if_neg (mt q2.mp h2')]
    by_cases h3' : how = 3
    · rw [if_pos h3', if_pos (q3.mpr h3')]
      show some (nI _ + nI _) = _
      rw [nI_add]
      congr 2
      omega
    · rw [if_neg h3', if_neg (mt q3.mp h3')]
