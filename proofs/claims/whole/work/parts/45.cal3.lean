/-! the calendar of the class -/
theorem w_yearStart {N : Nat} {σ : zS} {y : Nat} (hy : y ≤ 1000) : m_X0_yearStart N σ (nI y) = some (nI (zys y)) := by
  unfold m_X0_yearStart
  have e1 : (365 : Int32) * nI y = nI (365 * y) := pk_mul 365 y
  have e2 : (nI y + 3) / 4 = nI ((y + 3) / 4) := by rw [show (3 : Int32) = nI 3 from rfl, nI_add]; exact pk_div (d := 4) (by omega) (by omega) (by omega)
  have e3 : (nI y + 99) / 100 = nI ((y + 99) / 100) := by rw [show (99 : Int32) = nI 99 from rfl, nI_add]; exact pk_div (d := 100) (by omega) (by omega) (by omega)
  have e4 : (nI y + 399) / 400 = nI ((y + 399) / 400) := by rw [show (399 : Int32) = nI 399 from rfl, nI_add]; exact pk_div (d := 400) (by omega) (by omega) (by omega)
  rw [e1, e2, e3, e4, nI_add, pk_sub (by omega), nI_add]
  unfold zys
  congr 2
  omega
def zpn (l : Bool) (k x m : Nat) : Nat := (List.range m).foldl (fun s i => if zmst l i ≤ x ∧ i % k = 0 then zmst l i else s) 0
theorem zpn_s (l : Bool) (k x m : Nat) : zpn l k x (m + 1) = if zmst l m ≤ x ∧ m % k = 0 then zmst l m else zpn l k x m := by
  unfold zpn
  rw [List.range_succ, List.foldl_append]
  rfl
theorem zmi_f : ∀ m, m < 12 → zmi m + 0 = nI (zmst false m) := by decide +kernel
theorem zmi_t0 : ∀ m, m < 2 → zmi m + 0 = nI (zmst true m) := by decide +kernel
theorem zmi_t1 : ∀ m, m < 12 → 1 < m → zmi m + 1 = nI (zmst true m) := by decide +kernel
theorem zmst_b (l : Bool) (m : Nat) : zmst l m ≤ 335 := by
  have key : ∀ m, m < 12 → ([0, 31, 59, 90, 120, 151, 181, 212, 243, 273, 304, 334] : List Nat).getD m 0 ≤ 334 := by decide
  unfold zmst
  have h : ([0, 31, 59, 90, 120, 151, 181, 212, 243, 273, 304, 334] : List Nat).getD m 0 ≤ 334 := by
    by_cases hm : m < 12
    · exact key m hm
    · rw [List.getD_eq_getElem?_getD, List.getElem?_eq_none (by show 12 ≤ m; omega)]; exact Nat.zero_le _
  split <;> omega
theorem w_partStart {N : Nat} {σ : zS} {x k : Nat} {l : Bool} (hN : 20 < N) (hx : x ≤ 400) (hk : k = 1 ∨ k = 3) : m_X0_partStart N σ (nI x) (zbo l) (nI k) = some (nI (zps l k x)) := by
  have main : zok (ziter (fun q : Int32 × Int32 => m_X0_partStart_L5 N σ (nI x) (zbo l) (nI k) q.1 q.2) N ((0 : Int32), (0 : Int32))) (fun r => r = nI (zps l k x)) := by
    refine zok_for 12 (fun m s => s = (nI (zpn l k x m), nI m)) ?_ ?_ 12 N 0 _ rfl rfl (by omega)
    · rintro m s hm rfl
      show zok (m_X0_partStart_L5 N σ (nI x) (zbo l) (nI k) (nI (zpn l k x m)) (nI m)) _
      have hb := zmst_b l m
      have body : ∀ a b : Int32, a + b = nI (zmst l m) → zok (m_X0_partStart_35_in5 N σ (nI x) (zbo l) (nI k) (nI (zpn l k x m)) (nI m) a b) (Sum.elim (fun s' => s' = (nI (zpn l k x (m + 1)), nI (m + 1))) (fun r => r = nI (zps l k x))) := by
        intro a b hab
        unfold m_X0_partStart_35_in5
        rw [hab, zpn_s]
        unfold m_X0_partStart_54_in5
        rw [nI_1]
        refine zok_ite (fun hc => ?_) (fun hc => ?_)
        · have hc := (nI_ltI (by omega) (by omega)).mp hc
          rw [if_neg (by omega)]
          exact zok_some rfl
        · have hc := mt (nI_ltI (a := x) (b := zmst l m) (by omega) (by omega)).mpr hc
          have hz : zrm (nI m) (nI k) = some (nI (m % k)) := by
            unfold zrm
            rw [if_neg (nI_ne0 (by omega) (by omega)), pk_rem (by omega) (by omega) (by omega)]
          rw [hz, Option.bind_some]
          have hmk : m % k < 12 := Nat.lt_of_le_of_lt (Nat.mod_le _ _) hm
          refine zok_ite (fun h0 => ?_) (fun h0 => ?_)
          · have h0 : m % k = 0 := (nI_eq (b := 0) (by omega) (by omega)).mp h0
            rw [if_pos ⟨by omega, h0⟩]
            exact zok_some rfl
          · have h0 : ¬ m % k = 0 := mt (nI_eq (b := 0) (by omega) (by omega)).mpr h0
            rw [if_neg (fun q => h0 q.2)]
            exact zok_some rfl
      unfold m_X0_partStart_L5
      rw [if_neg (show ¬ (12 : Int32) ≤ nI m from nI_ge (b := 12) hm (by omega)), zrd_nI hm (by omega), Option.bind_some]
      unfold m_X0_partStart_34_in5
      cases l
      · rw [if_pos (show zbo false = 0 from rfl)]
        exact body _ _ (zmi_f m hm)
      · rw [if_neg (show ¬ zbo true = 0 by decide)]
        refine zok_ite (fun hc => ?_) (fun hc => ?_)
        · have hc : m ≤ 1 := (nI_leI (b := 1) (by omega) (by omega)).mp hc
          exact body _ _ (zmi_t0 m (by omega))
        · have hc : ¬ m ≤ 1 := mt (nI_leI (b := 1) (by omega) (by omega)).mpr hc
          exact body _ _ (zmi_t1 m hm (by omega))
    · rintro s rfl
      show zok (m_X0_partStart_L5 N σ (nI x) (zbo l) (nI k) (nI (zpn l k x 12)) (nI 12)) _
      unfold m_X0_partStart_L5
      rw [if_pos (show (12 : Int32) ≤ nI 12 from Int32.le_refl _)]
      exact zok_some rfl
  obtain ⟨r, e, rfl⟩ := main
  unfold m_X0_partStart
  rw [e, Option.bind_some]
  rfl
set_option maxRecDepth 100000 in
theorem zys_lo : ∀ y, y < 400 → y ≤ zys y * 400 / 146097 + 1 := by decide +kernel
set_option maxRecDepth 100000 in
theorem zys_hi : ∀ y, y < 400 → (zys (y + 1) - 1) * 400 / 146097 ≤ y + 1 := by decide +kernel
theorem zys_mono : ∀ y, y < 400 → zys y < zys (y + 1) := fun y hy => by
  have := zys_step y hy
  have := zyl_b (zlpN y)
  omega
theorem zys_find (u : Nat) (hu : u < 146097) : ∃ y, y < 400 ∧ zys y ≤ u ∧ u < zys (y + 1) := by
  have key : ∀ k, k ≤ 400 → u < zys k → ∃ y, y < k ∧ zys y ≤ u ∧ u < zys (y + 1) := by
    intro k
    induction k with
    | zero => intro _ h; exact absurd h (by have : zys 0 = 0 := rfl; omega)
    | succ k ih =>
      intro hk h
      by_cases hc : zys k ≤ u
      · exact ⟨k, by omega, hc, h⟩
      · obtain ⟨y, h1, h2⟩ := ih (by omega) (by omega)
        exact ⟨y, by omega, h2⟩
  have := zys_400
  exact key 400 (Nat.le_refl _) (by omega)
theorem zdivL {a b : Nat} (ha : a < 2 ^ 31) (h0 : 0 < b) (hb : b < 2 ^ 31) : lN a / lN b = lN (a / b) := by
  apply Int64.toInt_inj.mp
  have := Nat.div_le_self a b
  rw [lg_ldiv_nonneg (by rw [lN_toInt ha]; omega) (by rw [lN_toInt hb]; omega), lN_toInt ha, lN_toInt hb, lN_toInt (by omega)]
  exact (Int.natCast_ediv _ _).symm
theorem zsub3 {v : Int32} {x s : Nat} (h : s ≤ x) : v - nI x + nI s = v - nI (x - s) := by
  rw [← pk_sub h]
  grind
set_option maxHeartbeats 1000000 in
theorem w_firstDay {N : Nat} {σ : zS} {v : Int32} {how : Nat} (hN : 3000 < N) (hh : how < 5) (hh2 : 2 ≤ how) (h1 : -1000000 ≤ v.toInt) (h2 : v.toInt ≤ 1000000) :
    ∃ (Y : Int) (x : Nat), zSY Y + x = v.toInt + 719528 ∧ x < zyl (zlp Y) ∧ m_X0_firstDay N σ v (nI how) = some (v - nI (zbh (zlp Y) x how)) := by
  have c0 : (719528 : Int32).toInt = 719528 := by decide
  have c1 : (146097 : Int32).toInt = 146097 := by decide
  have ev : (v + 719528).toInt = v.toInt + 719528 := by rw [Jvm.Kit.i32_add (by rw [c0]; omega) (by rw [c0]; omega), c0]
  have ef : (fmv (v + 719528) 146097).toInt = (v.toInt + 719528) % 146097 := by rw [fmv_emod (by decide), ev, c1]
  have eu : fmv (v + 719528) 146097 = nI ((v.toInt + 719528) % 146097).toNat := zi_small ef (by omega)
  have hu : ((v.toInt + 719528) % 146097).toNat < 146097 := by omega
  have hq : 146097 * ((v.toInt + 719528) / 146097) + ((v.toInt + 719528) % 146097).toNat = v.toInt + 719528 := by omega
  generalize ((v.toInt + 719528) % 146097).toNat = u at *
  generalize (v.toInt + 719528) / 146097 = Qd at *
  obtain ⟨y, hy, y1, y2⟩ := zys_find u hu
  have lo := zys_lo y hy
  have hi := zys_hi y hy
  have hm := zys_mono y hy
  have st := zys_step y hy
  have hyl := zyl_b (zlpN y)
  have g1 : zys y * 400 / 146097 ≤ u * 400 / 146097 := Nat.div_le_div_right (by omega)
  have g2 : u * 400 / 146097 ≤ (zys (y + 1) - 1) * 400 / 146097 := Nat.div_le_div_right (by omega)
  have g3 : u * 400 / 146097 < 400 := by omega
  have eg : (((nI u).toInt64 * (400 : Int64)) / (146097 : Int64)).toInt32 = nI (u * 400 / 146097) := by
    rw [nI_l (by omega), show (400 : Int64) = lN 400 from rfl, lN_mul, show (146097 : Int64) = lN 146097 from rfl, zdivL (by omega) (by omega) (by omega), lN_i]
  obtain ⟨g, hg⟩ : ∃ g, g = u * 400 / 146097 := ⟨_, rfl⟩
  rw [← hg] at g1 g2 g3 eg
  have e40 : (400 * Qd + y) / 400 = Qd := by omega
  have e41 : ((400 * Qd + y) % 400).toNat = y := by omega
  have hl : zlp (400 * Qd + y) = zlpN y := by rw [zlp_N, e41]
  refine ⟨400 * Qd + y, u - zys y, ?_, ?_, ?_⟩
  · unfold zSY
    rw [e40, e41]
    omega
  · rw [hl]
    omega
  · have fin : m_X0_firstDay_71 N σ v (nI how) (nI u) (nI y) = some (v - nI (zbh (zlp (400 * Qd + y)) (u - zys y) how)) := by
      unfold m_X0_firstDay_71
      rw [w_yearStart (by omega), Option.bind_some, pk_sub y1, hl]
      have q4 : nI how = (4 : Int32) ↔ how = 4 := nI_eq (b := 4) (by omega) (by omega)
      have q3 : nI how = (3 : Int32) ↔ how = 3 := nI_eq (b := 3) (by omega) (by omega)
      unfold zbh
      by_cases h4 : how = 4
      · rw [if_pos (q4.mpr h4), if_neg (by omega), if_neg (by omega)]
      · rw [if_neg (mt q4.mp h4), nI_1, w_yearStart (by omega), Option.bind_some, Option.bind_some, pk_sub (by omega)]
        have hx : u - zys y < zyl (zlpN y) := by omega
        have zk := zmr_ok (zlpN y) hx
        have big : m_X0_firstDay_111 N σ v (nI how) (nI (u - zys y)) (zbo (zlpN y)) = some (v - nI (if how = 2 then u - zys y - zps (zlpN y) 1 (u - zys y) else if how = 3 then u - zys y - zps (zlpN y) 3 (u - zys y) else u - zys y)) := by
          unfold m_X0_firstDay_111
          by_cases h3 : how = 3
          · rw [if_pos (q3.mpr h3), show (3 : Int32) = nI 3 from rfl, w_partStart (by omega) (by omega) (Or.inr rfl), Option.bind_some, zsub3 (by omega), if_neg (by omega), if_pos h3]
          · rw [if_neg (mt q3.mp h3), show (1 : Int32) = nI 1 from rfl, w_partStart (by omega) (by omega) (Or.inl rfl), Option.bind_some, zsub3 (by omega), if_pos (by omega)]
        have ed : zys (y + 1) - zys y = zyl (zlpN y) := by omega
        rw [ed]
        cases hb : zlpN y
        · rw [hb] at big
          rw [if_neg (by decide)]
          exact big
        · rw [hb] at big
          rw [if_pos (by decide)]
          exact big
    unfold m_X0_firstDay
    have q0 : ¬ nI how = (0 : Int32) := nI_ne0 (by omega) (by omega)
    have q1 : ¬ nI how = (1 : Int32) := mt (nI_eq (b := 1) (by omega) (by omega)).mp (by omega)
    rw [if_neg q0, if_neg q1, w_floorMod (by decide), Option.bind_some, eu, eg, w_yearStart (by omega), Option.bind_some]
    have mono2 : ∀ a b, a ≤ b → b ≤ 400 → zys a ≤ zys b := by
      intro a b hab hb
      obtain ⟨d, rfl⟩ : ∃ d, b = a + d := ⟨b - a, by omega⟩
      clear hab
      induction d with
      | zero => exact Nat.le_refl _
      | succ d ih =>
        have := ih (by omega)
        have := zys_mono (a + d) (by omega)
        rw [show a + (d + 1) = a + d + 1 by omega]
        omega
    have bnd : ∀ a, a ≤ 401 → zys a < 200000 := by
      intro a ha
      unfold zys
      omega
    have b1 := bnd g (by omega)
    have b2 := bnd (g + 1) (by omega)
    refine (?_ : _ = _)
    by_cases c : zys g ≤ u
    · rw [if_pos (nI_le c (by omega)), nI_1, w_yearStart (by omega), Option.bind_some]
      by_cases c2 : u < zys (g + 1)
      · rw [if_pos (nI_lt c2 (by omega))]
        have : g = y := by
          rcases (show g = y ∨ g + 1 = y ∨ g = y + 1 by omega) with q | q | q
          · exact q
          · rw [q] at c2; omega
          · rw [q] at c; omega
        rw [this]
        exact fin
      · rw [if_neg (nI_nlt (by omega) (by omega))]
        have : g + 1 = y := by
          rcases (show g = y ∨ g + 1 = y ∨ g = y + 1 by omega) with q | q | q
          · rw [q] at c2; omega
          · exact q
          · rw [q] at c; omega
        rw [this]
        exact fin
    · rw [if_neg (nI_ge (by omega) (by omega))]
      have : g = y + 1 := by
        rcases (show g = y ∨ g + 1 = y ∨ g = y + 1 by omega) with q | q | q
        · rw [q] at c; omega
        · have := mono2 g y (by omega) (by omega)
          omega
        · exact q
      rw [this, pk_m1]
      exact fin
