/-! the class: ranks -/
def zrk (G : zG) (F : zF) (g : Nat) (key : Int32) : Int64 := (nI g).toInt64 - (zwt G F key <<< ((11 : Int32).toInt64 &&& 63))
theorem zshl11 (x : Int64) : x <<< ((11 : Int32).toInt64 &&& 63) = x * 2048 := by
  apply Int64.toBitVec_inj.mp
  rw [Int64.toBitVec_shiftLeft, Int64.toBitVec_mul]
  have e1 : (((11 : Int32).toInt64 &&& 63).toBitVec.smod 64) = 11#64 := by decide
  have e2 : (2048 : Int64).toBitVec = 2048#64 := rfl
  rw [e1, e2]
  apply BitVec.eq_of_toNat_eq
  rw [BitVec.toNat_mul, BitVec.shiftLeft_eq', BitVec.toNat_shiftLeft, Nat.shiftLeft_eq]
  rfl
theorem zrk_toInt {G : zG} {F : zF} (hG : zVG G) {g : Nat} (hg : g < 2048) (key : Int32) : (zrk G F g key).toInt = g - (zwt G F key).toInt * 2048 := by
  have hb := zwt_b (F := F) hG key
  unfold zrk
  have e1 : (zwt G F key * 2048).toInt = (zwt G F key).toInt * 2048 := by
    rw [Int64.toInt_mul]
    have : (2048 : Int64).toInt = 2048 := by decide
    rw [this, Int.bmod_eq_of_le (by omega) (by omega)]
  have e2 : ((nI g).toInt64).toInt = g := by rw [Int32.toInt_toInt64, nI_toInt (by omega)]
  rw [zshl11, Int64.toInt_sub, e1, e2, Int.bmod_eq_of_le (by omega) (by omega)]
theorem zrk_grp {G : zG} {F : zF} (hG : zVG G) {g : Nat} (hg : g < 2048) (key : Int32) : (zrk G F g key &&& (2047 : Int64)).toInt32 = nI g := by
  have e0 : (zrk G F g key &&& (2047 : Int64)).toInt = g := by
    have hn : (zrk G F g key &&& (2047 : Int64)).toBitVec.toNat = g := by
      rw [Int64.toBitVec_and, BitVec.toNat_and]
      have e1 : (2047 : Int64).toBitVec.toNat = 2 ^ 11 - 1 := by decide
      rw [e1, Nat.and_two_pow_sub_one_eq_mod]
      have e3 : (zrk G F g key).toBitVec.toInt = g - (zwt G F key).toInt * 2048 := zrk_toInt hG hg key
      rw [BitVec.toInt_eq_toNat_cond] at e3
      have := (zrk G F g key).toBitVec.isLt
      split at e3 <;> omega
    show (zrk G F g key &&& (2047 : Int64)).toBitVec.toInt = _
    rw [BitVec.toInt_eq_toNat_cond, hn, if_pos (by omega)]
  apply Int32.toInt_inj.mp
  rw [Int64.toInt_toInt32, e0, nI_toInt (by omega), Int.bmod_eq_of_le (by omega) (by omega)]
theorem zrk_lt {G : zG} {F : zF} (hG : zVG G) (hF : zVF F) {g h : Nat} {a b : Int32} (hg : g < 2048) (hh : h < 2048) (ha : a ≠ 2000000000) (hb : b ≠ 2000000000) (hgh : g < h → a.toInt < b.toInt) (hne : g ≠ h) (hlt : (zrk G F g a).toInt ≤ (zrk G F h b).toInt) : zbf G F a b := by
  rw [zrk_toInt hG hg, zrk_toInt hG hh] at hlt
  have w : ∀ key, key ≠ 2000000000 → (zwt G F key).toInt = if zOr F = 0 then (zsz G F key : Int) else if zOr F = 2 then (zsm G F key).toInt else 0 := by
    intro key hk
    have hl := zob_len (F := F) hG key
    unfold zwt
    by_cases h0 : zOr F = 0
    · rw [if_pos h0, if_pos h0, Int32.toInt_toInt64, nI_toInt (by omega), zob_key hG hF hk]; rfl
    · rw [if_neg h0, if_neg h0, zob_key hG hF hk]
      by_cases h2 : zOr F = 2
      · rw [if_pos h2]; rfl
      · rw [if_neg h2]; unfold zsmL; rw [if_neg h2]; rfl
  rw [w a ha, w b hb] at hlt
  rw [zbf_i]
  generalize zsz G F a = sa at *
  generalize zsz G F b = sb at *
  generalize (zsm G F a).toInt = ma at *
  generalize (zsm G F b).toInt = mb at *
  generalize a.toInt = ka at *
  generalize b.toInt = kb at *
  generalize zOr F = o at *
  clear w
  by_cases h0 : o = 0
  · subst h0
    rw [if_pos rfl, if_pos rfl] at hlt
    split
    · omega
    · split <;> omega
  · rw [if_neg h0, if_neg h0] at hlt
    by_cases h2 : o = 2
    · subst h2
      rw [if_pos rfl, if_pos rfl] at hlt
      split
      · omega
      · split <;> omega
    · rw [if_neg h2, if_neg h2] at hlt
      split
      · omega
      · split <;> omega
/-- the keys of the class's groups that are large enough, the missing's with them -/
def zKL (F : zF) (S : List Int64) (KS : List Int32) : List Int32 := KS.filter (fun key => decide (zLe F ≤ zhi S key - zlo S key))
theorem zgls_KL (F : zF) (S : List Int64) (KS : List Int32) {g : Nat} {key : Int32} (h : (zKL F S KS)[g]? = some key) : (zgls F S KS)[g]? = some (key, zlo S key, zhi S key) := by
  have e : zgls F S KS = (zKL F S KS).map (fun key => (key, zlo S key, zhi S key)) := rfl
  rw [e, List.getElem?_map, h]
  rfl
theorem zgls_len (F : zF) (S : List Int64) (KS : List Int32) : (zgls F S KS).length = (zKL F S KS).length := List.length_map ..
theorem zKL_facts {G : zG} {F : zF} {S : List Int64} {KS : List Int32} (hG : zVG G) (hF : zVF F) (hS : zSo G F S) (h : zKS G F S KS) :
    (zKL F S KS).Pairwise (fun a b => a.toInt < b.toInt) ∧ (∀ key, key ≠ 2000000000 → (key ∈ zKL F S KS ↔ zcd G F key ∧ zLe F ≤ zsz G F key)) ∧ ((2000000000 : Int32) ∈ zKL F S KS ↔ zhm G F = true) ∧ ∀ key, key ∈ zKL F S KS → key.toInt ≤ 2000000000 := by
  have hR := hF.2.2.1
  have hn := hG.1
  have mem : ∀ key, key ∈ zKL F S KS ↔ key ∈ KS ∧ zLe F ≤ (zob G F key).length := by
    intro key
    unfold zKL
    rw [List.mem_filter, decide_eq_true_eq, zrun_len hG hS key, Nat.add_sub_cancel_left]
  have hx : ∀ key, (∃ x, x ∈ S ∧ zpky x = key) ↔ ∃ o, o < G.1 ∧ key ∈ zkl G F o := by
    intro key
    constructor
    · rintro ⟨x, hx, rfl⟩
      obtain ⟨o, ho, hk, -⟩ := zSo_el hG hS hx
      exact ⟨o, ho, hk⟩
    · rintro ⟨o, ho, hk⟩
      exact ⟨zpr key o, (hS.2.1 _).mpr (zpls_mem.mpr ⟨o, key, ho, hk, rfl⟩), zpr_key (by omega)⟩
  have hr : ∀ r, r < (zRl F).length → nI r ≠ (2000000000 : Int32) := by
    intro r hr e
    have := congrArg Int32.toInt e
    rw [nI_toInt (by omega), zMISS] at this
    omega
  refine ⟨List.Pairwise.filter _ h.1, fun key hk => ?_, ?_, fun key hk => ?_⟩
  · rw [mem, h.2.1, hx, zob_key hG hF hk]
    refine and_congr (or_congr Iff.rfl ?_) Iff.rfl
    constructor
    · rintro ⟨o, ho, q⟩
      exact ⟨o, ho, (zkl_mem.mp q).elim id (fun q => absurd q.1 hk)⟩
    · rintro ⟨o, ho, q⟩
      exact ⟨o, ho, zkl_mem.mpr (Or.inl q)⟩
  · rw [mem, h.2.1, hx]
    unfold zhm
    rw [Bool.and_eq_true, decide_eq_true_eq]
    constructor
    · rintro ⟨q | ⟨o, ho, q⟩, q2⟩
      · obtain ⟨r, h1, h2⟩ := q
        exact absurd h2.symm (hr r h1)
      · rcases zkl_mem.mp q with q | ⟨-, q, q3⟩
        · exact absurd q (zin_miss hG hF o)
        · rw [zob_miss hG hF q] at q2
          refine ⟨q, ?_, q2⟩
          refine List.length_pos_of_mem (a := o) ?_
          unfold zmm
          exact List.mem_filter.mpr ⟨List.mem_range.mpr ho, q3⟩
    · rintro ⟨q, q1, q2⟩
      rw [zob_miss hG hF q]
      refine ⟨Or.inr ?_, q2⟩
      obtain ⟨o, ho⟩ := List.exists_mem_of_length_pos q1
      unfold zmm at ho
      obtain ⟨h1, h2⟩ := List.mem_filter.mp ho
      exact ⟨o, List.mem_range.mp h1, zkl_mem.mpr (Or.inr ⟨rfl, q, h2⟩)⟩
  · rcases (h.2.1 key).mp ((mem key).mp hk).1 with ⟨r, h1, rfl⟩ | q
    · rw [nI_toInt (by omega)]; omega
    · obtain ⟨o, ho, q⟩ := (hx key).mp q
      rcases zkl_mem.mp q with q | ⟨q, -⟩
      · unfold zin_ at q
        rw [Bool.and_eq_true, decide_eq_true_eq] at q
        have := zks_b hG hF q.2
        omega
      · rw [q, zMISS]; omega
theorem zKL_last {G : zG} {F : zF} {S : List Int64} {KS : List Int32} (hG : zVG G) (hF : zVF F) (hS : zSo G F S) (h : zKS G F S KS) {g : Nat} {key : Int32} (hk : (zKL F S KS)[g]? = some key) : (g < (zKL F S KS).length - (zhm G F).toNat ↔ key ≠ 2000000000) := by
  obtain ⟨f1, f2, f3, f4⟩ := zKL_facts hG hF hS h
  have hgl := (List.getElem?_eq_some_iff.mp hk).1
  have last : ∀ j, (zKL F S KS)[j]? = some 2000000000 → j + 1 = (zKL F S KS).length := by
    intro j hj
    have hjl := (List.getElem?_eq_some_iff.mp hj).1
    by_cases q : j + 1 < (zKL F S KS).length
    · exfalso
      have h1 := List.pairwise_iff_getElem.mp f1 j (j + 1) hjl q (by omega)
      have h2 := f4 _ (List.getElem_mem q)
      rw [(List.getElem?_eq_some_iff.mp hj).2, zMISS] at h1
      omega
    · omega
  constructor
  · rintro hlt rfl
    have := last g hk
    have hm := f3.mp (List.mem_of_getElem? hk)
    rw [hm] at hlt
    have : true.toNat = 1 := rfl
    omega
  · intro hne
    cases hz : zhm G F
    · have : false.toNat = 0 := rfl
      omega
    · obtain ⟨j, hj⟩ := List.getElem?_of_mem (f3.mpr hz)
      have := last j hj
      have : true.toNat = 1 := rfl
      have : g ≠ j := by
        rintro rfl
        rw [hk] at hj
        exact hne (Option.some.inj hj)
      omega
