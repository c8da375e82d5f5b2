/-! the class: pairs of key and object -/
def zpr (key : Int32) (o : Nat) : Int64 := (key.toInt64 <<< ((7 : Int32).toInt64 &&& 63)) + (nI o).toInt64
theorem zshl7 (x : Int64) : x <<< ((7 : Int32).toInt64 &&& 63) = x * 128 := by
  apply Int64.toBitVec_inj.mp
  rw [Int64.toBitVec_shiftLeft, Int64.toBitVec_mul]
  have e1 : (((7 : Int32).toInt64 &&& 63).toBitVec.smod 64) = 7#64 := by decide
  have e2 : (128 : Int64).toBitVec = 128#64 := rfl
  rw [e1, e2]
  apply BitVec.eq_of_toNat_eq
  rw [BitVec.toNat_mul, BitVec.shiftLeft_eq', BitVec.toNat_shiftLeft, Nat.shiftLeft_eq]
  rfl
theorem zpr_toInt {key : Int32} {o : Nat} (ho : o < 128) : (zpr key o).toInt = key.toInt * 128 + o := by
  unfold zpr
  have h1 := Int32.toInt_lt key
  have h2 := Int32.le_toInt key
  have e1 : (key.toInt64 * 128).toInt = key.toInt * 128 := by
    rw [Int64.toInt_mul, Int32.toInt_toInt64]
    have : (128 : Int64).toInt = 128 := by decide
    rw [this, Int.bmod_eq_of_le (by omega) (by omega)]
  have e2 : ((nI o).toInt64).toInt = o := by rw [Int32.toInt_toInt64, nI_toInt (by omega)]
  rw [zshl7, Int64.toInt_add, e1, e2, Int.bmod_eq_of_le (by omega) (by omega)]
theorem zpr_inj {k1 k2 : Int32} {o1 o2 : Nat} (h1 : o1 < 128) (h2 : o2 < 128) (h : zpr k1 o1 = zpr k2 o2) : k1 = k2 ∧ o1 = o2 := by
  have := congrArg Int64.toInt h
  rw [zpr_toInt h1, zpr_toInt h2] at this
  have e : k1.toInt = k2.toInt := by omega
  exact ⟨Int32.toInt_inj.mp e, by omega⟩
theorem zpr_key {key : Int32} {o : Nat} (ho : o < 128) : (zpr key o >>> ((7 : Int32).toInt64 &&& 63)).toInt32 = key := by
  apply Int32.toInt_inj.mp
  have e0 : (zpr key o >>> ((7 : Int32).toInt64 &&& 63)).toInt = key.toInt := by
    show ((zpr key o >>> ((7 : Int32).toInt64 &&& 63)).toBitVec).toInt = _
    rw [Int64.toBitVec_shiftRight]
    have e1 : (((7 : Int32).toInt64 &&& 63).toBitVec.smod 64) = 7#64 := by decide
    rw [e1, BitVec.sshiftRight_eq', BitVec.toInt_sshiftRight, Int.shiftRight_eq_div_pow]
    have e3 : (zpr key o).toBitVec.toInt = key.toInt * 128 + o := zpr_toInt ho
    rw [e3]
    show (key.toInt * 128 + o) / ((2 ^ 7 : Nat) : Int) = _
    omega
  have h1 := Int32.toInt_lt key
  have h2 := Int32.le_toInt key
  rw [Int64.toInt_toInt32, e0, Int.bmod_eq_of_le (by omega) (by omega)]
theorem zpr_obj {key : Int32} {o : Nat} (ho : o < 128) : (zpr key o &&& (127 : Int64)).toInt32 = nI o := by
  have e0 : (zpr key o &&& (127 : Int64)).toInt = o := by
    have hn : (zpr key o &&& (127 : Int64)).toBitVec.toNat = o := by
      rw [Int64.toBitVec_and, BitVec.toNat_and]
      have e1 : (127 : Int64).toBitVec.toNat = 2 ^ 7 - 1 := by decide
      rw [e1, Nat.and_two_pow_sub_one_eq_mod]
      have e3 : (zpr key o).toBitVec.toInt = key.toInt * 128 + o := zpr_toInt ho
      rw [BitVec.toInt_eq_toNat_cond] at e3
      have := (zpr key o).toBitVec.isLt
      split at e3 <;> omega
    show (zpr key o &&& (127 : Int64)).toBitVec.toInt = _
    rw [BitVec.toInt_eq_toNat_cond, hn, if_pos (by omega)]
  apply Int32.toInt_inj.mp
  rw [Int64.toInt_toInt32, e0, nI_toInt (by omega), Int.bmod_eq_of_le (by omega) (by omega)]
theorem znd_len : ∀ (l m : List Int32), l.Nodup → (∀ x, x ∈ l → x ∈ m) → l.length ≤ m.length
  | [], _, _, _ => Nat.zero_le _
  | a :: l, m, h, hs => by
    obtain ⟨h1, h2⟩ := List.nodup_cons.mp h
    have ham := hs a List.mem_cons_self
    have := znd_len l (m.erase a) h2 (fun x hx => (List.mem_erase_of_ne (fun e => h1 (by rw [← e]; exact hx))).mpr (hs x (List.mem_cons_of_mem _ hx)))
    rw [List.length_erase_of_mem ham] at this
    have := List.length_pos_of_mem ham
    rw [List.length_cons]
    omega
/-- the pairs of one object -/
def zpl1 (G : zG) (F : zF) (o : Nat) : List Int64 := if zct G F o = true then (if (zks G F o).isEmpty = true then (if zAk F = true then [zpr 2000000000 o] else []) else (zdd [] (zks G F o)).map (fun key => zpr key o)) else []
def zpls (G : zG) (F : zF) (m : Nat) : List Int64 := (List.range m).flatMap (zpl1 G F)
theorem zdd_emp (L : List Int32) : (zdd [] L).length = 0 ↔ L.isEmpty = true := by
  constructor
  · intro h
    cases L with
    | nil => rfl
    | cons a L =>
      have : a ∈ zdd [] (a :: L) := zdd_mem.mpr (Or.inr List.mem_cons_self)
      rw [List.length_eq_zero_iff.mp h] at this
      cases this
  · intro h
    rw [List.isEmpty_iff.mp h]
    rfl
theorem zdd_9 {G : zG} {F : zF} (hG : zVG G) (hF : zVF F) (o : Nat) : (zdd [] (zks G F o)).length ≤ 9 := by
  by_cases h2 : zKd F = 2
  · have := znd_len (zdd [] (zks G F o)) ((List.range (zRl F).length).map nI) (zdd_nd List.nodup_nil) (fun x hx => by
      rcases zdd_mem.mp hx with h | h
      · cases h
      · obtain ⟨r, hr, e⟩ := zks_rng h2 h
        exact List.mem_map.mpr ⟨r, List.mem_range.mpr hr, e.symm⟩)
    rw [List.length_map, List.length_range] at this
    have := hF.2.2.1
    omega
  · have h1 := zdd_len (K := []) (L := zks G F o)
    have h3 := zks_le9 hG h2 o
    have h4 : ([] : List Int32).length = 0 := rfl
    omega
theorem zpl1_len {G : zG} {F : zF} (hG : zVG G) (hF : zVF F) (o : Nat) : (zpl1 G F o).length ≤ 9 := by
  unfold zpl1
  split
  · split
    · split
      · show 1 ≤ 9; omega
      · show 0 ≤ 9; omega
    · rw [List.length_map]; exact zdd_9 hG hF o
  · show 0 ≤ 9; omega
theorem zpls_s (G : zG) (F : zF) (m : Nat) : zpls G F (m + 1) = zpls G F m ++ zpl1 G F m := by
  unfold zpls
  rw [List.range_succ, List.flatMap_append, List.flatMap_cons, List.flatMap_nil, List.append_nil]
theorem zpls_len {G : zG} {F : zF} (hG : zVG G) (hF : zVF F) : ∀ m, (zpls G F m).length ≤ 9 * m
  | 0 => Nat.le_refl _
  | m + 1 => by
    rw [zpls_s, List.length_append]
    have := zpls_len hG hF m
    have := zpl1_len hG hF m
    omega
def zpreL (f : Nat → Int64) (L : List Int64) : Prop := ∀ i x, L[i]? = some x → f i = x
theorem zpreL.snoc {f : Nat → Int64} {L : List Int64} {x : Int64} (h : zpreL f L) : zpreL (vp_updL f L.length x) (L ++ [x]) := by
  intro i y hy
  by_cases hi : i < L.length
  · rw [List.getElem?_append_left hi] at hy
    rw [vp_updL_ne _ _ (by omega)]
    exact h i y hy
  · rw [List.getElem?_append_right (by omega)] at hy
    have h1 : i - L.length < 1 := (List.getElem?_eq_some_iff.mp hy).1
    have h2 : i = L.length := by omega
    subst h2
    rw [Nat.sub_self] at hy
    cases hy
    exact vp_updL_at _ _ _
/-- the pairs so far -/
def zps_ (σ : zS) (L : List Int64) (s : zS) : Prop := zpx σ s ∧ s.1 6 = nI L.length ∧ zpreL (s.2.2 1) L
theorem w_addPair {N : Nat} {σ s : zS} {L : List Int64} {key : Int32} {o : Nat} (h : zps_ σ L s) (hl : L.length < 1080) : zok (m_X2_addPair N s key (nI o)) (fun s' => zps_ σ (L ++ [zpr key o]) s' ∧ s'.1 4 = s.1 4 ∧ s'.2.1 4 = s.2.1 4) := by
  obtain ⟨h1, h2, h3⟩ := h
  unfold m_X2_addPair
  rw [h2, if_neg (show ¬ (1080 : Int32) ≤ nI L.length from nI_ge (b := 1080) hl (by omega)), zwL_nI hl (by omega), Option.bind_some, Option.bind_some]
  refine zok_some ⟨⟨(h1.trans zpx.sL).trans (zpx.sI (by omega)), ?_, ?_⟩, rfl, rfl⟩
  · refine (zsI_at _ 6 _).trans ?_
    show s.1 6 + 1 = _
    rw [h2, nI_1, List.length_append]
    rfl
  · show zpreL ((zsL s 1 _).2.2 1) _
    rw [zsL_at s 1]
    exact h3.snoc
theorem w_gatherL {N : Nat} {σ s0 : zS} {k : Nat} {G : zG} {F : zF} (hL : zLX σ k G F) (hG : zVG G) (hF : zVF F) (hN : 3000 < N) (h0 : zps_ σ [] s0) :
    zok (ziter (fun q : zS × Int32 => m_X2_gather_L8 N k q.1 q.2) N (s0, (0 : Int32))) (zps_ σ (zpls G F G.1)) := by
  have hn := hG.1
  refine zok_for G.1 (fun o q => ∃ s, q = (s, nI o) ∧ zps_ σ (zpls G F o) s) ?_ ?_ _ N 0 _ (Nat.zero_add _) ⟨s0, rfl, h0⟩ (by omega)
  · rintro o q ho ⟨s, rfl, hs⟩
    show zok (m_X2_gather_L8 N k s (nI o)) _
    have hLs := hL.moved hs.1
    have hpl := zpls_len hG hF o
    obtain ⟨a1, a2, a3, a4, a5, a6, a7, a8, a9, a10, a11, a12, a13, a14, a15, a16⟩ := id hLs
    unfold m_X2_gather_L8
    rw [a2, if_neg (nI_ge ho (by omega)), a5 N o (by omega), Option.bind_some]
    have fin : ∀ s', zps_ σ (zpls G F (o + 1)) s' → zok (m_X2_gather_109_in8 N k s' (nI o)) (Sum.elim (fun q => ∃ s, q = (s, nI (o + 1)) ∧ zps_ σ (zpls G F (o + 1)) s) (zps_ σ (zpls G F G.1))) := by
      intro s' hs'
      unfold m_X2_gather_109_in8
      rw [nI_1]
      exact zok_some ⟨s', rfl, hs'⟩
    cases hh : G.2.2.2 o
    · rw [if_pos (show zbo false = 0 from rfl)]
      refine fin s ?_
      rw [zpls_s]
      have : zpl1 G F o = [] := by
        unfold zpl1 zct
        rw [hh]
        rfl
      rw [this, List.append_nil]
      exact hs
    · rw [if_neg (show ¬ zbo true = 0 by decide), w_xcounts hLs hG hF (by omega) (by omega) hh, Option.bind_some]
      cases hct : zct G F o
      · rw [if_pos (show zbo false = 0 from rfl)]
        refine fin s ?_
        rw [zpls_s]
        have : zpl1 G F o = [] := by
          unfold zpl1
          rw [hct]
          rfl
        rw [this, List.append_nil]
        exact hs
      · rw [if_neg (show ¬ zbo true = 0 by decide)]
        refine zok_bind (w_collectKeys hLs hG hF (by omega) hN) ?_
        intro s2 g2
        have hp2 := g2.px
        obtain ⟨ky, es2, hky⟩ := g2
        have h9 := zdd_9 hG hF o
        have e4 : s2.1 4 = nI (zdd [] (zks G F o)).length := by rw [es2]; exact zsI_at s 4 _
        have ek : s2.2.1 4 = ky := by rw [es2]; exact zsA_at _ 4 _
        have e26 : s2.1 6 = s.1 6 := by rw [es2]; exact zsI_ne s (k := 4) (j := 6) (nI (zdd [] (zks G F o)).length) (by omega)
        have e2L : s2.2.2 = s.2.2 := by rw [es2]; rfl
        have h6 : zps_ σ (zpls G F o) s2 := ⟨hs.1.trans hp2, e26.trans hs.2.1, by rw [e2L]; exact hs.2.2⟩
        refine zok_bind (P := fun s3 => zps_ σ (zpls G F o ++ (zdd [] (zks G F o)).map (fun key => zpr key o)) s3 ∧ s3.1 4 = nI (zdd [] (zks G F o)).length) ?_ ?_
        · refine zok_for (zdd [] (zks G F o)).length (fun i q => ∃ s3, q = (s3, nI i) ∧ zps_ σ (zpls G F o ++ ((zdd [] (zks G F o)).take i).map (fun key => zpr key o)) s3 ∧ s3.1 4 = nI (zdd [] (zks G F o)).length ∧ s3.2.1 4 = ky) ?_ ?_ _ N 0 _ (Nat.zero_add _) ⟨s2, rfl, (by rw [List.take_zero, List.map_nil, List.append_nil]; exact h6), e4, ek⟩ (by omega)
          · rintro i q hi ⟨s3, rfl, g1, g4, gk⟩
            show zok (m_X2_gather_L50 N k (nI o) s3 (nI i)) _
            have hx : (zdd [] (zks G F o))[i]? = some (zdd [] (zks G F o))[i] := List.getElem?_eq_getElem hi
            generalize (zdd [] (zks G F o))[i] = x at hx
            have hkx := hky i x hx
            rw [Nat.zero_add] at hkx
            unfold m_X2_gather_L50
            rw [g4, if_neg (nI_ge hi (by omega)), zrd_nI (by omega) (by omega), Option.bind_some, gk, hkx]
            have hlt : (zpls G F o ++ ((zdd [] (zks G F o)).take i).map (fun key => zpr key o)).length < 1080 := by
              rw [List.length_append, List.length_map, List.length_take]
              omega
            refine zok_bind (w_addPair g1 hlt) ?_
            rintro s4 ⟨j1, j4, jk⟩
            rw [nI_1]
            refine zok_some ⟨s4, rfl, ?_, j4.trans g4, jk.trans gk⟩
            rw [ztake hx, List.map_append, ← List.append_assoc]
            exact j1
          · rintro q ⟨s3, rfl, g1, g4, gk⟩
            show zok (m_X2_gather_L50 N k (nI o) s3 (nI _)) _
            unfold m_X2_gather_L50
            rw [g4, if_pos (Int32.le_refl _)]
            rw [List.take_of_length_le (Nat.le_refl _)] at g1
            exact zok_some ⟨g1, g4⟩
        · rintro s3 ⟨g1, g4⟩
          unfold m_X2_gather_84_in8
          have e16 : s3.1 (16 + 12 * k) = zbo (zAk F) := (hL.moved g1.1).2.2.2.2.2.2.2.2.2.2.2.2.2.1
          rw [g4, e16]
          cases hemp : (zks G F o).isEmpty
          · have hne : ¬ (zdd [] (zks G F o)).length = 0 := fun q => by rw [(zdd_emp _).mp q] at hemp; cases hemp
            rw [if_neg (nI_ne0 (by omega) (by omega))]
            refine fin s3 ?_
            rw [zpls_s]
            unfold zpl1
            rw [hct, hemp, if_pos rfl, if_neg (by decide)]
            exact g1
          · have h0 := (zdd_emp _).mpr hemp
            rw [h0, if_pos (show nI 0 = 0 from rfl)]
            have hnil : (zdd [] (zks G F o)).map (fun key => zpr key o) = [] := by rw [List.length_eq_zero_iff.mp h0]; rfl
            rw [hnil, List.append_nil] at g1
            cases hak : zAk F
            · rw [if_pos (show zbo false = 0 from rfl)]
              refine fin s3 ?_
              rw [zpls_s]
              unfold zpl1
              rw [hct, hemp, hak, if_pos rfl, if_pos rfl, if_neg (by decide), List.append_nil]
              exact g1
            · rw [if_neg (show ¬ zbo true = 0 by decide)]
              refine zok_bind (w_addPair g1 (by omega)) ?_
              rintro s4 ⟨j1, -, -⟩
              refine fin s4 ?_
              rw [zpls_s]
              unfold zpl1
              rw [hct, hemp, hak, if_pos rfl, if_pos rfl, if_pos rfl]
              exact j1
  · rintro q ⟨s, rfl, hs⟩
    show zok (m_X2_gather_L8 N k s (nI G.1)) _
    unfold m_X2_gather_L8
    have e2 := (hL.moved hs.1).2.1
    rw [e2, if_pos (Int32.le_refl _)]
    exact zok_some hs
