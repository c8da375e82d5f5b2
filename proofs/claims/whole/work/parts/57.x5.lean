/-! the class: the objects of a run, its weight -/
def zob (G : zG) (F : zF) (key : Int32) : List Nat := (List.range G.1).filter (fun o => decide (key ∈ zkl G F o))
theorem zob_mem {G : zG} {F : zF} {key : Int32} {o : Nat} : o ∈ zob G F key ↔ o < G.1 ∧ key ∈ zkl G F o := by
  unfold zob
  rw [List.mem_filter, List.mem_range, decide_eq_true_eq]
theorem zob_srt (G : zG) (F : zF) (key : Int32) : (zob G F key).Pairwise (· < ·) := List.Pairwise.filter _ List.pairwise_lt_range
theorem zob_len {G : zG} {F : zF} (hG : zVG G) (key : Int32) : (zob G F key).length ≤ 120 := by
  have := hG.1
  have h2 : (zob G F key).length ≤ (List.range G.1).length := List.length_filter_le _ _
  rw [List.length_range] at h2
  omega
theorem zrun {G : zG} {F : zF} {S : List Int64} (hG : zVG G) (hS : zSo G F S) (key : Int32) : (S.take (zhi S key)).drop (zlo S key) = (zob G F key).map (zpr key) := by
  have hn := hG.1
  refine zuniq (lt := fun (a b : Int64) => a < b) (fun a h => Int64.lt_irrefl h) (fun a b c h1 h2 => Int64.lt_trans h1 h2) ?_ ?_ (fun x => ?_)
  · exact List.Pairwise.sublist ((List.drop_sublist _ _).trans (List.take_sublist _ _)) hS.1
  · refine List.Pairwise.map (zpr key) (R := fun a b => a < b ∧ b < 120) (fun a b q => ?_) ?_
    · apply Int64.lt_iff_toInt_lt.mpr
      rw [zpr_toInt (by omega), zpr_toInt (by omega)]
      omega
    · refine List.Pairwise.imp_of_mem (R := fun a b => a < b) (fun ha hb q => ⟨q, ?_⟩) (zob_srt G F key)
      have := (zob_mem.mp hb).1
      omega
  · constructor
    · intro hx
      obtain ⟨i, hi⟩ := List.getElem?_of_mem hx
      rw [List.getElem?_drop] at hi
      have hlt : zlo S key + i < zhi S key := by
        by_cases q : zlo S key + i < zhi S key
        · exact q
        · rw [List.getElem?_take_eq_none (by omega)] at hi
          cases hi
      rw [List.getElem?_take_of_lt hlt] at hi
      have q1 := (zhi_i hG hS (key := key) hi).mpr hlt
      have q2 := mt (zlo_i hG hS (key := key) hi).mp (by omega)
      have e : zpky x = key := Int32.toInt_inj.mp (by omega)
      obtain ⟨o, ho, hk, ex⟩ := zSo_el hG hS (List.mem_of_getElem? hi)
      rw [e] at hk ex
      exact List.mem_map.mpr ⟨o, zob_mem.mpr ⟨ho, hk⟩, ex.symm⟩
    · intro hx
      obtain ⟨o, ho, rfl⟩ := List.mem_map.mp hx
      obtain ⟨h1, h2⟩ := zob_mem.mp ho
      have hm : zpr key o ∈ S := (hS.2.1 _).mpr (zpls_mem.mpr ⟨o, key, h1, h2, rfl⟩)
      obtain ⟨i, hi⟩ := List.getElem?_of_mem hm
      have e : zpky (zpr key o) = key := zpr_key (by omega)
      have q1 := (zhi_i hG hS (key := key) hi).mp (by rw [e]; exact Int.le_refl _)
      have q2 := mt (zlo_i hG hS (key := key) hi).mpr (by rw [e]; omega)
      refine List.mem_of_getElem? (i := i - zlo S key) ?_
      rw [List.getElem?_drop, show zlo S key + (i - zlo S key) = i by omega, List.getElem?_take_of_lt q1]
      exact hi
theorem zrun_len {G : zG} {F : zF} {S : List Int64} (hG : zVG G) (hS : zSo G F S) (key : Int32) : zhi S key = zlo S key + (zob G F key).length := by
  have := congrArg List.length (zrun hG hS key)
  rw [List.length_drop, List.length_take, List.length_map] at this
  have h2 := zlohi S key
  omega
theorem zrun_at {G : zG} {F : zF} {S : List Int64} (hG : zVG G) (hS : zSo G F S) {key : Int32} {i o : Nat} (h : (zob G F key)[i]? = some o) : S[zlo S key + i]? = some (zpr key o) := by
  have hi := (List.getElem?_eq_some_iff.mp h).1
  have hl := zrun_len hG hS key
  have e := congrArg (fun l => l[i]?) (zrun hG hS key)
  rw [List.getElem?_drop, List.getElem?_take_of_lt (by omega), List.getElem?_map, h] at e
  exact e
theorem zob_key {G : zG} {F : zF} (hG : zVG G) (hF : zVF F) {key : Int32} (hk : key ≠ 2000000000) : zob G F key = zmb G F key G.1 := by
  unfold zob zmb
  refine List.filter_congr (fun o _ => ?_)
  have e : (key ∈ zkl G F o) ↔ zin_ G F key o = true := by
    rw [zkl_mem]
    exact ⟨fun h => h.elim id (fun h => absurd h.1 hk), Or.inl⟩
  by_cases h : zin_ G F key o = true
  · rw [h, decide_eq_true (e.mpr h)]
  · rw [decide_eq_false (mt e.mp h)]
    exact (Bool.eq_false_iff.mpr h).symm
theorem zin_miss {G : zG} {F : zF} (hG : zVG G) (hF : zVF F) (o : Nat) : ¬ zin_ G F 2000000000 o = true := by
  intro h
  unfold zin_ at h
  rw [Bool.and_eq_true, decide_eq_true_eq] at h
  have := zks_b hG hF h.2
  rw [zMISS] at this
  omega
theorem zob_miss {G : zG} {F : zF} (hG : zVG G) (hF : zVF F) (hk : zAk F = true) : zob G F 2000000000 = zmm G F G.1 := by
  unfold zob zmm
  refine List.filter_congr (fun o _ => ?_)
  have e : ((2000000000 : Int32) ∈ zkl G F o) ↔ zims G F o = true := by
    rw [zkl_mem]
    exact ⟨fun h => h.elim (fun h => absurd h (zin_miss hG hF o)) (fun h => h.2.2), fun h => Or.inr ⟨rfl, hk, h⟩⟩
  by_cases h : zims G F o = true
  · rw [h, decide_eq_true (e.mpr h)]
  · rw [decide_eq_false (mt e.mp h)]
    exact (Bool.eq_false_iff.mpr h).symm
theorem w_xsumOf {N : Nat} {σ : zS} {o c : Nat} {G : zG} (h2 : σ.2.1 2 = G.2.1) (h1 : σ.2.1 1 = G.2.2.1) (hG : zVG G) (ho : o < 120) (hc : c ≤ 5) (hN : 10 < N) : m_X6_sumOf N σ (nI o) (nI c) = some (zvsum G o c) := by
  obtain ⟨k, hk, hcm⟩ := hG.2.1 (6 * o + c)
  have hlen := zvl_len (vs := G.2.2.1) hcm (by omega)
  have main : zok (ziter (fun q : Int64 × Int32 => m_X6_sumOf_L13 N σ (nI o) (nI c) (nI k) q.1 q.2) N ((0 : Int64), (0 : Int32))) (fun r => r = zvsum G o c) := by
    refine zok_for k (fun i s => s = (((zvl G.2.1 G.2.2.1 o c).take i).foldl (fun s v => s + v.toInt64) 0, nI i)) ?_ ?_ k N 0 _ (by omega) (by simp [nI_0]) (by omega)
    · rintro i s hi rfl
      show zok (m_X6_sumOf_L13 N σ (nI o) (nI c) (nI k) _ (nI i)) _
      unfold m_X6_sumOf_L13
      rw [if_neg (nI_ge hi (by omega)), w_valueAt h1 ho hc (by omega), Option.bind_some, nI_1]
      refine zok_some ?_
      show _ = _
      rw [ztake (zvl_get hcm (by omega) hi), List.foldl_append]
      rfl
    · rintro s rfl
      show zok (m_X6_sumOf_L13 N σ (nI o) (nI c) (nI k) _ (nI k)) _
      unfold m_X6_sumOf_L13
      rw [if_pos (Int32.le_refl _)]
      refine zok_some ?_
      show _ = _
      rw [List.take_of_length_le (by omega)]
      rfl
  obtain ⟨r, e, rfl⟩ := main
  unfold m_X6_sumOf m_X6_sumOf_38
  rw [w_valueCount h2 ho hc, Option.bind_some, hcm, e, Option.bind_some]
theorem zfold_b {α : Type} (f : α → Int64) (B : Int) (hf : ∀ a, -B ≤ (f a).toInt ∧ (f a).toInt ≤ B) : ∀ (l : List α) (acc : Int64) (A : Int), -A ≤ acc.toInt → acc.toInt ≤ A → 0 ≤ B → A + B * l.length < 2 ^ 60 → -(A + B * l.length) ≤ (l.foldl (fun s a => s + f a) acc).toInt ∧ (l.foldl (fun s a => s + f a) acc).toInt ≤ A + B * l.length
  | [], acc, A, h1, h2, _, _ => by
    rw [List.length_nil]
    show -(A + B * ((0 : Nat) : Int)) ≤ acc.toInt ∧ acc.toInt ≤ A + B * ((0 : Nat) : Int)
    have : B * ((0 : Nat) : Int) = 0 := Int.mul_zero B
    omega
  | a :: l, acc, A, h1, h2, hB, h3 => by
    have e : B * ((a :: l).length : Int) = B * (l.length : Int) + B := by
      rw [List.length_cons, Int.natCast_succ, Int.mul_add, Int.mul_one]
    have hp : 0 ≤ B * (l.length : Int) := Int.mul_nonneg hB (Int.natCast_nonneg _)
    have hfa := hf a
    have e2 : (acc + f a).toInt = acc.toInt + (f a).toInt := by
      rw [Int64.toInt_add, Int.bmod_eq_of_le (by omega) (by omega)]
    have := zfold_b f B hf l (acc + f a) (A + B) (by omega) (by omega) hB (by omega)
    rw [e]
    rw [List.foldl_cons]
    omega
theorem zvsum_b {G : zG} (hG : zVG G) (o c : Nat) : -3000000000 ≤ (zvsum G o c).toInt ∧ (zvsum G o c).toInt ≤ 3000000000 := by
  obtain ⟨k, hk, hcm⟩ := hG.2.1 (6 * o + c)
  have hlen := zvl_len (vs := G.2.2.1) hcm (by omega)
  have hmem : ∀ v, v ∈ zvl G.2.1 G.2.2.1 o c → -1000000000 ≤ v.toInt ∧ v.toInt ≤ 1000000000 := by
    intro v hv
    unfold zvl at hv
    obtain ⟨i, -, rfl⟩ := List.mem_map.mp hv
    exact hG.2.2 _
  unfold zvsum
  generalize zvl G.2.1 G.2.2.1 o c = l at hlen hmem
  have e : l.foldl (fun s v => s + v.toInt64) 0 = l.foldl (fun s v => s + (if -1000000000 ≤ v.toInt ∧ v.toInt ≤ 1000000000 then v.toInt64 else 0)) 0 := by
    have gen : ∀ (l : List Int32) (acc : Int64), (∀ v, v ∈ l → -1000000000 ≤ v.toInt ∧ v.toInt ≤ 1000000000) → l.foldl (fun s v => s + v.toInt64) acc = l.foldl (fun s v => s + (if -1000000000 ≤ v.toInt ∧ v.toInt ≤ 1000000000 then v.toInt64 else 0)) acc := by
      intro l
      induction l with
      | nil => intro acc _; rfl
      | cons a l ih =>
        intro acc h
        rw [List.foldl_cons, List.foldl_cons, if_pos (h a List.mem_cons_self)]
        exact ih _ (fun v hv => h v (List.mem_cons_of_mem _ hv))
    exact gen l 0 hmem
  rw [e]
  have z0 : (0 : Int64).toInt = 0 := rfl
  have := zfold_b (fun v : Int32 => if -1000000000 ≤ v.toInt ∧ v.toInt ≤ 1000000000 then v.toInt64 else 0) 1000000000 (fun v => by
    show -1000000000 ≤ (if -1000000000 ≤ v.toInt ∧ v.toInt ≤ 1000000000 then v.toInt64 else 0).toInt ∧ (if -1000000000 ≤ v.toInt ∧ v.toInt ≤ 1000000000 then v.toInt64 else 0).toInt ≤ 1000000000
    by_cases q : -1000000000 ≤ v.toInt ∧ v.toInt ≤ 1000000000
    · rw [if_pos q, Int32.toInt_toInt64]; exact q
    · rw [if_neg q, z0]; omega) l 0 0 (by omega) (by omega) (by omega) (by omega)
  omega
def zwt (G : zG) (F : zF) (key : Int32) : Int64 := if zOr F = 0 then (nI (zob G F key).length).toInt64 else zsmL G F (zob G F key)
theorem zwt_b {G : zG} {F : zF} (hG : zVG G) (key : Int32) : -360000000000 ≤ (zwt G F key).toInt ∧ (zwt G F key).toInt ≤ 360000000000 := by
  have hl := zob_len (F := F) hG key
  unfold zwt
  by_cases h0 : zOr F = 0
  · rw [if_pos h0, Int32.toInt_toInt64, nI_toInt (by omega)]; omega
  · rw [if_neg h0]
    have z0 : (0 : Int64).toInt = 0 := rfl
    unfold zsmL
    by_cases h2 : zOr F = 2
    · rw [if_pos h2]
      have := zfold_b (fun o => zvsum G o (zOc F)) 3000000000 (fun o => zvsum_b hG o _) (zob G F key) 0 0 (by omega) (by omega) (by omega) (by omega)
      omega
    · rw [if_neg h2, z0]; omega
theorem w_pairObject {N : Nat} {s : zS} {S : List Int64} {i o : Nat} {key : Int32} (hp : zpreL (s.2.2 1) S) (hl : S.length ≤ 1080) (hx : S[i]? = some (zpr key o)) (ho : o < 128) : m_X2_pairObject N s (nI i) = some (nI o) := by
  have := (List.getElem?_eq_some_iff.mp hx).1
  unfold m_X2_pairObject
  rw [zrd_nI (by omega) (by omega), Option.bind_some, hp i _ hx, zpr_obj ho]
theorem w_weight {N : Nat} {σ s : zS} {k : Nat} {G : zG} {F : zF} {S : List Int64} {GL : List (Int32 × Nat × Nat)} {g : Nat} {key : Int32} (hL : zLX σ k G F) (hG : zVG G) (hF : zVF F) (hS : zSo G F S) (hN : 3000 < N) (h : zct_ σ S GL s) (hg : GL[g]? = some (key, zlo S key, zhi S key)) (hgl : g < 1080) :
    m_X2_weight N s k (nI g) = some (zwt G F key) := by
  have hn := hG.1
  obtain ⟨a1, a2, a3, a4, a5, a6, a7, a8, a9, a10, a11, a12, a13, a14, a15, a16⟩ := id (hL.moved h.1.1)
  obtain ⟨-, e6, e7⟩ := h.2.2 g _ hg
  dsimp only at e6 e7
  have hl := zob_len (F := F) hG key
  have hr := zrun_len hG hS key
  have hor := hF.2.2.2.2.2.1
  have hll := zlohi S key
  have hSl := hS.2.2
  have k0 : nI (zOr F) = (0 : Int32) ↔ zOr F = 0 := nI_eq (b := 0) (by omega) (by omega)
  have k2 : nI (zOr F) = (2 : Int32) ↔ zOr F = 2 := nI_eq (b := 2) (by omega) (by omega)
  unfold m_X2_weight zwt
  rw [a15]
  by_cases h0 : zOr F = 0
  · rw [if_pos (k0.mpr h0), if_pos h0, zrd_nI hgl (by omega), Option.bind_some, zrd_nI hgl (by omega), Option.bind_some, e6, e7, pk_sub hll.1, hr, Nat.add_sub_cancel_left]
  · rw [if_neg (mt k0.mp h0), if_neg h0]
    unfold zsmL
    by_cases h2 : zOr F = 2
    · rw [if_pos (k2.mpr h2), if_pos h2, zrd_nI hgl (by omega), Option.bind_some, e6]
      have main : zok (ziter (fun q : Int64 × Int32 => m_X2_weight_L41 N s k (nI g) q.1 q.2) N ((0 : Int64), nI (zlo S key))) (fun r => r = (zob G F key).foldl (fun s o => s + zvsum G o (zOc F)) 0) := by
        refine zok_for (zob G F key).length (fun i q => q = (((zob G F key).take i).foldl (fun s o => s + zvsum G o (zOc F)) 0, nI (zlo S key + i))) ?_ ?_ _ N 0 _ (Nat.zero_add _) rfl (by omega)
        · rintro i q hi rfl
          show zok (m_X2_weight_L41 N s k (nI g) _ (nI (zlo S key + i))) _
          have hx : (zob G F key)[i]? = some (zob G F key)[i] := List.getElem?_eq_getElem hi
          generalize (zob G F key)[i] = o at hx
          have ho := (zob_mem.mp (List.mem_of_getElem? hx)).1
          unfold m_X2_weight_L41
          rw [zrd_nI hgl (by omega), Option.bind_some, e7, if_neg (nI_ge (show zlo S key + i < zhi S key by omega) (by omega)), w_pairObject h.1.2.2 hSl (zrun_at hG hS hx) (by omega), Option.bind_some, a16 h2, w_xsumOf a3 a4 hG (by omega) hF.2.2.2.2.2.2.1 (by omega), Option.bind_some, nI_1]
          refine zok_some ?_
          show _ = _
          rw [ztake hx, List.foldl_append]
          rfl
        · rintro q rfl
          show zok (m_X2_weight_L41 N s k (nI g) _ (nI (zlo S key + (zob G F key).length))) _
          unfold m_X2_weight_L41
          rw [zrd_nI hgl (by omega), Option.bind_some, e7, hr, if_pos (Int32.le_refl _)]
          refine zok_some ?_
          show _ = _
          rw [List.take_of_length_le (Nat.le_refl _)]
      obtain ⟨r, e, rfl⟩ := main
      rw [e, Option.bind_some]
      rfl
    · rw [if_neg (mt k2.mp h2), if_neg h2]
