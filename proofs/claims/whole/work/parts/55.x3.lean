/-! the class: the sorted pairs -/
theorem zbv_b {v : Int32} {how : Nat} (hh : how < 5) (hh2 : 2 ≤ how) (h1 : -1000000 ≤ v.toInt) (h2 : v.toInt ≤ 1000000) : 0 ≤ (zbv v how).toInt ∧ (zbv v how).toInt ≤ 366 := by
  obtain ⟨Y, x, a1, a2, a3⟩ := w_behind (N := 4000) (μ := zM0) (v := v) (how := how) (by omega) hh h1 h2
  have e : zbv v how = nI (zbh (zlp Y) x how) := by
    unfold zbv
    rw [a3]
    rfl
  have hy := zyl_b (zlp Y)
  have hb : zbh (zlp Y) x how ≤ x := by
    unfold zbh
    split
    · omega
    · split <;> omega
  rw [e, nI_toInt (by omega)]
  omega
theorem zkv_b {F : zF} (hF : zVF F) {v key : Int32} (h1 : -1000000000 ≤ v.toInt) (h2 : v.toInt ≤ 1000000000) (hk : key ∈ zkv F v) : -1002000000 ≤ key.toInt ∧ key.toInt ≤ 1000000000 := by
  obtain ⟨v1, v2, v3, v4, v5, v6, v7, v8, v9, v10⟩ := hF
  unfold zkv at hk
  split at hk
  · rw [List.mem_singleton.mp hk]; omega
  split at hk
  · unfold zkp at hk
    split at hk
    · cases hk
    rename_i hr
    split at hk
    · cases hk
    have c1 : (10000 : Int32).toInt = 10000 := by decide
    have c2 : (999999 : Int32).toInt = 999999 := by decide
    have r1 : ¬ v.toInt < 10000 := fun q => hr (Or.inl (Int32.lt_iff_toInt_lt.mpr (by rw [c1]; exact q)))
    have r2 : ¬ 999999 < v.toInt := fun q => hr (Or.inr (Int32.lt_iff_toInt_lt.mpr (by rw [c2]; exact q)))
    have ev : v = nI v.toInt.toNat := zi_small rfl (by omega)
    have p1 : v / 10000 * 10000 = nI (v.toInt.toNat / 10000 * 10000) := by
      rw [ev, show (10000 : Int32) = nI 10000 from rfl, pk_div (by omega) (by omega) (by omega), pk_mul, nI_toInt (by omega)]
      rfl
    have p2 : v / 100 * 100 = nI (v.toInt.toNat / 100 * 100) := by
      rw [ev, show (100 : Int32) = nI 100 from rfl, pk_div (by omega) (by omega) (by omega), pk_mul, nI_toInt (by omega)]
      rfl
    rw [List.mem_append, List.mem_append, List.mem_singleton] at hk
    rcases hk with (hk | hk) | hk
    · rw [hk, p1, nI_toInt (by omega)]; omega
    · split at hk
      · cases hk
      · rw [List.mem_singleton.mp hk, p2, nI_toInt (by omega)]; omega
    · split at hk
      · cases hk
      · rw [List.mem_singleton.mp hk]; omega
  split at hk
  · unfold zkr at hk
    obtain ⟨r, hr, rfl⟩ := List.mem_map.mp hk
    have := List.mem_range.mp (List.mem_filter.mp hr).1
    rw [nI_toInt (by omega)]
    omega
  split at hk
  · rename_i h3
    obtain ⟨p1, p2, p3, p4⟩ := v8 h3
    have hb := fmv_bounds (a := v - zFb F) p1
    rw [List.mem_singleton.mp hk, Jvm.Kit.i32_sub (by omega) (by omega)]
    omega
  · obtain ⟨p, hp, ep⟩ := v9 (by omega)
    unfold zkd at hk
    split at hk
    · cases hk
    rename_i hr
    have c1 : (-1000000 : Int32).toInt = -1000000 := by decide
    have c2 : (1000000 : Int32).toInt = 1000000 := by decide
    have r1 : ¬ v.toInt < -1000000 := fun q => hr (Or.inl (Int32.lt_iff_toInt_lt.mpr (by rw [c1]; exact q)))
    have r2 : ¬ 1000000 < v.toInt := fun q => hr (Or.inr (Int32.lt_iff_toInt_lt.mpr (by rw [c2]; exact q)))
    rw [List.mem_singleton.mp hk, ep]
    split
    · omega
    · split
      · have hb := fmv_bounds (a := v + 3) (m := 7) (by decide)
        have c7 : (7 : Int32).toInt = 7 := by decide
        rw [c7] at hb
        rw [Jvm.Kit.i32_sub (by omega) (by omega)]
        omega
      · rename_i q0 q1
        rw [nI_clamp (by omega)]
        have p0 : p ≠ 0 := fun q => q0 (by rw [q]; rfl)
        have p1 : p ≠ 1 := fun q => q1 (by rw [q]; rfl)
        have hb := zbv_b (v := v) (how := p) (by omega) (by omega) (by omega) (by omega)
        rw [Jvm.Kit.i32_sub (by omega) (by omega)]
        omega
theorem zks_b {G : zG} {F : zF} (hG : zVG G) (hF : zVF F) {o : Nat} {key : Int32} (hk : key ∈ zks G F o) : -1002000000 ≤ key.toInt ∧ key.toInt ≤ 1000000000 := by
  unfold zks at hk
  obtain ⟨v, hv, hk⟩ := List.mem_flatMap.mp hk
  unfold zvl at hv
  obtain ⟨i, -, rfl⟩ := List.mem_map.mp hv
  exact zkv_b hF (hG.2.2 _).1 (hG.2.2 _).2 hk
/-- the keys under which an object stands in the class's list: its own, or that of the missing -/
def zkl (G : zG) (F : zF) (o : Nat) : List Int32 := if zct G F o = true then (if (zks G F o).isEmpty = true then (if zAk F = true then [2000000000] else []) else zdd [] (zks G F o)) else []
theorem zpl1_eq (G : zG) (F : zF) (o : Nat) : zpl1 G F o = (zkl G F o).map (fun key => zpr key o) := by
  unfold zpl1 zkl
  split
  · split
    · split <;> rfl
    · rfl
  · rfl
theorem zkl_mem {G : zG} {F : zF} {o : Nat} {key : Int32} : key ∈ zkl G F o ↔ zin_ G F key o = true ∨ (key = 2000000000 ∧ zAk F = true ∧ zims G F o = true) := by
  unfold zkl zin_ zims
  cases hct : zct G F o
  · simp
  · cases hz : zks G F o with
    | nil => cases zAk F <;> simp
    | cons a l =>
      rw [if_pos rfl, if_neg (by simp), zdd_mem]
      simp
theorem zkl_nd {G : zG} {F : zF} {o : Nat} : (zkl G F o).Nodup := by
  unfold zkl
  split
  · split
    · split
      · simp
      · exact List.nodup_nil
    · exact zdd_nd List.nodup_nil
  · exact List.nodup_nil
theorem zpls_mem {G : zG} {F : zF} {x : Int64} : ∀ {m : Nat}, x ∈ zpls G F m ↔ ∃ o key, o < m ∧ key ∈ zkl G F o ∧ x = zpr key o := by
  intro m
  unfold zpls
  rw [List.mem_flatMap]
  constructor
  · rintro ⟨o, ho, hx⟩
    rw [zpl1_eq] at hx
    obtain ⟨key, hk, rfl⟩ := List.mem_map.mp hx
    exact ⟨o, key, List.mem_range.mp ho, hk, rfl⟩
  · rintro ⟨o, key, ho, hk, rfl⟩
    refine ⟨o, List.mem_range.mpr ho, ?_⟩
    rw [zpl1_eq]
    exact List.mem_map.mpr ⟨key, hk, rfl⟩
theorem zpls_nd {G : zG} {F : zF} : ∀ m, m ≤ 120 → (zpls G F m).Nodup
  | 0, _ => List.nodup_nil
  | m + 1, hm => by
    rw [zpls_s, List.nodup_append]
    refine ⟨zpls_nd m (by omega), ?_, fun a ha b hb e => ?_⟩
    · rw [zpl1_eq]
      refine List.Pairwise.map _ (R := fun a b => a ≠ b) (fun a b h e => h (zpr_inj (by omega) (by omega) e).1) zkl_nd
    · subst e
      obtain ⟨o, key, ho, hk, e1⟩ := zpls_mem.mp ha
      rw [zpl1_eq] at hb
      obtain ⟨key2, hk2, e2⟩ := List.mem_map.mp hb
      have := (zpr_inj (by omega) (by omega) (e1.symm.trans e2.symm)).2
      omega
theorem zcn_cp (p : Int64 → Bool) (f : Nat → Int64) : ∀ n, zcn p f 0 n = ((List.range n).map f).countP p
  | 0 => rfl
  | n + 1 => by
    rw [zcn_s, zcn_cp p f n, List.range_succ, List.map_append, List.countP_append, Nat.zero_add]
    congr 1
    simp [List.countP_cons]
theorem zmap_pre {f : Nat → Int64} {L : List Int64} (h : zpreL f L) : (List.range L.length).map f = L := by
  apply List.ext_getElem?
  intro i
  by_cases hi : i < L.length
  · rw [List.getElem?_map, List.getElem?_range hi]
    have hx : L[i]? = some L[i] := List.getElem?_eq_getElem hi
    rw [hx]
    show some (f i) = some L[i]
    rw [h i _ hx]
  · rw [List.getElem?_eq_none (by simp; omega), List.getElem?_eq_none (by omega)]
/-- what the sorted pairs are -/
def zSo (G : zG) (F : zF) (S : List Int64) : Prop := S.Pairwise (· < ·) ∧ (∀ x, x ∈ S ↔ x ∈ zpls G F G.1) ∧ S.length ≤ 1080
theorem w_gather {N : Nat} {σ : zS} {k : Nat} {G : zG} {F : zF} (hL : zLX σ k G F) (hG : zVG G) (hF : zVF F) (hN : 3000 < N) :
    zok (m_X2_gather N σ k) (fun s => ∃ S, zSo G F S ∧ zps_ σ S s) := by
  have hn := hG.1
  unfold m_X2_gather
  rw [Option.bind_some]
  have h0 : zps_ σ [] (zsI σ 6 0) := ⟨zpx.sI (by omega), zsI_at σ 6 0, fun i x h => by cases h⟩
  refine zok_bind (w_gatherL hL hG hF hN h0) ?_
  rintro s ⟨h1, h2, h3⟩
  unfold m_X2_gather_115
  have hl := zpls_len hG hF G.1
  rw [h2]
  have hz1 : zln 1 = 1080 := rfl
  refine zok_bind (w_sort (σ := s) (n := (zpls G F G.1).length) (j := 1) (Or.inl rfl) (by omega) (by omega)) ?_
  rintro s2 ⟨g, f, rfl, k1, k2, k3⟩
  have hperm : ((List.range (zpls G F G.1).length).map f).Perm (zpls G F G.1) := by
    rw [List.perm_iff_count]
    intro a
    have := k3 (fun x => x == a)
    rw [zcn_cp, zcn_cp, zmap_pre h3] at this
    exact this
  have hnd : ((List.range (zpls G F G.1).length).map f).Nodup := hperm.nodup_iff.mpr (zpls_nd G.1 hn)
  have hlen : ((List.range (zpls G F G.1).length).map f).length = (zpls G F G.1).length := by rw [List.length_map, List.length_range]
  refine zok_some ⟨(List.range (zpls G F G.1).length).map f, ⟨?_, fun x => hperm.mem_iff, by omega⟩, ?_, ?_, ?_⟩
  · rw [List.pairwise_iff_getElem]
    intro i j hi hj hij
    have hne : ((List.range (zpls G F G.1).length).map f)[i] ≠ ((List.range (zpls G F G.1).length).map f)[j] := List.pairwise_iff_getElem.mp hnd i j hi hj hij
    rw [List.getElem_map, List.getElem_map, List.getElem_range, List.getElem_range] at *
    have hle := k2 i j (by omega) (by omega) (by omega)
    have e1 := Int64.le_iff_toInt_le.mp hle
    exact Int64.lt_iff_toInt_lt.mpr (by
      have : (f i).toInt ≠ (f j).toInt := fun q => hne (Int64.toInt_inj.mp q)
      omega)
  · exact h1.trans (zpx.sL.trans zpx.sL)
  · rw [hlen]; exact h2
  · intro i x hx
    rw [List.getElem?_map] at hx
    have hi : i < (zpls G F G.1).length := by
      by_cases q : i < (zpls G F G.1).length
      · exact q
      · rw [List.getElem?_eq_none (by simp; omega)] at hx; cases hx
    rw [List.getElem?_range hi] at hx
    rw [zst_j]
    exact Option.some.inj hx
