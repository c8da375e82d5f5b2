/-! the class: its list of groups -/
def zLK (G : zG) (F : zF) (L : List Int32) : List Int32 := L ++ (if zhm G F = true then [2000000000] else [])
def zCL (G : zG) (F : zF) (s : zS) (K : List Int32) : Prop :=
  s.1 5 = nI K.length ∧ K.length ≤ 1080 ∧ ∀ i key, K[i]? = some key → ∃ g lo, g < 1080 ∧ (s.2.2 2 i &&& (2047 : Int64)).toInt32 = nI g ∧ s.2.1 5 g = key ∧ s.2.1 6 g = nI lo ∧ s.2.1 7 g = nI (lo + (zob G F key).length) ∧ lo + (zob G F key).length ≤ 1080 ∧ ∀ m o, (zob G F key)[m]? = some o → (s.2.2 1 (lo + m) &&& (127 : Int64)).toInt32 = nI o
theorem w_rankL {N : Nat} {σ s : zS} {k : Nat} {G : zG} {F : zF} {S : List Int64} {KS : List Int32} (hL : zLX σ k G F) (hG : zVG G) (hF : zVF F) (hS : zSo G F S) (hN : 3000 < N) (hl : (zKL F S KS).length ≤ 1080) (h : zct_ σ S (zgls F S KS) s) :
    zok (ziter (fun q : zS × Int32 => m_X2_rank_L2 N k q.1 q.2) N (s, (0 : Int32))) (fun s' => zct_ σ S (zgls F S KS) s' ∧ ∀ g key, (zKL F S KS)[g]? = some key → s'.2.2 2 g = zrk G F g key) := by
  refine zok_for (zKL F S KS).length (fun i q => ∃ s', q = (s', nI i) ∧ zct_ σ S (zgls F S KS) s' ∧ ∀ g key, g < i → (zKL F S KS)[g]? = some key → s'.2.2 2 g = zrk G F g key) ?_ ?_ _ N 0 _ (Nat.zero_add _) ⟨s, rfl, h, fun g key hg => absurd hg (by omega)⟩ (by omega)
  · rintro i q hi ⟨s', rfl, h1, h2⟩
    show zok (m_X2_rank_L2 N k s' (nI i)) _
    have hx : (zKL F S KS)[i]? = some (zKL F S KS)[i] := List.getElem?_eq_getElem hi
    generalize (zKL F S KS)[i] = key at hx
    unfold m_X2_rank_L2
    rw [h1.2.1, zgls_len, if_neg (nI_ge hi (by omega)), w_weight hL hG hF hS hN h1 (zgls_KL F S KS hx) (by omega), Option.bind_some, zwL_nI (by omega) (by omega), Option.bind_some, nI_1]
    refine zok_some ⟨_, rfl, ⟨⟨h1.1.1.trans zpx.sL, h1.1.2.1, ?_⟩, h1.2.1, h1.2.2⟩, fun g key' hg hk => ?_⟩
    · rw [zsL_ne s' (j := 1) (k := 2) _ (by omega)]
      exact h1.1.2.2
    · rw [zsL_at s' 2]
      by_cases he : g = i
      · subst he
        rw [hx] at hk
        cases hk
        exact vp_updL_at _ _ _
      · rw [vp_updL_ne _ _ he]
        exact h2 g key' (by omega) hk
  · rintro q ⟨s', rfl, h1, h2⟩
    show zok (m_X2_rank_L2 N k s' (nI (zKL F S KS).length)) _
    unfold m_X2_rank_L2
    rw [h1.2.1, zgls_len, if_pos (Int32.le_refl _)]
    exact zok_some ⟨h1, fun g key hk => h2 g key (List.getElem?_eq_some_iff.mp hk).1 hk⟩
def zgr (x : Int64) : Nat := (x &&& (2047 : Int64)).toInt32.toNatClampNeg
theorem w_ranked {σ s : zS} {G : zG} {F : zF} {S : List Int64} {KS : List Int32} {n : Nat} {f g0 : Nat → Int64} (hG : zVG G) (hF : zVF F) (hS : zSo G F S) (hK : zKS G F S KS) (hl : (zKL F S KS).length ≤ 1080) (h : zct_ σ S (zgls F S KS) s) (hr : ∀ g key, (zKL F S KS)[g]? = some key → s.2.2 2 g = zrk G F g key) (hn : n = (zKL F S KS).length - (zhm G F).toNat) (k1 : ∀ i, n ≤ i → f i = s.2.2 2 i) (k2 : zsrt f 0 n) (k3 : ∀ p, zcn p f 0 n = zcn p (s.2.2 2) 0 n) :
    ∃ L, zLs G F L ∧ zCL G F (zst s 2 g0 f) (zLK G F L) := by
  obtain ⟨f1, f2, f3, f4⟩ := zKL_facts hG hF hS hK
  have hnl : n ≤ (zKL F S KS).length := by omega
  have hperm : ((List.range n).map f).Perm ((List.range n).map (s.2.2 2)) := by
    rw [List.perm_iff_count]
    intro a
    have := k3 (fun x => x == a)
    rw [zcn_cp, zcn_cp] at this
    exact this
  -- an element of the sorted ranks is the rank of a group
  have hel : ∀ x, x ∈ (List.range n).map f ↔ ∃ g key, g < n ∧ (zKL F S KS)[g]? = some key ∧ x = zrk G F g key := by
    intro x
    rw [hperm.mem_iff, List.mem_map]
    constructor
    · rintro ⟨g, hg, rfl⟩
      have hg := List.mem_range.mp hg
      have hx : (zKL F S KS)[g]? = some ((zKL F S KS)[g]'(by omega)) := List.getElem?_eq_getElem (by omega)
      exact ⟨g, _, hg, hx, hr g _ hx⟩
    · rintro ⟨g, key, hg, hk, rfl⟩
      exact ⟨g, List.mem_range.mpr hg, hr g key hk⟩
  have hgr : ∀ g key, g < n → zgr (zrk G F g key) = g := by
    intro g key hg
    unfold zgr
    rw [zrk_grp hG (by omega), nI_clamp (by omega)]
  have hnd : ((List.range n).map f).Nodup := by
    rw [hperm.nodup_iff]
    refine List.Pairwise.map (s.2.2 2) (R := fun a b => a ≠ b ∧ a < n ∧ b < n) (fun a b q e => ?_) ?_
    · have ha : (zKL F S KS)[a]? = some ((zKL F S KS)[a]'(by omega)) := List.getElem?_eq_getElem (by omega)
      have hb : (zKL F S KS)[b]? = some ((zKL F S KS)[b]'(by omega)) := List.getElem?_eq_getElem (by omega)
      rw [hr a _ ha, hr b _ hb] at e
      have e2 := congrArg zgr e
      rw [hgr a _ q.2.1, hgr b _ q.2.2] at e2
      exact q.1 e2
    · refine List.Pairwise.imp_of_mem (R := fun a b => a < b) (fun ha hb q => ⟨by omega, List.mem_range.mp ha, List.mem_range.mp hb⟩) List.pairwise_lt_range
  have hmap : ∀ g key, g < n → (zKL F S KS)[g]? = some key → (zKL F S KS).getD (zgr (zrk G F g key)) 0 = key := by
    intro g key hg hk
    rw [hgr g key hg, List.getD_eq_getElem?_getD, hk]
    rfl
  have hsome : ∀ i, i < n → ∃ g key, g < n ∧ (zKL F S KS)[g]? = some key ∧ f i = zrk G F g key := fun i hi => (hel (f i)).mp (List.mem_map.mpr ⟨i, List.mem_range.mpr hi, rfl⟩)
  refine ⟨(List.range n).map (fun i => (zKL F S KS).getD (zgr (f i)) 0), ⟨?_, fun key => ?_⟩, ?_⟩
  · rw [List.pairwise_iff_getElem]
    intro i j hi hj hij
    rw [List.getElem_map, List.getElem_map, List.getElem_range, List.getElem_range]
    rw [List.length_map, List.length_range] at hi hj
    obtain ⟨g, a, hg, ha, e1⟩ := hsome i hi
    obtain ⟨g', b, hg', hb, e2⟩ := hsome j hj
    have hne : f i ≠ f j := by
      have := List.pairwise_iff_getElem.mp hnd i j (by rw [List.length_map, List.length_range]; omega) (by rw [List.length_map, List.length_range]; omega) hij
      rw [List.getElem_map, List.getElem_map, List.getElem_range, List.getElem_range] at this
      exact this
    have hle := Int64.le_iff_toInt_le.mp (k2 i j (by omega) (by omega) (by omega))
    rw [e1, e2] at hle hne
    rw [e1, e2, hmap g a hg ha, hmap g' b hg' hb]
    have hgg : g ≠ g' := by
      rintro rfl
      rw [ha] at hb
      cases hb
      exact hne rfl
    refine zrk_lt hG hF (by omega) (by omega) ((zKL_last hG hF hS hK ha).mp (by omega)) ((zKL_last hG hF hS hK hb).mp (by omega)) (fun q => ?_) hgg hle
    have := List.pairwise_iff_getElem.mp f1 g g' (by omega) (by omega) q
    rw [(List.getElem?_eq_some_iff.mp ha).2, (List.getElem?_eq_some_iff.mp hb).2] at this
    exact this
  · have e : key ∈ (List.range n).map (fun i => (zKL F S KS).getD (zgr (f i)) 0) ↔ key ∈ zKL F S KS ∧ key ≠ 2000000000 := by
      rw [List.mem_map]
      constructor
      · rintro ⟨i, hi, rfl⟩
        obtain ⟨g, a, hg, ha, e1⟩ := hsome i (List.mem_range.mp hi)
        rw [e1, hmap g a hg ha]
        exact ⟨List.mem_of_getElem? ha, (zKL_last hG hF hS hK ha).mp (by omega)⟩
      · rintro ⟨h1, h2⟩
        obtain ⟨g, hg⟩ := List.getElem?_of_mem h1
        have hgn := (zKL_last hG hF hS hK hg).mpr h2
        rw [← hn] at hgn
        obtain ⟨i, hi, e1⟩ := List.mem_map.mp ((hel (zrk G F g key)).mpr ⟨g, key, hgn, hg, rfl⟩)
        exact ⟨i, hi, by rw [e1, hmap g key hgn hg]⟩
    rw [e]
    constructor
    · rintro ⟨h1, h2⟩
      exact (f2 key h2).mp h1
    · intro q
      have hk : key ≠ 2000000000 := by
        rintro rfl
        rcases q.1 with ⟨r, hr1, hr2⟩ | ⟨o, -, ho⟩
        · have hR := hF.2.2.1
          have := congrArg Int32.toInt hr2
          rw [nI_toInt (by omega), zMISS] at this
          omega
        · exact zin_miss hG hF o ho
      exact ⟨(f2 key hk).mpr q, hk⟩
  · have hlen : (zLK G F ((List.range n).map (fun i => (zKL F S KS).getD (zgr (f i)) 0))).length = (zKL F S KS).length := by
      unfold zLK
      rw [List.length_append, List.length_map, List.length_range]
      cases hz : zhm G F
      · rw [hz] at hn
        have : false.toNat = 0 := rfl
        rw [if_neg (by decide)]
        show n + 0 = _
        omega
      · rw [hz] at hn
        have : true.toNat = 1 := rfl
        have := List.length_pos_of_mem (f3.mpr hz)
        rw [if_pos rfl]
        show n + 1 = _
        omega
    have hgrp : ∀ i key, (zLK G F ((List.range n).map (fun i => (zKL F S KS).getD (zgr (f i)) 0)))[i]? = some key → ∃ g, g < 1080 ∧ (zKL F S KS)[g]? = some key ∧ f i = zrk G F g key := by
      intro i key hi
      unfold zLK at hi
      by_cases hin : i < n
      · rw [List.getElem?_append_left (by rw [List.length_map, List.length_range]; exact hin), List.getElem?_map, List.getElem?_range hin] at hi
        obtain ⟨g, a, hg, ha, e1⟩ := hsome i hin
        have hi : some ((zKL F S KS).getD (zgr (f i)) 0) = some key := hi
        rw [e1, hmap g a hg ha] at hi
        cases hi
        exact ⟨g, by omega, ha, e1⟩
      · rw [List.getElem?_append_right (by rw [List.length_map, List.length_range]; omega), List.length_map, List.length_range] at hi
        cases hz : zhm G F
        · rw [hz, if_neg (by decide)] at hi
          cases hi
        · rw [hz, if_pos rfl] at hi
          have h1 : i - n < 1 := (List.getElem?_eq_some_iff.mp hi).1
          have h2 : i = n := by omega
          subst h2
          rw [Nat.sub_self] at hi
          cases hi
          obtain ⟨g, hg⟩ := List.getElem?_of_mem (f3.mpr hz)
          have h3 := mt (zKL_last hG hF hS hK hg).mp (fun q => q rfl)
          have h4 := (List.getElem?_eq_some_iff.mp hg).1
          rw [hz] at hn h3
          have : true.toNat = 1 := rfl
          have h5 : g = i := by omega
          subst h5
          exact ⟨g, by omega, hg, by rw [k1 g (Nat.le_refl _), hr g _ hg]⟩
    refine ⟨?_, by omega, fun i key hi => ?_⟩
    · rw [hlen, ← zgls_len F S KS]
      exact h.2.1
    · obtain ⟨g, hg, hk, e1⟩ := hgrp i key hi
      obtain ⟨e5, e6, e7⟩ := h.2.2 g _ (zgls_KL F S KS hk)
      dsimp only at e5 e6 e7
      have hrl := zrun_len hG hS key
      have hll := zlohi S key
      have hSl := hS.2.2
      refine ⟨g, zlo S key, hg, ?_, e5, e6, ?_, by omega, fun m o hm => ?_⟩
      · rw [zst_j, e1, zrk_grp hG (by omega)]
      · show s.2.1 7 g = _
        rw [e7, hrl]
      · have hx := zrun_at hG hS hm
        have hgo := (zob_mem.mp (List.mem_of_getElem? hm)).1
        have hG1 := hG.1
        have e : (zst s 2 g0 f).2.2 1 = s.2.2 1 := by
          unfold zst
          rw [zsL_ne (zsL s 0 g0) (j := 1) (k := 2) f (by omega), zsL_ne s (j := 1) (k := 0) g0 (by omega)]
        rw [e, h.1.2.2 _ _ hx, zpr_obj (by omega)]
theorem w_rank {N : Nat} {σ s : zS} {k : Nat} {G : zG} {F : zF} {S : List Int64} {KS : List Int32} (hL : zLX σ k G F) (hG : zVG G) (hF : zVF F) (hS : zSo G F S) (hK : zKS G F S KS) (hN : 3000 < N) (hl : (zKL F S KS).length ≤ 1080) (h : zct_ σ S (zgls F S KS) s) :
    zok (m_X2_rank N s k) (fun s' => zpx σ s' ∧ ∃ L, zLs G F L ∧ zCL G F s' (zLK G F L)) := by
  unfold m_X2_rank
  refine zok_bind (w_rankL hL hG hF hS hN hl h) ?_
  rintro s1 ⟨h1, hr⟩
  have hz2 : zln 2 = 1080 := rfl
  have fin : ∀ n, n = (zKL F S KS).length - (zhm G F).toNat → zok ((m_X5_sort N s1 2 (nI n)).bind fun s2 => some s2) (fun s' => zpx σ s' ∧ ∃ L, zLs G F L ∧ zCL G F s' (zLK G F L)) := by
    intro n hn
    refine zok_bind (w_sort (σ := s1) (n := n) (j := 2) (Or.inr (Or.inl rfl)) (by omega) (by omega)) ?_
    rintro s2 ⟨g0, f, rfl, k1, k2, k3⟩
    exact zok_some ⟨h1.1.1.trans (zpx.sL.trans zpx.sL), w_ranked hG hF hS hK hl h1 hr hn k1 k2 k3⟩
  have h5 : s1.1 5 = nI (zKL F S KS).length := by rw [← zgls_len]; exact h1.2.1
  obtain ⟨f1, f2, f3, f4⟩ := zKL_facts hG hF hS hK
  unfold m_X2_rank_35 m_X2_rank_62 m_X2_rank_63
  rw [h5]
  by_cases h0 : (zKL F S KS).length = 0
  · rw [h0, if_pos (show nI 0 ≤ (0 : Int32) from Int32.le_refl _), if_pos rfl]
    exact fin 0 (by omega)
  · rw [if_neg (nI_nle (by omega) (by omega))]
    obtain ⟨c, hc⟩ : ∃ c, (zKL F S KS).length = c + 1 := ⟨(zKL F S KS).length - 1, by omega⟩
    rw [hc, nI_pred, zrd_nI (by omega) (by omega), Option.bind_some]
    have hx : (zKL F S KS)[c]? = some ((zKL F S KS)[c]'(by omega)) := List.getElem?_eq_getElem (by omega)
    generalize (zKL F S KS)[c]'(by omega) = key at hx
    have e5 := (h1.2.2 c _ (zgls_KL F S KS hx)).1
    dsimp only at e5
    have hlast := zKL_last hG hF hS hK hx
    rw [e5]
    cases hz : zhm G F
    · rw [hz] at hlast
      have t : false.toNat = 0 := rfl
      rw [if_neg (hlast.mp (by omega)), if_pos rfl]
      exact fin (c + 1) (by rw [hz]; omega)
    · rw [hz] at hlast
      have t : true.toNat = 1 := rfl
      have hm : key = 2000000000 := by
        by_cases q : key = 2000000000
        · exact q
        · have := hlast.mpr q
          omega
      rw [if_pos hm, if_neg (by decide)]
      exact fin c (by rw [hz]; omega)
