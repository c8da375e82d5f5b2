/-! the class: its list is made, and read -/
theorem zKS_len {G : zG} {F : zF} {S : List Int64} {KS : List Int32} (hG : zVG G) (hF : zVF F) (hS : zSo G F S) (h : zKS G F S KS) : KS.length ≤ 1080 := by
  have hnd : KS.Nodup := List.Pairwise.imp (fun q e => by rw [e] at q; omega) h.1
  have hR := hF.2.2.1
  have hSl := hS.2.2
  rcases hF.2.2.2.1 with h0 | h2
  · have := znd_len KS (S.map zpky) hnd (fun key hk => by
      rcases (h.2.1 key).mp hk with ⟨r, hr, -⟩ | ⟨x, hx, e⟩
      · omega
      · exact List.mem_map.mpr ⟨x, hx, e⟩)
    rw [List.length_map] at this
    omega
  · have := znd_len KS (((List.range (zRl F).length).map nI) ++ [2000000000]) hnd (fun key hk => by
      rcases (h.2.1 key).mp hk with ⟨r, hr, e⟩ | ⟨x, hx, e⟩
      · exact List.mem_append_left _ (List.mem_map.mpr ⟨r, List.mem_range.mpr hr, e.symm⟩)
      · obtain ⟨o, -, hk, -⟩ := zSo_el hG hS hx
        rcases zkl_mem.mp hk with q | ⟨q, -⟩
        · unfold zin_ at q
          rw [Bool.and_eq_true, decide_eq_true_eq] at q
          obtain ⟨r, hr, e2⟩ := zks_rng h2 q.2
          exact List.mem_append_left _ (List.mem_map.mpr ⟨r, List.mem_range.mpr hr, by rw [← e, e2]⟩)
        · exact List.mem_append_right _ (List.mem_singleton.mpr (by rw [← e, q])))
    rw [List.length_append, List.length_map, List.length_range] at this
    have e1 : ([2000000000] : List Int32).length = 1 := rfl
    omega
theorem w_made {N : Nat} {σ : zS} {k : Nat} {G : zG} {F : zF} (hL : zLX σ k G F) (hG : zVG G) (hF : zVF F) (hN : 3000 < N) :
    zok ((m_X2_gather N σ k).bind fun s1 => (m_X2_cut N s1 k).bind fun s2 => m_X2_rank N s2 k) (fun s' => zpx σ s' ∧ ∃ L, zLs G F L ∧ zCL G F s' (zLK G F L)) := by
  refine zok_bind (w_gather hL hG hF hN) ?_
  rintro s1 ⟨S, hS, h1⟩
  refine zok_bind (w_cut hL hG hF hS hN h1) ?_
  rintro s2 ⟨KS, hK, h2⟩
  have hl := zKS_len hG hF hS hK
  have hl2 : (zKL F S KS).length ≤ KS.length := List.length_filter_le _ _
  exact w_rank hL hG hF hS hK hN (by omega) h2
theorem w_groupAt {N : Nat} {s : zS} {i g : Nat} (hi : i < 1080) (h : (s.2.2 2 i &&& (2047 : Int64)).toInt32 = nI g) : m_X2_groupAt N s (nI i) = some (nI g) := by
  unfold m_X2_groupAt
  rw [zrd_nI hi (by omega), Option.bind_some, h]
/-- what is read of the group i of the list -/
theorem w_read {N : Nat} {G : zG} {F : zF} {s : zS} {K : List Int32} {i : Nat} {key : Int32} (hG : zVG G) (h : zCL G F s K) (hi : K[i]? = some key) :
    m_X2_isMissing N s (nI i) = some (zbo (decide (key = 2000000000))) ∧ m_X2_keyOf N s (nI i) = some (if key = 2000000000 then -2000000000 else key) ∧ m_X2_sizeOf N s (nI i) = some (nI (zob G F key).length) ∧ ∀ m o, (zob G F key)[m]? = some o → m_X2_memberOf N s (nI i) (nI m) = some (nI o) := by
  obtain ⟨h1, h2, h3⟩ := h
  obtain ⟨g, lo, hg, e1, e5, e6, e7, hlo, hm⟩ := h3 i key hi
  have hil := (List.getElem?_eq_some_iff.mp hi).1
  have ga := w_groupAt (N := N) (show i < 1080 by omega) e1
  have miss : m_X2_isMissing N s (nI i) = some (zbo (decide (key = 2000000000))) := by
    unfold m_X2_isMissing
    rw [ga, Option.bind_some, zrd_nI hg (by omega), Option.bind_some, e5]
    by_cases q : key = 2000000000
    · rw [if_pos q, decide_eq_true q]; rfl
    · rw [if_neg q, decide_eq_false q]; rfl
  refine ⟨miss, ?_, ?_, fun m o hmo => ?_⟩
  · unfold m_X2_keyOf
    rw [miss, Option.bind_some]
    by_cases q : key = 2000000000
    · rw [if_pos q, decide_eq_true q]; rfl
    · rw [if_neg q, decide_eq_false q, if_pos (show zbo false = 0 from rfl), ga, Option.bind_some, zrd_nI hg (by omega), Option.bind_some, e5]
  · unfold m_X2_sizeOf
    rw [ga, Option.bind_some, zrd_nI hg (by omega), Option.bind_some, zrd_nI hg (by omega), Option.bind_some, e6, e7, pk_sub (by omega), Nat.add_sub_cancel_left]
  · have hml := (List.getElem?_eq_some_iff.mp hmo).1
    unfold m_X2_memberOf m_X2_pairObject
    rw [ga, Option.bind_some, zrd_nI hg (by omega), Option.bind_some, e6, nI_add, zrd_nI (by omega) (by omega), Option.bind_some, hm m o hmo, Option.bind_some]
theorem zLs_nm {G : zG} {F : zF} {L : List Int32} (hG : zVG G) (hF : zVF F) (h : zLs G F L) : (2000000000 : Int32) ∉ L := by
  intro hm
  have hR := hF.2.2.1
  rcases ((h.2 _).mp hm).1 with ⟨r, hr1, hr2⟩ | ⟨o, -, ho⟩
  · have := congrArg Int32.toInt hr2
    rw [nI_toInt (by omega), zMISS] at this
    omega
  · exact zin_miss hG hF o ho
theorem zLK_len (G : zG) (F : zF) (L : List Int32) : (zLK G F L).length = L.length + (zhm G F).toNat := by
  unfold zLK
  rw [List.length_append]
  cases zhm G F <;> rfl
theorem zLK_at {G : zG} {F : zF} {L : List Int32} {i : Nat} {key : Int32} (h : (zLK G F L)[i]? = some key) : (i < L.length ∧ L[i]? = some key) ∨ (i = L.length ∧ key = 2000000000 ∧ zhm G F = true) := by
  unfold zLK at h
  by_cases hi : i < L.length
  · rw [List.getElem?_append_left hi] at h
    exact Or.inl ⟨hi, h⟩
  · rw [List.getElem?_append_right (by omega)] at h
    cases hz : zhm G F
    · rw [hz, if_neg (by decide)] at h
      cases h
    · rw [hz, if_pos rfl] at h
      have h1 : i - L.length < 1 := (List.getElem?_eq_some_iff.mp h).1
      have h2 : i = L.length := by omega
      subst h2
      rw [Nat.sub_self] at h
      cases h
      exact Or.inr ⟨rfl, rfl, rfl⟩
/-- what the reference says of the group i -/
theorem w_refg {N : Nat} {μ m : zS} {f : Nat} {G : zG} {F : zF} {L : List Int32} (hG : zVG G) (hF : zVF F) (hN : 3000 < N) (hr : zrdy μ f G F m) (hLs : zLs G F L) (h : zGM G F m L) :
    m.1 4 = nI (zLK G F L).length ∧ (zLK G F L).length ≤ 1087 ∧ ∀ i key, (zLK G F L)[i]? = some key → m.2.1 19 i = (if key = 2000000000 then -2000000000 else key) ∧ m.2.1 20 i = nI (zob G F key).length ∧ (∀ o, o < G.1 → m_X9_isIn N m (nI f) (nI i) (nI o) = some (zbo (decide (o ∈ zob G F key)))) ∧ (key = 2000000000 ↔ zhm G F = true ∧ i + 1 = (zLK G F L).length) := by
  obtain ⟨h4, h5, h6, h7, h8⟩ := h
  have hlen := zLK_len G F L
  have hnm := zLs_nm hG hF hLs
  have hb : (zhm G F).toNat ≤ 1 := by cases zhm G F <;> decide
  refine ⟨by rw [hlen]; exact h4, by omega, fun i key hi => ?_⟩
  rcases zLK_at hi with ⟨hil, hx⟩ | ⟨rfl, rfl, hz⟩
  · have hk : key ≠ 2000000000 := fun q => hnm (by rw [← q]; exact List.mem_of_getElem? hx)
    have he := zob_key hG hF hk
    obtain ⟨e19, e20⟩ := h6 i key hx
    refine ⟨by rw [if_neg hk]; exact e19, by rw [he]; exact e20, fun o ho => ?_, ⟨fun q => absurd q hk, fun q => ?_⟩⟩
    · rw [w_isIn0 hr hG hF ho (by omega) hN (by
        cases hz : zhm G F
        · left; rw [h5, hz]; rfl
        · right
          refine ⟨L.length, by rw [h5, hz]; rfl, ?_, by omega, by omega⟩
          rw [h4, hz]; rfl), e19]
      congr 2
      have e : (o ∈ zob G F key) ↔ zin_ G F key o = true := by
        rw [he]
        unfold zmb
        rw [List.mem_filter, List.mem_range]
        exact ⟨fun q => q.2, fun q => ⟨ho, q⟩⟩
      by_cases q : zin_ G F key o = true
      · rw [q, decide_eq_true (e.mpr q)]
      · rw [decide_eq_false (mt e.mp q)]
        exact Bool.eq_false_iff.mpr q
    · rw [q.1] at hlen
      have : true.toNat = 1 := rfl
      omega
  · have hak : zAk F = true := by
      unfold zhm at hz
      rw [Bool.and_eq_true] at hz
      exact hz.1
    have he := zob_miss hG hF hak
    obtain ⟨e19, e20⟩ := h7 hz
    have e1 : true.toNat = 1 := rfl
    refine ⟨by rw [if_pos rfl]; exact e19, by rw [he]; exact e20, fun o ho => ?_, ⟨fun _ => ⟨hz, by rw [hlen, hz]; omega⟩, fun _ => rfl⟩⟩
    rw [w_isInM hr hG hF ho (by omega) hN (by rw [h5, hz]; rfl) (by rw [h4, hz]; rfl)]
    congr 2
    have e : (o ∈ zob G F 2000000000) ↔ zims G F o = true := by
      rw [he]
      unfold zmm
      rw [List.mem_filter, List.mem_range]
      exact ⟨fun q => q.2, fun q => ⟨ho, q⟩⟩
    by_cases q : zims G F o = true
    · rw [q, decide_eq_true (e.mpr q)]
    · rw [decide_eq_false (mt e.mp q)]
      exact Bool.eq_false_iff.mpr q
