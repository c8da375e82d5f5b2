/-! the class: runs of one key -/
def zpky (x : Int64) : Int32 := (x >>> ((7 : Int32).toInt64 &&& 63)).toInt32
def zlo (S : List Int64) (key : Int32) : Nat := (S.filter (fun x => decide ((zpky x).toInt < key.toInt))).length
def zhi (S : List Int64) (key : Int32) : Nat := (S.filter (fun x => decide ((zpky x).toInt ≤ key.toInt))).length
theorem zidx : ∀ (S : List Int64) (P : Int64 → Bool), S.Pairwise (fun x y => P y = true → P x = true) → ∀ i x, S[i]? = some x → (P x = true ↔ i < (S.filter P).length)
  | [], _, _, i, x, h => by cases h
  | a :: S, P, hp, i, x, h => by
    obtain ⟨h1, h2⟩ := List.pairwise_cons.mp hp
    by_cases ha : P a = true
    · rw [List.filter_cons_of_pos ha, List.length_cons]
      cases i with
      | zero =>
        rw [List.getElem?_cons_zero] at h
        cases h
        exact ⟨fun _ => by omega, fun _ => ha⟩
      | succ i =>
        rw [List.getElem?_cons_succ] at h
        rw [zidx S P h2 i x h]
        omega
    · have hall : ∀ y, y ∈ S → ¬ P y = true := fun y hy q => ha (h1 y hy q)
      have hf : S.filter P = [] := List.filter_eq_nil_iff.mpr hall
      rw [List.filter_cons_of_neg ha, hf]
      have hx : x ∈ a :: S := List.mem_of_getElem? h
      rcases List.mem_cons.mp hx with e | e
      · subst e; exact ⟨fun q => absurd q ha, fun q => by cases q⟩
      · exact ⟨fun q => absurd q (hall x e), fun q => by cases q⟩
theorem zSo_el {G : zG} {F : zF} {S : List Int64} (hG : zVG G) (h : zSo G F S) {x : Int64} (hx : x ∈ S) : ∃ o, o < G.1 ∧ zpky x ∈ zkl G F o ∧ x = zpr (zpky x) o := by
  have hn := hG.1
  obtain ⟨o, key, ho, hk, rfl⟩ := zpls_mem.mp ((h.2.1 x).mp hx)
  have e : zpky (zpr key o) = key := zpr_key (by omega)
  rw [e]
  exact ⟨o, ho, hk, rfl⟩
theorem zSo_mono {G : zG} {F : zF} {S : List Int64} (hG : zVG G) (h : zSo G F S) : S.Pairwise (fun x y => (zpky x).toInt ≤ (zpky y).toInt) := by
  have hn := hG.1
  refine List.Pairwise.imp_of_mem (fun hx hy hlt => ?_) h.1
  obtain ⟨o1, a1, -, e1⟩ := zSo_el hG h hx
  obtain ⟨o2, a2, -, e2⟩ := zSo_el hG h hy
  have hh := Int64.lt_iff_toInt_lt.mp hlt
  have t1 := (congrArg Int64.toInt e1).trans (zpr_toInt (by omega))
  have t2 := (congrArg Int64.toInt e2).trans (zpr_toInt (by omega))
  omega
theorem zlo_i {G : zG} {F : zF} {S : List Int64} (hG : zVG G) (h : zSo G F S) {key : Int32} {i : Nat} {x : Int64} (hx : S[i]? = some x) : (zpky x).toInt < key.toInt ↔ i < zlo S key := by
  have := zidx S (fun x => decide ((zpky x).toInt < key.toInt)) (List.Pairwise.imp (fun hle q => decide_eq_true (by have := of_decide_eq_true q; omega)) (zSo_mono hG h)) i x hx
  rw [decide_eq_true_eq] at this
  exact this
theorem zhi_i {G : zG} {F : zF} {S : List Int64} (hG : zVG G) (h : zSo G F S) {key : Int32} {i : Nat} {x : Int64} (hx : S[i]? = some x) : (zpky x).toInt ≤ key.toInt ↔ i < zhi S key := by
  have := zidx S (fun x => decide ((zpky x).toInt ≤ key.toInt)) (List.Pairwise.imp (fun hle q => decide_eq_true (by have := of_decide_eq_true q; omega)) (zSo_mono hG h)) i x hx
  rw [decide_eq_true_eq] at this
  exact this
theorem zlohi (S : List Int64) (key : Int32) : zlo S key ≤ zhi S key ∧ zhi S key ≤ S.length := by
  refine ⟨?_, List.length_filter_le _ _⟩
  unfold zlo zhi
  induction S with
  | nil => exact Nat.le_refl _
  | cons a S ih =>
    by_cases h1 : (zpky a).toInt < key.toInt
    · rw [List.filter_cons_of_pos (p := fun x => decide ((zpky x).toInt < key.toInt)) (decide_eq_true h1), List.filter_cons_of_pos (p := fun x => decide ((zpky x).toInt ≤ key.toInt)) (decide_eq_true (show (zpky a).toInt ≤ key.toInt by omega))]
      exact Nat.succ_le_succ ih
    · rw [List.filter_cons_of_neg (by simpa using h1)]
      by_cases h2 : (zpky a).toInt ≤ key.toInt
      · rw [List.filter_cons_of_pos (p := fun x => decide ((zpky x).toInt ≤ key.toInt)) (decide_eq_true h2)]
        exact Nat.le_succ_of_le ih
      · rw [List.filter_cons_of_neg (by simpa using h2)]
        exact ih
def zgls (F : zF) (S : List Int64) (KS : List Int32) : List (Int32 × Nat × Nat) := (KS.filter (fun key => decide (zLe F ≤ zhi S key - zlo S key))).map (fun key => (key, zlo S key, zhi S key))
/-- the class's list holds these groups -/
def zgl (s : zS) (GL : List (Int32 × Nat × Nat)) : Prop := s.1 5 = nI GL.length ∧ ∀ i g, GL[i]? = some g → s.2.1 5 i = g.1 ∧ s.2.1 6 i = nI g.2.1 ∧ s.2.1 7 i = nI g.2.2
theorem zgls_s (F : zF) (S : List Int64) (KS : List Int32) (key : Int32) : zgls F S (KS ++ [key]) = zgls F S KS ++ (if zLe F ≤ zhi S key - zlo S key then [(key, zlo S key, zhi S key)] else []) := by
  unfold zgls
  rw [List.filter_append, List.map_append]
  congr 1
  by_cases h : zLe F ≤ zhi S key - zlo S key
  · rw [if_pos h, List.filter_cons_of_pos (p := fun key => decide (zLe F ≤ zhi S key - zlo S key)) (decide_eq_true h)]; rfl
  · rw [if_neg h, List.filter_cons_of_neg (by simpa using h)]; rfl
theorem w_pairKey {N : Nat} {s : zS} {S : List Int64} {i : Nat} {x : Int64} (hp : zpreL (s.2.2 1) S) (hl : S.length ≤ 1080) (hx : S[i]? = some x) : m_X2_pairKey N s (nI i) = some (zpky x) := by
  have := (List.getElem?_eq_some_iff.mp hx).1
  unfold m_X2_pairKey
  rw [zrd_nI (by omega) (by omega), Option.bind_some, hp i x hx]
  rfl
def zct_ (σ : zS) (S : List Int64) (GL : List (Int32 × Nat × Nat)) (s : zS) : Prop := zps_ σ S s ∧ zgl s GL
theorem w_cutRun {N : Nat} {σ s : zS} {k : Nat} {G : zG} {F : zF} {S : List Int64} {KS : List Int32} {key : Int32} (hL : zLX σ k G F) (hG : zVG G) (hF : zVF F) (hS : zSo G F S) (hN : 3000 < N) (h : zct_ σ S (zgls F S KS) s) (hK : KS.length < 1080) :
    zok (m_X2_cutRun N s k key (nI (zlo S key))) (fun r => r.1 = nI (zhi S key) ∧ zct_ σ S (zgls F S (KS ++ [key])) r.2) := by
  obtain ⟨⟨h1, h2, h3⟩, h4, h5⟩ := id h
  obtain ⟨l1, l2⟩ := zlohi S key
  have hSl := hS.2.2
  have loop : zok (ziter (fun q : Int32 => m_X2_cutRun_L3 N k key (nI (zlo S key)) s q) N (nI (zlo S key))) (fun r => r = nI (zhi S key)) := by
    refine zok_for (zhi S key) (fun i q => q = nI i ∧ zlo S key ≤ i) ?_ ?_ (zhi S key - zlo S key) N (zlo S key) _ (by omega) ⟨rfl, Nat.le_refl _⟩ (by omega)
    · rintro i q hi ⟨rfl, hlo⟩
      show zok (m_X2_cutRun_L3 N k key (nI (zlo S key)) s (nI i)) _
      have hx : S[i]? = some S[i] := List.getElem?_eq_getElem (by omega)
      generalize S[i] = x at hx
      have e1 := (zhi_i hG hS (key := key) hx).mpr hi
      have e2 := mt (zlo_i hG hS (key := key) hx).mp (by omega)
      have e3 : zpky x = key := Int32.toInt_inj.mp (by omega)
      unfold m_X2_cutRun_L3
      rw [h2, if_neg (nI_ge (show i < S.length by omega) (by omega)), w_pairKey h3 hSl hx, Option.bind_some, if_pos e3, nI_1]
      exact zok_some ⟨rfl, by omega⟩
    · rintro q ⟨rfl, -⟩
      show zok (m_X2_cutRun_L3 N k key (nI (zlo S key)) s (nI (zhi S key))) _
      unfold m_X2_cutRun_L3
      rw [h2]
      by_cases he : zhi S key = S.length
      · rw [he, if_pos (Int32.le_refl _)]
        exact zok_some rfl
      · have hx : S[zhi S key]? = some (S[zhi S key]'(by omega)) := List.getElem?_eq_getElem (by omega)
        generalize S[zhi S key]'(by omega) = x at hx
        have e1 := mt (zhi_i hG hS (key := key) hx).mp (by omega)
        rw [if_neg (nI_ge (show zhi S key < S.length by omega) (by omega)), w_pairKey h3 hSl hx, Option.bind_some, if_neg (fun q => e1 (by rw [q]; exact Int.le_refl _))]
        exact zok_some rfl
  unfold m_X2_cutRun
  refine zok_bind loop ?_
  rintro _ rfl
  unfold m_X2_cutRun_28
  have hle := hF.2.2.2.2.1
  have e15 : s.1 (15 + 12 * k) = nI (zLe F) := (hL.moved h1).2.2.2.2.2.2.2.2.2.2.2.2.1
  have hgl : (zgls F S KS).length ≤ KS.length := by
    unfold zgls
    rw [List.length_map]
    exact List.length_filter_le _ _
  rw [e15, pk_sub l1, zgls_s]
  refine zok_ite (fun hc => ?_) (fun hc => ?_)
  · have hc := (nI_ltI (by omega) (by omega)).mp hc
    rw [if_neg (by omega), List.append_nil]
    exact zok_some ⟨rfl, h⟩
  · have hc := mt (nI_ltI (a := zhi S key - zlo S key) (b := zLe F) (by omega) (by omega)).mpr hc
    rw [if_pos (show zLe F ≤ zhi S key - zlo S key by omega), h4, if_neg (show ¬ (1080 : Int32) ≤ nI (zgls F S KS).length from nI_ge (b := 1080) (by omega) (by omega)), zwA_nI (by omega) (by omega), Option.bind_some]
    have q4 : (zsA s 5 (upd (s.2.1 5) (zgls F S KS).length key)).1 5 = nI (zgls F S KS).length := h4
    rw [q4, zwA_nI (by omega) (by omega), Option.bind_some]
    have q5 : (zsA (zsA s 5 (upd (s.2.1 5) (zgls F S KS).length key)) 6 (upd ((zsA s 5 (upd (s.2.1 5) (zgls F S KS).length key)).2.1 6) (zgls F S KS).length (nI (zlo S key)))).1 5 = nI (zgls F S KS).length := h4
    rw [q5, zwA_nI (by omega) (by omega), Option.bind_some, Option.bind_some]
    refine zok_some ⟨rfl, ⟨(((h1.trans (zpx.sA (by omega))).trans (zpx.sA (by omega))).trans (zpx.sA (by omega))).trans (zpx.sI (by omega)), ?_, h3⟩, ?_, fun i g hg => ?_⟩
    · exact h2
    · refine (zsI_at _ 5 _).trans ?_
      show s.1 5 + 1 = _
      rw [h4, nI_1, List.length_append]
      rfl
    · show upd (s.2.1 5) (zgls F S KS).length key i = g.1 ∧ upd (s.2.1 6) (zgls F S KS).length (nI (zlo S key)) i = nI g.2.1 ∧ upd (s.2.1 7) (zgls F S KS).length (nI (zhi S key)) i = nI g.2.2
      by_cases hi : i < (zgls F S KS).length
      · rw [List.getElem?_append_left hi] at hg
        rw [upd_ne _ _ (by omega), upd_ne _ _ (by omega), upd_ne _ _ (by omega)]
        exact h5 i g hg
      · rw [List.getElem?_append_right (by omega)] at hg
        have hz : i - (zgls F S KS).length < 1 := (List.getElem?_eq_some_iff.mp hg).1
        have hie : i = (zgls F S KS).length := by omega
        subst hie
        rw [Nat.sub_self] at hg
        cases hg
        exact ⟨upd_at _ _ _, upd_at _ _ _, upd_at _ _ _⟩
/-- the keys of the class's groups, in order -/
def zKS (G : zG) (F : zF) (S : List Int64) (KS : List Int32) : Prop := KS.Pairwise (fun a b => a.toInt < b.toInt) ∧ (∀ key, key ∈ KS ↔ (∃ r, r < (zRl F).length ∧ key = nI r) ∨ ∃ x, x ∈ S ∧ zpky x = key) ∧ KS.length ≤ 1086
theorem zMISS : (2000000000 : Int32).toInt = 2000000000 := by decide
theorem w_cut {N : Nat} {σ s : zS} {k : Nat} {G : zG} {F : zF} {S : List Int64} (hL : zLX σ k G F) (hG : zVG G) (hF : zVF F) (hS : zSo G F S) (hN : 3000 < N) (h : zps_ σ S s) :
    zok (m_X2_cut N s k) (fun s' => ∃ KS, zKS G F S KS ∧ zct_ σ S (zgls F S KS) s') := by
  have hR := hF.2.2.1
  have hSl := hS.2.2
  -- keys of S when the facet has ranges
  have hrk : (zRl F).length ≠ 0 → ∀ x, x ∈ S → (∃ r, r < (zRl F).length ∧ zpky x = nI r) ∨ zpky x = 2000000000 := by
    intro h0 x hx
    have hk2 : zKd F = 2 := by rcases hF.2.2.2.1 with q | q; exact absurd q h0; exact q
    obtain ⟨o, -, hk, -⟩ := zSo_el hG hS hx
    rcases zkl_mem.mp hk with q | ⟨q, -⟩
    · left
      unfold zin_ at q
      rw [Bool.and_eq_true, decide_eq_true_eq] at q
      exact zks_rng hk2 q.2
    · exact Or.inr q
  unfold m_X2_cut
  rw [Option.bind_some]
  have e0 : zct_ σ S (zgls F S []) (zsI s 5 0) := ⟨⟨h.1.trans (zpx.sI (by omega)), (zsI_ne s (k := 5) (j := 6) 0 (by omega)).trans h.2.1, h.2.2⟩, zsI_at s 5 0, fun i g hg => by cases hg⟩
  -- the ranges
  refine zok_bind (P := fun r => ∃ s' nx, r = (s', nI nx) ∧ nx ≤ S.length ∧ zct_ σ S (zgls F S ((List.range (zRl F).length).map nI)) s' ∧ (∀ i x, S[i]? = some x → i < nx → zpky x ∈ (List.range (zRl F).length).map nI) ∧ (∀ i x, S[i]? = some x → nx ≤ i → ∀ key, key ∈ (List.range (zRl F).length).map nI → key.toInt < (zpky x).toInt)) ?_ ?_
  · by_cases h0 : (zRl F).length = 0
    · rw [h0]
      refine zok_for 0 (fun i q => q = (zsI s 5 0, (0 : Int32), (0 : Int32))) (fun i q hi => absurd hi (by omega)) ?_ 0 N 0 _ rfl rfl (by omega)
      rintro q rfl
      show zok (m_X2_cut_L9 N k (zsI s 5 0) 0 0) _
      unfold m_X2_cut_L9
      have e19 : (zsI s 5 0).1 (19 + 12 * k) = nI (zRl F).length := (hL.moved e0.1.1).2.2.2.2.2.2.2.2.2.1
      rw [e19, h0, if_pos (show nI 0 ≤ (0 : Int32) from Int32.le_refl _)]
      exact zok_some ⟨zsI s 5 0, 0, rfl, Nat.zero_le _, e0, fun i x _ q => by omega, fun i x _ _ key hk => by cases hk⟩
    · have hlo0 : zlo S (nI 0) = 0 := by
        unfold zlo
        have : S.filter (fun x => decide ((zpky x).toInt < (nI 0).toInt)) = [] := by
          refine List.filter_eq_nil_iff.mpr (fun x hx q => ?_)
          have q := of_decide_eq_true q
          rw [nI_toInt (by omega)] at q
          rcases hrk h0 x hx with ⟨r, hr, e⟩ | e
          · rw [e, nI_toInt (by omega)] at q; omega
          · rw [e, zMISS] at q; omega
        rw [this]
        rfl
      have hstep : ∀ r, r < 100 → zhi S (nI r) = zlo S (nI (r + 1)) := by
        intro r hr
        unfold zhi zlo
        congr 1
        refine List.filter_congr (fun x _ => ?_)
        rw [nI_toInt (by omega), nI_toInt (by omega)]
        by_cases q : (zpky x).toInt ≤ (r : Int)
        · rw [decide_eq_true q, decide_eq_true (by omega)]
        · rw [decide_eq_false q, decide_eq_false (by omega)]
      refine zok_for (zRl F).length (fun r q => ∃ s', q = (s', nI (zlo S (nI r)), nI r) ∧ zct_ σ S (zgls F S ((List.range r).map nI)) s') ?_ ?_ _ N 0 _ (Nat.zero_add _) ⟨zsI s 5 0, by rw [hlo0]; rfl, e0⟩ (by omega)
      · rintro r q hr ⟨s', rfl, hs'⟩
        show zok (m_X2_cut_L9 N k s' (nI (zlo S (nI r))) (nI r)) _
        unfold m_X2_cut_L9
        have e19 : s'.1 (19 + 12 * k) = nI (zRl F).length := (hL.moved hs'.1.1).2.2.2.2.2.2.2.2.2.1
        rw [e19, if_neg (nI_ge hr (by omega))]
        refine zok_bind (w_cutRun hL hG hF hS hN hs' (by rw [List.length_map, List.length_range]; omega)) ?_
        rintro ⟨v, s2⟩ ⟨ev, h2⟩
        dsimp only at ev h2
        subst ev
        rw [nI_1]
        refine zok_some ⟨s2, by rw [hstep r (by omega)], ?_⟩
        rw [List.range_succ, List.map_append]
        exact h2
      · rintro q ⟨s', rfl, hs'⟩
        show zok (m_X2_cut_L9 N k s' (nI (zlo S (nI (zRl F).length))) (nI (zRl F).length)) _
        unfold m_X2_cut_L9
        have e19 : s'.1 (19 + 12 * k) = nI (zRl F).length := (hL.moved hs'.1.1).2.2.2.2.2.2.2.2.2.1
        rw [e19, if_pos (Int32.le_refl _)]
        have hll := zlohi S (nI (zRl F).length)
        refine zok_some ⟨s', _, rfl, by omega, hs', fun i x hx hi => ?_, fun i x hx hi key hk => ?_⟩
        · have q := (zlo_i hG hS hx).mpr hi
          rw [nI_toInt (by omega)] at q
          rcases hrk h0 x (List.mem_of_getElem? hx) with ⟨r, hr, e⟩ | e
          · exact List.mem_map.mpr ⟨r, List.mem_range.mpr hr, e.symm⟩
          · rw [e, zMISS] at q; omega
        · obtain ⟨r, hr, rfl⟩ := List.mem_map.mp hk
          have hr := List.mem_range.mp hr
          have q := mt (zlo_i hG hS hx).mp (show ¬ i < zlo S (nI (zRl F).length) by omega)
          rw [nI_toInt (by omega)] at q
          rw [nI_toInt (by omega)]
          omega
  · rintro _ ⟨s1, nx, rfl, hnx, hs1, hA, hB⟩
    show zok (m_X2_cut_31 N k s1 (nI nx)) _
    unfold m_X2_cut_31
    refine zok_bind (P := fun s' => ∃ KS, zKS G F S KS ∧ zct_ σ S (zgls F S KS) s') ?_ (fun m h => zok_some h)
    have hK0 : ((List.range (zRl F).length).map nI).Pairwise (fun a b => a.toInt < b.toInt) := by
      refine List.Pairwise.map nI (R := fun a b => a < b ∧ a < 100 ∧ b < 100) (fun a b q => by rw [nI_toInt (by omega), nI_toInt (by omega)]; omega) ?_
      refine List.Pairwise.imp_of_mem (R := fun a b => a < b) (fun ha hb q => ⟨q, ?_, ?_⟩) List.pairwise_lt_range
      · have := List.mem_range.mp ha; omega
      · have := List.mem_range.mp hb; omega
    refine zok_for S.length (fun p q => ∃ s' nx KS, q = (s', nI nx, nI p) ∧ p ≤ nx ∧ nx ≤ S.length ∧ zct_ σ S (zgls F S KS) s' ∧ KS.Pairwise (fun a b => a.toInt < b.toInt) ∧ KS.length ≤ 6 + p ∧ (∀ i x, S[i]? = some x → i < nx → zpky x ∈ KS) ∧ (∀ i x, S[i]? = some x → nx ≤ i → ∀ key, key ∈ KS → key.toInt < (zpky x).toInt) ∧ (∀ key, (∃ r, r < (zRl F).length ∧ key = nI r) → key ∈ KS) ∧ ∀ key, key ∈ KS → (∃ r, r < (zRl F).length ∧ key = nI r) ∨ ∃ x, x ∈ S ∧ zpky x = key) ?_ ?_ (S.length - nx) N nx _ (by omega) ⟨s1, nx, _, rfl, Nat.le_refl _, hnx, hs1, hK0, by rw [List.length_map, List.length_range]; omega, hA, hB, fun key ⟨r, hr, e⟩ => List.mem_map.mpr ⟨r, List.mem_range.mpr hr, e.symm⟩, fun key hk => by obtain ⟨r, hr, e⟩ := List.mem_map.mp hk; exact Or.inl ⟨r, List.mem_range.mp hr, e.symm⟩⟩ (by omega)
    · rintro p q hp ⟨s', nx', KS, rfl, p1, p2, p3, p4, p5, p6, p7, p8, p9⟩
      show zok (m_X2_cut_L33 N k s' (nI nx') (nI p)) _
      unfold m_X2_cut_L33 m_X2_cut_58_in33
      rw [p3.1.2.1, if_neg (nI_ge hp (by omega)), nI_1]
      refine zok_ite (fun hc => ?_) (fun hc => ?_)
      · have hc : p = nx' := (nI_eq (by omega) (by omega)).mp hc
        subst hc
        have hx : S[p]? = some S[p] := List.getElem?_eq_getElem hp
        generalize S[p] = x at hx
        rw [w_pairKey p3.1.2.2 hSl hx, Option.bind_some]
        have hlo : zlo S (zpky x) = p := by
          have a1 := mt (zlo_i hG hS (key := zpky x) hx).mpr (by omega)
          have a2 : p ≤ zlo S (zpky x) := by
            by_cases hp0 : p = 0
            · omega
            · have hy : S[p - 1]? = some (S[p - 1]'(by omega)) := List.getElem?_eq_getElem (by omega)
              generalize S[p - 1]'(by omega) = y at hy
              have := (zlo_i hG hS (key := zpky x) hy).mp (p7 p x hx (Nat.le_refl _) _ (p6 (p - 1) y hy (by omega)))
              omega
          omega
        have hKl : KS.length ≤ 6 + p := p5
        by_cases hbig : KS.length < 1080
        · rw [← hlo]
          refine zok_bind (w_cutRun hL hG hF hS hN p3 hbig) ?_
          rintro ⟨v, s2⟩ ⟨ev, h2⟩
          dsimp only at ev h2
          subst ev
          rw [hlo]
          have hhi : p < zhi S (zpky x) := (zhi_i hG hS hx).mp (Int.le_refl _)
          have hll := zlohi S (zpky x)
          refine zok_some ⟨s2, zhi S (zpky x), KS ++ [zpky x], rfl, by omega, by omega, h2, ?_, by rw [List.length_append]; show KS.length + 1 ≤ _; omega, fun i y hy hi => ?_, fun i y hy hi key hk => ?_, fun key hk => List.mem_append_left _ (p8 key hk), fun key hk => ?_⟩
          · rw [List.pairwise_append]
            refine ⟨p4, by simp, fun a ha b hb => ?_⟩
            rw [List.mem_singleton.mp hb]
            exact p7 p x hx (Nat.le_refl _) a ha
          · by_cases hip : i < p
            · exact List.mem_append_left _ (p6 i y hy hip)
            · have q1 := (zhi_i hG hS hy).mpr hi
              have q2 := mt (zlo_i hG hS (key := zpky x) hy).mp (by omega)
              have : zpky y = zpky x := Int32.toInt_inj.mp (by omega)
              rw [this]
              exact List.mem_append_right _ (List.mem_singleton.mpr rfl)
          · have q1 := mt (zhi_i hG hS (key := zpky x) hy).mp (by omega)
            rcases List.mem_append.mp hk with q | q
            · have := p7 p x hx (Nat.le_refl _) key q
              omega
            · rw [List.mem_singleton.mp q]; omega
          · rcases List.mem_append.mp hk with q | q
            · exact p9 key q
            · rw [List.mem_singleton.mp q]; exact Or.inr ⟨x, List.mem_of_getElem? hx, rfl⟩
        · -- the list of keys cannot be so long
          exfalso
          have hsub := znd_len KS (((List.range (zRl F).length).map nI) ++ (S.take p).map zpky) (List.Pairwise.imp (fun q e => by rw [e] at q; omega) p4) (fun key hk => by
            rcases p9 key hk with ⟨r, hr, e⟩ | ⟨y, hy, e⟩
            · exact List.mem_append_left _ (List.mem_map.mpr ⟨r, List.mem_range.mpr hr, e.symm⟩)
            · obtain ⟨i, hi⟩ := List.getElem?_of_mem hy
              refine List.mem_append_right _ (List.mem_map.mpr ⟨y, ?_, e⟩)
              have hip : i < p := by
                by_cases q : i < p
                · exact q
                · have := p7 i y hi (by omega) key hk
                  rw [e] at this
                  omega
              exact List.mem_of_getElem? (i := i) (by rw [List.getElem?_take_of_lt hip]; exact hi))
          rw [List.length_append, List.length_map, List.length_range, List.length_map, List.length_take] at hsub
          have hr0 : (zRl F).length ≠ 0 := by omega
          have hk6 := znd_len KS (((List.range (zRl F).length).map nI) ++ [2000000000]) (List.Pairwise.imp (fun q e => by rw [e] at q; omega) p4) (fun key hk => by
            rcases p9 key hk with ⟨r, hr, e⟩ | ⟨y, hy, e⟩
            · exact List.mem_append_left _ (List.mem_map.mpr ⟨r, List.mem_range.mpr hr, e.symm⟩)
            · rcases hrk hr0 y hy with ⟨r, hr, e2⟩ | e2
              · exact List.mem_append_left _ (List.mem_map.mpr ⟨r, List.mem_range.mpr hr, by rw [← e, e2]⟩)
              · exact List.mem_append_right _ (List.mem_singleton.mpr (by rw [← e, e2])))
          rw [List.length_append, List.length_map, List.length_range] at hk6
          have : ([2000000000] : List Int32).length = 1 := rfl
          omega
      · have hc : ¬ p = nx' := fun q => hc (by rw [q])
        exact zok_some ⟨s', nx', KS, rfl, by omega, p2, p3, p4, by omega, p6, p7, p8, p9⟩
    · rintro q ⟨s', nx', KS, rfl, p1, p2, p3, p4, p5, p6, p7, p8, p9⟩
      show zok (m_X2_cut_L33 N k s' (nI nx') (nI S.length)) _
      unfold m_X2_cut_L33
      rw [p3.1.2.1, if_pos (Int32.le_refl _)]
      refine zok_some ⟨KS, ⟨p4, fun key => ⟨p9 key, ?_⟩, by omega⟩, p3⟩
      rintro (q | ⟨x, hx, rfl⟩)
      · exact p8 key q
      · obtain ⟨i, hi⟩ := List.getElem?_of_mem hx
        have := (List.getElem?_eq_some_iff.mp hi).1
        exact p6 i x hi (by omega)
