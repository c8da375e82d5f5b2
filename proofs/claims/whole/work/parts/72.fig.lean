/-! figure and place -/
/-- what both hold of the values that are asked for -/
def zsmp (N : Nat) (σ μ : zS) (v1 v2 : Int32) (c : Nat) : Prop :=
  (∃ s m, m_X8_sampleIsTaken N σ v1 v2 (nI c) = some (0, s) ∧ m_X9_findRow N μ v1 v2 (nI c) = some (0, m) ∧ zRE s m ∧ zRE s μ) ∨
  ∃ s s0 m m0 V R, m_X8_sampleIsTaken N σ v1 v2 (nI c) = some (1, s) ∧ m_X9_findRow N μ v1 v2 (nI c) = some (1, m) ∧ zsp s0 V s ∧ zro m0 R m ∧ zle_ R ∧ R.Perm V ∧ V.length ≤ 360 ∧ (∀ s', zsame s s' → zRE s' m ∧ zRE s' μ)
theorem w_sample {N : Nat} {σ μ : zS} (h : zRE σ μ) (hN : 3000 < N) (v1 v2 : Int32) {c : Nat} (hc : c ≤ 5) : zsmp N σ μ v1 v2 c := by
  obtain ⟨n, cn, vs, mt, FL, e, d, hd0⟩ := h
  have hn := hd0.2.1.2.2.2.2.2.2.2.2.1
  have hs7 : zsame σ (zsI σ 7 0) := ⟨fun j hj => zsI_ne σ _ hj, rfl, rfl, rfl⟩
  have hd : zREd (zsI σ 7 0) μ n cn vs mt FL e d := zREd.same hd0 hs7
  obtain ⟨hF, hD, hH, hC⟩ := id hd
  have hG := hD.VG e d
  have h7 : (zsI σ 7 0).1 7 = 0 := zsI_at σ 7 0
  have col : m_X8_isColumn N σ (nI c) = some 1 := by
    rcases w_col (N := N) (σ := σ) (μ := μ) (nI c) with ⟨-, -, -, q, -⟩ | ⟨-, q⟩
    · exact q
    · unfold m_X9_isColumn at q
      rcases w_idx (N := N) (μ := μ) (n := 6) (by omega) (nI c) with ⟨-, -, -, -, -, q3⟩ | ⟨q2, -⟩
      · have q3 : m_X9_within N μ (nI c) 0 5 = some 1 := q3
        rw [q3] at q
        cases q
      · rcases q2 with q2 | ⟨-, q2⟩
        · exact absurd q2 (nI_pos (by omega))
        · exact absurd q2 (nI_ge (by omega) (by omega))
  unfold zsmp m_X8_sampleIsTaken m_X7_startOver m_X9_findRow
  rw [col, Option.bind_some, if_neg (show ¬ (1 : Int32) = 0 by decide)]
  have eb : (((some (zsI σ 7 0)).bind fun σ1 => some σ1) : Option zS) = some (zsI σ 7 0) := rfl
  rw [eb, Option.bind_some]
  by_cases hv : v2 = -2000000000
  · rw [if_pos hv, if_pos hv]
    right
    obtain ⟨s, es, hs⟩ := w_smpH (v1 := v1) (v2 := v2) hD hH hN hc h7
    obtain ⟨⟨r, m⟩, em, hr, R, hR, hle, hp⟩ := w_rows (N := N) (m0 := μ) (v1 := v1) (v2 := v2) (c := c) (P := fun o => mt o && decide (e ≤ d o)) hG hN hD.2.1 hD.2.2.2.1 hD.2.2.2.2.2.1 hc (fun R m o hm ho => by
      unfold m_X9_findRow_L25
      have e0 : m.1 0 = nI n := hm.pm.1.trans hD.2.1
      have ho : o < n := ho
      rw [e0, if_neg (nI_ge ho (by omega)), if_pos hv, zpm_atHand hm.pm, (zR_has hD hH ho).2, Option.bind_some])
    dsimp only at hr hR
    subst hr
    rw [es, Option.bind_some, em]
    have hvl := zvo_len hG c ((List.range n).filter (fun o => mt o && decide (e ≤ d o)))
    have hfl : ((List.range n).filter (fun o => mt o && decide (e ≤ d o))).length ≤ n := Nat.le_trans (List.length_filter_le _ _) (by rw [List.length_range]; exact Nat.le_refl _)
    refine ⟨s, _, m, μ, _, R, rfl, rfl, hs, hR, hle, hp, by omega, fun s' hs' => ?_⟩
    have h1 := hd.same (hs.same.trans hs')
    exact ⟨(h1.pm hR.pm).re, h1.re⟩
  · rw [if_neg hv, if_neg hv]
    unfold m_X9_isGroup
    rcases w_grp hF hD hH hC hN v1 with ⟨q1, q2⟩ | ⟨k, F, L, s, m, hk, rfl, hk10, hV, q1, q2, q3, hpx, hpm, hL, hCL, hr, hGM, r1, r2, r3, r4⟩
    · left
      rw [q1, q2, Option.bind_some, Option.bind_some, if_pos rfl, Option.bind_some, if_pos rfl]
      exact ⟨_, _, rfl, rfl, hd.re, hd.re⟩
    obtain ⟨g1, g2, g3⟩ := w_refg hG hV hN hr hL hGM
    have hds : zREd s m n cn vs mt FL e d := ⟨r1, r2, r3, r4⟩
    have hds0 : zREd s μ n cn vs mt FL e d := ⟨hF.qx hpx.qx, hD.qx hpx.qx, hH.px hpx, r4⟩
    rw [q1, q2, q3, Option.bind_some, Option.bind_some, Option.bind_some, if_neg (show ¬ (1 : Int32) = 0 by decide)]
    have s7 : s.1 7 = 0 := (hpx.1 7 (by omega)).trans h7
    rcases (w_hasg (N := N) hCL.1 g1 g2 v2).symm with ⟨f1, f2⟩ | ⟨i, key, hi, hil, rfl, f1, f2⟩
    · left
      refine ⟨s, m, ?_, ?_, hds.re, hds0.re⟩
      · show ((m_X2_has N s v2).bind _) = _
        rw [f1, Option.bind_some, if_pos rfl]
      · rw [f2, Option.bind_some, if_pos rfl]
    right
    obtain ⟨a1, a2, a3, a4⟩ := g3 i key hi
    obtain ⟨-, -, b3, -⟩ := w_read (N := N) hG hCL hi
    obtain ⟨s2, es, hs⟩ := w_smpG (v1 := nI k) (c := c) hG hN r2.2.2.1 r2.2.2.2.2.1 hCL hi hc s7
    obtain ⟨⟨r, m2⟩, em, hr2, R, hR, hle, hp⟩ := w_rows (N := N) (m0 := m) (v1 := nI k) (v2 := nI i) (c := c) (P := fun o => decide (o ∈ zob (zGG n cn vs mt e d) F key)) hG hN r2.2.1 r2.2.2.2.1 r2.2.2.2.2.2.1 hc (fun R m' o hm ho => by
      unfold m_X9_findRow_L25
      have e0 : m'.1 0 = nI n := hm.pm.1.trans r2.2.1
      have ho' : o < n := ho
      have hin : m_X9_isIn N m' (nI k) (nI i) (nI o) = some (zbo (decide (o ∈ zob (zGG n cn vs mt e d) F key))) := by
        obtain ⟨g, rfl, -⟩ := hm
        have hr' : zrdy μ k (zGG n cn vs mt e d) F (zsA (zsI m 6 (nI R.length)) 24 g) := hr.moved' ((zpm.sI (by omega)).trans (zpm.sA (by omega))) rfl rfl
        have hM' : zGM (zGG n cn vs mt e d) F (zsA (zsI m 6 (nI R.length)) 24 g) L := hGM
        exact ((w_refg hG hV hN hr' hL hM').2.2 i key hi).2.2.1 o ho
      rw [e0, if_neg (nI_ge ho' (by omega)), if_neg (znone10 (by omega)), hin, Option.bind_some])
    dsimp only at hr2 hR
    subst hr2
    have hfe : (List.range n).filter (fun o => decide (o ∈ zob (zGG n cn vs mt e d) F key)) = zob (zGG n cn vs mt e d) F key := by
      show _ = (List.range n).filter (fun o => decide (key ∈ zkl (zGG n cn vs mt e d) F o))
      refine List.filter_congr (fun o ho => ?_)
      exact decide_eq_decide.mpr ⟨fun q => (zob_mem.mp q).2, fun q => zob_mem.mpr ⟨List.mem_range.mp ho, q⟩⟩
    have hp : R.Perm (zvo (zGG n cn vs mt e d) c ((List.range n).filter (fun o => decide (o ∈ zob (zGG n cn vs mt e d) F key)))) := hp
    rw [hfe] at hp
    have hvl := zvo_len hG c (zob (zGG n cn vs mt e d) F key)
    have hol := zob_len (F := F) hG key
    refine ⟨s2, s, m2, m, _, R, ?_, ?_, hs, hR, hle, hp, by omega, fun s' hs' => ?_⟩
    · show ((m_X2_has N s (nI i)).bind _) = _
      rw [f1, Option.bind_some, if_neg (show ¬ (1 : Int32) = 0 by decide)]
      show ((m_X2_sizeOf N s (nI i)).bind _) = _
      rw [b3, Option.bind_some]
      show ((ziter _ N (s, (0 : Int32))).bind _) = _
      rw [es, Option.bind_some]
      rfl
    · rw [f2, Option.bind_some, if_neg (show ¬ (1 : Int32) = 0 by decide), em]
    · have ht := hs.same.trans hs'
      exact ⟨((hds.same ht).pm hR.pm).re, (hds0.same ht).re⟩
theorem zperm_le : ∀ {l1 l2 : List Int64}, l1.Pairwise (fun a b => a.toInt ≤ b.toInt) → l2.Pairwise (fun a b => a.toInt ≤ b.toInt) → l1.Perm l2 → l1 = l2
  | [], l2, _, _, h => (List.nil_perm.mp h).symm
  | a :: l1, [], _, _, h => absurd (List.perm_nil.mp h) (by simp)
  | a :: l1, b :: l2, h1, h2, h => by
    obtain ⟨p1, q1⟩ := List.pairwise_cons.mp h1
    obtain ⟨p2, q2⟩ := List.pairwise_cons.mp h2
    have hab : a.toInt = b.toInt := by
      have h3 : a.toInt ≤ b.toInt := by
        rcases List.mem_cons.mp (h.mem_iff.mpr List.mem_cons_self) with e | e
        · rw [e]; exact Int.le_refl _
        · exact p1 b e
      have h4 : b.toInt ≤ a.toInt := by
        rcases List.mem_cons.mp (h.mem_iff.mp List.mem_cons_self) with e | e
        · rw [e]; exact Int.le_refl _
        · exact p2 a e
      omega
    have hab : a = b := Int64.toInt_inj.mp hab
    subst hab
    rw [zperm_le q1 q2 (List.Perm.cons_inv h)]
theorem w_ssort {N : Nat} {s0 s : zS} {V R : List Int32} (hN : 3000 < N) (hs : zsp s0 V s) (hR : zle_ R) (hp : R.Perm V) (hl : V.length ≤ 360) : zok (m_X5_sort N s 3 (nI V.length)) (fun s' => zsame s s' ∧ s'.1 7 = nI V.length ∧ zpreL (s'.2.2 3) (R.map Int32.toInt64)) := by
  obtain ⟨g, rfl, hg⟩ := hs
  have hz : zln 3 = 360 := rfl
  refine zok_mono (w_sort (σ := zsI (zsL s0 3 g) 7 (nI V.length)) (n := V.length) (j := 3) (Or.inr (Or.inr rfl)) (by omega) (by omega)) ?_
  rintro s2 ⟨g0, f, rfl, k1, k2, k3⟩
  have e3 : (zsI (zsL s0 3 g) 7 (nI V.length)).2.2 3 = g := zsL_at s0 3 g
  rw [e3] at k3
  have hmp : (List.range V.length).map g = V.map Int32.toInt64 := by
    have := zmap_pre hg
    rw [List.length_map] at this
    exact this
  have hperm : ((List.range V.length).map f).Perm (R.map Int32.toInt64) := by
    refine List.Perm.trans ?_ (hp.map Int32.toInt64).symm
    rw [← hmp, List.perm_iff_count]
    intro a
    have := k3 (fun x => x == a)
    rw [zcn_cp, zcn_cp] at this
    exact this
  have heq : (List.range V.length).map f = R.map Int32.toInt64 := by
    refine zperm_le ?_ ?_ hperm
    · rw [List.pairwise_iff_getElem]
      intro i j hi hj hij
      rw [List.length_map, List.length_range] at hi hj
      rw [List.getElem_map, List.getElem_map, List.getElem_range, List.getElem_range]
      exact Int64.le_iff_toInt_le.mp (k2 i j (by omega) (by omega) (by omega))
    · refine List.Pairwise.map Int32.toInt64 (R := fun (a b : Int32) => a.toInt ≤ b.toInt) (fun a b q => ?_) hR
      rw [Int32.toInt_toInt64, Int32.toInt_toInt64]
      exact q
  refine ⟨⟨fun j _ => rfl, rfl, ?_, ?_⟩, zsI_at (zsL s0 3 g) 7 _, fun i x hx => ?_⟩
  · unfold zst
    rw [zsL_ne (zsL (zsI (zsL s0 3 g) 7 (nI V.length)) 0 g0) (j := 1) (k := 3) f (by omega), zsL_ne (zsI (zsL s0 3 g) 7 (nI V.length)) (j := 1) (k := 0) g0 (by omega)]
  · unfold zst
    rw [zsL_ne (zsL (zsI (zsL s0 3 g) 7 (nI V.length)) 0 g0) (j := 2) (k := 3) f (by omega), zsL_ne (zsI (zsL s0 3 g) 7 (nI V.length)) (j := 2) (k := 0) g0 (by omega)]
  · rw [zst_j]
    rw [← heq, List.getElem?_map] at hx
    have hi : i < V.length := by
      by_cases q : i < V.length
      · exact q
      · rw [List.getElem?_eq_none (by simp; omega)] at hx; cases hx
    rw [List.getElem?_range hi] at hx
    exact Option.some.inj hx
theorem w_atPlace {N : Nat} {s0 s : zS} {V R : List Int32} {p : Nat} (hN : 3000 < N) (hs : zsp s0 V s) (hR : zle_ R) (hp : R.Perm V) (hl : V.length ≤ 360) (hp1 : 1 ≤ p) (hp2 : p < 2 ^ 30) : zok (m_X7_atPlace N s (nI p)) (fun r => r.1 = (R[p - 1]?).getD (-2000000000) ∧ zsame s r.2) := by
  have h7 : s.1 7 = nI V.length := by
    obtain ⟨g, rfl, -⟩ := hs
    exact zsI_at (zsL s0 3 g) 7 _
  have hRl := hp.length_eq
  unfold m_X7_atPlace
  rw [if_neg (show ¬ nI p < (1 : Int32) from nI_nlt (b := 1) hp1 (by omega)), h7]
  refine zok_ite (fun q => ?_) (fun q => ?_)
  · have q := (nI_leI (by omega) (by omega)).mp q
    refine zok_bind (w_ssort hN hs hR hp hl) ?_
    rintro s2 ⟨a1, a2, a3⟩
    have hx : R[p - 1]? = some (R[p - 1]'(by omega)) := List.getElem?_eq_getElem (by omega)
    generalize R[p - 1]'(by omega) = x at hx
    have hf : s2.2.2 3 (p - 1) = x.toInt64 := a3 (p - 1) x.toInt64 (by rw [List.getElem?_map, hx]; rfl)
    obtain ⟨t, rfl⟩ : ∃ t, p = t + 1 := ⟨p - 1, by omega⟩
    have hf : s2.2.2 3 t = x.toInt64 := hf
    rw [nI_pred, zrd_nI (by omega) (by omega), Option.bind_some, hf, hx]
    refine zok_some ⟨?_, a1⟩
    show x.toInt64.toInt32 = x
    apply Int32.toInt_inj.mp
    rw [Int64.toInt_toInt32, Int32.toInt_toInt64]
    have := Int32.toInt_lt x
    have := Int32.le_toInt x
    exact Int.bmod_eq_of_le (by omega) (by omega)
  · have q := mt (nI_leI (a := p) (b := V.length) (by omega) (by omega)).mpr q
    rw [List.getElem?_eq_none (by omega)]
    exact zok_some ⟨rfl, fun _ _ => rfl, rfl, rfl, rfl⟩
