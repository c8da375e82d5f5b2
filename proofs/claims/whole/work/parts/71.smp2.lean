/-! the sample is taken, the row is found -/
def zsame (s0 s : zS) : Prop := (∀ j, j ≠ 7 → s.1 j = s0.1 j) ∧ s.2.1 = s0.2.1 ∧ s.2.2 1 = s0.2.2 1 ∧ s.2.2 2 = s0.2.2 2
theorem zsame.trans {a b c : zS} (h1 : zsame a b) (h2 : zsame b c) : zsame a c := ⟨fun j hj => (h2.1 j hj).trans (h1.1 j hj), h2.2.1.trans h1.2.1, h2.2.2.1.trans h1.2.2.1, h2.2.2.2.trans h1.2.2.2⟩
theorem zsp.same {s0 s : zS} {V : List Int32} (h : zsp s0 V s) : zsame s0 s := by
  obtain ⟨g, rfl, -⟩ := h
  exact ⟨fun j hj => zsI_ne (zsL s0 3 g) _ hj, rfl, zsL_ne s0 g (by omega), zsL_ne s0 g (by omega)⟩
def zREd (σ μ : zS) (n : Nat) (cn vs : Nat → Int32) (mt : Nat → Bool) (FL : List zF) (e : Nat) (d : Nat → Nat) : Prop := zFs σ μ FL ∧ zDs σ μ n cn vs mt ∧ zHs σ μ n mt e d ∧ zCs σ (zGG n cn vs mt e d) FL
theorem zREd.same {s s' μ : zS} {n : Nat} {cn vs : Nat → Int32} {mt : Nat → Bool} {FL : List zF} {e : Nat} {d : Nat → Nat} (h : zREd s μ n cn vs mt FL e d) (hs : zsame s s') : zREd s' μ n cn vs mt FL e d := by
  obtain ⟨h1, h2, h3, h4⟩ := h
  obtain ⟨a1, a2, a3, a4⟩ := hs
  have hq : zqx s s' := ⟨fun j hj => a1 j (by omega), fun j _ => by rw [a2]⟩
  refine ⟨h1.qx hq, h2.qx hq, ?_, ?_⟩
  · obtain ⟨c1, c2, c3, c4, c5⟩ := h3
    exact ⟨c1, (a1 3 (by omega)).trans c2, c3, fun o ho => by rw [a2]; exact c4 o ho, c5⟩
  · rcases h4 with h4 | ⟨k, F, L, q1, q2, q3, q4⟩
    · exact Or.inl ((a1 1 (by omega)).trans h4)
    · exact Or.inr ⟨k, F, L, q1, (a1 1 (by omega)).trans q2, q3, q4.moved (a1 5 (by omega)) (by rw [a2]) (by rw [a2]) (by rw [a2]) a3 a4⟩
theorem zREd.pm {s μ μ' : zS} {n : Nat} {cn vs : Nat → Int32} {mt : Nat → Bool} {FL : List zF} {e : Nat} {d : Nat → Nat} (h : zREd s μ n cn vs mt FL e d) (hq : zpm μ μ') : zREd s μ' n cn vs mt FL e d := ⟨h.1.pm hq, h.2.1.pm hq, h.2.2.1.pm hq, h.2.2.2⟩
theorem zREd.re {s μ : zS} {n : Nat} {cn vs : Nat → Int32} {mt : Nat → Bool} {FL : List zF} {e : Nat} {d : Nat → Nat} (h : zREd s μ n cn vs mt FL e d) : zRE s μ := ⟨n, cn, vs, mt, FL, e, d, h⟩
theorem zro.pm {m0 m : zS} {R : List Int32} (h : zro m0 R m) : zpm m0 m := by
  obtain ⟨g, rfl, -⟩ := h
  exact (zpm.sI (by omega)).trans (zpm.sA (by omega))
theorem zsI_self (σ : zS) (k : Nat) : zsI σ k (σ.1 k) = σ := by
  unfold zsI
  rw [zup_self]
theorem zsp_nil {s : zS} (h : s.1 7 = 0) : zsp s [] s := by
  refine ⟨s.2.2 3, ?_, fun i x hx => by cases hx⟩
  rw [zsL_self]
  have e : nI ([] : List Int32).length = s.1 7 := h.symm
  rw [e, zsI_self]
theorem w_rows {N : Nat} {m0 : zS} {G : zG} {P : Nat → Bool} {v1 v2 : Int32} {c : Nat} (hG : zVG G) (hN : 3000 < N) (h0 : m0.1 0 = nI G.1) (hcn : m0.2.1 0 = G.2.1) (hvs : m0.2.1 1 = G.2.2.1) (hc : c ≤ 5)
    (hin : ∀ R m o, zro m0 R m → o < G.1 → m_X9_findRow_L25 N v1 v2 (nI c) m (nI o) = m_X9_findRow_57_in25 N v1 v2 (nI c) m (nI o) (zbo (P o))) :
    zok (m_X9_findRow_17 N v1 v2 (nI c) m0) (fun r => r.1 = 1 ∧ ∃ R, zro m0 R r.2 ∧ zle_ R ∧ R.Perm (zvo G c ((List.range G.1).filter P))) := by
  have hG1 := hG.1
  unfold m_X9_findRow_17
  rw [Option.bind_some]
  refine zok_bind (P := fun m => ∃ R, zro m0 R m ∧ zle_ R ∧ R.Perm (zvo G c ((List.range G.1).filter P))) ?_ (fun m h => zok_some ⟨rfl, h⟩)
  refine zok_for G.1 (fun i q => ∃ m R, q = (m, nI i) ∧ zro m0 R m ∧ zle_ R ∧ R.Perm (zvo G c ((List.range i).filter P)) ∧ R.length ≤ 3 * i) ?_ ?_ _ N 0 _ (Nat.zero_add _) ⟨zsI m0 6 0, [], rfl, ⟨(zsI m0 6 0).2.1 24, (zsA_self (zsI m0 6 0) 24).symm, zpre.nil⟩, List.Pairwise.nil, List.Perm.refl _, Nat.le_refl _⟩ (by omega)
  · rintro i q hi ⟨m, R, rfl, hm, hR, hp, hl⟩
    show zok (m_X9_findRow_L25 N v1 v2 (nI c) m (nI i)) _
    rw [hin R m i hm hi]
    unfold m_X9_findRow_57_in25
    obtain ⟨k, hk, hcm⟩ := hG.2.1 (6 * i + c)
    have hlen := zvl_len (vs := G.2.2.1) hcm (by omega)
    have e6 : (6 : Int32) * nI i = nI (6 * i) := pk_mul 6 i
    have e3 : (3 : Int32) * nI (6 * i + c) = nI (3 * (6 * i + c)) := pk_mul 3 _
    have rd : ∀ R m, zro m0 R m → m.2.1 0 = G.2.1 ∧ m.2.1 1 = G.2.2.1 := by
      rintro R m ⟨g, rfl, -⟩
      exact ⟨hcn, hvs⟩
    have hstep : (List.range (i + 1)).filter P = (List.range i).filter P ++ (if P i = true then [i] else []) := by
      rw [List.range_succ, List.filter_append]
      congr 1
      by_cases q : P i = true
      · rw [if_pos q, List.filter_cons_of_pos q]; rfl
      · rw [if_neg q, List.filter_cons_of_neg q]; rfl
    refine zok_bind (P := fun m' => ∃ R', zro m0 R' m' ∧ zle_ R' ∧ R'.Perm (zvo G c ((List.range (i + 1)).filter P)) ∧ R'.length ≤ 3 * (i + 1)) ?_ ?_
    · cases hP : P i
      · refine zok_for 0 (fun j q => q = (m, nI 0)) (fun j q hj => absurd hj (by omega)) ?_ 0 N 0 _ rfl rfl (by omega)
        rintro q rfl
        show zok (m_X9_findRow_L62 N v1 v2 (nI c) (nI i) (zbo false) m (nI 0)) _
        unfold m_X9_findRow_L62
        rw [(rd R m hm).1, e6, nI_add, zrd_nI (by omega) (by omega), Option.bind_some]
        have fin : zok (some (Sum.inr m) : Option ((zS × Int32) ⊕ zS)) (Sum.elim (fun _ => False) (fun m' => ∃ R', zro m0 R' m' ∧ zle_ R' ∧ R'.Perm (zvo G c ((List.range (i + 1)).filter P)) ∧ R'.length ≤ 3 * (i + 1))) := by
          refine zok_some ⟨R, hm, hR, ?_, by omega⟩
          rw [hstep, if_neg (by rw [hP]; decide), List.append_nil]
          exact hp
        refine zok_ite (fun _ => fin) (fun _ => ?_)
        rw [if_pos (show zbo false = 0 from rfl)]
        exact fin
      · refine zok_for k (fun j q => ∃ m' R', q = (m', nI j) ∧ zro m0 R' m' ∧ zle_ R' ∧ R'.Perm (zvo G c ((List.range i).filter P) ++ (zvl G.2.1 G.2.2.1 i c).take j) ∧ R'.length = R.length + j) ?_ ?_ k N 0 _ (by omega) ⟨m, R, rfl, hm, hR, by rw [List.take_zero, List.append_nil]; exact hp, rfl⟩ (by omega)
        · rintro j q hj ⟨m', R', rfl, a1, a2, a3, a4⟩
          show zok (m_X9_findRow_L62 N v1 v2 (nI c) (nI i) (zbo true) m' (nI j)) _
          unfold m_X9_findRow_L62
          rw [(rd R' m' a1).1, e6, nI_add, zrd_nI (by omega) (by omega), Option.bind_some, hcm, if_neg (nI_ge hj (by omega)), if_neg (show ¬ zbo true = 0 by decide), e3, nI_add, (rd R' m' a1).2, zrd_nI (by omega) (by omega), Option.bind_some]
          refine zok_bind (w_lay hN a1 a2 (by omega)) ?_
          rintro m2 ⟨R2, b1, b2, b3, b4⟩
          rw [nI_1]
          refine zok_some ⟨m2, R2, rfl, b1, b2, ?_, by omega⟩
          rw [ztake (zvl_get hcm (by omega) hj), ← List.append_assoc]
          exact b3.trans (a3.append_right _)
        · rintro q ⟨m', R', rfl, a1, a2, a3, a4⟩
          show zok (m_X9_findRow_L62 N v1 v2 (nI c) (nI i) (zbo true) m' (nI k)) _
          unfold m_X9_findRow_L62
          rw [(rd R' m' a1).1, e6, nI_add, zrd_nI (by omega) (by omega), Option.bind_some, hcm, if_pos (Int32.le_refl _)]
          refine zok_some ⟨R', a1, a2, ?_, by omega⟩
          rw [hstep, if_pos hP, zvo_app]
          rw [List.take_of_length_le (by omega)] at a3
          exact a3
    · rintro m' ⟨R', a1, a2, a3, a4⟩
      unfold m_X9_findRow_111_in25
      rw [nI_1]
      exact zok_some ⟨m', R', rfl, a1, a2, a3, a4⟩
  · rintro q ⟨m, R, rfl, hm, hR, hp, hl⟩
    show zok (m_X9_findRow_L25 N v1 v2 (nI c) m (nI G.1)) _
    unfold m_X9_findRow_L25
    have e0 : m.1 0 = nI G.1 := hm.pm.1.trans h0
    rw [e0, if_pos (Int32.le_refl _)]
    exact zok_some ⟨R, hm, hR, hp⟩
theorem w_smpH {N : Nat} {σ μ : zS} {n : Nat} {cn vs : Nat → Int32} {mt : Nat → Bool} {e : Nat} {d : Nat → Nat} {v1 v2 : Int32} {c : Nat} (hD : zDs σ μ n cn vs mt) (hH : zHs σ μ n mt e d) (hN : 3000 < N) (hc : c ≤ 5) (h7 : σ.1 7 = 0) :
    zok (ziter (fun q : zS × Int32 => m_X8_sampleIsTaken_L25 N v1 v2 (nI c) q.1 q.2) N (σ, (0 : Int32))) (zsp σ (zvo (zGG n cn vs mt e d) c ((List.range n).filter (fun o => mt o && decide (e ≤ d o))))) := by
  have hG := hD.VG e d
  have hn := hD.2.2.2.2.2.2.2.2.1
  refine zok_for n (fun i q => ∃ s, q = (s, nI i) ∧ zsp σ (zvo (zGG n cn vs mt e d) c ((List.range i).filter (fun o => mt o && decide (e ≤ d o)))) s) ?_ ?_ _ N 0 _ (Nat.zero_add _) ⟨σ, rfl, zsp_nil h7⟩ (by omega)
  · rintro i q hi ⟨s, rfl, hs⟩
    show zok (m_X8_sampleIsTaken_L25 N v1 v2 (nI c) s (nI i)) _
    have hsm := hs.same
    have e2 : s.1 2 = nI n := (hsm.1 2 (by omega)).trans hD.1
    have eh : m_X3_has N s (nI i) = m_X3_has N σ (nI i) := by
      unfold m_X3_has
      rw [hsm.1 3 (by omega), hsm.2.1]
    have hstep : (List.range (i + 1)).filter (fun o => mt o && decide (e ≤ d o)) = (List.range i).filter (fun o => mt o && decide (e ≤ d o)) ++ (if (mt i && decide (e ≤ d i)) = true then [i] else []) := by
      rw [List.range_succ, List.filter_append]
      congr 1
      by_cases q : (mt i && decide (e ≤ d i)) = true
      · rw [if_pos q, List.filter_cons_of_pos (p := fun o => mt o && decide (e ≤ d o)) q]; rfl
      · rw [if_neg q, List.filter_cons_of_neg (p := fun o => mt o && decide (e ≤ d o)) q]; rfl
    have hvl := zvo_len hG c ((List.range i).filter (fun o => mt o && decide (e ≤ d o)))
    have hfl : ((List.range i).filter (fun o => mt o && decide (e ≤ d o))).length ≤ i := Nat.le_trans (List.length_filter_le _ _) (by rw [List.length_range]; exact Nat.le_refl _)
    unfold m_X8_sampleIsTaken_L25 m_X8_sampleIsTaken_63_in25
    rw [e2, if_neg (nI_ge hi (by omega)), eh, (zR_has hD hH hi).1, Option.bind_some, nI_1]
    cases hp : (mt i && decide (e ≤ d i))
    · rw [if_pos (show zbo false = 0 from rfl)]
      refine zok_some ⟨s, rfl, ?_⟩
      rw [hstep, hp, if_neg (by decide), List.append_nil]
      exact hs
    · rw [if_neg (show ¬ zbo true = 0 by decide)]
      refine zok_bind (w_take (G := zGG n cn vs mt e d) hG hN hD.2.2.1 hD.2.2.2.2.1 hs (by omega) hc (by omega)) ?_
      intro s2 hs2
      refine zok_some ⟨s2, rfl, ?_⟩
      rw [hstep, hp, if_pos rfl, zvo_app]
      exact hs2
  · rintro q ⟨s, rfl, hs⟩
    show zok (m_X8_sampleIsTaken_L25 N v1 v2 (nI c) s (nI n)) _
    have e2 : s.1 2 = nI n := (hs.same.1 2 (by omega)).trans hD.1
    unfold m_X8_sampleIsTaken_L25
    rw [e2, if_pos (Int32.le_refl _)]
    exact zok_some hs
theorem w_smpG {N : Nat} {s0 : zS} {G : zG} {F : zF} {K : List Int32} {i c : Nat} {key v1 : Int32} (hG : zVG G) (hN : 3000 < N) (h2 : s0.2.1 2 = G.2.1) (h1 : s0.2.1 1 = G.2.2.1) (h : zCL G F s0 K) (hi : K[i]? = some key) (hc : c ≤ 5) (h7 : s0.1 7 = 0) :
    zok (ziter (fun q : zS × Int32 => m_X8_sampleIsTaken_L105 N v1 (nI i) (nI c) (nI (zob G F key).length) q.1 q.2) N (s0, (0 : Int32))) (zsp s0 (zvo G c (zob G F key))) := by
  have hG1 := hG.1
  have hl := zob_len (F := F) hG key
  refine zok_for (zob G F key).length (fun j q => ∃ s, q = (s, nI j) ∧ zsp s0 (zvo G c ((zob G F key).take j)) s) ?_ ?_ _ N 0 _ (Nat.zero_add _) ⟨s0, rfl, by rw [List.take_zero]; exact zsp_nil h7⟩ (by omega)
  · rintro j q hj ⟨s, rfl, hs⟩
    show zok (m_X8_sampleIsTaken_L105 N v1 (nI i) (nI c) (nI (zob G F key).length) s (nI j)) _
    have hx : (zob G F key)[j]? = some (zob G F key)[j] := List.getElem?_eq_getElem hj
    generalize (zob G F key)[j] = x at hx
    have hxn := (zob_mem.mp (List.mem_of_getElem? hx)).1
    have hsm := hs.same
    have h' : zCL G F s K := h.moved (hsm.1 5 (by omega)) (by rw [hsm.2.1]) (by rw [hsm.2.1]) (by rw [hsm.2.1]) hsm.2.2.1 hsm.2.2.2
    obtain ⟨-, -, -, b4⟩ := w_read (N := N) hG h' hi
    have hvl := zvo_len hG c ((zob G F key).take j)
    rw [List.length_take] at hvl
    unfold m_X8_sampleIsTaken_L105
    rw [if_neg (nI_ge hj (by omega)), b4 j x hx, Option.bind_some]
    refine zok_bind (w_take hG hN h2 h1 hs (by omega) hc (by omega)) ?_
    intro s2 hs2
    rw [nI_1]
    refine zok_some ⟨s2, rfl, ?_⟩
    rw [ztake hx, zvo_app]
    exact hs2
  · rintro q ⟨s, rfl, hs⟩
    show zok (m_X8_sampleIsTaken_L105 N v1 (nI i) (nI c) (nI (zob G F key).length) s (nI (zob G F key).length)) _
    unfold m_X8_sampleIsTaken_L105
    rw [if_pos (Int32.le_refl _)]
    rw [List.take_of_length_le (Nat.le_refl _)] at hs
    exact zok_some hs
