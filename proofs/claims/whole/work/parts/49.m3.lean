/-! the reference: candidates, sizes, order -/
theorem zkv_le3 (F : zF) (h2 : zKd F ≠ 2) (v : Int32) : (zkv F v).length ≤ 3 := by
  unfold zkv
  repeat' split
  · show 1 ≤ 3; omega
  · unfold zkp
    repeat' split
    all_goals (simp only [List.length_append, List.length_nil, List.length_cons]; omega)
  · show 1 ≤ 3; omega
  · unfold zkd
    split
    · show 0 ≤ 3; omega
    · show 1 ≤ 3; omega
theorem zlen_flat3 (F : zF) (h2 : zKd F ≠ 2) : ∀ l : List Int32, (l.flatMap (zkv F)).length ≤ 3 * l.length
  | [] => by simp
  | v :: l => by
    rw [List.flatMap_cons, List.length_append, List.length_cons]
    have := zkv_le3 F h2 v
    have := zlen_flat3 F h2 l
    omega
theorem zks_le9 {G : zG} {F : zF} (hG : zVG G) (h2 : zKd F ≠ 2) (o : Nat) : (zks G F o).length ≤ 9 := by
  obtain ⟨c, hc, e⟩ := hG.2.1 (6 * o + zCo F)
  have h1 := zlen_flat3 F h2 (zvl G.2.1 G.2.2.1 o (zCo F))
  rw [zvl_len e (by omega)] at h1
  unfold zks
  omega
theorem zks_rng {G : zG} {F : zF} (h2 : zKd F = 2) {o : Nat} {key : Int32} (hk : key ∈ zks G F o) : ∃ r, r < (zRl F).length ∧ key = nI r := by
  unfold zks at hk
  obtain ⟨v, -, hv⟩ := List.mem_flatMap.mp hk
  unfold zkv at hv
  rw [if_neg (by omega), if_neg (by omega), if_pos h2] at hv
  unfold zkr at hv
  obtain ⟨r, hr, rfl⟩ := List.mem_map.mp hv
  exact ⟨r, List.mem_range.mp (List.mem_filter.mp hr).1, rfl⟩
theorem zfk_keys {N : Nat} {μ : zS} {f : Nat} {G : zG} {F : zF} (hL : zLM μ f G F) (hG : zVG G) (hF : zVF F) (hN : 3000 < N) :
    zok (m_X9_findKeys N μ (nI f)) (fun m => zpm μ m ∧ m.1 5 = μ.1 5 ∧ ∃ C : List Int32, m.1 4 = nI C.length ∧ zpre (m.2.1 19) 0 C ∧ C.Nodup ∧ C.length ≤ 1086 ∧ (∀ key, key ∈ C ↔ zcd G F key) ∧ ∀ o, o < G.1 → zko m o (zks G F o)) := by
  obtain ⟨a1, a2, a3, a4, a5, a6, a7, a8, a9, a10, a11, a12, a13, a14, a15, a16⟩ := id hL
  have hr6 := hF.2.2.1
  have hn := hG.1
  unfold m_X9_findKeys
  rw [Option.bind_some]
  -- the ranges first
  refine zok_bind (P := fun m => zpm μ m ∧ m.1 5 = μ.1 5 ∧ m.1 4 = nI (zRl F).length ∧ zpre (m.2.1 19) 0 ((List.range (zRl F).length).map nI)) ?_ ?_
  · refine zok_for (zRl F).length (fun i s => ∃ m, s = (m, nI i) ∧ zpm μ m ∧ m.1 5 = μ.1 5 ∧ m.1 4 = nI i ∧ zpre (m.2.1 19) 0 ((List.range i).map nI)) ?_ ?_ _ N 0 _ (Nat.zero_add _) ⟨_, rfl, zpm.sI (by omega), zsI_ne _ _ (by omega), zsI_at _ _ _, zpre.nil⟩ (by omega)
    · rintro i s hi ⟨m, rfl, h1, h5, h2, h3⟩
      show zok (m_X9_findKeys_L7 N (nI f) m (nI i)) _
      unfold m_X9_findKeys_L7
      rw [h1.2.2.2 7 (by omega), zrd_nI a1 (by omega), Option.bind_some, a10, if_neg (nI_ge hi (by omega)), h2, zwA_nI (by omega) (by omega), Option.bind_some, Option.bind_some, nI_1]
      refine zok_some ⟨_, rfl, (h1.trans (zpm.sA (by omega))).trans (zpm.sI (by omega)), ?_, ?_, ?_⟩
      · rw [zsI_ne _ _ (by omega)]; exact h5
      · rw [zsI_at]
        show m.1 4 + 1 = _
        rw [h2, nI_1]
      · show zpre ((zsA m 19 _).2.1 19) 0 _
        rw [zsA_at, List.range_succ, List.map_append]
        have := h3.snoc (x := nI i)
        rw [Nat.zero_add, List.length_map, List.length_range] at this
        exact this
    · rintro s ⟨m, rfl, h1, h5, h2, h3⟩
      show zok (m_X9_findKeys_L7 N (nI f) m (nI (zRl F).length)) _
      unfold m_X9_findKeys_L7
      rw [h1.2.2.2 7 (by omega), zrd_nI a1 (by omega), Option.bind_some, a10, if_pos (Int32.le_refl _)]
      exact zok_some ⟨h1, h5, h2, h3⟩
  · rintro m0 ⟨h1, h5, h2, h3⟩
    unfold m_X9_findKeys_43
    refine zok_bind (P := fun m => zpm μ m ∧ m.1 5 = μ.1 5 ∧ ∃ C : List Int32, m.1 4 = nI C.length ∧ zpre (m.2.1 19) 0 C ∧ C.Nodup ∧ C.length ≤ 1086 ∧ (∀ key, key ∈ C ↔ zcd G F key) ∧ ∀ o, o < G.1 → zko m o (zks G F o)) ?_ (fun m h => zok_some h)
    -- what holds when the objects below o have been seen
    refine zok_for G.1 (fun o s => ∃ m, s = (m, nI o) ∧ zpm μ m ∧ m.1 5 = μ.1 5 ∧ ∃ C : List Int32, m.1 4 = nI C.length ∧ zpre (m.2.1 19) 0 C ∧ C.Nodup ∧ ((zKd F = 2 ∧ C.length ≤ 6) ∨ (zKd F ≠ 2 ∧ C.length ≤ 6 + 9 * o)) ∧ (∀ key, key ∈ C ↔ (∃ r, r < (zRl F).length ∧ key = nI r) ∨ ∃ o', o' < o ∧ zin_ G F key o' = true) ∧ ∀ o', o' < o → zko m o' (zks G F o')) ?_ ?_ _ N 0 _ (Nat.zero_add _) ⟨m0, rfl, h1, h5, (List.range (zRl F).length).map nI, by rw [List.length_map, List.length_range]; exact h2, h3, ?_, ?_, ?_, fun o' h => by omega⟩ (by omega)
    · rintro o s ho ⟨m, rfl, p1, p5, C, c1, c2, c3, c4, c5, c6⟩
      show zok (m_X9_findKeys_L45 N (nI f) m (nI o)) _
      unfold m_X9_findKeys_L45
      rw [p1.1, a2, if_neg (nI_ge ho (by omega))]
      refine zok_bind (w_findKeysOf (hL.moved p1) hG hF (by omega) hN) ?_
      rintro m2 ⟨k1, k2, k3⟩
      have p2 := p1.trans k1.1
      rw [w_counts (hL.moved p2) hG hF (by omega) (by omega), Option.bind_some]
      have hl18 := zks_le hG hF o
      -- the object's keys
      refine zok_bind (P := fun m3 => zpm μ m3 ∧ m3.1 5 = μ.1 5 ∧ m3.2.1 21 = m2.2.1 21 ∧ m3.2.1 22 = m2.2.1 22 ∧ ∃ C3 : List Int32, m3.1 4 = nI C3.length ∧ zpre (m3.2.1 19) 0 C3 ∧ C3.Nodup ∧ ((zKd F = 2 ∧ C3.length ≤ 6) ∨ (zKd F ≠ 2 ∧ C3.length ≤ 6 + 9 * (o + 1))) ∧ (∀ key, key ∈ C3 ↔ key ∈ C ∨ zin_ G F key o = true)) ?_ ?_
      · refine zok_for (zks G F o).length (fun i s => ∃ m3, s = (m3, nI i) ∧ zpm μ m3 ∧ m3.1 5 = μ.1 5 ∧ m3.2.1 21 = m2.2.1 21 ∧ m3.2.1 22 = m2.2.1 22 ∧ ∃ C3 : List Int32, m3.1 4 = nI C3.length ∧ zpre (m3.2.1 19) 0 C3 ∧ C3.Nodup ∧ ((zKd F = 2 ∧ C3.length ≤ 6) ∨ (zKd F ≠ 2 ∧ C3.length ≤ 6 + 9 * o + i)) ∧ (∀ key, key ∈ C3 ↔ key ∈ C ∨ (zct G F o = true ∧ key ∈ (zks G F o).take i))) ?_ ?_ _ N 0 _ (Nat.zero_add _) ⟨m2, rfl, p2, by rw [k1.2.2.1]; exact p5, rfl, rfl, C, by rw [k1.2.1]; exact c1, by rw [k1.2.2.2.2.1]; exact c2, c3, by omega, fun key => by rw [List.take_zero]; simp⟩ (by omega)
        · rintro i s hi ⟨m3, rfl, q1, q5, q21, q22, C3, d1, d2, d3, d4, d5⟩
          show zok (m_X9_findKeys_L69 N (nI f) (nI o) (zbo (zct G F o)) m3 (nI i)) _
          unfold m_X9_findKeys_L69
          have hx : (zks G F o)[i]? = some (zks G F o)[i] := List.getElem?_eq_getElem hi
          have hmem : (zks G F o)[i] ∈ zks G F o := List.getElem_mem hi
          generalize (zks G F o)[i] = x at hx hmem
          rw [q21, zrd_nI (show o < 120 by omega) (by omega), Option.bind_some, k2.1, if_neg (nI_ge hi (by omega))]
          cases hct : zct G F o
          · rw [if_pos (show zbo false = 0 from rfl)]
            refine zok_some ⟨q1, q5, q21, q22, C3, d1, d2, d3, ?_, fun key => ?_⟩
            · rcases d4 with d4 | ⟨d4, d6⟩
              · exact Or.inl d4
              · exact Or.inr ⟨d4, by have := zks_le9 hG d4 o; omega⟩
            · rw [d5 key, hct]
              unfold zin_
              rw [hct]
              simp
          · rw [if_neg (show ¬ zbo true = 0 by decide)]
            have e18 : (18 : Int32) * nI o = nI (18 * o) := pk_mul 18 o
            have hC3 : C3.length ≤ 1086 := by
              rcases d4 with d4 | ⟨d4, d6⟩
              · omega
              · have := zks_le9 hG d4 o; omega
            rw [e18, nI_add, q22, zrd_nI (by omega) (by omega), Option.bind_some, k2.2 i x hx, w_isNew d1 d2 (by omega) (by omega), Option.bind_some]
            have em : ∀ key, key ∈ (zks G F o).take (i + 1) ↔ key ∈ (zks G F o).take i ∨ key = x := fun key => by rw [ztake hx, List.mem_append, List.mem_singleton]
            unfold m_X9_findKeys_134_in69
            by_cases hnew : x ∈ C3
            · rw [decide_eq_false (fun q => q hnew), if_pos (show zbo false = 0 from rfl), nI_1]
              refine zok_some ⟨m3, rfl, q1, q5, q21, q22, C3, d1, d2, d3, by omega, fun key => ?_⟩
              rw [d5 key, em key]
              constructor
              · rintro (h | ⟨h, h'⟩)
                · exact Or.inl h
                · exact Or.inr ⟨rfl, Or.inl h'⟩
              · rintro (h | ⟨h, h' | h'⟩)
                · exact Or.inl h
                · exact Or.inr ⟨hct, h'⟩
                · rw [h']; exact (d5 x).mp hnew
            · rw [decide_eq_true (show x ∉ C3 from hnew), if_neg (show ¬ zbo true = 0 by decide), Option.bind_some, d1, zwA_nI (by omega) (by omega), Option.bind_some, Option.bind_some, nI_1]
              have hk2 : zKd F ≠ 2 := by
                intro hk2
                obtain ⟨r, hr, e⟩ := zks_rng hk2 hmem
                exact hnew ((d5 x).mpr (Or.inl ((c5 x).mpr (Or.inl ⟨r, hr, e⟩))))
              refine zok_some ⟨_, rfl, (q1.trans (zpm.sA (by omega))).trans (zpm.sI (by omega)), ?_, ?_, ?_, C3 ++ [x], ?_, ?_, ?_, ?_, fun key => ?_⟩
              · rw [zsI_ne _ _ (by omega)]; exact q5
              · show (zsA m3 19 _).2.1 21 = _; rw [zsA_ne _ _ (by omega)]; exact q21
              · show (zsA m3 19 _).2.1 22 = _; rw [zsA_ne _ _ (by omega)]; exact q22
              · rw [zsI_at]
                show m3.1 4 + 1 = _
                rw [d1, nI_1, List.length_append]
                rfl
              · show zpre ((zsA m3 19 _).2.1 19) 0 _
                rw [zsA_at]
                have := d2.snoc (x := x)
                rw [Nat.zero_add] at this
                exact this
              · exact List.nodup_append.mpr ⟨d3, by simp, fun a ha b hb => by rw [List.mem_singleton.mp hb]; exact fun e => hnew (e ▸ ha)⟩
              · refine Or.inr ⟨hk2, ?_⟩
                rw [List.length_append]
                show C3.length + 1 ≤ _
                omega
              · rw [List.mem_append, List.mem_singleton, d5 key, em key]
                constructor
                · rintro ((h | ⟨h, h'⟩) | h)
                  · exact Or.inl h
                  · exact Or.inr ⟨rfl, Or.inl h'⟩
                  · exact Or.inr ⟨rfl, Or.inr h⟩
                · rintro (h | ⟨h, h' | h'⟩)
                  · exact Or.inl (Or.inl h)
                  · exact Or.inl (Or.inr ⟨hct, h'⟩)
                  · exact Or.inr h'
        · rintro s ⟨m3, rfl, q1, q5, q21, q22, C3, d1, d2, d3, d4, d5⟩
          show zok (m_X9_findKeys_L69 N (nI f) (nI o) (zbo (zct G F o)) m3 (nI (zks G F o).length)) _
          unfold m_X9_findKeys_L69
          rw [q21, zrd_nI (show o < 120 by omega) (by omega), Option.bind_some, k2.1, if_pos (Int32.le_refl _)]
          refine zok_some ⟨q1, q5, q21, q22, C3, d1, d2, d3, ?_, fun key => ?_⟩
          · rcases d4 with d4 | ⟨d4, d6⟩
            · exact Or.inl d4
            · exact Or.inr ⟨d4, by have := zks_le9 hG d4 o; omega⟩
          · rw [d5 key, List.take_of_length_le (Nat.le_refl _)]
            unfold zin_
            rw [Bool.and_eq_true, decide_eq_true_eq]
      · rintro m3 ⟨q1, q5, q21, q22, C3, d1, d2, d3, d4, d5⟩
        unfold m_X9_findKeys_140_in45
        rw [nI_1]
        refine zok_some ⟨m3, rfl, q1, q5, C3, d1, d2, d3, d4, fun key => ?_, fun o' ho' => ?_⟩
        · rw [d5 key, c5 key]
          constructor
          · rintro ((h | ⟨o', h, h'⟩) | h)
            · exact Or.inl h
            · exact Or.inr ⟨o', by omega, h'⟩
            · exact Or.inr ⟨o, by omega, h⟩
          · rintro (h | ⟨o', h, h'⟩)
            · exact Or.inl (Or.inl h)
            · by_cases e : o' = o
              · subst e; exact Or.inr h'
              · exact Or.inl (Or.inr ⟨o', by omega, h'⟩)
        · unfold zko
          rw [q21, q22]
          by_cases e : o' = o
          · subst e; exact k2
          · have hk := c6 o' (by omega)
            refine ⟨by rw [k3.1 o' e]; exact hk.1, fun i x hx => ?_⟩
            have h1 := (List.getElem?_eq_some_iff.mp hx).1
            have h2 := zks_le hG hF o'
            rw [k3.2 _ (by omega)]
            exact hk.2 i x hx
    · rintro s ⟨m, rfl, p1, p5, C, c1, c2, c3, c4, c5, c6⟩
      show zok (m_X9_findKeys_L45 N (nI f) m (nI G.1)) _
      unfold m_X9_findKeys_L45
      rw [p1.1, a2, if_pos (Int32.le_refl _)]
      exact zok_some ⟨p1, p5, C, c1, c2, c3, by omega, c5, c6⟩
    · refine List.Pairwise.map nI (R := fun a b => a ≠ b ∧ a < 100 ∧ b < 100) (fun a b h e => h.1 ((nI_eq (by omega) (by omega)).mp e)) ?_
      refine List.Pairwise.imp_of_mem (R := fun a b => a < b) (fun ha hb h => ⟨by omega, ?_, ?_⟩) List.pairwise_lt_range
      · have := List.mem_range.mp ha; omega
      · have := List.mem_range.mp hb; omega
    · rw [List.length_map, List.length_range]
      by_cases h : zKd F = 2
      · exact Or.inl ⟨h, hr6⟩
      · exact Or.inr ⟨h, by omega⟩
    · intro key
      rw [List.mem_map]
      constructor
      · rintro ⟨r, h, rfl⟩
        exact Or.inl ⟨r, List.mem_range.mp h, rfl⟩
      · rintro (⟨r, h, rfl⟩ | ⟨o', h, -⟩)
        · exact ⟨r, List.mem_range.mpr h, rfl⟩
        · omega
