/-! the reference: all keys, and which object has which -/
/-- keyMany and keyOf hold the keys of object o -/
def zko (m : zS) (o : Nat) (L : List Int32) : Prop := m.2.1 21 o = nI L.length ∧ zpre (m.2.1 22) (18 * o) L
theorem zlen_flat (F : zF) (hF : zVF F) : ∀ l : List Int32, (l.flatMap (zkv F)).length ≤ 6 * l.length
  | [] => by simp
  | v :: l => by
    rw [List.flatMap_cons, List.length_append, List.length_cons]
    have := zkv_le F hF v
    have := zlen_flat F hF l
    omega
theorem zks_le {G : zG} {F : zF} (hG : zVG G) (hF : zVF F) (o : Nat) : (zks G F o).length ≤ 18 := by
  obtain ⟨c, hc, e⟩ := hG.2.1 (6 * o + zCo F)
  have h1 := zlen_flat F hF (zvl G.2.1 G.2.2.1 o (zCo F))
  rw [zvl_len e (by omega)] at h1
  unfold zks
  omega
/-- what else the search for keys leaves: all but these -/
def zkeep (m m' : zS) : Prop := zpm m m' ∧ m'.1 4 = m.1 4 ∧ m'.1 5 = m.1 5 ∧ m'.1 6 = m.1 6 ∧ m'.2.1 19 = m.2.1 19 ∧ m'.2.1 20 = m.2.1 20 ∧ m'.2.1 23 = m.2.1 23 ∧ m'.2.1 24 = m.2.1 24 ∧ m'.2.2 = m.2.2
theorem zkeep.rfl' {m : zS} : zkeep m m := ⟨zpm.rfl', rfl, rfl, rfl, rfl, rfl, rfl, rfl, rfl⟩
theorem zkeep.trans {a b c : zS} (h : zkeep a b) (k : zkeep b c) : zkeep a c := by
  obtain ⟨h1, h2, h3, h4, h5, h6, h7, h8, h9⟩ := h
  obtain ⟨k1, k2, k3, k4, k5, k6, k7, k8, k9⟩ := k
  exact ⟨h1.trans k1, k2.trans h2, k3.trans h3, k4.trans h4, k5.trans h5, k6.trans h6, k7.trans h7, k8.trans h8, k9.trans h9⟩
theorem zkeep.sA {m : zS} {j : Nat} {f : Nat → Int32} (hj : j = 18 ∨ j = 21 ∨ j = 22) : zkeep m (zsA m j f) :=
  ⟨zpm.sA (by omega), rfl, rfl, rfl, zsA_ne _ _ (by omega), zsA_ne _ _ (by omega), zsA_ne _ _ (by omega), zsA_ne _ _ (by omega), rfl⟩
theorem zkeep.sI {m : zS} {v : Int32} : zkeep m (zsI m 3 v) := ⟨zpm.sI (by omega), zsI_ne _ _ (by omega), zsI_ne _ _ (by omega), zsI_ne _ _ (by omega), rfl, rfl, rfl, rfl, rfl⟩
theorem zgk.keep {μ m : zS} {L : List Int32} (h : zgk μ L m) : zkeep μ m := by
  obtain ⟨ky, rfl, -⟩ := h
  exact zkeep.sI.trans (zkeep.sA (by omega))
theorem zgk.ko {μ m : zS} {L : List Int32} (h : zgk μ L m) : m.2.1 21 = μ.2.1 21 ∧ m.2.1 22 = μ.2.1 22 := by
  obtain ⟨ky, rfl, -⟩ := h
  exact ⟨zsA_ne _ _ (by omega), zsA_ne _ _ (by omega)⟩
/-- between two states: only object o's keys changed -/
def zoth (o : Nat) (m m' : zS) : Prop := (∀ i, i ≠ o → m'.2.1 21 i = m.2.1 21 i) ∧ ∀ i, (i < 18 * o ∨ 18 * o + 18 ≤ i) → m'.2.1 22 i = m.2.1 22 i
theorem zoth.trans {o : Nat} {a b c : zS} (h : zoth o a b) (k : zoth o b c) : zoth o a c := ⟨fun i hi => (k.1 i hi).trans (h.1 i hi), fun i hi => (k.2 i hi).trans (h.2 i hi)⟩
theorem w_findKeysOf {N : Nat} {μ : zS} {f o : Nat} {G : zG} {F : zF} (hL : zLM μ f G F) (hG : zVG G) (hF : zVF F) (ho : o < 120) (hN : 3000 < N) :
    zok (m_X9_findKeysOf N μ (nI f) (nI o)) (fun m => zkeep μ m ∧ zko m o (zks G F o) ∧ zoth o μ m) := by
  obtain ⟨a1, a2, a3, a4, a5, a6, a7, a8, a9, a10, a11, a12, a13, a14, a15, a16⟩ := id hL
  obtain ⟨c, hc, hcm⟩ := hG.2.1 (6 * o + zCo F)
  have hco := hF.2.1
  have hlen := zvl_len (vs := G.2.2.1) hcm (by omega)
  unfold m_X9_findKeysOf
  have e6 : (6 : Int32) * nI o = nI (6 * o) := pk_mul 6 o
  rw [zrd_nI a1 (by omega), Option.bind_some, zwA_nI ho (by omega), Option.bind_some, a7, e6, nI_add]
  have hb2 : ∀ i, i ≤ c → (((zvl G.2.1 G.2.2.1 o (zCo F)).take i).flatMap (zkv F)).length ≤ 6 * i := by
    intro i hi
    have := zlen_flat F hF ((zvl G.2.1 G.2.2.1 o (zCo F)).take i)
    rw [List.length_take, hlen] at this
    omega
  refine zok_bind (P := fun m => zkeep μ m ∧ zko m o (zks G F o) ∧ zoth o μ m) ?_ (fun m h => zok_some h)
  refine zok_for c (fun i s => ∃ m, s = (m, nI i) ∧ zkeep μ m ∧ zko m o (((zvl G.2.1 G.2.2.1 o (zCo F)).take i).flatMap (zkv F)) ∧ zoth o μ m) ?_ ?_ c N 0 _ (by omega) ⟨_, rfl, zkeep.sA (by omega), ⟨?_, zpre.nil⟩, ⟨fun i hi => ?_, fun i hi => ?_⟩⟩ (by omega)
  · rintro i s hi ⟨m, rfl, hm, hk, ht⟩
    show zok (m_X9_findKeysOf_L22 N (nI f) (nI o) (nI (6 * o + zCo F)) m (nI i)) _
    unfold m_X9_findKeysOf_L22
    have hp := hm.1
    have e3 : (3 : Int32) * nI (6 * o + zCo F) = nI (3 * (6 * o + zCo F)) := pk_mul 3 _
    rw [hp.2.2.2 0 (by omega), hp.2.2.2 1 (by omega), a3, a4, zrd_nI (by omega) (by omega), Option.bind_some, hcm, if_neg (nI_ge hi (by omega)), e3, nI_add, zrd_nI (by omega) (by omega), Option.bind_some]
    refine zok_bind (w_giveKeys (hL.moved hp) hF hN) ?_
    intro m2 g2
    have hkeep2 := g2.keep
    have hko2 := g2.ko
    obtain ⟨ky, em2, hky⟩ := g2
    have hv := zkv_le F hF (G.2.2.1 (3 * (6 * o + zCo F) + i))
    have hb := hb2 i (by omega)
    have eg : m2.1 3 = nI (zkv F (G.2.2.1 (3 * (6 * o + zCo F) + i))).length := by rw [em2]; exact zsI_at m 3 _
    have ek : m2.2.1 18 = ky := by rw [em2]; exact zsA_at _ _ _
    -- copying the keys given
    refine zok_bind (P := fun m3 => zkeep m2 m3 ∧ zko m3 o (((zvl G.2.1 G.2.2.1 o (zCo F)).take i).flatMap (zkv F) ++ zkv F (G.2.2.1 (3 * (6 * o + zCo F) + i))) ∧ zoth o m2 m3) ?_ ?_
    · refine zok_for (zkv F (G.2.2.1 (3 * (6 * o + zCo F) + i))).length (fun t s => ∃ m3, s = (m3, nI t) ∧ m3.1 3 = nI (zkv F (G.2.2.1 (3 * (6 * o + zCo F) + i))).length ∧ m3.2.1 18 = ky ∧ zkeep m2 m3 ∧ zko m3 o (((zvl G.2.1 G.2.2.1 o (zCo F)).take i).flatMap (zkv F) ++ (zkv F (G.2.2.1 (3 * (6 * o + zCo F) + i))).take t) ∧ zoth o m2 m3) ?_ ?_ _ N 0 _ (Nat.zero_add _) ⟨m2, rfl, eg, ek, zkeep.rfl', ?_, ⟨fun _ _ => rfl, fun _ _ => rfl⟩⟩ (by omega)
      · rintro t s ht2 ⟨m3, rfl, q1, q2, q3, ⟨q4, q5⟩, q6⟩
        show zok (m_X9_findKeysOf_L52 N (nI f) (nI o) (nI (6 * o + zCo F)) (nI i) m3 (nI t)) _
        unfold m_X9_findKeysOf_L52
        have hx : (zkv F (G.2.2.1 (3 * (6 * o + zCo F) + i)))[t]? = some (zkv F (G.2.2.1 (3 * (6 * o + zCo F) + i)))[t] := List.getElem?_eq_getElem ht2
        generalize (zkv F (G.2.2.1 (3 * (6 * o + zCo F) + i)))[t] = x at hx
        have hkt : ky t = x := by have := hky t x hx; rw [Nat.zero_add] at this; exact this
        have e18 : (18 : Int32) * nI o = nI (18 * o) := pk_mul 18 o
        have hl3 : (((zvl G.2.1 G.2.2.1 o (zCo F)).take i).flatMap (zkv F) ++ (zkv F (G.2.2.1 (3 * (6 * o + zCo F) + i))).take t).length ≤ 6 * i + t := by
          rw [List.length_append, List.length_take]
          omega
        rw [q1, if_neg (nI_ge ht2 (by omega)), zrd_nI ho (by omega), Option.bind_some, q4, zrd_nI (show t < 6 by omega) (by omega), Option.bind_some, q2, hkt, e18, nI_add, zwA_nI (by omega) (by omega), Option.bind_some]
        have e21 : (zsA m3 22 (upd (m3.2.1 22) (18 * o + (((zvl G.2.1 G.2.2.1 o (zCo F)).take i).flatMap (zkv F) ++ (zkv F (G.2.2.1 (3 * (6 * o + zCo F) + i))).take t).length) x)).2.1 21 = m3.2.1 21 := zsA_ne _ _ (by omega)
        rw [e21, zrd_nI ho (by omega), Option.bind_some, q4, nI_1, zwA_nI ho (by omega), Option.bind_some, e21, nI_1]
        refine zok_some ⟨_, rfl, q1, ?_, q3.trans ((zkeep.sA (by omega)).trans (zkeep.sA (by omega))), ⟨?_, ?_⟩, ?_⟩
        · rw [zsA_ne _ _ (by omega), zsA_ne _ _ (by omega)]; exact q2
        · rw [zsA_at, upd_at, ztake hx, ← List.append_assoc]
          simp only [List.length_append, List.length_cons, List.length_nil, Nat.zero_add]
        · rw [zsA_ne _ _ (by omega), zsA_at, ztake hx, ← List.append_assoc]
          exact q5.snoc
        · refine q6.trans ⟨fun j hj => ?_, fun j hj => ?_⟩
          · rw [zsA_at, upd_ne _ _ hj]
          · rw [zsA_ne _ _ (by omega), zsA_at, upd_ne _ _ (by omega)]
      · rintro s ⟨m3, rfl, q1, q2, q3, q4, q6⟩
        show zok (m_X9_findKeysOf_L52 N (nI f) (nI o) (nI (6 * o + zCo F)) (nI i) m3 (nI _)) _
        unfold m_X9_findKeysOf_L52
        rw [q1, if_pos (Int32.le_refl _)]
        rw [List.take_of_length_le (Nat.le_refl _)] at q4
        exact zok_some ⟨q3, q4, q6⟩
      · rw [List.take_zero, List.append_nil]
        exact ⟨by rw [hko2.1]; exact hk.1, by rw [hko2.2]; exact hk.2⟩
    · rintro m3 ⟨q3, q4, q6⟩
      unfold m_X9_findKeysOf_100_in22
      rw [nI_1]
      refine zok_some ⟨m3, rfl, (hm.trans hkeep2).trans q3, ?_, ht.trans (zoth.trans ⟨fun j _ => by rw [hko2.1], fun j _ => by rw [hko2.2]⟩ q6)⟩
      rw [ztake (zvl_get hcm (by omega) hi), List.flatMap_append, List.flatMap_cons, List.flatMap_nil, List.append_nil]
      exact q4
  · rintro s ⟨m, rfl, hm, hk, ht⟩
    show zok (m_X9_findKeysOf_L22 N (nI f) (nI o) (nI (6 * o + zCo F)) m (nI c)) _
    unfold m_X9_findKeysOf_L22
    rw [hm.1.2.2.2 0 (by omega), a3, zrd_nI (by omega) (by omega), Option.bind_some, hcm, if_pos (Int32.le_refl _)]
    rw [List.take_of_length_le (by omega)] at hk
    exact zok_some ⟨hm, hk, ht⟩
  · rw [zsA_at, upd_at]; rfl
  · rw [zsA_at, upd_ne _ _ hi]
  · rw [zsA_ne _ _ (by omega)]
theorem w_hasKey {N : Nat} {m : zS} {o : Nat} {key : Int32} {L : List Int32} (hk : zko m o L) (hl : L.length ≤ 18) (ho : o < 120) (hN : 100 < N) : m_X9_hasKey N m (nI o) key = some (zbo (decide (key ∈ L))) := by
  have main : zok (ziter (fun q : Int32 × Int32 => m_X9_hasKey_L5 N m (nI o) key q.1 q.2) N ((0 : Int32), (0 : Int32))) (fun r => r = zbo (decide (key ∈ L))) := by
    refine zok_for L.length (fun i s => s = (zbo (decide (key ∈ L.take i)), nI i)) ?_ ?_ _ N 0 _ (Nat.zero_add _) (by simp [zbo, nI_0]) (by omega)
    · rintro i s hi rfl
      show zok (m_X9_hasKey_L5 N m (nI o) key _ (nI i)) _
      have hx : L[i]? = some L[i] := List.getElem?_eq_getElem hi
      generalize L[i] = x at hx
      unfold m_X9_hasKey_L5 m_X9_hasKey_36_in5 m_X9_hasKey_41_in5
      have e18 : (18 : Int32) * nI o = nI (18 * o) := pk_mul 18 o
      rw [zrd_nI ho (by omega), Option.bind_some, hk.1, if_neg (nI_ge hi (by omega)), e18, nI_add, zrd_nI (by omega) (by omega), Option.bind_some, hk.2 i x hx, nI_1]
      have em : key ∈ L.take (i + 1) ↔ key ∈ L.take i ∨ key = x := by rw [ztake hx, List.mem_append, List.mem_singleton]
      by_cases h1 : key ∈ L.take i
      · rw [decide_eq_true h1, if_neg (show ¬ zbo true = 0 by decide)]
        refine zok_some ?_
        show _ = (zbo (decide (key ∈ L.take (i + 1))), _)
        rw [decide_eq_true (em.mpr (Or.inl h1))]
        rfl
      · rw [decide_eq_false h1, if_pos (show zbo false = 0 from rfl)]
        by_cases h2 : x = key
        · rw [if_pos h2]
          refine zok_some ?_
          show _ = (zbo (decide (key ∈ L.take (i + 1))), _)
          rw [decide_eq_true (em.mpr (Or.inr h2.symm))]
          rfl
        · rw [if_neg h2]
          refine zok_some ?_
          show _ = (zbo (decide (key ∈ L.take (i + 1))), _)
          rw [decide_eq_false (fun q => (em.mp q).elim h1 (fun q => h2 q.symm))]
          rfl
    · rintro s rfl
      show zok (m_X9_hasKey_L5 N m (nI o) key _ (nI L.length)) _
      unfold m_X9_hasKey_L5
      rw [zrd_nI ho (by omega), Option.bind_some, hk.1, if_pos (Int32.le_refl _)]
      refine zok_some ?_
      show _ = _
      rw [List.take_of_length_le (Nat.le_refl _)]
  obtain ⟨r, e, rfl⟩ := main
  unfold m_X9_hasKey m_X9_hasKey_48
  rw [e, Option.bind_some, zcz_zbo]
  rfl
theorem w_isNew {N : Nat} {m : zS} {key : Int32} {L : List Int32} (h1 : m.1 4 = nI L.length) (h2 : zpre (m.2.1 19) 0 L) (hl : L.length ≤ 1100) (hN : 1200 < N) : m_X9_isNew N m key = some (zbo (decide (key ∉ L))) := by
  have main : zok (ziter (fun q : Int32 × Int32 => m_X9_isNew_L4 N m key q.1 q.2) N ((1 : Int32), (0 : Int32))) (fun r => r = zbo (decide (key ∉ L))) := by
    refine zok_for L.length (fun i s => s = (zbo (decide (key ∉ L.take i)), nI i)) ?_ ?_ _ N 0 _ (Nat.zero_add _) (by simp [zbo, nI_0]) (by omega)
    · rintro i s hi rfl
      show zok (m_X9_isNew_L4 N m key _ (nI i)) _
      have hx : L[i]? = some L[i] := List.getElem?_eq_getElem hi
      generalize L[i] = x at hx
      have hx2 := h2 i x hx
      rw [Nat.zero_add] at hx2
      unfold m_X9_isNew_L4 m_X9_isNew_30_in4 m_X9_isNew_31_in4
      rw [h1, if_neg (nI_ge hi (by omega)), zrd_nI (by omega) (by omega), Option.bind_some, hx2, nI_1]
      have em : key ∈ L.take (i + 1) ↔ key ∈ L.take i ∨ key = x := by rw [ztake hx, List.mem_append, List.mem_singleton]
      by_cases h1 : key ∈ L.take i
      · rw [decide_eq_false (fun q => q h1), if_pos (show zbo false = 0 from rfl)]
        refine zok_some ?_
        show _ = (zbo (decide (key ∉ L.take (i + 1))), _)
        rw [decide_eq_false (fun q => q (em.mpr (Or.inl h1)))]
        rfl
      · rw [decide_eq_true h1, if_neg (show ¬ zbo true = 0 by decide)]
        by_cases h2 : x = key
        · rw [if_pos h2]
          refine zok_some ?_
          show _ = (zbo (decide (key ∉ L.take (i + 1))), _)
          rw [decide_eq_false (fun q => q (em.mpr (Or.inr h2.symm)))]
          rfl
        · rw [if_neg h2]
          refine zok_some ?_
          show _ = (zbo (decide (key ∉ L.take (i + 1))), _)
          rw [decide_eq_true (show key ∉ L.take (i + 1) from fun q => (em.mp q).elim h1 (fun q => h2 q.symm))]
          rfl
    · rintro s rfl
      show zok (m_X9_isNew_L4 N m key _ (nI L.length)) _
      unfold m_X9_isNew_L4
      rw [h1, if_pos (Int32.le_refl _)]
      refine zok_some ?_
      show _ = _
      rw [List.take_of_length_le (Nat.le_refl _)]
  obtain ⟨r, e, rfl⟩ := main
  unfold m_X9_isNew m_X9_isNew_38
  rw [e, Option.bind_some, zcz_zbo]
  rfl
