/-! the class: keys of an object -/
def zLX (σ : zS) (k : Nat) (G : zG) (F : zF) : Prop :=
  k < 10 ∧ σ.1 2 = nI G.1 ∧ σ.2.1 2 = G.2.1 ∧ σ.2.1 1 = G.2.2.1 ∧ (∀ (N o : Nat), o < G.1 → m_X3_has N σ (nI o) = some (zbo (G.2.2.2 o))) ∧
  σ.1 (8 + 12 * k) = nI (zKd F) ∧ σ.1 (9 + 12 * k) = nI (zCo F) ∧ σ.1 (10 + 12 * k) = zFa F ∧ σ.1 (11 + 12 * k) = zFb F ∧ σ.1 (19 + 12 * k) = nI (zRl F).length ∧ (∀ r, r < (zRl F).length → (σ.2.1 (8 + k) r, σ.2.1 (18 + k) r) = (zRl F).getD r (0, 0)) ∧
  (match zFl F with
    | none => σ.1 (12 + 12 * k) = -2000000000
    | some q => σ.1 (12 + 12 * k) = nI q.1 ∧ σ.1 (13 + 12 * k) = q.2.1 ∧ σ.1 (14 + 12 * k) = q.2.2) ∧
  σ.1 (15 + 12 * k) = nI (zLe F) ∧ σ.1 (16 + 12 * k) = zbo (zAk F) ∧ σ.1 (17 + 12 * k) = nI (zOr F) ∧ (zOr F = 2 → σ.1 (18 + 12 * k) = nI (zOc F))
def zpx (σ σ' : zS) : Prop := (∀ j, (j = 0 ∨ j = 2 ∨ j = 3 ∨ 7 ≤ j) → σ'.1 j = σ.1 j) ∧ ∀ j, (j < 4 ∨ 8 ≤ j) → σ'.2.1 j = σ.2.1 j
theorem zpx.rfl' {σ : zS} : zpx σ σ := ⟨fun _ _ => rfl, fun _ _ => rfl⟩
theorem zpx.trans {a b c : zS} (h1 : zpx a b) (h2 : zpx b c) : zpx a c := ⟨fun j hj => (h2.1 j hj).trans (h1.1 j hj), fun j hj => (h2.2 j hj).trans (h1.2 j hj)⟩
theorem zpx.sI {σ : zS} {j : Nat} {v : Int32} (hj : j = 1 ∨ (4 ≤ j ∧ j ≤ 6)) : zpx σ (zsI σ j v) := ⟨fun i hi => zup_ne _ _ (by omega), fun _ _ => rfl⟩
theorem zpx.sA {σ : zS} {j : Nat} {f : Nat → Int32} (hj : 4 ≤ j ∧ j ≤ 7) : zpx σ (zsA σ j f) := ⟨fun _ _ => rfl, fun i hi => zup_ne _ _ (by omega)⟩
theorem zpx.sL {σ : zS} {j : Nat} {f : Nat → Int64} : zpx σ (zsL σ j f) := ⟨fun _ _ => rfl, fun _ _ => rfl⟩
theorem zpx_has {N : Nat} {σ σ' : zS} {v : Int32} (h : zpx σ σ') : m_X3_has N σ' v = m_X3_has N σ v := by
  unfold m_X3_has
  rw [h.1 3 (by omega), h.2 0 (by omega), h.2 3 (by omega)]
theorem zLX.moved {σ σ' : zS} {k : Nat} {G : zG} {F : zF} (h : zpx σ σ') (hL : zLX σ k G F) : zLX σ' k G F := by
  obtain ⟨a1, a2, a3, a4, a5, a6, a7, a8, a9, a10, a11, a12, a13, a14, a15, a16⟩ := hL
  refine ⟨a1, (h.1 2 (by omega)).trans a2, (h.2 2 (by omega)).trans a3, (h.2 1 (by omega)).trans a4, fun N o ho => (zpx_has h).trans (a5 N o ho), ?_, ?_, ?_, ?_, ?_, ?_, ?_, ?_, ?_, ?_, ?_⟩
  · rw [h.1 _ (by omega)]; exact a6
  · rw [h.1 _ (by omega)]; exact a7
  · rw [h.1 _ (by omega)]; exact a8
  · rw [h.1 _ (by omega)]; exact a9
  · rw [h.1 _ (by omega)]; exact a10
  · rw [h.2 (8 + k) (by omega), h.2 (18 + k) (by omega)]; exact a11
  · rw [h.1 (12 + 12 * k) (by omega), h.1 (13 + 12 * k) (by omega), h.1 (14 + 12 * k) (by omega)]; exact a12
  · rw [h.1 _ (by omega)]; exact a13
  · rw [h.1 _ (by omega)]; exact a14
  · rw [h.1 _ (by omega)]; exact a15
  · rw [h.1 (18 + 12 * k) (by omega)]; exact a16
theorem w_valueCount {N : Nat} {σ : zS} {G : zG} {o c : Nat} (h : σ.2.1 2 = G.2.1) (ho : o < 120) (hc : c ≤ 5) : m_X6_valueCount N σ (nI o) (nI c) = some (G.2.1 (6 * o + c)) := by
  unfold m_X6_valueCount
  have e : nI o * 6 = nI (6 * o) := by rw [Nat.mul_comm]; exact pk_mul o 6
  rw [e, nI_add, zrd_nI (by omega) (by omega), h]
  rfl
theorem w_valueAt {N : Nat} {σ : zS} {G : zG} {o c i : Nat} (h : σ.2.1 1 = G.2.2.1) (ho : o < 120) (hc : c ≤ 5) (hi : i < 3) : m_X6_valueAt N σ (nI o) (nI c) (nI i) = some (G.2.2.1 (3 * (6 * o + c) + i)) := by
  unfold m_X6_valueAt
  have e : nI o * 6 = nI (6 * o) := by rw [Nat.mul_comm]; exact pk_mul o 6
  have e3 : nI (6 * o + c) * 3 = nI (3 * (6 * o + c)) := by rw [Nat.mul_comm 3]; exact pk_mul _ 3
  rw [e, nI_add, e3, nI_add, zrd_nI (by omega) (by omega), h]
  rfl
theorem w_hasWithin {N : Nat} {σ : zS} {G : zG} {o c : Nat} {lo hi : Int32} (h2 : σ.2.1 2 = G.2.1) (h1 : σ.2.1 1 = G.2.2.1) (hG : zVG G) (ho : o < 120) (hc : c ≤ 5) (hN : 10 < N) : m_X6_hasWithin N σ (nI o) (nI c) lo hi = some (zbo ((zvl G.2.1 G.2.2.1 o c).any (fun v => decide (lo ≤ v ∧ v ≤ hi)))) := by
  obtain ⟨m, hm, hcm⟩ := hG.2.1 (6 * o + c)
  have hlen := zvl_len (vs := G.2.2.1) hcm (by omega)
  have main : zok (ziter (fun q : Int32 => m_X6_hasWithin_L11 N σ (nI o) (nI c) lo hi (nI m) q) N (0 : Int32)) (fun r => r = if (zvl G.2.1 G.2.2.1 o c).any (fun v => decide (lo ≤ v ∧ v ≤ hi)) = true then .inl () else .inr ()) := by
    refine zok_for m (fun i s => s = nI i ∧ ((zvl G.2.1 G.2.2.1 o c).take i).any (fun v => decide (lo ≤ v ∧ v ≤ hi)) = false) ?_ ?_ m N 0 _ (by omega) ⟨rfl, rfl⟩ (by omega)
    · rintro i s hi' ⟨rfl, hany⟩
      show zok (m_X6_hasWithin_L11 N σ (nI o) (nI c) lo hi (nI m) (nI i)) _
      unfold m_X6_hasWithin_L11 m_X6_hasWithin_43_in11
      rw [if_neg (nI_ge hi' (by omega)), w_valueAt h1 ho hc (by omega), Option.bind_some, nI_1]
      have hx := zvl_get (vs := G.2.2.1) hcm (by omega) hi'
      generalize G.2.2.1 (3 * (6 * o + c) + i) = x at hx
      have cont : ¬ (lo ≤ x ∧ x ≤ hi) → zok (some (Sum.inl (nI (i + 1))) : Option (Int32 ⊕ (Unit ⊕ Unit))) (Sum.elim (fun s' => s' = nI (i + 1) ∧ ((zvl G.2.1 G.2.2.1 o c).take (i + 1)).any (fun v => decide (lo ≤ v ∧ v ≤ hi)) = false) (fun r => r = if (zvl G.2.1 G.2.2.1 o c).any (fun v => decide (lo ≤ v ∧ v ≤ hi)) = true then .inl () else .inr ())) := by
        intro hn
        refine zok_some ⟨rfl, ?_⟩
        rw [ztake hx, List.any_append, hany]
        simp only [List.any_cons, List.any_nil, Bool.or_false, Bool.false_or]
        exact decide_eq_false hn
      refine zok_ite (fun q => cont (fun q2 => absurd q (Int32.not_lt.mpr q2.1))) (fun q => ?_)
      refine zok_ite (fun q2 => cont (fun q3 => absurd q2 (Int32.not_lt.mpr q3.2))) (fun q2 => ?_)
      refine zok_some ?_
      show _ = _
      rw [if_pos (List.any_eq_true.mpr ⟨x, List.mem_of_getElem? hx, decide_eq_true ⟨Int32.not_lt.mp q, Int32.not_lt.mp q2⟩⟩)]
    · rintro s ⟨rfl, hany⟩
      show zok (m_X6_hasWithin_L11 N σ (nI o) (nI c) lo hi (nI m) (nI m)) _
      unfold m_X6_hasWithin_L11
      rw [if_pos (Int32.le_refl _)]
      rw [List.take_of_length_le (by omega)] at hany
      refine zok_some ?_
      show _ = _
      rw [if_neg (by rw [hany]; decide)]
  obtain ⟨r, e, rfl⟩ := main
  unfold m_X6_hasWithin
  rw [w_valueCount h2 ho hc, Option.bind_some, hcm, e, Option.bind_some]
  cases (zvl G.2.1 G.2.2.1 o c).any (fun v => decide (lo ≤ v ∧ v ≤ hi)) <;> rfl
theorem w_xcounts {N : Nat} {σ : zS} {k o : Nat} {G : zG} {F : zF} (hL : zLX σ k G F) (hG : zVG G) (hF : zVF F) (ho : o < 120) (hN : 10 < N) (hh : G.2.2.2 o = true) : m_X1_counts N σ k (nI o) = some (zbo (zct G F o)) := by
  obtain ⟨a1, a2, a3, a4, a5, a6, a7, a8, a9, a10, a11, a12, a13, a14, a15, a16⟩ := hL
  unfold m_X1_counts zct
  rw [hh, Bool.true_and]
  cases hfl : zFl F with
  | none =>
    rw [hfl] at a12
    have a12 : σ.1 (12 + 12 * k) = -2000000000 := a12
    rw [a12, if_pos rfl]
    rfl
  | some q =>
    rw [hfl] at a12
    obtain ⟨b1, b2, b3⟩ : σ.1 (12 + 12 * k) = nI q.1 ∧ σ.1 (13 + 12 * k) = q.2.1 ∧ σ.1 (14 + 12 * k) = q.2.2 := a12
    have hq := hF.2.2.2.2.2.2.2.2.2 q hfl
    have hne : ¬ nI q.1 = (-2000000000 : Int32) := by
      intro h
      have := congrArg Int32.toInt h
      rw [nI_toInt (by omega)] at this
      have h2 : (-2000000000 : Int32).toInt = -2000000000 := by decide
      omega
    rw [b1, if_neg hne, b2, b3, w_hasWithin a3 a4 hG ho hq hN, Option.bind_some]
    show _ = some (zbo ((zvl G.2.1 G.2.2.1 o q.1).any (fun v => decide (q.2.1 ≤ v ∧ v ≤ q.2.2))))
    cases (zvl G.2.1 G.2.2.1 o q.1).any (fun v => decide (q.2.1 ≤ v ∧ v ≤ q.2.2)) <;> rfl
-- the row of different keys
def zadd (K : List Int32) (key : Int32) : List Int32 := if key ∈ K then K else K ++ [key]
def zdd (K : List Int32) (L : List Int32) : List Int32 := L.foldl zadd K
theorem zadd_mem {K : List Int32} {key x : Int32} : x ∈ zadd K key ↔ x ∈ K ∨ x = key := by
  unfold zadd
  by_cases h : key ∈ K
  · rw [if_pos h]
    constructor
    · exact Or.inl
    · rintro (h' | rfl)
      · exact h'
      · exact h
  · rw [if_neg h, List.mem_append, List.mem_singleton]
theorem zdd_mem : ∀ {L K : List Int32} {x : Int32}, x ∈ zdd K L ↔ x ∈ K ∨ x ∈ L
  | [], K, x => by simp [zdd]
  | a :: L, K, x => by
    show x ∈ zdd (zadd K a) L ↔ _
    rw [zdd_mem (L := L), zadd_mem, List.mem_cons]
    constructor
    · rintro ((h | h) | h)
      · exact Or.inl h
      · exact Or.inr (Or.inl h)
      · exact Or.inr (Or.inr h)
    · rintro (h | h | h)
      · exact Or.inl (Or.inl h)
      · exact Or.inl (Or.inr h)
      · exact Or.inr h
theorem zadd_nd {K : List Int32} {key : Int32} (h : K.Nodup) : (zadd K key).Nodup := by
  unfold zadd
  by_cases hm : key ∈ K
  · rw [if_pos hm]; exact h
  · rw [if_neg hm]
    exact List.nodup_append.mpr ⟨h, by simp, fun a ha b hb => by rw [List.mem_singleton.mp hb]; exact fun e => hm (e ▸ ha)⟩
theorem zdd_nd : ∀ {L K : List Int32}, K.Nodup → (zdd K L).Nodup
  | [], _, h => h
  | a :: L, K, h => zdd_nd (L := L) (zadd_nd h)
theorem zadd_len {K : List Int32} {key : Int32} : (zadd K key).length ≤ K.length + 1 := by
  unfold zadd
  split
  · omega
  · rw [List.length_append]; exact Nat.le_refl _
theorem zdd_len : ∀ {L K : List Int32}, (zdd K L).length ≤ K.length + L.length
  | [], _ => Nat.le_refl _
  | a :: L, K => by
    have h1 := zdd_len (L := L) (K := zadd K a)
    have h2 := zadd_len (K := K) (key := a)
    rw [List.length_cons]
    show (zdd (zadd K a) L).length ≤ _
    omega
theorem zdd_app (K L M : List Int32) : zdd K (L ++ M) = zdd (zdd K L) M := List.foldl_append
/-- the class's row of keys holds K, all else is as in σ -/
def zrw (σ : zS) (K : List Int32) (s : zS) : Prop := ∃ ky, s = zsA (zsI σ 4 (nI K.length)) 4 ky ∧ zpre ky 0 K
theorem zrw.px {σ s : zS} {K : List Int32} (h : zrw σ K s) : zpx σ s := by
  obtain ⟨ky, rfl, -⟩ := h
  exact (zpx.sI (by omega)).trans (zpx.sA (by omega))
theorem w_add {N : Nat} {σ s : zS} {K : List Int32} {key : Int32} (h : zrw σ K s) (hl : K.length < 18) (hN : 100 < N) : zok (m_X4_add N s key) (zrw σ (zadd K key)) := by
  have h0 := h
  obtain ⟨ky, rfl, h⟩ := h
  have e1 : (zsA (zsI σ 4 (nI K.length)) 4 ky).1 4 = nI K.length := zsI_at σ 4 _
  have e2 : (zsA (zsI σ 4 (nI K.length)) 4 ky).2.1 4 = ky := zsA_at _ 4 _
  have main : zok (ziter (fun q : Int32 => m_X4_add_L2 N key (zsA (zsI σ 4 (nI K.length)) 4 ky) q) N (0 : Int32)) (fun r => r = if key ∈ K then .inl () else .inr ()) := by
    refine zok_for K.length (fun i s => s = nI i ∧ key ∉ K.take i) ?_ ?_ _ N 0 _ (Nat.zero_add _) ⟨rfl, by simp⟩ (by omega)
    · rintro i s hi ⟨rfl, hn⟩
      show zok (m_X4_add_L2 N key _ (nI i)) _
      have hx : K[i]? = some K[i] := List.getElem?_eq_getElem hi
      have hmem : K[i] ∈ K := List.getElem_mem hi
      generalize K[i] = x at hx hmem
      have hkx := h i x hx
      rw [Nat.zero_add] at hkx
      unfold m_X4_add_L2
      rw [e1, e2, if_neg (nI_ge hi (by omega)), zrd_nI (by omega) (by omega), Option.bind_some, hkx, nI_1]
      refine zok_ite (fun q => ?_) (fun q => ?_)
      · refine zok_some ?_
        show _ = _
        rw [if_pos (q ▸ hmem)]
      · refine zok_some ⟨rfl, ?_⟩
        rw [ztake hx, List.mem_append, List.mem_singleton]
        rintro (w | w)
        · exact hn w
        · exact q w.symm
    · rintro s ⟨rfl, hn⟩
      show zok (m_X4_add_L2 N key _ (nI K.length)) _
      unfold m_X4_add_L2
      rw [List.take_of_length_le (Nat.le_refl _)] at hn
      rw [e1, if_pos (Int32.le_refl _)]
      refine zok_some ?_
      show _ = _
      rw [if_neg hn]
  obtain ⟨r, e, hr⟩ := main
  unfold m_X4_add
  rw [e, Option.bind_some, hr]
  unfold zadd
  by_cases hm : key ∈ K
  · rw [if_pos hm, if_pos hm]
    exact zok_some h0
  · rw [if_neg hm, if_neg hm]
    show zok (m_X4_add_27 N key _) _
    unfold m_X4_add_27
    rw [e1, if_neg (show ¬ (18 : Int32) ≤ nI K.length from nI_ge (b := 18) hl (by omega)), zwA_nI hl (by omega), Option.bind_some, Option.bind_some, e2, zsA_idem]
    refine zok_some ⟨upd ky K.length key, ?_, ?_⟩
    · show zsI (zsA (zsI σ 4 (nI K.length)) 4 _) 4 ((zsI σ 4 (nI K.length)).1 4 + 1) = _
      rw [zsI_at σ 4, nI_1]
      show zsA (zsI (zsI σ 4 _) 4 _) 4 _ = _
      rw [zsI_idem, List.length_append]
      rfl
    · have := zpre.snoc (x := key) h
      rw [Nat.zero_add] at this
      exact this
theorem zsub_self (v w : Int32) : v - (v - w) = w := by grind
theorem w_addPaths {N : Nat} {σ s : zS} {K : List Int32} {v : Int32} (h : zrw σ K s) (hl : K.length + 3 ≤ 18) (hN : 100 < N) : zok (m_X1_addPathKeys N s v) (zrw σ (zdd K (zkp v))) := by
  unfold m_X1_addPathKeys zkp
  by_cases h1 : v < 10000
  · rw [if_pos h1, if_pos (Or.inl h1)]; exact zok_some h
  rw [if_neg h1]
  by_cases h2 : v ≤ 999999
  · rw [if_pos h2, if_neg (zout ⟨Int32.not_lt.mp h1, h2⟩)]
    have third : ∀ (K' : List Int32) (s' : zS) (x : Int32), K'.length < 18 → zrw σ K' s' → (x = 0 ↔ v - v / 100 * 100 = 0) → zok (m_X1_addPathKeys_77 N v s' x) (zrw σ (zdd K' (if (v - v / 100 * 100) = 0 then [] else [v]))) := by
      intro K' s' x hl' hs' hx
      unfold m_X1_addPathKeys_77
      by_cases h3 : (v - v / 100 * 100) = 0
      · rw [if_pos (hx.mpr h3), if_pos h3]; exact zok_some hs'
      · rw [if_neg (mt hx.mp h3), if_neg h3]
        exact zok_bind (w_add hs' hl' hN) (fun s2 h2 => zok_some h2)
    have body : ∀ (x y : Int32), (x = 0 ↔ (v / 100 - v / 100 / 100 * 100) = 0) → (y = 0 ↔ v - v / 100 * 100 = 0) → zok (m_X1_addPathKeys_52 N v s x y) (zrw σ (zdd K ([v / 10000 * 10000] ++ (if (v / 100 - v / 100 / 100 * 100) = 0 then [] else [v / 100 * 100]) ++ (if (v - v / 100 * 100) = 0 then [] else [v])))) := by
      intro x y hx hy
      unfold m_X1_addPathKeys_52
      rw [zsub_self, zsub_self, zdd_app, zdd_app]
      refine zok_bind (w_add h (by omega) hN) (fun s1 g1 => ?_)
      have l1 := zadd_len (K := K) (key := v / 10000 * 10000)
      by_cases h2 : (v / 100 - v / 100 / 100 * 100) = 0
      · rw [if_pos (hx.mpr h2), if_pos h2]
        exact third _ s1 y (by show (zadd K _).length < 18; omega) g1 hy
      · rw [if_neg (mt hx.mp h2), if_neg h2]
        refine zok_bind (w_add g1 (by omega) hN) (fun s2 g2 => ?_)
        have l2 := zadd_len (K := zadd K (v / 10000 * 10000)) (key := v / 100 * 100)
        exact third _ s2 y (by show (zadd (zadd K _) _).length < 18; omega) g2 hy
    have mid : ∀ x : Int32, (x = 0 ↔ (v / 100 - v / 100 / 100 * 100) = 0) → zok (m_X1_addPathKeys_29 N v s x) (zrw σ (zdd K (if (v / 100 - v / 100 / 100 * 100) = 0 ∧ ¬ (v - v / 100 * 100) = 0 then [] else [v / 10000 * 10000] ++ (if (v / 100 - v / 100 / 100 * 100) = 0 then [] else [v / 100 * 100]) ++ (if (v - v / 100 * 100) = 0 then [] else [v])))) := by
      intro x hx
      unfold m_X1_addPathKeys_29 m_X1_addPathKeys_42
      by_cases h3 : (v - v / 100 * 100) = 0
      · rw [if_pos h3, if_pos rfl, if_neg (fun q => q.2 h3)]
        exact body x 0 hx ⟨fun _ => h3, fun _ => rfl⟩
      · rw [if_neg h3, if_neg (by decide)]
        by_cases h4 : (v / 100 - v / 100 / 100 * 100) = 0
        · rw [if_pos (hx.mpr h4), if_pos ⟨h4, h3⟩]
          exact zok_some h
        · rw [if_neg (mt hx.mp h4), if_neg (fun q => h4 q.1)]
          exact body x 1 hx ⟨fun q => absurd q (by decide), fun q => absurd q h3⟩
    by_cases h4 : (v / 100 - v / 100 / 100 * 100) = 0
    · rw [if_pos h4]
      exact mid 0 ⟨fun _ => h4, fun _ => rfl⟩
    · rw [if_neg h4]
      exact mid 1 ⟨fun q => absurd q (by decide), fun q => absurd q h4⟩
  · rw [if_neg h2, if_pos (Or.inr (Int32.not_le.mp h2))]; exact zok_some h
theorem w_addKeysOf {N : Nat} {σ s : zS} {k : Nat} {K : List Int32} {v : Int32} {G : zG} {F : zF} (hL : zLX σ k G F) (hF : zVF F) (h : zrw σ K s) (hl : K.length + 6 ≤ 18) (hN : 3000 < N) : zok (m_X1_addKeysOf N s k v) (zrw σ (zdd K (zkv F v))) := by
  have hL' := hL.moved h.px
  obtain ⟨a1, a2, a3, a4, a5, a6, a7, a8, a9, a10, a11, a12, a13, a14, a15, a16⟩ := id hL'
  obtain ⟨v1, v2, v3, v4, v5, v6, v7, v8, v9, v10⟩ := hF
  unfold m_X1_addKeysOf zkv
  have kk : ∀ c : Nat, c ≤ 4 → (nI (zKd F) = nI c ↔ zKd F = c) := fun c hc => nI_eq (by omega) (by omega)
  have k0 : nI (zKd F) = (0 : Int32) ↔ zKd F = 0 := kk 0 (by omega)
  have k1 : nI (zKd F) = (1 : Int32) ↔ zKd F = 1 := kk 1 (by omega)
  have k2 : nI (zKd F) = (2 : Int32) ↔ zKd F = 2 := kk 2 (by omega)
  have k3 : nI (zKd F) = (3 : Int32) ↔ zKd F = 3 := kk 3 (by omega)
  have k4 : nI (zKd F) = (4 : Int32) ↔ zKd F = 4 := kk 4 (by omega)
  rw [a6]
  by_cases h0 : zKd F = 0
  · rw [if_pos (k0.mpr h0), if_pos h0]
    exact zok_bind (w_add h (by omega) (by omega)) (fun m h => zok_some h)
  rw [if_neg (mt k0.mp h0), if_neg h0]
  by_cases h1 : zKd F = 1
  · rw [if_pos (k1.mpr h1), if_pos h1]
    exact zok_bind (w_addPaths h (by omega) (by omega)) (fun m h => zok_some h)
  rw [if_neg (mt k1.mp h1), if_neg h1]
  by_cases h2 : zKd F = 2
  · rw [if_pos (k2.mpr h2), if_pos h2]
    refine zok_bind (P := zrw σ (zdd K (zkr (zRl F) v (zRl F).length))) ?_ (fun m h => zok_some h)
    unfold m_X1_addRangeKeys
    refine zok_bind (P := zrw σ (zdd K (zkr (zRl F) v (zRl F).length))) ?_ (fun m h => zok_some h)
    refine zok_for (zRl F).length (fun i q => ∃ m, q = (m, nI i) ∧ zrw σ (zdd K (zkr (zRl F) v i)) m) ?_ ?_ (zRl F).length N 0 _ (by omega) ⟨_, rfl, h⟩ (by omega)
    · rintro i q hi ⟨m, rfl, hm⟩
      show zok (m_X1_addRangeKeys_L2 N k v m (nI i)) _
      have hLm := hL.moved hm.px
      obtain ⟨b1, b2, b3, b4, b5, b6, b7, b8, b9, b10, b11, b12, b13, b14, b15, b16⟩ := id hLm
      unfold m_X1_addRangeKeys_L2 m_X1_addRangeKeys_35_in2
      have ea := b11 i hi
      have ea1 := congrArg Prod.fst ea
      have ea2 := congrArg Prod.snd ea
      dsimp only at ea1 ea2
      rw [b10, if_neg (nI_ge hi (by omega)), zrd_nI (show i < 6 by omega) (by omega), Option.bind_some, zrd_nI (show i < 6 by omega) (by omega), Option.bind_some, ea1, ea2, nI_1]
      have hle := zkr_le (zRl F) v i
      have hdl := zdd_len (K := K) (L := zkr (zRl F) v i)
      have skip : ¬ (((zRl F).getD i (0, 0)).1 ≤ v ∧ v ≤ ((zRl F).getD i (0, 0)).2) → zok (some (Sum.inl (m, nI (i + 1))) : Option ((zS × Int32) ⊕ zS)) (Sum.elim (fun q => ∃ m, q = (m, nI (i + 1)) ∧ zrw σ (zdd K (zkr (zRl F) v (i + 1))) m) (zrw σ (zdd K (zkr (zRl F) v (zRl F).length)))) := by
        intro hc
        refine zok_some ⟨m, rfl, ?_⟩
        rw [zkr_s, if_neg hc, List.append_nil]
        exact hm
      refine zok_ite (fun q => skip (fun q2 => absurd q (Int32.not_lt.mpr q2.1))) (fun q => ?_)
      refine zok_ite (fun q2 => skip (fun q3 => absurd q2 (Int32.not_lt.mpr q3.2))) (fun q2 => ?_)
      refine zok_bind (w_add hm (by omega) (by omega)) (fun m2 g2 => zok_some ⟨m2, rfl, ?_⟩)
      rw [zkr_s, if_pos ⟨Int32.not_lt.mp q, Int32.not_lt.mp q2⟩, zdd_app]
      exact g2
    · rintro q ⟨m, rfl, hm⟩
      show zok (m_X1_addRangeKeys_L2 N k v m (nI (zRl F).length)) _
      unfold m_X1_addRangeKeys_L2
      have e10 := (hL.moved hm.px).2.2.2.2.2.2.2.2.2.1
      rw [e10, if_pos (Int32.le_refl _)]
      exact zok_some hm
  rw [if_neg (mt k2.mp h2), if_neg h2]
  by_cases h3 : zKd F = 3
  · obtain ⟨p1, p2, p3, p4⟩ := v8 h3
    rw [if_pos (k3.mpr h3), if_pos h3, a8, a9]
    have hpos : ¬ zFa F ≤ 0 := by
      intro q
      have := Int32.le_iff_toInt_le.mp q
      have h0 : (0 : Int32).toInt = 0 := rfl
      omega
    rw [if_neg hpos, w_floorMod p1, Option.bind_some]
    exact zok_bind (w_add h (by omega) (by omega)) (fun m h => zok_some h)
  · rw [if_neg (mt k3.mp h3), if_neg h3, if_pos (k4.mpr (by omega)), a8]
    obtain ⟨p, hp, ep⟩ := v9 (by omega)
    rw [ep]
    unfold zkd
    have c1 : (-1000000 : Int32).toInt = -1000000 := by decide
    have c2 : (1000000 : Int32).toInt = 1000000 := by decide
    by_cases r1 : v < -1000000
    · rw [if_pos r1, if_pos (Or.inl r1)]; exact zok_some h
    rw [if_neg r1]
    by_cases r2 : 1000000 < v
    · rw [if_pos r2, if_pos (Or.inr r2)]; exact zok_some h
    rw [if_neg r2, if_neg (zout ⟨Int32.not_lt.mp r1, Int32.not_lt.mp r2⟩)]
    have s1 := Int32.le_iff_toInt_le.mp (Int32.not_lt.mp r1)
    have s2 := Int32.le_iff_toInt_le.mp (Int32.not_lt.mp r2)
    rw [c1] at s1
    rw [c2] at s2
    have hfd : m_X0_firstDay N s v (nI p) = some (if nI p = (0 : Int32) then v else if nI p = (1 : Int32) then v - fmv (v + 3) 7 else v - zbv v (nI p).toNatClampNeg) := by
      by_cases q0 : nI p = (0 : Int32)
      · rw [if_pos q0]
        unfold m_X0_firstDay
        rw [if_pos q0]
      · rw [if_neg q0]
        by_cases q1 : nI p = (1 : Int32)
        · rw [if_pos q1]
          unfold m_X0_firstDay
          rw [if_neg q0, if_pos q1, w_floorMod (by decide)]
          rfl
        · rw [if_neg q1, nI_clamp (by omega)]
          have p0 : p ≠ 0 := fun q => q0 (by rw [q]; rfl)
          have p1 : p ≠ 1 := fun q => q1 (by rw [q]; rfl)
          exact (zbv_eq hN (by omega) (by omega) s1 s2 zM0 s).2
    rw [hfd, Option.bind_some]
    exact zok_bind (w_add h (by omega) (by omega)) (fun m h => zok_some h)
theorem w_collectKeys {N : Nat} {σ : zS} {k o : Nat} {G : zG} {F : zF} (hL : zLX σ k G F) (hG : zVG G) (hF : zVF F) (ho : o < 120) (hN : 3000 < N) : zok (m_X1_collectKeys N σ k (nI o)) (zrw σ (zdd [] (zks G F o))) := by
  obtain ⟨a1, a2, a3, a4, a5, a6, a7, a8, a9, a10, a11, a12, a13, a14, a15, a16⟩ := id hL
  obtain ⟨c, hc, hcm⟩ := hG.2.1 (6 * o + zCo F)
  have hco := hF.2.1
  have hlen := zvl_len (vs := G.2.2.1) hcm (by omega)
  unfold m_X1_collectKeys m_X4_startOver
  rw [Option.bind_some, Option.bind_some]
  have e9 : (zsI σ 4 0).1 (9 + 12 * k) = nI (zCo F) := (zsI_ne σ (k := 4) (j := 9 + 12 * k) 0 (by omega)).trans a7
  have e2 : (zsI σ 4 0).2.1 2 = G.2.1 := a3
  rw [e9, w_valueCount e2 ho hco, Option.bind_some, hcm]
  have start : zrw σ [] (zsI σ 4 0) := ⟨(zsI σ 4 0).2.1 4, (zsA_self _ _).symm, zpre.nil⟩
  refine zok_bind (P := zrw σ (zdd [] (zks G F o))) ?_ (fun m h => zok_some h)
  refine zok_for c (fun i q => ∃ m, q = (m, nI i) ∧ zrw σ (zdd [] (((zvl G.2.1 G.2.2.1 o (zCo F)).take i).flatMap (zkv F))) m) ?_ ?_ c N 0 _ (by omega) ⟨_, rfl, start⟩ (by omega)
  · rintro i q hi ⟨m, rfl, hm⟩
    show zok (m_X1_collectKeys_L18 N k (nI o) (nI c) m (nI i)) _
    have hLm := hL.moved hm.px
    obtain ⟨b1, b2, b3, b4, b5, b6, b7, b8, b9, b10, b11, b12, b13, b14, b15, b16⟩ := id hLm
    have hb := zlen_flat F hF ((zvl G.2.1 G.2.2.1 o (zCo F)).take i)
    rw [List.length_take, hlen] at hb
    have hd := zdd_len (K := []) (L := ((zvl G.2.1 G.2.2.1 o (zCo F)).take i).flatMap (zkv F))
    have hn0 : ([] : List Int32).length = 0 := rfl
    unfold m_X1_collectKeys_L18
    rw [if_neg (nI_ge hi (by omega)), b7, w_valueAt b4 ho hco (by omega), Option.bind_some]
    refine zok_bind (w_addKeysOf hL hF hm (by omega) hN) (fun m2 g2 => ?_)
    rw [nI_1]
    refine zok_some ⟨m2, rfl, ?_⟩
    rw [ztake (zvl_get hcm (by omega) hi), List.flatMap_append, List.flatMap_cons, List.flatMap_nil, List.append_nil, zdd_app]
    exact g2
  · rintro q ⟨m, rfl, hm⟩
    show zok (m_X1_collectKeys_L18 N k (nI o) (nI c) m (nI c)) _
    unfold m_X1_collectKeys_L18
    rw [if_pos (Int32.le_refl _)]
    rw [List.take_of_length_le (by omega)] at hm
    exact zok_some hm
