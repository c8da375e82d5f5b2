/-! the order of groups is a strict order in which any two keys are comparable -/
theorem zbf_i (G : zG) (F : zF) (a b : Int32) : zbf G F a b ↔
    if zOr F = 0 ∧ zsz G F a ≠ zsz G F b then zsz G F b < zsz G F a else
    if zOr F = 2 ∧ (zsm G F a).toInt ≠ (zsm G F b).toInt then (zsm G F b).toInt < (zsm G F a).toInt else a.toInt < b.toInt := by
  unfold zbf zbfb
  have e : (zsm G F a ≠ zsm G F b) ↔ ((zsm G F a).toInt ≠ (zsm G F b).toInt) := not_congr Int64.toInt_inj.symm
  by_cases h1 : zOr F = 0 ∧ zsz G F a ≠ zsz G F b
  · rw [if_pos h1, if_pos h1, decide_eq_true_eq]
  · rw [if_neg h1, if_neg h1]
    by_cases h2 : zOr F = 2 ∧ zsm G F a ≠ zsm G F b
    · rw [if_pos h2, if_pos ⟨h2.1, e.mp h2.2⟩, decide_eq_true_eq, Int64.lt_iff_toInt_lt]
    · rw [if_neg h2, if_neg (fun q => h2 ⟨q.1, e.mpr q.2⟩), decide_eq_true_eq, Int32.lt_iff_toInt_lt]
theorem zbf_trans {G : zG} {F : zF} {a b c : Int32} (h1 : zbf G F a b) (h2 : zbf G F b c) : zbf G F a c := by
  rw [zbf_i] at *
  generalize zsz G F a = sa at *
  generalize zsz G F b = sb at *
  generalize zsz G F c = sc at *
  generalize (zsm G F a).toInt = ma at *
  generalize (zsm G F b).toInt = mb at *
  generalize (zsm G F c).toInt = mc at *
  generalize a.toInt = ka at *
  generalize b.toInt = kb at *
  generalize c.toInt = kc at *
  generalize zOr F = o at *
  split at h1 <;> split at h2 <;> (try split at h1) <;> (try split at h2) <;> split <;> (try split) <;> omega
theorem zbf_irr {G : zG} {F : zF} {a : Int32} : ¬ zbf G F a a := by
  rw [zbf_i, if_neg (fun h => h.2 rfl), if_neg (fun h => h.2 rfl)]
  omega
theorem zbf_tot {G : zG} {F : zF} {a b : Int32} (hne : a ≠ b) : zbf G F a b ∨ zbf G F b a := by
  have hk : a.toInt ≠ b.toInt := fun h => hne (Int32.toInt_inj.mp h)
  rw [zbf_i, zbf_i]
  generalize zsz G F a = sa at *
  generalize zsz G F b = sb at *
  generalize (zsm G F a).toInt = ma at *
  generalize (zsm G F b).toInt = mb at *
  generalize a.toInt = ka at *
  generalize b.toInt = kb at *
  generalize zOr F = o at *
  repeat' split
  all_goals omega
theorem zuniq {α : Type} {lt : α → α → Prop} (irr : ∀ a, ¬ lt a a) (tr : ∀ a b c, lt a b → lt b c → lt a c) : ∀ {l1 l2 : List α}, l1.Pairwise lt → l2.Pairwise lt → (∀ x, x ∈ l1 ↔ x ∈ l2) → l1 = l2
  | [], [], _, _, _ => rfl
  | [], b :: l2, _, _, h => absurd ((h b).mpr List.mem_cons_self) (by simp)
  | a :: l1, [], _, _, h => absurd ((h a).mp List.mem_cons_self) (by simp)
  | a :: l1, b :: l2, h1, h2, h => by
    obtain ⟨p1, q1⟩ := List.pairwise_cons.mp h1
    obtain ⟨p2, q2⟩ := List.pairwise_cons.mp h2
    have hab : a = b := by
      rcases List.mem_cons.mp ((h a).mp List.mem_cons_self) with e | e
      · exact e
      · rcases List.mem_cons.mp ((h b).mpr List.mem_cons_self) with e2 | e2
        · exact e2.symm
        · exact absurd (tr _ _ _ (p2 a e) (p1 b e2)) (irr b)
    subst hab
    have ht : ∀ x, x ∈ l1 ↔ x ∈ l2 := by
      intro x
      constructor
      · intro hx
        rcases List.mem_cons.mp ((h x).mp (List.mem_cons_of_mem _ hx)) with e | e
        · subst e; exact absurd (p1 x hx) (irr x)
        · exact e
      · intro hx
        rcases List.mem_cons.mp ((h x).mpr (List.mem_cons_of_mem _ hx)) with e | e
        · subst e; exact absurd (p2 x hx) (irr x)
        · exact e
    rw [zuniq irr tr q1 q2 ht]
theorem zLs_uniq {G : zG} {F : zF} {L1 L2 : List Int32} (h1 : zLs G F L1) (h2 : zLs G F L2) : L1 = L2 :=
  zuniq (fun _ => zbf_irr) (fun _ _ _ => zbf_trans) h1.1 h2.1 (fun x => by rw [h1.2, h2.2])
