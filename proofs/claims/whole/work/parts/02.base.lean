/-! the words of all methods: one list; the mirrors' own small words; rows over one world of a whole side -/
def zbg : List Cond := lw_tbl.filter goodWord
theorem zin (i : Nat) {w : Cond} (h : lw_tbl[i]? = some w) (hg : goodWord w = true) : w ∈ zbg := List.mem_filter.mpr ⟨List.mem_of_getElem? h, hg⟩
theorem zbg_in : GoodIn zbg zbg := fun w h => ⟨h, good_of_word (List.mem_filter.mp h).2⟩
theorem zgood {w : Cond} (h : w ∈ zbg) : w ∈ zbg ∧ ((w.onTables && w.keeps) = true ∨ ∃ ty, w = .arrayClass ty) := zbg_in w h
theorem zgc {y : MethodName} {b : ByteArray} {n : Nat} {r : Option FieldType} (h : Cond.code y b n r ∈ zbg) : GoodIn zbg (Cond.code y b n r :: zbg) := fun w hw => (List.mem_cons.mp hw).elim (fun e => by rw [e]; exact zgood h) (zbg_in w)
-- updates
def zup {α : Type} (f : Nat → α) (k : Nat) (v : α) : Nat → α := fun j => cond (Nat.beq j k) v (f j)
theorem zup_if {α : Type} (f : Nat → α) (k : Nat) (v : α) (j : Nat) : zup f k v j = if j = k then v else f j := by
  unfold zup
  by_cases h : j = k
  · subst h; simp
  · have : Nat.beq j k = false := by rw [← Bool.not_eq_true, Nat.beq_eq]; exact h
    rw [this, if_neg h]; rfl
theorem zup_same {α : Type} (f : Nat → α) (k : Nat) (v : α) : zup f k v k = v := by rw [zup_if, if_pos rfl]
theorem zup_ne {α : Type} (f : Nat → α) {k j : Nat} (v : α) (h : j ≠ k) : zup f k v j = f j := by rw [zup_if, if_neg h]
abbrev zS : Type := (Nat → Int32) × (Nat → Nat → Int32) × (Nat → Nat → Int64)
def zsI (σ : zS) (j : Nat) (v : Int32) : zS := (zup σ.1 j v, σ.2)
def zsA (σ : zS) (j : Nat) (f : Nat → Int32) : zS := (σ.1, zup σ.2.1 j f, σ.2.2)
def zsL (σ : zS) (j : Nat) (f : Nat → Int64) : zS := (σ.1, σ.2.1, zup σ.2.2 j f)
-- reads and writes that may fall outside
def zrd {α : Type} (n : Nat) (f : Nat → α) (i : Int32) : Option α := if i < 0 ∨ n ≤ i.toNatClampNeg then none else some (f i.toNatClampNeg)
def zwA (n j : Nat) (σ : zS) (i x : Int32) : Option zS := if i < 0 ∨ n ≤ i.toNatClampNeg then none else some (zsA σ j (upd (σ.2.1 j) i.toNatClampNeg x))
def zwL (n j : Nat) (σ : zS) (i : Int32) (x : Int64) : Option zS := if i < 0 ∨ n ≤ i.toNatClampNeg then none else some (zsL σ j (vp_updL (σ.2.2 j) i.toNatClampNeg x))
def zcz (v : Int32) : Option Int32 := if v = 0 ∨ v = 1 then some v else none
def zdv (x y : Int32) : Option Int32 := if y = 0 then none else some (x / y)
def zrm (x y : Int32) : Option Int32 := if y = 0 then none else some (x - x / y * y)
theorem zrd_some {α : Type} {n : Nat} {f : Nat → α} {i : Int32} {v : α} (h : zrd n f i = some v) : vp_in i n ∧ f i.toNatClampNeg = v := by
  unfold zrd at h
  by_cases c : i < 0 ∨ n ≤ i.toNatClampNeg
  · rw [if_pos c] at h; cases h
  · rw [if_neg c] at h; exact ⟨c, Option.some.inj h⟩
theorem zwA_some {n j : Nat} {σ σ' : zS} {i x : Int32} (h : zwA n j σ i x = some σ') : vp_in i n ∧ zsA σ j (upd (σ.2.1 j) i.toNatClampNeg x) = σ' := by
  unfold zwA at h
  by_cases c : i < 0 ∨ n ≤ i.toNatClampNeg
  · rw [if_pos c] at h; cases h
  · rw [if_neg c] at h; exact ⟨c, Option.some.inj h⟩
theorem zwL_some {n j : Nat} {σ σ' : zS} {i : Int32} {x : Int64} (h : zwL n j σ i x = some σ') : vp_in i n ∧ zsL σ j (vp_updL (σ.2.2 j) i.toNatClampNeg x) = σ' := by
  unfold zwL at h
  by_cases c : i < 0 ∨ n ≤ i.toNatClampNeg
  · rw [if_pos c] at h; cases h
  · rw [if_neg c] at h; exact ⟨c, Option.some.inj h⟩
theorem zcz_some {v w : Int32} (h : zcz v = some w) : v = w ∧ narrow .boolean (.int v) = .int v ∧ vp_nar .boolean v = v := by
  unfold zcz at h
  by_cases c : v = 0 ∨ v = 1
  · rw [if_pos c] at h
    refine ⟨Option.some.inj h, ?_⟩
    rcases c with rfl | rfl <;> exact ⟨by decide, by decide⟩
  · rw [if_neg c] at h; cases h
theorem zdv_some {x y v : Int32} (h : zdv x y = some v) : ¬ y = 0 ∧ x / y = v := by
  unfold zdv at h
  by_cases c : y = 0
  · rw [if_pos c] at h; cases h
  · rw [if_neg c] at h; exact ⟨c, Option.some.inj h⟩
theorem zrm_some {x y v : Int32} (h : zrm x y = some v) : ¬ y = 0 ∧ x - x / y * y = v := by
  unfold zrm at h
  by_cases c : y = 0
  · rw [if_pos c] at h; cases h
  · rw [if_neg c] at h; exact ⟨c, Option.some.inj h⟩
-- loops
def ziter {S R : Type} (f : S → Option (S ⊕ R)) : Nat → S → Option R
  | 0, _ => none
  | n + 1, s => (f s).bind (fun r => Sum.elim (fun s' => ziter f n s') (fun x => some x) r)
theorem ziter_W {S R : Type} {f : S → Option (S ⊕ R)} {Hd : S → Prop} {Ex : R → Prop} (hb : ∀ s res, f s = some res → Sum.elim Hd Ex res → Hd s) : ∀ (n : Nat) (s : S) (r : R), ziter f n s = some r → Ex r → Hd s := by
  intro n
  induction n with
  | zero => intro s r h; cases h
  | succ n ih =>
    intro s r h hx
    obtain ⟨res, h1, h2⟩ := Option.bind_eq_some_iff.mp h
    refine hb s res h1 ?_
    cases res with
    | inl s' => exact ih s' r h2 hx
    | inr r' => cases h2; exact hx
-- the static table of the class, the same in every contract
def zms : Nat → Value := fun j => .int (([0, 31, 59, 90, 120, 151, 181, 212, 243, 273, 304, 334] : List Int32).getD j 0)
def zZ (t : Nat) (A : Nat → Prop) (U : State) (H : Heap) : Prop := va_Z "FacetFigures$Days" "MONTH_STARTS" "[I" (.ref t) A U H ∧ va_T .int t 12 zms A U H
theorem zZ.moved {t : Nat} {A : Nat → Prop} {u U : State} {H : Heap} (hvm : u.vm.Alike U.vm) (h : zZ t A u H) : zZ t A U H := ⟨va_Z.moved hvm h.1, va_T.moved hvm h.2⟩
theorem zZ.kept {t : Nat} {A : Nat → Prop} {U : State} {H H1 : Heap} (h : zZ t A U H) (hq : ∀ a : Nat, a < H.size → ¬ A a → H1[a]? = H[a]?) : zZ t A U H1 := ⟨va_Z.kept h.1 hq, va_T.kept h.2 hq⟩
-- contracts: no cell is made, the world of the side from σ to σ'
def zW (D : va_G) (cl : List vw_C) (tys : List (ClassId × FieldType)) (t : Nat) (A : Nat → Prop) {S : Type} (wd : S → va_W) (σ : S) (U : State) : Prop := va_P D cl (wd σ) U.heap ∧ va_K D cl tys U ∧ va_D A (wd σ) ∧ zZ t A U U.heap
def zCi (l : Launch) (y : MethodName) (b : ByteArray) (n : Nat) (ret : Option FieldType) (rm : Room) (D : va_G) (cl : List vw_C) (tys : List (ClassId × FieldType)) (t : Nat) (A : Nat → Prop) {S : Type} (wd : S → va_W) (av : List Value) (σ σ' : S) (r : Int32) : Prop :=
  Met l y (Cond.code y b n ret :: zbg) rm (va_Pc av (zW D cl tys t A wd σ)) (va_Qi (fun r2 (u : S) => r2 = r ∧ u = σ') (fun u t' => zW D cl tys t A wd u t') A) 0 0 A
def zCl (l : Launch) (y : MethodName) (b : ByteArray) (n : Nat) (ret : Option FieldType) (rm : Room) (D : va_G) (cl : List vw_C) (tys : List (ClassId × FieldType)) (t : Nat) (A : Nat → Prop) {S : Type} (wd : S → va_W) (av : List Value) (σ σ' : S) (r : Int64) : Prop :=
  Met l y (Cond.code y b n ret :: zbg) rm (va_Pc av (zW D cl tys t A wd σ)) (va_Ql (fun r2 (u : S) => r2 = r ∧ u = σ') (fun u t' => zW D cl tys t A wd u t') A) 0 0 A
def zCv (l : Launch) (y : MethodName) (b : ByteArray) (n : Nat) (ret : Option FieldType) (rm : Room) (D : va_G) (cl : List vw_C) (tys : List (ClassId × FieldType)) (t : Nat) (A : Nat → Prop) {S : Type} (wd : S → va_W) (av : List Value) (σ σ' : S) : Prop :=
  Met l y (Cond.code y b n ret :: zbg) rm (va_Pc av (zW D cl tys t A wd σ)) (va_Qv (fun (u : S) => u = σ') (fun u t' => zW D cl tys t A wd u t') A) 0 0 A
def zCq (l : Launch) (y : MethodName) (b : ByteArray) (n : Nat) (ret : Option FieldType) (rm : Room) (D : va_G) (cl : List vw_C) (tys : List (ClassId × FieldType)) (t : Nat) (A : Nat → Prop) {S : Type} (wd : S → va_W) (av : List Value) (σ σ' : S) (r : Option Nat) : Prop :=
  Met l y (Cond.code y b n ret :: zbg) rm (va_Pc av (zW D cl tys t A wd σ)) (va_Qq (fun r2 (u : S) => r2 = r ∧ u = σ') (fun u t' => zW D cl tys t A wd u t') A) 0 0 A
theorem zblind {D : va_G} {cl : List vw_C} {tys : List (ClassId × FieldType)} {t : Nat} {A : Nat → Prop} {S : Type} {wd : S → va_W} {σ : S} {av : List Value} : FrameBlind (va_Pc av (zW D cl tys t A wd σ)) := fun a U g mk q => by
  obtain ⟨q0, qP, qK, qD, qZ⟩ := q
  exact ⟨q0, qP, va_K.moved (u := U) (U := U.calling g mk a) (Vm.Alike.refl U.vm) qK, qD, zZ.moved (u := U) (U := U.calling g mk a) (Vm.Alike.refl U.vm) qZ⟩
-- what the tables say of a method that is called
def zkV (C : String) (y : MethodName) (b : ByteArray) (n : Nat) (ret : Option FieldType) (k : Nat) : Prop := Cond.instanceMethod y ∈ zbg ∧ Cond.selects C y y ∈ zbg ∧ Cond.initialized C ∈ zbg ∧ Cond.code y b n ret ∈ zbg ∧ y.cls = C ∧ y.cls ≠ "java/lang/invoke/MethodHandle" ∧ y.cls ≠ "java/lang/invoke/VarHandle" ∧ (parseMethodDescriptor y.desc).map (fun d => d.parameters.length) = some k
def zkS (y : MethodName) (b : ByteArray) (n : Nat) (ret : Option FieldType) (k : Nat) : Prop := Cond.static y ∈ zbg ∧ Cond.initialized y.cls ∈ zbg ∧ Cond.code y b n ret ∈ zbg ∧ y.cls ≠ "java/lang/invoke/MethodHandle" ∧ y.cls ≠ "java/lang/invoke/VarHandle" ∧ (parseMethodDescriptor y.desc).map (fun d => d.parameters.length) = some k
section ZR
variable {p : Program} {l : Launch} {e : Env} {R : Room} {s : State} {m : MethodId} {args : Array Value} {below : List Frame} {meth : Method} {c : Code} {H : Heap} {locs : List Loc} {cells slots : Nat} {Q : State → Prop}
variable {cc : ByteArray} {pc : Nat} {ls : Array Slot} {rest st : List Value} {A : Nat → Prop} {H0 : Heap} {D : va_G} {cl : List vw_C} {tys : List (ClassId × FieldType)} {ws : va_W} {a t : Nat}
theorem zcwV {own C : String} {index n k : Nat} {y : MethodName} {b : ByteArray} {ret : Option FieldType} {rm : Room} (hT : ∀ w ∈ zbg, w.before args s = true) (hk : zkV C y b n ret k) (hl : Cond.methodLink own index y ∈ zbg) (hR : rm.frames + 1 ≤ R.frames ∧ 8 + (n + 11) + rm.locals ≤ R.locals) (h0 : rm.cells = 0) (h1 : rm.slots = 0) : CallW R s args own C index y b n ret (Cond.code y b n ret :: zbg) rm 0 0 k := by
  obtain ⟨a1, a2, a3, a4, a5, a6, a7, a8⟩ := hk
  refine ⟨callB_of k hT (zgc a4) rfl h0 h1 (hT _ (by rw [a5]; exact a3)) (hT _ hl) ⟨a6, a7, a8⟩ hR, hT _ a1, hT _ a2⟩
theorem zcwS {own : String} {index n k : Nat} {y : MethodName} {b : ByteArray} {ret : Option FieldType} {rm : Room} (hT : ∀ w ∈ zbg, w.before args s = true) (hk : zkS y b n ret k) (hl : Cond.methodLink own index y ∈ zbg) (hR : rm.frames + 1 ≤ R.frames ∧ 8 + (n + 11) + rm.locals ≤ R.locals) (h0 : rm.cells = 0) (h1 : rm.slots = 0) : CallB R s args own index y b n ret (Cond.code y b n ret :: zbg) rm 0 0 k ∧ (Cond.static y).before args s = true := by
  obtain ⟨a1, a2, a3, a4, a5, a6⟩ := hk
  exact ⟨callB_of k hT (zgc a3) rfl h0 h1 (hT _ a2) (hT _ hl) ⟨a4, a5, a6⟩ hR, hT _ a1⟩
end ZR
