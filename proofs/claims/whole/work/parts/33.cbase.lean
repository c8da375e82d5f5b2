/-! constructors -/
abbrev zRn (f cs ss k : Nat) : Room := { frames := f, cells := cs, slots := ss, locals := k }
def zX0 : zS := (fun j => cond (Nat.beq j 1) (-2000000000) 0, fun _ _ => 0, fun _ _ => 0)
def zM0 : zS := (fun _ => 0, fun _ _ => 0, fun _ _ => 0)
def zCn (l : Launch) (y : MethodName) (b : ByteArray) (n : Nat) (rm : Room) (D : va_G) (cl : List vw_C) (tys : List (ClassId × FieldType)) (av : List Value) (w0 : va_W) (X : State → Prop) (post : (Nat → Nat) → Prop) (w1 : (Nat → Nat) → va_W) (mc ms : Nat) : Prop :=
  ∀ sz : Nat, Met l y (Cond.code y b n none :: zbg) rm (va_Pc av (fun U => U.heap.size = sz ∧ va_P D cl w0 U.heap ∧ va_K D cl tys U ∧ va_D (fun _ => True) w0 ∧ X U)) (va_Qv (fun ad : Nat → Nat => post ad) (fun ad t => va_P D cl (w1 ad) t.heap ∧ va_K D cl tys t ∧ va_D (va_A w0 sz) (w1 ad)) (va_A w0 sz)) mc ms (va_A w0 sz)
theorem zMn {l : Launch} {y : MethodName} {b : ByteArray} {n : Nat} {rm : Room} {D : va_G} {cl : List vw_C} {tys : List (ClassId × FieldType)} {av : List Value} {w0 : va_W} {X : State → Prop} {post : (Nat → Nat) → Prop} {w1 : (Nat → Nat) → va_W} {mc ms : Nat} (hy : plainName y.cls = true) (hlen : (lg_sl av).length ≤ n)
    (body : ∀ (p : Program) (e : Env) (s : State) (m : MethodId) (args : Array Value) (below : List Frame) (meth : Method) (c : Code) (A : Nat → Prop) (Q : State → Prop), p.tables.exec = Jvm.exec → c.code = b → c.maxLocals = n → s.vm.findClass y.cls = some m.cls → (∀ w ∈ zbg, w.before args s = true) → meth.name = y.name → va_K D cl tys s → X s →
      (∀ (ad : Nat → Nat) (H : Heap) (locs : List Loc) (pc : Nat) (ls : Array Slot), decode b pc = .ok (.return_, 1) → post ad → va_P D cl (w1 ad) H → va_D A (w1 ad) → va_S A s.heap H locs → W p l e rm s m args below meth c H locs mc ms Q (F0 m pc ls [])) →
      va_P D cl w0 s.heap → va_D A w0 → (∀ q, s.heap.size ≤ q → A q) → va_S A s.heap s.heap [] → ∀ ls : Array Slot, lv_has ls n (lv_args 0 av) → W p l e rm s m args below meth c s.heap [] 0 0 Q (F0 m 0 ls [])) : zCn l y b n rm D cl tys av w0 X post w1 mc ms := by
  intro sz
  refine Met.ofW (cc := b) (maxL := n) (ret := none) hy rfl ?_
  intro p e s m args below meth c s₁ B hml hv
  obtain ⟨rfl, hsz, hP, hK, hD, hX⟩ := hv
  subst hsz
  have hx := B.exec
  have hb := B.bytes
  have hr := B.returns
  have hlocks := B.notSynchronized
  obtain ⟨ls, h1, h2⟩ := zent av hlen m
  rw [h1]
  refine body p e s m av.toArray below meth c (va_A w0 s.heap.size) _ hx hb hml (findClass_of_methodNamed B.named) (fun w hw => atoms_spec B.pre w (List.mem_cons_of_mem _ hw)) (name_of_methodNamed B.named B.method).1 hK hX (fun ad H locs pc ls hdg hpost hP hD hS => ?_) hP hD.self (fun q h => Or.inr h) va_S.rf ls h2
  exact W.vret hx hb hr (fun t' ht hW => ⟨⟨ad, rfl, hpost, by rw [ht]; exact hP, va_K.moved hW.alike hK, hD⟩, hS.F ht⟩) hS.2.2 hdg
theorem zRA_eq {s : State} {c1 c2 : ClassId} {ty : FieldType} (h1 : va_RA s c1 ty) (h2 : va_RA s c2 ty) : c1 = c2 := by
  cases ty with
  | object C =>
    obtain ⟨_, _, _, _, _, a1⟩ := h1
    obtain ⟨_, _, _, _, _, a2⟩ := h2
    exact Option.some.inj (a1.symm.trans a2)
  | _ => exact Option.some.inj (Eq.trans (Eq.symm h1) h2)
def zkI (y : MethodName) (b : ByteArray) (n : Nat) (k : Nat) : Prop := Cond.instanceMethod y ∈ zbg ∧ Cond.initialized y.cls ∈ zbg ∧ Cond.code y b n none ∈ zbg ∧ y.name = "<init>" ∧ y.cls ≠ "java/lang/invoke/MethodHandle" ∧ y.cls ≠ "java/lang/invoke/VarHandle" ∧ (parseMethodDescriptor y.desc).map (fun d => d.parameters.length) = some k
theorem zarr_congr {cA : ClassId} {n : Nat} {f g : Nat → Value} (h : ∀ j, j < n → f j = g j) : arrV cA n f = arrV cA n g := by
  unfold arrV
  congr 2
  funext j
  exact h j.val j.isLt
theorem zP_fix {D : va_G} {cl : List vw_C} {ws : va_W} {H : Heap} {a n : Nat} {cA : ClassId} {f g : Nat → Option Nat} (p : Nat) (hP : va_P D cl ws H) (hp : ws[p]? = some (a, .inl (cA, n, .inr (.inr (.inr (.inr f)))))) (h : ∀ j, j < n → f j = g j) : va_P D cl (ws.set p (a, .inl (cA, n, .inr (.inr (.inr (.inr g)))))) H := by
  have hl := (List.getElem?_eq_some_iff.mp hp).1
  intro k q hk
  by_cases hkp : k = p
  · subst hkp
    rw [List.getElem?_set_self hl] at hk
    cases hk
    have h1 := hP k _ hp
    show H[a]? = some (vp_cell _ _)
    have h2 : H[a]? = some (vp_cell cA (n, .inr (.inr (.inr (.inr f))))) := h1
    rw [h2, vp_cell_q, vp_cell_q]
    congr 1
    exact zarr_congr (fun j hj => by rw [h j hj])
  · rw [List.getElem?_set_ne (Ne.symm hkp)] at hk
    exact hP k q hk
theorem z10f {α : Type} {f g : Nat → α} (h : f 0 = g 0 ∧ f 1 = g 1 ∧ f 2 = g 2 ∧ f 3 = g 3 ∧ f 4 = g 4 ∧ f 5 = g 5 ∧ f 6 = g 6 ∧ f 7 = g 7 ∧ f 8 = g 8 ∧ f 9 = g 9) : ∀ j, j < 10 → f j = g j := fun _ hj => z10 (P := fun j => f j = g j) h hj
section ZN
variable {p : Program} {l : Launch} {e : Env} {R : Room} {s : State} {m : MethodId} {args : Array Value} {below : List Frame} {meth : Method} {c : Code} {H : Heap} {locs : List Loc} {cells slots : Nat} {Q : State → Prop}
variable {cc : ByteArray} {pc : Nat} {ls : Array Slot} {rest st : List Value} {A : Nat → Prop} {H0 : Heap} {D : va_G} {cl : List vw_C} {tys : List (ClassId × FieldType)} {ws : va_W}
theorem znewa (t0 : Nat) (hx : p.tables.exec = Jvm.exec) (hb : c.code = cc) {atype : ArrayType} (harr : (Cond.arrayClass (newarray.typeOf atype)).before args s = true) {ty : FieldType} (hty : newarray.typeOf atype = ty) (hK : va_K D cl tys s) {cA : ClassId} (ht : tys[t0]? = some (cA, ty)) (hP : va_P D cl ws H) (hD : va_D A ws) (hS : va_S A H0 H locs) (hA : ∀ q, H0.size ≤ q → A q)
    {n : Int32} {N' : Nat} {a0 : vp_A} (ha : ∀ cA : ClassId, vp_cell cA a0 = arrV cA N' (fun _ => defaultValue ty)) (hn : ¬ n < 0) (hN : n.toNatClampNeg = N') (hbytes : N' * componentBytes ty ≤ 536870912) (hcells : cells + 1 ≤ R.cells) (hslots : slots + N' ≤ R.slots) (hdg : decode cc pc = .ok (.newarray atype, 2))
    (kk : ∀ (q : Nat) (H1 : Heap), va_P D cl (ws ++ [(q, .inl (cA, a0))]) H1 → va_D A (ws ++ [(q, .inl (cA, a0))]) → va_S A H0 H1 locs →
      W p l e R s m args below meth c H1 locs (cells + 1) (slots + N') Q (F0 m (pc + 2) ls (.ref q :: rest))) : W p l e R s m args below meth c H locs cells slots Q (F0 m pc ls (.int n :: rest)) := by
  refine va_newa hx hb harr hty hK hP hD hS hA ha hn hN hbytes hcells hslots hdg (fun q c2 H1 hK2 hP2 hD2 hS2 => ?_)
  have e1 : c2 = cA := zRA_eq (hK2.2 tys.length _ (by rw [List.getElem?_append_right (Nat.le_refl _), Nat.sub_self]; rfl)).2 (hK.2 t0 _ ht).2
  subst e1
  exact kk q H1 hP2 hD2 hS2
theorem znewq (t0 : Nat) (hx : p.tables.exec = Jvm.exec) (hb : c.code = cc) {own C : String} {index : Nat} (hown : s.vm.findClass own = some m.cls) (hclink : (Cond.classLink own index C).before args s = true) (hover : va_AO C s) (hK : va_K D cl tys s) {cA : ClassId} (ht : tys[t0]? = some (cA, .object C)) (hP : va_P D cl ws H) (hD : va_D A ws) (hS : va_S A H0 H locs) (hA : ∀ q, H0.size ≤ q → A q)
    {n : Int32} {N' : Nat} (hn : ¬ n < 0) (hN : n.toNatClampNeg = N') (hbytes : N' * 4 ≤ 536870912) (hcells : cells + 1 ≤ R.cells) (hslots : slots + N' ≤ R.slots) (hdg : decode cc pc = .ok (.anewarray index, 3))
    (kk : ∀ (q : Nat) (H1 : Heap), va_P D cl (ws ++ [(q, .inl (cA, N', .inr (.inr (.inr (.inr (fun _ => none))))))]) H1 → va_D A (ws ++ [(q, .inl (cA, N', .inr (.inr (.inr (.inr (fun _ => none))))))]) → va_S A H0 H1 locs →
      W p l e R s m args below meth c H1 locs (cells + 1) (slots + N') Q (F0 m (pc + 3) ls (.ref q :: rest))) : W p l e R s m args below meth c H locs cells slots Q (F0 m pc ls (.int n :: rest)) := by
  refine va_newq hx hb hown hclink hover hK hP hD hS hA hn hN hbytes hcells hslots hdg (fun q c2 H1 hK2 hP2 hD2 hS2 => ?_)
  have e1 : c2 = cA := zRA_eq (hK2.2 tys.length _ (by rw [List.getElem?_append_right (Nat.le_refl _), Nat.sub_self]; rfl)).2 (hK.2 t0 _ ht).2
  subst e1
  exact kk q H1 hP2 hD2 hS2
theorem zcallI {own : String} {index n k nL mc ms : Nat} {y : MethodName} {b : ByteArray} {rm : Room} {a : Nat} {c0 : va_E} {wr : va_W} {w1 : (Nat → Nat) → va_W} {X : State → Prop} {post : (Nat → Nat) → Prop} (As : List Value) (hx : p.tables.exec = Jvm.exec) (hb : c.code = cc) (hml : c.maxLocals = nL) (hls : ls.size = nL) (hown : s.vm.findClass own = some m.cls) (hT : ∀ w ∈ zbg, w.before args s = true)
    (hM : zCn l y b n rm D cl tys (.ref a :: As) [(a, c0)] X post w1 mc ms) (hk : zkI y b n k) (hl : Cond.methodLink own index y ∈ zbg) (hR : rm.frames + 1 ≤ R.frames ∧ 8 + (n + 11) + rm.locals ≤ R.locals) (h0 : rm.cells = mc) (h1 : rm.slots = ms) (hXX : ∀ (U : State), s.vm.Alike U.vm → X U) (hXb : ∀ (U : State) (g : JFrame) (mk : MethodId) (a : Array Value), X U → X (U.calling g mk a))
    (hK : va_K D cl tys s) (hP : va_P D cl (wr ++ [(a, c0)]) H) (hD : va_D A (wr ++ [(a, c0)])) (hS : va_S A H0 H locs) (hA : ∀ q, H0.size ≤ q → A q) (hn : As.length = k) (hst : st = As.reverse ++ .ref a :: rest) (hr : (rest.map fun v => v.category).sum ≤ 8) (hcs : cells + mc ≤ R.cells ∧ slots + ms ≤ R.slots) (hdg : decode cc pc = .ok (.invokespecial index, 3))
    (kk : ∀ (ad : Nat → Nat) (H1 : Heap) (locs1 : List Loc), post ad → va_P D cl (wr ++ w1 ad) H1 → va_D A (wr ++ w1 ad) → va_S A H0 H1 locs1 → W p l e R s m args below meth c H1 locs1 (cells + mc) (slots + ms) Q (F0 m (pc + 3) ls rest)) : W p l e R s m args below meth c H locs cells slots Q (F0 m pc ls st) := by
  subst hst
  obtain ⟨a1, a2, a3, a4, a5, a6, a7⟩ := hk
  have hlast : (wr ++ [(a, c0)])[wr.length]? = some (a, c0) := by rw [List.getElem?_append_right (Nat.le_refl _), Nat.sub_self]; rfl
  have hleft : ∀ (k : Nat) (q : Nat × va_E), wr[k]? = some q → (wr ++ [(a, c0)])[k]? = some q := fun k q h => by rw [List.getElem?_append_left (List.getElem?_eq_some_iff.mp h).1]; exact h
  have hPc : va_P D cl [(a, c0)] H := by
    intro k q hq
    have hz : k < 1 := (List.getElem?_eq_some_iff.mp hq).1
    have : k = 0 := by omega
    subst this
    cases hq
    exact hP _ _ hlast
  have hDc : va_D (fun _ => True) [(a, c0)] := by
    refine ⟨fun i j x z hi hj _ => ?_, fun _ _ _ => trivial⟩
    have := (List.getElem?_eq_some_iff.mp hi).1
    have := (List.getElem?_eq_some_iff.mp hj).1
    simp only [List.length_singleton] at *
    omega
  have hF : ∀ q, va_A [(a, c0)] H.size q → A q := by
    intro q h
    rcases h with ⟨k, e2, h⟩ | h
    · have hz : k < 1 := (List.getElem?_eq_some_iff.mp h).1
      have : k = 0 := by omega
      subst this
      cases h
      exact hD.2 _ _ hlast
    · exact hA q (Nat.le_trans hS.1 h)
  refine va_callv (va_runI (As := As) (rest := rest) ⟨hx, hb, hml, hown, hT⟩ (hM H.size) ⟨callB_of k hT (zgc a3) rfl h0 h1 (hT _ a2) (hT _ hl) ⟨a5, a6, a7⟩ hR, a4, hT _ a1⟩ ⟨fun a U g mk q => by obtain ⟨q0, q1, qP, qK, qD, qX⟩ := q; exact ⟨q0, q1, qP, va_K.moved (u := U) (U := U.calling g mk a) (Vm.Alike.refl U.vm) qK, qD, hXb U g mk a qX⟩, fun U hU hW => ⟨rfl, by rw [hU], by rw [hU]; exact hPc, va_K.moved hW.alike hK, hDc, hXX U hW.alike⟩⟩ rfl hn hls rfl (lv_room hr) hdg hcs) hS (fun q _ h => hF q h) hF (fun u t' H1 locs1 ht hvm hpost hB hz hk1 hS1 => ?_)
  obtain ⟨hP1, hK1, hD1⟩ := hB
  rw [ht] at hP1
  have hout : ∀ (k : Nat) (q : Nat × va_E), wr[k]? = some q → ¬ va_A [(a, c0)] H.size q.1 := by
    intro k q hq h
    rcases h with ⟨k2, e2, h⟩ | h
    · have hz2 : k2 < 1 := (List.getElem?_eq_some_iff.mp h).1
      have : k2 = 0 := by omega
      subst this
      have h9 : (a, c0) = (q.1, e2) := Option.some.inj h
      have := hD.1 k wr.length q (a, c0) (hleft k q hq) hlast (congrArg Prod.fst h9).symm
      have := (List.getElem?_eq_some_iff.mp hq).1
      omega
    · have := (hP k q (hleft k q hq)).lt
      omega
  refine kk u H1 locs1 hpost (va_P.app (fun k q hq => (hP k q (hleft k q hq)).kept (hk1 q.1 (hP k q (hleft k q hq)).lt (hout k q hq))) hP1) (va_D.app ⟨fun i j x z hi hj hxz => hD.1 i j x z (hleft i x hi) (hleft j z hj) hxz, fun k q hq => hD.2 k q (hleft k q hq)⟩ (hD1.weaken (fun k q _ h => hF q.1 h)) (fun i j x z hx1 hz1 hxz => hout i x hx1 (by rw [hxz]; exact hD1.2 j z hz1))) hS1
end ZN
