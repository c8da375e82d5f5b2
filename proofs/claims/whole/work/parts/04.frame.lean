abbrev zR (f k : Nat) : Room := { frames := f, cells := 0, slots := 0, locals := k }
theorem zent {n : Nat} (av : List Value) (hlen : (lg_sl av).length ≤ n) (m : MethodId) : ∃ ls : Array Slot, entryFrame m av.toArray n = F0 m 0 ls [] ∧ lv_has ls n (lv_args 0 av) := by
  refine ⟨_, ?_, lv_entry av hlen⟩
  rw [lg_entry_eq]
theorem zMi {l : Launch} {y : MethodName} {b : ByteArray} {n : Nat} {rm : Room} {D : va_G} {cl : List vw_C} {tys : List (ClassId × FieldType)} {t : Nat} {A : Nat → Prop} {S : Type} {wd : S → va_W} {av : List Value} {σ σ' : S} {r : Int32} (hy : plainName y.cls = true) (hlen : (lg_sl av).length ≤ n) (body : ∀ (p : Program) (e : Env) (s : State) (m : MethodId) (args : Array Value) (below : List Frame) (meth : Method) (c : Code) (Q : State → Prop), p.tables.exec = Jvm.exec → c.code = b → c.maxLocals = n → s.vm.findClass y.cls = some m.cls → (∀ w ∈ zbg, w.before args s = true) → va_K D cl tys s → zZ t A s s.heap →
      (∀ (H : Heap) (locs : List Loc) (pc : Nat) (ls : Array Slot), decode b pc = .ok (.ireturn, 1) → va_P D cl (wd σ') H → va_D A (wd σ') → va_S A s.heap H locs → W p l e rm s m args below meth c H locs 0 0 Q (F0 m pc ls [.int r])) →
      va_P D cl (wd σ) s.heap → va_D A (wd σ) → va_S A s.heap s.heap [] → ∀ ls : Array Slot, lv_has ls n (lv_args 0 av) → W p l e rm s m args below meth c s.heap [] 0 0 Q (F0 m 0 ls [])) : zCi l y b n (some .int) rm D cl tys t A wd av σ σ' r := by
  unfold zCi
  refine Met.ofW (cc := b) (maxL := n) (ret := (some .int)) hy rfl ?_
  intro p e s m args below meth c s₁ B hml hv
  obtain ⟨rfl, hP, hK, hD, hZ⟩ := hv
  have hx := B.exec
  have hb := B.bytes
  have hr := B.returns
  have hlocks := B.notSynchronized
  obtain ⟨ls, h1, h2⟩ := zent av hlen m
  rw [h1]
  refine body p e s m av.toArray below meth c _ hx hb hml (findClass_of_methodNamed B.named) (fun w hw => atoms_spec B.pre w (List.mem_cons_of_mem _ hw)) hK hZ (fun H locs pc ls hdg hP hD hS => ?_) hP hD va_S.rf ls h2
  exact W.iret hx hb hr (fun t' ht hW => ⟨⟨r, σ', rfl, ⟨rfl, rfl⟩, by rw [ht]; exact hP, va_K.moved hW.alike hK, hD, zZ_at hZ hS ht hW.alike⟩, hS.F ht⟩) hS.2.2 hdg
theorem zMz {l : Launch} {y : MethodName} {b : ByteArray} {n : Nat} {rm : Room} {D : va_G} {cl : List vw_C} {tys : List (ClassId × FieldType)} {t : Nat} {A : Nat → Prop} {S : Type} {wd : S → va_W} {av : List Value} {σ σ' : S} {r : Int32} (hy : plainName y.cls = true) (hlen : (lg_sl av).length ≤ n) (body : ∀ (p : Program) (e : Env) (s : State) (m : MethodId) (args : Array Value) (below : List Frame) (meth : Method) (c : Code) (Q : State → Prop), p.tables.exec = Jvm.exec → c.code = b → c.maxLocals = n → s.vm.findClass y.cls = some m.cls → (∀ w ∈ zbg, w.before args s = true) → va_K D cl tys s → zZ t A s s.heap →
      (∀ (H : Heap) (locs : List Loc) (pc : Nat) (ls : Array Slot), narrow .boolean (.int r) = .int r → decode b pc = .ok (.ireturn, 1) → va_P D cl (wd σ') H → va_D A (wd σ') → va_S A s.heap H locs → W p l e rm s m args below meth c H locs 0 0 Q (F0 m pc ls [.int r])) →
      va_P D cl (wd σ) s.heap → va_D A (wd σ) → va_S A s.heap s.heap [] → ∀ ls : Array Slot, lv_has ls n (lv_args 0 av) → W p l e rm s m args below meth c s.heap [] 0 0 Q (F0 m 0 ls [])) : zCi l y b n (some .boolean) rm D cl tys t A wd av σ σ' r := by
  unfold zCi
  refine Met.ofW (cc := b) (maxL := n) (ret := (some .boolean)) hy rfl ?_
  intro p e s m args below meth c s₁ B hml hv
  obtain ⟨rfl, hP, hK, hD, hZ⟩ := hv
  have hx := B.exec
  have hb := B.bytes
  have hr := B.returns
  have hlocks := B.notSynchronized
  obtain ⟨ls, h1, h2⟩ := zent av hlen m
  rw [h1]
  refine body p e s m av.toArray below meth c _ hx hb hml (findClass_of_methodNamed B.named) (fun w hw => atoms_spec B.pre w (List.mem_cons_of_mem _ hw)) hK hZ (fun H locs pc ls hnar hdg hP hD hS => ?_) hP hD va_S.rf ls h2
  exact W.zret hx hb hr hnar (fun t' ht hW => ⟨⟨r, σ', rfl, ⟨rfl, rfl⟩, by rw [ht]; exact hP, va_K.moved hW.alike hK, hD, zZ_at hZ hS ht hW.alike⟩, hS.F ht⟩) hS.2.2 hdg
theorem zMl {l : Launch} {y : MethodName} {b : ByteArray} {n : Nat} {rm : Room} {D : va_G} {cl : List vw_C} {tys : List (ClassId × FieldType)} {t : Nat} {A : Nat → Prop} {S : Type} {wd : S → va_W} {av : List Value} {σ σ' : S} {r : Int64} (hy : plainName y.cls = true) (hlen : (lg_sl av).length ≤ n) (body : ∀ (p : Program) (e : Env) (s : State) (m : MethodId) (args : Array Value) (below : List Frame) (meth : Method) (c : Code) (Q : State → Prop), p.tables.exec = Jvm.exec → c.code = b → c.maxLocals = n → s.vm.findClass y.cls = some m.cls → (∀ w ∈ zbg, w.before args s = true) → va_K D cl tys s → zZ t A s s.heap →
      (∀ (H : Heap) (locs : List Loc) (pc : Nat) (ls : Array Slot), decode b pc = .ok (.lreturn, 1) → va_P D cl (wd σ') H → va_D A (wd σ') → va_S A s.heap H locs → W p l e rm s m args below meth c H locs 0 0 Q (F0 m pc ls [.long r])) →
      va_P D cl (wd σ) s.heap → va_D A (wd σ) → va_S A s.heap s.heap [] → ∀ ls : Array Slot, lv_has ls n (lv_args 0 av) → W p l e rm s m args below meth c s.heap [] 0 0 Q (F0 m 0 ls [])) : zCl l y b n (some .long) rm D cl tys t A wd av σ σ' r := by
  unfold zCl
  refine Met.ofW (cc := b) (maxL := n) (ret := (some .long)) hy rfl ?_
  intro p e s m args below meth c s₁ B hml hv
  obtain ⟨rfl, hP, hK, hD, hZ⟩ := hv
  have hx := B.exec
  have hb := B.bytes
  have hr := B.returns
  have hlocks := B.notSynchronized
  obtain ⟨ls, h1, h2⟩ := zent av hlen m
  rw [h1]
  refine body p e s m av.toArray below meth c _ hx hb hml (findClass_of_methodNamed B.named) (fun w hw => atoms_spec B.pre w (List.mem_cons_of_mem _ hw)) hK hZ (fun H locs pc ls hdg hP hD hS => ?_) hP hD va_S.rf ls h2
  exact W.lret hx hb hr (fun t' ht hW => ⟨⟨r, σ', rfl, ⟨rfl, rfl⟩, by rw [ht]; exact hP, va_K.moved hW.alike hK, hD, zZ_at hZ hS ht hW.alike⟩, hS.F ht⟩) hS.2.2 hdg
theorem zMv {l : Launch} {y : MethodName} {b : ByteArray} {n : Nat} {rm : Room} {D : va_G} {cl : List vw_C} {tys : List (ClassId × FieldType)} {t : Nat} {A : Nat → Prop} {S : Type} {wd : S → va_W} {av : List Value} {σ σ' : S} (hy : plainName y.cls = true) (hlen : (lg_sl av).length ≤ n) (body : ∀ (p : Program) (e : Env) (s : State) (m : MethodId) (args : Array Value) (below : List Frame) (meth : Method) (c : Code) (Q : State → Prop), p.tables.exec = Jvm.exec → c.code = b → c.maxLocals = n → s.vm.findClass y.cls = some m.cls → (∀ w ∈ zbg, w.before args s = true) → va_K D cl tys s → zZ t A s s.heap →
      (∀ (H : Heap) (locs : List Loc) (pc : Nat) (ls : Array Slot), decode b pc = .ok (.return_, 1) → va_P D cl (wd σ') H → va_D A (wd σ') → va_S A s.heap H locs → W p l e rm s m args below meth c H locs 0 0 Q (F0 m pc ls [])) →
      va_P D cl (wd σ) s.heap → va_D A (wd σ) → va_S A s.heap s.heap [] → ∀ ls : Array Slot, lv_has ls n (lv_args 0 av) → W p l e rm s m args below meth c s.heap [] 0 0 Q (F0 m 0 ls [])) : zCv l y b n none rm D cl tys t A wd av σ σ' := by
  unfold zCv
  refine Met.ofW (cc := b) (maxL := n) (ret := none) hy rfl ?_
  intro p e s m args below meth c s₁ B hml hv
  obtain ⟨rfl, hP, hK, hD, hZ⟩ := hv
  have hx := B.exec
  have hb := B.bytes
  have hr := B.returns
  have hlocks := B.notSynchronized
  obtain ⟨ls, h1, h2⟩ := zent av hlen m
  rw [h1]
  refine body p e s m av.toArray below meth c _ hx hb hml (findClass_of_methodNamed B.named) (fun w hw => atoms_spec B.pre w (List.mem_cons_of_mem _ hw)) hK hZ (fun H locs pc ls hdg hP hD hS => ?_) hP hD va_S.rf ls h2
  exact W.vret hx hb hr (fun t' ht hW => ⟨⟨σ', rfl, rfl, by rw [ht]; exact hP, va_K.moved hW.alike hK, hD, zZ_at hZ hS ht hW.alike⟩, hS.F ht⟩) hS.2.2 hdg
theorem zMq {l : Launch} {y : MethodName} {b : ByteArray} {n : Nat} {rm : Room} {D : va_G} {cl : List vw_C} {tys : List (ClassId × FieldType)} {t : Nat} {A : Nat → Prop} {S : Type} {wd : S → va_W} {av : List Value} {σ σ' : S} {r : Option Nat} {rt : FieldType} (hrt : (∃ n, rt = .object n) ∨ ∃ t, rt = .array t) (hy : plainName y.cls = true) (hlen : (lg_sl av).length ≤ n) (body : ∀ (p : Program) (e : Env) (s : State) (m : MethodId) (args : Array Value) (below : List Frame) (meth : Method) (c : Code) (Q : State → Prop), p.tables.exec = Jvm.exec → c.code = b → c.maxLocals = n → s.vm.findClass y.cls = some m.cls → (∀ w ∈ zbg, w.before args s = true) → va_K D cl tys s → zZ t A s s.heap →
      (∀ (H : Heap) (locs : List Loc) (pc : Nat) (ls : Array Slot), decode b pc = .ok (.areturn, 1) → va_P D cl (wd σ') H → va_D A (wd σ') → va_S A s.heap H locs → W p l e rm s m args below meth c H locs 0 0 Q (F0 m pc ls [va_rf r])) →
      va_P D cl (wd σ) s.heap → va_D A (wd σ) → va_S A s.heap s.heap [] → ∀ ls : Array Slot, lv_has ls n (lv_args 0 av) → W p l e rm s m args below meth c s.heap [] 0 0 Q (F0 m 0 ls [])) : zCq l y b n (some rt) rm D cl tys t A wd av σ σ' r := by
  unfold zCq
  refine Met.ofW (cc := b) (maxL := n) (ret := (some rt)) hy rfl ?_
  intro p e s m args below meth c s₁ B hml hv
  obtain ⟨rfl, hP, hK, hD, hZ⟩ := hv
  have hx := B.exec
  have hb := B.bytes
  have hr := B.returns
  have hlocks := B.notSynchronized
  obtain ⟨ls, h1, h2⟩ := zent av hlen m
  rw [h1]
  refine body p e s m av.toArray below meth c _ hx hb hml (findClass_of_methodNamed B.named) (fun w hw => atoms_spec B.pre w (List.mem_cons_of_mem _ hw)) hK hZ (fun H locs pc ls hdg hP hD hS => ?_) hP hD va_S.rf ls h2
  exact W.aret hx hb hr hrt (va_rf_or r) (fun t' ht hW => ⟨⟨r, σ', rfl, ⟨rfl, rfl⟩, by rw [ht]; exact hP, va_K.moved hW.alike hK, hD, zZ_at hZ hS ht hW.alike⟩, hS.F ht⟩) hS.2.2 hdg
theorem zMiF {l : Launch} {y : MethodName} {b : ByteArray} {n : Nat} {rm : Room} {D : va_G} {cl : List vw_C} {tys : List (ClassId × FieldType)} {t : Nat} {A : Nat → Prop} {S : Type} {wd : S → va_W} {av : List Value} {σ σ' : S} {r : Int32} (hy : plainFor y = true) (hlen : (lg_sl av).length ≤ n) (body : ∀ (p : Program) (e : Env) (s : State) (m : MethodId) (args : Array Value) (below : List Frame) (meth : Method) (c : Code) (Q : State → Prop), p.tables.exec = Jvm.exec → c.code = b → c.maxLocals = n → s.vm.findClass y.cls = some m.cls → (∀ w ∈ zbg, w.before args s = true) → va_K D cl tys s → zZ t A s s.heap →
      (∀ (H : Heap) (locs : List Loc) (pc : Nat) (ls : Array Slot), decode b pc = .ok (.ireturn, 1) → va_P D cl (wd σ') H → va_D A (wd σ') → va_S A s.heap H locs → W p l e rm s m args below meth c H locs 0 0 Q (F0 m pc ls [.int r])) →
      va_P D cl (wd σ) s.heap → va_D A (wd σ) → va_S A s.heap s.heap [] → ∀ ls : Array Slot, lv_has ls n (lv_args 0 av) → W p l e rm s m args below meth c s.heap [] 0 0 Q (F0 m 0 ls [])) : zCi l y b n (some .int) rm D cl tys t A wd av σ σ' r := by
  unfold zCi
  refine va_MetF (cc := b) (maxL := n) (ret := (some .int)) hy rfl ?_
  intro p e s m args below meth c s₁ B hml hv
  obtain ⟨rfl, hP, hK, hD, hZ⟩ := hv
  have hx := B.exec
  have hb := B.bytes
  have hr := B.returns
  have hlocks := B.notSynchronized
  obtain ⟨ls, h1, h2⟩ := zent av hlen m
  rw [h1]
  refine body p e s m av.toArray below meth c _ hx hb hml (findClass_of_methodNamed B.named) (fun w hw => atoms_spec B.pre w (List.mem_cons_of_mem _ hw)) hK hZ (fun H locs pc ls hdg hP hD hS => ?_) hP hD va_S.rf ls h2
  exact W.iret hx hb hr (fun t' ht hW => ⟨⟨r, σ', rfl, ⟨rfl, rfl⟩, by rw [ht]; exact hP, va_K.moved hW.alike hK, hD, zZ_at hZ hS ht hW.alike⟩, hS.F ht⟩) hS.2.2 hdg
