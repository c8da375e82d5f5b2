def zLB (Dx Dm : va_G) (adx adm : Nat → Nat) (cI cJ cZ cO : ClassId) (AX AM : Nat → Prop) (σ : zS × zS) (H : Heap) : Prop := va_P Dx zclX (zwX adx cI cJ cZ cO σ.1) H ∧ va_D AX (zwX adx cI cJ cZ cO σ.1) ∧ va_P Dm zclM (zwM adm cI cJ cZ cO σ.2) H ∧ va_D AM (zwM adm cI cJ cZ cO σ.2)
section ZL
variable {p : Program} {l : Launch} {e : Env} {R : Room} {s : State} {m : MethodId} {args : Array Value} {below : List Frame} {meth : Method} {c : Code} {H : Heap} {locs : List Loc} {cells slots : Nat} {Q : State → Prop}
variable {cc : ByteArray} {pc : Nat} {ls : Array Slot} {rest st : List Value} {A AX AM : Nat → Prop} {Dx Dm : va_G} {adx adm : Nat → Nat} {cI cJ cZ cO : ClassId} {t : Nat}
theorem zLZ {A B : Nat → Prop} {H : Heap} {U : State} (hZ : zZ t A s s.heap) (hS : va_S A s.heap H locs) (hB : ∀ q, B q → A q) (hU : U.heap = H) (hvm : s.vm.Alike U.vm) : zZ t B U U.heap := by
  have h := zZ_at hZ hS hU hvm
  exact ⟨va_Z.narrow h.1 hB, va_T.narrow h.2 hB⟩
theorem zLxi {index n k nL : Nat} {y : MethodName} {b : ByteArray} {ret : Option FieldType} {rm : Room} {σ : zS × zS} {σ' : zS} {r : Int32} (As : List Value) (hx : p.tables.exec = Jvm.exec) (hb : c.code = cc) (hml : c.maxLocals = nL) (hls : ls.size = nL) (hown : s.vm.findClass RL = some m.cls) (hT : ∀ w ∈ zbg, w.before args s = true)
    (hM : zCi l y b n ret rm Dx zclX (zty cI cJ cZ cO) t AX (zwX adx cI cJ cZ cO) (.ref (adx 0) :: As) σ.1 σ' r) (hk : zkV RX8 y b n ret k) (hl : Cond.methodLink RL index y ∈ zbg) (hR : rm.frames + 1 ≤ R.frames ∧ 8 + (n + 11) + rm.locals ≤ R.locals) (h0 : rm.cells = 0) (h1 : rm.slots = 0)
    (hKx : va_K Dx zclX (zty cI cJ cZ cO) s) (hKm : va_K Dm zclM (zty cI cJ cZ cO) s) (hZ : zZ t A s s.heap) (hAX : ∀ q, AX q → A q) (hAM : ∀ q, AM q → A q) (hdis : ∀ q, AX q → AM q → False) (hP : zLB Dx Dm adx adm cI cJ cZ cO AX AM σ H) (hS : va_S A s.heap H locs) (hn : As.length = k) (hst : st = As.reverse ++ .ref (adx 0) :: rest) (hr : (rest.map fun v => v.category).sum ≤ 8) (hcs : cells ≤ R.cells ∧ slots ≤ R.slots) (hdg : decode cc pc = .ok (.invokevirtual index, 3))
    (kk : ∀ (H1 : Heap) (locs1 : List Loc), zLB Dx Dm adx adm cI cJ cZ cO AX AM (σ', σ.2) H1 → True → va_S A s.heap H1 locs1 → W p l e R s m args below meth c H1 locs1 cells slots Q (F0 m (pc + 3) ls (.int r :: rest))) : W p l e R s m args below meth c H locs cells slots Q (F0 m pc ls st) := by
  subst hst
  obtain ⟨hPx, hDx, hPm, hDm⟩ := hP
  refine va_calli (va_runV (As := As) (rest := rest) ⟨hx, hb, hml, hown, hT⟩ hM (zcwV hT hk hl hR h0 h1) ⟨zblind, va_recv hKx hPx (ci := 0) (q0 := 0) rfl rfl, fun U hU hW => ⟨rfl, by rw [hU]; exact hPx, va_K.moved hW.alike hKx, hDx, zLZ hZ hS hAX hU hW.alike⟩⟩ rfl hn hls rfl (lv_room hr) hdg hcs) hS (fun q _ h => hAX q h) (fun q h => hAX q h) (fun r2 u t' H1 locs1 ht hvm hpost hB hz hk1 hS1 => ?_)
  obtain ⟨rfl, rfl⟩ := hpost
  obtain ⟨hP1, hK1, hD1, hZ1⟩ := hB
  rw [ht] at hP1
  have hM2 := hPm.kept (H1 := H1) (fun k q hq => hk1 q.1 (hPm k q hq).lt (fun z => hdis q.1 z (hDm.2 k q hq)))
  have hD2 := hDm
  exact kk H1 locs1 ⟨hP1, hD1, hM2, hD2⟩ trivial hS1
theorem zLxl {index n k nL : Nat} {y : MethodName} {b : ByteArray} {ret : Option FieldType} {rm : Room} {σ : zS × zS} {σ' : zS} {r : Int64} (As : List Value) (hx : p.tables.exec = Jvm.exec) (hb : c.code = cc) (hml : c.maxLocals = nL) (hls : ls.size = nL) (hown : s.vm.findClass RL = some m.cls) (hT : ∀ w ∈ zbg, w.before args s = true)
    (hM : zCl l y b n ret rm Dx zclX (zty cI cJ cZ cO) t AX (zwX adx cI cJ cZ cO) (.ref (adx 0) :: As) σ.1 σ' r) (hk : zkV RX8 y b n ret k) (hl : Cond.methodLink RL index y ∈ zbg) (hR : rm.frames + 1 ≤ R.frames ∧ 8 + (n + 11) + rm.locals ≤ R.locals) (h0 : rm.cells = 0) (h1 : rm.slots = 0)
    (hKx : va_K Dx zclX (zty cI cJ cZ cO) s) (hKm : va_K Dm zclM (zty cI cJ cZ cO) s) (hZ : zZ t A s s.heap) (hAX : ∀ q, AX q → A q) (hAM : ∀ q, AM q → A q) (hdis : ∀ q, AX q → AM q → False) (hP : zLB Dx Dm adx adm cI cJ cZ cO AX AM σ H) (hS : va_S A s.heap H locs) (hn : As.length = k) (hst : st = As.reverse ++ .ref (adx 0) :: rest) (hr : (rest.map fun v => v.category).sum ≤ 8) (hcs : cells ≤ R.cells ∧ slots ≤ R.slots) (hdg : decode cc pc = .ok (.invokevirtual index, 3))
    (kk : ∀ (H1 : Heap) (locs1 : List Loc), zLB Dx Dm adx adm cI cJ cZ cO AX AM (σ', σ.2) H1 → True → va_S A s.heap H1 locs1 → W p l e R s m args below meth c H1 locs1 cells slots Q (F0 m (pc + 3) ls (.long r :: rest))) : W p l e R s m args below meth c H locs cells slots Q (F0 m pc ls st) := by
  subst hst
  obtain ⟨hPx, hDx, hPm, hDm⟩ := hP
  refine va_calll (va_runV (As := As) (rest := rest) ⟨hx, hb, hml, hown, hT⟩ hM (zcwV hT hk hl hR h0 h1) ⟨zblind, va_recv hKx hPx (ci := 0) (q0 := 0) rfl rfl, fun U hU hW => ⟨rfl, by rw [hU]; exact hPx, va_K.moved hW.alike hKx, hDx, zLZ hZ hS hAX hU hW.alike⟩⟩ rfl hn hls rfl (lv_room hr) hdg hcs) hS (fun q _ h => hAX q h) (fun q h => hAX q h) (fun r2 u t' H1 locs1 ht hvm hpost hB hz hk1 hS1 => ?_)
  obtain ⟨rfl, rfl⟩ := hpost
  obtain ⟨hP1, hK1, hD1, hZ1⟩ := hB
  rw [ht] at hP1
  have hM2 := hPm.kept (H1 := H1) (fun k q hq => hk1 q.1 (hPm k q hq).lt (fun z => hdis q.1 z (hDm.2 k q hq)))
  have hD2 := hDm
  exact kk H1 locs1 ⟨hP1, hD1, hM2, hD2⟩ trivial hS1
theorem zLmi {index n k nL : Nat} {y : MethodName} {b : ByteArray} {ret : Option FieldType} {rm : Room} {σ : zS × zS} {σ' : zS} {r : Int32} (As : List Value) (hx : p.tables.exec = Jvm.exec) (hb : c.code = cc) (hml : c.maxLocals = nL) (hls : ls.size = nL) (hown : s.vm.findClass RL = some m.cls) (hT : ∀ w ∈ zbg, w.before args s = true)
    (hM : zCi l y b n ret rm Dm zclM (zty cI cJ cZ cO) t AM (zwM adm cI cJ cZ cO) (.ref (adm 0) :: As) σ.2 σ' r) (hk : zkV RX9 y b n ret k) (hl : Cond.methodLink RL index y ∈ zbg) (hR : rm.frames + 1 ≤ R.frames ∧ 8 + (n + 11) + rm.locals ≤ R.locals) (h0 : rm.cells = 0) (h1 : rm.slots = 0)
    (hKx : va_K Dx zclX (zty cI cJ cZ cO) s) (hKm : va_K Dm zclM (zty cI cJ cZ cO) s) (hZ : zZ t A s s.heap) (hAX : ∀ q, AX q → A q) (hAM : ∀ q, AM q → A q) (hdis : ∀ q, AX q → AM q → False) (hP : zLB Dx Dm adx adm cI cJ cZ cO AX AM σ H) (hS : va_S A s.heap H locs) (hn : As.length = k) (hst : st = As.reverse ++ .ref (adm 0) :: rest) (hr : (rest.map fun v => v.category).sum ≤ 8) (hcs : cells ≤ R.cells ∧ slots ≤ R.slots) (hdg : decode cc pc = .ok (.invokevirtual index, 3))
    (kk : ∀ (H1 : Heap) (locs1 : List Loc), zLB Dx Dm adx adm cI cJ cZ cO AX AM (σ.1, σ') H1 → True → va_S A s.heap H1 locs1 → W p l e R s m args below meth c H1 locs1 cells slots Q (F0 m (pc + 3) ls (.int r :: rest))) : W p l e R s m args below meth c H locs cells slots Q (F0 m pc ls st) := by
  subst hst
  obtain ⟨hPx, hDx, hPm, hDm⟩ := hP
  refine va_calli (va_runV (As := As) (rest := rest) ⟨hx, hb, hml, hown, hT⟩ hM (zcwV hT hk hl hR h0 h1) ⟨zblind, va_recv hKm hPm (ci := 0) (q0 := 0) rfl rfl, fun U hU hW => ⟨rfl, by rw [hU]; exact hPm, va_K.moved hW.alike hKm, hDm, zLZ hZ hS hAM hU hW.alike⟩⟩ rfl hn hls rfl (lv_room hr) hdg hcs) hS (fun q _ h => hAM q h) (fun q h => hAM q h) (fun r2 u t' H1 locs1 ht hvm hpost hB hz hk1 hS1 => ?_)
  obtain ⟨rfl, rfl⟩ := hpost
  obtain ⟨hP1, hK1, hD1, hZ1⟩ := hB
  rw [ht] at hP1
  have hM2 := hPx.kept (H1 := H1) (fun k q hq => hk1 q.1 (hPx k q hq).lt (fun z => hdis q.1 (hDx.2 k q hq) z))
  have hD2 := hDx
  exact kk H1 locs1 ⟨hM2, hD2, hP1, hD1⟩ trivial hS1
theorem zLml {index n k nL : Nat} {y : MethodName} {b : ByteArray} {ret : Option FieldType} {rm : Room} {σ : zS × zS} {σ' : zS} {r : Int64} (As : List Value) (hx : p.tables.exec = Jvm.exec) (hb : c.code = cc) (hml : c.maxLocals = nL) (hls : ls.size = nL) (hown : s.vm.findClass RL = some m.cls) (hT : ∀ w ∈ zbg, w.before args s = true)
    (hM : zCl l y b n ret rm Dm zclM (zty cI cJ cZ cO) t AM (zwM adm cI cJ cZ cO) (.ref (adm 0) :: As) σ.2 σ' r) (hk : zkV RX9 y b n ret k) (hl : Cond.methodLink RL index y ∈ zbg) (hR : rm.frames + 1 ≤ R.frames ∧ 8 + (n + 11) + rm.locals ≤ R.locals) (h0 : rm.cells = 0) (h1 : rm.slots = 0)
    (hKx : va_K Dx zclX (zty cI cJ cZ cO) s) (hKm : va_K Dm zclM (zty cI cJ cZ cO) s) (hZ : zZ t A s s.heap) (hAX : ∀ q, AX q → A q) (hAM : ∀ q, AM q → A q) (hdis : ∀ q, AX q → AM q → False) (hP : zLB Dx Dm adx adm cI cJ cZ cO AX AM σ H) (hS : va_S A s.heap H locs) (hn : As.length = k) (hst : st = As.reverse ++ .ref (adm 0) :: rest) (hr : (rest.map fun v => v.category).sum ≤ 8) (hcs : cells ≤ R.cells ∧ slots ≤ R.slots) (hdg : decode cc pc = .ok (.invokevirtual index, 3))
    (kk : ∀ (H1 : Heap) (locs1 : List Loc), zLB Dx Dm adx adm cI cJ cZ cO AX AM (σ.1, σ') H1 → True → va_S A s.heap H1 locs1 → W p l e R s m args below meth c H1 locs1 cells slots Q (F0 m (pc + 3) ls (.long r :: rest))) : W p l e R s m args below meth c H locs cells slots Q (F0 m pc ls st) := by
  subst hst
  obtain ⟨hPx, hDx, hPm, hDm⟩ := hP
  refine va_calll (va_runV (As := As) (rest := rest) ⟨hx, hb, hml, hown, hT⟩ hM (zcwV hT hk hl hR h0 h1) ⟨zblind, va_recv hKm hPm (ci := 0) (q0 := 0) rfl rfl, fun U hU hW => ⟨rfl, by rw [hU]; exact hPm, va_K.moved hW.alike hKm, hDm, zLZ hZ hS hAM hU hW.alike⟩⟩ rfl hn hls rfl (lv_room hr) hdg hcs) hS (fun q _ h => hAM q h) (fun q h => hAM q h) (fun r2 u t' H1 locs1 ht hvm hpost hB hz hk1 hS1 => ?_)
  obtain ⟨rfl, rfl⟩ := hpost
  obtain ⟨hP1, hK1, hD1, hZ1⟩ := hB
  rw [ht] at hP1
  have hM2 := hPx.kept (H1 := H1) (fun k q hq => hk1 q.1 (hPx k q hq).lt (fun z => hdis q.1 (hDx.2 k q hq) z))
  have hD2 := hDx
  exact kk H1 locs1 ⟨hM2, hD2, hP1, hD1⟩ trivial hS1
end ZL
