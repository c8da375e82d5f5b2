/-! THE CLAIM OUT OF ONE WALK OF THE LAW'S BODY. Your part is whole_start (and what it stands on); all else here is the same for every law, but numbers. -/
def R_law : String := "FacetFiguresLaw"
def lw_P (b : Addr) (xs : List Int32) (args : Array Value) (s : State) : Prop := args = #[.ref b] ∧ s.IntsAt b xs ∧ xs.length ≤ 2560 ∧ (Jvm.Cond.and given_1 narrow_1).before args s = true
def lw_Q (_ : Array Value) (s : State) (o : Outcome) (t : State) : Prop := o = .returned (some (.int 1)) ∧ Framed s o t [] 600000 7302250
def lw_Z (below : List Frame) (a : Array Value) (s : State) : State → Prop := fun t => ∃ o, t.status = .running ∧ Ended t below o ∧ lw_Q a s o t
/-- the law's own end, with 1 on the stack, nothing written that was there before, its room as the claim has it -/
theorem lw_ret {p : Program} {l : Launch} {e : Env} {s : State} {m : MethodId} {below : List Frame} {meth : Method} {c : Code} {b : Nat} (hx : p.tables.exec = Jvm.exec) (hb : c.code = code) (hr : meth.sig.returnType = ret) (hlocks : meth.locks = false) {pc : Nat} {H : Heap} {ls : Array Slot} (hdg : decode code pc = .ok (.ireturn, 1)) : W p l e room_1 s m #[Value.ref b] below meth c H [] 600000 7302250 (lw_Z below #[Value.ref b] s) (F0 m pc ls [.int 1]) := by
  intro T hT X
  obtain ⟨fs, hret, hrun, hended, hW, hframe⟩ := X.leave (v := some (.int 1)) (hlocks := hlocks) (fun h => by rw [hr] at h; cases h)
  have hmeth' : T.vm.method? m = some meth := X.method'
  refine ⟨T.setFrames fs, ?_, .returned (some (.int 1)), hrun, hended, rfl, ⟨_, rfl⟩, hW, hframe⟩
  jvm_step X.here [X.here.top, hx, hb, hdg, hmeth', hr, ret, narrow_b1]
  (try refine ⟨rfl, ?_⟩); (try refine ⟨rfl, ?_⟩)
  first | (intro acts; rw [hret _ acts rfl rfl rfl]) | rw [hret _ _ rfl rfl rfl]
  exact Steps.refl _
/-- what holds at the law's entry: the machine, the code, the tables' words (any of lw_tbl by 'hts w (by decide +kernel)'), the script of L ints xs at the cell b, what the Statement gives of the start (any of its parts by flat_of_before) -/
def lw_At (p : Program) (s : State) (m : MethodId) (meth : Method) (c : Code) (b L : Nat) (xs : Nat → Int32) : Prop :=
  p.tables.exec = Jvm.exec ∧ c.code = code ∧ meth.sig.returnType = ret ∧ c.maxLocals = 4 ∧ s.vm.findClass R_law = some m.cls ∧ (∀ w ∈ lw_tbl, w.before #[Value.ref b] s = true) ∧ va_X b L xs s s.heap ∧ b < s.heap.size ∧ meth.locks = false ∧ (Jvm.Cond.and given_1 narrow_1).before #[Value.ref b] s = true
def law_fine : Prop := ∀ (L : Nat) (xs : Nat → Int32), L ≤ 2560 → ∃ (N : Nat) (r : zS × zS), ziter (fun q : (zS × zS) × Int32 => m_L_law_L18 N L xs q.1 q.2) N ((zX0, zM0), (0 : Int32)) = some r
theorem zarrK {s : State} {args : Array Value} {ty : FieldType} (hp : ∀ C, ty ≠ .object C) (h : (Cond.arrayClass ty).before args s = true) : ∃ cA : ClassId, ArrOfT s cA ty ∧ va_RA s cA ty := by
  obtain ⟨cA, kA, comp, h1, h2, h3⟩ := Cond.arrayClass_spec h
  refine ⟨cA, fun n z => ⟨fun k h => (by cases h), kA, h2, comp, h3⟩, ?_⟩
  cases ty with
  | object C => exact absurd rfl (hp C)
  | _ => exact h1
theorem zarrO {s : State} {C : String} (h : va_AO C s) : ∃ cA : ClassId, ArrOfT s cA (.object C) ∧ va_RA s cA (.object C) := by
  obtain ⟨comp, cA, kA, h1, h2, h3, h4, h5⟩ := Cond.arrayOver_spec h
  exact ⟨cA, fun n z => ⟨fun k h => (by cases h), kA, h3, comp, h4⟩, kA, comp, h3, h4, h1, h5⟩
set_option maxHeartbeats 8000000 in
set_option maxRecDepth 100000 in
theorem zdays {args : Array Value} {s : State} {A : Nat → Prop} (hl : (Cond.laysStatic "FacetFigures$Days" "MONTH_STARTS" "[I").before args s = true) (hini : (Cond.initialized "FacetFigures$Days").before args s = true) (hgv : (Jvm.Cond.and given_1 narrow_1).before args s = true) (hA : ∀ a : Nat, a < s.heap.size → ¬ A a) : ∃ t : Nat, zZ t A s s.heap := by
  have hs := flat_of_before _ hgv
  have harr : (Cond.arrayOf (.static "FacetFigures$Days" "MONTH_STARTS" "[I") .int).before args s = true := hs _ (by decide +kernel)
  have hlen := va_eqt (hs (Cond.eq (.length (.static "FacetFigures$Days" "MONTH_STARTS" "[I")) (.int 12)) (by decide +kernel))
  have e0 := va_eqt (hs (Cond.eq (.elem (.static "FacetFigures$Days" "MONTH_STARTS" "[I") (.int 0)) (.int 0)) (by decide +kernel))
  have e1 := va_eqt (hs (Cond.eq (.elem (.static "FacetFigures$Days" "MONTH_STARTS" "[I") (.int 1)) (.int 31)) (by decide +kernel))
  have e2 := va_eqt (hs (Cond.eq (.elem (.static "FacetFigures$Days" "MONTH_STARTS" "[I") (.int 2)) (.int 59)) (by decide +kernel))
  have e3 := va_eqt (hs (Cond.eq (.elem (.static "FacetFigures$Days" "MONTH_STARTS" "[I") (.int 3)) (.int 90)) (by decide +kernel))
  have e4 := va_eqt (hs (Cond.eq (.elem (.static "FacetFigures$Days" "MONTH_STARTS" "[I") (.int 4)) (.int 120)) (by decide +kernel))
  have e5 := va_eqt (hs (Cond.eq (.elem (.static "FacetFigures$Days" "MONTH_STARTS" "[I") (.int 5)) (.int 151)) (by decide +kernel))
  have e6 := va_eqt (hs (Cond.eq (.elem (.static "FacetFigures$Days" "MONTH_STARTS" "[I") (.int 6)) (.int 181)) (by decide +kernel))
  have e7 := va_eqt (hs (Cond.eq (.elem (.static "FacetFigures$Days" "MONTH_STARTS" "[I") (.int 7)) (.int 212)) (by decide +kernel))
  have e8 := va_eqt (hs (Cond.eq (.elem (.static "FacetFigures$Days" "MONTH_STARTS" "[I") (.int 8)) (.int 243)) (by decide +kernel))
  have e9 := va_eqt (hs (Cond.eq (.elem (.static "FacetFigures$Days" "MONTH_STARTS" "[I") (.int 9)) (.int 273)) (by decide +kernel))
  have e10 := va_eqt (hs (Cond.eq (.elem (.static "FacetFigures$Days" "MONTH_STARTS" "[I") (.int 10)) (.int 304)) (by decide +kernel))
  have e11 := va_eqt (hs (Cond.eq (.elem (.static "FacetFigures$Days" "MONTH_STARTS" "[I") (.int 11)) (.int 334)) (by decide +kernel))
  obtain ⟨t, ht, hT⟩ := va_Tof (N := 12) (f := zms) (A := A) (by decide) harr hlen (fun j hj => by
    match j, hj with
    | 0, _ => exact e0
    | 1, _ => exact e1
    | 2, _ => exact e2
    | 3, _ => exact e3
    | 4, _ => exact e4
    | 5, _ => exact e5
    | 6, _ => exact e6
    | 7, _ => exact e7
    | 8, _ => exact e8
    | 9, _ => exact e9
    | 10, _ => exact e10
    | 11, _ => exact e11
    | n + 12, h => exact absurd h (by omega)) hA
  exact ⟨t, va_Zof hl hini ht hA, hT⟩
set_option maxHeartbeats 8000000 in
set_option maxRecDepth 100000 in
theorem whole_of (hfine : law_fine) {p : Program} {e : Env} {s : State} {m : MethodId} {below : List Frame} {meth : Method} {c : Code} (l : Launch) {b L : Nat} {xs : Nat → Int32} (hL : L ≤ 2560) (C0 : lw_At p s m meth c b L xs) : W p l e room_1 s m #[Value.ref b] below meth c s.heap [] 0 0 (lw_Z below #[Value.ref b] s) (entryFrame m ([Value.ref b] : List Value).toArray 4) := by
  obtain ⟨hx, hb, hr, hml, hown, hts, hX, hbl, hlocks, hgv⟩ := id C0
  obtain ⟨N, rr, hfin⟩ := hfine L xs hL
  have hT : ∀ w ∈ zbg, w.before #[Value.ref b] s = true := fun w h => hts w (List.mem_filter.mp h).1
  replace hown : s.vm.findClass RL = some m.cls := hown
  have hA : ∀ q : Nat, s.heap.size ≤ q → (fun q : Nat => s.heap.size ≤ q) q := fun _ h => h
  have hbA : ¬ (fun q : Nat => s.heap.size ≤ q) b := Nat.not_le.mpr hbl
  obtain ⟨cI, aI⟩ := zarrK (ty := .int) (fun _ h => by cases h) (hts _ (List.mem_of_getElem? (i := 95) rfl))
  obtain ⟨cJ, aJ⟩ := zarrK (ty := .long) (fun _ h => by cases h) (hts _ (List.mem_of_getElem? (i := 70) rfl))
  obtain ⟨cZ, aZ⟩ := zarrK (ty := .boolean) (fun _ h => by cases h) (hts _ (List.mem_of_getElem? (i := 94) rfl))
  have hAO : va_AO "FacetFigures$Facet" s := va_AO.of (hts _ (List.mem_of_getElem? (i := 114) rfl))
  obtain ⟨cO, aO⟩ := zarrO hAO
  obtain ⟨t, hZ⟩ := zdays (A := fun q : Nat => s.heap.size ≤ q) (hts _ (List.mem_of_getElem? (i := 437) rfl)) (hts _ (List.mem_of_getElem? (i := 50) rfl)) hgv (fun a h => Nat.not_le.mpr h)
  obtain ⟨c0, i0, n0⟩ := u_known (C := RX8) (T := TX8) (N := 7) (n := 7) hT zinX8 (hts _ (List.mem_of_getElem? (i := 53) rfl))
  obtain ⟨c1, i1, n1⟩ := u_known (C := RX6) (T := TX6) (N := 4) (n := 4) hT zinX6 (hts _ (List.mem_of_getElem? (i := 72) rfl))
  obtain ⟨c2, i2, n2⟩ := u_known (C := RX3) (T := TX3) (N := 3) (n := 3) hT zinX3 (hts _ (List.mem_of_getElem? (i := 97) rfl))
  obtain ⟨c3, i3, n3⟩ := u_known (C := RX2) (T := TX2) (N := 9) (n := 9) hT zinX2 (hts _ (List.mem_of_getElem? (i := 178) rfl))
  obtain ⟨c4, i4, n4⟩ := u_known (C := RX7) (T := TX7) (N := 3) (n := 3) hT zinX7 (hts _ (List.mem_of_getElem? (i := 228) rfl))
  obtain ⟨c5, i5, n5⟩ := u_known (C := RX4) (T := TX4) (N := 2) (n := 2) hT zinX4 (hts _ (List.mem_of_getElem? (i := 184) rfl))
  obtain ⟨c6, i6, n6⟩ := u_known (C := RX5) (T := TX5) (N := 1) (n := 1) hT zinX5 (hts _ (List.mem_of_getElem? (i := 61) rfl))
  obtain ⟨c7, i7, n7⟩ := u_known (C := RX1) (T := TX1) (N := 14) (n := 14) hT zinX1 (hts _ (List.mem_of_getElem? (i := 115) rfl))
  obtain ⟨c8, i8, n8⟩ := u_known (C := RX9) (T := TX9) (N := 33) (n := 33) hT zinX9 (hts _ (List.mem_of_getElem? (i := 617) rfl))
  have hty : ∀ (k : Nat) (q : ClassId × FieldType), (zty cI cJ cZ cO)[k]? = some q → ArrOfT s q.1 q.2 ∧ va_RA s q.1 q.2 := by
    intro k q hq
    match k, hq with
    | 0, hq => cases hq; exact aI
    | 1, hq => cases hq; exact aJ
    | 2, hq => cases hq; exact aZ
    | 3, hq => cases hq; exact aO
    | k + 4, hq => cases hq
  obtain ⟨Dx, hKx⟩ : ∃ D : va_G, va_K D zclX (zty cI cJ cZ cO) s := by
    refine ⟨(fun k => ([c0, c1, c2, c3, c4, c5, c6, c7] : List ClassId).getD k c0, fun k => ([i0, i1, i2, i3, i4, i5, i6, i7] : List (Nat → Nat)).getD k i0), fun k q hq => ?_, hty⟩
    match k, hq with
    | 0, hq => cases hq; exact n0
    | 1, hq => cases hq; exact n1
    | 2, hq => cases hq; exact n2
    | 3, hq => cases hq; exact n3
    | 4, hq => cases hq; exact n4
    | 5, hq => cases hq; exact n5
    | 6, hq => cases hq; exact n6
    | 7, hq => cases hq; exact n7
    | k + 8, hq => cases hq
  obtain ⟨Dm, hKm⟩ : ∃ D : va_G, va_K D zclM (zty cI cJ cZ cO) s := by
    refine ⟨(fun _ => c8, fun _ => i8), fun k q hq => ?_, hty⟩
    match k, hq with
    | 0, hq => cases hq; exact n8
    | k + 1, hq => cases hq
  have hS : va_S (fun q : Nat => s.heap.size ≤ q) s.heap s.heap [] := va_S.rf
  have hP : va_P Dx zclX [] s.heap := fun k q h => by simp at h
  have hD : va_D (fun q : Nat => s.heap.size ≤ q) [] := ⟨fun i j p q h => by simp at h, fun k q h => by simp at h⟩
  obtain ⟨ls, hent, hl⟩ := zent (n := 4) [Value.ref b] (Nat.le_of_ble_eq_true rfl) m
  rw [hent]
  replace hl : lv_has ls 4 [(0, .ref b)] := hl
  refine va_new (ci := 0) (fs := [.null, .null, .null, .null, .null, .int 0, .int 0]) (C := RX8) (T := TX8) (N := 7) hx hb hT zinX8 tyX8 tyX8_ok hown (hts _ (List.mem_of_getElem? (i := 52) rfl)) (hts _ (List.mem_of_getElem? (i := 53) rfl)) (hts _ (List.mem_of_getElem? (i := 40) rfl)) hKx hP hD hS hA rfl (by decide) (by decide) (by decide) dL_law_0 (fun q0 H hP hD hS => ?_)
  refine lv_dup hx hb dL_law_3 rfl ?_
  have zkx : zkI yX8_init cX8_init 3 0 := ⟨zin 55 rfl rfl, zin 40 rfl rfl, zin 56 rfl rfl, rfl, by decide, by decide, by decide +kernel⟩
  have zkm : zkI yX9_init cX9_init 1 0 := ⟨zin 619 rfl rfl, zin 48 rfl rfl, zin 620 rfl rfl, rfl, by decide, by decide, by decide +kernel⟩
  refine zcallI (rest := [.ref q0]) (wr := []) (w1 := fun ad => zwX ad cI cJ cZ cO zX0) [] hx hb hml hl.1 hown hT (c_X8_init cI cJ cZ cO q0) zkx (zin 54 rfl rfl) ⟨by decide, by decide⟩ rfl rfl (fun U hU => va_AO.moved hU hAO) (fun U g mk a h => va_AO.moved (u := U) (U := U.calling g mk a) (Vm.Alike.refl U.vm) h) hKx hP hD hS hA rfl rfl (Nat.le_of_ble_eq_true rfl) ⟨by decide, by decide⟩ dL_law_4 (fun adx HX locs hx0 hPX hDX hSX => ?_)
  replace hPX : va_P Dx zclX (zwX adx cI cJ cZ cO zX0) HX := hPX
  replace hDX : va_D (fun q : Nat => s.heap.size ≤ q) (zwX adx cI cJ cZ cO zX0) := hDX
  refine va_forget (fun q hq => hSX.2.2 q hq) ?_
  replace hSX : va_S (fun q : Nat => s.heap.size ≤ q) s.heap HX [] := ⟨hSX.1, hSX.2.1, fun _ h => by cases h⟩
  subst hx0
  refine lv_astore_n (lv' := [(1, .ref (adx 0)), (0, .ref b)]) hx hb dL_law_7 rfl hl (by decide) rfl (fun ls hl => ?_)
  have hA2 : ∀ q : Nat, HX.size ≤ q → (fun q : Nat => HX.size ≤ q) q := fun _ h => h
  have hS2 : va_S (fun q : Nat => HX.size ≤ q) HX HX [] := va_S.rf
  have hP2 : va_P Dm zclM [] HX := fun k q h => by simp at h
  have hD2 : va_D (fun q : Nat => HX.size ≤ q) [] := ⟨fun i j p q h => by simp at h, fun k q h => by simp at h⟩
  refine va_new (ci := 0) (fs := (.int 0 :: .null :: .null :: .null :: .int 0 :: .null :: .null :: .null :: .null :: .null :: .null :: .null :: .null :: .null :: .null :: .null :: .null :: .null :: .null :: .int 0 :: .null :: .int 0 :: .null :: .int 0 :: .null :: .null :: .null :: .int 0 :: .null :: .null :: .null :: .int 0 :: .null :: [])) (C := RX9) (T := TX9) (N := 33) hx hb hT zinX9 tyX9 tyX9_ok hown (hts _ (List.mem_of_getElem? (i := 616) rfl)) (hts _ (List.mem_of_getElem? (i := 617) rfl)) (hts _ (List.mem_of_getElem? (i := 48) rfl)) hKm hP2 hD2 hS2 hA2 rfl (by decide) (by decide) (by decide) dL_law_8 (fun q1 H2 hP2 hD2 hS2 => ?_)
  refine lv_dup hx hb dL_law_11 rfl ?_
  refine zcallI (rest := [.ref q1]) (wr := []) (w1 := fun ad => zwM ad cI cJ cZ cO zM0) [] hx hb hml hl.1 hown hT (c_X9_init cI cJ cZ cO q1) zkm (zin 618 rfl rfl) ⟨by decide, by decide⟩ rfl rfl (fun _ _ => trivial) (fun _ _ _ _ _ => trivial) hKm hP2 hD2 hS2 hA2 rfl rfl (Nat.le_of_ble_eq_true rfl) ⟨by decide, by decide⟩ dL_law_12 (fun adm H3 locs3 hm0 hP3 hD3 hS3 => ?_)
  replace hP3 : va_P Dm zclM (zwM adm cI cJ cZ cO zM0) H3 := hP3
  replace hD3 : va_D (fun q : Nat => HX.size ≤ q) (zwM adm cI cJ cZ cO zM0) := hD3
  refine va_forget (fun q hq => Nat.le_trans hSX.1 (hS3.2.2 q hq)) ?_
  subst hm0
  have hPx : va_P Dx zclX (zwX adx cI cJ cZ cO zX0) H3 := hPX.kept (fun k q hq => hS3.2.1 q.1 (hPX k q hq).lt (Nat.not_le.mpr (hPX k q hq).lt))
  have hSl : va_S (fun q : Nat => s.heap.size ≤ q) s.heap H3 [] := ⟨Nat.le_trans hSX.1 hS3.1, fun q h1 h2 => (hS3.2.1 q (Nat.lt_of_lt_of_le h1 hSX.1) (Nat.not_le.mpr (Nat.lt_of_lt_of_le h1 hSX.1))).trans (hSX.2.1 q h1 h2), fun _ h => by cases h⟩
  refine lv_astore_n (lv' := [(2, .ref (adm 0)), (1, .ref (adx 0)), (0, .ref b)]) hx hb dL_law_15 rfl hl (by decide) rfl (fun ls hl => ?_)
  refine lv_iconst (v := (0 : Int32)) hx hb dL_law_16 (by decide) ?_
  refine lv_istore_n (lv' := [(3, .int (0 : Int32)), (2, .ref (adm 0)), (1, .ref (adx 0)), (0, .ref b)]) hx hb dL_law_17 rfl hl (by decide) rfl (fun ls hl => ?_)
  refine k_law (Dx := Dx) (Dm := Dm) (adx := adx) (adm := adm) (cI := cI) (cJ := cJ) (cZ := cZ) (cO := cO) (A := fun q : Nat => s.heap.size ≤ q) (AX := fun q => ∃ (k : Nat) (e : va_E), (zwX adx cI cJ cZ cO zX0)[k]? = some (q, e)) (AM := fun q => ∃ (k : Nat) (e : va_E), (zwM adm cI cJ cZ cO zM0)[k]? = some (q, e)) (t := t) hx hb hml hown hT hX hbl hbA hKx hKm hZ (fun q h => by obtain ⟨k, e, h⟩ := h; exact hDX.2 k _ h) (fun q h => by obtain ⟨k, e, h⟩ := h; exact Nat.le_trans hSX.1 (hD3.2 k _ h)) (fun q h1 h2 => by
      obtain ⟨k, e, h1⟩ := h1
      obtain ⟨k2, e2, h2⟩ := h2
      have a1 := (hPX k _ h1).lt
      have a2 := hD3.2 k2 _ h2
      exact absurd a1 (Nat.not_lt.mpr a2)) ⟨by decide, by decide⟩ ((zX0, zM0), (0 : Int32)) rr hfin (fun H locs ls hB _ hS hl => ?_) H3 [] ls ⟨hPx, ⟨hDX.1, fun k q hq => ⟨k, q.2, hq⟩⟩, hP3, ⟨hD3.1, fun k q hq => ⟨k, q.2, hq⟩⟩⟩ trivial hSl (lv_sub hl [3, 2, 1, 0] rfl)
  refine lv_iconst (v := (1 : Int32)) hx hb dL_law_857 (by decide) ?_
  refine va_forget (fun q hq => hS.2.2 q hq) ?_
  refine W.widen (k := 600000) (n := 7302250) (by decide) (by decide) ?_
  exact lw_ret hx hb hr hlocks dL_law_858
