theorem zcz_all {v w : Int32} (h : zcz v = some w) : v = w ∧ narrow .boolean (.int v) = .int v ∧ vp_nar .boolean v = v ∧ fits .boolean (.int v) = true := by
  unfold zcz at h
  by_cases c : v = 0 ∨ v = 1
  · rw [if_pos c] at h
    refine ⟨Option.some.inj h, ?_⟩
    rcases c with rfl | rfl <;> exact ⟨by decide, by decide, by decide⟩
  · rw [if_neg c] at h; cases h
def zmi : Nat → Int32 := fun j => ([0, 31, 59, 90, 120, 151, 181, 212, 243, 273, 304, 334] : List Int32).getD j 0
theorem zms_of {i v : Int32} (h : zrd 12 zmi i = some v) : zms i.toNatClampNeg = .int v := by
  obtain ⟨-, h2⟩ := zrd_some h
  rw [← h2]; rfl
theorem zrd_lt {n : Nat} {i : Int32} {k : Nat} (h : zrd n (fun n => n) i = some k) : k < n := by
  obtain ⟨h1, h2⟩ := zrd_some h
  subst h2
  exact Nat.not_le.mp fun q => h1 (Or.inr q)
def zcpy (n0 n1 j0 j1 : Nat) (σ : zS) (n : Int32) : Option zS := if n < 0 ∨ n0 < n.toNatClampNeg ∨ n1 < n.toNatClampNeg then none else some (zsL σ j1 (va_cpy (σ.2.2 j0) (σ.2.2 j1) 0 0 n.toNatClampNeg))
section ZM
variable {p : Program} {l : Launch} {e : Env} {R : Room} {s : State} {m : MethodId} {args : Array Value} {below : List Frame} {meth : Method} {c : Code} {H : Heap} {locs : List Loc} {cells slots : Nat} {Q : State → Prop}
variable {cc : ByteArray} {pc : Nat} {ls : Array Slot} {rest : List Value} {A : Nat → Prop} {H0 : Heap} {D : va_G} {cl : List vw_C} {tys : List (ClassId × FieldType)} {a : Nat}
theorem zaald {ws : va_W} {ad : Nat → Nat} (hx : p.tables.exec = Jvm.exec) (hb : c.code = cc) (hK : va_K D cl tys s) (hP : va_P D cl ws H) (q0 t0 : Nat) {cA : ClassId} {C : String} {n k : Nat} (ha : ws[q0]? = some (a, .inl (cA, n, .inr (.inr (.inr (.inr (fun k => some (ad (20 + k))))))))) (ht : tys[t0]? = some (cA, .object C)) {i : Int32} (hv : zrd n (fun n => n) i = some k) (hdg : decode cc pc = .ok (.aaload, 1))
    (kk : W p l e R s m args below meth c H locs cells slots Q (F0 m (pc + 1) ls (.ref (ad (20 + k)) :: rest))) : W p l e R s m args below meth c H locs cells slots Q (F0 m pc ls (.int i :: .ref a :: rest)) := by
  obtain ⟨h1, h2⟩ := zrd_some hv
  subst h2
  exact va_aldq hx hb hK hP q0 t0 ha ht h1 hdg kk
theorem zacopy {nL : Nat} {wd : zS → va_W} {σ σ' : zS} {j0 j1 n0 n1 : Nat} (hx : p.tables.exec = Jvm.exec) (hb : c.code = cc) (hml : c.maxLocals = nL) (hls : ls.size = nL) {own : String} {index : Nat} (hown : s.vm.findClass own = some m.cls) (hlink : (Cond.methodLink own index arraycopyName).before args s = true) (hnat : (Cond.native arraycopyName).before args s = true) (hstat : (Cond.static arraycopyName).before args s = true) (hini : (Cond.initialized "java/lang/System").before args s = true)
    (hK : va_K D cl tys s) (hP : va_P D cl (wd σ) H) (hD : va_D A (wd σ)) (hS : va_S A H0 H locs) (q0 q1 : Nat) {a0 : Nat} {c0 : ClassId} (ha0 : (wd σ)[q0]? = some (a0, .inl (c0, n0, .inr (.inl (σ.2.2 j0))))) (ha1 : (wd σ)[q1]? = some (a, .inl (c0, n1, .inr (.inl (σ.2.2 j1))))) (ht0 : tys[1]? = some (c0, .long)) {n : Int32} (hv : zcpy n0 n1 j0 j1 σ n = some σ') (hset : ∀ f : Nat → Int64, (wd σ).set q1 (a, .inl (c0, n1, .inr (.inl f))) = wd (zsL σ j1 f))
    (hframes : 1 ≤ R.frames) (hlocals : (rest.map fun v => v.category).sum + (nativeFrameWords "java/lang/System" "arraycopy" 5 + 11) ≤ R.locals) (hdg : decode cc pc = .ok (.invokestatic index, 3))
    (kk : ∀ (H1 : Heap) (locs1 : List Loc), va_P D cl (wd σ') H1 → va_D A (wd σ') → va_S A H0 H1 locs1 → W p l e R s m args below meth c H1 locs1 cells slots Q (F0 m (pc + 3) ls rest)) : W p l e R s m args below meth c H locs cells slots Q (F0 m pc ls (.int n :: .int 0 :: .ref a :: .int 0 :: .ref a0 :: rest)) := by
  unfold zcpy at hv
  by_cases h : n < 0 ∨ n0 < n.toNatClampNeg ∨ n1 < n.toNatClampNeg
  · rw [if_pos h] at hv; cases hv
  rw [if_neg h] at hv
  cases Option.some.inj hv
  have h1 : ¬ n < 0 := fun q => h (Or.inl q)
  have h2 : n.toNatClampNeg ≤ n0 := Nat.not_lt.mp fun q => h (Or.inr (Or.inl q))
  have h3 : n.toNatClampNeg ≤ n1 := Nat.not_lt.mp fun q => h (Or.inr (Or.inr q))
  have z : (0 : Int32).toNatClampNeg = 0 := by decide
  refine va_copyl hx hb (by rw [hml, hls]) hown hlink hnat hstat hini hK hP hD hS q0 q1 1 1 ha0 ha1 ht0 ht0 rfl (by decide) (by decide) h1 (by rw [z]; omega) (by rw [z]; omega) (fun _ _ => rfl) hframes hlocals hdg (fun H1 locs1 p1 d1 s1 => ?_)
  rw [hset] at p1 d1
  exact kk H1 locs1 p1 d1 s1
end ZM
