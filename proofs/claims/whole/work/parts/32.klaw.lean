set_option maxHeartbeats 8000000 in
set_option maxRecDepth 100000 in
theorem k_law {p : Program} {l : Launch} {e : Env} {s : State} {m : MethodId} {below : List Frame} {meth : Method} {c : Code} {b L : Nat} {xs : Nat → Int32} {Q : State → Prop} {Dx Dm : va_G} {adx adm : Nat → Nat} {cI cJ cZ cO : ClassId} {A AX AM : Nat → Prop} {t cells slots N : Nat} (hx : p.tables.exec = Jvm.exec) (hb : c.code = code) (hml : c.maxLocals = 4) (hown : s.vm.findClass RL = some m.cls) (hT : ∀ w ∈ zbg, w.before #[Value.ref b] s = true) (hX : va_X b L xs s s.heap) (hbl : b < s.heap.size) (hbA : ¬ A b) (hKx : va_K Dx zclX (zty cI cJ cZ cO) s) (hKm : va_K Dm zclM (zty cI cJ cZ cO) s) (hZ : zZ t A s s.heap) (hAX : ∀ q, AX q → A q) (hAM : ∀ q, AM q → A q) (hdis : ∀ q, AX q → AM q → False) (hcs : cells ≤ room_1.cells ∧ slots ≤ room_1.slots) : ∀ (q : (zS × zS) × Int32) (r : (zS × zS)), ziter (fun q : (zS × zS) × Int32 => m_L_law_L18 N L xs q.1 q.2) N q = some r → (∀ (H : Heap) (locs : List Loc) (ls : Array Slot), zLB Dx Dm adx adm cI cJ cZ cO AX AM r H → True → va_S A s.heap H locs → lv_has ls 4 [] → W p l e room_1 s m #[Value.ref b] below meth c H locs cells slots Q (F0 m 857 ls [])) → ∀ (H : Heap) (locs : List Loc) (ls : Array Slot), zLB Dx Dm adx adm cI cJ cZ cO AX AM q.1 H → True → va_S A s.heap H locs → lv_has ls 4 [(0, .ref b), (1, .ref (adx 0)), (2, .ref (adm 0)), (3, .int q.2)] → W p l e room_1 s m #[Value.ref b] below meth c H locs cells slots Q (F0 m 18 ls []) := by
  intro q r
  refine ziter_W (Hd := fun q : (zS × zS) × Int32 => ∀ (H : Heap) (locs : List Loc) (ls : Array Slot), zLB Dx Dm adx adm cI cJ cZ cO AX AM q.1 H → True → va_S A s.heap H locs → lv_has ls 4 [(0, .ref b), (1, .ref (adx 0)), (2, .ref (adm 0)), (3, .int q.2)] → W p l e room_1 s m #[Value.ref b] below meth c H locs cells slots Q (F0 m 18 ls [])) (Ex := fun r : (zS × zS) => ∀ (H : Heap) (locs : List Loc) (ls : Array Slot), zLB Dx Dm adx adm cI cJ cZ cO AX AM r H → True → va_S A s.heap H locs → lv_has ls 4 [] → W p l e room_1 s m #[Value.ref b] below meth c H locs cells slots Q (F0 m 857 ls [])) ?_ N q r
  rintro ⟨σ1, v3_1⟩ res hm hk H locs ls hP hD hS hl
  try dsimp only at hP hD hl
  replace hm : m_L_law_L18 N L xs σ1 v3_1 = some res := hm
  have h851 : ∀ (σ12 : zS × zS) (v3_12 : Int32), m_L_law_851_in18 N L xs σ12 v3_12 = some res → ∀ (H : Heap) (locs : List Loc) (ls : Array Slot), zLB Dx Dm adx adm cI cJ cZ cO AX AM σ12 H → True → va_S A s.heap H locs → lv_has ls 4 [(0, .ref b), (1, .ref (adx 0)), (2, .ref (adm 0)), (3, .int v3_12)] → W p l e room_1 s m #[Value.ref b] below meth c H locs cells slots Q (F0 m 851 ls []) := by
    intro σ12 v3_12 hm H locs ls hP hD hS hl
    unfold m_L_law_851_in18 at hm
    refine lv_iinc (v := (v3_12 + (5 : Int32))) (lv' := [(3, .int (v3_12 + (5 : Int32))), (0, .ref b), (1, .ref (adx 0)), (2, .ref (adm 0))]) hx hb dL_law_851 hl (k := 3) rfl rfl (by decide) rfl (fun ls hl => ?_)
    refine lv_goto (tgt := 18) hx hb dL_law_854 (by decide) ?_
    cases hm
    exact hk _ _ _ hP hD hS (lv_sub hl [1, 2, 3, 0] rfl)
  have h225 : ∀ (σ38 : zS × zS) (v3_38 : Int32) (x0_38 : Int32) (x2_38 : Int32) (x3_38 : Int32), m_L_law_225_in18 N L xs σ38 v3_38 x0_38 x2_38 x3_38 = some res → ∀ (H : Heap) (locs : List Loc) (ls : Array Slot), zLB Dx Dm adx adm cI cJ cZ cO AX AM σ38 H → True → va_S A s.heap H locs → lv_has ls 4 [(0, .ref b), (1, .ref (adx 0)), (2, .ref (adm 0)), (3, .int v3_38)] → W p l e room_1 s m #[Value.ref b] below meth c H locs cells slots Q (F0 m 225 ls [.int x3_38, .int x2_38, .ref (adm 0), .int x0_38]) := by
    intro σ38 v3_38 x0_38 x2_38 x3_38 hm H locs ls hP hD hS hl
    unfold m_L_law_225_in18 at hm
    obtain ⟨⟨b39, σ41⟩, eb39, hm⟩ := Option.bind_eq_some_iff.mp hm
    try dsimp only at hm
    refine zLmi (σ := σ38) (rest := [.int x0_38]) [.int x2_38, .int x3_38] hx hb hml hl.1 hown hT (k_X9_match eb39) zkX9_match zw751 ⟨by decide, by decide⟩ rfl rfl hKx hKm hZ hAX hAM hdis hP hS rfl rfl (Nat.le_of_ble_eq_true rfl) hcs dL_law_225 (fun H locs hP hD hS => ?_)
    refine lv_icmp_eq (tgt := 851) hx hb dL_law_228 (by decide) (fun h42 => ?_) (fun h42 => ?_)
    · rw [if_pos h42] at hm
      exact h851 (σ38.1, σ41) v3_38 hm _ _ _ hP hD hS (lv_sub hl [0, 1, 2, 3] rfl)
    · rw [if_neg h42] at hm
      cases hm
  have h203 : ∀ (σ31 : zS × zS) (v3_31 : Int32) (x1_31 : Int32) (x2_31 : Int32), m_L_law_203_in18 N L xs σ31 v3_31 x1_31 x2_31 = some res → ∀ (H : Heap) (locs : List Loc) (ls : Array Slot), zLB Dx Dm adx adm cI cJ cZ cO AX AM σ31 H → True → va_S A s.heap H locs → lv_has ls 4 [(0, .ref b), (1, .ref (adx 0)), (2, .ref (adm 0)), (3, .int v3_31)] → W p l e room_1 s m #[Value.ref b] below meth c H locs cells slots Q (F0 m 203 ls [.int x2_31, .int x1_31, .ref (adx 0)]) := by
    intro σ31 v3_31 x1_31 x2_31 hm H locs ls hP hD hS hl
    unfold m_L_law_203_in18 at hm
    obtain ⟨⟨b32, σ34⟩, eb32, hm⟩ := Option.bind_eq_some_iff.mp hm
    try dsimp only at hm
    refine zLxi (σ := σ31) (rest := []) [.int x1_31, .int x2_31] hx hb hml hl.1 hown hT (k_X8_match eb32) zkX8_match zw315 ⟨by decide, by decide⟩ rfl rfl hKx hKm hZ hAX hAM hdis hP hS rfl rfl (Nat.le_of_ble_eq_true rfl) hcs dL_law_203 (fun H locs hP hD hS => ?_)
    refine lv_aload_n hx hb dL_law_206 rfl (lv_at hl 2 rfl) ?_
    refine lv_aload_n hx hb dL_law_207 rfl (lv_at hl 0 rfl) ?_
    refine lv_iload_n hx hb dL_law_208 rfl (lv_at hl 3 rfl) ?_
    refine lv_iconst (v := (1 : Int32)) hx hb dL_law_209 (by decide) ?_
    refine lv_iadd hx hb dL_law_210 ?_
    obtain ⟨b35, eb35, hm⟩ := Option.bind_eq_some_iff.mp hm
    refine va_sld hx hb hX hbl hbA hS (zrd_some eb35).1 dL_law_211 ?_
    rw [(zrd_some eb35).2]
    refine lv_aload_n hx hb dL_law_212 rfl (lv_at hl 0 rfl) ?_
    refine lv_iload_n hx hb dL_law_213 rfl (lv_at hl 3 rfl) ?_
    refine lv_iconst (v := (2 : Int32)) hx hb dL_law_214 (by decide) ?_
    refine lv_iadd hx hb dL_law_215 ?_
    obtain ⟨b36, eb36, hm⟩ := Option.bind_eq_some_iff.mp hm
    refine va_sld hx hb hX hbl hbA hS (zrd_some eb36).1 dL_law_216 ?_
    rw [(zrd_some eb36).2]
    refine lv_if_eq (tgt := 224) hx hb dL_law_217 (by decide) (fun h37 => ?_) (fun h37 => ?_)
    · rw [if_pos h37] at hm
      refine lv_iconst (v := (0 : Int32)) hx hb dL_law_224 (by decide) ?_
      exact h225 (σ34, σ31.2) v3_31 b32 b35 (0 : Int32) hm _ _ _ hP hD hS (lv_sub hl [0, 1, 2, 3] rfl)
    · rw [if_neg h37] at hm
      refine lv_iconst (v := (1 : Int32)) hx hb dL_law_220 (by decide) ?_
      refine lv_goto (tgt := 225) hx hb dL_law_221 (by decide) ?_
      exact h225 (σ34, σ31.2) v3_31 b32 b35 (1 : Int32) hm _ _ _ hP hD hS (lv_sub hl [0, 1, 2, 3] rfl)
  have h469 : ∀ (σ120 : zS × zS) (v3_120 : Int32) (x0_120 : Int32) (x2_120 : Int32) (x3_120 : Int32), m_L_law_469_in18 N L xs σ120 v3_120 x0_120 x2_120 x3_120 = some res → ∀ (H : Heap) (locs : List Loc) (ls : Array Slot), zLB Dx Dm adx adm cI cJ cZ cO AX AM σ120 H → True → va_S A s.heap H locs → lv_has ls 4 [(0, .ref b), (1, .ref (adx 0)), (2, .ref (adm 0)), (3, .int v3_120)] → W p l e room_1 s m #[Value.ref b] below meth c H locs cells slots Q (F0 m 469 ls [.int x3_120, .int x2_120, .ref (adm 0), .int x0_120]) := by
    intro σ120 v3_120 x0_120 x2_120 x3_120 hm H locs ls hP hD hS hl
    unfold m_L_law_469_in18 at hm
    obtain ⟨⟨b121, σ123⟩, eb121, hm⟩ := Option.bind_eq_some_iff.mp hm
    try dsimp only at hm
    refine zLmi (σ := σ120) (rest := [.int x0_120]) [.int x2_120, .int x3_120] hx hb hml hl.1 hown hT (k_X9_missing eb121) zkX9_missing zw782 ⟨by decide, by decide⟩ rfl rfl hKx hKm hZ hAX hAM hdis hP hS rfl rfl (Nat.le_of_ble_eq_true rfl) hcs dL_law_469 (fun H locs hP hD hS => ?_)
    refine lv_icmp_eq (tgt := 851) hx hb dL_law_472 (by decide) (fun h124 => ?_) (fun h124 => ?_)
    · rw [if_pos h124] at hm
      exact h851 (σ120.1, σ123) v3_120 hm _ _ _ hP hD hS (lv_sub hl [0, 1, 2, 3] rfl)
    · rw [if_neg h124] at hm
      cases hm
  have h447 : ∀ (σ113 : zS × zS) (v3_113 : Int32) (x1_113 : Int32) (x2_113 : Int32), m_L_law_447_in18 N L xs σ113 v3_113 x1_113 x2_113 = some res → ∀ (H : Heap) (locs : List Loc) (ls : Array Slot), zLB Dx Dm adx adm cI cJ cZ cO AX AM σ113 H → True → va_S A s.heap H locs → lv_has ls 4 [(0, .ref b), (1, .ref (adx 0)), (2, .ref (adm 0)), (3, .int v3_113)] → W p l e room_1 s m #[Value.ref b] below meth c H locs cells slots Q (F0 m 447 ls [.int x2_113, .int x1_113, .ref (adx 0)]) := by
    intro σ113 v3_113 x1_113 x2_113 hm H locs ls hP hD hS hl
    unfold m_L_law_447_in18 at hm
    obtain ⟨⟨b114, σ116⟩, eb114, hm⟩ := Option.bind_eq_some_iff.mp hm
    try dsimp only at hm
    refine zLxi (σ := σ113) (rest := []) [.int x1_113, .int x2_113] hx hb hml hl.1 hown hT (k_X8_missing eb114) zkX8_missing zw354 ⟨by decide, by decide⟩ rfl rfl hKx hKm hZ hAX hAM hdis hP hS rfl rfl (Nat.le_of_ble_eq_true rfl) hcs dL_law_447 (fun H locs hP hD hS => ?_)
    refine lv_aload_n hx hb dL_law_450 rfl (lv_at hl 2 rfl) ?_
    refine lv_aload_n hx hb dL_law_451 rfl (lv_at hl 0 rfl) ?_
    refine lv_iload_n hx hb dL_law_452 rfl (lv_at hl 3 rfl) ?_
    refine lv_iconst (v := (1 : Int32)) hx hb dL_law_453 (by decide) ?_
    refine lv_iadd hx hb dL_law_454 ?_
    obtain ⟨b117, eb117, hm⟩ := Option.bind_eq_some_iff.mp hm
    refine va_sld hx hb hX hbl hbA hS (zrd_some eb117).1 dL_law_455 ?_
    rw [(zrd_some eb117).2]
    refine lv_aload_n hx hb dL_law_456 rfl (lv_at hl 0 rfl) ?_
    refine lv_iload_n hx hb dL_law_457 rfl (lv_at hl 3 rfl) ?_
    refine lv_iconst (v := (2 : Int32)) hx hb dL_law_458 (by decide) ?_
    refine lv_iadd hx hb dL_law_459 ?_
    obtain ⟨b118, eb118, hm⟩ := Option.bind_eq_some_iff.mp hm
    refine va_sld hx hb hX hbl hbA hS (zrd_some eb118).1 dL_law_460 ?_
    rw [(zrd_some eb118).2]
    refine lv_if_eq (tgt := 468) hx hb dL_law_461 (by decide) (fun h119 => ?_) (fun h119 => ?_)
    · rw [if_pos h119] at hm
      refine lv_iconst (v := (0 : Int32)) hx hb dL_law_468 (by decide) ?_
      exact h469 (σ116, σ113.2) v3_113 b114 b117 (0 : Int32) hm _ _ _ hP hD hS (lv_sub hl [0, 1, 2, 3] rfl)
    · rw [if_neg h119] at hm
      refine lv_iconst (v := (1 : Int32)) hx hb dL_law_464 (by decide) ?_
      refine lv_goto (tgt := 469) hx hb dL_law_465 (by decide) ?_
      exact h469 (σ116, σ113.2) v3_113 b114 b117 (1 : Int32) hm _ _ _ hP hD hS (lv_sub hl [0, 1, 2, 3] rfl)
  unfold m_L_law_L18 at hm
  refine lv_iload_n hx hb dL_law_18 rfl (lv_at hl 3 rfl) ?_
  refine lv_aload_n hx hb dL_law_19 rfl (lv_at hl 0 rfl) ?_
  refine va_slen hx hb hX hbl hbA hS dL_law_20 ?_
  refine lv_iconst (v := (5 : Int32)) hx hb dL_law_21 (by decide) ?_
  refine lv_isub hx hb dL_law_22 ?_
  refine lv_icmp_gt (tgt := 857) hx hb dL_law_23 (by decide) (fun h2 => ?_) (fun h2 => ?_)
  · rw [if_pos h2] at hm
    cases hm
    exact hk _ _ _ hP hD hS (lv_sub hl [] rfl)
  · rw [if_neg h2] at hm
    refine lv_aload_n hx hb dL_law_26 rfl (lv_at hl 0 rfl) ?_
    refine lv_iload_n hx hb dL_law_27 rfl (lv_at hl 3 rfl) ?_
    obtain ⟨b3, eb3, hm⟩ := Option.bind_eq_some_iff.mp hm
    refine va_sld hx hb hX hbl hbA hS (zrd_some eb3).1 dL_law_28 ?_
    rw [(zrd_some eb3).2]
    refine lv_bipush (v := (31 : Int32)) hx hb dL_law_29 (by decide) ?_
    refine lv_iand hx hb dL_law_31 ?_
    by_cases h4 : (b3 &&& (31 : Int32)) = (0 : Int32)
    · rw [if_pos h4] at hm
      refine lv_tableIn (off := 96) (tgt := 128) hx hb dL_law_32 (by rw [h4]; decide) (by rw [h4]; decide) (by rw [h4]; rfl) (by decide) ?_
      refine lv_aload_n hx hb dL_law_128 rfl (lv_at hl 1 rfl) ?_
      obtain ⟨⟨b5, σ7⟩, eb5, hm⟩ := Option.bind_eq_some_iff.mp hm
      try dsimp only at hm
      refine zLxi (σ := σ1) (rest := []) [] hx hb hml hl.1 hown hT (k_X8_object eb5) zkX8_object zw266 ⟨by decide, by decide⟩ rfl rfl hKx hKm hZ hAX hAM hdis hP hS rfl rfl (Nat.le_of_ble_eq_true rfl) hcs dL_law_129 (fun H locs hP hD hS => ?_)
      refine lv_aload_n hx hb dL_law_132 rfl (lv_at hl 2 rfl) ?_
      obtain ⟨⟨b8, σ10⟩, eb8, hm⟩ := Option.bind_eq_some_iff.mp hm
      try dsimp only at hm
      refine zLmi (σ := (σ7, σ1.2)) (rest := [.int b5]) [] hx hb hml hl.1 hown hT (k_X9_object eb8) zkX9_object zw722 ⟨by decide, by decide⟩ rfl rfl hKx hKm hZ hAX hAM hdis hP hS rfl rfl (Nat.le_of_ble_eq_true rfl) hcs dL_law_133 (fun H locs hP hD hS => ?_)
      refine lv_icmp_eq (tgt := 851) hx hb dL_law_136 (by decide) (fun h11 => ?_) (fun h11 => ?_)
      · rw [if_pos h11] at hm
        exact h851 ((σ7, σ1.2).1, σ10) v3_1 hm _ _ _ hP hD hS (lv_sub hl [0, 1, 2, 3] rfl)
      · rw [if_neg h11] at hm
        cases hm
    · rw [if_neg h4] at hm
      by_cases h13 : (b3 &&& (31 : Int32)) = (1 : Int32)
      · rw [if_pos h13] at hm
        refine lv_tableIn (off := 109) (tgt := 141) hx hb dL_law_32 (by rw [h13]; decide) (by rw [h13]; decide) (by rw [h13]; rfl) (by decide) ?_
        refine lv_aload_n hx hb dL_law_141 rfl (lv_at hl 1 rfl) ?_
        refine lv_aload_n hx hb dL_law_142 rfl (lv_at hl 0 rfl) ?_
        refine lv_iload_n hx hb dL_law_143 rfl (lv_at hl 3 rfl) ?_
        refine lv_iconst (v := (1 : Int32)) hx hb dL_law_144 (by decide) ?_
        refine lv_iadd hx hb dL_law_145 ?_
        obtain ⟨b14, eb14, hm⟩ := Option.bind_eq_some_iff.mp hm
        refine va_sld hx hb hX hbl hbA hS (zrd_some eb14).1 dL_law_146 ?_
        rw [(zrd_some eb14).2]
        refine lv_aload_n hx hb dL_law_147 rfl (lv_at hl 0 rfl) ?_
        refine lv_iload_n hx hb dL_law_148 rfl (lv_at hl 3 rfl) ?_
        refine lv_iconst (v := (2 : Int32)) hx hb dL_law_149 (by decide) ?_
        refine lv_iadd hx hb dL_law_150 ?_
        obtain ⟨b15, eb15, hm⟩ := Option.bind_eq_some_iff.mp hm
        refine va_sld hx hb hX hbl hbA hS (zrd_some eb15).1 dL_law_151 ?_
        rw [(zrd_some eb15).2]
        refine lv_aload_n hx hb dL_law_152 rfl (lv_at hl 0 rfl) ?_
        refine lv_iload_n hx hb dL_law_153 rfl (lv_at hl 3 rfl) ?_
        refine lv_iconst (v := (3 : Int32)) hx hb dL_law_154 (by decide) ?_
        refine lv_iadd hx hb dL_law_155 ?_
        obtain ⟨b16, eb16, hm⟩ := Option.bind_eq_some_iff.mp hm
        refine va_sld hx hb hX hbl hbA hS (zrd_some eb16).1 dL_law_156 ?_
        rw [(zrd_some eb16).2]
        obtain ⟨⟨b17, σ19⟩, eb17, hm⟩ := Option.bind_eq_some_iff.mp hm
        try dsimp only at hm
        refine zLxi (σ := σ1) (rest := []) [.int b14, .int b15, .int b16] hx hb hml hl.1 hown hT (k_X8_value eb17) zkX8_value zw290 ⟨by decide, by decide⟩ rfl rfl hKx hKm hZ hAX hAM hdis hP hS rfl rfl (Nat.le_of_ble_eq_true rfl) hcs dL_law_157 (fun H locs hP hD hS => ?_)
        refine lv_aload_n hx hb dL_law_160 rfl (lv_at hl 2 rfl) ?_
        refine lv_aload_n hx hb dL_law_161 rfl (lv_at hl 0 rfl) ?_
        refine lv_iload_n hx hb dL_law_162 rfl (lv_at hl 3 rfl) ?_
        refine lv_iconst (v := (1 : Int32)) hx hb dL_law_163 (by decide) ?_
        refine lv_iadd hx hb dL_law_164 ?_
        obtain ⟨b20, eb20, hm⟩ := Option.bind_eq_some_iff.mp hm
        refine va_sld hx hb hX hbl hbA hS (zrd_some eb20).1 dL_law_165 ?_
        rw [(zrd_some eb20).2]
        refine lv_aload_n hx hb dL_law_166 rfl (lv_at hl 0 rfl) ?_
        refine lv_iload_n hx hb dL_law_167 rfl (lv_at hl 3 rfl) ?_
        refine lv_iconst (v := (2 : Int32)) hx hb dL_law_168 (by decide) ?_
        refine lv_iadd hx hb dL_law_169 ?_
        obtain ⟨b21, eb21, hm⟩ := Option.bind_eq_some_iff.mp hm
        refine va_sld hx hb hX hbl hbA hS (zrd_some eb21).1 dL_law_170 ?_
        rw [(zrd_some eb21).2]
        refine lv_aload_n hx hb dL_law_171 rfl (lv_at hl 0 rfl) ?_
        refine lv_iload_n hx hb dL_law_172 rfl (lv_at hl 3 rfl) ?_
        refine lv_iconst (v := (3 : Int32)) hx hb dL_law_173 (by decide) ?_
        refine lv_iadd hx hb dL_law_174 ?_
        obtain ⟨b22, eb22, hm⟩ := Option.bind_eq_some_iff.mp hm
        refine va_sld hx hb hX hbl hbA hS (zrd_some eb22).1 dL_law_175 ?_
        rw [(zrd_some eb22).2]
        obtain ⟨⟨b23, σ25⟩, eb23, hm⟩ := Option.bind_eq_some_iff.mp hm
        try dsimp only at hm
        refine zLmi (σ := (σ19, σ1.2)) (rest := [.int b17]) [.int b20, .int b21, .int b22] hx hb hml hl.1 hown hT (k_X9_value eb23) zkX9_value zw731 ⟨by decide, by decide⟩ rfl rfl hKx hKm hZ hAX hAM hdis hP hS rfl rfl (Nat.le_of_ble_eq_true rfl) hcs dL_law_176 (fun H locs hP hD hS => ?_)
        refine lv_icmp_eq (tgt := 851) hx hb dL_law_179 (by decide) (fun h26 => ?_) (fun h26 => ?_)
        · rw [if_pos h26] at hm
          exact h851 ((σ19, σ1.2).1, σ25) v3_1 hm _ _ _ hP hD hS (lv_sub hl [0, 1, 2, 3] rfl)
        · rw [if_neg h26] at hm
          cases hm
      · rw [if_neg h13] at hm
        by_cases h27 : (b3 &&& (31 : Int32)) = (2 : Int32)
        · rw [if_pos h27] at hm
          refine lv_tableIn (off := 152) (tgt := 184) hx hb dL_law_32 (by rw [h27]; decide) (by rw [h27]; decide) (by rw [h27]; rfl) (by decide) ?_
          refine lv_aload_n hx hb dL_law_184 rfl (lv_at hl 1 rfl) ?_
          refine lv_aload_n hx hb dL_law_185 rfl (lv_at hl 0 rfl) ?_
          refine lv_iload_n hx hb dL_law_186 rfl (lv_at hl 3 rfl) ?_
          refine lv_iconst (v := (1 : Int32)) hx hb dL_law_187 (by decide) ?_
          refine lv_iadd hx hb dL_law_188 ?_
          obtain ⟨b28, eb28, hm⟩ := Option.bind_eq_some_iff.mp hm
          refine va_sld hx hb hX hbl hbA hS (zrd_some eb28).1 dL_law_189 ?_
          rw [(zrd_some eb28).2]
          refine lv_aload_n hx hb dL_law_190 rfl (lv_at hl 0 rfl) ?_
          refine lv_iload_n hx hb dL_law_191 rfl (lv_at hl 3 rfl) ?_
          refine lv_iconst (v := (2 : Int32)) hx hb dL_law_192 (by decide) ?_
          refine lv_iadd hx hb dL_law_193 ?_
          obtain ⟨b29, eb29, hm⟩ := Option.bind_eq_some_iff.mp hm
          refine va_sld hx hb hX hbl hbA hS (zrd_some eb29).1 dL_law_194 ?_
          rw [(zrd_some eb29).2]
          refine lv_if_eq (tgt := 202) hx hb dL_law_195 (by decide) (fun h30 => ?_) (fun h30 => ?_)
          · rw [if_pos h30] at hm
            refine lv_iconst (v := (0 : Int32)) hx hb dL_law_202 (by decide) ?_
            exact h203 σ1 v3_1 b28 (0 : Int32) hm _ _ _ hP hD hS (lv_sub hl [0, 1, 2, 3] rfl)
          · rw [if_neg h30] at hm
            refine lv_iconst (v := (1 : Int32)) hx hb dL_law_198 (by decide) ?_
            refine lv_goto (tgt := 203) hx hb dL_law_199 (by decide) ?_
            exact h203 σ1 v3_1 b28 (1 : Int32) hm _ _ _ hP hD hS (lv_sub hl [0, 1, 2, 3] rfl)
        · rw [if_neg h27] at hm
          by_cases h43 : (b3 &&& (31 : Int32)) = (3 : Int32)
          · rw [if_pos h43] at hm
            refine lv_tableIn (off := 201) (tgt := 233) hx hb dL_law_32 (by rw [h43]; decide) (by rw [h43]; decide) (by rw [h43]; rfl) (by decide) ?_
            refine lv_aload_n hx hb dL_law_233 rfl (lv_at hl 1 rfl) ?_
            obtain ⟨⟨b44, σ46⟩, eb44, hm⟩ := Option.bind_eq_some_iff.mp hm
            try dsimp only at hm
            refine zLxi (σ := σ1) (rest := []) [] hx hb hml hl.1 hown hT (k_X8_clear eb44) zkX8_clear zw319 ⟨by decide, by decide⟩ rfl rfl hKx hKm hZ hAX hAM hdis hP hS rfl rfl (Nat.le_of_ble_eq_true rfl) hcs dL_law_234 (fun H locs hP hD hS => ?_)
            refine lv_aload_n hx hb dL_law_237 rfl (lv_at hl 2 rfl) ?_
            obtain ⟨⟨b47, σ49⟩, eb47, hm⟩ := Option.bind_eq_some_iff.mp hm
            try dsimp only at hm
            refine zLmi (σ := (σ46, σ1.2)) (rest := [.int b44]) [] hx hb hml hl.1 hown hT (k_X9_clear eb47) zkX9_clear zw755 ⟨by decide, by decide⟩ rfl rfl hKx hKm hZ hAX hAM hdis hP hS rfl rfl (Nat.le_of_ble_eq_true rfl) hcs dL_law_238 (fun H locs hP hD hS => ?_)
            refine lv_icmp_eq (tgt := 851) hx hb dL_law_241 (by decide) (fun h50 => ?_) (fun h50 => ?_)
            · rw [if_pos h50] at hm
              exact h851 ((σ46, σ1.2).1, σ49) v3_1 hm _ _ _ hP hD hS (lv_sub hl [0, 1, 2, 3] rfl)
            · rw [if_neg h50] at hm
              cases hm
          · rw [if_neg h43] at hm
            by_cases h51 : (b3 &&& (31 : Int32)) = (4 : Int32)
            · rw [if_pos h51] at hm
              refine lv_tableIn (off := 214) (tgt := 246) hx hb dL_law_32 (by rw [h51]; decide) (by rw [h51]; decide) (by rw [h51]; rfl) (by decide) ?_
              refine lv_aload_n hx hb dL_law_246 rfl (lv_at hl 1 rfl) ?_
              refine lv_aload_n hx hb dL_law_247 rfl (lv_at hl 0 rfl) ?_
              refine lv_iload_n hx hb dL_law_248 rfl (lv_at hl 3 rfl) ?_
              refine lv_iconst (v := (1 : Int32)) hx hb dL_law_249 (by decide) ?_
              refine lv_iadd hx hb dL_law_250 ?_
              obtain ⟨b52, eb52, hm⟩ := Option.bind_eq_some_iff.mp hm
              refine va_sld hx hb hX hbl hbA hS (zrd_some eb52).1 dL_law_251 ?_
              rw [(zrd_some eb52).2]
              refine lv_aload_n hx hb dL_law_252 rfl (lv_at hl 0 rfl) ?_
              refine lv_iload_n hx hb dL_law_253 rfl (lv_at hl 3 rfl) ?_
              refine lv_iconst (v := (2 : Int32)) hx hb dL_law_254 (by decide) ?_
              refine lv_iadd hx hb dL_law_255 ?_
              obtain ⟨b53, eb53, hm⟩ := Option.bind_eq_some_iff.mp hm
              refine va_sld hx hb hX hbl hbA hS (zrd_some eb53).1 dL_law_256 ?_
              rw [(zrd_some eb53).2]
              refine lv_aload_n hx hb dL_law_257 rfl (lv_at hl 0 rfl) ?_
              refine lv_iload_n hx hb dL_law_258 rfl (lv_at hl 3 rfl) ?_
              refine lv_iconst (v := (3 : Int32)) hx hb dL_law_259 (by decide) ?_
              refine lv_iadd hx hb dL_law_260 ?_
              obtain ⟨b54, eb54, hm⟩ := Option.bind_eq_some_iff.mp hm
              refine va_sld hx hb hX hbl hbA hS (zrd_some eb54).1 dL_law_261 ?_
              rw [(zrd_some eb54).2]
              refine lv_aload_n hx hb dL_law_262 rfl (lv_at hl 0 rfl) ?_
              refine lv_iload_n hx hb dL_law_263 rfl (lv_at hl 3 rfl) ?_
              refine lv_iconst (v := (4 : Int32)) hx hb dL_law_264 (by decide) ?_
              refine lv_iadd hx hb dL_law_265 ?_
              obtain ⟨b55, eb55, hm⟩ := Option.bind_eq_some_iff.mp hm
              refine va_sld hx hb hX hbl hbA hS (zrd_some eb55).1 dL_law_266 ?_
              rw [(zrd_some eb55).2]
              obtain ⟨⟨b56, σ58⟩, eb56, hm⟩ := Option.bind_eq_some_iff.mp hm
              try dsimp only at hm
              refine zLxi (σ := σ1) (rest := []) [.int b52, .int b53, .int b54, .int b55] hx hb hml hl.1 hown hT (k_X8_facet eb56) zkX8_facet zw323 ⟨by decide, by decide⟩ rfl rfl hKx hKm hZ hAX hAM hdis hP hS rfl rfl (Nat.le_of_ble_eq_true rfl) hcs dL_law_267 (fun H locs hP hD hS => ?_)
              refine lv_aload_n hx hb dL_law_270 rfl (lv_at hl 2 rfl) ?_
              refine lv_aload_n hx hb dL_law_271 rfl (lv_at hl 0 rfl) ?_
              refine lv_iload_n hx hb dL_law_272 rfl (lv_at hl 3 rfl) ?_
              refine lv_iconst (v := (1 : Int32)) hx hb dL_law_273 (by decide) ?_
              refine lv_iadd hx hb dL_law_274 ?_
              obtain ⟨b59, eb59, hm⟩ := Option.bind_eq_some_iff.mp hm
              refine va_sld hx hb hX hbl hbA hS (zrd_some eb59).1 dL_law_275 ?_
              rw [(zrd_some eb59).2]
              refine lv_aload_n hx hb dL_law_276 rfl (lv_at hl 0 rfl) ?_
              refine lv_iload_n hx hb dL_law_277 rfl (lv_at hl 3 rfl) ?_
              refine lv_iconst (v := (2 : Int32)) hx hb dL_law_278 (by decide) ?_
              refine lv_iadd hx hb dL_law_279 ?_
              obtain ⟨b60, eb60, hm⟩ := Option.bind_eq_some_iff.mp hm
              refine va_sld hx hb hX hbl hbA hS (zrd_some eb60).1 dL_law_280 ?_
              rw [(zrd_some eb60).2]
              refine lv_aload_n hx hb dL_law_281 rfl (lv_at hl 0 rfl) ?_
              refine lv_iload_n hx hb dL_law_282 rfl (lv_at hl 3 rfl) ?_
              refine lv_iconst (v := (3 : Int32)) hx hb dL_law_283 (by decide) ?_
              refine lv_iadd hx hb dL_law_284 ?_
              obtain ⟨b61, eb61, hm⟩ := Option.bind_eq_some_iff.mp hm
              refine va_sld hx hb hX hbl hbA hS (zrd_some eb61).1 dL_law_285 ?_
              rw [(zrd_some eb61).2]
              refine lv_aload_n hx hb dL_law_286 rfl (lv_at hl 0 rfl) ?_
              refine lv_iload_n hx hb dL_law_287 rfl (lv_at hl 3 rfl) ?_
              refine lv_iconst (v := (4 : Int32)) hx hb dL_law_288 (by decide) ?_
              refine lv_iadd hx hb dL_law_289 ?_
              obtain ⟨b62, eb62, hm⟩ := Option.bind_eq_some_iff.mp hm
              refine va_sld hx hb hX hbl hbA hS (zrd_some eb62).1 dL_law_290 ?_
              rw [(zrd_some eb62).2]
              obtain ⟨⟨b63, σ65⟩, eb63, hm⟩ := Option.bind_eq_some_iff.mp hm
              try dsimp only at hm
              refine zLmi (σ := (σ58, σ1.2)) (rest := [.int b56]) [.int b59, .int b60, .int b61, .int b62] hx hb hml hl.1 hown hT (k_X9_facet eb63) zkX9_facet zw759 ⟨by decide, by decide⟩ rfl rfl hKx hKm hZ hAX hAM hdis hP hS rfl rfl (Nat.le_of_ble_eq_true rfl) hcs dL_law_291 (fun H locs hP hD hS => ?_)
              refine lv_icmp_eq (tgt := 851) hx hb dL_law_294 (by decide) (fun h66 => ?_) (fun h66 => ?_)
              · rw [if_pos h66] at hm
                exact h851 ((σ58, σ1.2).1, σ65) v3_1 hm _ _ _ hP hD hS (lv_sub hl [0, 1, 2, 3] rfl)
              · rw [if_neg h66] at hm
                cases hm
            · rw [if_neg h51] at hm
              by_cases h67 : (b3 &&& (31 : Int32)) = (5 : Int32)
              · rw [if_pos h67] at hm
                refine lv_tableIn (off := 267) (tgt := 299) hx hb dL_law_32 (by rw [h67]; decide) (by rw [h67]; decide) (by rw [h67]; rfl) (by decide) ?_
                refine lv_aload_n hx hb dL_law_299 rfl (lv_at hl 1 rfl) ?_
                refine lv_aload_n hx hb dL_law_300 rfl (lv_at hl 0 rfl) ?_
                refine lv_iload_n hx hb dL_law_301 rfl (lv_at hl 3 rfl) ?_
                refine lv_iconst (v := (1 : Int32)) hx hb dL_law_302 (by decide) ?_
                refine lv_iadd hx hb dL_law_303 ?_
                obtain ⟨b68, eb68, hm⟩ := Option.bind_eq_some_iff.mp hm
                refine va_sld hx hb hX hbl hbA hS (zrd_some eb68).1 dL_law_304 ?_
                rw [(zrd_some eb68).2]
                refine lv_aload_n hx hb dL_law_305 rfl (lv_at hl 0 rfl) ?_
                refine lv_iload_n hx hb dL_law_306 rfl (lv_at hl 3 rfl) ?_
                refine lv_iconst (v := (2 : Int32)) hx hb dL_law_307 (by decide) ?_
                refine lv_iadd hx hb dL_law_308 ?_
                obtain ⟨b69, eb69, hm⟩ := Option.bind_eq_some_iff.mp hm
                refine va_sld hx hb hX hbl hbA hS (zrd_some eb69).1 dL_law_309 ?_
                rw [(zrd_some eb69).2]
                refine lv_aload_n hx hb dL_law_310 rfl (lv_at hl 0 rfl) ?_
                refine lv_iload_n hx hb dL_law_311 rfl (lv_at hl 3 rfl) ?_
                refine lv_iconst (v := (3 : Int32)) hx hb dL_law_312 (by decide) ?_
                refine lv_iadd hx hb dL_law_313 ?_
                obtain ⟨b70, eb70, hm⟩ := Option.bind_eq_some_iff.mp hm
                refine va_sld hx hb hX hbl hbA hS (zrd_some eb70).1 dL_law_314 ?_
                rw [(zrd_some eb70).2]
                obtain ⟨⟨b71, σ73⟩, eb71, hm⟩ := Option.bind_eq_some_iff.mp hm
                try dsimp only at hm
                refine zLxi (σ := σ1) (rest := []) [.int b68, .int b69, .int b70] hx hb hml hl.1 hown hT (k_X8_range eb71) zkX8_range zw333 ⟨by decide, by decide⟩ rfl rfl hKx hKm hZ hAX hAM hdis hP hS rfl rfl (Nat.le_of_ble_eq_true rfl) hcs dL_law_315 (fun H locs hP hD hS => ?_)
                refine lv_aload_n hx hb dL_law_318 rfl (lv_at hl 2 rfl) ?_
                refine lv_aload_n hx hb dL_law_319 rfl (lv_at hl 0 rfl) ?_
                refine lv_iload_n hx hb dL_law_320 rfl (lv_at hl 3 rfl) ?_
                refine lv_iconst (v := (1 : Int32)) hx hb dL_law_321 (by decide) ?_
                refine lv_iadd hx hb dL_law_322 ?_
                obtain ⟨b74, eb74, hm⟩ := Option.bind_eq_some_iff.mp hm
                refine va_sld hx hb hX hbl hbA hS (zrd_some eb74).1 dL_law_323 ?_
                rw [(zrd_some eb74).2]
                refine lv_aload_n hx hb dL_law_324 rfl (lv_at hl 0 rfl) ?_
                refine lv_iload_n hx hb dL_law_325 rfl (lv_at hl 3 rfl) ?_
                refine lv_iconst (v := (2 : Int32)) hx hb dL_law_326 (by decide) ?_
                refine lv_iadd hx hb dL_law_327 ?_
                obtain ⟨b75, eb75, hm⟩ := Option.bind_eq_some_iff.mp hm
                refine va_sld hx hb hX hbl hbA hS (zrd_some eb75).1 dL_law_328 ?_
                rw [(zrd_some eb75).2]
                refine lv_aload_n hx hb dL_law_329 rfl (lv_at hl 0 rfl) ?_
                refine lv_iload_n hx hb dL_law_330 rfl (lv_at hl 3 rfl) ?_
                refine lv_iconst (v := (3 : Int32)) hx hb dL_law_331 (by decide) ?_
                refine lv_iadd hx hb dL_law_332 ?_
                obtain ⟨b76, eb76, hm⟩ := Option.bind_eq_some_iff.mp hm
                refine va_sld hx hb hX hbl hbA hS (zrd_some eb76).1 dL_law_333 ?_
                rw [(zrd_some eb76).2]
                obtain ⟨⟨b77, σ79⟩, eb77, hm⟩ := Option.bind_eq_some_iff.mp hm
                try dsimp only at hm
                refine zLmi (σ := (σ73, σ1.2)) (rest := [.int b71]) [.int b74, .int b75, .int b76] hx hb hml hl.1 hown hT (k_X9_range eb77) zkX9_range zw765 ⟨by decide, by decide⟩ rfl rfl hKx hKm hZ hAX hAM hdis hP hS rfl rfl (Nat.le_of_ble_eq_true rfl) hcs dL_law_334 (fun H locs hP hD hS => ?_)
                refine lv_icmp_eq (tgt := 851) hx hb dL_law_337 (by decide) (fun h80 => ?_) (fun h80 => ?_)
                · rw [if_pos h80] at hm
                  exact h851 ((σ73, σ1.2).1, σ79) v3_1 hm _ _ _ hP hD hS (lv_sub hl [0, 1, 2, 3] rfl)
                · rw [if_neg h80] at hm
                  cases hm
              · rw [if_neg h67] at hm
                by_cases h81 : (b3 &&& (31 : Int32)) = (6 : Int32)
                · rw [if_pos h81] at hm
                  refine lv_tableIn (off := 310) (tgt := 342) hx hb dL_law_32 (by rw [h81]; decide) (by rw [h81]; decide) (by rw [h81]; rfl) (by decide) ?_
                  refine lv_aload_n hx hb dL_law_342 rfl (lv_at hl 1 rfl) ?_
                  refine lv_aload_n hx hb dL_law_343 rfl (lv_at hl 0 rfl) ?_
                  refine lv_iload_n hx hb dL_law_344 rfl (lv_at hl 3 rfl) ?_
                  refine lv_iconst (v := (1 : Int32)) hx hb dL_law_345 (by decide) ?_
                  refine lv_iadd hx hb dL_law_346 ?_
                  obtain ⟨b82, eb82, hm⟩ := Option.bind_eq_some_iff.mp hm
                  refine va_sld hx hb hX hbl hbA hS (zrd_some eb82).1 dL_law_347 ?_
                  rw [(zrd_some eb82).2]
                  refine lv_aload_n hx hb dL_law_348 rfl (lv_at hl 0 rfl) ?_
                  refine lv_iload_n hx hb dL_law_349 rfl (lv_at hl 3 rfl) ?_
                  refine lv_iconst (v := (2 : Int32)) hx hb dL_law_350 (by decide) ?_
                  refine lv_iadd hx hb dL_law_351 ?_
                  obtain ⟨b83, eb83, hm⟩ := Option.bind_eq_some_iff.mp hm
                  refine va_sld hx hb hX hbl hbA hS (zrd_some eb83).1 dL_law_352 ?_
                  rw [(zrd_some eb83).2]
                  refine lv_aload_n hx hb dL_law_353 rfl (lv_at hl 0 rfl) ?_
                  refine lv_iload_n hx hb dL_law_354 rfl (lv_at hl 3 rfl) ?_
                  refine lv_iconst (v := (3 : Int32)) hx hb dL_law_355 (by decide) ?_
                  refine lv_iadd hx hb dL_law_356 ?_
                  obtain ⟨b84, eb84, hm⟩ := Option.bind_eq_some_iff.mp hm
                  refine va_sld hx hb hX hbl hbA hS (zrd_some eb84).1 dL_law_357 ?_
                  rw [(zrd_some eb84).2]
                  refine lv_aload_n hx hb dL_law_358 rfl (lv_at hl 0 rfl) ?_
                  refine lv_iload_n hx hb dL_law_359 rfl (lv_at hl 3 rfl) ?_
                  refine lv_iconst (v := (4 : Int32)) hx hb dL_law_360 (by decide) ?_
                  refine lv_iadd hx hb dL_law_361 ?_
                  obtain ⟨b85, eb85, hm⟩ := Option.bind_eq_some_iff.mp hm
                  refine va_sld hx hb hX hbl hbA hS (zrd_some eb85).1 dL_law_362 ?_
                  rw [(zrd_some eb85).2]
                  obtain ⟨⟨b86, σ88⟩, eb86, hm⟩ := Option.bind_eq_some_iff.mp hm
                  try dsimp only at hm
                  refine zLxi (σ := σ1) (rest := []) [.int b82, .int b83, .int b84, .int b85] hx hb hml hl.1 hown hT (k_X8_filter eb86) zkX8_filter zw346 ⟨by decide, by decide⟩ rfl rfl hKx hKm hZ hAX hAM hdis hP hS rfl rfl (Nat.le_of_ble_eq_true rfl) hcs dL_law_363 (fun H locs hP hD hS => ?_)
                  refine lv_aload_n hx hb dL_law_366 rfl (lv_at hl 2 rfl) ?_
                  refine lv_aload_n hx hb dL_law_367 rfl (lv_at hl 0 rfl) ?_
                  refine lv_iload_n hx hb dL_law_368 rfl (lv_at hl 3 rfl) ?_
                  refine lv_iconst (v := (1 : Int32)) hx hb dL_law_369 (by decide) ?_
                  refine lv_iadd hx hb dL_law_370 ?_
                  obtain ⟨b89, eb89, hm⟩ := Option.bind_eq_some_iff.mp hm
                  refine va_sld hx hb hX hbl hbA hS (zrd_some eb89).1 dL_law_371 ?_
                  rw [(zrd_some eb89).2]
                  refine lv_aload_n hx hb dL_law_372 rfl (lv_at hl 0 rfl) ?_
                  refine lv_iload_n hx hb dL_law_373 rfl (lv_at hl 3 rfl) ?_
                  refine lv_iconst (v := (2 : Int32)) hx hb dL_law_374 (by decide) ?_
                  refine lv_iadd hx hb dL_law_375 ?_
                  obtain ⟨b90, eb90, hm⟩ := Option.bind_eq_some_iff.mp hm
                  refine va_sld hx hb hX hbl hbA hS (zrd_some eb90).1 dL_law_376 ?_
                  rw [(zrd_some eb90).2]
                  refine lv_aload_n hx hb dL_law_377 rfl (lv_at hl 0 rfl) ?_
                  refine lv_iload_n hx hb dL_law_378 rfl (lv_at hl 3 rfl) ?_
                  refine lv_iconst (v := (3 : Int32)) hx hb dL_law_379 (by decide) ?_
                  refine lv_iadd hx hb dL_law_380 ?_
                  obtain ⟨b91, eb91, hm⟩ := Option.bind_eq_some_iff.mp hm
                  refine va_sld hx hb hX hbl hbA hS (zrd_some eb91).1 dL_law_381 ?_
                  rw [(zrd_some eb91).2]
                  refine lv_aload_n hx hb dL_law_382 rfl (lv_at hl 0 rfl) ?_
                  refine lv_iload_n hx hb dL_law_383 rfl (lv_at hl 3 rfl) ?_
                  refine lv_iconst (v := (4 : Int32)) hx hb dL_law_384 (by decide) ?_
                  refine lv_iadd hx hb dL_law_385 ?_
                  obtain ⟨b92, eb92, hm⟩ := Option.bind_eq_some_iff.mp hm
                  refine va_sld hx hb hX hbl hbA hS (zrd_some eb92).1 dL_law_386 ?_
                  rw [(zrd_some eb92).2]
                  obtain ⟨⟨b93, σ95⟩, eb93, hm⟩ := Option.bind_eq_some_iff.mp hm
                  try dsimp only at hm
                  refine zLmi (σ := (σ88, σ1.2)) (rest := [.int b86]) [.int b89, .int b90, .int b91, .int b92] hx hb hml hl.1 hown hT (k_X9_filter eb93) zkX9_filter zw774 ⟨by decide, by decide⟩ rfl rfl hKx hKm hZ hAX hAM hdis hP hS rfl rfl (Nat.le_of_ble_eq_true rfl) hcs dL_law_387 (fun H locs hP hD hS => ?_)
                  refine lv_icmp_eq (tgt := 851) hx hb dL_law_390 (by decide) (fun h96 => ?_) (fun h96 => ?_)
                  · rw [if_pos h96] at hm
                    exact h851 ((σ88, σ1.2).1, σ95) v3_1 hm _ _ _ hP hD hS (lv_sub hl [0, 1, 2, 3] rfl)
                  · rw [if_neg h96] at hm
                    cases hm
                · rw [if_neg h81] at hm
                  by_cases h97 : (b3 &&& (31 : Int32)) = (7 : Int32)
                  · rw [if_pos h97] at hm
                    refine lv_tableIn (off := 363) (tgt := 395) hx hb dL_law_32 (by rw [h97]; decide) (by rw [h97]; decide) (by rw [h97]; rfl) (by decide) ?_
                    refine lv_aload_n hx hb dL_law_395 rfl (lv_at hl 1 rfl) ?_
                    refine lv_aload_n hx hb dL_law_396 rfl (lv_at hl 0 rfl) ?_
                    refine lv_iload_n hx hb dL_law_397 rfl (lv_at hl 3 rfl) ?_
                    refine lv_iconst (v := (1 : Int32)) hx hb dL_law_398 (by decide) ?_
                    refine lv_iadd hx hb dL_law_399 ?_
                    obtain ⟨b98, eb98, hm⟩ := Option.bind_eq_some_iff.mp hm
                    refine va_sld hx hb hX hbl hbA hS (zrd_some eb98).1 dL_law_400 ?_
                    rw [(zrd_some eb98).2]
                    refine lv_aload_n hx hb dL_law_401 rfl (lv_at hl 0 rfl) ?_
                    refine lv_iload_n hx hb dL_law_402 rfl (lv_at hl 3 rfl) ?_
                    refine lv_iconst (v := (2 : Int32)) hx hb dL_law_403 (by decide) ?_
                    refine lv_iadd hx hb dL_law_404 ?_
                    obtain ⟨b99, eb99, hm⟩ := Option.bind_eq_some_iff.mp hm
                    refine va_sld hx hb hX hbl hbA hS (zrd_some eb99).1 dL_law_405 ?_
                    rw [(zrd_some eb99).2]
                    obtain ⟨⟨b100, σ102⟩, eb100, hm⟩ := Option.bind_eq_some_iff.mp hm
                    try dsimp only at hm
                    refine zLxi (σ := σ1) (rest := []) [.int b98, .int b99] hx hb hml hl.1 hown hT (k_X8_least eb100) zkX8_least zw350 ⟨by decide, by decide⟩ rfl rfl hKx hKm hZ hAX hAM hdis hP hS rfl rfl (Nat.le_of_ble_eq_true rfl) hcs dL_law_406 (fun H locs hP hD hS => ?_)
                    refine lv_aload_n hx hb dL_law_409 rfl (lv_at hl 2 rfl) ?_
                    refine lv_aload_n hx hb dL_law_410 rfl (lv_at hl 0 rfl) ?_
                    refine lv_iload_n hx hb dL_law_411 rfl (lv_at hl 3 rfl) ?_
                    refine lv_iconst (v := (1 : Int32)) hx hb dL_law_412 (by decide) ?_
                    refine lv_iadd hx hb dL_law_413 ?_
                    obtain ⟨b103, eb103, hm⟩ := Option.bind_eq_some_iff.mp hm
                    refine va_sld hx hb hX hbl hbA hS (zrd_some eb103).1 dL_law_414 ?_
                    rw [(zrd_some eb103).2]
                    refine lv_aload_n hx hb dL_law_415 rfl (lv_at hl 0 rfl) ?_
                    refine lv_iload_n hx hb dL_law_416 rfl (lv_at hl 3 rfl) ?_
                    refine lv_iconst (v := (2 : Int32)) hx hb dL_law_417 (by decide) ?_
                    refine lv_iadd hx hb dL_law_418 ?_
                    obtain ⟨b104, eb104, hm⟩ := Option.bind_eq_some_iff.mp hm
                    refine va_sld hx hb hX hbl hbA hS (zrd_some eb104).1 dL_law_419 ?_
                    rw [(zrd_some eb104).2]
                    obtain ⟨⟨b105, σ107⟩, eb105, hm⟩ := Option.bind_eq_some_iff.mp hm
                    try dsimp only at hm
                    refine zLmi (σ := (σ102, σ1.2)) (rest := [.int b100]) [.int b103, .int b104] hx hb hml hl.1 hown hT (k_X9_least eb105) zkX9_least zw778 ⟨by decide, by decide⟩ rfl rfl hKx hKm hZ hAX hAM hdis hP hS rfl rfl (Nat.le_of_ble_eq_true rfl) hcs dL_law_420 (fun H locs hP hD hS => ?_)
                    refine lv_icmp_eq (tgt := 851) hx hb dL_law_423 (by decide) (fun h108 => ?_) (fun h108 => ?_)
                    · rw [if_pos h108] at hm
                      exact h851 ((σ102, σ1.2).1, σ107) v3_1 hm _ _ _ hP hD hS (lv_sub hl [0, 1, 2, 3] rfl)
                    · rw [if_neg h108] at hm
                      cases hm
                  · rw [if_neg h97] at hm
                    by_cases h109 : (b3 &&& (31 : Int32)) = (8 : Int32)
                    · rw [if_pos h109] at hm
                      refine lv_tableIn (off := 396) (tgt := 428) hx hb dL_law_32 (by rw [h109]; decide) (by rw [h109]; decide) (by rw [h109]; rfl) (by decide) ?_
                      refine lv_aload_n hx hb dL_law_428 rfl (lv_at hl 1 rfl) ?_
                      refine lv_aload_n hx hb dL_law_429 rfl (lv_at hl 0 rfl) ?_
                      refine lv_iload_n hx hb dL_law_430 rfl (lv_at hl 3 rfl) ?_
                      refine lv_iconst (v := (1 : Int32)) hx hb dL_law_431 (by decide) ?_
                      refine lv_iadd hx hb dL_law_432 ?_
                      obtain ⟨b110, eb110, hm⟩ := Option.bind_eq_some_iff.mp hm
                      refine va_sld hx hb hX hbl hbA hS (zrd_some eb110).1 dL_law_433 ?_
                      rw [(zrd_some eb110).2]
                      refine lv_aload_n hx hb dL_law_434 rfl (lv_at hl 0 rfl) ?_
                      refine lv_iload_n hx hb dL_law_435 rfl (lv_at hl 3 rfl) ?_
                      refine lv_iconst (v := (2 : Int32)) hx hb dL_law_436 (by decide) ?_
                      refine lv_iadd hx hb dL_law_437 ?_
                      obtain ⟨b111, eb111, hm⟩ := Option.bind_eq_some_iff.mp hm
                      refine va_sld hx hb hX hbl hbA hS (zrd_some eb111).1 dL_law_438 ?_
                      rw [(zrd_some eb111).2]
                      refine lv_if_eq (tgt := 446) hx hb dL_law_439 (by decide) (fun h112 => ?_) (fun h112 => ?_)
                      · rw [if_pos h112] at hm
                        refine lv_iconst (v := (0 : Int32)) hx hb dL_law_446 (by decide) ?_
                        exact h447 σ1 v3_1 b110 (0 : Int32) hm _ _ _ hP hD hS (lv_sub hl [0, 1, 2, 3] rfl)
                      · rw [if_neg h112] at hm
                        refine lv_iconst (v := (1 : Int32)) hx hb dL_law_442 (by decide) ?_
                        refine lv_goto (tgt := 447) hx hb dL_law_443 (by decide) ?_
                        exact h447 σ1 v3_1 b110 (1 : Int32) hm _ _ _ hP hD hS (lv_sub hl [0, 1, 2, 3] rfl)
                    · rw [if_neg h109] at hm
                      by_cases h125 : (b3 &&& (31 : Int32)) = (9 : Int32)
                      · rw [if_pos h125] at hm
                        refine lv_tableIn (off := 445) (tgt := 477) hx hb dL_law_32 (by rw [h125]; decide) (by rw [h125]; decide) (by rw [h125]; rfl) (by decide) ?_
                        refine lv_aload_n hx hb dL_law_477 rfl (lv_at hl 1 rfl) ?_
                        refine lv_aload_n hx hb dL_law_478 rfl (lv_at hl 0 rfl) ?_
                        refine lv_iload_n hx hb dL_law_479 rfl (lv_at hl 3 rfl) ?_
                        refine lv_iconst (v := (1 : Int32)) hx hb dL_law_480 (by decide) ?_
                        refine lv_iadd hx hb dL_law_481 ?_
                        obtain ⟨b126, eb126, hm⟩ := Option.bind_eq_some_iff.mp hm
                        refine va_sld hx hb hX hbl hbA hS (zrd_some eb126).1 dL_law_482 ?_
                        rw [(zrd_some eb126).2]
                        refine lv_aload_n hx hb dL_law_483 rfl (lv_at hl 0 rfl) ?_
                        refine lv_iload_n hx hb dL_law_484 rfl (lv_at hl 3 rfl) ?_
                        refine lv_iconst (v := (2 : Int32)) hx hb dL_law_485 (by decide) ?_
                        refine lv_iadd hx hb dL_law_486 ?_
                        obtain ⟨b127, eb127, hm⟩ := Option.bind_eq_some_iff.mp hm
                        refine va_sld hx hb hX hbl hbA hS (zrd_some eb127).1 dL_law_487 ?_
                        rw [(zrd_some eb127).2]
                        refine lv_aload_n hx hb dL_law_488 rfl (lv_at hl 0 rfl) ?_
                        refine lv_iload_n hx hb dL_law_489 rfl (lv_at hl 3 rfl) ?_
                        refine lv_iconst (v := (3 : Int32)) hx hb dL_law_490 (by decide) ?_
                        refine lv_iadd hx hb dL_law_491 ?_
                        obtain ⟨b128, eb128, hm⟩ := Option.bind_eq_some_iff.mp hm
                        refine va_sld hx hb hX hbl hbA hS (zrd_some eb128).1 dL_law_492 ?_
                        rw [(zrd_some eb128).2]
                        obtain ⟨⟨b129, σ131⟩, eb129, hm⟩ := Option.bind_eq_some_iff.mp hm
                        try dsimp only at hm
                        refine zLxi (σ := σ1) (rest := []) [.int b126, .int b127, .int b128] hx hb hml hl.1 hown hT (k_X8_order eb129) zkX8_order zw358 ⟨by decide, by decide⟩ rfl rfl hKx hKm hZ hAX hAM hdis hP hS rfl rfl (Nat.le_of_ble_eq_true rfl) hcs dL_law_493 (fun H locs hP hD hS => ?_)
                        refine lv_aload_n hx hb dL_law_496 rfl (lv_at hl 2 rfl) ?_
                        refine lv_aload_n hx hb dL_law_497 rfl (lv_at hl 0 rfl) ?_
                        refine lv_iload_n hx hb dL_law_498 rfl (lv_at hl 3 rfl) ?_
                        refine lv_iconst (v := (1 : Int32)) hx hb dL_law_499 (by decide) ?_
                        refine lv_iadd hx hb dL_law_500 ?_
                        obtain ⟨b132, eb132, hm⟩ := Option.bind_eq_some_iff.mp hm
                        refine va_sld hx hb hX hbl hbA hS (zrd_some eb132).1 dL_law_501 ?_
                        rw [(zrd_some eb132).2]
                        refine lv_aload_n hx hb dL_law_502 rfl (lv_at hl 0 rfl) ?_
                        refine lv_iload_n hx hb dL_law_503 rfl (lv_at hl 3 rfl) ?_
                        refine lv_iconst (v := (2 : Int32)) hx hb dL_law_504 (by decide) ?_
                        refine lv_iadd hx hb dL_law_505 ?_
                        obtain ⟨b133, eb133, hm⟩ := Option.bind_eq_some_iff.mp hm
                        refine va_sld hx hb hX hbl hbA hS (zrd_some eb133).1 dL_law_506 ?_
                        rw [(zrd_some eb133).2]
                        refine lv_aload_n hx hb dL_law_507 rfl (lv_at hl 0 rfl) ?_
                        refine lv_iload_n hx hb dL_law_508 rfl (lv_at hl 3 rfl) ?_
                        refine lv_iconst (v := (3 : Int32)) hx hb dL_law_509 (by decide) ?_
                        refine lv_iadd hx hb dL_law_510 ?_
                        obtain ⟨b134, eb134, hm⟩ := Option.bind_eq_some_iff.mp hm
                        refine va_sld hx hb hX hbl hbA hS (zrd_some eb134).1 dL_law_511 ?_
                        rw [(zrd_some eb134).2]
                        obtain ⟨⟨b135, σ137⟩, eb135, hm⟩ := Option.bind_eq_some_iff.mp hm
                        try dsimp only at hm
                        refine zLmi (σ := (σ131, σ1.2)) (rest := [.int b129]) [.int b132, .int b133, .int b134] hx hb hml hl.1 hown hT (k_X9_order eb135) zkX9_order zw786 ⟨by decide, by decide⟩ rfl rfl hKx hKm hZ hAX hAM hdis hP hS rfl rfl (Nat.le_of_ble_eq_true rfl) hcs dL_law_512 (fun H locs hP hD hS => ?_)
                        refine lv_icmp_eq (tgt := 851) hx hb dL_law_515 (by decide) (fun h138 => ?_) (fun h138 => ?_)
                        · rw [if_pos h138] at hm
                          exact h851 ((σ131, σ1.2).1, σ137) v3_1 hm _ _ _ hP hD hS (lv_sub hl [0, 1, 2, 3] rfl)
                        · rw [if_neg h138] at hm
                          cases hm
                      · rw [if_neg h125] at hm
                        by_cases h139 : (b3 &&& (31 : Int32)) = (10 : Int32)
                        · rw [if_pos h139] at hm
                          refine lv_tableIn (off := 488) (tgt := 520) hx hb dL_law_32 (by rw [h139]; decide) (by rw [h139]; decide) (by rw [h139]; rfl) (by decide) ?_
                          refine lv_aload_n hx hb dL_law_520 rfl (lv_at hl 1 rfl) ?_
                          refine lv_aload_n hx hb dL_law_521 rfl (lv_at hl 0 rfl) ?_
                          refine lv_iload_n hx hb dL_law_522 rfl (lv_at hl 3 rfl) ?_
                          refine lv_iconst (v := (1 : Int32)) hx hb dL_law_523 (by decide) ?_
                          refine lv_iadd hx hb dL_law_524 ?_
                          obtain ⟨b140, eb140, hm⟩ := Option.bind_eq_some_iff.mp hm
                          refine va_sld hx hb hX hbl hbA hS (zrd_some eb140).1 dL_law_525 ?_
                          rw [(zrd_some eb140).2]
                          obtain ⟨⟨b141, σ143⟩, eb141, hm⟩ := Option.bind_eq_some_iff.mp hm
                          try dsimp only at hm
                          refine zLxi (σ := σ1) (rest := []) [.int b140] hx hb hml hl.1 hown hT (k_X8_groups eb141) zkX8_groups zw362 ⟨by decide, by decide⟩ rfl rfl hKx hKm hZ hAX hAM hdis hP hS rfl rfl (Nat.le_of_ble_eq_true rfl) hcs dL_law_526 (fun H locs hP hD hS => ?_)
                          refine lv_aload_n hx hb dL_law_529 rfl (lv_at hl 2 rfl) ?_
                          refine lv_aload_n hx hb dL_law_530 rfl (lv_at hl 0 rfl) ?_
                          refine lv_iload_n hx hb dL_law_531 rfl (lv_at hl 3 rfl) ?_
                          refine lv_iconst (v := (1 : Int32)) hx hb dL_law_532 (by decide) ?_
                          refine lv_iadd hx hb dL_law_533 ?_
                          obtain ⟨b144, eb144, hm⟩ := Option.bind_eq_some_iff.mp hm
                          refine va_sld hx hb hX hbl hbA hS (zrd_some eb144).1 dL_law_534 ?_
                          rw [(zrd_some eb144).2]
                          obtain ⟨⟨b145, σ147⟩, eb145, hm⟩ := Option.bind_eq_some_iff.mp hm
                          try dsimp only at hm
                          refine zLmi (σ := (σ143, σ1.2)) (rest := [.int b141]) [.int b144] hx hb hml hl.1 hown hT (k_X9_groups eb145) zkX9_groups zw790 ⟨by decide, by decide⟩ rfl rfl hKx hKm hZ hAX hAM hdis hP hS rfl rfl (Nat.le_of_ble_eq_true rfl) hcs dL_law_535 (fun H locs hP hD hS => ?_)
                          refine lv_icmp_eq (tgt := 851) hx hb dL_law_538 (by decide) (fun h148 => ?_) (fun h148 => ?_)
                          · rw [if_pos h148] at hm
                            exact h851 ((σ143, σ1.2).1, σ147) v3_1 hm _ _ _ hP hD hS (lv_sub hl [0, 1, 2, 3] rfl)
                          · rw [if_neg h148] at hm
                            cases hm
                        · rw [if_neg h139] at hm
                          by_cases h149 : (b3 &&& (31 : Int32)) = (11 : Int32)
                          · rw [if_pos h149] at hm
                            refine lv_tableIn (off := 511) (tgt := 543) hx hb dL_law_32 (by rw [h149]; decide) (by rw [h149]; decide) (by rw [h149]; rfl) (by decide) ?_
                            refine lv_aload_n hx hb dL_law_543 rfl (lv_at hl 1 rfl) ?_
                            refine lv_aload_n hx hb dL_law_544 rfl (lv_at hl 0 rfl) ?_
                            refine lv_iload_n hx hb dL_law_545 rfl (lv_at hl 3 rfl) ?_
                            refine lv_iconst (v := (1 : Int32)) hx hb dL_law_546 (by decide) ?_
                            refine lv_iadd hx hb dL_law_547 ?_
                            obtain ⟨b150, eb150, hm⟩ := Option.bind_eq_some_iff.mp hm
                            refine va_sld hx hb hX hbl hbA hS (zrd_some eb150).1 dL_law_548 ?_
                            rw [(zrd_some eb150).2]
                            refine lv_aload_n hx hb dL_law_549 rfl (lv_at hl 0 rfl) ?_
                            refine lv_iload_n hx hb dL_law_550 rfl (lv_at hl 3 rfl) ?_
                            refine lv_iconst (v := (2 : Int32)) hx hb dL_law_551 (by decide) ?_
                            refine lv_iadd hx hb dL_law_552 ?_
                            obtain ⟨b151, eb151, hm⟩ := Option.bind_eq_some_iff.mp hm
                            refine va_sld hx hb hX hbl hbA hS (zrd_some eb151).1 dL_law_553 ?_
                            rw [(zrd_some eb151).2]
                            refine lv_aload_n hx hb dL_law_554 rfl (lv_at hl 0 rfl) ?_
                            refine lv_iload_n hx hb dL_law_555 rfl (lv_at hl 3 rfl) ?_
                            refine lv_iconst (v := (3 : Int32)) hx hb dL_law_556 (by decide) ?_
                            refine lv_iadd hx hb dL_law_557 ?_
                            obtain ⟨b152, eb152, hm⟩ := Option.bind_eq_some_iff.mp hm
                            refine va_sld hx hb hX hbl hbA hS (zrd_some eb152).1 dL_law_558 ?_
                            rw [(zrd_some eb152).2]
                            obtain ⟨⟨b153, σ155⟩, eb153, hm⟩ := Option.bind_eq_some_iff.mp hm
                            try dsimp only at hm
                            refine zLxi (σ := σ1) (rest := []) [.int b150, .int b151, .int b152] hx hb hml hl.1 hown hT (k_X8_group eb153) zkX8_group zw484 ⟨by decide, by decide⟩ rfl rfl hKx hKm hZ hAX hAM hdis hP hS rfl rfl (Nat.le_of_ble_eq_true rfl) hcs dL_law_559 (fun H locs hP hD hS => ?_)
                            refine lv_aload_n hx hb dL_law_562 rfl (lv_at hl 2 rfl) ?_
                            refine lv_aload_n hx hb dL_law_563 rfl (lv_at hl 0 rfl) ?_
                            refine lv_iload_n hx hb dL_law_564 rfl (lv_at hl 3 rfl) ?_
                            refine lv_iconst (v := (1 : Int32)) hx hb dL_law_565 (by decide) ?_
                            refine lv_iadd hx hb dL_law_566 ?_
                            obtain ⟨b156, eb156, hm⟩ := Option.bind_eq_some_iff.mp hm
                            refine va_sld hx hb hX hbl hbA hS (zrd_some eb156).1 dL_law_567 ?_
                            rw [(zrd_some eb156).2]
                            refine lv_aload_n hx hb dL_law_568 rfl (lv_at hl 0 rfl) ?_
                            refine lv_iload_n hx hb dL_law_569 rfl (lv_at hl 3 rfl) ?_
                            refine lv_iconst (v := (2 : Int32)) hx hb dL_law_570 (by decide) ?_
                            refine lv_iadd hx hb dL_law_571 ?_
                            obtain ⟨b157, eb157, hm⟩ := Option.bind_eq_some_iff.mp hm
                            refine va_sld hx hb hX hbl hbA hS (zrd_some eb157).1 dL_law_572 ?_
                            rw [(zrd_some eb157).2]
                            refine lv_aload_n hx hb dL_law_573 rfl (lv_at hl 0 rfl) ?_
                            refine lv_iload_n hx hb dL_law_574 rfl (lv_at hl 3 rfl) ?_
                            refine lv_iconst (v := (3 : Int32)) hx hb dL_law_575 (by decide) ?_
                            refine lv_iadd hx hb dL_law_576 ?_
                            obtain ⟨b158, eb158, hm⟩ := Option.bind_eq_some_iff.mp hm
                            refine va_sld hx hb hX hbl hbA hS (zrd_some eb158).1 dL_law_577 ?_
                            rw [(zrd_some eb158).2]
                            obtain ⟨⟨b159, σ161⟩, eb159, hm⟩ := Option.bind_eq_some_iff.mp hm
                            try dsimp only at hm
                            refine zLmi (σ := (σ155, σ1.2)) (rest := [.int b153]) [.int b156, .int b157, .int b158] hx hb hml hl.1 hown hT (k_X9_group eb159) zkX9_group zw872 ⟨by decide, by decide⟩ rfl rfl hKx hKm hZ hAX hAM hdis hP hS rfl rfl (Nat.le_of_ble_eq_true rfl) hcs dL_law_578 (fun H locs hP hD hS => ?_)
                            refine lv_icmp_eq (tgt := 851) hx hb dL_law_581 (by decide) (fun h162 => ?_) (fun h162 => ?_)
                            · rw [if_pos h162] at hm
                              exact h851 ((σ155, σ1.2).1, σ161) v3_1 hm _ _ _ hP hD hS (lv_sub hl [0, 1, 2, 3] rfl)
                            · rw [if_neg h162] at hm
                              cases hm
                          · rw [if_neg h149] at hm
                            by_cases h163 : (b3 &&& (31 : Int32)) = (12 : Int32)
                            · rw [if_pos h163] at hm
                              refine lv_tableIn (off := 554) (tgt := 586) hx hb dL_law_32 (by rw [h163]; decide) (by rw [h163]; decide) (by rw [h163]; rfl) (by decide) ?_
                              refine lv_aload_n hx hb dL_law_586 rfl (lv_at hl 1 rfl) ?_
                              refine lv_aload_n hx hb dL_law_587 rfl (lv_at hl 0 rfl) ?_
                              refine lv_iload_n hx hb dL_law_588 rfl (lv_at hl 3 rfl) ?_
                              refine lv_iconst (v := (1 : Int32)) hx hb dL_law_589 (by decide) ?_
                              refine lv_iadd hx hb dL_law_590 ?_
                              obtain ⟨b164, eb164, hm⟩ := Option.bind_eq_some_iff.mp hm
                              refine va_sld hx hb hX hbl hbA hS (zrd_some eb164).1 dL_law_591 ?_
                              rw [(zrd_some eb164).2]
                              refine lv_aload_n hx hb dL_law_592 rfl (lv_at hl 0 rfl) ?_
                              refine lv_iload_n hx hb dL_law_593 rfl (lv_at hl 3 rfl) ?_
                              refine lv_iconst (v := (2 : Int32)) hx hb dL_law_594 (by decide) ?_
                              refine lv_iadd hx hb dL_law_595 ?_
                              obtain ⟨b165, eb165, hm⟩ := Option.bind_eq_some_iff.mp hm
                              refine va_sld hx hb hX hbl hbA hS (zrd_some eb165).1 dL_law_596 ?_
                              rw [(zrd_some eb165).2]
                              obtain ⟨⟨b166, σ168⟩, eb166, hm⟩ := Option.bind_eq_some_iff.mp hm
                              try dsimp only at hm
                              refine zLxi (σ := σ1) (rest := []) [.int b164, .int b165] hx hb hml hl.1 hown hT (k_X8_find eb166) zkX8_find zw511 ⟨by decide, by decide⟩ rfl rfl hKx hKm hZ hAX hAM hdis hP hS rfl rfl (Nat.le_of_ble_eq_true rfl) hcs dL_law_597 (fun H locs hP hD hS => ?_)
                              refine lv_aload_n hx hb dL_law_600 rfl (lv_at hl 2 rfl) ?_
                              refine lv_aload_n hx hb dL_law_601 rfl (lv_at hl 0 rfl) ?_
                              refine lv_iload_n hx hb dL_law_602 rfl (lv_at hl 3 rfl) ?_
                              refine lv_iconst (v := (1 : Int32)) hx hb dL_law_603 (by decide) ?_
                              refine lv_iadd hx hb dL_law_604 ?_
                              obtain ⟨b169, eb169, hm⟩ := Option.bind_eq_some_iff.mp hm
                              refine va_sld hx hb hX hbl hbA hS (zrd_some eb169).1 dL_law_605 ?_
                              rw [(zrd_some eb169).2]
                              refine lv_aload_n hx hb dL_law_606 rfl (lv_at hl 0 rfl) ?_
                              refine lv_iload_n hx hb dL_law_607 rfl (lv_at hl 3 rfl) ?_
                              refine lv_iconst (v := (2 : Int32)) hx hb dL_law_608 (by decide) ?_
                              refine lv_iadd hx hb dL_law_609 ?_
                              obtain ⟨b170, eb170, hm⟩ := Option.bind_eq_some_iff.mp hm
                              refine va_sld hx hb hX hbl hbA hS (zrd_some eb170).1 dL_law_610 ?_
                              rw [(zrd_some eb170).2]
                              obtain ⟨⟨b171, σ173⟩, eb171, hm⟩ := Option.bind_eq_some_iff.mp hm
                              try dsimp only at hm
                              refine zLmi (σ := (σ168, σ1.2)) (rest := [.int b166]) [.int b169, .int b170] hx hb hml hl.1 hown hT (k_X9_find eb171) zkX9_find zw880 ⟨by decide, by decide⟩ rfl rfl hKx hKm hZ hAX hAM hdis hP hS rfl rfl (Nat.le_of_ble_eq_true rfl) hcs dL_law_611 (fun H locs hP hD hS => ?_)
                              refine lv_icmp_eq (tgt := 851) hx hb dL_law_614 (by decide) (fun h174 => ?_) (fun h174 => ?_)
                              · rw [if_pos h174] at hm
                                exact h851 ((σ168, σ1.2).1, σ173) v3_1 hm _ _ _ hP hD hS (lv_sub hl [0, 1, 2, 3] rfl)
                              · rw [if_neg h174] at hm
                                cases hm
                            · rw [if_neg h163] at hm
                              by_cases h175 : (b3 &&& (31 : Int32)) = (13 : Int32)
                              · rw [if_pos h175] at hm
                                refine lv_tableIn (off := 587) (tgt := 619) hx hb dL_law_32 (by rw [h175]; decide) (by rw [h175]; decide) (by rw [h175]; rfl) (by decide) ?_
                                refine lv_aload_n hx hb dL_law_619 rfl (lv_at hl 1 rfl) ?_
                                refine lv_aload_n hx hb dL_law_620 rfl (lv_at hl 0 rfl) ?_
                                refine lv_iload_n hx hb dL_law_621 rfl (lv_at hl 3 rfl) ?_
                                refine lv_iconst (v := (1 : Int32)) hx hb dL_law_622 (by decide) ?_
                                refine lv_iadd hx hb dL_law_623 ?_
                                obtain ⟨b176, eb176, hm⟩ := Option.bind_eq_some_iff.mp hm
                                refine va_sld hx hb hX hbl hbA hS (zrd_some eb176).1 dL_law_624 ?_
                                rw [(zrd_some eb176).2]
                                refine lv_aload_n hx hb dL_law_625 rfl (lv_at hl 0 rfl) ?_
                                refine lv_iload_n hx hb dL_law_626 rfl (lv_at hl 3 rfl) ?_
                                refine lv_iconst (v := (2 : Int32)) hx hb dL_law_627 (by decide) ?_
                                refine lv_iadd hx hb dL_law_628 ?_
                                obtain ⟨b177, eb177, hm⟩ := Option.bind_eq_some_iff.mp hm
                                refine va_sld hx hb hX hbl hbA hS (zrd_some eb177).1 dL_law_629 ?_
                                rw [(zrd_some eb177).2]
                                refine lv_aload_n hx hb dL_law_630 rfl (lv_at hl 0 rfl) ?_
                                refine lv_iload_n hx hb dL_law_631 rfl (lv_at hl 3 rfl) ?_
                                refine lv_iconst (v := (3 : Int32)) hx hb dL_law_632 (by decide) ?_
                                refine lv_iadd hx hb dL_law_633 ?_
                                obtain ⟨b178, eb178, hm⟩ := Option.bind_eq_some_iff.mp hm
                                refine va_sld hx hb hX hbl hbA hS (zrd_some eb178).1 dL_law_634 ?_
                                rw [(zrd_some eb178).2]
                                obtain ⟨⟨b179, σ181⟩, eb179, hm⟩ := Option.bind_eq_some_iff.mp hm
                                try dsimp only at hm
                                refine zLxi (σ := σ1) (rest := []) [.int b176, .int b177, .int b178] hx hb hml hl.1 hown hT (k_X8_in eb179) zkX8_in zw520 ⟨by decide, by decide⟩ rfl rfl hKx hKm hZ hAX hAM hdis hP hS rfl rfl (Nat.le_of_ble_eq_true rfl) hcs dL_law_635 (fun H locs hP hD hS => ?_)
                                refine lv_aload_n hx hb dL_law_638 rfl (lv_at hl 2 rfl) ?_
                                refine lv_aload_n hx hb dL_law_639 rfl (lv_at hl 0 rfl) ?_
                                refine lv_iload_n hx hb dL_law_640 rfl (lv_at hl 3 rfl) ?_
                                refine lv_iconst (v := (1 : Int32)) hx hb dL_law_641 (by decide) ?_
                                refine lv_iadd hx hb dL_law_642 ?_
                                obtain ⟨b182, eb182, hm⟩ := Option.bind_eq_some_iff.mp hm
                                refine va_sld hx hb hX hbl hbA hS (zrd_some eb182).1 dL_law_643 ?_
                                rw [(zrd_some eb182).2]
                                refine lv_aload_n hx hb dL_law_644 rfl (lv_at hl 0 rfl) ?_
                                refine lv_iload_n hx hb dL_law_645 rfl (lv_at hl 3 rfl) ?_
                                refine lv_iconst (v := (2 : Int32)) hx hb dL_law_646 (by decide) ?_
                                refine lv_iadd hx hb dL_law_647 ?_
                                obtain ⟨b183, eb183, hm⟩ := Option.bind_eq_some_iff.mp hm
                                refine va_sld hx hb hX hbl hbA hS (zrd_some eb183).1 dL_law_648 ?_
                                rw [(zrd_some eb183).2]
                                refine lv_aload_n hx hb dL_law_649 rfl (lv_at hl 0 rfl) ?_
                                refine lv_iload_n hx hb dL_law_650 rfl (lv_at hl 3 rfl) ?_
                                refine lv_iconst (v := (3 : Int32)) hx hb dL_law_651 (by decide) ?_
                                refine lv_iadd hx hb dL_law_652 ?_
                                obtain ⟨b184, eb184, hm⟩ := Option.bind_eq_some_iff.mp hm
                                refine va_sld hx hb hX hbl hbA hS (zrd_some eb184).1 dL_law_653 ?_
                                rw [(zrd_some eb184).2]
                                obtain ⟨⟨b185, σ187⟩, eb185, hm⟩ := Option.bind_eq_some_iff.mp hm
                                try dsimp only at hm
                                refine zLmi (σ := (σ181, σ1.2)) (rest := [.int b179]) [.int b182, .int b183, .int b184] hx hb hml hl.1 hown hT (k_X9_in eb185) zkX9_in zw884 ⟨by decide, by decide⟩ rfl rfl hKx hKm hZ hAX hAM hdis hP hS rfl rfl (Nat.le_of_ble_eq_true rfl) hcs dL_law_654 (fun H locs hP hD hS => ?_)
                                refine lv_icmp_eq (tgt := 851) hx hb dL_law_657 (by decide) (fun h188 => ?_) (fun h188 => ?_)
                                · rw [if_pos h188] at hm
                                  exact h851 ((σ181, σ1.2).1, σ187) v3_1 hm _ _ _ hP hD hS (lv_sub hl [0, 1, 2, 3] rfl)
                                · rw [if_neg h188] at hm
                                  cases hm
                              · rw [if_neg h175] at hm
                                by_cases h189 : (b3 &&& (31 : Int32)) = (14 : Int32)
                                · rw [if_pos h189] at hm
                                  refine lv_tableIn (off := 630) (tgt := 662) hx hb dL_law_32 (by rw [h189]; decide) (by rw [h189]; decide) (by rw [h189]; rfl) (by decide) ?_
                                  refine lv_aload_n hx hb dL_law_662 rfl (lv_at hl 1 rfl) ?_
                                  refine lv_aload_n hx hb dL_law_663 rfl (lv_at hl 0 rfl) ?_
                                  refine lv_iload_n hx hb dL_law_664 rfl (lv_at hl 3 rfl) ?_
                                  refine lv_iconst (v := (1 : Int32)) hx hb dL_law_665 (by decide) ?_
                                  refine lv_iadd hx hb dL_law_666 ?_
                                  obtain ⟨b190, eb190, hm⟩ := Option.bind_eq_some_iff.mp hm
                                  refine va_sld hx hb hX hbl hbA hS (zrd_some eb190).1 dL_law_667 ?_
                                  rw [(zrd_some eb190).2]
                                  refine lv_aload_n hx hb dL_law_668 rfl (lv_at hl 0 rfl) ?_
                                  refine lv_iload_n hx hb dL_law_669 rfl (lv_at hl 3 rfl) ?_
                                  refine lv_iconst (v := (2 : Int32)) hx hb dL_law_670 (by decide) ?_
                                  refine lv_iadd hx hb dL_law_671 ?_
                                  obtain ⟨b191, eb191, hm⟩ := Option.bind_eq_some_iff.mp hm
                                  refine va_sld hx hb hX hbl hbA hS (zrd_some eb191).1 dL_law_672 ?_
                                  rw [(zrd_some eb191).2]
                                  obtain ⟨⟨b192, σ194⟩, eb192, hm⟩ := Option.bind_eq_some_iff.mp hm
                                  try dsimp only at hm
                                  refine zLxi (σ := σ1) (rest := []) [.int b190, .int b191] hx hb hml hl.1 hown hT (k_X8_enter eb192) zkX8_enter zw533 ⟨by decide, by decide⟩ rfl rfl hKx hKm hZ hAX hAM hdis hP hS rfl rfl (Nat.le_of_ble_eq_true rfl) hcs dL_law_673 (fun H locs hP hD hS => ?_)
                                  refine lv_aload_n hx hb dL_law_676 rfl (lv_at hl 2 rfl) ?_
                                  refine lv_aload_n hx hb dL_law_677 rfl (lv_at hl 0 rfl) ?_
                                  refine lv_iload_n hx hb dL_law_678 rfl (lv_at hl 3 rfl) ?_
                                  refine lv_iconst (v := (1 : Int32)) hx hb dL_law_679 (by decide) ?_
                                  refine lv_iadd hx hb dL_law_680 ?_
                                  obtain ⟨b195, eb195, hm⟩ := Option.bind_eq_some_iff.mp hm
                                  refine va_sld hx hb hX hbl hbA hS (zrd_some eb195).1 dL_law_681 ?_
                                  rw [(zrd_some eb195).2]
                                  refine lv_aload_n hx hb dL_law_682 rfl (lv_at hl 0 rfl) ?_
                                  refine lv_iload_n hx hb dL_law_683 rfl (lv_at hl 3 rfl) ?_
                                  refine lv_iconst (v := (2 : Int32)) hx hb dL_law_684 (by decide) ?_
                                  refine lv_iadd hx hb dL_law_685 ?_
                                  obtain ⟨b196, eb196, hm⟩ := Option.bind_eq_some_iff.mp hm
                                  refine va_sld hx hb hX hbl hbA hS (zrd_some eb196).1 dL_law_686 ?_
                                  rw [(zrd_some eb196).2]
                                  obtain ⟨⟨b197, σ199⟩, eb197, hm⟩ := Option.bind_eq_some_iff.mp hm
                                  try dsimp only at hm
                                  refine zLmi (σ := (σ194, σ1.2)) (rest := [.int b192]) [.int b195, .int b196] hx hb hml hl.1 hown hT (k_X9_enter eb197) zkX9_enter zw888 ⟨by decide, by decide⟩ rfl rfl hKx hKm hZ hAX hAM hdis hP hS rfl rfl (Nat.le_of_ble_eq_true rfl) hcs dL_law_687 (fun H locs hP hD hS => ?_)
                                  refine lv_icmp_eq (tgt := 851) hx hb dL_law_690 (by decide) (fun h200 => ?_) (fun h200 => ?_)
                                  · rw [if_pos h200] at hm
                                    exact h851 ((σ194, σ1.2).1, σ199) v3_1 hm _ _ _ hP hD hS (lv_sub hl [0, 1, 2, 3] rfl)
                                  · rw [if_neg h200] at hm
                                    cases hm
                                · rw [if_neg h189] at hm
                                  by_cases h201 : (b3 &&& (31 : Int32)) = (15 : Int32)
                                  · rw [if_pos h201] at hm
                                    refine lv_tableIn (off := 663) (tgt := 695) hx hb dL_law_32 (by rw [h201]; decide) (by rw [h201]; decide) (by rw [h201]; rfl) (by decide) ?_
                                    refine lv_aload_n hx hb dL_law_695 rfl (lv_at hl 1 rfl) ?_
                                    obtain ⟨⟨b202, σ204⟩, eb202, hm⟩ := Option.bind_eq_some_iff.mp hm
                                    try dsimp only at hm
                                    refine zLxi (σ := σ1) (rest := []) [] hx hb hml hl.1 hown hT (k_X8_leave eb202) zkX8_leave zw546 ⟨by decide, by decide⟩ rfl rfl hKx hKm hZ hAX hAM hdis hP hS rfl rfl (Nat.le_of_ble_eq_true rfl) hcs dL_law_696 (fun H locs hP hD hS => ?_)
                                    refine lv_aload_n hx hb dL_law_699 rfl (lv_at hl 2 rfl) ?_
                                    obtain ⟨⟨b205, σ207⟩, eb205, hm⟩ := Option.bind_eq_some_iff.mp hm
                                    try dsimp only at hm
                                    refine zLmi (σ := (σ204, σ1.2)) (rest := [.int b202]) [] hx hb hml hl.1 hown hT (k_X9_leave eb205) zkX9_leave zw896 ⟨by decide, by decide⟩ rfl rfl hKx hKm hZ hAX hAM hdis hP hS rfl rfl (Nat.le_of_ble_eq_true rfl) hcs dL_law_700 (fun H locs hP hD hS => ?_)
                                    refine lv_icmp_eq (tgt := 851) hx hb dL_law_703 (by decide) (fun h208 => ?_) (fun h208 => ?_)
                                    · rw [if_pos h208] at hm
                                      exact h851 ((σ204, σ1.2).1, σ207) v3_1 hm _ _ _ hP hD hS (lv_sub hl [0, 1, 2, 3] rfl)
                                    · rw [if_neg h208] at hm
                                      cases hm
                                  · rw [if_neg h201] at hm
                                    by_cases h209 : (b3 &&& (31 : Int32)) = (16 : Int32)
                                    · rw [if_pos h209] at hm
                                      refine lv_tableIn (off := 676) (tgt := 708) hx hb dL_law_32 (by rw [h209]; decide) (by rw [h209]; decide) (by rw [h209]; rfl) (by decide) ?_
                                      refine lv_aload_n hx hb dL_law_708 rfl (lv_at hl 1 rfl) ?_
                                      obtain ⟨b210, eb210, hm⟩ := Option.bind_eq_some_iff.mp hm
                                      refine zLxi (σ := σ1) (rest := []) [] hx hb hml hl.1 hown hT (k_X8_hand eb210) zkX8_hand zw554 ⟨by decide, by decide⟩ rfl rfl hKx hKm hZ hAX hAM hdis hP hS rfl rfl (Nat.le_of_ble_eq_true rfl) hcs dL_law_709 (fun H locs hP hD hS => ?_)
                                      refine lv_aload_n hx hb dL_law_712 rfl (lv_at hl 2 rfl) ?_
                                      obtain ⟨b211, eb211, hm⟩ := Option.bind_eq_some_iff.mp hm
                                      refine zLmi (σ := σ1) (rest := [.int b210]) [] hx hb hml hl.1 hown hT (k_X9_hand eb211) zkX9_hand zw900 ⟨by decide, by decide⟩ rfl rfl hKx hKm hZ hAX hAM hdis hP hS rfl rfl (Nat.le_of_ble_eq_true rfl) hcs dL_law_713 (fun H locs hP hD hS => ?_)
                                      refine lv_icmp_eq (tgt := 851) hx hb dL_law_716 (by decide) (fun h212 => ?_) (fun h212 => ?_)
                                      · rw [if_pos h212] at hm
                                        exact h851 σ1 v3_1 hm _ _ _ hP hD hS (lv_sub hl [0, 1, 2, 3] rfl)
                                      · rw [if_neg h212] at hm
                                        cases hm
                                    · rw [if_neg h209] at hm
                                      by_cases h213 : (b3 &&& (31 : Int32)) = (17 : Int32)
                                      · rw [if_pos h213] at hm
                                        refine lv_tableIn (off := 689) (tgt := 721) hx hb dL_law_32 (by rw [h213]; decide) (by rw [h213]; decide) (by rw [h213]; rfl) (by decide) ?_
                                        refine lv_aload_n hx hb dL_law_721 rfl (lv_at hl 1 rfl) ?_
                                        refine lv_aload_n hx hb dL_law_722 rfl (lv_at hl 0 rfl) ?_
                                        refine lv_iload_n hx hb dL_law_723 rfl (lv_at hl 3 rfl) ?_
                                        refine lv_iconst (v := (1 : Int32)) hx hb dL_law_724 (by decide) ?_
                                        refine lv_iadd hx hb dL_law_725 ?_
                                        obtain ⟨b214, eb214, hm⟩ := Option.bind_eq_some_iff.mp hm
                                        refine va_sld hx hb hX hbl hbA hS (zrd_some eb214).1 dL_law_726 ?_
                                        rw [(zrd_some eb214).2]
                                        refine lv_aload_n hx hb dL_law_727 rfl (lv_at hl 0 rfl) ?_
                                        refine lv_iload_n hx hb dL_law_728 rfl (lv_at hl 3 rfl) ?_
                                        refine lv_iconst (v := (2 : Int32)) hx hb dL_law_729 (by decide) ?_
                                        refine lv_iadd hx hb dL_law_730 ?_
                                        obtain ⟨b215, eb215, hm⟩ := Option.bind_eq_some_iff.mp hm
                                        refine va_sld hx hb hX hbl hbA hS (zrd_some eb215).1 dL_law_731 ?_
                                        rw [(zrd_some eb215).2]
                                        refine lv_aload_n hx hb dL_law_732 rfl (lv_at hl 0 rfl) ?_
                                        refine lv_iload_n hx hb dL_law_733 rfl (lv_at hl 3 rfl) ?_
                                        refine lv_iconst (v := (3 : Int32)) hx hb dL_law_734 (by decide) ?_
                                        refine lv_iadd hx hb dL_law_735 ?_
                                        obtain ⟨b216, eb216, hm⟩ := Option.bind_eq_some_iff.mp hm
                                        refine va_sld hx hb hX hbl hbA hS (zrd_some eb216).1 dL_law_736 ?_
                                        rw [(zrd_some eb216).2]
                                        refine lv_aload_n hx hb dL_law_737 rfl (lv_at hl 0 rfl) ?_
                                        refine lv_iload_n hx hb dL_law_738 rfl (lv_at hl 3 rfl) ?_
                                        refine lv_iconst (v := (4 : Int32)) hx hb dL_law_739 (by decide) ?_
                                        refine lv_iadd hx hb dL_law_740 ?_
                                        obtain ⟨b217, eb217, hm⟩ := Option.bind_eq_some_iff.mp hm
                                        refine va_sld hx hb hX hbl hbA hS (zrd_some eb217).1 dL_law_741 ?_
                                        rw [(zrd_some eb217).2]
                                        obtain ⟨⟨b218, σ220⟩, eb218, hm⟩ := Option.bind_eq_some_iff.mp hm
                                        try dsimp only at hm
                                        refine zLxl (σ := σ1) (rest := []) [.int b214, .int b215, .int b216, .int b217] hx hb hml hl.1 hown hT (k_X8_figure eb218) zkX8_figure zw559 ⟨by decide, by decide⟩ rfl rfl hKx hKm hZ hAX hAM hdis hP hS rfl rfl (Nat.le_of_ble_eq_true rfl) hcs dL_law_742 (fun H locs hP hD hS => ?_)
                                        refine lv_aload_n hx hb dL_law_745 rfl (lv_at hl 2 rfl) ?_
                                        refine lv_aload_n hx hb dL_law_746 rfl (lv_at hl 0 rfl) ?_
                                        refine lv_iload_n hx hb dL_law_747 rfl (lv_at hl 3 rfl) ?_
                                        refine lv_iconst (v := (1 : Int32)) hx hb dL_law_748 (by decide) ?_
                                        refine lv_iadd hx hb dL_law_749 ?_
                                        obtain ⟨b221, eb221, hm⟩ := Option.bind_eq_some_iff.mp hm
                                        refine va_sld hx hb hX hbl hbA hS (zrd_some eb221).1 dL_law_750 ?_
                                        rw [(zrd_some eb221).2]
                                        refine lv_aload_n hx hb dL_law_751 rfl (lv_at hl 0 rfl) ?_
                                        refine lv_iload_n hx hb dL_law_752 rfl (lv_at hl 3 rfl) ?_
                                        refine lv_iconst (v := (2 : Int32)) hx hb dL_law_753 (by decide) ?_
                                        refine lv_iadd hx hb dL_law_754 ?_
                                        obtain ⟨b222, eb222, hm⟩ := Option.bind_eq_some_iff.mp hm
                                        refine va_sld hx hb hX hbl hbA hS (zrd_some eb222).1 dL_law_755 ?_
                                        rw [(zrd_some eb222).2]
                                        refine lv_aload_n hx hb dL_law_756 rfl (lv_at hl 0 rfl) ?_
                                        refine lv_iload_n hx hb dL_law_757 rfl (lv_at hl 3 rfl) ?_
                                        refine lv_iconst (v := (3 : Int32)) hx hb dL_law_758 (by decide) ?_
                                        refine lv_iadd hx hb dL_law_759 ?_
                                        obtain ⟨b223, eb223, hm⟩ := Option.bind_eq_some_iff.mp hm
                                        refine va_sld hx hb hX hbl hbA hS (zrd_some eb223).1 dL_law_760 ?_
                                        rw [(zrd_some eb223).2]
                                        refine lv_aload_n hx hb dL_law_761 rfl (lv_at hl 0 rfl) ?_
                                        refine lv_iload_n hx hb dL_law_762 rfl (lv_at hl 3 rfl) ?_
                                        refine lv_iconst (v := (4 : Int32)) hx hb dL_law_763 (by decide) ?_
                                        refine lv_iadd hx hb dL_law_764 ?_
                                        obtain ⟨b224, eb224, hm⟩ := Option.bind_eq_some_iff.mp hm
                                        refine va_sld hx hb hX hbl hbA hS (zrd_some eb224).1 dL_law_765 ?_
                                        rw [(zrd_some eb224).2]
                                        obtain ⟨⟨b225, σ227⟩, eb225, hm⟩ := Option.bind_eq_some_iff.mp hm
                                        try dsimp only at hm
                                        refine zLml (σ := (σ220, σ1.2)) (rest := [.long b218]) [.int b221, .int b222, .int b223, .int b224] hx hb hml hl.1 hown hT (k_X9_figure eb225) zkX9_figure zw901 ⟨by decide, by decide⟩ rfl rfl hKx hKm hZ hAX hAM hdis hP hS rfl rfl (Nat.le_of_ble_eq_true rfl) hcs dL_law_766 (fun H locs hP hD hS => ?_)
                                        refine W.lcmp hx hb dL_law_769 ?_
                                        refine lv_if_eq (tgt := 851) hx hb dL_law_770 (by decide) (fun h228 => ?_) (fun h228 => ?_)
                                        · rw [if_pos h228] at hm
                                          exact h851 ((σ220, σ1.2).1, σ227) v3_1 hm _ _ _ hP hD hS (lv_sub hl [0, 1, 2, 3] rfl)
                                        · rw [if_neg h228] at hm
                                          cases hm
                                      · rw [if_neg h213] at hm
                                        by_cases h229 : (b3 &&& (31 : Int32)) = (18 : Int32)
                                        · rw [if_pos h229] at hm
                                          refine lv_tableIn (off := 743) (tgt := 775) hx hb dL_law_32 (by rw [h229]; decide) (by rw [h229]; decide) (by rw [h229]; rfl) (by decide) ?_
                                          refine lv_aload_n hx hb dL_law_775 rfl (lv_at hl 1 rfl) ?_
                                          refine lv_aload_n hx hb dL_law_776 rfl (lv_at hl 0 rfl) ?_
                                          refine lv_iload_n hx hb dL_law_777 rfl (lv_at hl 3 rfl) ?_
                                          refine lv_iconst (v := (1 : Int32)) hx hb dL_law_778 (by decide) ?_
                                          refine lv_iadd hx hb dL_law_779 ?_
                                          obtain ⟨b230, eb230, hm⟩ := Option.bind_eq_some_iff.mp hm
                                          refine va_sld hx hb hX hbl hbA hS (zrd_some eb230).1 dL_law_780 ?_
                                          rw [(zrd_some eb230).2]
                                          refine lv_aload_n hx hb dL_law_781 rfl (lv_at hl 0 rfl) ?_
                                          refine lv_iload_n hx hb dL_law_782 rfl (lv_at hl 3 rfl) ?_
                                          refine lv_iconst (v := (2 : Int32)) hx hb dL_law_783 (by decide) ?_
                                          refine lv_iadd hx hb dL_law_784 ?_
                                          obtain ⟨b231, eb231, hm⟩ := Option.bind_eq_some_iff.mp hm
                                          refine va_sld hx hb hX hbl hbA hS (zrd_some eb231).1 dL_law_785 ?_
                                          rw [(zrd_some eb231).2]
                                          refine lv_aload_n hx hb dL_law_786 rfl (lv_at hl 0 rfl) ?_
                                          refine lv_iload_n hx hb dL_law_787 rfl (lv_at hl 3 rfl) ?_
                                          refine lv_iconst (v := (3 : Int32)) hx hb dL_law_788 (by decide) ?_
                                          refine lv_iadd hx hb dL_law_789 ?_
                                          obtain ⟨b232, eb232, hm⟩ := Option.bind_eq_some_iff.mp hm
                                          refine va_sld hx hb hX hbl hbA hS (zrd_some eb232).1 dL_law_790 ?_
                                          rw [(zrd_some eb232).2]
                                          refine lv_aload_n hx hb dL_law_791 rfl (lv_at hl 0 rfl) ?_
                                          refine lv_iload_n hx hb dL_law_792 rfl (lv_at hl 3 rfl) ?_
                                          refine lv_iconst (v := (4 : Int32)) hx hb dL_law_793 (by decide) ?_
                                          refine lv_iadd hx hb dL_law_794 ?_
                                          obtain ⟨b233, eb233, hm⟩ := Option.bind_eq_some_iff.mp hm
                                          refine va_sld hx hb hX hbl hbA hS (zrd_some eb233).1 dL_law_795 ?_
                                          rw [(zrd_some eb233).2]
                                          obtain ⟨⟨b234, σ236⟩, eb234, hm⟩ := Option.bind_eq_some_iff.mp hm
                                          try dsimp only at hm
                                          refine zLxi (σ := σ1) (rest := []) [.int b230, .int b231, .int b232, .int b233] hx hb hml hl.1 hown hT (k_X8_place eb234) zkX8_place zw597 ⟨by decide, by decide⟩ rfl rfl hKx hKm hZ hAX hAM hdis hP hS rfl rfl (Nat.le_of_ble_eq_true rfl) hcs dL_law_796 (fun H locs hP hD hS => ?_)
                                          refine lv_aload_n hx hb dL_law_799 rfl (lv_at hl 2 rfl) ?_
                                          refine lv_aload_n hx hb dL_law_800 rfl (lv_at hl 0 rfl) ?_
                                          refine lv_iload_n hx hb dL_law_801 rfl (lv_at hl 3 rfl) ?_
                                          refine lv_iconst (v := (1 : Int32)) hx hb dL_law_802 (by decide) ?_
                                          refine lv_iadd hx hb dL_law_803 ?_
                                          obtain ⟨b237, eb237, hm⟩ := Option.bind_eq_some_iff.mp hm
                                          refine va_sld hx hb hX hbl hbA hS (zrd_some eb237).1 dL_law_804 ?_
                                          rw [(zrd_some eb237).2]
                                          refine lv_aload_n hx hb dL_law_805 rfl (lv_at hl 0 rfl) ?_
                                          refine lv_iload_n hx hb dL_law_806 rfl (lv_at hl 3 rfl) ?_
                                          refine lv_iconst (v := (2 : Int32)) hx hb dL_law_807 (by decide) ?_
                                          refine lv_iadd hx hb dL_law_808 ?_
                                          obtain ⟨b238, eb238, hm⟩ := Option.bind_eq_some_iff.mp hm
                                          refine va_sld hx hb hX hbl hbA hS (zrd_some eb238).1 dL_law_809 ?_
                                          rw [(zrd_some eb238).2]
                                          refine lv_aload_n hx hb dL_law_810 rfl (lv_at hl 0 rfl) ?_
                                          refine lv_iload_n hx hb dL_law_811 rfl (lv_at hl 3 rfl) ?_
                                          refine lv_iconst (v := (3 : Int32)) hx hb dL_law_812 (by decide) ?_
                                          refine lv_iadd hx hb dL_law_813 ?_
                                          obtain ⟨b239, eb239, hm⟩ := Option.bind_eq_some_iff.mp hm
                                          refine va_sld hx hb hX hbl hbA hS (zrd_some eb239).1 dL_law_814 ?_
                                          rw [(zrd_some eb239).2]
                                          refine lv_aload_n hx hb dL_law_815 rfl (lv_at hl 0 rfl) ?_
                                          refine lv_iload_n hx hb dL_law_816 rfl (lv_at hl 3 rfl) ?_
                                          refine lv_iconst (v := (4 : Int32)) hx hb dL_law_817 (by decide) ?_
                                          refine lv_iadd hx hb dL_law_818 ?_
                                          obtain ⟨b240, eb240, hm⟩ := Option.bind_eq_some_iff.mp hm
                                          refine va_sld hx hb hX hbl hbA hS (zrd_some eb240).1 dL_law_819 ?_
                                          rw [(zrd_some eb240).2]
                                          obtain ⟨⟨b241, σ243⟩, eb241, hm⟩ := Option.bind_eq_some_iff.mp hm
                                          try dsimp only at hm
                                          refine zLmi (σ := (σ236, σ1.2)) (rest := [.int b234]) [.int b237, .int b238, .int b239, .int b240] hx hb hml hl.1 hown hT (k_X9_place eb241) zkX9_place zw915 ⟨by decide, by decide⟩ rfl rfl hKx hKm hZ hAX hAM hdis hP hS rfl rfl (Nat.le_of_ble_eq_true rfl) hcs dL_law_820 (fun H locs hP hD hS => ?_)
                                          refine lv_icmp_eq (tgt := 851) hx hb dL_law_823 (by decide) (fun h244 => ?_) (fun h244 => ?_)
                                          · rw [if_pos h244] at hm
                                            exact h851 ((σ236, σ1.2).1, σ243) v3_1 hm _ _ _ hP hD hS (lv_sub hl [0, 1, 2, 3] rfl)
                                          · rw [if_neg h244] at hm
                                            cases hm
                                        · rw [if_neg h229] at hm
                                          by_cases h245 : (b3 &&& (31 : Int32)) = (19 : Int32)
                                          · rw [if_pos h245] at hm
                                            refine lv_tableIn (off := 796) (tgt := 828) hx hb dL_law_32 (by rw [h245]; decide) (by rw [h245]; decide) (by rw [h245]; rfl) (by decide) ?_
                                            refine lv_aload_n hx hb dL_law_828 rfl (lv_at hl 1 rfl) ?_
                                            refine lv_aload_n hx hb dL_law_829 rfl (lv_at hl 0 rfl) ?_
                                            refine lv_iload_n hx hb dL_law_830 rfl (lv_at hl 3 rfl) ?_
                                            refine lv_iconst (v := (1 : Int32)) hx hb dL_law_831 (by decide) ?_
                                            refine lv_iadd hx hb dL_law_832 ?_
                                            obtain ⟨b246, eb246, hm⟩ := Option.bind_eq_some_iff.mp hm
                                            refine va_sld hx hb hX hbl hbA hS (zrd_some eb246).1 dL_law_833 ?_
                                            rw [(zrd_some eb246).2]
                                            obtain ⟨b247, eb247, hm⟩ := Option.bind_eq_some_iff.mp hm
                                            refine zLxi (σ := σ1) (rest := []) [.int b246] hx hb hml hl.1 hown hT (k_X8_told eb247) zkX8_told zw608 ⟨by decide, by decide⟩ rfl rfl hKx hKm hZ hAX hAM hdis hP hS rfl rfl (Nat.le_of_ble_eq_true rfl) hcs dL_law_834 (fun H locs hP hD hS => ?_)
                                            refine lv_aload_n hx hb dL_law_837 rfl (lv_at hl 2 rfl) ?_
                                            refine lv_aload_n hx hb dL_law_838 rfl (lv_at hl 0 rfl) ?_
                                            refine lv_iload_n hx hb dL_law_839 rfl (lv_at hl 3 rfl) ?_
                                            refine lv_iconst (v := (1 : Int32)) hx hb dL_law_840 (by decide) ?_
                                            refine lv_iadd hx hb dL_law_841 ?_
                                            obtain ⟨b248, eb248, hm⟩ := Option.bind_eq_some_iff.mp hm
                                            refine va_sld hx hb hX hbl hbA hS (zrd_some eb248).1 dL_law_842 ?_
                                            rw [(zrd_some eb248).2]
                                            obtain ⟨b249, eb249, hm⟩ := Option.bind_eq_some_iff.mp hm
                                            refine zLmi (σ := σ1) (rest := [.int b247]) [.int b248] hx hb hml hl.1 hown hT (k_X9_told eb249) zkX9_told zw919 ⟨by decide, by decide⟩ rfl rfl hKx hKm hZ hAX hAM hdis hP hS rfl rfl (Nat.le_of_ble_eq_true rfl) hcs dL_law_843 (fun H locs hP hD hS => ?_)
                                            refine lv_icmp_eq (tgt := 851) hx hb dL_law_846 (by decide) (fun h250 => ?_) (fun h250 => ?_)
                                            · rw [if_pos h250] at hm
                                              exact h851 σ1 v3_1 hm _ _ _ hP hD hS (lv_sub hl [0, 1, 2, 3] rfl)
                                            · rw [if_neg h250] at hm
                                              cases hm
                                          · rw [if_neg h245] at hm
                                            have ah4 := lv_neT (a := 0) h4 (by decide)
                                            have ah13 := lv_neT (a := 1) h13 (by decide)
                                            have ah27 := lv_neT (a := 2) h27 (by decide)
                                            have ah43 := lv_neT (a := 3) h43 (by decide)
                                            have ah51 := lv_neT (a := 4) h51 (by decide)
                                            have ah67 := lv_neT (a := 5) h67 (by decide)
                                            have ah81 := lv_neT (a := 6) h81 (by decide)
                                            have ah97 := lv_neT (a := 7) h97 (by decide)
                                            have ah109 := lv_neT (a := 8) h109 (by decide)
                                            have ah125 := lv_neT (a := 9) h125 (by decide)
                                            have ah139 := lv_neT (a := 10) h139 (by decide)
                                            have ah149 := lv_neT (a := 11) h149 (by decide)
                                            have ah163 := lv_neT (a := 12) h163 (by decide)
                                            have ah175 := lv_neT (a := 13) h175 (by decide)
                                            have ah189 := lv_neT (a := 14) h189 (by decide)
                                            have ah201 := lv_neT (a := 15) h201 (by decide)
                                            have ah209 := lv_neT (a := 16) h209 (by decide)
                                            have ah213 := lv_neT (a := 17) h213 (by decide)
                                            have ah229 := lv_neT (a := 18) h229 (by decide)
                                            have ah245 := lv_neT (a := 19) h245 (by decide)
                                            refine lv_tableOut (tgt := 851) hx hb dL_law_32 (by omega) (by decide) ?_
                                            exact h851 σ1 v3_1 hm _ _ _ hP hD hS (lv_sub hl [0, 1, 2, 3] rfl)
