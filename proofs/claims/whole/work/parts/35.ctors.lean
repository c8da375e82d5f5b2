set_option maxHeartbeats 8000000 in
set_option maxRecDepth 100000 in
theorem c_X5_init {l : Launch} {D : va_G} (cI cJ cZ cO : ClassId) (h0 : Nat) : zCn l yX5_init cX5_init 1 (zRn 1 1 1080 12) D zclX (zty cI cJ cZ cO) [.ref h0] ((h0, .inr (6, [.null])) :: []) (fun _ => True) (fun _ : Nat → Nat => True) (fun ad : Nat → Nat => ((h0, .inr (6, [.ref (ad 0)])) :: ((ad 0), .inl (cJ, 1080, .inr (.inl (fun _ => 0)))) :: [])) 1 1080 := by
  refine zMn (by decide) (Nat.le_of_ble_eq_true rfl) ?_
  intro p e s m args below meth c A Q hx hb hml hown hT hin hK hXX hret hP hD hA hS ls hl
  replace hown : s.vm.findClass RX5 = some m.cls := hown
  replace hin : meth.name = "<init>" := hin
  replace hl : lv_has ls 1 [(0, .ref h0)] := hl
  refine lv_aload_n hx hb dX5_init_0 rfl (lv_at hl 0 rfl) ?_
  refine W.objInit hx hb hown (hT _ zw65) (hT _ zw58) (hT _ zw59) rfl (by rw [hml]; exact hl.1) rfl dX5_init_1 (Nat.le_of_ble_eq_true rfl) (Nat.le_of_ble_eq_true rfl) ?_
  refine W.eq (g2 := F0 m 4 ls []) rfl ?_
  refine lv_aload_n hx hb dX5_init_4 rfl (lv_at hl 0 rfl) ?_
  refine lv_sipush (v := (1080 : Int32)) hx hb dX5_init_5 (by decide) ?_
  refine znewa 1 (atype := .long) (ty := .long) (a0 := (1080, .inr (.inl (fun _ => 0)))) hx hb (hT _ zw70) rfl hK rfl hP hD hS hA (fun _ => rfl) (by decide) (by decide) (by decide) (by decide) (by decide) dX5_init_8 (fun q1 H hP hD hS => ?_)
  replace hP : va_P D zclX ((h0, .inr (6, [.null])) :: (q1, .inl (cJ, 1080, .inr (.inl (fun _ => 0)))) :: []) H := hP
  replace hD : va_D A ((h0, .inr (6, [.null])) :: (q1, .inl (cJ, 1080, .inr (.inl (fun _ => 0)))) :: []) := hD
  refine va_putF (ci := 6) (v := .ref q1) (ty := .array .long) (C := RX5) (T := TX5) (N := 1) hx hb hT zinX5 tyX5 tyX5_ok nmX5 hown hK hP hD hS 0 rfl rfl 0 (by decide) (hT _ zw66) (fun _ h9 => h9) rfl hin rfl (by decide +kernel) rfl rfl (Nat.le_of_ble_eq_true rfl) dX5_init_10 (fun H locs hP hD hS => ?_)
  replace hP : va_P D zclX ((h0, .inr (6, [.ref q1])) :: (q1, .inl (cJ, 1080, .inr (.inl (fun _ => 0)))) :: []) H := hP
  replace hD : va_D A ((h0, .inr (6, [.ref q1])) :: (q1, .inl (cJ, 1080, .inr (.inl (fun _ => 0)))) :: []) := hD
  exact hret (fun i => ([q1] : List Nat).getD i 0) _ _ _ _ dX5_init_13 trivial hP hD hS
set_option maxHeartbeats 8000000 in
set_option maxRecDepth 100000 in
theorem c_X6_init {l : Launch} {D : va_G} (cI cJ cZ cO : ClassId) (h0 : Nat) : zCn l yX6_init cX6_init 1 (zRn 1 3 3000 12) D zclX (zty cI cJ cZ cO) [.ref h0] ((h0, .inr (1, [.int 0, .null, .null, .null])) :: []) (fun _ => True) (fun _ : Nat → Nat => True) (fun ad : Nat → Nat => ((h0, .inr (1, [.int (0 : Int32), .ref (ad 0), .ref (ad 1), .ref (ad 2)])) :: ((ad 0), .inl (cZ, 120, .inl (fun _ => 0))) :: ((ad 1), .inl (cI, 2160, .inl (fun _ => 0))) :: ((ad 2), .inl (cI, 720, .inl (fun _ => 0))) :: [])) 3 3000 := by
  refine zMn (by decide) (Nat.le_of_ble_eq_true rfl) ?_
  intro p e s m args below meth c A Q hx hb hml hown hT hin hK hXX hret hP hD hA hS ls hl
  replace hown : s.vm.findClass RX6 = some m.cls := hown
  replace hin : meth.name = "<init>" := hin
  replace hl : lv_has ls 1 [(0, .ref h0)] := hl
  refine lv_aload_n hx hb dX6_init_0 rfl (lv_at hl 0 rfl) ?_
  refine W.objInit hx hb hown (hT _ zw76) (hT _ zw58) (hT _ zw59) rfl (by rw [hml]; exact hl.1) rfl dX6_init_1 (Nat.le_of_ble_eq_true rfl) (Nat.le_of_ble_eq_true rfl) ?_
  refine W.eq (g2 := F0 m 4 ls []) rfl ?_
  refine lv_aload_n hx hb dX6_init_4 rfl (lv_at hl 0 rfl) ?_
  refine lv_iconst (v := (0 : Int32)) hx hb dX6_init_5 (by decide) ?_
  refine va_put (ci := 1) (v := .int (0 : Int32)) (ty := .int) (C := RX6) (T := TX6) (N := 4) hx hb hT zinX6 tyX6 tyX6_ok nmX6 hown hK hP hD hS 0 rfl rfl 0 (by decide) (hT _ zw77) (fun _ h9 => h9) rfl (by decide +kernel) rfl rfl (Nat.le_of_ble_eq_true rfl) dX6_init_6 (fun H locs hP hD hS => ?_)
  replace hP : va_P D zclX ((h0, .inr (1, [.int (0 : Int32), .null, .null, .null])) :: []) H := hP
  replace hD : va_D A ((h0, .inr (1, [.int (0 : Int32), .null, .null, .null])) :: []) := hD
  refine lv_aload_n hx hb dX6_init_9 rfl (lv_at hl 0 rfl) ?_
  refine lv_bipush (v := (120 : Int32)) hx hb dX6_init_10 (by decide) ?_
  refine znewa 2 (atype := .boolean) (ty := .boolean) (a0 := (120, .inl (fun _ => 0))) hx hb (hT _ zw94) rfl hK rfl hP hD hS hA (fun _ => rfl) (by decide) (by decide) (by decide) (by decide) (by decide) dX6_init_12 (fun q1 H hP hD hS => ?_)
  replace hP : va_P D zclX ((h0, .inr (1, [.int (0 : Int32), .null, .null, .null])) :: (q1, .inl (cZ, 120, .inl (fun _ => 0))) :: []) H := hP
  replace hD : va_D A ((h0, .inr (1, [.int (0 : Int32), .null, .null, .null])) :: (q1, .inl (cZ, 120, .inl (fun _ => 0))) :: []) := hD
  refine va_putF (ci := 1) (v := .ref q1) (ty := .array .boolean) (C := RX6) (T := TX6) (N := 4) hx hb hT zinX6 tyX6 tyX6_ok nmX6 hown hK hP hD hS 0 rfl rfl 1 (by decide) (hT _ zw80) (fun _ h9 => h9) rfl hin rfl (by decide +kernel) rfl rfl (Nat.le_of_ble_eq_true rfl) dX6_init_14 (fun H locs hP hD hS => ?_)
  replace hP : va_P D zclX ((h0, .inr (1, [.int (0 : Int32), .ref q1, .null, .null])) :: (q1, .inl (cZ, 120, .inl (fun _ => 0))) :: []) H := hP
  replace hD : va_D A ((h0, .inr (1, [.int (0 : Int32), .ref q1, .null, .null])) :: (q1, .inl (cZ, 120, .inl (fun _ => 0))) :: []) := hD
  refine lv_aload_n hx hb dX6_init_17 rfl (lv_at hl 0 rfl) ?_
  refine lv_sipush (v := (2160 : Int32)) hx hb dX6_init_18 (by decide) ?_
  refine znewa 0 (atype := .int) (ty := .int) (a0 := (2160, .inl (fun _ => 0))) hx hb (hT _ zw95) rfl hK rfl hP hD hS hA (fun _ => rfl) (by decide) (by decide) (by decide) (by decide) (by decide) dX6_init_21 (fun q2 H hP hD hS => ?_)
  replace hP : va_P D zclX ((h0, .inr (1, [.int (0 : Int32), .ref q1, .null, .null])) :: (q1, .inl (cZ, 120, .inl (fun _ => 0))) :: (q2, .inl (cI, 2160, .inl (fun _ => 0))) :: []) H := hP
  replace hD : va_D A ((h0, .inr (1, [.int (0 : Int32), .ref q1, .null, .null])) :: (q1, .inl (cZ, 120, .inl (fun _ => 0))) :: (q2, .inl (cI, 2160, .inl (fun _ => 0))) :: []) := hD
  refine va_putF (ci := 1) (v := .ref q2) (ty := .array .int) (C := RX6) (T := TX6) (N := 4) hx hb hT zinX6 tyX6 tyX6_ok nmX6 hown hK hP hD hS 0 rfl rfl 2 (by decide) (hT _ zw83) (fun _ h9 => h9) rfl hin rfl (by decide +kernel) rfl rfl (Nat.le_of_ble_eq_true rfl) dX6_init_23 (fun H locs hP hD hS => ?_)
  replace hP : va_P D zclX ((h0, .inr (1, [.int (0 : Int32), .ref q1, .ref q2, .null])) :: (q1, .inl (cZ, 120, .inl (fun _ => 0))) :: (q2, .inl (cI, 2160, .inl (fun _ => 0))) :: []) H := hP
  replace hD : va_D A ((h0, .inr (1, [.int (0 : Int32), .ref q1, .ref q2, .null])) :: (q1, .inl (cZ, 120, .inl (fun _ => 0))) :: (q2, .inl (cI, 2160, .inl (fun _ => 0))) :: []) := hD
  refine lv_aload_n hx hb dX6_init_26 rfl (lv_at hl 0 rfl) ?_
  refine lv_sipush (v := (720 : Int32)) hx hb dX6_init_27 (by decide) ?_
  refine znewa 0 (atype := .int) (ty := .int) (a0 := (720, .inl (fun _ => 0))) hx hb (hT _ zw95) rfl hK rfl hP hD hS hA (fun _ => rfl) (by decide) (by decide) (by decide) (by decide) (by decide) dX6_init_30 (fun q3 H hP hD hS => ?_)
  replace hP : va_P D zclX ((h0, .inr (1, [.int (0 : Int32), .ref q1, .ref q2, .null])) :: (q1, .inl (cZ, 120, .inl (fun _ => 0))) :: (q2, .inl (cI, 2160, .inl (fun _ => 0))) :: (q3, .inl (cI, 720, .inl (fun _ => 0))) :: []) H := hP
  replace hD : va_D A ((h0, .inr (1, [.int (0 : Int32), .ref q1, .ref q2, .null])) :: (q1, .inl (cZ, 120, .inl (fun _ => 0))) :: (q2, .inl (cI, 2160, .inl (fun _ => 0))) :: (q3, .inl (cI, 720, .inl (fun _ => 0))) :: []) := hD
  refine va_putF (ci := 1) (v := .ref q3) (ty := .array .int) (C := RX6) (T := TX6) (N := 4) hx hb hT zinX6 tyX6 tyX6_ok nmX6 hown hK hP hD hS 0 rfl rfl 3 (by decide) (hT _ zw84) (fun _ h9 => h9) rfl hin rfl (by decide +kernel) rfl rfl (Nat.le_of_ble_eq_true rfl) dX6_init_32 (fun H locs hP hD hS => ?_)
  replace hP : va_P D zclX ((h0, .inr (1, [.int (0 : Int32), .ref q1, .ref q2, .ref q3])) :: (q1, .inl (cZ, 120, .inl (fun _ => 0))) :: (q2, .inl (cI, 2160, .inl (fun _ => 0))) :: (q3, .inl (cI, 720, .inl (fun _ => 0))) :: []) H := hP
  replace hD : va_D A ((h0, .inr (1, [.int (0 : Int32), .ref q1, .ref q2, .ref q3])) :: (q1, .inl (cZ, 120, .inl (fun _ => 0))) :: (q2, .inl (cI, 2160, .inl (fun _ => 0))) :: (q3, .inl (cI, 720, .inl (fun _ => 0))) :: []) := hD
  exact hret (fun i => ([q1, q2, q3] : List Nat).getD i 0) _ _ _ _ dX6_init_35 trivial hP hD hS
set_option maxHeartbeats 8000000 in
set_option maxRecDepth 100000 in
theorem c_X3_init {l : Launch} {D : va_G} (cI cJ cZ cO : ClassId) (h0 : Nat) (h1 : Nat) : zCn l yX3_init cX3_init 2 (zRn 1 1 120 12) D zclX (zty cI cJ cZ cO) [.ref h0, .ref h1] ((h0, .inr (2, [.int 0, .null, .null])) :: []) (fun _ => True) (fun _ : Nat → Nat => True) (fun ad : Nat → Nat => ((h0, .inr (2, [.int (0 : Int32), .ref h1, .ref (ad 0)])) :: ((ad 0), .inl (cI, 120, .inl (fun _ => 0))) :: [])) 1 120 := by
  refine zMn (by decide) (Nat.le_of_ble_eq_true rfl) ?_
  intro p e s m args below meth c A Q hx hb hml hown hT hin hK hXX hret hP hD hA hS ls hl
  replace hown : s.vm.findClass RX3 = some m.cls := hown
  replace hin : meth.name = "<init>" := hin
  replace hl : lv_has ls 2 [(0, .ref h0), (1, .ref h1)] := hl
  refine lv_aload_n hx hb dX3_init_0 rfl (lv_at hl 0 rfl) ?_
  refine W.objInit hx hb hown (hT _ zw101) (hT _ zw58) (hT _ zw59) rfl (by rw [hml]; exact hl.1) rfl dX3_init_1 (Nat.le_of_ble_eq_true rfl) (Nat.le_of_ble_eq_true rfl) ?_
  refine W.eq (g2 := F0 m 4 ls []) rfl ?_
  refine lv_aload_n hx hb dX3_init_4 rfl (lv_at hl 0 rfl) ?_
  refine lv_aload_n hx hb dX3_init_5 rfl (lv_at hl 1 rfl) ?_
  refine va_putF (ci := 2) (v := .ref h1) (ty := .object "FacetFigures$Stock") (C := RX3) (T := TX3) (N := 3) hx hb hT zinX3 tyX3 tyX3_ok nmX3 hown hK hP hD hS 0 rfl rfl 1 (by decide) (hT _ zw104) (fun _ h9 => h9) rfl hin rfl (by decide +kernel) rfl rfl (Nat.le_of_ble_eq_true rfl) dX3_init_6 (fun H locs hP hD hS => ?_)
  replace hP : va_P D zclX ((h0, .inr (2, [.int 0, .ref h1, .null])) :: []) H := hP
  replace hD : va_D A ((h0, .inr (2, [.int 0, .ref h1, .null])) :: []) := hD
  refine lv_aload_n hx hb dX3_init_9 rfl (lv_at hl 0 rfl) ?_
  refine lv_iconst (v := (0 : Int32)) hx hb dX3_init_10 (by decide) ?_
  refine va_put (ci := 2) (v := .int (0 : Int32)) (ty := .int) (C := RX3) (T := TX3) (N := 3) hx hb hT zinX3 tyX3 tyX3_ok nmX3 hown hK hP hD hS 0 rfl rfl 0 (by decide) (hT _ zw102) (fun _ h9 => h9) rfl (by decide +kernel) rfl rfl (Nat.le_of_ble_eq_true rfl) dX3_init_11 (fun H locs hP hD hS => ?_)
  replace hP : va_P D zclX ((h0, .inr (2, [.int (0 : Int32), .ref h1, .null])) :: []) H := hP
  replace hD : va_D A ((h0, .inr (2, [.int (0 : Int32), .ref h1, .null])) :: []) := hD
  refine lv_aload_n hx hb dX3_init_14 rfl (lv_at hl 0 rfl) ?_
  refine lv_bipush (v := (120 : Int32)) hx hb dX3_init_15 (by decide) ?_
  refine znewa 0 (atype := .int) (ty := .int) (a0 := (120, .inl (fun _ => 0))) hx hb (hT _ zw95) rfl hK rfl hP hD hS hA (fun _ => rfl) (by decide) (by decide) (by decide) (by decide) (by decide) dX3_init_17 (fun q1 H hP hD hS => ?_)
  replace hP : va_P D zclX ((h0, .inr (2, [.int (0 : Int32), .ref h1, .null])) :: (q1, .inl (cI, 120, .inl (fun _ => 0))) :: []) H := hP
  replace hD : va_D A ((h0, .inr (2, [.int (0 : Int32), .ref h1, .null])) :: (q1, .inl (cI, 120, .inl (fun _ => 0))) :: []) := hD
  refine va_putF (ci := 2) (v := .ref q1) (ty := .array .int) (C := RX3) (T := TX3) (N := 3) hx hb hT zinX3 tyX3 tyX3_ok nmX3 hown hK hP hD hS 0 rfl rfl 2 (by decide) (hT _ zw105) (fun _ h9 => h9) rfl hin rfl (by decide +kernel) rfl rfl (Nat.le_of_ble_eq_true rfl) dX3_init_19 (fun H locs hP hD hS => ?_)
  replace hP : va_P D zclX ((h0, .inr (2, [.int (0 : Int32), .ref h1, .ref q1])) :: (q1, .inl (cI, 120, .inl (fun _ => 0))) :: []) H := hP
  replace hD : va_D A ((h0, .inr (2, [.int (0 : Int32), .ref h1, .ref q1])) :: (q1, .inl (cI, 120, .inl (fun _ => 0))) :: []) := hD
  exact hret (fun i => ([q1] : List Nat).getD i 0) _ _ _ _ dX3_init_22 trivial hP hD hS
set_option maxHeartbeats 8000000 in
set_option maxRecDepth 100000 in
theorem c_X1_init {l : Launch} {D : va_G} (cI cJ cZ cO : ClassId) (h0 : Nat) : zCn l yX1_init cX1_init 1 (zRn 1 2 12 12) D zclX (zty cI cJ cZ cO) [.ref h0] ((h0, .inr (7, [.int 0, .int 0, .int 0, .int 0, .int 0, .int 0, .int 0, .int 0, .int 0, .int 0, .int 0, .int 0, .null, .null])) :: []) (fun _ => True) (fun _ : Nat → Nat => True) (fun ad : Nat → Nat => ((h0, .inr (7, [.int 0, .int 0, .int 0, .int 0, .int 0, .int 0, .int 0, .int 0, .int 0, .int 0, .int 0, .int 0, .ref (ad 0), .ref (ad 1)])) :: ((ad 0), .inl (cI, 6, .inl (fun _ => 0))) :: ((ad 1), .inl (cI, 6, .inl (fun _ => 0))) :: [])) 2 12 := by
  refine zMn (by decide) (Nat.le_of_ble_eq_true rfl) ?_
  intro p e s m args below meth c A Q hx hb hml hown hT hin hK hXX hret hP hD hA hS ls hl
  replace hown : s.vm.findClass RX1 = some m.cls := hown
  replace hin : meth.name = "<init>" := hin
  replace hl : lv_has ls 1 [(0, .ref h0)] := hl
  refine lv_aload_n hx hb dX1_init_0 rfl (lv_at hl 0 rfl) ?_
  refine W.objInit hx hb hown (hT _ zw119) (hT _ zw58) (hT _ zw59) rfl (by rw [hml]; exact hl.1) rfl dX1_init_1 (Nat.le_of_ble_eq_true rfl) (Nat.le_of_ble_eq_true rfl) ?_
  refine W.eq (g2 := F0 m 4 ls []) rfl ?_
  refine lv_aload_n hx hb dX1_init_4 rfl (lv_at hl 0 rfl) ?_
  refine lv_bipush (v := (6 : Int32)) hx hb dX1_init_5 (by decide) ?_
  refine znewa 0 (atype := .int) (ty := .int) (a0 := (6, .inl (fun _ => 0))) hx hb (hT _ zw95) rfl hK rfl hP hD hS hA (fun _ => rfl) (by decide) (by decide) (by decide) (by decide) (by decide) dX1_init_7 (fun q1 H hP hD hS => ?_)
  replace hP : va_P D zclX ((h0, .inr (7, [.int 0, .int 0, .int 0, .int 0, .int 0, .int 0, .int 0, .int 0, .int 0, .int 0, .int 0, .int 0, .null, .null])) :: (q1, .inl (cI, 6, .inl (fun _ => 0))) :: []) H := hP
  replace hD : va_D A ((h0, .inr (7, [.int 0, .int 0, .int 0, .int 0, .int 0, .int 0, .int 0, .int 0, .int 0, .int 0, .int 0, .int 0, .null, .null])) :: (q1, .inl (cI, 6, .inl (fun _ => 0))) :: []) := hD
  refine va_putF (ci := 7) (v := .ref q1) (ty := .array .int) (C := RX1) (T := TX1) (N := 14) hx hb hT zinX1 tyX1 tyX1_ok nmX1 hown hK hP hD hS 0 rfl rfl 12 (by decide) (hT _ zw146) (fun _ h9 => h9) rfl hin rfl (by decide +kernel) rfl rfl (Nat.le_of_ble_eq_true rfl) dX1_init_9 (fun H locs hP hD hS => ?_)
  replace hP : va_P D zclX ((h0, .inr (7, [.int 0, .int 0, .int 0, .int 0, .int 0, .int 0, .int 0, .int 0, .int 0, .int 0, .int 0, .int 0, .ref q1, .null])) :: (q1, .inl (cI, 6, .inl (fun _ => 0))) :: []) H := hP
  replace hD : va_D A ((h0, .inr (7, [.int 0, .int 0, .int 0, .int 0, .int 0, .int 0, .int 0, .int 0, .int 0, .int 0, .int 0, .int 0, .ref q1, .null])) :: (q1, .inl (cI, 6, .inl (fun _ => 0))) :: []) := hD
  refine lv_aload_n hx hb dX1_init_12 rfl (lv_at hl 0 rfl) ?_
  refine lv_bipush (v := (6 : Int32)) hx hb dX1_init_13 (by decide) ?_
  refine znewa 0 (atype := .int) (ty := .int) (a0 := (6, .inl (fun _ => 0))) hx hb (hT _ zw95) rfl hK rfl hP hD hS hA (fun _ => rfl) (by decide) (by decide) (by decide) (by decide) (by decide) dX1_init_15 (fun q2 H hP hD hS => ?_)
  replace hP : va_P D zclX ((h0, .inr (7, [.int 0, .int 0, .int 0, .int 0, .int 0, .int 0, .int 0, .int 0, .int 0, .int 0, .int 0, .int 0, .ref q1, .null])) :: (q1, .inl (cI, 6, .inl (fun _ => 0))) :: (q2, .inl (cI, 6, .inl (fun _ => 0))) :: []) H := hP
  replace hD : va_D A ((h0, .inr (7, [.int 0, .int 0, .int 0, .int 0, .int 0, .int 0, .int 0, .int 0, .int 0, .int 0, .int 0, .int 0, .ref q1, .null])) :: (q1, .inl (cI, 6, .inl (fun _ => 0))) :: (q2, .inl (cI, 6, .inl (fun _ => 0))) :: []) := hD
  refine va_putF (ci := 7) (v := .ref q2) (ty := .array .int) (C := RX1) (T := TX1) (N := 14) hx hb hT zinX1 tyX1 tyX1_ok nmX1 hown hK hP hD hS 0 rfl rfl 13 (by decide) (hT _ zw147) (fun _ h9 => h9) rfl hin rfl (by decide +kernel) rfl rfl (Nat.le_of_ble_eq_true rfl) dX1_init_17 (fun H locs hP hD hS => ?_)
  replace hP : va_P D zclX ((h0, .inr (7, [.int 0, .int 0, .int 0, .int 0, .int 0, .int 0, .int 0, .int 0, .int 0, .int 0, .int 0, .int 0, .ref q1, .ref q2])) :: (q1, .inl (cI, 6, .inl (fun _ => 0))) :: (q2, .inl (cI, 6, .inl (fun _ => 0))) :: []) H := hP
  replace hD : va_D A ((h0, .inr (7, [.int 0, .int 0, .int 0, .int 0, .int 0, .int 0, .int 0, .int 0, .int 0, .int 0, .int 0, .int 0, .ref q1, .ref q2])) :: (q1, .inl (cI, 6, .inl (fun _ => 0))) :: (q2, .inl (cI, 6, .inl (fun _ => 0))) :: []) := hD
  exact hret (fun i => ([q1, q2] : List Nat).getD i 0) _ _ _ _ dX1_init_20 trivial hP hD hS
set_option maxHeartbeats 8000000 in
set_option maxRecDepth 100000 in
theorem c_X4_init {l : Launch} {D : va_G} (cI cJ cZ cO : ClassId) (h0 : Nat) : zCn l yX4_init cX4_init 1 (zRn 1 1 18 12) D zclX (zty cI cJ cZ cO) [.ref h0] ((h0, .inr (5, [.int 0, .null])) :: []) (fun _ => True) (fun _ : Nat → Nat => True) (fun ad : Nat → Nat => ((h0, .inr (5, [.int (0 : Int32), .ref (ad 0)])) :: ((ad 0), .inl (cI, 18, .inl (fun _ => 0))) :: [])) 1 18 := by
  refine zMn (by decide) (Nat.le_of_ble_eq_true rfl) ?_
  intro p e s m args below meth c A Q hx hb hml hown hT hin hK hXX hret hP hD hA hS ls hl
  replace hown : s.vm.findClass RX4 = some m.cls := hown
  replace hin : meth.name = "<init>" := hin
  replace hl : lv_has ls 1 [(0, .ref h0)] := hl
  refine lv_aload_n hx hb dX4_init_0 rfl (lv_at hl 0 rfl) ?_
  refine W.objInit hx hb hown (hT _ zw188) (hT _ zw58) (hT _ zw59) rfl (by rw [hml]; exact hl.1) rfl dX4_init_1 (Nat.le_of_ble_eq_true rfl) (Nat.le_of_ble_eq_true rfl) ?_
  refine W.eq (g2 := F0 m 4 ls []) rfl ?_
  refine lv_aload_n hx hb dX4_init_4 rfl (lv_at hl 0 rfl) ?_
  refine lv_iconst (v := (0 : Int32)) hx hb dX4_init_5 (by decide) ?_
  refine va_put (ci := 5) (v := .int (0 : Int32)) (ty := .int) (C := RX4) (T := TX4) (N := 2) hx hb hT zinX4 tyX4 tyX4_ok nmX4 hown hK hP hD hS 0 rfl rfl 0 (by decide) (hT _ zw189) (fun _ h9 => h9) rfl (by decide +kernel) rfl rfl (Nat.le_of_ble_eq_true rfl) dX4_init_6 (fun H locs hP hD hS => ?_)
  replace hP : va_P D zclX ((h0, .inr (5, [.int (0 : Int32), .null])) :: []) H := hP
  replace hD : va_D A ((h0, .inr (5, [.int (0 : Int32), .null])) :: []) := hD
  refine lv_aload_n hx hb dX4_init_9 rfl (lv_at hl 0 rfl) ?_
  refine lv_bipush (v := (18 : Int32)) hx hb dX4_init_10 (by decide) ?_
  refine znewa 0 (atype := .int) (ty := .int) (a0 := (18, .inl (fun _ => 0))) hx hb (hT _ zw95) rfl hK rfl hP hD hS hA (fun _ => rfl) (by decide) (by decide) (by decide) (by decide) (by decide) dX4_init_12 (fun q1 H hP hD hS => ?_)
  replace hP : va_P D zclX ((h0, .inr (5, [.int (0 : Int32), .null])) :: (q1, .inl (cI, 18, .inl (fun _ => 0))) :: []) H := hP
  replace hD : va_D A ((h0, .inr (5, [.int (0 : Int32), .null])) :: (q1, .inl (cI, 18, .inl (fun _ => 0))) :: []) := hD
  refine va_putF (ci := 5) (v := .ref q1) (ty := .array .int) (C := RX4) (T := TX4) (N := 2) hx hb hT zinX4 tyX4 tyX4_ok nmX4 hown hK hP hD hS 0 rfl rfl 1 (by decide) (hT _ zw191) (fun _ h9 => h9) rfl hin rfl (by decide +kernel) rfl rfl (Nat.le_of_ble_eq_true rfl) dX4_init_14 (fun H locs hP hD hS => ?_)
  replace hP : va_P D zclX ((h0, .inr (5, [.int (0 : Int32), .ref q1])) :: (q1, .inl (cI, 18, .inl (fun _ => 0))) :: []) H := hP
  replace hD : va_D A ((h0, .inr (5, [.int (0 : Int32), .ref q1])) :: (q1, .inl (cI, 18, .inl (fun _ => 0))) :: []) := hD
  exact hret (fun i => ([q1] : List Nat).getD i 0) _ _ _ _ dX4_init_17 trivial hP hD hS
set_option maxHeartbeats 8000000 in
set_option maxRecDepth 100000 in
theorem c_X2_init {l : Launch} {D : va_G} (cI cJ cZ cO : ClassId) (h0 : Nat) (h1 : Nat) : zCn l yX2_init cX2_init 2 (zRn 2 7 5420 32) D zclX (zty cI cJ cZ cO) [.ref h0, .ref h1] ((h0, .inr (3, [.int 0, .int 0, .null, .null, .null, .null, .null, .null, .null])) :: []) (fun _ => True) (fun _ : Nat → Nat => True) (fun ad : Nat → Nat => ((h0, .inr (3, [.int (0 : Int32), .int (0 : Int32), .ref h1, .ref (ad 0), .ref (ad 2), .ref (ad 3), .ref (ad 4), .ref (ad 5), .ref (ad 6)])) :: ((ad 0), .inr (5, [.int (0 : Int32), .ref (ad 1)])) :: ((ad 1), .inl (cI, 18, .inl (fun _ => 0))) :: ((ad 2), .inl (cJ, 1080, .inr (.inl (fun _ => 0)))) :: ((ad 3), .inl (cI, 1080, .inl (fun _ => 0))) :: ((ad 4), .inl (cI, 1080, .inl (fun _ => 0))) :: ((ad 5), .inl (cI, 1080, .inl (fun _ => 0))) :: ((ad 6), .inl (cJ, 1080, .inr (.inl (fun _ => 0)))) :: [])) 7 5420 := by
  refine zMn (by decide) (Nat.le_of_ble_eq_true rfl) ?_
  intro p e s m args below meth c A Q hx hb hml hown hT hin hK hXX hret hP hD hA hS ls hl
  replace hown : s.vm.findClass RX2 = some m.cls := hown
  replace hin : meth.name = "<init>" := hin
  replace hl : lv_has ls 2 [(0, .ref h0), (1, .ref h1)] := hl
  refine lv_aload_n hx hb dX2_init_0 rfl (lv_at hl 0 rfl) ?_
  refine W.objInit hx hb hown (hT _ zw182) (hT _ zw58) (hT _ zw59) rfl (by rw [hml]; exact hl.1) rfl dX2_init_1 (Nat.le_of_ble_eq_true rfl) (Nat.le_of_ble_eq_true rfl) ?_
  refine W.eq (g2 := F0 m 4 ls []) rfl ?_
  refine lv_aload_n hx hb dX2_init_4 rfl (lv_at hl 0 rfl) ?_
  refine lv_aload_n hx hb dX2_init_5 rfl (lv_at hl 1 rfl) ?_
  refine va_putF (ci := 3) (v := .ref h1) (ty := .object "FacetFigures$Sorter") (C := RX2) (T := TX2) (N := 9) hx hb hT zinX2 tyX2 tyX2_ok nmX2 hown hK hP hD hS 0 rfl rfl 2 (by decide) (hT _ zw201) (fun _ h9 => h9) rfl hin rfl (by decide +kernel) rfl rfl (Nat.le_of_ble_eq_true rfl) dX2_init_6 (fun H locs hP hD hS => ?_)
  replace hP : va_P D zclX ((h0, .inr (3, [.int 0, .int 0, .ref h1, .null, .null, .null, .null, .null, .null])) :: []) H := hP
  replace hD : va_D A ((h0, .inr (3, [.int 0, .int 0, .ref h1, .null, .null, .null, .null, .null, .null])) :: []) := hD
  refine lv_aload_n hx hb dX2_init_9 rfl (lv_at hl 0 rfl) ?_
  refine va_new (ci := 5) (fs := [.int 0, .null]) (C := RX4) (T := TX4) (N := 2) hx hb hT zinX4 tyX4 tyX4_ok hown (hT _ zw183) (hT _ zw184) (hT _ zw46) hK hP hD hS hA rfl (by decide) (by decide) (by decide) dX2_init_10 (fun q1 H hP hD hS => ?_)
  replace hP : va_P D zclX ((h0, .inr (3, [.int 0, .int 0, .ref h1, .null, .null, .null, .null, .null, .null])) :: (q1, .inr (5, [.int 0, .null])) :: []) H := hP
  replace hD : va_D A ((h0, .inr (3, [.int 0, .int 0, .ref h1, .null, .null, .null, .null, .null, .null])) :: (q1, .inr (5, [.int 0, .null])) :: []) := hD
  refine lv_dup hx hb dX2_init_13 rfl ?_
  refine zcallI (rest := [.ref q1, .ref h0]) (wr := ((h0, .inr (3, [.int 0, .int 0, .ref h1, .null, .null, .null, .null, .null, .null])) :: [])) (w1 := (fun ad : Nat → Nat => ((q1, .inr (5, [.int (0 : Int32), .ref (ad 0)])) :: ((ad 0), .inl (cI, 18, .inl (fun _ => 0))) :: []))) [] hx hb hml hl.1 hown hT (c_X4_init cI cJ cZ cO q1 ) zkX4_init zw185 ⟨by decide, by decide⟩ rfl rfl (fun _ _ => trivial) (fun _ _ _ _ _ => trivial) hK hP hD hS hA rfl rfl (Nat.le_of_ble_eq_true rfl) ⟨by decide, by decide⟩ dX2_init_14 (fun ad1 H locs _ hP hD hS => ?_)
  replace hP : va_P D zclX ((h0, .inr (3, [.int 0, .int 0, .ref h1, .null, .null, .null, .null, .null, .null])) :: (q1, .inr (5, [.int (0 : Int32), .ref (ad1 0)])) :: ((ad1 0), .inl (cI, 18, .inl (fun _ => 0))) :: []) H := hP
  replace hD : va_D A ((h0, .inr (3, [.int 0, .int 0, .ref h1, .null, .null, .null, .null, .null, .null])) :: (q1, .inr (5, [.int (0 : Int32), .ref (ad1 0)])) :: ((ad1 0), .inl (cI, 18, .inl (fun _ => 0))) :: []) := hD
  refine va_putF (ci := 3) (v := .ref q1) (ty := .object "FacetFigures$KeyRow") (C := RX2) (T := TX2) (N := 9) hx hb hT zinX2 tyX2 tyX2_ok nmX2 hown hK hP hD hS 0 rfl rfl 3 (by decide) (hT _ zw202) (fun _ h9 => h9) rfl hin rfl (by decide +kernel) rfl rfl (Nat.le_of_ble_eq_true rfl) dX2_init_17 (fun H locs hP hD hS => ?_)
  replace hP : va_P D zclX ((h0, .inr (3, [.int 0, .int 0, .ref h1, .ref q1, .null, .null, .null, .null, .null])) :: (q1, .inr (5, [.int (0 : Int32), .ref (ad1 0)])) :: ((ad1 0), .inl (cI, 18, .inl (fun _ => 0))) :: []) H := hP
  replace hD : va_D A ((h0, .inr (3, [.int 0, .int 0, .ref h1, .ref q1, .null, .null, .null, .null, .null])) :: (q1, .inr (5, [.int (0 : Int32), .ref (ad1 0)])) :: ((ad1 0), .inl (cI, 18, .inl (fun _ => 0))) :: []) := hD
  refine lv_aload_n hx hb dX2_init_20 rfl (lv_at hl 0 rfl) ?_
  refine lv_sipush (v := (1080 : Int32)) hx hb dX2_init_21 (by decide) ?_
  refine znewa 1 (atype := .long) (ty := .long) (a0 := (1080, .inr (.inl (fun _ => 0)))) hx hb (hT _ zw70) rfl hK rfl hP hD hS hA (fun _ => rfl) (by decide) (by decide) (by decide) (by decide) (by decide) dX2_init_24 (fun q3 H hP hD hS => ?_)
  replace hP : va_P D zclX ((h0, .inr (3, [.int 0, .int 0, .ref h1, .ref q1, .null, .null, .null, .null, .null])) :: (q1, .inr (5, [.int (0 : Int32), .ref (ad1 0)])) :: ((ad1 0), .inl (cI, 18, .inl (fun _ => 0))) :: (q3, .inl (cJ, 1080, .inr (.inl (fun _ => 0)))) :: []) H := hP
  replace hD : va_D A ((h0, .inr (3, [.int 0, .int 0, .ref h1, .ref q1, .null, .null, .null, .null, .null])) :: (q1, .inr (5, [.int (0 : Int32), .ref (ad1 0)])) :: ((ad1 0), .inl (cI, 18, .inl (fun _ => 0))) :: (q3, .inl (cJ, 1080, .inr (.inl (fun _ => 0)))) :: []) := hD
  refine va_putF (ci := 3) (v := .ref q3) (ty := .array .long) (C := RX2) (T := TX2) (N := 9) hx hb hT zinX2 tyX2 tyX2_ok nmX2 hown hK hP hD hS 0 rfl rfl 4 (by decide) (hT _ zw203) (fun _ h9 => h9) rfl hin rfl (by decide +kernel) rfl rfl (Nat.le_of_ble_eq_true rfl) dX2_init_26 (fun H locs hP hD hS => ?_)
  replace hP : va_P D zclX ((h0, .inr (3, [.int 0, .int 0, .ref h1, .ref q1, .ref q3, .null, .null, .null, .null])) :: (q1, .inr (5, [.int (0 : Int32), .ref (ad1 0)])) :: ((ad1 0), .inl (cI, 18, .inl (fun _ => 0))) :: (q3, .inl (cJ, 1080, .inr (.inl (fun _ => 0)))) :: []) H := hP
  replace hD : va_D A ((h0, .inr (3, [.int 0, .int 0, .ref h1, .ref q1, .ref q3, .null, .null, .null, .null])) :: (q1, .inr (5, [.int (0 : Int32), .ref (ad1 0)])) :: ((ad1 0), .inl (cI, 18, .inl (fun _ => 0))) :: (q3, .inl (cJ, 1080, .inr (.inl (fun _ => 0)))) :: []) := hD
  refine lv_aload_n hx hb dX2_init_29 rfl (lv_at hl 0 rfl) ?_
  refine lv_sipush (v := (1080 : Int32)) hx hb dX2_init_30 (by decide) ?_
  refine znewa 0 (atype := .int) (ty := .int) (a0 := (1080, .inl (fun _ => 0))) hx hb (hT _ zw95) rfl hK rfl hP hD hS hA (fun _ => rfl) (by decide) (by decide) (by decide) (by decide) (by decide) dX2_init_33 (fun q4 H hP hD hS => ?_)
  replace hP : va_P D zclX ((h0, .inr (3, [.int 0, .int 0, .ref h1, .ref q1, .ref q3, .null, .null, .null, .null])) :: (q1, .inr (5, [.int (0 : Int32), .ref (ad1 0)])) :: ((ad1 0), .inl (cI, 18, .inl (fun _ => 0))) :: (q3, .inl (cJ, 1080, .inr (.inl (fun _ => 0)))) :: (q4, .inl (cI, 1080, .inl (fun _ => 0))) :: []) H := hP
  replace hD : va_D A ((h0, .inr (3, [.int 0, .int 0, .ref h1, .ref q1, .ref q3, .null, .null, .null, .null])) :: (q1, .inr (5, [.int (0 : Int32), .ref (ad1 0)])) :: ((ad1 0), .inl (cI, 18, .inl (fun _ => 0))) :: (q3, .inl (cJ, 1080, .inr (.inl (fun _ => 0)))) :: (q4, .inl (cI, 1080, .inl (fun _ => 0))) :: []) := hD
  refine va_putF (ci := 3) (v := .ref q4) (ty := .array .int) (C := RX2) (T := TX2) (N := 9) hx hb hT zinX2 tyX2 tyX2_ok nmX2 hown hK hP hD hS 0 rfl rfl 5 (by decide) (hT _ zw204) (fun _ h9 => h9) rfl hin rfl (by decide +kernel) rfl rfl (Nat.le_of_ble_eq_true rfl) dX2_init_35 (fun H locs hP hD hS => ?_)
  replace hP : va_P D zclX ((h0, .inr (3, [.int 0, .int 0, .ref h1, .ref q1, .ref q3, .ref q4, .null, .null, .null])) :: (q1, .inr (5, [.int (0 : Int32), .ref (ad1 0)])) :: ((ad1 0), .inl (cI, 18, .inl (fun _ => 0))) :: (q3, .inl (cJ, 1080, .inr (.inl (fun _ => 0)))) :: (q4, .inl (cI, 1080, .inl (fun _ => 0))) :: []) H := hP
  replace hD : va_D A ((h0, .inr (3, [.int 0, .int 0, .ref h1, .ref q1, .ref q3, .ref q4, .null, .null, .null])) :: (q1, .inr (5, [.int (0 : Int32), .ref (ad1 0)])) :: ((ad1 0), .inl (cI, 18, .inl (fun _ => 0))) :: (q3, .inl (cJ, 1080, .inr (.inl (fun _ => 0)))) :: (q4, .inl (cI, 1080, .inl (fun _ => 0))) :: []) := hD
  refine lv_aload_n hx hb dX2_init_38 rfl (lv_at hl 0 rfl) ?_
  refine lv_sipush (v := (1080 : Int32)) hx hb dX2_init_39 (by decide) ?_
  refine znewa 0 (atype := .int) (ty := .int) (a0 := (1080, .inl (fun _ => 0))) hx hb (hT _ zw95) rfl hK rfl hP hD hS hA (fun _ => rfl) (by decide) (by decide) (by decide) (by decide) (by decide) dX2_init_42 (fun q5 H hP hD hS => ?_)
  replace hP : va_P D zclX ((h0, .inr (3, [.int 0, .int 0, .ref h1, .ref q1, .ref q3, .ref q4, .null, .null, .null])) :: (q1, .inr (5, [.int (0 : Int32), .ref (ad1 0)])) :: ((ad1 0), .inl (cI, 18, .inl (fun _ => 0))) :: (q3, .inl (cJ, 1080, .inr (.inl (fun _ => 0)))) :: (q4, .inl (cI, 1080, .inl (fun _ => 0))) :: (q5, .inl (cI, 1080, .inl (fun _ => 0))) :: []) H := hP
  replace hD : va_D A ((h0, .inr (3, [.int 0, .int 0, .ref h1, .ref q1, .ref q3, .ref q4, .null, .null, .null])) :: (q1, .inr (5, [.int (0 : Int32), .ref (ad1 0)])) :: ((ad1 0), .inl (cI, 18, .inl (fun _ => 0))) :: (q3, .inl (cJ, 1080, .inr (.inl (fun _ => 0)))) :: (q4, .inl (cI, 1080, .inl (fun _ => 0))) :: (q5, .inl (cI, 1080, .inl (fun _ => 0))) :: []) := hD
  refine va_putF (ci := 3) (v := .ref q5) (ty := .array .int) (C := RX2) (T := TX2) (N := 9) hx hb hT zinX2 tyX2 tyX2_ok nmX2 hown hK hP hD hS 0 rfl rfl 6 (by decide) (hT _ zw205) (fun _ h9 => h9) rfl hin rfl (by decide +kernel) rfl rfl (Nat.le_of_ble_eq_true rfl) dX2_init_44 (fun H locs hP hD hS => ?_)
  replace hP : va_P D zclX ((h0, .inr (3, [.int 0, .int 0, .ref h1, .ref q1, .ref q3, .ref q4, .ref q5, .null, .null])) :: (q1, .inr (5, [.int (0 : Int32), .ref (ad1 0)])) :: ((ad1 0), .inl (cI, 18, .inl (fun _ => 0))) :: (q3, .inl (cJ, 1080, .inr (.inl (fun _ => 0)))) :: (q4, .inl (cI, 1080, .inl (fun _ => 0))) :: (q5, .inl (cI, 1080, .inl (fun _ => 0))) :: []) H := hP
  replace hD : va_D A ((h0, .inr (3, [.int 0, .int 0, .ref h1, .ref q1, .ref q3, .ref q4, .ref q5, .null, .null])) :: (q1, .inr (5, [.int (0 : Int32), .ref (ad1 0)])) :: ((ad1 0), .inl (cI, 18, .inl (fun _ => 0))) :: (q3, .inl (cJ, 1080, .inr (.inl (fun _ => 0)))) :: (q4, .inl (cI, 1080, .inl (fun _ => 0))) :: (q5, .inl (cI, 1080, .inl (fun _ => 0))) :: []) := hD
  refine lv_aload_n hx hb dX2_init_47 rfl (lv_at hl 0 rfl) ?_
  refine lv_sipush (v := (1080 : Int32)) hx hb dX2_init_48 (by decide) ?_
  refine znewa 0 (atype := .int) (ty := .int) (a0 := (1080, .inl (fun _ => 0))) hx hb (hT _ zw95) rfl hK rfl hP hD hS hA (fun _ => rfl) (by decide) (by decide) (by decide) (by decide) (by decide) dX2_init_51 (fun q6 H hP hD hS => ?_)
  replace hP : va_P D zclX ((h0, .inr (3, [.int 0, .int 0, .ref h1, .ref q1, .ref q3, .ref q4, .ref q5, .null, .null])) :: (q1, .inr (5, [.int (0 : Int32), .ref (ad1 0)])) :: ((ad1 0), .inl (cI, 18, .inl (fun _ => 0))) :: (q3, .inl (cJ, 1080, .inr (.inl (fun _ => 0)))) :: (q4, .inl (cI, 1080, .inl (fun _ => 0))) :: (q5, .inl (cI, 1080, .inl (fun _ => 0))) :: (q6, .inl (cI, 1080, .inl (fun _ => 0))) :: []) H := hP
  replace hD : va_D A ((h0, .inr (3, [.int 0, .int 0, .ref h1, .ref q1, .ref q3, .ref q4, .ref q5, .null, .null])) :: (q1, .inr (5, [.int (0 : Int32), .ref (ad1 0)])) :: ((ad1 0), .inl (cI, 18, .inl (fun _ => 0))) :: (q3, .inl (cJ, 1080, .inr (.inl (fun _ => 0)))) :: (q4, .inl (cI, 1080, .inl (fun _ => 0))) :: (q5, .inl (cI, 1080, .inl (fun _ => 0))) :: (q6, .inl (cI, 1080, .inl (fun _ => 0))) :: []) := hD
  refine va_putF (ci := 3) (v := .ref q6) (ty := .array .int) (C := RX2) (T := TX2) (N := 9) hx hb hT zinX2 tyX2 tyX2_ok nmX2 hown hK hP hD hS 0 rfl rfl 7 (by decide) (hT _ zw206) (fun _ h9 => h9) rfl hin rfl (by decide +kernel) rfl rfl (Nat.le_of_ble_eq_true rfl) dX2_init_53 (fun H locs hP hD hS => ?_)
  replace hP : va_P D zclX ((h0, .inr (3, [.int 0, .int 0, .ref h1, .ref q1, .ref q3, .ref q4, .ref q5, .ref q6, .null])) :: (q1, .inr (5, [.int (0 : Int32), .ref (ad1 0)])) :: ((ad1 0), .inl (cI, 18, .inl (fun _ => 0))) :: (q3, .inl (cJ, 1080, .inr (.inl (fun _ => 0)))) :: (q4, .inl (cI, 1080, .inl (fun _ => 0))) :: (q5, .inl (cI, 1080, .inl (fun _ => 0))) :: (q6, .inl (cI, 1080, .inl (fun _ => 0))) :: []) H := hP
  replace hD : va_D A ((h0, .inr (3, [.int 0, .int 0, .ref h1, .ref q1, .ref q3, .ref q4, .ref q5, .ref q6, .null])) :: (q1, .inr (5, [.int (0 : Int32), .ref (ad1 0)])) :: ((ad1 0), .inl (cI, 18, .inl (fun _ => 0))) :: (q3, .inl (cJ, 1080, .inr (.inl (fun _ => 0)))) :: (q4, .inl (cI, 1080, .inl (fun _ => 0))) :: (q5, .inl (cI, 1080, .inl (fun _ => 0))) :: (q6, .inl (cI, 1080, .inl (fun _ => 0))) :: []) := hD
  refine lv_aload_n hx hb dX2_init_56 rfl (lv_at hl 0 rfl) ?_
  refine lv_sipush (v := (1080 : Int32)) hx hb dX2_init_57 (by decide) ?_
  refine znewa 1 (atype := .long) (ty := .long) (a0 := (1080, .inr (.inl (fun _ => 0)))) hx hb (hT _ zw70) rfl hK rfl hP hD hS hA (fun _ => rfl) (by decide) (by decide) (by decide) (by decide) (by decide) dX2_init_60 (fun q7 H hP hD hS => ?_)
  replace hP : va_P D zclX ((h0, .inr (3, [.int 0, .int 0, .ref h1, .ref q1, .ref q3, .ref q4, .ref q5, .ref q6, .null])) :: (q1, .inr (5, [.int (0 : Int32), .ref (ad1 0)])) :: ((ad1 0), .inl (cI, 18, .inl (fun _ => 0))) :: (q3, .inl (cJ, 1080, .inr (.inl (fun _ => 0)))) :: (q4, .inl (cI, 1080, .inl (fun _ => 0))) :: (q5, .inl (cI, 1080, .inl (fun _ => 0))) :: (q6, .inl (cI, 1080, .inl (fun _ => 0))) :: (q7, .inl (cJ, 1080, .inr (.inl (fun _ => 0)))) :: []) H := hP
  replace hD : va_D A ((h0, .inr (3, [.int 0, .int 0, .ref h1, .ref q1, .ref q3, .ref q4, .ref q5, .ref q6, .null])) :: (q1, .inr (5, [.int (0 : Int32), .ref (ad1 0)])) :: ((ad1 0), .inl (cI, 18, .inl (fun _ => 0))) :: (q3, .inl (cJ, 1080, .inr (.inl (fun _ => 0)))) :: (q4, .inl (cI, 1080, .inl (fun _ => 0))) :: (q5, .inl (cI, 1080, .inl (fun _ => 0))) :: (q6, .inl (cI, 1080, .inl (fun _ => 0))) :: (q7, .inl (cJ, 1080, .inr (.inl (fun _ => 0)))) :: []) := hD
  refine va_putF (ci := 3) (v := .ref q7) (ty := .array .long) (C := RX2) (T := TX2) (N := 9) hx hb hT zinX2 tyX2 tyX2_ok nmX2 hown hK hP hD hS 0 rfl rfl 8 (by decide) (hT _ zw207) (fun _ h9 => h9) rfl hin rfl (by decide +kernel) rfl rfl (Nat.le_of_ble_eq_true rfl) dX2_init_62 (fun H locs hP hD hS => ?_)
  replace hP : va_P D zclX ((h0, .inr (3, [.int 0, .int 0, .ref h1, .ref q1, .ref q3, .ref q4, .ref q5, .ref q6, .ref q7])) :: (q1, .inr (5, [.int (0 : Int32), .ref (ad1 0)])) :: ((ad1 0), .inl (cI, 18, .inl (fun _ => 0))) :: (q3, .inl (cJ, 1080, .inr (.inl (fun _ => 0)))) :: (q4, .inl (cI, 1080, .inl (fun _ => 0))) :: (q5, .inl (cI, 1080, .inl (fun _ => 0))) :: (q6, .inl (cI, 1080, .inl (fun _ => 0))) :: (q7, .inl (cJ, 1080, .inr (.inl (fun _ => 0)))) :: []) H := hP
  replace hD : va_D A ((h0, .inr (3, [.int 0, .int 0, .ref h1, .ref q1, .ref q3, .ref q4, .ref q5, .ref q6, .ref q7])) :: (q1, .inr (5, [.int (0 : Int32), .ref (ad1 0)])) :: ((ad1 0), .inl (cI, 18, .inl (fun _ => 0))) :: (q3, .inl (cJ, 1080, .inr (.inl (fun _ => 0)))) :: (q4, .inl (cI, 1080, .inl (fun _ => 0))) :: (q5, .inl (cI, 1080, .inl (fun _ => 0))) :: (q6, .inl (cI, 1080, .inl (fun _ => 0))) :: (q7, .inl (cJ, 1080, .inr (.inl (fun _ => 0)))) :: []) := hD
  refine lv_aload_n hx hb dX2_init_65 rfl (lv_at hl 0 rfl) ?_
  refine lv_iconst (v := (0 : Int32)) hx hb dX2_init_66 (by decide) ?_
  refine va_put (ci := 3) (v := .int (0 : Int32)) (ty := .int) (C := RX2) (T := TX2) (N := 9) hx hb hT zinX2 tyX2 tyX2_ok nmX2 hown hK hP hD hS 0 rfl rfl 0 (by decide) (hT _ zw198) (fun _ h9 => h9) rfl (by decide +kernel) rfl rfl (Nat.le_of_ble_eq_true rfl) dX2_init_67 (fun H locs hP hD hS => ?_)
  replace hP : va_P D zclX ((h0, .inr (3, [.int (0 : Int32), .int 0, .ref h1, .ref q1, .ref q3, .ref q4, .ref q5, .ref q6, .ref q7])) :: (q1, .inr (5, [.int (0 : Int32), .ref (ad1 0)])) :: ((ad1 0), .inl (cI, 18, .inl (fun _ => 0))) :: (q3, .inl (cJ, 1080, .inr (.inl (fun _ => 0)))) :: (q4, .inl (cI, 1080, .inl (fun _ => 0))) :: (q5, .inl (cI, 1080, .inl (fun _ => 0))) :: (q6, .inl (cI, 1080, .inl (fun _ => 0))) :: (q7, .inl (cJ, 1080, .inr (.inl (fun _ => 0)))) :: []) H := hP
  replace hD : va_D A ((h0, .inr (3, [.int (0 : Int32), .int 0, .ref h1, .ref q1, .ref q3, .ref q4, .ref q5, .ref q6, .ref q7])) :: (q1, .inr (5, [.int (0 : Int32), .ref (ad1 0)])) :: ((ad1 0), .inl (cI, 18, .inl (fun _ => 0))) :: (q3, .inl (cJ, 1080, .inr (.inl (fun _ => 0)))) :: (q4, .inl (cI, 1080, .inl (fun _ => 0))) :: (q5, .inl (cI, 1080, .inl (fun _ => 0))) :: (q6, .inl (cI, 1080, .inl (fun _ => 0))) :: (q7, .inl (cJ, 1080, .inr (.inl (fun _ => 0)))) :: []) := hD
  refine lv_aload_n hx hb dX2_init_70 rfl (lv_at hl 0 rfl) ?_
  refine lv_iconst (v := (0 : Int32)) hx hb dX2_init_71 (by decide) ?_
  refine va_put (ci := 3) (v := .int (0 : Int32)) (ty := .int) (C := RX2) (T := TX2) (N := 9) hx hb hT zinX2 tyX2 tyX2_ok nmX2 hown hK hP hD hS 0 rfl rfl 1 (by decide) (hT _ zw200) (fun _ h9 => h9) rfl (by decide +kernel) rfl rfl (Nat.le_of_ble_eq_true rfl) dX2_init_72 (fun H locs hP hD hS => ?_)
  replace hP : va_P D zclX ((h0, .inr (3, [.int (0 : Int32), .int (0 : Int32), .ref h1, .ref q1, .ref q3, .ref q4, .ref q5, .ref q6, .ref q7])) :: (q1, .inr (5, [.int (0 : Int32), .ref (ad1 0)])) :: ((ad1 0), .inl (cI, 18, .inl (fun _ => 0))) :: (q3, .inl (cJ, 1080, .inr (.inl (fun _ => 0)))) :: (q4, .inl (cI, 1080, .inl (fun _ => 0))) :: (q5, .inl (cI, 1080, .inl (fun _ => 0))) :: (q6, .inl (cI, 1080, .inl (fun _ => 0))) :: (q7, .inl (cJ, 1080, .inr (.inl (fun _ => 0)))) :: []) H := hP
  replace hD : va_D A ((h0, .inr (3, [.int (0 : Int32), .int (0 : Int32), .ref h1, .ref q1, .ref q3, .ref q4, .ref q5, .ref q6, .ref q7])) :: (q1, .inr (5, [.int (0 : Int32), .ref (ad1 0)])) :: ((ad1 0), .inl (cI, 18, .inl (fun _ => 0))) :: (q3, .inl (cJ, 1080, .inr (.inl (fun _ => 0)))) :: (q4, .inl (cI, 1080, .inl (fun _ => 0))) :: (q5, .inl (cI, 1080, .inl (fun _ => 0))) :: (q6, .inl (cI, 1080, .inl (fun _ => 0))) :: (q7, .inl (cJ, 1080, .inr (.inl (fun _ => 0)))) :: []) := hD
  exact hret (fun i => ([q1, (ad1 0), q3, q4, q5, q6, q7] : List Nat).getD i 0) _ _ _ _ dX2_init_75 trivial hP hD hS
set_option maxHeartbeats 8000000 in
set_option maxRecDepth 100000 in
theorem c_X7_init {l : Launch} {D : va_G} (cI cJ cZ cO : ClassId) (h0 : Nat) (h1 : Nat) : zCn l yX7_init cX7_init 2 (zRn 1 1 360 12) D zclX (zty cI cJ cZ cO) [.ref h0, .ref h1] ((h0, .inr (4, [.int 0, .null, .null])) :: []) (fun _ => True) (fun _ : Nat → Nat => True) (fun ad : Nat → Nat => ((h0, .inr (4, [.int (0 : Int32), .ref h1, .ref (ad 0)])) :: ((ad 0), .inl (cJ, 360, .inr (.inl (fun _ => 0)))) :: [])) 1 360 := by
  refine zMn (by decide) (Nat.le_of_ble_eq_true rfl) ?_
  intro p e s m args below meth c A Q hx hb hml hown hT hin hK hXX hret hP hD hA hS ls hl
  replace hown : s.vm.findClass RX7 = some m.cls := hown
  replace hin : meth.name = "<init>" := hin
  replace hl : lv_has ls 2 [(0, .ref h0), (1, .ref h1)] := hl
  refine lv_aload_n hx hb dX7_init_0 rfl (lv_at hl 0 rfl) ?_
  refine W.objInit hx hb hown (hT _ zw232) (hT _ zw58) (hT _ zw59) rfl (by rw [hml]; exact hl.1) rfl dX7_init_1 (Nat.le_of_ble_eq_true rfl) (Nat.le_of_ble_eq_true rfl) ?_
  refine W.eq (g2 := F0 m 4 ls []) rfl ?_
  refine lv_aload_n hx hb dX7_init_4 rfl (lv_at hl 0 rfl) ?_
  refine lv_aload_n hx hb dX7_init_5 rfl (lv_at hl 1 rfl) ?_
  refine va_putF (ci := 4) (v := .ref h1) (ty := .object "FacetFigures$Sorter") (C := RX7) (T := TX7) (N := 3) hx hb hT zinX7 tyX7 tyX7_ok nmX7 hown hK hP hD hS 0 rfl rfl 1 (by decide) (hT _ zw234) (fun _ h9 => h9) rfl hin rfl (by decide +kernel) rfl rfl (Nat.le_of_ble_eq_true rfl) dX7_init_6 (fun H locs hP hD hS => ?_)
  replace hP : va_P D zclX ((h0, .inr (4, [.int 0, .ref h1, .null])) :: []) H := hP
  replace hD : va_D A ((h0, .inr (4, [.int 0, .ref h1, .null])) :: []) := hD
  refine lv_aload_n hx hb dX7_init_9 rfl (lv_at hl 0 rfl) ?_
  refine lv_iconst (v := (0 : Int32)) hx hb dX7_init_10 (by decide) ?_
  refine va_put (ci := 4) (v := .int (0 : Int32)) (ty := .int) (C := RX7) (T := TX7) (N := 3) hx hb hT zinX7 tyX7 tyX7_ok nmX7 hown hK hP hD hS 0 rfl rfl 0 (by decide) (hT _ zw233) (fun _ h9 => h9) rfl (by decide +kernel) rfl rfl (Nat.le_of_ble_eq_true rfl) dX7_init_11 (fun H locs hP hD hS => ?_)
  replace hP : va_P D zclX ((h0, .inr (4, [.int (0 : Int32), .ref h1, .null])) :: []) H := hP
  replace hD : va_D A ((h0, .inr (4, [.int (0 : Int32), .ref h1, .null])) :: []) := hD
  refine lv_aload_n hx hb dX7_init_14 rfl (lv_at hl 0 rfl) ?_
  refine lv_sipush (v := (360 : Int32)) hx hb dX7_init_15 (by decide) ?_
  refine znewa 1 (atype := .long) (ty := .long) (a0 := (360, .inr (.inl (fun _ => 0)))) hx hb (hT _ zw70) rfl hK rfl hP hD hS hA (fun _ => rfl) (by decide) (by decide) (by decide) (by decide) (by decide) dX7_init_18 (fun q1 H hP hD hS => ?_)
  replace hP : va_P D zclX ((h0, .inr (4, [.int (0 : Int32), .ref h1, .null])) :: (q1, .inl (cJ, 360, .inr (.inl (fun _ => 0)))) :: []) H := hP
  replace hD : va_D A ((h0, .inr (4, [.int (0 : Int32), .ref h1, .null])) :: (q1, .inl (cJ, 360, .inr (.inl (fun _ => 0)))) :: []) := hD
  refine va_putF (ci := 4) (v := .ref q1) (ty := .array .long) (C := RX7) (T := TX7) (N := 3) hx hb hT zinX7 tyX7 tyX7_ok nmX7 hown hK hP hD hS 0 rfl rfl 2 (by decide) (hT _ zw235) (fun _ h9 => h9) rfl hin rfl (by decide +kernel) rfl rfl (Nat.le_of_ble_eq_true rfl) dX7_init_20 (fun H locs hP hD hS => ?_)
  replace hP : va_P D zclX ((h0, .inr (4, [.int (0 : Int32), .ref h1, .ref q1])) :: (q1, .inl (cJ, 360, .inr (.inl (fun _ => 0)))) :: []) H := hP
  replace hD : va_D A ((h0, .inr (4, [.int (0 : Int32), .ref h1, .ref q1])) :: (q1, .inl (cJ, 360, .inr (.inl (fun _ => 0)))) :: []) := hD
  exact hret (fun i => ([q1] : List Nat).getD i 0) _ _ _ _ dX7_init_23 trivial hP hD hS
