set_option maxRecDepth 100000 in
set_option maxHeartbeats 1000000 in
theorem c_X1_init (l : Launch) (D : va_G) (ct : Nat → ClassId) (a : Nat) : zT l D ct yX1_init cX1_init 1 none 1 25 7 1450 [.ref a] ([(a, .inr (1, [.null, .null, .null, .null, .int 0, .null, .null, .null]))]) (zn a (fun q => cR q (fun _ _ => 0) ct)) := by
  refine zT_of ([some (.ref a)]) (by decide +kernel) rfl (Nat.le_of_ble_eq_true rfl) ?_
  intro p e s m args below meth c hC hr hnm
  refine z_aload_n hC dX1_init_0 rfl ?_
  refine z_objInit hC bw_42 dX1_init_1 (Nat.le_of_ble_eq_true rfl) (Nat.le_of_ble_eq_true rfl) ?_
  refine z_aload_n hC dX1_init_4 rfl ?_
  refine z_bipush (v := 60) hC dX1_init_5 (by decide) ?_
  refine z_newa (atype := .int) (a0 := (60, .inl (fun _ => 0))) 0 60 hC bw_29 rfl (by intro C hC2; cases hC2) rfl (fun cA => rfl) (by decide) (by decide) (by decide) (Nat.le_of_ble_eq_true rfl) (Nat.le_of_ble_eq_true rfl) dX1_init_7 (fun q7 => ?_)
  refine zG_w (w2 := [(a, .inr (1, [.null, .null, .null, .null, .int 0, .null, .null, .null])), (q7, .inl (ct 0, 60, .inl (fun _ => 0)))]) rfl ?_
  refine z_putF (ci := 1) 0 0 hC bl_X1 tyX1_ok nmX1 rfl (by decide) rfl bw_43 hnm rfl rfl rfl rfl rfl (Nat.le_of_ble_eq_true rfl) dX1_init_9 (w2 := [(a, .inr (1, [.ref q7, .null, .null, .null, .int 0, .null, .null, .null])), (q7, .inl (ct 0, 60, .inl (fun _ => 0)))]) rfl ?_
  refine z_aload_n hC dX1_init_12 rfl ?_
  refine z_bipush (v := 60) hC dX1_init_13 (by decide) ?_
  refine z_newa (atype := .int) (a0 := (60, .inl (fun _ => 0))) 0 60 hC bw_29 rfl (by intro C hC2; cases hC2) rfl (fun cA => rfl) (by decide) (by decide) (by decide) (Nat.le_of_ble_eq_true rfl) (Nat.le_of_ble_eq_true rfl) dX1_init_15 (fun q15 => ?_)
  refine zG_w (w2 := [(a, .inr (1, [.ref q7, .null, .null, .null, .int 0, .null, .null, .null])), (q7, .inl (ct 0, 60, .inl (fun _ => 0))), (q15, .inl (ct 0, 60, .inl (fun _ => 0)))]) rfl ?_
  refine z_putF (ci := 1) 0 1 hC bl_X1 tyX1_ok nmX1 rfl (by decide) rfl bw_44 hnm rfl rfl rfl rfl rfl (Nat.le_of_ble_eq_true rfl) dX1_init_17 (w2 := [(a, .inr (1, [.ref q7, .ref q15, .null, .null, .int 0, .null, .null, .null])), (q7, .inl (ct 0, 60, .inl (fun _ => 0))), (q15, .inl (ct 0, 60, .inl (fun _ => 0)))]) rfl ?_
  refine z_aload_n hC dX1_init_20 rfl ?_
  refine z_bipush (v := 60) hC dX1_init_21 (by decide) ?_
  refine z_newa (atype := .int) (a0 := (60, .inl (fun _ => 0))) 0 60 hC bw_29 rfl (by intro C hC2; cases hC2) rfl (fun cA => rfl) (by decide) (by decide) (by decide) (Nat.le_of_ble_eq_true rfl) (Nat.le_of_ble_eq_true rfl) dX1_init_23 (fun q23 => ?_)
  refine zG_w (w2 := [(a, .inr (1, [.ref q7, .ref q15, .null, .null, .int 0, .null, .null, .null])), (q7, .inl (ct 0, 60, .inl (fun _ => 0))), (q15, .inl (ct 0, 60, .inl (fun _ => 0))), (q23, .inl (ct 0, 60, .inl (fun _ => 0)))]) rfl ?_
  refine z_putF (ci := 1) 0 2 hC bl_X1 tyX1_ok nmX1 rfl (by decide) rfl bw_45 hnm rfl rfl rfl rfl rfl (Nat.le_of_ble_eq_true rfl) dX1_init_25 (w2 := [(a, .inr (1, [.ref q7, .ref q15, .ref q23, .null, .int 0, .null, .null, .null])), (q7, .inl (ct 0, 60, .inl (fun _ => 0))), (q15, .inl (ct 0, 60, .inl (fun _ => 0))), (q23, .inl (ct 0, 60, .inl (fun _ => 0)))]) rfl ?_
  refine z_aload_n hC dX1_init_28 rfl ?_
  refine z_bipush (v := 60) hC dX1_init_29 (by decide) ?_
  refine z_newa (atype := .int) (a0 := (60, .inl (fun _ => 0))) 0 60 hC bw_29 rfl (by intro C hC2; cases hC2) rfl (fun cA => rfl) (by decide) (by decide) (by decide) (Nat.le_of_ble_eq_true rfl) (Nat.le_of_ble_eq_true rfl) dX1_init_31 (fun q31 => ?_)
  refine zG_w (w2 := [(a, .inr (1, [.ref q7, .ref q15, .ref q23, .null, .int 0, .null, .null, .null])), (q7, .inl (ct 0, 60, .inl (fun _ => 0))), (q15, .inl (ct 0, 60, .inl (fun _ => 0))), (q23, .inl (ct 0, 60, .inl (fun _ => 0))), (q31, .inl (ct 0, 60, .inl (fun _ => 0)))]) rfl ?_
  refine z_putF (ci := 1) 0 3 hC bl_X1 tyX1_ok nmX1 rfl (by decide) rfl bw_46 hnm rfl rfl rfl rfl rfl (Nat.le_of_ble_eq_true rfl) dX1_init_33 (w2 := [(a, .inr (1, [.ref q7, .ref q15, .ref q23, .ref q31, .int 0, .null, .null, .null])), (q7, .inl (ct 0, 60, .inl (fun _ => 0))), (q15, .inl (ct 0, 60, .inl (fun _ => 0))), (q23, .inl (ct 0, 60, .inl (fun _ => 0))), (q31, .inl (ct 0, 60, .inl (fun _ => 0)))]) rfl ?_
  refine z_aload_n hC dX1_init_36 rfl ?_
  refine z_bipush (v := 10) hC dX1_init_37 (by decide) ?_
  refine z_newa (atype := .int) (a0 := (10, .inl (fun _ => 0))) 0 10 hC bw_29 rfl (by intro C hC2; cases hC2) rfl (fun cA => rfl) (by decide) (by decide) (by decide) (Nat.le_of_ble_eq_true rfl) (Nat.le_of_ble_eq_true rfl) dX1_init_39 (fun q39 => ?_)
  refine zG_w (w2 := [(a, .inr (1, [.ref q7, .ref q15, .ref q23, .ref q31, .int 0, .null, .null, .null])), (q7, .inl (ct 0, 60, .inl (fun _ => 0))), (q15, .inl (ct 0, 60, .inl (fun _ => 0))), (q23, .inl (ct 0, 60, .inl (fun _ => 0))), (q31, .inl (ct 0, 60, .inl (fun _ => 0))), (q39, .inl (ct 0, 10, .inl (fun _ => 0)))]) rfl ?_
  refine z_putF (ci := 1) 0 5 hC bl_X1 tyX1_ok nmX1 rfl (by decide) rfl bw_47 hnm rfl rfl rfl rfl rfl (Nat.le_of_ble_eq_true rfl) dX1_init_41 (w2 := [(a, .inr (1, [.ref q7, .ref q15, .ref q23, .ref q31, .int 0, .ref q39, .null, .null])), (q7, .inl (ct 0, 60, .inl (fun _ => 0))), (q15, .inl (ct 0, 60, .inl (fun _ => 0))), (q23, .inl (ct 0, 60, .inl (fun _ => 0))), (q31, .inl (ct 0, 60, .inl (fun _ => 0))), (q39, .inl (ct 0, 10, .inl (fun _ => 0)))]) rfl ?_
  refine z_aload_n hC dX1_init_44 rfl ?_
  refine z_sipush (v := 600) hC dX1_init_45 (by decide) ?_
  refine z_newa (atype := .int) (a0 := (600, .inl (fun _ => 0))) 0 600 hC bw_29 rfl (by intro C hC2; cases hC2) rfl (fun cA => rfl) (by decide) (by decide) (by decide) (Nat.le_of_ble_eq_true rfl) (Nat.le_of_ble_eq_true rfl) dX1_init_48 (fun q48 => ?_)
  refine zG_w (w2 := [(a, .inr (1, [.ref q7, .ref q15, .ref q23, .ref q31, .int 0, .ref q39, .null, .null])), (q7, .inl (ct 0, 60, .inl (fun _ => 0))), (q15, .inl (ct 0, 60, .inl (fun _ => 0))), (q23, .inl (ct 0, 60, .inl (fun _ => 0))), (q31, .inl (ct 0, 60, .inl (fun _ => 0))), (q39, .inl (ct 0, 10, .inl (fun _ => 0))), (q48, .inl (ct 0, 600, .inl (fun _ => 0)))]) rfl ?_
  refine z_putF (ci := 1) 0 6 hC bl_X1 tyX1_ok nmX1 rfl (by decide) rfl bw_48 hnm rfl rfl rfl rfl rfl (Nat.le_of_ble_eq_true rfl) dX1_init_50 (w2 := [(a, .inr (1, [.ref q7, .ref q15, .ref q23, .ref q31, .int 0, .ref q39, .ref q48, .null])), (q7, .inl (ct 0, 60, .inl (fun _ => 0))), (q15, .inl (ct 0, 60, .inl (fun _ => 0))), (q23, .inl (ct 0, 60, .inl (fun _ => 0))), (q31, .inl (ct 0, 60, .inl (fun _ => 0))), (q39, .inl (ct 0, 10, .inl (fun _ => 0))), (q48, .inl (ct 0, 600, .inl (fun _ => 0)))]) rfl ?_
  refine z_aload_n hC dX1_init_53 rfl ?_
  refine z_sipush (v := 600) hC dX1_init_54 (by decide) ?_
  refine z_newa (atype := .int) (a0 := (600, .inl (fun _ => 0))) 0 600 hC bw_29 rfl (by intro C hC2; cases hC2) rfl (fun cA => rfl) (by decide) (by decide) (by decide) (Nat.le_of_ble_eq_true rfl) (Nat.le_of_ble_eq_true rfl) dX1_init_57 (fun q57 => ?_)
  refine zG_w (w2 := [(a, .inr (1, [.ref q7, .ref q15, .ref q23, .ref q31, .int 0, .ref q39, .ref q48, .null])), (q7, .inl (ct 0, 60, .inl (fun _ => 0))), (q15, .inl (ct 0, 60, .inl (fun _ => 0))), (q23, .inl (ct 0, 60, .inl (fun _ => 0))), (q31, .inl (ct 0, 60, .inl (fun _ => 0))), (q39, .inl (ct 0, 10, .inl (fun _ => 0))), (q48, .inl (ct 0, 600, .inl (fun _ => 0))), (q57, .inl (ct 0, 600, .inl (fun _ => 0)))]) rfl ?_
  refine z_putF (ci := 1) 0 7 hC bl_X1 tyX1_ok nmX1 rfl (by decide) rfl bw_49 hnm rfl rfl rfl rfl rfl (Nat.le_of_ble_eq_true rfl) dX1_init_59 (w2 := [(a, .inr (1, [.ref q7, .ref q15, .ref q23, .ref q31, .int 0, .ref q39, .ref q48, .ref q57])), (q7, .inl (ct 0, 60, .inl (fun _ => 0))), (q15, .inl (ct 0, 60, .inl (fun _ => 0))), (q23, .inl (ct 0, 60, .inl (fun _ => 0))), (q31, .inl (ct 0, 60, .inl (fun _ => 0))), (q39, .inl (ct 0, 10, .inl (fun _ => 0))), (q48, .inl (ct 0, 600, .inl (fun _ => 0))), (q57, .inl (ct 0, 600, .inl (fun _ => 0)))]) rfl ?_
  exact z_vret hC hr dX1_init_62 (Nat.le_of_ble_eq_true rfl) (Nat.le_of_ble_eq_true rfl) (wa := [(a, .inr (1, [.ref q7, .ref q15, .ref q23, .ref q31, .int 0, .ref q39, .ref q48, .ref q57]))]) (wb := [(q7, .inl (ct 0, 60, .inl (fun _ => 0))), (q15, .inl (ct 0, 60, .inl (fun _ => 0))), (q23, .inl (ct 0, 60, .inl (fun _ => 0))), (q31, .inl (ct 0, 60, .inl (fun _ => 0))), (q39, .inl (ct 0, 10, .inl (fun _ => 0))), (q48, .inl (ct 0, 600, .inl (fun _ => 0))), (q57, .inl (ct 0, 600, .inl (fun _ => 0)))]) ⟨rfl, fun i => ([a, q7, q15, q23, q31, q39, q48, q57] : List Nat).getD i 0, rfl, rfl⟩ rfl rfl

set_option maxRecDepth 100000 in
set_option maxHeartbeats 1000000 in
theorem c_X3_init (l : Launch) (D : va_G) (ct : Nat → ClassId) (a : Nat) : zT l D ct yX3_init cX3_init 1 none 1 25 1 80 [.ref a] ([(a, .inr (3, [.null, .int 0, .int 0, .int 0, .int 0, .int 0, .int 0]))]) (zn a (fun q => cT q (fun _ _ => 0) ct)) := by
  refine zT_of ([some (.ref a)]) (by decide +kernel) rfl (Nat.le_of_ble_eq_true rfl) ?_
  intro p e s m args below meth c hC hr hnm
  refine z_aload_n hC dX3_init_0 rfl ?_
  refine z_objInit hC bw_57 dX3_init_1 (Nat.le_of_ble_eq_true rfl) (Nat.le_of_ble_eq_true rfl) ?_
  refine z_aload_n hC dX3_init_4 rfl ?_
  refine z_bipush (v := 80) hC dX3_init_5 (by decide) ?_
  refine z_newa (atype := .char) (a0 := (80, .inl (fun _ => 0))) 2 80 hC bw_58 rfl (by intro C hC2; cases hC2) rfl (fun cA => rfl) (by decide) (by decide) (by decide) (Nat.le_of_ble_eq_true rfl) (Nat.le_of_ble_eq_true rfl) dX3_init_7 (fun q7 => ?_)
  refine zG_w (w2 := [(a, .inr (3, [.null, .int 0, .int 0, .int 0, .int 0, .int 0, .int 0])), (q7, .inl (ct 2, 80, .inl (fun _ => 0)))]) rfl ?_
  refine z_putF (ci := 3) 0 0 hC bl_X3 tyX3_ok nmX3 rfl (by decide) rfl bw_59 hnm rfl rfl rfl rfl rfl (Nat.le_of_ble_eq_true rfl) dX3_init_9 (w2 := [(a, .inr (3, [.ref q7, .int 0, .int 0, .int 0, .int 0, .int 0, .int 0])), (q7, .inl (ct 2, 80, .inl (fun _ => 0)))]) rfl ?_
  exact z_vret hC hr dX3_init_12 (Nat.le_of_ble_eq_true rfl) (Nat.le_of_ble_eq_true rfl) (wa := [(a, .inr (3, [.ref q7, .int 0, .int 0, .int 0, .int 0, .int 0, .int 0]))]) (wb := [(q7, .inl (ct 2, 80, .inl (fun _ => 0)))]) ⟨rfl, fun i => ([a, q7] : List Nat).getD i 0, rfl, rfl⟩ rfl rfl

set_option maxRecDepth 100000 in
set_option maxHeartbeats 1000000 in
theorem c_X0_init (l : Launch) (D : va_G) (ct : Nat → ClassId) (a : Nat) : zT l D ct yX0_init cX0_init 1 none 1 25 1 6 [.ref a] ([(a, .inr (0, [.null, .int 0, .int 0]))]) (zn a (fun q => [(q 0, .inr (0, [.ref (q 1), .int 0, .int 0])), (q 1, .inl (ct 3, 6, .inr (.inr (.inr (.inr (fun _ => none))))))])) := by
  refine zT_of ([some (.ref a)]) (by decide +kernel) rfl (Nat.le_of_ble_eq_true rfl) ?_
  intro p e s m args below meth c hC hr hnm
  refine z_aload_n hC dX0_init_0 rfl ?_
  refine z_objInit hC bw_52 dX0_init_1 (Nat.le_of_ble_eq_true rfl) (Nat.le_of_ble_eq_true rfl) ?_
  refine z_aload_n hC dX0_init_4 rfl ?_
  refine z_bipush (v := 6) hC dX0_init_5 (by decide) ?_
  refine z_newq 6 hC bw_53 (by decide) (by decide) (by decide) (Nat.le_of_ble_eq_true rfl) (Nat.le_of_ble_eq_true rfl) dX0_init_7 (fun q7 => ?_)
  refine zG_w (w2 := [(a, .inr (0, [.null, .int 0, .int 0])), (q7, .inl (ct 3, 6, .inr (.inr (.inr (.inr (fun _ => none))))))]) rfl ?_
  refine z_putF (ci := 0) 0 0 hC bl_X0 tyX0_ok nmX0 rfl (by decide) rfl bw_54 hnm rfl rfl rfl rfl rfl (Nat.le_of_ble_eq_true rfl) dX0_init_10 (w2 := [(a, .inr (0, [.ref q7, .int 0, .int 0])), (q7, .inl (ct 3, 6, .inr (.inr (.inr (.inr (fun _ => none))))))]) rfl ?_
  exact z_vret hC hr dX0_init_13 (Nat.le_of_ble_eq_true rfl) (Nat.le_of_ble_eq_true rfl) (wa := [(a, .inr (0, [.ref q7, .int 0, .int 0]))]) (wb := [(q7, .inl (ct 3, 6, .inr (.inr (.inr (.inr (fun _ => none))))))]) ⟨rfl, fun i => ([a, q7] : List Nat).getD i 0, rfl, rfl⟩ rfl rfl

set_option maxRecDepth 100000 in
set_option maxHeartbeats 1000000 in
theorem c_X2_init (l : Launch) (D : va_G) (ct : Nat → ClassId) (a : Nat) : zT l D ct yX2_init cX2_init 2 none 2 45 15 1618 [.ref a] ([(a, .inr (2, [.null, .null, .null, .null, .null, .null, .null, .null, .int 0, .int 0, .int 0, .int 0, .int 0, .int 0, .int 0]))]) (zn a (fun q => cS q msInit ct)) := by
  refine zT_of ([some (.ref a), none]) (by decide +kernel) rfl (Nat.le_of_ble_eq_true rfl) ?_
  intro p e s m args below meth c hC hr hnm
  refine z_aload_n hC dX2_init_0 rfl ?_
  refine z_objInit hC bw_25 dX2_init_1 (Nat.le_of_ble_eq_true rfl) (Nat.le_of_ble_eq_true rfl) ?_
  refine z_aload_n hC dX2_init_4 rfl ?_
  refine z_bipush (v := 100) hC dX2_init_5 (by decide) ?_
  refine z_newa (atype := .boolean) (a0 := (100, .inl (fun _ => 0))) 1 100 hC bw_26 rfl (by intro C hC2; cases hC2) rfl (fun cA => rfl) (by decide) (by decide) (by decide) (Nat.le_of_ble_eq_true rfl) (Nat.le_of_ble_eq_true rfl) dX2_init_7 (fun q7 => ?_)
  refine zG_w (w2 := [(a, .inr (2, [.null, .null, .null, .null, .null, .null, .null, .null, .int 0, .int 0, .int 0, .int 0, .int 0, .int 0, .int 0])), (q7, .inl (ct 1, 100, .inl (fun _ => 0)))]) rfl ?_
  refine z_putF (ci := 2) 0 0 hC bl_X2 tyX2_ok nmX2 rfl (by decide) rfl bw_27 hnm rfl rfl rfl rfl rfl (Nat.le_of_ble_eq_true rfl) dX2_init_9 (w2 := [(a, .inr (2, [.ref q7, .null, .null, .null, .null, .null, .null, .null, .int 0, .int 0, .int 0, .int 0, .int 0, .int 0, .int 0])), (q7, .inl (ct 1, 100, .inl (fun _ => 0)))]) rfl ?_
  refine z_aload_n hC dX2_init_12 rfl ?_
  refine z_bipush (v := 10) hC dX2_init_13 (by decide) ?_
  refine z_newa (atype := .boolean) (a0 := (10, .inl (fun _ => 0))) 1 10 hC bw_26 rfl (by intro C hC2; cases hC2) rfl (fun cA => rfl) (by decide) (by decide) (by decide) (Nat.le_of_ble_eq_true rfl) (Nat.le_of_ble_eq_true rfl) dX2_init_15 (fun q15 => ?_)
  refine zG_w (w2 := [(a, .inr (2, [.ref q7, .null, .null, .null, .null, .null, .null, .null, .int 0, .int 0, .int 0, .int 0, .int 0, .int 0, .int 0])), (q7, .inl (ct 1, 100, .inl (fun _ => 0))), (q15, .inl (ct 1, 10, .inl (fun _ => 0)))]) rfl ?_
  refine z_putF (ci := 2) 0 1 hC bl_X2 tyX2_ok nmX2 rfl (by decide) rfl bw_28 hnm rfl rfl rfl rfl rfl (Nat.le_of_ble_eq_true rfl) dX2_init_17 (w2 := [(a, .inr (2, [.ref q7, .ref q15, .null, .null, .null, .null, .null, .null, .int 0, .int 0, .int 0, .int 0, .int 0, .int 0, .int 0])), (q7, .inl (ct 1, 100, .inl (fun _ => 0))), (q15, .inl (ct 1, 10, .inl (fun _ => 0)))]) rfl ?_
  refine z_aload_n hC dX2_init_20 rfl ?_
  refine z_bipush (v := 10) hC dX2_init_21 (by decide) ?_
  refine z_newa (atype := .int) (a0 := (10, .inl (fun _ => 0))) 0 10 hC bw_29 rfl (by intro C hC2; cases hC2) rfl (fun cA => rfl) (by decide) (by decide) (by decide) (Nat.le_of_ble_eq_true rfl) (Nat.le_of_ble_eq_true rfl) dX2_init_23 (fun q23 => ?_)
  refine zG_w (w2 := [(a, .inr (2, [.ref q7, .ref q15, .null, .null, .null, .null, .null, .null, .int 0, .int 0, .int 0, .int 0, .int 0, .int 0, .int 0])), (q7, .inl (ct 1, 100, .inl (fun _ => 0))), (q15, .inl (ct 1, 10, .inl (fun _ => 0))), (q23, .inl (ct 0, 10, .inl (fun _ => 0)))]) rfl ?_
  refine z_putF (ci := 2) 0 2 hC bl_X2 tyX2_ok nmX2 rfl (by decide) rfl bw_30 hnm rfl rfl rfl rfl rfl (Nat.le_of_ble_eq_true rfl) dX2_init_25 (w2 := [(a, .inr (2, [.ref q7, .ref q15, .ref q23, .null, .null, .null, .null, .null, .int 0, .int 0, .int 0, .int 0, .int 0, .int 0, .int 0])), (q7, .inl (ct 1, 100, .inl (fun _ => 0))), (q15, .inl (ct 1, 10, .inl (fun _ => 0))), (q23, .inl (ct 0, 10, .inl (fun _ => 0)))]) rfl ?_
  refine z_aload_n hC dX2_init_28 rfl ?_
  refine z_bipush (v := 10) hC dX2_init_29 (by decide) ?_
  refine z_newa (atype := .int) (a0 := (10, .inl (fun _ => 0))) 0 10 hC bw_29 rfl (by intro C hC2; cases hC2) rfl (fun cA => rfl) (by decide) (by decide) (by decide) (Nat.le_of_ble_eq_true rfl) (Nat.le_of_ble_eq_true rfl) dX2_init_31 (fun q31 => ?_)
  refine zG_w (w2 := [(a, .inr (2, [.ref q7, .ref q15, .ref q23, .null, .null, .null, .null, .null, .int 0, .int 0, .int 0, .int 0, .int 0, .int 0, .int 0])), (q7, .inl (ct 1, 100, .inl (fun _ => 0))), (q15, .inl (ct 1, 10, .inl (fun _ => 0))), (q23, .inl (ct 0, 10, .inl (fun _ => 0))), (q31, .inl (ct 0, 10, .inl (fun _ => 0)))]) rfl ?_
  refine z_putF (ci := 2) 0 3 hC bl_X2 tyX2_ok nmX2 rfl (by decide) rfl bw_31 hnm rfl rfl rfl rfl rfl (Nat.le_of_ble_eq_true rfl) dX2_init_33 (w2 := [(a, .inr (2, [.ref q7, .ref q15, .ref q23, .ref q31, .null, .null, .null, .null, .int 0, .int 0, .int 0, .int 0, .int 0, .int 0, .int 0])), (q7, .inl (ct 1, 100, .inl (fun _ => 0))), (q15, .inl (ct 1, 10, .inl (fun _ => 0))), (q23, .inl (ct 0, 10, .inl (fun _ => 0))), (q31, .inl (ct 0, 10, .inl (fun _ => 0)))]) rfl ?_
  refine z_aload_n hC dX2_init_36 rfl ?_
  refine z_bipush (v := 10) hC dX2_init_37 (by decide) ?_
  refine z_newa (atype := .int) (a0 := (10, .inl (fun _ => 0))) 0 10 hC bw_29 rfl (by intro C hC2; cases hC2) rfl (fun cA => rfl) (by decide) (by decide) (by decide) (Nat.le_of_ble_eq_true rfl) (Nat.le_of_ble_eq_true rfl) dX2_init_39 (fun q39 => ?_)
  refine zG_w (w2 := [(a, .inr (2, [.ref q7, .ref q15, .ref q23, .ref q31, .null, .null, .null, .null, .int 0, .int 0, .int 0, .int 0, .int 0, .int 0, .int 0])), (q7, .inl (ct 1, 100, .inl (fun _ => 0))), (q15, .inl (ct 1, 10, .inl (fun _ => 0))), (q23, .inl (ct 0, 10, .inl (fun _ => 0))), (q31, .inl (ct 0, 10, .inl (fun _ => 0))), (q39, .inl (ct 0, 10, .inl (fun _ => 0)))]) rfl ?_
  refine z_putF (ci := 2) 0 4 hC bl_X2 tyX2_ok nmX2 rfl (by decide) rfl bw_32 hnm rfl rfl rfl rfl rfl (Nat.le_of_ble_eq_true rfl) dX2_init_41 (w2 := [(a, .inr (2, [.ref q7, .ref q15, .ref q23, .ref q31, .ref q39, .null, .null, .null, .int 0, .int 0, .int 0, .int 0, .int 0, .int 0, .int 0])), (q7, .inl (ct 1, 100, .inl (fun _ => 0))), (q15, .inl (ct 1, 10, .inl (fun _ => 0))), (q23, .inl (ct 0, 10, .inl (fun _ => 0))), (q31, .inl (ct 0, 10, .inl (fun _ => 0))), (q39, .inl (ct 0, 10, .inl (fun _ => 0)))]) rfl ?_
  refine z_aload_n hC dX2_init_44 rfl ?_
  refine z_bipush (v := 10) hC dX2_init_45 (by decide) ?_
  refine z_newa (atype := .int) (a0 := (10, .inl (fun _ => 0))) 0 10 hC bw_29 rfl (by intro C hC2; cases hC2) rfl (fun cA => rfl) (by decide) (by decide) (by decide) (Nat.le_of_ble_eq_true rfl) (Nat.le_of_ble_eq_true rfl) dX2_init_47 (fun q47 => ?_)
  refine zG_w (w2 := [(a, .inr (2, [.ref q7, .ref q15, .ref q23, .ref q31, .ref q39, .null, .null, .null, .int 0, .int 0, .int 0, .int 0, .int 0, .int 0, .int 0])), (q7, .inl (ct 1, 100, .inl (fun _ => 0))), (q15, .inl (ct 1, 10, .inl (fun _ => 0))), (q23, .inl (ct 0, 10, .inl (fun _ => 0))), (q31, .inl (ct 0, 10, .inl (fun _ => 0))), (q39, .inl (ct 0, 10, .inl (fun _ => 0))), (q47, .inl (ct 0, 10, .inl (fun _ => 0)))]) rfl ?_
  refine z_putF (ci := 2) 0 5 hC bl_X2 tyX2_ok nmX2 rfl (by decide) rfl bw_33 hnm rfl rfl rfl rfl rfl (Nat.le_of_ble_eq_true rfl) dX2_init_49 (w2 := [(a, .inr (2, [.ref q7, .ref q15, .ref q23, .ref q31, .ref q39, .ref q47, .null, .null, .int 0, .int 0, .int 0, .int 0, .int 0, .int 0, .int 0])), (q7, .inl (ct 1, 100, .inl (fun _ => 0))), (q15, .inl (ct 1, 10, .inl (fun _ => 0))), (q23, .inl (ct 0, 10, .inl (fun _ => 0))), (q31, .inl (ct 0, 10, .inl (fun _ => 0))), (q39, .inl (ct 0, 10, .inl (fun _ => 0))), (q47, .inl (ct 0, 10, .inl (fun _ => 0)))]) rfl ?_
  refine z_aload_n hC dX2_init_52 rfl ?_
  refine z_bipush (v := 10) hC dX2_init_53 (by decide) ?_
  refine z_newa (atype := .int) (a0 := (10, .inl (fun _ => 0))) 0 10 hC bw_29 rfl (by intro C hC2; cases hC2) rfl (fun cA => rfl) (by decide) (by decide) (by decide) (Nat.le_of_ble_eq_true rfl) (Nat.le_of_ble_eq_true rfl) dX2_init_55 (fun q55 => ?_)
  refine zG_w (w2 := [(a, .inr (2, [.ref q7, .ref q15, .ref q23, .ref q31, .ref q39, .ref q47, .null, .null, .int 0, .int 0, .int 0, .int 0, .int 0, .int 0, .int 0])), (q7, .inl (ct 1, 100, .inl (fun _ => 0))), (q15, .inl (ct 1, 10, .inl (fun _ => 0))), (q23, .inl (ct 0, 10, .inl (fun _ => 0))), (q31, .inl (ct 0, 10, .inl (fun _ => 0))), (q39, .inl (ct 0, 10, .inl (fun _ => 0))), (q47, .inl (ct 0, 10, .inl (fun _ => 0))), (q55, .inl (ct 0, 10, .inl (fun _ => 0)))]) rfl ?_
  refine z_putF (ci := 2) 0 6 hC bl_X2 tyX2_ok nmX2 rfl (by decide) rfl bw_34 hnm rfl rfl rfl rfl rfl (Nat.le_of_ble_eq_true rfl) dX2_init_57 (w2 := [(a, .inr (2, [.ref q7, .ref q15, .ref q23, .ref q31, .ref q39, .ref q47, .ref q55, .null, .int 0, .int 0, .int 0, .int 0, .int 0, .int 0, .int 0])), (q7, .inl (ct 1, 100, .inl (fun _ => 0))), (q15, .inl (ct 1, 10, .inl (fun _ => 0))), (q23, .inl (ct 0, 10, .inl (fun _ => 0))), (q31, .inl (ct 0, 10, .inl (fun _ => 0))), (q39, .inl (ct 0, 10, .inl (fun _ => 0))), (q47, .inl (ct 0, 10, .inl (fun _ => 0))), (q55, .inl (ct 0, 10, .inl (fun _ => 0)))]) rfl ?_
  refine z_aload_n hC dX2_init_60 rfl ?_
  refine z_new (ci := 1) (fs := [.null, .null, .null, .null, .int 0, .null, .null, .null]) hC bl_X1 tyX1_ok bw_35 bw_36 bw_37 rfl (by intro j hj; match j, hj with | 0, _ => rfl | 1, _ => rfl | 2, _ => rfl | 3, _ => rfl | 4, _ => rfl | 5, _ => rfl | 6, _ => rfl | 7, _ => rfl) (Nat.le_of_ble_eq_true rfl) (Nat.le_of_ble_eq_true rfl) dX2_init_61 (fun q61 => ?_)
  refine zG_w (w2 := [(a, .inr (2, [.ref q7, .ref q15, .ref q23, .ref q31, .ref q39, .ref q47, .ref q55, .null, .int 0, .int 0, .int 0, .int 0, .int 0, .int 0, .int 0])), (q7, .inl (ct 1, 100, .inl (fun _ => 0))), (q15, .inl (ct 1, 10, .inl (fun _ => 0))), (q23, .inl (ct 0, 10, .inl (fun _ => 0))), (q31, .inl (ct 0, 10, .inl (fun _ => 0))), (q39, .inl (ct 0, 10, .inl (fun _ => 0))), (q47, .inl (ct 0, 10, .inl (fun _ => 0))), (q55, .inl (ct 0, 10, .inl (fun _ => 0))), (q61, .inr (1, [.null, .null, .null, .null, .int 0, .null, .null, .null]))]) rfl ?_
  refine z_dup hC dX2_init_64 rfl ?_
  refine z_callIN [8] hC (c_X1_init l D ct q61) nw_1 bw_40 bw_37 bw_41 rfl 0 (by decide +kernel) rfl rfl rfl ⟨Nat.le_of_ble_eq_true rfl, Nat.le_of_ble_eq_true rfl⟩ (Nat.le_of_ble_eq_true rfl) ⟨Nat.le_of_ble_eq_true rfl, Nat.le_of_ble_eq_true rfl⟩ rfl dX2_init_65 ?_
  refine zkn (G := fun v1 w1 => zG p l e _ s m args below meth c D _ _ _ _ _ _ _ (v1.toList ++ _) w1) rfl (fun r65 hr65 => ?_)
  subst hr65
  refine zG_w (w2 := [(a, .inr (2, [.ref q7, .ref q15, .ref q23, .ref q31, .ref q39, .ref q47, .ref q55, .null, .int 0, .int 0, .int 0, .int 0, .int 0, .int 0, .int 0])), (q7, .inl (ct 1, 100, .inl (fun _ => 0))), (q15, .inl (ct 1, 10, .inl (fun _ => 0))), (q23, .inl (ct 0, 10, .inl (fun _ => 0))), (q31, .inl (ct 0, 10, .inl (fun _ => 0))), (q39, .inl (ct 0, 10, .inl (fun _ => 0))), (q47, .inl (ct 0, 10, .inl (fun _ => 0))), (q55, .inl (ct 0, 10, .inl (fun _ => 0))), (r65 0, .inr (1, [.ref (r65 1), .ref (r65 2), .ref (r65 3), .ref (r65 4), .int 0, .ref (r65 5), .ref (r65 6), .ref (r65 7)])), (r65 1, .inl (ct 0, 60, .inl (fun _ => 0))), (r65 2, .inl (ct 0, 60, .inl (fun _ => 0))), (r65 3, .inl (ct 0, 60, .inl (fun _ => 0))), (r65 4, .inl (ct 0, 60, .inl (fun _ => 0))), (r65 5, .inl (ct 0, 10, .inl (fun _ => 0))), (r65 6, .inl (ct 0, 600, .inl (fun _ => 0))), (r65 7, .inl (ct 0, 600, .inl (fun _ => 0)))]) rfl ?_
  refine z_putF (ci := 2) 0 7 hC bl_X2 tyX2_ok nmX2 rfl (by decide) rfl bw_38 hnm rfl rfl rfl rfl rfl (Nat.le_of_ble_eq_true rfl) dX2_init_68 (w2 := [(a, .inr (2, [.ref q7, .ref q15, .ref q23, .ref q31, .ref q39, .ref q47, .ref q55, .ref (r65 0), .int 0, .int 0, .int 0, .int 0, .int 0, .int 0, .int 0])), (q7, .inl (ct 1, 100, .inl (fun _ => 0))), (q15, .inl (ct 1, 10, .inl (fun _ => 0))), (q23, .inl (ct 0, 10, .inl (fun _ => 0))), (q31, .inl (ct 0, 10, .inl (fun _ => 0))), (q39, .inl (ct 0, 10, .inl (fun _ => 0))), (q47, .inl (ct 0, 10, .inl (fun _ => 0))), (q55, .inl (ct 0, 10, .inl (fun _ => 0))), (r65 0, .inr (1, [.ref (r65 1), .ref (r65 2), .ref (r65 3), .ref (r65 4), .int 0, .ref (r65 5), .ref (r65 6), .ref (r65 7)])), (r65 1, .inl (ct 0, 60, .inl (fun _ => 0))), (r65 2, .inl (ct 0, 60, .inl (fun _ => 0))), (r65 3, .inl (ct 0, 60, .inl (fun _ => 0))), (r65 4, .inl (ct 0, 60, .inl (fun _ => 0))), (r65 5, .inl (ct 0, 10, .inl (fun _ => 0))), (r65 6, .inl (ct 0, 600, .inl (fun _ => 0))), (r65 7, .inl (ct 0, 600, .inl (fun _ => 0)))]) rfl ?_
  refine z_aload_n hC dX2_init_71 rfl ?_
  refine z_iconst (v := 2) hC dX2_init_72 (by decide) ?_
  refine z_put (ci := 2) 0 9 hC bl_X2 tyX2_ok nmX2 rfl (by decide) rfl bw_39 rfl rfl rfl rfl (Nat.le_of_ble_eq_true rfl) dX2_init_73 (w2 := [(a, .inr (2, [.ref q7, .ref q15, .ref q23, .ref q31, .ref q39, .ref q47, .ref q55, .ref (r65 0), .int 0, .int 2, .int 0, .int 0, .int 0, .int 0, .int 0])), (q7, .inl (ct 1, 100, .inl (fun _ => 0))), (q15, .inl (ct 1, 10, .inl (fun _ => 0))), (q23, .inl (ct 0, 10, .inl (fun _ => 0))), (q31, .inl (ct 0, 10, .inl (fun _ => 0))), (q39, .inl (ct 0, 10, .inl (fun _ => 0))), (q47, .inl (ct 0, 10, .inl (fun _ => 0))), (q55, .inl (ct 0, 10, .inl (fun _ => 0))), (r65 0, .inr (1, [.ref (r65 1), .ref (r65 2), .ref (r65 3), .ref (r65 4), .int 0, .ref (r65 5), .ref (r65 6), .ref (r65 7)])), (r65 1, .inl (ct 0, 60, .inl (fun _ => 0))), (r65 2, .inl (ct 0, 60, .inl (fun _ => 0))), (r65 3, .inl (ct 0, 60, .inl (fun _ => 0))), (r65 4, .inl (ct 0, 60, .inl (fun _ => 0))), (r65 5, .inl (ct 0, 10, .inl (fun _ => 0))), (r65 6, .inl (ct 0, 600, .inl (fun _ => 0))), (r65 7, .inl (ct 0, 600, .inl (fun _ => 0)))]) rfl ?_
  obtain ⟨σz, eσz⟩ : ∃ z, z = u2 msZero 0 1 2 := ⟨_, rfl⟩
  refine zG_w (w2 := cS (fun i => if i < 8 then ([a, q7, q15, q23, q31, q39, q47, q55] : List Nat).getD i 0 else r65 (i - 8)) σz ct) (by rw [eσz]; rfl) ?_
  refine z_iconst (v := 0) hC dX2_init_76 (by decide) ?_
  refine z_istore_n hC dX2_init_77 (by decide) rfl ?_
  have loop78 : ∀ (kf i : Nat) (σx : Nat → Nat → Int32) (hki : kf + i = 10) (hF : kfor msInit1 kf i σx = msInit), zG p l e { frames := 2, cells := 15, slots := 1618, locals := 45 } s m args below meth c D (va_A ([(a, .inr (2, [.null, .null, .null, .null, .null, .null, .null, .null, .int 0, .int 0, .int 0, .int 0, .int 0, .int 0, .int 0]))]) s.heap.size) 2 (MQ below (zQ D ct ([(a, .inr (2, [.null, .null, .null, .null, .null, .null, .null, .null, .int 0, .int 0, .int 0, .int 0, .int 0, .int 0, .int 0]))]) s.heap.size (zn a (fun q => cS q msInit ct))) args s 15 1618 (va_A ([(a, .inr (2, [.null, .null, .null, .null, .null, .null, .null, .null, .int 0, .int 0, .int 0, .int 0, .int 0, .int 0, .int 0]))]) s.heap.size)) 15 1618 78 [some (.ref a), some (.int (nI i))] [] (cS (fun i => if i < 8 then ([a, q7, q15, q23, q31, q39, q47, q55] : List Nat).getD i 0 else r65 (i - 8)) σx ct) := by
    intro kf
    induction kf with
    | zero =>
      intro i σx hki hF
      refine z_iload_n hC dX2_init_78 rfl ?_
      refine z_bipush (v := 10) hC dX2_init_79 (by decide) ?_
      refine z_icmp_ge hC 119 dX2_init_81 (by decide) (fun c81 => ?_) (fun c81 => absurd (kge 10 rfl (by omega) (by omega)) c81)
      refine zG_w (w2 := cS (fun i => if i < 8 then ([a, q7, q15, q23, q31, q39, q47, q55] : List Nat).getD i 0 else r65 (i - 8)) msInit ct) (congrArg (fun z => cS (fun i => if i < 8 then ([a, q7, q15, q23, q31, q39, q47, q55] : List Nat).getD i 0 else r65 (i - 8)) z ct) hF) ?_
      exact z_vret hC hr dX2_init_119 (Nat.le_refl _) (Nat.le_refl _) (wa := (cS (fun i => if i < 8 then ([a, q7, q15, q23, q31, q39, q47, q55] : List Nat).getD i 0 else r65 (i - 8)) msInit ct).take 1) (wb := (cS (fun i => if i < 8 then ([a, q7, q15, q23, q31, q39, q47, q55] : List Nat).getD i 0 else r65 (i - 8)) msInit ct).drop 1) ⟨rfl, (fun i => if i < 8 then ([a, q7, q15, q23, q31, q39, q47, q55] : List Nat).getD i 0 else r65 (i - 8)), rfl, rfl⟩ rfl rfl
    | succ kf ih =>
      intro i σx hki hF
      refine z_iload_n hC dX2_init_78 rfl ?_
      refine z_bipush (v := 10) hC dX2_init_79 (by decide) ?_
      refine z_icmp_ge hC 119 dX2_init_81 (by decide) (fun c81 => absurd c81 (klt 10 rfl (by omega) (by decide))) (fun c81 => ?_)
      refine z_aload_n hC dX2_init_84 rfl ?_
      refine z_get 0 1 hC bl_X2 (ci := 2) rfl (by decide) rfl bw_28 rfl rfl dX2_init_85 ?_
      refine z_iload_n hC dX2_init_88 rfl ?_
      refine z_iconst (v := 1) hC dX2_init_89 (by decide) ?_
      refine z_zast 2 1 hC rfl rfl (v10 (by omega)) dX2_init_90 (w2 := cS (fun i => if i < 8 then ([a, q7, q15, q23, q31, q39, q47, q55] : List Nat).getD i 0 else r65 (i - 8)) (u2 σx 2 (((nI i)).toNatClampNeg) (vp_nar .boolean 1)) ct) cS_a2 ?_
      obtain ⟨σ1, eσ1⟩ : ∃ zz_, zz_ = u2 σx 2 (((nI i)).toNatClampNeg) (vp_nar .boolean 1) := ⟨_, rfl⟩
      rw [← eσ1]
      refine z_aload_n hC dX2_init_91 rfl ?_
      refine z_get 0 2 hC bl_X2 (ci := 2) rfl (by decide) rfl bw_30 rfl rfl dX2_init_92 ?_
      refine z_iload_n hC dX2_init_95 rfl ?_
      refine z_iconst (v := (-1)) hC dX2_init_96 (by decide) ?_
      refine z_iast 3 0 hC rfl rfl (v10 (by omega)) dX2_init_97 (w2 := cS (fun i => if i < 8 then ([a, q7, q15, q23, q31, q39, q47, q55] : List Nat).getD i 0 else r65 (i - 8)) (u2 σ1 3 (((nI i)).toNatClampNeg) (-1)) ct) cS_a3 ?_
      obtain ⟨σ2, eσ2⟩ : ∃ zz_, zz_ = u2 σ1 3 (((nI i)).toNatClampNeg) (-1) := ⟨_, rfl⟩
      rw [← eσ2]
      refine z_aload_n hC dX2_init_98 rfl ?_
      refine z_get 0 3 hC bl_X2 (ci := 2) rfl (by decide) rfl bw_31 rfl rfl dX2_init_99 ?_
      refine z_iload_n hC dX2_init_102 rfl ?_
      refine z_iload_n hC dX2_init_103 rfl ?_
      refine z_if_ne hC 111 dX2_init_104 (by decide) (fun c104 => ?_) (fun c104 => ?_)
      · refine z_iconst (v := (-1)) hC dX2_init_111 (by decide) ?_
        refine z_iast 4 0 hC rfl rfl (v10 (by omega)) dX2_init_112 (w2 := cS (fun i => if i < 8 then ([a, q7, q15, q23, q31, q39, q47, q55] : List Nat).getD i 0 else r65 (i - 8)) (u2 σ2 4 (((nI i)).toNatClampNeg) (-1)) ct) cS_a4 ?_
        obtain ⟨σ3, eσ3⟩ : ∃ zz_, zz_ = u2 σ2 4 (((nI i)).toNatClampNeg) (-1) := ⟨_, rfl⟩
        rw [← eσ3]
        refine z_iinc (cn := 1) hC dX2_init_113 (by decide) (by decide) rfl rfl ?_
        refine z_goto hC 78 dX2_init_116 (by decide) ?_
        rw [nI_1]
        exact ih (i + 1) σ3 (by omega) (by rw [← hF, eσ3, eσ2, eσ1]; simp [kfor, msInit1, c81, c104, i_nle.mp c81])
      · refine z_iconst (v := 0) hC dX2_init_107 (by decide) ?_
        refine z_goto hC 112 dX2_init_108 (by decide) ?_
        refine z_iast 4 0 hC rfl rfl (v10 (by omega)) dX2_init_112 (w2 := cS (fun i => if i < 8 then ([a, q7, q15, q23, q31, q39, q47, q55] : List Nat).getD i 0 else r65 (i - 8)) (u2 σ2 4 (((nI i)).toNatClampNeg) 0) ct) cS_a4 ?_
        obtain ⟨σ4, eσ4⟩ : ∃ zz_, zz_ = u2 σ2 4 (((nI i)).toNatClampNeg) 0 := ⟨_, rfl⟩
        rw [← eσ4]
        refine z_iinc (cn := 1) hC dX2_init_113 (by decide) (by decide) rfl rfl ?_
        refine z_goto hC 78 dX2_init_116 (by decide) ?_
        rw [nI_1]
        exact ih (i + 1) σ4 (by omega) (by rw [← hF, eσ4, eσ2, eσ1]; simp [kfor, msInit1, c81, c104, i_nle.mp c81])
  exact loop78 _ 0 σz (Nat.add_zero _) (by rw [eσz]; rfl)
