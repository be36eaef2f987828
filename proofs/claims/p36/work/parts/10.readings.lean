set_option maxRecDepth 100000 in
set_option maxHeartbeats 1000000 in
theorem c_X4_isNode (l : Launch) (D : va_G) (ct : Nat → ClassId) (n : Int32) : zT l D ct yX4_isNode cX4_isNode 1 (some .boolean) 0 0 0 0 [.int n] (([] : va_W)) (zd (some (.int (bI (mNode n)))) (([] : va_W))) := by
  refine zT_of ([some (.int n)]) (by decide +kernel) rfl (Nat.le_of_ble_eq_true rfl) ?_
  intro p e s m args below meth c hC hr hnm
  refine z_iload_n hC dX4_isNode_0 rfl ?_
  refine z_if_lt hC 14 dX4_isNode_1 (by decide) (fun c1 => ?_) (fun c1 => ?_)
  · refine z_iconst (v := 0) hC dX4_isNode_14 (by decide) ?_
    exact z_zretd hC hr (rfl) dX4_isNode_15 (Nat.zero_le _) (Nat.zero_le _) (by clear hC hr hnm; first | rfl | (simp [mNode, bI, c1, i_nle.mpr c1, *]; done) | (simp_all [mNode, bI, c1, i_nle.mpr c1]; done)) (by first | rfl | (simp [mNode, bI, c1, i_nle.mpr c1, *]; done)) rfl
  · refine z_iload_n hC dX4_isNode_4 rfl ?_
    refine z_bipush (v := 10) hC dX4_isNode_5 (by decide) ?_
    refine z_icmp_ge hC 14 dX4_isNode_7 (by decide) (fun c7 => ?_) (fun c7 => ?_)
    · refine z_iconst (v := 0) hC dX4_isNode_14 (by decide) ?_
      exact z_zretd hC hr (rfl) dX4_isNode_15 (Nat.zero_le _) (Nat.zero_le _) (by clear hC hr hnm; first | rfl | (simp [mNode, bI, c1, c7, i_nlt.mp c1, i_nlt.mpr c7, *]; done) | (simp_all [mNode, bI, c1, c7, i_nlt.mp c1, i_nlt.mpr c7]; done)) (by first | rfl | (simp [mNode, bI, c1, c7, i_nlt.mp c1, i_nlt.mpr c7, *]; done)) rfl
    · refine z_iconst (v := 1) hC dX4_isNode_10 (by decide) ?_
      refine z_goto hC 15 dX4_isNode_11 (by decide) ?_
      exact z_zretd hC hr (rfl) dX4_isNode_15 (Nat.zero_le _) (Nat.zero_le _) (by clear hC hr hnm; first | rfl | (simp [mNode, bI, c1, c7, i_nlt.mp c1, i_nle.mp c7, *]; done) | (simp_all [mNode, bI, c1, c7, i_nlt.mp c1, i_nle.mp c7]; done)) (by first | rfl | (simp [mNode, bI, c1, c7, i_nlt.mp c1, i_nle.mp c7, *]; done)) rfl

set_option maxRecDepth 100000 in
set_option maxHeartbeats 1000000 in
theorem c_J9_floorMod_7cf53 (l : Launch) (D : va_G) (ct : Nat → ClassId) (x y : Int32) (hy : ¬ y = 0) : zT l D ct yJ9_floorMod_7cf53 cJ9_floorMod_7cf53 3 (some .int) 0 0 0 0 [.int x, .int y] (([] : va_W)) (zd (some (.int (mFloor x y))) (([] : va_W))) := by
  refine zT_of ([some (.int x), some (.int y), none]) (by decide +kernel) rfl (Nat.le_of_ble_eq_true rfl) ?_
  intro p e s m args below meth c hC hr hnm
  refine z_iload_n hC dJ9_floorMod_7cf53_0 rfl ?_
  refine z_iload_n hC dJ9_floorMod_7cf53_1 rfl ?_
  refine z_irem hC dJ9_floorMod_7cf53_2 hy ?_
  refine z_istore_n hC dJ9_floorMod_7cf53_3 (by decide) rfl ?_
  refine z_iload_n hC dJ9_floorMod_7cf53_4 rfl ?_
  refine z_iload_n hC dJ9_floorMod_7cf53_5 rfl ?_
  refine z_ixor hC dJ9_floorMod_7cf53_6 ?_
  refine z_if_ge hC 18 dJ9_floorMod_7cf53_7 (by decide) (fun c7 => ?_) (fun c7 => ?_)
  · refine z_iload_n hC dJ9_floorMod_7cf53_18 rfl ?_
    exact z_iretd hC hr dJ9_floorMod_7cf53_19 (Nat.zero_le _) (Nat.zero_le _) (by clear hC hr hnm; first | rfl | (simp [mFloor, c7, i_nlt.mpr c7, *]; done) | (simp_all [mFloor, c7, i_nlt.mpr c7]; done)) (by first | rfl | (simp [mFloor, c7, i_nlt.mpr c7, *]; done)) rfl
  · refine z_iload_n hC dJ9_floorMod_7cf53_10 rfl ?_
    refine z_if_eq hC 18 dJ9_floorMod_7cf53_11 (by decide) (fun c11 => ?_) (fun c11 => ?_)
    · refine z_iload_n hC dJ9_floorMod_7cf53_18 rfl ?_
      exact z_iretd hC hr dJ9_floorMod_7cf53_19 (Nat.zero_le _) (Nat.zero_le _) (by clear hC hr hnm; first | rfl | (simp [mFloor, c7, c11, i_nle.mp c7, *]; done) | (simp_all [mFloor, c7, c11, i_nle.mp c7]; done)) (by first | rfl | (simp [mFloor, c7, c11, i_nle.mp c7, *]; done)) rfl
    · refine z_iload_n hC dJ9_floorMod_7cf53_14 rfl ?_
      refine z_iload_n hC dJ9_floorMod_7cf53_15 rfl ?_
      refine z_iadd hC dJ9_floorMod_7cf53_16 ?_
      exact z_iretd hC hr dJ9_floorMod_7cf53_17 (Nat.zero_le _) (Nat.zero_le _) (by clear hC hr hnm; first | rfl | (simp [mFloor, c7, c11, i_nle.mp c7, *]; done) | (simp_all [mFloor, c7, c11, i_nle.mp c7]; done)) (by first | rfl | (simp [mFloor, c7, c11, i_nle.mp c7, *]; done)) rfl

set_option maxRecDepth 100000 in
set_option maxHeartbeats 1000000 in
theorem c_X1_sizeOf (l : Launch) (D : va_G) (ct : Nat → ClassId) (q : Nat → Nat) (ρ : Nat → Nat → Int32) (n : Int32) : zT l D ct yX1_sizeOf cX1_sizeOf 3 (some .int) 1 25 0 0 [.ref (q 0), .int n] (cR q ρ ct) (zd (some (.int (mrSize ρ n))) (cR q ρ ct)) := by
  refine zT_of ([some (.ref (q 0)), some (.int n), none]) (by decide +kernel) rfl (Nat.le_of_ble_eq_true rfl) ?_
  intro p e s m args below meth c hC hr hnm
  refine z_iload_n hC dX1_sizeOf_0 rfl ?_
  refine z_if_lt hC 14 dX1_sizeOf_1 (by decide) (fun c1 => ?_) (fun c1 => ?_)
  · refine z_iconst (v := 0) hC dX1_sizeOf_14 (by decide) ?_
    refine z_istore_n hC dX1_sizeOf_15 (by decide) rfl ?_
    refine z_iload_n hC dX1_sizeOf_16 rfl ?_
    refine z_if_eq hC 34 dX1_sizeOf_17 (by decide) (fun cn1 => ?_) (fun cn1 => absurd cn1 (by decide))
    refine z_iconst (v := 0) hC dX1_sizeOf_34 (by decide) ?_
    exact z_iretd hC hr dX1_sizeOf_35 (Nat.zero_le _) (Nat.zero_le _) (by clear hC hr hnm; first | rfl | (simp [mrSize, c1, i_nle.mpr c1, *]; done) | (simp_all [mrSize, c1, i_nle.mpr c1]; done)) (by first | rfl | (simp [mrSize, c1, i_nle.mpr c1, *]; done)) cR_adr
  · refine z_iload_n hC dX1_sizeOf_4 rfl ?_
    refine z_bipush (v := 10) hC dX1_sizeOf_5 (by decide) ?_
    refine z_icmp_ge hC 14 dX1_sizeOf_7 (by decide) (fun c7 => ?_) (fun c7 => ?_)
    · refine z_iconst (v := 0) hC dX1_sizeOf_14 (by decide) ?_
      refine z_istore_n hC dX1_sizeOf_15 (by decide) rfl ?_
      refine z_iload_n hC dX1_sizeOf_16 rfl ?_
      refine z_if_eq hC 34 dX1_sizeOf_17 (by decide) (fun cn2 => ?_) (fun cn2 => absurd cn2 (by decide))
      refine z_iconst (v := 0) hC dX1_sizeOf_34 (by decide) ?_
      exact z_iretd hC hr dX1_sizeOf_35 (Nat.zero_le _) (Nat.zero_le _) (by clear hC hr hnm; first | rfl | (simp [mrSize, c1, c7, i_nlt.mp c1, i_nlt.mpr c7, *]; done) | (simp_all [mrSize, c1, c7, i_nlt.mp c1, i_nlt.mpr c7]; done)) (by first | rfl | (simp [mrSize, c1, c7, i_nlt.mp c1, i_nlt.mpr c7, *]; done)) cR_adr
    · refine z_iconst (v := 1) hC dX1_sizeOf_10 (by decide) ?_
      refine z_goto hC 15 dX1_sizeOf_11 (by decide) ?_
      refine z_istore_n hC dX1_sizeOf_15 (by decide) rfl ?_
      refine z_iload_n hC dX1_sizeOf_16 rfl ?_
      refine z_if_eq hC 34 dX1_sizeOf_17 (by decide) (fun cn3 => absurd cn3 (by decide)) (fun cn3 => ?_)
      refine z_aload_n hC dX1_sizeOf_20 rfl ?_
      refine z_get 0 5 hC bl_X1 (ci := 1) rfl (by decide) rfl bw_47 rfl rfl dX1_sizeOf_21 ?_
      refine z_iload_n hC dX1_sizeOf_24 rfl ?_
      refine z_iald 5 0 hC rfl rfl (vin 10 rfl c1 c7) dX1_sizeOf_25 ?_
      refine z_bipush (v := 60) hC dX1_sizeOf_26 (by decide) ?_
      refine z_min hC bw_154 dX1_sizeOf_28 (Nat.le_of_ble_eq_true rfl) (Nat.le_of_ble_eq_true rfl) (Nat.zero_le _) (Nat.zero_le _) ?_
      refine z_goto hC 35 dX1_sizeOf_31 (by decide) ?_
      exact z_iretd hC hr dX1_sizeOf_35 (Nat.zero_le _) (Nat.zero_le _) (by clear hC hr hnm; first | rfl | (simp [mrSize, c1, c7, i_nlt.mp c1, i_nle.mp c7, *]; done) | (simp_all [mrSize, c1, c7, i_nlt.mp c1, i_nle.mp c7]; done)) (by first | rfl | (simp [mrSize, c1, c7, i_nlt.mp c1, i_nle.mp c7, *]; done)) cR_adr

set_option maxRecDepth 100000 in
set_option maxHeartbeats 1000000 in
theorem c_X1_isFull (l : Launch) (D : va_G) (ct : Nat → ClassId) (q : Nat → Nat) (ρ : Nat → Nat → Int32) (n : Int32) : zT l D ct yX1_isFull cX1_isFull 2 (some .boolean) 2 60 0 0 [.ref (q 0), .int n] (cR q ρ ct) (zd (some (.int (bI (mrFull ρ n)))) (cR q ρ ct)) := by
  refine zT_of ([some (.ref (q 0)), some (.int n)]) (by decide +kernel) rfl (Nat.le_of_ble_eq_true rfl) ?_
  intro p e s m args below meth c hC hr hnm
  refine z_aload_n hC dX1_isFull_0 rfl ?_
  refine z_iload_n hC dX1_isFull_1 rfl ?_
  refine z_callV [0, 1, 2, 3, 4, 5, 6, 7] 0 1 hC (c_X1_sizeOf l D ct q ρ n) bw_182 bw_151 bw_152 bw_37 bw_153 1 (by decide +kernel) rfl rfl rfl rfl rfl ⟨Nat.le_of_ble_eq_true rfl, Nat.le_of_ble_eq_true rfl⟩ (Nat.le_of_ble_eq_true rfl) ⟨Nat.le_of_ble_eq_true rfl, Nat.le_of_ble_eq_true rfl⟩ rfl dX1_isFull_2 ?_
  refine zkq (G := fun v1 w1 => zG p l e _ s m args below meth c D _ _ _ _ _ _ _ (v1.toList ++ _) w1) rfl ?_
  refine z_iload_n hC dX1_isFull_5 rfl ?_
  refine z_if_ne hC 14 dX1_isFull_6 (by decide) (fun c6 => ?_) (fun c6 => ?_)
  · refine z_bipush (v := 6) hC dX1_isFull_14 (by decide) ?_
    refine z_icmp_lt hC 23 dX1_isFull_16 (by decide) (fun c16 => ?_) (fun c16 => ?_)
    · refine z_iconst (v := 0) hC dX1_isFull_23 (by decide) ?_
      exact z_zretd hC hr (rfl) dX1_isFull_24 (Nat.zero_le _) (Nat.zero_le _) (by clear hC hr hnm; first | rfl | (simp [mrFull, bI, c6, c16, i_nle.mpr c16, *]; done) | (simp_all [mrFull, bI, c6, c16, i_nle.mpr c16]; done)) (by first | rfl | (simp [mrFull, bI, c6, c16, i_nle.mpr c16, *]; done)) cR_adr
    · refine z_iconst (v := 1) hC dX1_isFull_19 (by decide) ?_
      refine z_goto hC 24 dX1_isFull_20 (by decide) ?_
      exact z_zretd hC hr (rfl) dX1_isFull_24 (Nat.zero_le _) (Nat.zero_le _) (by clear hC hr hnm; first | rfl | (simp [mrFull, bI, c6, c16, i_nlt.mp c16, *]; done) | (simp_all [mrFull, bI, c6, c16, i_nlt.mp c16]; done)) (by first | rfl | (simp [mrFull, bI, c6, c16, i_nlt.mp c16, *]; done)) cR_adr
  · refine z_bipush (v := 60) hC dX1_isFull_9 (by decide) ?_
    refine z_goto hC 16 dX1_isFull_11 (by decide) ?_
    refine z_icmp_lt hC 23 dX1_isFull_16 (by decide) (fun c16 => ?_) (fun c16 => ?_)
    · refine z_iconst (v := 0) hC dX1_isFull_23 (by decide) ?_
      exact z_zretd hC hr (rfl) dX1_isFull_24 (Nat.zero_le _) (Nat.zero_le _) (by clear hC hr hnm; first | rfl | (simp [mrFull, bI, c6, c16, i_nle.mpr c16, *]; done) | (simp_all [mrFull, bI, c6, c16, i_nle.mpr c16]; done)) (by first | rfl | (simp [mrFull, bI, c6, c16, i_nle.mpr c16, *]; done)) cR_adr
    · refine z_iconst (v := 1) hC dX1_isFull_19 (by decide) ?_
      refine z_goto hC 24 dX1_isFull_20 (by decide) ?_
      exact z_zretd hC hr (rfl) dX1_isFull_24 (Nat.zero_le _) (Nat.zero_le _) (by clear hC hr hnm; first | rfl | (simp [mrFull, bI, c6, c16, i_nlt.mp c16, *]; done) | (simp_all [mrFull, bI, c6, c16, i_nlt.mp c16]; done)) (by first | rfl | (simp [mrFull, bI, c6, c16, i_nlt.mp c16, *]; done)) cR_adr

set_option maxRecDepth 100000 in
set_option maxHeartbeats 1000000 in
theorem c_X1_idAt (l : Launch) (D : va_G) (ct : Nat → ClassId) (q : Nat → Nat) (ρ : Nat → Nat → Int32) (n i : Int32) : zT l D ct yX1_idAt cX1_idAt 4 (some .int) 2 60 0 0 [.ref (q 0), .int n, .int i] (cR q ρ ct) (zd (some (.int (mrId ρ n i))) (cR q ρ ct)) := by
  refine zT_of ([some (.ref (q 0)), some (.int n), some (.int i), none]) (by decide +kernel) rfl (Nat.le_of_ble_eq_true rfl) ?_
  intro p e s m args below meth c hC hr hnm
  refine z_iload_n hC dX1_idAt_0 rfl ?_
  refine z_if_lt hC 17 dX1_idAt_1 (by decide) (fun c1 => ?_) (fun c1 => ?_)
  · refine z_iconst (v := 0) hC dX1_idAt_17 (by decide) ?_
    refine z_istore_n hC dX1_idAt_18 (by decide) rfl ?_
    refine z_iload_n hC dX1_idAt_19 rfl ?_
    refine z_if_eq hC 37 dX1_idAt_20 (by decide) (fun cn1 => ?_) (fun cn1 => absurd cn1 (by decide))
    refine z_iconst (v := (-1)) hC dX1_idAt_37 (by decide) ?_
    exact z_iretd hC hr dX1_idAt_38 (Nat.zero_le _) (Nat.zero_le _) (by clear hC hr hnm; first | rfl | (simp [mrId, mrAt, c1, i_nle.mpr c1, *]; done) | (simp_all [mrId, mrAt, c1, i_nle.mpr c1]; done)) (by first | rfl | (simp [mrId, mrAt, c1, i_nle.mpr c1, *]; done)) cR_adr
  · refine z_iload_n hC dX1_idAt_4 rfl ?_
    refine z_aload_n hC dX1_idAt_5 rfl ?_
    refine z_iload_n hC dX1_idAt_6 rfl ?_
    refine z_callV [0, 1, 2, 3, 4, 5, 6, 7] 0 1 hC (c_X1_sizeOf l D ct q ρ n) bw_182 bw_151 bw_152 bw_37 bw_153 1 (by decide +kernel) rfl rfl rfl rfl rfl ⟨Nat.le_of_ble_eq_true rfl, Nat.le_of_ble_eq_true rfl⟩ (Nat.le_of_ble_eq_true rfl) ⟨Nat.le_of_ble_eq_true rfl, Nat.le_of_ble_eq_true rfl⟩ rfl dX1_idAt_7 ?_
    refine zkq (G := fun v1 w1 => zG p l e _ s m args below meth c D _ _ _ _ _ _ _ (v1.toList ++ _) w1) rfl ?_
    refine z_icmp_ge hC 17 dX1_idAt_10 (by decide) (fun c10 => ?_) (fun c10 => ?_)
    · refine z_iconst (v := 0) hC dX1_idAt_17 (by decide) ?_
      refine z_istore_n hC dX1_idAt_18 (by decide) rfl ?_
      refine z_iload_n hC dX1_idAt_19 rfl ?_
      refine z_if_eq hC 37 dX1_idAt_20 (by decide) (fun cn2 => ?_) (fun cn2 => absurd cn2 (by decide))
      refine z_iconst (v := (-1)) hC dX1_idAt_37 (by decide) ?_
      exact z_iretd hC hr dX1_idAt_38 (Nat.zero_le _) (Nat.zero_le _) (by clear hC hr hnm; first | rfl | (simp [mrId, mrAt, c1, c10, i_nlt.mp c1, i_nlt.mpr c10, *]; done) | (simp_all [mrId, mrAt, c1, c10, i_nlt.mp c1, i_nlt.mpr c10]; done)) (by first | rfl | (simp [mrId, mrAt, c1, c10, i_nlt.mp c1, i_nlt.mpr c10, *]; done)) cR_adr
    · refine z_iconst (v := 1) hC dX1_idAt_13 (by decide) ?_
      refine z_goto hC 18 dX1_idAt_14 (by decide) ?_
      refine z_istore_n hC dX1_idAt_18 (by decide) rfl ?_
      refine z_iload_n hC dX1_idAt_19 rfl ?_
      refine z_if_eq hC 37 dX1_idAt_20 (by decide) (fun cn3 => absurd cn3 (by decide)) (fun cn3 => ?_)
      refine z_aload_n hC dX1_idAt_23 rfl ?_
      refine z_get 0 6 hC bl_X1 (ci := 1) rfl (by decide) rfl bw_48 rfl rfl dX1_idAt_24 ?_
      refine z_iload_n hC dX1_idAt_27 rfl ?_
      refine z_bipush (v := 60) hC dX1_idAt_28 (by decide) ?_
      refine z_imul hC dX1_idAt_30 ?_
      refine z_iload_n hC dX1_idAt_31 rfl ?_
      refine z_iadd hC dX1_idAt_32 ?_
      refine z_iald 6 0 hC rfl rfl (vrowS c1 c10) dX1_idAt_33 ?_
      refine z_goto hC 38 dX1_idAt_34 (by decide) ?_
      exact z_iretd hC hr dX1_idAt_38 (Nat.zero_le _) (Nat.zero_le _) (by clear hC hr hnm; first | rfl | (simp [mrId, mrAt, c1, c10, i_nlt.mp c1, i_nle.mp c10, *]; done) | (simp_all [mrId, mrAt, c1, c10, i_nlt.mp c1, i_nle.mp c10]; done)) (by first | rfl | (simp [mrId, mrAt, c1, c10, i_nlt.mp c1, i_nle.mp c10, *]; done)) cR_adr

set_option maxRecDepth 100000 in
set_option maxHeartbeats 1000000 in
theorem c_X1_stampAt (l : Launch) (D : va_G) (ct : Nat → ClassId) (q : Nat → Nat) (ρ : Nat → Nat → Int32) (n i : Int32) : zT l D ct yX1_stampAt cX1_stampAt 4 (some .int) 2 60 0 0 [.ref (q 0), .int n, .int i] (cR q ρ ct) (zd (some (.int (mrSt ρ n i))) (cR q ρ ct)) := by
  refine zT_of ([some (.ref (q 0)), some (.int n), some (.int i), none]) (by decide +kernel) rfl (Nat.le_of_ble_eq_true rfl) ?_
  intro p e s m args below meth c hC hr hnm
  refine z_iload_n hC dX1_stampAt_0 rfl ?_
  refine z_if_lt hC 17 dX1_stampAt_1 (by decide) (fun c1 => ?_) (fun c1 => ?_)
  · refine z_iconst (v := 0) hC dX1_stampAt_17 (by decide) ?_
    refine z_istore_n hC dX1_stampAt_18 (by decide) rfl ?_
    refine z_iload_n hC dX1_stampAt_19 rfl ?_
    refine z_if_eq hC 37 dX1_stampAt_20 (by decide) (fun cn1 => ?_) (fun cn1 => absurd cn1 (by decide))
    refine z_iconst (v := (-1)) hC dX1_stampAt_37 (by decide) ?_
    exact z_iretd hC hr dX1_stampAt_38 (Nat.zero_le _) (Nat.zero_le _) (by clear hC hr hnm; first | rfl | (simp [mrSt, mrAt, c1, i_nle.mpr c1, *]; done) | (simp_all [mrSt, mrAt, c1, i_nle.mpr c1]; done)) (by first | rfl | (simp [mrSt, mrAt, c1, i_nle.mpr c1, *]; done)) cR_adr
  · refine z_iload_n hC dX1_stampAt_4 rfl ?_
    refine z_aload_n hC dX1_stampAt_5 rfl ?_
    refine z_iload_n hC dX1_stampAt_6 rfl ?_
    refine z_callV [0, 1, 2, 3, 4, 5, 6, 7] 0 1 hC (c_X1_sizeOf l D ct q ρ n) bw_182 bw_151 bw_152 bw_37 bw_153 1 (by decide +kernel) rfl rfl rfl rfl rfl ⟨Nat.le_of_ble_eq_true rfl, Nat.le_of_ble_eq_true rfl⟩ (Nat.le_of_ble_eq_true rfl) ⟨Nat.le_of_ble_eq_true rfl, Nat.le_of_ble_eq_true rfl⟩ rfl dX1_stampAt_7 ?_
    refine zkq (G := fun v1 w1 => zG p l e _ s m args below meth c D _ _ _ _ _ _ _ (v1.toList ++ _) w1) rfl ?_
    refine z_icmp_ge hC 17 dX1_stampAt_10 (by decide) (fun c10 => ?_) (fun c10 => ?_)
    · refine z_iconst (v := 0) hC dX1_stampAt_17 (by decide) ?_
      refine z_istore_n hC dX1_stampAt_18 (by decide) rfl ?_
      refine z_iload_n hC dX1_stampAt_19 rfl ?_
      refine z_if_eq hC 37 dX1_stampAt_20 (by decide) (fun cn2 => ?_) (fun cn2 => absurd cn2 (by decide))
      refine z_iconst (v := (-1)) hC dX1_stampAt_37 (by decide) ?_
      exact z_iretd hC hr dX1_stampAt_38 (Nat.zero_le _) (Nat.zero_le _) (by clear hC hr hnm; first | rfl | (simp [mrSt, mrAt, c1, c10, i_nlt.mp c1, i_nlt.mpr c10, *]; done) | (simp_all [mrSt, mrAt, c1, c10, i_nlt.mp c1, i_nlt.mpr c10]; done)) (by first | rfl | (simp [mrSt, mrAt, c1, c10, i_nlt.mp c1, i_nlt.mpr c10, *]; done)) cR_adr
    · refine z_iconst (v := 1) hC dX1_stampAt_13 (by decide) ?_
      refine z_goto hC 18 dX1_stampAt_14 (by decide) ?_
      refine z_istore_n hC dX1_stampAt_18 (by decide) rfl ?_
      refine z_iload_n hC dX1_stampAt_19 rfl ?_
      refine z_if_eq hC 37 dX1_stampAt_20 (by decide) (fun cn3 => absurd cn3 (by decide)) (fun cn3 => ?_)
      refine z_aload_n hC dX1_stampAt_23 rfl ?_
      refine z_get 0 7 hC bl_X1 (ci := 1) rfl (by decide) rfl bw_49 rfl rfl dX1_stampAt_24 ?_
      refine z_iload_n hC dX1_stampAt_27 rfl ?_
      refine z_bipush (v := 60) hC dX1_stampAt_28 (by decide) ?_
      refine z_imul hC dX1_stampAt_30 ?_
      refine z_iload_n hC dX1_stampAt_31 rfl ?_
      refine z_iadd hC dX1_stampAt_32 ?_
      refine z_iald 7 0 hC rfl rfl (vrowS c1 c10) dX1_stampAt_33 ?_
      refine z_goto hC 38 dX1_stampAt_34 (by decide) ?_
      exact z_iretd hC hr dX1_stampAt_38 (Nat.zero_le _) (Nat.zero_le _) (by clear hC hr hnm; first | rfl | (simp [mrSt, mrAt, c1, c10, i_nlt.mp c1, i_nle.mp c10, *]; done) | (simp_all [mrSt, mrAt, c1, c10, i_nlt.mp c1, i_nle.mp c10]; done)) (by first | rfl | (simp [mrSt, mrAt, c1, c10, i_nlt.mp c1, i_nle.mp c10, *]; done)) cR_adr

set_option maxRecDepth 100000 in
set_option maxHeartbeats 1000000 in
theorem c_X1_holds (l : Launch) (D : va_G) (ct : Nat → ClassId) (q : Nat → Nat) (ρ : Nat → Nat → Int32) (n id : Int32) : zT l D ct yX1_holds cX1_holds 4 (some .boolean) 2 60 0 0 [.ref (q 0), .int n, .int id] (cR q ρ ct) (zd (some (.int (bI (mrHolds ρ n id)))) (cR q ρ ct)) := by
  refine zT_of ([some (.ref (q 0)), some (.int n), some (.int id), none]) (by decide +kernel) rfl (Nat.le_of_ble_eq_true rfl) ?_
  intro p e s m args below meth c hC hr hnm
  refine z_iconst (v := 0) hC dX1_holds_0 (by decide) ?_
  refine z_istore_n hC dX1_holds_1 (by decide) rfl ?_
  have loop2 : ∀ (kf i : Nat) (hki : kf + i = (mrSize ρ n).toNatClampNeg) (hF : kany (fun i => decide (ρ 6 (mrAt n (nI i)) = id)) kf i = mrHolds ρ n id), zG p l e { frames := 2, cells := 0, slots := 0, locals := 60 } s m args below meth c D (va_A (cR q ρ ct) s.heap.size) 4 (MQ below (zQ D ct (cR q ρ ct) s.heap.size (zd (some (.int (bI (mrHolds ρ n id)))) (cR q ρ ct))) args s 0 0 (va_A (cR q ρ ct) s.heap.size)) 0 0 2 [some (.ref (q 0)), some (.int n), some (.int id), some (.int (nI i))] [] (cR q ρ ct) := by
    intro kf
    induction kf with
    | zero =>
      intro i hki hF
      refine z_iload_n hC dX1_holds_2 rfl ?_
      refine z_aload_n hC dX1_holds_3 rfl ?_
      refine z_iload_n hC dX1_holds_4 rfl ?_
      refine z_callV [0, 1, 2, 3, 4, 5, 6, 7] 0 1 hC (c_X1_sizeOf l D ct q ρ n) bw_182 bw_151 bw_152 bw_37 bw_153 1 (by decide +kernel) rfl rfl rfl rfl rfl ⟨Nat.le_of_ble_eq_true rfl, Nat.le_of_ble_eq_true rfl⟩ (Nat.le_of_ble_eq_true rfl) ⟨Nat.le_of_ble_eq_true rfl, Nat.le_of_ble_eq_true rfl⟩ rfl dX1_holds_5 ?_
      refine zkq (G := fun v1 w1 => zG p l e _ s m args below meth c D _ _ _ _ _ _ _ (v1.toList ++ _) w1) rfl ?_
      refine z_icmp_ge hC 34 dX1_holds_8 (by decide) (fun c8 => ?_) (fun c8 => absurd (lim_ge (by omega) (by have := lim_31 (mrSize ρ n); omega)) c8)
      refine z_iconst (v := 0) hC dX1_holds_34 (by decide) ?_
      exact z_zretd hC hr (rfl) dX1_holds_35 (Nat.zero_le _) (Nat.zero_le _) (by rw [← hF]; rfl) (by first | rfl | (simp [mrHolds, bI, c8, i_nlt.mpr c8, *]; done)) cR_adr
    | succ kf ih =>
      intro i hki hF
      refine z_iload_n hC dX1_holds_2 rfl ?_
      refine z_aload_n hC dX1_holds_3 rfl ?_
      refine z_iload_n hC dX1_holds_4 rfl ?_
      refine z_callV [0, 1, 2, 3, 4, 5, 6, 7] 0 1 hC (c_X1_sizeOf l D ct q ρ n) bw_182 bw_151 bw_152 bw_37 bw_153 1 (by decide +kernel) rfl rfl rfl rfl rfl ⟨Nat.le_of_ble_eq_true rfl, Nat.le_of_ble_eq_true rfl⟩ (Nat.le_of_ble_eq_true rfl) ⟨Nat.le_of_ble_eq_true rfl, Nat.le_of_ble_eq_true rfl⟩ rfl dX1_holds_5 ?_
      refine zkq (G := fun v1 w1 => zG p l e _ s m args below meth c D _ _ _ _ _ _ _ (v1.toList ++ _) w1) rfl ?_
      refine z_icmp_ge hC 34 dX1_holds_8 (by decide) (fun c8 => absurd c8 (lim_lt (by omega))) (fun c8 => ?_)
      refine z_aload_n hC dX1_holds_11 rfl ?_
      refine z_get 0 6 hC bl_X1 (ci := 1) rfl (by decide) rfl bw_48 rfl rfl dX1_holds_12 ?_
      refine z_iload_n hC dX1_holds_15 rfl ?_
      refine z_bipush (v := 60) hC dX1_holds_16 (by decide) ?_
      refine z_imul hC dX1_holds_18 ?_
      refine z_iload_n hC dX1_holds_19 rfl ?_
      refine z_iadd hC dX1_holds_20 ?_
      refine z_iald 6 0 hC rfl rfl (vrowS (nI_pos (by have := lim_31 (mrSize ρ n); omega)) c8) dX1_holds_21 ?_
      refine z_iload_n hC dX1_holds_22 rfl ?_
      refine z_icmp_ne hC 28 dX1_holds_23 (by decide) (fun c23 => ?_) (fun c23 => ?_)
      · refine z_iinc (cn := 1) hC dX1_holds_28 (by decide) (by decide) rfl rfl ?_
        refine z_goto hC 2 dX1_holds_31 (by decide) ?_
        rw [nI_1]
        exact ih (i + 1) (by omega) (by rw [← hF]; simp [kany, mrAt, c23])
      · refine z_iconst (v := 1) hC dX1_holds_26 (by decide) ?_
        exact z_zretd hC hr (rfl) dX1_holds_27 (Nat.zero_le _) (Nat.zero_le _) (by rw [← hF]; simp [kany, bI, mrAt, c23]) (by first | rfl | (simp [mrHolds, bI, c8, c23, i_nle.mp c8, *]; done)) cR_adr
  exact loop2 _ 0 (Nat.add_zero _) rfl

set_option maxRecDepth 100000 in
set_option maxHeartbeats 1000000 in
theorem c_X1_partOf (l : Launch) (D : va_G) (ct : Nat → ClassId) (q : Nat → Nat) (ρ : Nat → Nat → Int32) (n i p0 : Int32) : zT l D ct yX1_partOf cX1_partOf 5 (some .int) 3 83 0 0 [.ref (q 0), .int n, .int i, .int p0] (cR q ρ ct) (zd (some (.int (mrPart ρ n i p0))) (cR q ρ ct)) := by
  refine zT_of ([some (.ref (q 0)), some (.int n), some (.int i), some (.int p0), none]) (by decide +kernel) rfl (Nat.le_of_ble_eq_true rfl) ?_
  intro p e s m args below meth c hC hr hnm
  refine z_aload_n hC dX1_partOf_0 rfl ?_
  refine z_iload_n hC dX1_partOf_1 rfl ?_
  refine z_iload_n hC dX1_partOf_2 rfl ?_
  refine z_callV [0, 1, 2, 3, 4, 5, 6, 7] 0 1 hC (c_X1_idAt l D ct q ρ n i) bw_178 bw_179 bw_180 bw_37 bw_181 2 (by decide +kernel) rfl rfl rfl rfl rfl ⟨Nat.le_of_ble_eq_true rfl, Nat.le_of_ble_eq_true rfl⟩ (Nat.le_of_ble_eq_true rfl) ⟨Nat.le_of_ble_eq_true rfl, Nat.le_of_ble_eq_true rfl⟩ rfl dX1_partOf_3 ?_
  refine zkq (G := fun v1 w1 => zG p l e _ s m args below meth c D _ _ _ _ _ _ _ (v1.toList ++ _) w1) rfl ?_
  refine z_istore hC dX1_partOf_6 (by decide) rfl ?_
  refine z_iload hC dX1_partOf_8 rfl ?_
  refine z_if_lt hC 20 dX1_partOf_10 (by decide) (fun c10 => ?_) (fun c10 => ?_)
  · refine z_iconst (v := (-1)) hC dX1_partOf_20 (by decide) ?_
    exact z_iretd hC hr dX1_partOf_21 (Nat.zero_le _) (Nat.zero_le _) (by clear hC hr hnm; first | rfl | (simp [mrPart, c10, i_nle.mpr c10, *]; done) | (simp_all [mrPart, c10, i_nle.mpr c10]; done)) (by first | rfl | (simp [mrPart, c10, i_nle.mpr c10, *]; done)) cR_adr
  · refine z_iload hC dX1_partOf_13 rfl ?_
    refine z_bipush (v := 60) hC dX1_partOf_15 (by decide) ?_
    refine z_icmp_lt hC 22 dX1_partOf_17 (by decide) (fun c17 => ?_) (fun c17 => ?_)
    · refine z_iload_n hC dX1_partOf_22 rfl ?_
      by_cases s23_0 : p0 = 0
      · refine z_tableIn (off := 29) hC 52 dX1_partOf_23 (by rw [s23_0]; decide) (by rw [s23_0]; decide) (by rw [s23_0]; rfl) (by decide) ?_
        refine z_aload_n hC dX1_partOf_52 rfl ?_
        refine z_get 0 0 hC bl_X1 (ci := 1) rfl (by decide) rfl bw_43 rfl rfl dX1_partOf_53 ?_
        refine z_iload hC dX1_partOf_56 rfl ?_
        refine z_iald 1 0 hC rfl rfl (vin60 c10 c17) dX1_partOf_58 ?_
        exact z_iretd hC hr dX1_partOf_59 (Nat.zero_le _) (Nat.zero_le _) (by clear hC hr hnm; first | rfl | (simp [mrPart, c10, c17, s23_0, i_nlt.mp c10, i_nle.mpr c17, *]; done) | (simp_all [mrPart, c10, c17, s23_0, i_nlt.mp c10, i_nle.mpr c17]; done)) (by first | rfl | (simp [mrPart, c10, c17, s23_0, i_nlt.mp c10, i_nle.mpr c17, *]; done)) cR_adr
      by_cases s23_1 : p0 = 1
      · refine z_tableIn (off := 37) hC 60 dX1_partOf_23 (by rw [s23_1]; decide) (by rw [s23_1]; decide) (by rw [s23_1]; rfl) (by decide) ?_
        refine z_aload_n hC dX1_partOf_60 rfl ?_
        refine z_get 0 1 hC bl_X1 (ci := 1) rfl (by decide) rfl bw_44 rfl rfl dX1_partOf_61 ?_
        refine z_iload hC dX1_partOf_64 rfl ?_
        refine z_iald 2 0 hC rfl rfl (vin60 c10 c17) dX1_partOf_66 ?_
        exact z_iretd hC hr dX1_partOf_67 (Nat.zero_le _) (Nat.zero_le _) (by clear hC hr hnm; first | rfl | (simp [mrPart, c10, c17, s23_0, s23_1, i_nlt.mp c10, i_nle.mpr c17, *]; done) | (simp_all [mrPart, c10, c17, s23_0, s23_1, i_nlt.mp c10, i_nle.mpr c17]; done)) (by first | rfl | (simp [mrPart, c10, c17, s23_0, s23_1, i_nlt.mp c10, i_nle.mpr c17, *]; done)) cR_adr
      by_cases s23_2 : p0 = 2
      · refine z_tableIn (off := 45) hC 68 dX1_partOf_23 (by rw [s23_2]; decide) (by rw [s23_2]; decide) (by rw [s23_2]; rfl) (by decide) ?_
        refine z_aload_n hC dX1_partOf_68 rfl ?_
        refine z_get 0 2 hC bl_X1 (ci := 1) rfl (by decide) rfl bw_45 rfl rfl dX1_partOf_69 ?_
        refine z_iload hC dX1_partOf_72 rfl ?_
        refine z_iald 3 0 hC rfl rfl (vin60 c10 c17) dX1_partOf_74 ?_
        exact z_iretd hC hr dX1_partOf_75 (Nat.zero_le _) (Nat.zero_le _) (by clear hC hr hnm; first | rfl | (simp [mrPart, c10, c17, s23_0, s23_1, s23_2, i_nlt.mp c10, i_nle.mpr c17, *]; done) | (simp_all [mrPart, c10, c17, s23_0, s23_1, s23_2, i_nlt.mp c10, i_nle.mpr c17]; done)) (by first | rfl | (simp [mrPart, c10, c17, s23_0, s23_1, s23_2, i_nlt.mp c10, i_nle.mpr c17, *]; done)) cR_adr
      by_cases s23_3 : p0 = 3
      · refine z_tableIn (off := 53) hC 76 dX1_partOf_23 (by rw [s23_3]; decide) (by rw [s23_3]; decide) (by rw [s23_3]; rfl) (by decide) ?_
        refine z_aload_n hC dX1_partOf_76 rfl ?_
        refine z_get 0 3 hC bl_X1 (ci := 1) rfl (by decide) rfl bw_46 rfl rfl dX1_partOf_77 ?_
        refine z_iload hC dX1_partOf_80 rfl ?_
        refine z_iald 4 0 hC rfl rfl (vin60 c10 c17) dX1_partOf_82 ?_
        exact z_iretd hC hr dX1_partOf_83 (Nat.zero_le _) (Nat.zero_le _) (by clear hC hr hnm; first | rfl | (simp [mrPart, c10, c17, s23_0, s23_1, s23_2, s23_3, i_nlt.mp c10, i_nle.mpr c17, *]; done) | (simp_all [mrPart, c10, c17, s23_0, s23_1, s23_2, s23_3, i_nlt.mp c10, i_nle.mpr c17]; done)) (by first | rfl | (simp [mrPart, c10, c17, s23_0, s23_1, s23_2, s23_3, i_nlt.mp c10, i_nle.mpr c17, *]; done)) cR_adr
      have t23_0 : (0 : Int32).toInt = 0 := rfl
      have n23_0 := mt i_eq.mpr s23_0
      have t23_1 : (1 : Int32).toInt = 1 := rfl
      have n23_1 := mt i_eq.mpr s23_1
      have t23_2 : (2 : Int32).toInt = 2 := rfl
      have n23_2 := mt i_eq.mpr s23_2
      have t23_3 : (3 : Int32).toInt = 3 := rfl
      have n23_3 := mt i_eq.mpr s23_3
      refine z_tableOut hC 84 dX1_partOf_23 (by omega) (by decide) ?_
      refine z_aload_n hC dX1_partOf_84 rfl ?_
      refine z_iload_n hC dX1_partOf_85 rfl ?_
      refine z_iload_n hC dX1_partOf_86 rfl ?_
      refine z_callV [0, 1, 2, 3, 4, 5, 6, 7] 0 1 hC (c_X1_stampAt l D ct q ρ n i) bw_183 bw_184 bw_185 bw_37 bw_186 2 (by decide +kernel) rfl rfl rfl rfl rfl ⟨Nat.le_of_ble_eq_true rfl, Nat.le_of_ble_eq_true rfl⟩ (Nat.le_of_ble_eq_true rfl) ⟨Nat.le_of_ble_eq_true rfl, Nat.le_of_ble_eq_true rfl⟩ rfl dX1_partOf_87 ?_
      refine zkq (G := fun v1 w1 => zG p l e _ s m args below meth c D _ _ _ _ _ _ _ (v1.toList ++ _) w1) rfl ?_
      exact z_iretd hC hr dX1_partOf_90 (Nat.zero_le _) (Nat.zero_le _) (by clear hC hr hnm; first | rfl | (simp [mrPart, c10, c17, s23_0, s23_1, s23_2, s23_3, i_nlt.mp c10, i_nle.mpr c17, *]; done) | (simp_all [mrPart, c10, c17, s23_0, s23_1, s23_2, s23_3, i_nlt.mp c10, i_nle.mpr c17]; done)) (by first | rfl | (simp [mrPart, c10, c17, s23_0, s23_1, s23_2, s23_3, i_nlt.mp c10, i_nle.mpr c17, *]; done)) cR_adr
    · refine z_iconst (v := (-1)) hC dX1_partOf_20 (by decide) ?_
      exact z_iretd hC hr dX1_partOf_21 (Nat.zero_le _) (Nat.zero_le _) (by clear hC hr hnm; first | rfl | (simp [mrPart, c10, c17, i_nlt.mp c10, i_nlt.mp c17, *]; done) | (simp_all [mrPart, c10, c17, i_nlt.mp c10, i_nlt.mp c17]; done)) (by first | rfl | (simp [mrPart, c10, c17, i_nlt.mp c10, i_nlt.mp c17, *]; done)) cR_adr

set_option maxRecDepth 100000 in
set_option maxHeartbeats 1000000 in
theorem c_X1_missingCount (l : Launch) (D : va_G) (ct : Nat → ClassId) (q : Nat → Nat) (ρ : Nat → Nat → Int32) : zT l D ct yX1_missingCount cX1_missingCount 1 (some .int) 2 47 0 0 [.ref (q 0)] (cR q ρ ct) (zd (some (.int (mrMissing ρ))) (cR q ρ ct)) := by
  refine zT_of ([some (.ref (q 0))]) (by decide +kernel) rfl (Nat.le_of_ble_eq_true rfl) ?_
  intro p e s m args below meth c hC hr hnm
  refine z_aload_n hC dX1_missingCount_0 rfl ?_
  refine z_get 0 4 hC bl_X1 (ci := 1) rfl (by decide) rfl bw_197 rfl rfl dX1_missingCount_1 ?_
  refine z_aload_n hC dX1_missingCount_4 rfl ?_
  refine z_iconst (v := 0) hC dX1_missingCount_5 (by decide) ?_
  refine z_callV [0, 1, 2, 3, 4, 5, 6, 7] 0 1 hC (c_X1_sizeOf l D ct q ρ 0) bw_182 bw_151 bw_152 bw_37 bw_153 1 (by decide +kernel) rfl rfl rfl rfl rfl ⟨Nat.le_of_ble_eq_true rfl, Nat.le_of_ble_eq_true rfl⟩ (Nat.le_of_ble_eq_true rfl) ⟨Nat.le_of_ble_eq_true rfl, Nat.le_of_ble_eq_true rfl⟩ rfl dX1_missingCount_6 ?_
  refine zkq (G := fun v1 w1 => zG p l e _ s m args below meth c D _ _ _ _ _ _ _ (v1.toList ++ _) w1) rfl ?_
  refine z_isub hC dX1_missingCount_9 ?_
  exact z_iretd hC hr dX1_missingCount_10 (Nat.zero_le _) (Nat.zero_le _) (by clear hC hr hnm; first | rfl | (simp [mrMissing, *]; done) | (simp_all [mrMissing]; done)) (by first | rfl | (simp [mrMissing, *]; done)) cR_adr

set_option maxRecDepth 100000 in
set_option maxHeartbeats 1000000 in
theorem c_X1_takenAt (l : Launch) (D : va_G) (ct : Nat → ClassId) (q : Nat → Nat) (ρ : Nat → Nat → Int32) (n : Int32) : zT l D ct yX1_takenAt cX1_takenAt 4 (some .int) 0 0 0 0 [.ref (q 0), .int n] (cR q ρ ct) (zd (some (.int (mrTakenAt ρ n))) (cR q ρ ct)) := by
  refine zT_of ([some (.ref (q 0)), some (.int n), none, none]) (by decide +kernel) rfl (Nat.le_of_ble_eq_true rfl) ?_
  intro p e s m args below meth c hC hr hnm
  refine z_iconst (v := 0) hC dX1_takenAt_0 (by decide) ?_
  refine z_istore_n hC dX1_takenAt_1 (by decide) rfl ?_
  refine z_iconst (v := 0) hC dX1_takenAt_2 (by decide) ?_
  refine z_istore_n hC dX1_takenAt_3 (by decide) rfl ?_
  have loop4 : ∀ (kf i : Nat) (a : Int32) (hki : kf + i = mrLim ρ) (hF : kfor (fun i (a : Int32) => a + (if ρ 1 (nI i).toNatClampNeg = n then 1 else 0)) kf i a = mrTakenAt ρ n), zG p l e { frames := 0, cells := 0, slots := 0, locals := 0 } s m args below meth c D (va_A (cR q ρ ct) s.heap.size) 4 (MQ below (zQ D ct (cR q ρ ct) s.heap.size (zd (some (.int (mrTakenAt ρ n))) (cR q ρ ct))) args s 0 0 (va_A (cR q ρ ct) s.heap.size)) 0 0 4 [some (.ref (q 0)), some (.int n), some (.int a), some (.int (nI i))] [] (cR q ρ ct) := by
    intro kf
    induction kf with
    | zero =>
      intro i a hki hF
      refine z_iload_n hC dX1_takenAt_4 rfl ?_
      refine z_bipush (v := 60) hC dX1_takenAt_5 (by decide) ?_
      refine z_icmp_ge hC 42 dX1_takenAt_7 (by decide) (fun c7 => ?_) (fun c7 => ?_)
      · refine z_iload_n hC dX1_takenAt_42 rfl ?_
        exact z_iretd hC hr dX1_takenAt_43 (Nat.zero_le _) (Nat.zero_le _) (hF) (by first | rfl | (simp [mrTakenAt, c7, i_nlt.mpr c7, *]; done)) cR_adr
      · refine z_iload_n hC dX1_takenAt_10 rfl ?_
        refine z_aload_n hC dX1_takenAt_11 rfl ?_
        refine z_get 0 4 hC bl_X1 (ci := 1) rfl (by decide) rfl bw_197 rfl rfl dX1_takenAt_12 ?_
        refine z_icmp_ge hC 42 dX1_takenAt_15 (by decide) (fun c15 => ?_) (fun c15 => absurd (mrLim_ge (by omega) (klt2 60 rfl (by decide) (by have := mrLim_le ρ; omega) c7)) c15)
        refine z_iload_n hC dX1_takenAt_42 rfl ?_
        exact z_iretd hC hr dX1_takenAt_43 (Nat.zero_le _) (Nat.zero_le _) (hF) (by first | rfl | (simp [mrTakenAt, c7, c15, i_nle.mp c7, i_nlt.mpr c15, *]; done)) cR_adr
    | succ kf ih =>
      intro i a hki hF
      refine z_iload_n hC dX1_takenAt_4 rfl ?_
      refine z_bipush (v := 60) hC dX1_takenAt_5 (by decide) ?_
      refine z_icmp_ge hC 42 dX1_takenAt_7 (by decide) (fun c7 => absurd c7 (klt 60 rfl (by have := mrLim_le ρ; omega) (by decide))) (fun c7 => ?_)
      refine z_iload_n hC dX1_takenAt_10 rfl ?_
      refine z_aload_n hC dX1_takenAt_11 rfl ?_
      refine z_get 0 4 hC bl_X1 (ci := 1) rfl (by decide) rfl bw_197 rfl rfl dX1_takenAt_12 ?_
      refine z_icmp_ge hC 42 dX1_takenAt_15 (by decide) (fun c15 => absurd c15 (mrLim_lt (by omega))) (fun c15 => ?_)
      refine z_iload_n hC dX1_takenAt_18 rfl ?_
      refine z_aload_n hC dX1_takenAt_19 rfl ?_
      refine z_get 0 0 hC bl_X1 (ci := 1) rfl (by decide) rfl bw_43 rfl rfl dX1_takenAt_20 ?_
      refine z_iload_n hC dX1_takenAt_23 rfl ?_
      refine z_iald 1 0 hC rfl rfl (v60 (by have := mrLim_le ρ; omega)) dX1_takenAt_24 ?_
      refine z_iload_n hC dX1_takenAt_25 rfl ?_
      refine z_icmp_ne hC 33 dX1_takenAt_26 (by decide) (fun c26 => ?_) (fun c26 => ?_)
      · refine z_iconst (v := 0) hC dX1_takenAt_33 (by decide) ?_
        refine z_iadd hC dX1_takenAt_34 ?_
        refine z_istore_n hC dX1_takenAt_35 (by decide) rfl ?_
        refine z_iinc (cn := 1) hC dX1_takenAt_36 (by decide) (by decide) rfl rfl ?_
        refine z_goto hC 4 dX1_takenAt_39 (by decide) ?_
        rw [nI_1]
        exact ih (i + 1) (a + 0) (by omega) (by rw [← hF]; simp [kfor, c26])
      · refine z_iconst (v := 1) hC dX1_takenAt_29 (by decide) ?_
        refine z_goto hC 34 dX1_takenAt_30 (by decide) ?_
        refine z_iadd hC dX1_takenAt_34 ?_
        refine z_istore_n hC dX1_takenAt_35 (by decide) rfl ?_
        refine z_iinc (cn := 1) hC dX1_takenAt_36 (by decide) (by decide) rfl rfl ?_
        refine z_goto hC 4 dX1_takenAt_39 (by decide) ?_
        rw [nI_1]
        exact ih (i + 1) (a + 1) (by omega) (by rw [← hF]; simp [kfor, c26])
  exact loop4 _ 0 0 (Nat.add_zero _) rfl

set_option maxRecDepth 100000 in
set_option maxHeartbeats 1000000 in
theorem c_X1_findId (l : Launch) (D : va_G) (ct : Nat → ClassId) (q : Nat → Nat) (ρ : Nat → Nat → Int32) (n k : Int32) : zT l D ct yX1_findId cX1_findId 4 (some .int) 0 0 0 0 [.ref (q 0), .int n, .int k] (cR q ρ ct) (zd (some (.int (mrFind ρ n k))) (cR q ρ ct)) := by
  refine zT_of ([some (.ref (q 0)), some (.int n), some (.int k), none]) (by decide +kernel) rfl (Nat.le_of_ble_eq_true rfl) ?_
  intro p e s m args below meth c hC hr hnm
  refine z_iconst (v := 0) hC dX1_findId_0 (by decide) ?_
  refine z_istore_n hC dX1_findId_1 (by decide) rfl ?_
  have loop2 : ∀ (kf i : Nat) (hki : kf + i = mrLim ρ) (hF : kfst (fun i => decide (ρ 1 (nI i).toNatClampNeg = n) && decide (ρ 2 (nI i).toNatClampNeg = k)) kf i = mrFind ρ n k), zG p l e { frames := 0, cells := 0, slots := 0, locals := 0 } s m args below meth c D (va_A (cR q ρ ct) s.heap.size) 4 (MQ below (zQ D ct (cR q ρ ct) s.heap.size (zd (some (.int (mrFind ρ n k))) (cR q ρ ct))) args s 0 0 (va_A (cR q ρ ct) s.heap.size)) 0 0 2 [some (.ref (q 0)), some (.int n), some (.int k), some (.int (nI i))] [] (cR q ρ ct) := by
    intro kf
    induction kf with
    | zero =>
      intro i hki hF
      refine z_iload_n hC dX1_findId_2 rfl ?_
      refine z_bipush (v := 60) hC dX1_findId_3 (by decide) ?_
      refine z_icmp_ge hC 44 dX1_findId_5 (by decide) (fun c5 => ?_) (fun c5 => ?_)
      · refine z_iconst (v := (-1)) hC dX1_findId_44 (by decide) ?_
        exact z_iretd hC hr dX1_findId_45 (Nat.zero_le _) (Nat.zero_le _) (hF) (by first | rfl | (simp [mrFind, c5, i_nlt.mpr c5, *]; done)) cR_adr
      · refine z_iload_n hC dX1_findId_8 rfl ?_
        refine z_aload_n hC dX1_findId_9 rfl ?_
        refine z_get 0 4 hC bl_X1 (ci := 1) rfl (by decide) rfl bw_197 rfl rfl dX1_findId_10 ?_
        refine z_icmp_ge hC 44 dX1_findId_13 (by decide) (fun c13 => ?_) (fun c13 => absurd (mrLim_ge (by omega) (klt2 60 rfl (by decide) (by have := mrLim_le ρ; omega) c5)) c13)
        refine z_iconst (v := (-1)) hC dX1_findId_44 (by decide) ?_
        exact z_iretd hC hr dX1_findId_45 (Nat.zero_le _) (Nat.zero_le _) (hF) (by first | rfl | (simp [mrFind, c5, c13, i_nle.mp c5, i_nlt.mpr c13, *]; done)) cR_adr
    | succ kf ih =>
      intro i hki hF
      refine z_iload_n hC dX1_findId_2 rfl ?_
      refine z_bipush (v := 60) hC dX1_findId_3 (by decide) ?_
      refine z_icmp_ge hC 44 dX1_findId_5 (by decide) (fun c5 => absurd c5 (klt 60 rfl (by have := mrLim_le ρ; omega) (by decide))) (fun c5 => ?_)
      refine z_iload_n hC dX1_findId_8 rfl ?_
      refine z_aload_n hC dX1_findId_9 rfl ?_
      refine z_get 0 4 hC bl_X1 (ci := 1) rfl (by decide) rfl bw_197 rfl rfl dX1_findId_10 ?_
      refine z_icmp_ge hC 44 dX1_findId_13 (by decide) (fun c13 => absurd c13 (mrLim_lt (by omega))) (fun c13 => ?_)
      refine z_aload_n hC dX1_findId_16 rfl ?_
      refine z_get 0 0 hC bl_X1 (ci := 1) rfl (by decide) rfl bw_43 rfl rfl dX1_findId_17 ?_
      refine z_iload_n hC dX1_findId_20 rfl ?_
      refine z_iald 1 0 hC rfl rfl (v60 (by have := mrLim_le ρ; omega)) dX1_findId_21 ?_
      refine z_iload_n hC dX1_findId_22 rfl ?_
      refine z_icmp_ne hC 38 dX1_findId_23 (by decide) (fun c23 => ?_) (fun c23 => ?_)
      · refine z_iinc (cn := 1) hC dX1_findId_38 (by decide) (by decide) rfl rfl ?_
        refine z_goto hC 2 dX1_findId_41 (by decide) ?_
        rw [nI_1]
        exact ih (i + 1) (by omega) (by rw [← hF]; simp [kfst, c5, c13, c23, i_nle.mp c5, i_nle.mp c13])
      · refine z_aload_n hC dX1_findId_26 rfl ?_
        refine z_get 0 1 hC bl_X1 (ci := 1) rfl (by decide) rfl bw_44 rfl rfl dX1_findId_27 ?_
        refine z_iload_n hC dX1_findId_30 rfl ?_
        refine z_iald 2 0 hC rfl rfl (v60 (by have := mrLim_le ρ; omega)) dX1_findId_31 ?_
        refine z_iload_n hC dX1_findId_32 rfl ?_
        refine z_icmp_ne hC 38 dX1_findId_33 (by decide) (fun c33 => ?_) (fun c33 => ?_)
        · refine z_iinc (cn := 1) hC dX1_findId_38 (by decide) (by decide) rfl rfl ?_
          refine z_goto hC 2 dX1_findId_41 (by decide) ?_
          rw [nI_1]
          exact ih (i + 1) (by omega) (by rw [← hF]; simp [kfst, c5, c13, c23, c33, i_nle.mp c5, i_nle.mp c13])
        · refine z_iload_n hC dX1_findId_36 rfl ?_
          exact z_iretd hC hr dX1_findId_37 (Nat.zero_le _) (Nat.zero_le _) (by rw [← hF]; simp [kfst, c23, c33]) (by first | rfl | (simp [mrFind, c5, c13, c23, c33, i_nle.mp c5, i_nle.mp c13, *]; done)) cR_adr
  exact loop2 _ 0 (Nat.add_zero _) rfl

set_option maxRecDepth 100000 in
set_option maxHeartbeats 1000000 in
theorem c_X1_storesWith (l : Launch) (D : va_G) (ct : Nat → ClassId) (q : Nat → Nat) (ρ : Nat → Nat → Int32) (id : Int32) : zT l D ct yX1_storesWith cX1_storesWith 4 (some .int) 3 83 0 0 [.ref (q 0), .int id] (cR q ρ ct) (zd (some (.int (mrStores ρ id))) (cR q ρ ct)) := by
  refine zT_of ([some (.ref (q 0)), some (.int id), none, none]) (by decide +kernel) rfl (Nat.le_of_ble_eq_true rfl) ?_
  intro p e s m args below meth c hC hr hnm
  refine z_iconst (v := 0) hC dX1_storesWith_0 (by decide) ?_
  refine z_istore_n hC dX1_storesWith_1 (by decide) rfl ?_
  refine z_iconst (v := 0) hC dX1_storesWith_2 (by decide) ?_
  refine z_istore_n hC dX1_storesWith_3 (by decide) rfl ?_
  have loop4 : ∀ (kf i : Nat) (a : Int32) (hki : kf + i = 10) (hF : kfor (fun i (a : Int32) => a + (if ¬ nI i = 0 ∧ mrHolds ρ (nI i) id = true then 1 else 0)) kf i a = mrStores ρ id), zG p l e { frames := 3, cells := 0, slots := 0, locals := 83 } s m args below meth c D (va_A (cR q ρ ct) s.heap.size) 4 (MQ below (zQ D ct (cR q ρ ct) s.heap.size (zd (some (.int (mrStores ρ id))) (cR q ρ ct))) args s 0 0 (va_A (cR q ρ ct) s.heap.size)) 0 0 4 [some (.ref (q 0)), some (.int id), some (.int a), some (.int (nI i))] [] (cR q ρ ct) := by
    intro kf
    induction kf with
    | zero =>
      intro i a hki hF
      refine z_iload_n hC dX1_storesWith_4 rfl ?_
      refine z_bipush (v := 10) hC dX1_storesWith_5 (by decide) ?_
      refine z_icmp_ge hC 37 dX1_storesWith_7 (by decide) (fun c7 => ?_) (fun c7 => absurd (kge 10 rfl (by omega) (by omega)) c7)
      refine z_iload_n hC dX1_storesWith_37 rfl ?_
      exact z_iretd hC hr dX1_storesWith_38 (Nat.zero_le _) (Nat.zero_le _) (hF) (by first | rfl | (simp [mrStores, c7, i_nlt.mpr c7, *]; done)) cR_adr
    | succ kf ih =>
      intro i a hki hF
      refine z_iload_n hC dX1_storesWith_4 rfl ?_
      refine z_bipush (v := 10) hC dX1_storesWith_5 (by decide) ?_
      refine z_icmp_ge hC 37 dX1_storesWith_7 (by decide) (fun c7 => absurd c7 (klt 10 rfl (by omega) (by decide))) (fun c7 => ?_)
      refine z_iload_n hC dX1_storesWith_10 rfl ?_
      refine z_iload_n hC dX1_storesWith_11 rfl ?_
      refine z_if_eq hC 28 dX1_storesWith_12 (by decide) (fun c12 => ?_) (fun c12 => ?_)
      · refine z_iconst (v := 0) hC dX1_storesWith_28 (by decide) ?_
        refine z_iadd hC dX1_storesWith_29 ?_
        refine z_istore_n hC dX1_storesWith_30 (by decide) rfl ?_
        refine z_iinc (cn := 1) hC dX1_storesWith_31 (by decide) (by decide) rfl rfl ?_
        refine z_goto hC 4 dX1_storesWith_34 (by decide) ?_
        rw [nI_1]
        exact ih (i + 1) (a + 0) (by omega) (by rw [← hF]; simp [kfor, c7, c12, i_nle.mp c7])
      · refine z_aload_n hC dX1_storesWith_15 rfl ?_
        refine z_iload_n hC dX1_storesWith_16 rfl ?_
        refine z_iload_n hC dX1_storesWith_17 rfl ?_
        refine z_callV [0, 1, 2, 3, 4, 5, 6, 7] 0 1 hC (c_X1_holds l D ct q ρ (nI i) id) bw_201 bw_202 bw_203 bw_37 bw_204 2 (by decide +kernel) rfl rfl rfl rfl rfl ⟨Nat.le_of_ble_eq_true rfl, Nat.le_of_ble_eq_true rfl⟩ (Nat.le_of_ble_eq_true rfl) ⟨Nat.le_of_ble_eq_true rfl, Nat.le_of_ble_eq_true rfl⟩ rfl dX1_storesWith_18 ?_
        refine zkq (G := fun v1 w1 => zG p l e _ s m args below meth c D _ _ _ _ _ _ _ (v1.toList ++ _) w1) rfl ?_
        refine z_if_eq hC 28 dX1_storesWith_21 (by decide) (fun c21 => ?_) (fun c21 => ?_)
        · rw [bI_0] at c21
          refine z_iconst (v := 0) hC dX1_storesWith_28 (by decide) ?_
          refine z_iadd hC dX1_storesWith_29 ?_
          refine z_istore_n hC dX1_storesWith_30 (by decide) rfl ?_
          refine z_iinc (cn := 1) hC dX1_storesWith_31 (by decide) (by decide) rfl rfl ?_
          refine z_goto hC 4 dX1_storesWith_34 (by decide) ?_
          rw [nI_1]
          exact ih (i + 1) (a + 0) (by omega) (by rw [← hF]; simp [kfor, c7, c12, c21, i_nle.mp c7])
        · rw [bI_1] at c21
          refine z_iconst (v := 1) hC dX1_storesWith_24 (by decide) ?_
          refine z_goto hC 29 dX1_storesWith_25 (by decide) ?_
          refine z_iadd hC dX1_storesWith_29 ?_
          refine z_istore_n hC dX1_storesWith_30 (by decide) rfl ?_
          refine z_iinc (cn := 1) hC dX1_storesWith_31 (by decide) (by decide) rfl rfl ?_
          refine z_goto hC 4 dX1_storesWith_34 (by decide) ?_
          rw [nI_1]
          exact ih (i + 1) (a + 1) (by omega) (by rw [← hF]; simp [kfor, c7, c12, c21, i_nle.mp c7])
  exact loop4 _ 0 0 (Nat.add_zero _) rfl

set_option maxRecDepth 100000 in
set_option maxHeartbeats 1000000 in
theorem c_X1_wrongStampCount (l : Launch) (D : va_G) (ct : Nat → ClassId) (q : Nat → Nat) (ρ : Nat → Nat → Int32) : zT l D ct yX1_wrongStampCount cX1_wrongStampCount 3 (some .int) 4 107 0 0 [.ref (q 0)] (cR q ρ ct) (zd (some (.int (mrWrong ρ))) (cR q ρ ct)) := by
  refine zT_of ([some (.ref (q 0)), none, none]) (by decide +kernel) rfl (Nat.le_of_ble_eq_true rfl) ?_
  intro p e s m args below meth c hC hr hnm
  refine z_iconst (v := 0) hC dX1_wrongStampCount_0 (by decide) ?_
  refine z_istore_n hC dX1_wrongStampCount_1 (by decide) rfl ?_
  refine z_iconst (v := 0) hC dX1_wrongStampCount_2 (by decide) ?_
  refine z_istore_n hC dX1_wrongStampCount_3 (by decide) rfl ?_
  have loop4 : ∀ (kf i : Nat) (a : Int32) (hki : kf + i = (mrSize ρ 0).toNatClampNeg) (hF : kfor (fun i (a : Int32) => a + (if mrPart ρ 0 (nI i) 4 = mrPart ρ 0 (nI i) 3 then 0 else 1)) kf i a = mrWrong ρ), zG p l e { frames := 4, cells := 0, slots := 0, locals := 107 } s m args below meth c D (va_A (cR q ρ ct) s.heap.size) 3 (MQ below (zQ D ct (cR q ρ ct) s.heap.size (zd (some (.int (mrWrong ρ))) (cR q ρ ct))) args s 0 0 (va_A (cR q ρ ct) s.heap.size)) 0 0 4 [some (.ref (q 0)), some (.int a), some (.int (nI i))] [] (cR q ρ ct) := by
    intro kf
    induction kf with
    | zero =>
      intro i a hki hF
      refine z_iload_n hC dX1_wrongStampCount_4 rfl ?_
      refine z_aload_n hC dX1_wrongStampCount_5 rfl ?_
      refine z_iconst (v := 0) hC dX1_wrongStampCount_6 (by decide) ?_
      refine z_callV [0, 1, 2, 3, 4, 5, 6, 7] 0 1 hC (c_X1_sizeOf l D ct q ρ 0) bw_182 bw_151 bw_152 bw_37 bw_153 1 (by decide +kernel) rfl rfl rfl rfl rfl ⟨Nat.le_of_ble_eq_true rfl, Nat.le_of_ble_eq_true rfl⟩ (Nat.le_of_ble_eq_true rfl) ⟨Nat.le_of_ble_eq_true rfl, Nat.le_of_ble_eq_true rfl⟩ rfl dX1_wrongStampCount_7 ?_
      refine zkq (G := fun v1 w1 => zG p l e _ s m args below meth c D _ _ _ _ _ _ _ (v1.toList ++ _) w1) rfl ?_
      refine z_icmp_ge hC 44 dX1_wrongStampCount_10 (by decide) (fun c10 => ?_) (fun c10 => absurd (lim_ge (by omega) (by have := lim_31 (mrSize ρ 0); omega)) c10)
      refine z_iload_n hC dX1_wrongStampCount_44 rfl ?_
      exact z_iretd hC hr dX1_wrongStampCount_45 (Nat.zero_le _) (Nat.zero_le _) (hF) (by first | rfl | (simp [mrWrong, c10, i_nlt.mpr c10, *]; done)) cR_adr
    | succ kf ih =>
      intro i a hki hF
      refine z_iload_n hC dX1_wrongStampCount_4 rfl ?_
      refine z_aload_n hC dX1_wrongStampCount_5 rfl ?_
      refine z_iconst (v := 0) hC dX1_wrongStampCount_6 (by decide) ?_
      refine z_callV [0, 1, 2, 3, 4, 5, 6, 7] 0 1 hC (c_X1_sizeOf l D ct q ρ 0) bw_182 bw_151 bw_152 bw_37 bw_153 1 (by decide +kernel) rfl rfl rfl rfl rfl ⟨Nat.le_of_ble_eq_true rfl, Nat.le_of_ble_eq_true rfl⟩ (Nat.le_of_ble_eq_true rfl) ⟨Nat.le_of_ble_eq_true rfl, Nat.le_of_ble_eq_true rfl⟩ rfl dX1_wrongStampCount_7 ?_
      refine zkq (G := fun v1 w1 => zG p l e _ s m args below meth c D _ _ _ _ _ _ _ (v1.toList ++ _) w1) rfl ?_
      refine z_icmp_ge hC 44 dX1_wrongStampCount_10 (by decide) (fun c10 => absurd c10 (lim_lt (by omega))) (fun c10 => ?_)
      refine z_iload_n hC dX1_wrongStampCount_13 rfl ?_
      refine z_aload_n hC dX1_wrongStampCount_14 rfl ?_
      refine z_iconst (v := 0) hC dX1_wrongStampCount_15 (by decide) ?_
      refine z_iload_n hC dX1_wrongStampCount_16 rfl ?_
      refine z_iconst (v := 4) hC dX1_wrongStampCount_17 (by decide) ?_
      refine z_callV [0, 1, 2, 3, 4, 5, 6, 7] 0 1 hC (c_X1_partOf l D ct q ρ 0 (nI i) 4) bw_226 bw_175 bw_176 bw_37 bw_177 3 (by decide +kernel) rfl rfl rfl rfl rfl ⟨Nat.le_of_ble_eq_true rfl, Nat.le_of_ble_eq_true rfl⟩ (Nat.le_of_ble_eq_true rfl) ⟨Nat.le_of_ble_eq_true rfl, Nat.le_of_ble_eq_true rfl⟩ rfl dX1_wrongStampCount_18 ?_
      refine zkq (G := fun v1 w1 => zG p l e _ s m args below meth c D _ _ _ _ _ _ _ (v1.toList ++ _) w1) rfl ?_
      refine z_aload_n hC dX1_wrongStampCount_21 rfl ?_
      refine z_iconst (v := 0) hC dX1_wrongStampCount_22 (by decide) ?_
      refine z_iload_n hC dX1_wrongStampCount_23 rfl ?_
      refine z_iconst (v := 3) hC dX1_wrongStampCount_24 (by decide) ?_
      refine z_callV [0, 1, 2, 3, 4, 5, 6, 7] 0 1 hC (c_X1_partOf l D ct q ρ 0 (nI i) 3) bw_226 bw_175 bw_176 bw_37 bw_177 3 (by decide +kernel) rfl rfl rfl rfl rfl ⟨Nat.le_of_ble_eq_true rfl, Nat.le_of_ble_eq_true rfl⟩ (Nat.le_of_ble_eq_true rfl) ⟨Nat.le_of_ble_eq_true rfl, Nat.le_of_ble_eq_true rfl⟩ rfl dX1_wrongStampCount_25 ?_
      refine zkq (G := fun v1 w1 => zG p l e _ s m args below meth c D _ _ _ _ _ _ _ (v1.toList ++ _) w1) rfl ?_
      refine z_icmp_ne hC 35 dX1_wrongStampCount_28 (by decide) (fun c28 => ?_) (fun c28 => ?_)
      · refine z_iconst (v := 1) hC dX1_wrongStampCount_35 (by decide) ?_
        refine z_iadd hC dX1_wrongStampCount_36 ?_
        refine z_istore_n hC dX1_wrongStampCount_37 (by decide) rfl ?_
        refine z_iinc (cn := 1) hC dX1_wrongStampCount_38 (by decide) (by decide) rfl rfl ?_
        refine z_goto hC 4 dX1_wrongStampCount_41 (by decide) ?_
        rw [nI_1]
        exact ih (i + 1) (a + 1) (by omega) (by rw [← hF]; simp [kfor, c10, c28, i_nle.mp c10])
      · refine z_iconst (v := 0) hC dX1_wrongStampCount_31 (by decide) ?_
        refine z_goto hC 36 dX1_wrongStampCount_32 (by decide) ?_
        refine z_iadd hC dX1_wrongStampCount_36 ?_
        refine z_istore_n hC dX1_wrongStampCount_37 (by decide) rfl ?_
        refine z_iinc (cn := 1) hC dX1_wrongStampCount_38 (by decide) (by decide) rfl rfl ?_
        refine z_goto hC 4 dX1_wrongStampCount_41 (by decide) ?_
        rw [nI_1]
        exact ih (i + 1) (a + 0) (by omega) (by rw [← hF]; simp [kfor, c10, c28, i_nle.mp c10])
  exact loop4 _ 0 0 (Nat.add_zero _) rfl

set_option maxRecDepth 100000 in
set_option maxHeartbeats 1000000 in
theorem c_X1_put (l : Launch) (D : va_G) (ct : Nat → ClassId) (q : Nat → Nat) (ρ : Nat → Nat → Int32) (n id sp : Int32) (h0 : ¬ mrSize ρ n < 0) : zT l D ct yX1_put cX1_put 5 none 2 47 0 0 [.ref (q 0), .int n, .int id, .int sp] (cR q ρ ct) (zd none (cR q (mrPut ρ n id sp) ct)) := by
  refine zT_of ([some (.ref (q 0)), some (.int n), some (.int id), some (.int sp), none]) (by decide +kernel) rfl (Nat.le_of_ble_eq_true rfl) ?_
  intro p e s m args below meth c hC hr hnm
  refine z_aload_n hC dX1_put_0 rfl ?_
  refine z_iload_n hC dX1_put_1 rfl ?_
  refine z_callV [0, 1, 2, 3, 4, 5, 6, 7] 0 1 hC (c_X1_sizeOf l D ct q ρ n) bw_182 bw_151 bw_152 bw_37 bw_153 1 (by decide +kernel) rfl rfl rfl rfl rfl ⟨Nat.le_of_ble_eq_true rfl, Nat.le_of_ble_eq_true rfl⟩ (Nat.le_of_ble_eq_true rfl) ⟨Nat.le_of_ble_eq_true rfl, Nat.le_of_ble_eq_true rfl⟩ rfl dX1_put_2 ?_
  refine zkq (G := fun v1 w1 => zG p l e _ s m args below meth c D _ _ _ _ _ _ _ (v1.toList ++ _) w1) rfl ?_
  refine z_istore hC dX1_put_5 (by decide) rfl ?_
  refine z_iload_n hC dX1_put_7 rfl ?_
  refine z_callSN [] hC (c_X4_isNode l D ct n) nw_39 bw_80 bw_2 bw_81 1 (by decide +kernel) rfl rfl rfl ⟨Nat.le_of_ble_eq_true rfl, Nat.le_of_ble_eq_true rfl⟩ (Nat.le_of_ble_eq_true rfl) ⟨Nat.le_of_ble_eq_true rfl, Nat.le_of_ble_eq_true rfl⟩ rfl dX1_put_8 ?_
  refine zkq (G := fun v1 w1 => zG p l e _ s m args below meth c D _ _ _ _ _ _ _ (v1.toList ++ _) w1) rfl ?_
  refine z_if_eq hC 57 dX1_put_11 (by decide) (fun c11 => ?_) (fun c11 => ?_)
  · rw [bI_0] at c11
    exact z_vretd hC hr dX1_put_57 (Nat.zero_le _) (Nat.zero_le _) (by first | rfl | (simp [mrPut, mrAt, c11, *]; done)) cR_adr
  · rw [bI_1] at c11
    refine z_iload hC dX1_put_14 rfl ?_
    refine z_bipush (v := 60) hC dX1_put_16 (by decide) ?_
    refine z_icmp_ge hC 57 dX1_put_18 (by decide) (fun c18 => ?_) (fun c18 => ?_)
    · exact z_vretd hC hr dX1_put_57 (Nat.zero_le _) (Nat.zero_le _) (by first | rfl | (simp [mrPut, mrAt, c11, c18, i_nlt.mpr c18, *]; done)) cR_adr
    · refine z_aload_n hC dX1_put_21 rfl ?_
      refine z_get 0 6 hC bl_X1 (ci := 1) rfl (by decide) rfl bw_48 rfl rfl dX1_put_22 ?_
      refine z_iload_n hC dX1_put_25 rfl ?_
      refine z_bipush (v := 60) hC dX1_put_26 (by decide) ?_
      refine z_imul hC dX1_put_28 ?_
      refine z_iload hC dX1_put_29 rfl ?_
      refine z_iadd hC dX1_put_31 ?_
      refine z_iload_n hC dX1_put_32 rfl ?_
      refine z_iast 6 0 hC rfl rfl (vrow (node_of c11) h0 (i_nle.mp c18)) dX1_put_33 (w2 := cR q (u2 ρ 6 ((((n * 60) + (mrSize ρ n))).toNatClampNeg) id) ct) cR_a6 ?_
      obtain ⟨ρ1, eρ1⟩ : ∃ zz_, zz_ = u2 ρ 6 ((((n * 60) + (mrSize ρ n))).toNatClampNeg) id := ⟨_, rfl⟩
      rw [← eρ1]
      refine z_aload_n hC dX1_put_34 rfl ?_
      refine z_get 0 7 hC bl_X1 (ci := 1) rfl (by decide) rfl bw_49 rfl rfl dX1_put_35 ?_
      refine z_iload_n hC dX1_put_38 rfl ?_
      refine z_bipush (v := 60) hC dX1_put_39 (by decide) ?_
      refine z_imul hC dX1_put_41 ?_
      refine z_iload hC dX1_put_42 rfl ?_
      refine z_iadd hC dX1_put_44 ?_
      refine z_iload_n hC dX1_put_45 rfl ?_
      refine z_iast 7 0 hC rfl rfl (vrow (node_of c11) h0 (i_nle.mp c18)) dX1_put_46 (w2 := cR q (u2 ρ1 7 ((((n * 60) + (mrSize ρ n))).toNatClampNeg) sp) ct) cR_a7 ?_
      obtain ⟨ρ2, eρ2⟩ : ∃ zz_, zz_ = u2 ρ1 7 ((((n * 60) + (mrSize ρ n))).toNatClampNeg) sp := ⟨_, rfl⟩
      rw [← eρ2]
      refine z_aload_n hC dX1_put_47 rfl ?_
      refine z_get 0 5 hC bl_X1 (ci := 1) rfl (by decide) rfl bw_47 rfl rfl dX1_put_48 ?_
      refine z_iload_n hC dX1_put_51 rfl ?_
      refine z_iload hC dX1_put_52 rfl ?_
      refine z_iconst (v := 1) hC dX1_put_54 (by decide) ?_
      refine z_iadd hC dX1_put_55 ?_
      refine z_iast 5 0 hC rfl rfl (vnode c11) dX1_put_56 (w2 := cR q (u2 ρ2 5 ((n).toNatClampNeg) ((mrSize ρ n) + 1)) ct) cR_a5 ?_
      obtain ⟨ρ3, eρ3⟩ : ∃ zz_, zz_ = u2 ρ2 5 ((n).toNatClampNeg) ((mrSize ρ n) + 1) := ⟨_, rfl⟩
      rw [← eρ3]
      exact z_vretd hC hr dX1_put_57 (Nat.zero_le _) (Nat.zero_le _) (by subst eρ3; subst eρ2; subst eρ1; refine congrArg (fun z => cR q z ct) ?_; first | (simp only [mrPut, mrAt, c11, c18, i_nle.mp c18, and_self, if_true, if_false]; done) | (simp [mrPut, mrAt, c11, c18, i_nle.mp c18]; done) | (simp [mrPut, mrAt, c11, c18, i_nle.mp c18, *]; done)) cR_adr

set_option maxRecDepth 100000 in
set_option maxHeartbeats 1000000 in
theorem c_X1_removeFirst (l : Launch) (D : va_G) (ct : Nat → ClassId) (q : Nat → Nat) (ρ : Nat → Nat → Int32) (n : Int32) : zT l D ct yX1_removeFirst cX1_removeFirst 5 none 2 47 0 0 [.ref (q 0), .int n] (cR q ρ ct) (zd none (cR q (mrRemove ρ n) ct)) := by
  refine zT_of ([some (.ref (q 0)), some (.int n), none, none, none]) (by decide +kernel) rfl (Nat.le_of_ble_eq_true rfl) ?_
  intro p e s m args below meth c hC hr hnm
  refine z_aload_n hC dX1_removeFirst_0 rfl ?_
  refine z_iload_n hC dX1_removeFirst_1 rfl ?_
  refine z_callV [0, 1, 2, 3, 4, 5, 6, 7] 0 1 hC (c_X1_sizeOf l D ct q ρ n) bw_182 bw_151 bw_152 bw_37 bw_153 1 (by decide +kernel) rfl rfl rfl rfl rfl ⟨Nat.le_of_ble_eq_true rfl, Nat.le_of_ble_eq_true rfl⟩ (Nat.le_of_ble_eq_true rfl) ⟨Nat.le_of_ble_eq_true rfl, Nat.le_of_ble_eq_true rfl⟩ rfl dX1_removeFirst_2 ?_
  refine zkq (G := fun v1 w1 => zG p l e _ s m args below meth c D _ _ _ _ _ _ _ (v1.toList ++ _) w1) rfl ?_
  refine z_istore_n hC dX1_removeFirst_5 (by decide) rfl ?_
  refine z_iload_n hC dX1_removeFirst_6 rfl ?_
  refine z_if_ne hC 11 dX1_removeFirst_7 (by decide) (fun c7 => ?_) (fun c7 => ?_)
  · refine z_iconst (v := 1) hC dX1_removeFirst_11 (by decide) ?_
    refine z_istore_n hC dX1_removeFirst_12 (by decide) rfl ?_
    have loop13 : ∀ (kf i : Nat) (ρx : Nat → Nat → Int32) (hki : kf = (mrSize ρ n).toNatClampNeg - i) (hi : 1 ≤ i) (h31 : i < 2 ^ 31) (hF : kfor (mrMove n) kf i ρx = kfor (mrMove n) ((mrSize ρ n).toNatClampNeg - 1) 1 ρ), zG p l e { frames := 2, cells := 0, slots := 0, locals := 47 } s m args below meth c D (va_A (cR q ρ ct) s.heap.size) 5 (MQ below (zQ D ct (cR q ρ ct) s.heap.size (zd none (cR q (mrRemove ρ n) ct))) args s 0 0 (va_A (cR q ρ ct) s.heap.size)) 0 0 13 [some (.ref (q 0)), some (.int n), some (.int (mrSize ρ n)), some (.int (nI i)), none] [] (cR q ρx ct) := by
      intro kf
      induction kf with
      | zero =>
        intro i ρx hki hi h31 hF
        refine z_iload_n hC dX1_removeFirst_13 rfl ?_
        refine z_iload_n hC dX1_removeFirst_14 rfl ?_
        refine z_icmp_ge hC 64 dX1_removeFirst_15 (by decide) (fun c15 => ?_) (fun c15 => absurd (lim_ge (by omega) h31) c15)
        refine z_aload_n hC dX1_removeFirst_64 rfl ?_
        refine z_get 0 5 hC bl_X1 (ci := 1) rfl (by decide) rfl bw_47 rfl rfl dX1_removeFirst_65 ?_
        refine z_iload_n hC dX1_removeFirst_68 rfl ?_
        refine z_iload_n hC dX1_removeFirst_69 rfl ?_
        refine z_iconst (v := 1) hC dX1_removeFirst_70 (by decide) ?_
        refine z_isub hC dX1_removeFirst_71 ?_
        refine z_iast 5 0 hC rfl rfl (vnode (node_of2 (mrSize_n0 c7))) dX1_removeFirst_72 (w2 := cR q (u2 ρx 5 ((n).toNatClampNeg) ((mrSize ρ n) - 1)) ct) cR_a5 ?_
        obtain ⟨ρ1, eρ1⟩ : ∃ zz_, zz_ = u2 ρx 5 ((n).toNatClampNeg) ((mrSize ρ n) - 1) := ⟨_, rfl⟩
        rw [← eρ1]
        exact z_vretd hC hr dX1_removeFirst_73 (Nat.zero_le _) (Nat.zero_le _) (by subst eρ1; rw [mrRemove, if_neg c7, ← hF]; rfl) cR_adr
      | succ kf ih =>
        intro i ρx hki hi h31 hF
        refine z_iload_n hC dX1_removeFirst_13 rfl ?_
        refine z_iload_n hC dX1_removeFirst_14 rfl ?_
        refine z_icmp_ge hC 64 dX1_removeFirst_15 (by decide) (fun c15 => absurd c15 (lim_lt (by omega))) (fun c15 => ?_)
        refine z_iload_n hC dX1_removeFirst_18 rfl ?_
        refine z_bipush (v := 60) hC dX1_removeFirst_19 (by decide) ?_
        refine z_imul hC dX1_removeFirst_21 ?_
        refine z_iload_n hC dX1_removeFirst_22 rfl ?_
        refine z_iadd hC dX1_removeFirst_23 ?_
        refine z_istore hC dX1_removeFirst_24 (by decide) rfl ?_
        refine z_aload_n hC dX1_removeFirst_26 rfl ?_
        refine z_get 0 6 hC bl_X1 (ci := 1) rfl (by decide) rfl bw_48 rfl rfl dX1_removeFirst_27 ?_
        refine z_iload hC dX1_removeFirst_30 rfl ?_
        refine z_iconst (v := 1) hC dX1_removeFirst_32 (by decide) ?_
        refine z_isub hC dX1_removeFirst_33 ?_
        refine z_aload_n hC dX1_removeFirst_34 rfl ?_
        refine z_get 0 6 hC bl_X1 (ci := 1) rfl (by decide) rfl bw_48 rfl rfl dX1_removeFirst_35 ?_
        refine z_iload hC dX1_removeFirst_38 rfl ?_
        refine z_iald 6 0 hC rfl rfl (vrowN (ρ := ρ) (by omega)) dX1_removeFirst_40 ?_
        refine z_iast 6 0 hC rfl rfl (vrowN1 (ρ := ρ) (by omega) hi) dX1_removeFirst_41 (w2 := cR q (u2 ρx 6 (((((n * 60) + (nI i)) - 1)).toNatClampNeg) (ρx 6 (((n * 60) + (nI i))).toNatClampNeg)) ct) cR_a6 ?_
        obtain ⟨ρ2, eρ2⟩ : ∃ zz_, zz_ = u2 ρx 6 (((((n * 60) + (nI i)) - 1)).toNatClampNeg) (ρx 6 (((n * 60) + (nI i))).toNatClampNeg) := ⟨_, rfl⟩
        rw [← eρ2]
        refine z_aload_n hC dX1_removeFirst_42 rfl ?_
        refine z_get 0 7 hC bl_X1 (ci := 1) rfl (by decide) rfl bw_49 rfl rfl dX1_removeFirst_43 ?_
        refine z_iload hC dX1_removeFirst_46 rfl ?_
        refine z_iconst (v := 1) hC dX1_removeFirst_48 (by decide) ?_
        refine z_isub hC dX1_removeFirst_49 ?_
        refine z_aload_n hC dX1_removeFirst_50 rfl ?_
        refine z_get 0 7 hC bl_X1 (ci := 1) rfl (by decide) rfl bw_49 rfl rfl dX1_removeFirst_51 ?_
        refine z_iload hC dX1_removeFirst_54 rfl ?_
        refine z_iald 7 0 hC rfl rfl (vrowN (ρ := ρ) (by omega)) dX1_removeFirst_56 ?_
        refine z_iast 7 0 hC rfl rfl (vrowN1 (ρ := ρ) (by omega) hi) dX1_removeFirst_57 (w2 := cR q (u2 ρ2 7 (((((n * 60) + (nI i)) - 1)).toNatClampNeg) (ρ2 7 (((n * 60) + (nI i))).toNatClampNeg)) ct) cR_a7 ?_
        obtain ⟨ρ3, eρ3⟩ : ∃ zz_, zz_ = u2 ρ2 7 (((((n * 60) + (nI i)) - 1)).toNatClampNeg) (ρ2 7 (((n * 60) + (nI i))).toNatClampNeg) := ⟨_, rfl⟩
        rw [← eρ3]
        refine z_iinc (cn := 1) hC dX1_removeFirst_58 (by decide) (by decide) rfl rfl ?_
        refine z_goto hC 13 dX1_removeFirst_61 (by decide) ?_
        rw [nI_1]
        exact z_wk (ls_s (ls_s (ls_s (ls_s (ls_n ls_0))))) (ih (i + 1) ρ3 (by omega) (by omega) (by have := lim_31 (mrSize ρ n); omega) (by rw [← hF, eρ3, eρ2]; rfl))
    exact loop13 _ 1 ρ rfl (Nat.le_refl _) (by decide) rfl
  · exact z_vretd hC hr dX1_removeFirst_10 (Nat.zero_le _) (Nat.zero_le _) (by simp [mrRemove, c7]) cR_adr

set_option maxRecDepth 100000 in
set_option maxHeartbeats 1000000 in
theorem c_X1_shiftStamps (l : Launch) (D : va_G) (ct : Nat → ClassId) (q : Nat → Nat) (ρ : Nat → Nat → Int32) (n a : Int32) : zT l D ct yX1_shiftStamps cX1_shiftStamps 4 none 2 47 0 0 [.ref (q 0), .int n, .int a] (cR q ρ ct) (zd none (cR q (mrShift ρ n a) ct)) := by
  refine zT_of ([some (.ref (q 0)), some (.int n), some (.int a), none]) (by decide +kernel) rfl (Nat.le_of_ble_eq_true rfl) ?_
  intro p e s m args below meth c hC hr hnm
  refine z_iconst (v := 0) hC dX1_shiftStamps_0 (by decide) ?_
  refine z_istore_n hC dX1_shiftStamps_1 (by decide) rfl ?_
  have loop2 : ∀ (kf i : Nat) (ρx : Nat → Nat → Int32) (hki : kf + i = (mrSize ρ n).toNatClampNeg) (hsz : mrSize ρx n = mrSize ρ n) (hF : kfor (mrShift1 n a) kf i ρx = mrShift ρ n a), zG p l e { frames := 2, cells := 0, slots := 0, locals := 47 } s m args below meth c D (va_A (cR q ρ ct) s.heap.size) 4 (MQ below (zQ D ct (cR q ρ ct) s.heap.size (zd none (cR q (mrShift ρ n a) ct))) args s 0 0 (va_A (cR q ρ ct) s.heap.size)) 0 0 2 [some (.ref (q 0)), some (.int n), some (.int a), some (.int (nI i))] [] (cR q ρx ct) := by
    intro kf
    induction kf with
    | zero =>
      intro i ρx hki hsz hF
      refine z_iload_n hC dX1_shiftStamps_2 rfl ?_
      refine z_aload_n hC dX1_shiftStamps_3 rfl ?_
      refine z_iload_n hC dX1_shiftStamps_4 rfl ?_
      refine z_callV [0, 1, 2, 3, 4, 5, 6, 7] 0 1 hC (c_X1_sizeOf l D ct q ρx n) bw_182 bw_151 bw_152 bw_37 bw_153 1 (by decide +kernel) rfl rfl rfl rfl rfl ⟨Nat.le_of_ble_eq_true rfl, Nat.le_of_ble_eq_true rfl⟩ (Nat.le_of_ble_eq_true rfl) ⟨Nat.le_of_ble_eq_true rfl, Nat.le_of_ble_eq_true rfl⟩ rfl dX1_shiftStamps_5 ?_
      refine zkq (G := fun v1 w1 => zG p l e _ s m args below meth c D _ _ _ _ _ _ _ (v1.toList ++ _) w1) rfl ?_
      refine z_icmp_ge hC 32 dX1_shiftStamps_8 (by decide) (fun c8 => ?_) (fun c8 => absurd (by rw [hsz]; exact lim_ge (by omega) (by have := lim_31 (mrSize ρ n); omega)) c8)
      exact z_vretd hC hr dX1_shiftStamps_32 (Nat.zero_le _) (Nat.zero_le _) (by rw [← hF]; rfl) cR_adr
    | succ kf ih =>
      intro i ρx hki hsz hF
      refine z_iload_n hC dX1_shiftStamps_2 rfl ?_
      refine z_aload_n hC dX1_shiftStamps_3 rfl ?_
      refine z_iload_n hC dX1_shiftStamps_4 rfl ?_
      refine z_callV [0, 1, 2, 3, 4, 5, 6, 7] 0 1 hC (c_X1_sizeOf l D ct q ρx n) bw_182 bw_151 bw_152 bw_37 bw_153 1 (by decide +kernel) rfl rfl rfl rfl rfl ⟨Nat.le_of_ble_eq_true rfl, Nat.le_of_ble_eq_true rfl⟩ (Nat.le_of_ble_eq_true rfl) ⟨Nat.le_of_ble_eq_true rfl, Nat.le_of_ble_eq_true rfl⟩ rfl dX1_shiftStamps_5 ?_
      refine zkq (G := fun v1 w1 => zG p l e _ s m args below meth c D _ _ _ _ _ _ _ (v1.toList ++ _) w1) rfl ?_
      refine z_icmp_ge hC 32 dX1_shiftStamps_8 (by decide) (fun c8 => absurd c8 (by rw [hsz]; exact lim_lt (by omega))) (fun c8 => ?_)
      refine z_aload_n hC dX1_shiftStamps_11 rfl ?_
      refine z_get 0 7 hC bl_X1 (ci := 1) rfl (by decide) rfl bw_49 rfl rfl dX1_shiftStamps_12 ?_
      refine z_iload_n hC dX1_shiftStamps_15 rfl ?_
      refine z_bipush (v := 60) hC dX1_shiftStamps_16 (by decide) ?_
      refine z_imul hC dX1_shiftStamps_18 ?_
      refine z_iload_n hC dX1_shiftStamps_19 rfl ?_
      refine z_iadd hC dX1_shiftStamps_20 ?_
      refine z_dup2 hC dX1_shiftStamps_21 rfl rfl ?_
      refine z_iald 7 0 hC rfl rfl (vrowN (ρ := ρ) (by omega)) dX1_shiftStamps_22 ?_
      refine z_iload_n hC dX1_shiftStamps_23 rfl ?_
      refine z_iadd hC dX1_shiftStamps_24 ?_
      refine z_iast 7 0 hC rfl rfl (vrowN (ρ := ρ) (by omega)) dX1_shiftStamps_25 (w2 := cR q (u2 ρx 7 ((((n * 60) + (nI i))).toNatClampNeg) ((ρx 7 (((n * 60) + (nI i))).toNatClampNeg) + a)) ct) cR_a7 ?_
      obtain ⟨ρ1, eρ1⟩ : ∃ zz_, zz_ = u2 ρx 7 ((((n * 60) + (nI i))).toNatClampNeg) ((ρx 7 (((n * 60) + (nI i))).toNatClampNeg) + a) := ⟨_, rfl⟩
      rw [← eρ1]
      refine z_iinc (cn := 1) hC dX1_shiftStamps_26 (by decide) (by decide) rfl rfl ?_
      refine z_goto hC 2 dX1_shiftStamps_29 (by decide) ?_
      rw [nI_1]
      exact ih (i + 1) ρ1 (by omega) (by rw [eρ1, mrSize_u2 (by decide), hsz]) (by rw [← hF, eρ1]; rfl)
  exact loop2 _ 0 ρ (Nat.add_zero _) rfl rfl

set_option maxRecDepth 100000 in
set_option maxHeartbeats 1000000 in
theorem c_X1_takeAt (l : Launch) (D : va_G) (ct : Nat → ClassId) (q : Nat → Nat) (ρ : Nat → Nat → Int32) (n v tm sp : Int32) (h0 : ¬ mrSize ρ n < 0) : zT l D ct yX1_takeAt cX1_takeAt 7 (some .int) 3 71 0 0 [.ref (q 0), .int n, .int v, .int tm, .int sp] (cR q ρ ct) (zd (some (.int (mrTakeR ρ n))) (cR q (mrTake ρ n v tm sp) ct)) := by
  refine zT_of ([some (.ref (q 0)), some (.int n), some (.int v), some (.int tm), some (.int sp), none, none]) (by decide +kernel) rfl (Nat.le_of_ble_eq_true rfl) ?_
  intro p e s m args below meth c hC hr hnm
  refine z_aload_n hC dX1_takeAt_0 rfl ?_
  refine z_get 0 4 hC bl_X1 (ci := 1) rfl (by decide) rfl bw_197 rfl rfl dX1_takeAt_1 ?_
  refine z_istore hC dX1_takeAt_4 (by decide) rfl ?_
  refine z_iload hC dX1_takeAt_6 rfl ?_
  refine z_if_lt hC 18 dX1_takeAt_8 (by decide) (fun c8 => ?_) (fun c8 => ?_)
  · refine z_iconst (v := (-1)) hC dX1_takeAt_18 (by decide) ?_
    exact z_iretd hC hr dX1_takeAt_19 (Nat.zero_le _) (Nat.zero_le _) (by clear hC hr hnm; first | rfl | (simp [mrTake, mrTakeR, u2_ne, c8, i_nle.mpr c8, *]; done) | (simp_all [mrTake, mrTakeR, u2_ne, c8, i_nle.mpr c8]; done)) (by first | rfl | (simp [mrTake, mrTakeR, u2_ne, c8, i_nle.mpr c8, *]; done)) cR_adr
  · refine z_iload hC dX1_takeAt_11 rfl ?_
    refine z_bipush (v := 60) hC dX1_takeAt_13 (by decide) ?_
    refine z_icmp_lt hC 20 dX1_takeAt_15 (by decide) (fun c15 => ?_) (fun c15 => ?_)
    · refine z_aload_n hC dX1_takeAt_20 rfl ?_
      refine z_iload_n hC dX1_takeAt_21 rfl ?_
      refine z_callV [0, 1, 2, 3, 4, 5, 6, 7] 0 1 hC (c_X1_takenAt l D ct q ρ n) bw_370 bw_371 bw_372 bw_37 bw_373 1 (by decide +kernel) rfl rfl rfl rfl rfl ⟨Nat.le_of_ble_eq_true rfl, Nat.le_of_ble_eq_true rfl⟩ (Nat.le_of_ble_eq_true rfl) ⟨Nat.le_of_ble_eq_true rfl, Nat.le_of_ble_eq_true rfl⟩ rfl dX1_takeAt_22 ?_
      refine zkq (G := fun v1 w1 => zG p l e _ s m args below meth c D _ _ _ _ _ _ _ (v1.toList ++ _) w1) rfl ?_
      refine z_istore hC dX1_takeAt_25 (by decide) rfl ?_
      refine z_aload_n hC dX1_takeAt_27 rfl ?_
      refine z_get 0 0 hC bl_X1 (ci := 1) rfl (by decide) rfl bw_43 rfl rfl dX1_takeAt_28 ?_
      refine z_iload hC dX1_takeAt_31 rfl ?_
      refine z_iload_n hC dX1_takeAt_33 rfl ?_
      refine z_iast 1 0 hC rfl rfl (vin60 c8 c15) dX1_takeAt_34 (w2 := cR q (u2 ρ 1 (((ρ 0 0)).toNatClampNeg) n) ct) cR_a1 ?_
      obtain ⟨ρ1, eρ1⟩ : ∃ zz_, zz_ = u2 ρ 1 (((ρ 0 0)).toNatClampNeg) n := ⟨_, rfl⟩
      rw [← eρ1]
      refine z_aload_n hC dX1_takeAt_35 rfl ?_
      refine z_get 0 1 hC bl_X1 (ci := 1) rfl (by decide) rfl bw_44 rfl rfl dX1_takeAt_36 ?_
      refine z_iload hC dX1_takeAt_39 rfl ?_
      refine z_iload hC dX1_takeAt_41 rfl ?_
      refine z_iast 2 0 hC rfl rfl (vin60 c8 c15) dX1_takeAt_43 (w2 := cR q (u2 ρ1 2 (((ρ 0 0)).toNatClampNeg) (mrTakenAt ρ n)) ct) cR_a2 ?_
      obtain ⟨ρ2, eρ2⟩ : ∃ zz_, zz_ = u2 ρ1 2 (((ρ 0 0)).toNatClampNeg) (mrTakenAt ρ n) := ⟨_, rfl⟩
      rw [← eρ2]
      refine z_aload_n hC dX1_takeAt_44 rfl ?_
      refine z_get 0 2 hC bl_X1 (ci := 1) rfl (by decide) rfl bw_45 rfl rfl dX1_takeAt_45 ?_
      refine z_iload hC dX1_takeAt_48 rfl ?_
      refine z_iload_n hC dX1_takeAt_50 rfl ?_
      refine z_iast 3 0 hC rfl rfl (vin60 c8 c15) dX1_takeAt_51 (w2 := cR q (u2 ρ2 3 (((ρ 0 0)).toNatClampNeg) v) ct) cR_a3 ?_
      obtain ⟨ρ3, eρ3⟩ : ∃ zz_, zz_ = u2 ρ2 3 (((ρ 0 0)).toNatClampNeg) v := ⟨_, rfl⟩
      rw [← eρ3]
      refine z_aload_n hC dX1_takeAt_52 rfl ?_
      refine z_get 0 3 hC bl_X1 (ci := 1) rfl (by decide) rfl bw_46 rfl rfl dX1_takeAt_53 ?_
      refine z_iload hC dX1_takeAt_56 rfl ?_
      refine z_iload_n hC dX1_takeAt_58 rfl ?_
      refine z_iast 4 0 hC rfl rfl (vin60 c8 c15) dX1_takeAt_59 (w2 := cR q (u2 ρ3 4 (((ρ 0 0)).toNatClampNeg) tm) ct) cR_a4 ?_
      obtain ⟨ρ4, eρ4⟩ : ∃ zz_, zz_ = u2 ρ3 4 (((ρ 0 0)).toNatClampNeg) tm := ⟨_, rfl⟩
      rw [← eρ4]
      refine z_aload_n hC dX1_takeAt_60 rfl ?_
      refine z_dup hC dX1_takeAt_61 rfl ?_
      refine z_get 0 4 hC bl_X1 (ci := 1) rfl (by decide) rfl bw_197 rfl rfl dX1_takeAt_62 ?_
      refine z_iconst (v := 1) hC dX1_takeAt_65 (by decide) ?_
      refine z_iadd hC dX1_takeAt_66 ?_
      refine z_put (ci := 1) 0 4 hC bl_X1 tyX1_ok nmX1 rfl (by decide) rfl bw_197 rfl rfl rfl rfl (Nat.lt_of_lt_of_le (by decide) (Nat.le_refl 8)) dX1_takeAt_67 (w2 := cR q (u2 ρ4 0 0 ((ρ4 0 0) + 1)) ct) cR_f0 ?_
      obtain ⟨ρ5, eρ5⟩ : ∃ zz_, zz_ = u2 ρ4 0 0 ((ρ4 0 0) + 1) := ⟨_, rfl⟩
      rw [← eρ5]
      refine z_aload_n hC dX1_takeAt_70 rfl ?_
      refine z_iload_n hC dX1_takeAt_71 rfl ?_
      refine z_iload hC dX1_takeAt_72 rfl ?_
      refine z_iload hC dX1_takeAt_74 rfl ?_
      refine z_callV [0, 1, 2, 3, 4, 5, 6, 7] 0 1 hC (c_X1_put l D ct q ρ5 n (ρ 0 0) sp (by simpa [eρ1, eρ2, eρ3, eρ4, eρ5, mrSize_u2] using h0)) bw_374 bw_375 bw_376 bw_37 bw_377 3 (by decide +kernel) rfl rfl rfl rfl rfl ⟨Nat.le_of_ble_eq_true rfl, Nat.le_of_ble_eq_true rfl⟩ (Nat.le_of_ble_eq_true rfl) ⟨Nat.le_of_ble_eq_true rfl, Nat.le_of_ble_eq_true rfl⟩ rfl dX1_takeAt_76 ?_
      refine zkd (G := fun v1 w1 => zG p l e _ s m args below meth c D _ _ _ _ _ _ _ (v1.toList ++ _) w1) (w2 := cR q (mrPut ρ5 n (ρ 0 0) sp) ct) cR_all ?_
      obtain ⟨ρ6, eρ6⟩ : ∃ zz_, zz_ = (mrPut ρ5 n (ρ 0 0) sp) := ⟨_, rfl⟩
      rw [← eρ6]
      refine z_iload hC dX1_takeAt_79 rfl ?_
      exact z_iretd hC hr dX1_takeAt_81 (Nat.zero_le _) (Nat.zero_le _) (by subst eρ6; subst eρ5; subst eρ4; subst eρ3; subst eρ2; subst eρ1; clear hC hr hnm; first | rfl | (simp [mrTake, mrTakeR, u2_ne, c8, c15, i_nlt.mp c8, i_nle.mpr c15, *]; done) | (simp_all [mrTake, mrTakeR, u2_ne, c8, c15, i_nlt.mp c8, i_nle.mpr c15]; done)) (by subst eρ6; subst eρ5; subst eρ4; subst eρ3; subst eρ2; subst eρ1; refine congrArg (fun z => cR q z ct) ?_; first | (simp only [mrTake, mrTakeR, u2_ne, c8, c15, i_nlt.mp c8, i_nle.mpr c15, and_self, if_true, if_false]; done) | (simp [mrTake, mrTakeR, u2_ne, c8, c15, i_nlt.mp c8, i_nle.mpr c15]; done) | (simp [mrTake, mrTakeR, u2_ne, c8, c15, i_nlt.mp c8, i_nle.mpr c15, *]; done)) cR_adr
    · refine z_iconst (v := (-1)) hC dX1_takeAt_18 (by decide) ?_
      exact z_iretd hC hr dX1_takeAt_19 (Nat.zero_le _) (Nat.zero_le _) (by clear hC hr hnm; first | rfl | (simp [mrTake, mrTakeR, u2_ne, c8, c15, i_nlt.mp c8, i_nlt.mp c15, *]; done) | (simp_all [mrTake, mrTakeR, u2_ne, c8, c15, i_nlt.mp c8, i_nlt.mp c15]; done)) (by first | rfl | (simp [mrTake, mrTakeR, u2_ne, c8, c15, i_nlt.mp c8, i_nlt.mp c15, *]; done)) cR_adr
