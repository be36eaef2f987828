set_option maxRecDepth 100000 in
set_option maxHeartbeats 4000000 in
theorem c_X1_sizeOf (l : Launch) (D : va_G) (ct : Nat → ClassId) (q : Nat → Nat) (ρ : Nat → Nat → Int32) (n : Int32) : zT l D ct yX1_sizeOf cX1_sizeOf 3 (some .int) 1 25 0 0 [.ref (q 0), .int n] (cR q ρ ct) (zd (some (.int (mrSize ρ n))) (cR q ρ ct)) := by
  refine zT_of ([some (.ref (q 0)), some (.int n), none]) (by decide) rfl (Nat.le_of_ble_eq_true rfl) ?_
  intro p e s m args below meth c hC hr hnm
  refine z_iload_n hC dX1_sizeOf_0 rfl ?_
  refine z_if_lt hC 14 dX1_sizeOf_1 (by decide) (fun c1 => ?_) (fun c1 => ?_)
  · refine z_iconst (v := 0) hC dX1_sizeOf_14 (by decide) ?_
    refine z_istore_n hC dX1_sizeOf_15 (by decide) rfl ?_
    refine z_iload_n hC dX1_sizeOf_16 rfl ?_
    refine z_if_eq hC 34 dX1_sizeOf_17 (by decide) (fun cn1 => ?_) (fun cn1 => absurd ((by decide : (0 : Int32) = 0)) cn1)
    refine z_iconst (v := 0) hC dX1_sizeOf_34 (by decide) ?_
    exact z_iretd hC hr dX1_sizeOf_35 (Nat.zero_le _) (Nat.zero_le _) (by clear hC hr hnm; first | rfl | (simp [mrSize, c1, i_nle.mpr c1, *]; done) | (simp_all [mrSize, c1, i_nle.mpr c1]; done)) (by first | rfl | (simp only [mrSize, c1, i_nle.mpr c1, *]; rfl) | (simp [mrSize, c1, i_nle.mpr c1, *]; done)) rfl
  · refine z_iload_n hC dX1_sizeOf_4 rfl ?_
    refine z_bipush (v := 10) hC dX1_sizeOf_5 (by decide) ?_
    refine z_icmp_ge hC 14 dX1_sizeOf_7 (by decide) (fun c7 => ?_) (fun c7 => ?_)
    · refine z_iconst (v := 0) hC dX1_sizeOf_14 (by decide) ?_
      refine z_istore_n hC dX1_sizeOf_15 (by decide) rfl ?_
      refine z_iload_n hC dX1_sizeOf_16 rfl ?_
      refine z_if_eq hC 34 dX1_sizeOf_17 (by decide) (fun cn2 => ?_) (fun cn2 => absurd ((by decide : (0 : Int32) = 0)) cn2)
      refine z_iconst (v := 0) hC dX1_sizeOf_34 (by decide) ?_
      exact z_iretd hC hr dX1_sizeOf_35 (Nat.zero_le _) (Nat.zero_le _) (by clear hC hr hnm; first | rfl | (simp [mrSize, c1, c7, i_nlt.mp c1, i_nlt.mpr c7, *]; done) | (simp_all [mrSize, c1, c7, i_nlt.mp c1, i_nlt.mpr c7]; done)) (by first | rfl | (simp only [mrSize, c1, c7, i_nlt.mp c1, i_nlt.mpr c7, *]; rfl) | (simp [mrSize, c1, c7, i_nlt.mp c1, i_nlt.mpr c7, *]; done)) rfl
    · refine z_iconst (v := 1) hC dX1_sizeOf_10 (by decide) ?_
      refine z_goto hC 15 dX1_sizeOf_11 (by decide) ?_
      refine z_istore_n hC dX1_sizeOf_15 (by decide) rfl ?_
      refine z_iload_n hC dX1_sizeOf_16 rfl ?_
      refine z_if_eq hC 34 dX1_sizeOf_17 (by decide) (fun cn3 => absurd cn3 (by decide)) (fun cn3 => ?_)
      refine z_aload_n hC dX1_sizeOf_20 rfl ?_
      refine z_get 0 5 hC bl_X1 (ci := 1) rfl (by decide) rfl bw_50 rfl rfl dX1_sizeOf_21 ?_
      refine z_iload_n hC dX1_sizeOf_24 rfl ?_
      refine z_iald 5 0 hC rfl rfl (vin 10 rfl c1 c7) dX1_sizeOf_25 ?_
      refine z_bipush (v := 60) hC dX1_sizeOf_26 (by decide) ?_
      refine z_min hC bw_255 dX1_sizeOf_28 (Nat.le_of_ble_eq_true rfl) (Nat.le_of_ble_eq_true rfl) (Nat.zero_le _) (Nat.zero_le _) ?_
      refine z_goto hC 35 dX1_sizeOf_31 (by decide) ?_
      exact z_iretd hC hr dX1_sizeOf_35 (Nat.zero_le _) (Nat.zero_le _) (by clear hC hr hnm; first | rfl | (simp [mrSize, c1, c7, i_nlt.mp c1, i_nle.mp c7, *]; done) | (simp_all [mrSize, c1, c7, i_nlt.mp c1, i_nle.mp c7]; done)) (by first | rfl | (simp only [mrSize, c1, c7, i_nlt.mp c1, i_nle.mp c7, *]; rfl) | (simp [mrSize, c1, c7, i_nlt.mp c1, i_nle.mp c7, *]; done)) rfl

set_option maxRecDepth 100000 in
set_option maxHeartbeats 4000000 in
theorem c_X1_isFull (l : Launch) (D : va_G) (ct : Nat → ClassId) (q : Nat → Nat) (ρ : Nat → Nat → Int32) (n : Int32) : zT l D ct yX1_isFull cX1_isFull 2 (some .boolean) 2 60 0 0 [.ref (q 0), .int n] (cR q ρ ct) (zd (some (.int (bI (mrFull ρ n)))) (cR q ρ ct)) := by
  refine zT_of ([some (.ref (q 0)), some (.int n)]) (by decide) rfl (Nat.le_of_ble_eq_true rfl) ?_
  intro p e s m args below meth c hC hr hnm
  refine z_aload_n hC dX1_isFull_0 rfl ?_
  refine z_iload_n hC dX1_isFull_1 rfl ?_
  refine z_callV [0, 1, 2, 3, 4, 5, 6, 7] 0 1 hC (c_X1_sizeOf l D ct q ρ n) bw_251 bw_252 bw_253 bw_40 bw_254 1 (by decide +kernel) rfl rfl rfl rfl rfl ⟨Nat.le_of_ble_eq_true rfl, Nat.le_of_ble_eq_true rfl⟩ (Nat.le_of_ble_eq_true rfl) ⟨Nat.le_of_ble_eq_true rfl, Nat.le_of_ble_eq_true rfl⟩ rfl dX1_isFull_2 ?_
  refine zkq (G := fun v1 w1 => zG p l e _ s m args below meth c D _ _ _ _ _ _ _ (v1.toList ++ _) w1) rfl ?_
  refine z_iload_n hC dX1_isFull_5 rfl ?_
  refine z_if_ne hC 14 dX1_isFull_6 (by decide) (fun c6 => ?_) (fun c6 => ?_)
  · refine z_bipush (v := 6) hC dX1_isFull_14 (by decide) ?_
    refine z_icmp_lt hC 23 dX1_isFull_16 (by decide) (fun c16 => ?_) (fun c16 => ?_)
    · refine z_iconst (v := 0) hC dX1_isFull_23 (by decide) ?_
      exact z_zretd hC hr (rfl) dX1_isFull_24 (Nat.zero_le _) (Nat.zero_le _) (by clear hC hr hnm; first | rfl | (simp [mrFull, bI, c6, c16, i_nle.mpr c16, *]; done) | (simp_all [mrFull, bI, c6, c16, i_nle.mpr c16]; done)) (by first | rfl | (simp only [mrFull, bI, c6, c16, i_nle.mpr c16, *]; rfl) | (simp [mrFull, bI, c6, c16, i_nle.mpr c16, *]; done)) rfl
    · refine z_iconst (v := 1) hC dX1_isFull_19 (by decide) ?_
      refine z_goto hC 24 dX1_isFull_20 (by decide) ?_
      exact z_zretd hC hr (rfl) dX1_isFull_24 (Nat.zero_le _) (Nat.zero_le _) (by clear hC hr hnm; first | rfl | (simp [mrFull, bI, c6, c16, i_nlt.mp c16, *]; done) | (simp_all [mrFull, bI, c6, c16, i_nlt.mp c16]; done)) (by first | rfl | (simp only [mrFull, bI, c6, c16, i_nlt.mp c16, *]; rfl) | (simp [mrFull, bI, c6, c16, i_nlt.mp c16, *]; done)) rfl
  · refine z_bipush (v := 60) hC dX1_isFull_9 (by decide) ?_
    refine z_goto hC 16 dX1_isFull_11 (by decide) ?_
    refine z_icmp_lt hC 23 dX1_isFull_16 (by decide) (fun c16 => ?_) (fun c16 => ?_)
    · refine z_iconst (v := 0) hC dX1_isFull_23 (by decide) ?_
      exact z_zretd hC hr (rfl) dX1_isFull_24 (Nat.zero_le _) (Nat.zero_le _) (by clear hC hr hnm; first | rfl | (simp [mrFull, bI, c6, c16, i_nle.mpr c16, *]; done) | (simp_all [mrFull, bI, c6, c16, i_nle.mpr c16]; done)) (by first | rfl | (simp only [mrFull, bI, c6, c16, i_nle.mpr c16, *]; rfl) | (simp [mrFull, bI, c6, c16, i_nle.mpr c16, *]; done)) rfl
    · refine z_iconst (v := 1) hC dX1_isFull_19 (by decide) ?_
      refine z_goto hC 24 dX1_isFull_20 (by decide) ?_
      exact z_zretd hC hr (rfl) dX1_isFull_24 (Nat.zero_le _) (Nat.zero_le _) (by clear hC hr hnm; first | rfl | (simp [mrFull, bI, c6, c16, i_nlt.mp c16, *]; done) | (simp_all [mrFull, bI, c6, c16, i_nlt.mp c16]; done)) (by first | rfl | (simp only [mrFull, bI, c6, c16, i_nlt.mp c16, *]; rfl) | (simp [mrFull, bI, c6, c16, i_nlt.mp c16, *]; done)) rfl

set_option maxRecDepth 100000 in
set_option maxHeartbeats 4000000 in
theorem c_X1_idAt (l : Launch) (D : va_G) (ct : Nat → ClassId) (q : Nat → Nat) (ρ : Nat → Nat → Int32) (n i : Int32) : zT l D ct yX1_idAt cX1_idAt 4 (some .int) 2 60 0 0 [.ref (q 0), .int n, .int i] (cR q ρ ct) (zd (some (.int (mrId ρ n i))) (cR q ρ ct)) := by
  refine zT_of ([some (.ref (q 0)), some (.int n), some (.int i), none]) (by decide) rfl (Nat.le_of_ble_eq_true rfl) ?_
  intro p e s m args below meth c hC hr hnm
  refine z_iload_n hC dX1_idAt_0 rfl ?_
  refine z_if_lt hC 17 dX1_idAt_1 (by decide) (fun c1 => ?_) (fun c1 => ?_)
  · refine z_iconst (v := 0) hC dX1_idAt_17 (by decide) ?_
    refine z_istore_n hC dX1_idAt_18 (by decide) rfl ?_
    refine z_iload_n hC dX1_idAt_19 rfl ?_
    refine z_if_eq hC 37 dX1_idAt_20 (by decide) (fun cn1 => ?_) (fun cn1 => absurd ((by decide : (0 : Int32) = 0)) cn1)
    refine z_iconst (v := (-1)) hC dX1_idAt_37 (by decide) ?_
    exact z_iretd hC hr dX1_idAt_38 (Nat.zero_le _) (Nat.zero_le _) (by clear hC hr hnm; first | rfl | (simp [mrId, mrAt, c1, i_nle.mpr c1, *]; done) | (simp_all [mrId, mrAt, c1, i_nle.mpr c1]; done)) (by first | rfl | (simp only [mrId, mrAt, c1, i_nle.mpr c1, *]; rfl) | (simp [mrId, mrAt, c1, i_nle.mpr c1, *]; done)) rfl
  · refine z_iload_n hC dX1_idAt_4 rfl ?_
    refine z_aload_n hC dX1_idAt_5 rfl ?_
    refine z_iload_n hC dX1_idAt_6 rfl ?_
    refine z_callV [0, 1, 2, 3, 4, 5, 6, 7] 0 1 hC (c_X1_sizeOf l D ct q ρ n) bw_251 bw_252 bw_253 bw_40 bw_254 1 (by decide +kernel) rfl rfl rfl rfl rfl ⟨Nat.le_of_ble_eq_true rfl, Nat.le_of_ble_eq_true rfl⟩ (Nat.le_of_ble_eq_true rfl) ⟨Nat.le_of_ble_eq_true rfl, Nat.le_of_ble_eq_true rfl⟩ rfl dX1_idAt_7 ?_
    refine zkq (G := fun v1 w1 => zG p l e _ s m args below meth c D _ _ _ _ _ _ _ (v1.toList ++ _) w1) rfl ?_
    refine z_icmp_ge hC 17 dX1_idAt_10 (by decide) (fun c10 => ?_) (fun c10 => ?_)
    · refine z_iconst (v := 0) hC dX1_idAt_17 (by decide) ?_
      refine z_istore_n hC dX1_idAt_18 (by decide) rfl ?_
      refine z_iload_n hC dX1_idAt_19 rfl ?_
      refine z_if_eq hC 37 dX1_idAt_20 (by decide) (fun cn2 => ?_) (fun cn2 => absurd ((by decide : (0 : Int32) = 0)) cn2)
      refine z_iconst (v := (-1)) hC dX1_idAt_37 (by decide) ?_
      exact z_iretd hC hr dX1_idAt_38 (Nat.zero_le _) (Nat.zero_le _) (by clear hC hr hnm; first | rfl | (simp [mrId, mrAt, c1, c10, i_nlt.mp c1, i_nlt.mpr c10, *]; done) | (simp_all [mrId, mrAt, c1, c10, i_nlt.mp c1, i_nlt.mpr c10]; done)) (by first | rfl | (simp only [mrId, mrAt, c1, c10, i_nlt.mp c1, i_nlt.mpr c10, *]; rfl) | (simp [mrId, mrAt, c1, c10, i_nlt.mp c1, i_nlt.mpr c10, *]; done)) rfl
    · refine z_iconst (v := 1) hC dX1_idAt_13 (by decide) ?_
      refine z_goto hC 18 dX1_idAt_14 (by decide) ?_
      refine z_istore_n hC dX1_idAt_18 (by decide) rfl ?_
      refine z_iload_n hC dX1_idAt_19 rfl ?_
      refine z_if_eq hC 37 dX1_idAt_20 (by decide) (fun cn3 => absurd cn3 (by decide)) (fun cn3 => ?_)
      refine z_aload_n hC dX1_idAt_23 rfl ?_
      refine z_get 0 6 hC bl_X1 (ci := 1) rfl (by decide) rfl bw_51 rfl rfl dX1_idAt_24 ?_
      refine z_iload_n hC dX1_idAt_27 rfl ?_
      refine z_bipush (v := 60) hC dX1_idAt_28 (by decide) ?_
      refine z_imul hC dX1_idAt_30 ?_
      refine z_iload_n hC dX1_idAt_31 rfl ?_
      refine z_iadd hC dX1_idAt_32 ?_
      refine z_iald 6 0 hC rfl rfl (vrowS c1 c10) dX1_idAt_33 ?_
      refine z_goto hC 38 dX1_idAt_34 (by decide) ?_
      exact z_iretd hC hr dX1_idAt_38 (Nat.zero_le _) (Nat.zero_le _) (by clear hC hr hnm; first | rfl | (simp [mrId, mrAt, c1, c10, i_nlt.mp c1, i_nle.mp c10, *]; done) | (simp_all [mrId, mrAt, c1, c10, i_nlt.mp c1, i_nle.mp c10]; done)) (by first | rfl | (simp only [mrId, mrAt, c1, c10, i_nlt.mp c1, i_nle.mp c10, *]; rfl) | (simp [mrId, mrAt, c1, c10, i_nlt.mp c1, i_nle.mp c10, *]; done)) rfl

set_option maxRecDepth 100000 in
set_option maxHeartbeats 4000000 in
theorem c_X1_stampAt (l : Launch) (D : va_G) (ct : Nat → ClassId) (q : Nat → Nat) (ρ : Nat → Nat → Int32) (n i : Int32) : zT l D ct yX1_stampAt cX1_stampAt 4 (some .int) 2 60 0 0 [.ref (q 0), .int n, .int i] (cR q ρ ct) (zd (some (.int (mrSt ρ n i))) (cR q ρ ct)) := by
  refine zT_of ([some (.ref (q 0)), some (.int n), some (.int i), none]) (by decide) rfl (Nat.le_of_ble_eq_true rfl) ?_
  intro p e s m args below meth c hC hr hnm
  refine z_iload_n hC dX1_stampAt_0 rfl ?_
  refine z_if_lt hC 17 dX1_stampAt_1 (by decide) (fun c1 => ?_) (fun c1 => ?_)
  · refine z_iconst (v := 0) hC dX1_stampAt_17 (by decide) ?_
    refine z_istore_n hC dX1_stampAt_18 (by decide) rfl ?_
    refine z_iload_n hC dX1_stampAt_19 rfl ?_
    refine z_if_eq hC 37 dX1_stampAt_20 (by decide) (fun cn1 => ?_) (fun cn1 => absurd ((by decide : (0 : Int32) = 0)) cn1)
    refine z_iconst (v := (-1)) hC dX1_stampAt_37 (by decide) ?_
    exact z_iretd hC hr dX1_stampAt_38 (Nat.zero_le _) (Nat.zero_le _) (by clear hC hr hnm; first | rfl | (simp [mrSt, mrAt, c1, i_nle.mpr c1, *]; done) | (simp_all [mrSt, mrAt, c1, i_nle.mpr c1]; done)) (by first | rfl | (simp only [mrSt, mrAt, c1, i_nle.mpr c1, *]; rfl) | (simp [mrSt, mrAt, c1, i_nle.mpr c1, *]; done)) rfl
  · refine z_iload_n hC dX1_stampAt_4 rfl ?_
    refine z_aload_n hC dX1_stampAt_5 rfl ?_
    refine z_iload_n hC dX1_stampAt_6 rfl ?_
    refine z_callV [0, 1, 2, 3, 4, 5, 6, 7] 0 1 hC (c_X1_sizeOf l D ct q ρ n) bw_251 bw_252 bw_253 bw_40 bw_254 1 (by decide +kernel) rfl rfl rfl rfl rfl ⟨Nat.le_of_ble_eq_true rfl, Nat.le_of_ble_eq_true rfl⟩ (Nat.le_of_ble_eq_true rfl) ⟨Nat.le_of_ble_eq_true rfl, Nat.le_of_ble_eq_true rfl⟩ rfl dX1_stampAt_7 ?_
    refine zkq (G := fun v1 w1 => zG p l e _ s m args below meth c D _ _ _ _ _ _ _ (v1.toList ++ _) w1) rfl ?_
    refine z_icmp_ge hC 17 dX1_stampAt_10 (by decide) (fun c10 => ?_) (fun c10 => ?_)
    · refine z_iconst (v := 0) hC dX1_stampAt_17 (by decide) ?_
      refine z_istore_n hC dX1_stampAt_18 (by decide) rfl ?_
      refine z_iload_n hC dX1_stampAt_19 rfl ?_
      refine z_if_eq hC 37 dX1_stampAt_20 (by decide) (fun cn2 => ?_) (fun cn2 => absurd ((by decide : (0 : Int32) = 0)) cn2)
      refine z_iconst (v := (-1)) hC dX1_stampAt_37 (by decide) ?_
      exact z_iretd hC hr dX1_stampAt_38 (Nat.zero_le _) (Nat.zero_le _) (by clear hC hr hnm; first | rfl | (simp [mrSt, mrAt, c1, c10, i_nlt.mp c1, i_nlt.mpr c10, *]; done) | (simp_all [mrSt, mrAt, c1, c10, i_nlt.mp c1, i_nlt.mpr c10]; done)) (by first | rfl | (simp only [mrSt, mrAt, c1, c10, i_nlt.mp c1, i_nlt.mpr c10, *]; rfl) | (simp [mrSt, mrAt, c1, c10, i_nlt.mp c1, i_nlt.mpr c10, *]; done)) rfl
    · refine z_iconst (v := 1) hC dX1_stampAt_13 (by decide) ?_
      refine z_goto hC 18 dX1_stampAt_14 (by decide) ?_
      refine z_istore_n hC dX1_stampAt_18 (by decide) rfl ?_
      refine z_iload_n hC dX1_stampAt_19 rfl ?_
      refine z_if_eq hC 37 dX1_stampAt_20 (by decide) (fun cn3 => absurd cn3 (by decide)) (fun cn3 => ?_)
      refine z_aload_n hC dX1_stampAt_23 rfl ?_
      refine z_get 0 7 hC bl_X1 (ci := 1) rfl (by decide) rfl bw_52 rfl rfl dX1_stampAt_24 ?_
      refine z_iload_n hC dX1_stampAt_27 rfl ?_
      refine z_bipush (v := 60) hC dX1_stampAt_28 (by decide) ?_
      refine z_imul hC dX1_stampAt_30 ?_
      refine z_iload_n hC dX1_stampAt_31 rfl ?_
      refine z_iadd hC dX1_stampAt_32 ?_
      refine z_iald 7 0 hC rfl rfl (vrowS c1 c10) dX1_stampAt_33 ?_
      refine z_goto hC 38 dX1_stampAt_34 (by decide) ?_
      exact z_iretd hC hr dX1_stampAt_38 (Nat.zero_le _) (Nat.zero_le _) (by clear hC hr hnm; first | rfl | (simp [mrSt, mrAt, c1, c10, i_nlt.mp c1, i_nle.mp c10, *]; done) | (simp_all [mrSt, mrAt, c1, c10, i_nlt.mp c1, i_nle.mp c10]; done)) (by first | rfl | (simp only [mrSt, mrAt, c1, c10, i_nlt.mp c1, i_nle.mp c10, *]; rfl) | (simp [mrSt, mrAt, c1, c10, i_nlt.mp c1, i_nle.mp c10, *]; done)) rfl

set_option maxRecDepth 100000 in
set_option maxHeartbeats 4000000 in
theorem c_X1_holds (l : Launch) (D : va_G) (ct : Nat → ClassId) (q : Nat → Nat) (ρ : Nat → Nat → Int32) (n id : Int32) : zT l D ct yX1_holds cX1_holds 4 (some .boolean) 2 60 0 0 [.ref (q 0), .int n, .int id] (cR q ρ ct) (zd (some (.int (bI (mrHolds ρ n id)))) (cR q ρ ct)) := by
  refine zT_of ([some (.ref (q 0)), some (.int n), some (.int id), none]) (by decide) rfl (Nat.le_of_ble_eq_true rfl) ?_
  intro p e s m args below meth c hC hr hnm
  refine z_iconst (v := 0) hC dX1_holds_0 (by decide) ?_
  refine z_istore_n hC dX1_holds_1 (by decide) rfl ?_
  have loop2 : ∀ (kf i : Nat) (hki : kf + i = (mrSize ρ n).toNatClampNeg) (hF : kany (fun i => decide (ρ 6 (mrAt n (nI i)) = id)) kf i = mrHolds ρ n id), zG p l e { frames := 2, cells := 0, slots := 0, locals := 60 } s m args below meth c D (va_A (cR q ρ ct) s.heap.size) 4 (MQ below (zQ D ct (cR q ρ ct) s.heap.size (zd (some (.int (bI (mrHolds ρ n id)))) (cR q ρ ct))) args s 0 0 (va_A (cR q ρ ct) s.heap.size)) 0 0 2 [some (.ref (q 0)), some (.int n), some (.int id), some (.int (nI i))] [] (cR q ρ ct) := by
    intro kf
    induction kf with
    | zero =>
      intro i hki hF
      refine z_iload_n hC dX1_holds_2 rfl ?_
      refine z_aload_n hC dX1_holds_3 rfl ?_
      refine z_iload_n hC dX1_holds_4 rfl ?_
      refine z_callV [0, 1, 2, 3, 4, 5, 6, 7] 0 1 hC (c_X1_sizeOf l D ct q ρ n) bw_251 bw_252 bw_253 bw_40 bw_254 1 (by decide +kernel) rfl rfl rfl rfl rfl ⟨Nat.le_of_ble_eq_true rfl, Nat.le_of_ble_eq_true rfl⟩ (Nat.le_of_ble_eq_true rfl) ⟨Nat.le_of_ble_eq_true rfl, Nat.le_of_ble_eq_true rfl⟩ rfl dX1_holds_5 ?_
      refine zkq (G := fun v1 w1 => zG p l e _ s m args below meth c D _ _ _ _ _ _ _ (v1.toList ++ _) w1) rfl ?_
      refine z_icmp_ge hC 34 dX1_holds_8 (by decide) (fun c8 => ?_) (fun c8 => absurd (lim_ge (by omega) (by have := lim_31 (mrSize ρ n); omega)) c8)
      refine z_iconst (v := 0) hC dX1_holds_34 (by decide) ?_
      exact z_zretd hC hr (rfl) dX1_holds_35 (Nat.zero_le _) (Nat.zero_le _) (by rw [← hF]; rfl) (by first | rfl | (simp only [mrHolds, bI, c8, i_nlt.mpr c8, *]; rfl) | (simp [mrHolds, bI, c8, i_nlt.mpr c8, *]; done)) rfl
    | succ kf ih =>
      intro i hki hF
      refine z_iload_n hC dX1_holds_2 rfl ?_
      refine z_aload_n hC dX1_holds_3 rfl ?_
      refine z_iload_n hC dX1_holds_4 rfl ?_
      refine z_callV [0, 1, 2, 3, 4, 5, 6, 7] 0 1 hC (c_X1_sizeOf l D ct q ρ n) bw_251 bw_252 bw_253 bw_40 bw_254 1 (by decide +kernel) rfl rfl rfl rfl rfl ⟨Nat.le_of_ble_eq_true rfl, Nat.le_of_ble_eq_true rfl⟩ (Nat.le_of_ble_eq_true rfl) ⟨Nat.le_of_ble_eq_true rfl, Nat.le_of_ble_eq_true rfl⟩ rfl dX1_holds_5 ?_
      refine zkq (G := fun v1 w1 => zG p l e _ s m args below meth c D _ _ _ _ _ _ _ (v1.toList ++ _) w1) rfl ?_
      refine z_icmp_ge hC 34 dX1_holds_8 (by decide) (fun c8 => absurd c8 (lim_lt (by omega))) (fun c8 => ?_)
      refine z_aload_n hC dX1_holds_11 rfl ?_
      refine z_get 0 6 hC bl_X1 (ci := 1) rfl (by decide) rfl bw_51 rfl rfl dX1_holds_12 ?_
      refine z_iload_n hC dX1_holds_15 rfl ?_
      refine z_bipush (v := 60) hC dX1_holds_16 (by decide) ?_
      refine z_imul hC dX1_holds_18 ?_
      refine z_iload_n hC dX1_holds_19 rfl ?_
      refine z_iadd hC dX1_holds_20 ?_
      refine z_iald 6 0 hC rfl rfl (vrowS (nI_pos (by have := lim_31 (mrSize ρ n); omega)) c8) dX1_holds_21 ?_
      refine z_iload_n hC dX1_holds_22 rfl ?_
      refine z_icmp_ne hC 28 dX1_holds_23 (by decide) (fun c23 => ?_) (fun c23 => ?_)
      · refine z_iinc (cn := 1) hC dX1_holds_28 (by decide) (by decide) rfl rfl ?_
        refine z_goto hC 2 dX1_holds_31 (by decide) ?_
        rw [nI_1]
        exact ih (i + 1) (by omega) (by rw [← hF]; simp [kany, mrAt, c23])
      · refine z_iconst (v := 1) hC dX1_holds_26 (by decide) ?_
        exact z_zretd hC hr (rfl) dX1_holds_27 (Nat.zero_le _) (Nat.zero_le _) (by rw [← hF]; simp [kany, bI, mrAt, c23]) (by first | rfl | (simp only [mrHolds, bI, c8, c23, i_nle.mp c8, *]; rfl) | (simp [mrHolds, bI, c8, c23, i_nle.mp c8, *]; done)) rfl
  exact loop2 _ 0 (Nat.add_zero _) rfl
