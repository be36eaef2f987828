set_option maxRecDepth 100000 in
set_option maxHeartbeats 1000000 in
theorem c_X2_isOn (l : Launch) (D : va_G) (ct : Nat → ClassId) (q : Nat → Nat) (σ : Nat → Nat → Int32) (n : Int32) : zT l D ct yX2_isOn cX2_isOn 2 (some .boolean) 1 20 0 0 [.ref (q 0), .int n] (cS q σ ct) (zd (some (.int (bI (msOn σ n)))) (cS q σ ct)) := by
  refine zT_of ([some (.ref (q 0)), some (.int n)]) (by decide +kernel) rfl (Nat.le_of_ble_eq_true rfl) ?_
  intro p e s m args below meth c hC hr hnm
  refine z_iload_n hC dX2_isOn_0 rfl ?_
  refine z_callSN [] hC (c_X4_isNode l D ct n) nw_28 bw_80 bw_2 bw_81 1 (by decide +kernel) rfl rfl rfl ⟨Nat.le_of_ble_eq_true rfl, Nat.le_of_ble_eq_true rfl⟩ (Nat.le_of_ble_eq_true rfl) ⟨Nat.le_of_ble_eq_true rfl, Nat.le_of_ble_eq_true rfl⟩ rfl dX2_isOn_1 ?_
  refine zkq (G := fun v1 w1 => zG p l e _ s m args below meth c D _ _ _ _ _ _ _ (v1.toList ++ _) w1) rfl ?_
  refine z_if_eq hC 20 dX2_isOn_4 (by decide) (fun c4 => ?_) (fun c4 => ?_)
  · rw [bI_0] at c4
    refine z_iconst (v := 0) hC dX2_isOn_20 (by decide) ?_
    exact z_zretd hC hr (rfl) dX2_isOn_21 (Nat.zero_le _) (Nat.zero_le _) (by clear hC hr hnm; first | rfl | (simp [msOn, bI, c4, *]; done) | (simp_all [msOn, bI, c4]; done)) (by first | rfl | (simp [msOn, bI, c4, *]; done)) cS_adr
  · rw [bI_1] at c4
    refine z_aload_n hC dX2_isOn_7 rfl ?_
    refine z_get 0 1 hC bl_X2 (ci := 2) rfl (by decide) rfl bw_28 rfl rfl dX2_isOn_8 ?_
    refine z_iload_n hC dX2_isOn_11 rfl ?_
    refine z_zald 2 1 hC rfl rfl (vnode c4) dX2_isOn_12 ?_
    refine z_if_eq hC 20 dX2_isOn_13 (by decide) (fun c13 => ?_) (fun c13 => ?_)
    · refine z_iconst (v := 0) hC dX2_isOn_20 (by decide) ?_
      exact z_zretd hC hr (rfl) dX2_isOn_21 (Nat.zero_le _) (Nat.zero_le _) (by clear hC hr hnm; first | rfl | (simp [msOn, bI, c4, c13, *]; done) | (simp_all [msOn, bI, c4, c13]; done)) (by first | rfl | (simp [msOn, bI, c4, c13, *]; done)) cS_adr
    · refine z_iconst (v := 1) hC dX2_isOn_16 (by decide) ?_
      refine z_goto hC 21 dX2_isOn_17 (by decide) ?_
      exact z_zretd hC hr (rfl) dX2_isOn_21 (Nat.zero_le _) (Nat.zero_le _) (by clear hC hr hnm; first | rfl | (simp [msOn, bI, c4, c13, *]; done) | (simp_all [msOn, bI, c4, c13]; done)) (by first | rfl | (simp [msOn, bI, c4, c13, *]; done)) cS_adr

set_option maxRecDepth 100000 in
set_option maxHeartbeats 1000000 in
theorem c_X2_areConnected (l : Launch) (D : va_G) (ct : Nat → ClassId) (q : Nat → Nat) (σ : Nat → Nat → Int32) (a b : Int32) : zT l D ct yX2_areConnected cX2_areConnected 3 (some .boolean) 2 41 0 0 [.ref (q 0), .int a, .int b] (cS q σ ct) (zd (some (.int (bI (msConn σ a b)))) (cS q σ ct)) := by
  refine zT_of ([some (.ref (q 0)), some (.int a), some (.int b)]) (by decide +kernel) rfl (Nat.le_of_ble_eq_true rfl) ?_
  intro p e s m args below meth c hC hr hnm
  refine z_aload_n hC dX2_areConnected_0 rfl ?_
  refine z_iload_n hC dX2_areConnected_1 rfl ?_
  refine z_callV [0, 1, 2, 3, 4, 5, 6, 7, 8, 9, 10, 11, 12, 13, 14, 15] 0 2 hC (c_X2_isOn l D ct q σ a) bw_117 bw_118 bw_119 bw_12 bw_120 1 (by decide +kernel) rfl rfl rfl rfl rfl ⟨Nat.le_of_ble_eq_true rfl, Nat.le_of_ble_eq_true rfl⟩ (Nat.le_of_ble_eq_true rfl) ⟨Nat.le_of_ble_eq_true rfl, Nat.le_of_ble_eq_true rfl⟩ rfl dX2_areConnected_2 ?_
  refine zkq (G := fun v1 w1 => zG p l e _ s m args below meth c D _ _ _ _ _ _ _ (v1.toList ++ _) w1) rfl ?_
  refine z_if_eq hC 34 dX2_areConnected_5 (by decide) (fun c5 => ?_) (fun c5 => ?_)
  · rw [bI_0] at c5
    refine z_iconst (v := 0) hC dX2_areConnected_34 (by decide) ?_
    exact z_zretd hC hr (rfl) dX2_areConnected_35 (Nat.zero_le _) (Nat.zero_le _) (by clear hC hr hnm; first | rfl | (simp [msConn, bI, c5, *]; done) | (simp_all [msConn, bI, c5]; done)) (by first | rfl | (simp [msConn, bI, c5, *]; done)) cS_adr
  · rw [bI_1] at c5
    refine z_aload_n hC dX2_areConnected_8 rfl ?_
    refine z_iload_n hC dX2_areConnected_9 rfl ?_
    refine z_callV [0, 1, 2, 3, 4, 5, 6, 7, 8, 9, 10, 11, 12, 13, 14, 15] 0 2 hC (c_X2_isOn l D ct q σ b) bw_117 bw_118 bw_119 bw_12 bw_120 1 (by decide +kernel) rfl rfl rfl rfl rfl ⟨Nat.le_of_ble_eq_true rfl, Nat.le_of_ble_eq_true rfl⟩ (Nat.le_of_ble_eq_true rfl) ⟨Nat.le_of_ble_eq_true rfl, Nat.le_of_ble_eq_true rfl⟩ rfl dX2_areConnected_10 ?_
    refine zkq (G := fun v1 w1 => zG p l e _ s m args below meth c D _ _ _ _ _ _ _ (v1.toList ++ _) w1) rfl ?_
    refine z_if_eq hC 34 dX2_areConnected_13 (by decide) (fun c13 => ?_) (fun c13 => ?_)
    · rw [bI_0] at c13
      refine z_iconst (v := 0) hC dX2_areConnected_34 (by decide) ?_
      exact z_zretd hC hr (rfl) dX2_areConnected_35 (Nat.zero_le _) (Nat.zero_le _) (by clear hC hr hnm; first | rfl | (simp [msConn, bI, c5, c13, *]; done) | (simp_all [msConn, bI, c5, c13]; done)) (by first | rfl | (simp [msConn, bI, c5, c13, *]; done)) cS_adr
    · rw [bI_1] at c13
      refine z_aload_n hC dX2_areConnected_16 rfl ?_
      refine z_get 0 0 hC bl_X2 (ci := 2) rfl (by decide) rfl bw_27 rfl rfl dX2_areConnected_17 ?_
      refine z_iload_n hC dX2_areConnected_20 rfl ?_
      refine z_bipush (v := 10) hC dX2_areConnected_21 (by decide) ?_
      refine z_imul hC dX2_areConnected_23 ?_
      refine z_iload_n hC dX2_areConnected_24 rfl ?_
      refine z_iadd hC dX2_areConnected_25 ?_
      refine z_zald 1 1 hC rfl rfl (vlink (msOn_node c5) (msOn_node c13)) dX2_areConnected_26 ?_
      refine z_if_eq hC 34 dX2_areConnected_27 (by decide) (fun c27 => ?_) (fun c27 => ?_)
      · refine z_iconst (v := 0) hC dX2_areConnected_34 (by decide) ?_
        exact z_zretd hC hr (rfl) dX2_areConnected_35 (Nat.zero_le _) (Nat.zero_le _) (by clear hC hr hnm; first | rfl | (simp [msConn, bI, c5, c13, c27, *]; done) | (simp_all [msConn, bI, c5, c13, c27]; done)) (by first | rfl | (simp [msConn, bI, c5, c13, c27, *]; done)) cS_adr
      · refine z_iconst (v := 1) hC dX2_areConnected_30 (by decide) ?_
        refine z_goto hC 35 dX2_areConnected_31 (by decide) ?_
        exact z_zretd hC hr (rfl) dX2_areConnected_35 (Nat.zero_le _) (Nat.zero_le _) (by clear hC hr hnm; first | rfl | (simp [msConn, bI, c5, c13, c27, *]; done) | (simp_all [msConn, bI, c5, c13, c27]; done)) (by first | rfl | (simp [msConn, bI, c5, c13, c27, *]; done)) cS_adr

set_option maxRecDepth 100000 in
set_option maxHeartbeats 1000000 in
theorem c_X2_setLink (l : Launch) (D : va_G) (ct : Nat → ClassId) (q : Nat → Nat) (σ : Nat → Nat → Int32) (a b v : Int32) : zT l D ct yX2_setLink cX2_setLink 4 none 1 20 0 0 [.ref (q 0), .int a, .int b, .int v] (cS q σ ct) (zd none (cS q (msSetLink σ a b v) ct)) := by
  refine zT_of ([some (.ref (q 0)), some (.int a), some (.int b), some (.int v)]) (by decide +kernel) rfl (Nat.le_of_ble_eq_true rfl) ?_
  intro p e s m args below meth c hC hr hnm
  refine z_iload_n hC dX2_setLink_0 rfl ?_
  refine z_callSN [] hC (c_X4_isNode l D ct a) nw_28 bw_80 bw_2 bw_81 1 (by decide +kernel) rfl rfl rfl ⟨Nat.le_of_ble_eq_true rfl, Nat.le_of_ble_eq_true rfl⟩ (Nat.le_of_ble_eq_true rfl) ⟨Nat.le_of_ble_eq_true rfl, Nat.le_of_ble_eq_true rfl⟩ rfl dX2_setLink_1 ?_
  refine zkq (G := fun v1 w1 => zG p l e _ s m args below meth c D _ _ _ _ _ _ _ (v1.toList ++ _) w1) rfl ?_
  refine z_if_eq hC 38 dX2_setLink_4 (by decide) (fun c4 => ?_) (fun c4 => ?_)
  · rw [bI_0] at c4
    exact z_vretd hC hr dX2_setLink_38 (Nat.zero_le _) (Nat.zero_le _) (by first | rfl | (simp [msSetLink, c4, *]; done)) cS_adr
  · rw [bI_1] at c4
    refine z_iload_n hC dX2_setLink_7 rfl ?_
    refine z_callSN [] hC (c_X4_isNode l D ct b) nw_28 bw_80 bw_2 bw_81 1 (by decide +kernel) rfl rfl rfl ⟨Nat.le_of_ble_eq_true rfl, Nat.le_of_ble_eq_true rfl⟩ (Nat.le_of_ble_eq_true rfl) ⟨Nat.le_of_ble_eq_true rfl, Nat.le_of_ble_eq_true rfl⟩ rfl dX2_setLink_8 ?_
    refine zkq (G := fun v1 w1 => zG p l e _ s m args below meth c D _ _ _ _ _ _ _ (v1.toList ++ _) w1) rfl ?_
    refine z_if_eq hC 38 dX2_setLink_11 (by decide) (fun c11 => ?_) (fun c11 => ?_)
    · rw [bI_0] at c11
      exact z_vretd hC hr dX2_setLink_38 (Nat.zero_le _) (Nat.zero_le _) (by first | rfl | (simp [msSetLink, c4, c11, *]; done)) cS_adr
    · rw [bI_1] at c11
      refine z_aload_n hC dX2_setLink_14 rfl ?_
      refine z_get 0 0 hC bl_X2 (ci := 2) rfl (by decide) rfl bw_27 rfl rfl dX2_setLink_15 ?_
      refine z_iload_n hC dX2_setLink_18 rfl ?_
      refine z_bipush (v := 10) hC dX2_setLink_19 (by decide) ?_
      refine z_imul hC dX2_setLink_21 ?_
      refine z_iload_n hC dX2_setLink_22 rfl ?_
      refine z_iadd hC dX2_setLink_23 ?_
      refine z_iload_n hC dX2_setLink_24 rfl ?_
      refine z_zast 1 1 hC rfl rfl (vlink c4 c11) dX2_setLink_25 (w2 := cS q (u2 σ 1 ((((a * 10) + b)).toNatClampNeg) (vp_nar .boolean v)) ct) cS_a1 ?_
      obtain ⟨σ1, eσ1⟩ : ∃ zz_, zz_ = u2 σ 1 ((((a * 10) + b)).toNatClampNeg) (vp_nar .boolean v) := ⟨_, rfl⟩
      rw [← eσ1]
      refine z_aload_n hC dX2_setLink_26 rfl ?_
      refine z_get 0 0 hC bl_X2 (ci := 2) rfl (by decide) rfl bw_27 rfl rfl dX2_setLink_27 ?_
      refine z_iload_n hC dX2_setLink_30 rfl ?_
      refine z_bipush (v := 10) hC dX2_setLink_31 (by decide) ?_
      refine z_imul hC dX2_setLink_33 ?_
      refine z_iload_n hC dX2_setLink_34 rfl ?_
      refine z_iadd hC dX2_setLink_35 ?_
      refine z_iload_n hC dX2_setLink_36 rfl ?_
      refine z_zast 1 1 hC rfl rfl (vlink c11 c4) dX2_setLink_37 (w2 := cS q (u2 σ1 1 ((((b * 10) + a)).toNatClampNeg) (vp_nar .boolean v)) ct) cS_a1 ?_
      obtain ⟨σ2, eσ2⟩ : ∃ zz_, zz_ = u2 σ1 1 ((((b * 10) + a)).toNatClampNeg) (vp_nar .boolean v) := ⟨_, rfl⟩
      rw [← eσ2]
      exact z_vretd hC hr dX2_setLink_38 (Nat.zero_le _) (Nat.zero_le _) (by subst eσ2; subst eσ1; refine congrArg (fun z => cS q z ct) ?_; first | (simp only [msSetLink, c4, c11, and_self, if_true, if_false]; done) | (simp [msSetLink, c4, c11]; done) | (simp [msSetLink, c4, c11, *]; done)) cS_adr

set_option maxRecDepth 100000 in
set_option maxHeartbeats 1000000 in
theorem c_X2_setPower (l : Launch) (D : va_G) (ct : Nat → ClassId) (q : Nat → Nat) (σ : Nat → Nat → Int32) (n v : Int32) : zT l D ct yX2_setPower cX2_setPower 3 none 1 20 0 0 [.ref (q 0), .int n, .int v] (cS q σ ct) (zd none (cS q (msSetPower σ n v) ct)) := by
  refine zT_of ([some (.ref (q 0)), some (.int n), some (.int v)]) (by decide +kernel) rfl (Nat.le_of_ble_eq_true rfl) ?_
  intro p e s m args below meth c hC hr hnm
  refine z_iload_n hC dX2_setPower_0 rfl ?_
  refine z_callSN [] hC (c_X4_isNode l D ct n) nw_28 bw_80 bw_2 bw_81 1 (by decide +kernel) rfl rfl rfl ⟨Nat.le_of_ble_eq_true rfl, Nat.le_of_ble_eq_true rfl⟩ (Nat.le_of_ble_eq_true rfl) ⟨Nat.le_of_ble_eq_true rfl, Nat.le_of_ble_eq_true rfl⟩ rfl dX2_setPower_1 ?_
  refine zkq (G := fun v1 w1 => zG p l e _ s m args below meth c D _ _ _ _ _ _ _ (v1.toList ++ _) w1) rfl ?_
  refine z_if_eq hC 14 dX2_setPower_4 (by decide) (fun c4 => ?_) (fun c4 => ?_)
  · rw [bI_0] at c4
    exact z_vretd hC hr dX2_setPower_14 (Nat.zero_le _) (Nat.zero_le _) (by first | rfl | (simp [msSetPower, c4, *]; done)) cS_adr
  · rw [bI_1] at c4
    refine z_aload_n hC dX2_setPower_7 rfl ?_
    refine z_get 0 1 hC bl_X2 (ci := 2) rfl (by decide) rfl bw_28 rfl rfl dX2_setPower_8 ?_
    refine z_iload_n hC dX2_setPower_11 rfl ?_
    refine z_iload_n hC dX2_setPower_12 rfl ?_
    refine z_zast 2 1 hC rfl rfl (vnode c4) dX2_setPower_13 (w2 := cS q (u2 σ 2 ((n).toNatClampNeg) (vp_nar .boolean v)) ct) cS_a2 ?_
    obtain ⟨σ1, eσ1⟩ : ∃ zz_, zz_ = u2 σ 2 ((n).toNatClampNeg) (vp_nar .boolean v) := ⟨_, rfl⟩
    rw [← eσ1]
    exact z_vretd hC hr dX2_setPower_14 (Nat.zero_le _) (Nat.zero_le _) (by subst eσ1; refine congrArg (fun z => cS q z ct) ?_; first | (simp only [msSetPower, c4, and_self, if_true, if_false]; done) | (simp [msSetPower, c4]; done) | (simp [msSetPower, c4, *]; done)) cS_adr

set_option maxRecDepth 100000 in
set_option maxHeartbeats 1000000 in
theorem c_X2_linkCount (l : Launch) (D : va_G) (ct : Nat → ClassId) (q : Nat → Nat) (σ : Nat → Nat → Int32) : zT l D ct yX2_linkCount cX2_linkCount 3 (some .int) 0 0 0 0 [.ref (q 0)] (cS q σ ct) (zd (some (.int (msLinks σ))) (cS q σ ct)) := by
  refine zT_of ([some (.ref (q 0)), none, none]) (by decide +kernel) rfl (Nat.le_of_ble_eq_true rfl) ?_
  intro p e s m args below meth c hC hr hnm
  refine z_iconst (v := 0) hC dX2_linkCount_0 (by decide) ?_
  refine z_istore_n hC dX2_linkCount_1 (by decide) rfl ?_
  refine z_iconst (v := 0) hC dX2_linkCount_2 (by decide) ?_
  refine z_istore_n hC dX2_linkCount_3 (by decide) rfl ?_
  have loop4 : ∀ (kf i : Nat) (a : Int32) (hki : kf + i = 100) (hF : kfor (fun i (a : Int32) => a + (if σ 1 (nI i).toNatClampNeg = 0 then 0 else 1)) kf i a = (kfor (fun i (a : Int32) => a + (if σ 1 (nI i).toNatClampNeg = 0 then 0 else 1)) 100 0 0)), zG p l e { frames := 0, cells := 0, slots := 0, locals := 0 } s m args below meth c D (va_A (cS q σ ct) s.heap.size) 3 (MQ below (zQ D ct (cS q σ ct) s.heap.size (zd (some (.int (msLinks σ))) (cS q σ ct))) args s 0 0 (va_A (cS q σ ct) s.heap.size)) 0 0 4 [some (.ref (q 0)), some (.int a), some (.int (nI i))] [] (cS q σ ct) := by
    intro kf
    induction kf with
    | zero =>
      intro i a hki hF
      refine z_iload_n hC dX2_linkCount_4 rfl ?_
      refine z_aload_n hC dX2_linkCount_5 rfl ?_
      refine z_get 0 0 hC bl_X2 (ci := 2) rfl (by decide) rfl bw_27 rfl rfl dX2_linkCount_6 ?_
      refine z_alen 1 1 hC rfl rfl dX2_linkCount_9 ?_
      refine z_icmp_ge hC 36 dX2_linkCount_10 (by decide) (fun c10 => ?_) (fun c10 => absurd (kge 100 rfl (by omega) (by omega)) c10)
      refine z_iload_n hC dX2_linkCount_36 rfl ?_
      refine z_iconst (v := 2) hC dX2_linkCount_37 (by decide) ?_
      refine z_idiv hC dX2_linkCount_38 (by decide) ?_
      exact z_iretd hC hr dX2_linkCount_39 (Nat.zero_le _) (Nat.zero_le _) (by rw [msLinks, ← hF]; rfl) (by first | rfl | (simp [c10, i_nlt.mpr c10, *]; done)) cS_adr
    | succ kf ih =>
      intro i a hki hF
      refine z_iload_n hC dX2_linkCount_4 rfl ?_
      refine z_aload_n hC dX2_linkCount_5 rfl ?_
      refine z_get 0 0 hC bl_X2 (ci := 2) rfl (by decide) rfl bw_27 rfl rfl dX2_linkCount_6 ?_
      refine z_alen 1 1 hC rfl rfl dX2_linkCount_9 ?_
      refine z_icmp_ge hC 36 dX2_linkCount_10 (by decide) (fun c10 => absurd c10 (klt 100 rfl (by omega) (by decide))) (fun c10 => ?_)
      refine z_iload_n hC dX2_linkCount_13 rfl ?_
      refine z_aload_n hC dX2_linkCount_14 rfl ?_
      refine z_get 0 0 hC bl_X2 (ci := 2) rfl (by decide) rfl bw_27 rfl rfl dX2_linkCount_15 ?_
      refine z_iload_n hC dX2_linkCount_18 rfl ?_
      refine z_zald 1 1 hC rfl rfl (v100 (by omega)) dX2_linkCount_19 ?_
      refine z_if_eq hC 27 dX2_linkCount_20 (by decide) (fun c20 => ?_) (fun c20 => ?_)
      · refine z_iconst (v := 0) hC dX2_linkCount_27 (by decide) ?_
        refine z_iadd hC dX2_linkCount_28 ?_
        refine z_istore_n hC dX2_linkCount_29 (by decide) rfl ?_
        refine z_iinc (cn := 1) hC dX2_linkCount_30 (by decide) (by decide) rfl rfl ?_
        refine z_goto hC 4 dX2_linkCount_33 (by decide) ?_
        rw [nI_1]
        exact ih (i + 1) (a + 0) (by omega) (by rw [← hF]; simp [kfor, c10, c20, i_nle.mp c10])
      · refine z_iconst (v := 1) hC dX2_linkCount_23 (by decide) ?_
        refine z_goto hC 28 dX2_linkCount_24 (by decide) ?_
        refine z_iadd hC dX2_linkCount_28 ?_
        refine z_istore_n hC dX2_linkCount_29 (by decide) rfl ?_
        refine z_iinc (cn := 1) hC dX2_linkCount_30 (by decide) (by decide) rfl rfl ?_
        refine z_goto hC 4 dX2_linkCount_33 (by decide) ?_
        rw [nI_1]
        exact ih (i + 1) (a + 1) (by omega) (by rw [← hF]; simp [kfor, c10, c20, i_nle.mp c10])
  exact loop4 _ 0 0 (Nat.add_zero _) rfl

set_option maxRecDepth 100000 in
set_option maxHeartbeats 1000000 in
theorem c_X2_onCount (l : Launch) (D : va_G) (ct : Nat → ClassId) (q : Nat → Nat) (σ : Nat → Nat → Int32) : zT l D ct yX2_onCount cX2_onCount 3 (some .int) 0 0 0 0 [.ref (q 0)] (cS q σ ct) (zd (some (.int (msOnCount σ))) (cS q σ ct)) := by
  refine zT_of ([some (.ref (q 0)), none, none]) (by decide +kernel) rfl (Nat.le_of_ble_eq_true rfl) ?_
  intro p e s m args below meth c hC hr hnm
  refine z_iconst (v := 0) hC dX2_onCount_0 (by decide) ?_
  refine z_istore_n hC dX2_onCount_1 (by decide) rfl ?_
  refine z_iconst (v := 0) hC dX2_onCount_2 (by decide) ?_
  refine z_istore_n hC dX2_onCount_3 (by decide) rfl ?_
  have loop4 : ∀ (kf i : Nat) (a : Int32) (hki : kf + i = 10) (hF : kfor (fun i (a : Int32) => a + (if σ 2 (nI i).toNatClampNeg = 0 then 0 else 1)) kf i a = msOnCount σ), zG p l e { frames := 0, cells := 0, slots := 0, locals := 0 } s m args below meth c D (va_A (cS q σ ct) s.heap.size) 3 (MQ below (zQ D ct (cS q σ ct) s.heap.size (zd (some (.int (msOnCount σ))) (cS q σ ct))) args s 0 0 (va_A (cS q σ ct) s.heap.size)) 0 0 4 [some (.ref (q 0)), some (.int a), some (.int (nI i))] [] (cS q σ ct) := by
    intro kf
    induction kf with
    | zero =>
      intro i a hki hF
      refine z_iload_n hC dX2_onCount_4 rfl ?_
      refine z_bipush (v := 10) hC dX2_onCount_5 (by decide) ?_
      refine z_icmp_ge hC 33 dX2_onCount_7 (by decide) (fun c7 => ?_) (fun c7 => absurd (kge 10 rfl (by omega) (by omega)) c7)
      refine z_iload_n hC dX2_onCount_33 rfl ?_
      exact z_iretd hC hr dX2_onCount_34 (Nat.zero_le _) (Nat.zero_le _) (hF) (by first | rfl | (simp [c7, i_nlt.mpr c7, *]; done)) cS_adr
    | succ kf ih =>
      intro i a hki hF
      refine z_iload_n hC dX2_onCount_4 rfl ?_
      refine z_bipush (v := 10) hC dX2_onCount_5 (by decide) ?_
      refine z_icmp_ge hC 33 dX2_onCount_7 (by decide) (fun c7 => absurd c7 (klt 10 rfl (by omega) (by decide))) (fun c7 => ?_)
      refine z_iload_n hC dX2_onCount_10 rfl ?_
      refine z_aload_n hC dX2_onCount_11 rfl ?_
      refine z_get 0 1 hC bl_X2 (ci := 2) rfl (by decide) rfl bw_28 rfl rfl dX2_onCount_12 ?_
      refine z_iload_n hC dX2_onCount_15 rfl ?_
      refine z_zald 2 1 hC rfl rfl (v10 (by omega)) dX2_onCount_16 ?_
      refine z_if_eq hC 24 dX2_onCount_17 (by decide) (fun c17 => ?_) (fun c17 => ?_)
      · refine z_iconst (v := 0) hC dX2_onCount_24 (by decide) ?_
        refine z_iadd hC dX2_onCount_25 ?_
        refine z_istore_n hC dX2_onCount_26 (by decide) rfl ?_
        refine z_iinc (cn := 1) hC dX2_onCount_27 (by decide) (by decide) rfl rfl ?_
        refine z_goto hC 4 dX2_onCount_30 (by decide) ?_
        rw [nI_1]
        exact ih (i + 1) (a + 0) (by omega) (by rw [← hF]; simp [kfor, c7, c17, i_nle.mp c7])
      · refine z_iconst (v := 1) hC dX2_onCount_20 (by decide) ?_
        refine z_goto hC 25 dX2_onCount_21 (by decide) ?_
        refine z_iadd hC dX2_onCount_25 ?_
        refine z_istore_n hC dX2_onCount_26 (by decide) rfl ?_
        refine z_iinc (cn := 1) hC dX2_onCount_27 (by decide) (by decide) rfl rfl ?_
        refine z_goto hC 4 dX2_onCount_30 (by decide) ?_
        rw [nI_1]
        exact ih (i + 1) (a + 1) (by omega) (by rw [← hF]; simp [kfor, c7, c17, i_nle.mp c7])
  exact loop4 _ 0 0 (Nat.add_zero _) rfl

set_option maxRecDepth 100000 in
set_option maxHeartbeats 1000000 in
theorem c_X2_joinedCount (l : Launch) (D : va_G) (ct : Nat → ClassId) (q : Nat → Nat) (σ : Nat → Nat → Int32) : zT l D ct yX2_joinedCount cX2_joinedCount 3 (some .int) 0 0 0 0 [.ref (q 0)] (cS q σ ct) (zd (some (.int (msJoined σ))) (cS q σ ct)) := by
  refine zT_of ([some (.ref (q 0)), none, none]) (by decide +kernel) rfl (Nat.le_of_ble_eq_true rfl) ?_
  intro p e s m args below meth c hC hr hnm
  refine z_iconst (v := 0) hC dX2_joinedCount_0 (by decide) ?_
  refine z_istore_n hC dX2_joinedCount_1 (by decide) rfl ?_
  refine z_iconst (v := 0) hC dX2_joinedCount_2 (by decide) ?_
  refine z_istore_n hC dX2_joinedCount_3 (by decide) rfl ?_
  have loop4 : ∀ (kf i : Nat) (a : Int32) (hki : kf + i = 10) (hF : kfor (fun i (a : Int32) => a + (if σ 3 (nI i).toNatClampNeg = -1 then 0 else 1)) kf i a = msJoined σ), zG p l e { frames := 0, cells := 0, slots := 0, locals := 0 } s m args below meth c D (va_A (cS q σ ct) s.heap.size) 3 (MQ below (zQ D ct (cS q σ ct) s.heap.size (zd (some (.int (msJoined σ))) (cS q σ ct))) args s 0 0 (va_A (cS q σ ct) s.heap.size)) 0 0 4 [some (.ref (q 0)), some (.int a), some (.int (nI i))] [] (cS q σ ct) := by
    intro kf
    induction kf with
    | zero =>
      intro i a hki hF
      refine z_iload_n hC dX2_joinedCount_4 rfl ?_
      refine z_bipush (v := 10) hC dX2_joinedCount_5 (by decide) ?_
      refine z_icmp_ge hC 34 dX2_joinedCount_7 (by decide) (fun c7 => ?_) (fun c7 => absurd (kge 10 rfl (by omega) (by omega)) c7)
      refine z_iload_n hC dX2_joinedCount_34 rfl ?_
      exact z_iretd hC hr dX2_joinedCount_35 (Nat.zero_le _) (Nat.zero_le _) (hF) (by first | rfl | (simp [c7, i_nlt.mpr c7, *]; done)) cS_adr
    | succ kf ih =>
      intro i a hki hF
      refine z_iload_n hC dX2_joinedCount_4 rfl ?_
      refine z_bipush (v := 10) hC dX2_joinedCount_5 (by decide) ?_
      refine z_icmp_ge hC 34 dX2_joinedCount_7 (by decide) (fun c7 => absurd c7 (klt 10 rfl (by omega) (by decide))) (fun c7 => ?_)
      refine z_iload_n hC dX2_joinedCount_10 rfl ?_
      refine z_aload_n hC dX2_joinedCount_11 rfl ?_
      refine z_get 0 2 hC bl_X2 (ci := 2) rfl (by decide) rfl bw_30 rfl rfl dX2_joinedCount_12 ?_
      refine z_iload_n hC dX2_joinedCount_15 rfl ?_
      refine z_iald 3 0 hC rfl rfl (v10 (by omega)) dX2_joinedCount_16 ?_
      refine z_iconst (v := (-1)) hC dX2_joinedCount_17 (by decide) ?_
      refine z_icmp_ne hC 25 dX2_joinedCount_18 (by decide) (fun c18 => ?_) (fun c18 => ?_)
      · refine z_iconst (v := 1) hC dX2_joinedCount_25 (by decide) ?_
        refine z_iadd hC dX2_joinedCount_26 ?_
        refine z_istore_n hC dX2_joinedCount_27 (by decide) rfl ?_
        refine z_iinc (cn := 1) hC dX2_joinedCount_28 (by decide) (by decide) rfl rfl ?_
        refine z_goto hC 4 dX2_joinedCount_31 (by decide) ?_
        rw [nI_1]
        exact ih (i + 1) (a + 1) (by omega) (by rw [← hF]; simp [kfor, c7, c18, i_nle.mp c7])
      · refine z_iconst (v := 0) hC dX2_joinedCount_21 (by decide) ?_
        refine z_goto hC 26 dX2_joinedCount_22 (by decide) ?_
        refine z_iadd hC dX2_joinedCount_26 ?_
        refine z_istore_n hC dX2_joinedCount_27 (by decide) rfl ?_
        refine z_iinc (cn := 1) hC dX2_joinedCount_28 (by decide) (by decide) rfl rfl ?_
        refine z_goto hC 4 dX2_joinedCount_31 (by decide) ?_
        rw [nI_1]
        exact ih (i + 1) (a + 0) (by omega) (by rw [← hF]; simp [kfor, c7, c18, i_nle.mp c7])
  exact loop4 _ 0 0 (Nat.add_zero _) rfl

set_option maxRecDepth 100000 in
set_option maxHeartbeats 1000000 in
theorem c_X2_neighboursOf (l : Launch) (D : va_G) (ct : Nat → ClassId) (q : Nat → Nat) (σ : Nat → Nat → Int32) (set : Int32) : zT l D ct yX2_neighboursOf cX2_neighboursOf 5 (some .int) 3 63 0 0 [.ref (q 0), .int set] (cS q σ ct) (zd (some (.int (msNb σ set))) (cS q σ ct)) := by
  refine zT_of ([some (.ref (q 0)), some (.int set), none, none, none]) (by decide +kernel) rfl (Nat.le_of_ble_eq_true rfl) ?_
  intro p e s m args below meth c hC hr hnm
  refine z_iconst (v := 0) hC dX2_neighboursOf_0 (by decide) ?_
  refine z_istore_n hC dX2_neighboursOf_1 (by decide) rfl ?_
  refine z_iconst (v := 0) hC dX2_neighboursOf_2 (by decide) ?_
  refine z_istore_n hC dX2_neighboursOf_3 (by decide) rfl ?_
  have loop4 : ∀ (kf i : Nat) (z : Int32) (hki : kf + i = 10) (hF : kfor (fun a (z : Int32) => kfor (msNb1 σ set a) 10 0 z) kf i z = msNb σ set), zG p l e { frames := 3, cells := 0, slots := 0, locals := 63 } s m args below meth c D (va_A (cS q σ ct) s.heap.size) 5 (MQ below (zQ D ct (cS q σ ct) s.heap.size (zd (some (.int (msNb σ set))) (cS q σ ct))) args s 0 0 (va_A (cS q σ ct) s.heap.size)) 0 0 4 [some (.ref (q 0)), some (.int set), some (.int z), some (.int (nI i)), none] [] (cS q σ ct) := by
    intro kf
    induction kf with
    | zero =>
      intro i z hki hF
      refine z_iload_n hC dX2_neighboursOf_4 rfl ?_
      refine z_bipush (v := 10) hC dX2_neighboursOf_5 (by decide) ?_
      refine z_icmp_ge hC 57 dX2_neighboursOf_7 (by decide) (fun c7 => ?_) (fun c7 => absurd (kge 10 rfl (by omega) (by omega)) c7)
      refine z_iload_n hC dX2_neighboursOf_57 rfl ?_
      exact z_iretd hC hr dX2_neighboursOf_58 (Nat.zero_le _) (Nat.zero_le _) (hF) (by first | rfl | (simp [c7, i_nlt.mpr c7, *]; done)) cS_adr
    | succ kf ih =>
      intro i z hki hF
      refine z_iload_n hC dX2_neighboursOf_4 rfl ?_
      refine z_bipush (v := 10) hC dX2_neighboursOf_5 (by decide) ?_
      refine z_icmp_ge hC 57 dX2_neighboursOf_7 (by decide) (fun c7 => absurd c7 (klt 10 rfl (by omega) (by decide))) (fun c7 => ?_)
      refine z_iconst (v := 0) hC dX2_neighboursOf_10 (by decide) ?_
      refine z_istore hC dX2_neighboursOf_11 (by decide) rfl ?_
      have loop13 : ∀ (kg j : Nat) (y : Int32) (hkj : kg + j = 10) (hG : kfor (msNb1 σ set i) kg j y = kfor (msNb1 σ set i) 10 0 z), zG p l e { frames := 3, cells := 0, slots := 0, locals := 63 } s m args below meth c D (va_A (cS q σ ct) s.heap.size) 5 (MQ below (zQ D ct (cS q σ ct) s.heap.size (zd (some (.int (msNb σ set))) (cS q σ ct))) args s 0 0 (va_A (cS q σ ct) s.heap.size)) 0 0 13 [some (.ref (q 0)), some (.int set), some (.int y), some (.int (nI i)), some (.int (nI j))] [] (cS q σ ct) := by
        intro kg
        induction kg with
        | zero =>
          intro j y hkj hG
          refine z_iload hC dX2_neighboursOf_13 rfl ?_
          refine z_bipush (v := 10) hC dX2_neighboursOf_15 (by decide) ?_
          refine z_icmp_ge hC 51 dX2_neighboursOf_17 (by decide) (fun c17 => ?_) (fun c17 => absurd (kge 10 rfl (by omega) (by omega)) c17)
          refine z_iinc (cn := 1) hC dX2_neighboursOf_51 (by decide) (by decide) rfl rfl ?_
          refine z_goto hC 4 dX2_neighboursOf_54 (by decide) ?_
          rw [nI_1]
          exact z_wk (ls_s (ls_s (ls_s (ls_s (ls_n ls_0))))) (ih (i + 1) y (by omega) (by rw [← hF]; show kfor _ kf (i + 1) _ = kfor _ kf (i + 1) (kfor (msNb1 σ set i) 10 0 z); rw [← hG]; rfl))
        | succ kg ihg =>
          intro j y hkj hG
          refine z_iload hC dX2_neighboursOf_13 rfl ?_
          refine z_bipush (v := 10) hC dX2_neighboursOf_15 (by decide) ?_
          refine z_icmp_ge hC 51 dX2_neighboursOf_17 (by decide) (fun c17 => absurd c17 (klt 10 rfl (by omega) (by decide))) (fun c17 => ?_)
          refine z_iload_n hC dX2_neighboursOf_20 rfl ?_
          refine z_iconst (v := 1) hC dX2_neighboursOf_21 (by decide) ?_
          refine z_iload_n hC dX2_neighboursOf_22 rfl ?_
          refine z_ishl hC dX2_neighboursOf_23 ?_
          refine z_iand hC dX2_neighboursOf_24 ?_
          refine z_if_eq hC 45 dX2_neighboursOf_25 (by decide) (fun c25 => ?_) (fun c25 => ?_)
          · refine z_iinc (cn := 1) hC dX2_neighboursOf_45 (by decide) (by decide) rfl rfl ?_
            refine z_goto hC 13 dX2_neighboursOf_48 (by decide) ?_
            rw [nI_1]
            exact ihg (j + 1) y (by omega) (by rw [← hG]; simp [kfor, msNb1, c7, c17, c25, i_nle.mp c7, i_nle.mp c17])
          · refine z_aload_n hC dX2_neighboursOf_28 rfl ?_
            refine z_iload_n hC dX2_neighboursOf_29 rfl ?_
            refine z_iload hC dX2_neighboursOf_30 rfl ?_
            refine z_callV [0, 1, 2, 3, 4, 5, 6, 7, 8, 9, 10, 11, 12, 13, 14, 15] 0 2 hC (c_X2_areConnected l D ct q σ (nI i) (nI j)) bw_135 bw_114 bw_115 bw_12 bw_116 2 (by decide +kernel) rfl rfl rfl rfl rfl ⟨Nat.le_of_ble_eq_true rfl, Nat.le_of_ble_eq_true rfl⟩ (Nat.le_of_ble_eq_true rfl) ⟨Nat.le_of_ble_eq_true rfl, Nat.le_of_ble_eq_true rfl⟩ rfl dX2_neighboursOf_32 ?_
            refine zkq (G := fun v1 w1 => zG p l e _ s m args below meth c D _ _ _ _ _ _ _ (v1.toList ++ _) w1) rfl ?_
            refine z_if_eq hC 45 dX2_neighboursOf_35 (by decide) (fun c35 => ?_) (fun c35 => ?_)
            · rw [bI_0] at c35
              refine z_iinc (cn := 1) hC dX2_neighboursOf_45 (by decide) (by decide) rfl rfl ?_
              refine z_goto hC 13 dX2_neighboursOf_48 (by decide) ?_
              rw [nI_1]
              exact ihg (j + 1) y (by omega) (by rw [← hG]; simp [kfor, msNb1, c7, c17, c25, c35, i_nle.mp c7, i_nle.mp c17])
            · rw [bI_1] at c35
              refine z_iload_n hC dX2_neighboursOf_38 rfl ?_
              refine z_iconst (v := 1) hC dX2_neighboursOf_39 (by decide) ?_
              refine z_iload hC dX2_neighboursOf_40 rfl ?_
              refine z_ishl hC dX2_neighboursOf_42 ?_
              refine z_ior hC dX2_neighboursOf_43 ?_
              refine z_istore_n hC dX2_neighboursOf_44 (by decide) rfl ?_
              refine z_iinc (cn := 1) hC dX2_neighboursOf_45 (by decide) (by decide) rfl rfl ?_
              refine z_goto hC 13 dX2_neighboursOf_48 (by decide) ?_
              rw [nI_1]
              exact ihg (j + 1) (y ||| (1 <<< ((nI j) &&& 31))) (by omega) (by rw [← hG]; simp [kfor, msNb1, c7, c17, c25, c35, i_nle.mp c7, i_nle.mp c17])
      exact loop13 _ 0 z (Nat.add_zero _) rfl
  exact z_wk (ls_s (ls_s (ls_s (ls_s (ls_n ls_0))))) (loop4 _ 0 0 (Nat.add_zero _) rfl)

set_option maxRecDepth 100000 in
set_option maxHeartbeats 1000000 in
theorem c_X2_hopsToCollector (l : Launch) (D : va_G) (ct : Nat → ClassId) (q : Nat → Nat) (σ : Nat → Nat → Int32) (n : Int32) : zT l D ct yX2_hopsToCollector cX2_hopsToCollector 4 (some .int) 4 87 0 0 [.ref (q 0), .int n] (cS q σ ct) (zd (some (.int (msHops σ n))) (cS q σ ct)) := by
  refine zT_of ([some (.ref (q 0)), some (.int n), none, none]) (by decide +kernel) rfl (Nat.le_of_ble_eq_true rfl) ?_
  intro p e s m args below meth c hC hr hnm
  refine z_aload_n hC dX2_hopsToCollector_0 rfl ?_
  refine z_get 0 1 hC bl_X2 (ci := 2) rfl (by decide) rfl bw_28 rfl rfl dX2_hopsToCollector_1 ?_
  refine z_iconst (v := 0) hC dX2_hopsToCollector_4 (by decide) ?_
  refine z_zald 2 1 hC rfl rfl (v10 (i := 0) (by decide)) dX2_hopsToCollector_5 ?_
  refine z_if_eq hC 13 dX2_hopsToCollector_6 (by decide) (fun c6 => ?_) (fun c6 => ?_)
  · refine z_iconst (v := 0) hC dX2_hopsToCollector_13 (by decide) ?_
    refine z_istore_n hC dX2_hopsToCollector_14 (by decide) rfl ?_
    refine z_iconst (v := 0) hC dX2_hopsToCollector_15 (by decide) ?_
    refine z_istore_n hC dX2_hopsToCollector_16 (by decide) rfl ?_
    have loop17 : ∀ (kf i : Nat) (r : Int32) (hki : kf + i = 10) (hF : msHop σ n kf i r = msHops σ n), zG p l e { frames := 4, cells := 0, slots := 0, locals := 87 } s m args below meth c D (va_A (cS q σ ct) s.heap.size) 4 (MQ below (zQ D ct (cS q σ ct) s.heap.size (zd (some (.int (msHops σ n))) (cS q σ ct))) args s 0 0 (va_A (cS q σ ct) s.heap.size)) 0 0 17 [some (.ref (q 0)), some (.int n), some (.int r), some (.int (nI i))] [] (cS q σ ct) := by
      intro kf
      induction kf with
      | zero =>
        intro i r hki hF
        refine z_iload_n hC dX2_hopsToCollector_17 rfl ?_
        refine z_bipush (v := 10) hC dX2_hopsToCollector_18 (by decide) ?_
        refine z_icmp_ge hC 47 dX2_hopsToCollector_20 (by decide) (fun c20 => ?_) (fun c20 => absurd (kge 10 rfl (by omega) (by omega)) c20)
        refine z_iconst (v := (-1)) hC dX2_hopsToCollector_47 (by decide) ?_
        exact z_iretd hC hr dX2_hopsToCollector_48 (Nat.zero_le _) (Nat.zero_le _) (hF) (by first | rfl | (simp [c6, c20, i_nlt.mpr c20, *]; done)) cS_adr
      | succ kf ih =>
        intro i r hki hF
        refine z_iload_n hC dX2_hopsToCollector_17 rfl ?_
        refine z_bipush (v := 10) hC dX2_hopsToCollector_18 (by decide) ?_
        refine z_icmp_ge hC 47 dX2_hopsToCollector_20 (by decide) (fun c20 => absurd c20 (klt 10 rfl (by omega) (by decide))) (fun c20 => ?_)
        refine z_iload_n hC dX2_hopsToCollector_23 rfl ?_
        refine z_iconst (v := 1) hC dX2_hopsToCollector_24 (by decide) ?_
        refine z_iload_n hC dX2_hopsToCollector_25 rfl ?_
        refine z_ishl hC dX2_hopsToCollector_26 ?_
        refine z_iand hC dX2_hopsToCollector_27 ?_
        refine z_if_eq hC 33 dX2_hopsToCollector_28 (by decide) (fun c28 => ?_) (fun c28 => ?_)
        · refine z_iload_n hC dX2_hopsToCollector_33 rfl ?_
          refine z_aload_n hC dX2_hopsToCollector_34 rfl ?_
          refine z_iload_n hC dX2_hopsToCollector_35 rfl ?_
          refine z_callV [0, 1, 2, 3, 4, 5, 6, 7, 8, 9, 10, 11, 12, 13, 14, 15] 0 2 hC (c_X2_neighboursOf l D ct q σ r) bw_131 bw_132 bw_133 bw_12 bw_134 1 (by decide +kernel) rfl rfl rfl rfl rfl ⟨Nat.le_of_ble_eq_true rfl, Nat.le_of_ble_eq_true rfl⟩ (Nat.le_of_ble_eq_true rfl) ⟨Nat.le_of_ble_eq_true rfl, Nat.le_of_ble_eq_true rfl⟩ rfl dX2_hopsToCollector_36 ?_
          refine zkq (G := fun v1 w1 => zG p l e _ s m args below meth c D _ _ _ _ _ _ _ (v1.toList ++ _) w1) rfl ?_
          refine z_ior hC dX2_hopsToCollector_39 ?_
          refine z_istore_n hC dX2_hopsToCollector_40 (by decide) rfl ?_
          refine z_iinc (cn := 1) hC dX2_hopsToCollector_41 (by decide) (by decide) rfl rfl ?_
          refine z_goto hC 17 dX2_hopsToCollector_44 (by decide) ?_
          rw [nI_1]
          exact ih (i + 1) (r ||| (msNb σ r)) (by omega) (by rw [← hF]; simp [msHop, c6, c20, c28, i_nle.mp c20])
        · refine z_iload_n hC dX2_hopsToCollector_31 rfl ?_
          exact z_iretd hC hr dX2_hopsToCollector_32 (Nat.zero_le _) (Nat.zero_le _) (by rw [← hF]; simp [msHop, c28]) (by first | rfl | (simp [c6, c20, c28, i_nle.mp c20, *]; done)) cS_adr
    exact loop17 _ 0 0 (Nat.add_zero _) (by first | rw [msHops, if_pos c6] | rw [msHops, if_neg c6])
  · refine z_iconst (v := 1) hC dX2_hopsToCollector_9 (by decide) ?_
    refine z_goto hC 14 dX2_hopsToCollector_10 (by decide) ?_
    refine z_istore_n hC dX2_hopsToCollector_14 (by decide) rfl ?_
    refine z_iconst (v := 0) hC dX2_hopsToCollector_15 (by decide) ?_
    refine z_istore_n hC dX2_hopsToCollector_16 (by decide) rfl ?_
    have loop17 : ∀ (kf i : Nat) (r : Int32) (hki : kf + i = 10) (hF : msHop σ n kf i r = msHops σ n), zG p l e { frames := 4, cells := 0, slots := 0, locals := 87 } s m args below meth c D (va_A (cS q σ ct) s.heap.size) 4 (MQ below (zQ D ct (cS q σ ct) s.heap.size (zd (some (.int (msHops σ n))) (cS q σ ct))) args s 0 0 (va_A (cS q σ ct) s.heap.size)) 0 0 17 [some (.ref (q 0)), some (.int n), some (.int r), some (.int (nI i))] [] (cS q σ ct) := by
      intro kf
      induction kf with
      | zero =>
        intro i r hki hF
        refine z_iload_n hC dX2_hopsToCollector_17 rfl ?_
        refine z_bipush (v := 10) hC dX2_hopsToCollector_18 (by decide) ?_
        refine z_icmp_ge hC 47 dX2_hopsToCollector_20 (by decide) (fun c20 => ?_) (fun c20 => absurd (kge 10 rfl (by omega) (by omega)) c20)
        refine z_iconst (v := (-1)) hC dX2_hopsToCollector_47 (by decide) ?_
        exact z_iretd hC hr dX2_hopsToCollector_48 (Nat.zero_le _) (Nat.zero_le _) (hF) (by first | rfl | (simp [c6, c20, i_nlt.mpr c20, *]; done)) cS_adr
      | succ kf ih =>
        intro i r hki hF
        refine z_iload_n hC dX2_hopsToCollector_17 rfl ?_
        refine z_bipush (v := 10) hC dX2_hopsToCollector_18 (by decide) ?_
        refine z_icmp_ge hC 47 dX2_hopsToCollector_20 (by decide) (fun c20 => absurd c20 (klt 10 rfl (by omega) (by decide))) (fun c20 => ?_)
        refine z_iload_n hC dX2_hopsToCollector_23 rfl ?_
        refine z_iconst (v := 1) hC dX2_hopsToCollector_24 (by decide) ?_
        refine z_iload_n hC dX2_hopsToCollector_25 rfl ?_
        refine z_ishl hC dX2_hopsToCollector_26 ?_
        refine z_iand hC dX2_hopsToCollector_27 ?_
        refine z_if_eq hC 33 dX2_hopsToCollector_28 (by decide) (fun c28 => ?_) (fun c28 => ?_)
        · refine z_iload_n hC dX2_hopsToCollector_33 rfl ?_
          refine z_aload_n hC dX2_hopsToCollector_34 rfl ?_
          refine z_iload_n hC dX2_hopsToCollector_35 rfl ?_
          refine z_callV [0, 1, 2, 3, 4, 5, 6, 7, 8, 9, 10, 11, 12, 13, 14, 15] 0 2 hC (c_X2_neighboursOf l D ct q σ r) bw_131 bw_132 bw_133 bw_12 bw_134 1 (by decide +kernel) rfl rfl rfl rfl rfl ⟨Nat.le_of_ble_eq_true rfl, Nat.le_of_ble_eq_true rfl⟩ (Nat.le_of_ble_eq_true rfl) ⟨Nat.le_of_ble_eq_true rfl, Nat.le_of_ble_eq_true rfl⟩ rfl dX2_hopsToCollector_36 ?_
          refine zkq (G := fun v1 w1 => zG p l e _ s m args below meth c D _ _ _ _ _ _ _ (v1.toList ++ _) w1) rfl ?_
          refine z_ior hC dX2_hopsToCollector_39 ?_
          refine z_istore_n hC dX2_hopsToCollector_40 (by decide) rfl ?_
          refine z_iinc (cn := 1) hC dX2_hopsToCollector_41 (by decide) (by decide) rfl rfl ?_
          refine z_goto hC 17 dX2_hopsToCollector_44 (by decide) ?_
          rw [nI_1]
          exact ih (i + 1) (r ||| (msNb σ r)) (by omega) (by rw [← hF]; simp [msHop, c6, c20, c28, i_nle.mp c20])
        · refine z_iload_n hC dX2_hopsToCollector_31 rfl ?_
          exact z_iretd hC hr dX2_hopsToCollector_32 (Nat.zero_le _) (Nat.zero_le _) (by rw [← hF]; simp [msHop, c28]) (by first | rfl | (simp [c6, c20, c28, i_nle.mp c20, *]; done)) cS_adr
    exact loop17 _ 0 1 (Nat.add_zero _) (by first | rw [msHops, if_pos c6] | rw [msHops, if_neg c6])

set_option maxRecDepth 100000 in
set_option maxHeartbeats 1000000 in
theorem c_X2_canTake (l : Launch) (D : va_G) (ct : Nat → ClassId) (q : Nat → Nat) (σ : Nat → Nat → Int32) (n : Int32) : zT l D ct yX2_canTake cX2_canTake 2 (some .boolean) 3 81 0 0 [.ref (q 0), .int n] (cS q σ ct) (zd (some (.int (bI (msCanTake σ n)))) (cS q σ ct)) := by
  refine zT_of ([some (.ref (q 0)), some (.int n)]) (by decide +kernel) rfl (Nat.le_of_ble_eq_true rfl) ?_
  intro p e s m args below meth c hC hr hnm
  refine z_aload_n hC dX2_canTake_0 rfl ?_
  refine z_get 0 7 hC bl_X2 (ci := 2) rfl (by decide) rfl bw_38 rfl rfl dX2_canTake_1 ?_
  refine z_getN 8 4 hC bl_X1 (ci := 1) rfl (by decide) rfl nw_2 rfl rfl dX2_canTake_4 ?_
  refine z_bipush (v := 60) hC dX2_canTake_7 (by decide) ?_
  refine z_icmp_ge hC 27 dX2_canTake_9 (by decide) (fun c9 => ?_) (fun c9 => ?_)
  · refine z_iconst (v := 0) hC dX2_canTake_27 (by decide) ?_
    exact z_zretd hC hr (rfl) dX2_canTake_28 (Nat.zero_le _) (Nat.zero_le _) (by clear hC hr hnm; first | rfl | (simp [msCanTake, bI, c9, i_nlt.mpr c9, *]; done) | (simp_all [msCanTake, bI, c9, i_nlt.mpr c9]; done)) (by first | rfl | (simp [msCanTake, bI, c9, i_nlt.mpr c9, *]; done)) cS_adr
  · refine z_aload_n hC dX2_canTake_12 rfl ?_
    refine z_get 0 7 hC bl_X2 (ci := 2) rfl (by decide) rfl bw_38 rfl rfl dX2_canTake_13 ?_
    refine z_iload_n hC dX2_canTake_16 rfl ?_
    refine z_callVN [8, 9, 10, 11, 12, 13, 14, 15] 0 1 hC (c_X1_isFull l D ct (fun i => q (8 + i)) (rd σ) n) nw_36 bw_361 bw_362 bw_37 bw_363 1 (by decide +kernel) rfl rfl rfl rfl rfl ⟨Nat.le_of_ble_eq_true rfl, Nat.le_of_ble_eq_true rfl⟩ (Nat.le_of_ble_eq_true rfl) ⟨Nat.le_of_ble_eq_true rfl, Nat.le_of_ble_eq_true rfl⟩ rfl dX2_canTake_17 ?_
    refine zkq (G := fun v1 w1 => zG p l e _ s m args below meth c D _ _ _ _ _ _ _ (v1.toList ++ _) w1) rfl ?_
    refine z_if_ne hC 27 dX2_canTake_20 (by decide) (fun c20 => ?_) (fun c20 => ?_)
    · rw [bI_1] at c20
      refine z_iconst (v := 0) hC dX2_canTake_27 (by decide) ?_
      exact z_zretd hC hr (rfl) dX2_canTake_28 (Nat.zero_le _) (Nat.zero_le _) (by clear hC hr hnm; first | rfl | (simp [msCanTake, bI, c9, c20, i_nle.mp c9, *]; done) | (simp_all [msCanTake, bI, c9, c20, i_nle.mp c9]; done)) (by first | rfl | (simp [msCanTake, bI, c9, c20, i_nle.mp c9, *]; done)) cS_adr
    · rw [bI_0] at c20
      refine z_iconst (v := 1) hC dX2_canTake_23 (by decide) ?_
      refine z_goto hC 28 dX2_canTake_24 (by decide) ?_
      exact z_zretd hC hr (rfl) dX2_canTake_28 (Nat.zero_le _) (Nat.zero_le _) (by clear hC hr hnm; first | rfl | (simp [msCanTake, bI, c9, c20, i_nle.mp c9, *]; done) | (simp_all [msCanTake, bI, c9, c20, i_nle.mp c9]; done)) (by first | rfl | (simp [msCanTake, bI, c9, c20, i_nle.mp c9, *]; done)) cS_adr

set_option maxRecDepth 100000 in
set_option maxHeartbeats 1000000 in
theorem c_X2_takeReading (l : Launch) (D : va_G) (ct : Nat → ClassId) (q : Nat → Nat) (σ : Nat → Nat → Int32) (n v : Int32) (hok : okS σ) : zT l D ct yX2_takeReading cX2_takeReading 3 (some .int) 4 97 0 0 [.ref (q 0), .int n, .int v] (cS q σ ct) (zd (some (.int (msTakeR σ n))) (cS q (msTake σ n v) ct)) := by
  refine zT_of ([some (.ref (q 0)), some (.int n), some (.int v)]) (by decide +kernel) rfl (Nat.le_of_ble_eq_true rfl) ?_
  intro p e s m args below meth c hC hr hnm
  refine z_iload_n hC dX2_takeReading_0 rfl ?_
  refine z_callSN [] hC (c_X4_isNode l D ct n) nw_28 bw_80 bw_2 bw_81 1 (by decide +kernel) rfl rfl rfl ⟨Nat.le_of_ble_eq_true rfl, Nat.le_of_ble_eq_true rfl⟩ (Nat.le_of_ble_eq_true rfl) ⟨Nat.le_of_ble_eq_true rfl, Nat.le_of_ble_eq_true rfl⟩ rfl dX2_takeReading_1 ?_
  refine zkq (G := fun v1 w1 => zG p l e _ s m args below meth c D _ _ _ _ _ _ _ (v1.toList ++ _) w1) rfl ?_
  refine z_if_ne hC 9 dX2_takeReading_4 (by decide) (fun c4 => ?_) (fun c4 => ?_)
  · rw [bI_1] at c4
    refine z_aload_n hC dX2_takeReading_9 rfl ?_
    refine z_get 0 7 hC bl_X2 (ci := 2) rfl (by decide) rfl bw_38 rfl rfl dX2_takeReading_10 ?_
    refine z_iload_n hC dX2_takeReading_13 rfl ?_
    refine z_iload_n hC dX2_takeReading_14 rfl ?_
    refine z_aload_n hC dX2_takeReading_15 rfl ?_
    refine z_get 0 8 hC bl_X2 (ci := 2) rfl (by decide) rfl bw_286 rfl rfl dX2_takeReading_16 ?_
    refine z_aload_n hC dX2_takeReading_19 rfl ?_
    refine z_get 0 8 hC bl_X2 (ci := 2) rfl (by decide) rfl bw_286 rfl rfl dX2_takeReading_20 ?_
    refine z_aload_n hC dX2_takeReading_23 rfl ?_
    refine z_get 0 5 hC bl_X2 (ci := 2) rfl (by decide) rfl bw_33 rfl rfl dX2_takeReading_24 ?_
    refine z_iload_n hC dX2_takeReading_27 rfl ?_
    refine z_iald 6 0 hC rfl rfl (vnode c4) dX2_takeReading_28 ?_
    refine z_iadd hC dX2_takeReading_29 ?_
    refine z_callVN [8, 9, 10, 11, 12, 13, 14, 15] 0 1 hC (c_X1_takeAt l D ct (fun i => q (8 + i)) (rd σ) n v (σ 0 0) ((σ 0 0) + (σ 6 (n).toNatClampNeg)) (okS_size hok n)) nw_38 bw_367 bw_368 bw_37 bw_369 4 (by decide +kernel) rfl rfl rfl rfl rfl ⟨Nat.le_of_ble_eq_true rfl, Nat.le_of_ble_eq_true rfl⟩ (Nat.le_of_ble_eq_true rfl) ⟨Nat.le_of_ble_eq_true rfl, Nat.le_of_ble_eq_true rfl⟩ rfl dX2_takeReading_30 ?_
    refine zkd (G := fun v1 w1 => zG p l e _ s m args below meth c D _ _ _ _ _ _ _ (v1.toList ++ _) w1) (w2 := cS q (wd σ (mrTake (rd σ) n v (σ 0 0) ((σ 0 0) + (σ 6 (n).toNatClampNeg)))) ct) cS_wd ?_
    obtain ⟨σ1, eσ1⟩ : ∃ zz_, zz_ = (wd σ (mrTake (rd σ) n v (σ 0 0) ((σ 0 0) + (σ 6 (n).toNatClampNeg)))) := ⟨_, rfl⟩
    rw [← eσ1]
    exact z_iretd hC hr dX2_takeReading_33 (Nat.zero_le _) (Nat.zero_le _) (by subst eσ1; clear hC hr hnm; first | rfl | (simp [msTakeR, msTake, c4, *]; done) | (simp_all [msTakeR, msTake, c4]; done)) (by subst eσ1; refine congrArg (fun z => cS q z ct) ?_; first | (simp only [msTakeR, msTake, c4, and_self, if_true, if_false]; done) | (simp [msTakeR, msTake, c4]; done) | (simp [msTakeR, msTake, c4, *]; done)) cS_adr
  · rw [bI_0] at c4
    refine z_iconst (v := (-1)) hC dX2_takeReading_7 (by decide) ?_
    exact z_iretd hC hr dX2_takeReading_8 (Nat.zero_le _) (Nat.zero_le _) (by clear hC hr hnm; first | rfl | (simp [msTakeR, msTake, c4, *]; done) | (simp_all [msTakeR, msTake, c4]; done)) (by first | rfl | (simp [msTakeR, msTake, c4, *]; done)) cS_adr

set_option maxRecDepth 100000 in
set_option maxHeartbeats 1000000 in
theorem c_X2_dropParent (l : Launch) (D : va_G) (ct : Nat → ClassId) (q : Nat → Nat) (σ : Nat → Nat → Int32) (n : Int32) (hn : mNode n = true) : zT l D ct yX2_dropParent cX2_dropParent 2 none 0 0 0 0 [.ref (q 0), .int n] (cS q σ ct) (zd none (cS q (msDrop σ n) ct)) := by
  refine zT_of ([some (.ref (q 0)), some (.int n)]) (by decide +kernel) rfl (Nat.le_of_ble_eq_true rfl) ?_
  intro p e s m args below meth c hC hr hnm
  refine z_aload_n hC dX2_dropParent_0 rfl ?_
  refine z_get 0 2 hC bl_X2 (ci := 2) rfl (by decide) rfl bw_30 rfl rfl dX2_dropParent_1 ?_
  refine z_iload_n hC dX2_dropParent_4 rfl ?_
  refine z_iconst (v := (-1)) hC dX2_dropParent_5 (by decide) ?_
  refine z_iast 3 0 hC rfl rfl (vnode hn) dX2_dropParent_6 (w2 := cS q (u2 σ 3 ((n).toNatClampNeg) (-1)) ct) cS_a3 ?_
  obtain ⟨σ1, eσ1⟩ : ∃ zz_, zz_ = u2 σ 3 ((n).toNatClampNeg) (-1) := ⟨_, rfl⟩
  rw [← eσ1]
  refine z_aload_n hC dX2_dropParent_7 rfl ?_
  refine z_get 0 3 hC bl_X2 (ci := 2) rfl (by decide) rfl bw_31 rfl rfl dX2_dropParent_8 ?_
  refine z_iload_n hC dX2_dropParent_11 rfl ?_
  refine z_iconst (v := (-1)) hC dX2_dropParent_12 (by decide) ?_
  refine z_iast 4 0 hC rfl rfl (vnode hn) dX2_dropParent_13 (w2 := cS q (u2 σ1 4 ((n).toNatClampNeg) (-1)) ct) cS_a4 ?_
  obtain ⟨σ2, eσ2⟩ : ∃ zz_, zz_ = u2 σ1 4 ((n).toNatClampNeg) (-1) := ⟨_, rfl⟩
  rw [← eσ2]
  refine z_aload_n hC dX2_dropParent_14 rfl ?_
  refine z_dup hC dX2_dropParent_15 rfl ?_
  refine z_get 0 14 hC bl_X2 (ci := 2) rfl (by decide) rfl bw_291 rfl rfl dX2_dropParent_16 ?_
  refine z_iconst (v := 1) hC dX2_dropParent_19 (by decide) ?_
  refine z_iadd hC dX2_dropParent_20 ?_
  refine z_put (ci := 2) 0 14 hC bl_X2 tyX2_ok nmX2 rfl (by decide) rfl bw_291 rfl rfl rfl rfl (Nat.lt_of_lt_of_le (by decide) (Nat.le_refl 15)) dX2_dropParent_21 (w2 := cS q (u2 σ2 0 6 ((σ2 0 6) + 1)) ct) cS_f6 ?_
  obtain ⟨σ3, eσ3⟩ : ∃ zz_, zz_ = u2 σ2 0 6 ((σ2 0 6) + 1) := ⟨_, rfl⟩
  rw [← eσ3]
  exact z_vretd hC hr dX2_dropParent_24 (Nat.zero_le _) (Nat.zero_le _) (by subst eσ3; subst eσ2; subst eσ1; refine congrArg (fun z => cS q z ct) ?_; first | (simp only [msDrop, u2_ne, and_self, if_true, if_false]; done) | (simp [msDrop, u2_ne]; done) | (simp [msDrop, u2_ne, *]; done)) cS_adr

set_option maxRecDepth 100000 in
set_option maxHeartbeats 1000000 in
theorem c_X2_losePatience (l : Launch) (D : va_G) (ct : Nat → ClassId) (q : Nat → Nat) (σ : Nat → Nat → Int32) (n : Int32) (hn : mNode n = true) : zT l D ct yX2_losePatience cX2_losePatience 2 none 1 21 0 0 [.ref (q 0), .int n] (cS q σ ct) (zd none (cS q (msLose σ n) ct)) := by
  refine zT_of ([some (.ref (q 0)), some (.int n)]) (by decide +kernel) rfl (Nat.le_of_ble_eq_true rfl) ?_
  intro p e s m args below meth c hC hr hnm
  refine z_aload_n hC dX2_losePatience_0 rfl ?_
  refine z_get 0 2 hC bl_X2 (ci := 2) rfl (by decide) rfl bw_30 rfl rfl dX2_losePatience_1 ?_
  refine z_iload_n hC dX2_losePatience_4 rfl ?_
  refine z_iald 3 0 hC rfl rfl (vnode hn) dX2_losePatience_5 ?_
  refine z_iconst (v := (-1)) hC dX2_losePatience_6 (by decide) ?_
  refine z_icmp_eq hC 36 dX2_losePatience_7 (by decide) (fun c7 => ?_) (fun c7 => ?_)
  · exact z_vretd hC hr dX2_losePatience_36 (Nat.zero_le _) (Nat.zero_le _) (by first | rfl | (simp [msLose, c7, *]; done)) cS_adr
  · refine z_aload_n hC dX2_losePatience_10 rfl ?_
    refine z_get 0 8 hC bl_X2 (ci := 2) rfl (by decide) rfl bw_286 rfl rfl dX2_losePatience_11 ?_
    refine z_aload_n hC dX2_losePatience_14 rfl ?_
    refine z_get 0 4 hC bl_X2 (ci := 2) rfl (by decide) rfl bw_32 rfl rfl dX2_losePatience_15 ?_
    refine z_iload_n hC dX2_losePatience_18 rfl ?_
    refine z_iald 5 0 hC rfl rfl (vnode hn) dX2_losePatience_19 ?_
    refine z_isub hC dX2_losePatience_20 ?_
    refine z_bipush (v := 10) hC dX2_losePatience_21 (by decide) ?_
    refine z_aload_n hC dX2_losePatience_23 rfl ?_
    refine z_get 0 9 hC bl_X2 (ci := 2) rfl (by decide) rfl bw_39 rfl rfl dX2_losePatience_24 ?_
    refine z_imul hC dX2_losePatience_27 ?_
    refine z_icmp_le hC 36 dX2_losePatience_28 (by decide) (fun c28 => ?_) (fun c28 => ?_)
    · exact z_vretd hC hr dX2_losePatience_36 (Nat.zero_le _) (Nat.zero_le _) (by first | rfl | (simp [msLose, c7, c28, i_nlt.mpr c28, *]; done)) cS_adr
    · refine z_aload_n hC dX2_losePatience_31 rfl ?_
      refine z_iload_n hC dX2_losePatience_32 rfl ?_
      refine z_callV [0, 1, 2, 3, 4, 5, 6, 7, 8, 9, 10, 11, 12, 13, 14, 15] 0 2 hC (c_X2_dropParent l D ct q σ n hn) bw_393 bw_394 bw_395 bw_12 bw_396 1 (by decide +kernel) rfl rfl rfl rfl rfl ⟨Nat.le_of_ble_eq_true rfl, Nat.le_of_ble_eq_true rfl⟩ (Nat.le_of_ble_eq_true rfl) ⟨Nat.le_of_ble_eq_true rfl, Nat.le_of_ble_eq_true rfl⟩ rfl dX2_losePatience_33 ?_
      refine zkd (G := fun v1 w1 => zG p l e _ s m args below meth c D _ _ _ _ _ _ _ (v1.toList ++ _) w1) (w2 := cS q (msDrop σ n) ct) cS_all ?_
      obtain ⟨σ1, eσ1⟩ : ∃ zz_, zz_ = (msDrop σ n) := ⟨_, rfl⟩
      rw [← eσ1]
      exact z_vretd hC hr dX2_losePatience_36 (Nat.zero_le _) (Nat.zero_le _) (by subst eσ1; refine congrArg (fun z => cS q z ct) ?_; first | (simp only [msLose, c7, c28, i_nle.mp c28, and_self, if_true, if_false]; done) | (simp [msLose, c7, c28, i_nle.mp c28]; done) | (simp [msLose, c7, c28, i_nle.mp c28, *]; done)) cS_adr

set_option maxRecDepth 100000 in
set_option maxHeartbeats 1000000 in
theorem c_X2_isBetterParent (l : Launch) (D : va_G) (ct : Nat → ClassId) (q : Nat → Nat) (σ : Nat → Nat → Int32) (m0 n : Int32) (hm : mNode m0 = true) (hn : mNode n = true) : zT l D ct yX2_isBetterParent cX2_isBetterParent 3 (some .boolean) 0 0 0 0 [.ref (q 0), .int m0, .int n] (cS q σ ct) (zd (some (.int (bI (msBetter σ m0 n)))) (cS q σ ct)) := by
  refine zT_of ([some (.ref (q 0)), some (.int m0), some (.int n)]) (by decide +kernel) rfl (Nat.le_of_ble_eq_true rfl) ?_
  intro p e s m args below meth c hC hr hnm
  refine z_aload_n hC dX2_isBetterParent_0 rfl ?_
  refine z_get 0 2 hC bl_X2 (ci := 2) rfl (by decide) rfl bw_30 rfl rfl dX2_isBetterParent_1 ?_
  refine z_iload_n hC dX2_isBetterParent_4 rfl ?_
  refine z_iald 3 0 hC rfl rfl (vnode hn) dX2_isBetterParent_5 ?_
  refine z_iload_n hC dX2_isBetterParent_6 rfl ?_
  refine z_icmp_eq hC 41 dX2_isBetterParent_7 (by decide) (fun c7 => ?_) (fun c7 => ?_)
  · refine z_iconst (v := 0) hC dX2_isBetterParent_41 (by decide) ?_
    exact z_zretd hC hr (rfl) dX2_isBetterParent_42 (Nat.zero_le _) (Nat.zero_le _) (by clear hC hr hnm; first | rfl | (simp [msBetter, bI, c7, *]; done) | (simp_all [msBetter, bI, c7]; done)) (by first | rfl | (simp [msBetter, bI, c7, *]; done)) cS_adr
  · refine z_aload_n hC dX2_isBetterParent_10 rfl ?_
    refine z_get 0 2 hC bl_X2 (ci := 2) rfl (by decide) rfl bw_30 rfl rfl dX2_isBetterParent_11 ?_
    refine z_iload_n hC dX2_isBetterParent_14 rfl ?_
    refine z_iald 3 0 hC rfl rfl (vnode hm) dX2_isBetterParent_15 ?_
    refine z_iconst (v := (-1)) hC dX2_isBetterParent_16 (by decide) ?_
    refine z_icmp_eq hC 37 dX2_isBetterParent_17 (by decide) (fun c17 => ?_) (fun c17 => ?_)
    · refine z_iconst (v := 1) hC dX2_isBetterParent_37 (by decide) ?_
      refine z_goto hC 42 dX2_isBetterParent_38 (by decide) ?_
      exact z_zretd hC hr (rfl) dX2_isBetterParent_42 (Nat.zero_le _) (Nat.zero_le _) (by clear hC hr hnm; first | rfl | (simp [msBetter, bI, c7, c17, *]; done) | (simp_all [msBetter, bI, c7, c17]; done)) (by first | rfl | (simp [msBetter, bI, c7, c17, *]; done)) cS_adr
    · refine z_aload_n hC dX2_isBetterParent_20 rfl ?_
      refine z_get 0 3 hC bl_X2 (ci := 2) rfl (by decide) rfl bw_31 rfl rfl dX2_isBetterParent_21 ?_
      refine z_iload_n hC dX2_isBetterParent_24 rfl ?_
      refine z_iald 4 0 hC rfl rfl (vnode hm) dX2_isBetterParent_25 ?_
      refine z_aload_n hC dX2_isBetterParent_26 rfl ?_
      refine z_get 0 3 hC bl_X2 (ci := 2) rfl (by decide) rfl bw_31 rfl rfl dX2_isBetterParent_27 ?_
      refine z_iload_n hC dX2_isBetterParent_30 rfl ?_
      refine z_iald 4 0 hC rfl rfl (vnode hn) dX2_isBetterParent_31 ?_
      refine z_iconst (v := 1) hC dX2_isBetterParent_32 (by decide) ?_
      refine z_iadd hC dX2_isBetterParent_33 ?_
      refine z_icmp_le hC 41 dX2_isBetterParent_34 (by decide) (fun c34 => ?_) (fun c34 => ?_)
      · refine z_iconst (v := 0) hC dX2_isBetterParent_41 (by decide) ?_
        exact z_zretd hC hr (rfl) dX2_isBetterParent_42 (Nat.zero_le _) (Nat.zero_le _) (by clear hC hr hnm; first | rfl | (simp [msBetter, bI, c7, c17, c34, i_nlt.mpr c34, *]; done) | (simp_all [msBetter, bI, c7, c17, c34, i_nlt.mpr c34]; done)) (by first | rfl | (simp [msBetter, bI, c7, c17, c34, i_nlt.mpr c34, *]; done)) cS_adr
      · refine z_iconst (v := 1) hC dX2_isBetterParent_37 (by decide) ?_
        refine z_goto hC 42 dX2_isBetterParent_38 (by decide) ?_
        exact z_zretd hC hr (rfl) dX2_isBetterParent_42 (Nat.zero_le _) (Nat.zero_le _) (by clear hC hr hnm; first | rfl | (simp [msBetter, bI, c7, c17, c34, i_nle.mp c34, *]; done) | (simp_all [msBetter, bI, c7, c17, c34, i_nle.mp c34]; done)) (by first | rfl | (simp [msBetter, bI, c7, c17, c34, i_nle.mp c34, *]; done)) cS_adr
