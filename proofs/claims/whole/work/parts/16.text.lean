set_option maxRecDepth 100000 in
set_option maxHeartbeats 4000000 in
theorem c_X3_isFull (l : Launch) (D : va_G) (ct : Nat → ClassId) (q : Nat → Nat) (τ : Nat → Nat → Int32) : zT l D ct yX3_isFull cX3_isFull 1 (some .boolean) 0 0 0 0 [.ref (q 0)] (cT q τ ct) (zd (some (.int (bI (mtFull τ)))) (cT q τ ct)) := by
  refine zT_of ([some (.ref (q 0))]) (by decide +kernel) rfl (Nat.le_of_ble_eq_true rfl) ?_
  intro p e s m args below meth c hC hr hnm
  refine z_aload_n hC dX3_isFull_0 rfl ?_
  refine z_get 0 1 hC bl_X3 (ci := 3) rfl (by decide) rfl bw_424 rfl rfl dX3_isFull_1 ?_
  refine z_bipush (v := 80) hC dX3_isFull_4 (by decide) ?_
  refine z_icmp_lt hC 13 dX3_isFull_6 (by decide) (fun c6 => ?_) (fun c6 => ?_)
  · refine z_iconst (v := 0) hC dX3_isFull_13 (by decide) ?_
    exact z_zretd hC hr (rfl) dX3_isFull_14 (Nat.zero_le _) (Nat.zero_le _) (by clear hC hr hnm; first | rfl | (simp [mtFull, bI, c6, i_nle.mpr c6, *]; done) | (simp_all [mtFull, bI, c6, i_nle.mpr c6]; done)) (by first | rfl | (simp [mtFull, bI, c6, i_nle.mpr c6, *]; done)) cT_adr
  · refine z_iconst (v := 1) hC dX3_isFull_9 (by decide) ?_
    refine z_goto hC 14 dX3_isFull_10 (by decide) ?_
    exact z_zretd hC hr (rfl) dX3_isFull_14 (Nat.zero_le _) (Nat.zero_le _) (by clear hC hr hnm; first | rfl | (simp [mtFull, bI, c6, i_nlt.mp c6, *]; done) | (simp_all [mtFull, bI, c6, i_nlt.mp c6]; done)) (by first | rfl | (simp [mtFull, bI, c6, i_nlt.mp c6, *]; done)) cT_adr

set_option maxRecDepth 100000 in
set_option maxHeartbeats 4000000 in
theorem c_X3_append (l : Launch) (D : va_G) (ct : Nat → ClassId) (q : Nat → Nat) (τ : Nat → Nat → Int32) (v : Int32) : zT l D ct yX3_append cX3_append 2 none 0 0 0 0 [.ref (q 0), .int v] (cT q τ ct) (zd none (cT q (mtAppend τ v) ct)) := by
  refine zT_of ([some (.ref (q 0)), some (.int v)]) (by decide +kernel) rfl (Nat.le_of_ble_eq_true rfl) ?_
  intro p e s m args below meth c hC hr hnm
  refine z_aload_n hC dX3_append_0 rfl ?_
  refine z_get 0 1 hC bl_X3 (ci := 3) rfl (by decide) rfl bw_424 rfl rfl dX3_append_1 ?_
  refine z_if_lt hC 39 dX3_append_4 (by decide) (fun c4 => ?_) (fun c4 => ?_)
  · exact z_vretd hC hr dX3_append_39 (Nat.zero_le _) (Nat.zero_le _) (by first | rfl | (simp [mtAppend, u2_ne, c4, i_nle.mpr c4, *]; done)) cT_adr
  · refine z_aload_n hC dX3_append_7 rfl ?_
    refine z_get 0 1 hC bl_X3 (ci := 3) rfl (by decide) rfl bw_424 rfl rfl dX3_append_8 ?_
    refine z_aload_n hC dX3_append_11 rfl ?_
    refine z_get 0 0 hC bl_X3 (ci := 3) rfl (by decide) rfl bw_62 rfl rfl dX3_append_12 ?_
    refine z_alen 1 2 hC rfl rfl dX3_append_15 ?_
    refine z_icmp_ge hC 39 dX3_append_16 (by decide) (fun c16 => ?_) (fun c16 => ?_)
    · replace c16 : 80 ≤ τ 0 0 := c16
      exact z_vretd hC hr dX3_append_39 (Nat.zero_le _) (Nat.zero_le _) (by first | rfl | (simp [mtAppend, u2_ne, c4, c16, i_nlt.mp c4, i_nlt.mpr c16, *]; done)) cT_adr
    · refine z_aload_n hC dX3_append_19 rfl ?_
      refine z_get 0 0 hC bl_X3 (ci := 3) rfl (by decide) rfl bw_62 rfl rfl dX3_append_20 ?_
      refine z_aload_n hC dX3_append_23 rfl ?_
      refine z_get 0 1 hC bl_X3 (ci := 3) rfl (by decide) rfl bw_424 rfl rfl dX3_append_24 ?_
      refine z_iload_n hC dX3_append_27 rfl ?_
      refine z_cast 1 2 hC rfl rfl (vpos c4 c16) dX3_append_28 (w2 := cT q (u2 τ 1 (((τ 0 0)).toNatClampNeg) (vp_nar .char v)) ct) cT_a1 ?_
      obtain ⟨τ1, eτ1⟩ : ∃ z, z = u2 τ 1 (((τ 0 0)).toNatClampNeg) (vp_nar .char v) := ⟨_, rfl⟩
      rw [← eτ1]
      refine z_aload_n hC dX3_append_29 rfl ?_
      refine z_dup hC dX3_append_30 rfl ?_
      refine z_get 0 1 hC bl_X3 (ci := 3) rfl (by decide) rfl bw_424 rfl rfl dX3_append_31 ?_
      rw [show (τ1 0 0) = (τ 0 0) from by simp only [eτ1]; rfl]
      refine z_iconst (v := 1) hC dX3_append_34 (by decide) ?_
      refine z_iadd hC dX3_append_35 ?_
      refine z_put (ci := 3) 0 1 hC bl_X3 tyX3_ok nmX3 rfl (by decide) rfl bw_424 rfl rfl rfl rfl (Nat.lt_of_lt_of_le (by decide) (Nat.le_refl 7)) dX3_append_36 (w2 := cT q (u2 τ1 0 0 ((τ 0 0) + 1)) ct) cT_f0 ?_
      obtain ⟨τ2, eτ2⟩ : ∃ z, z = u2 τ1 0 0 ((τ 0 0) + 1) := ⟨_, rfl⟩
      rw [← eτ2]
      replace c16 : ¬ 80 ≤ τ 0 0 := c16
      exact z_vretd hC hr dX3_append_39 (Nat.zero_le _) (Nat.zero_le _) (by subst eτ2; subst eτ1; refine congrArg (fun z => cT q z ct) ?_; first | (simp only [mtAppend, u2_ne, c4, c16, i_nlt.mp c4, i_nle.mp c16, and_self, if_true, if_false]; done) | (simp [mtAppend, u2_ne, c4, c16, i_nlt.mp c4, i_nle.mp c16]; done) | (simp [mtAppend, u2_ne, c4, c16, i_nlt.mp c4, i_nle.mp c16, *]; done)) cT_adr

set_option maxRecDepth 100000 in
set_option maxHeartbeats 4000000 in
theorem c_X3_signHere (l : Launch) (D : va_G) (ct : Nat → ClassId) (q : Nat → Nat) (τ : Nat → Nat → Int32) (hok : okT (τ 1)) : zT l D ct yX3_signHere cX3_signHere 2 (some .char) 0 0 0 0 [.ref (q 0)] (cT q τ ct) (zd (some (.int (mtSign τ))) (cT q τ ct)) := by
  refine zT_of ([some (.ref (q 0)), none]) (by decide +kernel) rfl (Nat.le_of_ble_eq_true rfl) ?_
  intro p e s m args below meth c hC hr hnm
  refine z_aload_n hC dX3_signHere_0 rfl ?_
  refine z_get 0 2 hC bl_X3 (ci := 3) rfl (by decide) rfl bw_448 rfl rfl dX3_signHere_1 ?_
  refine z_if_lt hC 34 dX3_signHere_4 (by decide) (fun c4 => ?_) (fun c4 => ?_)
  · refine z_iconst (v := 0) hC dX3_signHere_34 (by decide) ?_
    refine z_istore_n hC dX3_signHere_35 (by decide) rfl ?_
    refine z_iload_n hC dX3_signHere_36 rfl ?_
    refine z_if_eq hC 52 dX3_signHere_37 (by decide) (fun cn1 => ?_) (fun cn1 => absurd cn1 (by decide))
    refine z_iconst (v := 0) hC dX3_signHere_52 (by decide) ?_
    exact z_zretd hC hr (rfl) dX3_signHere_53 (Nat.zero_le _) (Nat.zero_le _) ((by rw [mtSign, if_neg]; rintro ⟨g1, g2, g3⟩; first | exact g1 c4 | exact absurd g2 (i_nlt.mpr c15) | exact absurd g3 (i_nlt.mpr c27))) (by first | rfl | (simp [mtSign, c4, i_nle.mpr c4, *]; done)) cT_adr
  · refine z_aload_n hC dX3_signHere_7 rfl ?_
    refine z_get 0 2 hC bl_X3 (ci := 3) rfl (by decide) rfl bw_448 rfl rfl dX3_signHere_8 ?_
    refine z_aload_n hC dX3_signHere_11 rfl ?_
    refine z_get 0 1 hC bl_X3 (ci := 3) rfl (by decide) rfl bw_424 rfl rfl dX3_signHere_12 ?_
    refine z_icmp_ge hC 34 dX3_signHere_15 (by decide) (fun c15 => ?_) (fun c15 => ?_)
    · refine z_iconst (v := 0) hC dX3_signHere_34 (by decide) ?_
      refine z_istore_n hC dX3_signHere_35 (by decide) rfl ?_
      refine z_iload_n hC dX3_signHere_36 rfl ?_
      refine z_if_eq hC 52 dX3_signHere_37 (by decide) (fun cn2 => ?_) (fun cn2 => absurd cn2 (by decide))
      refine z_iconst (v := 0) hC dX3_signHere_52 (by decide) ?_
      exact z_zretd hC hr (rfl) dX3_signHere_53 (Nat.zero_le _) (Nat.zero_le _) ((by rw [mtSign, if_neg]; rintro ⟨g1, g2, g3⟩; first | exact g1 c4 | exact absurd g2 (i_nlt.mpr c15) | exact absurd g3 (i_nlt.mpr c27))) (by first | rfl | (simp [mtSign, c4, c15, i_nlt.mp c4, i_nlt.mpr c15, *]; done)) cT_adr
    · refine z_aload_n hC dX3_signHere_18 rfl ?_
      refine z_get 0 2 hC bl_X3 (ci := 3) rfl (by decide) rfl bw_448 rfl rfl dX3_signHere_19 ?_
      refine z_aload_n hC dX3_signHere_22 rfl ?_
      refine z_get 0 0 hC bl_X3 (ci := 3) rfl (by decide) rfl bw_62 rfl rfl dX3_signHere_23 ?_
      refine z_alen 1 2 hC rfl rfl dX3_signHere_26 ?_
      refine z_icmp_ge hC 34 dX3_signHere_27 (by decide) (fun c27 => ?_) (fun c27 => ?_)
      · refine z_iconst (v := 0) hC dX3_signHere_34 (by decide) ?_
        refine z_istore_n hC dX3_signHere_35 (by decide) rfl ?_
        refine z_iload_n hC dX3_signHere_36 rfl ?_
        refine z_if_eq hC 52 dX3_signHere_37 (by decide) (fun cn3 => ?_) (fun cn3 => absurd cn3 (by decide))
        refine z_iconst (v := 0) hC dX3_signHere_52 (by decide) ?_
        exact z_zretd hC hr (rfl) dX3_signHere_53 (Nat.zero_le _) (Nat.zero_le _) ((by rw [mtSign, if_neg]; rintro ⟨g1, g2, g3⟩; first | exact g1 c4 | exact absurd g2 (i_nlt.mpr c15) | exact absurd g3 (i_nlt.mpr c27))) (by first | rfl | (simp [mtSign, c4, c15, c27, i_nlt.mp c4, i_nle.mp c15, i_nlt.mpr c27, *]; done)) cT_adr
      · refine z_iconst (v := 1) hC dX3_signHere_30 (by decide) ?_
        refine z_goto hC 35 dX3_signHere_31 (by decide) ?_
        refine z_istore_n hC dX3_signHere_35 (by decide) rfl ?_
        refine z_iload_n hC dX3_signHere_36 rfl ?_
        refine z_if_eq hC 52 dX3_signHere_37 (by decide) (fun cn4 => absurd cn4 (by decide)) (fun cn4 => ?_)
        refine z_aload_n hC dX3_signHere_40 rfl ?_
        refine z_get 0 0 hC bl_X3 (ci := 3) rfl (by decide) rfl bw_62 rfl rfl dX3_signHere_41 ?_
        refine z_aload_n hC dX3_signHere_44 rfl ?_
        refine z_get 0 2 hC bl_X3 (ci := 3) rfl (by decide) rfl bw_448 rfl rfl dX3_signHere_45 ?_
        refine z_cald 1 2 hC rfl rfl (vpos c4 c27) dX3_signHere_48 ?_
        refine z_goto hC 53 dX3_signHere_49 (by decide) ?_
        exact z_zretd hC hr (okT_nar hok c4 c27) dX3_signHere_53 (Nat.zero_le _) (Nat.zero_le _) ((by rw [mtSign, if_pos ⟨c4, i_nle.mp c15, i_nle.mp c27⟩])) (by first | rfl | (simp [mtSign, c4, c15, c27, i_nlt.mp c4, i_nle.mp c15, i_nle.mp c27, *]; done)) cT_adr

set_option maxRecDepth 100000 in
set_option maxHeartbeats 4000000 in
theorem c_X3_digitHere (l : Launch) (D : va_G) (ct : Nat → ClassId) (q : Nat → Nat) (τ : Nat → Nat → Int32) (hok : okT (τ 1)) : zT l D ct yX3_digitHere cX3_digitHere 2 (some .int) 1 21 0 0 [.ref (q 0)] (cT q τ ct) (zd (some (.int (mtDigit τ))) (cT q τ ct)) := by
  refine zT_of ([some (.ref (q 0)), none]) (by decide +kernel) rfl (Nat.le_of_ble_eq_true rfl) ?_
  intro p e s m args below meth c hC hr hnm
  refine z_aload_n hC dX3_digitHere_0 rfl ?_
  refine z_callV [0, 1] 0 3 hC (c_X3_signHere l D ct q τ hok) bw_454 bw_455 bw_456 bw_24 bw_457 0 (by decide +kernel) rfl rfl rfl rfl rfl ⟨Nat.le_of_ble_eq_true rfl, Nat.le_of_ble_eq_true rfl⟩ (Nat.le_of_ble_eq_true rfl) ⟨Nat.le_of_ble_eq_true rfl, Nat.le_of_ble_eq_true rfl⟩ rfl dX3_digitHere_1 ?_
  refine zkq (G := fun v1 w1 => zG p l e _ s m args below meth c D _ _ _ _ _ _ _ (v1.toList ++ _) w1) rfl ?_
  refine z_istore_n hC dX3_digitHere_4 (by decide) rfl ?_
  refine z_iload_n hC dX3_digitHere_5 rfl ?_
  refine z_bipush (v := 48) hC dX3_digitHere_6 (by decide) ?_
  refine z_icmp_lt hC 24 dX3_digitHere_8 (by decide) (fun c8 => ?_) (fun c8 => ?_)
  · refine z_iconst (v := (-1)) hC dX3_digitHere_24 (by decide) ?_
    exact z_iretd hC hr dX3_digitHere_25 (Nat.zero_le _) (Nat.zero_le _) (by clear hC hr hnm; first | rfl | (simp [mtDigit, c8, i_nle.mpr c8, *]; done) | (simp_all [mtDigit, c8, i_nle.mpr c8]; done)) (by first | rfl | (simp [mtDigit, c8, i_nle.mpr c8, *]; done)) cT_adr
  · refine z_iload_n hC dX3_digitHere_11 rfl ?_
    refine z_bipush (v := 57) hC dX3_digitHere_12 (by decide) ?_
    refine z_icmp_gt hC 24 dX3_digitHere_14 (by decide) (fun c14 => ?_) (fun c14 => ?_)
    · refine z_iconst (v := (-1)) hC dX3_digitHere_24 (by decide) ?_
      exact z_iretd hC hr dX3_digitHere_25 (Nat.zero_le _) (Nat.zero_le _) (by clear hC hr hnm; first | rfl | (simp [mtDigit, c8, c14, i_nlt.mp c8, i_nle.mpr c14, *]; done) | (simp_all [mtDigit, c8, c14, i_nlt.mp c8, i_nle.mpr c14]; done)) (by first | rfl | (simp [mtDigit, c8, c14, i_nlt.mp c8, i_nle.mpr c14, *]; done)) cT_adr
    · refine z_iload_n hC dX3_digitHere_17 rfl ?_
      refine z_bipush (v := 48) hC dX3_digitHere_18 (by decide) ?_
      refine z_isub hC dX3_digitHere_20 ?_
      refine z_goto hC 25 dX3_digitHere_21 (by decide) ?_
      exact z_iretd hC hr dX3_digitHere_25 (Nat.zero_le _) (Nat.zero_le _) (by clear hC hr hnm; first | rfl | (simp [mtDigit, c8, c14, i_nlt.mp c8, i_nlt.mp c14, *]; done) | (simp_all [mtDigit, c8, c14, i_nlt.mp c8, i_nlt.mp c14]; done)) (by first | rfl | (simp [mtDigit, c8, c14, i_nlt.mp c8, i_nlt.mp c14, *]; done)) cT_adr

set_option maxRecDepth 100000 in
set_option maxHeartbeats 4000000 in
theorem c_X3_readSign (l : Launch) (D : va_G) (ct : Nat → ClassId) (q : Nat → Nat) (τ : Nat → Nat → Int32) (c0 : Int32) (hok : okT (τ 1)) : zT l D ct yX3_readSign cX3_readSign 2 (some .boolean) 1 21 0 0 [.ref (q 0), .int c0] (cT q τ ct) (zd (some (.int (bI (mtSgn τ c0).1))) (cT q (mtSgn τ c0).2 ct)) := by
  refine zT_of ([some (.ref (q 0)), some (.int c0)]) (by decide +kernel) rfl (Nat.le_of_ble_eq_true rfl) ?_
  intro p e s m args below meth c hC hr hnm
  refine z_aload_n hC dX3_readSign_0 rfl ?_
  refine z_callV [0, 1] 0 3 hC (c_X3_signHere l D ct q τ hok) bw_454 bw_455 bw_456 bw_24 bw_457 0 (by decide +kernel) rfl rfl rfl rfl rfl ⟨Nat.le_of_ble_eq_true rfl, Nat.le_of_ble_eq_true rfl⟩ (Nat.le_of_ble_eq_true rfl) ⟨Nat.le_of_ble_eq_true rfl, Nat.le_of_ble_eq_true rfl⟩ rfl dX3_readSign_1 ?_
  refine zkq (G := fun v1 w1 => zG p l e _ s m args below meth c D _ _ _ _ _ _ _ (v1.toList ++ _) w1) rfl ?_
  refine z_iload_n hC dX3_readSign_4 rfl ?_
  refine z_icmp_eq hC 10 dX3_readSign_5 (by decide) (fun c5 => ?_) (fun c5 => ?_)
  · refine z_aload_n hC dX3_readSign_10 rfl ?_
    refine z_dup hC dX3_readSign_11 rfl ?_
    refine z_get 0 2 hC bl_X3 (ci := 3) rfl (by decide) rfl bw_448 rfl rfl dX3_readSign_12 ?_
    refine z_iconst (v := 1) hC dX3_readSign_15 (by decide) ?_
    refine z_iadd hC dX3_readSign_16 ?_
    refine z_put (ci := 3) 0 2 hC bl_X3 tyX3_ok nmX3 rfl (by decide) rfl bw_448 rfl rfl rfl rfl (Nat.lt_of_lt_of_le (by decide) (Nat.le_refl 7)) dX3_readSign_17 (w2 := cT q (u2 τ 0 1 ((τ 0 1) + 1)) ct) cT_f1 ?_
    obtain ⟨τ1, eτ1⟩ : ∃ z, z = u2 τ 0 1 ((τ 0 1) + 1) := ⟨_, rfl⟩
    rw [← eτ1]
    refine z_iconst (v := 1) hC dX3_readSign_20 (by decide) ?_
    exact z_zretd hC hr (rfl) dX3_readSign_21 (Nat.zero_le _) (Nat.zero_le _) (by subst eτ1; clear hC hr hnm; first | rfl | (simp [mtSgn, bI, mtStep, u2_at, u2_nk, u2_ne, c5, *]; done) | (simp_all [mtSgn, bI, mtStep, u2_at, u2_nk, u2_ne, c5]; done)) (by subst eτ1; refine congrArg (fun z => cT q z ct) ?_; first | (simp only [mtSgn, bI, mtStep, u2_at, u2_nk, u2_ne, c5, and_self, if_true, if_false]; done) | (simp [mtSgn, bI, mtStep, u2_at, u2_nk, u2_ne, c5]; done) | (simp [mtSgn, bI, mtStep, u2_at, u2_nk, u2_ne, c5, *]; done)) cT_adr
  · refine z_iconst (v := 0) hC dX3_readSign_8 (by decide) ?_
    exact z_zretd hC hr (rfl) dX3_readSign_9 (Nat.zero_le _) (Nat.zero_le _) (by clear hC hr hnm; first | rfl | (simp [mtSgn, bI, mtStep, u2_at, u2_nk, u2_ne, c5, *]; done) | (simp_all [mtSgn, bI, mtStep, u2_at, u2_nk, u2_ne, c5]; done)) (by first | rfl | (simp [mtSgn, bI, mtStep, u2_at, u2_nk, u2_ne, c5, *]; done)) cT_adr

set_option maxRecDepth 100000 in
set_option maxHeartbeats 4000000 in
theorem c_X3_readFirst (l : Launch) (D : va_G) (ct : Nat → ClassId) (q : Nat → Nat) (τ : Nat → Nat → Int32) (l0 : Int32) (hok : okT (τ 1)) : zT l D ct yX3_readFirst cX3_readFirst 3 (some .boolean) 2 42 0 0 [.ref (q 0), .int l0] (cT q τ ct) (zd (some (.int (bI (mtFirst τ l0).1))) (cT q (mtFirst τ l0).2 ct)) := by
  refine zT_of ([some (.ref (q 0)), some (.int l0), none]) (by decide +kernel) rfl (Nat.le_of_ble_eq_true rfl) ?_
  intro p e s m args below meth c hC hr hnm
  refine z_aload_n hC dX3_readFirst_0 rfl ?_
  refine z_callV [0, 1] 0 3 hC (c_X3_digitHere l D ct q τ hok) bw_463 bw_464 bw_465 bw_24 bw_466 0 (by decide +kernel) rfl rfl rfl rfl rfl ⟨Nat.le_of_ble_eq_true rfl, Nat.le_of_ble_eq_true rfl⟩ (Nat.le_of_ble_eq_true rfl) ⟨Nat.le_of_ble_eq_true rfl, Nat.le_of_ble_eq_true rfl⟩ rfl dX3_readFirst_1 ?_
  refine zkq (G := fun v1 w1 => zG p l e _ s m args below meth c D _ _ _ _ _ _ _ (v1.toList ++ _) w1) rfl ?_
  refine z_istore_n hC dX3_readFirst_4 (by decide) rfl ?_
  refine z_iload_n hC dX3_readFirst_5 rfl ?_
  refine z_iload_n hC dX3_readFirst_6 rfl ?_
  refine z_icmp_ge hC 12 dX3_readFirst_7 (by decide) (fun c7 => ?_) (fun c7 => ?_)
  · refine z_aload_n hC dX3_readFirst_12 rfl ?_
    refine z_iload_n hC dX3_readFirst_13 rfl ?_
    refine z_put (ci := 3) 0 4 hC bl_X3 tyX3_ok nmX3 rfl (by decide) rfl bw_462 rfl rfl rfl rfl (Nat.lt_of_lt_of_le (by decide) (Nat.le_refl 7)) dX3_readFirst_14 (w2 := cT q (u2 τ 0 3 (mtDigit τ)) ct) cT_f3 ?_
    obtain ⟨τ1, eτ1⟩ : ∃ z, z = u2 τ 0 3 (mtDigit τ) := ⟨_, rfl⟩
    rw [← eτ1]
    refine z_aload_n hC dX3_readFirst_17 rfl ?_
    refine z_dup hC dX3_readFirst_18 rfl ?_
    refine z_get 0 2 hC bl_X3 (ci := 3) rfl (by decide) rfl bw_448 rfl rfl dX3_readFirst_19 ?_
    rw [show (τ1 0 1) = (τ 0 1) from by simp only [eτ1]; rfl]
    refine z_iconst (v := 1) hC dX3_readFirst_22 (by decide) ?_
    refine z_iadd hC dX3_readFirst_23 ?_
    refine z_put (ci := 3) 0 2 hC bl_X3 tyX3_ok nmX3 rfl (by decide) rfl bw_448 rfl rfl rfl rfl (Nat.lt_of_lt_of_le (by decide) (Nat.le_refl 7)) dX3_readFirst_24 (w2 := cT q (u2 τ1 0 1 ((τ 0 1) + 1)) ct) cT_f1 ?_
    obtain ⟨τ2, eτ2⟩ : ∃ z, z = u2 τ1 0 1 ((τ 0 1) + 1) := ⟨_, rfl⟩
    rw [← eτ2]
    refine z_iconst (v := 1) hC dX3_readFirst_27 (by decide) ?_
    exact z_zretd hC hr (rfl) dX3_readFirst_28 (Nat.zero_le _) (Nat.zero_le _) (by subst eτ2; subst eτ1; clear hC hr hnm; first | rfl | (simp [mtFirst, bI, mtStep, u2_at, u2_nk, u2_ne, c7, i_nlt.mpr c7, *]; done) | (simp_all [mtFirst, bI, mtStep, u2_at, u2_nk, u2_ne, c7, i_nlt.mpr c7]; done)) (by subst eτ2; subst eτ1; refine congrArg (fun z => cT q z ct) ?_; first | (simp only [mtFirst, bI, mtStep, u2_at, u2_nk, u2_ne, c7, i_nlt.mpr c7, and_self, if_true, if_false]; done) | (simp [mtFirst, bI, mtStep, u2_at, u2_nk, u2_ne, c7, i_nlt.mpr c7]; done) | (simp [mtFirst, bI, mtStep, u2_at, u2_nk, u2_ne, c7, i_nlt.mpr c7, *]; done)) cT_adr
  · refine z_iconst (v := 0) hC dX3_readFirst_10 (by decide) ?_
    exact z_zretd hC hr (rfl) dX3_readFirst_11 (Nat.zero_le _) (Nat.zero_le _) (by clear hC hr hnm; first | rfl | (simp [mtFirst, bI, mtStep, u2_at, u2_nk, u2_ne, c7, i_nle.mp c7, *]; done) | (simp_all [mtFirst, bI, mtStep, u2_at, u2_nk, u2_ne, c7, i_nle.mp c7]; done)) (by first | rfl | (simp [mtFirst, bI, mtStep, u2_at, u2_nk, u2_ne, c7, i_nle.mp c7, *]; done)) cT_adr

set_option maxRecDepth 100000 in
set_option maxHeartbeats 4000000 in
theorem c_X3_readSecond (l : Launch) (D : va_G) (ct : Nat → ClassId) (q : Nat → Nat) (τ : Nat → Nat → Int32) (hok : okT (τ 1)) : zT l D ct yX3_readSecond cX3_readSecond 2 (some .boolean) 2 42 0 0 [.ref (q 0)] (cT q τ ct) (zd (some (.int (bI (mtSecond τ).1))) (cT q (mtSecond τ).2 ct)) := by
  refine zT_of ([some (.ref (q 0)), none]) (by decide +kernel) rfl (Nat.le_of_ble_eq_true rfl) ?_
  intro p e s m args below meth c hC hr hnm
  refine z_aload_n hC dX3_readSecond_0 rfl ?_
  refine z_callV [0, 1] 0 3 hC (c_X3_digitHere l D ct q τ hok) bw_463 bw_464 bw_465 bw_24 bw_466 0 (by decide +kernel) rfl rfl rfl rfl rfl ⟨Nat.le_of_ble_eq_true rfl, Nat.le_of_ble_eq_true rfl⟩ (Nat.le_of_ble_eq_true rfl) ⟨Nat.le_of_ble_eq_true rfl, Nat.le_of_ble_eq_true rfl⟩ rfl dX3_readSecond_1 ?_
  refine zkq (G := fun v1 w1 => zG p l e _ s m args below meth c D _ _ _ _ _ _ _ (v1.toList ++ _) w1) rfl ?_
  refine z_istore_n hC dX3_readSecond_4 (by decide) rfl ?_
  refine z_iload_n hC dX3_readSecond_5 rfl ?_
  refine z_iconst (v := (-1)) hC dX3_readSecond_6 (by decide) ?_
  refine z_icmp_eq hC 18 dX3_readSecond_7 (by decide) (fun c7 => ?_) (fun c7 => ?_)
  · refine z_iconst (v := 0) hC dX3_readSecond_18 (by decide) ?_
    exact z_zretd hC hr (rfl) dX3_readSecond_19 (Nat.zero_le _) (Nat.zero_le _) (by clear hC hr hnm; first | rfl | (simp [mtSecond, bI, mtStep, u2_at, u2_nk, u2_ne, c7, *]; done) | (simp_all [mtSecond, bI, mtStep, u2_at, u2_nk, u2_ne, c7]; done)) (by first | rfl | (simp [mtSecond, bI, mtStep, u2_at, u2_nk, u2_ne, c7, *]; done)) cT_adr
  · refine z_iload_n hC dX3_readSecond_10 rfl ?_
    refine z_aload_n hC dX3_readSecond_11 rfl ?_
    refine z_get 0 4 hC bl_X3 (ci := 3) rfl (by decide) rfl bw_462 rfl rfl dX3_readSecond_12 ?_
    refine z_icmp_ne hC 20 dX3_readSecond_15 (by decide) (fun c15 => ?_) (fun c15 => ?_)
    · refine z_aload_n hC dX3_readSecond_20 rfl ?_
      refine z_iload_n hC dX3_readSecond_21 rfl ?_
      refine z_put (ci := 3) 0 5 hC bl_X3 tyX3_ok nmX3 rfl (by decide) rfl bw_471 rfl rfl rfl rfl (Nat.lt_of_lt_of_le (by decide) (Nat.le_refl 7)) dX3_readSecond_22 (w2 := cT q (u2 τ 0 4 (mtDigit τ)) ct) cT_f4 ?_
      obtain ⟨τ1, eτ1⟩ : ∃ z, z = u2 τ 0 4 (mtDigit τ) := ⟨_, rfl⟩
      rw [← eτ1]
      refine z_aload_n hC dX3_readSecond_25 rfl ?_
      refine z_dup hC dX3_readSecond_26 rfl ?_
      refine z_get 0 2 hC bl_X3 (ci := 3) rfl (by decide) rfl bw_448 rfl rfl dX3_readSecond_27 ?_
      rw [show (τ1 0 1) = (τ 0 1) from by simp only [eτ1]; rfl]
      refine z_iconst (v := 1) hC dX3_readSecond_30 (by decide) ?_
      refine z_iadd hC dX3_readSecond_31 ?_
      refine z_put (ci := 3) 0 2 hC bl_X3 tyX3_ok nmX3 rfl (by decide) rfl bw_448 rfl rfl rfl rfl (Nat.lt_of_lt_of_le (by decide) (Nat.le_refl 7)) dX3_readSecond_32 (w2 := cT q (u2 τ1 0 1 ((τ 0 1) + 1)) ct) cT_f1 ?_
      obtain ⟨τ2, eτ2⟩ : ∃ z, z = u2 τ1 0 1 ((τ 0 1) + 1) := ⟨_, rfl⟩
      rw [← eτ2]
      refine z_iconst (v := 1) hC dX3_readSecond_35 (by decide) ?_
      exact z_zretd hC hr (rfl) dX3_readSecond_36 (Nat.zero_le _) (Nat.zero_le _) (by subst eτ2; subst eτ1; clear hC hr hnm; first | rfl | (simp [mtSecond, bI, mtStep, u2_at, u2_nk, u2_ne, c7, c15, *]; done) | (simp_all [mtSecond, bI, mtStep, u2_at, u2_nk, u2_ne, c7, c15]; done)) (by subst eτ2; subst eτ1; refine congrArg (fun z => cT q z ct) ?_; first | (simp only [mtSecond, bI, mtStep, u2_at, u2_nk, u2_ne, c7, c15, and_self, if_true, if_false]; done) | (simp [mtSecond, bI, mtStep, u2_at, u2_nk, u2_ne, c7, c15]; done) | (simp [mtSecond, bI, mtStep, u2_at, u2_nk, u2_ne, c7, c15, *]; done)) cT_adr
    · refine z_iconst (v := 0) hC dX3_readSecond_18 (by decide) ?_
      exact z_zretd hC hr (rfl) dX3_readSecond_19 (Nat.zero_le _) (Nat.zero_le _) (by clear hC hr hnm; first | rfl | (simp [mtSecond, bI, mtStep, u2_at, u2_nk, u2_ne, c7, c15, *]; done) | (simp_all [mtSecond, bI, mtStep, u2_at, u2_nk, u2_ne, c7, c15]; done)) (by first | rfl | (simp [mtSecond, bI, mtStep, u2_at, u2_nk, u2_ne, c7, c15, *]; done)) cT_adr

set_option maxRecDepth 100000 in
set_option maxHeartbeats 4000000 in
theorem c_X3_readNumber (l : Launch) (D : va_G) (ct : Nat → ClassId) (q : Nat → Nat) (τ : Nat → Nat → Int32) (x0 y0 : Int32) (hok : okT (τ 1)) : zT l D ct yX3_readNumber cX3_readNumber 5 (some .boolean) 2 42 0 0 [.ref (q 0), .int x0, .int y0] (cT q τ ct) (zd (some (.int (bI (mtNum τ x0 y0).1))) (cT q (mtNum τ x0 y0).2 ct)) := by
  refine zT_of ([some (.ref (q 0)), some (.int x0), some (.int y0), none, none]) (by decide +kernel) rfl (Nat.le_of_ble_eq_true rfl) ?_
  intro p e s m args below meth c hC hr hnm
  refine z_aload_n hC dX3_readNumber_0 rfl ?_
  refine z_aload_n hC dX3_readNumber_1 rfl ?_
  refine z_callV [0, 1] 0 3 hC (c_X3_digitHere l D ct q τ hok) bw_463 bw_464 bw_465 bw_24 bw_466 0 (by decide +kernel) rfl rfl rfl rfl rfl ⟨Nat.le_of_ble_eq_true rfl, Nat.le_of_ble_eq_true rfl⟩ (Nat.le_of_ble_eq_true rfl) ⟨Nat.le_of_ble_eq_true rfl, Nat.le_of_ble_eq_true rfl⟩ rfl dX3_readNumber_2 ?_
  refine zkq (G := fun v1 w1 => zG p l e _ s m args below meth c D _ _ _ _ _ _ _ (v1.toList ++ _) w1) rfl ?_
  refine z_put (ci := 3) 0 6 hC bl_X3 tyX3_ok nmX3 rfl (by decide) rfl bw_480 rfl rfl rfl rfl (Nat.lt_of_lt_of_le (by decide) (Nat.le_refl 7)) dX3_readNumber_5 (w2 := cT q (u2 τ 0 5 (mtDigit τ)) ct) cT_f5 ?_
  obtain ⟨τ1, eτ1⟩ : ∃ z, z = u2 τ 0 5 (mtDigit τ) := ⟨_, rfl⟩
  rw [← eτ1]
  refine z_aload_n hC dX3_readNumber_8 rfl ?_
  refine z_get 0 6 hC bl_X3 (ci := 3) rfl (by decide) rfl bw_480 rfl rfl dX3_readNumber_9 ?_
  rw [show (τ1 0 5) = (mtDigit τ) from by simp only [eτ1]; rfl]
  refine z_iload_n hC dX3_readNumber_12 rfl ?_
  refine z_icmp_ge hC 18 dX3_readNumber_13 (by decide) (fun c13 => ?_) (fun c13 => ?_)
  · refine z_aload_n hC dX3_readNumber_18 rfl ?_
    refine z_dup hC dX3_readNumber_19 rfl ?_
    refine z_get 0 2 hC bl_X3 (ci := 3) rfl (by decide) rfl bw_448 rfl rfl dX3_readNumber_20 ?_
    rw [show (τ1 0 1) = (τ 0 1) from by simp only [eτ1]; rfl]
    refine z_iconst (v := 1) hC dX3_readNumber_23 (by decide) ?_
    refine z_iadd hC dX3_readNumber_24 ?_
    refine z_put (ci := 3) 0 2 hC bl_X3 tyX3_ok nmX3 rfl (by decide) rfl bw_448 rfl rfl rfl rfl (Nat.lt_of_lt_of_le (by decide) (Nat.le_refl 7)) dX3_readNumber_25 (w2 := cT q (u2 τ1 0 1 ((τ 0 1) + 1)) ct) cT_f1 ?_
    obtain ⟨τ2, eτ2⟩ : ∃ z, z = u2 τ1 0 1 ((τ 0 1) + 1) := ⟨_, rfl⟩
    rw [← eτ2]
    refine z_iconst (v := 1) hC dX3_readNumber_28 (by decide) ?_
    refine z_istore_n hC dX3_readNumber_29 (by decide) rfl ?_
    have loop30 : ∀ (kf i : Nat) (τx : Nat → Nat → Int32) (hki : kf + i = 80) (hokx : okT (τx 1)) (hF : mtNumL y0 kf τx = mtNum τ x0 y0), zG p l e { frames := 2, cells := 0, slots := 0, locals := 42 } s m args below meth c D (va_A (cT q τ ct) s.heap.size) 5 (MQ below (zQ D ct (cT q τ ct) s.heap.size (zd (some (.int (bI (mtNum τ x0 y0).1))) (cT q (mtNum τ x0 y0).2 ct))) args s 0 0 (va_A (cT q τ ct) s.heap.size)) 0 0 30 [some (.ref (q 0)), some (.int x0), some (.int y0), some (.int (nI i)), none] [] (cT q τx ct) := by
      intro kf
      induction kf with
      | zero =>
        intro i τx hki hokx hF
        refine z_iload_n hC dX3_readNumber_30 rfl ?_
        refine z_bipush (v := 80) hC dX3_readNumber_31 (by decide) ?_
        refine z_icmp_ge hC 95 dX3_readNumber_33 (by decide) (fun c33 => ?_) (fun c33 => absurd (kge 80 rfl (by omega) (by omega)) c33)
        refine z_iconst (v := 1) hC dX3_readNumber_95 (by decide) ?_
        exact z_zretd hC hr (rfl) dX3_readNumber_96 (Nat.zero_le _) (Nat.zero_le _) (by rw [← hF]; simp [mtNumL, bI, u2_at, u2_nk, u2_ne, c13, c33, i_nlt.mpr c13, i_nlt.mpr c33]) (congrArg (fun z => cT q z ct) (by rw [← hF]; simp [mtNumL, u2_at, u2_nk, u2_ne, c13, c33, i_nlt.mpr c13, i_nlt.mpr c33])) cT_adr
      | succ kf ih =>
        intro i τx hki hokx hF
        refine z_iload_n hC dX3_readNumber_30 rfl ?_
        refine z_bipush (v := 80) hC dX3_readNumber_31 (by decide) ?_
        refine z_icmp_ge hC 95 dX3_readNumber_33 (by decide) (fun c33 => absurd c33 (klt 80 rfl (by omega) (by decide))) (fun c33 => ?_)
        refine z_aload_n hC dX3_readNumber_36 rfl ?_
        refine z_callV [0, 1] 0 3 hC (c_X3_digitHere l D ct q τx hokx) bw_463 bw_464 bw_465 bw_24 bw_466 0 (by decide +kernel) rfl rfl rfl rfl rfl ⟨Nat.le_of_ble_eq_true rfl, Nat.le_of_ble_eq_true rfl⟩ (Nat.le_of_ble_eq_true rfl) ⟨Nat.le_of_ble_eq_true rfl, Nat.le_of_ble_eq_true rfl⟩ rfl dX3_readNumber_37 ?_
        refine zkq (G := fun v1 w1 => zG p l e _ s m args below meth c D _ _ _ _ _ _ _ (v1.toList ++ _) w1) rfl ?_
        refine z_iconst (v := (-1)) hC dX3_readNumber_40 (by decide) ?_
        refine z_icmp_eq hC 95 dX3_readNumber_41 (by decide) (fun c41 => ?_) (fun c41 => ?_)
        · refine z_iconst (v := 1) hC dX3_readNumber_95 (by decide) ?_
          exact z_zretd hC hr (rfl) dX3_readNumber_96 (Nat.zero_le _) (Nat.zero_le _) (by rw [← hF]; simp [mtNumL, bI, u2_at, u2_nk, u2_ne, c13, c33, c41, i_nlt.mpr c13, i_nle.mp c33]) (congrArg (fun z => cT q z ct) (by rw [← hF]; simp [mtNumL, u2_at, u2_nk, u2_ne, c13, c33, c41, i_nlt.mpr c13, i_nle.mp c33])) cT_adr
        · refine z_aload_n hC dX3_readNumber_44 rfl ?_
          refine z_get 0 6 hC bl_X3 (ci := 3) rfl (by decide) rfl bw_480 rfl rfl dX3_readNumber_45 ?_
          refine z_bipush (v := 10) hC dX3_readNumber_48 (by decide) ?_
          refine z_imul hC dX3_readNumber_50 ?_
          refine z_aload_n hC dX3_readNumber_51 rfl ?_
          refine z_callV [0, 1] 0 3 hC (c_X3_digitHere l D ct q τx hokx) bw_463 bw_464 bw_465 bw_24 bw_466 0 (by decide +kernel) rfl rfl rfl rfl rfl ⟨Nat.le_of_ble_eq_true rfl, Nat.le_of_ble_eq_true rfl⟩ (Nat.le_of_ble_eq_true rfl) ⟨Nat.le_of_ble_eq_true rfl, Nat.le_of_ble_eq_true rfl⟩ rfl dX3_readNumber_52 ?_
          refine zkq (G := fun v1 w1 => zG p l e _ s m args below meth c D _ _ _ _ _ _ _ (v1.toList ++ _) w1) rfl ?_
          refine z_iadd hC dX3_readNumber_55 ?_
          refine z_istore hC dX3_readNumber_56 (by decide) rfl ?_
          refine z_aload_n hC dX3_readNumber_58 rfl ?_
          refine z_get 0 6 hC bl_X3 (ci := 3) rfl (by decide) rfl bw_480 rfl rfl dX3_readNumber_59 ?_
          refine z_if_eq hC 71 dX3_readNumber_62 (by decide) (fun c62 => ?_) (fun c62 => ?_)
          · refine z_iconst (v := 0) hC dX3_readNumber_71 (by decide) ?_
            exact z_zretd hC hr (rfl) dX3_readNumber_72 (Nat.zero_le _) (Nat.zero_le _) (by rw [← hF]; simp [mtNumL, bI, u2_at, u2_nk, u2_ne, c13, c33, c41, c62, i_nlt.mpr c13, i_nle.mp c33]) (congrArg (fun z => cT q z ct) (by rw [← hF]; simp [mtNumL, u2_at, u2_nk, u2_ne, c13, c33, c41, c62, i_nlt.mpr c13, i_nle.mp c33])) cT_adr
          · refine z_iload hC dX3_readNumber_65 rfl ?_
            refine z_iload_n hC dX3_readNumber_67 rfl ?_
            refine z_icmp_le hC 73 dX3_readNumber_68 (by decide) (fun c68 => ?_) (fun c68 => ?_)
            · refine z_aload_n hC dX3_readNumber_73 rfl ?_
              refine z_iload hC dX3_readNumber_74 rfl ?_
              refine z_put (ci := 3) 0 6 hC bl_X3 tyX3_ok nmX3 rfl (by decide) rfl bw_480 rfl rfl rfl rfl (Nat.lt_of_lt_of_le (by decide) (Nat.le_refl 7)) dX3_readNumber_76 (w2 := cT q (u2 τx 0 5 (((τx 0 5) * 10) + (mtDigit τx))) ct) cT_f5 ?_
              obtain ⟨τ3, eτ3⟩ : ∃ z, z = u2 τx 0 5 (((τx 0 5) * 10) + (mtDigit τx)) := ⟨_, rfl⟩
              rw [← eτ3]
              refine z_aload_n hC dX3_readNumber_79 rfl ?_
              refine z_dup hC dX3_readNumber_80 rfl ?_
              refine z_get 0 2 hC bl_X3 (ci := 3) rfl (by decide) rfl bw_448 rfl rfl dX3_readNumber_81 ?_
              rw [show (τ3 0 1) = (τx 0 1) from by simp only [eτ3]; rfl]
              refine z_iconst (v := 1) hC dX3_readNumber_84 (by decide) ?_
              refine z_iadd hC dX3_readNumber_85 ?_
              refine z_put (ci := 3) 0 2 hC bl_X3 tyX3_ok nmX3 rfl (by decide) rfl bw_448 rfl rfl rfl rfl (Nat.lt_of_lt_of_le (by decide) (Nat.le_refl 7)) dX3_readNumber_86 (w2 := cT q (u2 τ3 0 1 ((τx 0 1) + 1)) ct) cT_f1 ?_
              obtain ⟨τ4, eτ4⟩ : ∃ z, z = u2 τ3 0 1 ((τx 0 1) + 1) := ⟨_, rfl⟩
              rw [← eτ4]
              refine z_iinc (cn := 1) hC dX3_readNumber_89 (by decide) (by decide) rfl rfl ?_
              refine z_goto hC 30 dX3_readNumber_92 (by decide) ?_
              rw [nI_1]
              exact z_wk (ls_s (ls_s (ls_s (ls_s (ls_n ls_0))))) (ih (i + 1) τ4 (by omega) (by simpa [eτ4, eτ3, mtStep_1, mtSgn_1, mtFirst_1, mtSecond_1, mtNum_1, mtCmd_1, u2_ne] using hokx) (by rw [← hF]; subst eτ4; subst eτ3; simp [mtNumL, mtStep, u2_at, u2_nk, u2_ne, c13, c33, c41, c62, c68, i_nlt.mpr c13, i_nle.mp c33, i_nlt.mpr c68]))
            · refine z_iconst (v := 0) hC dX3_readNumber_71 (by decide) ?_
              exact z_zretd hC hr (rfl) dX3_readNumber_72 (Nat.zero_le _) (Nat.zero_le _) (by rw [← hF]; simp [mtNumL, bI, u2_at, u2_nk, u2_ne, c13, c33, c41, c62, c68, i_nlt.mpr c13, i_nle.mp c33, i_nle.mp c68]) (congrArg (fun z => cT q z ct) (by rw [← hF]; simp [mtNumL, u2_at, u2_nk, u2_ne, c13, c33, c41, c62, c68, i_nlt.mpr c13, i_nle.mp c33, i_nle.mp c68])) cT_adr
    exact z_wk (ls_s (ls_s (ls_s (ls_s (ls_n ls_0))))) (loop30 79 1 τ2 rfl (by simpa [eτ2, eτ1, mtStep_1, mtSgn_1, mtFirst_1, mtSecond_1, mtNum_1, mtCmd_1, u2_ne] using hok) (by subst eτ2; subst eτ1; rw [mtNum, if_neg (i_nlt.mpr c13)]; rfl))
  · refine z_iconst (v := 0) hC dX3_readNumber_16 (by decide) ?_
    exact z_zretd hC hr (rfl) dX3_readNumber_17 (Nat.zero_le _) (Nat.zero_le _) (by subst eτ1; clear hC hr hnm; first | rfl | (simp [mtNum, bI, mtStep, u2_at, u2_nk, u2_ne, c13, i_nle.mp c13, *]; done) | (simp_all [mtNum, bI, mtStep, u2_at, u2_nk, u2_ne, c13, i_nle.mp c13]; done)) (by subst eτ1; refine congrArg (fun z => cT q z ct) ?_; first | (simp only [mtNum, bI, mtStep, u2_at, u2_nk, u2_ne, c13, i_nle.mp c13, and_self, if_true, if_false]; done) | (simp [mtNum, bI, mtStep, u2_at, u2_nk, u2_ne, c13, i_nle.mp c13]; done) | (simp [mtNum, bI, mtStep, u2_at, u2_nk, u2_ne, c13, i_nle.mp c13, *]; done)) cT_adr

set_option maxRecDepth 100000 in
set_option maxHeartbeats 4000000 in
theorem c_X3_readCommand (l : Launch) (D : va_G) (ct : Nat → ClassId) (q : Nat → Nat) (τ : Nat → Nat → Int32) (hok : okT (τ 1)) : zT l D ct yX3_readCommand cX3_readCommand 1 (some .boolean) 3 66 0 0 [.ref (q 0)] (cT q τ ct) (zd (some (.int (bI (mtCmd τ).1))) (cT q (mtCmd τ).2 ct)) := by
  refine zT_of ([some (.ref (q 0))]) (by decide +kernel) rfl (Nat.le_of_ble_eq_true rfl) ?_
  intro p e s m args below meth c hC hr hnm
  refine z_aload_n hC dX3_readCommand_0 rfl ?_
  refine z_aload_n hC dX3_readCommand_1 rfl ?_
  refine z_callV [0, 1] 0 3 hC (c_X3_signHere l D ct q τ hok) bw_454 bw_455 bw_456 bw_24 bw_457 0 (by decide +kernel) rfl rfl rfl rfl rfl ⟨Nat.le_of_ble_eq_true rfl, Nat.le_of_ble_eq_true rfl⟩ (Nat.le_of_ble_eq_true rfl) ⟨Nat.le_of_ble_eq_true rfl, Nat.le_of_ble_eq_true rfl⟩ rfl dX3_readCommand_2 ?_
  refine zkq (G := fun v1 w1 => zG p l e _ s m args below meth c D _ _ _ _ _ _ _ (v1.toList ++ _) w1) rfl ?_
  obtain ⟨kk, ekk⟩ : ∃ z, z = mtSign τ := ⟨_, rfl⟩
  rw [← ekk]
  refine z_put (ci := 3) 0 3 hC bl_X3 tyX3_ok nmX3 rfl (by decide) rfl bw_453 rfl rfl (by rw [ekk]; exact mtSign_nar hok) (by rw [ekk]; exact mtSign_fit hok) (Nat.lt_of_lt_of_le (by decide) (Nat.le_refl 7)) dX3_readCommand_5 (w2 := cT q (u2 τ 0 2 kk) ct) cT_f2 ?_
  obtain ⟨τ1, eτ1⟩ : ∃ z, z = u2 τ 0 2 kk := ⟨_, rfl⟩
  rw [← eτ1]
  refine z_aload_n hC dX3_readCommand_8 rfl ?_
  refine z_get 0 3 hC bl_X3 (ci := 3) rfl (by decide) rfl bw_453 rfl rfl dX3_readCommand_9 ?_
  rw [show (τ1 0 2) = kk from by simp only [eτ1]; rfl]
  by_cases s12_33 : kk = 33
  · refine z_lookup (off := 83) hC 95 dX3_readCommand_12 (by decide) (by rw [s12_33]; first | rfl | decide) (by decide) ?_
    subst s12_33
    refine z_aload_n hC dX3_readCommand_95 rfl ?_
    refine z_dup hC dX3_readCommand_96 rfl ?_
    refine z_get 0 2 hC bl_X3 (ci := 3) rfl (by decide) rfl bw_448 rfl rfl dX3_readCommand_97 ?_
    rw [show (τ1 0 1) = (τ 0 1) from by simp only [eτ1]; rfl]
    refine z_iconst (v := 1) hC dX3_readCommand_100 (by decide) ?_
    refine z_iadd hC dX3_readCommand_101 ?_
    refine z_put (ci := 3) 0 2 hC bl_X3 tyX3_ok nmX3 rfl (by decide) rfl bw_448 rfl rfl rfl rfl (Nat.lt_of_lt_of_le (by decide) (Nat.le_refl 7)) dX3_readCommand_102 (w2 := cT q (u2 τ1 0 1 ((τ 0 1) + 1)) ct) cT_f1 ?_
    obtain ⟨τ2, eτ2⟩ : ∃ z, z = u2 τ1 0 1 ((τ 0 1) + 1) := ⟨_, rfl⟩
    rw [← eτ2]
    refine z_aload_n hC dX3_readCommand_105 rfl ?_
    refine z_iconst (v := 0) hC dX3_readCommand_106 (by decide) ?_
    refine z_callV [0, 1] 0 3 hC (c_X3_readFirst l D ct q τ2 0 (by simpa [eτ2, eτ1, mtStep_1, mtSgn_1, mtFirst_1, mtSecond_1, mtNum_1, mtCmd_1, u2_ne] using hok)) bw_458 bw_459 bw_460 bw_24 bw_461 1 (by decide +kernel) rfl rfl rfl rfl rfl ⟨Nat.le_of_ble_eq_true rfl, Nat.le_of_ble_eq_true rfl⟩ (Nat.le_of_ble_eq_true rfl) ⟨Nat.le_of_ble_eq_true rfl, Nat.le_of_ble_eq_true rfl⟩ rfl dX3_readCommand_107 ?_
    refine zkd (G := fun v1 w1 => zG p l e _ s m args below meth c D _ _ _ _ _ _ _ (v1.toList ++ _) w1) (w2 := cT q ((mtFirst τ2 0).2) ct) cT_all ?_
    obtain ⟨τ3, eτ3⟩ : ∃ z, z = (mtFirst τ2 0).2 := ⟨_, rfl⟩
    rw [← eτ3]
    exact z_zretd hC hr (bI_nar _) dX3_readCommand_110 (Nat.zero_le _) (Nat.zero_le _) (by rw [mtCmd, ← ekk]; subst eτ3; subst eτ2; subst eτ1; simp [mtCmdK, mtC1, mtC2, bI, mtStep, u2_at, u2_nk, u2_ne, ]) (congrArg (fun z => cT q z ct) (by rw [mtCmd, ← ekk]; subst eτ3; subst eτ2; subst eτ1; simp [mtCmdK, mtC1, mtC2, bI, mtStep, u2_at, u2_nk, u2_ne, ])) cT_adr
  by_cases s12_43 : kk = 43
  · refine z_lookup (off := 52) hC 64 dX3_readCommand_12 (by decide) (by rw [s12_43]; first | rfl | decide) (by decide) ?_
    subst s12_43
    refine z_aload_n hC dX3_readCommand_64 rfl ?_
    refine z_dup hC dX3_readCommand_65 rfl ?_
    refine z_get 0 2 hC bl_X3 (ci := 3) rfl (by decide) rfl bw_448 rfl rfl dX3_readCommand_66 ?_
    rw [show (τ1 0 1) = (τ 0 1) from by simp only [eτ1]; rfl]
    refine z_iconst (v := 1) hC dX3_readCommand_69 (by decide) ?_
    refine z_iadd hC dX3_readCommand_70 ?_
    refine z_put (ci := 3) 0 2 hC bl_X3 tyX3_ok nmX3 rfl (by decide) rfl bw_448 rfl rfl rfl rfl (Nat.lt_of_lt_of_le (by decide) (Nat.le_refl 7)) dX3_readCommand_71 (w2 := cT q (u2 τ1 0 1 ((τ 0 1) + 1)) ct) cT_f1 ?_
    obtain ⟨τ4, eτ4⟩ : ∃ z, z = u2 τ1 0 1 ((τ 0 1) + 1) := ⟨_, rfl⟩
    rw [← eτ4]
    refine z_aload_n hC dX3_readCommand_74 rfl ?_
    refine z_iconst (v := 0) hC dX3_readCommand_75 (by decide) ?_
    refine z_callV [0, 1] 0 3 hC (c_X3_readFirst l D ct q τ4 0 (by simpa [eτ4, eτ1, mtStep_1, mtSgn_1, mtFirst_1, mtSecond_1, mtNum_1, mtCmd_1, u2_ne] using hok)) bw_458 bw_459 bw_460 bw_24 bw_461 1 (by decide +kernel) rfl rfl rfl rfl rfl ⟨Nat.le_of_ble_eq_true rfl, Nat.le_of_ble_eq_true rfl⟩ (Nat.le_of_ble_eq_true rfl) ⟨Nat.le_of_ble_eq_true rfl, Nat.le_of_ble_eq_true rfl⟩ rfl dX3_readCommand_76 ?_
    refine zkd (G := fun v1 w1 => zG p l e _ s m args below meth c D _ _ _ _ _ _ _ (v1.toList ++ _) w1) (w2 := cT q ((mtFirst τ4 0).2) ct) cT_all ?_
    obtain ⟨τ5, eτ5⟩ : ∃ z, z = (mtFirst τ4 0).2 := ⟨_, rfl⟩
    rw [← eτ5]
    refine z_if_eq hC 93 dX3_readCommand_79 (by decide) (fun c79 => ?_) (fun c79 => ?_)
    · rw [bI_0] at c79
      refine z_iconst (v := 0) hC dX3_readCommand_93 (by decide) ?_
      exact z_zretd hC hr (rfl) dX3_readCommand_94 (Nat.zero_le _) (Nat.zero_le _) (by rw [mtCmd, ← ekk]; subst eτ5; subst eτ4; subst eτ1; simp [mtCmdK, mtC1, mtC2, bI, mtStep, u2_at, u2_nk, u2_ne, s12_33, c79]) (congrArg (fun z => cT q z ct) (by rw [mtCmd, ← ekk]; subst eτ5; subst eτ4; subst eτ1; simp [mtCmdK, mtC1, mtC2, bI, mtStep, u2_at, u2_nk, u2_ne, s12_33, c79])) cT_adr
    · rw [bI_1] at c79
      refine z_aload_n hC dX3_readCommand_82 rfl ?_
      refine z_callV [0, 1] 0 3 hC (c_X3_readSecond l D ct q τ5  (by simpa [eτ5, eτ4, eτ1, mtStep_1, mtSgn_1, mtFirst_1, mtSecond_1, mtNum_1, mtCmd_1, u2_ne] using hok)) bw_467 bw_468 bw_469 bw_24 bw_470 0 (by decide +kernel) rfl rfl rfl rfl rfl ⟨Nat.le_of_ble_eq_true rfl, Nat.le_of_ble_eq_true rfl⟩ (Nat.le_of_ble_eq_true rfl) ⟨Nat.le_of_ble_eq_true rfl, Nat.le_of_ble_eq_true rfl⟩ rfl dX3_readCommand_83 ?_
      refine zkd (G := fun v1 w1 => zG p l e _ s m args below meth c D _ _ _ _ _ _ _ (v1.toList ++ _) w1) (w2 := cT q ((mtSecond τ5).2) ct) cT_all ?_
      obtain ⟨τ6, eτ6⟩ : ∃ z, z = (mtSecond τ5).2 := ⟨_, rfl⟩
      rw [← eτ6]
      refine z_if_eq hC 93 dX3_readCommand_86 (by decide) (fun c86 => ?_) (fun c86 => ?_)
      · rw [bI_0] at c86
        refine z_iconst (v := 0) hC dX3_readCommand_93 (by decide) ?_
        exact z_zretd hC hr (rfl) dX3_readCommand_94 (Nat.zero_le _) (Nat.zero_le _) (by rw [mtCmd, ← ekk]; subst eτ6; subst eτ5; subst eτ4; subst eτ1; simp [mtCmdK, mtC1, mtC2, bI, mtStep, u2_at, u2_nk, u2_ne, s12_33, c79, c86]) (congrArg (fun z => cT q z ct) (by rw [mtCmd, ← ekk]; subst eτ6; subst eτ5; subst eτ4; subst eτ1; simp [mtCmdK, mtC1, mtC2, bI, mtStep, u2_at, u2_nk, u2_ne, s12_33, c79, c86])) cT_adr
      · rw [bI_1] at c86
        refine z_iconst (v := 1) hC dX3_readCommand_89 (by decide) ?_
        refine z_goto hC 94 dX3_readCommand_90 (by decide) ?_
        exact z_zretd hC hr (rfl) dX3_readCommand_94 (Nat.zero_le _) (Nat.zero_le _) (by rw [mtCmd, ← ekk]; subst eτ6; subst eτ5; subst eτ4; subst eτ1; simp [mtCmdK, mtC1, mtC2, bI, mtStep, u2_at, u2_nk, u2_ne, s12_33, c79, c86]) (congrArg (fun z => cT q z ct) (by rw [mtCmd, ← ekk]; subst eτ6; subst eτ5; subst eτ4; subst eτ1; simp [mtCmdK, mtC1, mtC2, bI, mtStep, u2_at, u2_nk, u2_ne, s12_33, c79, c86])) cT_adr
  by_cases s12_45 : kk = 45
  · refine z_lookup (off := 52) hC 64 dX3_readCommand_12 (by decide) (by rw [s12_45]; first | rfl | decide) (by decide) ?_
    subst s12_45
    refine z_aload_n hC dX3_readCommand_64 rfl ?_
    refine z_dup hC dX3_readCommand_65 rfl ?_
    refine z_get 0 2 hC bl_X3 (ci := 3) rfl (by decide) rfl bw_448 rfl rfl dX3_readCommand_66 ?_
    rw [show (τ1 0 1) = (τ 0 1) from by simp only [eτ1]; rfl]
    refine z_iconst (v := 1) hC dX3_readCommand_69 (by decide) ?_
    refine z_iadd hC dX3_readCommand_70 ?_
    refine z_put (ci := 3) 0 2 hC bl_X3 tyX3_ok nmX3 rfl (by decide) rfl bw_448 rfl rfl rfl rfl (Nat.lt_of_lt_of_le (by decide) (Nat.le_refl 7)) dX3_readCommand_71 (w2 := cT q (u2 τ1 0 1 ((τ 0 1) + 1)) ct) cT_f1 ?_
    obtain ⟨τ7, eτ7⟩ : ∃ z, z = u2 τ1 0 1 ((τ 0 1) + 1) := ⟨_, rfl⟩
    rw [← eτ7]
    refine z_aload_n hC dX3_readCommand_74 rfl ?_
    refine z_iconst (v := 0) hC dX3_readCommand_75 (by decide) ?_
    refine z_callV [0, 1] 0 3 hC (c_X3_readFirst l D ct q τ7 0 (by simpa [eτ7, eτ1, mtStep_1, mtSgn_1, mtFirst_1, mtSecond_1, mtNum_1, mtCmd_1, u2_ne] using hok)) bw_458 bw_459 bw_460 bw_24 bw_461 1 (by decide +kernel) rfl rfl rfl rfl rfl ⟨Nat.le_of_ble_eq_true rfl, Nat.le_of_ble_eq_true rfl⟩ (Nat.le_of_ble_eq_true rfl) ⟨Nat.le_of_ble_eq_true rfl, Nat.le_of_ble_eq_true rfl⟩ rfl dX3_readCommand_76 ?_
    refine zkd (G := fun v1 w1 => zG p l e _ s m args below meth c D _ _ _ _ _ _ _ (v1.toList ++ _) w1) (w2 := cT q ((mtFirst τ7 0).2) ct) cT_all ?_
    obtain ⟨τ8, eτ8⟩ : ∃ z, z = (mtFirst τ7 0).2 := ⟨_, rfl⟩
    rw [← eτ8]
    refine z_if_eq hC 93 dX3_readCommand_79 (by decide) (fun c79 => ?_) (fun c79 => ?_)
    · rw [bI_0] at c79
      refine z_iconst (v := 0) hC dX3_readCommand_93 (by decide) ?_
      exact z_zretd hC hr (rfl) dX3_readCommand_94 (Nat.zero_le _) (Nat.zero_le _) (by rw [mtCmd, ← ekk]; subst eτ8; subst eτ7; subst eτ1; simp [mtCmdK, mtC1, mtC2, bI, mtStep, u2_at, u2_nk, u2_ne, s12_33, s12_43, c79]) (congrArg (fun z => cT q z ct) (by rw [mtCmd, ← ekk]; subst eτ8; subst eτ7; subst eτ1; simp [mtCmdK, mtC1, mtC2, bI, mtStep, u2_at, u2_nk, u2_ne, s12_33, s12_43, c79])) cT_adr
    · rw [bI_1] at c79
      refine z_aload_n hC dX3_readCommand_82 rfl ?_
      refine z_callV [0, 1] 0 3 hC (c_X3_readSecond l D ct q τ8  (by simpa [eτ8, eτ7, eτ1, mtStep_1, mtSgn_1, mtFirst_1, mtSecond_1, mtNum_1, mtCmd_1, u2_ne] using hok)) bw_467 bw_468 bw_469 bw_24 bw_470 0 (by decide +kernel) rfl rfl rfl rfl rfl ⟨Nat.le_of_ble_eq_true rfl, Nat.le_of_ble_eq_true rfl⟩ (Nat.le_of_ble_eq_true rfl) ⟨Nat.le_of_ble_eq_true rfl, Nat.le_of_ble_eq_true rfl⟩ rfl dX3_readCommand_83 ?_
      refine zkd (G := fun v1 w1 => zG p l e _ s m args below meth c D _ _ _ _ _ _ _ (v1.toList ++ _) w1) (w2 := cT q ((mtSecond τ8).2) ct) cT_all ?_
      obtain ⟨τ9, eτ9⟩ : ∃ z, z = (mtSecond τ8).2 := ⟨_, rfl⟩
      rw [← eτ9]
      refine z_if_eq hC 93 dX3_readCommand_86 (by decide) (fun c86 => ?_) (fun c86 => ?_)
      · rw [bI_0] at c86
        refine z_iconst (v := 0) hC dX3_readCommand_93 (by decide) ?_
        exact z_zretd hC hr (rfl) dX3_readCommand_94 (Nat.zero_le _) (Nat.zero_le _) (by rw [mtCmd, ← ekk]; subst eτ9; subst eτ8; subst eτ7; subst eτ1; simp [mtCmdK, mtC1, mtC2, bI, mtStep, u2_at, u2_nk, u2_ne, s12_33, s12_43, c79, c86]) (congrArg (fun z => cT q z ct) (by rw [mtCmd, ← ekk]; subst eτ9; subst eτ8; subst eτ7; subst eτ1; simp [mtCmdK, mtC1, mtC2, bI, mtStep, u2_at, u2_nk, u2_ne, s12_33, s12_43, c79, c86])) cT_adr
      · rw [bI_1] at c86
        refine z_iconst (v := 1) hC dX3_readCommand_89 (by decide) ?_
        refine z_goto hC 94 dX3_readCommand_90 (by decide) ?_
        exact z_zretd hC hr (rfl) dX3_readCommand_94 (Nat.zero_le _) (Nat.zero_le _) (by rw [mtCmd, ← ekk]; subst eτ9; subst eτ8; subst eτ7; subst eτ1; simp [mtCmdK, mtC1, mtC2, bI, mtStep, u2_at, u2_nk, u2_ne, s12_33, s12_43, c79, c86]) (congrArg (fun z => cT q z ct) (by rw [mtCmd, ← ekk]; subst eτ9; subst eτ8; subst eτ7; subst eτ1; simp [mtCmdK, mtC1, mtC2, bI, mtStep, u2_at, u2_nk, u2_ne, s12_33, s12_43, c79, c86])) cT_adr
  by_cases s12_114 : kk = 114
  · refine z_lookup (off := 143) hC 155 dX3_readCommand_12 (by decide) (by rw [s12_114]; first | rfl | decide) (by decide) ?_
    subst s12_114
    refine z_aload_n hC dX3_readCommand_155 rfl ?_
    refine z_dup hC dX3_readCommand_156 rfl ?_
    refine z_get 0 2 hC bl_X3 (ci := 3) rfl (by decide) rfl bw_448 rfl rfl dX3_readCommand_157 ?_
    rw [show (τ1 0 1) = (τ 0 1) from by simp only [eτ1]; rfl]
    refine z_iconst (v := 1) hC dX3_readCommand_160 (by decide) ?_
    refine z_iadd hC dX3_readCommand_161 ?_
    refine z_put (ci := 3) 0 2 hC bl_X3 tyX3_ok nmX3 rfl (by decide) rfl bw_448 rfl rfl rfl rfl (Nat.lt_of_lt_of_le (by decide) (Nat.le_refl 7)) dX3_readCommand_162 (w2 := cT q (u2 τ1 0 1 ((τ 0 1) + 1)) ct) cT_f1 ?_
    obtain ⟨τ10, eτ10⟩ : ∃ z, z = u2 τ1 0 1 ((τ 0 1) + 1) := ⟨_, rfl⟩
    rw [← eτ10]
    refine z_aload_n hC dX3_readCommand_165 rfl ?_
    refine z_iconst (v := 1) hC dX3_readCommand_166 (by decide) ?_
    refine z_bipush (v := 100) hC dX3_readCommand_167 (by decide) ?_
    refine z_callV [0, 1] 0 3 hC (c_X3_readNumber l D ct q τ10 1 100 (by simpa [eτ10, eτ1, mtStep_1, mtSgn_1, mtFirst_1, mtSecond_1, mtNum_1, mtCmd_1, u2_ne] using hok)) bw_476 bw_477 bw_478 bw_24 bw_479 2 (by decide +kernel) rfl rfl rfl rfl rfl ⟨Nat.le_of_ble_eq_true rfl, Nat.le_of_ble_eq_true rfl⟩ (Nat.le_of_ble_eq_true rfl) ⟨Nat.le_of_ble_eq_true rfl, Nat.le_of_ble_eq_true rfl⟩ rfl dX3_readCommand_169 ?_
    refine zkd (G := fun v1 w1 => zG p l e _ s m args below meth c D _ _ _ _ _ _ _ (v1.toList ++ _) w1) (w2 := cT q ((mtNum τ10 1 100).2) ct) cT_all ?_
    obtain ⟨τ11, eτ11⟩ : ∃ z, z = (mtNum τ10 1 100).2 := ⟨_, rfl⟩
    rw [← eτ11]
    exact z_zretd hC hr (bI_nar _) dX3_readCommand_172 (Nat.zero_le _) (Nat.zero_le _) (by rw [mtCmd, ← ekk]; subst eτ11; subst eτ10; subst eτ1; simp [mtCmdK, mtC1, mtC2, bI, mtStep, u2_at, u2_nk, u2_ne, s12_33, s12_43, s12_45]) (congrArg (fun z => cT q z ct) (by rw [mtCmd, ← ekk]; subst eτ11; subst eτ10; subst eτ1; simp [mtCmdK, mtC1, mtC2, bI, mtStep, u2_at, u2_nk, u2_ne, s12_33, s12_43, s12_45])) cT_adr
  by_cases s12_116 : kk = 116
  · refine z_lookup (off := 99) hC 111 dX3_readCommand_12 (by decide) (by rw [s12_116]; first | rfl | decide) (by decide) ?_
    subst s12_116
    refine z_aload_n hC dX3_readCommand_111 rfl ?_
    refine z_dup hC dX3_readCommand_112 rfl ?_
    refine z_get 0 2 hC bl_X3 (ci := 3) rfl (by decide) rfl bw_448 rfl rfl dX3_readCommand_113 ?_
    rw [show (τ1 0 1) = (τ 0 1) from by simp only [eτ1]; rfl]
    refine z_iconst (v := 1) hC dX3_readCommand_116 (by decide) ?_
    refine z_iadd hC dX3_readCommand_117 ?_
    refine z_put (ci := 3) 0 2 hC bl_X3 tyX3_ok nmX3 rfl (by decide) rfl bw_448 rfl rfl rfl rfl (Nat.lt_of_lt_of_le (by decide) (Nat.le_refl 7)) dX3_readCommand_118 (w2 := cT q (u2 τ1 0 1 ((τ 0 1) + 1)) ct) cT_f1 ?_
    obtain ⟨τ12, eτ12⟩ : ∃ z, z = u2 τ1 0 1 ((τ 0 1) + 1) := ⟨_, rfl⟩
    rw [← eτ12]
    refine z_aload_n hC dX3_readCommand_121 rfl ?_
    refine z_iconst (v := 1) hC dX3_readCommand_122 (by decide) ?_
    refine z_callV [0, 1] 0 3 hC (c_X3_readFirst l D ct q τ12 1 (by simpa [eτ12, eτ1, mtStep_1, mtSgn_1, mtFirst_1, mtSecond_1, mtNum_1, mtCmd_1, u2_ne] using hok)) bw_458 bw_459 bw_460 bw_24 bw_461 1 (by decide +kernel) rfl rfl rfl rfl rfl ⟨Nat.le_of_ble_eq_true rfl, Nat.le_of_ble_eq_true rfl⟩ (Nat.le_of_ble_eq_true rfl) ⟨Nat.le_of_ble_eq_true rfl, Nat.le_of_ble_eq_true rfl⟩ rfl dX3_readCommand_123 ?_
    refine zkd (G := fun v1 w1 => zG p l e _ s m args below meth c D _ _ _ _ _ _ _ (v1.toList ++ _) w1) (w2 := cT q ((mtFirst τ12 1).2) ct) cT_all ?_
    obtain ⟨τ13, eτ13⟩ : ∃ z, z = (mtFirst τ12 1).2 := ⟨_, rfl⟩
    rw [← eτ13]
    refine z_if_eq hC 153 dX3_readCommand_126 (by decide) (fun c126 => ?_) (fun c126 => ?_)
    · rw [bI_0] at c126
      refine z_iconst (v := 0) hC dX3_readCommand_153 (by decide) ?_
      exact z_zretd hC hr (rfl) dX3_readCommand_154 (Nat.zero_le _) (Nat.zero_le _) (by rw [mtCmd, ← ekk]; subst eτ13; subst eτ12; subst eτ1; simp [mtCmdK, mtC1, mtC2, bI, mtStep, u2_at, u2_nk, u2_ne, s12_33, s12_43, s12_45, s12_114, c126]) (congrArg (fun z => cT q z ct) (by rw [mtCmd, ← ekk]; subst eτ13; subst eτ12; subst eτ1; simp [mtCmdK, mtC1, mtC2, bI, mtStep, u2_at, u2_nk, u2_ne, s12_33, s12_43, s12_45, s12_114, c126])) cT_adr
    · rw [bI_1] at c126
      refine z_aload_n hC dX3_readCommand_129 rfl ?_
      refine z_bipush (v := 44) hC dX3_readCommand_130 (by decide) ?_
      refine z_callV [0, 1] 0 3 hC (c_X3_readSign l D ct q τ13 44 (by simpa [eτ13, eτ12, eτ1, mtStep_1, mtSgn_1, mtFirst_1, mtSecond_1, mtNum_1, mtCmd_1, u2_ne] using hok)) bw_472 bw_473 bw_474 bw_24 bw_475 1 (by decide +kernel) rfl rfl rfl rfl rfl ⟨Nat.le_of_ble_eq_true rfl, Nat.le_of_ble_eq_true rfl⟩ (Nat.le_of_ble_eq_true rfl) ⟨Nat.le_of_ble_eq_true rfl, Nat.le_of_ble_eq_true rfl⟩ rfl dX3_readCommand_132 ?_
      refine zkd (G := fun v1 w1 => zG p l e _ s m args below meth c D _ _ _ _ _ _ _ (v1.toList ++ _) w1) (w2 := cT q ((mtSgn τ13 44).2) ct) cT_all ?_
      obtain ⟨τ14, eτ14⟩ : ∃ z, z = (mtSgn τ13 44).2 := ⟨_, rfl⟩
      rw [← eτ14]
      refine z_if_eq hC 153 dX3_readCommand_135 (by decide) (fun c135 => ?_) (fun c135 => ?_)
      · rw [bI_0] at c135
        refine z_iconst (v := 0) hC dX3_readCommand_153 (by decide) ?_
        exact z_zretd hC hr (rfl) dX3_readCommand_154 (Nat.zero_le _) (Nat.zero_le _) (by rw [mtCmd, ← ekk]; subst eτ14; subst eτ13; subst eτ12; subst eτ1; simp [mtCmdK, mtC1, mtC2, bI, mtStep, u2_at, u2_nk, u2_ne, s12_33, s12_43, s12_45, s12_114, c126, c135]) (congrArg (fun z => cT q z ct) (by rw [mtCmd, ← ekk]; subst eτ14; subst eτ13; subst eτ12; subst eτ1; simp [mtCmdK, mtC1, mtC2, bI, mtStep, u2_at, u2_nk, u2_ne, s12_33, s12_43, s12_45, s12_114, c126, c135])) cT_adr
      · rw [bI_1] at c135
        refine z_aload_n hC dX3_readCommand_138 rfl ?_
        refine z_iconst (v := 0) hC dX3_readCommand_139 (by decide) ?_
        refine z_sipush (v := 999) hC dX3_readCommand_140 (by decide) ?_
        refine z_callV [0, 1] 0 3 hC (c_X3_readNumber l D ct q τ14 0 999 (by simpa [eτ14, eτ13, eτ12, eτ1, mtStep_1, mtSgn_1, mtFirst_1, mtSecond_1, mtNum_1, mtCmd_1, u2_ne] using hok)) bw_476 bw_477 bw_478 bw_24 bw_479 2 (by decide +kernel) rfl rfl rfl rfl rfl ⟨Nat.le_of_ble_eq_true rfl, Nat.le_of_ble_eq_true rfl⟩ (Nat.le_of_ble_eq_true rfl) ⟨Nat.le_of_ble_eq_true rfl, Nat.le_of_ble_eq_true rfl⟩ rfl dX3_readCommand_143 ?_
        refine zkd (G := fun v1 w1 => zG p l e _ s m args below meth c D _ _ _ _ _ _ _ (v1.toList ++ _) w1) (w2 := cT q ((mtNum τ14 0 999).2) ct) cT_all ?_
        obtain ⟨τ15, eτ15⟩ : ∃ z, z = (mtNum τ14 0 999).2 := ⟨_, rfl⟩
        rw [← eτ15]
        refine z_if_eq hC 153 dX3_readCommand_146 (by decide) (fun c146 => ?_) (fun c146 => ?_)
        · rw [bI_0] at c146
          refine z_iconst (v := 0) hC dX3_readCommand_153 (by decide) ?_
          exact z_zretd hC hr (rfl) dX3_readCommand_154 (Nat.zero_le _) (Nat.zero_le _) (by rw [mtCmd, ← ekk]; subst eτ15; subst eτ14; subst eτ13; subst eτ12; subst eτ1; simp [mtCmdK, mtC1, mtC2, bI, mtStep, u2_at, u2_nk, u2_ne, s12_33, s12_43, s12_45, s12_114, c126, c135, c146]) (congrArg (fun z => cT q z ct) (by rw [mtCmd, ← ekk]; subst eτ15; subst eτ14; subst eτ13; subst eτ12; subst eτ1; simp [mtCmdK, mtC1, mtC2, bI, mtStep, u2_at, u2_nk, u2_ne, s12_33, s12_43, s12_45, s12_114, c126, c135, c146])) cT_adr
        · rw [bI_1] at c146
          refine z_iconst (v := 1) hC dX3_readCommand_149 (by decide) ?_
          refine z_goto hC 154 dX3_readCommand_150 (by decide) ?_
          exact z_zretd hC hr (rfl) dX3_readCommand_154 (Nat.zero_le _) (Nat.zero_le _) (by rw [mtCmd, ← ekk]; subst eτ15; subst eτ14; subst eτ13; subst eτ12; subst eτ1; simp [mtCmdK, mtC1, mtC2, bI, mtStep, u2_at, u2_nk, u2_ne, s12_33, s12_43, s12_45, s12_114, c126, c135, c146]) (congrArg (fun z => cT q z ct) (by rw [mtCmd, ← ekk]; subst eτ15; subst eτ14; subst eτ13; subst eτ12; subst eτ1; simp [mtCmdK, mtC1, mtC2, bI, mtStep, u2_at, u2_nk, u2_ne, s12_33, s12_43, s12_45, s12_114, c126, c135, c146])) cT_adr
  have t12_33 : (33 : Int32).toInt = 33 := rfl
  have n12_33 := mt i_eq.mpr s12_33
  have t12_43 : (43 : Int32).toInt = 43 := rfl
  have n12_43 := mt i_eq.mpr s12_43
  have t12_45 : (45 : Int32).toInt = 45 := rfl
  have n12_45 := mt i_eq.mpr s12_45
  have t12_114 : (114 : Int32).toInt = 114 := rfl
  have n12_114 := mt i_eq.mpr s12_114
  have t12_116 : (116 : Int32).toInt = 116 := rfl
  have n12_116 := mt i_eq.mpr s12_116
  refine z_lookup (off := 161) hC 173 dX3_readCommand_12 (by decide) (by have e12_33 : ¬ (33 : Int) = (kk).toInt := (by omega); have e12_43 : ¬ (43 : Int) = (kk).toInt := (by omega); have e12_45 : ¬ (45 : Int) = (kk).toInt := (by omega); have e12_114 : ¬ (114 : Int) = (kk).toInt := (by omega); have e12_116 : ¬ (116 : Int) = (kk).toInt := (by omega); simp [Op.lookupswitch.offset, e12_33, e12_43, e12_45, e12_114, e12_116]) (by decide) ?_
  refine z_iconst (v := 0) hC dX3_readCommand_173 (by decide) ?_
  exact z_zretd hC hr (rfl) dX3_readCommand_174 (Nat.zero_le _) (Nat.zero_le _) (by rw [mtCmd, ← ekk]; subst eτ1; simp [mtCmdK, mtC1, mtC2, bI, mtStep, u2_at, u2_nk, u2_ne, s12_33, s12_43, s12_45, s12_114, s12_116]) (congrArg (fun z => cT q z ct) (by rw [mtCmd, ← ekk]; subst eτ1; simp [mtCmdK, mtC1, mtC2, bI, mtStep, u2_at, u2_nk, u2_ne, s12_33, s12_43, s12_45, s12_114, s12_116])) cT_adr

set_option maxRecDepth 100000 in
set_option maxHeartbeats 4000000 in
theorem c_X3_findError (l : Launch) (D : va_G) (ct : Nat → ClassId) (q : Nat → Nat) (τ : Nat → Nat → Int32) (hok : okT (τ 1)) : zT l D ct yX3_findError cX3_findError 2 (some .int) 4 86 0 0 [.ref (q 0)] (cT q τ ct) (zd (some (.int (mtErr τ).1)) (cT q (mtErr τ).2 ct)) := by
  refine zT_of ([some (.ref (q 0)), none]) (by decide +kernel) rfl (Nat.le_of_ble_eq_true rfl) ?_
  intro p e s m args below meth c hC hr hnm
  refine z_aload_n hC dX3_findError_0 rfl ?_
  refine z_iconst (v := 0) hC dX3_findError_1 (by decide) ?_
  refine z_put (ci := 3) 0 2 hC bl_X3 tyX3_ok nmX3 rfl (by decide) rfl bw_448 rfl rfl rfl rfl (Nat.lt_of_lt_of_le (by decide) (Nat.le_refl 7)) dX3_findError_2 (w2 := cT q (u2 τ 0 1 0) ct) cT_f1 ?_
  obtain ⟨τ1, eτ1⟩ : ∃ z, z = u2 τ 0 1 0 := ⟨_, rfl⟩
  rw [← eτ1]
  refine z_iconst (v := 0) hC dX3_findError_5 (by decide) ?_
  refine z_istore_n hC dX3_findError_6 (by decide) rfl ?_
  have loop7 : ∀ (kf i : Nat) (τx : Nat → Nat → Int32) (hki : kf + i = 81) (hokx : okT (τx 1)) (hF : mtErrL kf τx = mtErr τ), zG p l e { frames := 4, cells := 0, slots := 0, locals := 86 } s m args below meth c D (va_A (cT q τ ct) s.heap.size) 2 (MQ below (zQ D ct (cT q τ ct) s.heap.size (zd (some (.int (mtErr τ).1)) (cT q (mtErr τ).2 ct))) args s 0 0 (va_A (cT q τ ct) s.heap.size)) 0 0 7 [some (.ref (q 0)), some (.int (nI i))] [] (cT q τx ct) := by
    intro kf
    induction kf with
    | zero =>
      intro i τx hki hokx hF
      refine z_iload_n hC dX3_findError_7 rfl ?_
      refine z_bipush (v := 80) hC dX3_findError_8 (by decide) ?_
      refine z_icmp_gt hC 58 dX3_findError_10 (by decide) (fun c10 => ?_) (fun c10 => absurd (kgt1 80 rfl (by omega) (by omega)) c10)
      refine z_aload_n hC dX3_findError_58 rfl ?_
      refine z_get 0 2 hC bl_X3 (ci := 3) rfl (by decide) rfl bw_448 rfl rfl dX3_findError_59 ?_
      exact z_iretd hC hr dX3_findError_62 (Nat.zero_le _) (Nat.zero_le _) (by rw [← hF]; simp [mtErrL, u2_at, u2_nk, u2_ne, c10, i_nle.mpr c10]) (congrArg (fun z => cT q z ct) (by rw [← hF]; simp [mtErrL, u2_at, u2_nk, u2_ne, c10, i_nle.mpr c10])) cT_adr
    | succ kf ih =>
      intro i τx hki hokx hF
      refine z_iload_n hC dX3_findError_7 rfl ?_
      refine z_bipush (v := 80) hC dX3_findError_8 (by decide) ?_
      refine z_icmp_gt hC 58 dX3_findError_10 (by decide) (fun c10 => absurd c10 (kgt0 80 rfl (by omega) (by decide))) (fun c10 => ?_)
      refine z_aload_n hC dX3_findError_13 rfl ?_
      refine z_callV [0, 1] 0 3 hC (c_X3_readCommand l D ct q τx  hokx) bw_449 bw_450 bw_451 bw_24 bw_452 0 (by decide +kernel) rfl rfl rfl rfl rfl ⟨Nat.le_of_ble_eq_true rfl, Nat.le_of_ble_eq_true rfl⟩ (Nat.le_of_ble_eq_true rfl) ⟨Nat.le_of_ble_eq_true rfl, Nat.le_of_ble_eq_true rfl⟩ rfl dX3_findError_14 ?_
      refine zkd (G := fun v1 w1 => zG p l e _ s m args below meth c D _ _ _ _ _ _ _ (v1.toList ++ _) w1) (w2 := cT q ((mtCmd τx).2) ct) cT_all ?_
      obtain ⟨τ2, eτ2⟩ : ∃ z, z = (mtCmd τx).2 := ⟨_, rfl⟩
      rw [← eτ2]
      refine z_if_ne hC 25 dX3_findError_17 (by decide) (fun c17 => ?_) (fun c17 => ?_)
      · rw [bI_1] at c17
        refine z_aload_n hC dX3_findError_25 rfl ?_
        refine z_get 0 2 hC bl_X3 (ci := 3) rfl (by decide) rfl bw_448 rfl rfl dX3_findError_26 ?_
        refine z_aload_n hC dX3_findError_29 rfl ?_
        refine z_get 0 1 hC bl_X3 (ci := 3) rfl (by decide) rfl bw_424 rfl rfl dX3_findError_30 ?_
        refine z_icmp_lt hC 38 dX3_findError_33 (by decide) (fun c33 => ?_) (fun c33 => ?_)
        · refine z_aload_n hC dX3_findError_38 rfl ?_
          refine z_bipush (v := 59) hC dX3_findError_39 (by decide) ?_
          refine z_callV [0, 1] 0 3 hC (c_X3_readSign l D ct q τ2 59 (by simpa [eτ2, mtStep_1, mtSgn_1, mtFirst_1, mtSecond_1, mtNum_1, mtCmd_1, u2_ne] using hokx)) bw_472 bw_473 bw_474 bw_24 bw_475 1 (by decide +kernel) rfl rfl rfl rfl rfl ⟨Nat.le_of_ble_eq_true rfl, Nat.le_of_ble_eq_true rfl⟩ (Nat.le_of_ble_eq_true rfl) ⟨Nat.le_of_ble_eq_true rfl, Nat.le_of_ble_eq_true rfl⟩ rfl dX3_findError_41 ?_
          refine zkd (G := fun v1 w1 => zG p l e _ s m args below meth c D _ _ _ _ _ _ _ (v1.toList ++ _) w1) (w2 := cT q ((mtSgn τ2 59).2) ct) cT_all ?_
          obtain ⟨τ3, eτ3⟩ : ∃ z, z = (mtSgn τ2 59).2 := ⟨_, rfl⟩
          rw [← eτ3]
          refine z_if_ne hC 52 dX3_findError_44 (by decide) (fun c44 => ?_) (fun c44 => ?_)
          · rw [bI_1] at c44
            refine z_iinc (cn := 1) hC dX3_findError_52 (by decide) (by decide) rfl rfl ?_
            refine z_goto hC 7 dX3_findError_55 (by decide) ?_
            rw [nI_1]
            exact ih (i + 1) τ3 (by omega) (by simpa [eτ3, eτ2, mtStep_1, mtSgn_1, mtFirst_1, mtSecond_1, mtNum_1, mtCmd_1, u2_ne] using hokx) (by rw [← hF]; subst eτ3; subst eτ2; simp [mtErrL, u2_at, u2_nk, u2_ne, c10, c17, c33, c44, i_nlt.mp c10, i_nle.mpr c33])
          · rw [bI_0] at c44
            refine z_aload_n hC dX3_findError_47 rfl ?_
            refine z_get 0 2 hC bl_X3 (ci := 3) rfl (by decide) rfl bw_448 rfl rfl dX3_findError_48 ?_
            exact z_iretd hC hr dX3_findError_51 (Nat.zero_le _) (Nat.zero_le _) (by rw [← hF]; subst eτ3; subst eτ2; simp [mtErrL, u2_at, u2_nk, u2_ne, c10, c17, c33, c44, i_nlt.mp c10, i_nle.mpr c33]) (congrArg (fun z => cT q z ct) (by rw [← hF]; subst eτ3; subst eτ2; simp [mtErrL, u2_at, u2_nk, u2_ne, c10, c17, c33, c44, i_nlt.mp c10, i_nle.mpr c33])) cT_adr
        · refine z_iconst (v := (-1)) hC dX3_findError_36 (by decide) ?_
          exact z_iretd hC hr dX3_findError_37 (Nat.zero_le _) (Nat.zero_le _) (by rw [← hF]; subst eτ2; simp [mtErrL, u2_at, u2_nk, u2_ne, c10, c17, c33, i_nlt.mp c10, i_nlt.mp c33]) (congrArg (fun z => cT q z ct) (by rw [← hF]; subst eτ2; simp [mtErrL, u2_at, u2_nk, u2_ne, c10, c17, c33, i_nlt.mp c10, i_nlt.mp c33])) cT_adr
      · rw [bI_0] at c17
        refine z_aload_n hC dX3_findError_20 rfl ?_
        refine z_get 0 2 hC bl_X3 (ci := 3) rfl (by decide) rfl bw_448 rfl rfl dX3_findError_21 ?_
        exact z_iretd hC hr dX3_findError_24 (Nat.zero_le _) (Nat.zero_le _) (by rw [← hF]; subst eτ2; simp [mtErrL, u2_at, u2_nk, u2_ne, c10, c17, i_nlt.mp c10]) (congrArg (fun z => cT q z ct) (by rw [← hF]; subst eτ2; simp [mtErrL, u2_at, u2_nk, u2_ne, c10, c17, i_nlt.mp c10])) cT_adr
  exact loop7 81 0 τ1 rfl (by simpa [eτ1, mtStep_1, mtSgn_1, mtFirst_1, mtSecond_1, mtNum_1, mtCmd_1, u2_ne] using hok) (by subst eτ1; rfl)
