set_option maxRecDepth 100000 in
set_option maxHeartbeats 1000000 in
theorem c_X0_save1 (l : Launch) (D : va_G) (ct : Nat → ClassId) (qh gq qs : Nat → Nat) (o z : Int32) (rg : Nat → Option Nat) (γ σ : Nat → Nat → Int32) (j : Nat) (hj : j < 6) (hi : mFloor (o + z) 6 = nI j) (hg : rg j = some (gq 0)) (hb1 : zbit (σ 1) 100) (hb2 : zbit (σ 2) 10) : zT l D ct yX0_save cX0_save 4 none 4 103 16 1633 [.ref (qh 0), .ref (qs 0)] (cH qh o z rg ct ++ (cS gq γ ct ++ cS qs σ ct)) (zd none (cH qh (mhO o z) (mhZ z) rg ct ++ (cS gq (msCopy γ σ) ct ++ cS qs σ ct))) := by
  refine zT_of ([some (.ref (qh 0)), some (.ref (qs 0)), none, none]) (by decide +kernel) rfl (Nat.le_of_ble_eq_true rfl) ?_
  intro p e s m args below meth c hC hr hnm
  refine z_aload_n hC dX0_save_0 rfl ?_
  refine z_get 0 1 hC bl_X0 (ci := 0) rfl (by decide) rfl bw_277 rfl rfl dX0_save_1 ?_
  refine z_aload_n hC dX0_save_4 rfl ?_
  refine z_get 0 2 hC bl_X0 (ci := 0) rfl (by decide) rfl bw_278 rfl rfl dX0_save_5 ?_
  refine z_iadd hC dX0_save_8 ?_
  refine z_bipush (v := 6) hC dX0_save_9 (by decide) ?_
  refine z_callS [] hC (c_J9_floorMod_7cf53 l D ct (o + z) 6 (by decide)) bw_279 bw_280 bw_281 bw_282 2 (by decide +kernel) rfl rfl rfl ⟨Nat.le_of_ble_eq_true rfl, Nat.le_of_ble_eq_true rfl⟩ (Nat.le_of_ble_eq_true rfl) ⟨Nat.le_of_ble_eq_true rfl, Nat.le_of_ble_eq_true rfl⟩ rfl dX0_save_11 ?_
  refine zkq (G := fun v1 w1 => zG p l e _ s m args below meth c D _ _ _ _ _ _ _ (v1.toList ++ _) w1) rfl ?_
  refine z_istore_n hC dX0_save_14 (by decide) rfl ?_
  refine z_aload_n hC dX0_save_15 rfl ?_
  refine z_get 0 0 hC bl_X0 (ci := 0) rfl (by decide) rfl bw_54 rfl rfl dX0_save_16 ?_
  refine z_iload_n hC dX0_save_19 rfl ?_
  refine z_aldq 1 hC rfl rfl (by rw [hi]; exact vp_in_nI hj (by decide)) dX0_save_20 (by rw [hi, nI_clamp (by omega), hg]) ?_
  refine z_astore_n hC dX0_save_21 (by decide) rfl ?_
  refine z_aload_n hC dX0_save_22 rfl ?_
  refine z_ifnonnull hC 41 dX0_save_23 (by decide) ?_
  refine z_aload_n hC dX0_save_41 rfl ?_
  refine z_aload_n hC dX0_save_42 rfl ?_
  refine z_callVN [2, 3, 4, 5, 6, 7, 8, 9, 10, 11, 12, 13, 14, 15, 16, 17, 18, 19, 20, 21, 22, 23, 24, 25, 26, 27, 28, 29, 30, 31, 32, 33] 0 2 hC (c_X2_copyFrom l D ct gq qs γ σ hb1 hb2) nw_22 bw_283 bw_284 bw_12 bw_285 1 (by decide +kernel) rfl rfl rfl rfl rfl ⟨Nat.le_of_ble_eq_true rfl, Nat.le_of_ble_eq_true rfl⟩ (Nat.le_of_ble_eq_true rfl) ⟨Nat.le_of_ble_eq_true rfl, Nat.le_of_ble_eq_true rfl⟩ rfl dX0_save_43 ?_
  refine zkd (G := fun v1 w1 => zG p l e _ s m args below meth c D _ _ _ _ _ _ _ (v1.toList ++ _) w1) (w2 := cH qh o z rg ct ++ (cS gq (msCopy γ σ) ct ++ cS qs σ ct)) cSw_1 ?_
  refine z_aload_n hC dX0_save_46 rfl ?_
  refine z_get 0 2 hC bl_X0 (ci := 0) rfl (by decide) rfl bw_278 rfl rfl dX0_save_47 ?_
  refine z_bipush (v := 6) hC dX0_save_50 (by decide) ?_
  refine z_icmp_ge hC 68 dX0_save_52 (by decide) (fun c52 => ?_) (fun c52 => ?_)
  · refine z_aload_n hC dX0_save_68 rfl ?_
    refine z_aload_n hC dX0_save_69 rfl ?_
    refine z_get 0 1 hC bl_X0 (ci := 0) rfl (by decide) rfl bw_277 rfl rfl dX0_save_70 ?_
    refine z_iconst (v := 1) hC dX0_save_73 (by decide) ?_
    refine z_iadd hC dX0_save_74 ?_
    refine z_bipush (v := 6) hC dX0_save_75 (by decide) ?_
    refine z_callS [] hC (c_J9_floorMod_7cf53 l D ct (o + 1) 6 (by decide)) bw_279 bw_280 bw_281 bw_282 2 (by decide +kernel) rfl rfl rfl ⟨Nat.le_of_ble_eq_true rfl, Nat.le_of_ble_eq_true rfl⟩ (Nat.le_of_ble_eq_true rfl) ⟨Nat.le_of_ble_eq_true rfl, Nat.le_of_ble_eq_true rfl⟩ rfl dX0_save_77 ?_
    refine zkq (G := fun v1 w1 => zG p l e _ s m args below meth c D _ _ _ _ _ _ _ (v1.toList ++ _) w1) rfl ?_
    refine z_put (ci := 0) 0 1 hC bl_X0 tyX0_ok nmX0 rfl (by decide) rfl bw_277 rfl rfl rfl rfl (Nat.lt_of_lt_of_le (by decide) (Nat.le_refl 3)) dX0_save_80 (w2 := cH qh (mFloor (o + 1) 6) z rg ct ++ (cS gq (msCopy γ σ) ct ++ cS qs σ ct)) rfl ?_
    exact z_vretd hC hr dX0_save_83 (Nat.zero_le _) (Nat.zero_le _) (by rw [show mhO o z = (mFloor (o + 1) 6) from by simp [mhO, c52, i_nlt.mpr c52], show mhZ z = z from by simp [mhZ, c52, i_nlt.mpr c52]]) rfl
  · refine z_aload_n hC dX0_save_55 rfl ?_
    refine z_dup hC dX0_save_56 rfl ?_
    refine z_get 0 2 hC bl_X0 (ci := 0) rfl (by decide) rfl bw_278 rfl rfl dX0_save_57 ?_
    refine z_iconst (v := 1) hC dX0_save_60 (by decide) ?_
    refine z_iadd hC dX0_save_61 ?_
    refine z_put (ci := 0) 0 2 hC bl_X0 tyX0_ok nmX0 rfl (by decide) rfl bw_278 rfl rfl rfl rfl (Nat.lt_of_lt_of_le (by decide) (Nat.le_refl 3)) dX0_save_62 (w2 := cH qh o (z + 1) rg ct ++ (cS gq (msCopy γ σ) ct ++ cS qs σ ct)) rfl ?_
    refine z_goto hC 83 dX0_save_65 (by decide) ?_
    exact z_vretd hC hr dX0_save_83 (Nat.zero_le _) (Nat.zero_le _) (by rw [show mhO o z = o from by simp [mhO, c52, i_nle.mp c52], show mhZ z = (z + 1) from by simp [mhZ, c52, i_nle.mp c52]]) rfl

set_option maxRecDepth 100000 in
set_option maxHeartbeats 1000000 in
theorem c_X0_save2 (l : Launch) (D : va_G) (ct : Nat → ClassId) (qh qs : Nat → Nat) (o z : Int32) (rg : Nat → Option Nat) (σ : Nat → Nat → Int32) (j : Nat) (hj : j < 6) (hi : mFloor (o + z) 6 = nI j) (hg : rg j = none) (hb1 : zbit (σ 1) 100) (hb2 : zbit (σ 2) 10) : zT l D ct yX0_save cX0_save 4 none 4 103 16 1633 [.ref (qh 0), .ref (qs 0)] (cH qh o z rg ct ++ (cS qs σ ct)) (fun v wa wb => v = none ∧ ∃ gq : Nat → Nat, wa = cH qh (mhO o z) (mhZ z) (va_up rg j (some (gq 0))) ct ++ cS qs σ ct ∧ wb = cS gq (msCopy msInit σ) ct) := by
  refine zT_of ([some (.ref (qh 0)), some (.ref (qs 0)), none, none]) (by decide +kernel) rfl (Nat.le_of_ble_eq_true rfl) ?_
  intro p e s m args below meth c hC hr hnm
  refine z_aload_n hC dX0_save_0 rfl ?_
  refine z_get 0 1 hC bl_X0 (ci := 0) rfl (by decide) rfl bw_277 rfl rfl dX0_save_1 ?_
  refine z_aload_n hC dX0_save_4 rfl ?_
  refine z_get 0 2 hC bl_X0 (ci := 0) rfl (by decide) rfl bw_278 rfl rfl dX0_save_5 ?_
  refine z_iadd hC dX0_save_8 ?_
  refine z_bipush (v := 6) hC dX0_save_9 (by decide) ?_
  refine z_callS [] hC (c_J9_floorMod_7cf53 l D ct (o + z) 6 (by decide)) bw_279 bw_280 bw_281 bw_282 2 (by decide +kernel) rfl rfl rfl ⟨Nat.le_of_ble_eq_true rfl, Nat.le_of_ble_eq_true rfl⟩ (Nat.le_of_ble_eq_true rfl) ⟨Nat.le_of_ble_eq_true rfl, Nat.le_of_ble_eq_true rfl⟩ rfl dX0_save_11 ?_
  refine zkq (G := fun v1 w1 => zG p l e _ s m args below meth c D _ _ _ _ _ _ _ (v1.toList ++ _) w1) rfl ?_
  refine z_istore_n hC dX0_save_14 (by decide) rfl ?_
  refine z_aload_n hC dX0_save_15 rfl ?_
  refine z_get 0 0 hC bl_X0 (ci := 0) rfl (by decide) rfl bw_54 rfl rfl dX0_save_16 ?_
  refine z_iload_n hC dX0_save_19 rfl ?_
  refine z_aldq 1 hC rfl rfl (by rw [hi]; exact vp_in_nI hj (by decide)) dX0_save_20 (by rw [hi, nI_clamp (by omega), hg]) ?_
  refine z_astore_nN hC dX0_save_21 (by decide) rfl ?_
  refine z_aload_nN hC dX0_save_22 rfl ?_
  refine z_ifnonnullN hC dX0_save_23 ?_
  refine z_new (ci := 2) (fs := [.null, .null, .null, .null, .null, .null, .null, .null, .int 0, .int 0, .int 0, .int 0, .int 0, .int 0, .int 0]) hC bl_X2 tyX2_ok bw_53 bw_11 bw_12 rfl (by intro j hj; match j, hj with | 0, _ => rfl | 1, _ => rfl | 2, _ => rfl | 3, _ => rfl | 4, _ => rfl | 5, _ => rfl | 6, _ => rfl | 7, _ => rfl | 8, _ => rfl | 9, _ => rfl | 10, _ => rfl | 11, _ => rfl | 12, _ => rfl | 13, _ => rfl | 14, _ => rfl) (Nat.le_of_ble_eq_true rfl) (Nat.le_of_ble_eq_true rfl) dX0_save_26 (fun q26 => ?_)
  refine z_dup hC dX0_save_29 rfl ?_
  refine z_callIN [18] hC (c_X2_init l D ct q26) nw_21 bw_23 bw_12 bw_24 rfl 0 (by decide +kernel) rfl rfl rfl ⟨Nat.le_of_ble_eq_true rfl, Nat.le_of_ble_eq_true rfl⟩ (Nat.le_of_ble_eq_true rfl) ⟨Nat.le_of_ble_eq_true rfl, Nat.le_of_ble_eq_true rfl⟩ rfl dX0_save_30 ?_
  refine zkn (G := fun v1 w1 => zG p l e _ s m args below meth c D _ _ _ _ _ _ _ (v1.toList ++ _) w1) rfl (fun r30 hr30 => ?_)
  subst hr30
  refine zG_w (w2 := cH qh o z rg ct ++ (cS qs σ ct ++ cS r30 msInit ct)) rfl ?_
  refine z_astore_n hC dX0_save_33 (by decide) rfl ?_
  refine z_aload_n hC dX0_save_34 rfl ?_
  refine z_get 0 0 hC bl_X0 (ci := 0) rfl (by decide) rfl bw_54 rfl rfl dX0_save_35 ?_
  refine z_iload_n hC dX0_save_38 rfl ?_
  refine z_aload_n hC dX0_save_39 rfl ?_
  refine z_astq 1 18 hC rfl rfl rfl (by rw [hi]; exact vp_in_nI hj (by decide)) dX0_save_40 (w2 := cH qh o z (va_up rg j (some (r30 0))) ct ++ (cS qs σ ct ++ cS r30 msInit ct)) (by rw [hi, nI_clamp (by omega)]; rfl) ?_
  refine z_aload_n hC dX0_save_41 rfl ?_
  refine z_aload_n hC dX0_save_42 rfl ?_
  refine z_callVN [18, 19, 20, 21, 22, 23, 24, 25, 26, 27, 28, 29, 30, 31, 32, 33, 2, 3, 4, 5, 6, 7, 8, 9, 10, 11, 12, 13, 14, 15, 16, 17] 0 2 hC (c_X2_copyFrom l D ct r30 qs msInit σ hb1 hb2) nw_22 bw_283 bw_284 bw_12 bw_285 1 (by decide +kernel) rfl rfl rfl rfl rfl ⟨Nat.le_of_ble_eq_true rfl, Nat.le_of_ble_eq_true rfl⟩ (Nat.le_of_ble_eq_true rfl) ⟨Nat.le_of_ble_eq_true rfl, Nat.le_of_ble_eq_true rfl⟩ rfl dX0_save_43 ?_
  refine zkd (G := fun v1 w1 => zG p l e _ s m args below meth c D _ _ _ _ _ _ _ (v1.toList ++ _) w1) (w2 := cH qh o z (va_up rg j (some (r30 0))) ct ++ (cS qs σ ct ++ cS r30 (msCopy msInit σ) ct)) cSw_2 ?_
  refine z_aload_n hC dX0_save_46 rfl ?_
  refine z_get 0 2 hC bl_X0 (ci := 0) rfl (by decide) rfl bw_278 rfl rfl dX0_save_47 ?_
  refine z_bipush (v := 6) hC dX0_save_50 (by decide) ?_
  refine z_icmp_ge hC 68 dX0_save_52 (by decide) (fun c52 => ?_) (fun c52 => ?_)
  · refine z_aload_n hC dX0_save_68 rfl ?_
    refine z_aload_n hC dX0_save_69 rfl ?_
    refine z_get 0 1 hC bl_X0 (ci := 0) rfl (by decide) rfl bw_277 rfl rfl dX0_save_70 ?_
    refine z_iconst (v := 1) hC dX0_save_73 (by decide) ?_
    refine z_iadd hC dX0_save_74 ?_
    refine z_bipush (v := 6) hC dX0_save_75 (by decide) ?_
    refine z_callS [] hC (c_J9_floorMod_7cf53 l D ct (o + 1) 6 (by decide)) bw_279 bw_280 bw_281 bw_282 2 (by decide +kernel) rfl rfl rfl ⟨Nat.le_of_ble_eq_true rfl, Nat.le_of_ble_eq_true rfl⟩ (Nat.le_of_ble_eq_true rfl) ⟨Nat.le_of_ble_eq_true rfl, Nat.le_of_ble_eq_true rfl⟩ rfl dX0_save_77 ?_
    refine zkq (G := fun v1 w1 => zG p l e _ s m args below meth c D _ _ _ _ _ _ _ (v1.toList ++ _) w1) rfl ?_
    refine z_put (ci := 0) 0 1 hC bl_X0 tyX0_ok nmX0 rfl (by decide) rfl bw_277 rfl rfl rfl rfl (Nat.lt_of_lt_of_le (by decide) (Nat.le_refl 3)) dX0_save_80 (w2 := cH qh (mFloor (o + 1) 6) z (va_up rg j (some (r30 0))) ct ++ (cS qs σ ct ++ cS r30 (msCopy msInit σ) ct)) rfl ?_
    exact z_vret hC hr dX0_save_83 (Nat.le_refl _) (Nat.le_refl _) (wa := cH qh (mhO o z) (mhZ z) (va_up rg j (some (r30 0))) ct ++ cS qs σ ct) (wb := cS r30 (msCopy msInit σ) ct) ⟨rfl, r30, rfl, rfl⟩ (by rw [show mhO o z = (mFloor (o + 1) 6) from by simp [mhO, c52, i_nlt.mpr c52], show mhZ z = z from by simp [mhZ, c52, i_nlt.mpr c52]]; exact (List.append_assoc _ _ _).symm) rfl
  · refine z_aload_n hC dX0_save_55 rfl ?_
    refine z_dup hC dX0_save_56 rfl ?_
    refine z_get 0 2 hC bl_X0 (ci := 0) rfl (by decide) rfl bw_278 rfl rfl dX0_save_57 ?_
    refine z_iconst (v := 1) hC dX0_save_60 (by decide) ?_
    refine z_iadd hC dX0_save_61 ?_
    refine z_put (ci := 0) 0 2 hC bl_X0 tyX0_ok nmX0 rfl (by decide) rfl bw_278 rfl rfl rfl rfl (Nat.lt_of_lt_of_le (by decide) (Nat.le_refl 3)) dX0_save_62 (w2 := cH qh o (z + 1) (va_up rg j (some (r30 0))) ct ++ (cS qs σ ct ++ cS r30 (msCopy msInit σ) ct)) rfl ?_
    refine z_goto hC 83 dX0_save_65 (by decide) ?_
    exact z_vret hC hr dX0_save_83 (Nat.le_refl _) (Nat.le_refl _) (wa := cH qh (mhO o z) (mhZ z) (va_up rg j (some (r30 0))) ct ++ cS qs σ ct) (wb := cS r30 (msCopy msInit σ) ct) ⟨rfl, r30, rfl, rfl⟩ (by rw [show mhO o z = o from by simp [mhO, c52, i_nle.mp c52], show mhZ z = (z + 1) from by simp [mhZ, c52, i_nle.mp c52]]; exact (List.append_assoc _ _ _).symm) rfl

set_option maxRecDepth 100000 in
set_option maxHeartbeats 1000000 in
theorem c_X0_newest0 (l : Launch) (D : va_G) (ct : Nat → ClassId) (qh : Nat → Nat) (o : Int32) (rg : Nat → Option Nat) : zT l D ct yX0_newest cX0_newest 1 (some (.object "MeterNetwork$State")) 1 22 0 0 [.ref (qh 0)] (cH qh o 0 rg ct) (zd (some .null) (cH qh o 0 rg ct)) := by
  refine zT_of ([some (.ref (qh 0))]) (by decide +kernel) rfl (Nat.le_of_ble_eq_true rfl) ?_
  intro p e s m args below meth c hC hr hnm
  refine z_aload_n hC dX0_newest_0 rfl ?_
  refine z_get 0 2 hC bl_X0 (ci := 0) rfl (by decide) rfl bw_278 rfl rfl dX0_newest_1 ?_
  refine z_if_ne hC 11 dX0_newest_4 (by decide) (fun cn1 => absurd cn1 (by decide)) (fun cn1 => ?_)
  refine z_null hC dX0_newest_7 ?_
  refine z_goto hC 32 dX0_newest_8 (by decide) ?_
  exact z_aret hC hr (Or.inl ⟨_, rfl⟩) (Or.inl rfl) dX0_newest_32 (Nat.zero_le _) (Nat.zero_le _) ⟨rfl, rfl, rfl⟩ (List.append_nil _).symm rfl

set_option maxRecDepth 100000 in
set_option maxHeartbeats 1000000 in
theorem c_X0_newest1 (l : Launch) (D : va_G) (ct : Nat → ClassId) (qh : Nat → Nat) (o z : Int32) (rg : Nat → Option Nat) (a j : Nat) (hz : ¬ z = 0) (hj : j < 6) (hi : mFloor (o + z - 1) 6 = nI j) (hg : rg j = some a) : zT l D ct yX0_newest cX0_newest 1 (some (.object "MeterNetwork$State")) 1 22 0 0 [.ref (qh 0)] (cH qh o z rg ct) (zd (some (.ref a)) (cH qh o z rg ct)) := by
  refine zT_of ([some (.ref (qh 0))]) (by decide +kernel) rfl (Nat.le_of_ble_eq_true rfl) ?_
  intro p e s m args below meth c hC hr hnm
  refine z_aload_n hC dX0_newest_0 rfl ?_
  refine z_get 0 2 hC bl_X0 (ci := 0) rfl (by decide) rfl bw_278 rfl rfl dX0_newest_1 ?_
  refine z_if_ne hC 11 dX0_newest_4 (by decide) (fun c4 => ?_) (fun c4 => absurd c4 hz)
  refine z_aload_n hC dX0_newest_11 rfl ?_
  refine z_get 0 0 hC bl_X0 (ci := 0) rfl (by decide) rfl bw_54 rfl rfl dX0_newest_12 ?_
  refine z_aload_n hC dX0_newest_15 rfl ?_
  refine z_get 0 1 hC bl_X0 (ci := 0) rfl (by decide) rfl bw_277 rfl rfl dX0_newest_16 ?_
  refine z_aload_n hC dX0_newest_19 rfl ?_
  refine z_get 0 2 hC bl_X0 (ci := 0) rfl (by decide) rfl bw_278 rfl rfl dX0_newest_20 ?_
  refine z_iadd hC dX0_newest_23 ?_
  refine z_iconst (v := 1) hC dX0_newest_24 (by decide) ?_
  refine z_isub hC dX0_newest_25 ?_
  refine z_bipush (v := 6) hC dX0_newest_26 (by decide) ?_
  refine z_callS [] hC (c_J9_floorMod_7cf53 l D ct ((o + z) - 1) 6 (by decide)) bw_279 bw_280 bw_281 bw_282 2 (by decide +kernel) rfl rfl rfl ⟨Nat.le_of_ble_eq_true rfl, Nat.le_of_ble_eq_true rfl⟩ (Nat.le_of_ble_eq_true rfl) ⟨Nat.le_of_ble_eq_true rfl, Nat.le_of_ble_eq_true rfl⟩ rfl dX0_newest_28 ?_
  refine zkq (G := fun v1 w1 => zG p l e _ s m args below meth c D _ _ _ _ _ _ _ (v1.toList ++ _) w1) rfl ?_
  refine z_aldq 1 hC rfl rfl (by rw [hi]; exact vp_in_nI hj (by decide)) dX0_newest_31 (by rw [hi, nI_clamp (by omega), hg]) ?_
  exact z_aret hC hr (Or.inl ⟨_, rfl⟩) (Or.inr ⟨_, rfl⟩) dX0_newest_32 (Nat.zero_le _) (Nat.zero_le _) ⟨rfl, rfl, rfl⟩ (List.append_nil _).symm rfl

set_option maxRecDepth 100000 in
set_option maxHeartbeats 1000000 in
theorem c_X0_removeNewest (l : Launch) (D : va_G) (ct : Nat → ClassId) (qh : Nat → Nat) (o z : Int32) (rg : Nat → Option Nat) : zT l D ct yX0_removeNewest cX0_removeNewest 1 none 0 0 0 0 [.ref (qh 0)] (cH qh o z rg ct) (zd none (cH qh o (if z ≤ 0 then z else z - 1) rg ct)) := by
  refine zT_of ([some (.ref (qh 0))]) (by decide +kernel) rfl (Nat.le_of_ble_eq_true rfl) ?_
  intro p e s m args below meth c hC hr hnm
  refine z_aload_n hC dX0_removeNewest_0 rfl ?_
  refine z_get 0 2 hC bl_X0 (ci := 0) rfl (by decide) rfl bw_278 rfl rfl dX0_removeNewest_1 ?_
  refine z_if_le hC 17 dX0_removeNewest_4 (by decide) (fun c4 => ?_) (fun c4 => ?_)
  · exact z_vretd hC hr dX0_removeNewest_17 (Nat.zero_le _) (Nat.zero_le _) (by simp [c4]) rfl
  · refine z_aload_n hC dX0_removeNewest_7 rfl ?_
    refine z_dup hC dX0_removeNewest_8 rfl ?_
    refine z_get 0 2 hC bl_X0 (ci := 0) rfl (by decide) rfl bw_278 rfl rfl dX0_removeNewest_9 ?_
    refine z_iconst (v := 1) hC dX0_removeNewest_12 (by decide) ?_
    refine z_isub hC dX0_removeNewest_13 ?_
    refine z_put (ci := 0) 0 2 hC bl_X0 tyX0_ok nmX0 rfl (by decide) rfl bw_278 rfl rfl rfl rfl (Nat.lt_of_lt_of_le (by decide) (Nat.le_refl 3)) dX0_removeNewest_14 (w2 := cH qh o (z - 1) rg ct) rfl ?_
    exact z_vretd hC hr dX0_removeNewest_17 (Nat.zero_le _) (Nat.zero_le _) (by simp [c4]) rfl
