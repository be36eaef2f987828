set_option maxRecDepth 100000 in
set_option maxHeartbeats 1000000 in
theorem c_X2_hear (l : Launch) (D : va_G) (ct : Nat → ClassId) (q : Nat → Nat) (σ : Nat → Nat → Int32) (m0 n : Int32) (hm : mNode m0 = true) (hn : mNode n = true) : zT l D ct yX2_hear cX2_hear 5 none 3 70 0 0 [.ref (q 0), .int m0, .int n] (cS q σ ct) (zd none (cS q (msHear σ m0 n) ct)) := by
  refine zT_of ([some (.ref (q 0)), some (.int m0), some (.int n), none, none]) (by decide +kernel) rfl (Nat.le_of_ble_eq_true rfl) ?_
  intro p e s m args below meth c hC hr hnm
  refine z_aload_n hC dX2_hear_0 rfl ?_
  refine z_get 0 3 hC bl_X2 (ci := 2) rfl (by decide) rfl bw_31 rfl rfl dX2_hear_1 ?_
  refine z_iload_n hC dX2_hear_4 rfl ?_
  refine z_iald 4 0 hC rfl rfl (vnode hn) dX2_hear_5 ?_
  refine z_iconst (v := (-1)) hC dX2_hear_6 (by decide) ?_
  refine z_icmp_eq hC 25 dX2_hear_7 (by decide) (fun c7 => ?_) (fun c7 => ?_)
  · refine z_iconst (v := 0) hC dX2_hear_25 (by decide) ?_
    refine z_istore_n hC dX2_hear_26 (by decide) rfl ?_
    refine z_aload_n hC dX2_hear_27 rfl ?_
    refine z_get 0 2 hC bl_X2 (ci := 2) rfl (by decide) rfl bw_30 rfl rfl dX2_hear_28 ?_
    refine z_iload_n hC dX2_hear_31 rfl ?_
    refine z_iald 3 0 hC rfl rfl (vnode hm) dX2_hear_32 ?_
    refine z_iload_n hC dX2_hear_33 rfl ?_
    refine z_icmp_ne hC 41 dX2_hear_34 (by decide) (fun c34 => ?_) (fun c34 => ?_)
    · refine z_iconst (v := 0) hC dX2_hear_41 (by decide) ?_
      refine z_istore hC dX2_hear_42 (by decide) rfl ?_
      refine z_iload hC dX2_hear_44 rfl ?_
      refine z_if_eq hC 61 dX2_hear_46 (by decide) (fun cn1 => ?_) (fun cn1 => absurd cn1 (by decide))
      refine z_iload hC dX2_hear_61 rfl ?_
      refine z_if_ne hC 79 dX2_hear_63 (by decide) (fun cn2 => absurd cn2 (by decide)) (fun cn2 => ?_)
      refine z_iload_n hC dX2_hear_66 rfl ?_
      refine z_if_eq hC 143 dX2_hear_67 (by decide) (fun cn3 => ?_) (fun cn3 => absurd cn3 (by decide))
      exact z_vretd hC hr dX2_hear_143 (Nat.zero_le _) (Nat.zero_le _) (by first | rfl | (simp [msHear, msLeads, msFollow, u2_ne, wd_lo, rd_u2, c7, c34, *]; done)) cS_adr
    · refine z_iconst (v := 1) hC dX2_hear_37 (by decide) ?_
      refine z_goto hC 42 dX2_hear_38 (by decide) ?_
      refine z_istore hC dX2_hear_42 (by decide) rfl ?_
      refine z_iload hC dX2_hear_44 rfl ?_
      refine z_if_eq hC 61 dX2_hear_46 (by decide) (fun cn4 => absurd cn4 (by decide)) (fun cn4 => ?_)
      refine z_iload_n hC dX2_hear_49 rfl ?_
      refine z_if_ne hC 61 dX2_hear_50 (by decide) (fun cn5 => absurd cn5 (by decide)) (fun cn5 => ?_)
      refine z_aload_n hC dX2_hear_53 rfl ?_
      refine z_iload_n hC dX2_hear_54 rfl ?_
      refine z_callV [0, 1, 2, 3, 4, 5, 6, 7, 8, 9, 10, 11, 12, 13, 14, 15] 0 2 hC (c_X2_dropParent l D ct q σ m0 hm) bw_393 bw_394 bw_395 bw_12 bw_396 1 (by decide +kernel) rfl rfl rfl rfl rfl ⟨Nat.le_of_ble_eq_true rfl, Nat.le_of_ble_eq_true rfl⟩ (Nat.le_of_ble_eq_true rfl) ⟨Nat.le_of_ble_eq_true rfl, Nat.le_of_ble_eq_true rfl⟩ rfl dX2_hear_55 ?_
      refine zkd (G := fun v1 w1 => zG p l e _ s m args below meth c D _ _ _ _ _ _ _ (v1.toList ++ _) w1) (w2 := cS q (msDrop σ m0) ct) cS_all ?_
      obtain ⟨σ6, eσ6⟩ : ∃ zz_, zz_ = (msDrop σ m0) := ⟨_, rfl⟩
      rw [← eσ6]
      refine z_goto hC 143 dX2_hear_58 (by decide) ?_
      exact z_vretd hC hr dX2_hear_143 (Nat.zero_le _) (Nat.zero_le _) (by subst eσ6; refine congrArg (fun z => cS q z ct) ?_; first | (simp only [msHear, msLeads, msFollow, u2_ne, wd_lo, rd_u2, c7, c34, and_self, if_true, if_false]; done) | (simp [msHear, msLeads, msFollow, u2_ne, wd_lo, rd_u2, c7, c34]; done) | (simp [msHear, msLeads, msFollow, u2_ne, wd_lo, rd_u2, c7, c34, *]; done)) cS_adr
  · refine z_aload_n hC dX2_hear_10 rfl ?_
    refine z_get 0 3 hC bl_X2 (ci := 2) rfl (by decide) rfl bw_31 rfl rfl dX2_hear_11 ?_
    refine z_iload_n hC dX2_hear_14 rfl ?_
    refine z_iald 4 0 hC rfl rfl (vnode hn) dX2_hear_15 ?_
    refine z_bipush (v := 9) hC dX2_hear_16 (by decide) ?_
    refine z_icmp_ge hC 25 dX2_hear_18 (by decide) (fun c18 => ?_) (fun c18 => ?_)
    · refine z_iconst (v := 0) hC dX2_hear_25 (by decide) ?_
      refine z_istore_n hC dX2_hear_26 (by decide) rfl ?_
      refine z_aload_n hC dX2_hear_27 rfl ?_
      refine z_get 0 2 hC bl_X2 (ci := 2) rfl (by decide) rfl bw_30 rfl rfl dX2_hear_28 ?_
      refine z_iload_n hC dX2_hear_31 rfl ?_
      refine z_iald 3 0 hC rfl rfl (vnode hm) dX2_hear_32 ?_
      refine z_iload_n hC dX2_hear_33 rfl ?_
      refine z_icmp_ne hC 41 dX2_hear_34 (by decide) (fun c34 => ?_) (fun c34 => ?_)
      · refine z_iconst (v := 0) hC dX2_hear_41 (by decide) ?_
        refine z_istore hC dX2_hear_42 (by decide) rfl ?_
        refine z_iload hC dX2_hear_44 rfl ?_
        refine z_if_eq hC 61 dX2_hear_46 (by decide) (fun cn7 => ?_) (fun cn7 => absurd cn7 (by decide))
        refine z_iload hC dX2_hear_61 rfl ?_
        refine z_if_ne hC 79 dX2_hear_63 (by decide) (fun cn8 => absurd cn8 (by decide)) (fun cn8 => ?_)
        refine z_iload_n hC dX2_hear_66 rfl ?_
        refine z_if_eq hC 143 dX2_hear_67 (by decide) (fun cn9 => ?_) (fun cn9 => absurd cn9 (by decide))
        exact z_vretd hC hr dX2_hear_143 (Nat.zero_le _) (Nat.zero_le _) (by first | rfl | (simp [msHear, msLeads, msFollow, u2_ne, wd_lo, rd_u2, c7, c18, c34, i_nlt.mpr c18, *]; done)) cS_adr
      · refine z_iconst (v := 1) hC dX2_hear_37 (by decide) ?_
        refine z_goto hC 42 dX2_hear_38 (by decide) ?_
        refine z_istore hC dX2_hear_42 (by decide) rfl ?_
        refine z_iload hC dX2_hear_44 rfl ?_
        refine z_if_eq hC 61 dX2_hear_46 (by decide) (fun cn10 => absurd cn10 (by decide)) (fun cn10 => ?_)
        refine z_iload_n hC dX2_hear_49 rfl ?_
        refine z_if_ne hC 61 dX2_hear_50 (by decide) (fun cn11 => absurd cn11 (by decide)) (fun cn11 => ?_)
        refine z_aload_n hC dX2_hear_53 rfl ?_
        refine z_iload_n hC dX2_hear_54 rfl ?_
        refine z_callV [0, 1, 2, 3, 4, 5, 6, 7, 8, 9, 10, 11, 12, 13, 14, 15] 0 2 hC (c_X2_dropParent l D ct q σ m0 hm) bw_393 bw_394 bw_395 bw_12 bw_396 1 (by decide +kernel) rfl rfl rfl rfl rfl ⟨Nat.le_of_ble_eq_true rfl, Nat.le_of_ble_eq_true rfl⟩ (Nat.le_of_ble_eq_true rfl) ⟨Nat.le_of_ble_eq_true rfl, Nat.le_of_ble_eq_true rfl⟩ rfl dX2_hear_55 ?_
        refine zkd (G := fun v1 w1 => zG p l e _ s m args below meth c D _ _ _ _ _ _ _ (v1.toList ++ _) w1) (w2 := cS q (msDrop σ m0) ct) cS_all ?_
        obtain ⟨σ12, eσ12⟩ : ∃ zz_, zz_ = (msDrop σ m0) := ⟨_, rfl⟩
        rw [← eσ12]
        refine z_goto hC 143 dX2_hear_58 (by decide) ?_
        exact z_vretd hC hr dX2_hear_143 (Nat.zero_le _) (Nat.zero_le _) (by subst eσ12; refine congrArg (fun z => cS q z ct) ?_; first | (simp only [msHear, msLeads, msFollow, u2_ne, wd_lo, rd_u2, c7, c18, c34, i_nlt.mpr c18, and_self, if_true, if_false]; done) | (simp [msHear, msLeads, msFollow, u2_ne, wd_lo, rd_u2, c7, c18, c34, i_nlt.mpr c18]; done) | (simp [msHear, msLeads, msFollow, u2_ne, wd_lo, rd_u2, c7, c18, c34, i_nlt.mpr c18, *]; done)) cS_adr
    · refine z_iconst (v := 1) hC dX2_hear_21 (by decide) ?_
      refine z_goto hC 26 dX2_hear_22 (by decide) ?_
      refine z_istore_n hC dX2_hear_26 (by decide) rfl ?_
      refine z_aload_n hC dX2_hear_27 rfl ?_
      refine z_get 0 2 hC bl_X2 (ci := 2) rfl (by decide) rfl bw_30 rfl rfl dX2_hear_28 ?_
      refine z_iload_n hC dX2_hear_31 rfl ?_
      refine z_iald 3 0 hC rfl rfl (vnode hm) dX2_hear_32 ?_
      refine z_iload_n hC dX2_hear_33 rfl ?_
      refine z_icmp_ne hC 41 dX2_hear_34 (by decide) (fun c34 => ?_) (fun c34 => ?_)
      · refine z_iconst (v := 0) hC dX2_hear_41 (by decide) ?_
        refine z_istore hC dX2_hear_42 (by decide) rfl ?_
        refine z_iload hC dX2_hear_44 rfl ?_
        refine z_if_eq hC 61 dX2_hear_46 (by decide) (fun cn13 => ?_) (fun cn13 => absurd cn13 (by decide))
        refine z_iload hC dX2_hear_61 rfl ?_
        refine z_if_ne hC 79 dX2_hear_63 (by decide) (fun cn14 => absurd cn14 (by decide)) (fun cn14 => ?_)
        refine z_iload_n hC dX2_hear_66 rfl ?_
        refine z_if_eq hC 143 dX2_hear_67 (by decide) (fun cn15 => absurd cn15 (by decide)) (fun cn15 => ?_)
        refine z_aload_n hC dX2_hear_70 rfl ?_
        refine z_iload_n hC dX2_hear_71 rfl ?_
        refine z_iload_n hC dX2_hear_72 rfl ?_
        refine z_callV [0, 1, 2, 3, 4, 5, 6, 7, 8, 9, 10, 11, 12, 13, 14, 15] 0 2 hC (c_X2_isBetterParent l D ct q σ m0 n hm hn) bw_405 bw_406 bw_407 bw_12 bw_408 2 (by decide +kernel) rfl rfl rfl rfl rfl ⟨Nat.le_of_ble_eq_true rfl, Nat.le_of_ble_eq_true rfl⟩ (Nat.le_of_ble_eq_true rfl) ⟨Nat.le_of_ble_eq_true rfl, Nat.le_of_ble_eq_true rfl⟩ rfl dX2_hear_73 ?_
        refine zkq (G := fun v1 w1 => zG p l e _ s m args below meth c D _ _ _ _ _ _ _ (v1.toList ++ _) w1) rfl ?_
        refine z_if_eq hC 143 dX2_hear_76 (by decide) (fun c76 => ?_) (fun c76 => ?_)
        · rw [bI_0] at c76
          exact z_vretd hC hr dX2_hear_143 (Nat.zero_le _) (Nat.zero_le _) (by first | rfl | (simp [msHear, msLeads, msFollow, u2_ne, wd_lo, rd_u2, c7, c18, c34, c76, i_nle.mp c18, *]; done)) cS_adr
        · rw [bI_1] at c76
          refine z_aload_n hC dX2_hear_79 rfl ?_
          refine z_get 0 2 hC bl_X2 (ci := 2) rfl (by decide) rfl bw_30 rfl rfl dX2_hear_80 ?_
          refine z_iload_n hC dX2_hear_83 rfl ?_
          refine z_iload_n hC dX2_hear_84 rfl ?_
          refine z_iast 3 0 hC rfl rfl (vnode hm) dX2_hear_85 (w2 := cS q (u2 σ 3 ((m0).toNatClampNeg) n) ct) cS_a3 ?_
          obtain ⟨σ16, eσ16⟩ : ∃ zz_, zz_ = u2 σ 3 ((m0).toNatClampNeg) n := ⟨_, rfl⟩
          rw [← eσ16]
          refine z_aload_n hC dX2_hear_86 rfl ?_
          refine z_get 0 3 hC bl_X2 (ci := 2) rfl (by decide) rfl bw_31 rfl rfl dX2_hear_87 ?_
          refine z_iload_n hC dX2_hear_90 rfl ?_
          refine z_aload_n hC dX2_hear_91 rfl ?_
          refine z_get 0 3 hC bl_X2 (ci := 2) rfl (by decide) rfl bw_31 rfl rfl dX2_hear_92 ?_
          refine z_iload_n hC dX2_hear_95 rfl ?_
          refine z_iald 4 0 hC rfl rfl (vnode hn) dX2_hear_96 ?_
          refine z_iconst (v := 1) hC dX2_hear_97 (by decide) ?_
          refine z_iadd hC dX2_hear_98 ?_
          refine z_iast 4 0 hC rfl rfl (vnode hm) dX2_hear_99 (w2 := cS q (u2 σ16 4 ((m0).toNatClampNeg) ((σ16 4 (n).toNatClampNeg) + 1)) ct) cS_a4 ?_
          obtain ⟨σ17, eσ17⟩ : ∃ zz_, zz_ = u2 σ16 4 ((m0).toNatClampNeg) ((σ16 4 (n).toNatClampNeg) + 1) := ⟨_, rfl⟩
          rw [← eσ17]
          refine z_aload_n hC dX2_hear_100 rfl ?_
          refine z_get 0 4 hC bl_X2 (ci := 2) rfl (by decide) rfl bw_32 rfl rfl dX2_hear_101 ?_
          refine z_iload_n hC dX2_hear_104 rfl ?_
          refine z_aload_n hC dX2_hear_105 rfl ?_
          refine z_get 0 8 hC bl_X2 (ci := 2) rfl (by decide) rfl bw_286 rfl rfl dX2_hear_106 ?_
          refine z_iast 5 0 hC rfl rfl (vnode hm) dX2_hear_109 (w2 := cS q (u2 σ17 5 ((m0).toNatClampNeg) (σ17 0 0)) ct) cS_a5 ?_
          obtain ⟨σ18, eσ18⟩ : ∃ zz_, zz_ = u2 σ17 5 ((m0).toNatClampNeg) (σ17 0 0) := ⟨_, rfl⟩
          rw [← eσ18]
          refine z_aload_n hC dX2_hear_110 rfl ?_
          refine z_get 0 7 hC bl_X2 (ci := 2) rfl (by decide) rfl bw_38 rfl rfl dX2_hear_111 ?_
          refine z_iload_n hC dX2_hear_114 rfl ?_
          refine z_aload_n hC dX2_hear_115 rfl ?_
          refine z_get 0 5 hC bl_X2 (ci := 2) rfl (by decide) rfl bw_33 rfl rfl dX2_hear_116 ?_
          refine z_iload_n hC dX2_hear_119 rfl ?_
          refine z_iald 6 0 hC rfl rfl (vnode hn) dX2_hear_120 ?_
          refine z_aload_n hC dX2_hear_121 rfl ?_
          refine z_get 0 5 hC bl_X2 (ci := 2) rfl (by decide) rfl bw_33 rfl rfl dX2_hear_122 ?_
          refine z_iload_n hC dX2_hear_125 rfl ?_
          refine z_iald 6 0 hC rfl rfl (vnode hm) dX2_hear_126 ?_
          refine z_isub hC dX2_hear_127 ?_
          refine z_callVN [8, 9, 10, 11, 12, 13, 14, 15] 0 1 hC (c_X1_shiftStamps l D ct (fun i => q (8 + i)) (rd σ18) m0 ((σ18 6 (n).toNatClampNeg) - (σ18 6 (m0).toNatClampNeg))) nw_42 bw_409 bw_410 bw_37 bw_411 2 (by decide +kernel) rfl rfl rfl rfl rfl ⟨Nat.le_of_ble_eq_true rfl, Nat.le_of_ble_eq_true rfl⟩ (Nat.le_of_ble_eq_true rfl) ⟨Nat.le_of_ble_eq_true rfl, Nat.le_of_ble_eq_true rfl⟩ rfl dX2_hear_128 ?_
          refine zkd (G := fun v1 w1 => zG p l e _ s m args below meth c D _ _ _ _ _ _ _ (v1.toList ++ _) w1) (w2 := cS q (wd σ18 (mrShift (rd σ18) m0 ((σ18 6 (n).toNatClampNeg) - (σ18 6 (m0).toNatClampNeg)))) ct) cS_wd ?_
          obtain ⟨σ19, eσ19⟩ : ∃ zz_, zz_ = (wd σ18 (mrShift (rd σ18) m0 ((σ18 6 (n).toNatClampNeg) - (σ18 6 (m0).toNatClampNeg)))) := ⟨_, rfl⟩
          rw [← eσ19]
          refine z_aload_n hC dX2_hear_131 rfl ?_
          refine z_get 0 5 hC bl_X2 (ci := 2) rfl (by decide) rfl bw_33 rfl rfl dX2_hear_132 ?_
          refine z_iload_n hC dX2_hear_135 rfl ?_
          refine z_aload_n hC dX2_hear_136 rfl ?_
          refine z_get 0 5 hC bl_X2 (ci := 2) rfl (by decide) rfl bw_33 rfl rfl dX2_hear_137 ?_
          refine z_iload_n hC dX2_hear_140 rfl ?_
          refine z_iald 6 0 hC rfl rfl (vnode hn) dX2_hear_141 ?_
          refine z_iast 6 0 hC rfl rfl (vnode hm) dX2_hear_142 (w2 := cS q (u2 σ19 6 ((m0).toNatClampNeg) (σ19 6 (n).toNatClampNeg)) ct) cS_a6 ?_
          obtain ⟨σ20, eσ20⟩ : ∃ zz_, zz_ = u2 σ19 6 ((m0).toNatClampNeg) (σ19 6 (n).toNatClampNeg) := ⟨_, rfl⟩
          rw [← eσ20]
          exact z_vretd hC hr dX2_hear_143 (Nat.zero_le _) (Nat.zero_le _) (by subst eσ20; subst eσ19; subst eσ18; subst eσ17; subst eσ16; refine congrArg (fun z => cS q z ct) ?_; first | (simp only [msHear, msLeads, msFollow, u2_ne, wd_lo, rd_u2, c7, c18, c34, c76, i_nle.mp c18, and_self, if_true, if_false]; done) | (simp [msHear, msLeads, msFollow, u2_ne, wd_lo, rd_u2, c7, c18, c34, c76, i_nle.mp c18]; done) | (simp [msHear, msLeads, msFollow, u2_ne, wd_lo, rd_u2, c7, c18, c34, c76, i_nle.mp c18, *]; done)) cS_adr
      · refine z_iconst (v := 1) hC dX2_hear_37 (by decide) ?_
        refine z_goto hC 42 dX2_hear_38 (by decide) ?_
        refine z_istore hC dX2_hear_42 (by decide) rfl ?_
        refine z_iload hC dX2_hear_44 rfl ?_
        refine z_if_eq hC 61 dX2_hear_46 (by decide) (fun cn21 => absurd cn21 (by decide)) (fun cn21 => ?_)
        refine z_iload_n hC dX2_hear_49 rfl ?_
        refine z_if_ne hC 61 dX2_hear_50 (by decide) (fun cn22 => ?_) (fun cn22 => absurd cn22 (by decide))
        refine z_iload hC dX2_hear_61 rfl ?_
        refine z_if_ne hC 79 dX2_hear_63 (by decide) (fun cn23 => ?_) (fun cn23 => absurd cn23 (by decide))
        refine z_aload_n hC dX2_hear_79 rfl ?_
        refine z_get 0 2 hC bl_X2 (ci := 2) rfl (by decide) rfl bw_30 rfl rfl dX2_hear_80 ?_
        refine z_iload_n hC dX2_hear_83 rfl ?_
        refine z_iload_n hC dX2_hear_84 rfl ?_
        refine z_iast 3 0 hC rfl rfl (vnode hm) dX2_hear_85 (w2 := cS q (u2 σ 3 ((m0).toNatClampNeg) n) ct) cS_a3 ?_
        obtain ⟨σ24, eσ24⟩ : ∃ zz_, zz_ = u2 σ 3 ((m0).toNatClampNeg) n := ⟨_, rfl⟩
        rw [← eσ24]
        refine z_aload_n hC dX2_hear_86 rfl ?_
        refine z_get 0 3 hC bl_X2 (ci := 2) rfl (by decide) rfl bw_31 rfl rfl dX2_hear_87 ?_
        refine z_iload_n hC dX2_hear_90 rfl ?_
        refine z_aload_n hC dX2_hear_91 rfl ?_
        refine z_get 0 3 hC bl_X2 (ci := 2) rfl (by decide) rfl bw_31 rfl rfl dX2_hear_92 ?_
        refine z_iload_n hC dX2_hear_95 rfl ?_
        refine z_iald 4 0 hC rfl rfl (vnode hn) dX2_hear_96 ?_
        refine z_iconst (v := 1) hC dX2_hear_97 (by decide) ?_
        refine z_iadd hC dX2_hear_98 ?_
        refine z_iast 4 0 hC rfl rfl (vnode hm) dX2_hear_99 (w2 := cS q (u2 σ24 4 ((m0).toNatClampNeg) ((σ24 4 (n).toNatClampNeg) + 1)) ct) cS_a4 ?_
        obtain ⟨σ25, eσ25⟩ : ∃ zz_, zz_ = u2 σ24 4 ((m0).toNatClampNeg) ((σ24 4 (n).toNatClampNeg) + 1) := ⟨_, rfl⟩
        rw [← eσ25]
        refine z_aload_n hC dX2_hear_100 rfl ?_
        refine z_get 0 4 hC bl_X2 (ci := 2) rfl (by decide) rfl bw_32 rfl rfl dX2_hear_101 ?_
        refine z_iload_n hC dX2_hear_104 rfl ?_
        refine z_aload_n hC dX2_hear_105 rfl ?_
        refine z_get 0 8 hC bl_X2 (ci := 2) rfl (by decide) rfl bw_286 rfl rfl dX2_hear_106 ?_
        refine z_iast 5 0 hC rfl rfl (vnode hm) dX2_hear_109 (w2 := cS q (u2 σ25 5 ((m0).toNatClampNeg) (σ25 0 0)) ct) cS_a5 ?_
        obtain ⟨σ26, eσ26⟩ : ∃ zz_, zz_ = u2 σ25 5 ((m0).toNatClampNeg) (σ25 0 0) := ⟨_, rfl⟩
        rw [← eσ26]
        refine z_aload_n hC dX2_hear_110 rfl ?_
        refine z_get 0 7 hC bl_X2 (ci := 2) rfl (by decide) rfl bw_38 rfl rfl dX2_hear_111 ?_
        refine z_iload_n hC dX2_hear_114 rfl ?_
        refine z_aload_n hC dX2_hear_115 rfl ?_
        refine z_get 0 5 hC bl_X2 (ci := 2) rfl (by decide) rfl bw_33 rfl rfl dX2_hear_116 ?_
        refine z_iload_n hC dX2_hear_119 rfl ?_
        refine z_iald 6 0 hC rfl rfl (vnode hn) dX2_hear_120 ?_
        refine z_aload_n hC dX2_hear_121 rfl ?_
        refine z_get 0 5 hC bl_X2 (ci := 2) rfl (by decide) rfl bw_33 rfl rfl dX2_hear_122 ?_
        refine z_iload_n hC dX2_hear_125 rfl ?_
        refine z_iald 6 0 hC rfl rfl (vnode hm) dX2_hear_126 ?_
        refine z_isub hC dX2_hear_127 ?_
        refine z_callVN [8, 9, 10, 11, 12, 13, 14, 15] 0 1 hC (c_X1_shiftStamps l D ct (fun i => q (8 + i)) (rd σ26) m0 ((σ26 6 (n).toNatClampNeg) - (σ26 6 (m0).toNatClampNeg))) nw_42 bw_409 bw_410 bw_37 bw_411 2 (by decide +kernel) rfl rfl rfl rfl rfl ⟨Nat.le_of_ble_eq_true rfl, Nat.le_of_ble_eq_true rfl⟩ (Nat.le_of_ble_eq_true rfl) ⟨Nat.le_of_ble_eq_true rfl, Nat.le_of_ble_eq_true rfl⟩ rfl dX2_hear_128 ?_
        refine zkd (G := fun v1 w1 => zG p l e _ s m args below meth c D _ _ _ _ _ _ _ (v1.toList ++ _) w1) (w2 := cS q (wd σ26 (mrShift (rd σ26) m0 ((σ26 6 (n).toNatClampNeg) - (σ26 6 (m0).toNatClampNeg)))) ct) cS_wd ?_
        obtain ⟨σ27, eσ27⟩ : ∃ zz_, zz_ = (wd σ26 (mrShift (rd σ26) m0 ((σ26 6 (n).toNatClampNeg) - (σ26 6 (m0).toNatClampNeg)))) := ⟨_, rfl⟩
        rw [← eσ27]
        refine z_aload_n hC dX2_hear_131 rfl ?_
        refine z_get 0 5 hC bl_X2 (ci := 2) rfl (by decide) rfl bw_33 rfl rfl dX2_hear_132 ?_
        refine z_iload_n hC dX2_hear_135 rfl ?_
        refine z_aload_n hC dX2_hear_136 rfl ?_
        refine z_get 0 5 hC bl_X2 (ci := 2) rfl (by decide) rfl bw_33 rfl rfl dX2_hear_137 ?_
        refine z_iload_n hC dX2_hear_140 rfl ?_
        refine z_iald 6 0 hC rfl rfl (vnode hn) dX2_hear_141 ?_
        refine z_iast 6 0 hC rfl rfl (vnode hm) dX2_hear_142 (w2 := cS q (u2 σ27 6 ((m0).toNatClampNeg) (σ27 6 (n).toNatClampNeg)) ct) cS_a6 ?_
        obtain ⟨σ28, eσ28⟩ : ∃ zz_, zz_ = u2 σ27 6 ((m0).toNatClampNeg) (σ27 6 (n).toNatClampNeg) := ⟨_, rfl⟩
        rw [← eσ28]
        exact z_vretd hC hr dX2_hear_143 (Nat.zero_le _) (Nat.zero_le _) (by subst eσ28; subst eσ27; subst eσ26; subst eσ25; subst eσ24; refine congrArg (fun z => cS q z ct) ?_; first | (simp only [msHear, msLeads, msFollow, u2_ne, wd_lo, rd_u2, c7, c18, c34, i_nle.mp c18, and_self, if_true, if_false]; done) | (simp [msHear, msLeads, msFollow, u2_ne, wd_lo, rd_u2, c7, c18, c34, i_nle.mp c18]; done) | (simp [msHear, msLeads, msFollow, u2_ne, wd_lo, rd_u2, c7, c18, c34, i_nle.mp c18, *]; done)) cS_adr

set_option maxRecDepth 100000 in
set_option maxHeartbeats 1000000 in
theorem c_X2_beHeard (l : Launch) (D : va_G) (ct : Nat → ClassId) (q : Nat → Nat) (σ : Nat → Nat → Int32) (n : Int32) (hn : mNode n = true) : zT l D ct yX2_beHeard cX2_beHeard 3 none 4 94 0 0 [.ref (q 0), .int n] (cS q σ ct) (zd none (cS q (msBeHeard σ n) ct)) := by
  refine zT_of ([some (.ref (q 0)), some (.int n), none]) (by decide +kernel) rfl (Nat.le_of_ble_eq_true rfl) ?_
  intro p e s m args below meth c hC hr hnm
  refine z_iconst (v := 0) hC dX2_beHeard_0 (by decide) ?_
  refine z_istore_n hC dX2_beHeard_1 (by decide) rfl ?_
  have loop2 : ∀ (kf i : Nat) (σx : Nat → Nat → Int32) (hki : kf + i = 10) (hF : kfor (msHear1 n) kf i σx = msBeHeard σ n), zG p l e { frames := 4, cells := 0, slots := 0, locals := 94 } s m args below meth c D (va_A (cS q σ ct) s.heap.size) 3 (MQ below (zQ D ct (cS q σ ct) s.heap.size (zd none (cS q (msBeHeard σ n) ct))) args s 0 0 (va_A (cS q σ ct) s.heap.size)) 0 0 2 [some (.ref (q 0)), some (.int n), some (.int (nI i))] [] (cS q σx ct) := by
    intro kf
    induction kf with
    | zero =>
      intro i σx hki hF
      refine z_iload_n hC dX2_beHeard_2 rfl ?_
      refine z_bipush (v := 10) hC dX2_beHeard_3 (by decide) ?_
      refine z_icmp_ge hC 33 dX2_beHeard_5 (by decide) (fun c5 => ?_) (fun c5 => absurd (kge 10 rfl (by omega) (by omega)) c5)
      exact z_vretd hC hr dX2_beHeard_33 (Nat.zero_le _) (Nat.zero_le _) (congrArg (fun z => cS q z ct) hF) cS_adr
    | succ kf ih =>
      intro i σx hki hF
      refine z_iload_n hC dX2_beHeard_2 rfl ?_
      refine z_bipush (v := 10) hC dX2_beHeard_3 (by decide) ?_
      refine z_icmp_ge hC 33 dX2_beHeard_5 (by decide) (fun c5 => absurd c5 (klt 10 rfl (by omega) (by decide))) (fun c5 => ?_)
      refine z_iload_n hC dX2_beHeard_8 rfl ?_
      refine z_if_eq hC 27 dX2_beHeard_9 (by decide) (fun c9 => ?_) (fun c9 => ?_)
      · refine z_iinc (cn := 1) hC dX2_beHeard_27 (by decide) (by decide) rfl rfl ?_
        refine z_goto hC 2 dX2_beHeard_30 (by decide) ?_
        rw [nI_1]
        exact ih (i + 1) σx (by omega) (by rw [← hF]; simp [kfor, msHear1, c5, c9, i_nle.mp c5])
      · refine z_aload_n hC dX2_beHeard_12 rfl ?_
        refine z_iload_n hC dX2_beHeard_13 rfl ?_
        refine z_iload_n hC dX2_beHeard_14 rfl ?_
        refine z_callV [0, 1, 2, 3, 4, 5, 6, 7, 8, 9, 10, 11, 12, 13, 14, 15] 0 2 hC (c_X2_areConnected l D ct q σx (nI i) n) bw_135 bw_114 bw_115 bw_12 bw_116 2 (by decide +kernel) rfl rfl rfl rfl rfl ⟨Nat.le_of_ble_eq_true rfl, Nat.le_of_ble_eq_true rfl⟩ (Nat.le_of_ble_eq_true rfl) ⟨Nat.le_of_ble_eq_true rfl, Nat.le_of_ble_eq_true rfl⟩ rfl dX2_beHeard_15 ?_
        refine zkq (G := fun v1 w1 => zG p l e _ s m args below meth c D _ _ _ _ _ _ _ (v1.toList ++ _) w1) rfl ?_
        refine z_if_eq hC 27 dX2_beHeard_18 (by decide) (fun c18 => ?_) (fun c18 => ?_)
        · rw [bI_0] at c18
          refine z_iinc (cn := 1) hC dX2_beHeard_27 (by decide) (by decide) rfl rfl ?_
          refine z_goto hC 2 dX2_beHeard_30 (by decide) ?_
          rw [nI_1]
          exact ih (i + 1) σx (by omega) (by rw [← hF]; simp [kfor, msHear1, c5, c9, c18, i_nle.mp c5])
        · rw [bI_1] at c18
          refine z_aload_n hC dX2_beHeard_21 rfl ?_
          refine z_iload_n hC dX2_beHeard_22 rfl ?_
          refine z_iload_n hC dX2_beHeard_23 rfl ?_
          refine z_callV [0, 1, 2, 3, 4, 5, 6, 7, 8, 9, 10, 11, 12, 13, 14, 15] 0 2 hC (c_X2_hear l D ct q σx (nI i) n (nodeI (by omega)) hn) bw_401 bw_402 bw_403 bw_12 bw_404 2 (by decide +kernel) rfl rfl rfl rfl rfl ⟨Nat.le_of_ble_eq_true rfl, Nat.le_of_ble_eq_true rfl⟩ (Nat.le_of_ble_eq_true rfl) ⟨Nat.le_of_ble_eq_true rfl, Nat.le_of_ble_eq_true rfl⟩ rfl dX2_beHeard_24 ?_
          refine zkd (G := fun v1 w1 => zG p l e _ s m args below meth c D _ _ _ _ _ _ _ (v1.toList ++ _) w1) (w2 := cS q (msHear σx (nI i) n) ct) cS_all ?_
          obtain ⟨σ1, eσ1⟩ : ∃ zz_, zz_ = (msHear σx (nI i) n) := ⟨_, rfl⟩
          rw [← eσ1]
          refine z_iinc (cn := 1) hC dX2_beHeard_27 (by decide) (by decide) rfl rfl ?_
          refine z_goto hC 2 dX2_beHeard_30 (by decide) ?_
          rw [nI_1]
          exact ih (i + 1) σ1 (by omega) (by rw [← hF]; simp [kfor, msHear1, eσ1, c5, c9, c18, i_nle.mp c5])
  exact loop2 _ 0 σ (Nat.add_zero _) rfl

set_option maxRecDepth 100000 in
set_option maxHeartbeats 1000000 in
theorem c_X2_isAccepted (l : Launch) (D : va_G) (ct : Nat → ClassId) (q : Nat → Nat) (σ : Nat → Nat → Int32) (n p0 : Int32) (hn : mNode n = true) (hok : okS σ) : zT l D ct yX2_isAccepted cX2_isAccepted 4 (some .boolean) 3 83 0 0 [.ref (q 0), .int n, .int p0] (cS q σ ct) (zd (some (.int (bI (msAccR σ n p0)))) (cS q (msAcc σ n p0) ct)) := by
  refine zT_of ([some (.ref (q 0)), some (.int n), some (.int p0), none]) (by decide +kernel) rfl (Nat.le_of_ble_eq_true rfl) ?_
  intro p e s m args below meth c hC hr hnm
  refine z_aload_n hC dX2_isAccepted_0 rfl ?_
  refine z_get 0 7 hC bl_X2 (ci := 2) rfl (by decide) rfl bw_38 rfl rfl dX2_isAccepted_1 ?_
  refine z_iload_n hC dX2_isAccepted_4 rfl ?_
  refine z_iconst (v := 0) hC dX2_isAccepted_5 (by decide) ?_
  refine z_callVN [8, 9, 10, 11, 12, 13, 14, 15] 0 1 hC (c_X1_idAt l D ct (fun i => q (8 + i)) (rd σ) n 0) nw_43 bw_179 bw_180 bw_37 bw_181 2 (by decide +kernel) rfl rfl rfl rfl rfl ⟨Nat.le_of_ble_eq_true rfl, Nat.le_of_ble_eq_true rfl⟩ (Nat.le_of_ble_eq_true rfl) ⟨Nat.le_of_ble_eq_true rfl, Nat.le_of_ble_eq_true rfl⟩ rfl dX2_isAccepted_6 ?_
  refine zkq (G := fun v1 w1 => zG p l e _ s m args below meth c D _ _ _ _ _ _ _ (v1.toList ++ _) w1) rfl ?_
  refine z_istore_n hC dX2_isAccepted_9 (by decide) rfl ?_
  refine z_aload_n hC dX2_isAccepted_10 rfl ?_
  refine z_get 0 7 hC bl_X2 (ci := 2) rfl (by decide) rfl bw_38 rfl rfl dX2_isAccepted_11 ?_
  refine z_iload_n hC dX2_isAccepted_14 rfl ?_
  refine z_iload_n hC dX2_isAccepted_15 rfl ?_
  refine z_callVN [8, 9, 10, 11, 12, 13, 14, 15] 0 1 hC (c_X1_holds l D ct (fun i => q (8 + i)) (rd σ) p0 (mrId (rd σ) n 0)) nw_44 bw_202 bw_203 bw_37 bw_204 2 (by decide +kernel) rfl rfl rfl rfl rfl ⟨Nat.le_of_ble_eq_true rfl, Nat.le_of_ble_eq_true rfl⟩ (Nat.le_of_ble_eq_true rfl) ⟨Nat.le_of_ble_eq_true rfl, Nat.le_of_ble_eq_true rfl⟩ rfl dX2_isAccepted_16 ?_
  refine zkq (G := fun v1 w1 => zG p l e _ s m args below meth c D _ _ _ _ _ _ _ (v1.toList ++ _) w1) rfl ?_
  refine z_if_eq hC 34 dX2_isAccepted_19 (by decide) (fun c19 => ?_) (fun c19 => ?_)
  · rw [bI_0] at c19
    refine z_iload_n hC dX2_isAccepted_34 rfl ?_
    refine z_callSN [] hC (c_X4_isNode l D ct p0) nw_28 bw_80 bw_2 bw_81 1 (by decide +kernel) rfl rfl rfl ⟨Nat.le_of_ble_eq_true rfl, Nat.le_of_ble_eq_true rfl⟩ (Nat.le_of_ble_eq_true rfl) ⟨Nat.le_of_ble_eq_true rfl, Nat.le_of_ble_eq_true rfl⟩ rfl dX2_isAccepted_35 ?_
    refine zkq (G := fun v1 w1 => zG p l e _ s m args below meth c D _ _ _ _ _ _ _ (v1.toList ++ _) w1) rfl ?_
    refine z_if_eq hC 52 dX2_isAccepted_38 (by decide) (fun c38 => ?_) (fun c38 => ?_)
    · rw [bI_0] at c38
      refine z_iconst (v := 0) hC dX2_isAccepted_52 (by decide) ?_
      exact z_zretd hC hr (rfl) dX2_isAccepted_53 (Nat.zero_le _) (Nat.zero_le _) (by clear hC hr hnm; first | rfl | (simp [msAccR, msAcc, bI, c19, c38, *]; done) | (simp_all [msAccR, msAcc, bI, c19, c38]; done)) (by first | rfl | (simp [msAccR, msAcc, bI, c19, c38, *]; done)) cS_adr
    · rw [bI_1] at c38
      refine z_aload_n hC dX2_isAccepted_41 rfl ?_
      refine z_get 0 7 hC bl_X2 (ci := 2) rfl (by decide) rfl bw_38 rfl rfl dX2_isAccepted_42 ?_
      refine z_iload_n hC dX2_isAccepted_45 rfl ?_
      refine z_callVN [8, 9, 10, 11, 12, 13, 14, 15] 0 1 hC (c_X1_isFull l D ct (fun i => q (8 + i)) (rd σ) p0) nw_36 bw_361 bw_362 bw_37 bw_363 1 (by decide +kernel) rfl rfl rfl rfl rfl ⟨Nat.le_of_ble_eq_true rfl, Nat.le_of_ble_eq_true rfl⟩ (Nat.le_of_ble_eq_true rfl) ⟨Nat.le_of_ble_eq_true rfl, Nat.le_of_ble_eq_true rfl⟩ rfl dX2_isAccepted_46 ?_
      refine zkq (G := fun v1 w1 => zG p l e _ s m args below meth c D _ _ _ _ _ _ _ (v1.toList ++ _) w1) rfl ?_
      refine z_if_eq hC 54 dX2_isAccepted_49 (by decide) (fun c49 => ?_) (fun c49 => ?_)
      · rw [bI_0] at c49
        refine z_aload_n hC dX2_isAccepted_54 rfl ?_
        refine z_get 0 7 hC bl_X2 (ci := 2) rfl (by decide) rfl bw_38 rfl rfl dX2_isAccepted_55 ?_
        refine z_iload_n hC dX2_isAccepted_58 rfl ?_
        refine z_iload_n hC dX2_isAccepted_59 rfl ?_
        refine z_aload_n hC dX2_isAccepted_60 rfl ?_
        refine z_get 0 7 hC bl_X2 (ci := 2) rfl (by decide) rfl bw_38 rfl rfl dX2_isAccepted_61 ?_
        refine z_iload_n hC dX2_isAccepted_64 rfl ?_
        refine z_iconst (v := 0) hC dX2_isAccepted_65 (by decide) ?_
        refine z_callVN [8, 9, 10, 11, 12, 13, 14, 15] 0 1 hC (c_X1_stampAt l D ct (fun i => q (8 + i)) (rd σ) n 0) nw_45 bw_184 bw_185 bw_37 bw_186 2 (by decide +kernel) rfl rfl rfl rfl rfl ⟨Nat.le_of_ble_eq_true rfl, Nat.le_of_ble_eq_true rfl⟩ (Nat.le_of_ble_eq_true rfl) ⟨Nat.le_of_ble_eq_true rfl, Nat.le_of_ble_eq_true rfl⟩ rfl dX2_isAccepted_66 ?_
        refine zkq (G := fun v1 w1 => zG p l e _ s m args below meth c D _ _ _ _ _ _ _ (v1.toList ++ _) w1) rfl ?_
        refine z_aload_n hC dX2_isAccepted_69 rfl ?_
        refine z_get 0 5 hC bl_X2 (ci := 2) rfl (by decide) rfl bw_33 rfl rfl dX2_isAccepted_70 ?_
        refine z_iload_n hC dX2_isAccepted_73 rfl ?_
        refine z_iald 6 0 hC rfl rfl (vnode c38) dX2_isAccepted_74 ?_
        refine z_iadd hC dX2_isAccepted_75 ?_
        refine z_aload_n hC dX2_isAccepted_76 rfl ?_
        refine z_get 0 5 hC bl_X2 (ci := 2) rfl (by decide) rfl bw_33 rfl rfl dX2_isAccepted_77 ?_
        refine z_iload_n hC dX2_isAccepted_80 rfl ?_
        refine z_iald 6 0 hC rfl rfl (vnode hn) dX2_isAccepted_81 ?_
        refine z_isub hC dX2_isAccepted_82 ?_
        refine z_callVN [8, 9, 10, 11, 12, 13, 14, 15] 0 1 hC (c_X1_put l D ct (fun i => q (8 + i)) (rd σ) p0 (mrId (rd σ) n 0) (((mrSt (rd σ) n 0) + (σ 6 (p0).toNatClampNeg)) - (σ 6 (n).toNatClampNeg)) (okS_size hok _)) nw_46 bw_375 bw_376 bw_37 bw_377 3 (by decide +kernel) rfl rfl rfl rfl rfl ⟨Nat.le_of_ble_eq_true rfl, Nat.le_of_ble_eq_true rfl⟩ (Nat.le_of_ble_eq_true rfl) ⟨Nat.le_of_ble_eq_true rfl, Nat.le_of_ble_eq_true rfl⟩ rfl dX2_isAccepted_83 ?_
        refine zkd (G := fun v1 w1 => zG p l e _ s m args below meth c D _ _ _ _ _ _ _ (v1.toList ++ _) w1) (w2 := cS q (wd σ (mrPut (rd σ) p0 (mrId (rd σ) n 0) (((mrSt (rd σ) n 0) + (σ 6 (p0).toNatClampNeg)) - (σ 6 (n).toNatClampNeg)))) ct) cS_wd ?_
        obtain ⟨σ1, eσ1⟩ : ∃ zz_, zz_ = (wd σ (mrPut (rd σ) p0 (mrId (rd σ) n 0) (((mrSt (rd σ) n 0) + (σ 6 (p0).toNatClampNeg)) - (σ 6 (n).toNatClampNeg)))) := ⟨_, rfl⟩
        rw [← eσ1]
        refine z_iconst (v := 1) hC dX2_isAccepted_86 (by decide) ?_
        exact z_zretd hC hr (rfl) dX2_isAccepted_87 (Nat.zero_le _) (Nat.zero_le _) (by subst eσ1; clear hC hr hnm; first | rfl | (simp [msAccR, msAcc, bI, c19, c38, c49, *]; done) | (simp_all [msAccR, msAcc, bI, c19, c38, c49]; done)) (by subst eσ1; refine congrArg (fun z => cS q z ct) ?_; first | (simp only [msAccR, msAcc, bI, c19, c38, c49, and_self, if_true, if_false]; done) | (simp [msAccR, msAcc, bI, c19, c38, c49]; done) | (simp [msAccR, msAcc, bI, c19, c38, c49, *]; done)) cS_adr
      · rw [bI_1] at c49
        refine z_iconst (v := 0) hC dX2_isAccepted_52 (by decide) ?_
        exact z_zretd hC hr (rfl) dX2_isAccepted_53 (Nat.zero_le _) (Nat.zero_le _) (by clear hC hr hnm; first | rfl | (simp [msAccR, msAcc, bI, c19, c38, c49, *]; done) | (simp_all [msAccR, msAcc, bI, c19, c38, c49]; done)) (by first | rfl | (simp [msAccR, msAcc, bI, c19, c38, c49, *]; done)) cS_adr
  · rw [bI_1] at c19
    refine z_aload_n hC dX2_isAccepted_22 rfl ?_
    refine z_dup hC dX2_isAccepted_23 rfl ?_
    refine z_get 0 11 hC bl_X2 (ci := 2) rfl (by decide) rfl bw_288 rfl rfl dX2_isAccepted_24 ?_
    refine z_iconst (v := 1) hC dX2_isAccepted_27 (by decide) ?_
    refine z_iadd hC dX2_isAccepted_28 ?_
    refine z_put (ci := 2) 0 11 hC bl_X2 tyX2_ok nmX2 rfl (by decide) rfl bw_288 rfl rfl rfl rfl (Nat.lt_of_lt_of_le (by decide) (Nat.le_refl 15)) dX2_isAccepted_29 (w2 := cS q (u2 σ 0 3 ((σ 0 3) + 1)) ct) cS_f3 ?_
    obtain ⟨σ2, eσ2⟩ : ∃ zz_, zz_ = u2 σ 0 3 ((σ 0 3) + 1) := ⟨_, rfl⟩
    rw [← eσ2]
    refine z_iconst (v := 1) hC dX2_isAccepted_32 (by decide) ?_
    exact z_zretd hC hr (rfl) dX2_isAccepted_33 (Nat.zero_le _) (Nat.zero_le _) (by subst eσ2; clear hC hr hnm; first | rfl | (simp [msAccR, msAcc, bI, c19, *]; done) | (simp_all [msAccR, msAcc, bI, c19]; done)) (by subst eσ2; refine congrArg (fun z => cS q z ct) ?_; first | (simp only [msAccR, msAcc, bI, c19, and_self, if_true, if_false]; done) | (simp [msAccR, msAcc, bI, c19]; done) | (simp [msAccR, msAcc, bI, c19, *]; done)) cS_adr

set_option maxRecDepth 100000 in
set_option maxHeartbeats 1000000 in
theorem c_X2_send (l : Launch) (D : va_G) (ct : Nat → ClassId) (q : Nat → Nat) (σ : Nat → Nat → Int32) (n : Int32) (hn : mNode n = true) (hok : okS σ) : zT l D ct yX2_send cX2_send 3 none 4 106 0 0 [.ref (q 0), .int n] (cS q σ ct) (zd none (cS q (msSend σ n) ct)) := by
  refine zT_of ([some (.ref (q 0)), some (.int n), none]) (by decide +kernel) rfl (Nat.le_of_ble_eq_true rfl) ?_
  intro p e s m args below meth c hC hr hnm
  refine z_aload_n hC dX2_send_0 rfl ?_
  refine z_get 0 2 hC bl_X2 (ci := 2) rfl (by decide) rfl bw_30 rfl rfl dX2_send_1 ?_
  refine z_iload_n hC dX2_send_4 rfl ?_
  refine z_iald 3 0 hC rfl rfl (vnode hn) dX2_send_5 ?_
  refine z_istore_n hC dX2_send_6 (by decide) rfl ?_
  refine z_aload_n hC dX2_send_7 rfl ?_
  refine z_iload_n hC dX2_send_8 rfl ?_
  refine z_iload_n hC dX2_send_9 rfl ?_
  refine z_callV [0, 1, 2, 3, 4, 5, 6, 7, 8, 9, 10, 11, 12, 13, 14, 15] 0 2 hC (c_X2_areConnected l D ct q σ n (σ 3 (n).toNatClampNeg)) bw_135 bw_114 bw_115 bw_12 bw_116 2 (by decide +kernel) rfl rfl rfl rfl rfl ⟨Nat.le_of_ble_eq_true rfl, Nat.le_of_ble_eq_true rfl⟩ (Nat.le_of_ble_eq_true rfl) ⟨Nat.le_of_ble_eq_true rfl, Nat.le_of_ble_eq_true rfl⟩ rfl dX2_send_10 ?_
  refine zkq (G := fun v1 w1 => zG p l e _ s m args below meth c D _ _ _ _ _ _ _ (v1.toList ++ _) w1) rfl ?_
  refine z_if_eq hC 27 dX2_send_13 (by decide) (fun c13 => ?_) (fun c13 => ?_)
  · rw [bI_0] at c13
    exact z_vretd hC hr dX2_send_27 (Nat.zero_le _) (Nat.zero_le _) (by first | rfl | (simp [msSend, msSend2, u2_ne, rd_u2, c13, *]; done)) cS_adr
  · rw [bI_1] at c13
    refine z_aload_n hC dX2_send_16 rfl ?_
    refine z_get 0 7 hC bl_X2 (ci := 2) rfl (by decide) rfl bw_38 rfl rfl dX2_send_17 ?_
    refine z_iload_n hC dX2_send_20 rfl ?_
    refine z_callVN [8, 9, 10, 11, 12, 13, 14, 15] 0 1 hC (c_X1_sizeOf l D ct (fun i => q (8 + i)) (rd σ) n) nw_41 bw_151 bw_152 bw_37 bw_153 1 (by decide +kernel) rfl rfl rfl rfl rfl ⟨Nat.le_of_ble_eq_true rfl, Nat.le_of_ble_eq_true rfl⟩ (Nat.le_of_ble_eq_true rfl) ⟨Nat.le_of_ble_eq_true rfl, Nat.le_of_ble_eq_true rfl⟩ rfl dX2_send_21 ?_
    refine zkq (G := fun v1 w1 => zG p l e _ s m args below meth c D _ _ _ _ _ _ _ (v1.toList ++ _) w1) rfl ?_
    refine z_if_ne hC 28 dX2_send_24 (by decide) (fun c24 => ?_) (fun c24 => ?_)
    · refine z_aload_n hC dX2_send_28 rfl ?_
      refine z_dup hC dX2_send_29 rfl ?_
      refine z_get 0 10 hC bl_X2 (ci := 2) rfl (by decide) rfl bw_287 rfl rfl dX2_send_30 ?_
      refine z_iconst (v := 1) hC dX2_send_33 (by decide) ?_
      refine z_iadd hC dX2_send_34 ?_
      refine z_put (ci := 2) 0 10 hC bl_X2 tyX2_ok nmX2 rfl (by decide) rfl bw_287 rfl rfl rfl rfl (Nat.lt_of_lt_of_le (by decide) (Nat.le_refl 15)) dX2_send_35 (w2 := cS q (u2 σ 0 2 ((σ 0 2) + 1)) ct) cS_f2 ?_
      obtain ⟨σ1, eσ1⟩ : ∃ zz_, zz_ = u2 σ 0 2 ((σ 0 2) + 1) := ⟨_, rfl⟩
      rw [← eσ1]
      refine z_aload_n hC dX2_send_38 rfl ?_
      refine z_iload_n hC dX2_send_39 rfl ?_
      refine z_iload_n hC dX2_send_40 rfl ?_
      refine z_callV [0, 1, 2, 3, 4, 5, 6, 7, 8, 9, 10, 11, 12, 13, 14, 15] 0 2 hC (c_X2_isAccepted l D ct q σ1 n (σ 3 (n).toNatClampNeg) hn (by rw [eσ1]; exact okS_u2 hok (by decide))) bw_416 bw_417 bw_418 bw_12 bw_419 2 (by decide +kernel) rfl rfl rfl rfl rfl ⟨Nat.le_of_ble_eq_true rfl, Nat.le_of_ble_eq_true rfl⟩ (Nat.le_of_ble_eq_true rfl) ⟨Nat.le_of_ble_eq_true rfl, Nat.le_of_ble_eq_true rfl⟩ rfl dX2_send_41 ?_
      refine zkd (G := fun v1 w1 => zG p l e _ s m args below meth c D _ _ _ _ _ _ _ (v1.toList ++ _) w1) (w2 := cS q (msAcc σ1 n (σ 3 (n).toNatClampNeg)) ct) cS_all ?_
      obtain ⟨σ2, eσ2⟩ : ∃ zz_, zz_ = (msAcc σ1 n (σ 3 (n).toNatClampNeg)) := ⟨_, rfl⟩
      rw [← eσ2]
      refine z_if_ne hC 60 dX2_send_44 (by decide) (fun c44 => ?_) (fun c44 => ?_)
      · rw [bI_1] at c44
        refine z_aload_n hC dX2_send_60 rfl ?_
        refine z_get 0 6 hC bl_X2 (ci := 2) rfl (by decide) rfl bw_34 rfl rfl dX2_send_61 ?_
        refine z_iload_n hC dX2_send_64 rfl ?_
        refine z_iald 7 0 hC rfl rfl (vnode hn) dX2_send_65 ?_
        refine z_if_le hC 92 dX2_send_66 (by decide) (fun c66 => ?_) (fun c66 => ?_)
        · refine z_aload_n hC dX2_send_92 rfl ?_
          refine z_get 0 7 hC bl_X2 (ci := 2) rfl (by decide) rfl bw_38 rfl rfl dX2_send_93 ?_
          refine z_iload_n hC dX2_send_96 rfl ?_
          refine z_callVN [8, 9, 10, 11, 12, 13, 14, 15] 0 1 hC (c_X1_removeFirst l D ct (fun i => q (8 + i)) (rd σ2) n) nw_47 bw_420 bw_421 bw_37 bw_422 1 (by decide +kernel) rfl rfl rfl rfl rfl ⟨Nat.le_of_ble_eq_true rfl, Nat.le_of_ble_eq_true rfl⟩ (Nat.le_of_ble_eq_true rfl) ⟨Nat.le_of_ble_eq_true rfl, Nat.le_of_ble_eq_true rfl⟩ rfl dX2_send_97 ?_
          refine zkd (G := fun v1 w1 => zG p l e _ s m args below meth c D _ _ _ _ _ _ _ (v1.toList ++ _) w1) (w2 := cS q (wd σ2 (mrRemove (rd σ2) n)) ct) cS_wd ?_
          obtain ⟨σ3, eσ3⟩ : ∃ zz_, zz_ = (wd σ2 (mrRemove (rd σ2) n)) := ⟨_, rfl⟩
          rw [← eσ3]
          exact z_vretd hC hr dX2_send_100 (Nat.zero_le _) (Nat.zero_le _) (by subst eσ3; subst eσ2; subst eσ1; refine congrArg (fun z => cS q z ct) ?_; first | (simp only [msSend, msSend2, u2_ne, rd_u2, c13, c24, c44, c66, i_nlt.mpr c66, and_self, if_true, if_false]; done) | (simp [msSend, msSend2, u2_ne, rd_u2, c13, c24, c44, c66, i_nlt.mpr c66]; done) | (simp [msSend, msSend2, u2_ne, rd_u2, c13, c24, c44, c66, i_nlt.mpr c66, *]; done)) cS_adr
        · refine z_aload_n hC dX2_send_69 rfl ?_
          refine z_get 0 6 hC bl_X2 (ci := 2) rfl (by decide) rfl bw_34 rfl rfl dX2_send_70 ?_
          refine z_iload_n hC dX2_send_73 rfl ?_
          refine z_dup2 hC dX2_send_74 rfl rfl ?_
          refine z_iald 7 0 hC rfl rfl (vnode hn) dX2_send_75 ?_
          refine z_iconst (v := 1) hC dX2_send_76 (by decide) ?_
          refine z_isub hC dX2_send_77 ?_
          refine z_iast 7 0 hC rfl rfl (vnode hn) dX2_send_78 (w2 := cS q (u2 σ2 7 ((n).toNatClampNeg) ((σ2 7 (n).toNatClampNeg) - 1)) ct) cS_a7 ?_
          obtain ⟨σ4, eσ4⟩ : ∃ zz_, zz_ = u2 σ2 7 ((n).toNatClampNeg) ((σ2 7 (n).toNatClampNeg) - 1) := ⟨_, rfl⟩
          rw [← eσ4]
          refine z_aload_n hC dX2_send_79 rfl ?_
          refine z_dup hC dX2_send_80 rfl ?_
          refine z_get 0 13 hC bl_X2 (ci := 2) rfl (by decide) rfl bw_290 rfl rfl dX2_send_81 ?_
          refine z_iconst (v := 1) hC dX2_send_84 (by decide) ?_
          refine z_iadd hC dX2_send_85 ?_
          refine z_put (ci := 2) 0 13 hC bl_X2 tyX2_ok nmX2 rfl (by decide) rfl bw_290 rfl rfl rfl rfl (Nat.lt_of_lt_of_le (by decide) (Nat.le_refl 15)) dX2_send_86 (w2 := cS q (u2 σ4 0 5 ((σ4 0 5) + 1)) ct) cS_f5 ?_
          obtain ⟨σ5, eσ5⟩ : ∃ zz_, zz_ = u2 σ4 0 5 ((σ4 0 5) + 1) := ⟨_, rfl⟩
          rw [← eσ5]
          refine z_goto hC 100 dX2_send_89 (by decide) ?_
          exact z_vretd hC hr dX2_send_100 (Nat.zero_le _) (Nat.zero_le _) (by subst eσ5; subst eσ4; subst eσ2; subst eσ1; refine congrArg (fun z => cS q z ct) ?_; first | (simp only [msSend, msSend2, u2_ne, rd_u2, c13, c24, c44, c66, i_nle.mp c66, and_self, if_true, if_false]; done) | (simp [msSend, msSend2, u2_ne, rd_u2, c13, c24, c44, c66, i_nle.mp c66]; done) | (simp [msSend, msSend2, u2_ne, rd_u2, c13, c24, c44, c66, i_nle.mp c66, *]; done)) cS_adr
      · rw [bI_0] at c44
        refine z_aload_n hC dX2_send_47 rfl ?_
        refine z_dup hC dX2_send_48 rfl ?_
        refine z_get 0 12 hC bl_X2 (ci := 2) rfl (by decide) rfl bw_289 rfl rfl dX2_send_49 ?_
        refine z_iconst (v := 1) hC dX2_send_52 (by decide) ?_
        refine z_iadd hC dX2_send_53 ?_
        refine z_put (ci := 2) 0 12 hC bl_X2 tyX2_ok nmX2 rfl (by decide) rfl bw_289 rfl rfl rfl rfl (Nat.lt_of_lt_of_le (by decide) (Nat.le_refl 15)) dX2_send_54 (w2 := cS q (u2 σ2 0 4 ((σ2 0 4) + 1)) ct) cS_f4 ?_
        obtain ⟨σ6, eσ6⟩ : ∃ zz_, zz_ = u2 σ2 0 4 ((σ2 0 4) + 1) := ⟨_, rfl⟩
        rw [← eσ6]
        refine z_goto hC 100 dX2_send_57 (by decide) ?_
        exact z_vretd hC hr dX2_send_100 (Nat.zero_le _) (Nat.zero_le _) (by subst eσ6; subst eσ2; subst eσ1; refine congrArg (fun z => cS q z ct) ?_; first | (simp only [msSend, msSend2, u2_ne, rd_u2, c13, c24, c44, and_self, if_true, if_false]; done) | (simp [msSend, msSend2, u2_ne, rd_u2, c13, c24, c44]; done) | (simp [msSend, msSend2, u2_ne, rd_u2, c13, c24, c44, *]; done)) cS_adr
    · exact z_vretd hC hr dX2_send_27 (Nat.zero_le _) (Nat.zero_le _) (by first | rfl | (simp [msSend, msSend2, u2_ne, rd_u2, c13, c24, *]; done)) cS_adr

set_option maxRecDepth 100000 in
set_option maxHeartbeats 1000000 in
theorem c_X2_runSlots (l : Launch) (D : va_G) (ct : Nat → ClassId) (q : Nat → Nat) (σ : Nat → Nat → Int32) (k0 : Int32) (hok : okS σ) : zT l D ct yX2_runSlots cX2_runSlots 5 (some .int) 5 128 0 0 [.ref (q 0), .int k0] (cS q σ ct) (zd (some (.int (msRunR σ k0.toNatClampNeg))) (cS q (msRun σ k0.toNatClampNeg) ct)) := by
  refine zT_of ([some (.ref (q 0)), some (.int k0), none, none, none]) (by decide +kernel) rfl (Nat.le_of_ble_eq_true rfl) ?_
  intro p e s m args below meth c hC hr hnm
  refine z_aload_n hC dX2_runSlots_0 rfl ?_
  refine z_get 0 7 hC bl_X2 (ci := 2) rfl (by decide) rfl bw_38 rfl rfl dX2_runSlots_1 ?_
  refine z_iconst (v := 0) hC dX2_runSlots_4 (by decide) ?_
  refine z_callVN [8, 9, 10, 11, 12, 13, 14, 15] 0 1 hC (c_X1_sizeOf l D ct (fun i => q (8 + i)) (rd σ) 0) nw_41 bw_151 bw_152 bw_37 bw_153 1 (by decide +kernel) rfl rfl rfl rfl rfl ⟨Nat.le_of_ble_eq_true rfl, Nat.le_of_ble_eq_true rfl⟩ (Nat.le_of_ble_eq_true rfl) ⟨Nat.le_of_ble_eq_true rfl, Nat.le_of_ble_eq_true rfl⟩ rfl dX2_runSlots_5 ?_
  refine zkq (G := fun v1 w1 => zG p l e _ s m args below meth c D _ _ _ _ _ _ _ (v1.toList ++ _) w1) rfl ?_
  refine z_istore_n hC dX2_runSlots_8 (by decide) rfl ?_
  refine z_iconst (v := 0) hC dX2_runSlots_9 (by decide) ?_
  refine z_istore_n hC dX2_runSlots_10 (by decide) rfl ?_
  have loop11 : ∀ (kf i : Nat) (σx : Nat → Nat → Int32) (hki : kf = k0.toNatClampNeg - i) (h31 : i < 2 ^ 31) (hokx : okS σx) (hF : kfor (fun _ σ => msSlot σ) kf i σx = msRun σ k0.toNatClampNeg), zG p l e { frames := 5, cells := 0, slots := 0, locals := 128 } s m args below meth c D (va_A (cS q σ ct) s.heap.size) 5 (MQ below (zQ D ct (cS q σ ct) s.heap.size (zd (some (.int (msRunR σ k0.toNatClampNeg))) (cS q (msRun σ k0.toNatClampNeg) ct))) args s 0 0 (va_A (cS q σ ct) s.heap.size)) 0 0 11 [some (.ref (q 0)), some (.int k0), some (.int (mrSize (rd σ) 0)), some (.int (nI i)), none] [] (cS q σx ct) := by
    intro kf
    induction kf with
    | zero =>
      intro i σx hki h31 hokx hF
      refine z_iload_n hC dX2_runSlots_11 rfl ?_
      refine z_iload_n hC dX2_runSlots_12 rfl ?_
      refine z_icmp_ge hC 71 dX2_runSlots_13 (by decide) (fun c13 => ?_) (fun c13 => absurd (lim_ge (by omega) h31) c13)
      refine z_aload_n hC dX2_runSlots_71 rfl ?_
      refine z_get 0 7 hC bl_X2 (ci := 2) rfl (by decide) rfl bw_38 rfl rfl dX2_runSlots_72 ?_
      refine z_iconst (v := 0) hC dX2_runSlots_75 (by decide) ?_
      refine z_callVN [8, 9, 10, 11, 12, 13, 14, 15] 0 1 hC (c_X1_sizeOf l D ct (fun i => q (8 + i)) (rd σx) 0) nw_41 bw_151 bw_152 bw_37 bw_153 1 (by decide +kernel) rfl rfl rfl rfl rfl ⟨Nat.le_of_ble_eq_true rfl, Nat.le_of_ble_eq_true rfl⟩ (Nat.le_of_ble_eq_true rfl) ⟨Nat.le_of_ble_eq_true rfl, Nat.le_of_ble_eq_true rfl⟩ rfl dX2_runSlots_76 ?_
      refine zkq (G := fun v1 w1 => zG p l e _ s m args below meth c D _ _ _ _ _ _ _ (v1.toList ++ _) w1) rfl ?_
      refine z_iload_n hC dX2_runSlots_79 rfl ?_
      refine z_isub hC dX2_runSlots_80 ?_
      exact z_iretd hC hr dX2_runSlots_81 (Nat.zero_le _) (Nat.zero_le _) (congrArg (fun z => mrSize (rd z) 0 - mrSize (rd σ) 0) hF) (congrArg (fun z => cS q z ct) hF) cS_adr
    | succ kf ih =>
      intro i σx hki h31 hokx hF
      refine z_iload_n hC dX2_runSlots_11 rfl ?_
      refine z_iload_n hC dX2_runSlots_12 rfl ?_
      refine z_icmp_ge hC 71 dX2_runSlots_13 (by decide) (fun c13 => absurd c13 (lim_lt (by omega))) (fun c13 => ?_)
      refine z_aload_n hC dX2_runSlots_16 rfl ?_
      refine z_get 0 8 hC bl_X2 (ci := 2) rfl (by decide) rfl bw_286 rfl rfl dX2_runSlots_17 ?_
      refine z_bipush (v := 10) hC dX2_runSlots_20 (by decide) ?_
      refine z_callS [] hC (c_J9_floorMod_7cf53 l D ct (σx 0 0) 10 (by decide)) bw_388 bw_280 bw_281 bw_282 2 (by decide +kernel) rfl rfl rfl ⟨Nat.le_of_ble_eq_true rfl, Nat.le_of_ble_eq_true rfl⟩ (Nat.le_of_ble_eq_true rfl) ⟨Nat.le_of_ble_eq_true rfl, Nat.le_of_ble_eq_true rfl⟩ rfl dX2_runSlots_22 ?_
      refine zkq (G := fun v1 w1 => zG p l e _ s m args below meth c D _ _ _ _ _ _ _ (v1.toList ++ _) w1) rfl ?_
      refine z_istore hC dX2_runSlots_25 (by decide) rfl ?_
      refine z_aload_n hC dX2_runSlots_27 rfl ?_
      refine z_get 0 1 hC bl_X2 (ci := 2) rfl (by decide) rfl bw_28 rfl rfl dX2_runSlots_28 ?_
      refine z_iload hC dX2_runSlots_31 rfl ?_
      refine z_zald 2 1 hC rfl rfl (vnode (mFloor_node _)) dX2_runSlots_33 ?_
      refine z_if_eq hC 55 dX2_runSlots_34 (by decide) (fun c34 => ?_) (fun c34 => ?_)
      · refine z_aload_n hC dX2_runSlots_55 rfl ?_
        refine z_dup hC dX2_runSlots_56 rfl ?_
        refine z_get 0 8 hC bl_X2 (ci := 2) rfl (by decide) rfl bw_286 rfl rfl dX2_runSlots_57 ?_
        refine z_iconst (v := 1) hC dX2_runSlots_60 (by decide) ?_
        refine z_iadd hC dX2_runSlots_61 ?_
        refine z_put (ci := 2) 0 8 hC bl_X2 tyX2_ok nmX2 rfl (by decide) rfl bw_286 rfl rfl rfl rfl (Nat.lt_of_lt_of_le (by decide) (Nat.le_refl 15)) dX2_runSlots_62 (w2 := cS q (u2 σx 0 0 ((σx 0 0) + 1)) ct) cS_f0 ?_
        obtain ⟨σ1, eσ1⟩ : ∃ zz_, zz_ = u2 σx 0 0 ((σx 0 0) + 1) := ⟨_, rfl⟩
        rw [← eσ1]
        refine z_iinc (cn := 1) hC dX2_runSlots_65 (by decide) (by decide) rfl rfl ?_
        refine z_goto hC 11 dX2_runSlots_68 (by decide) ?_
        have eT : σ1 = msSlot σx := by
          rw [eσ1]; simp [msSlot, msTurn, msNode, c13, c34, i_nle.mp c13]
        rw [nI_1]
        exact z_wk (ls_s (ls_s (ls_s (ls_s (ls_n ls_0))))) (ih (i + 1) σ1 (by omega) (by have := lim_31 k0; omega) (by rw [eT]; exact okS_slot hokx) (by rw [← hF, eT]; rfl))
      · refine z_aload_n hC dX2_runSlots_37 rfl ?_
        refine z_iload hC dX2_runSlots_38 rfl ?_
        refine z_callV [0, 1, 2, 3, 4, 5, 6, 7, 8, 9, 10, 11, 12, 13, 14, 15] 0 2 hC (c_X2_losePatience l D ct q σx (mFloor (σx 0 0) 10) (msNode_node _)) bw_389 bw_390 bw_391 bw_12 bw_392 1 (by decide +kernel) rfl rfl rfl rfl rfl ⟨Nat.le_of_ble_eq_true rfl, Nat.le_of_ble_eq_true rfl⟩ (Nat.le_of_ble_eq_true rfl) ⟨Nat.le_of_ble_eq_true rfl, Nat.le_of_ble_eq_true rfl⟩ rfl dX2_runSlots_40 ?_
        refine zkd (G := fun v1 w1 => zG p l e _ s m args below meth c D _ _ _ _ _ _ _ (v1.toList ++ _) w1) (w2 := cS q (msLose σx (mFloor (σx 0 0) 10)) ct) cS_all ?_
        obtain ⟨σ2, eσ2⟩ : ∃ zz_, zz_ = (msLose σx (mFloor (σx 0 0) 10)) := ⟨_, rfl⟩
        rw [← eσ2]
        refine z_aload_n hC dX2_runSlots_43 rfl ?_
        refine z_iload hC dX2_runSlots_44 rfl ?_
        refine z_callV [0, 1, 2, 3, 4, 5, 6, 7, 8, 9, 10, 11, 12, 13, 14, 15] 0 2 hC (c_X2_beHeard l D ct q σ2 (mFloor (σx 0 0) 10) (msNode_node _)) bw_397 bw_398 bw_399 bw_12 bw_400 1 (by decide +kernel) rfl rfl rfl rfl rfl ⟨Nat.le_of_ble_eq_true rfl, Nat.le_of_ble_eq_true rfl⟩ (Nat.le_of_ble_eq_true rfl) ⟨Nat.le_of_ble_eq_true rfl, Nat.le_of_ble_eq_true rfl⟩ rfl dX2_runSlots_46 ?_
        refine zkd (G := fun v1 w1 => zG p l e _ s m args below meth c D _ _ _ _ _ _ _ (v1.toList ++ _) w1) (w2 := cS q (msBeHeard σ2 (mFloor (σx 0 0) 10)) ct) cS_all ?_
        obtain ⟨σ3, eσ3⟩ : ∃ zz_, zz_ = (msBeHeard σ2 (mFloor (σx 0 0) 10)) := ⟨_, rfl⟩
        rw [← eσ3]
        refine z_aload_n hC dX2_runSlots_49 rfl ?_
        refine z_iload hC dX2_runSlots_50 rfl ?_
        refine z_callV [0, 1, 2, 3, 4, 5, 6, 7, 8, 9, 10, 11, 12, 13, 14, 15] 0 2 hC (c_X2_send l D ct q σ3 (mFloor (σx 0 0) 10) (msNode_node _) (by rw [eσ3, eσ2]; exact okS_beHeard (okS_lose hokx _) _)) bw_412 bw_413 bw_414 bw_12 bw_415 1 (by decide +kernel) rfl rfl rfl rfl rfl ⟨Nat.le_of_ble_eq_true rfl, Nat.le_of_ble_eq_true rfl⟩ (Nat.le_of_ble_eq_true rfl) ⟨Nat.le_of_ble_eq_true rfl, Nat.le_of_ble_eq_true rfl⟩ rfl dX2_runSlots_52 ?_
        refine zkd (G := fun v1 w1 => zG p l e _ s m args below meth c D _ _ _ _ _ _ _ (v1.toList ++ _) w1) (w2 := cS q (msSend σ3 (mFloor (σx 0 0) 10)) ct) cS_all ?_
        obtain ⟨σ4, eσ4⟩ : ∃ zz_, zz_ = (msSend σ3 (mFloor (σx 0 0) 10)) := ⟨_, rfl⟩
        rw [← eσ4]
        refine z_aload_n hC dX2_runSlots_55 rfl ?_
        refine z_dup hC dX2_runSlots_56 rfl ?_
        refine z_get 0 8 hC bl_X2 (ci := 2) rfl (by decide) rfl bw_286 rfl rfl dX2_runSlots_57 ?_
        refine z_iconst (v := 1) hC dX2_runSlots_60 (by decide) ?_
        refine z_iadd hC dX2_runSlots_61 ?_
        refine z_put (ci := 2) 0 8 hC bl_X2 tyX2_ok nmX2 rfl (by decide) rfl bw_286 rfl rfl rfl rfl (Nat.lt_of_lt_of_le (by decide) (Nat.le_refl 15)) dX2_runSlots_62 (w2 := cS q (u2 σ4 0 0 ((σ4 0 0) + 1)) ct) cS_f0 ?_
        obtain ⟨σ5, eσ5⟩ : ∃ zz_, zz_ = u2 σ4 0 0 ((σ4 0 0) + 1) := ⟨_, rfl⟩
        rw [← eσ5]
        refine z_iinc (cn := 1) hC dX2_runSlots_65 (by decide) (by decide) rfl rfl ?_
        refine z_goto hC 11 dX2_runSlots_68 (by decide) ?_
        have eT : σ5 = msSlot σx := by
          rw [eσ5, eσ4, eσ3, eσ2]; simp [msSlot, msTurn, msNode, c13, c34, i_nle.mp c13]
        rw [nI_1]
        exact z_wk (ls_s (ls_s (ls_s (ls_s (ls_n ls_0))))) (ih (i + 1) σ5 (by omega) (by have := lim_31 k0; omega) (by rw [eT]; exact okS_slot hokx) (by rw [← hF, eT]; rfl))
  exact z_wk (ls_s (ls_s (ls_s (ls_s (ls_n ls_0))))) (loop11 _ 0 σ rfl (by decide) hok rfl)
