/-! P36: THE LAW'S nodes, print, readings: what they answer of a state -/
theorem mDiv_n : ∀ k, k < 11 → Op.cmpValue (FP.dcmp (mDiv (nI k)) (mDiv (nI k))) .l = 0 := by decide +kernel
def jst (σ : TB) (i : Nat) (a : Int32) : Int32 := a + (if σ 3 i < 0 then 0 else 1)
/-- what the walk of nodes needs of a node -/
def nodeF (σ : TB) (k : Nat) : Prop := (k = 0 ∧ σ 3 k = -1) ∨ (0 < k ∧ σ 3 k = -1 ∧ σ 4 k = -1 ∧ silV σ k = -1) ∨ ∃ p d u, 0 < k ∧ p < 10 ∧ p ≠ k ∧ d < 9 ∧ u < 2 ^ 30 ∧ σ 3 k = nI p ∧ σ 4 k = nI (d + 1) ∧ silV σ k = nI u
theorem Inv_node {σ : TB} {B : Nat} (h : Inv B σ) (hB : B < 2 ^ 30) {k : Nat} (hk : k < 10) : nodeF σ k := by
  obtain ⟨⟨κ, h1⟩, t, ht, j, -⟩ := h
  rcases Nat.eq_zero_or_pos k with c | c
  · subst c
    exact Or.inl ⟨rfl, h1.2.2.2.2.2.2.2.2.1⟩
  · right
    rcases j.2.1.2.2 k c hk with ⟨a, b⟩ | ⟨p, d, u, a1, a2, a3, a4, a5, a6, a7, -⟩
    · exact Or.inl ⟨c, a, b, by unfold silV; rw [if_pos a]⟩
    · refine Or.inr ⟨p, d, t - u, c, a1, a2, a3, by omega, a5, a6, ?_⟩
      unfold silV
      rw [if_neg (by rw [a5]; exact nI_ne (by omega)), j.1, a7, pk_sub a4]
theorem jst_form {σ : TB} (h : ∀ k, k < 10 → nodeF σ k) : kfor (jst σ) 10 0 0 = msJoined σ := by
  unfold msJoined
  refine kfor_ext 10 0 0 _ (fun d z hd => ?_)
  show z + _ = z + _
  rw [nI_clamp (by omega)]
  have key : σ 3 (0 + d) < 0 ↔ σ 3 (0 + d) = -1 := by
    rcases h (0 + d) (by omega) with ⟨-, e⟩ | ⟨-, e, -⟩ | ⟨p, d2, u, -, hp, -, -, -, e, -⟩
    · rw [e]; decide
    · rw [e]; decide
    · rw [e]; exact ⟨fun q => absurd q (nI_pos (by omega)), fun q => absurd q (nI_ne (by omega))⟩
  by_cases c : σ 3 (0 + d) < 0
  · rw [if_pos c, if_pos (key.mp c)]
  · rw [if_neg c, if_neg (fun q => c (key.mpr q))]
theorem m1z : (-1 : Int32) < 0 := by decide
theorem one_nz : ¬ (1 : Int32) = 0 := by decide
theorem nIlt0 {n : Nat} (h : n < 2 ^ 31) : ¬ nI n < 0 := nI_pos h

set_option maxRecDepth 100000 in
set_option maxHeartbeats 1000000 in
theorem c_L_nodes (l : Launch) (D : va_G) (ct : Nat → ClassId) (b : Nat) (qs qt qh qx : Nat → Nat) (σ : TB) (hF : ∀ k, k < 10 → nodeF σ k) (hz : σ 4 0 = 0 ∧ σ 6 0 = 0) (hL : jL σ) : zT l D ct yL_nodes cL_nodes 8 (some .boolean) 7 153 0 0 [.ref b] (cN b qs qt qh qx :: cS qs σ ct) (zd (some (.int 1)) (cN b qs qt qh qx :: cS qs σ ct)) := by
  refine zT_of ([some (.ref b), none, none, none, none, none, none, none]) (by decide +kernel) rfl (Nat.le_of_ble_eq_true rfl) ?_
  intro p e s m args below meth c hC hr hnm
  refine z_iconst (v := 0) hC dL_nodes_0 (by decide) ?_
  refine z_istore_n hC dL_nodes_1 (by decide) rfl ?_
  refine z_iconst (v := 0) hC dL_nodes_2 (by decide) ?_
  refine z_istore_n hC dL_nodes_3 (by decide) rfl ?_
  have loop4 : ∀ (kf k : Nat) (a : Int32) (hki : kf + k = 10) (hA : kfor (jst σ) kf k a = msJoined σ), zG p l e { frames := 7, cells := 0, slots := 0, locals := 153 } s m args below meth c D (va_A (cN b qs qt qh qx :: cS qs σ ct) s.heap.size) 8 (MQ below (zQ D ct (cN b qs qt qh qx :: cS qs σ ct) s.heap.size (zd (some (.int 1)) (cN b qs qt qh qx :: cS qs σ ct))) args s 0 0 (va_A (cN b qs qt qh qx :: cS qs σ ct) s.heap.size)) 0 0 4 [some (.ref b), some (.int a), some (.int (nI k)), none, none, none, none, none] [] (cN b qs qt qh qx :: cS qs σ ct) := by
    intro kf
    induction kf with
    | zero =>
      intro k a hki hA
      refine z_iload_n hC dL_nodes_4 rfl ?_
      refine z_bipush (v := 10) hC dL_nodes_5 (by decide) ?_
      refine z_icmp_ge hC 279 dL_nodes_7 (by decide) (fun c7 => ?_) (fun c7 => absurd (kge 10 rfl (by omega) (by omega)) c7)
      obtain rfl : a = msJoined σ := hA
      obtain ⟨jk, hjk, ejk⟩ := msJoined_le σ
      refine z_aload_n hC dL_nodes_279 rfl ?_
      refine z_callV [0, 1, 2, 3, 4, 5, 6, 7, 8, 9, 10, 11, 12, 13, 14, 15, 16] 0 4 hC (c_X4_joined l D ct b qs qt qh qx σ) bw_136 bw_137 bw_138 bw_2 bw_139 0 (by decide +kernel) rfl rfl rfl rfl rfl ⟨Nat.le_of_ble_eq_true rfl, Nat.le_of_ble_eq_true rfl⟩ (Nat.le_of_ble_eq_true rfl) ⟨Nat.le_of_ble_eq_true rfl, Nat.le_of_ble_eq_true rfl⟩ rfl dL_nodes_280 ?_
      refine zkq (G := fun v1 w1 => zG p l e _ s m args below meth c D _ _ _ _ _ _ _ (v1.toList ++ _) w1) rfl ?_
      refine z_iload_n hC dL_nodes_283 rfl ?_
      refine z_i2d hC dL_nodes_284 ?_
      refine z_ldc2d (v := 4621256167635550208) hC bw_64 dL_nodes_285 ?_
      refine z_ddiv hC dL_nodes_288 (by rw [ejk]; exact mDiv_ok jk hjk) ?_
      refine z_dcmp hC dL_nodes_289 ?_
      refine z_if_ne hC 297 dL_nodes_290 (by decide) (fun c290 => (c290 (by rw [ejk]; exact mDiv_n jk hjk)).elim) (fun c290 => ?_)
      refine z_iconst (v := 1) hC dL_nodes_293 (by decide) ?_
      refine z_goto hC 298 dL_nodes_294 (by decide) ?_
      exact z_zretd hC hr (rfl) dL_nodes_298 (Nat.zero_le _) (Nat.zero_le _) (rfl) rfl rfl
    | succ kf ih =>
      intro k a hki hA
      refine z_iload_n hC dL_nodes_4 rfl ?_
      refine z_bipush (v := 10) hC dL_nodes_5 (by decide) ?_
      refine z_icmp_ge hC 279 dL_nodes_7 (by decide) (fun c7 => absurd c7 (klt 10 rfl (by omega) (by decide))) (fun c7 => ?_)
      have hk10 : k < 10 := by omega
      have hnf := hF k hk10
      refine z_aload_n hC dL_nodes_10 rfl ?_
      refine z_iload_n hC dL_nodes_11 rfl ?_
      refine z_callH [0, 1, 2, 3, 4, 5, 6, 7, 8, 9, 10, 11, 12, 13, 14, 15, 16] hC (h_parent l D ct b qs qt qh qx σ k hk10) bw_65 bw_66 bw_62 bw_67 2 (by decide +kernel) rfl rfl rfl ⟨Nat.le_of_ble_eq_true rfl, Nat.le_of_ble_eq_true rfl⟩ (Nat.le_of_ble_eq_true rfl) ⟨Nat.le_of_ble_eq_true rfl, Nat.le_of_ble_eq_true rfl⟩ rfl dL_nodes_12 ?_
      refine zkq (G := fun v1 w1 => zG p l e _ s m args below meth c D _ _ _ _ _ _ _ (v1.toList ++ _) w1) rfl ?_
      refine z_istore_n hC dL_nodes_15 (by decide) rfl ?_
      refine z_iload_n hC dL_nodes_16 rfl ?_
      suffices k26_1 : zG p l e { frames := 7, cells := 0, slots := 0, locals := 153 } s m args below meth c D (va_A (cN b qs qt qh qx :: cS qs σ ct) s.heap.size) 8 (MQ below (zQ D ct (cN b qs qt qh qx :: cS qs σ ct) s.heap.size (zd (some (.int 1)) (cN b qs qt qh qx :: cS qs σ ct))) args s 0 0 (va_A (cN b qs qt qh qx :: cS qs σ ct) s.heap.size)) 0 0 26 [some (.ref b), some (.int a), some (.int (nI k)), some (.int (σ 3 k)), none, none, none, none] [.int (if (σ 3 k) < 0 then 0 else 1), .int a] (cN b qs qt qh qx :: cS qs σ ct) by
        refine z_iload_n hC dL_nodes_17 rfl ?_
        refine z_if_ge hC 25 dL_nodes_18 (by decide) (fun c18 => ?_) (fun c18 => ?_)
        · refine z_iconst (v := 1) hC dL_nodes_25 (by decide) ?_
          exact zG_s (by first | (rw [if_pos (c18)] <;> rfl) | (rw [if_neg (c18)] <;> rfl) | (rw [if_pos (i_nlt.mpr c18)] <;> rfl) | (rw [if_neg (i_nlt.mpr c18)] <;> rfl) | (rw [if_pos (c7)] <;> rfl) | (rw [if_neg (c7)] <;> rfl) | (rw [if_pos (i_nle.mp c7)] <;> rfl) | (rw [if_neg (i_nle.mp c7)] <;> rfl)) k26_1
        · refine z_iconst (v := 0) hC dL_nodes_21 (by decide) ?_
          refine z_goto hC 26 dL_nodes_22 (by decide) ?_
          exact zG_s (by first | (rw [if_pos (c18)] <;> rfl) | (rw [if_neg (c18)] <;> rfl) | (rw [if_pos (i_nle.mp c18)] <;> rfl) | (rw [if_neg (i_nle.mp c18)] <;> rfl) | (rw [if_pos (c7)] <;> rfl) | (rw [if_neg (c7)] <;> rfl) | (rw [if_pos (i_nle.mp c7)] <;> rfl) | (rw [if_neg (i_nle.mp c7)] <;> rfl)) k26_1
      refine z_iadd hC dL_nodes_26 ?_
      refine z_istore_n hC dL_nodes_27 (by decide) rfl ?_
      suffices k37_2 : zG p l e { frames := 7, cells := 0, slots := 0, locals := 153 } s m args below meth c D (va_A (cN b qs qt qh qx :: cS qs σ ct) s.heap.size) 8 (MQ below (zQ D ct (cN b qs qt qh qx :: cS qs σ ct) s.heap.size (zd (some (.int 1)) (cN b qs qt qh qx :: cS qs σ ct))) args s 0 0 (va_A (cN b qs qt qh qx :: cS qs σ ct) s.heap.size)) 0 0 37 [some (.ref b), some (.int (a + (if (σ 3 k) < 0 then 0 else 1))), some (.int (nI k)), some (.int (σ 3 k)), none, none, none, none] [.int (if (σ 3 k) < 0 then 0 else 1)] (cN b qs qt qh qx :: cS qs σ ct) by
        refine z_iload_n hC dL_nodes_28 rfl ?_
        refine z_if_lt hC 36 dL_nodes_29 (by decide) (fun c29 => ?_) (fun c29 => ?_)
        · refine z_iconst (v := 0) hC dL_nodes_36 (by decide) ?_
          exact zG_s (by first | (rw [if_pos (c29)] <;> rfl) | (rw [if_neg (c29)] <;> rfl) | (rw [if_pos (i_nle.mpr c29)] <;> rfl) | (rw [if_neg (i_nle.mpr c29)] <;> rfl) | (rw [if_pos (c7)] <;> rfl) | (rw [if_neg (c7)] <;> rfl) | (rw [if_pos (i_nle.mp c7)] <;> rfl) | (rw [if_neg (i_nle.mp c7)] <;> rfl)) k37_2
        · refine z_iconst (v := 1) hC dL_nodes_32 (by decide) ?_
          refine z_goto hC 37 dL_nodes_33 (by decide) ?_
          exact zG_s (by first | (rw [if_pos (c29)] <;> rfl) | (rw [if_neg (c29)] <;> rfl) | (rw [if_pos (i_nlt.mp c29)] <;> rfl) | (rw [if_neg (i_nlt.mp c29)] <;> rfl) | (rw [if_pos (c7)] <;> rfl) | (rw [if_neg (c7)] <;> rfl) | (rw [if_pos (i_nle.mp c7)] <;> rfl) | (rw [if_neg (i_nle.mp c7)] <;> rfl)) k37_2
      refine z_istore hC dL_nodes_37 (by decide) rfl ?_
      suffices k138_3 : zG p l e { frames := 7, cells := 0, slots := 0, locals := 153 } s m args below meth c D (va_A (cN b qs qt qh qx :: cS qs σ ct) s.heap.size) 8 (MQ below (zQ D ct (cN b qs qt qh qx :: cS qs σ ct) s.heap.size (zd (some (.int 1)) (cN b qs qt qh qx :: cS qs σ ct))) args s 0 0 (va_A (cN b qs qt qh qx :: cS qs σ ct) s.heap.size)) 0 0 138 [some (.ref b), some (.int (a + (if (σ 3 k) < 0 then 0 else 1))), some (.int (nI k)), some (.int (σ 3 k)), some (.int (if (σ 3 k) < 0 then 0 else 1)), none, none, none] [] (cN b qs qt qh qx :: cS qs σ ct) by
        rcases hnf with ⟨hk00, e3⟩ | ⟨hk0, e3, e4, es⟩ | ⟨p0, d0, u0, hk0, hp0, hpk, hd0, hu0, e3, e4, es⟩
        · refine z_iload_n hC dL_nodes_39 rfl ?_
          refine z_if_ne hC 71 dL_nodes_40 (by decide) (fun c40 => (c40 (by rw [hk00]; rfl)).elim) (fun c40 => ?_)
          refine z_iload hC dL_nodes_43 rfl ?_
          refine z_if_ne hC 136 dL_nodes_45 (by decide) (fun c45 => (c45 (by rw [e3, if_pos m1z])).elim) (fun c45 => ?_)
          refine z_aload_n hC dL_nodes_48 rfl ?_
          refine z_iconst (v := 0) hC dL_nodes_49 (by decide) ?_
          refine z_callH [0, 1, 2, 3, 4, 5, 6, 7, 8, 9, 10, 11, 12, 13, 14, 15, 16] hC (h_depth l D ct b qs qt qh qx σ 0 (by decide)) bw_82 bw_83 bw_62 bw_84 2 (by decide +kernel) rfl rfl rfl ⟨Nat.le_of_ble_eq_true rfl, Nat.le_of_ble_eq_true rfl⟩ (Nat.le_of_ble_eq_true rfl) ⟨Nat.le_of_ble_eq_true rfl, Nat.le_of_ble_eq_true rfl⟩ rfl dL_nodes_50 ?_
          refine zkq (G := fun v1 w1 => zG p l e _ s m args below meth c D _ _ _ _ _ _ _ (v1.toList ++ _) w1) rfl ?_
          refine z_if_ne hC 136 dL_nodes_53 (by decide) (fun c53 => (c53 hz.1).elim) (fun c53 => ?_)
          refine z_aload_n hC dL_nodes_56 rfl ?_
          refine z_iconst (v := 0) hC dL_nodes_57 (by decide) ?_
          refine z_callH [0, 1, 2, 3, 4, 5, 6, 7, 8, 9, 10, 11, 12, 13, 14, 15, 16] hC (h_clock l D ct b qs qt qh qx σ 0 (by decide)) bw_89 bw_90 bw_62 bw_91 2 (by decide +kernel) rfl rfl rfl ⟨Nat.le_of_ble_eq_true rfl, Nat.le_of_ble_eq_true rfl⟩ (Nat.le_of_ble_eq_true rfl) ⟨Nat.le_of_ble_eq_true rfl, Nat.le_of_ble_eq_true rfl⟩ rfl dL_nodes_58 ?_
          refine zkq (G := fun v1 w1 => zG p l e _ s m args below meth c D _ _ _ _ _ _ _ (v1.toList ++ _) w1) rfl ?_
          refine z_aload_n hC dL_nodes_61 rfl ?_
          refine z_callV [0, 1, 2, 3, 4, 5, 6, 7, 8, 9, 10, 11, 12, 13, 14, 15, 16] 0 4 hC (c_X4_time l D ct b qs qt qh qx σ) bw_96 bw_97 bw_98 bw_2 bw_99 0 (by decide +kernel) rfl rfl rfl rfl rfl ⟨Nat.le_of_ble_eq_true rfl, Nat.le_of_ble_eq_true rfl⟩ (Nat.le_of_ble_eq_true rfl) ⟨Nat.le_of_ble_eq_true rfl, Nat.le_of_ble_eq_true rfl⟩ rfl dL_nodes_62 ?_
          refine zkq (G := fun v1 w1 => zG p l e _ s m args below meth c D _ _ _ _ _ _ _ (v1.toList ++ _) w1) rfl ?_
          refine z_icmp_eq hC 138 dL_nodes_65 (by decide) (fun c65 => ?_) (fun c65 => (c65 (by rw [hz.2, Int32.add_zero])).elim)
          exact k138_3
        · refine z_iload_n hC dL_nodes_39 rfl ?_
          refine z_if_ne hC 71 dL_nodes_40 (by decide) (fun c40 => ?_) (fun c40 => absurd c40 (nI_ne0 hk0 (by omega)))
          refine z_iload hC dL_nodes_71 rfl ?_
          refine z_aload_n hC dL_nodes_73 rfl ?_
          refine z_iload_n hC dL_nodes_74 rfl ?_
          refine z_callH [0, 1, 2, 3, 4, 5, 6, 7, 8, 9, 10, 11, 12, 13, 14, 15, 16] hC (h_depth l D ct b qs qt qh qx σ k hk10) bw_82 bw_83 bw_62 bw_84 2 (by decide +kernel) rfl rfl rfl ⟨Nat.le_of_ble_eq_true rfl, Nat.le_of_ble_eq_true rfl⟩ (Nat.le_of_ble_eq_true rfl) ⟨Nat.le_of_ble_eq_true rfl, Nat.le_of_ble_eq_true rfl⟩ rfl dL_nodes_75 ?_
          refine zkq (G := fun v1 w1 => zG p l e _ s m args below meth c D _ _ _ _ _ _ _ (v1.toList ++ _) w1) rfl ?_
          suffices k86_4 : zG p l e { frames := 7, cells := 0, slots := 0, locals := 153 } s m args below meth c D (va_A (cN b qs qt qh qx :: cS qs σ ct) s.heap.size) 8 (MQ below (zQ D ct (cN b qs qt qh qx :: cS qs σ ct) s.heap.size (zd (some (.int 1)) (cN b qs qt qh qx :: cS qs σ ct))) args s 0 0 (va_A (cN b qs qt qh qx :: cS qs σ ct) s.heap.size)) 0 0 86 [some (.ref b), some (.int (a + (if (σ 3 k) < 0 then 0 else 1))), some (.int (nI k)), some (.int (σ 3 k)), some (.int (if (σ 3 k) < 0 then 0 else 1)), none, none, none] [.int (if (σ 4 k) < 0 then 0 else 1), .int (if (σ 3 k) < 0 then 0 else 1)] (cN b qs qt qh qx :: cS qs σ ct) by
            refine z_if_lt hC 85 dL_nodes_78 (by decide) (fun c78 => ?_) (fun c78 => ?_)
            · refine z_iconst (v := 0) hC dL_nodes_85 (by decide) ?_
              exact zG_s (by first | (rw [if_pos (c78)] <;> rfl) | (rw [if_neg (c78)] <;> rfl) | (rw [if_pos (i_nle.mpr c78)] <;> rfl) | (rw [if_neg (i_nle.mpr c78)] <;> rfl) | (rw [if_pos (c40)] <;> rfl) | (rw [if_neg (c40)] <;> rfl) | (rw [if_pos (c7)] <;> rfl) | (rw [if_neg (c7)] <;> rfl) | (rw [if_pos (i_nle.mp c7)] <;> rfl) | (rw [if_neg (i_nle.mp c7)] <;> rfl)) k86_4
            · refine z_iconst (v := 1) hC dL_nodes_81 (by decide) ?_
              refine z_goto hC 86 dL_nodes_82 (by decide) ?_
              exact zG_s (by first | (rw [if_pos (c78)] <;> rfl) | (rw [if_neg (c78)] <;> rfl) | (rw [if_pos (i_nlt.mp c78)] <;> rfl) | (rw [if_neg (i_nlt.mp c78)] <;> rfl) | (rw [if_pos (c40)] <;> rfl) | (rw [if_neg (c40)] <;> rfl) | (rw [if_pos (c7)] <;> rfl) | (rw [if_neg (c7)] <;> rfl) | (rw [if_pos (i_nle.mp c7)] <;> rfl) | (rw [if_neg (i_nle.mp c7)] <;> rfl)) k86_4
          refine z_icmp_ne hC 136 dL_nodes_86 (by decide) (fun c86 => (c86 (by rw [e3, e4])).elim) (fun c86 => ?_)
          refine z_iload hC dL_nodes_89 rfl ?_
          refine z_aload_n hC dL_nodes_91 rfl ?_
          refine z_iload_n hC dL_nodes_92 rfl ?_
          refine z_callH [0, 1, 2, 3, 4, 5, 6, 7, 8, 9, 10, 11, 12, 13, 14, 15, 16] hC (h_silence l D ct b qs qt qh qx σ k hk0 hk10) bw_100 bw_101 bw_62 bw_102 2 (by decide +kernel) rfl rfl rfl ⟨Nat.le_of_ble_eq_true rfl, Nat.le_of_ble_eq_true rfl⟩ (Nat.le_of_ble_eq_true rfl) ⟨Nat.le_of_ble_eq_true rfl, Nat.le_of_ble_eq_true rfl⟩ rfl dL_nodes_93 ?_
          refine zkq (G := fun v1 w1 => zG p l e _ s m args below meth c D _ _ _ _ _ _ _ (v1.toList ++ _) w1) rfl ?_
          suffices k104_5 : zG p l e { frames := 7, cells := 0, slots := 0, locals := 153 } s m args below meth c D (va_A (cN b qs qt qh qx :: cS qs σ ct) s.heap.size) 8 (MQ below (zQ D ct (cN b qs qt qh qx :: cS qs σ ct) s.heap.size (zd (some (.int 1)) (cN b qs qt qh qx :: cS qs σ ct))) args s 0 0 (va_A (cN b qs qt qh qx :: cS qs σ ct) s.heap.size)) 0 0 104 [some (.ref b), some (.int (a + (if (σ 3 k) < 0 then 0 else 1))), some (.int (nI k)), some (.int (σ 3 k)), some (.int (if (σ 3 k) < 0 then 0 else 1)), none, none, none] [.int (if (silV σ k) < 0 then 0 else 1), .int (if (σ 3 k) < 0 then 0 else 1)] (cN b qs qt qh qx :: cS qs σ ct) by
            refine z_if_lt hC 103 dL_nodes_96 (by decide) (fun c96 => ?_) (fun c96 => ?_)
            · refine z_iconst (v := 0) hC dL_nodes_103 (by decide) ?_
              exact zG_s (by first | (rw [if_pos (c96)] <;> rfl) | (rw [if_neg (c96)] <;> rfl) | (rw [if_pos (i_nle.mpr c96)] <;> rfl) | (rw [if_neg (i_nle.mpr c96)] <;> rfl) | (rw [if_pos (c86)] <;> rfl) | (rw [if_neg (c86)] <;> rfl) | (rw [if_pos (c40)] <;> rfl) | (rw [if_neg (c40)] <;> rfl) | (rw [if_pos (c7)] <;> rfl) | (rw [if_neg (c7)] <;> rfl) | (rw [if_pos (i_nle.mp c7)] <;> rfl) | (rw [if_neg (i_nle.mp c7)] <;> rfl)) k104_5
            · refine z_iconst (v := 1) hC dL_nodes_99 (by decide) ?_
              refine z_goto hC 104 dL_nodes_100 (by decide) ?_
              exact zG_s (by first | (rw [if_pos (c96)] <;> rfl) | (rw [if_neg (c96)] <;> rfl) | (rw [if_pos (i_nlt.mp c96)] <;> rfl) | (rw [if_neg (i_nlt.mp c96)] <;> rfl) | (rw [if_pos (c86)] <;> rfl) | (rw [if_neg (c86)] <;> rfl) | (rw [if_pos (c40)] <;> rfl) | (rw [if_neg (c40)] <;> rfl) | (rw [if_pos (c7)] <;> rfl) | (rw [if_neg (c7)] <;> rfl) | (rw [if_pos (i_nle.mp c7)] <;> rfl) | (rw [if_neg (i_nle.mp c7)] <;> rfl)) k104_5
          refine z_icmp_ne hC 136 dL_nodes_104 (by decide) (fun c104 => (c104 (by rw [e3, es])).elim) (fun c104 => ?_)
          refine z_iload hC dL_nodes_107 rfl ?_
          refine z_if_eq hC 138 dL_nodes_109 (by decide) (fun c109 => ?_) (fun c109 => (c109 (by rw [e3, if_pos m1z])).elim)
          exact k138_3
        · refine z_iload_n hC dL_nodes_39 rfl ?_
          refine z_if_ne hC 71 dL_nodes_40 (by decide) (fun c40 => ?_) (fun c40 => absurd c40 (nI_ne0 hk0 (by omega)))
          refine z_iload hC dL_nodes_71 rfl ?_
          refine z_aload_n hC dL_nodes_73 rfl ?_
          refine z_iload_n hC dL_nodes_74 rfl ?_
          refine z_callH [0, 1, 2, 3, 4, 5, 6, 7, 8, 9, 10, 11, 12, 13, 14, 15, 16] hC (h_depth l D ct b qs qt qh qx σ k hk10) bw_82 bw_83 bw_62 bw_84 2 (by decide +kernel) rfl rfl rfl ⟨Nat.le_of_ble_eq_true rfl, Nat.le_of_ble_eq_true rfl⟩ (Nat.le_of_ble_eq_true rfl) ⟨Nat.le_of_ble_eq_true rfl, Nat.le_of_ble_eq_true rfl⟩ rfl dL_nodes_75 ?_
          refine zkq (G := fun v1 w1 => zG p l e _ s m args below meth c D _ _ _ _ _ _ _ (v1.toList ++ _) w1) rfl ?_
          suffices k86_6 : zG p l e { frames := 7, cells := 0, slots := 0, locals := 153 } s m args below meth c D (va_A (cN b qs qt qh qx :: cS qs σ ct) s.heap.size) 8 (MQ below (zQ D ct (cN b qs qt qh qx :: cS qs σ ct) s.heap.size (zd (some (.int 1)) (cN b qs qt qh qx :: cS qs σ ct))) args s 0 0 (va_A (cN b qs qt qh qx :: cS qs σ ct) s.heap.size)) 0 0 86 [some (.ref b), some (.int (a + (if (σ 3 k) < 0 then 0 else 1))), some (.int (nI k)), some (.int (σ 3 k)), some (.int (if (σ 3 k) < 0 then 0 else 1)), none, none, none] [.int (if (σ 4 k) < 0 then 0 else 1), .int (if (σ 3 k) < 0 then 0 else 1)] (cN b qs qt qh qx :: cS qs σ ct) by
            refine z_if_lt hC 85 dL_nodes_78 (by decide) (fun c78 => ?_) (fun c78 => ?_)
            · refine z_iconst (v := 0) hC dL_nodes_85 (by decide) ?_
              exact zG_s (by first | (rw [if_pos (c78)] <;> rfl) | (rw [if_neg (c78)] <;> rfl) | (rw [if_pos (i_nle.mpr c78)] <;> rfl) | (rw [if_neg (i_nle.mpr c78)] <;> rfl) | (rw [if_pos (c40)] <;> rfl) | (rw [if_neg (c40)] <;> rfl) | (rw [if_pos (c7)] <;> rfl) | (rw [if_neg (c7)] <;> rfl) | (rw [if_pos (i_nle.mp c7)] <;> rfl) | (rw [if_neg (i_nle.mp c7)] <;> rfl)) k86_6
            · refine z_iconst (v := 1) hC dL_nodes_81 (by decide) ?_
              refine z_goto hC 86 dL_nodes_82 (by decide) ?_
              exact zG_s (by first | (rw [if_pos (c78)] <;> rfl) | (rw [if_neg (c78)] <;> rfl) | (rw [if_pos (i_nlt.mp c78)] <;> rfl) | (rw [if_neg (i_nlt.mp c78)] <;> rfl) | (rw [if_pos (c40)] <;> rfl) | (rw [if_neg (c40)] <;> rfl) | (rw [if_pos (c7)] <;> rfl) | (rw [if_neg (c7)] <;> rfl) | (rw [if_pos (i_nle.mp c7)] <;> rfl) | (rw [if_neg (i_nle.mp c7)] <;> rfl)) k86_6
          refine z_icmp_ne hC 136 dL_nodes_86 (by decide) (fun c86 => (c86 (by rw [e3, e4, if_neg (nI_pos (by omega)), if_neg (nI_pos (by omega))])).elim) (fun c86 => ?_)
          refine z_iload hC dL_nodes_89 rfl ?_
          refine z_aload_n hC dL_nodes_91 rfl ?_
          refine z_iload_n hC dL_nodes_92 rfl ?_
          refine z_callH [0, 1, 2, 3, 4, 5, 6, 7, 8, 9, 10, 11, 12, 13, 14, 15, 16] hC (h_silence l D ct b qs qt qh qx σ k hk0 hk10) bw_100 bw_101 bw_62 bw_102 2 (by decide +kernel) rfl rfl rfl ⟨Nat.le_of_ble_eq_true rfl, Nat.le_of_ble_eq_true rfl⟩ (Nat.le_of_ble_eq_true rfl) ⟨Nat.le_of_ble_eq_true rfl, Nat.le_of_ble_eq_true rfl⟩ rfl dL_nodes_93 ?_
          refine zkq (G := fun v1 w1 => zG p l e _ s m args below meth c D _ _ _ _ _ _ _ (v1.toList ++ _) w1) rfl ?_
          suffices k104_7 : zG p l e { frames := 7, cells := 0, slots := 0, locals := 153 } s m args below meth c D (va_A (cN b qs qt qh qx :: cS qs σ ct) s.heap.size) 8 (MQ below (zQ D ct (cN b qs qt qh qx :: cS qs σ ct) s.heap.size (zd (some (.int 1)) (cN b qs qt qh qx :: cS qs σ ct))) args s 0 0 (va_A (cN b qs qt qh qx :: cS qs σ ct) s.heap.size)) 0 0 104 [some (.ref b), some (.int (a + (if (σ 3 k) < 0 then 0 else 1))), some (.int (nI k)), some (.int (σ 3 k)), some (.int (if (σ 3 k) < 0 then 0 else 1)), none, none, none] [.int (if (silV σ k) < 0 then 0 else 1), .int (if (σ 3 k) < 0 then 0 else 1)] (cN b qs qt qh qx :: cS qs σ ct) by
            refine z_if_lt hC 103 dL_nodes_96 (by decide) (fun c96 => ?_) (fun c96 => ?_)
            · refine z_iconst (v := 0) hC dL_nodes_103 (by decide) ?_
              exact zG_s (by first | (rw [if_pos (c96)] <;> rfl) | (rw [if_neg (c96)] <;> rfl) | (rw [if_pos (i_nle.mpr c96)] <;> rfl) | (rw [if_neg (i_nle.mpr c96)] <;> rfl) | (rw [if_pos (c86)] <;> rfl) | (rw [if_neg (c86)] <;> rfl) | (rw [if_pos (c40)] <;> rfl) | (rw [if_neg (c40)] <;> rfl) | (rw [if_pos (c7)] <;> rfl) | (rw [if_neg (c7)] <;> rfl) | (rw [if_pos (i_nle.mp c7)] <;> rfl) | (rw [if_neg (i_nle.mp c7)] <;> rfl)) k104_7
            · refine z_iconst (v := 1) hC dL_nodes_99 (by decide) ?_
              refine z_goto hC 104 dL_nodes_100 (by decide) ?_
              exact zG_s (by first | (rw [if_pos (c96)] <;> rfl) | (rw [if_neg (c96)] <;> rfl) | (rw [if_pos (i_nlt.mp c96)] <;> rfl) | (rw [if_neg (i_nlt.mp c96)] <;> rfl) | (rw [if_pos (c86)] <;> rfl) | (rw [if_neg (c86)] <;> rfl) | (rw [if_pos (c40)] <;> rfl) | (rw [if_neg (c40)] <;> rfl) | (rw [if_pos (c7)] <;> rfl) | (rw [if_neg (c7)] <;> rfl) | (rw [if_pos (i_nle.mp c7)] <;> rfl) | (rw [if_neg (i_nle.mp c7)] <;> rfl)) k104_7
          refine z_icmp_ne hC 136 dL_nodes_104 (by decide) (fun c104 => (c104 (by rw [e3, es, if_neg (nI_pos (by omega)), if_neg (nI_pos (by omega))])).elim) (fun c104 => ?_)
          refine z_iload hC dL_nodes_107 rfl ?_
          refine z_if_eq hC 138 dL_nodes_109 (by decide) (fun c109 => absurd c109 (by rw [e3, if_neg (nI_pos (by omega))]; decide)) (fun c109 => ?_)
          refine z_aload_n hC dL_nodes_112 rfl ?_
          refine z_iload_n hC dL_nodes_113 rfl ?_
          refine z_callH [0, 1, 2, 3, 4, 5, 6, 7, 8, 9, 10, 11, 12, 13, 14, 15, 16] hC (h_depth l D ct b qs qt qh qx σ k hk10) bw_82 bw_83 bw_62 bw_84 2 (by decide +kernel) rfl rfl rfl ⟨Nat.le_of_ble_eq_true rfl, Nat.le_of_ble_eq_true rfl⟩ (Nat.le_of_ble_eq_true rfl) ⟨Nat.le_of_ble_eq_true rfl, Nat.le_of_ble_eq_true rfl⟩ rfl dL_nodes_114 ?_
          refine zkq (G := fun v1 w1 => zG p l e _ s m args below meth c D _ _ _ _ _ _ _ (v1.toList ++ _) w1) rfl ?_
          refine z_iconst (v := 1) hC dL_nodes_117 (by decide) ?_
          refine z_icmp_lt hC 136 dL_nodes_118 (by decide) (fun c118 => absurd c118 (by rw [e4]; exact nI_nlt (a := d0 + 1) (b := 1) (by omega) (by omega))) (fun c118 => ?_)
          refine z_aload_n hC dL_nodes_121 rfl ?_
          refine z_iload_n hC dL_nodes_122 rfl ?_
          refine z_callH [0, 1, 2, 3, 4, 5, 6, 7, 8, 9, 10, 11, 12, 13, 14, 15, 16] hC (h_depth l D ct b qs qt qh qx σ k hk10) bw_82 bw_83 bw_62 bw_84 2 (by decide +kernel) rfl rfl rfl ⟨Nat.le_of_ble_eq_true rfl, Nat.le_of_ble_eq_true rfl⟩ (Nat.le_of_ble_eq_true rfl) ⟨Nat.le_of_ble_eq_true rfl, Nat.le_of_ble_eq_true rfl⟩ rfl dL_nodes_123 ?_
          refine zkq (G := fun v1 w1 => zG p l e _ s m args below meth c D _ _ _ _ _ _ _ (v1.toList ++ _) w1) rfl ?_
          refine z_bipush (v := 9) hC dL_nodes_126 (by decide) ?_
          refine z_icmp_gt hC 136 dL_nodes_128 (by decide) (fun c128 => absurd c128 (by rw [e4]; exact nI_nlt (a := 9) (b := d0 + 1) (by omega) (by omega))) (fun c128 => ?_)
          refine z_iload_n hC dL_nodes_131 rfl ?_
          refine z_iload_n hC dL_nodes_132 rfl ?_
          refine z_icmp_ne hC 138 dL_nodes_133 (by decide) (fun c133 => ?_) (fun c133 => absurd c133 (by rw [e3]; exact fun z => hpk ((nI_eq (by omega) (by omega)).mp z)))
          exact k138_3
      refine z_iconst (v := (-1)) hC dL_nodes_138 (by decide) ?_
      refine z_istore hC dL_nodes_139 (by decide) rfl ?_
      refine z_iconst (v := 0) hC dL_nodes_141 (by decide) ?_
      refine z_istore hC dL_nodes_142 (by decide) rfl ?_
      have loop144 : ∀ (kf2 i : Nat) (nr : Int32) (hki2 : kf2 + i = 10) (hN : kfor (nst σ k) kf2 i nr = near σ k), zG p l e { frames := 7, cells := 0, slots := 0, locals := 153 } s m args below meth c D (va_A (cN b qs qt qh qx :: cS qs σ ct) s.heap.size) 8 (MQ below (zQ D ct (cN b qs qt qh qx :: cS qs σ ct) s.heap.size (zd (some (.int 1)) (cN b qs qt qh qx :: cS qs σ ct))) args s 0 0 (va_A (cN b qs qt qh qx :: cS qs σ ct) s.heap.size)) 0 0 144 [some (.ref b), some (.int (a + (if (σ 3 k) < 0 then 0 else 1))), some (.int (nI k)), some (.int (σ 3 k)), some (.int (if (σ 3 k) < 0 then 0 else 1)), some (.int nr), some (.int (nI i)), none] [] (cN b qs qt qh qx :: cS qs σ ct) := by
        intro kf2
        induction kf2 with
        | zero =>
          intro i nr hki2 hN
          refine z_iload hC dL_nodes_144 rfl ?_
          refine z_bipush (v := 10) hC dL_nodes_146 (by decide) ?_
          refine z_icmp_ge hC 234 dL_nodes_148 (by decide) (fun c148 => ?_) (fun c148 => absurd (kge 10 rfl (by omega) (by omega)) c148)
          suffices k273_8 : zG p l e { frames := 7, cells := 0, slots := 0, locals := 153 } s m args below meth c D (va_A (cN b qs qt qh qx :: cS qs σ ct) s.heap.size) 8 (MQ below (zQ D ct (cN b qs qt qh qx :: cS qs σ ct) s.heap.size (zd (some (.int 1)) (cN b qs qt qh qx :: cS qs σ ct))) args s 0 0 (va_A (cN b qs qt qh qx :: cS qs σ ct) s.heap.size)) 0 0 273 [some (.ref b), some (.int (a + (if (σ 3 k) < 0 then 0 else 1))), some (.int (nI k)), some (.int (σ 3 k)), some (.int (if (σ 3 k) < 0 then 0 else 1)), some (.int nr), some (.int (nI i)), none] [] (cN b qs qt qh qx :: cS qs σ ct) by
            rcases Nat.eq_zero_or_pos k with hk00 | hk0
            · refine z_iload_n hC dL_nodes_234 rfl ?_
              refine z_if_le hC 259 dL_nodes_235 (by decide) (fun c235 => ?_) (fun c235 => (c235 (by rw [hk00]; decide)).elim)
              refine z_iload_n hC dL_nodes_259 rfl ?_
              refine z_if_ne hC 273 dL_nodes_260 (by decide) (fun c260 => (c260 (by rw [hk00]; rfl)).elim) (fun c260 => ?_)
              refine z_aload_n hC dL_nodes_263 rfl ?_
              refine z_iconst (v := 0) hC dL_nodes_264 (by decide) ?_
              refine z_callH [0, 1, 2, 3, 4, 5, 6, 7, 8, 9, 10, 11, 12, 13, 14, 15, 16] hC (h_hops l D ct b qs qt qh qx σ 0 (by decide)) bw_121 bw_122 bw_62 bw_123 2 (by decide +kernel) rfl rfl rfl ⟨Nat.le_of_ble_eq_true rfl, Nat.le_of_ble_eq_true rfl⟩ (Nat.le_of_ble_eq_true rfl) ⟨Nat.le_of_ble_eq_true rfl, Nat.le_of_ble_eq_true rfl⟩ rfl dL_nodes_265 ?_
              refine zkq (G := fun v1 w1 => zG p l e _ s m args below meth c D _ _ _ _ _ _ _ (v1.toList ++ _) w1) rfl ?_
              refine z_if_le hC 273 dL_nodes_268 (by decide) (fun c268 => ?_) (fun c268 => (c268 (i_nlt.mp hops_0)).elim)
              exact k273_8
            · refine z_iload_n hC dL_nodes_234 rfl ?_
              refine z_if_le hC 259 dL_nodes_235 (by decide) (fun c235 => absurd c235 (nI_nle hk0 (by omega))) (fun c235 => ?_)
              refine z_aload_n hC dL_nodes_238 rfl ?_
              refine z_iload_n hC dL_nodes_239 rfl ?_
              refine z_callH [0, 1, 2, 3, 4, 5, 6, 7, 8, 9, 10, 11, 12, 13, 14, 15, 16] hC (h_hops l D ct b qs qt qh qx σ k hk10) bw_121 bw_122 bw_62 bw_123 2 (by decide +kernel) rfl rfl rfl ⟨Nat.le_of_ble_eq_true rfl, Nat.le_of_ble_eq_true rfl⟩ (Nat.le_of_ble_eq_true rfl) ⟨Nat.le_of_ble_eq_true rfl, Nat.le_of_ble_eq_true rfl⟩ rfl dL_nodes_240 ?_
              refine zkq (G := fun v1 w1 => zG p l e _ s m args below meth c D _ _ _ _ _ _ _ (v1.toList ++ _) w1) rfl ?_
              suffices k256_9 : zG p l e { frames := 7, cells := 0, slots := 0, locals := 153 } s m args below meth c D (va_A (cN b qs qt qh qx :: cS qs σ ct) s.heap.size) 8 (MQ below (zQ D ct (cN b qs qt qh qx :: cS qs σ ct) s.heap.size (zd (some (.int 1)) (cN b qs qt qh qx :: cS qs σ ct))) args s 0 0 (va_A (cN b qs qt qh qx :: cS qs σ ct) s.heap.size)) 0 0 256 [some (.ref b), some (.int (a + (if (σ 3 k) < 0 then 0 else 1))), some (.int (nI k)), some (.int (σ 3 k)), some (.int (if (σ 3 k) < 0 then 0 else 1)), some (.int nr), some (.int (nI i)), none] [.int (if nr < 0 then -1 else nr + 1), .int (msHops σ (nI k))] (cN b qs qt qh qx :: cS qs σ ct) by
                refine z_iload hC dL_nodes_243 rfl ?_
                refine z_if_ge hC 252 dL_nodes_245 (by decide) (fun c245 => ?_) (fun c245 => ?_)
                · refine z_iload hC dL_nodes_252 rfl ?_
                  refine z_iconst (v := 1) hC dL_nodes_254 (by decide) ?_
                  refine z_iadd hC dL_nodes_255 ?_
                  exact zG_s (by first | (rw [if_pos (c245)] <;> rfl) | (rw [if_neg (c245)] <;> rfl) | (rw [if_pos (i_nlt.mpr c245)] <;> rfl) | (rw [if_neg (i_nlt.mpr c245)] <;> rfl) | (rw [if_pos (c235)] <;> rfl) | (rw [if_neg (c235)] <;> rfl) | (rw [if_pos (i_nle.mp c235)] <;> rfl) | (rw [if_neg (i_nle.mp c235)] <;> rfl) | (rw [if_pos (c148)] <;> rfl) | (rw [if_neg (c148)] <;> rfl) | (rw [if_pos (i_nlt.mpr c148)] <;> rfl) | (rw [if_neg (i_nlt.mpr c148)] <;> rfl) | (rw [if_pos (c7)] <;> rfl) | (rw [if_neg (c7)] <;> rfl) | (rw [if_pos (i_nle.mp c7)] <;> rfl) | (rw [if_neg (i_nle.mp c7)] <;> rfl)) k256_9
                · refine z_iconst (v := (-1)) hC dL_nodes_248 (by decide) ?_
                  refine z_goto hC 256 dL_nodes_249 (by decide) ?_
                  exact zG_s (by first | (rw [if_pos (c245)] <;> rfl) | (rw [if_neg (c245)] <;> rfl) | (rw [if_pos (i_nle.mp c245)] <;> rfl) | (rw [if_neg (i_nle.mp c245)] <;> rfl) | (rw [if_pos (c235)] <;> rfl) | (rw [if_neg (c235)] <;> rfl) | (rw [if_pos (i_nle.mp c235)] <;> rfl) | (rw [if_neg (i_nle.mp c235)] <;> rfl) | (rw [if_pos (c148)] <;> rfl) | (rw [if_neg (c148)] <;> rfl) | (rw [if_pos (i_nlt.mpr c148)] <;> rfl) | (rw [if_neg (i_nlt.mpr c148)] <;> rfl) | (rw [if_pos (c7)] <;> rfl) | (rw [if_neg (c7)] <;> rfl) | (rw [if_pos (i_nle.mp c7)] <;> rfl) | (rw [if_neg (i_nle.mp c7)] <;> rfl)) k256_9
              refine z_icmp_ne hC 271 dL_nodes_256 (by decide) (fun c256 => (c256 (by rw [show nr = near σ k from hN]; exact hops_near hL hk0 hk10)).elim) (fun c256 => ?_)
              refine z_iload_n hC dL_nodes_259 rfl ?_
              refine z_if_ne hC 273 dL_nodes_260 (by decide) (fun c260 => ?_) (fun c260 => absurd c260 (nI_ne0 hk0 (by omega)))
              exact k273_8
          refine z_iinc (cn := 1) hC dL_nodes_273 (by decide) (by decide) rfl rfl ?_
          refine z_goto hC 4 dL_nodes_276 (by decide) ?_
          rw [nI_1]
          exact z_wk (ls_s (ls_s (ls_s (ls_n (ls_n (ls_n (ls_n (ls_n ls_0)))))))) (ih (k + 1) _ (by omega) hA)
        | succ kf2 ih2 =>
          intro i nr hki2 hN
          refine z_iload hC dL_nodes_144 rfl ?_
          refine z_bipush (v := 10) hC dL_nodes_146 (by decide) ?_
          refine z_icmp_ge hC 234 dL_nodes_148 (by decide) (fun c148 => absurd c148 (klt 10 rfl (by omega) (by decide))) (fun c148 => ?_)
          have hm10 : i < 10 := by omega
          refine z_aload_n hC dL_nodes_151 rfl ?_
          refine z_iload_n hC dL_nodes_152 rfl ?_
          refine z_iload hC dL_nodes_153 rfl ?_
          refine z_callV [0, 1, 2, 3, 4, 5, 6, 7, 8, 9, 10, 11, 12, 13, 14, 15, 16] 0 4 hC (c_X4_isConnected l D ct b qs qt qh qx σ (nI k) (nI i) (nodeI hk10) (nodeI hm10)) bw_110 bw_111 bw_112 bw_2 bw_113 2 (by decide +kernel) rfl rfl rfl rfl rfl ⟨Nat.le_of_ble_eq_true rfl, Nat.le_of_ble_eq_true rfl⟩ (Nat.le_of_ble_eq_true rfl) ⟨Nat.le_of_ble_eq_true rfl, Nat.le_of_ble_eq_true rfl⟩ rfl dL_nodes_155 ?_
          refine zkq (G := fun v1 w1 => zG p l e _ s m args below meth c D _ _ _ _ _ _ _ (v1.toList ++ _) w1) rfl ?_
          refine z_istore hC dL_nodes_158 (by decide) rfl ?_
          suffices k201_10 : zG p l e { frames := 7, cells := 0, slots := 0, locals := 153 } s m args below meth c D (va_A (cN b qs qt qh qx :: cS qs σ ct) s.heap.size) 8 (MQ below (zQ D ct (cN b qs qt qh qx :: cS qs σ ct) s.heap.size (zd (some (.int 1)) (cN b qs qt qh qx :: cS qs σ ct))) args s 0 0 (va_A (cN b qs qt qh qx :: cS qs σ ct) s.heap.size)) 0 0 201 [some (.ref b), some (.int (a + (if (σ 3 k) < 0 then 0 else 1))), some (.int (nI k)), some (.int (σ 3 k)), some (.int (if (σ 3 k) < 0 then 0 else 1)), some (.int nr), some (.int (nI i)), some (.int (bI (msConn σ (nI k) (nI i))))] [.int (nst σ k i nr)] (cN b qs qt qh qx :: cS qs σ ct) by
            refine z_iload hC dL_nodes_160 rfl ?_
            refine z_if_eq hC 199 dL_nodes_162 (by decide) (fun c162 => ?_) (fun c162 => ?_)
            · rw [bI_0] at c162
              refine z_iload hC dL_nodes_199 rfl ?_
              exact zG_s (by simp [nst, c7, c148, c162, i_nle.mp c7, i_nle.mp c148]) k201_10
            · rw [bI_1] at c162
              refine z_aload_n hC dL_nodes_165 rfl ?_
              refine z_iload hC dL_nodes_166 rfl ?_
              refine z_callH [0, 1, 2, 3, 4, 5, 6, 7, 8, 9, 10, 11, 12, 13, 14, 15, 16] hC (h_hops l D ct b qs qt qh qx σ i hm10) bw_121 bw_122 bw_62 bw_123 2 (by decide +kernel) rfl rfl rfl ⟨Nat.le_of_ble_eq_true rfl, Nat.le_of_ble_eq_true rfl⟩ (Nat.le_of_ble_eq_true rfl) ⟨Nat.le_of_ble_eq_true rfl, Nat.le_of_ble_eq_true rfl⟩ rfl dL_nodes_168 ?_
              refine zkq (G := fun v1 w1 => zG p l e _ s m args below meth c D _ _ _ _ _ _ _ (v1.toList ++ _) w1) rfl ?_
              refine z_if_lt hC 199 dL_nodes_171 (by decide) (fun c171 => ?_) (fun c171 => ?_)
              · refine z_iload hC dL_nodes_199 rfl ?_
                exact zG_s (by simp [nst, c7, c148, c162, c171, i_nle.mp c7, i_nle.mp c148, i_nle.mpr c171]) k201_10
              · refine z_iload hC dL_nodes_174 rfl ?_
                refine z_if_lt hC 190 dL_nodes_176 (by decide) (fun c176 => ?_) (fun c176 => ?_)
                · refine z_aload_n hC dL_nodes_190 rfl ?_
                  refine z_iload hC dL_nodes_191 rfl ?_
                  refine z_callH [0, 1, 2, 3, 4, 5, 6, 7, 8, 9, 10, 11, 12, 13, 14, 15, 16] hC (h_hops l D ct b qs qt qh qx σ i hm10) bw_121 bw_122 bw_62 bw_123 2 (by decide +kernel) rfl rfl rfl ⟨Nat.le_of_ble_eq_true rfl, Nat.le_of_ble_eq_true rfl⟩ (Nat.le_of_ble_eq_true rfl) ⟨Nat.le_of_ble_eq_true rfl, Nat.le_of_ble_eq_true rfl⟩ rfl dL_nodes_193 ?_
                  refine zkq (G := fun v1 w1 => zG p l e _ s m args below meth c D _ _ _ _ _ _ _ (v1.toList ++ _) w1) rfl ?_
                  refine z_goto hC 201 dL_nodes_196 (by decide) ?_
                  exact zG_s (by simp [nst, c7, c148, c162, c171, c176, i_nle.mp c7, i_nle.mp c148, i_nlt.mp c171, i_nle.mpr c176]) k201_10
                · refine z_aload_n hC dL_nodes_179 rfl ?_
                  refine z_iload hC dL_nodes_180 rfl ?_
                  refine z_callH [0, 1, 2, 3, 4, 5, 6, 7, 8, 9, 10, 11, 12, 13, 14, 15, 16] hC (h_hops l D ct b qs qt qh qx σ i hm10) bw_121 bw_122 bw_62 bw_123 2 (by decide +kernel) rfl rfl rfl ⟨Nat.le_of_ble_eq_true rfl, Nat.le_of_ble_eq_true rfl⟩ (Nat.le_of_ble_eq_true rfl) ⟨Nat.le_of_ble_eq_true rfl, Nat.le_of_ble_eq_true rfl⟩ rfl dL_nodes_182 ?_
                  refine zkq (G := fun v1 w1 => zG p l e _ s m args below meth c D _ _ _ _ _ _ _ (v1.toList ++ _) w1) rfl ?_
                  refine z_iload hC dL_nodes_185 rfl ?_
                  refine z_icmp_ge hC 199 dL_nodes_187 (by decide) (fun c187 => ?_) (fun c187 => ?_)
                  · refine z_iload hC dL_nodes_199 rfl ?_
                    exact zG_s (by simp [nst, c7, c148, c162, c171, c176, c187, i_nle.mp c7, i_nle.mp c148, i_nlt.mp c171, i_nlt.mp c176, i_nlt.mpr c187]) k201_10
                  · refine z_aload_n hC dL_nodes_190 rfl ?_
                    refine z_iload hC dL_nodes_191 rfl ?_
                    refine z_callH [0, 1, 2, 3, 4, 5, 6, 7, 8, 9, 10, 11, 12, 13, 14, 15, 16] hC (h_hops l D ct b qs qt qh qx σ i hm10) bw_121 bw_122 bw_62 bw_123 2 (by decide +kernel) rfl rfl rfl ⟨Nat.le_of_ble_eq_true rfl, Nat.le_of_ble_eq_true rfl⟩ (Nat.le_of_ble_eq_true rfl) ⟨Nat.le_of_ble_eq_true rfl, Nat.le_of_ble_eq_true rfl⟩ rfl dL_nodes_193 ?_
                    refine zkq (G := fun v1 w1 => zG p l e _ s m args below meth c D _ _ _ _ _ _ _ (v1.toList ++ _) w1) rfl ?_
                    refine z_goto hC 201 dL_nodes_196 (by decide) ?_
                    exact zG_s (by simp [nst, c7, c148, c162, c171, c176, c187, i_nle.mp c7, i_nle.mp c148, i_nlt.mp c171, i_nlt.mp c176, i_nle.mp c187]) k201_10
          refine z_istore hC dL_nodes_201 (by decide) rfl ?_
          refine z_iload hC dL_nodes_203 rfl ?_
          refine z_aload_n hC dL_nodes_205 rfl ?_
          refine z_iload hC dL_nodes_206 rfl ?_
          refine z_iload_n hC dL_nodes_208 rfl ?_
          refine z_callV [0, 1, 2, 3, 4, 5, 6, 7, 8, 9, 10, 11, 12, 13, 14, 15, 16] 0 4 hC (c_X4_isConnected l D ct b qs qt qh qx σ (nI i) (nI k) (nodeI hm10) (nodeI hk10)) bw_110 bw_111 bw_112 bw_2 bw_113 2 (by decide +kernel) rfl rfl rfl rfl rfl ⟨Nat.le_of_ble_eq_true rfl, Nat.le_of_ble_eq_true rfl⟩ (Nat.le_of_ble_eq_true rfl) ⟨Nat.le_of_ble_eq_true rfl, Nat.le_of_ble_eq_true rfl⟩ rfl dL_nodes_209 ?_
          refine zkq (G := fun v1 w1 => zG p l e _ s m args below meth c D _ _ _ _ _ _ _ (v1.toList ++ _) w1) rfl ?_
          refine z_icmp_ne hC 226 dL_nodes_212 (by decide) (fun c212 => (c212 (by rw [conn_sym hL hk10 hm10])).elim) (fun c212 => ?_)
          suffices k228_11 : zG p l e { frames := 7, cells := 0, slots := 0, locals := 153 } s m args below meth c D (va_A (cN b qs qt qh qx :: cS qs σ ct) s.heap.size) 8 (MQ below (zQ D ct (cN b qs qt qh qx :: cS qs σ ct) s.heap.size (zd (some (.int 1)) (cN b qs qt qh qx :: cS qs σ ct))) args s 0 0 (va_A (cN b qs qt qh qx :: cS qs σ ct) s.heap.size)) 0 0 228 [some (.ref b), some (.int (a + (if (σ 3 k) < 0 then 0 else 1))), some (.int (nI k)), some (.int (σ 3 k)), some (.int (if (σ 3 k) < 0 then 0 else 1)), some (.int (nst σ k i nr)), some (.int (nI i)), some (.int (bI (msConn σ (nI k) (nI i))))] [] (cN b qs qt qh qx :: cS qs σ ct) by
            refine z_iload hC dL_nodes_215 rfl ?_
            refine z_if_eq hC 228 dL_nodes_217 (by decide) (fun c217 => ?_) (fun c217 => ?_)
            · rw [bI_0] at c217
              exact k228_11
            · rw [bI_1] at c217
              refine z_iload_n hC dL_nodes_220 rfl ?_
              refine z_iload hC dL_nodes_221 rfl ?_
              refine z_icmp_ne hC 228 dL_nodes_223 (by decide) (fun c223 => ?_) (fun c223 => absurd c223 (fun z => conn_ne hL hk10 hm10 c217 ((nI_eq (by omega) (by omega)).mp z)))
              exact k228_11
          refine z_iinc (cn := 1) hC dL_nodes_228 (by decide) (by decide) rfl rfl ?_
          refine z_goto hC 144 dL_nodes_231 (by decide) ?_
          rw [nI_1]
          exact z_wk (ls_s (ls_s (ls_s (ls_s (ls_s (ls_s (ls_s (ls_n ls_0)))))))) (ih2 (i + 1) _ (by omega) hN)
      exact loop144 10 0 (-1) rfl rfl
  exact z_wk (fun _ _ h => h) (loop4 10 0 0 rfl (jst_form hF))
