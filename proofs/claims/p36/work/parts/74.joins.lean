/-! P36: THE LAW'S joins -/
theorem Inv_f {σ : TB} {B : Nat} (h : Inv B σ) {m : Nat} (hm : m < 10) : ∃ f, f ≤ 9 ∧ σ 7 m = nI f := by
  obtain ⟨-, t, -, j, -⟩ := h
  exact (j.2.2.2.2.2.2.2 m hm).1
theorem j_t {σ : TB} {m : Nat} (hm : m < 10) {x : Int32} : (u2 (msSetLink (msSetPower (msSetPower σ (nI 0) 1) (nI m) 1) (nI 0) (nI m) 1) 7 m x) 0 0 = σ 0 0 := by
  rw [u2_no (fun q => by omega), lk_v hm, pw_v hm, pw_v (n := 0) (by omega), u2_no (fun q => by omega), u2_no (fun q => by omega), u2_no (fun q => by omega), u2_no (fun q => by omega)]
theorem sil_1 {σ : TB} {t m : Nat} (ht : t < 2 ^ 30) (h : hJ σ t m) (h0 : σ 0 0 = nI (t + 1)) : silV σ m = 1 := by
  obtain ⟨j3, j4, j5, j6⟩ := h
  unfold silV
  rw [j3, if_neg (nI_ne (by omega)), h0, j5, pk_sub (by omega), show t + 1 - t = 1 by omega]
  rfl
def tk5 (hs : List TB) : List TB := List.take 1 (List.take 2 (List.take 3 (List.take 4 (List.take 5 hs))))
def tk6 (hs : List TB) : List TB := List.take 0 (tk5 hs)

set_option maxRecDepth 100000 in
set_option maxHeartbeats 1000000 in
theorem c_L_joins0 (l : Launch)  (D : va_G) (ct : Nat → ClassId) (b : Nat) (qs qt qh qx : Nat → Nat) (σ : TB) (hs : List TB) {B : Nat} (hI : Inv B σ) (hB : B + 600 < 2 ^ 30) (k : Nat) (hk0 : 0 < k) (hk : k < 10) (h10 : ∀ t, t < 2 ^ 30 → σ 0 0 = nI t → t % 10 = 0) : ∀ (ρ : TB) (o z : Int32) (rg : Nat → Option Nat) (og : OG), hOK hs o z rg og → zT l D ct yL_joins cL_joins 6 (some .boolean) 8 195 96 9798 [.ref b, .int (nI k)] (lwW b qs qt qh qx σ ρ o z rg og ct) (lwP b qs qt qh qx og ct (some (.int 1)) σ (tk5 hs)) := by
  intro ρ o z rg og hok
  obtain ⟨t, ht, hT⟩ := Inv_t hI
  obtain ⟨p1, p11, p12, ec1⟩ := j_on1 (σ := σ)
  obtain ⟨p2, p21, p22, ec2⟩ := j_on2 (σ := σ) hk0 hk
  obtain ⟨p3, p31, p32, ec3⟩ := j_lk (σ := (msSetPower (msSetPower σ (nI 0) 1) (nI k) 1)) hk0 hk
  have hI1 : Inv B (msSetPower σ (nI 0) 1) := Inv_power hI (n := 0) (by omega) (Or.inr rfl)
  have hI2 : Inv B (msSetPower (msSetPower σ (nI 0) 1) (nI k) 1) := Inv_power hI1 hk (Or.inr rfl)
  have hI3 : Inv B (msSetLink (msSetPower (msSetPower σ (nI 0) 1) (nI k) 1) (nI 0) (nI k) 1) := Inv_link hI2 (a := 0) (c := k) (by omega) hk (by omega) (Or.inr rfl)
  have hI4 : Inv B (u2 (msSetLink (msSetPower (msSetPower σ (nI 0) 1) (nI k) 1) (nI 0) (nI k) 1) 7 k 0) := Inv_faults hI3 hk (f := 0) (by omega)
  obtain ⟨f, f9, ef⟩ := Inv_f hI3 hk
  have hT4 : (u2 (msSetLink (msSetPower (msSetPower σ (nI 0) 1) (nI k) 1) (nI 0) (nI k) 1) 7 k 0) 0 0 = nI t := by rw [j_t hk]; exact hT
  have hI5 : Inv B (u2 (msSetLink (msSetPower (msSetPower σ (nI 0) 1) (nI k) 1) (nI 0) (nI k) 1) 7 k 0) := hI4
  have hT5 : (u2 (msSetLink (msSetPower (msSetPower σ (nI 0) 1) (nI k) 1) (nI 0) (nI k) 1) 7 k 0) 0 0 = nI t := hT4
  have htt : t % 10 = 0 := h10 t (by omega) hT
  have hcn := j_conn (σ := σ) (σ5 := (u2 (msSetLink (msSetPower (msSetPower σ (nI 0) 1) (nI k) 1) (nI 0) (nI k) 1) 7 k 0)) hk0 hk (u2_ne (by omega)) (u2_ne (by omega))
  have hI6 : Inv (B + 1) (msRun (u2 (msSetLink (msSetPower (msSetPower σ (nI 0) 1) (nI k) 1) (nI 0) (nI k) 1) 7 k 0) 1) := Inv_run hI5 (k := 1) (by omega)
  obtain ⟨tt, ett⟩ : ∃ z, z = t := ⟨_, rfl⟩
  rw [← ett] at hT5 htt
  obtain ⟨hjj, hjt⟩ : hJ (msRun (u2 (msSetLink (msSetPower (msSetPower σ (nI 0) 1) (nI k) 1) (nI 0) (nI k) 1) 7 k 0) 1) tt k ∧ (msRun (u2 (msSetLink (msSetPower (msSetPower σ (nI 0) 1) (nI k) 1) (nI 0) (nI k) 1) 7 k 0) 1) 0 0 = nI (tt + 1) := joined_slot hI5 (by omega) hT5 (by omega) htt hk0 hk hcn.2
  refine zT_of ([some (.ref b), some (.int (nI k)), none, none, none, none]) (by decide +kernel) rfl (Nat.le_of_ble_eq_true rfl) ?_
  intro p e s m args below meth c hC hr hnm
  refine z_aload_n hC dL_joins_0 rfl ?_
  refine z_callS [0, 1, 2, 3, 4, 5, 6, 7, 8, 9, 10, 11, 12, 13, 14, 15, 16] hC (n_print l D ct b qs qt qh qx σ hI) bw_250 bw_251 bw_62 bw_252 1 (by decide +kernel) rfl rfl rfl ⟨Nat.le_of_ble_eq_true rfl, Nat.le_of_ble_eq_true rfl⟩ (Nat.le_of_ble_eq_true rfl) ⟨Nat.le_of_ble_eq_true rfl, Nat.le_of_ble_eq_true rfl⟩ rfl dL_joins_1 ?_
  refine zkq (G := fun v1 w1 => zG p l e _ s m args below meth c D _ _ _ _ _ _ _ (v1.toList ++ _) w1) rfl ?_
  refine z_lstore_n hC dL_joins_4 (by decide) rfl ?_
  refine z_aload_n hC dL_joins_5 rfl ?_
  refine z_iconst (v := 0) hC dL_joins_6 (by decide) ?_
  refine z_iconst (v := 1) hC dL_joins_7 (by decide) ?_
  refine z_callHW hC hok (w_power l D ct b qs qt qh qx σ hs hI 0 (by omega) 1) bw_313 bw_314 bw_62 bw_315 3 (by decide +kernel) rfl ⟨Nat.le_of_ble_eq_true rfl, Nat.le_of_ble_eq_true rfl⟩ (Nat.le_of_ble_eq_true rfl) ⟨Nat.le_of_ble_eq_true rfl, Nat.le_of_ble_eq_true rfl⟩ rfl dL_joins_8 ?_
  intro ρ1 o1 z1 rg1 og1 hok1 hy1
  have hx1 := hy1
  refine z_if_le hC 47 dL_joins_11 (by decide) (fun c11 => absurd c11 (by rw [ec1]; exact nI_nle p11 (by omega))) (fun c11 => ?_)
  refine z_aload_n hC dL_joins_14 rfl ?_
  refine z_iload_n hC dL_joins_15 rfl ?_
  refine z_iconst (v := 1) hC dL_joins_16 (by decide) ?_
  refine z_callHW hC hok1 (w_power l D ct b qs qt qh qx (msSetPower σ (nI 0) 1) (push σ hs) hI1 k hk 1) bw_313 bw_314 bw_62 bw_315 3 (by decide +kernel) rfl ⟨Nat.le_of_ble_eq_true rfl, Nat.le_of_ble_eq_true rfl⟩ (Nat.le_of_ble_eq_true rfl) ⟨Nat.le_of_ble_eq_true rfl, Nat.le_of_ble_eq_true rfl⟩ rfl dL_joins_17 ?_
  intro ρ2 o2 z2 rg2 og2 hok2 hy2
  have hx2 := oxt_tr hx1 hy2
  refine z_iconst (v := 1) hC dL_joins_20 (by decide) ?_
  refine z_icmp_le hC 47 dL_joins_21 (by decide) (fun c21 => absurd c21 (by rw [ec2]; exact nI_ge (a := 1) (b := p2) p21 (by omega))) (fun c21 => ?_)
  refine z_aload_n hC dL_joins_24 rfl ?_
  refine z_iconst (v := 0) hC dL_joins_25 (by decide) ?_
  refine z_iload_n hC dL_joins_26 rfl ?_
  refine z_iconst (v := 1) hC dL_joins_27 (by decide) ?_
  refine z_callHW hC hok2 (w_link l D ct b qs qt qh qx (msSetPower (msSetPower σ (nI 0) 1) (nI k) 1) (push (msSetPower σ (nI 0) 1) (push σ hs)) hI2 0 k (by omega) hk (by omega) 1) bw_267 bw_268 bw_62 bw_269 4 (by decide +kernel) rfl ⟨Nat.le_of_ble_eq_true rfl, Nat.le_of_ble_eq_true rfl⟩ (Nat.le_of_ble_eq_true rfl) ⟨Nat.le_of_ble_eq_true rfl, Nat.le_of_ble_eq_true rfl⟩ rfl dL_joins_28 ?_
  intro ρ3 o3 z3 rg3 og3 hok3 hy3
  have hx3 := oxt_tr hx2 hy3
  refine z_if_le hC 47 dL_joins_31 (by decide) (fun c31 => absurd c31 (by rw [ec3]; exact nI_nle p31 (by omega))) (fun c31 => ?_)
  refine z_aload_n hC dL_joins_34 rfl ?_
  refine z_iload_n hC dL_joins_35 rfl ?_
  refine z_iconst (v := 0) hC dL_joins_36 (by decide) ?_
  refine z_callHW hC hok3 (w_setFaults l D ct b qs qt qh qx (msSetLink (msSetPower (msSetPower σ (nI 0) 1) (nI k) 1) (nI 0) (nI k) 1) (push (msSetPower (msSetPower σ (nI 0) 1) (nI k) 1) (push (msSetPower σ (nI 0) 1) (push σ hs))) hI3 k hk0 hk 0 (by decide) (by decide)) bw_333 bw_334 bw_62 bw_335 3 (by decide +kernel) rfl ⟨Nat.le_of_ble_eq_true rfl, Nat.le_of_ble_eq_true rfl⟩ (Nat.le_of_ble_eq_true rfl) ⟨Nat.le_of_ble_eq_true rfl, Nat.le_of_ble_eq_true rfl⟩ rfl dL_joins_37 ?_
  intro ρ4 o4 z4 rg4 og4 hok4 hy4
  have hx4 := oxt_tr hx3 hy4
  refine z_if_lt hC 47 dL_joins_40 (by decide) (fun c40 => absurd c40 (by rw [ef]; exact nI_pos (by omega))) (fun c40 => ?_)
  refine z_iconst (v := 1) hC dL_joins_43 (by decide) ?_
  refine z_goto hC 48 dL_joins_44 (by decide) ?_
  refine z_istore hC dL_joins_48 (by decide) rfl ?_
  refine z_bipush (v := 10) hC dL_joins_50 (by decide) ?_
  refine z_aload_n hC dL_joins_52 rfl ?_
  refine z_callV [0, 1, 2, 3, 4, 5, 6, 7, 8, 9, 10, 11, 12, 13, 14, 15, 16] 0 4 hC (c_X4_time l D ct b qs qt qh qx (u2 (msSetLink (msSetPower (msSetPower σ (nI 0) 1) (nI k) 1) (nI 0) (nI k) 1) 7 k 0)) bw_96 bw_97 bw_98 bw_2 bw_99 0 (by decide +kernel) rfl rfl rfl rfl rfl ⟨Nat.le_of_ble_eq_true rfl, Nat.le_of_ble_eq_true rfl⟩ (Nat.le_of_ble_eq_true rfl) ⟨Nat.le_of_ble_eq_true rfl, Nat.le_of_ble_eq_true rfl⟩ rfl dL_joins_53 ?_
  refine zkq (G := fun v1 w1 => zG p l e _ s m args below meth c D _ _ _ _ _ _ _ (v1.toList ++ _) w1) rfl ?_
  refine z_bipush (v := 10) hC dL_joins_56 (by decide) ?_
  refine z_irem hC dL_joins_58 (by decide) ?_
  rw [show (((u2 (msSetLink (msSetPower (msSetPower σ (nI 0) 1) (nI k) 1) (nI 0) (nI k) 1) 7 k 0) 0 0) - ((u2 (msSetLink (msSetPower (msSetPower σ (nI 0) 1) (nI k) 1) (nI 0) (nI k) 1) 7 k 0) 0 0) / 10 * 10) = (nI (t % 10)) from by rw [hT4]; exact pk_rem (d := 10) (by omega) (by decide) (by decide)]
  refine z_isub hC dL_joins_59 ?_
  rw [show ((10 : Int32) - (nI (t % 10))) = (nI (10 - t % 10)) from pk_sub (a := 10) (b := t % 10) (by omega)]
  refine z_bipush (v := 10) hC dL_joins_60 (by decide) ?_
  refine z_irem hC dL_joins_62 (by decide) ?_
  rw [show ((nI (10 - t % 10)) - (nI (10 - t % 10)) / 10 * 10) = (nI 0) from (pk_rem (d := 10) (by omega) (by decide) (by decide)).trans (congrArg nI (by omega))]
  refine z_istore hC dL_joins_63 (by decide) rfl ?_
  refine z_iload hC dL_joins_65 rfl ?_
  refine z_if_eq hC 97 dL_joins_67 (by decide) (fun cn5 => absurd cn5 (by decide)) (fun cn5 => ?_)
  refine z_iload hC dL_joins_70 rfl ?_
  refine z_if_eq hC 84 dL_joins_72 (by decide) (fun cn6 => ?_) (fun cn6 => absurd cn6 (by decide))
  refine z_aload_n hC dL_joins_84 rfl ?_
  refine z_iload_n hC dL_joins_85 rfl ?_
  refine z_callH [0, 1, 2, 3, 4, 5, 6, 7, 8, 9, 10, 11, 12, 13, 14, 15, 16] hC (h_hops l D ct b qs qt qh qx (u2 (msSetLink (msSetPower (msSetPower σ (nI 0) 1) (nI k) 1) (nI 0) (nI k) 1) 7 k 0) k hk) bw_121 bw_122 bw_62 bw_123 2 (by decide +kernel) rfl rfl rfl ⟨Nat.le_of_ble_eq_true rfl, Nat.le_of_ble_eq_true rfl⟩ (Nat.le_of_ble_eq_true rfl) ⟨Nat.le_of_ble_eq_true rfl, Nat.le_of_ble_eq_true rfl⟩ rfl dL_joins_86 ?_
  refine zkq (G := fun v1 w1 => zG p l e _ s m args below meth c D _ _ _ _ _ _ _ (v1.toList ++ _) w1) rfl ?_
  refine z_iconst (v := 1) hC dL_joins_89 (by decide) ?_
  refine z_icmp_ne hC 97 dL_joins_90 (by decide) (fun c90 => (c90 (hops_1 hk0 hk hcn.1)).elim) (fun c90 => ?_)
  refine z_iconst (v := 1) hC dL_joins_93 (by decide) ?_
  refine z_goto hC 98 dL_joins_94 (by decide) ?_
  refine z_istore hC dL_joins_98 (by decide) rfl ?_
  refine z_iload hC dL_joins_100 rfl ?_
  refine z_if_eq hC 155 dL_joins_102 (by decide) (fun cn7 => absurd cn7 (by decide)) (fun cn7 => ?_)
  refine z_aload_n hC dL_joins_105 rfl ?_
  refine z_iconst (v := 1) hC dL_joins_106 (by decide) ?_
  refine z_callHW hC hok4 (w_run l D ct b qs qt qh qx (u2 (msSetLink (msSetPower (msSetPower σ (nI 0) 1) (nI k) 1) (nI 0) (nI k) 1) 7 k 0) (push (msSetLink (msSetPower (msSetPower σ (nI 0) 1) (nI k) 1) (nI 0) (nI k) 1) (push (msSetPower (msSetPower σ (nI 0) 1) (nI k) 1) (push (msSetPower σ (nI 0) 1) (push σ hs)))) hI5 1 (by omega) (by omega)) bw_378 bw_379 bw_62 bw_380 2 (by decide +kernel) rfl ⟨Nat.le_of_ble_eq_true rfl, Nat.le_of_ble_eq_true rfl⟩ (Nat.le_of_ble_eq_true rfl) ⟨Nat.le_of_ble_eq_true rfl, Nat.le_of_ble_eq_true rfl⟩ rfl dL_joins_107 ?_
  intro ρ8 o8 z8 rg8 og8 hok8 hy8
  have hx8 := oxt_tr hx4 hy8
  refine z_if_lt hC 155 dL_joins_110 (by decide) (fun c110 => absurd c110 (runR_pos hI5 (by omega))) (fun c110 => ?_)
  refine z_aload_n hC dL_joins_113 rfl ?_
  refine z_iload_n hC dL_joins_114 rfl ?_
  refine z_callH [0, 1, 2, 3, 4, 5, 6, 7, 8, 9, 10, 11, 12, 13, 14, 15, 16] hC (h_parent l D ct b qs qt qh qx (msRun (u2 (msSetLink (msSetPower (msSetPower σ (nI 0) 1) (nI k) 1) (nI 0) (nI k) 1) 7 k 0) 1) k hk) bw_65 bw_66 bw_62 bw_67 2 (by decide +kernel) rfl rfl rfl ⟨Nat.le_of_ble_eq_true rfl, Nat.le_of_ble_eq_true rfl⟩ (Nat.le_of_ble_eq_true rfl) ⟨Nat.le_of_ble_eq_true rfl, Nat.le_of_ble_eq_true rfl⟩ rfl dL_joins_115 ?_
  refine zkq (G := fun v1 w1 => zG p l e _ s m args below meth c D _ _ _ _ _ _ _ (v1.toList ++ _) w1) rfl ?_
  refine z_if_ne hC 155 dL_joins_118 (by decide) (fun c118 => (c118 hjj.1).elim) (fun c118 => ?_)
  refine z_aload_n hC dL_joins_121 rfl ?_
  refine z_iload_n hC dL_joins_122 rfl ?_
  refine z_callH [0, 1, 2, 3, 4, 5, 6, 7, 8, 9, 10, 11, 12, 13, 14, 15, 16] hC (h_depth l D ct b qs qt qh qx (msRun (u2 (msSetLink (msSetPower (msSetPower σ (nI 0) 1) (nI k) 1) (nI 0) (nI k) 1) 7 k 0) 1) k hk) bw_82 bw_83 bw_62 bw_84 2 (by decide +kernel) rfl rfl rfl ⟨Nat.le_of_ble_eq_true rfl, Nat.le_of_ble_eq_true rfl⟩ (Nat.le_of_ble_eq_true rfl) ⟨Nat.le_of_ble_eq_true rfl, Nat.le_of_ble_eq_true rfl⟩ rfl dL_joins_123 ?_
  refine zkq (G := fun v1 w1 => zG p l e _ s m args below meth c D _ _ _ _ _ _ _ (v1.toList ++ _) w1) rfl ?_
  refine z_iconst (v := 1) hC dL_joins_126 (by decide) ?_
  refine z_icmp_ne hC 155 dL_joins_127 (by decide) (fun c127 => (c127 hjj.2.1).elim) (fun c127 => ?_)
  refine z_aload_n hC dL_joins_130 rfl ?_
  refine z_iload_n hC dL_joins_131 rfl ?_
  refine z_callH [0, 1, 2, 3, 4, 5, 6, 7, 8, 9, 10, 11, 12, 13, 14, 15, 16] hC (h_silence l D ct b qs qt qh qx (msRun (u2 (msSetLink (msSetPower (msSetPower σ (nI 0) 1) (nI k) 1) (nI 0) (nI k) 1) 7 k 0) 1) k hk0 hk) bw_100 bw_101 bw_62 bw_102 2 (by decide +kernel) rfl rfl rfl ⟨Nat.le_of_ble_eq_true rfl, Nat.le_of_ble_eq_true rfl⟩ (Nat.le_of_ble_eq_true rfl) ⟨Nat.le_of_ble_eq_true rfl, Nat.le_of_ble_eq_true rfl⟩ rfl dL_joins_132 ?_
  refine zkq (G := fun v1 w1 => zG p l e _ s m args below meth c D _ _ _ _ _ _ _ (v1.toList ++ _) w1) rfl ?_
  refine z_iconst (v := 1) hC dL_joins_135 (by decide) ?_
  refine z_icmp_ne hC 155 dL_joins_136 (by decide) (fun c136 => (c136 (sil_1 (t := tt) (by omega) hjj hjt)).elim) (fun c136 => ?_)
  refine z_aload_n hC dL_joins_139 rfl ?_
  refine z_iload_n hC dL_joins_140 rfl ?_
  refine z_callH [0, 1, 2, 3, 4, 5, 6, 7, 8, 9, 10, 11, 12, 13, 14, 15, 16] hC (h_clock l D ct b qs qt qh qx (msRun (u2 (msSetLink (msSetPower (msSetPower σ (nI 0) 1) (nI k) 1) (nI 0) (nI k) 1) 7 k 0) 1) k hk) bw_89 bw_90 bw_62 bw_91 2 (by decide +kernel) rfl rfl rfl ⟨Nat.le_of_ble_eq_true rfl, Nat.le_of_ble_eq_true rfl⟩ (Nat.le_of_ble_eq_true rfl) ⟨Nat.le_of_ble_eq_true rfl, Nat.le_of_ble_eq_true rfl⟩ rfl dL_joins_141 ?_
  refine zkq (G := fun v1 w1 => zG p l e _ s m args below meth c D _ _ _ _ _ _ _ (v1.toList ++ _) w1) rfl ?_
  refine z_aload_n hC dL_joins_144 rfl ?_
  refine z_callV [0, 1, 2, 3, 4, 5, 6, 7, 8, 9, 10, 11, 12, 13, 14, 15, 16] 0 4 hC (c_X4_time l D ct b qs qt qh qx (msRun (u2 (msSetLink (msSetPower (msSetPower σ (nI 0) 1) (nI k) 1) (nI 0) (nI k) 1) 7 k 0) 1)) bw_96 bw_97 bw_98 bw_2 bw_99 0 (by decide +kernel) rfl rfl rfl rfl rfl ⟨Nat.le_of_ble_eq_true rfl, Nat.le_of_ble_eq_true rfl⟩ (Nat.le_of_ble_eq_true rfl) ⟨Nat.le_of_ble_eq_true rfl, Nat.le_of_ble_eq_true rfl⟩ rfl dL_joins_145 ?_
  refine zkq (G := fun v1 w1 => zG p l e _ s m args below meth c D _ _ _ _ _ _ _ (v1.toList ++ _) w1) rfl ?_
  refine z_icmp_ne hC 155 dL_joins_148 (by decide) (fun c148 => (c148 ((congrArg (fun z => (msRun (u2 (msSetLink (msSetPower (msSetPower σ (nI 0) 1) (nI k) 1) (nI 0) (nI k) 1) 7 k 0) 1) 0 0 + z) hjj.2.2.2).trans (Int32.add_zero _))).elim) (fun c148 => ?_)
  refine z_iconst (v := 1) hC dL_joins_151 (by decide) ?_
  refine z_goto hC 156 dL_joins_152 (by decide) ?_
  refine z_istore hC dL_joins_156 (by decide) rfl ?_
  refine z_iload hC dL_joins_158 rfl ?_
  refine z_if_eq hC 223 dL_joins_160 (by decide) (fun cn9 => absurd cn9 (by decide)) (fun cn9 => ?_)
  refine z_aload_n hC dL_joins_163 rfl ?_
  refine z_callHW hC hok8 (w_undo l D ct b qs qt qh qx (msRun (u2 (msSetLink (msSetPower (msSetPower σ (nI 0) 1) (nI k) 1) (nI 0) (nI k) 1) 7 k 0) 1) (u2 (msSetLink (msSetPower (msSetPower σ (nI 0) 1) (nI k) 1) (nI 0) (nI k) 1) 7 k 0) (List.take 5 (push (msSetLink (msSetPower (msSetPower σ (nI 0) 1) (nI k) 1) (nI 0) (nI k) 1) (push (msSetPower (msSetPower σ (nI 0) 1) (nI k) 1) (push (msSetPower σ (nI 0) 1) (push σ hs))))) hI5) bw_423 bw_424 bw_62 bw_425 1 (by decide +kernel) rfl ⟨Nat.le_of_ble_eq_true rfl, Nat.le_of_ble_eq_true rfl⟩ (Nat.le_of_ble_eq_true rfl) ⟨Nat.le_of_ble_eq_true rfl, Nat.le_of_ble_eq_true rfl⟩ rfl dL_joins_164 ?_
  intro ρ10 o10 z10 rg10 og10 hok10 hy10
  have hx10 := oxt_tr hx8 hy10
  refine z_if_lt hC 223 dL_joins_167 (by decide) (fun c167 => absurd c167 (tk_len _ _ (by omega))) (fun c167 => ?_)
  refine z_iload hC dL_joins_170 rfl ?_
  refine z_if_eq hC 182 dL_joins_172 (by decide) (fun cn11 => ?_) (fun cn11 => absurd cn11 (by decide))
  refine z_aload_n hC dL_joins_182 rfl ?_
  refine z_callHW hC hok10 (w_undo l D ct b qs qt qh qx (u2 (msSetLink (msSetPower (msSetPower σ (nI 0) 1) (nI k) 1) (nI 0) (nI k) 1) 7 k 0) (msSetLink (msSetPower (msSetPower σ (nI 0) 1) (nI k) 1) (nI 0) (nI k) 1) (List.take 4 (List.take 5 (push (msSetPower (msSetPower σ (nI 0) 1) (nI k) 1) (push (msSetPower σ (nI 0) 1) (push σ hs))))) hI3) bw_423 bw_424 bw_62 bw_425 1 (by decide +kernel) rfl ⟨Nat.le_of_ble_eq_true rfl, Nat.le_of_ble_eq_true rfl⟩ (Nat.le_of_ble_eq_true rfl) ⟨Nat.le_of_ble_eq_true rfl, Nat.le_of_ble_eq_true rfl⟩ rfl dL_joins_183 ?_
  intro ρ12 o12 z12 rg12 og12 hok12 hy12
  have hx12 := oxt_tr hx10 hy12
  refine z_if_lt hC 223 dL_joins_186 (by decide) (fun c186 => absurd c186 (tk_len _ _ (by omega))) (fun c186 => ?_)
  refine z_aload_n hC dL_joins_189 rfl ?_
  refine z_callHW hC hok12 (w_undo l D ct b qs qt qh qx (msSetLink (msSetPower (msSetPower σ (nI 0) 1) (nI k) 1) (nI 0) (nI k) 1) (msSetPower (msSetPower σ (nI 0) 1) (nI k) 1) (List.take 3 (List.take 4 (List.take 5 (push (msSetPower σ (nI 0) 1) (push σ hs))))) hI2) bw_423 bw_424 bw_62 bw_425 1 (by decide +kernel) rfl ⟨Nat.le_of_ble_eq_true rfl, Nat.le_of_ble_eq_true rfl⟩ (Nat.le_of_ble_eq_true rfl) ⟨Nat.le_of_ble_eq_true rfl, Nat.le_of_ble_eq_true rfl⟩ rfl dL_joins_190 ?_
  intro ρ13 o13 z13 rg13 og13 hok13 hy13
  have hx13 := oxt_tr hx12 hy13
  refine z_if_lt hC 223 dL_joins_193 (by decide) (fun c193 => absurd c193 (tk_len _ _ (by omega))) (fun c193 => ?_)
  refine z_aload_n hC dL_joins_196 rfl ?_
  refine z_callHW hC hok13 (w_undo l D ct b qs qt qh qx (msSetPower (msSetPower σ (nI 0) 1) (nI k) 1) (msSetPower σ (nI 0) 1) (List.take 2 (List.take 3 (List.take 4 (List.take 5 (push σ hs))))) hI1) bw_423 bw_424 bw_62 bw_425 1 (by decide +kernel) rfl ⟨Nat.le_of_ble_eq_true rfl, Nat.le_of_ble_eq_true rfl⟩ (Nat.le_of_ble_eq_true rfl) ⟨Nat.le_of_ble_eq_true rfl, Nat.le_of_ble_eq_true rfl⟩ rfl dL_joins_197 ?_
  intro ρ14 o14 z14 rg14 og14 hok14 hy14
  have hx14 := oxt_tr hx13 hy14
  refine z_if_lt hC 223 dL_joins_200 (by decide) (fun c200 => absurd c200 (tk_len _ _ (by omega))) (fun c200 => ?_)
  refine z_aload_n hC dL_joins_203 rfl ?_
  refine z_callHW hC hok14 (w_undo l D ct b qs qt qh qx (msSetPower σ (nI 0) 1) σ (List.take 1 (List.take 2 (List.take 3 (List.take 4 (List.take 5 hs))))) hI) bw_423 bw_424 bw_62 bw_425 1 (by decide +kernel) rfl ⟨Nat.le_of_ble_eq_true rfl, Nat.le_of_ble_eq_true rfl⟩ (Nat.le_of_ble_eq_true rfl) ⟨Nat.le_of_ble_eq_true rfl, Nat.le_of_ble_eq_true rfl⟩ rfl dL_joins_204 ?_
  intro ρ15 o15 z15 rg15 og15 hok15 hy15
  have hx15 := oxt_tr hx14 hy15
  refine z_if_lt hC 223 dL_joins_207 (by decide) (fun c207 => absurd c207 (tk_len _ _ (by omega))) (fun c207 => ?_)
  refine z_aload_n hC dL_joins_210 rfl ?_
  refine z_callS [0, 1, 2, 3, 4, 5, 6, 7, 8, 9, 10, 11, 12, 13, 14, 15, 16] hC (n_print l D ct b qs qt qh qx σ hI) bw_250 bw_251 bw_62 bw_252 1 (by decide +kernel) rfl rfl rfl ⟨Nat.le_of_ble_eq_true rfl, Nat.le_of_ble_eq_true rfl⟩ (Nat.le_of_ble_eq_true rfl) ⟨Nat.le_of_ble_eq_true rfl, Nat.le_of_ble_eq_true rfl⟩ rfl dL_joins_211 ?_
  refine zkq (G := fun v1 w1 => zG p l e _ s m args below meth c D _ _ _ _ _ _ _ (v1.toList ++ _) w1) rfl ?_
  refine z_lload_n hC dL_joins_214 rfl ?_
  refine z_lcmp hC dL_joins_215 ?_
  refine z_if_ne hC 223 dL_joins_216 (by decide) (fun c216 => (c216 (lg_self _)).elim) (fun c216 => ?_)
  refine z_iconst (v := 1) hC dL_joins_219 (by decide) ?_
  refine z_goto hC 224 dL_joins_220 (by decide) ?_
  exact z_zretW hC hr rfl dL_joins_224 (Nat.le_of_ble_eq_true rfl) (Nat.le_of_ble_eq_true rfl) hok15 hx15

set_option maxRecDepth 100000 in
set_option maxHeartbeats 1000000 in
theorem c_L_joins1 (l : Launch)  (D : va_G) (ct : Nat → ClassId) (b : Nat) (qs qt qh qx : Nat → Nat) (σ : TB) (hs : List TB) {B : Nat} (hI : Inv B σ) (hB : B + 600 < 2 ^ 30) (k : Nat) (hk0 : 0 < k) (hk : k < 10) (h10 : ∀ t, t < 2 ^ 30 → σ 0 0 = nI t → t % 10 ≠ 0) : ∀ (ρ : TB) (o z : Int32) (rg : Nat → Option Nat) (og : OG), hOK hs o z rg og → zT l D ct yL_joins cL_joins 6 (some .boolean) 8 195 96 9798 [.ref b, .int (nI k)] (lwW b qs qt qh qx σ ρ o z rg og ct) (lwP b qs qt qh qx og ct (some (.int 1)) σ (tk6 hs)) := by
  intro ρ o z rg og hok
  obtain ⟨t, ht, hT⟩ := Inv_t hI
  obtain ⟨p1, p11, p12, ec1⟩ := j_on1 (σ := σ)
  obtain ⟨p2, p21, p22, ec2⟩ := j_on2 (σ := σ) hk0 hk
  obtain ⟨p3, p31, p32, ec3⟩ := j_lk (σ := (msSetPower (msSetPower σ (nI 0) 1) (nI k) 1)) hk0 hk
  have hI1 : Inv B (msSetPower σ (nI 0) 1) := Inv_power hI (n := 0) (by omega) (Or.inr rfl)
  have hI2 : Inv B (msSetPower (msSetPower σ (nI 0) 1) (nI k) 1) := Inv_power hI1 hk (Or.inr rfl)
  have hI3 : Inv B (msSetLink (msSetPower (msSetPower σ (nI 0) 1) (nI k) 1) (nI 0) (nI k) 1) := Inv_link hI2 (a := 0) (c := k) (by omega) hk (by omega) (Or.inr rfl)
  have hI4 : Inv B (u2 (msSetLink (msSetPower (msSetPower σ (nI 0) 1) (nI k) 1) (nI 0) (nI k) 1) 7 k 0) := Inv_faults hI3 hk (f := 0) (by omega)
  obtain ⟨f, f9, ef⟩ := Inv_f hI3 hk
  have hT4 : (u2 (msSetLink (msSetPower (msSetPower σ (nI 0) 1) (nI k) 1) (nI 0) (nI k) 1) 7 k 0) 0 0 = nI t := by rw [j_t hk]; exact hT
  have htn : t % 10 ≠ 0 := h10 t (by omega) hT
  obtain ⟨w, ew⟩ : ∃ w, w = 10 - t % 10 := ⟨_, rfl⟩
  have hw0 : 0 < w := by omega
  have hI5 : Inv (B + w) (msRun (u2 (msSetLink (msSetPower (msSetPower σ (nI 0) 1) (nI k) 1) (nI 0) (nI k) 1) 7 k 0) w) := Inv_run hI4 (by omega)
  have hT5 : (msRun (u2 (msSetLink (msSetPower (msSetPower σ (nI 0) 1) (nI k) 1) (nI 0) (nI k) 1) 7 k 0) w) 0 0 = nI (t + w) := by rw [(run_m w (u2 (msSetLink (msSetPower (msSetPower σ (nI 0) 1) (nI k) 1) (nI 0) (nI k) 1) 7 k 0) B hI4 (by omega)).1, hT4, nI_add]
  have htt : (t + w) % 10 = 0 := by omega
  have hcn := j_conn (σ := σ) (σ5 := (msRun (u2 (msSetLink (msSetPower (msSetPower σ (nI 0) 1) (nI k) 1) (nI 0) (nI k) 1) 7 k 0) w)) hk0 hk ((run_12 (Or.inl rfl) _ _).trans (u2_ne (by omega))) ((run_12 (Or.inr rfl) _ _).trans (u2_ne (by omega)))
  have hI6 : Inv (B + w + 1) (msRun (msRun (u2 (msSetLink (msSetPower (msSetPower σ (nI 0) 1) (nI k) 1) (nI 0) (nI k) 1) 7 k 0) w) 1) := Inv_run hI5 (k := 1) (by omega)
  obtain ⟨tt, ett⟩ : ∃ z, z = (t + w) := ⟨_, rfl⟩
  rw [← ett] at hT5 htt
  obtain ⟨hjj, hjt⟩ : hJ (msRun (msRun (u2 (msSetLink (msSetPower (msSetPower σ (nI 0) 1) (nI k) 1) (nI 0) (nI k) 1) 7 k 0) w) 1) tt k ∧ (msRun (msRun (u2 (msSetLink (msSetPower (msSetPower σ (nI 0) 1) (nI k) 1) (nI 0) (nI k) 1) 7 k 0) w) 1) 0 0 = nI (tt + 1) := joined_slot hI5 (by omega) hT5 (by omega) htt hk0 hk hcn.2
  refine zT_of ([some (.ref b), some (.int (nI k)), none, none, none, none]) (by decide +kernel) rfl (Nat.le_of_ble_eq_true rfl) ?_
  intro p e s m args below meth c hC hr hnm
  refine z_aload_n hC dL_joins_0 rfl ?_
  refine z_callS [0, 1, 2, 3, 4, 5, 6, 7, 8, 9, 10, 11, 12, 13, 14, 15, 16] hC (n_print l D ct b qs qt qh qx σ hI) bw_250 bw_251 bw_62 bw_252 1 (by decide +kernel) rfl rfl rfl ⟨Nat.le_of_ble_eq_true rfl, Nat.le_of_ble_eq_true rfl⟩ (Nat.le_of_ble_eq_true rfl) ⟨Nat.le_of_ble_eq_true rfl, Nat.le_of_ble_eq_true rfl⟩ rfl dL_joins_1 ?_
  refine zkq (G := fun v1 w1 => zG p l e _ s m args below meth c D _ _ _ _ _ _ _ (v1.toList ++ _) w1) rfl ?_
  refine z_lstore_n hC dL_joins_4 (by decide) rfl ?_
  refine z_aload_n hC dL_joins_5 rfl ?_
  refine z_iconst (v := 0) hC dL_joins_6 (by decide) ?_
  refine z_iconst (v := 1) hC dL_joins_7 (by decide) ?_
  refine z_callHW hC hok (w_power l D ct b qs qt qh qx σ hs hI 0 (by omega) 1) bw_313 bw_314 bw_62 bw_315 3 (by decide +kernel) rfl ⟨Nat.le_of_ble_eq_true rfl, Nat.le_of_ble_eq_true rfl⟩ (Nat.le_of_ble_eq_true rfl) ⟨Nat.le_of_ble_eq_true rfl, Nat.le_of_ble_eq_true rfl⟩ rfl dL_joins_8 ?_
  intro ρ1 o1 z1 rg1 og1 hok1 hy1
  have hx1 := hy1
  refine z_if_le hC 47 dL_joins_11 (by decide) (fun c11 => absurd c11 (by rw [ec1]; exact nI_nle p11 (by omega))) (fun c11 => ?_)
  refine z_aload_n hC dL_joins_14 rfl ?_
  refine z_iload_n hC dL_joins_15 rfl ?_
  refine z_iconst (v := 1) hC dL_joins_16 (by decide) ?_
  refine z_callHW hC hok1 (w_power l D ct b qs qt qh qx (msSetPower σ (nI 0) 1) (push σ hs) hI1 k hk 1) bw_313 bw_314 bw_62 bw_315 3 (by decide +kernel) rfl ⟨Nat.le_of_ble_eq_true rfl, Nat.le_of_ble_eq_true rfl⟩ (Nat.le_of_ble_eq_true rfl) ⟨Nat.le_of_ble_eq_true rfl, Nat.le_of_ble_eq_true rfl⟩ rfl dL_joins_17 ?_
  intro ρ2 o2 z2 rg2 og2 hok2 hy2
  have hx2 := oxt_tr hx1 hy2
  refine z_iconst (v := 1) hC dL_joins_20 (by decide) ?_
  refine z_icmp_le hC 47 dL_joins_21 (by decide) (fun c21 => absurd c21 (by rw [ec2]; exact nI_ge (a := 1) (b := p2) p21 (by omega))) (fun c21 => ?_)
  refine z_aload_n hC dL_joins_24 rfl ?_
  refine z_iconst (v := 0) hC dL_joins_25 (by decide) ?_
  refine z_iload_n hC dL_joins_26 rfl ?_
  refine z_iconst (v := 1) hC dL_joins_27 (by decide) ?_
  refine z_callHW hC hok2 (w_link l D ct b qs qt qh qx (msSetPower (msSetPower σ (nI 0) 1) (nI k) 1) (push (msSetPower σ (nI 0) 1) (push σ hs)) hI2 0 k (by omega) hk (by omega) 1) bw_267 bw_268 bw_62 bw_269 4 (by decide +kernel) rfl ⟨Nat.le_of_ble_eq_true rfl, Nat.le_of_ble_eq_true rfl⟩ (Nat.le_of_ble_eq_true rfl) ⟨Nat.le_of_ble_eq_true rfl, Nat.le_of_ble_eq_true rfl⟩ rfl dL_joins_28 ?_
  intro ρ3 o3 z3 rg3 og3 hok3 hy3
  have hx3 := oxt_tr hx2 hy3
  refine z_if_le hC 47 dL_joins_31 (by decide) (fun c31 => absurd c31 (by rw [ec3]; exact nI_nle p31 (by omega))) (fun c31 => ?_)
  refine z_aload_n hC dL_joins_34 rfl ?_
  refine z_iload_n hC dL_joins_35 rfl ?_
  refine z_iconst (v := 0) hC dL_joins_36 (by decide) ?_
  refine z_callHW hC hok3 (w_setFaults l D ct b qs qt qh qx (msSetLink (msSetPower (msSetPower σ (nI 0) 1) (nI k) 1) (nI 0) (nI k) 1) (push (msSetPower (msSetPower σ (nI 0) 1) (nI k) 1) (push (msSetPower σ (nI 0) 1) (push σ hs))) hI3 k hk0 hk 0 (by decide) (by decide)) bw_333 bw_334 bw_62 bw_335 3 (by decide +kernel) rfl ⟨Nat.le_of_ble_eq_true rfl, Nat.le_of_ble_eq_true rfl⟩ (Nat.le_of_ble_eq_true rfl) ⟨Nat.le_of_ble_eq_true rfl, Nat.le_of_ble_eq_true rfl⟩ rfl dL_joins_37 ?_
  intro ρ4 o4 z4 rg4 og4 hok4 hy4
  have hx4 := oxt_tr hx3 hy4
  refine z_if_lt hC 47 dL_joins_40 (by decide) (fun c40 => absurd c40 (by rw [ef]; exact nI_pos (by omega))) (fun c40 => ?_)
  refine z_iconst (v := 1) hC dL_joins_43 (by decide) ?_
  refine z_goto hC 48 dL_joins_44 (by decide) ?_
  refine z_istore hC dL_joins_48 (by decide) rfl ?_
  refine z_bipush (v := 10) hC dL_joins_50 (by decide) ?_
  refine z_aload_n hC dL_joins_52 rfl ?_
  refine z_callV [0, 1, 2, 3, 4, 5, 6, 7, 8, 9, 10, 11, 12, 13, 14, 15, 16] 0 4 hC (c_X4_time l D ct b qs qt qh qx (u2 (msSetLink (msSetPower (msSetPower σ (nI 0) 1) (nI k) 1) (nI 0) (nI k) 1) 7 k 0)) bw_96 bw_97 bw_98 bw_2 bw_99 0 (by decide +kernel) rfl rfl rfl rfl rfl ⟨Nat.le_of_ble_eq_true rfl, Nat.le_of_ble_eq_true rfl⟩ (Nat.le_of_ble_eq_true rfl) ⟨Nat.le_of_ble_eq_true rfl, Nat.le_of_ble_eq_true rfl⟩ rfl dL_joins_53 ?_
  refine zkq (G := fun v1 w1 => zG p l e _ s m args below meth c D _ _ _ _ _ _ _ (v1.toList ++ _) w1) rfl ?_
  refine z_bipush (v := 10) hC dL_joins_56 (by decide) ?_
  refine z_irem hC dL_joins_58 (by decide) ?_
  rw [show (((u2 (msSetLink (msSetPower (msSetPower σ (nI 0) 1) (nI k) 1) (nI 0) (nI k) 1) 7 k 0) 0 0) - ((u2 (msSetLink (msSetPower (msSetPower σ (nI 0) 1) (nI k) 1) (nI 0) (nI k) 1) 7 k 0) 0 0) / 10 * 10) = (nI (t % 10)) from by rw [hT4]; exact pk_rem (d := 10) (by omega) (by decide) (by decide)]
  refine z_isub hC dL_joins_59 ?_
  rw [show ((10 : Int32) - (nI (t % 10))) = (nI (10 - t % 10)) from pk_sub (a := 10) (b := t % 10) (by omega)]
  refine z_bipush (v := 10) hC dL_joins_60 (by decide) ?_
  refine z_irem hC dL_joins_62 (by decide) ?_
  rw [show ((nI (10 - t % 10)) - (nI (10 - t % 10)) / 10 * 10) = (nI w) from (pk_rem (d := 10) (by omega) (by decide) (by decide)).trans (congrArg nI (by omega))]
  refine z_istore hC dL_joins_63 (by decide) rfl ?_
  refine z_iload hC dL_joins_65 rfl ?_
  refine z_if_eq hC 97 dL_joins_67 (by decide) (fun cn5 => absurd cn5 (by decide)) (fun cn5 => ?_)
  refine z_iload hC dL_joins_70 rfl ?_
  refine z_if_eq hC 84 dL_joins_72 (by decide) (fun c72 => absurd c72 (nI_ne0 hw0 (by omega))) (fun c72 => ?_)
  refine z_aload_n hC dL_joins_75 rfl ?_
  refine z_iload hC dL_joins_76 rfl ?_
  refine z_callHW hC hok4 (w_run l D ct b qs qt qh qx (u2 (msSetLink (msSetPower (msSetPower σ (nI 0) 1) (nI k) 1) (nI 0) (nI k) 1) 7 k 0) (push (msSetLink (msSetPower (msSetPower σ (nI 0) 1) (nI k) 1) (nI 0) (nI k) 1) (push (msSetPower (msSetPower σ (nI 0) 1) (nI k) 1) (push (msSetPower σ (nI 0) 1) (push σ hs)))) hI4 w hw0 (by omega)) bw_378 bw_379 bw_62 bw_380 2 (by decide +kernel) rfl ⟨Nat.le_of_ble_eq_true rfl, Nat.le_of_ble_eq_true rfl⟩ (Nat.le_of_ble_eq_true rfl) ⟨Nat.le_of_ble_eq_true rfl, Nat.le_of_ble_eq_true rfl⟩ rfl dL_joins_78 ?_
  intro ρ6 o6 z6 rg6 og6 hok6 hy6
  have hx6 := oxt_tr hx4 hy6
  refine z_if_lt hC 97 dL_joins_81 (by decide) (fun c81 => absurd c81 (runR_pos hI4 (by omega))) (fun c81 => ?_)
  refine z_aload_n hC dL_joins_84 rfl ?_
  refine z_iload_n hC dL_joins_85 rfl ?_
  refine z_callH [0, 1, 2, 3, 4, 5, 6, 7, 8, 9, 10, 11, 12, 13, 14, 15, 16] hC (h_hops l D ct b qs qt qh qx (msRun (u2 (msSetLink (msSetPower (msSetPower σ (nI 0) 1) (nI k) 1) (nI 0) (nI k) 1) 7 k 0) w) k hk) bw_121 bw_122 bw_62 bw_123 2 (by decide +kernel) rfl rfl rfl ⟨Nat.le_of_ble_eq_true rfl, Nat.le_of_ble_eq_true rfl⟩ (Nat.le_of_ble_eq_true rfl) ⟨Nat.le_of_ble_eq_true rfl, Nat.le_of_ble_eq_true rfl⟩ rfl dL_joins_86 ?_
  refine zkq (G := fun v1 w1 => zG p l e _ s m args below meth c D _ _ _ _ _ _ _ (v1.toList ++ _) w1) rfl ?_
  refine z_iconst (v := 1) hC dL_joins_89 (by decide) ?_
  refine z_icmp_ne hC 97 dL_joins_90 (by decide) (fun c90 => (c90 (hops_1 hk0 hk hcn.1)).elim) (fun c90 => ?_)
  refine z_iconst (v := 1) hC dL_joins_93 (by decide) ?_
  refine z_goto hC 98 dL_joins_94 (by decide) ?_
  refine z_istore hC dL_joins_98 (by decide) rfl ?_
  refine z_iload hC dL_joins_100 rfl ?_
  refine z_if_eq hC 155 dL_joins_102 (by decide) (fun cn7 => absurd cn7 (by decide)) (fun cn7 => ?_)
  refine z_aload_n hC dL_joins_105 rfl ?_
  refine z_iconst (v := 1) hC dL_joins_106 (by decide) ?_
  refine z_callHW hC hok6 (w_run l D ct b qs qt qh qx (msRun (u2 (msSetLink (msSetPower (msSetPower σ (nI 0) 1) (nI k) 1) (nI 0) (nI k) 1) 7 k 0) w) (push (u2 (msSetLink (msSetPower (msSetPower σ (nI 0) 1) (nI k) 1) (nI 0) (nI k) 1) 7 k 0) (push (msSetLink (msSetPower (msSetPower σ (nI 0) 1) (nI k) 1) (nI 0) (nI k) 1) (push (msSetPower (msSetPower σ (nI 0) 1) (nI k) 1) (push (msSetPower σ (nI 0) 1) (push σ hs))))) hI5 1 (by omega) (by omega)) bw_378 bw_379 bw_62 bw_380 2 (by decide +kernel) rfl ⟨Nat.le_of_ble_eq_true rfl, Nat.le_of_ble_eq_true rfl⟩ (Nat.le_of_ble_eq_true rfl) ⟨Nat.le_of_ble_eq_true rfl, Nat.le_of_ble_eq_true rfl⟩ rfl dL_joins_107 ?_
  intro ρ8 o8 z8 rg8 og8 hok8 hy8
  have hx8 := oxt_tr hx6 hy8
  refine z_if_lt hC 155 dL_joins_110 (by decide) (fun c110 => absurd c110 (runR_pos hI5 (by omega))) (fun c110 => ?_)
  refine z_aload_n hC dL_joins_113 rfl ?_
  refine z_iload_n hC dL_joins_114 rfl ?_
  refine z_callH [0, 1, 2, 3, 4, 5, 6, 7, 8, 9, 10, 11, 12, 13, 14, 15, 16] hC (h_parent l D ct b qs qt qh qx (msRun (msRun (u2 (msSetLink (msSetPower (msSetPower σ (nI 0) 1) (nI k) 1) (nI 0) (nI k) 1) 7 k 0) w) 1) k hk) bw_65 bw_66 bw_62 bw_67 2 (by decide +kernel) rfl rfl rfl ⟨Nat.le_of_ble_eq_true rfl, Nat.le_of_ble_eq_true rfl⟩ (Nat.le_of_ble_eq_true rfl) ⟨Nat.le_of_ble_eq_true rfl, Nat.le_of_ble_eq_true rfl⟩ rfl dL_joins_115 ?_
  refine zkq (G := fun v1 w1 => zG p l e _ s m args below meth c D _ _ _ _ _ _ _ (v1.toList ++ _) w1) rfl ?_
  refine z_if_ne hC 155 dL_joins_118 (by decide) (fun c118 => (c118 hjj.1).elim) (fun c118 => ?_)
  refine z_aload_n hC dL_joins_121 rfl ?_
  refine z_iload_n hC dL_joins_122 rfl ?_
  refine z_callH [0, 1, 2, 3, 4, 5, 6, 7, 8, 9, 10, 11, 12, 13, 14, 15, 16] hC (h_depth l D ct b qs qt qh qx (msRun (msRun (u2 (msSetLink (msSetPower (msSetPower σ (nI 0) 1) (nI k) 1) (nI 0) (nI k) 1) 7 k 0) w) 1) k hk) bw_82 bw_83 bw_62 bw_84 2 (by decide +kernel) rfl rfl rfl ⟨Nat.le_of_ble_eq_true rfl, Nat.le_of_ble_eq_true rfl⟩ (Nat.le_of_ble_eq_true rfl) ⟨Nat.le_of_ble_eq_true rfl, Nat.le_of_ble_eq_true rfl⟩ rfl dL_joins_123 ?_
  refine zkq (G := fun v1 w1 => zG p l e _ s m args below meth c D _ _ _ _ _ _ _ (v1.toList ++ _) w1) rfl ?_
  refine z_iconst (v := 1) hC dL_joins_126 (by decide) ?_
  refine z_icmp_ne hC 155 dL_joins_127 (by decide) (fun c127 => (c127 hjj.2.1).elim) (fun c127 => ?_)
  refine z_aload_n hC dL_joins_130 rfl ?_
  refine z_iload_n hC dL_joins_131 rfl ?_
  refine z_callH [0, 1, 2, 3, 4, 5, 6, 7, 8, 9, 10, 11, 12, 13, 14, 15, 16] hC (h_silence l D ct b qs qt qh qx (msRun (msRun (u2 (msSetLink (msSetPower (msSetPower σ (nI 0) 1) (nI k) 1) (nI 0) (nI k) 1) 7 k 0) w) 1) k hk0 hk) bw_100 bw_101 bw_62 bw_102 2 (by decide +kernel) rfl rfl rfl ⟨Nat.le_of_ble_eq_true rfl, Nat.le_of_ble_eq_true rfl⟩ (Nat.le_of_ble_eq_true rfl) ⟨Nat.le_of_ble_eq_true rfl, Nat.le_of_ble_eq_true rfl⟩ rfl dL_joins_132 ?_
  refine zkq (G := fun v1 w1 => zG p l e _ s m args below meth c D _ _ _ _ _ _ _ (v1.toList ++ _) w1) rfl ?_
  refine z_iconst (v := 1) hC dL_joins_135 (by decide) ?_
  refine z_icmp_ne hC 155 dL_joins_136 (by decide) (fun c136 => (c136 (sil_1 (t := tt) (by omega) hjj hjt)).elim) (fun c136 => ?_)
  refine z_aload_n hC dL_joins_139 rfl ?_
  refine z_iload_n hC dL_joins_140 rfl ?_
  refine z_callH [0, 1, 2, 3, 4, 5, 6, 7, 8, 9, 10, 11, 12, 13, 14, 15, 16] hC (h_clock l D ct b qs qt qh qx (msRun (msRun (u2 (msSetLink (msSetPower (msSetPower σ (nI 0) 1) (nI k) 1) (nI 0) (nI k) 1) 7 k 0) w) 1) k hk) bw_89 bw_90 bw_62 bw_91 2 (by decide +kernel) rfl rfl rfl ⟨Nat.le_of_ble_eq_true rfl, Nat.le_of_ble_eq_true rfl⟩ (Nat.le_of_ble_eq_true rfl) ⟨Nat.le_of_ble_eq_true rfl, Nat.le_of_ble_eq_true rfl⟩ rfl dL_joins_141 ?_
  refine zkq (G := fun v1 w1 => zG p l e _ s m args below meth c D _ _ _ _ _ _ _ (v1.toList ++ _) w1) rfl ?_
  refine z_aload_n hC dL_joins_144 rfl ?_
  refine z_callV [0, 1, 2, 3, 4, 5, 6, 7, 8, 9, 10, 11, 12, 13, 14, 15, 16] 0 4 hC (c_X4_time l D ct b qs qt qh qx (msRun (msRun (u2 (msSetLink (msSetPower (msSetPower σ (nI 0) 1) (nI k) 1) (nI 0) (nI k) 1) 7 k 0) w) 1)) bw_96 bw_97 bw_98 bw_2 bw_99 0 (by decide +kernel) rfl rfl rfl rfl rfl ⟨Nat.le_of_ble_eq_true rfl, Nat.le_of_ble_eq_true rfl⟩ (Nat.le_of_ble_eq_true rfl) ⟨Nat.le_of_ble_eq_true rfl, Nat.le_of_ble_eq_true rfl⟩ rfl dL_joins_145 ?_
  refine zkq (G := fun v1 w1 => zG p l e _ s m args below meth c D _ _ _ _ _ _ _ (v1.toList ++ _) w1) rfl ?_
  refine z_icmp_ne hC 155 dL_joins_148 (by decide) (fun c148 => (c148 ((congrArg (fun z => (msRun (msRun (u2 (msSetLink (msSetPower (msSetPower σ (nI 0) 1) (nI k) 1) (nI 0) (nI k) 1) 7 k 0) w) 1) 0 0 + z) hjj.2.2.2).trans (Int32.add_zero _))).elim) (fun c148 => ?_)
  refine z_iconst (v := 1) hC dL_joins_151 (by decide) ?_
  refine z_goto hC 156 dL_joins_152 (by decide) ?_
  refine z_istore hC dL_joins_156 (by decide) rfl ?_
  refine z_iload hC dL_joins_158 rfl ?_
  refine z_if_eq hC 223 dL_joins_160 (by decide) (fun cn9 => absurd cn9 (by decide)) (fun cn9 => ?_)
  refine z_aload_n hC dL_joins_163 rfl ?_
  refine z_callHW hC hok8 (w_undo l D ct b qs qt qh qx (msRun (msRun (u2 (msSetLink (msSetPower (msSetPower σ (nI 0) 1) (nI k) 1) (nI 0) (nI k) 1) 7 k 0) w) 1) (msRun (u2 (msSetLink (msSetPower (msSetPower σ (nI 0) 1) (nI k) 1) (nI 0) (nI k) 1) 7 k 0) w) (List.take 5 (push (u2 (msSetLink (msSetPower (msSetPower σ (nI 0) 1) (nI k) 1) (nI 0) (nI k) 1) 7 k 0) (push (msSetLink (msSetPower (msSetPower σ (nI 0) 1) (nI k) 1) (nI 0) (nI k) 1) (push (msSetPower (msSetPower σ (nI 0) 1) (nI k) 1) (push (msSetPower σ (nI 0) 1) (push σ hs)))))) hI5) bw_423 bw_424 bw_62 bw_425 1 (by decide +kernel) rfl ⟨Nat.le_of_ble_eq_true rfl, Nat.le_of_ble_eq_true rfl⟩ (Nat.le_of_ble_eq_true rfl) ⟨Nat.le_of_ble_eq_true rfl, Nat.le_of_ble_eq_true rfl⟩ rfl dL_joins_164 ?_
  intro ρ10 o10 z10 rg10 og10 hok10 hy10
  have hx10 := oxt_tr hx8 hy10
  refine z_if_lt hC 223 dL_joins_167 (by decide) (fun c167 => absurd c167 (tk_len _ _ (by omega))) (fun c167 => ?_)
  refine z_iload hC dL_joins_170 rfl ?_
  refine z_if_eq hC 182 dL_joins_172 (by decide) (fun c172 => absurd c172 (nI_ne0 hw0 (by omega))) (fun c172 => ?_)
  refine z_aload_n hC dL_joins_175 rfl ?_
  refine z_callHW hC hok10 (w_undo l D ct b qs qt qh qx (msRun (u2 (msSetLink (msSetPower (msSetPower σ (nI 0) 1) (nI k) 1) (nI 0) (nI k) 1) 7 k 0) w) (u2 (msSetLink (msSetPower (msSetPower σ (nI 0) 1) (nI k) 1) (nI 0) (nI k) 1) 7 k 0) (List.take 4 (List.take 5 (push (msSetLink (msSetPower (msSetPower σ (nI 0) 1) (nI k) 1) (nI 0) (nI k) 1) (push (msSetPower (msSetPower σ (nI 0) 1) (nI k) 1) (push (msSetPower σ (nI 0) 1) (push σ hs)))))) hI4) bw_423 bw_424 bw_62 bw_425 1 (by decide +kernel) rfl ⟨Nat.le_of_ble_eq_true rfl, Nat.le_of_ble_eq_true rfl⟩ (Nat.le_of_ble_eq_true rfl) ⟨Nat.le_of_ble_eq_true rfl, Nat.le_of_ble_eq_true rfl⟩ rfl dL_joins_176 ?_
  intro ρ11 o11 z11 rg11 og11 hok11 hy11
  have hx11 := oxt_tr hx10 hy11
  refine z_if_lt hC 223 dL_joins_179 (by decide) (fun c179 => absurd c179 (tk_len _ _ (by omega))) (fun c179 => ?_)
  refine z_aload_n hC dL_joins_182 rfl ?_
  refine z_callHW hC hok11 (w_undo l D ct b qs qt qh qx (u2 (msSetLink (msSetPower (msSetPower σ (nI 0) 1) (nI k) 1) (nI 0) (nI k) 1) 7 k 0) (msSetLink (msSetPower (msSetPower σ (nI 0) 1) (nI k) 1) (nI 0) (nI k) 1) (List.take 3 (List.take 4 (List.take 5 (push (msSetPower (msSetPower σ (nI 0) 1) (nI k) 1) (push (msSetPower σ (nI 0) 1) (push σ hs)))))) hI3) bw_423 bw_424 bw_62 bw_425 1 (by decide +kernel) rfl ⟨Nat.le_of_ble_eq_true rfl, Nat.le_of_ble_eq_true rfl⟩ (Nat.le_of_ble_eq_true rfl) ⟨Nat.le_of_ble_eq_true rfl, Nat.le_of_ble_eq_true rfl⟩ rfl dL_joins_183 ?_
  intro ρ12 o12 z12 rg12 og12 hok12 hy12
  have hx12 := oxt_tr hx11 hy12
  refine z_if_lt hC 223 dL_joins_186 (by decide) (fun c186 => absurd c186 (tk_len _ _ (by omega))) (fun c186 => ?_)
  refine z_aload_n hC dL_joins_189 rfl ?_
  refine z_callHW hC hok12 (w_undo l D ct b qs qt qh qx (msSetLink (msSetPower (msSetPower σ (nI 0) 1) (nI k) 1) (nI 0) (nI k) 1) (msSetPower (msSetPower σ (nI 0) 1) (nI k) 1) (List.take 2 (List.take 3 (List.take 4 (List.take 5 (push (msSetPower σ (nI 0) 1) (push σ hs)))))) hI2) bw_423 bw_424 bw_62 bw_425 1 (by decide +kernel) rfl ⟨Nat.le_of_ble_eq_true rfl, Nat.le_of_ble_eq_true rfl⟩ (Nat.le_of_ble_eq_true rfl) ⟨Nat.le_of_ble_eq_true rfl, Nat.le_of_ble_eq_true rfl⟩ rfl dL_joins_190 ?_
  intro ρ13 o13 z13 rg13 og13 hok13 hy13
  have hx13 := oxt_tr hx12 hy13
  refine z_if_lt hC 223 dL_joins_193 (by decide) (fun c193 => absurd c193 (tk_len _ _ (by omega))) (fun c193 => ?_)
  refine z_aload_n hC dL_joins_196 rfl ?_
  refine z_callHW hC hok13 (w_undo l D ct b qs qt qh qx (msSetPower (msSetPower σ (nI 0) 1) (nI k) 1) (msSetPower σ (nI 0) 1) (List.take 1 (List.take 2 (List.take 3 (List.take 4 (List.take 5 (push σ hs)))))) hI1) bw_423 bw_424 bw_62 bw_425 1 (by decide +kernel) rfl ⟨Nat.le_of_ble_eq_true rfl, Nat.le_of_ble_eq_true rfl⟩ (Nat.le_of_ble_eq_true rfl) ⟨Nat.le_of_ble_eq_true rfl, Nat.le_of_ble_eq_true rfl⟩ rfl dL_joins_197 ?_
  intro ρ14 o14 z14 rg14 og14 hok14 hy14
  have hx14 := oxt_tr hx13 hy14
  refine z_if_lt hC 223 dL_joins_200 (by decide) (fun c200 => absurd c200 (tk_len _ _ (by omega))) (fun c200 => ?_)
  refine z_aload_n hC dL_joins_203 rfl ?_
  refine z_callHW hC hok14 (w_undo l D ct b qs qt qh qx (msSetPower σ (nI 0) 1) σ (List.take 0 (List.take 1 (List.take 2 (List.take 3 (List.take 4 (List.take 5 hs)))))) hI) bw_423 bw_424 bw_62 bw_425 1 (by decide +kernel) rfl ⟨Nat.le_of_ble_eq_true rfl, Nat.le_of_ble_eq_true rfl⟩ (Nat.le_of_ble_eq_true rfl) ⟨Nat.le_of_ble_eq_true rfl, Nat.le_of_ble_eq_true rfl⟩ rfl dL_joins_204 ?_
  intro ρ15 o15 z15 rg15 og15 hok15 hy15
  have hx15 := oxt_tr hx14 hy15
  refine z_if_lt hC 223 dL_joins_207 (by decide) (fun c207 => absurd c207 (tk_len _ _ (by omega))) (fun c207 => ?_)
  refine z_aload_n hC dL_joins_210 rfl ?_
  refine z_callS [0, 1, 2, 3, 4, 5, 6, 7, 8, 9, 10, 11, 12, 13, 14, 15, 16] hC (n_print l D ct b qs qt qh qx σ hI) bw_250 bw_251 bw_62 bw_252 1 (by decide +kernel) rfl rfl rfl ⟨Nat.le_of_ble_eq_true rfl, Nat.le_of_ble_eq_true rfl⟩ (Nat.le_of_ble_eq_true rfl) ⟨Nat.le_of_ble_eq_true rfl, Nat.le_of_ble_eq_true rfl⟩ rfl dL_joins_211 ?_
  refine zkq (G := fun v1 w1 => zG p l e _ s m args below meth c D _ _ _ _ _ _ _ (v1.toList ++ _) w1) rfl ?_
  refine z_lload_n hC dL_joins_214 rfl ?_
  refine z_lcmp hC dL_joins_215 ?_
  refine z_if_ne hC 223 dL_joins_216 (by decide) (fun c216 => (c216 (lg_self _)).elim) (fun c216 => ?_)
  refine z_iconst (v := 1) hC dL_joins_219 (by decide) ?_
  refine z_goto hC 224 dL_joins_220 (by decide) ?_
  exact z_zretW hC hr rfl dL_joins_224 (Nat.le_of_ble_eq_true rfl) (Nat.le_of_ble_eq_true rfl) hok15 hx15
