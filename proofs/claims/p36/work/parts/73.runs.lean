/-! P36: THE LAW'S runs -/
theorem if_iff {A C : Prop} [Decidable A] [Decidable C] (h : A ↔ C) : (if A then (1 : Int32) else 0) = if C then 1 else 0 := by
  by_cases c : C
  · rw [if_pos (h.mpr c), if_pos c]
  · rw [if_neg (fun q => c (h.mp q)), if_neg c]
section RF
variable {σ : TB} {B : Nat}
theorem ms_pos (h : Inv B σ) (hn : ¬ ms0 σ) : ¬ mrMissing (rd σ) ≤ 0 := by
  obtain ⟨-, a, b, c⟩ := size_0 h
  unfold ms0 at hn
  rw [c] at hn ⊢
  have : sT σ - sK σ 0 ≠ 0 := fun q => hn (by rw [q]; rfl)
  exact nI_nle (by omega) (by omega)
theorem sc_zero (h : Inv B σ) (hB : B + 600 < 2 ^ 30) : (mSc 401 0 σ).1 = 0 ↔ mrMissing (rd σ) = 0 := by
  rcases sc_run h (k := 0) (by omega) hB with ⟨a, b, -⟩ | ⟨d, d1, a, b, -⟩ | ⟨d, d1, d2, a, b, -⟩
  · rw [a]
    exact ⟨fun q => absurd q (by decide), fun q => absurd q b⟩
  · rw [a, show (0 : Int32) = nI 0 from rfl, nI_eq (by omega) (by omega)]
    exact b
  · rw [a, show (0 : Int32) = nI 0 from rfl, nI_eq (by omega) (by omega)]
    exact ⟨fun q => by omega, fun q => absurd q b⟩
theorem coll_run (h : Inv B σ) {k : Nat} (hB : B + k < 2 ^ 30) : mrSize (rd (msRun σ k)) 0 = mrSize (rd σ) 0 + msRunR σ k := by
  have m := (run_m k σ B h hB).2.2
  rw [(size_0 (Inv_run h hB)).1, (size_0 h).1, runR_n h hB, nI_add]
  congr 1
  omega
theorem miss_run (h : Inv B σ) {k : Nat} (hB : B + k < 2 ^ 30) : mrMissing (rd (msRun σ k)) = mrMissing (rd σ) - msRunR σ k := by
  obtain ⟨-, m1, m⟩ := run_m k σ B h hB
  obtain ⟨-, a1, -, a⟩ := size_0 (Inv_run h hB)
  obtain ⟨-, c1, -, c⟩ := size_0 h
  rw [a, c, runR_n h hB, m1]
  rw [m1] at a1
  rw [pk_sub (by omega)]
  congr 1
  omega
theorem runR_pos (h : Inv B σ) {k : Nat} (hB : B + k < 2 ^ 30) : ¬ msRunR σ k < 0 := by
  rw [runR_n h hB]
  have := (size_0 (Inv_run h hB)).2
  exact nI_pos (by omega)
end RF

set_option maxRecDepth 100000 in
set_option maxHeartbeats 1000000 in
theorem c_L_runs (l : Launch)  (D : va_G) (ct : Nat → ClassId) (b : Nat) (qs qt qh qx : Nat → Nat) (σ : TB) (hs : List TB) {B : Nat} (hI : Inv B σ) (hB : B + 600 < 2 ^ 30) (k : Nat) (hk0 : 0 < k) (hk : k ≤ 100) : ∀ (ρ : TB) (o z : Int32) (rg : Nat → Option Nat) (og : OG), hOK hs o z rg og → zT l D ct yL_runs cL_runs 10 (some .boolean) 8 195 16 1633 [.ref b, .int (nI k)] (lwW b qs qt qh qx σ ρ o z rg og ct) (lwP b qs qt qh qx og ct (some (.int 1)) σ (List.take 5 hs)) := by
  intro ρ o z rg og hok
  have hI1 := Inv_run hI (k := k) (by omega)
  have h0 := sc_zero hI hB
  refine zT_of ([some (.ref b), some (.int (nI k)), none, none, none, none, none, none, none, none]) (by decide +kernel) rfl (Nat.le_of_ble_eq_true rfl) ?_
  intro p e s m args below meth c hC hr hnm
  refine z_aload_n hC dL_runs_0 rfl ?_
  refine z_iload_n hC dL_runs_1 rfl ?_
  refine z_callHW hC hok (w_ifRun l D ct b qs qt qh qx σ hs hI k hk0 hk) bw_439 bw_440 bw_62 bw_441 2 (by decide +kernel) rfl ⟨Nat.le_of_ble_eq_true rfl, Nat.le_of_ble_eq_true rfl⟩ (Nat.le_of_ble_eq_true rfl) ⟨Nat.le_of_ble_eq_true rfl, Nat.le_of_ble_eq_true rfl⟩ rfl dL_runs_2 ?_
  intro ρ1 o1 z1 rg1 og1 hok1 hy1
  have hx1 := hy1
  refine z_istore_n hC dL_runs_5 (by decide) rfl ?_
  refine z_aload_n hC dL_runs_6 rfl ?_
  refine z_callTr hC rfl (c_X4_slotsToCollect l D ct b qs qt qh qx σ ρ1 (Inv_zb hI).1 (Inv_zb hI).2 (Inv_ok hI) (mSc 401 0 σ) rfl) bw_446 bw_447 bw_448 bw_2 bw_449 0 (by decide +kernel) rfl ⟨Nat.le_of_ble_eq_true rfl, Nat.le_of_ble_eq_true rfl⟩ (Nat.le_of_ble_eq_true rfl) ⟨Nat.le_of_ble_eq_true rfl, Nat.le_of_ble_eq_true rfl⟩ rfl dL_runs_7 ?_
  generalize (mSc 401 0 σ).2 = ρ2
  refine z_istore_n hC dL_runs_10 (by decide) rfl ?_
  refine z_aload_n hC dL_runs_11 rfl ?_
  refine z_callV [0, 1, 2, 3, 4, 5, 6, 7, 8, 9, 10, 11, 12, 13, 14, 15, 16] 0 4 hC (c_X4_collected l D ct b qs qt qh qx σ) bw_147 bw_148 bw_149 bw_2 bw_150 0 (by decide +kernel) rfl rfl rfl rfl rfl ⟨Nat.le_of_ble_eq_true rfl, Nat.le_of_ble_eq_true rfl⟩ (Nat.le_of_ble_eq_true rfl) ⟨Nat.le_of_ble_eq_true rfl, Nat.le_of_ble_eq_true rfl⟩ rfl dL_runs_12 ?_
  refine zkq (G := fun v1 w1 => zG p l e _ s m args below meth c D _ _ _ _ _ _ _ (v1.toList ++ _) w1) rfl ?_
  refine z_istore hC dL_runs_15 (by decide) rfl ?_
  refine z_aload_n hC dL_runs_17 rfl ?_
  refine z_callV [0, 1, 2, 3, 4, 5, 6, 7, 8, 9, 10, 11, 12, 13, 14, 15, 16] 0 4 hC (c_X4_time l D ct b qs qt qh qx σ) bw_96 bw_97 bw_98 bw_2 bw_99 0 (by decide +kernel) rfl rfl rfl rfl rfl ⟨Nat.le_of_ble_eq_true rfl, Nat.le_of_ble_eq_true rfl⟩ (Nat.le_of_ble_eq_true rfl) ⟨Nat.le_of_ble_eq_true rfl, Nat.le_of_ble_eq_true rfl⟩ rfl dL_runs_18 ?_
  refine zkq (G := fun v1 w1 => zG p l e _ s m args below meth c D _ _ _ _ _ _ _ (v1.toList ++ _) w1) rfl ?_
  refine z_istore hC dL_runs_21 (by decide) rfl ?_
  refine z_aload_n hC dL_runs_23 rfl ?_
  refine z_callV [0, 1, 2, 3, 4, 5, 6, 7, 8, 9, 10, 11, 12, 13, 14, 15, 16] 0 4 hC (c_X4_missing l D ct b qs qt qh qx σ) bw_227 bw_228 bw_229 bw_2 bw_230 0 (by decide +kernel) rfl rfl rfl rfl rfl ⟨Nat.le_of_ble_eq_true rfl, Nat.le_of_ble_eq_true rfl⟩ (Nat.le_of_ble_eq_true rfl) ⟨Nat.le_of_ble_eq_true rfl, Nat.le_of_ble_eq_true rfl⟩ rfl dL_runs_24 ?_
  refine zkq (G := fun v1 w1 => zG p l e _ s m args below meth c D _ _ _ _ _ _ _ (v1.toList ++ _) w1) rfl ?_
  refine z_istore hC dL_runs_27 (by decide) rfl ?_
  refine z_aload_n hC dL_runs_29 rfl ?_
  refine z_callS [0, 1, 2, 3, 4, 5, 6, 7, 8, 9, 10, 11, 12, 13, 14, 15, 16] hC (n_print l D ct b qs qt qh qx σ hI) bw_250 bw_251 bw_62 bw_252 1 (by decide +kernel) rfl rfl rfl ⟨Nat.le_of_ble_eq_true rfl, Nat.le_of_ble_eq_true rfl⟩ (Nat.le_of_ble_eq_true rfl) ⟨Nat.le_of_ble_eq_true rfl, Nat.le_of_ble_eq_true rfl⟩ rfl dL_runs_30 ?_
  refine zkq (G := fun v1 w1 => zG p l e _ s m args below meth c D _ _ _ _ _ _ _ (v1.toList ++ _) w1) rfl ?_
  refine z_lstore hC dL_runs_33 (by decide) rfl ?_
  refine z_aload_n hC dL_runs_35 rfl ?_
  refine z_iload_n hC dL_runs_36 rfl ?_
  refine z_callHW hC hok1 (w_run l D ct b qs qt qh qx σ hs hI k hk0 hk) bw_378 bw_379 bw_62 bw_380 2 (by decide +kernel) rfl ⟨Nat.le_of_ble_eq_true rfl, Nat.le_of_ble_eq_true rfl⟩ (Nat.le_of_ble_eq_true rfl) ⟨Nat.le_of_ble_eq_true rfl, Nat.le_of_ble_eq_true rfl⟩ rfl dL_runs_37 ?_
  intro ρ3 o3 z3 rg3 og3 hok3 hy3
  have hx3 := oxt_tr hx1 hy3
  refine z_iload_n hC dL_runs_40 rfl ?_
  refine z_icmp_ne hC 128 dL_runs_41 (by decide) (fun c41 => (c41 rfl).elim) (fun c41 => ?_)
  refine z_aload_n hC dL_runs_44 rfl ?_
  refine z_callV [0, 1, 2, 3, 4, 5, 6, 7, 8, 9, 10, 11, 12, 13, 14, 15, 16] 0 4 hC (c_X4_collected l D ct b qs qt qh qx (msRun σ k)) bw_147 bw_148 bw_149 bw_2 bw_150 0 (by decide +kernel) rfl rfl rfl rfl rfl ⟨Nat.le_of_ble_eq_true rfl, Nat.le_of_ble_eq_true rfl⟩ (Nat.le_of_ble_eq_true rfl) ⟨Nat.le_of_ble_eq_true rfl, Nat.le_of_ble_eq_true rfl⟩ rfl dL_runs_45 ?_
  refine zkq (G := fun v1 w1 => zG p l e _ s m args below meth c D _ _ _ _ _ _ _ (v1.toList ++ _) w1) rfl ?_
  refine z_iload hC dL_runs_48 rfl ?_
  refine z_iload_n hC dL_runs_50 rfl ?_
  refine z_iadd hC dL_runs_51 ?_
  refine z_icmp_ne hC 128 dL_runs_52 (by decide) (fun c52 => (c52 (coll_run hI (by omega))).elim) (fun c52 => ?_)
  refine z_aload_n hC dL_runs_55 rfl ?_
  refine z_callV [0, 1, 2, 3, 4, 5, 6, 7, 8, 9, 10, 11, 12, 13, 14, 15, 16] 0 4 hC (c_X4_time l D ct b qs qt qh qx (msRun σ k)) bw_96 bw_97 bw_98 bw_2 bw_99 0 (by decide +kernel) rfl rfl rfl rfl rfl ⟨Nat.le_of_ble_eq_true rfl, Nat.le_of_ble_eq_true rfl⟩ (Nat.le_of_ble_eq_true rfl) ⟨Nat.le_of_ble_eq_true rfl, Nat.le_of_ble_eq_true rfl⟩ rfl dL_runs_56 ?_
  refine zkq (G := fun v1 w1 => zG p l e _ s m args below meth c D _ _ _ _ _ _ _ (v1.toList ++ _) w1) rfl ?_
  refine z_iload hC dL_runs_59 rfl ?_
  refine z_iload_n hC dL_runs_61 rfl ?_
  refine z_iadd hC dL_runs_62 ?_
  refine z_icmp_ne hC 128 dL_runs_63 (by decide) (fun c63 => (c63 (run_m k σ B hI (by omega)).1).elim) (fun c63 => ?_)
  refine z_aload_n hC dL_runs_66 rfl ?_
  refine z_callV [0, 1, 2, 3, 4, 5, 6, 7, 8, 9, 10, 11, 12, 13, 14, 15, 16] 0 4 hC (c_X4_missing l D ct b qs qt qh qx (msRun σ k)) bw_227 bw_228 bw_229 bw_2 bw_230 0 (by decide +kernel) rfl rfl rfl rfl rfl ⟨Nat.le_of_ble_eq_true rfl, Nat.le_of_ble_eq_true rfl⟩ (Nat.le_of_ble_eq_true rfl) ⟨Nat.le_of_ble_eq_true rfl, Nat.le_of_ble_eq_true rfl⟩ rfl dL_runs_67 ?_
  refine zkq (G := fun v1 w1 => zG p l e _ s m args below meth c D _ _ _ _ _ _ _ (v1.toList ++ _) w1) rfl ?_
  refine z_iload hC dL_runs_70 rfl ?_
  refine z_iload_n hC dL_runs_72 rfl ?_
  refine z_isub hC dL_runs_73 ?_
  refine z_icmp_ne hC 128 dL_runs_74 (by decide) (fun c74 => (c74 (miss_run hI (by omega))).elim) (fun c74 => ?_)
  suffices k124_5 : ∀ ρj4 : TB, zG p l e { frames := 8, cells := 16, slots := 1633, locals := 195 } s m args below meth c D (va_A (lwW b qs qt qh qx σ ρ o z rg og ct) s.heap.size) 10 (MQ below (zQ D ct (lwW b qs qt qh qx σ ρ o z rg og ct) s.heap.size (lwP b qs qt qh qx og ct (some (.int 1)) σ (List.take 5 hs))) args s 16 1633 (va_A (lwW b qs qt qh qx σ ρ o z rg og ct) s.heap.size)) ((((((((((0 + 0) + 0) + 0) + 0) + 0) + 0) + 16) + 0) + 0) + 0) ((((((((((0 + 0) + 0) + 0) + 0) + 0) + 0) + 1633) + 0) + 0) + 0) 124 [some (.ref b), some (.int (nI k)), some (.int (msRunR σ k)), some (.int ((mSc 401 0 σ).1)), some (.int (mrSize (rd σ) 0)), some (.int (σ 0 0)), some (.int (mrMissing (rd σ))), some (.long (prt σ)), none, none] [] (lwW b qs qt qh qx (msRun σ k) ρj4 o3 z3 rg3 og3 ct) by
    rcases sc_run hI hk (by omega) with ⟨hin, ha, hb⟩ | ⟨d0, hd0, hin, ha, hb⟩ | ⟨d0, hd0, hd1, hin, ha, hb, hsc⟩
    · refine z_iload_n hC dL_runs_77 rfl ?_
      refine z_if_lt hC 93 dL_runs_78 (by decide) (fun c78 => ?_) (fun c78 => (c78 (by rw [hin]; exact m1z)).elim)
      refine z_iload_n hC dL_runs_93 rfl ?_
      refine z_if_lt hC 102 dL_runs_94 (by decide) (fun c94 => ?_) (fun c94 => (c94 (by rw [hin]; exact m1z)).elim)
      refine z_aload_n hC dL_runs_102 rfl ?_
      refine z_callV [0, 1, 2, 3, 4, 5, 6, 7, 8, 9, 10, 11, 12, 13, 14, 15, 16] 0 4 hC (c_X4_missing l D ct b qs qt qh qx (msRun σ k)) bw_227 bw_228 bw_229 bw_2 bw_230 0 (by decide +kernel) rfl rfl rfl rfl rfl ⟨Nat.le_of_ble_eq_true rfl, Nat.le_of_ble_eq_true rfl⟩ (Nat.le_of_ble_eq_true rfl) ⟨Nat.le_of_ble_eq_true rfl, Nat.le_of_ble_eq_true rfl⟩ rfl dL_runs_103 ?_
      refine zkq (G := fun v1 w1 => zG p l e _ s m args below meth c D _ _ _ _ _ _ _ (v1.toList ++ _) w1) rfl ?_
      refine z_if_le hC 128 dL_runs_106 (by decide) (fun c106 => absurd c106 (ms_pos hI1 hb)) (fun c106 => ?_)
      refine z_iload_n hC dL_runs_109 rfl ?_
      refine z_iload_n hC dL_runs_110 rfl ?_
      refine z_icmp_le hC 124 dL_runs_111 (by decide) (fun c111 => ?_) (fun c111 => (c111 (by rw [hin]; exact m1_le (by omega))).elim)
      exact (k124_5 _)
    · refine z_iload_n hC dL_runs_77 rfl ?_
      refine z_if_lt hC 93 dL_runs_78 (by decide) (fun c78 => absurd c78 (by rw [hin]; exact nI_pos (by omega))) (fun c78 => ?_)
      refine z_iload_n hC dL_runs_81 rfl ?_
      refine z_iload_n hC dL_runs_82 rfl ?_
      refine z_icmp_gt hC 93 dL_runs_83 (by decide) (fun c83 => absurd c83 (by rw [hin]; exact nI_nlt hd0 (by omega))) (fun c83 => ?_)
      refine z_aload_n hC dL_runs_86 rfl ?_
      refine z_callV [0, 1, 2, 3, 4, 5, 6, 7, 8, 9, 10, 11, 12, 13, 14, 15, 16] 0 4 hC (c_X4_missing l D ct b qs qt qh qx (msRun σ k)) bw_227 bw_228 bw_229 bw_2 bw_230 0 (by decide +kernel) rfl rfl rfl rfl rfl ⟨Nat.le_of_ble_eq_true rfl, Nat.le_of_ble_eq_true rfl⟩ (Nat.le_of_ble_eq_true rfl) ⟨Nat.le_of_ble_eq_true rfl, Nat.le_of_ble_eq_true rfl⟩ rfl dL_runs_87 ?_
      refine zkq (G := fun v1 w1 => zG p l e _ s m args below meth c D _ _ _ _ _ _ _ (v1.toList ++ _) w1) rfl ?_
      refine z_if_ne hC 128 dL_runs_90 (by decide) (fun c90 => (c90 hb).elim) (fun c90 => ?_)
      refine z_iload_n hC dL_runs_93 rfl ?_
      refine z_if_lt hC 102 dL_runs_94 (by decide) (fun c94 => absurd c94 (by rw [hin]; exact nI_pos (by omega))) (fun c94 => ?_)
      refine z_iload_n hC dL_runs_97 rfl ?_
      refine z_iload_n hC dL_runs_98 rfl ?_
      refine z_icmp_le hC 109 dL_runs_99 (by decide) (fun c99 => ?_) (fun c99 => (c99 (by rw [hin]; exact nI_le hd0 (by omega))).elim)
      refine z_iload_n hC dL_runs_109 rfl ?_
      refine z_iload_n hC dL_runs_110 rfl ?_
      refine z_icmp_le hC 124 dL_runs_111 (by decide) (fun c111 => ?_) (fun c111 => (c111 (by rw [hin]; exact nI_le hd0 (by omega))).elim)
      exact (k124_5 _)
    · refine z_iload_n hC dL_runs_77 rfl ?_
      refine z_if_lt hC 93 dL_runs_78 (by decide) (fun c78 => absurd c78 (by rw [hin]; exact nI_pos (by omega))) (fun c78 => ?_)
      refine z_iload_n hC dL_runs_81 rfl ?_
      refine z_iload_n hC dL_runs_82 rfl ?_
      refine z_icmp_gt hC 93 dL_runs_83 (by decide) (fun c83 => ?_) (fun c83 => (c83 (by rw [hin]; exact nI_lt hd0 (by omega))).elim)
      refine z_iload_n hC dL_runs_93 rfl ?_
      refine z_if_lt hC 102 dL_runs_94 (by decide) (fun c94 => absurd c94 (by rw [hin]; exact nI_pos (by omega))) (fun c94 => ?_)
      refine z_iload_n hC dL_runs_97 rfl ?_
      refine z_iload_n hC dL_runs_98 rfl ?_
      refine z_icmp_le hC 109 dL_runs_99 (by decide) (fun c99 => absurd c99 (by rw [hin]; exact nI_ge hd0 (by omega))) (fun c99 => ?_)
      refine z_aload_n hC dL_runs_102 rfl ?_
      refine z_callV [0, 1, 2, 3, 4, 5, 6, 7, 8, 9, 10, 11, 12, 13, 14, 15, 16] 0 4 hC (c_X4_missing l D ct b qs qt qh qx (msRun σ k)) bw_227 bw_228 bw_229 bw_2 bw_230 0 (by decide +kernel) rfl rfl rfl rfl rfl ⟨Nat.le_of_ble_eq_true rfl, Nat.le_of_ble_eq_true rfl⟩ (Nat.le_of_ble_eq_true rfl) ⟨Nat.le_of_ble_eq_true rfl, Nat.le_of_ble_eq_true rfl⟩ rfl dL_runs_103 ?_
      refine zkq (G := fun v1 w1 => zG p l e _ s m args below meth c D _ _ _ _ _ _ _ (v1.toList ++ _) w1) rfl ?_
      refine z_if_le hC 128 dL_runs_106 (by decide) (fun c106 => absurd c106 (ms_pos hI1 hb)) (fun c106 => ?_)
      refine z_iload_n hC dL_runs_109 rfl ?_
      refine z_iload_n hC dL_runs_110 rfl ?_
      refine z_icmp_le hC 124 dL_runs_111 (by decide) (fun c111 => absurd c111 (by rw [hin]; exact nI_ge hd0 (by omega))) (fun c111 => ?_)
      refine z_aload_n hC dL_runs_114 rfl ?_
      refine z_callTr hC rfl (c_X4_slotsToCollect l D ct b qs qt qh qx (msRun σ k) ρ3 (Inv_zb hI1).1 (Inv_zb hI1).2 (Inv_ok hI1) (mSc 401 0 (msRun σ k)) rfl) bw_446 bw_447 bw_448 bw_2 bw_449 0 (by decide +kernel) rfl ⟨Nat.le_of_ble_eq_true rfl, Nat.le_of_ble_eq_true rfl⟩ (Nat.le_of_ble_eq_true rfl) ⟨Nat.le_of_ble_eq_true rfl, Nat.le_of_ble_eq_true rfl⟩ rfl dL_runs_115 ?_
      generalize (mSc 401 0 (msRun σ k)).2 = ρ6
      refine z_iload_n hC dL_runs_118 rfl ?_
      refine z_iload_n hC dL_runs_119 rfl ?_
      refine z_isub hC dL_runs_120 ?_
      refine z_icmp_ne hC 128 dL_runs_121 (by decide) (fun c121 => (c121 (by rw [hsc, hin, pk_sub (by omega)])).elim) (fun c121 => ?_)
      exact (k124_5 _)
  intro ρj4
  refine z_iconst (v := 1) hC dL_runs_124 (by decide) ?_
  refine z_goto hC 129 dL_runs_125 (by decide) ?_
  refine z_istore hC dL_runs_129 (by decide) rfl ?_
  refine z_iload hC dL_runs_131 rfl ?_
  refine z_if_eq hC 193 dL_runs_133 (by decide) (fun cn7 => absurd cn7 (by decide)) (fun cn7 => ?_)
  refine z_aload_n hC dL_runs_136 rfl ?_
  refine z_callS [0, 1, 2, 3, 4, 5, 6, 7, 8, 9, 10, 11, 12, 13, 14, 15, 16] hC (n_nodes l D ct b qs qt qh qx (msRun σ k) hI1 (by omega)) bw_60 bw_61 bw_62 bw_63 1 (by decide +kernel) rfl rfl rfl ⟨Nat.le_of_ble_eq_true rfl, Nat.le_of_ble_eq_true rfl⟩ (Nat.le_of_ble_eq_true rfl) ⟨Nat.le_of_ble_eq_true rfl, Nat.le_of_ble_eq_true rfl⟩ rfl dL_runs_137 ?_
  refine zkq (G := fun v1 w1 => zG p l e _ s m args below meth c D _ _ _ _ _ _ _ (v1.toList ++ _) w1) rfl ?_
  refine z_if_eq hC 193 dL_runs_140 (by decide) (fun cn8 => absurd cn8 (by decide)) (fun cn8 => ?_)
  refine z_aload_n hC dL_runs_143 rfl ?_
  refine z_callS [0, 1, 2, 3, 4, 5, 6, 7, 8, 9, 10, 11, 12, 13, 14, 15, 16] hC (n_readings l D ct b qs qt qh qx (msRun σ k) hI1 (by omega)) bw_144 bw_145 bw_62 bw_146 1 (by decide +kernel) rfl rfl rfl ⟨Nat.le_of_ble_eq_true rfl, Nat.le_of_ble_eq_true rfl⟩ (Nat.le_of_ble_eq_true rfl) ⟨Nat.le_of_ble_eq_true rfl, Nat.le_of_ble_eq_true rfl⟩ rfl dL_runs_144 ?_
  refine zkq (G := fun v1 w1 => zG p l e _ s m args below meth c D _ _ _ _ _ _ _ (v1.toList ++ _) w1) rfl ?_
  refine z_if_eq hC 193 dL_runs_147 (by decide) (fun cn9 => absurd cn9 (by decide)) (fun cn9 => ?_)
  refine z_aload_n hC dL_runs_150 rfl ?_
  refine z_callHW hC hok3 (w_undo l D ct b qs qt qh qx (msRun σ k) σ (List.take 5 hs) hI) bw_423 bw_424 bw_62 bw_425 1 (by decide +kernel) rfl ⟨Nat.le_of_ble_eq_true rfl, Nat.le_of_ble_eq_true rfl⟩ (Nat.le_of_ble_eq_true rfl) ⟨Nat.le_of_ble_eq_true rfl, Nat.le_of_ble_eq_true rfl⟩ rfl dL_runs_151 ?_
  intro ρ10 o10 z10 rg10 og10 hok10 hy10
  have hx10 := oxt_tr hx3 hy10
  refine z_if_lt hC 193 dL_runs_154 (by decide) (fun c154 => absurd c154 (tk_len 5 hs (by omega))) (fun c154 => ?_)
  refine z_aload_n hC dL_runs_157 rfl ?_
  refine z_callS [0, 1, 2, 3, 4, 5, 6, 7, 8, 9, 10, 11, 12, 13, 14, 15, 16] hC (n_print l D ct b qs qt qh qx σ hI) bw_250 bw_251 bw_62 bw_252 1 (by decide +kernel) rfl rfl rfl ⟨Nat.le_of_ble_eq_true rfl, Nat.le_of_ble_eq_true rfl⟩ (Nat.le_of_ble_eq_true rfl) ⟨Nat.le_of_ble_eq_true rfl, Nat.le_of_ble_eq_true rfl⟩ rfl dL_runs_158 ?_
  refine zkq (G := fun v1 w1 => zG p l e _ s m args below meth c D _ _ _ _ _ _ _ (v1.toList ++ _) w1) rfl ?_
  refine z_lload hC dL_runs_161 rfl ?_
  refine z_lcmp hC dL_runs_163 ?_
  refine z_if_ne hC 193 dL_runs_164 (by decide) (fun c164 => (c164 (lg_self _)).elim) (fun c164 => ?_)
  suffices k176_11 : zG p l e { frames := 8, cells := 16, slots := 1633, locals := 195 } s m args below meth c D (va_A (lwW b qs qt qh qx σ ρ o z rg og ct) s.heap.size) 10 (MQ below (zQ D ct (lwW b qs qt qh qx σ ρ o z rg og ct) s.heap.size (lwP b qs qt qh qx og ct (some (.int 1)) σ (List.take 5 hs))) args s 16 1633 (va_A (lwW b qs qt qh qx σ ρ o z rg og ct) s.heap.size)) ((((((((((((((0 + 0) + 0) + 0) + 0) + 0) + 0) + 16) + 0) + 0) + 0) + 0) + 0) + 0) + 0) ((((((((((((((0 + 0) + 0) + 0) + 0) + 0) + 0) + 1633) + 0) + 0) + 0) + 0) + 0) + 0) + 0) 176 [some (.ref b), some (.int (nI k)), some (.int (msRunR σ k)), some (.int ((mSc 401 0 σ).1)), some (.int (mrSize (rd σ) 0)), some (.int (σ 0 0)), some (.int (mrMissing (rd σ))), some (.long (prt σ)), none, some (.int 1)] [.int (if (mSc 401 0 σ).1 = 0 then 1 else 0)] (lwW b qs qt qh qx σ ρ10 o10 z10 rg10 og10 ct) by
    refine z_iload_n hC dL_runs_167 rfl ?_
    refine z_if_ne hC 175 dL_runs_168 (by decide) (fun c168 => ?_) (fun c168 => ?_)
    · refine z_iconst (v := 0) hC dL_runs_175 (by decide) ?_
      exact zG_s (by first | (rw [if_pos (c168)] <;> rfl) | (rw [if_neg (c168)] <;> rfl)) k176_11
    · refine z_iconst (v := 1) hC dL_runs_171 (by decide) ?_
      refine z_goto hC 176 dL_runs_172 (by decide) ?_
      exact zG_s (by first | (rw [if_pos (c168)] <;> rfl) | (rw [if_neg (c168)] <;> rfl)) k176_11
  suffices k186_12 : zG p l e { frames := 8, cells := 16, slots := 1633, locals := 195 } s m args below meth c D (va_A (lwW b qs qt qh qx σ ρ o z rg og ct) s.heap.size) 10 (MQ below (zQ D ct (lwW b qs qt qh qx σ ρ o z rg og ct) s.heap.size (lwP b qs qt qh qx og ct (some (.int 1)) σ (List.take 5 hs))) args s 16 1633 (va_A (lwW b qs qt qh qx σ ρ o z rg og ct) s.heap.size)) ((((((((((((((0 + 0) + 0) + 0) + 0) + 0) + 0) + 16) + 0) + 0) + 0) + 0) + 0) + 0) + 0) ((((((((((((((0 + 0) + 0) + 0) + 0) + 0) + 0) + 1633) + 0) + 0) + 0) + 0) + 0) + 0) + 0) 186 [some (.ref b), some (.int (nI k)), some (.int (msRunR σ k)), some (.int ((mSc 401 0 σ).1)), some (.int (mrSize (rd σ) 0)), some (.int (σ 0 0)), some (.int (mrMissing (rd σ))), some (.long (prt σ)), none, some (.int 1)] [.int (if mrMissing (rd σ) = 0 then 1 else 0), .int (if (mSc 401 0 σ).1 = 0 then 1 else 0)] (lwW b qs qt qh qx σ ρ10 o10 z10 rg10 og10 ct) by
    refine z_iload hC dL_runs_176 rfl ?_
    refine z_if_ne hC 185 dL_runs_178 (by decide) (fun c178 => ?_) (fun c178 => ?_)
    · refine z_iconst (v := 0) hC dL_runs_185 (by decide) ?_
      exact zG_s (by first | (rw [if_pos (c178)] <;> rfl) | (rw [if_neg (c178)] <;> rfl)) k186_12
    · refine z_iconst (v := 1) hC dL_runs_181 (by decide) ?_
      refine z_goto hC 186 dL_runs_182 (by decide) ?_
      exact zG_s (by first | (rw [if_pos (c178)] <;> rfl) | (rw [if_neg (c178)] <;> rfl)) k186_12
  refine z_icmp_ne hC 193 dL_runs_186 (by decide) (fun c186 => (c186 (if_iff h0)).elim) (fun c186 => ?_)
  refine z_iconst (v := 1) hC dL_runs_189 (by decide) ?_
  refine z_goto hC 194 dL_runs_190 (by decide) ?_
  exact z_zretW hC hr rfl dL_runs_194 (Nat.le_of_ble_eq_true rfl) (Nat.le_of_ble_eq_true rfl) hok10 hx10
