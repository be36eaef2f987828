/-! P36: THE LAW'S print -/
def pA (σ : TB) (k : Nat) (u : Int64) : Int64 := 31 * (31 * (31 * (31 * u + 20 * (σ 3 k).toInt64 + (σ 4 k).toInt64) + (σ 0 0 + σ 6 k).toInt64) + (msHops σ (nI k)).toInt64) + (if k = 0 then 0 else 10 * (silV σ k).toInt64 + (σ 7 k).toInt64)
def pB (σ : TB) (k i : Nat) (u : Int64) : Int64 := 31 * u + (mrPart (rd σ) (nI k) (nI (i / 5)) (nI (i % 5))).toInt64
def pO (σ : TB) (k : Nat) (u : Int64) : Int64 := if k = 0 then pA σ k u else kfor (pB σ k) 30 0 (pA σ k u)
def pC (σ : TB) (k : Nat) (u : Int64) : Int64 := 31 * u + (mrPart (rd σ) 0 (nI (k / 5)) (nI (k % 5))).toInt64
def pD (σ : TB) (k : Nat) (u : Int64) : Int64 := 31 * u + (mCount σ (nI k)).toInt64
def prt (σ : TB) : Int64 := kfor (pD σ) 6 0 (kfor (pC σ) (5 * sK σ 0) 0 (kfor (pO σ) 10 0 (σ 0 0).toInt64))
theorem r4 {i : Nat} (h : i < 2 ^ 31) : ¬ (4 : Int32) < nI (i % 5) := nI_nlt (a := 4) (b := i % 5) (by omega) (by omega)
theorem r5 {k : Nat} (h : k < 6) : ¬ (5 : Int32) < nI k := nI_nlt (a := 5) (b := k) (by omega) (by omega)

set_option maxRecDepth 100000 in
set_option maxHeartbeats 1000000 in
theorem c_L_print (l : Launch) (D : va_G) (ct : Nat → ClassId) (b : Nat) (qs qt qh qx : Nat → Nat) (σ : TB) (hs : mrSize (rd σ) 0 = nI (sK σ 0)) (hs6 : sK σ 0 ≤ 60) : zT l D ct yL_print cL_print 5 (some .long) 7 154 0 0 [.ref b] (cN b qs qt qh qx :: cS qs σ ct) (zd (some (.long (prt σ))) (cN b qs qt qh qx :: cS qs σ ct)) := by
  refine zT_of ([some (.ref b), none, none, none, none]) (by decide +kernel) rfl (Nat.le_of_ble_eq_true rfl) ?_
  intro p e s m args below meth c hC hr hnm
  refine z_aload_n hC dL_print_0 rfl ?_
  refine z_callV [0, 1, 2, 3, 4, 5, 6, 7, 8, 9, 10, 11, 12, 13, 14, 15, 16] 0 4 hC (c_X4_time l D ct b qs qt qh qx σ) bw_96 bw_97 bw_98 bw_2 bw_99 0 (by decide +kernel) rfl rfl rfl rfl rfl ⟨Nat.le_of_ble_eq_true rfl, Nat.le_of_ble_eq_true rfl⟩ (Nat.le_of_ble_eq_true rfl) ⟨Nat.le_of_ble_eq_true rfl, Nat.le_of_ble_eq_true rfl⟩ rfl dL_print_1 ?_
  refine zkq (G := fun v1 w1 => zG p l e _ s m args below meth c D _ _ _ _ _ _ _ (v1.toList ++ _) w1) rfl ?_
  refine z_i2l hC dL_print_4 ?_
  refine z_lstore_n hC dL_print_5 (by decide) rfl ?_
  refine z_iconst (v := 0) hC dL_print_6 (by decide) ?_
  refine z_istore_n hC dL_print_7 (by decide) rfl ?_
  have loop8 : ∀ (kf k : Nat) (u : Int64) (hki : kf + k = 10) (hH : kfor (pD σ) 6 0 (kfor (pC σ) (5 * sK σ 0) 0 (kfor (pO σ) kf k u)) = prt σ), zG p l e { frames := 7, cells := 0, slots := 0, locals := 154 } s m args below meth c D (va_A (cN b qs qt qh qx :: cS qs σ ct) s.heap.size) 5 (MQ below (zQ D ct (cN b qs qt qh qx :: cS qs σ ct) s.heap.size (zd (some (.long (prt σ))) (cN b qs qt qh qx :: cS qs σ ct))) args s 0 0 (va_A (cN b qs qt qh qx :: cS qs σ ct) s.heap.size)) 0 0 8 [some (.ref b), some (.long u), none, some (.int (nI k)), none] [] (cN b qs qt qh qx :: cS qs σ ct) := by
    intro kf
    induction kf with
    | zero =>
      intro k u hki hH
      refine z_iload_n hC dL_print_8 rfl ?_
      refine z_bipush (v := 10) hC dL_print_9 (by decide) ?_
      refine z_icmp_ge hC 143 dL_print_11 (by decide) (fun c11 => ?_) (fun c11 => absurd (kge (10) rfl (by omega) (by omega)) c11)
      refine z_iconst (v := 0) hC dL_print_143 (by decide) ?_
      refine z_istore_n hC dL_print_144 (by decide) rfl ?_
      have loop145 : ∀ (kf k : Nat) (u : Int64) (hki : kf + k = 5 * sK σ 0) (hH : kfor (pD σ) 6 0 (kfor (pC σ) kf k u) = prt σ), zG p l e { frames := 7, cells := 0, slots := 0, locals := 154 } s m args below meth c D (va_A (cN b qs qt qh qx :: cS qs σ ct) s.heap.size) 5 (MQ below (zQ D ct (cN b qs qt qh qx :: cS qs σ ct) s.heap.size (zd (some (.long (prt σ))) (cN b qs qt qh qx :: cS qs σ ct))) args s 0 0 (va_A (cN b qs qt qh qx :: cS qs σ ct) s.heap.size)) 0 0 145 [some (.ref b), some (.long u), none, some (.int (nI k)), none] [] (cN b qs qt qh qx :: cS qs σ ct) := by
        intro kf
        induction kf with
        | zero =>
          intro k u hki hH
          refine z_iload_n hC dL_print_145 rfl ?_
          refine z_iconst (v := 5) hC dL_print_146 (by decide) ?_
          refine z_aload_n hC dL_print_147 rfl ?_
          refine z_callV [0, 1, 2, 3, 4, 5, 6, 7, 8, 9, 10, 11, 12, 13, 14, 15, 16] 0 4 hC (c_X4_collected l D ct b qs qt qh qx σ) bw_147 bw_148 bw_149 bw_2 bw_150 0 (by decide +kernel) rfl rfl rfl rfl rfl ⟨Nat.le_of_ble_eq_true rfl, Nat.le_of_ble_eq_true rfl⟩ (Nat.le_of_ble_eq_true rfl) ⟨Nat.le_of_ble_eq_true rfl, Nat.le_of_ble_eq_true rfl⟩ rfl dL_print_148 ?_
          refine zkq (G := fun v1 w1 => zG p l e _ s m args below meth c D _ _ _ _ _ _ _ (v1.toList ++ _) w1) rfl ?_
          refine z_imul hC dL_print_151 ?_
          rw [show (5 * (mrSize (rd σ) 0)) = (nI (5 * sK σ 0)) from by rw [hs]; exact pk_mul 5 (sK σ 0)]
          refine z_icmp_ge hC 179 dL_print_152 (by decide) (fun c152 => ?_) (fun c152 => absurd (kge (5 * sK σ 0) rfl (by omega) (by omega)) c152)
          refine z_iconst (v := 0) hC dL_print_179 (by decide) ?_
          refine z_istore_n hC dL_print_180 (by decide) rfl ?_
          have loop181 : ∀ (kf k : Nat) (u : Int64) (hki : kf + k = 6) (hH : kfor (pD σ) kf k u = prt σ), zG p l e { frames := 7, cells := 0, slots := 0, locals := 154 } s m args below meth c D (va_A (cN b qs qt qh qx :: cS qs σ ct) s.heap.size) 5 (MQ below (zQ D ct (cN b qs qt qh qx :: cS qs σ ct) s.heap.size (zd (some (.long (prt σ))) (cN b qs qt qh qx :: cS qs σ ct))) args s 0 0 (va_A (cN b qs qt qh qx :: cS qs σ ct) s.heap.size)) 0 0 181 [some (.ref b), some (.long u), none, some (.int (nI k)), none] [] (cN b qs qt qh qx :: cS qs σ ct) := by
            intro kf
            induction kf with
            | zero =>
              intro k u hki hH
              refine z_iload_n hC dL_print_181 rfl ?_
              refine z_bipush (v := 6) hC dL_print_182 (by decide) ?_
              refine z_icmp_ge hC 206 dL_print_184 (by decide) (fun c184 => ?_) (fun c184 => absurd (kge (6) rfl (by omega) (by omega)) c184)
              refine z_lload_n hC dL_print_206 rfl ?_
              exact z_lretd hC hr dL_print_207 (Nat.zero_le _) (Nat.zero_le _) (hH) rfl rfl
            | succ kf ih =>
              intro k u hki hH
              refine z_iload_n hC dL_print_181 rfl ?_
              refine z_bipush (v := 6) hC dL_print_182 (by decide) ?_
              refine z_icmp_ge hC 206 dL_print_184 (by decide) (fun c184 => absurd c184 (klt (6) rfl (by omega) (by omega))) (fun c184 => ?_)
              refine z_ldc2 (v := 31) hC bw_253 dL_print_187 ?_
              refine z_lload_n hC dL_print_190 rfl ?_
              refine z_lmul hC dL_print_191 ?_
              refine z_aload_n hC dL_print_192 rfl ?_
              refine z_iload_n hC dL_print_193 rfl ?_
              refine z_callH [0, 1, 2, 3, 4, 5, 6, 7, 8, 9, 10, 11, 12, 13, 14, 15, 16] hC (h_count l D ct b qs qt qh qx σ (nI k) (nI_pos (by omega)) (r5 (by omega))) bw_234 bw_235 bw_62 bw_236 2 (by decide +kernel) rfl rfl rfl ⟨Nat.le_of_ble_eq_true rfl, Nat.le_of_ble_eq_true rfl⟩ (Nat.le_of_ble_eq_true rfl) ⟨Nat.le_of_ble_eq_true rfl, Nat.le_of_ble_eq_true rfl⟩ rfl dL_print_194 ?_
              refine zkq (G := fun v1 w1 => zG p l e _ s m args below meth c D _ _ _ _ _ _ _ (v1.toList ++ _) w1) rfl ?_
              refine z_i2l hC dL_print_197 ?_
              refine z_ladd hC dL_print_198 ?_
              refine z_lstore_n hC dL_print_199 (by decide) rfl ?_
              refine z_iinc (cn := 1) hC dL_print_200 (by decide) (by decide) rfl rfl ?_
              refine z_goto hC 181 dL_print_203 (by decide) ?_
              rw [nI_1]
              exact ih (k + 1) _ (by omega) hH
          exact loop181 6 0 _ rfl hH
        | succ kf ih =>
          intro k u hki hH
          refine z_iload_n hC dL_print_145 rfl ?_
          refine z_iconst (v := 5) hC dL_print_146 (by decide) ?_
          refine z_aload_n hC dL_print_147 rfl ?_
          refine z_callV [0, 1, 2, 3, 4, 5, 6, 7, 8, 9, 10, 11, 12, 13, 14, 15, 16] 0 4 hC (c_X4_collected l D ct b qs qt qh qx σ) bw_147 bw_148 bw_149 bw_2 bw_150 0 (by decide +kernel) rfl rfl rfl rfl rfl ⟨Nat.le_of_ble_eq_true rfl, Nat.le_of_ble_eq_true rfl⟩ (Nat.le_of_ble_eq_true rfl) ⟨Nat.le_of_ble_eq_true rfl, Nat.le_of_ble_eq_true rfl⟩ rfl dL_print_148 ?_
          refine zkq (G := fun v1 w1 => zG p l e _ s m args below meth c D _ _ _ _ _ _ _ (v1.toList ++ _) w1) rfl ?_
          refine z_imul hC dL_print_151 ?_
          rw [show (5 * (mrSize (rd σ) 0)) = (nI (5 * sK σ 0)) from by rw [hs]; exact pk_mul 5 (sK σ 0)]
          refine z_icmp_ge hC 179 dL_print_152 (by decide) (fun c152 => absurd c152 (klt (5 * sK σ 0) rfl (by omega) (by omega))) (fun c152 => ?_)
          refine z_ldc2 (v := 31) hC bw_253 dL_print_155 ?_
          refine z_lload_n hC dL_print_158 rfl ?_
          refine z_lmul hC dL_print_159 ?_
          refine z_aload_n hC dL_print_160 rfl ?_
          refine z_iload_n hC dL_print_161 rfl ?_
          refine z_iconst (v := 5) hC dL_print_162 (by decide) ?_
          refine z_idiv hC dL_print_163 (by decide) ?_
          rw [show ((nI k) / 5) = (nI (k / 5)) from pk_div (d := 5) (by omega) (by decide) (by decide)]
          refine z_iload_n hC dL_print_164 rfl ?_
          refine z_iconst (v := 5) hC dL_print_165 (by decide) ?_
          refine z_irem hC dL_print_166 (by decide) ?_
          rw [show ((nI k) - (nI k) / 5 * 5) = (nI (k % 5)) from pk_rem (d := 5) (by omega) (by decide) (by decide)]
          refine z_callH [0, 1, 2, 3, 4, 5, 6, 7, 8, 9, 10, 11, 12, 13, 14, 15, 16] hC (h_collectedReading l D ct b qs qt qh qx σ (nI (k / 5)) (nI (k % 5)) (nI_pos (by omega)) (nI_pos (by omega)) (r4 (by omega))) bw_158 bw_159 bw_62 bw_160 3 (by decide +kernel) rfl rfl rfl ⟨Nat.le_of_ble_eq_true rfl, Nat.le_of_ble_eq_true rfl⟩ (Nat.le_of_ble_eq_true rfl) ⟨Nat.le_of_ble_eq_true rfl, Nat.le_of_ble_eq_true rfl⟩ rfl dL_print_167 ?_
          refine zkq (G := fun v1 w1 => zG p l e _ s m args below meth c D _ _ _ _ _ _ _ (v1.toList ++ _) w1) rfl ?_
          refine z_i2l hC dL_print_170 ?_
          refine z_ladd hC dL_print_171 ?_
          refine z_lstore_n hC dL_print_172 (by decide) rfl ?_
          refine z_iinc (cn := 1) hC dL_print_173 (by decide) (by decide) rfl rfl ?_
          refine z_goto hC 145 dL_print_176 (by decide) ?_
          rw [nI_1]
          exact ih (k + 1) _ (by omega) hH
      exact loop145 (5 * sK σ 0) 0 _ rfl hH
    | succ kf ih =>
      intro k u hki hH
      refine z_iload_n hC dL_print_8 rfl ?_
      refine z_bipush (v := 10) hC dL_print_9 (by decide) ?_
      refine z_icmp_ge hC 143 dL_print_11 (by decide) (fun c11 => absurd c11 (klt (10) rfl (by omega) (by omega))) (fun c11 => ?_)
      have hk10 : k < 10 := by omega
      refine z_ldc2 (v := 31) hC bw_253 dL_print_14 ?_
      refine z_lload_n hC dL_print_17 rfl ?_
      refine z_lmul hC dL_print_18 ?_
      refine z_ldc2 (v := 20) hC bw_254 dL_print_19 ?_
      refine z_aload_n hC dL_print_22 rfl ?_
      refine z_iload_n hC dL_print_23 rfl ?_
      refine z_callH [0, 1, 2, 3, 4, 5, 6, 7, 8, 9, 10, 11, 12, 13, 14, 15, 16] hC (h_parent l D ct b qs qt qh qx σ k hk10) bw_65 bw_66 bw_62 bw_67 2 (by decide +kernel) rfl rfl rfl ⟨Nat.le_of_ble_eq_true rfl, Nat.le_of_ble_eq_true rfl⟩ (Nat.le_of_ble_eq_true rfl) ⟨Nat.le_of_ble_eq_true rfl, Nat.le_of_ble_eq_true rfl⟩ rfl dL_print_24 ?_
      refine zkq (G := fun v1 w1 => zG p l e _ s m args below meth c D _ _ _ _ _ _ _ (v1.toList ++ _) w1) rfl ?_
      refine z_i2l hC dL_print_27 ?_
      refine z_lmul hC dL_print_28 ?_
      refine z_ladd hC dL_print_29 ?_
      refine z_aload_n hC dL_print_30 rfl ?_
      refine z_iload_n hC dL_print_31 rfl ?_
      refine z_callH [0, 1, 2, 3, 4, 5, 6, 7, 8, 9, 10, 11, 12, 13, 14, 15, 16] hC (h_depth l D ct b qs qt qh qx σ k hk10) bw_82 bw_83 bw_62 bw_84 2 (by decide +kernel) rfl rfl rfl ⟨Nat.le_of_ble_eq_true rfl, Nat.le_of_ble_eq_true rfl⟩ (Nat.le_of_ble_eq_true rfl) ⟨Nat.le_of_ble_eq_true rfl, Nat.le_of_ble_eq_true rfl⟩ rfl dL_print_32 ?_
      refine zkq (G := fun v1 w1 => zG p l e _ s m args below meth c D _ _ _ _ _ _ _ (v1.toList ++ _) w1) rfl ?_
      refine z_i2l hC dL_print_35 ?_
      refine z_ladd hC dL_print_36 ?_
      refine z_lstore_n hC dL_print_37 (by decide) rfl ?_
      refine z_ldc2 (v := 31) hC bw_253 dL_print_38 ?_
      refine z_lload_n hC dL_print_41 rfl ?_
      refine z_lmul hC dL_print_42 ?_
      refine z_aload_n hC dL_print_43 rfl ?_
      refine z_iload_n hC dL_print_44 rfl ?_
      refine z_callH [0, 1, 2, 3, 4, 5, 6, 7, 8, 9, 10, 11, 12, 13, 14, 15, 16] hC (h_clock l D ct b qs qt qh qx σ k hk10) bw_89 bw_90 bw_62 bw_91 2 (by decide +kernel) rfl rfl rfl ⟨Nat.le_of_ble_eq_true rfl, Nat.le_of_ble_eq_true rfl⟩ (Nat.le_of_ble_eq_true rfl) ⟨Nat.le_of_ble_eq_true rfl, Nat.le_of_ble_eq_true rfl⟩ rfl dL_print_45 ?_
      refine zkq (G := fun v1 w1 => zG p l e _ s m args below meth c D _ _ _ _ _ _ _ (v1.toList ++ _) w1) rfl ?_
      refine z_i2l hC dL_print_48 ?_
      refine z_ladd hC dL_print_49 ?_
      refine z_lstore_n hC dL_print_50 (by decide) rfl ?_
      refine z_ldc2 (v := 31) hC bw_253 dL_print_51 ?_
      refine z_lload_n hC dL_print_54 rfl ?_
      refine z_lmul hC dL_print_55 ?_
      refine z_aload_n hC dL_print_56 rfl ?_
      refine z_iload_n hC dL_print_57 rfl ?_
      refine z_callH [0, 1, 2, 3, 4, 5, 6, 7, 8, 9, 10, 11, 12, 13, 14, 15, 16] hC (h_hops l D ct b qs qt qh qx σ k hk10) bw_121 bw_122 bw_62 bw_123 2 (by decide +kernel) rfl rfl rfl ⟨Nat.le_of_ble_eq_true rfl, Nat.le_of_ble_eq_true rfl⟩ (Nat.le_of_ble_eq_true rfl) ⟨Nat.le_of_ble_eq_true rfl, Nat.le_of_ble_eq_true rfl⟩ rfl dL_print_58 ?_
      refine zkq (G := fun v1 w1 => zG p l e _ s m args below meth c D _ _ _ _ _ _ _ (v1.toList ++ _) w1) rfl ?_
      refine z_i2l hC dL_print_61 ?_
      refine z_ladd hC dL_print_62 ?_
      refine z_lstore_n hC dL_print_63 (by decide) rfl ?_
      refine z_ldc2 (v := 31) hC bw_253 dL_print_64 ?_
      refine z_lload_n hC dL_print_67 rfl ?_
      refine z_lmul hC dL_print_68 ?_
      suffices k94_1 : zG p l e { frames := 7, cells := 0, slots := 0, locals := 154 } s m args below meth c D (va_A (cN b qs qt qh qx :: cS qs σ ct) s.heap.size) 5 (MQ below (zQ D ct (cN b qs qt qh qx :: cS qs σ ct) s.heap.size (zd (some (.long (prt σ))) (cN b qs qt qh qx :: cS qs σ ct))) args s 0 0 (va_A (cN b qs qt qh qx :: cS qs σ ct) s.heap.size)) 0 0 94 [some (.ref b), some (.long (((31 : Int64) * (((31 : Int64) * ((((31 : Int64) * u) + ((20 : Int64) * (σ 3 k).toInt64)) + (σ 4 k).toInt64)) + (σ 0 0 + σ 6 k).toInt64)) + (msHops σ (nI k)).toInt64)), none, some (.int (nI k)), none] [.long (if k = 0 then (0 : Int64) else 10 * (silV σ k).toInt64 + (σ 7 k).toInt64), .long ((31 : Int64) * (((31 : Int64) * (((31 : Int64) * ((((31 : Int64) * u) + ((20 : Int64) * (σ 3 k).toInt64)) + (σ 4 k).toInt64)) + (σ 0 0 + σ 6 k).toInt64)) + (msHops σ (nI k)).toInt64))] (cN b qs qt qh qx :: cS qs σ ct) by
        rcases Nat.eq_zero_or_pos k with hk00 | hk0
        · refine z_iload_n hC dL_print_69 rfl ?_
          refine z_if_ne hC 77 dL_print_70 (by decide) (fun c70 => (c70 (by rw [hk00]; rfl)).elim) (fun c70 => ?_)
          refine z_lconst (v := 0) hC dL_print_73 (by decide) ?_
          refine z_goto hC 94 dL_print_74 (by decide) ?_
          exact zG_s (by first | (rw [if_pos hk00] <;> rfl) | (rw [if_neg (Nat.ne_of_gt hk0)] <;> rfl)) k94_1
        · refine z_iload_n hC dL_print_69 rfl ?_
          refine z_if_ne hC 77 dL_print_70 (by decide) (fun c70 => ?_) (fun c70 => absurd c70 (nI_ne0 hk0 (by omega)))
          refine z_ldc2 (v := 10) hC bw_255 dL_print_77 ?_
          refine z_aload_n hC dL_print_80 rfl ?_
          refine z_iload_n hC dL_print_81 rfl ?_
          refine z_callH [0, 1, 2, 3, 4, 5, 6, 7, 8, 9, 10, 11, 12, 13, 14, 15, 16] hC (h_silence l D ct b qs qt qh qx σ k hk0 hk10) bw_100 bw_101 bw_62 bw_102 2 (by decide +kernel) rfl rfl rfl ⟨Nat.le_of_ble_eq_true rfl, Nat.le_of_ble_eq_true rfl⟩ (Nat.le_of_ble_eq_true rfl) ⟨Nat.le_of_ble_eq_true rfl, Nat.le_of_ble_eq_true rfl⟩ rfl dL_print_82 ?_
          refine zkq (G := fun v1 w1 => zG p l e _ s m args below meth c D _ _ _ _ _ _ _ (v1.toList ++ _) w1) rfl ?_
          refine z_i2l hC dL_print_85 ?_
          refine z_lmul hC dL_print_86 ?_
          refine z_aload_n hC dL_print_87 rfl ?_
          refine z_iload_n hC dL_print_88 rfl ?_
          refine z_callH [0, 1, 2, 3, 4, 5, 6, 7, 8, 9, 10, 11, 12, 13, 14, 15, 16] hC (h_faults l D ct b qs qt qh qx σ k hk0 hk10) bw_256 bw_257 bw_62 bw_258 2 (by decide +kernel) rfl rfl rfl ⟨Nat.le_of_ble_eq_true rfl, Nat.le_of_ble_eq_true rfl⟩ (Nat.le_of_ble_eq_true rfl) ⟨Nat.le_of_ble_eq_true rfl, Nat.le_of_ble_eq_true rfl⟩ rfl dL_print_89 ?_
          refine zkq (G := fun v1 w1 => zG p l e _ s m args below meth c D _ _ _ _ _ _ _ (v1.toList ++ _) w1) rfl ?_
          refine z_i2l hC dL_print_92 ?_
          refine z_ladd hC dL_print_93 ?_
          exact zG_s (by first | (rw [if_pos hk00] <;> rfl) | (rw [if_neg (Nat.ne_of_gt hk0)] <;> rfl)) k94_1
      refine z_ladd hC dL_print_94 ?_
      refine z_lstore_n hC dL_print_95 (by decide) rfl ?_
      suffices k137_2 : zG p l e { frames := 7, cells := 0, slots := 0, locals := 154 } s m args below meth c D (va_A (cN b qs qt qh qx :: cS qs σ ct) s.heap.size) 5 (MQ below (zQ D ct (cN b qs qt qh qx :: cS qs σ ct) s.heap.size (zd (some (.long (prt σ))) (cN b qs qt qh qx :: cS qs σ ct))) args s 0 0 (va_A (cN b qs qt qh qx :: cS qs σ ct) s.heap.size)) 0 0 137 [some (.ref b), some (.long (pO σ k u)), none, some (.int (nI k)), none] [] (cN b qs qt qh qx :: cS qs σ ct) by
        rcases Nat.eq_zero_or_pos k with hk00 | hk0
        · refine z_iconst (v := 0) hC dL_print_96 (by decide) ?_
          refine z_istore hC dL_print_97 (by decide) rfl ?_
          refine z_iload hC dL_print_99 rfl ?_
          refine z_bipush (v := 30) hC dL_print_101 (by decide) ?_
          refine z_icmp_ge hC 137 dL_print_103 (by decide) (fun cn3 => absurd cn3 (by decide)) (fun cn3 => ?_)
          refine z_iload_n hC dL_print_106 rfl ?_
          refine z_if_le hC 137 dL_print_107 (by decide) (fun c107 => ?_) (fun c107 => (c107 (by rw [hk00]; decide)).elim)
          rw [show pO σ k u = pA σ k u from if_pos hk00] at k137_2
          exact (z_wk (ls_s (ls_s (ls_n (ls_s (ls_n ls_0))))) k137_2)
        · refine z_iconst (v := 0) hC dL_print_96 (by decide) ?_
          refine z_istore hC dL_print_97 (by decide) rfl ?_
          have loop99 : ∀ (kf2 i : Nat) (u2 : Int64) (hki2 : kf2 + i = 30) (hB : kfor (pB σ k) kf2 i u2 = pO σ k u), zG p l e { frames := 7, cells := 0, slots := 0, locals := 154 } s m args below meth c D (va_A (cN b qs qt qh qx :: cS qs σ ct) s.heap.size) 5 (MQ below (zQ D ct (cN b qs qt qh qx :: cS qs σ ct) s.heap.size (zd (some (.long (prt σ))) (cN b qs qt qh qx :: cS qs σ ct))) args s 0 0 (va_A (cN b qs qt qh qx :: cS qs σ ct) s.heap.size)) 0 0 99 [some (.ref b), some (.long u2), none, some (.int (nI k)), some (.int (nI i))] [] (cN b qs qt qh qx :: cS qs σ ct) := by
            intro kf2
            induction kf2 with
            | zero =>
              intro i u2 hki2 hB
              refine z_iload hC dL_print_99 rfl ?_
              refine z_bipush (v := 30) hC dL_print_101 (by decide) ?_
              refine z_icmp_ge hC 137 dL_print_103 (by decide) (fun c103 => ?_) (fun c103 => absurd (kge (30) rfl (by omega) (by omega)) c103)
              obtain rfl : u2 = pO σ k u := hB
              exact (z_wk (ls_s (ls_s (ls_n (ls_s (ls_n ls_0))))) k137_2)
            | succ kf2 ih2 =>
              intro i u2 hki2 hB
              refine z_iload hC dL_print_99 rfl ?_
              refine z_bipush (v := 30) hC dL_print_101 (by decide) ?_
              refine z_icmp_ge hC 137 dL_print_103 (by decide) (fun c103 => absurd c103 (klt (30) rfl (by omega) (by omega))) (fun c103 => ?_)
              refine z_iload_n hC dL_print_106 rfl ?_
              refine z_if_le hC 137 dL_print_107 (by decide) (fun c107 => absurd c107 (nI_nle hk0 (by omega))) (fun c107 => ?_)
              refine z_ldc2 (v := 31) hC bw_253 dL_print_110 ?_
              refine z_lload_n hC dL_print_113 rfl ?_
              refine z_lmul hC dL_print_114 ?_
              refine z_aload_n hC dL_print_115 rfl ?_
              refine z_iload_n hC dL_print_116 rfl ?_
              refine z_iload hC dL_print_117 rfl ?_
              refine z_iconst (v := 5) hC dL_print_119 (by decide) ?_
              refine z_idiv hC dL_print_120 (by decide) ?_
              rw [show ((nI i) / 5) = (nI (i / 5)) from pk_div (d := 5) (by omega) (by decide) (by decide)]
              refine z_iload hC dL_print_121 rfl ?_
              refine z_iconst (v := 5) hC dL_print_123 (by decide) ?_
              refine z_irem hC dL_print_124 (by decide) ?_
              rw [show ((nI i) - (nI i) / 5 * 5) = (nI (i % 5)) from pk_rem (d := 5) (by omega) (by decide) (by decide)]
              refine z_callH [0, 1, 2, 3, 4, 5, 6, 7, 8, 9, 10, 11, 12, 13, 14, 15, 16] hC (h_storedReading l D ct b qs qt qh qx σ k hk0 hk10 (nI (i / 5)) (nI (i % 5)) (nI_pos (by omega)) (nI_pos (by omega)) (r4 (by omega))) bw_212 bw_213 bw_62 bw_214 4 (by decide +kernel) rfl rfl rfl ⟨Nat.le_of_ble_eq_true rfl, Nat.le_of_ble_eq_true rfl⟩ (Nat.le_of_ble_eq_true rfl) ⟨Nat.le_of_ble_eq_true rfl, Nat.le_of_ble_eq_true rfl⟩ rfl dL_print_125 ?_
              refine zkq (G := fun v1 w1 => zG p l e _ s m args below meth c D _ _ _ _ _ _ _ (v1.toList ++ _) w1) rfl ?_
              refine z_i2l hC dL_print_128 ?_
              refine z_ladd hC dL_print_129 ?_
              refine z_lstore_n hC dL_print_130 (by decide) rfl ?_
              refine z_iinc (cn := 1) hC dL_print_131 (by decide) (by decide) rfl rfl ?_
              refine z_goto hC 99 dL_print_134 (by decide) ?_
              rw [nI_1]
              exact ih2 (i + 1) _ (by omega) hB
          exact loop99 30 0 (pA σ k u) rfl (if_neg (Nat.ne_of_gt hk0)).symm
      refine z_iinc (cn := 1) hC dL_print_137 (by decide) (by decide) rfl rfl ?_
      refine z_goto hC 8 dL_print_140 (by decide) ?_
      rw [nI_1]
      exact z_wk (fun _ _ h => h) (ih (k + 1) _ (by omega) hH)
  exact loop8 10 0 _ rfl rfl
