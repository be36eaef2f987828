/-! P36: THE LAW'S readings -/
def wst (σ : TB) (i : Nat) (a : Int32) : Int32 := a + (if mrPart (rd σ) 0 (nI i) 3 = mrPart (rd σ) 0 (nI i) 4 then 0 else 1)
theorem wst_form {σ : TB} (hs : mrSize (rd σ) 0 = nI (sK σ 0)) (h6 : sK σ 0 ≤ 60) : kfor (wst σ) (sK σ 0) 0 0 = mrWrong (rd σ) := by
  unfold mrWrong
  rw [hs, nI_clamp (by omega)]
  refine kfor_ext _ 0 0 _ (fun d z hd => ?_)
  show z + _ = z + _
  by_cases c : mrPart (rd σ) 0 (nI (0 + d)) 3 = mrPart (rd σ) 0 (nI (0 + d)) 4
  · rw [if_pos c, if_pos c.symm]
  · rw [if_neg c, if_neg (fun q => c q.symm)]
theorem part_c {σ κ : TB} {B k : Nat} (h : Rel σ κ 0 B) (hk : k < sK σ 0) : ∃ id, id < sT σ ∧ σ 14 k = nI id ∧ mrPart (rd σ) 0 (nI k) 0 = σ 9 id ∧ mrPart (rd σ) 0 (nI k) 1 = σ 10 id ∧ mrPart (rd σ) 0 (nI k) 3 = σ 12 id := by
  obtain ⟨id, a, b, c⟩ := part_at h (show 0 < 10 by omega) hk
  rw [show 60 * 0 + k = k by omega] at b
  exact ⟨id, a, b, c⟩
theorem sm_step (f : Nat → Nat) {m : Nat} (h : 0 < m) : sm f (m - 1) + f m = sm f (m + 1 - 1) := by
  obtain ⟨n, rfl⟩ : ∃ n, m = n + 1 := ⟨m - 1, by omega⟩
  rfl
theorem mmI (σ : TB) (x m j : Nat) : nI (x + mm σ m j) + (if inC σ m j = true then (0 : Int32) else 1) = nI (x + mm σ m (j + 1)) := by
  have e : mm σ m (j + 1) = mm σ m j + (if inC σ m j = true then 0 else 1) := rfl
  rw [e]
  by_cases c : inC σ m j = true
  · rw [if_pos c, if_pos c, Int32.add_zero, Nat.add_zero]
  · rw [if_neg c, if_neg c, nI_1, Nat.add_assoc]
theorem mC0 (σ : TB) : mCount σ 0 = σ 8 0 := by unfold mCount; rw [if_pos rfl]
theorem mC1 (σ : TB) : mCount σ 1 = σ 0 2 := by unfold mCount; rw [if_neg (by decide), if_pos rfl]
theorem mC2 (σ : TB) : mCount σ 2 = σ 0 3 := by unfold mCount; rw [if_neg (by decide), if_neg (by decide), if_pos rfl]
theorem mC3 (σ : TB) : mCount σ 3 = σ 0 4 := by unfold mCount; rw [if_neg (by decide), if_neg (by decide), if_neg (by decide), if_pos rfl]
abbrev fG (σ : TB) (m : Nat) : Nat := cnt (σ 9) m (sT σ)
abbrev fF (σ : TB) (m : Nat) : Nat := mm σ m (fG σ m)

set_option maxRecDepth 100000 in
set_option maxHeartbeats 1000000 in
theorem c_L_readings (l : Launch) (D : va_G) (ct : Nat → ClassId) (b : Nat) (qs qt qh qx : Nat → Nat) (σ κ : TB) (B t : Nat) (hRel : Rel σ κ 0 B) (hVv : jV σ) (hT0 : σ 0 0 = nI t) (htt : t < 2 ^ 30) (hRr : jR σ t) (hQq : jQ σ t) (hCc : jC σ t) : zT l D ct yL_readings cL_readings 9 (some .boolean) 6 154 0 0 [.ref b] (cN b qs qt qh qx :: cS qs σ ct) (zd (some (.int 1)) (cN b qs qt qh qx :: cS qs σ ct)) := by
  refine zT_of ([some (.ref b), none, none, none, none, none, none, none, none]) (by decide +kernel) rfl (Nat.le_of_ble_eq_true rfl) ?_
  intro p e s m args below meth c hC hr hnm
  have iKh := hRel.2.2.2.2.2.2.1
  have hT60 := hRel.2.2.2.2.2.1.2.2
  have hs : mrSize (rd σ) 0 = nI (sK σ 0) := mrSize_n (n := 0) iKh (by omega)
  have hs6 : sK σ 0 ≤ 60 := Nat.le_trans (miss_n hRel).1 hT60
  refine z_iconst (v := 0) hC dL_readings_0 (by decide) ?_
  refine z_istore_n hC dL_readings_1 (by decide) rfl ?_
  refine z_iconst (v := 0) hC dL_readings_2 (by decide) ?_
  refine z_istore_n hC dL_readings_3 (by decide) rfl ?_
  refine z_iconst (v := 0) hC dL_readings_4 (by decide) ?_
  refine z_istore_n hC dL_readings_5 (by decide) rfl ?_
  refine z_iconst (v := 0) hC dL_readings_6 (by decide) ?_
  refine z_istore hC dL_readings_7 (by decide) rfl ?_
  have loop9 : ∀ (kf k : Nat) (wr : Int32) (hki : kf + k = sK σ 0) (hW : kfor (wst σ) kf k wr = mrWrong (rd σ)), zG p l e { frames := 6, cells := 0, slots := 0, locals := 154 } s m args below meth c D (va_A (cN b qs qt qh qx :: cS qs σ ct) s.heap.size) 9 (MQ below (zQ D ct (cN b qs qt qh qx :: cS qs σ ct) s.heap.size (zd (some (.int 1)) (cN b qs qt qh qx :: cS qs σ ct))) args s 0 0 (va_A (cN b qs qt qh qx :: cS qs σ ct) s.heap.size)) 0 0 9 [some (.ref b), some (.int wr), some (.int 0), some (.int 0), some (.int (nI k)), none, none, none, none] [] (cN b qs qt qh qx :: cS qs σ ct) := by
    intro kf
    induction kf with
    | zero =>
      intro k wr hki hW
      refine z_iload hC dL_readings_9 rfl ?_
      refine z_aload_n hC dL_readings_11 rfl ?_
      refine z_callV [0, 1, 2, 3, 4, 5, 6, 7, 8, 9, 10, 11, 12, 13, 14, 15, 16] 0 4 hC (c_X4_collected l D ct b qs qt qh qx σ) bw_147 bw_148 bw_149 bw_2 bw_150 0 (by decide +kernel) rfl rfl rfl rfl rfl ⟨Nat.le_of_ble_eq_true rfl, Nat.le_of_ble_eq_true rfl⟩ (Nat.le_of_ble_eq_true rfl) ⟨Nat.le_of_ble_eq_true rfl, Nat.le_of_ble_eq_true rfl⟩ rfl dL_readings_12 ?_
      refine zkq (G := fun v1 w1 => zG p l e _ s m args below meth c D _ _ _ _ _ _ _ (v1.toList ++ _) w1) rfl ?_
      rw [show (mrSize (rd σ) 0) = (nI (sK σ 0)) from hs]
      refine z_icmp_ge hC 136 dL_readings_15 (by decide) (fun c15 => ?_) (fun c15 => absurd (kge (sK σ 0) rfl (by omega) (by omega)) c15)
      have hW2 : wr = mrWrong (rd σ) := hW
      refine z_iconst (v := 1) hC dL_readings_136 (by decide) ?_
      refine z_istore hC dL_readings_137 (by decide) rfl ?_
      have loop139 : ∀ (kf y ms0 al : Nat) (hm : kf + y = 10) (hm0 : 0 < y) (hMs : ms0 = sm (fF σ) (y - 1)) (hAl : al = sm (fG σ) (y - 1)), zG p l e { frames := 6, cells := 0, slots := 0, locals := 154 } s m args below meth c D (va_A (cN b qs qt qh qx :: cS qs σ ct) s.heap.size) 9 (MQ below (zQ D ct (cN b qs qt qh qx :: cS qs σ ct) s.heap.size (zd (some (.int 1)) (cN b qs qt qh qx :: cS qs σ ct))) args s 0 0 (va_A (cN b qs qt qh qx :: cS qs σ ct) s.heap.size)) 0 0 139 [some (.ref b), some (.int wr), some (.int (nI ms0)), some (.int (nI al)), some (.int (nI y)), none, none, none, none] [] (cN b qs qt qh qx :: cS qs σ ct) := by
        intro kf
        induction kf with
        | zero =>
          intro y ms0 al hm hm0 hMs hAl
          refine z_iload hC dL_readings_139 rfl ?_
          refine z_bipush (v := 10) hC dL_readings_141 (by decide) ?_
          refine z_icmp_ge hC 387 dL_readings_143 (by decide) (fun c143 => ?_) (fun c143 => absurd (kge (10) rfl (by omega) (by omega)) c143)
          have eMs : ms0 = sT σ - sK σ 0 := by rw [hMs, show y - 1 = 9 by omega]; exact (miss_n hRel).2
          have eAl : al = sT σ := by rw [hAl, show y - 1 = 9 by omega]; exact all_T hRel (sT σ) (Nat.le_refl _)
          have hcT := (miss_n hRel).1
          obtain ⟨s0, d0, r0, s1, s2, s3, s4, s5⟩ := hCc
          refine z_aload_n hC dL_readings_387 rfl ?_
          refine z_callV [0, 1, 2, 3, 4, 5, 6, 7, 8, 9, 10, 11, 12, 13, 14, 15, 16] 0 4 hC (c_X4_wrongStamps l D ct b qs qt qh qx σ) bw_219 bw_220 bw_221 bw_2 bw_222 0 (by decide +kernel) rfl rfl rfl rfl rfl ⟨Nat.le_of_ble_eq_true rfl, Nat.le_of_ble_eq_true rfl⟩ (Nat.le_of_ble_eq_true rfl) ⟨Nat.le_of_ble_eq_true rfl, Nat.le_of_ble_eq_true rfl⟩ rfl dL_readings_388 ?_
          refine zkq (G := fun v1 w1 => zG p l e _ s m args below meth c D _ _ _ _ _ _ _ (v1.toList ++ _) w1) rfl ?_
          refine z_iload_n hC dL_readings_391 rfl ?_
          refine z_icmp_ne hC 469 dL_readings_392 (by decide) (fun c392 => (c392 hW2.symm).elim) (fun c392 => ?_)
          refine z_aload_n hC dL_readings_395 rfl ?_
          refine z_callV [0, 1, 2, 3, 4, 5, 6, 7, 8, 9, 10, 11, 12, 13, 14, 15, 16] 0 4 hC (c_X4_missing l D ct b qs qt qh qx σ) bw_227 bw_228 bw_229 bw_2 bw_230 0 (by decide +kernel) rfl rfl rfl rfl rfl ⟨Nat.le_of_ble_eq_true rfl, Nat.le_of_ble_eq_true rfl⟩ (Nat.le_of_ble_eq_true rfl) ⟨Nat.le_of_ble_eq_true rfl, Nat.le_of_ble_eq_true rfl⟩ rfl dL_readings_396 ?_
          refine zkq (G := fun v1 w1 => zG p l e _ s m args below meth c D _ _ _ _ _ _ _ (v1.toList ++ _) w1) rfl ?_
          refine z_iload_n hC dL_readings_399 rfl ?_
          refine z_icmp_ne hC 469 dL_readings_400 (by decide) (fun c400 => (c400 (by rw [mrMissing_n hRel, eMs])).elim) (fun c400 => ?_)
          refine z_aload_n hC dL_readings_403 rfl ?_
          refine z_iconst (v := 0) hC dL_readings_404 (by decide) ?_
          refine z_callH [0, 1, 2, 3, 4, 5, 6, 7, 8, 9, 10, 11, 12, 13, 14, 15, 16] hC (h_count l D ct b qs qt qh qx σ 0 (by decide) (by decide)) bw_234 bw_235 bw_62 bw_236 2 (by decide +kernel) rfl rfl rfl ⟨Nat.le_of_ble_eq_true rfl, Nat.le_of_ble_eq_true rfl⟩ (Nat.le_of_ble_eq_true rfl) ⟨Nat.le_of_ble_eq_true rfl, Nat.le_of_ble_eq_true rfl⟩ rfl dL_readings_405 ?_
          refine zkq (G := fun v1 w1 => zG p l e _ s m args below meth c D _ _ _ _ _ _ _ (v1.toList ++ _) w1) rfl ?_
          refine z_iload_n hC dL_readings_408 rfl ?_
          refine z_icmp_ne hC 469 dL_readings_409 (by decide) (fun c409 => (c409 (by rw [mC0, eAl]; exact hRel.2.2.2.2.2.1.2.1)).elim) (fun c409 => ?_)
          refine z_iload_n hC dL_readings_412 rfl ?_
          refine z_aload_n hC dL_readings_413 rfl ?_
          refine z_callV [0, 1, 2, 3, 4, 5, 6, 7, 8, 9, 10, 11, 12, 13, 14, 15, 16] 0 4 hC (c_X4_collected l D ct b qs qt qh qx σ) bw_147 bw_148 bw_149 bw_2 bw_150 0 (by decide +kernel) rfl rfl rfl rfl rfl ⟨Nat.le_of_ble_eq_true rfl, Nat.le_of_ble_eq_true rfl⟩ (Nat.le_of_ble_eq_true rfl) ⟨Nat.le_of_ble_eq_true rfl, Nat.le_of_ble_eq_true rfl⟩ rfl dL_readings_414 ?_
          refine zkq (G := fun v1 w1 => zG p l e _ s m args below meth c D _ _ _ _ _ _ _ (v1.toList ++ _) w1) rfl ?_
          refine z_iload_n hC dL_readings_417 rfl ?_
          refine z_iadd hC dL_readings_418 ?_
          refine z_icmp_ne hC 469 dL_readings_419 (by decide) (fun c419 => (c419 (by rw [hs, eAl, eMs, nI_add]; congr 1; omega)).elim) (fun c419 => ?_)
          refine z_aload_n hC dL_readings_422 rfl ?_
          refine z_iconst (v := 1) hC dL_readings_423 (by decide) ?_
          refine z_callH [0, 1, 2, 3, 4, 5, 6, 7, 8, 9, 10, 11, 12, 13, 14, 15, 16] hC (h_count l D ct b qs qt qh qx σ 1 (by decide) (by decide)) bw_234 bw_235 bw_62 bw_236 2 (by decide +kernel) rfl rfl rfl ⟨Nat.le_of_ble_eq_true rfl, Nat.le_of_ble_eq_true rfl⟩ (Nat.le_of_ble_eq_true rfl) ⟨Nat.le_of_ble_eq_true rfl, Nat.le_of_ble_eq_true rfl⟩ rfl dL_readings_424 ?_
          refine zkq (G := fun v1 w1 => zG p l e _ s m args below meth c D _ _ _ _ _ _ _ (v1.toList ++ _) w1) rfl ?_
          refine z_aload_n hC dL_readings_427 rfl ?_
          refine z_iconst (v := 2) hC dL_readings_428 (by decide) ?_
          refine z_callH [0, 1, 2, 3, 4, 5, 6, 7, 8, 9, 10, 11, 12, 13, 14, 15, 16] hC (h_count l D ct b qs qt qh qx σ 2 (by decide) (by decide)) bw_234 bw_235 bw_62 bw_236 2 (by decide +kernel) rfl rfl rfl ⟨Nat.le_of_ble_eq_true rfl, Nat.le_of_ble_eq_true rfl⟩ (Nat.le_of_ble_eq_true rfl) ⟨Nat.le_of_ble_eq_true rfl, Nat.le_of_ble_eq_true rfl⟩ rfl dL_readings_429 ?_
          refine zkq (G := fun v1 w1 => zG p l e _ s m args below meth c D _ _ _ _ _ _ _ (v1.toList ++ _) w1) rfl ?_
          refine z_aload_n hC dL_readings_432 rfl ?_
          refine z_iconst (v := 3) hC dL_readings_433 (by decide) ?_
          refine z_callH [0, 1, 2, 3, 4, 5, 6, 7, 8, 9, 10, 11, 12, 13, 14, 15, 16] hC (h_count l D ct b qs qt qh qx σ 3 (by decide) (by decide)) bw_234 bw_235 bw_62 bw_236 2 (by decide +kernel) rfl rfl rfl ⟨Nat.le_of_ble_eq_true rfl, Nat.le_of_ble_eq_true rfl⟩ (Nat.le_of_ble_eq_true rfl) ⟨Nat.le_of_ble_eq_true rfl, Nat.le_of_ble_eq_true rfl⟩ rfl dL_readings_434 ?_
          refine zkq (G := fun v1 w1 => zG p l e _ s m args below meth c D _ _ _ _ _ _ _ (v1.toList ++ _) w1) rfl ?_
          refine z_iadd hC dL_readings_437 ?_
          refine z_icmp_lt hC 469 dL_readings_438 (by decide) (fun c438 => absurd c438 (by rw [mC1, mC2, mC3, s1, s2, s3, nI_add]; exact nI_nlt (by omega) (by omega))) (fun c438 => ?_)
          refine z_aload_n hC dL_readings_441 rfl ?_
          refine z_iconst (v := 1) hC dL_readings_442 (by decide) ?_
          refine z_callH [0, 1, 2, 3, 4, 5, 6, 7, 8, 9, 10, 11, 12, 13, 14, 15, 16] hC (h_count l D ct b qs qt qh qx σ 1 (by decide) (by decide)) bw_234 bw_235 bw_62 bw_236 2 (by decide +kernel) rfl rfl rfl ⟨Nat.le_of_ble_eq_true rfl, Nat.le_of_ble_eq_true rfl⟩ (Nat.le_of_ble_eq_true rfl) ⟨Nat.le_of_ble_eq_true rfl, Nat.le_of_ble_eq_true rfl⟩ rfl dL_readings_443 ?_
          refine zkq (G := fun v1 w1 => zG p l e _ s m args below meth c D _ _ _ _ _ _ _ (v1.toList ++ _) w1) rfl ?_
          refine z_aload_n hC dL_readings_446 rfl ?_
          refine z_iconst (v := 2) hC dL_readings_447 (by decide) ?_
          refine z_callH [0, 1, 2, 3, 4, 5, 6, 7, 8, 9, 10, 11, 12, 13, 14, 15, 16] hC (h_count l D ct b qs qt qh qx σ 2 (by decide) (by decide)) bw_234 bw_235 bw_62 bw_236 2 (by decide +kernel) rfl rfl rfl ⟨Nat.le_of_ble_eq_true rfl, Nat.le_of_ble_eq_true rfl⟩ (Nat.le_of_ble_eq_true rfl) ⟨Nat.le_of_ble_eq_true rfl, Nat.le_of_ble_eq_true rfl⟩ rfl dL_readings_448 ?_
          refine zkq (G := fun v1 w1 => zG p l e _ s m args below meth c D _ _ _ _ _ _ _ (v1.toList ++ _) w1) rfl ?_
          refine z_isub hC dL_readings_451 ?_
          refine z_aload_n hC dL_readings_452 rfl ?_
          refine z_iconst (v := 3) hC dL_readings_453 (by decide) ?_
          refine z_callH [0, 1, 2, 3, 4, 5, 6, 7, 8, 9, 10, 11, 12, 13, 14, 15, 16] hC (h_count l D ct b qs qt qh qx σ 3 (by decide) (by decide)) bw_234 bw_235 bw_62 bw_236 2 (by decide +kernel) rfl rfl rfl ⟨Nat.le_of_ble_eq_true rfl, Nat.le_of_ble_eq_true rfl⟩ (Nat.le_of_ble_eq_true rfl) ⟨Nat.le_of_ble_eq_true rfl, Nat.le_of_ble_eq_true rfl⟩ rfl dL_readings_454 ?_
          refine zkq (G := fun v1 w1 => zG p l e _ s m args below meth c D _ _ _ _ _ _ _ (v1.toList ++ _) w1) rfl ?_
          refine z_isub hC dL_readings_457 ?_
          refine z_aload_n hC dL_readings_458 rfl ?_
          refine z_callV [0, 1, 2, 3, 4, 5, 6, 7, 8, 9, 10, 11, 12, 13, 14, 15, 16] 0 4 hC (c_X4_collected l D ct b qs qt qh qx σ) bw_147 bw_148 bw_149 bw_2 bw_150 0 (by decide +kernel) rfl rfl rfl rfl rfl ⟨Nat.le_of_ble_eq_true rfl, Nat.le_of_ble_eq_true rfl⟩ (Nat.le_of_ble_eq_true rfl) ⟨Nat.le_of_ble_eq_true rfl, Nat.le_of_ble_eq_true rfl⟩ rfl dL_readings_459 ?_
          refine zkq (G := fun v1 w1 => zG p l e _ s m args below meth c D _ _ _ _ _ _ _ (v1.toList ++ _) w1) rfl ?_
          refine z_icmp_lt hC 469 dL_readings_462 (by decide) (fun c462 => absurd c462 (by rw [mC1, mC2, mC3, s1, s2, s3, hs, pk_sub (by omega), pk_sub (by omega)]; exact nI_nlt (by omega) (by omega))) (fun c462 => ?_)
          refine z_iconst (v := 1) hC dL_readings_465 (by decide) ?_
          refine z_goto hC 470 dL_readings_466 (by decide) ?_
          exact z_zretd hC hr (rfl) dL_readings_470 (Nat.zero_le _) (Nat.zero_le _) (rfl) rfl rfl
        | succ kf ih =>
          intro y ms0 al hm hm0 hMs hAl
          refine z_iload hC dL_readings_139 rfl ?_
          refine z_bipush (v := 10) hC dL_readings_141 (by decide) ?_
          refine z_icmp_ge hC 387 dL_readings_143 (by decide) (fun c143 => absurd c143 (klt (10) rfl (by omega) (by omega))) (fun c143 => ?_)
          have hm10 : y < 10 := by omega
          have hfG : fG σ y ≤ sT σ := cnt_le
          have hKm := mrSize_n iKh hm10
          have hlm := (iKh y hm10).2.1
          rw [show lm y = 6 from if_neg (by omega)] at hlm
          refine z_iconst (v := 0) hC dL_readings_146 (by decide) ?_
          refine z_istore hC dL_readings_147 (by decide) rfl ?_
          have loop149 : ∀ (kf2 k : Nat) (hki2 : kf2 + k = sK σ y), zG p l e { frames := 6, cells := 0, slots := 0, locals := 154 } s m args below meth c D (va_A (cN b qs qt qh qx :: cS qs σ ct) s.heap.size) 9 (MQ below (zQ D ct (cN b qs qt qh qx :: cS qs σ ct) s.heap.size (zd (some (.int 1)) (cN b qs qt qh qx :: cS qs σ ct))) args s 0 0 (va_A (cN b qs qt qh qx :: cS qs σ ct) s.heap.size)) 0 0 149 [some (.ref b), some (.int wr), some (.int (nI ms0)), some (.int (nI al)), some (.int (nI y)), some (.int (nI k)), none, none, none] [] (cN b qs qt qh qx :: cS qs σ ct) := by
            intro kf2
            induction kf2 with
            | zero =>
              intro k hki2
              refine z_iload hC dL_readings_149 rfl ?_
              refine z_aload_n hC dL_readings_151 rfl ?_
              refine z_iload hC dL_readings_152 rfl ?_
              refine z_callH [0, 1, 2, 3, 4, 5, 6, 7, 8, 9, 10, 11, 12, 13, 14, 15, 16] hC (h_stored l D ct b qs qt qh qx σ y hm0 hm10) bw_205 bw_206 bw_62 bw_207 2 (by decide +kernel) rfl rfl rfl ⟨Nat.le_of_ble_eq_true rfl, Nat.le_of_ble_eq_true rfl⟩ (Nat.le_of_ble_eq_true rfl) ⟨Nat.le_of_ble_eq_true rfl, Nat.le_of_ble_eq_true rfl⟩ rfl dL_readings_154 ?_
              refine zkq (G := fun v1 w1 => zG p l e _ s m args below meth c D _ _ _ _ _ _ _ (v1.toList ++ _) w1) rfl ?_
              rw [show (mrSize (rd σ) (nI y)) = (nI (sK σ y)) from hKm]
              refine z_icmp_ge hC 270 dL_readings_157 (by decide) (fun c157 => ?_) (fun c157 => absurd (kge (sK σ y) rfl (by omega) (by omega)) c157)
              refine z_iconst (v := 0) hC dL_readings_270 (by decide) ?_
              refine z_istore hC dL_readings_271 (by decide) rfl ?_
              have loop273 : ∀ (kf2 j : Nat) (hki2 : kf2 + j = fG σ y), zG p l e { frames := 6, cells := 0, slots := 0, locals := 154 } s m args below meth c D (va_A (cN b qs qt qh qx :: cS qs σ ct) s.heap.size) 9 (MQ below (zQ D ct (cN b qs qt qh qx :: cS qs σ ct) s.heap.size (zd (some (.int 1)) (cN b qs qt qh qx :: cS qs σ ct))) args s 0 0 (va_A (cN b qs qt qh qx :: cS qs σ ct) s.heap.size)) 0 0 273 [some (.ref b), some (.int wr), some (.int (nI (ms0 + mm σ y j))), some (.int (nI (al + j))), some (.int (nI y)), some (.int (nI j)), none, none, none] [] (cN b qs qt qh qx :: cS qs σ ct) := by
                intro kf2
                induction kf2 with
                | zero =>
                  intro j hki2
                  refine z_aload_n hC dL_readings_273 rfl ?_
                  refine z_iload hC dL_readings_274 rfl ?_
                  refine z_iload hC dL_readings_276 rfl ?_
                  refine z_callH [0, 1, 2, 3, 4, 5, 6, 7, 8, 9, 10, 11, 12, 13, 14, 15, 16] hC (h_copies l D ct b qs qt qh qx σ y hm0 hm10 (nI j)) bw_187 bw_188 bw_62 bw_189 3 (by decide +kernel) rfl rfl rfl ⟨Nat.le_of_ble_eq_true rfl, Nat.le_of_ble_eq_true rfl⟩ (Nat.le_of_ble_eq_true rfl) ⟨Nat.le_of_ble_eq_true rfl, Nat.le_of_ble_eq_true rfl⟩ rfl dL_readings_278 ?_
                  refine zkq (G := fun v1 w1 => zG p l e _ s m args below meth c D _ _ _ _ _ _ _ (v1.toList ++ _) w1) rfl ?_
                  refine z_if_lt hC 381 dL_readings_281 (by decide) (fun c281 => ?_) (fun c281 => (c281 (by rw [cop_no hRel hm10 (show fG σ y ≤ j by omega) (by omega)]; exact m1z)).elim)
                  refine z_iinc (cn := 1) hC dL_readings_381 (by decide) (by decide) rfl rfl ?_
                  refine z_goto hC 139 dL_readings_384 (by decide) ?_
                  rw [nI_1]
                  exact z_wk (ls_s (ls_s (ls_s (ls_s (ls_s (ls_n (ls_n (ls_n (ls_n ls_0))))))))) (ih (y + 1) (ms0 + mm σ y j) (al + j) (by omega) (by omega) (by rw [hMs, show j = fG σ y by omega]; exact sm_step (fF σ) hm0) (by rw [hAl, show j = fG σ y by omega]; exact sm_step (fG σ) hm0))
                | succ kf2 ih2 =>
                  intro j hki2
                  refine z_aload_n hC dL_readings_273 rfl ?_
                  refine z_iload hC dL_readings_274 rfl ?_
                  refine z_iload hC dL_readings_276 rfl ?_
                  refine z_callH [0, 1, 2, 3, 4, 5, 6, 7, 8, 9, 10, 11, 12, 13, 14, 15, 16] hC (h_copies l D ct b qs qt qh qx σ y hm0 hm10 (nI j)) bw_187 bw_188 bw_62 bw_189 3 (by decide +kernel) rfl rfl rfl ⟨Nat.le_of_ble_eq_true rfl, Nat.le_of_ble_eq_true rfl⟩ (Nat.le_of_ble_eq_true rfl) ⟨Nat.le_of_ble_eq_true rfl, Nat.le_of_ble_eq_true rfl⟩ rfl dL_readings_278 ?_
                  refine zkq (G := fun v1 w1 => zG p l e _ s m args below meth c D _ _ _ _ _ _ _ (v1.toList ++ _) w1) rfl ?_
                  have hj : j < fG σ y := by omega
                  obtain ⟨d0, d1, d2⟩ := cop_nn hRel hm10 hj
                  refine z_if_lt hC 381 dL_readings_281 (by decide) (fun c281 => absurd c281 (by rw [d2]; exact nI_pos (by omega))) (fun c281 => ?_)
                  refine z_iconst (v := 0) hC dL_readings_284 (by decide) ?_
                  refine z_istore hC dL_readings_285 (by decide) rfl ?_
                  refine z_iconst (v := 0) hC dL_readings_287 (by decide) ?_
                  refine z_istore hC dL_readings_288 (by decide) rfl ?_
                  have loop290 : ∀ (kf3 k : Nat) (r : Bool) (hki3 : kf3 + k = sK σ 0) (hI : kfor (fun i r => r || cq σ y j i) kf3 k r = inC σ y j), zG p l e { frames := 6, cells := 0, slots := 0, locals := 154 } s m args below meth c D (va_A (cN b qs qt qh qx :: cS qs σ ct) s.heap.size) 9 (MQ below (zQ D ct (cN b qs qt qh qx :: cS qs σ ct) s.heap.size (zd (some (.int 1)) (cN b qs qt qh qx :: cS qs σ ct))) args s 0 0 (va_A (cN b qs qt qh qx :: cS qs σ ct) s.heap.size)) 0 0 290 [some (.ref b), some (.int wr), some (.int (nI (ms0 + mm σ y j))), some (.int (nI (al + j))), some (.int (nI y)), some (.int (nI j)), some (.int (bI r)), some (.int (nI k)), none] [] (cN b qs qt qh qx :: cS qs σ ct) := by
                    intro kf3
                    induction kf3 with
                    | zero =>
                      intro k r hki3 hI
                      refine z_iload hC dL_readings_290 rfl ?_
                      refine z_aload_n hC dL_readings_292 rfl ?_
                      refine z_callV [0, 1, 2, 3, 4, 5, 6, 7, 8, 9, 10, 11, 12, 13, 14, 15, 16] 0 4 hC (c_X4_collected l D ct b qs qt qh qx σ) bw_147 bw_148 bw_149 bw_2 bw_150 0 (by decide +kernel) rfl rfl rfl rfl rfl ⟨Nat.le_of_ble_eq_true rfl, Nat.le_of_ble_eq_true rfl⟩ (Nat.le_of_ble_eq_true rfl) ⟨Nat.le_of_ble_eq_true rfl, Nat.le_of_ble_eq_true rfl⟩ rfl dL_readings_293 ?_
                      refine zkq (G := fun v1 w1 => zG p l e _ s m args below meth c D _ _ _ _ _ _ _ (v1.toList ++ _) w1) rfl ?_
                      rw [show (mrSize (rd σ) 0) = (nI (sK σ 0)) from hs]
                      refine z_icmp_ge hC 341 dL_readings_296 (by decide) (fun c296 => ?_) (fun c296 => absurd (kge (sK σ 0) rfl (by omega) (by omega)) c296)
                      obtain rfl : r = inC σ y j := hI
                      refine z_iinc (cn := 1) hC dL_readings_341 (by decide) (by decide) rfl rfl ?_
                      refine z_iload_n hC dL_readings_344 rfl ?_
                      suffices k355_1 : zG p l e { frames := 6, cells := 0, slots := 0, locals := 154 } s m args below meth c D (va_A (cN b qs qt qh qx :: cS qs σ ct) s.heap.size) 9 (MQ below (zQ D ct (cN b qs qt qh qx :: cS qs σ ct) s.heap.size (zd (some (.int 1)) (cN b qs qt qh qx :: cS qs σ ct))) args s 0 0 (va_A (cN b qs qt qh qx :: cS qs σ ct) s.heap.size)) 0 0 355 [some (.ref b), some (.int wr), some (.int (nI (ms0 + mm σ y j))), some (.int ((nI (al + j)) + 1)), some (.int (nI y)), some (.int (nI j)), some (.int (bI (inC σ y j))), some (.int (nI k)), none] [.int (if inC σ y j = true then (0 : Int32) else 1), .int (nI (ms0 + mm σ y j))] (cN b qs qt qh qx :: cS qs σ ct) by
                        refine z_iload hC dL_readings_345 rfl ?_
                        refine z_if_eq hC 354 dL_readings_347 (by decide) (fun c347 => ?_) (fun c347 => ?_)
                        · rw [bI_0] at c347
                          refine z_iconst (v := 1) hC dL_readings_354 (by decide) ?_
                          exact zG_s (by rw [c347]; rfl) k355_1
                        · rw [bI_1] at c347
                          refine z_iconst (v := 0) hC dL_readings_350 (by decide) ?_
                          refine z_goto hC 355 dL_readings_351 (by decide) ?_
                          exact zG_s (by rw [c347]; rfl) k355_1
                      refine z_iadd hC dL_readings_355 ?_
                      rw [show ((nI (ms0 + mm σ y j)) + (if inC σ y j = true then (0 : Int32) else 1)) = (nI (ms0 + mm σ y (j + 1))) from mmI σ ms0 y j]
                      refine z_istore_n hC dL_readings_356 (by decide) rfl ?_
                      suffices k375_2 : zG p l e { frames := 6, cells := 0, slots := 0, locals := 154 } s m args below meth c D (va_A (cN b qs qt qh qx :: cS qs σ ct) s.heap.size) 9 (MQ below (zQ D ct (cN b qs qt qh qx :: cS qs σ ct) s.heap.size (zd (some (.int 1)) (cN b qs qt qh qx :: cS qs σ ct))) args s 0 0 (va_A (cN b qs qt qh qx :: cS qs σ ct) s.heap.size)) 0 0 375 [some (.ref b), some (.int wr), some (.int (nI (ms0 + mm σ y (j + 1)))), some (.int ((nI (al + j)) + 1)), some (.int (nI y)), some (.int (nI j)), some (.int (bI (inC σ y j))), some (.int (nI k)), none] [] (cN b qs qt qh qx :: cS qs σ ct) by
                        refine z_iload hC dL_readings_357 rfl ?_
                        refine z_if_ne hC 375 dL_readings_359 (by decide) (fun c359 => ?_) (fun c359 => ?_)
                        · rw [bI_1] at c359
                          exact k375_2
                        · rw [bI_0] at c359
                          refine z_aload_n hC dL_readings_362 rfl ?_
                          refine z_iload hC dL_readings_363 rfl ?_
                          refine z_iload hC dL_readings_365 rfl ?_
                          refine z_callH [0, 1, 2, 3, 4, 5, 6, 7, 8, 9, 10, 11, 12, 13, 14, 15, 16] hC (h_copies l D ct b qs qt qh qx σ y hm0 hm10 (nI j)) bw_187 bw_188 bw_62 bw_189 3 (by decide +kernel) rfl rfl rfl ⟨Nat.le_of_ble_eq_true rfl, Nat.le_of_ble_eq_true rfl⟩ (Nat.le_of_ble_eq_true rfl) ⟨Nat.le_of_ble_eq_true rfl, Nat.le_of_ble_eq_true rfl⟩ rfl dL_readings_367 ?_
                          refine zkq (G := fun v1 w1 => zG p l e _ s m args below meth c D _ _ _ _ _ _ _ (v1.toList ++ _) w1) rfl ?_
                          refine z_if_ne hC 375 dL_readings_370 (by decide) (fun c370 => ?_) (fun c370 => absurd c370 (by obtain ⟨c0, c1, c10, c2⟩ := cop_pos hRel hVv hm10 hj (by rw [c359]; decide); rw [c2]; exact nI_ne0 c1 (by omega)))
                          exact k375_2
                      refine z_iinc (cn := 1) hC dL_readings_375 (by decide) (by decide) rfl rfl ?_
                      refine z_goto hC 273 dL_readings_378 (by decide) ?_
                      rw [nI_1, nI_1]
                      exact z_wk (ls_s (ls_s (ls_s (ls_s (ls_s (ls_s (ls_n (ls_n (ls_n ls_0))))))))) (ih2 (j + 1) (by omega))
                    | succ kf3 ih3 =>
                      intro k r hki3 hI
                      refine z_iload hC dL_readings_290 rfl ?_
                      refine z_aload_n hC dL_readings_292 rfl ?_
                      refine z_callV [0, 1, 2, 3, 4, 5, 6, 7, 8, 9, 10, 11, 12, 13, 14, 15, 16] 0 4 hC (c_X4_collected l D ct b qs qt qh qx σ) bw_147 bw_148 bw_149 bw_2 bw_150 0 (by decide +kernel) rfl rfl rfl rfl rfl ⟨Nat.le_of_ble_eq_true rfl, Nat.le_of_ble_eq_true rfl⟩ (Nat.le_of_ble_eq_true rfl) ⟨Nat.le_of_ble_eq_true rfl, Nat.le_of_ble_eq_true rfl⟩ rfl dL_readings_293 ?_
                      refine zkq (G := fun v1 w1 => zG p l e _ s m args below meth c D _ _ _ _ _ _ _ (v1.toList ++ _) w1) rfl ?_
                      rw [show (mrSize (rd σ) 0) = (nI (sK σ 0)) from hs]
                      refine z_icmp_ge hC 341 dL_readings_296 (by decide) (fun c296 => absurd c296 (klt (sK σ 0) rfl (by omega) (by omega))) (fun c296 => ?_)
                      suffices k333_3 : zG p l e { frames := 6, cells := 0, slots := 0, locals := 154 } s m args below meth c D (va_A (cN b qs qt qh qx :: cS qs σ ct) s.heap.size) 9 (MQ below (zQ D ct (cN b qs qt qh qx :: cS qs σ ct) s.heap.size (zd (some (.int 1)) (cN b qs qt qh qx :: cS qs σ ct))) args s 0 0 (va_A (cN b qs qt qh qx :: cS qs σ ct) s.heap.size)) 0 0 333 [some (.ref b), some (.int wr), some (.int (nI (ms0 + mm σ y j))), some (.int (nI (al + j))), some (.int (nI y)), some (.int (nI j)), some (.int (bI r)), some (.int (nI k)), none] [.int (bI (r || cq σ y j k))] (cN b qs qt qh qx :: cS qs σ ct) by
                        refine z_iload hC dL_readings_299 rfl ?_
                        refine z_if_ne hC 328 dL_readings_301 (by decide) (fun c301 => ?_) (fun c301 => ?_)
                        · rw [bI_1] at c301
                          refine z_iconst (v := 1) hC dL_readings_328 (by decide) ?_
                          refine z_goto hC 333 dL_readings_329 (by decide) ?_
                          exact zG_s (by simp [bI, cq, c301]) k333_3
                        · rw [bI_0] at c301
                          refine z_aload_n hC dL_readings_304 rfl ?_
                          refine z_iload hC dL_readings_305 rfl ?_
                          refine z_iconst (v := 0) hC dL_readings_307 (by decide) ?_
                          refine z_callH [0, 1, 2, 3, 4, 5, 6, 7, 8, 9, 10, 11, 12, 13, 14, 15, 16] hC (h_collectedReading l D ct b qs qt qh qx σ (nI k) 0 (nI_pos (by omega)) (by decide) (by decide)) bw_158 bw_159 bw_62 bw_160 3 (by decide +kernel) rfl rfl rfl ⟨Nat.le_of_ble_eq_true rfl, Nat.le_of_ble_eq_true rfl⟩ (Nat.le_of_ble_eq_true rfl) ⟨Nat.le_of_ble_eq_true rfl, Nat.le_of_ble_eq_true rfl⟩ rfl dL_readings_308 ?_
                          refine zkq (G := fun v1 w1 => zG p l e _ s m args below meth c D _ _ _ _ _ _ _ (v1.toList ++ _) w1) rfl ?_
                          refine z_iload hC dL_readings_311 rfl ?_
                          refine z_icmp_ne hC 332 dL_readings_313 (by decide) (fun c313 => ?_) (fun c313 => ?_)
                          · refine z_iconst (v := 0) hC dL_readings_332 (by decide) ?_
                            exact zG_s (by simp [bI, cq, c301, c313]) k333_3
                          · refine z_aload_n hC dL_readings_316 rfl ?_
                            refine z_iload hC dL_readings_317 rfl ?_
                            refine z_iconst (v := 1) hC dL_readings_319 (by decide) ?_
                            refine z_callH [0, 1, 2, 3, 4, 5, 6, 7, 8, 9, 10, 11, 12, 13, 14, 15, 16] hC (h_collectedReading l D ct b qs qt qh qx σ (nI k) 1 (nI_pos (by omega)) (by decide) (by decide)) bw_158 bw_159 bw_62 bw_160 3 (by decide +kernel) rfl rfl rfl ⟨Nat.le_of_ble_eq_true rfl, Nat.le_of_ble_eq_true rfl⟩ (Nat.le_of_ble_eq_true rfl) ⟨Nat.le_of_ble_eq_true rfl, Nat.le_of_ble_eq_true rfl⟩ rfl dL_readings_320 ?_
                            refine zkq (G := fun v1 w1 => zG p l e _ s m args below meth c D _ _ _ _ _ _ _ (v1.toList ++ _) w1) rfl ?_
                            refine z_iload hC dL_readings_323 rfl ?_
                            refine z_icmp_ne hC 332 dL_readings_325 (by decide) (fun c325 => ?_) (fun c325 => ?_)
                            · refine z_iconst (v := 0) hC dL_readings_332 (by decide) ?_
                              exact zG_s (by simp [bI, cq, c301, c313, c325]) k333_3
                            · refine z_iconst (v := 1) hC dL_readings_328 (by decide) ?_
                              refine z_goto hC 333 dL_readings_329 (by decide) ?_
                              exact zG_s (by simp [bI, cq, c301, c313, c325]) k333_3
                      refine z_istore hC dL_readings_333 (by decide) rfl ?_
                      refine z_iinc (cn := 1) hC dL_readings_335 (by decide) (by decide) rfl rfl ?_
                      refine z_goto hC 290 dL_readings_338 (by decide) ?_
                      rw [nI_1]
                      exact ih3 (k + 1) _ (by omega) hI
                  exact loop290 (sK σ 0) 0 false (Nat.add_zero _) rfl
              exact (loop273 (fG σ y) 0 (Nat.add_zero _))
            | succ kf2 ih2 =>
              intro k hki2
              refine z_iload hC dL_readings_149 rfl ?_
              refine z_aload_n hC dL_readings_151 rfl ?_
              refine z_iload hC dL_readings_152 rfl ?_
              refine z_callH [0, 1, 2, 3, 4, 5, 6, 7, 8, 9, 10, 11, 12, 13, 14, 15, 16] hC (h_stored l D ct b qs qt qh qx σ y hm0 hm10) bw_205 bw_206 bw_62 bw_207 2 (by decide +kernel) rfl rfl rfl ⟨Nat.le_of_ble_eq_true rfl, Nat.le_of_ble_eq_true rfl⟩ (Nat.le_of_ble_eq_true rfl) ⟨Nat.le_of_ble_eq_true rfl, Nat.le_of_ble_eq_true rfl⟩ rfl dL_readings_154 ?_
              refine zkq (G := fun v1 w1 => zG p l e _ s m args below meth c D _ _ _ _ _ _ _ (v1.toList ++ _) w1) rfl ?_
              rw [show (mrSize (rd σ) (nI y)) = (nI (sK σ y)) from hKm]
              refine z_icmp_ge hC 270 dL_readings_157 (by decide) (fun c157 => absurd c157 (klt (sK σ y) rfl (by omega) (by omega))) (fun c157 => ?_)
              have hk : k < sK σ y := by omega
              obtain ⟨id, i1, i2, p0, p1, p3⟩ := part_at hRel hm10 hk
              obtain ⟨m0, m1, m2, m3, m4⟩ := hRel.2.2.2.2.2.2.2.1 id i1
              obtain ⟨n0, en0⟩ : ∃ z, z = cnt (σ 9) m0 id := ⟨_, rfl⟩
              rw [← en0] at m4
              have hn0 : n0 ≤ id := by rw [en0]; exact cnt_le
              obtain ⟨c0, c1, c2, c3⟩ := cop_id hRel i1 m3 m4
              obtain ⟨u, hu1, hu2⟩ := hRr id i1
              refine z_aload_n hC dL_readings_160 rfl ?_
              refine z_iload hC dL_readings_161 rfl ?_
              refine z_iload hC dL_readings_163 rfl ?_
              refine z_iconst (v := 0) hC dL_readings_165 (by decide) ?_
              refine z_callH [0, 1, 2, 3, 4, 5, 6, 7, 8, 9, 10, 11, 12, 13, 14, 15, 16] hC (h_storedReading l D ct b qs qt qh qx σ y hm0 hm10 (nI k) 0 (nI_pos (by omega)) (by decide) (by decide)) bw_212 bw_213 bw_62 bw_214 4 (by decide +kernel) rfl rfl rfl ⟨Nat.le_of_ble_eq_true rfl, Nat.le_of_ble_eq_true rfl⟩ (Nat.le_of_ble_eq_true rfl) ⟨Nat.le_of_ble_eq_true rfl, Nat.le_of_ble_eq_true rfl⟩ rfl dL_readings_166 ?_
              refine zkq (G := fun v1 w1 => zG p l e _ s m args below meth c D _ _ _ _ _ _ _ (v1.toList ++ _) w1) rfl ?_
              rw [show (mrPart (rd σ) (nI y) (nI k) 0) = (nI m0) from p0.trans m3]
              refine z_istore hC dL_readings_169 (by decide) rfl ?_
              refine z_aload_n hC dL_readings_171 rfl ?_
              refine z_iload hC dL_readings_172 rfl ?_
              refine z_iload hC dL_readings_174 rfl ?_
              refine z_iconst (v := 1) hC dL_readings_176 (by decide) ?_
              refine z_callH [0, 1, 2, 3, 4, 5, 6, 7, 8, 9, 10, 11, 12, 13, 14, 15, 16] hC (h_storedReading l D ct b qs qt qh qx σ y hm0 hm10 (nI k) 1 (nI_pos (by omega)) (by decide) (by decide)) bw_212 bw_213 bw_62 bw_214 4 (by decide +kernel) rfl rfl rfl ⟨Nat.le_of_ble_eq_true rfl, Nat.le_of_ble_eq_true rfl⟩ (Nat.le_of_ble_eq_true rfl) ⟨Nat.le_of_ble_eq_true rfl, Nat.le_of_ble_eq_true rfl⟩ rfl dL_readings_177 ?_
              refine zkq (G := fun v1 w1 => zG p l e _ s m args below meth c D _ _ _ _ _ _ _ (v1.toList ++ _) w1) rfl ?_
              rw [show (mrPart (rd σ) (nI y) (nI k) 1) = (nI n0) from p1.trans m4]
              refine z_istore hC dL_readings_180 (by decide) rfl ?_
              refine z_aload_n hC dL_readings_182 rfl ?_
              refine z_iload hC dL_readings_183 rfl ?_
              refine z_iload hC dL_readings_185 rfl ?_
              refine z_callH [0, 1, 2, 3, 4, 5, 6, 7, 8, 9, 10, 11, 12, 13, 14, 15, 16] hC (h_copies l D ct b qs qt qh qx σ m0 m1 m2 (nI n0)) bw_187 bw_188 bw_62 bw_189 3 (by decide +kernel) rfl rfl rfl ⟨Nat.le_of_ble_eq_true rfl, Nat.le_of_ble_eq_true rfl⟩ (Nat.le_of_ble_eq_true rfl) ⟨Nat.le_of_ble_eq_true rfl, Nat.le_of_ble_eq_true rfl⟩ rfl dL_readings_187 ?_
              refine zkq (G := fun v1 w1 => zG p l e _ s m args below meth c D _ _ _ _ _ _ _ (v1.toList ++ _) w1) rfl ?_
              refine z_iconst (v := 1) hC dL_readings_190 (by decide) ?_
              refine z_icmp_lt hC 216 dL_readings_191 (by decide) (fun c191 => absurd c191 (by rw [c2]; exact nI_nlt (a := c0) (b := 1) (c3 ⟨y, k, hm0, hm10, hk, i2⟩) (by omega))) (fun c191 => ?_)
              refine z_aload_n hC dL_readings_194 rfl ?_
              refine z_iload hC dL_readings_195 rfl ?_
              refine z_iload hC dL_readings_197 rfl ?_
              refine z_iconst (v := 3) hC dL_readings_199 (by decide) ?_
              refine z_callH [0, 1, 2, 3, 4, 5, 6, 7, 8, 9, 10, 11, 12, 13, 14, 15, 16] hC (h_storedReading l D ct b qs qt qh qx σ y hm0 hm10 (nI k) 3 (nI_pos (by omega)) (by decide) (by decide)) bw_212 bw_213 bw_62 bw_214 4 (by decide +kernel) rfl rfl rfl ⟨Nat.le_of_ble_eq_true rfl, Nat.le_of_ble_eq_true rfl⟩ (Nat.le_of_ble_eq_true rfl) ⟨Nat.le_of_ble_eq_true rfl, Nat.le_of_ble_eq_true rfl⟩ rfl dL_readings_200 ?_
              refine zkq (G := fun v1 w1 => zG p l e _ s m args below meth c D _ _ _ _ _ _ _ (v1.toList ++ _) w1) rfl ?_
              refine z_aload_n hC dL_readings_203 rfl ?_
              refine z_callV [0, 1, 2, 3, 4, 5, 6, 7, 8, 9, 10, 11, 12, 13, 14, 15, 16] 0 4 hC (c_X4_time l D ct b qs qt qh qx σ) bw_96 bw_97 bw_98 bw_2 bw_99 0 (by decide +kernel) rfl rfl rfl rfl rfl ⟨Nat.le_of_ble_eq_true rfl, Nat.le_of_ble_eq_true rfl⟩ (Nat.le_of_ble_eq_true rfl) ⟨Nat.le_of_ble_eq_true rfl, Nat.le_of_ble_eq_true rfl⟩ rfl dL_readings_204 ?_
              refine zkq (G := fun v1 w1 => zG p l e _ s m args below meth c D _ _ _ _ _ _ _ (v1.toList ++ _) w1) rfl ?_
              refine z_icmp_gt hC 216 dL_readings_207 (by decide) (fun c207 => absurd c207 (by rw [p3, hu2, hT0]; exact nI_nlt hu1 (by omega))) (fun c207 => ?_)
              refine z_iload hC dL_readings_210 rfl ?_
              refine z_iconst (v := 5) hC dL_readings_212 (by decide) ?_
              refine z_icmp_le hC 218 dL_readings_213 (by decide) (fun c213 => ?_) (fun c213 => (c213 (nI_le (a := k) (b := 5) (by omega) (by omega))).elim)
              refine z_iconst (v := 0) hC dL_readings_218 (by decide) ?_
              refine z_istore hC dL_readings_219 (by decide) rfl ?_
              have loop221 : ∀ (kf3 i : Nat) (hki3 : kf3 + i = k), zG p l e { frames := 6, cells := 0, slots := 0, locals := 154 } s m args below meth c D (va_A (cN b qs qt qh qx :: cS qs σ ct) s.heap.size) 9 (MQ below (zQ D ct (cN b qs qt qh qx :: cS qs σ ct) s.heap.size (zd (some (.int 1)) (cN b qs qt qh qx :: cS qs σ ct))) args s 0 0 (va_A (cN b qs qt qh qx :: cS qs σ ct) s.heap.size)) 0 0 221 [some (.ref b), some (.int wr), some (.int (nI ms0)), some (.int (nI al)), some (.int (nI y)), some (.int (nI k)), some (.int (nI m0)), some (.int (nI n0)), some (.int (nI i))] [] (cN b qs qt qh qx :: cS qs σ ct) := by
                intro kf3
                induction kf3 with
                | zero =>
                  intro i hki3
                  refine z_iload hC dL_readings_221 rfl ?_
                  refine z_iload hC dL_readings_223 rfl ?_
                  refine z_icmp_ge hC 264 dL_readings_225 (by decide) (fun c225 => ?_) (fun c225 => absurd (kge (k) rfl (by omega) (by omega)) c225)
                  refine z_iinc (cn := 1) hC dL_readings_264 (by decide) (by decide) rfl rfl ?_
                  refine z_goto hC 149 dL_readings_267 (by decide) ?_
                  rw [nI_1]
                  exact z_wk (ls_s (ls_s (ls_s (ls_s (ls_s (ls_s (ls_n (ls_n (ls_n ls_0))))))))) (ih2 (k + 1) (by omega))
                | succ kf3 ih3 =>
                  intro i hki3
                  refine z_iload hC dL_readings_221 rfl ?_
                  refine z_iload hC dL_readings_223 rfl ?_
                  refine z_icmp_ge hC 264 dL_readings_225 (by decide) (fun c225 => absurd c225 (klt (k) rfl (by omega) (by omega))) (fun c225 => ?_)
                  suffices k258_4 : zG p l e { frames := 6, cells := 0, slots := 0, locals := 154 } s m args below meth c D (va_A (cN b qs qt qh qx :: cS qs σ ct) s.heap.size) 9 (MQ below (zQ D ct (cN b qs qt qh qx :: cS qs σ ct) s.heap.size (zd (some (.int 1)) (cN b qs qt qh qx :: cS qs σ ct))) args s 0 0 (va_A (cN b qs qt qh qx :: cS qs σ ct) s.heap.size)) 0 0 258 [some (.ref b), some (.int wr), some (.int (nI ms0)), some (.int (nI al)), some (.int (nI y)), some (.int (nI k)), some (.int (nI m0)), some (.int (nI n0)), some (.int (nI i))] [] (cN b qs qt qh qx :: cS qs σ ct) by
                    refine z_aload_n hC dL_readings_228 rfl ?_
                    refine z_iload hC dL_readings_229 rfl ?_
                    refine z_iload hC dL_readings_231 rfl ?_
                    refine z_iconst (v := 0) hC dL_readings_233 (by decide) ?_
                    refine z_callH [0, 1, 2, 3, 4, 5, 6, 7, 8, 9, 10, 11, 12, 13, 14, 15, 16] hC (h_storedReading l D ct b qs qt qh qx σ y hm0 hm10 (nI i) 0 (nI_pos (by omega)) (by decide) (by decide)) bw_212 bw_213 bw_62 bw_214 4 (by decide +kernel) rfl rfl rfl ⟨Nat.le_of_ble_eq_true rfl, Nat.le_of_ble_eq_true rfl⟩ (Nat.le_of_ble_eq_true rfl) ⟨Nat.le_of_ble_eq_true rfl, Nat.le_of_ble_eq_true rfl⟩ rfl dL_readings_234 ?_
                    refine zkq (G := fun v1 w1 => zG p l e _ s m args below meth c D _ _ _ _ _ _ _ (v1.toList ++ _) w1) rfl ?_
                    refine z_iload hC dL_readings_237 rfl ?_
                    refine z_icmp_ne hC 258 dL_readings_239 (by decide) (fun c239 => ?_) (fun c239 => ?_)
                    · exact k258_4
                    · refine z_aload_n hC dL_readings_242 rfl ?_
                      refine z_iload hC dL_readings_243 rfl ?_
                      refine z_iload hC dL_readings_245 rfl ?_
                      refine z_iconst (v := 1) hC dL_readings_247 (by decide) ?_
                      refine z_callH [0, 1, 2, 3, 4, 5, 6, 7, 8, 9, 10, 11, 12, 13, 14, 15, 16] hC (h_storedReading l D ct b qs qt qh qx σ y hm0 hm10 (nI i) 1 (nI_pos (by omega)) (by decide) (by decide)) bw_212 bw_213 bw_62 bw_214 4 (by decide +kernel) rfl rfl rfl ⟨Nat.le_of_ble_eq_true rfl, Nat.le_of_ble_eq_true rfl⟩ (Nat.le_of_ble_eq_true rfl) ⟨Nat.le_of_ble_eq_true rfl, Nat.le_of_ble_eq_true rfl⟩ rfl dL_readings_248 ?_
                      refine zkq (G := fun v1 w1 => zG p l e _ s m args below meth c D _ _ _ _ _ _ _ (v1.toList ++ _) w1) rfl ?_
                      refine z_iload hC dL_readings_251 rfl ?_
                      refine z_icmp_ne hC 258 dL_readings_253 (by decide) (fun c253 => ?_) (fun c253 => (part_ne hRel hm10 (show i < k by omega) hk (c239.trans (p0.trans m3).symm) (c253.trans (p1.trans m4).symm)).elim)
                      exact k258_4
                  refine z_iinc (cn := 1) hC dL_readings_258 (by decide) (by decide) rfl rfl ?_
                  refine z_goto hC 221 dL_readings_261 (by decide) ?_
                  rw [nI_1]
                  exact ih3 (i + 1) (by omega)
              exact loop221 k 0 (Nat.add_zero _)
          exact loop149 (sK σ y) 0 (Nat.add_zero _)
      exact (loop139 9 1 0 0 rfl (by omega) rfl rfl)
    | succ kf ih =>
      intro k wr hki hW
      refine z_iload hC dL_readings_9 rfl ?_
      refine z_aload_n hC dL_readings_11 rfl ?_
      refine z_callV [0, 1, 2, 3, 4, 5, 6, 7, 8, 9, 10, 11, 12, 13, 14, 15, 16] 0 4 hC (c_X4_collected l D ct b qs qt qh qx σ) bw_147 bw_148 bw_149 bw_2 bw_150 0 (by decide +kernel) rfl rfl rfl rfl rfl ⟨Nat.le_of_ble_eq_true rfl, Nat.le_of_ble_eq_true rfl⟩ (Nat.le_of_ble_eq_true rfl) ⟨Nat.le_of_ble_eq_true rfl, Nat.le_of_ble_eq_true rfl⟩ rfl dL_readings_12 ?_
      refine zkq (G := fun v1 w1 => zG p l e _ s m args below meth c D _ _ _ _ _ _ _ (v1.toList ++ _) w1) rfl ?_
      rw [show (mrSize (rd σ) 0) = (nI (sK σ 0)) from hs]
      refine z_icmp_ge hC 136 dL_readings_15 (by decide) (fun c15 => absurd c15 (klt (sK σ 0) rfl (by omega) (by omega))) (fun c15 => ?_)
      have hk : k < sK σ 0 := by omega
      obtain ⟨id, i1, i2, p0, p1, p3⟩ := part_c hRel hk
      obtain ⟨m0, m1, m2, m3, m4⟩ := hRel.2.2.2.2.2.2.2.1 id i1
      obtain ⟨n0, en0⟩ : ∃ z, z = cnt (σ 9) m0 id := ⟨_, rfl⟩
      rw [← en0] at m4
      have hn0 : n0 ≤ id := by rw [en0]; exact cnt_le
      obtain ⟨c0, c1, c2, c3⟩ := cop_id hRel i1 m3 m4
      obtain ⟨u, hu1, hu2⟩ := hQq k id hk i1 i2
      refine z_aload_n hC dL_readings_18 rfl ?_
      refine z_iload hC dL_readings_19 rfl ?_
      refine z_iconst (v := 0) hC dL_readings_21 (by decide) ?_
      refine z_callH [0, 1, 2, 3, 4, 5, 6, 7, 8, 9, 10, 11, 12, 13, 14, 15, 16] hC (h_collectedReading l D ct b qs qt qh qx σ (nI k) 0 (nI_pos (by omega)) (by decide) (by decide)) bw_158 bw_159 bw_62 bw_160 3 (by decide +kernel) rfl rfl rfl ⟨Nat.le_of_ble_eq_true rfl, Nat.le_of_ble_eq_true rfl⟩ (Nat.le_of_ble_eq_true rfl) ⟨Nat.le_of_ble_eq_true rfl, Nat.le_of_ble_eq_true rfl⟩ rfl dL_readings_22 ?_
      refine zkq (G := fun v1 w1 => zG p l e _ s m args below meth c D _ _ _ _ _ _ _ (v1.toList ++ _) w1) rfl ?_
      rw [show (mrPart (rd σ) 0 (nI k) 0) = (nI m0) from p0.trans m3]
      refine z_istore hC dL_readings_25 (by decide) rfl ?_
      refine z_aload_n hC dL_readings_27 rfl ?_
      refine z_iload hC dL_readings_28 rfl ?_
      refine z_iconst (v := 1) hC dL_readings_30 (by decide) ?_
      refine z_callH [0, 1, 2, 3, 4, 5, 6, 7, 8, 9, 10, 11, 12, 13, 14, 15, 16] hC (h_collectedReading l D ct b qs qt qh qx σ (nI k) 1 (nI_pos (by omega)) (by decide) (by decide)) bw_158 bw_159 bw_62 bw_160 3 (by decide +kernel) rfl rfl rfl ⟨Nat.le_of_ble_eq_true rfl, Nat.le_of_ble_eq_true rfl⟩ (Nat.le_of_ble_eq_true rfl) ⟨Nat.le_of_ble_eq_true rfl, Nat.le_of_ble_eq_true rfl⟩ rfl dL_readings_31 ?_
      refine zkq (G := fun v1 w1 => zG p l e _ s m args below meth c D _ _ _ _ _ _ _ (v1.toList ++ _) w1) rfl ?_
      rw [show (mrPart (rd σ) 0 (nI k) 1) = (nI n0) from p1.trans m4]
      refine z_istore hC dL_readings_34 (by decide) rfl ?_
      refine z_iload_n hC dL_readings_36 rfl ?_
      suffices k59_5 : zG p l e { frames := 6, cells := 0, slots := 0, locals := 154 } s m args below meth c D (va_A (cN b qs qt qh qx :: cS qs σ ct) s.heap.size) 9 (MQ below (zQ D ct (cN b qs qt qh qx :: cS qs σ ct) s.heap.size (zd (some (.int 1)) (cN b qs qt qh qx :: cS qs σ ct))) args s 0 0 (va_A (cN b qs qt qh qx :: cS qs σ ct) s.heap.size)) 0 0 59 [some (.ref b), some (.int wr), some (.int 0), some (.int 0), some (.int (nI k)), some (.int (nI m0)), some (.int (nI n0)), none, none] [.int (if mrPart (rd σ) 0 (nI k) 3 = mrPart (rd σ) 0 (nI k) 4 then 0 else 1), .int wr] (cN b qs qt qh qx :: cS qs σ ct) by
        refine z_aload_n hC dL_readings_37 rfl ?_
        refine z_iload hC dL_readings_38 rfl ?_
        refine z_iconst (v := 3) hC dL_readings_40 (by decide) ?_
        refine z_callH [0, 1, 2, 3, 4, 5, 6, 7, 8, 9, 10, 11, 12, 13, 14, 15, 16] hC (h_collectedReading l D ct b qs qt qh qx σ (nI k) 3 (nI_pos (by omega)) (by decide) (by decide)) bw_158 bw_159 bw_62 bw_160 3 (by decide +kernel) rfl rfl rfl ⟨Nat.le_of_ble_eq_true rfl, Nat.le_of_ble_eq_true rfl⟩ (Nat.le_of_ble_eq_true rfl) ⟨Nat.le_of_ble_eq_true rfl, Nat.le_of_ble_eq_true rfl⟩ rfl dL_readings_41 ?_
        refine zkq (G := fun v1 w1 => zG p l e _ s m args below meth c D _ _ _ _ _ _ _ (v1.toList ++ _) w1) rfl ?_
        refine z_aload_n hC dL_readings_44 rfl ?_
        refine z_iload hC dL_readings_45 rfl ?_
        refine z_iconst (v := 4) hC dL_readings_47 (by decide) ?_
        refine z_callH [0, 1, 2, 3, 4, 5, 6, 7, 8, 9, 10, 11, 12, 13, 14, 15, 16] hC (h_collectedReading l D ct b qs qt qh qx σ (nI k) 4 (nI_pos (by omega)) (by decide) (by decide)) bw_158 bw_159 bw_62 bw_160 3 (by decide +kernel) rfl rfl rfl ⟨Nat.le_of_ble_eq_true rfl, Nat.le_of_ble_eq_true rfl⟩ (Nat.le_of_ble_eq_true rfl) ⟨Nat.le_of_ble_eq_true rfl, Nat.le_of_ble_eq_true rfl⟩ rfl dL_readings_48 ?_
        refine zkq (G := fun v1 w1 => zG p l e _ s m args below meth c D _ _ _ _ _ _ _ (v1.toList ++ _) w1) rfl ?_
        refine z_icmp_ne hC 58 dL_readings_51 (by decide) (fun c51 => ?_) (fun c51 => ?_)
        · refine z_iconst (v := 1) hC dL_readings_58 (by decide) ?_
          exact zG_s (by first | (rw [if_pos (c51)] <;> rfl) | (rw [if_neg (c51)] <;> rfl)) k59_5
        · refine z_iconst (v := 0) hC dL_readings_54 (by decide) ?_
          refine z_goto hC 59 dL_readings_55 (by decide) ?_
          exact zG_s (by first | (rw [if_pos (c51)] <;> rfl) | (rw [if_neg (c51)] <;> rfl)) k59_5
      refine z_iadd hC dL_readings_59 ?_
      refine z_istore_n hC dL_readings_60 (by decide) rfl ?_
      refine z_aload_n hC dL_readings_61 rfl ?_
      refine z_iload hC dL_readings_62 rfl ?_
      refine z_iload hC dL_readings_64 rfl ?_
      refine z_callH [0, 1, 2, 3, 4, 5, 6, 7, 8, 9, 10, 11, 12, 13, 14, 15, 16] hC (h_copies l D ct b qs qt qh qx σ m0 m1 m2 (nI n0)) bw_187 bw_188 bw_62 bw_189 3 (by decide +kernel) rfl rfl rfl ⟨Nat.le_of_ble_eq_true rfl, Nat.le_of_ble_eq_true rfl⟩ (Nat.le_of_ble_eq_true rfl) ⟨Nat.le_of_ble_eq_true rfl, Nat.le_of_ble_eq_true rfl⟩ rfl dL_readings_66 ?_
      refine zkq (G := fun v1 w1 => zG p l e _ s m args below meth c D _ _ _ _ _ _ _ (v1.toList ++ _) w1) rfl ?_
      refine z_if_lt hC 86 dL_readings_69 (by decide) (fun c69 => absurd c69 (by rw [c2]; exact nI_pos (by omega))) (fun c69 => ?_)
      refine z_aload_n hC dL_readings_72 rfl ?_
      refine z_iload hC dL_readings_73 rfl ?_
      refine z_iconst (v := 3) hC dL_readings_75 (by decide) ?_
      refine z_callH [0, 1, 2, 3, 4, 5, 6, 7, 8, 9, 10, 11, 12, 13, 14, 15, 16] hC (h_collectedReading l D ct b qs qt qh qx σ (nI k) 3 (nI_pos (by omega)) (by decide) (by decide)) bw_158 bw_159 bw_62 bw_160 3 (by decide +kernel) rfl rfl rfl ⟨Nat.le_of_ble_eq_true rfl, Nat.le_of_ble_eq_true rfl⟩ (Nat.le_of_ble_eq_true rfl) ⟨Nat.le_of_ble_eq_true rfl, Nat.le_of_ble_eq_true rfl⟩ rfl dL_readings_76 ?_
      refine zkq (G := fun v1 w1 => zG p l e _ s m args below meth c D _ _ _ _ _ _ _ (v1.toList ++ _) w1) rfl ?_
      refine z_aload_n hC dL_readings_79 rfl ?_
      refine z_callV [0, 1, 2, 3, 4, 5, 6, 7, 8, 9, 10, 11, 12, 13, 14, 15, 16] 0 4 hC (c_X4_time l D ct b qs qt qh qx σ) bw_96 bw_97 bw_98 bw_2 bw_99 0 (by decide +kernel) rfl rfl rfl rfl rfl ⟨Nat.le_of_ble_eq_true rfl, Nat.le_of_ble_eq_true rfl⟩ (Nat.le_of_ble_eq_true rfl) ⟨Nat.le_of_ble_eq_true rfl, Nat.le_of_ble_eq_true rfl⟩ rfl dL_readings_80 ?_
      refine zkq (G := fun v1 w1 => zG p l e _ s m args below meth c D _ _ _ _ _ _ _ (v1.toList ++ _) w1) rfl ?_
      refine z_icmp_lt hC 88 dL_readings_83 (by decide) (fun c83 => ?_) (fun c83 => (c83 (by rw [p3, hu2, hT0]; exact nI_lt hu1 (by omega))).elim)
      refine z_iconst (v := 0) hC dL_readings_88 (by decide) ?_
      refine z_istore hC dL_readings_89 (by decide) rfl ?_
      have loop91 : ∀ (kf2 i : Nat) (hki2 : kf2 + i = k), zG p l e { frames := 6, cells := 0, slots := 0, locals := 154 } s m args below meth c D (va_A (cN b qs qt qh qx :: cS qs σ ct) s.heap.size) 9 (MQ below (zQ D ct (cN b qs qt qh qx :: cS qs σ ct) s.heap.size (zd (some (.int 1)) (cN b qs qt qh qx :: cS qs σ ct))) args s 0 0 (va_A (cN b qs qt qh qx :: cS qs σ ct) s.heap.size)) 0 0 91 [some (.ref b), some (.int (wr + (if mrPart (rd σ) 0 (nI k) 3 = mrPart (rd σ) 0 (nI k) 4 then 0 else 1))), some (.int 0), some (.int 0), some (.int (nI k)), some (.int (nI m0)), some (.int (nI n0)), some (.int (nI i)), none] [] (cN b qs qt qh qx :: cS qs σ ct) := by
        intro kf2
        induction kf2 with
        | zero =>
          intro i hki2
          refine z_iload hC dL_readings_91 rfl ?_
          refine z_iload hC dL_readings_93 rfl ?_
          refine z_icmp_ge hC 130 dL_readings_95 (by decide) (fun c95 => ?_) (fun c95 => absurd (kge (k) rfl (by omega) (by omega)) c95)
          refine z_iinc (cn := 1) hC dL_readings_130 (by decide) (by decide) rfl rfl ?_
          refine z_goto hC 9 dL_readings_133 (by decide) ?_
          rw [nI_1]
          exact z_wk (ls_s (ls_s (ls_s (ls_s (ls_s (ls_n (ls_n (ls_n (ls_n ls_0))))))))) (ih (k + 1) _ (by omega) hW)
        | succ kf2 ih2 =>
          intro i hki2
          refine z_iload hC dL_readings_91 rfl ?_
          refine z_iload hC dL_readings_93 rfl ?_
          refine z_icmp_ge hC 130 dL_readings_95 (by decide) (fun c95 => absurd c95 (klt (k) rfl (by omega) (by omega))) (fun c95 => ?_)
          suffices k124_6 : zG p l e { frames := 6, cells := 0, slots := 0, locals := 154 } s m args below meth c D (va_A (cN b qs qt qh qx :: cS qs σ ct) s.heap.size) 9 (MQ below (zQ D ct (cN b qs qt qh qx :: cS qs σ ct) s.heap.size (zd (some (.int 1)) (cN b qs qt qh qx :: cS qs σ ct))) args s 0 0 (va_A (cN b qs qt qh qx :: cS qs σ ct) s.heap.size)) 0 0 124 [some (.ref b), some (.int (wr + (if mrPart (rd σ) 0 (nI k) 3 = mrPart (rd σ) 0 (nI k) 4 then 0 else 1))), some (.int 0), some (.int 0), some (.int (nI k)), some (.int (nI m0)), some (.int (nI n0)), some (.int (nI i)), none] [] (cN b qs qt qh qx :: cS qs σ ct) by
            refine z_aload_n hC dL_readings_98 rfl ?_
            refine z_iload hC dL_readings_99 rfl ?_
            refine z_iconst (v := 0) hC dL_readings_101 (by decide) ?_
            refine z_callH [0, 1, 2, 3, 4, 5, 6, 7, 8, 9, 10, 11, 12, 13, 14, 15, 16] hC (h_collectedReading l D ct b qs qt qh qx σ (nI i) 0 (nI_pos (by omega)) (by decide) (by decide)) bw_158 bw_159 bw_62 bw_160 3 (by decide +kernel) rfl rfl rfl ⟨Nat.le_of_ble_eq_true rfl, Nat.le_of_ble_eq_true rfl⟩ (Nat.le_of_ble_eq_true rfl) ⟨Nat.le_of_ble_eq_true rfl, Nat.le_of_ble_eq_true rfl⟩ rfl dL_readings_102 ?_
            refine zkq (G := fun v1 w1 => zG p l e _ s m args below meth c D _ _ _ _ _ _ _ (v1.toList ++ _) w1) rfl ?_
            refine z_iload hC dL_readings_105 rfl ?_
            refine z_icmp_ne hC 124 dL_readings_107 (by decide) (fun c107 => ?_) (fun c107 => ?_)
            · exact k124_6
            · refine z_aload_n hC dL_readings_110 rfl ?_
              refine z_iload hC dL_readings_111 rfl ?_
              refine z_iconst (v := 1) hC dL_readings_113 (by decide) ?_
              refine z_callH [0, 1, 2, 3, 4, 5, 6, 7, 8, 9, 10, 11, 12, 13, 14, 15, 16] hC (h_collectedReading l D ct b qs qt qh qx σ (nI i) 1 (nI_pos (by omega)) (by decide) (by decide)) bw_158 bw_159 bw_62 bw_160 3 (by decide +kernel) rfl rfl rfl ⟨Nat.le_of_ble_eq_true rfl, Nat.le_of_ble_eq_true rfl⟩ (Nat.le_of_ble_eq_true rfl) ⟨Nat.le_of_ble_eq_true rfl, Nat.le_of_ble_eq_true rfl⟩ rfl dL_readings_114 ?_
              refine zkq (G := fun v1 w1 => zG p l e _ s m args below meth c D _ _ _ _ _ _ _ (v1.toList ++ _) w1) rfl ?_
              refine z_iload hC dL_readings_117 rfl ?_
              refine z_icmp_ne hC 124 dL_readings_119 (by decide) (fun c119 => ?_) (fun c119 => (part_ne (n := 0) hRel (by omega) (show i < k by omega) hk (c107.trans (p0.trans m3).symm) (c119.trans (p1.trans m4).symm)).elim)
              exact k124_6
          refine z_iinc (cn := 1) hC dL_readings_124 (by decide) (by decide) rfl rfl ?_
          refine z_goto hC 91 dL_readings_127 (by decide) ?_
          rw [nI_1]
          exact ih2 (i + 1) (by omega)
      exact loop91 k 0 (Nat.add_zero _)
  exact loop9 (sK σ 0) 0 0 (Nat.add_zero _) (wst_form hs hs6)
