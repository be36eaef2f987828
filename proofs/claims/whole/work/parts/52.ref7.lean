/-! THE REFERENCE: carrying a text out, a new object -/
theorem zI_r1 {b j : Nat} {κ κ2 : TB} (h : zI b j κ) (e : κ2 1 = κ 1) : zI b j κ2 := by
  obtain ⟨σ, B, h1, h2⟩ := h
  exact ⟨σ, B, Rel_r1 h1 e, h2⟩
theorem zI_okA {b j : Nat} {κ : TB} (h : zI b j κ) : okA κ b := by
  obtain ⟨σ, B, h1, h2⟩ := h
  exact Rel_okA h1
theorem okDo_116 {κ : TB} {s : Int32} (h : okDo κ s) (hs : s = 116) : κ 0 4 = nI (xa κ) ∧ xa κ < 10 := by
  rcases h with ⟨s1, -⟩ | ⟨s1 | s1, -⟩ | ⟨-, s2, s3, s4⟩ | ⟨s1, -⟩
  · rw [hs] at s1; exact absurd s1 (by decide)
  · rw [hs] at s1; exact absurd s1 (by decide)
  · rw [hs] at s1; exact absurd s1 (by decide)
  · exact ⟨s2, s4⟩
  · rw [hs] at s1; exact absurd s1 (by decide)
theorem zI_do {j : Nat} {κ : TB} {s : Int32} (h : zI 0 (j + 100) κ) (hok : okDo κ s) (hn : ¬ (s = 116 ∧ mdCan κ (xa κ) = false)) : zI 0 j (mdDo κ s) := by
  obtain ⟨σ, B, h1, h2⟩ := h
  obtain ⟨C, eC⟩ : ∃ z : Bool × TB, z = (true, u2 (u2 (u2 (u2 (fun _ _ => 0) 0 2 s) 0 3 (κ 0 4)) 0 4 (κ 0 5)) 0 5 (if s = 114 then κ 0 4 else κ 0 5)) := ⟨_, rfl⟩
  have c2 : C.2 0 2 = s := by rw [eC]; rfl
  have c3 : C.2 0 3 = κ 0 4 := by rw [eC]; rfl
  have c4 : C.2 0 4 = κ 0 5 := by rw [eC]; rfl
  have c5 : C.2 0 5 = if s = 114 then κ 0 4 else κ 0 5 := by rw [eC]; rfl
  have hc : cTc s C (s, 0, κ 0 4, κ 0 5) := by
    refine ⟨fun _ => c3, fun _ => ⟨c3, c4⟩, fun q => ⟨c3, ?_⟩, fun q => ?_⟩
    · rw [c5, if_neg (by rw [q]; decide)]
    · rw [c5, if_pos q]
  rcases exec_n (C := C) (R := (s, 0, κ 0 4, κ 0 5)) h1 (by omega) c2 hc hok rfl rfl with ⟨q, -⟩ | ⟨-, -, q, -⟩
  · exact absurd q hn
  · exact ⟨_, _, q, by omega⟩
set_option maxRecDepth 100000 in
set_option maxHeartbeats 1000000 in
theorem c_X5_runText_ok (l : Launch) (D : va_G) (ct : Nat → ClassId) (q : Nat → Nat) (κ : Nat → Nat → Int32) (t z : Nat) (ht : κ 0 1 = nI t) (ht8 : t ≤ 80) (hz : κ 0 0 = nI z) (hz6 : z ≤ 6) (hv0 : (mdErr κ t).1 = -1) (hz0 : zI 0 8000 (u2 (mdSave (u2 (mdEr κ t) 0 2 0) z) 0 3 0)) (R : Int32 × (Nat → Nat → Int32)) (hR : xR (κ 2) t 80 0 (u2 (mdSave (u2 (mdEr κ t) 0 2 0) z) 0 3 0) = R) : zT l D ct yX5_runText cX5_runText 4 (some .int) 10 266 0 0 [.ref (q 0)] (cM q κ ct) (zd (some (.int R.1)) (cM q R.2 ct)) := by
  refine zT_of ([some (.ref (q 0)), none, none, none]) (by decide +kernel) rfl (Nat.le_of_ble_eq_true rfl) ?_
  intro p e s m args below meth c hC hr hnm
  refine z_aload_n hC dX5_runText_0 rfl ?_
  refine z_aload_n hC dX5_runText_1 rfl ?_
  refine z_callV [0, 1, 2, 3] 0 5 hC (c_X5_errorM l D ct q κ t ht ht8) bw_485 bw_486 bw_487 bw_5 bw_488 0 (by decide +kernel) rfl rfl rfl rfl rfl ⟨Nat.le_of_ble_eq_true rfl, Nat.le_of_ble_eq_true rfl⟩ (Nat.le_of_ble_eq_true rfl) ⟨Nat.le_of_ble_eq_true rfl, Nat.le_of_ble_eq_true rfl⟩ rfl dX5_runText_2 ?_
  refine zkd (G := fun v1 w1 => zG p l e _ s m args below meth c D _ _ _ _ _ _ _ (v1.toList ++ _) w1) (w2 := cM q (mdEr κ t) ct) cM_all ?_
  obtain ⟨κ1, eκ1⟩ : ∃ zz_, zz_ = (mdEr κ t) := ⟨_, rfl⟩
  rw [← eκ1]
  refine z_iconst (v := (-1)) hC dX5_runText_5 (by decide) ?_
  refine z_icmp_ne hC 13 dX5_runText_6 (by decide) (fun c6 => (c6 hv0).elim) (fun c6 => ?_)
  refine z_iconst (v := 1) hC dX5_runText_9 (by decide) ?_
  refine z_goto hC 14 dX5_runText_10 (by decide) ?_
  refine z_iconst (v := 1) hC dX5_runText_14 (by decide) ?_
  refine z_iconst (v := 1) hC dX5_runText_15 (by decide) ?_
  refine z_callV [0, 1, 2, 3] 0 5 hC (c_X5_goes l D ct q κ1 1 1 1 0 rfl) bw_143 bw_144 bw_145 bw_5 bw_146 3 (by decide +kernel) rfl rfl rfl rfl rfl ⟨Nat.le_of_ble_eq_true rfl, Nat.le_of_ble_eq_true rfl⟩ (Nat.le_of_ble_eq_true rfl) ⟨Nat.le_of_ble_eq_true rfl, Nat.le_of_ble_eq_true rfl⟩ rfl dX5_runText_16 ?_
  refine zkd (G := fun v1 w1 => zG p l e _ s m args below meth c D _ _ _ _ _ _ _ (v1.toList ++ _) w1) (w2 := cM q (u2 κ1 0 2 0) ct) cM_all ?_
  obtain ⟨κ2, eκ2⟩ : ∃ zz_, zz_ = (u2 κ1 0 2 0) := ⟨_, rfl⟩
  rw [← eκ2]
  refine z_top (y := 1) (by decide) ?_
  refine z_if_ne hC 24 dX5_runText_19 (by decide) (fun cn3 => ?_) (fun cn3 => absurd cn3 (by decide))
  refine z_aload_n hC dX5_runText_24 rfl ?_
  refine z_callV [0, 1, 2, 3] 0 5 hC (c_X5_saves l D ct q κ2 z (by subst eκ2; subst eκ1; exact hz) hz6) bw_148 bw_149 bw_150 bw_5 bw_151 0 (by decide +kernel) rfl rfl rfl rfl rfl ⟨Nat.le_of_ble_eq_true rfl, Nat.le_of_ble_eq_true rfl⟩ (Nat.le_of_ble_eq_true rfl) ⟨Nat.le_of_ble_eq_true rfl, Nat.le_of_ble_eq_true rfl⟩ rfl dX5_runText_25 ?_
  refine zkd (G := fun v1 w1 => zG p l e _ s m args below meth c D _ _ _ _ _ _ _ (v1.toList ++ _) w1) (w2 := cM q (mdSave κ2 z) ct) cM_all ?_
  obtain ⟨κ4, eκ4⟩ : ∃ zz_, zz_ = (mdSave κ2 z) := ⟨_, rfl⟩
  rw [← eκ4]
  refine z_aload_n hC dX5_runText_28 rfl ?_
  refine z_iconst (v := 0) hC dX5_runText_29 (by decide) ?_
  refine z_put (ci := 5) 0 6 hC bl_X5 tyX5_ok nmX5 rfl (by decide) rfl bw_489 rfl rfl rfl rfl (Nat.lt_of_lt_of_le (by decide) (Nat.le_refl 9)) dX5_runText_30 (w2 := cM q (u2 κ4 0 3 0) ct) cM_f3 ?_
  obtain ⟨κ5, eκ5⟩ : ∃ zz_, zz_ = u2 κ4 0 3 0 := ⟨_, rfl⟩
  rw [← eκ5]
  refine z_iconst (v := 0) hC dX5_runText_33 (by decide) ?_
  refine z_istore_n hC dX5_runText_34 (by decide) rfl ?_
  have loop35 : ∀ (kf i : Nat) (κx : Nat → Nat → Int32) (hki : 80 ≤ kf + xp κx) (h3 : κx 0 3 = nI (xp κx)) (h1 : κx 0 1 = nI t) (h2 : κx 2 = κ 2) (hp : xp κx ≤ t + 1) (hv : xp κx ≤ t → vE (κ 2) t (kf + 1) (xp κx)) (hz : zI 0 (100 * kf) κx) (hF : xR (κ 2) t kf i κx = R), zG p l e { frames := 10, cells := 0, slots := 0, locals := 266 } s m args below meth c D (va_A (cM q κ ct) s.heap.size) 4 (MQ below (zQ D ct (cM q κ ct) s.heap.size (zd (some (.int R.1)) (cM q R.2 ct))) args s 0 0 (va_A (cM q κ ct) s.heap.size)) 0 0 35 [some (.ref (q 0)), some (.int (nI i)), none, none] [] (cM q κx ct) := by
    intro kf
    induction kf with
    | zero =>
      intro i κx hki h3 h1 h2 hp hv hz hF
      refine z_aload_n hC dX5_runText_35 rfl ?_
      refine z_get 0 6 hC bl_X5 (ci := 5) rfl (by decide) rfl bw_489 rfl rfl dX5_runText_36 ?_
      refine z_top (y := nI (xp κx)) (h3) ?_
      refine z_aload_n hC dX5_runText_39 rfl ?_
      refine z_get 0 3 hC bl_X5 (ci := 5) rfl (by decide) rfl bw_432 rfl rfl dX5_runText_40 ?_
      refine z_top (y := nI (t)) (h1) ?_
      refine z_icmp_ge hC 92 dX5_runText_43 (by decide) (fun c43 => ?_) (fun c43 => (by have hh := (nI_nleI (a := t) (b := xp κx) (by omega) (by omega)).mp c43; omega))
      replace c43 := (nI_leI (a := t) (b := xp κx) (by omega) (by omega)).mp c43
      refine z_iload_n hC dX5_runText_92 rfl ?_
      exact z_iretd hC hr dX5_runText_93 (Nat.zero_le _) (Nat.zero_le _) (by rw [← hF]; rfl) (congrArg (fun z => cM q z ct) (by rw [← hF]; rfl : κx = R.2)) cM_adr
    | succ kf ih =>
      intro i κx hki h3 h1 h2 hp hv hz hF
      refine z_aload_n hC dX5_runText_35 rfl ?_
      refine z_get 0 6 hC bl_X5 (ci := 5) rfl (by decide) rfl bw_489 rfl rfl dX5_runText_36 ?_
      refine z_top (y := nI (xp κx)) (h3) ?_
      refine z_aload_n hC dX5_runText_39 rfl ?_
      refine z_get 0 3 hC bl_X5 (ci := 5) rfl (by decide) rfl bw_432 rfl rfl dX5_runText_40 ?_
      refine z_top (y := nI (t)) (h1) ?_
      refine z_icmp_ge hC 92 dX5_runText_43 (by decide) (fun c43 => ?_) (fun c43 => ?_)
      · replace c43 := (nI_leI (a := t) (b := xp κx) (by omega) (by omega)).mp c43
        refine z_iload_n hC dX5_runText_92 rfl ?_
        exact z_iretd hC hr dX5_runText_93 (Nat.zero_le _) (Nat.zero_le _) (by rw [← hF, xR, if_neg (by omega)]) (congrArg (fun z => cM q z ct) (by rw [← hF, xR, if_neg (by omega)] : κx = R.2)) cM_adr
      · replace c43 := (nI_nleI (a := t) (b := xp κx) (by omega) (by omega)).mp c43
        refine z_aload_n hC dX5_runText_46 rfl ?_
        rw [cM_cX (κ := κx) (p := xp κx) h3 rfl rfl]
        refine z_callV [0, 1, 2, 3] 0 5 hC (c_X5_command l D ct q κx t (xp κx) (κx 0 4) (κx 0 5) h1 ht8 (by omega) (xc (κ 2) t κx) (by rw [h2])) bw_490 bw_491 bw_492 bw_5 bw_493 0 (by decide +kernel) rfl rfl rfl rfl rfl ⟨Nat.le_of_ble_eq_true rfl, Nat.le_of_ble_eq_true rfl⟩ (Nat.le_of_ble_eq_true rfl) ⟨Nat.le_of_ble_eq_true rfl, Nat.le_of_ble_eq_true rfl⟩ rfl dX5_runText_47 ?_
        refine zkd (G := fun v1 w1 => zG p l e _ s m args below meth c D _ _ _ _ _ _ _ (v1.toList ++ _) w1) (w2 := cM q (xk (κ 2) t κx) ct) (cX_all.trans cX_cM) ?_
        obtain ⟨κ6, eκ6⟩ : ∃ zz_, zz_ = (xk (κ 2) t κx) := ⟨_, rfl⟩
        rw [← eκ6]
        refine z_istore_n hC dX5_runText_50 (by decide) rfl ?_
        obtain ⟨hv1, hv2⟩ : ¬ (xc (κ 2) t κx).1 = 32 ∧ ((xc (κ 2) t κx).2.1 = t ∨ ((xc (κ 2) t κx).2.1 < t ∧ (κ 2) (xc (κ 2) t κx).2.1 = 59 ∧ vE (κ 2) t (kf + 1) ((xc (κ 2) t κx).2.1 + 1))) := vE_step ht8 (show xp κx ≤ t by omega) (hv (by omega)) (κx 0 4) (κx 0 5)
        obtain ⟨hl1, hl2, hl3⟩ : xp κx < t ∧ xp κx < (xc (κ 2) t κx).2.1 ∧ (xc (κ 2) t κx).2.1 ≤ t := xC_le hv1
        have hok : okDo κ6 (xc (κ 2) t κx).1 := by rw [eκ6]; exact okDo_c hv1
        have hz1 : zI 0 (100 * kf + 100) κ6 := by rw [eκ6]; exact zI_r1 hz (show x3 _ _ _ _ 1 = _ from x3_1 (by omega))
        refine z_iload_n hC dX5_runText_51 rfl ?_
        refine z_bipush (v := 116) hC dX5_runText_52 (by decide) ?_
        refine z_icmp_ne hC 70 dX5_runText_54 (by decide) (fun c54 => ?_) (fun c54 => ?_)
        · have hnr : ¬ ((xc (κ 2) t κx).1 = 116 ∧ mdCan κ6 (xa κ6) = false) := fun h => c54 h.1
          refine z_aload_n hC dX5_runText_70 rfl ?_
          refine z_iload_n hC dX5_runText_71 rfl ?_
          refine z_callV [0, 1, 2, 3] 0 5 hC (c_X5_does l D ct q κ6 (xc (κ 2) t κx).1 hok (zI_mono hz1 (by omega))) bw_531 bw_532 bw_533 bw_5 bw_534 1 (by decide +kernel) rfl rfl rfl rfl rfl ⟨Nat.le_of_ble_eq_true rfl, Nat.le_of_ble_eq_true rfl⟩ (Nat.le_of_ble_eq_true rfl) ⟨Nat.le_of_ble_eq_true rfl, Nat.le_of_ble_eq_true rfl⟩ rfl dX5_runText_72 ?_
          refine zkd (G := fun v1 w1 => zG p l e _ s m args below meth c D _ _ _ _ _ _ _ (v1.toList ++ _) w1) (w2 := cM q (mdDo κ6 (xc (κ 2) t κx).1) ct) cM_all ?_
          obtain ⟨κ7, eκ7⟩ : ∃ zz_, zz_ = (mdDo κ6 (xc (κ 2) t κx).1) := ⟨_, rfl⟩
          rw [← eκ7]
          refine z_istore_n hC dX5_runText_75 (by decide) rfl ?_
          refine z_iincN (i) hC dX5_runText_76 (by decide) rfl rfl ?_
          have h33 : κ7 0 3 = nI (xc (κ 2) t κx).2.1 := by rw [eκ7, mdDo_r (by omega), eκ6]; rfl
          refine z_aload_n hC dX5_runText_79 rfl ?_
          refine z_dup hC dX5_runText_80 rfl ?_
          refine z_get 0 6 hC bl_X5 (ci := 5) rfl (by decide) rfl bw_489 rfl rfl dX5_runText_81 ?_
          refine z_top (y := nI ((xc (κ 2) t κx).2.1)) (h33) ?_
          refine z_iconst (v := 1) hC dX5_runText_84 (by decide) ?_
          refine z_iaddN ((xc (κ 2) t κx).2.1) (1) hC dX5_runText_85 ?_
          refine z_put (ci := 5) 0 6 hC bl_X5 tyX5_ok nmX5 rfl (by decide) rfl bw_489 rfl rfl rfl rfl (Nat.lt_of_lt_of_le (by decide) (Nat.le_refl 9)) dX5_runText_86 (w2 := cM q (u2 κ7 0 3 (nI ((xc (κ 2) t κx).2.1 + 1))) ct) cM_f3 ?_
          obtain ⟨κ8, eκ8⟩ : ∃ zz_, zz_ = u2 κ7 0 3 (nI ((xc (κ 2) t κx).2.1 + 1)) := ⟨_, rfl⟩
          rw [← eκ8]
          refine z_goto hC 35 dX5_runText_89 (by decide) ?_
          have exp : xp κ8 = (xc (κ 2) t κx).2.1 + 1 := by unfold xp; rw [eκ8, u2_ye rfl rfl, nI_clamp (by omega)]
          have hvn : xp κ8 ≤ t → vE (κ 2) t (kf + 1) (xp κ8) := by
            intro q
            rw [exp] at q ⊢
            rcases hv2 with w | w
            · omega
            · exact w.2.2
          refine z_wk (ls2 := [some (.ref (q 0)), some (.int (nI (i + 1))), none, none]) (ls_s (ls_s (ls_n (ls_n ls_0)))) ?_
          exact ih (i + 1) κ8 (by rw [exp]; omega) (by rw [exp, eκ8, u2_ye rfl rfl]) (by rw [eκ8, u2_no (fun _ => by omega), eκ7, mdDo_r (by omega), eκ6]; exact h1) (by rw [eκ8, u2_ne (by omega), eκ7, mdDo_r (by omega), eκ6]; exact h2) (by rw [exp]; omega) hvn (by rw [eκ8, eκ7]; exact zI_r1 (zI_do hz1 hok hnr) (u2_ne (by omega))) (by subst eκ8; subst eκ7; subst eκ6; rw [← hF, xR, if_pos c43, if_neg hnr])
        · obtain ⟨hxa, hxa10⟩ := okDo_116 hok c54
          refine z_aload_n hC dX5_runText_57 rfl ?_
          refine z_aload_n hC dX5_runText_58 rfl ?_
          refine z_get 0 7 hC bl_X5 (ci := 5) rfl (by decide) rfl bw_494 rfl rfl dX5_runText_59 ?_
          refine z_top (y := nI (xa κ6)) (hxa) ?_
          refine z_callV [0, 1, 2, 3] 0 5 hC (c_X5_canTake l D ct q κ6 (xa κ6) hxa10 (zI_okA hz1 _ hxa10)) bw_274 bw_275 bw_276 bw_5 bw_277 1 (by decide +kernel) rfl rfl rfl rfl rfl ⟨Nat.le_of_ble_eq_true rfl, Nat.le_of_ble_eq_true rfl⟩ (Nat.le_of_ble_eq_true rfl) ⟨Nat.le_of_ble_eq_true rfl, Nat.le_of_ble_eq_true rfl⟩ rfl dX5_runText_62 ?_
          refine zkq (G := fun v1 w1 => zG p l e _ s m args below meth c D _ _ _ _ _ _ _ (v1.toList ++ _) w1) rfl ?_
          refine z_if_ne hC 70 dX5_runText_65 (by decide) (fun c65 => ?_) (fun c65 => ?_)
          · rw [bI_1] at c65
            have hnr : ¬ ((xc (κ 2) t κx).1 = 116 ∧ mdCan κ6 (xa κ6) = false) := fun h => by rw [c65] at h; exact absurd h.2 (by decide)
            refine z_aload_n hC dX5_runText_70 rfl ?_
            refine z_iload_n hC dX5_runText_71 rfl ?_
            refine z_callV [0, 1, 2, 3] 0 5 hC (c_X5_does l D ct q κ6 (xc (κ 2) t κx).1 hok (zI_mono hz1 (by omega))) bw_531 bw_532 bw_533 bw_5 bw_534 1 (by decide +kernel) rfl rfl rfl rfl rfl ⟨Nat.le_of_ble_eq_true rfl, Nat.le_of_ble_eq_true rfl⟩ (Nat.le_of_ble_eq_true rfl) ⟨Nat.le_of_ble_eq_true rfl, Nat.le_of_ble_eq_true rfl⟩ rfl dX5_runText_72 ?_
            refine zkd (G := fun v1 w1 => zG p l e _ s m args below meth c D _ _ _ _ _ _ _ (v1.toList ++ _) w1) (w2 := cM q (mdDo κ6 (xc (κ 2) t κx).1) ct) cM_all ?_
            obtain ⟨κ9, eκ9⟩ : ∃ zz_, zz_ = (mdDo κ6 (xc (κ 2) t κx).1) := ⟨_, rfl⟩
            rw [← eκ9]
            refine z_istore_n hC dX5_runText_75 (by decide) rfl ?_
            refine z_iincN (i) hC dX5_runText_76 (by decide) rfl rfl ?_
            have h33 : κ9 0 3 = nI (xc (κ 2) t κx).2.1 := by rw [eκ9, mdDo_r (by omega), eκ6]; rfl
            refine z_aload_n hC dX5_runText_79 rfl ?_
            refine z_dup hC dX5_runText_80 rfl ?_
            refine z_get 0 6 hC bl_X5 (ci := 5) rfl (by decide) rfl bw_489 rfl rfl dX5_runText_81 ?_
            refine z_top (y := nI ((xc (κ 2) t κx).2.1)) (h33) ?_
            refine z_iconst (v := 1) hC dX5_runText_84 (by decide) ?_
            refine z_iaddN ((xc (κ 2) t κx).2.1) (1) hC dX5_runText_85 ?_
            refine z_put (ci := 5) 0 6 hC bl_X5 tyX5_ok nmX5 rfl (by decide) rfl bw_489 rfl rfl rfl rfl (Nat.lt_of_lt_of_le (by decide) (Nat.le_refl 9)) dX5_runText_86 (w2 := cM q (u2 κ9 0 3 (nI ((xc (κ 2) t κx).2.1 + 1))) ct) cM_f3 ?_
            obtain ⟨κ10, eκ10⟩ : ∃ zz_, zz_ = u2 κ9 0 3 (nI ((xc (κ 2) t κx).2.1 + 1)) := ⟨_, rfl⟩
            rw [← eκ10]
            refine z_goto hC 35 dX5_runText_89 (by decide) ?_
            have exp : xp κ10 = (xc (κ 2) t κx).2.1 + 1 := by unfold xp; rw [eκ10, u2_ye rfl rfl, nI_clamp (by omega)]
            have hvn : xp κ10 ≤ t → vE (κ 2) t (kf + 1) (xp κ10) := by
              intro q
              rw [exp] at q ⊢
              rcases hv2 with w | w
              · omega
              · exact w.2.2
            refine z_wk (ls2 := [some (.ref (q 0)), some (.int (nI (i + 1))), none, none]) (ls_s (ls_s (ls_n (ls_n ls_0)))) ?_
            exact ih (i + 1) κ10 (by rw [exp]; omega) (by rw [exp, eκ10, u2_ye rfl rfl]) (by rw [eκ10, u2_no (fun _ => by omega), eκ9, mdDo_r (by omega), eκ6]; exact h1) (by rw [eκ10, u2_ne (by omega), eκ9, mdDo_r (by omega), eκ6]; exact h2) (by rw [exp]; omega) hvn (by rw [eκ10, eκ9]; exact zI_r1 (zI_do hz1 hok hnr) (u2_ne (by omega))) (by subst eκ10; subst eκ9; subst eκ6; rw [← hF, xR, if_pos c43, if_neg hnr])
          · rw [bI_0] at c65
            refine z_iload_n hC dX5_runText_68 rfl ?_
            exact z_iretd hC hr dX5_runText_69 (Nat.zero_le _) (Nat.zero_le _) (by subst eκ6; rw [← hF, xR, if_pos c43, if_pos ⟨c54, c65⟩]) (by subst eκ6; rw [← hF, xR, if_pos c43, if_pos ⟨c54, c65⟩]) cM_adr
  have e30 : κ5 0 3 = nI 0 := by rw [eκ5, u2_ye rfl rfl]; rfl
  have ep0 : xp κ5 = 0 := by unfold xp; rw [e30, nI_clamp (by decide)]
  exact loop35 80 0 κ5 (Nat.le_add_right _ _) (by rw [ep0]; exact e30) (by subst eκ5; subst eκ4; subst eκ2; subst eκ1; rw [u2_no (fun _ => by omega), mdSave_0 _ _ _ (by omega), u2_no (fun _ => by omega)]; exact ht) (by subst eκ5; subst eκ4; subst eκ2; subst eκ1; rw [u2_ne (by omega), mdSave_r (by omega) (by omega), u2_ne (by omega)]; rfl) (by rw [ep0]; omega) (fun _ => by rw [ep0]; exact (xE_ind (κ 2) t 81 0 0 0 (κ 0 4) (κ 0 5)).trans hv0) (by subst eκ5; subst eκ4; subst eκ2; subst eκ1; exact hz0) (by subst eκ5; subst eκ4; subst eκ2; subst eκ1; exact hR)

set_option maxRecDepth 100000 in
set_option maxHeartbeats 1000000 in
theorem c_X5_runText_no1 (l : Launch) (D : va_G) (ct : Nat → ClassId) (q : Nat → Nat) (κ : Nat → Nat → Int32) (t : Nat) (ht : κ 0 1 = nI t) (ht8 : t ≤ 80) (hv0 : ¬ (mdErr κ t).1 = -1) : zT l D ct yX5_runText cX5_runText 4 (some .int) 10 266 0 0 [.ref (q 0)] (cM q κ ct) (zd (some (.int 0)) (cM q (u2 (mdEr κ t) 0 2 1) ct)) := by
  refine zT_of ([some (.ref (q 0)), none, none, none]) (by decide +kernel) rfl (Nat.le_of_ble_eq_true rfl) ?_
  intro p e s m args below meth c hC hr hnm
  refine z_aload_n hC dX5_runText_0 rfl ?_
  refine z_aload_n hC dX5_runText_1 rfl ?_
  refine z_callV [0, 1, 2, 3] 0 5 hC (c_X5_errorM l D ct q κ t ht ht8) bw_485 bw_486 bw_487 bw_5 bw_488 0 (by decide +kernel) rfl rfl rfl rfl rfl ⟨Nat.le_of_ble_eq_true rfl, Nat.le_of_ble_eq_true rfl⟩ (Nat.le_of_ble_eq_true rfl) ⟨Nat.le_of_ble_eq_true rfl, Nat.le_of_ble_eq_true rfl⟩ rfl dX5_runText_2 ?_
  refine zkd (G := fun v1 w1 => zG p l e _ s m args below meth c D _ _ _ _ _ _ _ (v1.toList ++ _) w1) (w2 := cM q (mdEr κ t) ct) cM_all ?_
  obtain ⟨κ1, eκ1⟩ : ∃ zz_, zz_ = (mdEr κ t) := ⟨_, rfl⟩
  rw [← eκ1]
  refine z_iconst (v := (-1)) hC dX5_runText_5 (by decide) ?_
  refine z_icmp_ne hC 13 dX5_runText_6 (by decide) (fun c6 => ?_) (fun c6 => (hv0 c6).elim)
  refine z_iconst (v := 0) hC dX5_runText_13 (by decide) ?_
  refine z_iconst (v := 1) hC dX5_runText_14 (by decide) ?_
  refine z_iconst (v := 1) hC dX5_runText_15 (by decide) ?_
  refine z_callV [0, 1, 2, 3] 0 5 hC (c_X5_goes l D ct q κ1 0 1 1 1 rfl) bw_143 bw_144 bw_145 bw_5 bw_146 3 (by decide +kernel) rfl rfl rfl rfl rfl ⟨Nat.le_of_ble_eq_true rfl, Nat.le_of_ble_eq_true rfl⟩ (Nat.le_of_ble_eq_true rfl) ⟨Nat.le_of_ble_eq_true rfl, Nat.le_of_ble_eq_true rfl⟩ rfl dX5_runText_16 ?_
  refine zkd (G := fun v1 w1 => zG p l e _ s m args below meth c D _ _ _ _ _ _ _ (v1.toList ++ _) w1) (w2 := cM q (u2 κ1 0 2 1) ct) cM_all ?_
  obtain ⟨κ2, eκ2⟩ : ∃ zz_, zz_ = (u2 κ1 0 2 1) := ⟨_, rfl⟩
  rw [← eκ2]
  refine z_top (y := 0) (by decide) ?_
  refine z_if_ne hC 24 dX5_runText_19 (by decide) (fun cn3 => absurd cn3 (by decide)) (fun cn3 => ?_)
  refine z_iconst (v := 0) hC dX5_runText_22 (by decide) ?_
  exact z_iretd hC hr dX5_runText_23 (Nat.zero_le _) (Nat.zero_le _) (by subst eκ2; subst eκ1; rfl) (by subst eκ2; subst eκ1; rfl) cM_adr

def mdInit1 (i : Nat) (κ : Nat → Nat → Int32) : Nat → Nat → Int32 := u2 (u2 κ 1 (0 + 20 + 7 * i + 1) (-1)) 1 (0 + 20 + 7 * i + 2) (if i = 0 then 0 else -1)
def mdInit : Nat → Nat → Int32 := kfor mdInit1 10 0 (u2 (u2 msZero 1 10 1023) 1 11 2)

set_option maxRecDepth 100000 in
set_option maxHeartbeats 1000000 in
theorem c_X5_init (l : Launch) (D : va_G) (ct : Nat → ClassId) (a : Nat) : zT l D ct yX5_init cX5_init 2 none 1 25 3 5610 [.ref a] ([(a, .inr (5, [.null, .int 0, .null, .int 0, .int 0, .null, .int 0, .int 0, .int 0]))]) (zn a (fun q => cM q mdInit ct)) := by
  refine zT_of ([some (.ref a), none]) (by decide +kernel) rfl (Nat.le_of_ble_eq_true rfl) ?_
  intro p e s m args below meth c hC hr hnm
  refine z_aload_n hC dX5_init_0 rfl ?_
  refine z_objInit hC bw_66 dX5_init_1 (Nat.le_of_ble_eq_true rfl) (Nat.le_of_ble_eq_true rfl) ?_
  refine z_aload_n hC dX5_init_4 rfl ?_
  refine z_sipush (v := 5520) hC dX5_init_5 (by decide) ?_
  refine z_newa (atype := .int) (a0 := (5520, .inl (fun _ => 0))) 0 5520 hC bw_32 rfl (by intro C hC2; cases hC2) rfl (fun cA => rfl) (by decide) (by decide) (by decide) (Nat.le_of_ble_eq_true rfl) (Nat.le_of_ble_eq_true rfl) dX5_init_8 (fun q8 => ?_)
  refine zG_w (w2 := [(a, .inr (5, [.null, .int 0, .null, .int 0, .int 0, .null, .int 0, .int 0, .int 0])), (q8, .inl (ct 0, 5520, .inl (fun _ => 0)))]) rfl ?_
  refine z_putF (ci := 5) 0 0 hC bl_X5 tyX5_ok nmX5 rfl (by decide) rfl bw_67 hnm rfl rfl rfl rfl rfl (Nat.le_of_ble_eq_true rfl) dX5_init_10 (w2 := [(a, .inr (5, [.ref q8, .int 0, .null, .int 0, .int 0, .null, .int 0, .int 0, .int 0])), (q8, .inl (ct 0, 5520, .inl (fun _ => 0)))]) rfl ?_
  refine z_aload_n hC dX5_init_13 rfl ?_
  refine z_bipush (v := 80) hC dX5_init_14 (by decide) ?_
  refine z_newa (atype := .char) (a0 := (80, .inl (fun _ => 0))) 2 80 hC bw_61 rfl (by intro C hC2; cases hC2) rfl (fun cA => rfl) (by decide) (by decide) (by decide) (Nat.le_of_ble_eq_true rfl) (Nat.le_of_ble_eq_true rfl) dX5_init_16 (fun q16 => ?_)
  refine zG_w (w2 := [(a, .inr (5, [.ref q8, .int 0, .null, .int 0, .int 0, .null, .int 0, .int 0, .int 0])), (q8, .inl (ct 0, 5520, .inl (fun _ => 0))), (q16, .inl (ct 2, 80, .inl (fun _ => 0)))]) rfl ?_
  refine z_putF (ci := 5) 0 2 hC bl_X5 tyX5_ok nmX5 rfl (by decide) rfl bw_68 hnm rfl rfl rfl rfl rfl (Nat.le_of_ble_eq_true rfl) dX5_init_18 (w2 := [(a, .inr (5, [.ref q8, .int 0, .ref q16, .int 0, .int 0, .null, .int 0, .int 0, .int 0])), (q8, .inl (ct 0, 5520, .inl (fun _ => 0))), (q16, .inl (ct 2, 80, .inl (fun _ => 0)))]) rfl ?_
  refine z_aload_n hC dX5_init_21 rfl ?_
  refine z_bipush (v := 10) hC dX5_init_22 (by decide) ?_
  refine z_newa (atype := .int) (a0 := (10, .inl (fun _ => 0))) 0 10 hC bw_32 rfl (by intro C hC2; cases hC2) rfl (fun cA => rfl) (by decide) (by decide) (by decide) (Nat.le_of_ble_eq_true rfl) (Nat.le_of_ble_eq_true rfl) dX5_init_24 (fun q24 => ?_)
  refine zG_w (w2 := [(a, .inr (5, [.ref q8, .int 0, .ref q16, .int 0, .int 0, .null, .int 0, .int 0, .int 0])), (q8, .inl (ct 0, 5520, .inl (fun _ => 0))), (q16, .inl (ct 2, 80, .inl (fun _ => 0))), (q24, .inl (ct 0, 10, .inl (fun _ => 0)))]) rfl ?_
  refine z_putF (ci := 5) 0 5 hC bl_X5 tyX5_ok nmX5 rfl (by decide) rfl bw_69 hnm rfl rfl rfl rfl rfl (Nat.le_of_ble_eq_true rfl) dX5_init_26 (w2 := [(a, .inr (5, [.ref q8, .int 0, .ref q16, .int 0, .int 0, .ref q24, .int 0, .int 0, .int 0])), (q8, .inl (ct 0, 5520, .inl (fun _ => 0))), (q16, .inl (ct 2, 80, .inl (fun _ => 0))), (q24, .inl (ct 0, 10, .inl (fun _ => 0)))]) rfl ?_
  obtain ⟨κz, eκz⟩ : ∃ z, z = msZero := ⟨_, rfl⟩
  refine zG_w (w2 := cM (fun i => ([a, q8, q16, q24] : List Nat).getD i 0) κz ct) (by rw [eκz]; rfl) ?_
  refine z_aload_n hC dX5_init_29 rfl ?_
  refine z_get 0 0 hC bl_X5 (ci := 5) rfl (by decide) rfl bw_67 rfl rfl dX5_init_30 ?_
  refine z_bipush (v := 10) hC dX5_init_33 (by decide) ?_
  refine z_sipush (v := 1023) hC dX5_init_35 (by decide) ?_
  refine z_iastN (10) 1 0 hC rfl rfl (by decide) (by omega) dX5_init_38 (w2 := cM (fun i => ([a, q8, q16, q24] : List Nat).getD i 0) (u2 κz 1 10 1023) ct) cM_a1 ?_
  obtain ⟨κ1, eκ1⟩ : ∃ zz_, zz_ = u2 κz 1 10 1023 := ⟨_, rfl⟩
  rw [← eκ1]
  refine z_aload_n hC dX5_init_39 rfl ?_
  refine z_get 0 0 hC bl_X5 (ci := 5) rfl (by decide) rfl bw_67 rfl rfl dX5_init_40 ?_
  refine z_bipush (v := 11) hC dX5_init_43 (by decide) ?_
  refine z_iconst (v := 2) hC dX5_init_45 (by decide) ?_
  refine z_iastN (11) 1 0 hC rfl rfl (by decide) (by omega) dX5_init_46 (w2 := cM (fun i => ([a, q8, q16, q24] : List Nat).getD i 0) (u2 κ1 1 11 2) ct) cM_a1 ?_
  obtain ⟨κ2, eκ2⟩ : ∃ zz_, zz_ = u2 κ1 1 11 2 := ⟨_, rfl⟩
  rw [← eκ2]
  refine z_iconst (v := 0) hC dX5_init_47 (by decide) ?_
  refine z_istore_n hC dX5_init_48 (by decide) rfl ?_
  have loop49 : ∀ (kf i : Nat) (κx : Nat → Nat → Int32) (hki : kf + i = 10) (hF : kfor mdInit1 kf i κx = mdInit), zG p l e { frames := 1, cells := 3, slots := 5610, locals := 25 } s m args below meth c D (va_A ([(a, .inr (5, [.null, .int 0, .null, .int 0, .int 0, .null, .int 0, .int 0, .int 0]))]) s.heap.size) 2 (MQ below (zQ D ct ([(a, .inr (5, [.null, .int 0, .null, .int 0, .int 0, .null, .int 0, .int 0, .int 0]))]) s.heap.size (zn a (fun q => cM q mdInit ct))) args s 3 5610 (va_A ([(a, .inr (5, [.null, .int 0, .null, .int 0, .int 0, .null, .int 0, .int 0, .int 0]))]) s.heap.size)) 3 5610 49 [some (.ref a), some (.int (nI i))] [] (cM (fun i => ([a, q8, q16, q24] : List Nat).getD i 0) κx ct) := by
    intro kf
    induction kf with
    | zero =>
      intro i κx hki hF
      refine z_iload_n hC dX5_init_49 rfl ?_
      refine z_bipush (v := 10) hC dX5_init_50 (by decide) ?_
      refine z_icmp_ge hC 95 dX5_init_52 (by decide) (fun c52 => ?_) (fun c52 => (by have hh := (nI_nleI (a := 10) (b := i) (by omega) (by omega)).mp c52; omega))
      replace c52 := (nI_leI (a := 10) (b := i) (by omega) (by omega)).mp c52
      refine zG_w (w2 := cM (fun i => ([a, q8, q16, q24] : List Nat).getD i 0) mdInit ct) (congrArg (fun z => cM (fun i => ([a, q8, q16, q24] : List Nat).getD i 0) z ct) hF) ?_
      exact z_vret hC hr dX5_init_95 (Nat.le_refl _) (Nat.le_refl _) (wa := (cM (fun i => ([a, q8, q16, q24] : List Nat).getD i 0) mdInit ct).take 1) (wb := (cM (fun i => ([a, q8, q16, q24] : List Nat).getD i 0) mdInit ct).drop 1) ⟨rfl, (fun i => ([a, q8, q16, q24] : List Nat).getD i 0), rfl, rfl⟩ rfl rfl
    | succ kf ih =>
      intro i κx hki hF
      refine z_iload_n hC dX5_init_49 rfl ?_
      refine z_bipush (v := 10) hC dX5_init_50 (by decide) ?_
      refine z_icmp_ge hC 95 dX5_init_52 (by decide) (fun c52 => (by have hh := (nI_leI (a := 10) (b := i) (by omega) (by omega)).mp c52; omega)) (fun c52 => ?_)
      replace c52 := (nI_nleI (a := 10) (b := i) (by omega) (by omega)).mp c52
      refine z_aload_n hC dX5_init_55 rfl ?_
      refine z_get 0 0 hC bl_X5 (ci := 5) rfl (by decide) rfl bw_67 rfl rfl dX5_init_56 ?_
      refine z_iconst (v := 0) hC dX5_init_59 (by decide) ?_
      refine z_iload_n hC dX5_init_60 rfl ?_
      refine z_callS [] hC (c_X5_at l D ct 0 i) bw_70 bw_71 bw_5 bw_72 2 (by decide +kernel) rfl rfl rfl ⟨Nat.le_of_ble_eq_true rfl, Nat.le_of_ble_eq_true rfl⟩ (Nat.le_of_ble_eq_true rfl) ⟨Nat.le_of_ble_eq_true rfl, Nat.le_of_ble_eq_true rfl⟩ rfl dX5_init_61 ?_
      refine zkq (G := fun v1 w1 => zG p l e _ s m args below meth c D _ _ _ _ _ _ _ (v1.toList ++ _) w1) rfl ?_
      refine z_iconst (v := 1) hC dX5_init_64 (by decide) ?_
      refine z_iaddN (0 + 20 + 7 * i) (1) hC dX5_init_65 ?_
      refine z_iconst (v := (-1)) hC dX5_init_66 (by decide) ?_
      refine z_iastN (0 + 20 + 7 * i + 1) 1 0 hC rfl rfl (by decide) (by omega) dX5_init_67 (w2 := cM (fun i => ([a, q8, q16, q24] : List Nat).getD i 0) (u2 κx 1 (0 + 20 + 7 * i + 1) (-1)) ct) cM_a1 ?_
      obtain ⟨κ3, eκ3⟩ : ∃ zz_, zz_ = u2 κx 1 (0 + 20 + 7 * i + 1) (-1) := ⟨_, rfl⟩
      rw [← eκ3]
      refine z_aload_n hC dX5_init_68 rfl ?_
      refine z_get 0 0 hC bl_X5 (ci := 5) rfl (by decide) rfl bw_67 rfl rfl dX5_init_69 ?_
      refine z_iconst (v := 0) hC dX5_init_72 (by decide) ?_
      refine z_iload_n hC dX5_init_73 rfl ?_
      refine z_callS [] hC (c_X5_at l D ct 0 i) bw_70 bw_71 bw_5 bw_72 2 (by decide +kernel) rfl rfl rfl ⟨Nat.le_of_ble_eq_true rfl, Nat.le_of_ble_eq_true rfl⟩ (Nat.le_of_ble_eq_true rfl) ⟨Nat.le_of_ble_eq_true rfl, Nat.le_of_ble_eq_true rfl⟩ rfl dX5_init_74 ?_
      refine zkq (G := fun v1 w1 => zG p l e _ s m args below meth c D _ _ _ _ _ _ _ (v1.toList ++ _) w1) rfl ?_
      refine z_iconst (v := 2) hC dX5_init_77 (by decide) ?_
      refine z_iaddN (0 + 20 + 7 * i) (2) hC dX5_init_78 ?_
      refine z_iload_n hC dX5_init_79 rfl ?_
      refine z_if_ne hC 87 dX5_init_80 (by decide) (fun c80 => ?_) (fun c80 => ?_)
      · replace c80 := (nI_neI (a := i) (b := 0) (by omega) (by omega)).mp c80
        refine z_iconst (v := (-1)) hC dX5_init_87 (by decide) ?_
        refine z_iastN (0 + 20 + 7 * i + 2) 1 0 hC rfl rfl (by decide) (by omega) dX5_init_88 (w2 := cM (fun i => ([a, q8, q16, q24] : List Nat).getD i 0) (u2 κ3 1 (0 + 20 + 7 * i + 2) (-1)) ct) cM_a1 ?_
        obtain ⟨κ4, eκ4⟩ : ∃ zz_, zz_ = u2 κ3 1 (0 + 20 + 7 * i + 2) (-1) := ⟨_, rfl⟩
        rw [← eκ4]
        refine z_iincN (i) hC dX5_init_89 (by decide) rfl rfl ?_
        refine z_goto hC 49 dX5_init_92 (by decide) ?_
        exact ih (i + 1) κ4 (by omega) (by rw [← hF, kfor_s]; congr 1; subst eκ4; subst eκ3; unfold mdInit1; rw [if_neg c80])
      · replace c80 := (nI_eq (a := i) (b := 0) (by omega) (by omega)).mp c80
        refine z_iconst (v := 0) hC dX5_init_83 (by decide) ?_
        refine z_goto hC 88 dX5_init_84 (by decide) ?_
        refine z_iastN (0 + 20 + 7 * i + 2) 1 0 hC rfl rfl (by decide) (by omega) dX5_init_88 (w2 := cM (fun i => ([a, q8, q16, q24] : List Nat).getD i 0) (u2 κ3 1 (0 + 20 + 7 * i + 2) 0) ct) cM_a1 ?_
        obtain ⟨κ5, eκ5⟩ : ∃ zz_, zz_ = u2 κ3 1 (0 + 20 + 7 * i + 2) 0 := ⟨_, rfl⟩
        rw [← eκ5]
        refine z_iincN (i) hC dX5_init_89 (by decide) rfl rfl ?_
        refine z_goto hC 49 dX5_init_92 (by decide) ?_
        exact ih (i + 1) κ5 (by omega) (by rw [← hF, kfor_s]; congr 1; subst eκ5; subst eκ3; unfold mdInit1; rw [if_pos c80])
  exact loop49 10 0 κ2 rfl (by rw [eκ2, eκ1, eκz, mdInit])
