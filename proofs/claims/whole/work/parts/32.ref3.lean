set_option maxRecDepth 100000 in
set_option maxHeartbeats 1000000 in
theorem c_X5_runs (l : Launch) (D : va_G) (ct : Nat → ClassId) (q : Nat → Nat) (κ : Nat → Nat → Int32) (b k0 : Nat) (hb : b ≤ 4830) (hk : k0 < 2 ^ 31) (Inv : Nat → (Nat → Nat → Int32) → Prop) (hI : ∀ j κ, Inv (j + 1) κ → okSlot κ b ∧ Inv j (mdSlot κ b)) (h0 : Inv k0 κ) : zT l D ct yX5_runs cX5_runs 5 (some .int) 8 218 0 0 [.ref (q 0), .int (nI b), .int (nI k0)] (cM q κ ct) (zd (some (.int (mdRunR κ b k0))) (cM q (mdRun κ b k0) ct)) := by
  refine zT_of ([some (.ref (q 0)), some (.int (nI b)), some (.int (nI k0)), none, none]) (by decide +kernel) rfl (Nat.le_of_ble_eq_true rfl) ?_
  intro p e s m args below meth c hC hr hnm
  refine z_aload_n hC dX5_runs_0 rfl ?_
  refine z_get 0 0 hC bl_X5 (ci := 5) rfl (by decide) rfl bw_67 rfl rfl dX5_runs_1 ?_
  refine z_iload_n hC dX5_runs_4 rfl ?_
  refine z_bipush (v := 19) hC dX5_runs_5 (by decide) ?_
  refine z_iaddN (b) (19) hC dX5_runs_7 ?_
  refine z_ialdN (b + 19) 1 0 hC rfl rfl (by decide) (by omega) dX5_runs_8 ?_
  refine z_istore_n hC dX5_runs_9 (by decide) rfl ?_
  refine z_iconst (v := 0) hC dX5_runs_10 (by decide) ?_
  refine z_istore hC dX5_runs_11 (by decide) rfl ?_
  have loop13 : ∀ (kf k : Nat) (κx : Nat → Nat → Int32) (hki : kf + k = k0) (hIx : Inv kf κx) (hF : kfor (fun _ κ => mdSlot κ b) kf k κx = mdRun κ b k0), zG p l e { frames := 8, cells := 0, slots := 0, locals := 218 } s m args below meth c D (va_A (cM q κ ct) s.heap.size) 5 (MQ below (zQ D ct (cM q κ ct) s.heap.size (zd (some (.int (mdRunR κ b k0))) (cM q (mdRun κ b k0) ct))) args s 0 0 (va_A (cM q κ ct) s.heap.size)) 0 0 13 [some (.ref (q 0)), some (.int (nI b)), some (.int (nI k0)), some (.int (κ 1 (b + 19))), some (.int (nI k))] [] (cM q κx ct) := by
    intro kf
    induction kf with
    | zero =>
      intro k κx hki hIx hF
      refine z_iload hC dX5_runs_13 rfl ?_
      refine z_iload_n hC dX5_runs_15 rfl ?_
      refine z_icmp_ge hC 30 dX5_runs_16 (by decide) (fun c16 => ?_) (fun c16 => (by have hh := (nI_nleI (a := k0) (b := k) (by omega) (by omega)).mp c16; omega))
      replace c16 := (nI_leI (a := k0) (b := k) (by omega) (by omega)).mp c16
      refine z_aload_n hC dX5_runs_30 rfl ?_
      refine z_get 0 0 hC bl_X5 (ci := 5) rfl (by decide) rfl bw_67 rfl rfl dX5_runs_31 ?_
      refine z_iload_n hC dX5_runs_34 rfl ?_
      refine z_bipush (v := 19) hC dX5_runs_35 (by decide) ?_
      refine z_iaddN (b) (19) hC dX5_runs_37 ?_
      refine z_ialdN (b + 19) 1 0 hC rfl rfl (by decide) (by omega) dX5_runs_38 ?_
      refine z_iload_n hC dX5_runs_39 rfl ?_
      refine z_isub hC dX5_runs_40 ?_
      exact z_iretd hC hr dX5_runs_41 (Nat.zero_le _) (Nat.zero_le _) (congrArg (fun z : Nat → Nat → Int32 => z 1 (b + 19) - κ 1 (b + 19)) hF) (congrArg (fun z => cM q z ct) hF) cM_adr
    | succ kf ih =>
      intro k κx hki hIx hF
      refine z_iload hC dX5_runs_13 rfl ?_
      refine z_iload_n hC dX5_runs_15 rfl ?_
      refine z_icmp_ge hC 30 dX5_runs_16 (by decide) (fun c16 => (by have hh := (nI_leI (a := k0) (b := k) (by omega) (by omega)).mp c16; omega)) (fun c16 => ?_)
      replace c16 := (nI_nleI (a := k0) (b := k) (by omega) (by omega)).mp c16
      refine z_aload_n hC dX5_runs_19 rfl ?_
      refine z_iload_n hC dX5_runs_20 rfl ?_
      refine z_callV [0, 1, 2, 3] 0 5 hC (c_X5_slot l D ct q κx b hb (hI _ _ hIx).1) bw_355 bw_356 bw_357 bw_5 bw_358 1 (by decide +kernel) rfl rfl rfl rfl rfl ⟨Nat.le_of_ble_eq_true rfl, Nat.le_of_ble_eq_true rfl⟩ (Nat.le_of_ble_eq_true rfl) ⟨Nat.le_of_ble_eq_true rfl, Nat.le_of_ble_eq_true rfl⟩ rfl dX5_runs_21 ?_
      refine zkd (G := fun v1 w1 => zG p l e _ s m args below meth c D _ _ _ _ _ _ _ (v1.toList ++ _) w1) (w2 := cM q (mdSlot κx b) ct) cM_all ?_
      obtain ⟨κ1, eκ1⟩ : ∃ zz_, zz_ = (mdSlot κx b) := ⟨_, rfl⟩
      rw [← eκ1]
      refine z_iincN (k) hC dX5_runs_24 (by decide) rfl rfl ?_
      refine z_goto hC 13 dX5_runs_27 (by decide) ?_
      exact ih (k + 1) κ1 (by omega) (by rw [eκ1]; exact (hI _ _ hIx).2) (by rw [← hF, eκ1]; rfl)
  exact loop13 k0 0 κ rfl h0 rfl

set_option maxRecDepth 100000 in
set_option maxHeartbeats 1000000 in
theorem c_X5_thrown (l : Launch) (D : va_G) (ct : Nat → ClassId) (q : Nat → Nat) (κ : Nat → Nat → Int32) : zT l D ct yX5_thrown cX5_thrown 1 (some .int) 0 0 0 0 [.ref (q 0)] (cM q κ ct) (zd (some (.int (κ 0 2))) (cM q κ ct)) := by
  refine zT_of ([some (.ref (q 0))]) (by decide +kernel) rfl (Nat.le_of_ble_eq_true rfl) ?_
  intro p e s m args below meth c hC hr hnm
  refine z_aload_n hC dX5_thrown_0 rfl ?_
  refine z_get 0 4 hC bl_X5 (ci := 5) rfl (by decide) rfl bw_147 rfl rfl dX5_thrown_1 ?_
  exact z_iretd hC hr dX5_thrown_4 (Nat.zero_le _) (Nat.zero_le _) (rfl) (by first | rfl | (simp [*]; done)) cM_adr

set_option maxRecDepth 100000 in
set_option maxHeartbeats 1000000 in
theorem c_X5_in (l : Launch) (D : va_G) (ct : Nat → ClassId) (x lo hi : Int32) : zT l D ct yX5_in cX5_in 3 (some .boolean) 0 0 0 0 [.int x, .int lo, .int hi] (([] : va_W)) (zd (some (.int (bI (mIn x lo hi)))) (([] : va_W))) := by
  refine zT_of ([some (.int x), some (.int lo), some (.int hi)]) (by decide +kernel) rfl (Nat.le_of_ble_eq_true rfl) ?_
  intro p e s m args below meth c hC hr hnm
  refine z_iload_n hC dX5_in_0 rfl ?_
  refine z_iload_n hC dX5_in_1 rfl ?_
  refine z_icmp_lt hC 14 dX5_in_2 (by decide) (fun c2 => ?_) (fun c2 => ?_)
  · refine z_iconst (v := 0) hC dX5_in_14 (by decide) ?_
    exact z_zretd hC hr (rfl) dX5_in_15 (Nat.zero_le _) (Nat.zero_le _) (by clear hC hr hnm; first | rfl | (simp [mIn, bI, c2, i_nle.mpr c2, *]; done) | (simp_all [mIn, bI, c2, i_nle.mpr c2]; done)) (by first | rfl | (simp [mIn, bI, c2, i_nle.mpr c2, *]; done)) rfl
  · refine z_iload_n hC dX5_in_5 rfl ?_
    refine z_iload_n hC dX5_in_6 rfl ?_
    refine z_icmp_gt hC 14 dX5_in_7 (by decide) (fun c7 => ?_) (fun c7 => ?_)
    · refine z_iconst (v := 0) hC dX5_in_14 (by decide) ?_
      exact z_zretd hC hr (rfl) dX5_in_15 (Nat.zero_le _) (Nat.zero_le _) (by clear hC hr hnm; first | rfl | (simp [mIn, bI, c2, c7, i_nlt.mp c2, i_nle.mpr c7, *]; done) | (simp_all [mIn, bI, c2, c7, i_nlt.mp c2, i_nle.mpr c7]; done)) (by first | rfl | (simp [mIn, bI, c2, c7, i_nlt.mp c2, i_nle.mpr c7, *]; done)) rfl
    · refine z_iconst (v := 1) hC dX5_in_10 (by decide) ?_
      refine z_goto hC 15 dX5_in_11 (by decide) ?_
      exact z_zretd hC hr (rfl) dX5_in_15 (Nat.zero_le _) (Nat.zero_le _) (by clear hC hr hnm; first | rfl | (simp [mIn, bI, c2, c7, i_nlt.mp c2, i_nlt.mp c7, *]; done) | (simp_all [mIn, bI, c2, c7, i_nlt.mp c2, i_nlt.mp c7]; done)) (by first | rfl | (simp [mIn, bI, c2, c7, i_nlt.mp c2, i_nlt.mp c7, *]; done)) rfl

set_option maxRecDepth 100000 in
set_option maxHeartbeats 1000000 in
theorem c_X5_isNode (l : Launch) (D : va_G) (ct : Nat → ClassId) (n : Int32) : zT l D ct yX5_isNode cX5_isNode 1 (some .boolean) 1 22 0 0 [.int n] (([] : va_W)) (zd (some (.int (bI (mNode n)))) (([] : va_W))) := by
  refine zT_of ([some (.int n)]) (by decide +kernel) rfl (Nat.le_of_ble_eq_true rfl) ?_
  intro p e s m args below meth c hC hr hnm
  refine z_iload_n hC dX5_isNode_0 rfl ?_
  refine z_iconst (v := 0) hC dX5_isNode_1 (by decide) ?_
  refine z_bipush (v := 9) hC dX5_isNode_2 (by decide) ?_
  refine z_callS [] hC (c_X5_in l D ct n 0 9) bw_140 bw_141 bw_5 bw_142 3 (by decide +kernel) rfl rfl rfl ⟨Nat.le_of_ble_eq_true rfl, Nat.le_of_ble_eq_true rfl⟩ (Nat.le_of_ble_eq_true rfl) ⟨Nat.le_of_ble_eq_true rfl, Nat.le_of_ble_eq_true rfl⟩ rfl dX5_isNode_4 ?_
  refine zkq (G := fun v1 w1 => zG p l e _ s m args below meth c D _ _ _ _ _ _ _ (v1.toList ++ _) w1) rfl ?_
  exact z_zretd hC hr (bI_nar _) dX5_isNode_7 (Nat.zero_le _) (Nat.zero_le _) (by rw [mIn_node]) (by first | rfl | (simp [*]; done)) rfl

set_option maxRecDepth 100000 in
set_option maxHeartbeats 1000000 in
theorem c_X5_isMeter (l : Launch) (D : va_G) (ct : Nat → ClassId) (n : Int32) : zT l D ct yX5_isMeter cX5_isMeter 1 (some .boolean) 1 22 0 0 [.int n] (([] : va_W)) (zd (some (.int (bI (mMeter n)))) (([] : va_W))) := by
  refine zT_of ([some (.int n)]) (by decide +kernel) rfl (Nat.le_of_ble_eq_true rfl) ?_
  intro p e s m args below meth c hC hr hnm
  refine z_iload_n hC dX5_isMeter_0 rfl ?_
  refine z_iconst (v := 1) hC dX5_isMeter_1 (by decide) ?_
  refine z_bipush (v := 9) hC dX5_isMeter_2 (by decide) ?_
  refine z_callS [] hC (c_X5_in l D ct n 1 9) bw_140 bw_141 bw_5 bw_142 3 (by decide +kernel) rfl rfl rfl ⟨Nat.le_of_ble_eq_true rfl, Nat.le_of_ble_eq_true rfl⟩ (Nat.le_of_ble_eq_true rfl) ⟨Nat.le_of_ble_eq_true rfl, Nat.le_of_ble_eq_true rfl⟩ rfl dX5_isMeter_4 ?_
  refine zkq (G := fun v1 w1 => zG p l e _ s m args below meth c D _ _ _ _ _ _ _ (v1.toList ++ _) w1) rfl ?_
  exact z_zretd hC hr (bI_nar _) dX5_isMeter_7 (Nat.zero_le _) (Nat.zero_le _) (by rw [mIn_meter]) (by first | rfl | (simp [*]; done)) rfl

set_option maxRecDepth 100000 in
set_option maxHeartbeats 1000000 in
theorem c_X5_goes (l : Launch) (D : va_G) (ct : Nat → ClassId) (q : Nat → Nat) (κ : Nat → Nat → Int32) (a0 b0 c0 G : Int32) (hG : mdGo a0 b0 c0 = G) : zT l D ct yX5_goes cX5_goes 4 (some .boolean) 0 0 0 0 [.ref (q 0), .int a0, .int b0, .int c0] (cM q κ ct) (zd (some (.int (bI (decide (G = 0))))) (cM q (u2 κ 0 2 G) ct)) := by
  refine zT_of ([some (.ref (q 0)), some (.int a0), some (.int b0), some (.int c0)]) (by decide +kernel) rfl (Nat.le_of_ble_eq_true rfl) ?_
  intro p e s m args below meth c hC hr hnm
  refine z_aload_n hC dX5_goes_0 rfl ?_
  refine z_iload_n hC dX5_goes_1 rfl ?_
  refine z_if_ne hC 9 dX5_goes_2 (by decide) (fun c2 => ?_) (fun c2 => ?_)
  · refine z_iload_n hC dX5_goes_9 rfl ?_
    refine z_if_ne hC 17 dX5_goes_10 (by decide) (fun c10 => ?_) (fun c10 => ?_)
    · refine z_iload_n hC dX5_goes_17 rfl ?_
      refine z_if_ne hC 25 dX5_goes_18 (by decide) (fun c18 => ?_) (fun c18 => ?_)
      · refine z_iconst (v := 0) hC dX5_goes_25 (by decide) ?_
        refine z_put (ci := 5) 0 4 hC bl_X5 tyX5_ok nmX5 rfl (by decide) rfl bw_147 rfl rfl rfl rfl (Nat.lt_of_lt_of_le (by decide) (Nat.le_refl 9)) dX5_goes_26 (w2 := cM q (u2 κ 0 2 0) ct) cM_f2 ?_
        obtain ⟨κ1, eκ1⟩ : ∃ zz_, zz_ = u2 κ 0 2 0 := ⟨_, rfl⟩
        rw [← eκ1]
        refine z_aload_n hC dX5_goes_29 rfl ?_
        refine z_get 0 4 hC bl_X5 (ci := 5) rfl (by decide) rfl bw_147 rfl rfl dX5_goes_30 ?_
        rw [show (κ1 0 2) = 0 from by simp only [eκ1]; rfl]
        skip
        refine z_if_ne hC 40 dX5_goes_33 (by decide) (fun cn2 => absurd cn2 (by decide)) (fun cn2 => ?_)
        refine z_iconst (v := 1) hC dX5_goes_36 (by decide) ?_
        refine z_goto hC 41 dX5_goes_37 (by decide) ?_
        exact z_zretd hC hr (rfl) dX5_goes_41 (Nat.zero_le _) (Nat.zero_le _) (by rw [← hG]; simp [mdGo, bI, c2, c10, c18]) (by subst eκ1; refine congrArg (fun z => cM q (u2 κ 0 2 z) ct) ?_; rw [← hG]; simp [mdGo, c2, c10, c18]) cM_adr
      · refine z_iconst (v := 3) hC dX5_goes_21 (by decide) ?_
        refine z_goto hC 26 dX5_goes_22 (by decide) ?_
        refine z_put (ci := 5) 0 4 hC bl_X5 tyX5_ok nmX5 rfl (by decide) rfl bw_147 rfl rfl rfl rfl (Nat.lt_of_lt_of_le (by decide) (Nat.le_refl 9)) dX5_goes_26 (w2 := cM q (u2 κ 0 2 3) ct) cM_f2 ?_
        obtain ⟨κ3, eκ3⟩ : ∃ zz_, zz_ = u2 κ 0 2 3 := ⟨_, rfl⟩
        rw [← eκ3]
        refine z_aload_n hC dX5_goes_29 rfl ?_
        refine z_get 0 4 hC bl_X5 (ci := 5) rfl (by decide) rfl bw_147 rfl rfl dX5_goes_30 ?_
        rw [show (κ3 0 2) = 3 from by simp only [eκ3]; rfl]
        skip
        refine z_if_ne hC 40 dX5_goes_33 (by decide) (fun cn4 => ?_) (fun cn4 => absurd cn4 (by decide))
        refine z_iconst (v := 0) hC dX5_goes_40 (by decide) ?_
        exact z_zretd hC hr (rfl) dX5_goes_41 (Nat.zero_le _) (Nat.zero_le _) (by rw [← hG]; simp [mdGo, bI, c2, c10, c18]) (by subst eκ3; refine congrArg (fun z => cM q (u2 κ 0 2 z) ct) ?_; rw [← hG]; simp [mdGo, c2, c10, c18]) cM_adr
    · refine z_iconst (v := 2) hC dX5_goes_13 (by decide) ?_
      refine z_goto hC 26 dX5_goes_14 (by decide) ?_
      refine z_put (ci := 5) 0 4 hC bl_X5 tyX5_ok nmX5 rfl (by decide) rfl bw_147 rfl rfl rfl rfl (Nat.lt_of_lt_of_le (by decide) (Nat.le_refl 9)) dX5_goes_26 (w2 := cM q (u2 κ 0 2 2) ct) cM_f2 ?_
      obtain ⟨κ5, eκ5⟩ : ∃ zz_, zz_ = u2 κ 0 2 2 := ⟨_, rfl⟩
      rw [← eκ5]
      refine z_aload_n hC dX5_goes_29 rfl ?_
      refine z_get 0 4 hC bl_X5 (ci := 5) rfl (by decide) rfl bw_147 rfl rfl dX5_goes_30 ?_
      rw [show (κ5 0 2) = 2 from by simp only [eκ5]; rfl]
      skip
      refine z_if_ne hC 40 dX5_goes_33 (by decide) (fun cn6 => ?_) (fun cn6 => absurd cn6 (by decide))
      refine z_iconst (v := 0) hC dX5_goes_40 (by decide) ?_
      exact z_zretd hC hr (rfl) dX5_goes_41 (Nat.zero_le _) (Nat.zero_le _) (by rw [← hG]; simp [mdGo, bI, c2, c10]) (by subst eκ5; refine congrArg (fun z => cM q (u2 κ 0 2 z) ct) ?_; rw [← hG]; simp [mdGo, c2, c10]) cM_adr
  · refine z_iconst (v := 1) hC dX5_goes_5 (by decide) ?_
    refine z_goto hC 26 dX5_goes_6 (by decide) ?_
    refine z_put (ci := 5) 0 4 hC bl_X5 tyX5_ok nmX5 rfl (by decide) rfl bw_147 rfl rfl rfl rfl (Nat.lt_of_lt_of_le (by decide) (Nat.le_refl 9)) dX5_goes_26 (w2 := cM q (u2 κ 0 2 1) ct) cM_f2 ?_
    obtain ⟨κ7, eκ7⟩ : ∃ zz_, zz_ = u2 κ 0 2 1 := ⟨_, rfl⟩
    rw [← eκ7]
    refine z_aload_n hC dX5_goes_29 rfl ?_
    refine z_get 0 4 hC bl_X5 (ci := 5) rfl (by decide) rfl bw_147 rfl rfl dX5_goes_30 ?_
    rw [show (κ7 0 2) = 1 from by simp only [eκ7]; rfl]
    skip
    refine z_if_ne hC 40 dX5_goes_33 (by decide) (fun cn8 => ?_) (fun cn8 => absurd cn8 (by decide))
    refine z_iconst (v := 0) hC dX5_goes_40 (by decide) ?_
    exact z_zretd hC hr (rfl) dX5_goes_41 (Nat.zero_le _) (Nat.zero_le _) (by rw [← hG]; simp [mdGo, bI, c2]) (by subst eκ7; refine congrArg (fun z => cM q (u2 κ 0 2 z) ct) ?_; rw [← hG]; simp [mdGo, c2]) cM_adr

set_option maxRecDepth 100000 in
set_option maxHeartbeats 1000000 in
theorem c_X5_lays (l : Launch) (D : va_G) (ct : Nat → ClassId) (q : Nat → Nat) (κ : Nat → Nat → Int32) (i j : Nat) (hi : i ≤ 7) (hj : j ≤ 7) : zT l D ct yX5_lays cX5_lays 4 none 0 0 0 0 [.ref (q 0), .int (nI i), .int (nI j)] (cM q κ ct) (zd none (cM q (mdLay κ i j) ct)) := by
  refine zT_of ([some (.ref (q 0)), some (.int (nI i)), some (.int (nI j)), none]) (by decide +kernel) rfl (Nat.le_of_ble_eq_true rfl) ?_
  intro p e s m args below meth c hC hr hnm
  refine z_iconst (v := 0) hC dX5_lays_0 (by decide) ?_
  refine z_istore_n hC dX5_lays_1 (by decide) rfl ?_
  have loop2 : ∀ (kf k : Nat) (κx : Nat → Nat → Int32) (hki : kf + k = 690) (hF : kfor (mdLay1 i j) kf k κx = mdLay κ i j), zG p l e { frames := 0, cells := 0, slots := 0, locals := 0 } s m args below meth c D (va_A (cM q κ ct) s.heap.size) 4 (MQ below (zQ D ct (cM q κ ct) s.heap.size (zd none (cM q (mdLay κ i j) ct))) args s 0 0 (va_A (cM q κ ct) s.heap.size)) 0 0 2 [some (.ref (q 0)), some (.int (nI i)), some (.int (nI j)), some (.int (nI k))] [] (cM q κx ct) := by
    intro kf
    induction kf with
    | zero =>
      intro k κx hki hF
      refine z_iload_n hC dX5_lays_2 rfl ?_
      refine z_sipush (v := 690) hC dX5_lays_3 (by decide) ?_
      refine z_icmp_ge hC 39 dX5_lays_6 (by decide) (fun c6 => ?_) (fun c6 => (by have hh := (nI_nleI (a := 690) (b := k) (by omega) (by omega)).mp c6; omega))
      replace c6 := (nI_leI (a := 690) (b := k) (by omega) (by omega)).mp c6
      exact z_vretd hC hr dX5_lays_39 (Nat.zero_le _) (Nat.zero_le _) (congrArg (fun z => cM q z ct) hF) cM_adr
    | succ kf ih =>
      intro k κx hki hF
      refine z_iload_n hC dX5_lays_2 rfl ?_
      refine z_sipush (v := 690) hC dX5_lays_3 (by decide) ?_
      refine z_icmp_ge hC 39 dX5_lays_6 (by decide) (fun c6 => (by have hh := (nI_leI (a := 690) (b := k) (by omega) (by omega)).mp c6; omega)) (fun c6 => ?_)
      replace c6 := (nI_nleI (a := 690) (b := k) (by omega) (by omega)).mp c6
      refine z_aload_n hC dX5_lays_9 rfl ?_
      refine z_get 0 0 hC bl_X5 (ci := 5) rfl (by decide) rfl bw_67 rfl rfl dX5_lays_10 ?_
      refine z_sipush (v := 690) hC dX5_lays_13 (by decide) ?_
      refine z_iload_n hC dX5_lays_16 rfl ?_
      refine z_imulN (690) (j) hC dX5_lays_17 ?_
      refine z_iload_n hC dX5_lays_18 rfl ?_
      refine z_iaddN (690 * j) (k) hC dX5_lays_19 ?_
      refine z_aload_n hC dX5_lays_20 rfl ?_
      refine z_get 0 0 hC bl_X5 (ci := 5) rfl (by decide) rfl bw_67 rfl rfl dX5_lays_21 ?_
      refine z_sipush (v := 690) hC dX5_lays_24 (by decide) ?_
      refine z_iload_n hC dX5_lays_27 rfl ?_
      refine z_imulN (690) (i) hC dX5_lays_28 ?_
      refine z_iload_n hC dX5_lays_29 rfl ?_
      refine z_iaddN (690 * i) (k) hC dX5_lays_30 ?_
      refine z_ialdN (690 * i + k) 1 0 hC rfl rfl (by decide) (by omega) dX5_lays_31 ?_
      refine z_iastN (690 * j + k) 1 0 hC rfl rfl (by decide) (by omega) dX5_lays_32 (w2 := cM q (u2 κx 1 (690 * j + k) (κx 1 (690 * i + k))) ct) cM_a1 ?_
      obtain ⟨κ1, eκ1⟩ : ∃ zz_, zz_ = u2 κx 1 (690 * j + k) (κx 1 (690 * i + k)) := ⟨_, rfl⟩
      rw [← eκ1]
      refine z_iincN (k) hC dX5_lays_33 (by decide) rfl rfl ?_
      refine z_goto hC 2 dX5_lays_36 (by decide) ?_
      exact ih (k + 1) κ1 (by omega) (by rw [← hF, eκ1]; rfl)
  exact loop2 690 0 κ rfl rfl

set_option maxRecDepth 100000 in
set_option maxHeartbeats 1000000 in
theorem c_X5_saves (l : Launch) (D : va_G) (ct : Nat → ClassId) (q : Nat → Nat) (κ : Nat → Nat → Int32) (z : Nat) (hz : κ 0 0 = nI z) (hz6 : z ≤ 6) : zT l D ct yX5_saves cX5_saves 2 none 1 23 0 0 [.ref (q 0)] (cM q κ ct) (zd none (cM q (mdSave κ z) ct)) := by
  refine zT_of ([some (.ref (q 0)), none]) (by decide +kernel) rfl (Nat.le_of_ble_eq_true rfl) ?_
  intro p e s m args below meth c hC hr hnm
  refine z_aload_n hC dX5_saves_0 rfl ?_
  refine z_get 0 1 hC bl_X5 (ci := 5) rfl (by decide) rfl bw_152 rfl rfl dX5_saves_1 ?_
  refine z_top (hz) ?_
  refine z_bipush (v := 6) hC dX5_saves_4 (by decide) ?_
  refine z_icmp_ne hC 41 dX5_saves_6 (by decide) (fun c6 => ?_) (fun c6 => ?_)
  · replace c6 := (nI_neI (a := z) (b := 6) (by omega) (by omega)).mp c6
    refine z_aload_n hC dX5_saves_41 rfl ?_
    refine z_dup hC dX5_saves_42 rfl ?_
    refine z_get 0 1 hC bl_X5 (ci := 5) rfl (by decide) rfl bw_152 rfl rfl dX5_saves_43 ?_
    refine z_top (hz) ?_
    refine z_iconst (v := 1) hC dX5_saves_46 (by decide) ?_
    refine z_iaddN (z) (1) hC dX5_saves_47 ?_
    refine z_put (ci := 5) 0 1 hC bl_X5 tyX5_ok nmX5 rfl (by decide) rfl bw_152 rfl rfl rfl rfl (Nat.lt_of_lt_of_le (by decide) (Nat.le_refl 9)) dX5_saves_48 (w2 := cM q (u2 κ 0 0 (nI (z + 1))) ct) cM_f0 ?_
    obtain ⟨κ1, eκ1⟩ : ∃ zz_, zz_ = u2 κ 0 0 (nI (z + 1)) := ⟨_, rfl⟩
    rw [← eκ1]
    refine z_aload_n hC dX5_saves_51 rfl ?_
    refine z_iconst (v := 0) hC dX5_saves_52 (by decide) ?_
    refine z_aload_n hC dX5_saves_53 rfl ?_
    refine z_get 0 1 hC bl_X5 (ci := 5) rfl (by decide) rfl bw_152 rfl rfl dX5_saves_54 ?_
    refine z_top (by subst eκ1; exact u2_at) ?_
    refine z_callV [0, 1, 2, 3] 0 5 hC (c_X5_lays l D ct q κ1 0 (z + 1) (by omega) (by omega)) bw_153 bw_154 bw_155 bw_5 bw_156 2 (by decide +kernel) rfl rfl rfl rfl rfl ⟨Nat.le_of_ble_eq_true rfl, Nat.le_of_ble_eq_true rfl⟩ (Nat.le_of_ble_eq_true rfl) ⟨Nat.le_of_ble_eq_true rfl, Nat.le_of_ble_eq_true rfl⟩ rfl dX5_saves_57 ?_
    refine zkd (G := fun v1 w1 => zG p l e _ s m args below meth c D _ _ _ _ _ _ _ (v1.toList ++ _) w1) (w2 := cM q (mdLay κ1 0 (z + 1)) ct) cM_all ?_
    obtain ⟨κ2, eκ2⟩ : ∃ zz_, zz_ = (mdLay κ1 0 (z + 1)) := ⟨_, rfl⟩
    rw [← eκ2]
    exact z_vretd hC hr dX5_saves_60 (Nat.zero_le _) (Nat.zero_le _) (by subst eκ2; subst eκ1; rw [mdSave, if_neg c6]) cM_adr
  · replace c6 := (nI_eq (a := z) (b := 6) (by omega) (by omega)).mp c6
    refine z_iconst (v := 1) hC dX5_saves_9 (by decide) ?_
    refine z_istore_n hC dX5_saves_10 (by decide) rfl ?_
    have loop11 : ∀ (kf k : Nat) (κx : Nat → Nat → Int32) (hki : kf + k = 6) (h0 : κx 0 0 = nI 6) (hF : kfor mdLays kf k κx = mdShiftAll κ), zG p l e { frames := 1, cells := 0, slots := 0, locals := 23 } s m args below meth c D (va_A (cM q κ ct) s.heap.size) 2 (MQ below (zQ D ct (cM q κ ct) s.heap.size (zd none (cM q (mdSave κ z) ct))) args s 0 0 (va_A (cM q κ ct) s.heap.size)) 0 0 11 [some (.ref (q 0)), some (.int (nI k))] [] (cM q κx ct) := by
      intro kf
      induction kf with
      | zero =>
        intro k κx hki h0 hF
        refine z_iload_n hC dX5_saves_11 rfl ?_
        refine z_bipush (v := 6) hC dX5_saves_12 (by decide) ?_
        refine z_icmp_ge hC 31 dX5_saves_14 (by decide) (fun c14 => ?_) (fun c14 => (by have hh := (nI_nleI (a := 6) (b := k) (by omega) (by omega)).mp c14; omega))
        replace c14 := (nI_leI (a := 6) (b := k) (by omega) (by omega)).mp c14
        refine z_aload_n hC dX5_saves_31 rfl ?_
        refine z_dup hC dX5_saves_32 rfl ?_
        refine z_get 0 1 hC bl_X5 (ci := 5) rfl (by decide) rfl bw_152 rfl rfl dX5_saves_33 ?_
        refine z_top (h0) ?_
        refine z_iconst (v := 1) hC dX5_saves_36 (by decide) ?_
        refine z_isubN (6) (1) hC (by decide) dX5_saves_37 ?_
        refine z_put (ci := 5) 0 1 hC bl_X5 tyX5_ok nmX5 rfl (by decide) rfl bw_152 rfl rfl rfl rfl (Nat.lt_of_lt_of_le (by decide) (Nat.le_refl 9)) dX5_saves_38 (w2 := cM q (u2 κx 0 0 (nI (6 - 1))) ct) cM_f0 ?_
        obtain ⟨κ3, eκ3⟩ : ∃ zz_, zz_ = u2 κx 0 0 (nI (6 - 1)) := ⟨_, rfl⟩
        rw [← eκ3]
        refine z_aload_n hC dX5_saves_41 rfl ?_
        refine z_dup hC dX5_saves_42 rfl ?_
        refine z_get 0 1 hC bl_X5 (ci := 5) rfl (by decide) rfl bw_152 rfl rfl dX5_saves_43 ?_
        refine z_top (by subst eκ3; exact u2_at) ?_
        refine z_iconst (v := 1) hC dX5_saves_46 (by decide) ?_
        refine z_iaddN (6 - 1) (1) hC dX5_saves_47 ?_
        refine z_put (ci := 5) 0 1 hC bl_X5 tyX5_ok nmX5 rfl (by decide) rfl bw_152 rfl rfl rfl rfl (Nat.lt_of_lt_of_le (by decide) (Nat.le_refl 9)) dX5_saves_48 (w2 := cM q (u2 κ3 0 0 (nI (6 - 1 + 1))) ct) cM_f0 ?_
        obtain ⟨κ4, eκ4⟩ : ∃ zz_, zz_ = u2 κ3 0 0 (nI (6 - 1 + 1)) := ⟨_, rfl⟩
        rw [← eκ4]
        refine z_aload_n hC dX5_saves_51 rfl ?_
        refine z_iconst (v := 0) hC dX5_saves_52 (by decide) ?_
        refine z_aload_n hC dX5_saves_53 rfl ?_
        refine z_get 0 1 hC bl_X5 (ci := 5) rfl (by decide) rfl bw_152 rfl rfl dX5_saves_54 ?_
        refine z_top (by subst eκ4; exact u2_at) ?_
        refine z_callV [0, 1, 2, 3] 0 5 hC (c_X5_lays l D ct q κ4 0 (6 - 1 + 1) (by omega) (by omega)) bw_153 bw_154 bw_155 bw_5 bw_156 2 (by decide +kernel) rfl rfl rfl rfl rfl ⟨Nat.le_of_ble_eq_true rfl, Nat.le_of_ble_eq_true rfl⟩ (Nat.le_of_ble_eq_true rfl) ⟨Nat.le_of_ble_eq_true rfl, Nat.le_of_ble_eq_true rfl⟩ rfl dX5_saves_57 ?_
        refine zkd (G := fun v1 w1 => zG p l e _ s m args below meth c D _ _ _ _ _ _ _ (v1.toList ++ _) w1) (w2 := cM q (mdLay κ4 0 (6 - 1 + 1)) ct) cM_all ?_
        obtain ⟨κ5, eκ5⟩ : ∃ zz_, zz_ = (mdLay κ4 0 (6 - 1 + 1)) := ⟨_, rfl⟩
        rw [← eκ5]
        exact z_vretd hC hr dX5_saves_60 (Nat.zero_le _) (Nat.zero_le _) (by subst eκ5; subst eκ4; subst eκ3; rw [mdSave, if_pos c6, ← hF]; rfl) cM_adr
      | succ kf ih =>
        intro k κx hki h0 hF
        refine z_iload_n hC dX5_saves_11 rfl ?_
        refine z_bipush (v := 6) hC dX5_saves_12 (by decide) ?_
        refine z_icmp_ge hC 31 dX5_saves_14 (by decide) (fun c14 => (by have hh := (nI_leI (a := 6) (b := k) (by omega) (by omega)).mp c14; omega)) (fun c14 => ?_)
        replace c14 := (nI_nleI (a := 6) (b := k) (by omega) (by omega)).mp c14
        refine z_aload_n hC dX5_saves_17 rfl ?_
        refine z_iload_n hC dX5_saves_18 rfl ?_
        refine z_iconst (v := 1) hC dX5_saves_19 (by decide) ?_
        refine z_iaddN (k) (1) hC dX5_saves_20 ?_
        refine z_iload_n hC dX5_saves_21 rfl ?_
        refine z_callV [0, 1, 2, 3] 0 5 hC (c_X5_lays l D ct q κx (k + 1) k (by omega) (by omega)) bw_153 bw_154 bw_155 bw_5 bw_156 2 (by decide +kernel) rfl rfl rfl rfl rfl ⟨Nat.le_of_ble_eq_true rfl, Nat.le_of_ble_eq_true rfl⟩ (Nat.le_of_ble_eq_true rfl) ⟨Nat.le_of_ble_eq_true rfl, Nat.le_of_ble_eq_true rfl⟩ rfl dX5_saves_22 ?_
        refine zkd (G := fun v1 w1 => zG p l e _ s m args below meth c D _ _ _ _ _ _ _ (v1.toList ++ _) w1) (w2 := cM q (mdLay κx (k + 1) k) ct) cM_all ?_
        obtain ⟨κ6, eκ6⟩ : ∃ zz_, zz_ = (mdLay κx (k + 1) k) := ⟨_, rfl⟩
        rw [← eκ6]
        refine z_iincN (k) hC dX5_saves_25 (by decide) rfl rfl ?_
        refine z_goto hC 11 dX5_saves_28 (by decide) ?_
        exact ih (k + 1) κ6 (by omega) (by rw [eκ6, mdLay_0 _ _ _ _ (by decide)]; exact h0) (by rw [← hF, eκ6]; rfl)
    exact loop11 5 1 κ rfl (by rw [hz, c6]) rfl

set_option maxRecDepth 100000 in
set_option maxHeartbeats 1000000 in
theorem c_X5_ones (l : Launch) (D : va_G) (ct : Nat → ClassId) (x : Int32) : zT l D ct yX5_ones cX5_ones 3 (some .int) 0 0 0 0 [.int x] (([] : va_W)) (zd (some (.int (mdOnes x))) (([] : va_W))) := by
  refine zT_of ([some (.int x), none, none]) (by decide +kernel) rfl (Nat.le_of_ble_eq_true rfl) ?_
  intro p e s m args below meth c hC hr hnm
  refine z_iconst (v := 0) hC dX5_ones_0 (by decide) ?_
  refine z_istore_n hC dX5_ones_1 (by decide) rfl ?_
  refine z_iconst (v := 0) hC dX5_ones_2 (by decide) ?_
  refine z_istore_n hC dX5_ones_3 (by decide) rfl ?_
  have loop4 : ∀ (kf k : Nat) (n : Int32) (hki : kf + k = 10) (hF : kfor (fun k (n : Int32) => n + ((x >>> (nI k &&& 31)) &&& 1)) kf k n = mdOnes x), zG p l e { frames := 0, cells := 0, slots := 0, locals := 0 } s m args below meth c D (va_A (([] : va_W)) s.heap.size) 3 (MQ below (zQ D ct (([] : va_W)) s.heap.size (zd (some (.int (mdOnes x))) (([] : va_W)))) args s 0 0 (va_A (([] : va_W)) s.heap.size)) 0 0 4 [some (.int x), some (.int n), some (.int (nI k))] [] (([] : va_W)) := by
    intro kf
    induction kf with
    | zero =>
      intro k n hki hF
      refine z_iload_n hC dX5_ones_4 rfl ?_
      refine z_bipush (v := 10) hC dX5_ones_5 (by decide) ?_
      refine z_icmp_ge hC 24 dX5_ones_7 (by decide) (fun c7 => ?_) (fun c7 => (by have hh := (nI_nleI (a := 10) (b := k) (by omega) (by omega)).mp c7; omega))
      replace c7 := (nI_leI (a := 10) (b := k) (by omega) (by omega)).mp c7
      refine z_iload_n hC dX5_ones_24 rfl ?_
      exact z_iretd hC hr dX5_ones_25 (Nat.zero_le _) (Nat.zero_le _) (hF) (by first | rfl | (simp [c7, *]; done)) rfl
    | succ kf ih =>
      intro k n hki hF
      refine z_iload_n hC dX5_ones_4 rfl ?_
      refine z_bipush (v := 10) hC dX5_ones_5 (by decide) ?_
      refine z_icmp_ge hC 24 dX5_ones_7 (by decide) (fun c7 => (by have hh := (nI_leI (a := 10) (b := k) (by omega) (by omega)).mp c7; omega)) (fun c7 => ?_)
      replace c7 := (nI_nleI (a := 10) (b := k) (by omega) (by omega)).mp c7
      refine z_iload_n hC dX5_ones_10 rfl ?_
      refine z_iload_n hC dX5_ones_11 rfl ?_
      refine z_iload_n hC dX5_ones_12 rfl ?_
      refine z_ishr hC dX5_ones_13 ?_
      refine z_iconst (v := 1) hC dX5_ones_14 (by decide) ?_
      refine z_iand hC dX5_ones_15 ?_
      refine z_iadd hC dX5_ones_16 ?_
      refine z_istore_n hC dX5_ones_17 (by decide) rfl ?_
      refine z_iincN (k) hC dX5_ones_18 (by decide) rfl rfl ?_
      refine z_goto hC 4 dX5_ones_21 (by decide) ?_
      exact ih (k + 1) (n + ((x >>> ((nI k) &&& 31)) &&& 1)) (by omega) (by rw [← hF]; rfl)
  exact loop4 10 0 0 rfl rfl

set_option maxRecDepth 100000 in
set_option maxHeartbeats 1000000 in
theorem c_X5_links (l : Launch) (D : va_G) (ct : Nat → ClassId) (q : Nat → Nat) (κ : Nat → Nat → Int32) (a c0 : Nat) (v : Int32) (ha : a < 10) (hc : c0 < 10) : zT l D ct yX5_links cX5_links 6 (some .int) 1 22 0 0 [.ref (q 0), .int (nI a), .int (nI c0), .int v] (cM q κ ct) (zd (some (.int (mdLinks (mdLink κ a c0 v)))) (cM q (mdLink κ a c0 v) ct)) := by
  refine zT_of ([some (.ref (q 0)), some (.int (nI a)), some (.int (nI c0)), some (.int v), none, none]) (by decide +kernel) rfl (Nat.le_of_ble_eq_true rfl) ?_
  intro p e s m args below meth c hC hr hnm
  refine z_aload_n hC dX5_links_0 rfl ?_
  refine z_get 0 0 hC bl_X5 (ci := 5) rfl (by decide) rfl bw_67 rfl rfl dX5_links_1 ?_
  refine z_iconst (v := 0) hC dX5_links_4 (by decide) ?_
  refine z_iload_n hC dX5_links_5 rfl ?_
  refine z_iaddN (0) (a) hC dX5_links_6 ?_
  refine z_iload_n hC dX5_links_7 rfl ?_
  refine z_if_eq hC 26 dX5_links_8 (by decide) (fun c8 => ?_) (fun c8 => ?_)
  · refine z_aload_n hC dX5_links_26 rfl ?_
    refine z_get 0 0 hC bl_X5 (ci := 5) rfl (by decide) rfl bw_67 rfl rfl dX5_links_27 ?_
    refine z_iconst (v := 0) hC dX5_links_30 (by decide) ?_
    refine z_iload_n hC dX5_links_31 rfl ?_
    refine z_iaddN (0) (a) hC dX5_links_32 ?_
    refine z_ialdN (0 + a) 1 0 hC rfl rfl (by decide) (by omega) dX5_links_33 ?_
    refine z_iconst (v := 1) hC dX5_links_34 (by decide) ?_
    refine z_iload_n hC dX5_links_35 rfl ?_
    refine z_ishl hC dX5_links_36 ?_
    refine z_iconst (v := (-1)) hC dX5_links_37 (by decide) ?_
    refine z_ixor hC dX5_links_38 ?_
    refine z_iand hC dX5_links_39 ?_
    refine z_iastN (0 + a) 1 0 hC rfl rfl (by decide) (by omega) dX5_links_40 (w2 := cM q (u2 κ 1 (0 + a) ((κ 1 (0 + a)) &&& ((1 <<< ((nI c0) &&& 31)) ^^^ (-1)))) ct) cM_a1 ?_
    obtain ⟨κ1, eκ1⟩ : ∃ zz_, zz_ = u2 κ 1 (0 + a) ((κ 1 (0 + a)) &&& ((1 <<< ((nI c0) &&& 31)) ^^^ (-1))) := ⟨_, rfl⟩
    rw [← eκ1]
    refine z_aload_n hC dX5_links_41 rfl ?_
    refine z_get 0 0 hC bl_X5 (ci := 5) rfl (by decide) rfl bw_67 rfl rfl dX5_links_42 ?_
    refine z_iconst (v := 0) hC dX5_links_45 (by decide) ?_
    refine z_iload_n hC dX5_links_46 rfl ?_
    refine z_iaddN (0) (c0) hC dX5_links_47 ?_
    refine z_iload_n hC dX5_links_48 rfl ?_
    refine z_if_eq hC 67 dX5_links_49 (by decide) (fun c49 => ?_) (fun c49 => absurd c8 c49)
    refine z_aload_n hC dX5_links_67 rfl ?_
    refine z_get 0 0 hC bl_X5 (ci := 5) rfl (by decide) rfl bw_67 rfl rfl dX5_links_68 ?_
    refine z_iconst (v := 0) hC dX5_links_71 (by decide) ?_
    refine z_iload_n hC dX5_links_72 rfl ?_
    refine z_iaddN (0) (c0) hC dX5_links_73 ?_
    refine z_ialdN (0 + c0) 1 0 hC rfl rfl (by decide) (by omega) dX5_links_74 ?_
    refine z_iconst (v := 1) hC dX5_links_75 (by decide) ?_
    refine z_iload_n hC dX5_links_76 rfl ?_
    refine z_ishl hC dX5_links_77 ?_
    refine z_iconst (v := (-1)) hC dX5_links_78 (by decide) ?_
    refine z_ixor hC dX5_links_79 ?_
    refine z_iand hC dX5_links_80 ?_
    refine z_iastN (0 + c0) 1 0 hC rfl rfl (by decide) (by omega) dX5_links_81 (w2 := cM q (u2 κ1 1 (0 + c0) ((κ1 1 (0 + c0)) &&& ((1 <<< ((nI a) &&& 31)) ^^^ (-1)))) ct) cM_a1 ?_
    obtain ⟨κ2, eκ2⟩ : ∃ zz_, zz_ = u2 κ1 1 (0 + c0) ((κ1 1 (0 + c0)) &&& ((1 <<< ((nI a) &&& 31)) ^^^ (-1))) := ⟨_, rfl⟩
    rw [← eκ2]
    have eL : κ2 = mdLink κ a c0 v := by subst eκ2; subst eκ1; simp [mdLink, mdBit, c8]
    rw [eL]
    refine z_iconst (v := 0) hC dX5_links_82 (by decide) ?_
    refine z_istore hC dX5_links_83 (by decide) rfl ?_
    refine z_iconst (v := 0) hC dX5_links_85 (by decide) ?_
    refine z_istore hC dX5_links_86 (by decide) rfl ?_
    have loop88 : ∀ (kf k : Nat) (n : Int32) (hki : kf + k = 10) (hF : kfor (fun k (n : Int32) => n + mdOnes (mdLink κ a c0 v 1 (0 + k))) kf k n = kfor (fun k (n : Int32) => n + mdOnes (mdLink κ a c0 v 1 (0 + k))) 10 0 0), zG p l e { frames := 1, cells := 0, slots := 0, locals := 22 } s m args below meth c D (va_A (cM q κ ct) s.heap.size) 6 (MQ below (zQ D ct (cM q κ ct) s.heap.size (zd (some (.int (mdLinks (mdLink κ a c0 v)))) (cM q (mdLink κ a c0 v) ct))) args s 0 0 (va_A (cM q κ ct) s.heap.size)) 0 0 88 [some (.ref (q 0)), some (.int (nI a)), some (.int (nI c0)), some (.int v), some (.int n), some (.int (nI k))] [] (cM q (mdLink κ a c0 v) ct) := by
      intro kf
      induction kf with
      | zero =>
        intro k n hki hF
        refine z_iload hC dX5_links_88 rfl ?_
        refine z_bipush (v := 10) hC dX5_links_90 (by decide) ?_
        refine z_icmp_ge hC 118 dX5_links_92 (by decide) (fun c92 => ?_) (fun c92 => (by have hh := (nI_nleI (a := 10) (b := k) (by omega) (by omega)).mp c92; omega))
        replace c92 := (nI_leI (a := 10) (b := k) (by omega) (by omega)).mp c92
        refine z_iload hC dX5_links_118 rfl ?_
        refine z_iconst (v := 2) hC dX5_links_120 (by decide) ?_
        refine z_idiv hC dX5_links_121 (by decide) ?_
        exact z_iretd hC hr dX5_links_122 (Nat.zero_le _) (Nat.zero_le _) (by rw [mdLinks, ← hF]; rfl) (rfl) cM_adr
      | succ kf ih =>
        intro k n hki hF
        refine z_iload hC dX5_links_88 rfl ?_
        refine z_bipush (v := 10) hC dX5_links_90 (by decide) ?_
        refine z_icmp_ge hC 118 dX5_links_92 (by decide) (fun c92 => (by have hh := (nI_leI (a := 10) (b := k) (by omega) (by omega)).mp c92; omega)) (fun c92 => ?_)
        replace c92 := (nI_nleI (a := 10) (b := k) (by omega) (by omega)).mp c92
        refine z_iload hC dX5_links_95 rfl ?_
        refine z_aload_n hC dX5_links_97 rfl ?_
        refine z_get 0 0 hC bl_X5 (ci := 5) rfl (by decide) rfl bw_67 rfl rfl dX5_links_98 ?_
        refine z_iconst (v := 0) hC dX5_links_101 (by decide) ?_
        refine z_iload hC dX5_links_102 rfl ?_
        refine z_iaddN (0) (k) hC dX5_links_104 ?_
        refine z_ialdN (0 + k) 1 0 hC rfl rfl (by decide) (by omega) dX5_links_105 ?_
        refine z_callS [] hC (c_X5_ones l D ct ((mdLink κ a c0 v) 1 (0 + k))) bw_161 bw_162 bw_5 bw_163 1 (by decide +kernel) rfl rfl rfl ⟨Nat.le_of_ble_eq_true rfl, Nat.le_of_ble_eq_true rfl⟩ (Nat.le_of_ble_eq_true rfl) ⟨Nat.le_of_ble_eq_true rfl, Nat.le_of_ble_eq_true rfl⟩ rfl dX5_links_106 ?_
        refine zkq (G := fun v1 w1 => zG p l e _ s m args below meth c D _ _ _ _ _ _ _ (v1.toList ++ _) w1) rfl ?_
        refine z_iadd hC dX5_links_109 ?_
        refine z_istore hC dX5_links_110 (by decide) rfl ?_
        refine z_iincN (k) hC dX5_links_112 (by decide) rfl rfl ?_
        refine z_goto hC 88 dX5_links_115 (by decide) ?_
        exact ih (k + 1) (n + (mdOnes ((mdLink κ a c0 v) 1 (0 + k)))) (by omega) (by rw [← hF]; rfl)
    exact loop88 10 0 0 rfl rfl
  · refine z_aload_n hC dX5_links_11 rfl ?_
    refine z_get 0 0 hC bl_X5 (ci := 5) rfl (by decide) rfl bw_67 rfl rfl dX5_links_12 ?_
    refine z_iconst (v := 0) hC dX5_links_15 (by decide) ?_
    refine z_iload_n hC dX5_links_16 rfl ?_
    refine z_iaddN (0) (a) hC dX5_links_17 ?_
    refine z_ialdN (0 + a) 1 0 hC rfl rfl (by decide) (by omega) dX5_links_18 ?_
    refine z_iconst (v := 1) hC dX5_links_19 (by decide) ?_
    refine z_iload_n hC dX5_links_20 rfl ?_
    refine z_ishl hC dX5_links_21 ?_
    refine z_ior hC dX5_links_22 ?_
    refine z_goto hC 40 dX5_links_23 (by decide) ?_
    refine z_iastN (0 + a) 1 0 hC rfl rfl (by decide) (by omega) dX5_links_40 (w2 := cM q (u2 κ 1 (0 + a) ((κ 1 (0 + a)) ||| (1 <<< ((nI c0) &&& 31)))) ct) cM_a1 ?_
    obtain ⟨κ3, eκ3⟩ : ∃ zz_, zz_ = u2 κ 1 (0 + a) ((κ 1 (0 + a)) ||| (1 <<< ((nI c0) &&& 31))) := ⟨_, rfl⟩
    rw [← eκ3]
    refine z_aload_n hC dX5_links_41 rfl ?_
    refine z_get 0 0 hC bl_X5 (ci := 5) rfl (by decide) rfl bw_67 rfl rfl dX5_links_42 ?_
    refine z_iconst (v := 0) hC dX5_links_45 (by decide) ?_
    refine z_iload_n hC dX5_links_46 rfl ?_
    refine z_iaddN (0) (c0) hC dX5_links_47 ?_
    refine z_iload_n hC dX5_links_48 rfl ?_
    refine z_if_eq hC 67 dX5_links_49 (by decide) (fun c49 => absurd c49 c8) (fun c49 => ?_)
    refine z_aload_n hC dX5_links_52 rfl ?_
    refine z_get 0 0 hC bl_X5 (ci := 5) rfl (by decide) rfl bw_67 rfl rfl dX5_links_53 ?_
    refine z_iconst (v := 0) hC dX5_links_56 (by decide) ?_
    refine z_iload_n hC dX5_links_57 rfl ?_
    refine z_iaddN (0) (c0) hC dX5_links_58 ?_
    refine z_ialdN (0 + c0) 1 0 hC rfl rfl (by decide) (by omega) dX5_links_59 ?_
    refine z_iconst (v := 1) hC dX5_links_60 (by decide) ?_
    refine z_iload_n hC dX5_links_61 rfl ?_
    refine z_ishl hC dX5_links_62 ?_
    refine z_ior hC dX5_links_63 ?_
    refine z_goto hC 81 dX5_links_64 (by decide) ?_
    refine z_iastN (0 + c0) 1 0 hC rfl rfl (by decide) (by omega) dX5_links_81 (w2 := cM q (u2 κ3 1 (0 + c0) ((κ3 1 (0 + c0)) ||| (1 <<< ((nI a) &&& 31)))) ct) cM_a1 ?_
    obtain ⟨κ4, eκ4⟩ : ∃ zz_, zz_ = u2 κ3 1 (0 + c0) ((κ3 1 (0 + c0)) ||| (1 <<< ((nI a) &&& 31))) := ⟨_, rfl⟩
    rw [← eκ4]
    have eL : κ4 = mdLink κ a c0 v := by subst eκ4; subst eκ3; simp [mdLink, mdBit, c8]
    rw [eL]
    refine z_iconst (v := 0) hC dX5_links_82 (by decide) ?_
    refine z_istore hC dX5_links_83 (by decide) rfl ?_
    refine z_iconst (v := 0) hC dX5_links_85 (by decide) ?_
    refine z_istore hC dX5_links_86 (by decide) rfl ?_
    have loop88 : ∀ (kf k : Nat) (n : Int32) (hki : kf + k = 10) (hF : kfor (fun k (n : Int32) => n + mdOnes (mdLink κ a c0 v 1 (0 + k))) kf k n = kfor (fun k (n : Int32) => n + mdOnes (mdLink κ a c0 v 1 (0 + k))) 10 0 0), zG p l e { frames := 1, cells := 0, slots := 0, locals := 22 } s m args below meth c D (va_A (cM q κ ct) s.heap.size) 6 (MQ below (zQ D ct (cM q κ ct) s.heap.size (zd (some (.int (mdLinks (mdLink κ a c0 v)))) (cM q (mdLink κ a c0 v) ct))) args s 0 0 (va_A (cM q κ ct) s.heap.size)) 0 0 88 [some (.ref (q 0)), some (.int (nI a)), some (.int (nI c0)), some (.int v), some (.int n), some (.int (nI k))] [] (cM q (mdLink κ a c0 v) ct) := by
      intro kf
      induction kf with
      | zero =>
        intro k n hki hF
        refine z_iload hC dX5_links_88 rfl ?_
        refine z_bipush (v := 10) hC dX5_links_90 (by decide) ?_
        refine z_icmp_ge hC 118 dX5_links_92 (by decide) (fun c92 => ?_) (fun c92 => (by have hh := (nI_nleI (a := 10) (b := k) (by omega) (by omega)).mp c92; omega))
        replace c92 := (nI_leI (a := 10) (b := k) (by omega) (by omega)).mp c92
        refine z_iload hC dX5_links_118 rfl ?_
        refine z_iconst (v := 2) hC dX5_links_120 (by decide) ?_
        refine z_idiv hC dX5_links_121 (by decide) ?_
        exact z_iretd hC hr dX5_links_122 (Nat.zero_le _) (Nat.zero_le _) (by rw [mdLinks, ← hF]; rfl) (rfl) cM_adr
      | succ kf ih =>
        intro k n hki hF
        refine z_iload hC dX5_links_88 rfl ?_
        refine z_bipush (v := 10) hC dX5_links_90 (by decide) ?_
        refine z_icmp_ge hC 118 dX5_links_92 (by decide) (fun c92 => (by have hh := (nI_leI (a := 10) (b := k) (by omega) (by omega)).mp c92; omega)) (fun c92 => ?_)
        replace c92 := (nI_nleI (a := 10) (b := k) (by omega) (by omega)).mp c92
        refine z_iload hC dX5_links_95 rfl ?_
        refine z_aload_n hC dX5_links_97 rfl ?_
        refine z_get 0 0 hC bl_X5 (ci := 5) rfl (by decide) rfl bw_67 rfl rfl dX5_links_98 ?_
        refine z_iconst (v := 0) hC dX5_links_101 (by decide) ?_
        refine z_iload hC dX5_links_102 rfl ?_
        refine z_iaddN (0) (k) hC dX5_links_104 ?_
        refine z_ialdN (0 + k) 1 0 hC rfl rfl (by decide) (by omega) dX5_links_105 ?_
        refine z_callS [] hC (c_X5_ones l D ct ((mdLink κ a c0 v) 1 (0 + k))) bw_161 bw_162 bw_5 bw_163 1 (by decide +kernel) rfl rfl rfl ⟨Nat.le_of_ble_eq_true rfl, Nat.le_of_ble_eq_true rfl⟩ (Nat.le_of_ble_eq_true rfl) ⟨Nat.le_of_ble_eq_true rfl, Nat.le_of_ble_eq_true rfl⟩ rfl dX5_links_106 ?_
        refine zkq (G := fun v1 w1 => zG p l e _ s m args below meth c D _ _ _ _ _ _ _ (v1.toList ++ _) w1) rfl ?_
        refine z_iadd hC dX5_links_109 ?_
        refine z_istore hC dX5_links_110 (by decide) rfl ?_
        refine z_iincN (k) hC dX5_links_112 (by decide) rfl rfl ?_
        refine z_goto hC 88 dX5_links_115 (by decide) ?_
        exact ih (k + 1) (n + (mdOnes ((mdLink κ a c0 v) 1 (0 + k)))) (by omega) (by rw [← hF]; rfl)
    exact loop88 10 0 0 rfl rfl

set_option maxRecDepth 100000 in
set_option maxHeartbeats 1000000 in
theorem c_X5_powers (l : Launch) (D : va_G) (ct : Nat → ClassId) (q : Nat → Nat) (κ : Nat → Nat → Int32) (n : Nat) (v : Int32) : zT l D ct yX5_powers cX5_powers 3 (some .int) 1 22 0 0 [.ref (q 0), .int (nI n), .int v] (cM q κ ct) (zd (some (.int (mdOnes (mdPower κ n v 1 10)))) (cM q (mdPower κ n v) ct)) := by
  refine zT_of ([some (.ref (q 0)), some (.int (nI n)), some (.int v)]) (by decide +kernel) rfl (Nat.le_of_ble_eq_true rfl) ?_
  intro p e s m args below meth c hC hr hnm
  refine z_aload_n hC dX5_powers_0 rfl ?_
  refine z_get 0 0 hC bl_X5 (ci := 5) rfl (by decide) rfl bw_67 rfl rfl dX5_powers_1 ?_
  refine z_bipush (v := 10) hC dX5_powers_4 (by decide) ?_
  refine z_iload_n hC dX5_powers_6 rfl ?_
  refine z_if_eq hC 24 dX5_powers_7 (by decide) (fun c7 => ?_) (fun c7 => ?_)
  · refine z_aload_n hC dX5_powers_24 rfl ?_
    refine z_get 0 0 hC bl_X5 (ci := 5) rfl (by decide) rfl bw_67 rfl rfl dX5_powers_25 ?_
    refine z_bipush (v := 10) hC dX5_powers_28 (by decide) ?_
    refine z_ialdN (10) 1 0 hC rfl rfl (by decide) (by omega) dX5_powers_30 ?_
    refine z_iconst (v := 1) hC dX5_powers_31 (by decide) ?_
    refine z_iload_n hC dX5_powers_32 rfl ?_
    refine z_ishl hC dX5_powers_33 ?_
    refine z_iconst (v := (-1)) hC dX5_powers_34 (by decide) ?_
    refine z_ixor hC dX5_powers_35 ?_
    refine z_iand hC dX5_powers_36 ?_
    refine z_iastN (10) 1 0 hC rfl rfl (by decide) (by omega) dX5_powers_37 (w2 := cM q (u2 κ 1 10 ((κ 1 10) &&& ((1 <<< ((nI n) &&& 31)) ^^^ (-1)))) ct) cM_a1 ?_
    obtain ⟨κ1, eκ1⟩ : ∃ zz_, zz_ = u2 κ 1 10 ((κ 1 10) &&& ((1 <<< ((nI n) &&& 31)) ^^^ (-1))) := ⟨_, rfl⟩
    rw [← eκ1]
    refine z_aload_n hC dX5_powers_38 rfl ?_
    refine z_get 0 0 hC bl_X5 (ci := 5) rfl (by decide) rfl bw_67 rfl rfl dX5_powers_39 ?_
    refine z_bipush (v := 10) hC dX5_powers_42 (by decide) ?_
    refine z_ialdN (10) 1 0 hC rfl rfl (by decide) (by omega) dX5_powers_44 ?_
    refine z_callS [] hC (c_X5_ones l D ct (κ1 1 10)) bw_161 bw_162 bw_5 bw_163 1 (by decide +kernel) rfl rfl rfl ⟨Nat.le_of_ble_eq_true rfl, Nat.le_of_ble_eq_true rfl⟩ (Nat.le_of_ble_eq_true rfl) ⟨Nat.le_of_ble_eq_true rfl, Nat.le_of_ble_eq_true rfl⟩ rfl dX5_powers_45 ?_
    refine zkq (G := fun v1 w1 => zG p l e _ s m args below meth c D _ _ _ _ _ _ _ (v1.toList ++ _) w1) rfl ?_
    exact z_iretd hC hr dX5_powers_48 (Nat.zero_le _) (Nat.zero_le _) (by subst eκ1; simp [mdPower, mdBit, c7]) (congrArg (fun z => cM q z ct) (by subst eκ1; simp [mdPower, mdBit, c7])) cM_adr
  · refine z_aload_n hC dX5_powers_10 rfl ?_
    refine z_get 0 0 hC bl_X5 (ci := 5) rfl (by decide) rfl bw_67 rfl rfl dX5_powers_11 ?_
    refine z_bipush (v := 10) hC dX5_powers_14 (by decide) ?_
    refine z_ialdN (10) 1 0 hC rfl rfl (by decide) (by omega) dX5_powers_16 ?_
    refine z_iconst (v := 1) hC dX5_powers_17 (by decide) ?_
    refine z_iload_n hC dX5_powers_18 rfl ?_
    refine z_ishl hC dX5_powers_19 ?_
    refine z_ior hC dX5_powers_20 ?_
    refine z_goto hC 37 dX5_powers_21 (by decide) ?_
    refine z_iastN (10) 1 0 hC rfl rfl (by decide) (by omega) dX5_powers_37 (w2 := cM q (u2 κ 1 10 ((κ 1 10) ||| (1 <<< ((nI n) &&& 31)))) ct) cM_a1 ?_
    obtain ⟨κ2, eκ2⟩ : ∃ zz_, zz_ = u2 κ 1 10 ((κ 1 10) ||| (1 <<< ((nI n) &&& 31))) := ⟨_, rfl⟩
    rw [← eκ2]
    refine z_aload_n hC dX5_powers_38 rfl ?_
    refine z_get 0 0 hC bl_X5 (ci := 5) rfl (by decide) rfl bw_67 rfl rfl dX5_powers_39 ?_
    refine z_bipush (v := 10) hC dX5_powers_42 (by decide) ?_
    refine z_ialdN (10) 1 0 hC rfl rfl (by decide) (by omega) dX5_powers_44 ?_
    refine z_callS [] hC (c_X5_ones l D ct (κ2 1 10)) bw_161 bw_162 bw_5 bw_163 1 (by decide +kernel) rfl rfl rfl ⟨Nat.le_of_ble_eq_true rfl, Nat.le_of_ble_eq_true rfl⟩ (Nat.le_of_ble_eq_true rfl) ⟨Nat.le_of_ble_eq_true rfl, Nat.le_of_ble_eq_true rfl⟩ rfl dX5_powers_45 ?_
    refine zkq (G := fun v1 w1 => zG p l e _ s m args below meth c D _ _ _ _ _ _ _ (v1.toList ++ _) w1) rfl ?_
    exact z_iretd hC hr dX5_powers_48 (Nat.zero_le _) (Nat.zero_le _) (by subst eκ2; simp [mdPower, mdBit, c7]) (congrArg (fun z => cM q z ct) (by subst eκ2; simp [mdPower, mdBit, c7])) cM_adr

set_option maxRecDepth 100000 in
set_option maxHeartbeats 1000000 in
theorem c_X5_canTake (l : Launch) (D : va_G) (ct : Nat → ClassId) (q : Nat → Nat) (κ : Nat → Nat → Int32) (m0 : Nat) (hm : m0 < 10) (hK : okK κ 0 m0) : zT l D ct yX5_canTake cX5_canTake 2 (some .boolean) 1 21 0 0 [.ref (q 0), .int (nI m0)] (cM q κ ct) (zd (some (.int (bI (mdCan κ m0)))) (cM q κ ct)) := by
  refine zT_of ([some (.ref (q 0)), some (.int (nI m0))]) (by decide +kernel) rfl (Nat.le_of_ble_eq_true rfl) ?_
  intro p e s m args below meth c hC hr hnm
  have hK6 := hK.2
  refine z_aload_n hC dX5_canTake_0 rfl ?_
  refine z_get 0 0 hC bl_X5 (ci := 5) rfl (by decide) rfl bw_67 rfl rfl dX5_canTake_1 ?_
  refine z_iconst (v := 0) hC dX5_canTake_4 (by decide) ?_
  refine z_iload_n hC dX5_canTake_5 rfl ?_
  refine z_callS [] hC (c_X5_at l D ct 0 m0) bw_70 bw_71 bw_5 bw_72 2 (by decide +kernel) rfl rfl rfl ⟨Nat.le_of_ble_eq_true rfl, Nat.le_of_ble_eq_true rfl⟩ (Nat.le_of_ble_eq_true rfl) ⟨Nat.le_of_ble_eq_true rfl, Nat.le_of_ble_eq_true rfl⟩ rfl dX5_canTake_6 ?_
  refine zkq (G := fun v1 w1 => zG p l e _ s m args below meth c D _ _ _ _ _ _ _ (v1.toList ++ _) w1) rfl ?_
  refine z_bipush (v := 6) hC dX5_canTake_9 (by decide) ?_
  refine z_iaddN (0 + 20 + 7 * m0) (6) hC dX5_canTake_11 ?_
  refine z_ialdN (0 + 20 + 7 * m0 + 6) 1 0 hC rfl rfl (by decide) (by omega) dX5_canTake_12 ?_
  refine z_top (hK.1) ?_
  refine z_bipush (v := 6) hC dX5_canTake_13 (by decide) ?_
  refine z_icmp_ge hC 34 dX5_canTake_15 (by decide) (fun c15 => ?_) (fun c15 => ?_)
  · replace c15 := (nI_leI (a := 6) (b := mdK κ 0 m0) (by omega) (by omega)).mp c15
    refine z_iconst (v := 0) hC dX5_canTake_34 (by decide) ?_
    exact z_zretd hC hr (rfl) dX5_canTake_35 (Nat.zero_le _) (Nat.zero_le _) (by have h := Nat.not_lt.mpr c15; simp [mdCan, bI, h]) (by first | rfl | (simp [mdCan, bI, c15, *]; done)) cM_adr
  · replace c15 := (nI_nleI (a := 6) (b := mdK κ 0 m0) (by omega) (by omega)).mp c15
    refine z_aload_n hC dX5_canTake_18 rfl ?_
    refine z_get 0 0 hC bl_X5 (ci := 5) rfl (by decide) rfl bw_67 rfl rfl dX5_canTake_19 ?_
    refine z_bipush (v := 13) hC dX5_canTake_22 (by decide) ?_
    refine z_ialdN (13) 1 0 hC rfl rfl (by decide) (by omega) dX5_canTake_24 ?_
    refine z_bipush (v := 60) hC dX5_canTake_25 (by decide) ?_
    refine z_icmp_ge hC 34 dX5_canTake_27 (by decide) (fun c27 => ?_) (fun c27 => ?_)
    · refine z_iconst (v := 0) hC dX5_canTake_34 (by decide) ?_
      exact z_zretd hC hr (rfl) dX5_canTake_35 (Nat.zero_le _) (Nat.zero_le _) (by simp [mdCan, bI, c15, c27, i_nlt.mpr c27]) (by first | rfl | (simp [mdCan, bI, c15, c27, i_nlt.mpr c27, *]; done)) cM_adr
    · refine z_iconst (v := 1) hC dX5_canTake_30 (by decide) ?_
      refine z_goto hC 35 dX5_canTake_31 (by decide) ?_
      exact z_zretd hC hr (rfl) dX5_canTake_35 (Nat.zero_le _) (Nat.zero_le _) (by simp [mdCan, bI, c15, c27, i_nle.mp c27]) (by first | rfl | (simp [mdCan, bI, c15, c27, i_nle.mp c27, *]; done)) cM_adr

set_option maxRecDepth 100000 in
set_option maxHeartbeats 1000000 in
theorem c_X5_takes (l : Launch) (D : va_G) (ct : Nat → ClassId) (q : Nat → Nat) (κ : Nat → Nat → Int32) (m0 : Nat) (v : Int32) (hm : m0 < 10) (hK : okK κ 0 m0) : zT l D ct yX5_takes cX5_takes 5 (some .int) 1 22 0 0 [.ref (q 0), .int (nI m0), .int v] (cM q κ ct) (zd (some (.int (mdTake κ m0 v 1 (0 + 20 + 7 * m0 + 5) - 1))) (cM q (mdTake κ m0 v) ct)) := by
  refine zT_of ([some (.ref (q 0)), some (.int (nI m0)), some (.int v), none, none]) (by decide +kernel) rfl (Nat.le_of_ble_eq_true rfl) ?_
  intro p e s m args below meth c hC hr hnm
  have hK6 := hK.2
  refine z_iconst (v := 0) hC dX5_takes_0 (by decide) ?_
  refine z_iload_n hC dX5_takes_1 rfl ?_
  refine z_callS [] hC (c_X5_at l D ct 0 m0) bw_70 bw_71 bw_5 bw_72 2 (by decide +kernel) rfl rfl rfl ⟨Nat.le_of_ble_eq_true rfl, Nat.le_of_ble_eq_true rfl⟩ (Nat.le_of_ble_eq_true rfl) ⟨Nat.le_of_ble_eq_true rfl, Nat.le_of_ble_eq_true rfl⟩ rfl dX5_takes_2 ?_
  refine zkq (G := fun v1 w1 => zG p l e _ s m args below meth c D _ _ _ _ _ _ _ (v1.toList ++ _) w1) rfl ?_
  refine z_istore_n hC dX5_takes_5 (by decide) rfl ?_
  refine z_iconst (v := 0) hC dX5_takes_6 (by decide) ?_
  refine z_iload_n hC dX5_takes_7 rfl ?_
  refine z_aload_n hC dX5_takes_8 rfl ?_
  refine z_get 0 0 hC bl_X5 (ci := 5) rfl (by decide) rfl bw_67 rfl rfl dX5_takes_9 ?_
  refine z_iload_n hC dX5_takes_12 rfl ?_
  refine z_bipush (v := 6) hC dX5_takes_13 (by decide) ?_
  refine z_iaddN (0 + 20 + 7 * m0) (6) hC dX5_takes_15 ?_
  refine z_ialdN (0 + 20 + 7 * m0 + 6) 1 0 hC rfl rfl (by decide) (by omega) dX5_takes_16 ?_
  refine z_top (hK.1) ?_
  refine z_callS [] hC (c_X5_storeAt l D ct 0 m0 (mdK κ 0 m0)) bw_282 bw_283 bw_5 bw_284 3 (by decide +kernel) rfl rfl rfl ⟨Nat.le_of_ble_eq_true rfl, Nat.le_of_ble_eq_true rfl⟩ (Nat.le_of_ble_eq_true rfl) ⟨Nat.le_of_ble_eq_true rfl, Nat.le_of_ble_eq_true rfl⟩ rfl dX5_takes_17 ?_
  refine zkq (G := fun v1 w1 => zG p l e _ s m args below meth c D _ _ _ _ _ _ _ (v1.toList ++ _) w1) rfl ?_
  refine z_istore hC dX5_takes_20 (by decide) rfl ?_
  obtain ⟨π, hπ⟩ : ∃ zz_, zz_ = 0 + 90 + 5 * (6 * m0 + mdK κ 0 m0) := ⟨_, rfl⟩
  rw [← hπ]
  have hπ1 : π + 4 < 5520 := by omega
  refine z_aload_n hC dX5_takes_22 rfl ?_
  refine z_get 0 0 hC bl_X5 (ci := 5) rfl (by decide) rfl bw_67 rfl rfl dX5_takes_23 ?_
  refine z_iload hC dX5_takes_26 rfl ?_
  refine z_iload_n hC dX5_takes_28 rfl ?_
  refine z_iastN (π) 1 0 hC rfl rfl (by decide) (by omega) dX5_takes_29 (w2 := cM q (u2 κ 1 π (nI m0)) ct) cM_a1 ?_
  obtain ⟨κ1, eκ1⟩ : ∃ zz_, zz_ = u2 κ 1 π (nI m0) := ⟨_, rfl⟩
  rw [← eκ1]
  refine z_aload_n hC dX5_takes_30 rfl ?_
  refine z_get 0 0 hC bl_X5 (ci := 5) rfl (by decide) rfl bw_67 rfl rfl dX5_takes_31 ?_
  refine z_iload hC dX5_takes_34 rfl ?_
  refine z_iconst (v := 1) hC dX5_takes_36 (by decide) ?_
  refine z_iaddN (π) (1) hC dX5_takes_37 ?_
  refine z_aload_n hC dX5_takes_38 rfl ?_
  refine z_get 0 0 hC bl_X5 (ci := 5) rfl (by decide) rfl bw_67 rfl rfl dX5_takes_39 ?_
  refine z_iload_n hC dX5_takes_42 rfl ?_
  refine z_iconst (v := 5) hC dX5_takes_43 (by decide) ?_
  refine z_iaddN (0 + 20 + 7 * m0) (5) hC dX5_takes_44 ?_
  refine z_ialdN (0 + 20 + 7 * m0 + 5) 1 0 hC rfl rfl (by decide) (by omega) dX5_takes_45 ?_
  refine z_iastN (π + 1) 1 0 hC rfl rfl (by decide) (by omega) dX5_takes_46 (w2 := cM q (u2 κ1 1 (π + 1) (κ1 1 (0 + 20 + 7 * m0 + 5))) ct) cM_a1 ?_
  obtain ⟨κ2, eκ2⟩ : ∃ zz_, zz_ = u2 κ1 1 (π + 1) (κ1 1 (0 + 20 + 7 * m0 + 5)) := ⟨_, rfl⟩
  rw [← eκ2]
  refine z_aload_n hC dX5_takes_47 rfl ?_
  refine z_get 0 0 hC bl_X5 (ci := 5) rfl (by decide) rfl bw_67 rfl rfl dX5_takes_48 ?_
  refine z_iload hC dX5_takes_51 rfl ?_
  refine z_iconst (v := 2) hC dX5_takes_53 (by decide) ?_
  refine z_iaddN (π) (2) hC dX5_takes_54 ?_
  refine z_iload_n hC dX5_takes_55 rfl ?_
  refine z_iastN (π + 2) 1 0 hC rfl rfl (by decide) (by omega) dX5_takes_56 (w2 := cM q (u2 κ2 1 (π + 2) v) ct) cM_a1 ?_
  obtain ⟨κ3, eκ3⟩ : ∃ zz_, zz_ = u2 κ2 1 (π + 2) v := ⟨_, rfl⟩
  rw [← eκ3]
  refine z_aload_n hC dX5_takes_57 rfl ?_
  refine z_get 0 0 hC bl_X5 (ci := 5) rfl (by decide) rfl bw_67 rfl rfl dX5_takes_58 ?_
  refine z_iload hC dX5_takes_61 rfl ?_
  refine z_iconst (v := 3) hC dX5_takes_63 (by decide) ?_
  refine z_iaddN (π) (3) hC dX5_takes_64 ?_
  refine z_aload_n hC dX5_takes_65 rfl ?_
  refine z_get 0 0 hC bl_X5 (ci := 5) rfl (by decide) rfl bw_67 rfl rfl dX5_takes_66 ?_
  refine z_bipush (v := 12) hC dX5_takes_69 (by decide) ?_
  refine z_ialdN (12) 1 0 hC rfl rfl (by decide) (by omega) dX5_takes_71 ?_
  refine z_iastN (π + 3) 1 0 hC rfl rfl (by decide) (by omega) dX5_takes_72 (w2 := cM q (u2 κ3 1 (π + 3) (κ3 1 12)) ct) cM_a1 ?_
  obtain ⟨κ4, eκ4⟩ : ∃ zz_, zz_ = u2 κ3 1 (π + 3) (κ3 1 12) := ⟨_, rfl⟩
  rw [← eκ4]
  refine z_aload_n hC dX5_takes_73 rfl ?_
  refine z_get 0 0 hC bl_X5 (ci := 5) rfl (by decide) rfl bw_67 rfl rfl dX5_takes_74 ?_
  refine z_iload hC dX5_takes_77 rfl ?_
  refine z_iconst (v := 4) hC dX5_takes_79 (by decide) ?_
  refine z_iaddN (π) (4) hC dX5_takes_80 ?_
  refine z_aload_n hC dX5_takes_81 rfl ?_
  refine z_get 0 0 hC bl_X5 (ci := 5) rfl (by decide) rfl bw_67 rfl rfl dX5_takes_82 ?_
  refine z_bipush (v := 12) hC dX5_takes_85 (by decide) ?_
  refine z_ialdN (12) 1 0 hC rfl rfl (by decide) (by omega) dX5_takes_87 ?_
  refine z_aload_n hC dX5_takes_88 rfl ?_
  refine z_get 0 0 hC bl_X5 (ci := 5) rfl (by decide) rfl bw_67 rfl rfl dX5_takes_89 ?_
  refine z_iload_n hC dX5_takes_92 rfl ?_
  refine z_iconst (v := 0) hC dX5_takes_93 (by decide) ?_
  refine z_iaddN (0 + 20 + 7 * m0) (0) hC dX5_takes_94 ?_
  refine z_ialdN (0 + 20 + 7 * m0 + 0) 1 0 hC rfl rfl (by decide) (by omega) dX5_takes_95 ?_
  refine z_iadd hC dX5_takes_96 ?_
  refine z_iastN (π + 4) 1 0 hC rfl rfl (by decide) (by omega) dX5_takes_97 (w2 := cM q (u2 κ4 1 (π + 4) ((κ4 1 12) + (κ4 1 (0 + 20 + 7 * m0 + 0)))) ct) cM_a1 ?_
  obtain ⟨κ5, eκ5⟩ : ∃ zz_, zz_ = u2 κ4 1 (π + 4) ((κ4 1 12) + (κ4 1 (0 + 20 + 7 * m0 + 0))) := ⟨_, rfl⟩
  rw [← eκ5]
  refine z_aload_n hC dX5_takes_98 rfl ?_
  refine z_get 0 0 hC bl_X5 (ci := 5) rfl (by decide) rfl bw_67 rfl rfl dX5_takes_99 ?_
  refine z_iload_n hC dX5_takes_102 rfl ?_
  refine z_bipush (v := 6) hC dX5_takes_103 (by decide) ?_
  refine z_iaddN (0 + 20 + 7 * m0) (6) hC dX5_takes_105 ?_
  refine z_dup2 hC dX5_takes_106 rfl rfl ?_
  refine z_ialdN (0 + 20 + 7 * m0 + 6) 1 0 hC rfl rfl (by decide) (by omega) dX5_takes_107 ?_
  refine z_iconst (v := 1) hC dX5_takes_108 (by decide) ?_
  refine z_iadd hC dX5_takes_109 ?_
  refine z_iastN (0 + 20 + 7 * m0 + 6) 1 0 hC rfl rfl (by decide) (by omega) dX5_takes_110 (w2 := cM q (u2 κ5 1 (0 + 20 + 7 * m0 + 6) ((κ5 1 (0 + 20 + 7 * m0 + 6)) + 1)) ct) cM_a1 ?_
  obtain ⟨κ6, eκ6⟩ : ∃ zz_, zz_ = u2 κ5 1 (0 + 20 + 7 * m0 + 6) ((κ5 1 (0 + 20 + 7 * m0 + 6)) + 1) := ⟨_, rfl⟩
  rw [← eκ6]
  refine z_aload_n hC dX5_takes_111 rfl ?_
  refine z_get 0 0 hC bl_X5 (ci := 5) rfl (by decide) rfl bw_67 rfl rfl dX5_takes_112 ?_
  refine z_iload_n hC dX5_takes_115 rfl ?_
  refine z_iconst (v := 5) hC dX5_takes_116 (by decide) ?_
  refine z_iaddN (0 + 20 + 7 * m0) (5) hC dX5_takes_117 ?_
  refine z_dup2 hC dX5_takes_118 rfl rfl ?_
  refine z_ialdN (0 + 20 + 7 * m0 + 5) 1 0 hC rfl rfl (by decide) (by omega) dX5_takes_119 ?_
  refine z_iconst (v := 1) hC dX5_takes_120 (by decide) ?_
  refine z_iadd hC dX5_takes_121 ?_
  refine z_iastN (0 + 20 + 7 * m0 + 5) 1 0 hC rfl rfl (by decide) (by omega) dX5_takes_122 (w2 := cM q (u2 κ6 1 (0 + 20 + 7 * m0 + 5) ((κ6 1 (0 + 20 + 7 * m0 + 5)) + 1)) ct) cM_a1 ?_
  obtain ⟨κ7, eκ7⟩ : ∃ zz_, zz_ = u2 κ6 1 (0 + 20 + 7 * m0 + 5) ((κ6 1 (0 + 20 + 7 * m0 + 5)) + 1) := ⟨_, rfl⟩
  rw [← eκ7]
  refine z_aload_n hC dX5_takes_123 rfl ?_
  refine z_get 0 0 hC bl_X5 (ci := 5) rfl (by decide) rfl bw_67 rfl rfl dX5_takes_124 ?_
  refine z_bipush (v := 13) hC dX5_takes_127 (by decide) ?_
  refine z_dup2 hC dX5_takes_129 rfl rfl ?_
  refine z_ialdN (13) 1 0 hC rfl rfl (by decide) (by omega) dX5_takes_130 ?_
  refine z_iconst (v := 1) hC dX5_takes_131 (by decide) ?_
  refine z_iadd hC dX5_takes_132 ?_
  refine z_iastN (13) 1 0 hC rfl rfl (by decide) (by omega) dX5_takes_133 (w2 := cM q (u2 κ7 1 13 ((κ7 1 13) + 1)) ct) cM_a1 ?_
  obtain ⟨κ8, eκ8⟩ : ∃ zz_, zz_ = u2 κ7 1 13 ((κ7 1 13) + 1) := ⟨_, rfl⟩
  rw [← eκ8]
  refine z_aload_n hC dX5_takes_134 rfl ?_
  refine z_get 0 0 hC bl_X5 (ci := 5) rfl (by decide) rfl bw_67 rfl rfl dX5_takes_135 ?_
  refine z_iload_n hC dX5_takes_138 rfl ?_
  refine z_iconst (v := 5) hC dX5_takes_139 (by decide) ?_
  refine z_iaddN (0 + 20 + 7 * m0) (5) hC dX5_takes_140 ?_
  refine z_ialdN (0 + 20 + 7 * m0 + 5) 1 0 hC rfl rfl (by decide) (by omega) dX5_takes_141 ?_
  refine z_iconst (v := 1) hC dX5_takes_142 (by decide) ?_
  refine z_isub hC dX5_takes_143 ?_
  exact z_iretd hC hr dX5_takes_144 (Nat.zero_le _) (Nat.zero_le _) (by subst eκ8; subst eκ7; subst eκ6; subst eκ5; subst eκ4; subst eκ3; subst eκ2; subst eκ1; subst hπ; rfl) (by subst eκ8; subst eκ7; subst eκ6; subst eκ5; subst eκ4; subst eκ3; subst eκ2; subst eκ1; subst hπ; rfl) cM_adr
