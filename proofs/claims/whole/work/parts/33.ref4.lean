theorem z_ls {p : Program} {l : Launch} {e : Env} {R : Room} {s : State} {m : MethodId} {args : Array Value} {below : List Frame} {meth : Method} {c : Code} {D : va_G} {A : Nat → Prop} {nL : Nat} {Q : State → Prop} {cells slots pc : Nat} {ls ls2 : List (Option Value)} {st : List Value} {w : va_W} (h : ls = ls2) (k : zG p l e R s m args below meth c D A nL Q cells slots pc ls2 st w) : zG p l e R s m args below meth c D A nL Q cells slots pc ls st w := h ▸ k
theorem meterI {i : Nat} (h0 : 0 < i) (h : i < 10) : mMeter (nI i) = true := by
  unfold mMeter
  rw [nodeI h, decide_eq_true (nI_ne0 h0 (by omega))]
  rfl
theorem bI_t {b : Bool} (h : b = true) : bI b = 1 := by rw [h]; rfl
theorem bI_f {b : Bool} (h : b = false) : bI b = 0 := by rw [h]; rfl
def mdThr (κ : Nat → Nat → Int32) (k : Int32) : Nat → Nat → Int32 := u2 κ 0 2 k
def mdSc : Nat → Nat → (Nat → Nat → Int32) → Int32 × (Nat → Nat → Int32)
  | 0, _, κ => (-1, κ)
  | k + 1, i, κ => if κ 1 (4830 + 13) = κ 1 (4830 + 19) then (nI i, κ) else mdSc k (i + 1) (mdSlot κ 4830)
set_option maxRecDepth 100000 in
set_option maxHeartbeats 1000000 in
theorem c_X5_parent_ok (l : Launch) (D : va_G) (ct : Nat → ClassId) (q : Nat → Nat) (κ : Nat → Nat → Int32) (n : Nat) (hn : n < 10) : zT l D ct yX5_parent cX5_parent 2 (some .int) 2 42 0 0 [.ref (q 0), .int (nI n)] (cM q κ ct) (zd (some (.int (κ 1 (0 + 20 + 7 * n + 1)))) (cM q (u2 κ 0 2 0) ct)) := by
  refine zT_of ([some (.ref (q 0)), some (.int (nI n))]) (by decide +kernel) rfl (Nat.le_of_ble_eq_true rfl) ?_
  intro p e s m args below meth c hC hr hnm
  refine z_aload_n hC dX5_parent_0 rfl ?_
  refine z_iload_n hC dX5_parent_1 rfl ?_
  refine z_callS [] hC (c_X5_isNode l D ct (nI n)) bw_137 bw_138 bw_5 bw_139 1 (by decide +kernel) rfl rfl rfl ⟨Nat.le_of_ble_eq_true rfl, Nat.le_of_ble_eq_true rfl⟩ (Nat.le_of_ble_eq_true rfl) ⟨Nat.le_of_ble_eq_true rfl, Nat.le_of_ble_eq_true rfl⟩ rfl dX5_parent_2 ?_
  refine zkq (G := fun v1 w1 => zG p l e _ s m args below meth c D _ _ _ _ _ _ _ (v1.toList ++ _) w1) rfl ?_
  refine z_top (bI_t (nodeI hn)) ?_
  refine z_iconst (v := 1) hC dX5_parent_5 (by decide) ?_
  refine z_iconst (v := 1) hC dX5_parent_6 (by decide) ?_
  refine z_callV [0, 1, 2, 3] 0 5 hC (c_X5_goes l D ct q κ 1 1 1 0 rfl) bw_143 bw_144 bw_145 bw_5 bw_146 3 (by decide +kernel) rfl rfl rfl rfl rfl ⟨Nat.le_of_ble_eq_true rfl, Nat.le_of_ble_eq_true rfl⟩ (Nat.le_of_ble_eq_true rfl) ⟨Nat.le_of_ble_eq_true rfl, Nat.le_of_ble_eq_true rfl⟩ rfl dX5_parent_7 ?_
  refine zkd (G := fun v1 w1 => zG p l e _ s m args below meth c D _ _ _ _ _ _ _ (v1.toList ++ _) w1) (w2 := cM q (u2 κ 0 2 0) ct) cM_all ?_
  obtain ⟨κ1, eκ1⟩ : ∃ zz_, zz_ = (u2 κ 0 2 0) := ⟨_, rfl⟩
  rw [← eκ1]
  refine z_top (y := 1) (by decide) ?_
  refine z_if_eq hC 28 dX5_parent_10 (by decide) (fun cn2 => absurd cn2 (by decide)) (fun cn2 => ?_)
  refine z_aload_n hC dX5_parent_13 rfl ?_
  refine z_get 0 0 hC bl_X5 (ci := 5) rfl (by decide) rfl bw_67 rfl rfl dX5_parent_14 ?_
  refine z_iconst (v := 0) hC dX5_parent_17 (by decide) ?_
  refine z_iload_n hC dX5_parent_18 rfl ?_
  refine z_callS [] hC (c_X5_at l D ct 0 n) bw_70 bw_71 bw_5 bw_72 2 (by decide +kernel) rfl rfl rfl ⟨Nat.le_of_ble_eq_true rfl, Nat.le_of_ble_eq_true rfl⟩ (Nat.le_of_ble_eq_true rfl) ⟨Nat.le_of_ble_eq_true rfl, Nat.le_of_ble_eq_true rfl⟩ rfl dX5_parent_19 ?_
  refine zkq (G := fun v1 w1 => zG p l e _ s m args below meth c D _ _ _ _ _ _ _ (v1.toList ++ _) w1) rfl ?_
  refine z_iconst (v := 1) hC dX5_parent_22 (by decide) ?_
  refine z_iaddN (0 + 20 + 7 * n) (1) hC dX5_parent_23 ?_
  refine z_ialdN (0 + 20 + 7 * n + 1) 1 0 hC rfl rfl (by decide) (by omega) dX5_parent_24 ?_
  refine z_goto hC 29 dX5_parent_25 (by decide) ?_
  exact z_iretd hC hr dX5_parent_29 (Nat.zero_le _) (Nat.zero_le _) (by subst eκ1; rfl) (by subst eκ1; rfl) cM_adr

set_option maxRecDepth 100000 in
set_option maxHeartbeats 1000000 in
theorem c_X5_parent_no1 (l : Launch) (D : va_G) (ct : Nat → ClassId) (q : Nat → Nat) (κ : Nat → Nat → Int32) (n : Int32) (hx : mNode n = false) : zT l D ct yX5_parent cX5_parent 2 (some .int) 2 42 0 0 [.ref (q 0), .int n] (cM q κ ct) (zd (some (.int 0)) (cM q (u2 κ 0 2 1) ct)) := by
  refine zT_of ([some (.ref (q 0)), some (.int n)]) (by decide +kernel) rfl (Nat.le_of_ble_eq_true rfl) ?_
  intro p e s m args below meth c hC hr hnm
  refine z_aload_n hC dX5_parent_0 rfl ?_
  refine z_iload_n hC dX5_parent_1 rfl ?_
  refine z_callS [] hC (c_X5_isNode l D ct n) bw_137 bw_138 bw_5 bw_139 1 (by decide +kernel) rfl rfl rfl ⟨Nat.le_of_ble_eq_true rfl, Nat.le_of_ble_eq_true rfl⟩ (Nat.le_of_ble_eq_true rfl) ⟨Nat.le_of_ble_eq_true rfl, Nat.le_of_ble_eq_true rfl⟩ rfl dX5_parent_2 ?_
  refine zkq (G := fun v1 w1 => zG p l e _ s m args below meth c D _ _ _ _ _ _ _ (v1.toList ++ _) w1) rfl ?_
  refine z_top (bI_f hx) ?_
  refine z_iconst (v := 1) hC dX5_parent_5 (by decide) ?_
  refine z_iconst (v := 1) hC dX5_parent_6 (by decide) ?_
  refine z_callV [0, 1, 2, 3] 0 5 hC (c_X5_goes l D ct q κ 0 1 1 1 rfl) bw_143 bw_144 bw_145 bw_5 bw_146 3 (by decide +kernel) rfl rfl rfl rfl rfl ⟨Nat.le_of_ble_eq_true rfl, Nat.le_of_ble_eq_true rfl⟩ (Nat.le_of_ble_eq_true rfl) ⟨Nat.le_of_ble_eq_true rfl, Nat.le_of_ble_eq_true rfl⟩ rfl dX5_parent_7 ?_
  refine zkd (G := fun v1 w1 => zG p l e _ s m args below meth c D _ _ _ _ _ _ _ (v1.toList ++ _) w1) (w2 := cM q (u2 κ 0 2 1) ct) cM_all ?_
  obtain ⟨κ1, eκ1⟩ : ∃ zz_, zz_ = (u2 κ 0 2 1) := ⟨_, rfl⟩
  rw [← eκ1]
  refine z_top (y := 0) (by decide) ?_
  refine z_if_eq hC 28 dX5_parent_10 (by decide) (fun cn2 => ?_) (fun cn2 => absurd cn2 (by decide))
  refine z_iconst (v := 0) hC dX5_parent_28 (by decide) ?_
  exact z_iretd hC hr dX5_parent_29 (Nat.zero_le _) (Nat.zero_le _) (by subst eκ1; rfl) (by subst eκ1; rfl) cM_adr

set_option maxRecDepth 100000 in
set_option maxHeartbeats 1000000 in
theorem c_X5_depth_ok (l : Launch) (D : va_G) (ct : Nat → ClassId) (q : Nat → Nat) (κ : Nat → Nat → Int32) (n : Nat) (hn : n < 10) : zT l D ct yX5_depth cX5_depth 2 (some .int) 2 42 0 0 [.ref (q 0), .int (nI n)] (cM q κ ct) (zd (some (.int (κ 1 (0 + 20 + 7 * n + 2)))) (cM q (u2 κ 0 2 0) ct)) := by
  refine zT_of ([some (.ref (q 0)), some (.int (nI n))]) (by decide +kernel) rfl (Nat.le_of_ble_eq_true rfl) ?_
  intro p e s m args below meth c hC hr hnm
  refine z_aload_n hC dX5_depth_0 rfl ?_
  refine z_iload_n hC dX5_depth_1 rfl ?_
  refine z_callS [] hC (c_X5_isNode l D ct (nI n)) bw_137 bw_138 bw_5 bw_139 1 (by decide +kernel) rfl rfl rfl ⟨Nat.le_of_ble_eq_true rfl, Nat.le_of_ble_eq_true rfl⟩ (Nat.le_of_ble_eq_true rfl) ⟨Nat.le_of_ble_eq_true rfl, Nat.le_of_ble_eq_true rfl⟩ rfl dX5_depth_2 ?_
  refine zkq (G := fun v1 w1 => zG p l e _ s m args below meth c D _ _ _ _ _ _ _ (v1.toList ++ _) w1) rfl ?_
  refine z_top (bI_t (nodeI hn)) ?_
  refine z_iconst (v := 1) hC dX5_depth_5 (by decide) ?_
  refine z_iconst (v := 1) hC dX5_depth_6 (by decide) ?_
  refine z_callV [0, 1, 2, 3] 0 5 hC (c_X5_goes l D ct q κ 1 1 1 0 rfl) bw_143 bw_144 bw_145 bw_5 bw_146 3 (by decide +kernel) rfl rfl rfl rfl rfl ⟨Nat.le_of_ble_eq_true rfl, Nat.le_of_ble_eq_true rfl⟩ (Nat.le_of_ble_eq_true rfl) ⟨Nat.le_of_ble_eq_true rfl, Nat.le_of_ble_eq_true rfl⟩ rfl dX5_depth_7 ?_
  refine zkd (G := fun v1 w1 => zG p l e _ s m args below meth c D _ _ _ _ _ _ _ (v1.toList ++ _) w1) (w2 := cM q (u2 κ 0 2 0) ct) cM_all ?_
  obtain ⟨κ1, eκ1⟩ : ∃ zz_, zz_ = (u2 κ 0 2 0) := ⟨_, rfl⟩
  rw [← eκ1]
  refine z_top (y := 1) (by decide) ?_
  refine z_if_eq hC 28 dX5_depth_10 (by decide) (fun cn2 => absurd cn2 (by decide)) (fun cn2 => ?_)
  refine z_aload_n hC dX5_depth_13 rfl ?_
  refine z_get 0 0 hC bl_X5 (ci := 5) rfl (by decide) rfl bw_67 rfl rfl dX5_depth_14 ?_
  refine z_iconst (v := 0) hC dX5_depth_17 (by decide) ?_
  refine z_iload_n hC dX5_depth_18 rfl ?_
  refine z_callS [] hC (c_X5_at l D ct 0 n) bw_70 bw_71 bw_5 bw_72 2 (by decide +kernel) rfl rfl rfl ⟨Nat.le_of_ble_eq_true rfl, Nat.le_of_ble_eq_true rfl⟩ (Nat.le_of_ble_eq_true rfl) ⟨Nat.le_of_ble_eq_true rfl, Nat.le_of_ble_eq_true rfl⟩ rfl dX5_depth_19 ?_
  refine zkq (G := fun v1 w1 => zG p l e _ s m args below meth c D _ _ _ _ _ _ _ (v1.toList ++ _) w1) rfl ?_
  refine z_iconst (v := 2) hC dX5_depth_22 (by decide) ?_
  refine z_iaddN (0 + 20 + 7 * n) (2) hC dX5_depth_23 ?_
  refine z_ialdN (0 + 20 + 7 * n + 2) 1 0 hC rfl rfl (by decide) (by omega) dX5_depth_24 ?_
  refine z_goto hC 29 dX5_depth_25 (by decide) ?_
  exact z_iretd hC hr dX5_depth_29 (Nat.zero_le _) (Nat.zero_le _) (by subst eκ1; rfl) (by subst eκ1; rfl) cM_adr

set_option maxRecDepth 100000 in
set_option maxHeartbeats 1000000 in
theorem c_X5_depth_no1 (l : Launch) (D : va_G) (ct : Nat → ClassId) (q : Nat → Nat) (κ : Nat → Nat → Int32) (n : Int32) (hx : mNode n = false) : zT l D ct yX5_depth cX5_depth 2 (some .int) 2 42 0 0 [.ref (q 0), .int n] (cM q κ ct) (zd (some (.int 0)) (cM q (u2 κ 0 2 1) ct)) := by
  refine zT_of ([some (.ref (q 0)), some (.int n)]) (by decide +kernel) rfl (Nat.le_of_ble_eq_true rfl) ?_
  intro p e s m args below meth c hC hr hnm
  refine z_aload_n hC dX5_depth_0 rfl ?_
  refine z_iload_n hC dX5_depth_1 rfl ?_
  refine z_callS [] hC (c_X5_isNode l D ct n) bw_137 bw_138 bw_5 bw_139 1 (by decide +kernel) rfl rfl rfl ⟨Nat.le_of_ble_eq_true rfl, Nat.le_of_ble_eq_true rfl⟩ (Nat.le_of_ble_eq_true rfl) ⟨Nat.le_of_ble_eq_true rfl, Nat.le_of_ble_eq_true rfl⟩ rfl dX5_depth_2 ?_
  refine zkq (G := fun v1 w1 => zG p l e _ s m args below meth c D _ _ _ _ _ _ _ (v1.toList ++ _) w1) rfl ?_
  refine z_top (bI_f hx) ?_
  refine z_iconst (v := 1) hC dX5_depth_5 (by decide) ?_
  refine z_iconst (v := 1) hC dX5_depth_6 (by decide) ?_
  refine z_callV [0, 1, 2, 3] 0 5 hC (c_X5_goes l D ct q κ 0 1 1 1 rfl) bw_143 bw_144 bw_145 bw_5 bw_146 3 (by decide +kernel) rfl rfl rfl rfl rfl ⟨Nat.le_of_ble_eq_true rfl, Nat.le_of_ble_eq_true rfl⟩ (Nat.le_of_ble_eq_true rfl) ⟨Nat.le_of_ble_eq_true rfl, Nat.le_of_ble_eq_true rfl⟩ rfl dX5_depth_7 ?_
  refine zkd (G := fun v1 w1 => zG p l e _ s m args below meth c D _ _ _ _ _ _ _ (v1.toList ++ _) w1) (w2 := cM q (u2 κ 0 2 1) ct) cM_all ?_
  obtain ⟨κ1, eκ1⟩ : ∃ zz_, zz_ = (u2 κ 0 2 1) := ⟨_, rfl⟩
  rw [← eκ1]
  refine z_top (y := 0) (by decide) ?_
  refine z_if_eq hC 28 dX5_depth_10 (by decide) (fun cn2 => ?_) (fun cn2 => absurd cn2 (by decide))
  refine z_iconst (v := 0) hC dX5_depth_28 (by decide) ?_
  exact z_iretd hC hr dX5_depth_29 (Nat.zero_le _) (Nat.zero_le _) (by subst eκ1; rfl) (by subst eκ1; rfl) cM_adr

set_option maxRecDepth 100000 in
set_option maxHeartbeats 1000000 in
theorem c_X5_faults_ok (l : Launch) (D : va_G) (ct : Nat → ClassId) (q : Nat → Nat) (κ : Nat → Nat → Int32) (n : Nat) (h0 : 0 < n) (hn : n < 10) : zT l D ct yX5_faults cX5_faults 2 (some .int) 2 42 0 0 [.ref (q 0), .int (nI n)] (cM q κ ct) (zd (some (.int (κ 1 (0 + 20 + 7 * n + 4)))) (cM q (u2 κ 0 2 0) ct)) := by
  refine zT_of ([some (.ref (q 0)), some (.int (nI n))]) (by decide +kernel) rfl (Nat.le_of_ble_eq_true rfl) ?_
  intro p e s m args below meth c hC hr hnm
  refine z_aload_n hC dX5_faults_0 rfl ?_
  refine z_iload_n hC dX5_faults_1 rfl ?_
  refine z_callS [] hC (c_X5_isMeter l D ct (nI n)) bw_206 bw_207 bw_5 bw_208 1 (by decide +kernel) rfl rfl rfl ⟨Nat.le_of_ble_eq_true rfl, Nat.le_of_ble_eq_true rfl⟩ (Nat.le_of_ble_eq_true rfl) ⟨Nat.le_of_ble_eq_true rfl, Nat.le_of_ble_eq_true rfl⟩ rfl dX5_faults_2 ?_
  refine zkq (G := fun v1 w1 => zG p l e _ s m args below meth c D _ _ _ _ _ _ _ (v1.toList ++ _) w1) rfl ?_
  refine z_top (bI_t (meterI h0 hn)) ?_
  refine z_iconst (v := 1) hC dX5_faults_5 (by decide) ?_
  refine z_iconst (v := 1) hC dX5_faults_6 (by decide) ?_
  refine z_callV [0, 1, 2, 3] 0 5 hC (c_X5_goes l D ct q κ 1 1 1 0 rfl) bw_143 bw_144 bw_145 bw_5 bw_146 3 (by decide +kernel) rfl rfl rfl rfl rfl ⟨Nat.le_of_ble_eq_true rfl, Nat.le_of_ble_eq_true rfl⟩ (Nat.le_of_ble_eq_true rfl) ⟨Nat.le_of_ble_eq_true rfl, Nat.le_of_ble_eq_true rfl⟩ rfl dX5_faults_7 ?_
  refine zkd (G := fun v1 w1 => zG p l e _ s m args below meth c D _ _ _ _ _ _ _ (v1.toList ++ _) w1) (w2 := cM q (u2 κ 0 2 0) ct) cM_all ?_
  obtain ⟨κ1, eκ1⟩ : ∃ zz_, zz_ = (u2 κ 0 2 0) := ⟨_, rfl⟩
  rw [← eκ1]
  refine z_top (y := 1) (by decide) ?_
  refine z_if_eq hC 28 dX5_faults_10 (by decide) (fun cn2 => absurd cn2 (by decide)) (fun cn2 => ?_)
  refine z_aload_n hC dX5_faults_13 rfl ?_
  refine z_get 0 0 hC bl_X5 (ci := 5) rfl (by decide) rfl bw_67 rfl rfl dX5_faults_14 ?_
  refine z_iconst (v := 0) hC dX5_faults_17 (by decide) ?_
  refine z_iload_n hC dX5_faults_18 rfl ?_
  refine z_callS [] hC (c_X5_at l D ct 0 n) bw_70 bw_71 bw_5 bw_72 2 (by decide +kernel) rfl rfl rfl ⟨Nat.le_of_ble_eq_true rfl, Nat.le_of_ble_eq_true rfl⟩ (Nat.le_of_ble_eq_true rfl) ⟨Nat.le_of_ble_eq_true rfl, Nat.le_of_ble_eq_true rfl⟩ rfl dX5_faults_19 ?_
  refine zkq (G := fun v1 w1 => zG p l e _ s m args below meth c D _ _ _ _ _ _ _ (v1.toList ++ _) w1) rfl ?_
  refine z_iconst (v := 4) hC dX5_faults_22 (by decide) ?_
  refine z_iaddN (0 + 20 + 7 * n) (4) hC dX5_faults_23 ?_
  refine z_ialdN (0 + 20 + 7 * n + 4) 1 0 hC rfl rfl (by decide) (by omega) dX5_faults_24 ?_
  refine z_goto hC 29 dX5_faults_25 (by decide) ?_
  exact z_iretd hC hr dX5_faults_29 (Nat.zero_le _) (Nat.zero_le _) (by subst eκ1; rfl) (by subst eκ1; rfl) cM_adr

set_option maxRecDepth 100000 in
set_option maxHeartbeats 1000000 in
theorem c_X5_faults_no1 (l : Launch) (D : va_G) (ct : Nat → ClassId) (q : Nat → Nat) (κ : Nat → Nat → Int32) (n : Int32) (hx : mMeter n = false) : zT l D ct yX5_faults cX5_faults 2 (some .int) 2 42 0 0 [.ref (q 0), .int n] (cM q κ ct) (zd (some (.int 0)) (cM q (u2 κ 0 2 1) ct)) := by
  refine zT_of ([some (.ref (q 0)), some (.int n)]) (by decide +kernel) rfl (Nat.le_of_ble_eq_true rfl) ?_
  intro p e s m args below meth c hC hr hnm
  refine z_aload_n hC dX5_faults_0 rfl ?_
  refine z_iload_n hC dX5_faults_1 rfl ?_
  refine z_callS [] hC (c_X5_isMeter l D ct n) bw_206 bw_207 bw_5 bw_208 1 (by decide +kernel) rfl rfl rfl ⟨Nat.le_of_ble_eq_true rfl, Nat.le_of_ble_eq_true rfl⟩ (Nat.le_of_ble_eq_true rfl) ⟨Nat.le_of_ble_eq_true rfl, Nat.le_of_ble_eq_true rfl⟩ rfl dX5_faults_2 ?_
  refine zkq (G := fun v1 w1 => zG p l e _ s m args below meth c D _ _ _ _ _ _ _ (v1.toList ++ _) w1) rfl ?_
  refine z_top (bI_f hx) ?_
  refine z_iconst (v := 1) hC dX5_faults_5 (by decide) ?_
  refine z_iconst (v := 1) hC dX5_faults_6 (by decide) ?_
  refine z_callV [0, 1, 2, 3] 0 5 hC (c_X5_goes l D ct q κ 0 1 1 1 rfl) bw_143 bw_144 bw_145 bw_5 bw_146 3 (by decide +kernel) rfl rfl rfl rfl rfl ⟨Nat.le_of_ble_eq_true rfl, Nat.le_of_ble_eq_true rfl⟩ (Nat.le_of_ble_eq_true rfl) ⟨Nat.le_of_ble_eq_true rfl, Nat.le_of_ble_eq_true rfl⟩ rfl dX5_faults_7 ?_
  refine zkd (G := fun v1 w1 => zG p l e _ s m args below meth c D _ _ _ _ _ _ _ (v1.toList ++ _) w1) (w2 := cM q (u2 κ 0 2 1) ct) cM_all ?_
  obtain ⟨κ1, eκ1⟩ : ∃ zz_, zz_ = (u2 κ 0 2 1) := ⟨_, rfl⟩
  rw [← eκ1]
  refine z_top (y := 0) (by decide) ?_
  refine z_if_eq hC 28 dX5_faults_10 (by decide) (fun cn2 => ?_) (fun cn2 => absurd cn2 (by decide))
  refine z_iconst (v := 0) hC dX5_faults_28 (by decide) ?_
  exact z_iretd hC hr dX5_faults_29 (Nat.zero_le _) (Nat.zero_le _) (by subst eκ1; rfl) (by subst eκ1; rfl) cM_adr

set_option maxRecDepth 100000 in
set_option maxHeartbeats 1000000 in
theorem c_X5_stored_ok (l : Launch) (D : va_G) (ct : Nat → ClassId) (q : Nat → Nat) (κ : Nat → Nat → Int32) (n : Nat) (h0 : 0 < n) (hn : n < 10) : zT l D ct yX5_stored cX5_stored 2 (some .int) 2 42 0 0 [.ref (q 0), .int (nI n)] (cM q κ ct) (zd (some (.int (κ 1 (0 + 20 + 7 * n + 6)))) (cM q (u2 κ 0 2 0) ct)) := by
  refine zT_of ([some (.ref (q 0)), some (.int (nI n))]) (by decide +kernel) rfl (Nat.le_of_ble_eq_true rfl) ?_
  intro p e s m args below meth c hC hr hnm
  refine z_aload_n hC dX5_stored_0 rfl ?_
  refine z_iload_n hC dX5_stored_1 rfl ?_
  refine z_callS [] hC (c_X5_isMeter l D ct (nI n)) bw_206 bw_207 bw_5 bw_208 1 (by decide +kernel) rfl rfl rfl ⟨Nat.le_of_ble_eq_true rfl, Nat.le_of_ble_eq_true rfl⟩ (Nat.le_of_ble_eq_true rfl) ⟨Nat.le_of_ble_eq_true rfl, Nat.le_of_ble_eq_true rfl⟩ rfl dX5_stored_2 ?_
  refine zkq (G := fun v1 w1 => zG p l e _ s m args below meth c D _ _ _ _ _ _ _ (v1.toList ++ _) w1) rfl ?_
  refine z_top (bI_t (meterI h0 hn)) ?_
  refine z_iconst (v := 1) hC dX5_stored_5 (by decide) ?_
  refine z_iconst (v := 1) hC dX5_stored_6 (by decide) ?_
  refine z_callV [0, 1, 2, 3] 0 5 hC (c_X5_goes l D ct q κ 1 1 1 0 rfl) bw_143 bw_144 bw_145 bw_5 bw_146 3 (by decide +kernel) rfl rfl rfl rfl rfl ⟨Nat.le_of_ble_eq_true rfl, Nat.le_of_ble_eq_true rfl⟩ (Nat.le_of_ble_eq_true rfl) ⟨Nat.le_of_ble_eq_true rfl, Nat.le_of_ble_eq_true rfl⟩ rfl dX5_stored_7 ?_
  refine zkd (G := fun v1 w1 => zG p l e _ s m args below meth c D _ _ _ _ _ _ _ (v1.toList ++ _) w1) (w2 := cM q (u2 κ 0 2 0) ct) cM_all ?_
  obtain ⟨κ1, eκ1⟩ : ∃ zz_, zz_ = (u2 κ 0 2 0) := ⟨_, rfl⟩
  rw [← eκ1]
  refine z_top (y := 1) (by decide) ?_
  refine z_if_eq hC 29 dX5_stored_10 (by decide) (fun cn2 => absurd cn2 (by decide)) (fun cn2 => ?_)
  refine z_aload_n hC dX5_stored_13 rfl ?_
  refine z_get 0 0 hC bl_X5 (ci := 5) rfl (by decide) rfl bw_67 rfl rfl dX5_stored_14 ?_
  refine z_iconst (v := 0) hC dX5_stored_17 (by decide) ?_
  refine z_iload_n hC dX5_stored_18 rfl ?_
  refine z_callS [] hC (c_X5_at l D ct 0 n) bw_70 bw_71 bw_5 bw_72 2 (by decide +kernel) rfl rfl rfl ⟨Nat.le_of_ble_eq_true rfl, Nat.le_of_ble_eq_true rfl⟩ (Nat.le_of_ble_eq_true rfl) ⟨Nat.le_of_ble_eq_true rfl, Nat.le_of_ble_eq_true rfl⟩ rfl dX5_stored_19 ?_
  refine zkq (G := fun v1 w1 => zG p l e _ s m args below meth c D _ _ _ _ _ _ _ (v1.toList ++ _) w1) rfl ?_
  refine z_bipush (v := 6) hC dX5_stored_22 (by decide) ?_
  refine z_iaddN (0 + 20 + 7 * n) (6) hC dX5_stored_24 ?_
  refine z_ialdN (0 + 20 + 7 * n + 6) 1 0 hC rfl rfl (by decide) (by omega) dX5_stored_25 ?_
  refine z_goto hC 30 dX5_stored_26 (by decide) ?_
  exact z_iretd hC hr dX5_stored_30 (Nat.zero_le _) (Nat.zero_le _) (by subst eκ1; rfl) (by subst eκ1; rfl) cM_adr

set_option maxRecDepth 100000 in
set_option maxHeartbeats 1000000 in
theorem c_X5_stored_no1 (l : Launch) (D : va_G) (ct : Nat → ClassId) (q : Nat → Nat) (κ : Nat → Nat → Int32) (n : Int32) (hx : mMeter n = false) : zT l D ct yX5_stored cX5_stored 2 (some .int) 2 42 0 0 [.ref (q 0), .int n] (cM q κ ct) (zd (some (.int 0)) (cM q (u2 κ 0 2 1) ct)) := by
  refine zT_of ([some (.ref (q 0)), some (.int n)]) (by decide +kernel) rfl (Nat.le_of_ble_eq_true rfl) ?_
  intro p e s m args below meth c hC hr hnm
  refine z_aload_n hC dX5_stored_0 rfl ?_
  refine z_iload_n hC dX5_stored_1 rfl ?_
  refine z_callS [] hC (c_X5_isMeter l D ct n) bw_206 bw_207 bw_5 bw_208 1 (by decide +kernel) rfl rfl rfl ⟨Nat.le_of_ble_eq_true rfl, Nat.le_of_ble_eq_true rfl⟩ (Nat.le_of_ble_eq_true rfl) ⟨Nat.le_of_ble_eq_true rfl, Nat.le_of_ble_eq_true rfl⟩ rfl dX5_stored_2 ?_
  refine zkq (G := fun v1 w1 => zG p l e _ s m args below meth c D _ _ _ _ _ _ _ (v1.toList ++ _) w1) rfl ?_
  refine z_top (bI_f hx) ?_
  refine z_iconst (v := 1) hC dX5_stored_5 (by decide) ?_
  refine z_iconst (v := 1) hC dX5_stored_6 (by decide) ?_
  refine z_callV [0, 1, 2, 3] 0 5 hC (c_X5_goes l D ct q κ 0 1 1 1 rfl) bw_143 bw_144 bw_145 bw_5 bw_146 3 (by decide +kernel) rfl rfl rfl rfl rfl ⟨Nat.le_of_ble_eq_true rfl, Nat.le_of_ble_eq_true rfl⟩ (Nat.le_of_ble_eq_true rfl) ⟨Nat.le_of_ble_eq_true rfl, Nat.le_of_ble_eq_true rfl⟩ rfl dX5_stored_7 ?_
  refine zkd (G := fun v1 w1 => zG p l e _ s m args below meth c D _ _ _ _ _ _ _ (v1.toList ++ _) w1) (w2 := cM q (u2 κ 0 2 1) ct) cM_all ?_
  obtain ⟨κ1, eκ1⟩ : ∃ zz_, zz_ = (u2 κ 0 2 1) := ⟨_, rfl⟩
  rw [← eκ1]
  refine z_top (y := 0) (by decide) ?_
  refine z_if_eq hC 29 dX5_stored_10 (by decide) (fun cn2 => ?_) (fun cn2 => absurd cn2 (by decide))
  refine z_iconst (v := 0) hC dX5_stored_29 (by decide) ?_
  exact z_iretd hC hr dX5_stored_30 (Nat.zero_le _) (Nat.zero_le _) (by subst eκ1; rfl) (by subst eκ1; rfl) cM_adr

set_option maxRecDepth 100000 in
set_option maxHeartbeats 1000000 in
theorem c_X5_clock_ok (l : Launch) (D : va_G) (ct : Nat → ClassId) (q : Nat → Nat) (κ : Nat → Nat → Int32) (n : Nat) (hn : n < 10) : zT l D ct yX5_clock cX5_clock 2 (some .int) 2 42 0 0 [.ref (q 0), .int (nI n)] (cM q κ ct) (zd (some (.int (κ 1 12 + κ 1 (0 + 20 + 7 * n + 0)))) (cM q (u2 κ 0 2 0) ct)) := by
  refine zT_of ([some (.ref (q 0)), some (.int (nI n))]) (by decide +kernel) rfl (Nat.le_of_ble_eq_true rfl) ?_
  intro p e s m args below meth c hC hr hnm
  refine z_aload_n hC dX5_clock_0 rfl ?_
  refine z_iload_n hC dX5_clock_1 rfl ?_
  refine z_callS [] hC (c_X5_isNode l D ct (nI n)) bw_137 bw_138 bw_5 bw_139 1 (by decide +kernel) rfl rfl rfl ⟨Nat.le_of_ble_eq_true rfl, Nat.le_of_ble_eq_true rfl⟩ (Nat.le_of_ble_eq_true rfl) ⟨Nat.le_of_ble_eq_true rfl, Nat.le_of_ble_eq_true rfl⟩ rfl dX5_clock_2 ?_
  refine zkq (G := fun v1 w1 => zG p l e _ s m args below meth c D _ _ _ _ _ _ _ (v1.toList ++ _) w1) rfl ?_
  refine z_top (bI_t (nodeI hn)) ?_
  refine z_iconst (v := 1) hC dX5_clock_5 (by decide) ?_
  refine z_iconst (v := 1) hC dX5_clock_6 (by decide) ?_
  refine z_callV [0, 1, 2, 3] 0 5 hC (c_X5_goes l D ct q κ 1 1 1 0 rfl) bw_143 bw_144 bw_145 bw_5 bw_146 3 (by decide +kernel) rfl rfl rfl rfl rfl ⟨Nat.le_of_ble_eq_true rfl, Nat.le_of_ble_eq_true rfl⟩ (Nat.le_of_ble_eq_true rfl) ⟨Nat.le_of_ble_eq_true rfl, Nat.le_of_ble_eq_true rfl⟩ rfl dX5_clock_7 ?_
  refine zkd (G := fun v1 w1 => zG p l e _ s m args below meth c D _ _ _ _ _ _ _ (v1.toList ++ _) w1) (w2 := cM q (u2 κ 0 2 0) ct) cM_all ?_
  obtain ⟨κ1, eκ1⟩ : ∃ zz_, zz_ = (u2 κ 0 2 0) := ⟨_, rfl⟩
  rw [← eκ1]
  refine z_top (y := 1) (by decide) ?_
  refine z_if_eq hC 36 dX5_clock_10 (by decide) (fun cn2 => absurd cn2 (by decide)) (fun cn2 => ?_)
  refine z_aload_n hC dX5_clock_13 rfl ?_
  refine z_get 0 0 hC bl_X5 (ci := 5) rfl (by decide) rfl bw_67 rfl rfl dX5_clock_14 ?_
  refine z_bipush (v := 12) hC dX5_clock_17 (by decide) ?_
  refine z_ialdN (12) 1 0 hC rfl rfl (by decide) (by omega) dX5_clock_19 ?_
  refine z_aload_n hC dX5_clock_20 rfl ?_
  refine z_get 0 0 hC bl_X5 (ci := 5) rfl (by decide) rfl bw_67 rfl rfl dX5_clock_21 ?_
  refine z_iconst (v := 0) hC dX5_clock_24 (by decide) ?_
  refine z_iload_n hC dX5_clock_25 rfl ?_
  refine z_callS [] hC (c_X5_at l D ct 0 n) bw_70 bw_71 bw_5 bw_72 2 (by decide +kernel) rfl rfl rfl ⟨Nat.le_of_ble_eq_true rfl, Nat.le_of_ble_eq_true rfl⟩ (Nat.le_of_ble_eq_true rfl) ⟨Nat.le_of_ble_eq_true rfl, Nat.le_of_ble_eq_true rfl⟩ rfl dX5_clock_26 ?_
  refine zkq (G := fun v1 w1 => zG p l e _ s m args below meth c D _ _ _ _ _ _ _ (v1.toList ++ _) w1) rfl ?_
  refine z_iconst (v := 0) hC dX5_clock_29 (by decide) ?_
  refine z_iaddN (0 + 20 + 7 * n) (0) hC dX5_clock_30 ?_
  refine z_ialdN (0 + 20 + 7 * n + 0) 1 0 hC rfl rfl (by decide) (by omega) dX5_clock_31 ?_
  refine z_iadd hC dX5_clock_32 ?_
  refine z_goto hC 37 dX5_clock_33 (by decide) ?_
  exact z_iretd hC hr dX5_clock_37 (Nat.zero_le _) (Nat.zero_le _) (by subst eκ1; rfl) (by subst eκ1; rfl) cM_adr

set_option maxRecDepth 100000 in
set_option maxHeartbeats 1000000 in
theorem c_X5_clock_no1 (l : Launch) (D : va_G) (ct : Nat → ClassId) (q : Nat → Nat) (κ : Nat → Nat → Int32) (n : Int32) (hx : mNode n = false) : zT l D ct yX5_clock cX5_clock 2 (some .int) 2 42 0 0 [.ref (q 0), .int n] (cM q κ ct) (zd (some (.int 0)) (cM q (u2 κ 0 2 1) ct)) := by
  refine zT_of ([some (.ref (q 0)), some (.int n)]) (by decide +kernel) rfl (Nat.le_of_ble_eq_true rfl) ?_
  intro p e s m args below meth c hC hr hnm
  refine z_aload_n hC dX5_clock_0 rfl ?_
  refine z_iload_n hC dX5_clock_1 rfl ?_
  refine z_callS [] hC (c_X5_isNode l D ct n) bw_137 bw_138 bw_5 bw_139 1 (by decide +kernel) rfl rfl rfl ⟨Nat.le_of_ble_eq_true rfl, Nat.le_of_ble_eq_true rfl⟩ (Nat.le_of_ble_eq_true rfl) ⟨Nat.le_of_ble_eq_true rfl, Nat.le_of_ble_eq_true rfl⟩ rfl dX5_clock_2 ?_
  refine zkq (G := fun v1 w1 => zG p l e _ s m args below meth c D _ _ _ _ _ _ _ (v1.toList ++ _) w1) rfl ?_
  refine z_top (bI_f hx) ?_
  refine z_iconst (v := 1) hC dX5_clock_5 (by decide) ?_
  refine z_iconst (v := 1) hC dX5_clock_6 (by decide) ?_
  refine z_callV [0, 1, 2, 3] 0 5 hC (c_X5_goes l D ct q κ 0 1 1 1 rfl) bw_143 bw_144 bw_145 bw_5 bw_146 3 (by decide +kernel) rfl rfl rfl rfl rfl ⟨Nat.le_of_ble_eq_true rfl, Nat.le_of_ble_eq_true rfl⟩ (Nat.le_of_ble_eq_true rfl) ⟨Nat.le_of_ble_eq_true rfl, Nat.le_of_ble_eq_true rfl⟩ rfl dX5_clock_7 ?_
  refine zkd (G := fun v1 w1 => zG p l e _ s m args below meth c D _ _ _ _ _ _ _ (v1.toList ++ _) w1) (w2 := cM q (u2 κ 0 2 1) ct) cM_all ?_
  obtain ⟨κ1, eκ1⟩ : ∃ zz_, zz_ = (u2 κ 0 2 1) := ⟨_, rfl⟩
  rw [← eκ1]
  refine z_top (y := 0) (by decide) ?_
  refine z_if_eq hC 36 dX5_clock_10 (by decide) (fun cn2 => ?_) (fun cn2 => absurd cn2 (by decide))
  refine z_iconst (v := 0) hC dX5_clock_36 (by decide) ?_
  exact z_iretd hC hr dX5_clock_37 (Nat.zero_le _) (Nat.zero_le _) (by subst eκ1; rfl) (by subst eκ1; rfl) cM_adr

set_option maxRecDepth 100000 in
set_option maxHeartbeats 1000000 in
theorem c_X5_silence_ok (l : Launch) (D : va_G) (ct : Nat → ClassId) (q : Nat → Nat) (κ : Nat → Nat → Int32) (n : Nat) (h0 : 0 < n) (hn : n < 10) : zT l D ct yX5_silence cX5_silence 2 (some .int) 2 42 0 0 [.ref (q 0), .int (nI n)] (cM q κ ct) (zd (some (.int (if κ 1 (0 + 20 + 7 * n + 1) = -1 then -1 else κ 1 12 - κ 1 (0 + 20 + 7 * n + 3)))) (cM q (u2 κ 0 2 0) ct)) := by
  refine zT_of ([some (.ref (q 0)), some (.int (nI n))]) (by decide +kernel) rfl (Nat.le_of_ble_eq_true rfl) ?_
  intro p e s m args below meth c hC hr hnm
  refine z_aload_n hC dX5_silence_0 rfl ?_
  refine z_iload_n hC dX5_silence_1 rfl ?_
  refine z_callS [] hC (c_X5_isMeter l D ct (nI n)) bw_206 bw_207 bw_5 bw_208 1 (by decide +kernel) rfl rfl rfl ⟨Nat.le_of_ble_eq_true rfl, Nat.le_of_ble_eq_true rfl⟩ (Nat.le_of_ble_eq_true rfl) ⟨Nat.le_of_ble_eq_true rfl, Nat.le_of_ble_eq_true rfl⟩ rfl dX5_silence_2 ?_
  refine zkq (G := fun v1 w1 => zG p l e _ s m args below meth c D _ _ _ _ _ _ _ (v1.toList ++ _) w1) rfl ?_
  refine z_top (bI_t (meterI h0 hn)) ?_
  refine z_iconst (v := 1) hC dX5_silence_5 (by decide) ?_
  refine z_iconst (v := 1) hC dX5_silence_6 (by decide) ?_
  refine z_callV [0, 1, 2, 3] 0 5 hC (c_X5_goes l D ct q κ 1 1 1 0 rfl) bw_143 bw_144 bw_145 bw_5 bw_146 3 (by decide +kernel) rfl rfl rfl rfl rfl ⟨Nat.le_of_ble_eq_true rfl, Nat.le_of_ble_eq_true rfl⟩ (Nat.le_of_ble_eq_true rfl) ⟨Nat.le_of_ble_eq_true rfl, Nat.le_of_ble_eq_true rfl⟩ rfl dX5_silence_7 ?_
  refine zkd (G := fun v1 w1 => zG p l e _ s m args below meth c D _ _ _ _ _ _ _ (v1.toList ++ _) w1) (w2 := cM q (u2 κ 0 2 0) ct) cM_all ?_
  obtain ⟨κ1, eκ1⟩ : ∃ zz_, zz_ = (u2 κ 0 2 0) := ⟨_, rfl⟩
  rw [← eκ1]
  refine z_top (y := 1) (by decide) ?_
  refine z_if_ne hC 15 dX5_silence_10 (by decide) (fun cn2 => ?_) (fun cn2 => absurd cn2 (by decide))
  refine z_aload_n hC dX5_silence_15 rfl ?_
  refine z_get 0 0 hC bl_X5 (ci := 5) rfl (by decide) rfl bw_67 rfl rfl dX5_silence_16 ?_
  refine z_iconst (v := 0) hC dX5_silence_19 (by decide) ?_
  refine z_iload_n hC dX5_silence_20 rfl ?_
  refine z_callS [] hC (c_X5_at l D ct 0 n) bw_70 bw_71 bw_5 bw_72 2 (by decide +kernel) rfl rfl rfl ⟨Nat.le_of_ble_eq_true rfl, Nat.le_of_ble_eq_true rfl⟩ (Nat.le_of_ble_eq_true rfl) ⟨Nat.le_of_ble_eq_true rfl, Nat.le_of_ble_eq_true rfl⟩ rfl dX5_silence_21 ?_
  refine zkq (G := fun v1 w1 => zG p l e _ s m args below meth c D _ _ _ _ _ _ _ (v1.toList ++ _) w1) rfl ?_
  refine z_iconst (v := 1) hC dX5_silence_24 (by decide) ?_
  refine z_iaddN (0 + 20 + 7 * n) (1) hC dX5_silence_25 ?_
  refine z_ialdN (0 + 20 + 7 * n + 1) 1 0 hC rfl rfl (by decide) (by omega) dX5_silence_26 ?_
  refine z_iconst (v := (-1)) hC dX5_silence_27 (by decide) ?_
  refine z_icmp_ne hC 35 dX5_silence_28 (by decide) (fun c28 => ?_) (fun c28 => ?_)
  · refine z_aload_n hC dX5_silence_35 rfl ?_
    refine z_get 0 0 hC bl_X5 (ci := 5) rfl (by decide) rfl bw_67 rfl rfl dX5_silence_36 ?_
    refine z_bipush (v := 12) hC dX5_silence_39 (by decide) ?_
    refine z_ialdN (12) 1 0 hC rfl rfl (by decide) (by omega) dX5_silence_41 ?_
    refine z_aload_n hC dX5_silence_42 rfl ?_
    refine z_get 0 0 hC bl_X5 (ci := 5) rfl (by decide) rfl bw_67 rfl rfl dX5_silence_43 ?_
    refine z_iconst (v := 0) hC dX5_silence_46 (by decide) ?_
    refine z_iload_n hC dX5_silence_47 rfl ?_
    refine z_callS [] hC (c_X5_at l D ct 0 n) bw_70 bw_71 bw_5 bw_72 2 (by decide +kernel) rfl rfl rfl ⟨Nat.le_of_ble_eq_true rfl, Nat.le_of_ble_eq_true rfl⟩ (Nat.le_of_ble_eq_true rfl) ⟨Nat.le_of_ble_eq_true rfl, Nat.le_of_ble_eq_true rfl⟩ rfl dX5_silence_48 ?_
    refine zkq (G := fun v1 w1 => zG p l e _ s m args below meth c D _ _ _ _ _ _ _ (v1.toList ++ _) w1) rfl ?_
    refine z_iconst (v := 3) hC dX5_silence_51 (by decide) ?_
    refine z_iaddN (0 + 20 + 7 * n) (3) hC dX5_silence_52 ?_
    refine z_ialdN (0 + 20 + 7 * n + 3) 1 0 hC rfl rfl (by decide) (by omega) dX5_silence_53 ?_
    refine z_isub hC dX5_silence_54 ?_
    exact z_iretd hC hr dX5_silence_55 (Nat.zero_le _) (Nat.zero_le _) (by subst eκ1; exact (if_neg (show ¬ κ 1 (0 + 20 + 7 * n + 1) = -1 from c28)).symm) (by subst eκ1; rfl) cM_adr
  · refine z_iconst (v := (-1)) hC dX5_silence_31 (by decide) ?_
    refine z_goto hC 55 dX5_silence_32 (by decide) ?_
    exact z_iretd hC hr dX5_silence_55 (Nat.zero_le _) (Nat.zero_le _) (by subst eκ1; exact (if_pos (show κ 1 (0 + 20 + 7 * n + 1) = -1 from c28)).symm) (by subst eκ1; rfl) cM_adr

set_option maxRecDepth 100000 in
set_option maxHeartbeats 1000000 in
theorem c_X5_silence_no1 (l : Launch) (D : va_G) (ct : Nat → ClassId) (q : Nat → Nat) (κ : Nat → Nat → Int32) (n : Int32) (hx : mMeter n = false) : zT l D ct yX5_silence cX5_silence 2 (some .int) 2 42 0 0 [.ref (q 0), .int n] (cM q κ ct) (zd (some (.int 0)) (cM q (u2 κ 0 2 1) ct)) := by
  refine zT_of ([some (.ref (q 0)), some (.int n)]) (by decide +kernel) rfl (Nat.le_of_ble_eq_true rfl) ?_
  intro p e s m args below meth c hC hr hnm
  refine z_aload_n hC dX5_silence_0 rfl ?_
  refine z_iload_n hC dX5_silence_1 rfl ?_
  refine z_callS [] hC (c_X5_isMeter l D ct n) bw_206 bw_207 bw_5 bw_208 1 (by decide +kernel) rfl rfl rfl ⟨Nat.le_of_ble_eq_true rfl, Nat.le_of_ble_eq_true rfl⟩ (Nat.le_of_ble_eq_true rfl) ⟨Nat.le_of_ble_eq_true rfl, Nat.le_of_ble_eq_true rfl⟩ rfl dX5_silence_2 ?_
  refine zkq (G := fun v1 w1 => zG p l e _ s m args below meth c D _ _ _ _ _ _ _ (v1.toList ++ _) w1) rfl ?_
  refine z_top (bI_f hx) ?_
  refine z_iconst (v := 1) hC dX5_silence_5 (by decide) ?_
  refine z_iconst (v := 1) hC dX5_silence_6 (by decide) ?_
  refine z_callV [0, 1, 2, 3] 0 5 hC (c_X5_goes l D ct q κ 0 1 1 1 rfl) bw_143 bw_144 bw_145 bw_5 bw_146 3 (by decide +kernel) rfl rfl rfl rfl rfl ⟨Nat.le_of_ble_eq_true rfl, Nat.le_of_ble_eq_true rfl⟩ (Nat.le_of_ble_eq_true rfl) ⟨Nat.le_of_ble_eq_true rfl, Nat.le_of_ble_eq_true rfl⟩ rfl dX5_silence_7 ?_
  refine zkd (G := fun v1 w1 => zG p l e _ s m args below meth c D _ _ _ _ _ _ _ (v1.toList ++ _) w1) (w2 := cM q (u2 κ 0 2 1) ct) cM_all ?_
  obtain ⟨κ1, eκ1⟩ : ∃ zz_, zz_ = (u2 κ 0 2 1) := ⟨_, rfl⟩
  rw [← eκ1]
  refine z_top (y := 0) (by decide) ?_
  refine z_if_ne hC 15 dX5_silence_10 (by decide) (fun cn2 => absurd cn2 (by decide)) (fun cn2 => ?_)
  refine z_iconst (v := 0) hC dX5_silence_13 (by decide) ?_
  exact z_iretd hC hr dX5_silence_14 (Nat.zero_le _) (Nat.zero_le _) (by subst eκ1; rfl) (by subst eκ1; rfl) cM_adr

set_option maxRecDepth 100000 in
set_option maxHeartbeats 1000000 in
theorem c_X5_power_ok (l : Launch) (D : va_G) (ct : Nat → ClassId) (q : Nat → Nat) (κ : Nat → Nat → Int32) (n : Nat) (hn : n < 10) (v : Int32) (z : Nat) (hz : κ 0 0 = nI z) (hz6 : z ≤ 6) : zT l D ct yX5_power cX5_power 3 (some .int) 2 44 0 0 [.ref (q 0), .int (nI n), .int v] (cM q κ ct) (zd (some (.int (mdOnes (mdPower (mdSave (u2 κ 0 2 0) z) n v 1 10)))) (cM q (mdPower (mdSave (u2 κ 0 2 0) z) n v) ct)) := by
  refine zT_of ([some (.ref (q 0)), some (.int (nI n)), some (.int v)]) (by decide +kernel) rfl (Nat.le_of_ble_eq_true rfl) ?_
  intro p e s m args below meth c hC hr hnm
  refine z_aload_n hC dX5_power_0 rfl ?_
  refine z_iload_n hC dX5_power_1 rfl ?_
  refine z_callS [] hC (c_X5_isNode l D ct (nI n)) bw_137 bw_138 bw_5 bw_139 1 (by decide +kernel) rfl rfl rfl ⟨Nat.le_of_ble_eq_true rfl, Nat.le_of_ble_eq_true rfl⟩ (Nat.le_of_ble_eq_true rfl) ⟨Nat.le_of_ble_eq_true rfl, Nat.le_of_ble_eq_true rfl⟩ rfl dX5_power_2 ?_
  refine zkq (G := fun v1 w1 => zG p l e _ s m args below meth c D _ _ _ _ _ _ _ (v1.toList ++ _) w1) rfl ?_
  refine z_top (bI_t (nodeI hn)) ?_
  refine z_iconst (v := 1) hC dX5_power_5 (by decide) ?_
  refine z_iconst (v := 1) hC dX5_power_6 (by decide) ?_
  refine z_callV [0, 1, 2, 3] 0 5 hC (c_X5_goes l D ct q κ 1 1 1 0 rfl) bw_143 bw_144 bw_145 bw_5 bw_146 3 (by decide +kernel) rfl rfl rfl rfl rfl ⟨Nat.le_of_ble_eq_true rfl, Nat.le_of_ble_eq_true rfl⟩ (Nat.le_of_ble_eq_true rfl) ⟨Nat.le_of_ble_eq_true rfl, Nat.le_of_ble_eq_true rfl⟩ rfl dX5_power_7 ?_
  refine zkd (G := fun v1 w1 => zG p l e _ s m args below meth c D _ _ _ _ _ _ _ (v1.toList ++ _) w1) (w2 := cM q (u2 κ 0 2 0) ct) cM_all ?_
  obtain ⟨κ1, eκ1⟩ : ∃ zz_, zz_ = (u2 κ 0 2 0) := ⟨_, rfl⟩
  rw [← eκ1]
  refine z_top (y := 1) (by decide) ?_
  refine z_if_ne hC 15 dX5_power_10 (by decide) (fun cn2 => ?_) (fun cn2 => absurd cn2 (by decide))
  refine z_aload_n hC dX5_power_15 rfl ?_
  refine z_callV [0, 1, 2, 3] 0 5 hC (c_X5_saves l D ct q κ1 z (by subst eκ1; exact hz) hz6) bw_148 bw_149 bw_150 bw_5 bw_151 0 (by decide +kernel) rfl rfl rfl rfl rfl ⟨Nat.le_of_ble_eq_true rfl, Nat.le_of_ble_eq_true rfl⟩ (Nat.le_of_ble_eq_true rfl) ⟨Nat.le_of_ble_eq_true rfl, Nat.le_of_ble_eq_true rfl⟩ rfl dX5_power_16 ?_
  refine zkd (G := fun v1 w1 => zG p l e _ s m args below meth c D _ _ _ _ _ _ _ (v1.toList ++ _) w1) (w2 := cM q (mdSave κ1 z) ct) cM_all ?_
  obtain ⟨κ3, eκ3⟩ : ∃ zz_, zz_ = (mdSave κ1 z) := ⟨_, rfl⟩
  rw [← eκ3]
  refine z_aload_n hC dX5_power_19 rfl ?_
  refine z_iload_n hC dX5_power_20 rfl ?_
  refine z_iload_n hC dX5_power_21 rfl ?_
  refine z_callV [0, 1, 2, 3] 0 5 hC (c_X5_powers l D ct q κ3 n v) bw_185 bw_186 bw_187 bw_5 bw_188 2 (by decide +kernel) rfl rfl rfl rfl rfl ⟨Nat.le_of_ble_eq_true rfl, Nat.le_of_ble_eq_true rfl⟩ (Nat.le_of_ble_eq_true rfl) ⟨Nat.le_of_ble_eq_true rfl, Nat.le_of_ble_eq_true rfl⟩ rfl dX5_power_22 ?_
  refine zkd (G := fun v1 w1 => zG p l e _ s m args below meth c D _ _ _ _ _ _ _ (v1.toList ++ _) w1) (w2 := cM q (mdPower κ3 n v) ct) cM_all ?_
  obtain ⟨κ4, eκ4⟩ : ∃ zz_, zz_ = (mdPower κ3 n v) := ⟨_, rfl⟩
  rw [← eκ4]
  exact z_iretd hC hr dX5_power_25 (Nat.zero_le _) (Nat.zero_le _) (by subst eκ4; subst eκ3; subst eκ1; rfl) (by subst eκ4; subst eκ3; subst eκ1; rfl) cM_adr

set_option maxRecDepth 100000 in
set_option maxHeartbeats 1000000 in
theorem c_X5_power_no1 (l : Launch) (D : va_G) (ct : Nat → ClassId) (q : Nat → Nat) (κ : Nat → Nat → Int32) (n v : Int32) (hx : mNode n = false) : zT l D ct yX5_power cX5_power 3 (some .int) 2 44 0 0 [.ref (q 0), .int n, .int v] (cM q κ ct) (zd (some (.int 0)) (cM q (u2 κ 0 2 1) ct)) := by
  refine zT_of ([some (.ref (q 0)), some (.int n), some (.int v)]) (by decide +kernel) rfl (Nat.le_of_ble_eq_true rfl) ?_
  intro p e s m args below meth c hC hr hnm
  refine z_aload_n hC dX5_power_0 rfl ?_
  refine z_iload_n hC dX5_power_1 rfl ?_
  refine z_callS [] hC (c_X5_isNode l D ct n) bw_137 bw_138 bw_5 bw_139 1 (by decide +kernel) rfl rfl rfl ⟨Nat.le_of_ble_eq_true rfl, Nat.le_of_ble_eq_true rfl⟩ (Nat.le_of_ble_eq_true rfl) ⟨Nat.le_of_ble_eq_true rfl, Nat.le_of_ble_eq_true rfl⟩ rfl dX5_power_2 ?_
  refine zkq (G := fun v1 w1 => zG p l e _ s m args below meth c D _ _ _ _ _ _ _ (v1.toList ++ _) w1) rfl ?_
  refine z_top (bI_f hx) ?_
  refine z_iconst (v := 1) hC dX5_power_5 (by decide) ?_
  refine z_iconst (v := 1) hC dX5_power_6 (by decide) ?_
  refine z_callV [0, 1, 2, 3] 0 5 hC (c_X5_goes l D ct q κ 0 1 1 1 rfl) bw_143 bw_144 bw_145 bw_5 bw_146 3 (by decide +kernel) rfl rfl rfl rfl rfl ⟨Nat.le_of_ble_eq_true rfl, Nat.le_of_ble_eq_true rfl⟩ (Nat.le_of_ble_eq_true rfl) ⟨Nat.le_of_ble_eq_true rfl, Nat.le_of_ble_eq_true rfl⟩ rfl dX5_power_7 ?_
  refine zkd (G := fun v1 w1 => zG p l e _ s m args below meth c D _ _ _ _ _ _ _ (v1.toList ++ _) w1) (w2 := cM q (u2 κ 0 2 1) ct) cM_all ?_
  obtain ⟨κ1, eκ1⟩ : ∃ zz_, zz_ = (u2 κ 0 2 1) := ⟨_, rfl⟩
  rw [← eκ1]
  refine z_top (y := 0) (by decide) ?_
  refine z_if_ne hC 15 dX5_power_10 (by decide) (fun cn2 => absurd cn2 (by decide)) (fun cn2 => ?_)
  refine z_iconst (v := 0) hC dX5_power_13 (by decide) ?_
  exact z_iretd hC hr dX5_power_14 (Nat.zero_le _) (Nat.zero_le _) (by subst eκ1; rfl) (by subst eκ1; rfl) cM_adr

set_option maxRecDepth 100000 in
set_option maxHeartbeats 1000000 in
theorem c_X5_link_ok (l : Launch) (D : va_G) (ct : Nat → ClassId) (q : Nat → Nat) (κ : Nat → Nat → Int32) (a c0 : Nat) (ha : a < 10) (hc : c0 < 10) (hac : ¬ a = c0) (v : Int32) (z : Nat) (hz : κ 0 0 = nI z) (hz6 : z ≤ 6) : zT l D ct yX5_link cX5_link 4 (some .int) 2 47 0 0 [.ref (q 0), .int (nI a), .int (nI c0), .int v] (cM q κ ct) (zd (some (.int (mdLinks (mdLink (mdSave (u2 κ 0 2 0) z) a c0 v)))) (cM q (mdLink (mdSave (u2 κ 0 2 0) z) a c0 v) ct)) := by
  refine zT_of ([some (.ref (q 0)), some (.int (nI a)), some (.int (nI c0)), some (.int v)]) (by decide +kernel) rfl (Nat.le_of_ble_eq_true rfl) ?_
  intro p e s m args below meth c hC hr hnm
  refine z_aload_n hC dX5_link_0 rfl ?_
  refine z_iload_n hC dX5_link_1 rfl ?_
  refine z_callS [] hC (c_X5_isNode l D ct (nI a)) bw_137 bw_138 bw_5 bw_139 1 (by decide +kernel) rfl rfl rfl ⟨Nat.le_of_ble_eq_true rfl, Nat.le_of_ble_eq_true rfl⟩ (Nat.le_of_ble_eq_true rfl) ⟨Nat.le_of_ble_eq_true rfl, Nat.le_of_ble_eq_true rfl⟩ rfl dX5_link_2 ?_
  refine zkq (G := fun v1 w1 => zG p l e _ s m args below meth c D _ _ _ _ _ _ _ (v1.toList ++ _) w1) rfl ?_
  refine z_top (bI_t (nodeI ha)) ?_
  refine z_if_eq hC 19 dX5_link_5 (by decide) (fun cn1 => absurd cn1 (by decide)) (fun cn1 => ?_)
  refine z_iload_n hC dX5_link_8 rfl ?_
  refine z_callS [] hC (c_X5_isNode l D ct (nI c0)) bw_137 bw_138 bw_5 bw_139 1 (by decide +kernel) rfl rfl rfl ⟨Nat.le_of_ble_eq_true rfl, Nat.le_of_ble_eq_true rfl⟩ (Nat.le_of_ble_eq_true rfl) ⟨Nat.le_of_ble_eq_true rfl, Nat.le_of_ble_eq_true rfl⟩ rfl dX5_link_9 ?_
  refine zkq (G := fun v1 w1 => zG p l e _ s m args below meth c D _ _ _ _ _ _ _ (v1.toList ++ _) w1) rfl ?_
  refine z_top (bI_t (nodeI hc)) ?_
  refine z_if_eq hC 19 dX5_link_12 (by decide) (fun cn2 => absurd cn2 (by decide)) (fun cn2 => ?_)
  refine z_iconst (v := 1) hC dX5_link_15 (by decide) ?_
  refine z_goto hC 20 dX5_link_16 (by decide) ?_
  refine z_iload_n hC dX5_link_20 rfl ?_
  refine z_iload_n hC dX5_link_21 rfl ?_
  refine z_icmp_eq hC 29 dX5_link_22 (by decide) (fun c22 => (by have hh := (nI_eq (a := a) (b := c0) (by omega) (by omega)).mp c22; omega)) (fun c22 => ?_)
  replace c22 := (nI_neI (a := a) (b := c0) (by omega) (by omega)).mp c22
  refine z_iconst (v := 1) hC dX5_link_25 (by decide) ?_
  refine z_goto hC 30 dX5_link_26 (by decide) ?_
  refine z_iconst (v := 1) hC dX5_link_30 (by decide) ?_
  refine z_callV [0, 1, 2, 3] 0 5 hC (c_X5_goes l D ct q κ 1 1 1 0 rfl) bw_143 bw_144 bw_145 bw_5 bw_146 3 (by decide +kernel) rfl rfl rfl rfl rfl ⟨Nat.le_of_ble_eq_true rfl, Nat.le_of_ble_eq_true rfl⟩ (Nat.le_of_ble_eq_true rfl) ⟨Nat.le_of_ble_eq_true rfl, Nat.le_of_ble_eq_true rfl⟩ rfl dX5_link_31 ?_
  refine zkd (G := fun v1 w1 => zG p l e _ s m args below meth c D _ _ _ _ _ _ _ (v1.toList ++ _) w1) (w2 := cM q (u2 κ 0 2 0) ct) cM_all ?_
  obtain ⟨κ3, eκ3⟩ : ∃ zz_, zz_ = (u2 κ 0 2 0) := ⟨_, rfl⟩
  rw [← eκ3]
  refine z_top (y := 1) (by decide) ?_
  refine z_if_ne hC 39 dX5_link_34 (by decide) (fun cn4 => ?_) (fun cn4 => absurd cn4 (by decide))
  refine z_aload_n hC dX5_link_39 rfl ?_
  refine z_callV [0, 1, 2, 3] 0 5 hC (c_X5_saves l D ct q κ3 z (by subst eκ3; exact hz) hz6) bw_148 bw_149 bw_150 bw_5 bw_151 0 (by decide +kernel) rfl rfl rfl rfl rfl ⟨Nat.le_of_ble_eq_true rfl, Nat.le_of_ble_eq_true rfl⟩ (Nat.le_of_ble_eq_true rfl) ⟨Nat.le_of_ble_eq_true rfl, Nat.le_of_ble_eq_true rfl⟩ rfl dX5_link_40 ?_
  refine zkd (G := fun v1 w1 => zG p l e _ s m args below meth c D _ _ _ _ _ _ _ (v1.toList ++ _) w1) (w2 := cM q (mdSave κ3 z) ct) cM_all ?_
  obtain ⟨κ5, eκ5⟩ : ∃ zz_, zz_ = (mdSave κ3 z) := ⟨_, rfl⟩
  rw [← eκ5]
  refine z_aload_n hC dX5_link_43 rfl ?_
  refine z_iload_n hC dX5_link_44 rfl ?_
  refine z_iload_n hC dX5_link_45 rfl ?_
  refine z_iload_n hC dX5_link_46 rfl ?_
  refine z_callV [0, 1, 2, 3] 0 5 hC (c_X5_links l D ct q κ5 a c0 v (by omega) (by omega)) bw_157 bw_158 bw_159 bw_5 bw_160 3 (by decide +kernel) rfl rfl rfl rfl rfl ⟨Nat.le_of_ble_eq_true rfl, Nat.le_of_ble_eq_true rfl⟩ (Nat.le_of_ble_eq_true rfl) ⟨Nat.le_of_ble_eq_true rfl, Nat.le_of_ble_eq_true rfl⟩ rfl dX5_link_47 ?_
  refine zkd (G := fun v1 w1 => zG p l e _ s m args below meth c D _ _ _ _ _ _ _ (v1.toList ++ _) w1) (w2 := cM q (mdLink κ5 a c0 v) ct) cM_all ?_
  obtain ⟨κ6, eκ6⟩ : ∃ zz_, zz_ = (mdLink κ5 a c0 v) := ⟨_, rfl⟩
  rw [← eκ6]
  exact z_iretd hC hr dX5_link_50 (Nat.zero_le _) (Nat.zero_le _) (by subst eκ6; subst eκ5; subst eκ3; rfl) (by subst eκ6; subst eκ5; subst eκ3; rfl) cM_adr

set_option maxRecDepth 100000 in
set_option maxHeartbeats 1000000 in
theorem c_X5_link_no2 (l : Launch) (D : va_G) (ct : Nat → ClassId) (q : Nat → Nat) (κ : Nat → Nat → Int32) (a c0 : Nat) (ha : a < 10) (hc : c0 < 10) (hac : a = c0) (v : Int32) : zT l D ct yX5_link cX5_link 4 (some .int) 2 47 0 0 [.ref (q 0), .int (nI a), .int (nI c0), .int v] (cM q κ ct) (zd (some (.int 0)) (cM q (u2 κ 0 2 2) ct)) := by
  refine zT_of ([some (.ref (q 0)), some (.int (nI a)), some (.int (nI c0)), some (.int v)]) (by decide +kernel) rfl (Nat.le_of_ble_eq_true rfl) ?_
  intro p e s m args below meth c hC hr hnm
  refine z_aload_n hC dX5_link_0 rfl ?_
  refine z_iload_n hC dX5_link_1 rfl ?_
  refine z_callS [] hC (c_X5_isNode l D ct (nI a)) bw_137 bw_138 bw_5 bw_139 1 (by decide +kernel) rfl rfl rfl ⟨Nat.le_of_ble_eq_true rfl, Nat.le_of_ble_eq_true rfl⟩ (Nat.le_of_ble_eq_true rfl) ⟨Nat.le_of_ble_eq_true rfl, Nat.le_of_ble_eq_true rfl⟩ rfl dX5_link_2 ?_
  refine zkq (G := fun v1 w1 => zG p l e _ s m args below meth c D _ _ _ _ _ _ _ (v1.toList ++ _) w1) rfl ?_
  refine z_top (bI_t (nodeI ha)) ?_
  refine z_if_eq hC 19 dX5_link_5 (by decide) (fun cn1 => absurd cn1 (by decide)) (fun cn1 => ?_)
  refine z_iload_n hC dX5_link_8 rfl ?_
  refine z_callS [] hC (c_X5_isNode l D ct (nI c0)) bw_137 bw_138 bw_5 bw_139 1 (by decide +kernel) rfl rfl rfl ⟨Nat.le_of_ble_eq_true rfl, Nat.le_of_ble_eq_true rfl⟩ (Nat.le_of_ble_eq_true rfl) ⟨Nat.le_of_ble_eq_true rfl, Nat.le_of_ble_eq_true rfl⟩ rfl dX5_link_9 ?_
  refine zkq (G := fun v1 w1 => zG p l e _ s m args below meth c D _ _ _ _ _ _ _ (v1.toList ++ _) w1) rfl ?_
  refine z_top (bI_t (nodeI hc)) ?_
  refine z_if_eq hC 19 dX5_link_12 (by decide) (fun cn2 => absurd cn2 (by decide)) (fun cn2 => ?_)
  refine z_iconst (v := 1) hC dX5_link_15 (by decide) ?_
  refine z_goto hC 20 dX5_link_16 (by decide) ?_
  refine z_iload_n hC dX5_link_20 rfl ?_
  refine z_iload_n hC dX5_link_21 rfl ?_
  refine z_icmp_eq hC 29 dX5_link_22 (by decide) (fun c22 => ?_) (fun c22 => (by have hh := (nI_neI (a := a) (b := c0) (by omega) (by omega)).mp c22; omega))
  replace c22 := (nI_eq (a := a) (b := c0) (by omega) (by omega)).mp c22
  refine z_iconst (v := 0) hC dX5_link_29 (by decide) ?_
  refine z_iconst (v := 1) hC dX5_link_30 (by decide) ?_
  refine z_callV [0, 1, 2, 3] 0 5 hC (c_X5_goes l D ct q κ 1 0 1 2 rfl) bw_143 bw_144 bw_145 bw_5 bw_146 3 (by decide +kernel) rfl rfl rfl rfl rfl ⟨Nat.le_of_ble_eq_true rfl, Nat.le_of_ble_eq_true rfl⟩ (Nat.le_of_ble_eq_true rfl) ⟨Nat.le_of_ble_eq_true rfl, Nat.le_of_ble_eq_true rfl⟩ rfl dX5_link_31 ?_
  refine zkd (G := fun v1 w1 => zG p l e _ s m args below meth c D _ _ _ _ _ _ _ (v1.toList ++ _) w1) (w2 := cM q (u2 κ 0 2 2) ct) cM_all ?_
  obtain ⟨κ3, eκ3⟩ : ∃ zz_, zz_ = (u2 κ 0 2 2) := ⟨_, rfl⟩
  rw [← eκ3]
  refine z_top (y := 0) (by decide) ?_
  refine z_if_ne hC 39 dX5_link_34 (by decide) (fun cn4 => absurd cn4 (by decide)) (fun cn4 => ?_)
  refine z_iconst (v := 0) hC dX5_link_37 (by decide) ?_
  exact z_iretd hC hr dX5_link_38 (Nat.zero_le _) (Nat.zero_le _) (by subst eκ3; rfl) (by subst eκ3; rfl) cM_adr

set_option maxRecDepth 100000 in
set_option maxHeartbeats 1000000 in
theorem c_X5_link_no1 (l : Launch) (D : va_G) (ct : Nat → ClassId) (q : Nat → Nat) (κ : Nat → Nat → Int32) (a c0 v : Int32) (hx : mNode a = false ∨ mNode c0 = false) : zT l D ct yX5_link cX5_link 4 (some .int) 2 47 0 0 [.ref (q 0), .int a, .int c0, .int v] (cM q κ ct) (zd (some (.int 0)) (cM q (u2 κ 0 2 1) ct)) := by
  refine zT_of ([some (.ref (q 0)), some (.int a), some (.int c0), some (.int v)]) (by decide +kernel) rfl (Nat.le_of_ble_eq_true rfl) ?_
  intro p e s m args below meth c hC hr hnm
  refine z_aload_n hC dX5_link_0 rfl ?_
  refine z_iload_n hC dX5_link_1 rfl ?_
  refine z_callS [] hC (c_X5_isNode l D ct a) bw_137 bw_138 bw_5 bw_139 1 (by decide +kernel) rfl rfl rfl ⟨Nat.le_of_ble_eq_true rfl, Nat.le_of_ble_eq_true rfl⟩ (Nat.le_of_ble_eq_true rfl) ⟨Nat.le_of_ble_eq_true rfl, Nat.le_of_ble_eq_true rfl⟩ rfl dX5_link_2 ?_
  refine zkq (G := fun v1 w1 => zG p l e _ s m args below meth c D _ _ _ _ _ _ _ (v1.toList ++ _) w1) rfl ?_
  refine z_if_eq hC 19 dX5_link_5 (by decide) (fun c5 => ?_) (fun c5 => ?_)
  · rw [bI_0] at c5
    refine z_iconst (v := 0) hC dX5_link_19 (by decide) ?_
    refine z_iload_n hC dX5_link_20 rfl ?_
    refine z_iload_n hC dX5_link_21 rfl ?_
    refine z_icmp_eq hC 29 dX5_link_22 (by decide) (fun c22 => ?_) (fun c22 => ?_)
    · refine z_iconst (v := 0) hC dX5_link_29 (by decide) ?_
      refine z_iconst (v := 1) hC dX5_link_30 (by decide) ?_
      refine z_callV [0, 1, 2, 3] 0 5 hC (c_X5_goes l D ct q κ 0 0 1 1 rfl) bw_143 bw_144 bw_145 bw_5 bw_146 3 (by decide +kernel) rfl rfl rfl rfl rfl ⟨Nat.le_of_ble_eq_true rfl, Nat.le_of_ble_eq_true rfl⟩ (Nat.le_of_ble_eq_true rfl) ⟨Nat.le_of_ble_eq_true rfl, Nat.le_of_ble_eq_true rfl⟩ rfl dX5_link_31 ?_
      refine zkd (G := fun v1 w1 => zG p l e _ s m args below meth c D _ _ _ _ _ _ _ (v1.toList ++ _) w1) (w2 := cM q (u2 κ 0 2 1) ct) cM_all ?_
      obtain ⟨κ1, eκ1⟩ : ∃ zz_, zz_ = (u2 κ 0 2 1) := ⟨_, rfl⟩
      rw [← eκ1]
      refine z_top (y := 0) (by decide) ?_
      refine z_if_ne hC 39 dX5_link_34 (by decide) (fun cn2 => absurd cn2 (by decide)) (fun cn2 => ?_)
      refine z_iconst (v := 0) hC dX5_link_37 (by decide) ?_
      exact z_iretd hC hr dX5_link_38 (Nat.zero_le _) (Nat.zero_le _) (by subst eκ1; rfl) (by subst eκ1; rfl) cM_adr
    · refine z_iconst (v := 1) hC dX5_link_25 (by decide) ?_
      refine z_goto hC 30 dX5_link_26 (by decide) ?_
      refine z_iconst (v := 1) hC dX5_link_30 (by decide) ?_
      refine z_callV [0, 1, 2, 3] 0 5 hC (c_X5_goes l D ct q κ 0 1 1 1 rfl) bw_143 bw_144 bw_145 bw_5 bw_146 3 (by decide +kernel) rfl rfl rfl rfl rfl ⟨Nat.le_of_ble_eq_true rfl, Nat.le_of_ble_eq_true rfl⟩ (Nat.le_of_ble_eq_true rfl) ⟨Nat.le_of_ble_eq_true rfl, Nat.le_of_ble_eq_true rfl⟩ rfl dX5_link_31 ?_
      refine zkd (G := fun v1 w1 => zG p l e _ s m args below meth c D _ _ _ _ _ _ _ (v1.toList ++ _) w1) (w2 := cM q (u2 κ 0 2 1) ct) cM_all ?_
      obtain ⟨κ3, eκ3⟩ : ∃ zz_, zz_ = (u2 κ 0 2 1) := ⟨_, rfl⟩
      rw [← eκ3]
      refine z_top (y := 0) (by decide) ?_
      refine z_if_ne hC 39 dX5_link_34 (by decide) (fun cn4 => absurd cn4 (by decide)) (fun cn4 => ?_)
      refine z_iconst (v := 0) hC dX5_link_37 (by decide) ?_
      exact z_iretd hC hr dX5_link_38 (Nat.zero_le _) (Nat.zero_le _) (by subst eκ3; rfl) (by subst eκ3; rfl) cM_adr
  · rw [bI_1] at c5
    refine z_iload_n hC dX5_link_8 rfl ?_
    refine z_callS [] hC (c_X5_isNode l D ct c0) bw_137 bw_138 bw_5 bw_139 1 (by decide +kernel) rfl rfl rfl ⟨Nat.le_of_ble_eq_true rfl, Nat.le_of_ble_eq_true rfl⟩ (Nat.le_of_ble_eq_true rfl) ⟨Nat.le_of_ble_eq_true rfl, Nat.le_of_ble_eq_true rfl⟩ rfl dX5_link_9 ?_
    refine zkq (G := fun v1 w1 => zG p l e _ s m args below meth c D _ _ _ _ _ _ _ (v1.toList ++ _) w1) rfl ?_
    refine z_if_eq hC 19 dX5_link_12 (by decide) (fun c12 => ?_) (fun c12 => (absurd ((hx.resolve_left (by rw [c5]; decide))) (by rw [(bI_1 _).mp c12]; decide)))
    refine z_iconst (v := 0) hC dX5_link_19 (by decide) ?_
    refine z_iload_n hC dX5_link_20 rfl ?_
    refine z_iload_n hC dX5_link_21 rfl ?_
    refine z_icmp_eq hC 29 dX5_link_22 (by decide) (fun c22 => ?_) (fun c22 => ?_)
    · refine z_iconst (v := 0) hC dX5_link_29 (by decide) ?_
      refine z_iconst (v := 1) hC dX5_link_30 (by decide) ?_
      refine z_callV [0, 1, 2, 3] 0 5 hC (c_X5_goes l D ct q κ 0 0 1 1 rfl) bw_143 bw_144 bw_145 bw_5 bw_146 3 (by decide +kernel) rfl rfl rfl rfl rfl ⟨Nat.le_of_ble_eq_true rfl, Nat.le_of_ble_eq_true rfl⟩ (Nat.le_of_ble_eq_true rfl) ⟨Nat.le_of_ble_eq_true rfl, Nat.le_of_ble_eq_true rfl⟩ rfl dX5_link_31 ?_
      refine zkd (G := fun v1 w1 => zG p l e _ s m args below meth c D _ _ _ _ _ _ _ (v1.toList ++ _) w1) (w2 := cM q (u2 κ 0 2 1) ct) cM_all ?_
      obtain ⟨κ5, eκ5⟩ : ∃ zz_, zz_ = (u2 κ 0 2 1) := ⟨_, rfl⟩
      rw [← eκ5]
      refine z_top (y := 0) (by decide) ?_
      refine z_if_ne hC 39 dX5_link_34 (by decide) (fun cn6 => absurd cn6 (by decide)) (fun cn6 => ?_)
      refine z_iconst (v := 0) hC dX5_link_37 (by decide) ?_
      exact z_iretd hC hr dX5_link_38 (Nat.zero_le _) (Nat.zero_le _) (by subst eκ5; rfl) (by subst eκ5; rfl) cM_adr
    · refine z_iconst (v := 1) hC dX5_link_25 (by decide) ?_
      refine z_goto hC 30 dX5_link_26 (by decide) ?_
      refine z_iconst (v := 1) hC dX5_link_30 (by decide) ?_
      refine z_callV [0, 1, 2, 3] 0 5 hC (c_X5_goes l D ct q κ 0 1 1 1 rfl) bw_143 bw_144 bw_145 bw_5 bw_146 3 (by decide +kernel) rfl rfl rfl rfl rfl ⟨Nat.le_of_ble_eq_true rfl, Nat.le_of_ble_eq_true rfl⟩ (Nat.le_of_ble_eq_true rfl) ⟨Nat.le_of_ble_eq_true rfl, Nat.le_of_ble_eq_true rfl⟩ rfl dX5_link_31 ?_
      refine zkd (G := fun v1 w1 => zG p l e _ s m args below meth c D _ _ _ _ _ _ _ (v1.toList ++ _) w1) (w2 := cM q (u2 κ 0 2 1) ct) cM_all ?_
      obtain ⟨κ7, eκ7⟩ : ∃ zz_, zz_ = (u2 κ 0 2 1) := ⟨_, rfl⟩
      rw [← eκ7]
      refine z_top (y := 0) (by decide) ?_
      refine z_if_ne hC 39 dX5_link_34 (by decide) (fun cn8 => absurd cn8 (by decide)) (fun cn8 => ?_)
      refine z_iconst (v := 0) hC dX5_link_37 (by decide) ?_
      exact z_iretd hC hr dX5_link_38 (Nat.zero_le _) (Nat.zero_le _) (by subst eκ7; rfl) (by subst eκ7; rfl) cM_adr

set_option maxRecDepth 100000 in
set_option maxHeartbeats 1000000 in
theorem c_X5_isConnected_ok (l : Launch) (D : va_G) (ct : Nat → ClassId) (q : Nat → Nat) (κ : Nat → Nat → Int32) (a c0 : Nat) (ha : a < 10) (hc : c0 < 10) : zT l D ct yX5_isConnected cX5_isConnected 3 (some .boolean) 2 45 0 0 [.ref (q 0), .int (nI a), .int (nI c0)] (cM q κ ct) (zd (some (.int (bI (mdConn (u2 κ 0 2 0) 0 a c0)))) (cM q (u2 κ 0 2 0) ct)) := by
  refine zT_of ([some (.ref (q 0)), some (.int (nI a)), some (.int (nI c0))]) (by decide +kernel) rfl (Nat.le_of_ble_eq_true rfl) ?_
  intro p e s m args below meth c hC hr hnm
  refine z_aload_n hC dX5_isConnected_0 rfl ?_
  refine z_iload_n hC dX5_isConnected_1 rfl ?_
  refine z_callS [] hC (c_X5_isNode l D ct (nI a)) bw_137 bw_138 bw_5 bw_139 1 (by decide +kernel) rfl rfl rfl ⟨Nat.le_of_ble_eq_true rfl, Nat.le_of_ble_eq_true rfl⟩ (Nat.le_of_ble_eq_true rfl) ⟨Nat.le_of_ble_eq_true rfl, Nat.le_of_ble_eq_true rfl⟩ rfl dX5_isConnected_2 ?_
  refine zkq (G := fun v1 w1 => zG p l e _ s m args below meth c D _ _ _ _ _ _ _ (v1.toList ++ _) w1) rfl ?_
  refine z_top (bI_t (nodeI ha)) ?_
  refine z_if_eq hC 19 dX5_isConnected_5 (by decide) (fun cn1 => absurd cn1 (by decide)) (fun cn1 => ?_)
  refine z_iload_n hC dX5_isConnected_8 rfl ?_
  refine z_callS [] hC (c_X5_isNode l D ct (nI c0)) bw_137 bw_138 bw_5 bw_139 1 (by decide +kernel) rfl rfl rfl ⟨Nat.le_of_ble_eq_true rfl, Nat.le_of_ble_eq_true rfl⟩ (Nat.le_of_ble_eq_true rfl) ⟨Nat.le_of_ble_eq_true rfl, Nat.le_of_ble_eq_true rfl⟩ rfl dX5_isConnected_9 ?_
  refine zkq (G := fun v1 w1 => zG p l e _ s m args below meth c D _ _ _ _ _ _ _ (v1.toList ++ _) w1) rfl ?_
  refine z_top (bI_t (nodeI hc)) ?_
  refine z_if_eq hC 19 dX5_isConnected_12 (by decide) (fun cn2 => absurd cn2 (by decide)) (fun cn2 => ?_)
  refine z_iconst (v := 1) hC dX5_isConnected_15 (by decide) ?_
  refine z_goto hC 20 dX5_isConnected_16 (by decide) ?_
  refine z_iconst (v := 1) hC dX5_isConnected_20 (by decide) ?_
  refine z_iconst (v := 1) hC dX5_isConnected_21 (by decide) ?_
  refine z_callV [0, 1, 2, 3] 0 5 hC (c_X5_goes l D ct q κ 1 1 1 0 rfl) bw_143 bw_144 bw_145 bw_5 bw_146 3 (by decide +kernel) rfl rfl rfl rfl rfl ⟨Nat.le_of_ble_eq_true rfl, Nat.le_of_ble_eq_true rfl⟩ (Nat.le_of_ble_eq_true rfl) ⟨Nat.le_of_ble_eq_true rfl, Nat.le_of_ble_eq_true rfl⟩ rfl dX5_isConnected_22 ?_
  refine zkd (G := fun v1 w1 => zG p l e _ s m args below meth c D _ _ _ _ _ _ _ (v1.toList ++ _) w1) (w2 := cM q (u2 κ 0 2 0) ct) cM_all ?_
  obtain ⟨κ3, eκ3⟩ : ∃ zz_, zz_ = (u2 κ 0 2 0) := ⟨_, rfl⟩
  rw [← eκ3]
  refine z_top (y := 1) (by decide) ?_
  refine z_if_eq hC 42 dX5_isConnected_25 (by decide) (fun cn4 => absurd cn4 (by decide)) (fun cn4 => ?_)
  refine z_aload_n hC dX5_isConnected_28 rfl ?_
  refine z_iconst (v := 0) hC dX5_isConnected_29 (by decide) ?_
  refine z_iload_n hC dX5_isConnected_30 rfl ?_
  refine z_iload_n hC dX5_isConnected_31 rfl ?_
  refine z_callV [0, 1, 2, 3] 0 5 hC (c_X5_areConnected l D ct q κ3 0 a c0 (by decide) (by omega)) bw_367 bw_368 bw_369 bw_5 bw_370 3 (by decide +kernel) rfl rfl rfl rfl rfl ⟨Nat.le_of_ble_eq_true rfl, Nat.le_of_ble_eq_true rfl⟩ (Nat.le_of_ble_eq_true rfl) ⟨Nat.le_of_ble_eq_true rfl, Nat.le_of_ble_eq_true rfl⟩ rfl dX5_isConnected_32 ?_
  refine zkq (G := fun v1 w1 => zG p l e _ s m args below meth c D _ _ _ _ _ _ _ (v1.toList ++ _) w1) rfl ?_
  refine z_if_eq hC 42 dX5_isConnected_35 (by decide) (fun c35 => ?_) (fun c35 => ?_)
  · rw [bI_0] at c35
    refine z_iconst (v := 0) hC dX5_isConnected_42 (by decide) ?_
    exact z_zretd hC hr (rfl) dX5_isConnected_43 (Nat.zero_le _) (Nat.zero_le _) (by subst eκ3; rw [c35]; rfl) (by subst eκ3; rfl) cM_adr
  · rw [bI_1] at c35
    refine z_iconst (v := 1) hC dX5_isConnected_38 (by decide) ?_
    refine z_goto hC 43 dX5_isConnected_39 (by decide) ?_
    exact z_zretd hC hr (rfl) dX5_isConnected_43 (Nat.zero_le _) (Nat.zero_le _) (by subst eκ3; rw [c35]; rfl) (by subst eκ3; rfl) cM_adr

set_option maxRecDepth 100000 in
set_option maxHeartbeats 1000000 in
theorem c_X5_isConnected_no1 (l : Launch) (D : va_G) (ct : Nat → ClassId) (q : Nat → Nat) (κ : Nat → Nat → Int32) (a c0 : Int32) (hx : mNode a = false ∨ mNode c0 = false) : zT l D ct yX5_isConnected cX5_isConnected 3 (some .boolean) 2 45 0 0 [.ref (q 0), .int a, .int c0] (cM q κ ct) (zd (some (.int 0)) (cM q (u2 κ 0 2 1) ct)) := by
  refine zT_of ([some (.ref (q 0)), some (.int a), some (.int c0)]) (by decide +kernel) rfl (Nat.le_of_ble_eq_true rfl) ?_
  intro p e s m args below meth c hC hr hnm
  refine z_aload_n hC dX5_isConnected_0 rfl ?_
  refine z_iload_n hC dX5_isConnected_1 rfl ?_
  refine z_callS [] hC (c_X5_isNode l D ct a) bw_137 bw_138 bw_5 bw_139 1 (by decide +kernel) rfl rfl rfl ⟨Nat.le_of_ble_eq_true rfl, Nat.le_of_ble_eq_true rfl⟩ (Nat.le_of_ble_eq_true rfl) ⟨Nat.le_of_ble_eq_true rfl, Nat.le_of_ble_eq_true rfl⟩ rfl dX5_isConnected_2 ?_
  refine zkq (G := fun v1 w1 => zG p l e _ s m args below meth c D _ _ _ _ _ _ _ (v1.toList ++ _) w1) rfl ?_
  refine z_if_eq hC 19 dX5_isConnected_5 (by decide) (fun c5 => ?_) (fun c5 => ?_)
  · rw [bI_0] at c5
    refine z_iconst (v := 0) hC dX5_isConnected_19 (by decide) ?_
    refine z_iconst (v := 1) hC dX5_isConnected_20 (by decide) ?_
    refine z_iconst (v := 1) hC dX5_isConnected_21 (by decide) ?_
    refine z_callV [0, 1, 2, 3] 0 5 hC (c_X5_goes l D ct q κ 0 1 1 1 rfl) bw_143 bw_144 bw_145 bw_5 bw_146 3 (by decide +kernel) rfl rfl rfl rfl rfl ⟨Nat.le_of_ble_eq_true rfl, Nat.le_of_ble_eq_true rfl⟩ (Nat.le_of_ble_eq_true rfl) ⟨Nat.le_of_ble_eq_true rfl, Nat.le_of_ble_eq_true rfl⟩ rfl dX5_isConnected_22 ?_
    refine zkd (G := fun v1 w1 => zG p l e _ s m args below meth c D _ _ _ _ _ _ _ (v1.toList ++ _) w1) (w2 := cM q (u2 κ 0 2 1) ct) cM_all ?_
    obtain ⟨κ1, eκ1⟩ : ∃ zz_, zz_ = (u2 κ 0 2 1) := ⟨_, rfl⟩
    rw [← eκ1]
    refine z_top (y := 0) (by decide) ?_
    refine z_if_eq hC 42 dX5_isConnected_25 (by decide) (fun cn2 => ?_) (fun cn2 => absurd cn2 (by decide))
    refine z_iconst (v := 0) hC dX5_isConnected_42 (by decide) ?_
    exact z_zretd hC hr (rfl) dX5_isConnected_43 (Nat.zero_le _) (Nat.zero_le _) (by subst eκ1; rfl) (by subst eκ1; rfl) cM_adr
  · rw [bI_1] at c5
    refine z_iload_n hC dX5_isConnected_8 rfl ?_
    refine z_callS [] hC (c_X5_isNode l D ct c0) bw_137 bw_138 bw_5 bw_139 1 (by decide +kernel) rfl rfl rfl ⟨Nat.le_of_ble_eq_true rfl, Nat.le_of_ble_eq_true rfl⟩ (Nat.le_of_ble_eq_true rfl) ⟨Nat.le_of_ble_eq_true rfl, Nat.le_of_ble_eq_true rfl⟩ rfl dX5_isConnected_9 ?_
    refine zkq (G := fun v1 w1 => zG p l e _ s m args below meth c D _ _ _ _ _ _ _ (v1.toList ++ _) w1) rfl ?_
    refine z_if_eq hC 19 dX5_isConnected_12 (by decide) (fun c12 => ?_) (fun c12 => (absurd ((hx.resolve_left (by rw [c5]; decide))) (by rw [(bI_1 _).mp c12]; decide)))
    refine z_iconst (v := 0) hC dX5_isConnected_19 (by decide) ?_
    refine z_iconst (v := 1) hC dX5_isConnected_20 (by decide) ?_
    refine z_iconst (v := 1) hC dX5_isConnected_21 (by decide) ?_
    refine z_callV [0, 1, 2, 3] 0 5 hC (c_X5_goes l D ct q κ 0 1 1 1 rfl) bw_143 bw_144 bw_145 bw_5 bw_146 3 (by decide +kernel) rfl rfl rfl rfl rfl ⟨Nat.le_of_ble_eq_true rfl, Nat.le_of_ble_eq_true rfl⟩ (Nat.le_of_ble_eq_true rfl) ⟨Nat.le_of_ble_eq_true rfl, Nat.le_of_ble_eq_true rfl⟩ rfl dX5_isConnected_22 ?_
    refine zkd (G := fun v1 w1 => zG p l e _ s m args below meth c D _ _ _ _ _ _ _ (v1.toList ++ _) w1) (w2 := cM q (u2 κ 0 2 1) ct) cM_all ?_
    obtain ⟨κ3, eκ3⟩ : ∃ zz_, zz_ = (u2 κ 0 2 1) := ⟨_, rfl⟩
    rw [← eκ3]
    refine z_top (y := 0) (by decide) ?_
    refine z_if_eq hC 42 dX5_isConnected_25 (by decide) (fun cn4 => ?_) (fun cn4 => absurd cn4 (by decide))
    refine z_iconst (v := 0) hC dX5_isConnected_42 (by decide) ?_
    exact z_zretd hC hr (rfl) dX5_isConnected_43 (Nat.zero_le _) (Nat.zero_le _) (by subst eκ3; rfl) (by subst eκ3; rfl) cM_adr

set_option maxRecDepth 100000 in
set_option maxHeartbeats 1000000 in
theorem c_X5_jump_ok (l : Launch) (D : va_G) (ct : Nat → ClassId) (q : Nat → Nat) (κ : Nat → Nat → Int32) (n : Nat) (h0 : 0 < n) (hn : n < 10) (k : Int32) (hk : mIn k (-100) 100 = true) (z : Nat) (hz : κ 0 0 = nI z) (hz6 : z ≤ 6) : zT l D ct yX5_jump cX5_jump 3 (some .int) 2 44 0 0 [.ref (q 0), .int (nI n), .int k] (cM q κ ct) (zd (some (.int (mdAdd (mdSave (u2 κ 0 2 0) z) (0 + 20 + 7 * n + 0) k 1 (0 + 20 + 7 * n + 0)))) (cM q (mdAdd (mdSave (u2 κ 0 2 0) z) (0 + 20 + 7 * n + 0) k) ct)) := by
  refine zT_of ([some (.ref (q 0)), some (.int (nI n)), some (.int k)]) (by decide +kernel) rfl (Nat.le_of_ble_eq_true rfl) ?_
  intro p e s m args below meth c hC hr hnm
  refine z_aload_n hC dX5_jump_0 rfl ?_
  refine z_iload_n hC dX5_jump_1 rfl ?_
  refine z_callS [] hC (c_X5_isMeter l D ct (nI n)) bw_206 bw_207 bw_5 bw_208 1 (by decide +kernel) rfl rfl rfl ⟨Nat.le_of_ble_eq_true rfl, Nat.le_of_ble_eq_true rfl⟩ (Nat.le_of_ble_eq_true rfl) ⟨Nat.le_of_ble_eq_true rfl, Nat.le_of_ble_eq_true rfl⟩ rfl dX5_jump_2 ?_
  refine zkq (G := fun v1 w1 => zG p l e _ s m args below meth c D _ _ _ _ _ _ _ (v1.toList ++ _) w1) rfl ?_
  refine z_top (bI_t (meterI h0 hn)) ?_
  refine z_iload_n hC dX5_jump_5 rfl ?_
  refine z_bipush (v := (-100)) hC dX5_jump_6 (by decide) ?_
  refine z_bipush (v := 100) hC dX5_jump_8 (by decide) ?_
  refine z_callS [] hC (c_X5_in l D ct k (-100) 100) bw_140 bw_141 bw_5 bw_142 3 (by decide +kernel) rfl rfl rfl ⟨Nat.le_of_ble_eq_true rfl, Nat.le_of_ble_eq_true rfl⟩ (Nat.le_of_ble_eq_true rfl) ⟨Nat.le_of_ble_eq_true rfl, Nat.le_of_ble_eq_true rfl⟩ rfl dX5_jump_10 ?_
  refine zkq (G := fun v1 w1 => zG p l e _ s m args below meth c D _ _ _ _ _ _ _ (v1.toList ++ _) w1) rfl ?_
  refine z_top (bI_t hk) ?_
  refine z_iconst (v := 1) hC dX5_jump_13 (by decide) ?_
  refine z_callV [0, 1, 2, 3] 0 5 hC (c_X5_goes l D ct q κ 1 1 1 0 rfl) bw_143 bw_144 bw_145 bw_5 bw_146 3 (by decide +kernel) rfl rfl rfl rfl rfl ⟨Nat.le_of_ble_eq_true rfl, Nat.le_of_ble_eq_true rfl⟩ (Nat.le_of_ble_eq_true rfl) ⟨Nat.le_of_ble_eq_true rfl, Nat.le_of_ble_eq_true rfl⟩ rfl dX5_jump_14 ?_
  refine zkd (G := fun v1 w1 => zG p l e _ s m args below meth c D _ _ _ _ _ _ _ (v1.toList ++ _) w1) (w2 := cM q (u2 κ 0 2 0) ct) cM_all ?_
  obtain ⟨κ1, eκ1⟩ : ∃ zz_, zz_ = (u2 κ 0 2 0) := ⟨_, rfl⟩
  rw [← eκ1]
  refine z_top (y := 1) (by decide) ?_
  refine z_if_ne hC 22 dX5_jump_17 (by decide) (fun cn2 => ?_) (fun cn2 => absurd cn2 (by decide))
  refine z_aload_n hC dX5_jump_22 rfl ?_
  refine z_callV [0, 1, 2, 3] 0 5 hC (c_X5_saves l D ct q κ1 z (by subst eκ1; exact hz) hz6) bw_148 bw_149 bw_150 bw_5 bw_151 0 (by decide +kernel) rfl rfl rfl rfl rfl ⟨Nat.le_of_ble_eq_true rfl, Nat.le_of_ble_eq_true rfl⟩ (Nat.le_of_ble_eq_true rfl) ⟨Nat.le_of_ble_eq_true rfl, Nat.le_of_ble_eq_true rfl⟩ rfl dX5_jump_23 ?_
  refine zkd (G := fun v1 w1 => zG p l e _ s m args below meth c D _ _ _ _ _ _ _ (v1.toList ++ _) w1) (w2 := cM q (mdSave κ1 z) ct) cM_all ?_
  obtain ⟨κ3, eκ3⟩ : ∃ zz_, zz_ = (mdSave κ1 z) := ⟨_, rfl⟩
  rw [← eκ3]
  refine z_aload_n hC dX5_jump_26 rfl ?_
  refine z_get 0 0 hC bl_X5 (ci := 5) rfl (by decide) rfl bw_67 rfl rfl dX5_jump_27 ?_
  refine z_iconst (v := 0) hC dX5_jump_30 (by decide) ?_
  refine z_iload_n hC dX5_jump_31 rfl ?_
  refine z_callS [] hC (c_X5_at l D ct 0 n) bw_70 bw_71 bw_5 bw_72 2 (by decide +kernel) rfl rfl rfl ⟨Nat.le_of_ble_eq_true rfl, Nat.le_of_ble_eq_true rfl⟩ (Nat.le_of_ble_eq_true rfl) ⟨Nat.le_of_ble_eq_true rfl, Nat.le_of_ble_eq_true rfl⟩ rfl dX5_jump_32 ?_
  refine zkq (G := fun v1 w1 => zG p l e _ s m args below meth c D _ _ _ _ _ _ _ (v1.toList ++ _) w1) rfl ?_
  refine z_iconst (v := 0) hC dX5_jump_35 (by decide) ?_
  refine z_iaddN (0 + 20 + 7 * n) (0) hC dX5_jump_36 ?_
  refine z_dup2 hC dX5_jump_37 rfl rfl ?_
  refine z_ialdN (0 + 20 + 7 * n + 0) 1 0 hC rfl rfl (by decide) (by omega) dX5_jump_38 ?_
  refine z_iload_n hC dX5_jump_39 rfl ?_
  refine z_iadd hC dX5_jump_40 ?_
  refine z_iastN (0 + 20 + 7 * n + 0) 1 0 hC rfl rfl (by decide) (by omega) dX5_jump_41 (w2 := cM q (u2 κ3 1 (0 + 20 + 7 * n + 0) ((κ3 1 (0 + 20 + 7 * n + 0)) + k)) ct) cM_a1 ?_
  obtain ⟨κ4, eκ4⟩ : ∃ zz_, zz_ = u2 κ3 1 (0 + 20 + 7 * n + 0) ((κ3 1 (0 + 20 + 7 * n + 0)) + k) := ⟨_, rfl⟩
  rw [← eκ4]
  refine z_aload_n hC dX5_jump_42 rfl ?_
  refine z_get 0 0 hC bl_X5 (ci := 5) rfl (by decide) rfl bw_67 rfl rfl dX5_jump_43 ?_
  refine z_iconst (v := 0) hC dX5_jump_46 (by decide) ?_
  refine z_iload_n hC dX5_jump_47 rfl ?_
  refine z_callS [] hC (c_X5_at l D ct 0 n) bw_70 bw_71 bw_5 bw_72 2 (by decide +kernel) rfl rfl rfl ⟨Nat.le_of_ble_eq_true rfl, Nat.le_of_ble_eq_true rfl⟩ (Nat.le_of_ble_eq_true rfl) ⟨Nat.le_of_ble_eq_true rfl, Nat.le_of_ble_eq_true rfl⟩ rfl dX5_jump_48 ?_
  refine zkq (G := fun v1 w1 => zG p l e _ s m args below meth c D _ _ _ _ _ _ _ (v1.toList ++ _) w1) rfl ?_
  refine z_iconst (v := 0) hC dX5_jump_51 (by decide) ?_
  refine z_iaddN (0 + 20 + 7 * n) (0) hC dX5_jump_52 ?_
  refine z_ialdN (0 + 20 + 7 * n + 0) 1 0 hC rfl rfl (by decide) (by omega) dX5_jump_53 ?_
  exact z_iretd hC hr dX5_jump_54 (Nat.zero_le _) (Nat.zero_le _) (by subst eκ4; subst eκ3; subst eκ1; rfl) (by subst eκ4; subst eκ3; subst eκ1; rfl) cM_adr

set_option maxRecDepth 100000 in
set_option maxHeartbeats 1000000 in
theorem c_X5_jump_no1 (l : Launch) (D : va_G) (ct : Nat → ClassId) (q : Nat → Nat) (κ : Nat → Nat → Int32) (n k : Int32) (hx : mMeter n = false) : zT l D ct yX5_jump cX5_jump 3 (some .int) 2 44 0 0 [.ref (q 0), .int n, .int k] (cM q κ ct) (zd (some (.int 0)) (cM q (u2 κ 0 2 1) ct)) := by
  refine zT_of ([some (.ref (q 0)), some (.int n), some (.int k)]) (by decide +kernel) rfl (Nat.le_of_ble_eq_true rfl) ?_
  intro p e s m args below meth c hC hr hnm
  refine z_aload_n hC dX5_jump_0 rfl ?_
  refine z_iload_n hC dX5_jump_1 rfl ?_
  refine z_callS [] hC (c_X5_isMeter l D ct n) bw_206 bw_207 bw_5 bw_208 1 (by decide +kernel) rfl rfl rfl ⟨Nat.le_of_ble_eq_true rfl, Nat.le_of_ble_eq_true rfl⟩ (Nat.le_of_ble_eq_true rfl) ⟨Nat.le_of_ble_eq_true rfl, Nat.le_of_ble_eq_true rfl⟩ rfl dX5_jump_2 ?_
  refine zkq (G := fun v1 w1 => zG p l e _ s m args below meth c D _ _ _ _ _ _ _ (v1.toList ++ _) w1) rfl ?_
  refine z_top (bI_f hx) ?_
  refine z_iload_n hC dX5_jump_5 rfl ?_
  refine z_bipush (v := (-100)) hC dX5_jump_6 (by decide) ?_
  refine z_bipush (v := 100) hC dX5_jump_8 (by decide) ?_
  refine z_callS [] hC (c_X5_in l D ct k (-100) 100) bw_140 bw_141 bw_5 bw_142 3 (by decide +kernel) rfl rfl rfl ⟨Nat.le_of_ble_eq_true rfl, Nat.le_of_ble_eq_true rfl⟩ (Nat.le_of_ble_eq_true rfl) ⟨Nat.le_of_ble_eq_true rfl, Nat.le_of_ble_eq_true rfl⟩ rfl dX5_jump_10 ?_
  refine zkq (G := fun v1 w1 => zG p l e _ s m args below meth c D _ _ _ _ _ _ _ (v1.toList ++ _) w1) rfl ?_
  refine z_iconst (v := 1) hC dX5_jump_13 (by decide) ?_
  refine z_callV [0, 1, 2, 3] 0 5 hC (c_X5_goes l D ct q κ 0 (bI (mIn k (-100) 100)) 1 1 (if_pos rfl)) bw_143 bw_144 bw_145 bw_5 bw_146 3 (by decide +kernel) rfl rfl rfl rfl rfl ⟨Nat.le_of_ble_eq_true rfl, Nat.le_of_ble_eq_true rfl⟩ (Nat.le_of_ble_eq_true rfl) ⟨Nat.le_of_ble_eq_true rfl, Nat.le_of_ble_eq_true rfl⟩ rfl dX5_jump_14 ?_
  refine zkd (G := fun v1 w1 => zG p l e _ s m args below meth c D _ _ _ _ _ _ _ (v1.toList ++ _) w1) (w2 := cM q (u2 κ 0 2 1) ct) cM_all ?_
  obtain ⟨κ1, eκ1⟩ : ∃ zz_, zz_ = (u2 κ 0 2 1) := ⟨_, rfl⟩
  rw [← eκ1]
  refine z_top (y := 0) (by decide) ?_
  refine z_if_ne hC 22 dX5_jump_17 (by decide) (fun cn2 => absurd cn2 (by decide)) (fun cn2 => ?_)
  refine z_iconst (v := 0) hC dX5_jump_20 (by decide) ?_
  exact z_iretd hC hr dX5_jump_21 (Nat.zero_le _) (Nat.zero_le _) (by subst eκ1; rfl) (by subst eκ1; rfl) cM_adr

set_option maxRecDepth 100000 in
set_option maxHeartbeats 1000000 in
theorem c_X5_jump_no2 (l : Launch) (D : va_G) (ct : Nat → ClassId) (q : Nat → Nat) (κ : Nat → Nat → Int32) (n k : Int32) (hm : mMeter n = true) (hx : mIn k (-100) 100 = false) : zT l D ct yX5_jump cX5_jump 3 (some .int) 2 44 0 0 [.ref (q 0), .int n, .int k] (cM q κ ct) (zd (some (.int 0)) (cM q (u2 κ 0 2 2) ct)) := by
  refine zT_of ([some (.ref (q 0)), some (.int n), some (.int k)]) (by decide +kernel) rfl (Nat.le_of_ble_eq_true rfl) ?_
  intro p e s m args below meth c hC hr hnm
  refine z_aload_n hC dX5_jump_0 rfl ?_
  refine z_iload_n hC dX5_jump_1 rfl ?_
  refine z_callS [] hC (c_X5_isMeter l D ct n) bw_206 bw_207 bw_5 bw_208 1 (by decide +kernel) rfl rfl rfl ⟨Nat.le_of_ble_eq_true rfl, Nat.le_of_ble_eq_true rfl⟩ (Nat.le_of_ble_eq_true rfl) ⟨Nat.le_of_ble_eq_true rfl, Nat.le_of_ble_eq_true rfl⟩ rfl dX5_jump_2 ?_
  refine zkq (G := fun v1 w1 => zG p l e _ s m args below meth c D _ _ _ _ _ _ _ (v1.toList ++ _) w1) rfl ?_
  refine z_top (bI_t hm) ?_
  refine z_iload_n hC dX5_jump_5 rfl ?_
  refine z_bipush (v := (-100)) hC dX5_jump_6 (by decide) ?_
  refine z_bipush (v := 100) hC dX5_jump_8 (by decide) ?_
  refine z_callS [] hC (c_X5_in l D ct k (-100) 100) bw_140 bw_141 bw_5 bw_142 3 (by decide +kernel) rfl rfl rfl ⟨Nat.le_of_ble_eq_true rfl, Nat.le_of_ble_eq_true rfl⟩ (Nat.le_of_ble_eq_true rfl) ⟨Nat.le_of_ble_eq_true rfl, Nat.le_of_ble_eq_true rfl⟩ rfl dX5_jump_10 ?_
  refine zkq (G := fun v1 w1 => zG p l e _ s m args below meth c D _ _ _ _ _ _ _ (v1.toList ++ _) w1) rfl ?_
  refine z_top (bI_f hx) ?_
  refine z_iconst (v := 1) hC dX5_jump_13 (by decide) ?_
  refine z_callV [0, 1, 2, 3] 0 5 hC (c_X5_goes l D ct q κ 1 0 1 2 rfl) bw_143 bw_144 bw_145 bw_5 bw_146 3 (by decide +kernel) rfl rfl rfl rfl rfl ⟨Nat.le_of_ble_eq_true rfl, Nat.le_of_ble_eq_true rfl⟩ (Nat.le_of_ble_eq_true rfl) ⟨Nat.le_of_ble_eq_true rfl, Nat.le_of_ble_eq_true rfl⟩ rfl dX5_jump_14 ?_
  refine zkd (G := fun v1 w1 => zG p l e _ s m args below meth c D _ _ _ _ _ _ _ (v1.toList ++ _) w1) (w2 := cM q (u2 κ 0 2 2) ct) cM_all ?_
  obtain ⟨κ1, eκ1⟩ : ∃ zz_, zz_ = (u2 κ 0 2 2) := ⟨_, rfl⟩
  rw [← eκ1]
  refine z_top (y := 0) (by decide) ?_
  refine z_if_ne hC 22 dX5_jump_17 (by decide) (fun cn2 => absurd cn2 (by decide)) (fun cn2 => ?_)
  refine z_iconst (v := 0) hC dX5_jump_20 (by decide) ?_
  exact z_iretd hC hr dX5_jump_21 (Nat.zero_le _) (Nat.zero_le _) (by subst eκ1; rfl) (by subst eκ1; rfl) cM_adr

set_option maxRecDepth 100000 in
set_option maxHeartbeats 1000000 in
theorem c_X5_sets (l : Launch) (D : va_G) (ct : Nat → ClassId) (q : Nat → Nat) (κ : Nat → Nat → Int32) (i : Nat) (hi : i < 5520) (v : Int32) (z : Nat) (hz : κ 0 0 = nI z) (hz6 : z ≤ 6) : zT l D ct yX5_sets cX5_sets 4 (some .int) 2 44 0 0 [.ref (q 0), .int (nI i), .int v] (cM q κ ct) (zd (some (.int (mdSave κ z 1 i))) (cM q (u2 (mdSave κ z) 1 i v) ct)) := by
  refine zT_of ([some (.ref (q 0)), some (.int (nI i)), some (.int v), none]) (by decide +kernel) rfl (Nat.le_of_ble_eq_true rfl) ?_
  intro p e s m args below meth c hC hr hnm
  refine z_aload_n hC dX5_sets_0 rfl ?_
  refine z_callV [0, 1, 2, 3] 0 5 hC (c_X5_saves l D ct q κ z (by exact hz) hz6) bw_148 bw_149 bw_150 bw_5 bw_151 0 (by decide +kernel) rfl rfl rfl rfl rfl ⟨Nat.le_of_ble_eq_true rfl, Nat.le_of_ble_eq_true rfl⟩ (Nat.le_of_ble_eq_true rfl) ⟨Nat.le_of_ble_eq_true rfl, Nat.le_of_ble_eq_true rfl⟩ rfl dX5_sets_1 ?_
  refine zkd (G := fun v1 w1 => zG p l e _ s m args below meth c D _ _ _ _ _ _ _ (v1.toList ++ _) w1) (w2 := cM q (mdSave κ z) ct) cM_all ?_
  obtain ⟨κ1, eκ1⟩ : ∃ zz_, zz_ = (mdSave κ z) := ⟨_, rfl⟩
  rw [← eκ1]
  refine z_aload_n hC dX5_sets_4 rfl ?_
  refine z_get 0 0 hC bl_X5 (ci := 5) rfl (by decide) rfl bw_67 rfl rfl dX5_sets_5 ?_
  refine z_iload_n hC dX5_sets_8 rfl ?_
  refine z_ialdN (i) 1 0 hC rfl rfl (by decide) (by omega) dX5_sets_9 ?_
  refine z_istore_n hC dX5_sets_10 (by decide) rfl ?_
  refine z_aload_n hC dX5_sets_11 rfl ?_
  refine z_get 0 0 hC bl_X5 (ci := 5) rfl (by decide) rfl bw_67 rfl rfl dX5_sets_12 ?_
  refine z_iload_n hC dX5_sets_15 rfl ?_
  refine z_iload_n hC dX5_sets_16 rfl ?_
  refine z_iastN (i) 1 0 hC rfl rfl (by decide) (by omega) dX5_sets_17 (w2 := cM q (u2 κ1 1 i v) ct) cM_a1 ?_
  obtain ⟨κ2, eκ2⟩ : ∃ zz_, zz_ = u2 κ1 1 i v := ⟨_, rfl⟩
  rw [← eκ2]
  refine z_iload_n hC dX5_sets_18 rfl ?_
  exact z_iretd hC hr dX5_sets_19 (Nat.zero_le _) (Nat.zero_le _) (by subst eκ2; subst eκ1; rfl) (by subst eκ2; subst eκ1; rfl) cM_adr

set_option maxRecDepth 100000 in
set_option maxHeartbeats 1000000 in
theorem c_X5_setFaults_ok (l : Launch) (D : va_G) (ct : Nat → ClassId) (q : Nat → Nat) (κ : Nat → Nat → Int32) (n : Nat) (h0 : 0 < n) (hn : n < 10) (k : Int32) (hk : mIn k 0 9 = true) (z : Nat) (hz : κ 0 0 = nI z) (hz6 : z ≤ 6) : zT l D ct yX5_setFaults cX5_setFaults 3 (some .int) 3 67 0 0 [.ref (q 0), .int (nI n), .int k] (cM q κ ct) (zd (some (.int ((mdSave (u2 κ 0 2 0) z) 1 (0 + 20 + 7 * n + 4)))) (cM q (u2 (mdSave (u2 κ 0 2 0) z) 1 (0 + 20 + 7 * n + 4) k) ct)) := by
  refine zT_of ([some (.ref (q 0)), some (.int (nI n)), some (.int k)]) (by decide +kernel) rfl (Nat.le_of_ble_eq_true rfl) ?_
  intro p e s m args below meth c hC hr hnm
  refine z_aload_n hC dX5_setFaults_0 rfl ?_
  refine z_iload_n hC dX5_setFaults_1 rfl ?_
  refine z_callS [] hC (c_X5_isMeter l D ct (nI n)) bw_206 bw_207 bw_5 bw_208 1 (by decide +kernel) rfl rfl rfl ⟨Nat.le_of_ble_eq_true rfl, Nat.le_of_ble_eq_true rfl⟩ (Nat.le_of_ble_eq_true rfl) ⟨Nat.le_of_ble_eq_true rfl, Nat.le_of_ble_eq_true rfl⟩ rfl dX5_setFaults_2 ?_
  refine zkq (G := fun v1 w1 => zG p l e _ s m args below meth c D _ _ _ _ _ _ _ (v1.toList ++ _) w1) rfl ?_
  refine z_top (bI_t (meterI h0 hn)) ?_
  refine z_iload_n hC dX5_setFaults_5 rfl ?_
  refine z_iconst (v := 0) hC dX5_setFaults_6 (by decide) ?_
  refine z_bipush (v := 9) hC dX5_setFaults_7 (by decide) ?_
  refine z_callS [] hC (c_X5_in l D ct k 0 9) bw_140 bw_141 bw_5 bw_142 3 (by decide +kernel) rfl rfl rfl ⟨Nat.le_of_ble_eq_true rfl, Nat.le_of_ble_eq_true rfl⟩ (Nat.le_of_ble_eq_true rfl) ⟨Nat.le_of_ble_eq_true rfl, Nat.le_of_ble_eq_true rfl⟩ rfl dX5_setFaults_9 ?_
  refine zkq (G := fun v1 w1 => zG p l e _ s m args below meth c D _ _ _ _ _ _ _ (v1.toList ++ _) w1) rfl ?_
  refine z_top (bI_t hk) ?_
  refine z_iconst (v := 1) hC dX5_setFaults_12 (by decide) ?_
  refine z_callV [0, 1, 2, 3] 0 5 hC (c_X5_goes l D ct q κ 1 1 1 0 rfl) bw_143 bw_144 bw_145 bw_5 bw_146 3 (by decide +kernel) rfl rfl rfl rfl rfl ⟨Nat.le_of_ble_eq_true rfl, Nat.le_of_ble_eq_true rfl⟩ (Nat.le_of_ble_eq_true rfl) ⟨Nat.le_of_ble_eq_true rfl, Nat.le_of_ble_eq_true rfl⟩ rfl dX5_setFaults_13 ?_
  refine zkd (G := fun v1 w1 => zG p l e _ s m args below meth c D _ _ _ _ _ _ _ (v1.toList ++ _) w1) (w2 := cM q (u2 κ 0 2 0) ct) cM_all ?_
  obtain ⟨κ1, eκ1⟩ : ∃ zz_, zz_ = (u2 κ 0 2 0) := ⟨_, rfl⟩
  rw [← eκ1]
  refine z_top (y := 1) (by decide) ?_
  refine z_if_eq hC 34 dX5_setFaults_16 (by decide) (fun cn2 => absurd cn2 (by decide)) (fun cn2 => ?_)
  refine z_aload_n hC dX5_setFaults_19 rfl ?_
  refine z_iconst (v := 0) hC dX5_setFaults_20 (by decide) ?_
  refine z_iload_n hC dX5_setFaults_21 rfl ?_
  refine z_callS [] hC (c_X5_at l D ct 0 n) bw_70 bw_71 bw_5 bw_72 2 (by decide +kernel) rfl rfl rfl ⟨Nat.le_of_ble_eq_true rfl, Nat.le_of_ble_eq_true rfl⟩ (Nat.le_of_ble_eq_true rfl) ⟨Nat.le_of_ble_eq_true rfl, Nat.le_of_ble_eq_true rfl⟩ rfl dX5_setFaults_22 ?_
  refine zkq (G := fun v1 w1 => zG p l e _ s m args below meth c D _ _ _ _ _ _ _ (v1.toList ++ _) w1) rfl ?_
  refine z_iconst (v := 4) hC dX5_setFaults_25 (by decide) ?_
  refine z_iaddN (0 + 20 + 7 * n) (4) hC dX5_setFaults_26 ?_
  refine z_iload_n hC dX5_setFaults_27 rfl ?_
  refine z_callV [0, 1, 2, 3] 0 5 hC (c_X5_sets l D ct q κ1 (0 + 20 + 7 * n + 4) (by omega) k z (by subst eκ1; exact hz) hz6) bw_220 bw_221 bw_222 bw_5 bw_223 2 (by decide +kernel) rfl rfl rfl rfl rfl ⟨Nat.le_of_ble_eq_true rfl, Nat.le_of_ble_eq_true rfl⟩ (Nat.le_of_ble_eq_true rfl) ⟨Nat.le_of_ble_eq_true rfl, Nat.le_of_ble_eq_true rfl⟩ rfl dX5_setFaults_28 ?_
  refine zkd (G := fun v1 w1 => zG p l e _ s m args below meth c D _ _ _ _ _ _ _ (v1.toList ++ _) w1) (w2 := cM q (u2 (mdSave κ1 z) 1 (0 + 20 + 7 * n + 4) k) ct) cM_all ?_
  obtain ⟨κ3, eκ3⟩ : ∃ zz_, zz_ = (u2 (mdSave κ1 z) 1 (0 + 20 + 7 * n + 4) k) := ⟨_, rfl⟩
  rw [← eκ3]
  refine z_goto hC 35 dX5_setFaults_31 (by decide) ?_
  exact z_iretd hC hr dX5_setFaults_35 (Nat.zero_le _) (Nat.zero_le _) (by subst eκ3; subst eκ1; rfl) (by subst eκ3; subst eκ1; rfl) cM_adr

set_option maxRecDepth 100000 in
set_option maxHeartbeats 1000000 in
theorem c_X5_setFaults_no1 (l : Launch) (D : va_G) (ct : Nat → ClassId) (q : Nat → Nat) (κ : Nat → Nat → Int32) (n k : Int32) (hx : mMeter n = false) : zT l D ct yX5_setFaults cX5_setFaults 3 (some .int) 3 67 0 0 [.ref (q 0), .int n, .int k] (cM q κ ct) (zd (some (.int 0)) (cM q (u2 κ 0 2 1) ct)) := by
  refine zT_of ([some (.ref (q 0)), some (.int n), some (.int k)]) (by decide +kernel) rfl (Nat.le_of_ble_eq_true rfl) ?_
  intro p e s m args below meth c hC hr hnm
  refine z_aload_n hC dX5_setFaults_0 rfl ?_
  refine z_iload_n hC dX5_setFaults_1 rfl ?_
  refine z_callS [] hC (c_X5_isMeter l D ct n) bw_206 bw_207 bw_5 bw_208 1 (by decide +kernel) rfl rfl rfl ⟨Nat.le_of_ble_eq_true rfl, Nat.le_of_ble_eq_true rfl⟩ (Nat.le_of_ble_eq_true rfl) ⟨Nat.le_of_ble_eq_true rfl, Nat.le_of_ble_eq_true rfl⟩ rfl dX5_setFaults_2 ?_
  refine zkq (G := fun v1 w1 => zG p l e _ s m args below meth c D _ _ _ _ _ _ _ (v1.toList ++ _) w1) rfl ?_
  refine z_top (bI_f hx) ?_
  refine z_iload_n hC dX5_setFaults_5 rfl ?_
  refine z_iconst (v := 0) hC dX5_setFaults_6 (by decide) ?_
  refine z_bipush (v := 9) hC dX5_setFaults_7 (by decide) ?_
  refine z_callS [] hC (c_X5_in l D ct k 0 9) bw_140 bw_141 bw_5 bw_142 3 (by decide +kernel) rfl rfl rfl ⟨Nat.le_of_ble_eq_true rfl, Nat.le_of_ble_eq_true rfl⟩ (Nat.le_of_ble_eq_true rfl) ⟨Nat.le_of_ble_eq_true rfl, Nat.le_of_ble_eq_true rfl⟩ rfl dX5_setFaults_9 ?_
  refine zkq (G := fun v1 w1 => zG p l e _ s m args below meth c D _ _ _ _ _ _ _ (v1.toList ++ _) w1) rfl ?_
  refine z_iconst (v := 1) hC dX5_setFaults_12 (by decide) ?_
  refine z_callV [0, 1, 2, 3] 0 5 hC (c_X5_goes l D ct q κ 0 (bI (mIn k 0 9)) 1 1 (if_pos rfl)) bw_143 bw_144 bw_145 bw_5 bw_146 3 (by decide +kernel) rfl rfl rfl rfl rfl ⟨Nat.le_of_ble_eq_true rfl, Nat.le_of_ble_eq_true rfl⟩ (Nat.le_of_ble_eq_true rfl) ⟨Nat.le_of_ble_eq_true rfl, Nat.le_of_ble_eq_true rfl⟩ rfl dX5_setFaults_13 ?_
  refine zkd (G := fun v1 w1 => zG p l e _ s m args below meth c D _ _ _ _ _ _ _ (v1.toList ++ _) w1) (w2 := cM q (u2 κ 0 2 1) ct) cM_all ?_
  obtain ⟨κ1, eκ1⟩ : ∃ zz_, zz_ = (u2 κ 0 2 1) := ⟨_, rfl⟩
  rw [← eκ1]
  refine z_top (y := 0) (by decide) ?_
  refine z_if_eq hC 34 dX5_setFaults_16 (by decide) (fun cn2 => ?_) (fun cn2 => absurd cn2 (by decide))
  refine z_iconst (v := 0) hC dX5_setFaults_34 (by decide) ?_
  exact z_iretd hC hr dX5_setFaults_35 (Nat.zero_le _) (Nat.zero_le _) (by subst eκ1; rfl) (by subst eκ1; rfl) cM_adr

set_option maxRecDepth 100000 in
set_option maxHeartbeats 1000000 in
theorem c_X5_setFaults_no2 (l : Launch) (D : va_G) (ct : Nat → ClassId) (q : Nat → Nat) (κ : Nat → Nat → Int32) (n k : Int32) (hm : mMeter n = true) (hx : mIn k 0 9 = false) : zT l D ct yX5_setFaults cX5_setFaults 3 (some .int) 3 67 0 0 [.ref (q 0), .int n, .int k] (cM q κ ct) (zd (some (.int 0)) (cM q (u2 κ 0 2 2) ct)) := by
  refine zT_of ([some (.ref (q 0)), some (.int n), some (.int k)]) (by decide +kernel) rfl (Nat.le_of_ble_eq_true rfl) ?_
  intro p e s m args below meth c hC hr hnm
  refine z_aload_n hC dX5_setFaults_0 rfl ?_
  refine z_iload_n hC dX5_setFaults_1 rfl ?_
  refine z_callS [] hC (c_X5_isMeter l D ct n) bw_206 bw_207 bw_5 bw_208 1 (by decide +kernel) rfl rfl rfl ⟨Nat.le_of_ble_eq_true rfl, Nat.le_of_ble_eq_true rfl⟩ (Nat.le_of_ble_eq_true rfl) ⟨Nat.le_of_ble_eq_true rfl, Nat.le_of_ble_eq_true rfl⟩ rfl dX5_setFaults_2 ?_
  refine zkq (G := fun v1 w1 => zG p l e _ s m args below meth c D _ _ _ _ _ _ _ (v1.toList ++ _) w1) rfl ?_
  refine z_top (bI_t hm) ?_
  refine z_iload_n hC dX5_setFaults_5 rfl ?_
  refine z_iconst (v := 0) hC dX5_setFaults_6 (by decide) ?_
  refine z_bipush (v := 9) hC dX5_setFaults_7 (by decide) ?_
  refine z_callS [] hC (c_X5_in l D ct k 0 9) bw_140 bw_141 bw_5 bw_142 3 (by decide +kernel) rfl rfl rfl ⟨Nat.le_of_ble_eq_true rfl, Nat.le_of_ble_eq_true rfl⟩ (Nat.le_of_ble_eq_true rfl) ⟨Nat.le_of_ble_eq_true rfl, Nat.le_of_ble_eq_true rfl⟩ rfl dX5_setFaults_9 ?_
  refine zkq (G := fun v1 w1 => zG p l e _ s m args below meth c D _ _ _ _ _ _ _ (v1.toList ++ _) w1) rfl ?_
  refine z_top (bI_f hx) ?_
  refine z_iconst (v := 1) hC dX5_setFaults_12 (by decide) ?_
  refine z_callV [0, 1, 2, 3] 0 5 hC (c_X5_goes l D ct q κ 1 0 1 2 rfl) bw_143 bw_144 bw_145 bw_5 bw_146 3 (by decide +kernel) rfl rfl rfl rfl rfl ⟨Nat.le_of_ble_eq_true rfl, Nat.le_of_ble_eq_true rfl⟩ (Nat.le_of_ble_eq_true rfl) ⟨Nat.le_of_ble_eq_true rfl, Nat.le_of_ble_eq_true rfl⟩ rfl dX5_setFaults_13 ?_
  refine zkd (G := fun v1 w1 => zG p l e _ s m args below meth c D _ _ _ _ _ _ _ (v1.toList ++ _) w1) (w2 := cM q (u2 κ 0 2 2) ct) cM_all ?_
  obtain ⟨κ1, eκ1⟩ : ∃ zz_, zz_ = (u2 κ 0 2 2) := ⟨_, rfl⟩
  rw [← eκ1]
  refine z_top (y := 0) (by decide) ?_
  refine z_if_eq hC 34 dX5_setFaults_16 (by decide) (fun cn2 => ?_) (fun cn2 => absurd cn2 (by decide))
  refine z_iconst (v := 0) hC dX5_setFaults_34 (by decide) ?_
  exact z_iretd hC hr dX5_setFaults_35 (Nat.zero_le _) (Nat.zero_le _) (by subst eκ1; rfl) (by subst eκ1; rfl) cM_adr

set_option maxRecDepth 100000 in
set_option maxHeartbeats 1000000 in
theorem c_X5_setPatience_ok (l : Launch) (D : va_G) (ct : Nat → ClassId) (q : Nat → Nat) (κ : Nat → Nat → Int32) (k : Int32) (hk : mIn k 1 5 = true) (z : Nat) (hz : κ 0 0 = nI z) (hz6 : z ≤ 6) : zT l D ct yX5_setPatience cX5_setPatience 2 (some .int) 3 67 0 0 [.ref (q 0), .int k] (cM q κ ct) (zd (some (.int ((mdSave (u2 κ 0 2 0) z) 1 11))) (cM q (u2 (mdSave (u2 κ 0 2 0) z) 1 11 k) ct)) := by
  refine zT_of ([some (.ref (q 0)), some (.int k)]) (by decide +kernel) rfl (Nat.le_of_ble_eq_true rfl) ?_
  intro p e s m args below meth c hC hr hnm
  refine z_aload_n hC dX5_setPatience_0 rfl ?_
  refine z_iload_n hC dX5_setPatience_1 rfl ?_
  refine z_iconst (v := 1) hC dX5_setPatience_2 (by decide) ?_
  refine z_iconst (v := 5) hC dX5_setPatience_3 (by decide) ?_
  refine z_callS [] hC (c_X5_in l D ct k 1 5) bw_140 bw_141 bw_5 bw_142 3 (by decide +kernel) rfl rfl rfl ⟨Nat.le_of_ble_eq_true rfl, Nat.le_of_ble_eq_true rfl⟩ (Nat.le_of_ble_eq_true rfl) ⟨Nat.le_of_ble_eq_true rfl, Nat.le_of_ble_eq_true rfl⟩ rfl dX5_setPatience_4 ?_
  refine zkq (G := fun v1 w1 => zG p l e _ s m args below meth c D _ _ _ _ _ _ _ (v1.toList ++ _) w1) rfl ?_
  refine z_top (bI_t hk) ?_
  refine z_iconst (v := 1) hC dX5_setPatience_7 (by decide) ?_
  refine z_iconst (v := 1) hC dX5_setPatience_8 (by decide) ?_
  refine z_callV [0, 1, 2, 3] 0 5 hC (c_X5_goes l D ct q κ 1 1 1 0 rfl) bw_143 bw_144 bw_145 bw_5 bw_146 3 (by decide +kernel) rfl rfl rfl rfl rfl ⟨Nat.le_of_ble_eq_true rfl, Nat.le_of_ble_eq_true rfl⟩ (Nat.le_of_ble_eq_true rfl) ⟨Nat.le_of_ble_eq_true rfl, Nat.le_of_ble_eq_true rfl⟩ rfl dX5_setPatience_9 ?_
  refine zkd (G := fun v1 w1 => zG p l e _ s m args below meth c D _ _ _ _ _ _ _ (v1.toList ++ _) w1) (w2 := cM q (u2 κ 0 2 0) ct) cM_all ?_
  obtain ⟨κ1, eκ1⟩ : ∃ zz_, zz_ = (u2 κ 0 2 0) := ⟨_, rfl⟩
  rw [← eκ1]
  refine z_top (y := 1) (by decide) ?_
  refine z_if_eq hC 25 dX5_setPatience_12 (by decide) (fun cn2 => absurd cn2 (by decide)) (fun cn2 => ?_)
  refine z_aload_n hC dX5_setPatience_15 rfl ?_
  refine z_bipush (v := 11) hC dX5_setPatience_16 (by decide) ?_
  refine z_iload_n hC dX5_setPatience_18 rfl ?_
  refine z_callV [0, 1, 2, 3] 0 5 hC (c_X5_sets l D ct q κ1 11 (by omega) k z (by subst eκ1; exact hz) hz6) bw_220 bw_221 bw_222 bw_5 bw_223 2 (by decide +kernel) rfl rfl rfl rfl rfl ⟨Nat.le_of_ble_eq_true rfl, Nat.le_of_ble_eq_true rfl⟩ (Nat.le_of_ble_eq_true rfl) ⟨Nat.le_of_ble_eq_true rfl, Nat.le_of_ble_eq_true rfl⟩ rfl dX5_setPatience_19 ?_
  refine zkd (G := fun v1 w1 => zG p l e _ s m args below meth c D _ _ _ _ _ _ _ (v1.toList ++ _) w1) (w2 := cM q (u2 (mdSave κ1 z) 1 11 k) ct) cM_all ?_
  obtain ⟨κ3, eκ3⟩ : ∃ zz_, zz_ = (u2 (mdSave κ1 z) 1 11 k) := ⟨_, rfl⟩
  rw [← eκ3]
  refine z_goto hC 26 dX5_setPatience_22 (by decide) ?_
  exact z_iretd hC hr dX5_setPatience_26 (Nat.zero_le _) (Nat.zero_le _) (by subst eκ3; subst eκ1; rfl) (by subst eκ3; subst eκ1; rfl) cM_adr

set_option maxRecDepth 100000 in
set_option maxHeartbeats 1000000 in
theorem c_X5_setPatience_no1 (l : Launch) (D : va_G) (ct : Nat → ClassId) (q : Nat → Nat) (κ : Nat → Nat → Int32) (k : Int32) (hx : mIn k 1 5 = false) : zT l D ct yX5_setPatience cX5_setPatience 2 (some .int) 3 67 0 0 [.ref (q 0), .int k] (cM q κ ct) (zd (some (.int 0)) (cM q (u2 κ 0 2 1) ct)) := by
  refine zT_of ([some (.ref (q 0)), some (.int k)]) (by decide +kernel) rfl (Nat.le_of_ble_eq_true rfl) ?_
  intro p e s m args below meth c hC hr hnm
  refine z_aload_n hC dX5_setPatience_0 rfl ?_
  refine z_iload_n hC dX5_setPatience_1 rfl ?_
  refine z_iconst (v := 1) hC dX5_setPatience_2 (by decide) ?_
  refine z_iconst (v := 5) hC dX5_setPatience_3 (by decide) ?_
  refine z_callS [] hC (c_X5_in l D ct k 1 5) bw_140 bw_141 bw_5 bw_142 3 (by decide +kernel) rfl rfl rfl ⟨Nat.le_of_ble_eq_true rfl, Nat.le_of_ble_eq_true rfl⟩ (Nat.le_of_ble_eq_true rfl) ⟨Nat.le_of_ble_eq_true rfl, Nat.le_of_ble_eq_true rfl⟩ rfl dX5_setPatience_4 ?_
  refine zkq (G := fun v1 w1 => zG p l e _ s m args below meth c D _ _ _ _ _ _ _ (v1.toList ++ _) w1) rfl ?_
  refine z_top (bI_f hx) ?_
  refine z_iconst (v := 1) hC dX5_setPatience_7 (by decide) ?_
  refine z_iconst (v := 1) hC dX5_setPatience_8 (by decide) ?_
  refine z_callV [0, 1, 2, 3] 0 5 hC (c_X5_goes l D ct q κ 0 1 1 1 rfl) bw_143 bw_144 bw_145 bw_5 bw_146 3 (by decide +kernel) rfl rfl rfl rfl rfl ⟨Nat.le_of_ble_eq_true rfl, Nat.le_of_ble_eq_true rfl⟩ (Nat.le_of_ble_eq_true rfl) ⟨Nat.le_of_ble_eq_true rfl, Nat.le_of_ble_eq_true rfl⟩ rfl dX5_setPatience_9 ?_
  refine zkd (G := fun v1 w1 => zG p l e _ s m args below meth c D _ _ _ _ _ _ _ (v1.toList ++ _) w1) (w2 := cM q (u2 κ 0 2 1) ct) cM_all ?_
  obtain ⟨κ1, eκ1⟩ : ∃ zz_, zz_ = (u2 κ 0 2 1) := ⟨_, rfl⟩
  rw [← eκ1]
  refine z_top (y := 0) (by decide) ?_
  refine z_if_eq hC 25 dX5_setPatience_12 (by decide) (fun cn2 => ?_) (fun cn2 => absurd cn2 (by decide))
  refine z_iconst (v := 0) hC dX5_setPatience_25 (by decide) ?_
  exact z_iretd hC hr dX5_setPatience_26 (Nat.zero_le _) (Nat.zero_le _) (by subst eκ1; rfl) (by subst eκ1; rfl) cM_adr

set_option maxRecDepth 100000 in
set_option maxHeartbeats 1000000 in
theorem c_X5_take_ok (l : Launch) (D : va_G) (ct : Nat → ClassId) (q : Nat → Nat) (κ : Nat → Nat → Int32) (n : Nat) (h0 : 0 < n) (hn : n < 10) (k : Int32) (hk : mIn k 0 999 = true) (hKc : okK κ 0 n) (hcan : mdCan κ n = true) (z : Nat) (hz : κ 0 0 = nI z) (hz6 : z ≤ 6) (hKt : okK (mdSave (u2 κ 0 2 0) z) 0 n) : zT l D ct yX5_take cX5_take 3 (some .int) 2 46 0 0 [.ref (q 0), .int (nI n), .int k] (cM q κ ct) (zd (some (.int ((mdTake (mdSave (u2 κ 0 2 0) z) n k) 1 (0 + 20 + 7 * n + 5) - 1))) (cM q (mdTake (mdSave (u2 κ 0 2 0) z) n k) ct)) := by
  refine zT_of ([some (.ref (q 0)), some (.int (nI n)), some (.int k)]) (by decide +kernel) rfl (Nat.le_of_ble_eq_true rfl) ?_
  intro p e s m args below meth c hC hr hnm
  refine z_aload_n hC dX5_take_0 rfl ?_
  refine z_iload_n hC dX5_take_1 rfl ?_
  refine z_callS [] hC (c_X5_isMeter l D ct (nI n)) bw_206 bw_207 bw_5 bw_208 1 (by decide +kernel) rfl rfl rfl ⟨Nat.le_of_ble_eq_true rfl, Nat.le_of_ble_eq_true rfl⟩ (Nat.le_of_ble_eq_true rfl) ⟨Nat.le_of_ble_eq_true rfl, Nat.le_of_ble_eq_true rfl⟩ rfl dX5_take_2 ?_
  refine zkq (G := fun v1 w1 => zG p l e _ s m args below meth c D _ _ _ _ _ _ _ (v1.toList ++ _) w1) rfl ?_
  refine z_top (bI_t (meterI h0 hn)) ?_
  refine z_iload_n hC dX5_take_5 rfl ?_
  refine z_iconst (v := 0) hC dX5_take_6 (by decide) ?_
  refine z_sipush (v := 999) hC dX5_take_7 (by decide) ?_
  refine z_callS [] hC (c_X5_in l D ct k 0 999) bw_140 bw_141 bw_5 bw_142 3 (by decide +kernel) rfl rfl rfl ⟨Nat.le_of_ble_eq_true rfl, Nat.le_of_ble_eq_true rfl⟩ (Nat.le_of_ble_eq_true rfl) ⟨Nat.le_of_ble_eq_true rfl, Nat.le_of_ble_eq_true rfl⟩ rfl dX5_take_10 ?_
  refine zkq (G := fun v1 w1 => zG p l e _ s m args below meth c D _ _ _ _ _ _ _ (v1.toList ++ _) w1) rfl ?_
  refine z_top (bI_t hk) ?_
  refine z_iload_n hC dX5_take_13 rfl ?_
  refine z_callS [] hC (c_X5_isMeter l D ct (nI n)) bw_206 bw_207 bw_5 bw_208 1 (by decide +kernel) rfl rfl rfl ⟨Nat.le_of_ble_eq_true rfl, Nat.le_of_ble_eq_true rfl⟩ (Nat.le_of_ble_eq_true rfl) ⟨Nat.le_of_ble_eq_true rfl, Nat.le_of_ble_eq_true rfl⟩ rfl dX5_take_14 ?_
  refine zkq (G := fun v1 w1 => zG p l e _ s m args below meth c D _ _ _ _ _ _ _ (v1.toList ++ _) w1) rfl ?_
  refine z_top (bI_t (meterI h0 hn)) ?_
  refine z_if_eq hC 32 dX5_take_17 (by decide) (fun cn1 => absurd cn1 (by decide)) (fun cn1 => ?_)
  refine z_aload_n hC dX5_take_20 rfl ?_
  refine z_iload_n hC dX5_take_21 rfl ?_
  refine z_callV [0, 1, 2, 3] 0 5 hC (c_X5_canTake l D ct q κ n (by omega) hKc) bw_274 bw_275 bw_276 bw_5 bw_277 1 (by decide +kernel) rfl rfl rfl rfl rfl ⟨Nat.le_of_ble_eq_true rfl, Nat.le_of_ble_eq_true rfl⟩ (Nat.le_of_ble_eq_true rfl) ⟨Nat.le_of_ble_eq_true rfl, Nat.le_of_ble_eq_true rfl⟩ rfl dX5_take_22 ?_
  refine zkq (G := fun v1 w1 => zG p l e _ s m args below meth c D _ _ _ _ _ _ _ (v1.toList ++ _) w1) rfl ?_
  refine z_top (bI_t hcan) ?_
  refine z_if_eq hC 32 dX5_take_25 (by decide) (fun cn2 => absurd cn2 (by decide)) (fun cn2 => ?_)
  refine z_iconst (v := 1) hC dX5_take_28 (by decide) ?_
  refine z_goto hC 33 dX5_take_29 (by decide) ?_
  refine z_callV [0, 1, 2, 3] 0 5 hC (c_X5_goes l D ct q κ 1 1 1 0 rfl) bw_143 bw_144 bw_145 bw_5 bw_146 3 (by decide +kernel) rfl rfl rfl rfl rfl ⟨Nat.le_of_ble_eq_true rfl, Nat.le_of_ble_eq_true rfl⟩ (Nat.le_of_ble_eq_true rfl) ⟨Nat.le_of_ble_eq_true rfl, Nat.le_of_ble_eq_true rfl⟩ rfl dX5_take_33 ?_
  refine zkd (G := fun v1 w1 => zG p l e _ s m args below meth c D _ _ _ _ _ _ _ (v1.toList ++ _) w1) (w2 := cM q (u2 κ 0 2 0) ct) cM_all ?_
  obtain ⟨κ3, eκ3⟩ : ∃ zz_, zz_ = (u2 κ 0 2 0) := ⟨_, rfl⟩
  rw [← eκ3]
  refine z_top (y := 1) (by decide) ?_
  refine z_if_ne hC 41 dX5_take_36 (by decide) (fun cn4 => ?_) (fun cn4 => absurd cn4 (by decide))
  refine z_aload_n hC dX5_take_41 rfl ?_
  refine z_callV [0, 1, 2, 3] 0 5 hC (c_X5_saves l D ct q κ3 z (by subst eκ3; exact hz) hz6) bw_148 bw_149 bw_150 bw_5 bw_151 0 (by decide +kernel) rfl rfl rfl rfl rfl ⟨Nat.le_of_ble_eq_true rfl, Nat.le_of_ble_eq_true rfl⟩ (Nat.le_of_ble_eq_true rfl) ⟨Nat.le_of_ble_eq_true rfl, Nat.le_of_ble_eq_true rfl⟩ rfl dX5_take_42 ?_
  refine zkd (G := fun v1 w1 => zG p l e _ s m args below meth c D _ _ _ _ _ _ _ (v1.toList ++ _) w1) (w2 := cM q (mdSave κ3 z) ct) cM_all ?_
  obtain ⟨κ5, eκ5⟩ : ∃ zz_, zz_ = (mdSave κ3 z) := ⟨_, rfl⟩
  rw [← eκ5]
  refine z_aload_n hC dX5_take_45 rfl ?_
  refine z_iload_n hC dX5_take_46 rfl ?_
  refine z_iload_n hC dX5_take_47 rfl ?_
  refine z_callV [0, 1, 2, 3] 0 5 hC (c_X5_takes l D ct q κ5 n k (by omega) (by subst eκ5; subst eκ3; exact hKt)) bw_278 bw_279 bw_280 bw_5 bw_281 2 (by decide +kernel) rfl rfl rfl rfl rfl ⟨Nat.le_of_ble_eq_true rfl, Nat.le_of_ble_eq_true rfl⟩ (Nat.le_of_ble_eq_true rfl) ⟨Nat.le_of_ble_eq_true rfl, Nat.le_of_ble_eq_true rfl⟩ rfl dX5_take_48 ?_
  refine zkd (G := fun v1 w1 => zG p l e _ s m args below meth c D _ _ _ _ _ _ _ (v1.toList ++ _) w1) (w2 := cM q (mdTake κ5 n k) ct) cM_all ?_
  obtain ⟨κ6, eκ6⟩ : ∃ zz_, zz_ = (mdTake κ5 n k) := ⟨_, rfl⟩
  rw [← eκ6]
  exact z_iretd hC hr dX5_take_51 (Nat.zero_le _) (Nat.zero_le _) (by subst eκ6; subst eκ5; subst eκ3; rfl) (by subst eκ6; subst eκ5; subst eκ3; rfl) cM_adr

set_option maxRecDepth 100000 in
set_option maxHeartbeats 1000000 in
theorem c_X5_take_no1 (l : Launch) (D : va_G) (ct : Nat → ClassId) (q : Nat → Nat) (κ : Nat → Nat → Int32) (n k : Int32) (hx : mMeter n = false) : zT l D ct yX5_take cX5_take 3 (some .int) 2 46 0 0 [.ref (q 0), .int n, .int k] (cM q κ ct) (zd (some (.int 0)) (cM q (u2 κ 0 2 1) ct)) := by
  refine zT_of ([some (.ref (q 0)), some (.int n), some (.int k)]) (by decide +kernel) rfl (Nat.le_of_ble_eq_true rfl) ?_
  intro p e s m args below meth c hC hr hnm
  refine z_aload_n hC dX5_take_0 rfl ?_
  refine z_iload_n hC dX5_take_1 rfl ?_
  refine z_callS [] hC (c_X5_isMeter l D ct n) bw_206 bw_207 bw_5 bw_208 1 (by decide +kernel) rfl rfl rfl ⟨Nat.le_of_ble_eq_true rfl, Nat.le_of_ble_eq_true rfl⟩ (Nat.le_of_ble_eq_true rfl) ⟨Nat.le_of_ble_eq_true rfl, Nat.le_of_ble_eq_true rfl⟩ rfl dX5_take_2 ?_
  refine zkq (G := fun v1 w1 => zG p l e _ s m args below meth c D _ _ _ _ _ _ _ (v1.toList ++ _) w1) rfl ?_
  refine z_top (bI_f hx) ?_
  refine z_iload_n hC dX5_take_5 rfl ?_
  refine z_iconst (v := 0) hC dX5_take_6 (by decide) ?_
  refine z_sipush (v := 999) hC dX5_take_7 (by decide) ?_
  refine z_callS [] hC (c_X5_in l D ct k 0 999) bw_140 bw_141 bw_5 bw_142 3 (by decide +kernel) rfl rfl rfl ⟨Nat.le_of_ble_eq_true rfl, Nat.le_of_ble_eq_true rfl⟩ (Nat.le_of_ble_eq_true rfl) ⟨Nat.le_of_ble_eq_true rfl, Nat.le_of_ble_eq_true rfl⟩ rfl dX5_take_10 ?_
  refine zkq (G := fun v1 w1 => zG p l e _ s m args below meth c D _ _ _ _ _ _ _ (v1.toList ++ _) w1) rfl ?_
  refine z_iload_n hC dX5_take_13 rfl ?_
  refine z_callS [] hC (c_X5_isMeter l D ct n) bw_206 bw_207 bw_5 bw_208 1 (by decide +kernel) rfl rfl rfl ⟨Nat.le_of_ble_eq_true rfl, Nat.le_of_ble_eq_true rfl⟩ (Nat.le_of_ble_eq_true rfl) ⟨Nat.le_of_ble_eq_true rfl, Nat.le_of_ble_eq_true rfl⟩ rfl dX5_take_14 ?_
  refine zkq (G := fun v1 w1 => zG p l e _ s m args below meth c D _ _ _ _ _ _ _ (v1.toList ++ _) w1) rfl ?_
  refine z_top (bI_f hx) ?_
  refine z_if_eq hC 32 dX5_take_17 (by decide) (fun cn1 => ?_) (fun cn1 => absurd cn1 (by decide))
  refine z_iconst (v := 0) hC dX5_take_32 (by decide) ?_
  refine z_callV [0, 1, 2, 3] 0 5 hC (c_X5_goes l D ct q κ 0 (bI (mIn k 0 999)) 0 1 (if_pos rfl)) bw_143 bw_144 bw_145 bw_5 bw_146 3 (by decide +kernel) rfl rfl rfl rfl rfl ⟨Nat.le_of_ble_eq_true rfl, Nat.le_of_ble_eq_true rfl⟩ (Nat.le_of_ble_eq_true rfl) ⟨Nat.le_of_ble_eq_true rfl, Nat.le_of_ble_eq_true rfl⟩ rfl dX5_take_33 ?_
  refine zkd (G := fun v1 w1 => zG p l e _ s m args below meth c D _ _ _ _ _ _ _ (v1.toList ++ _) w1) (w2 := cM q (u2 κ 0 2 1) ct) cM_all ?_
  obtain ⟨κ2, eκ2⟩ : ∃ zz_, zz_ = (u2 κ 0 2 1) := ⟨_, rfl⟩
  rw [← eκ2]
  refine z_top (y := 0) (by decide) ?_
  refine z_if_ne hC 41 dX5_take_36 (by decide) (fun cn3 => absurd cn3 (by decide)) (fun cn3 => ?_)
  refine z_iconst (v := 0) hC dX5_take_39 (by decide) ?_
  exact z_iretd hC hr dX5_take_40 (Nat.zero_le _) (Nat.zero_le _) (by subst eκ2; rfl) (by subst eκ2; rfl) cM_adr

set_option maxRecDepth 100000 in
set_option maxHeartbeats 1000000 in
theorem c_X5_take_no2 (l : Launch) (D : va_G) (ct : Nat → ClassId) (q : Nat → Nat) (κ : Nat → Nat → Int32) (n : Nat) (h0 : 0 < n) (hn : n < 10) (k : Int32) (hKc : okK κ 0 n) (hx : mIn k 0 999 = false) : zT l D ct yX5_take cX5_take 3 (some .int) 2 46 0 0 [.ref (q 0), .int (nI n), .int k] (cM q κ ct) (zd (some (.int 0)) (cM q (u2 κ 0 2 2) ct)) := by
  refine zT_of ([some (.ref (q 0)), some (.int (nI n)), some (.int k)]) (by decide +kernel) rfl (Nat.le_of_ble_eq_true rfl) ?_
  intro p e s m args below meth c hC hr hnm
  refine z_aload_n hC dX5_take_0 rfl ?_
  refine z_iload_n hC dX5_take_1 rfl ?_
  refine z_callS [] hC (c_X5_isMeter l D ct (nI n)) bw_206 bw_207 bw_5 bw_208 1 (by decide +kernel) rfl rfl rfl ⟨Nat.le_of_ble_eq_true rfl, Nat.le_of_ble_eq_true rfl⟩ (Nat.le_of_ble_eq_true rfl) ⟨Nat.le_of_ble_eq_true rfl, Nat.le_of_ble_eq_true rfl⟩ rfl dX5_take_2 ?_
  refine zkq (G := fun v1 w1 => zG p l e _ s m args below meth c D _ _ _ _ _ _ _ (v1.toList ++ _) w1) rfl ?_
  refine z_top (bI_t (meterI h0 hn)) ?_
  refine z_iload_n hC dX5_take_5 rfl ?_
  refine z_iconst (v := 0) hC dX5_take_6 (by decide) ?_
  refine z_sipush (v := 999) hC dX5_take_7 (by decide) ?_
  refine z_callS [] hC (c_X5_in l D ct k 0 999) bw_140 bw_141 bw_5 bw_142 3 (by decide +kernel) rfl rfl rfl ⟨Nat.le_of_ble_eq_true rfl, Nat.le_of_ble_eq_true rfl⟩ (Nat.le_of_ble_eq_true rfl) ⟨Nat.le_of_ble_eq_true rfl, Nat.le_of_ble_eq_true rfl⟩ rfl dX5_take_10 ?_
  refine zkq (G := fun v1 w1 => zG p l e _ s m args below meth c D _ _ _ _ _ _ _ (v1.toList ++ _) w1) rfl ?_
  refine z_top (bI_f hx) ?_
  refine z_iload_n hC dX5_take_13 rfl ?_
  refine z_callS [] hC (c_X5_isMeter l D ct (nI n)) bw_206 bw_207 bw_5 bw_208 1 (by decide +kernel) rfl rfl rfl ⟨Nat.le_of_ble_eq_true rfl, Nat.le_of_ble_eq_true rfl⟩ (Nat.le_of_ble_eq_true rfl) ⟨Nat.le_of_ble_eq_true rfl, Nat.le_of_ble_eq_true rfl⟩ rfl dX5_take_14 ?_
  refine zkq (G := fun v1 w1 => zG p l e _ s m args below meth c D _ _ _ _ _ _ _ (v1.toList ++ _) w1) rfl ?_
  refine z_top (bI_t (meterI h0 hn)) ?_
  refine z_if_eq hC 32 dX5_take_17 (by decide) (fun cn1 => absurd cn1 (by decide)) (fun cn1 => ?_)
  refine z_aload_n hC dX5_take_20 rfl ?_
  refine z_iload_n hC dX5_take_21 rfl ?_
  refine z_callV [0, 1, 2, 3] 0 5 hC (c_X5_canTake l D ct q κ n (by omega) hKc) bw_274 bw_275 bw_276 bw_5 bw_277 1 (by decide +kernel) rfl rfl rfl rfl rfl ⟨Nat.le_of_ble_eq_true rfl, Nat.le_of_ble_eq_true rfl⟩ (Nat.le_of_ble_eq_true rfl) ⟨Nat.le_of_ble_eq_true rfl, Nat.le_of_ble_eq_true rfl⟩ rfl dX5_take_22 ?_
  refine zkq (G := fun v1 w1 => zG p l e _ s m args below meth c D _ _ _ _ _ _ _ (v1.toList ++ _) w1) rfl ?_
  refine z_if_eq hC 32 dX5_take_25 (by decide) (fun c25 => ?_) (fun c25 => ?_)
  · rw [bI_0] at c25
    refine z_iconst (v := 0) hC dX5_take_32 (by decide) ?_
    refine z_callV [0, 1, 2, 3] 0 5 hC (c_X5_goes l D ct q κ 1 0 0 2 rfl) bw_143 bw_144 bw_145 bw_5 bw_146 3 (by decide +kernel) rfl rfl rfl rfl rfl ⟨Nat.le_of_ble_eq_true rfl, Nat.le_of_ble_eq_true rfl⟩ (Nat.le_of_ble_eq_true rfl) ⟨Nat.le_of_ble_eq_true rfl, Nat.le_of_ble_eq_true rfl⟩ rfl dX5_take_33 ?_
    refine zkd (G := fun v1 w1 => zG p l e _ s m args below meth c D _ _ _ _ _ _ _ (v1.toList ++ _) w1) (w2 := cM q (u2 κ 0 2 2) ct) cM_all ?_
    obtain ⟨κ2, eκ2⟩ : ∃ zz_, zz_ = (u2 κ 0 2 2) := ⟨_, rfl⟩
    rw [← eκ2]
    refine z_top (y := 0) (by decide) ?_
    refine z_if_ne hC 41 dX5_take_36 (by decide) (fun cn3 => absurd cn3 (by decide)) (fun cn3 => ?_)
    refine z_iconst (v := 0) hC dX5_take_39 (by decide) ?_
    exact z_iretd hC hr dX5_take_40 (Nat.zero_le _) (Nat.zero_le _) (by subst eκ2; rfl) (by subst eκ2; rfl) cM_adr
  · rw [bI_1] at c25
    refine z_iconst (v := 1) hC dX5_take_28 (by decide) ?_
    refine z_goto hC 33 dX5_take_29 (by decide) ?_
    refine z_callV [0, 1, 2, 3] 0 5 hC (c_X5_goes l D ct q κ 1 0 1 2 rfl) bw_143 bw_144 bw_145 bw_5 bw_146 3 (by decide +kernel) rfl rfl rfl rfl rfl ⟨Nat.le_of_ble_eq_true rfl, Nat.le_of_ble_eq_true rfl⟩ (Nat.le_of_ble_eq_true rfl) ⟨Nat.le_of_ble_eq_true rfl, Nat.le_of_ble_eq_true rfl⟩ rfl dX5_take_33 ?_
    refine zkd (G := fun v1 w1 => zG p l e _ s m args below meth c D _ _ _ _ _ _ _ (v1.toList ++ _) w1) (w2 := cM q (u2 κ 0 2 2) ct) cM_all ?_
    obtain ⟨κ4, eκ4⟩ : ∃ zz_, zz_ = (u2 κ 0 2 2) := ⟨_, rfl⟩
    rw [← eκ4]
    refine z_top (y := 0) (by decide) ?_
    refine z_if_ne hC 41 dX5_take_36 (by decide) (fun cn5 => absurd cn5 (by decide)) (fun cn5 => ?_)
    refine z_iconst (v := 0) hC dX5_take_39 (by decide) ?_
    exact z_iretd hC hr dX5_take_40 (Nat.zero_le _) (Nat.zero_le _) (by subst eκ4; rfl) (by subst eκ4; rfl) cM_adr

set_option maxRecDepth 100000 in
set_option maxHeartbeats 1000000 in
theorem c_X5_take_no3 (l : Launch) (D : va_G) (ct : Nat → ClassId) (q : Nat → Nat) (κ : Nat → Nat → Int32) (n : Nat) (h0 : 0 < n) (hn : n < 10) (k : Int32) (hk : mIn k 0 999 = true) (hKc : okK κ 0 n) (hcan : mdCan κ n = false) : zT l D ct yX5_take cX5_take 3 (some .int) 2 46 0 0 [.ref (q 0), .int (nI n), .int k] (cM q κ ct) (zd (some (.int 0)) (cM q (u2 κ 0 2 3) ct)) := by
  refine zT_of ([some (.ref (q 0)), some (.int (nI n)), some (.int k)]) (by decide +kernel) rfl (Nat.le_of_ble_eq_true rfl) ?_
  intro p e s m args below meth c hC hr hnm
  refine z_aload_n hC dX5_take_0 rfl ?_
  refine z_iload_n hC dX5_take_1 rfl ?_
  refine z_callS [] hC (c_X5_isMeter l D ct (nI n)) bw_206 bw_207 bw_5 bw_208 1 (by decide +kernel) rfl rfl rfl ⟨Nat.le_of_ble_eq_true rfl, Nat.le_of_ble_eq_true rfl⟩ (Nat.le_of_ble_eq_true rfl) ⟨Nat.le_of_ble_eq_true rfl, Nat.le_of_ble_eq_true rfl⟩ rfl dX5_take_2 ?_
  refine zkq (G := fun v1 w1 => zG p l e _ s m args below meth c D _ _ _ _ _ _ _ (v1.toList ++ _) w1) rfl ?_
  refine z_top (bI_t (meterI h0 hn)) ?_
  refine z_iload_n hC dX5_take_5 rfl ?_
  refine z_iconst (v := 0) hC dX5_take_6 (by decide) ?_
  refine z_sipush (v := 999) hC dX5_take_7 (by decide) ?_
  refine z_callS [] hC (c_X5_in l D ct k 0 999) bw_140 bw_141 bw_5 bw_142 3 (by decide +kernel) rfl rfl rfl ⟨Nat.le_of_ble_eq_true rfl, Nat.le_of_ble_eq_true rfl⟩ (Nat.le_of_ble_eq_true rfl) ⟨Nat.le_of_ble_eq_true rfl, Nat.le_of_ble_eq_true rfl⟩ rfl dX5_take_10 ?_
  refine zkq (G := fun v1 w1 => zG p l e _ s m args below meth c D _ _ _ _ _ _ _ (v1.toList ++ _) w1) rfl ?_
  refine z_top (bI_t hk) ?_
  refine z_iload_n hC dX5_take_13 rfl ?_
  refine z_callS [] hC (c_X5_isMeter l D ct (nI n)) bw_206 bw_207 bw_5 bw_208 1 (by decide +kernel) rfl rfl rfl ⟨Nat.le_of_ble_eq_true rfl, Nat.le_of_ble_eq_true rfl⟩ (Nat.le_of_ble_eq_true rfl) ⟨Nat.le_of_ble_eq_true rfl, Nat.le_of_ble_eq_true rfl⟩ rfl dX5_take_14 ?_
  refine zkq (G := fun v1 w1 => zG p l e _ s m args below meth c D _ _ _ _ _ _ _ (v1.toList ++ _) w1) rfl ?_
  refine z_top (bI_t (meterI h0 hn)) ?_
  refine z_if_eq hC 32 dX5_take_17 (by decide) (fun cn1 => absurd cn1 (by decide)) (fun cn1 => ?_)
  refine z_aload_n hC dX5_take_20 rfl ?_
  refine z_iload_n hC dX5_take_21 rfl ?_
  refine z_callV [0, 1, 2, 3] 0 5 hC (c_X5_canTake l D ct q κ n (by omega) hKc) bw_274 bw_275 bw_276 bw_5 bw_277 1 (by decide +kernel) rfl rfl rfl rfl rfl ⟨Nat.le_of_ble_eq_true rfl, Nat.le_of_ble_eq_true rfl⟩ (Nat.le_of_ble_eq_true rfl) ⟨Nat.le_of_ble_eq_true rfl, Nat.le_of_ble_eq_true rfl⟩ rfl dX5_take_22 ?_
  refine zkq (G := fun v1 w1 => zG p l e _ s m args below meth c D _ _ _ _ _ _ _ (v1.toList ++ _) w1) rfl ?_
  refine z_top (bI_f hcan) ?_
  refine z_if_eq hC 32 dX5_take_25 (by decide) (fun cn2 => ?_) (fun cn2 => absurd cn2 (by decide))
  refine z_iconst (v := 0) hC dX5_take_32 (by decide) ?_
  refine z_callV [0, 1, 2, 3] 0 5 hC (c_X5_goes l D ct q κ 1 1 0 3 rfl) bw_143 bw_144 bw_145 bw_5 bw_146 3 (by decide +kernel) rfl rfl rfl rfl rfl ⟨Nat.le_of_ble_eq_true rfl, Nat.le_of_ble_eq_true rfl⟩ (Nat.le_of_ble_eq_true rfl) ⟨Nat.le_of_ble_eq_true rfl, Nat.le_of_ble_eq_true rfl⟩ rfl dX5_take_33 ?_
  refine zkd (G := fun v1 w1 => zG p l e _ s m args below meth c D _ _ _ _ _ _ _ (v1.toList ++ _) w1) (w2 := cM q (u2 κ 0 2 3) ct) cM_all ?_
  obtain ⟨κ3, eκ3⟩ : ∃ zz_, zz_ = (u2 κ 0 2 3) := ⟨_, rfl⟩
  rw [← eκ3]
  refine z_top (y := 0) (by decide) ?_
  refine z_if_ne hC 41 dX5_take_36 (by decide) (fun cn4 => absurd cn4 (by decide)) (fun cn4 => ?_)
  refine z_iconst (v := 0) hC dX5_take_39 (by decide) ?_
  exact z_iretd hC hr dX5_take_40 (Nat.zero_le _) (Nat.zero_le _) (by subst eκ3; rfl) (by subst eκ3; rfl) cM_adr

set_option maxRecDepth 100000 in
set_option maxHeartbeats 1000000 in
theorem c_X5_run_ok (l : Launch) (D : va_G) (ct : Nat → ClassId) (q : Nat → Nat) (κ : Nat → Nat → Int32) (k0 : Nat) (hk : mIn (nI k0) 1 100 = true) (hk31 : k0 < 2 ^ 31) (z : Nat) (hz : κ 0 0 = nI z) (hz6 : z ≤ 6) (Inv : Nat → (Nat → Nat → Int32) → Prop) (hI : ∀ j κ, Inv (j + 1) κ → okSlot κ 0 ∧ Inv j (mdSlot κ 0)) (hI0 : Inv k0 (mdSave (u2 κ 0 2 0) z)) : zT l D ct yX5_run cX5_run 2 (some .int) 9 242 0 0 [.ref (q 0), .int (nI k0)] (cM q κ ct) (zd (some (.int (mdRunR (mdSave (u2 κ 0 2 0) z) 0 k0))) (cM q (mdRun (mdSave (u2 κ 0 2 0) z) 0 k0) ct)) := by
  refine zT_of ([some (.ref (q 0)), some (.int (nI k0))]) (by decide +kernel) rfl (Nat.le_of_ble_eq_true rfl) ?_
  intro p e s m args below meth c hC hr hnm
  refine z_aload_n hC dX5_run_0 rfl ?_
  refine z_iload_n hC dX5_run_1 rfl ?_
  refine z_iconst (v := 1) hC dX5_run_2 (by decide) ?_
  refine z_bipush (v := 100) hC dX5_run_3 (by decide) ?_
  refine z_callS [] hC (c_X5_in l D ct (nI k0) 1 100) bw_140 bw_141 bw_5 bw_142 3 (by decide +kernel) rfl rfl rfl ⟨Nat.le_of_ble_eq_true rfl, Nat.le_of_ble_eq_true rfl⟩ (Nat.le_of_ble_eq_true rfl) ⟨Nat.le_of_ble_eq_true rfl, Nat.le_of_ble_eq_true rfl⟩ rfl dX5_run_5 ?_
  refine zkq (G := fun v1 w1 => zG p l e _ s m args below meth c D _ _ _ _ _ _ _ (v1.toList ++ _) w1) rfl ?_
  refine z_top (bI_t hk) ?_
  refine z_iconst (v := 1) hC dX5_run_8 (by decide) ?_
  refine z_iconst (v := 1) hC dX5_run_9 (by decide) ?_
  refine z_callV [0, 1, 2, 3] 0 5 hC (c_X5_goes l D ct q κ 1 1 1 0 rfl) bw_143 bw_144 bw_145 bw_5 bw_146 3 (by decide +kernel) rfl rfl rfl rfl rfl ⟨Nat.le_of_ble_eq_true rfl, Nat.le_of_ble_eq_true rfl⟩ (Nat.le_of_ble_eq_true rfl) ⟨Nat.le_of_ble_eq_true rfl, Nat.le_of_ble_eq_true rfl⟩ rfl dX5_run_10 ?_
  refine zkd (G := fun v1 w1 => zG p l e _ s m args below meth c D _ _ _ _ _ _ _ (v1.toList ++ _) w1) (w2 := cM q (u2 κ 0 2 0) ct) cM_all ?_
  obtain ⟨κ1, eκ1⟩ : ∃ zz_, zz_ = (u2 κ 0 2 0) := ⟨_, rfl⟩
  rw [← eκ1]
  refine z_top (y := 1) (by decide) ?_
  refine z_if_ne hC 18 dX5_run_13 (by decide) (fun cn2 => ?_) (fun cn2 => absurd cn2 (by decide))
  refine z_aload_n hC dX5_run_18 rfl ?_
  refine z_callV [0, 1, 2, 3] 0 5 hC (c_X5_saves l D ct q κ1 z (by subst eκ1; exact hz) hz6) bw_148 bw_149 bw_150 bw_5 bw_151 0 (by decide +kernel) rfl rfl rfl rfl rfl ⟨Nat.le_of_ble_eq_true rfl, Nat.le_of_ble_eq_true rfl⟩ (Nat.le_of_ble_eq_true rfl) ⟨Nat.le_of_ble_eq_true rfl, Nat.le_of_ble_eq_true rfl⟩ rfl dX5_run_19 ?_
  refine zkd (G := fun v1 w1 => zG p l e _ s m args below meth c D _ _ _ _ _ _ _ (v1.toList ++ _) w1) (w2 := cM q (mdSave κ1 z) ct) cM_all ?_
  obtain ⟨κ3, eκ3⟩ : ∃ zz_, zz_ = (mdSave κ1 z) := ⟨_, rfl⟩
  rw [← eκ3]
  refine z_aload_n hC dX5_run_22 rfl ?_
  refine z_iconst (v := 0) hC dX5_run_23 (by decide) ?_
  refine z_iload_n hC dX5_run_24 rfl ?_
  refine z_callV [0, 1, 2, 3] 0 5 hC (c_X5_runs l D ct q κ3 0 k0 (by decide) (by omega) Inv hI (by subst eκ3; subst eκ1; exact hI0)) bw_351 bw_352 bw_353 bw_5 bw_354 2 (by decide +kernel) rfl rfl rfl rfl rfl ⟨Nat.le_of_ble_eq_true rfl, Nat.le_of_ble_eq_true rfl⟩ (Nat.le_of_ble_eq_true rfl) ⟨Nat.le_of_ble_eq_true rfl, Nat.le_of_ble_eq_true rfl⟩ rfl dX5_run_25 ?_
  refine zkd (G := fun v1 w1 => zG p l e _ s m args below meth c D _ _ _ _ _ _ _ (v1.toList ++ _) w1) (w2 := cM q (mdRun κ3 0 k0) ct) cM_all ?_
  obtain ⟨κ4, eκ4⟩ : ∃ zz_, zz_ = (mdRun κ3 0 k0) := ⟨_, rfl⟩
  rw [← eκ4]
  exact z_iretd hC hr dX5_run_28 (Nat.zero_le _) (Nat.zero_le _) (by subst eκ4; subst eκ3; subst eκ1; rfl) (by subst eκ4; subst eκ3; subst eκ1; rfl) cM_adr

set_option maxRecDepth 100000 in
set_option maxHeartbeats 1000000 in
theorem c_X5_run_no1 (l : Launch) (D : va_G) (ct : Nat → ClassId) (q : Nat → Nat) (κ : Nat → Nat → Int32) (k : Int32) (hx : mIn k 1 100 = false) : zT l D ct yX5_run cX5_run 2 (some .int) 9 242 0 0 [.ref (q 0), .int k] (cM q κ ct) (zd (some (.int 0)) (cM q (u2 κ 0 2 1) ct)) := by
  refine zT_of ([some (.ref (q 0)), some (.int k)]) (by decide +kernel) rfl (Nat.le_of_ble_eq_true rfl) ?_
  intro p e s m args below meth c hC hr hnm
  refine z_aload_n hC dX5_run_0 rfl ?_
  refine z_iload_n hC dX5_run_1 rfl ?_
  refine z_iconst (v := 1) hC dX5_run_2 (by decide) ?_
  refine z_bipush (v := 100) hC dX5_run_3 (by decide) ?_
  refine z_callS [] hC (c_X5_in l D ct k 1 100) bw_140 bw_141 bw_5 bw_142 3 (by decide +kernel) rfl rfl rfl ⟨Nat.le_of_ble_eq_true rfl, Nat.le_of_ble_eq_true rfl⟩ (Nat.le_of_ble_eq_true rfl) ⟨Nat.le_of_ble_eq_true rfl, Nat.le_of_ble_eq_true rfl⟩ rfl dX5_run_5 ?_
  refine zkq (G := fun v1 w1 => zG p l e _ s m args below meth c D _ _ _ _ _ _ _ (v1.toList ++ _) w1) rfl ?_
  refine z_top (bI_f hx) ?_
  refine z_iconst (v := 1) hC dX5_run_8 (by decide) ?_
  refine z_iconst (v := 1) hC dX5_run_9 (by decide) ?_
  refine z_callV [0, 1, 2, 3] 0 5 hC (c_X5_goes l D ct q κ 0 1 1 1 rfl) bw_143 bw_144 bw_145 bw_5 bw_146 3 (by decide +kernel) rfl rfl rfl rfl rfl ⟨Nat.le_of_ble_eq_true rfl, Nat.le_of_ble_eq_true rfl⟩ (Nat.le_of_ble_eq_true rfl) ⟨Nat.le_of_ble_eq_true rfl, Nat.le_of_ble_eq_true rfl⟩ rfl dX5_run_10 ?_
  refine zkd (G := fun v1 w1 => zG p l e _ s m args below meth c D _ _ _ _ _ _ _ (v1.toList ++ _) w1) (w2 := cM q (u2 κ 0 2 1) ct) cM_all ?_
  obtain ⟨κ1, eκ1⟩ : ∃ zz_, zz_ = (u2 κ 0 2 1) := ⟨_, rfl⟩
  rw [← eκ1]
  refine z_top (y := 0) (by decide) ?_
  refine z_if_ne hC 18 dX5_run_13 (by decide) (fun cn2 => absurd cn2 (by decide)) (fun cn2 => ?_)
  refine z_iconst (v := 0) hC dX5_run_16 (by decide) ?_
  exact z_iretd hC hr dX5_run_17 (Nat.zero_le _) (Nat.zero_le _) (by subst eκ1; rfl) (by subst eκ1; rfl) cM_adr

set_option maxRecDepth 100000 in
set_option maxHeartbeats 1000000 in
theorem c_X5_ifRun_ok (l : Launch) (D : va_G) (ct : Nat → ClassId) (q : Nat → Nat) (κ : Nat → Nat → Int32) (k0 : Nat) (hk : mIn (nI k0) 1 100 = true) (hk31 : k0 < 2 ^ 31) (Inv : Nat → (Nat → Nat → Int32) → Prop) (hI : ∀ j κ, Inv (j + 1) κ → okSlot κ 4830 ∧ Inv j (mdSlot κ 4830)) (hI0 : Inv k0 (mdLay (u2 κ 0 2 0) 0 7)) : zT l D ct yX5_ifRun cX5_ifRun 2 (some .int) 9 242 0 0 [.ref (q 0), .int (nI k0)] (cM q κ ct) (zd (some (.int (mdRunR (mdLay (u2 κ 0 2 0) 0 7) 4830 k0))) (cM q (mdRun (mdLay (u2 κ 0 2 0) 0 7) 4830 k0) ct)) := by
  refine zT_of ([some (.ref (q 0)), some (.int (nI k0))]) (by decide +kernel) rfl (Nat.le_of_ble_eq_true rfl) ?_
  intro p e s m args below meth c hC hr hnm
  refine z_aload_n hC dX5_ifRun_0 rfl ?_
  refine z_iload_n hC dX5_ifRun_1 rfl ?_
  refine z_iconst (v := 1) hC dX5_ifRun_2 (by decide) ?_
  refine z_bipush (v := 100) hC dX5_ifRun_3 (by decide) ?_
  refine z_callS [] hC (c_X5_in l D ct (nI k0) 1 100) bw_140 bw_141 bw_5 bw_142 3 (by decide +kernel) rfl rfl rfl ⟨Nat.le_of_ble_eq_true rfl, Nat.le_of_ble_eq_true rfl⟩ (Nat.le_of_ble_eq_true rfl) ⟨Nat.le_of_ble_eq_true rfl, Nat.le_of_ble_eq_true rfl⟩ rfl dX5_ifRun_5 ?_
  refine zkq (G := fun v1 w1 => zG p l e _ s m args below meth c D _ _ _ _ _ _ _ (v1.toList ++ _) w1) rfl ?_
  refine z_top (bI_t hk) ?_
  refine z_iconst (v := 1) hC dX5_ifRun_8 (by decide) ?_
  refine z_iconst (v := 1) hC dX5_ifRun_9 (by decide) ?_
  refine z_callV [0, 1, 2, 3] 0 5 hC (c_X5_goes l D ct q κ 1 1 1 0 rfl) bw_143 bw_144 bw_145 bw_5 bw_146 3 (by decide +kernel) rfl rfl rfl rfl rfl ⟨Nat.le_of_ble_eq_true rfl, Nat.le_of_ble_eq_true rfl⟩ (Nat.le_of_ble_eq_true rfl) ⟨Nat.le_of_ble_eq_true rfl, Nat.le_of_ble_eq_true rfl⟩ rfl dX5_ifRun_10 ?_
  refine zkd (G := fun v1 w1 => zG p l e _ s m args below meth c D _ _ _ _ _ _ _ (v1.toList ++ _) w1) (w2 := cM q (u2 κ 0 2 0) ct) cM_all ?_
  obtain ⟨κ1, eκ1⟩ : ∃ zz_, zz_ = (u2 κ 0 2 0) := ⟨_, rfl⟩
  rw [← eκ1]
  refine z_top (y := 1) (by decide) ?_
  refine z_if_ne hC 18 dX5_ifRun_13 (by decide) (fun cn2 => ?_) (fun cn2 => absurd cn2 (by decide))
  refine z_aload_n hC dX5_ifRun_18 rfl ?_
  refine z_iconst (v := 0) hC dX5_ifRun_19 (by decide) ?_
  refine z_bipush (v := 7) hC dX5_ifRun_20 (by decide) ?_
  refine z_callV [0, 1, 2, 3] 0 5 hC (c_X5_lays l D ct q κ1 0 7 (by omega) (by omega)) bw_153 bw_154 bw_155 bw_5 bw_156 2 (by decide +kernel) rfl rfl rfl rfl rfl ⟨Nat.le_of_ble_eq_true rfl, Nat.le_of_ble_eq_true rfl⟩ (Nat.le_of_ble_eq_true rfl) ⟨Nat.le_of_ble_eq_true rfl, Nat.le_of_ble_eq_true rfl⟩ rfl dX5_ifRun_22 ?_
  refine zkd (G := fun v1 w1 => zG p l e _ s m args below meth c D _ _ _ _ _ _ _ (v1.toList ++ _) w1) (w2 := cM q (mdLay κ1 0 7) ct) cM_all ?_
  obtain ⟨κ3, eκ3⟩ : ∃ zz_, zz_ = (mdLay κ1 0 7) := ⟨_, rfl⟩
  rw [← eκ3]
  refine z_aload_n hC dX5_ifRun_25 rfl ?_
  refine z_sipush (v := 4830) hC dX5_ifRun_26 (by decide) ?_
  refine z_iload_n hC dX5_ifRun_29 rfl ?_
  refine z_callV [0, 1, 2, 3] 0 5 hC (c_X5_runs l D ct q κ3 4830 k0 (by decide) (by omega) Inv hI (by subst eκ3; subst eκ1; exact hI0)) bw_351 bw_352 bw_353 bw_5 bw_354 2 (by decide +kernel) rfl rfl rfl rfl rfl ⟨Nat.le_of_ble_eq_true rfl, Nat.le_of_ble_eq_true rfl⟩ (Nat.le_of_ble_eq_true rfl) ⟨Nat.le_of_ble_eq_true rfl, Nat.le_of_ble_eq_true rfl⟩ rfl dX5_ifRun_30 ?_
  refine zkd (G := fun v1 w1 => zG p l e _ s m args below meth c D _ _ _ _ _ _ _ (v1.toList ++ _) w1) (w2 := cM q (mdRun κ3 4830 k0) ct) cM_all ?_
  obtain ⟨κ4, eκ4⟩ : ∃ zz_, zz_ = (mdRun κ3 4830 k0) := ⟨_, rfl⟩
  rw [← eκ4]
  exact z_iretd hC hr dX5_ifRun_33 (Nat.zero_le _) (Nat.zero_le _) (by subst eκ4; subst eκ3; subst eκ1; rfl) (by subst eκ4; subst eκ3; subst eκ1; rfl) cM_adr

set_option maxRecDepth 100000 in
set_option maxHeartbeats 1000000 in
theorem c_X5_ifRun_no1 (l : Launch) (D : va_G) (ct : Nat → ClassId) (q : Nat → Nat) (κ : Nat → Nat → Int32) (k : Int32) (hx : mIn k 1 100 = false) : zT l D ct yX5_ifRun cX5_ifRun 2 (some .int) 9 242 0 0 [.ref (q 0), .int k] (cM q κ ct) (zd (some (.int 0)) (cM q (u2 κ 0 2 1) ct)) := by
  refine zT_of ([some (.ref (q 0)), some (.int k)]) (by decide +kernel) rfl (Nat.le_of_ble_eq_true rfl) ?_
  intro p e s m args below meth c hC hr hnm
  refine z_aload_n hC dX5_ifRun_0 rfl ?_
  refine z_iload_n hC dX5_ifRun_1 rfl ?_
  refine z_iconst (v := 1) hC dX5_ifRun_2 (by decide) ?_
  refine z_bipush (v := 100) hC dX5_ifRun_3 (by decide) ?_
  refine z_callS [] hC (c_X5_in l D ct k 1 100) bw_140 bw_141 bw_5 bw_142 3 (by decide +kernel) rfl rfl rfl ⟨Nat.le_of_ble_eq_true rfl, Nat.le_of_ble_eq_true rfl⟩ (Nat.le_of_ble_eq_true rfl) ⟨Nat.le_of_ble_eq_true rfl, Nat.le_of_ble_eq_true rfl⟩ rfl dX5_ifRun_5 ?_
  refine zkq (G := fun v1 w1 => zG p l e _ s m args below meth c D _ _ _ _ _ _ _ (v1.toList ++ _) w1) rfl ?_
  refine z_top (bI_f hx) ?_
  refine z_iconst (v := 1) hC dX5_ifRun_8 (by decide) ?_
  refine z_iconst (v := 1) hC dX5_ifRun_9 (by decide) ?_
  refine z_callV [0, 1, 2, 3] 0 5 hC (c_X5_goes l D ct q κ 0 1 1 1 rfl) bw_143 bw_144 bw_145 bw_5 bw_146 3 (by decide +kernel) rfl rfl rfl rfl rfl ⟨Nat.le_of_ble_eq_true rfl, Nat.le_of_ble_eq_true rfl⟩ (Nat.le_of_ble_eq_true rfl) ⟨Nat.le_of_ble_eq_true rfl, Nat.le_of_ble_eq_true rfl⟩ rfl dX5_ifRun_10 ?_
  refine zkd (G := fun v1 w1 => zG p l e _ s m args below meth c D _ _ _ _ _ _ _ (v1.toList ++ _) w1) (w2 := cM q (u2 κ 0 2 1) ct) cM_all ?_
  obtain ⟨κ1, eκ1⟩ : ∃ zz_, zz_ = (u2 κ 0 2 1) := ⟨_, rfl⟩
  rw [← eκ1]
  refine z_top (y := 0) (by decide) ?_
  refine z_if_ne hC 18 dX5_ifRun_13 (by decide) (fun cn2 => absurd cn2 (by decide)) (fun cn2 => ?_)
  refine z_iconst (v := 0) hC dX5_ifRun_16 (by decide) ?_
  exact z_iretd hC hr dX5_ifRun_17 (Nat.zero_le _) (Nat.zero_le _) (by subst eκ1; rfl) (by subst eκ1; rfl) cM_adr

set_option maxRecDepth 100000 in
set_option maxHeartbeats 1000000 in
theorem c_X5_slotsToCollect (l : Launch) (D : va_G) (ct : Nat → ClassId) (q : Nat → Nat) (κ : Nat → Nat → Int32) (Inv : Nat → (Nat → Nat → Int32) → Prop) (hI : ∀ j κ, Inv (j + 1) κ → okSlot κ 4830 ∧ Inv j (mdSlot κ 4830)) (hI0 : Inv 401 (mdLay (u2 κ 0 2 0) 0 7)) (R : Int32 × (Nat → Nat → Int32)) (hR : mdSc 401 0 (mdLay (u2 κ 0 2 0) 0 7) = R) : zT l D ct yX5_slotsToCollect cX5_slotsToCollect 3 (some .int) 8 218 0 0 [.ref (q 0)] (cM q κ ct) (zd (some (.int R.1)) (cM q R.2 ct)) := by
  refine zT_of ([some (.ref (q 0)), none, none]) (by decide +kernel) rfl (Nat.le_of_ble_eq_true rfl) ?_
  intro p e s m args below meth c hC hr hnm
  refine z_aload_n hC dX5_slotsToCollect_0 rfl ?_
  refine z_iconst (v := 0) hC dX5_slotsToCollect_1 (by decide) ?_
  refine z_put (ci := 5) 0 4 hC bl_X5 tyX5_ok nmX5 rfl (by decide) rfl bw_147 rfl rfl rfl rfl (Nat.lt_of_lt_of_le (by decide) (Nat.le_refl 9)) dX5_slotsToCollect_2 (w2 := cM q (u2 κ 0 2 0) ct) cM_f2 ?_
  obtain ⟨κ1, eκ1⟩ : ∃ zz_, zz_ = u2 κ 0 2 0 := ⟨_, rfl⟩
  rw [← eκ1]
  refine z_aload_n hC dX5_slotsToCollect_5 rfl ?_
  refine z_iconst (v := 0) hC dX5_slotsToCollect_6 (by decide) ?_
  refine z_bipush (v := 7) hC dX5_slotsToCollect_7 (by decide) ?_
  refine z_callV [0, 1, 2, 3] 0 5 hC (c_X5_lays l D ct q κ1 0 7 (by omega) (by omega)) bw_153 bw_154 bw_155 bw_5 bw_156 2 (by decide +kernel) rfl rfl rfl rfl rfl ⟨Nat.le_of_ble_eq_true rfl, Nat.le_of_ble_eq_true rfl⟩ (Nat.le_of_ble_eq_true rfl) ⟨Nat.le_of_ble_eq_true rfl, Nat.le_of_ble_eq_true rfl⟩ rfl dX5_slotsToCollect_9 ?_
  refine zkd (G := fun v1 w1 => zG p l e _ s m args below meth c D _ _ _ _ _ _ _ (v1.toList ++ _) w1) (w2 := cM q (mdLay κ1 0 7) ct) cM_all ?_
  obtain ⟨κ2, eκ2⟩ : ∃ zz_, zz_ = (mdLay κ1 0 7) := ⟨_, rfl⟩
  rw [← eκ2]
  refine z_sipush (v := 4830) hC dX5_slotsToCollect_12 (by decide) ?_
  skip
  refine z_istore_n hC dX5_slotsToCollect_15 (by decide) rfl ?_
  refine z_iconst (v := 0) hC dX5_slotsToCollect_16 (by decide) ?_
  refine z_istore_n hC dX5_slotsToCollect_17 (by decide) rfl ?_
  have loop18 : ∀ (kf k : Nat) (κx : Nat → Nat → Int32) (hki : kf + k = 401) (hIx : Inv kf κx) (hF : mdSc kf k κx = R), zG p l e { frames := 8, cells := 0, slots := 0, locals := 218 } s m args below meth c D (va_A (cM q κ ct) s.heap.size) 3 (MQ below (zQ D ct (cM q κ ct) s.heap.size (zd (some (.int R.1)) (cM q R.2 ct))) args s 0 0 (va_A (cM q κ ct) s.heap.size)) 0 0 18 [some (.ref (q 0)), some (.int (nI 4830)), some (.int (nI k))] [] (cM q κx ct) := by
    intro kf
    induction kf with
    | zero =>
      intro k κx hki hIx hF
      refine z_iload_n hC dX5_slotsToCollect_18 rfl ?_
      refine z_sipush (v := 400) hC dX5_slotsToCollect_19 (by decide) ?_
      refine z_icmp_gt hC 59 dX5_slotsToCollect_22 (by decide) (fun c22 => ?_) (fun c22 => (by have hh := (nI_nltI (a := 400) (b := k) (by omega) (by omega)).mp c22; omega))
      replace c22 := (nI_ltI (a := 400) (b := k) (by omega) (by omega)).mp c22
      refine z_iconst (v := (-1)) hC dX5_slotsToCollect_59 (by decide) ?_
      exact z_iretd hC hr dX5_slotsToCollect_60 (Nat.zero_le _) (Nat.zero_le _) (by rw [← hF]; rfl) (congrArg (fun z => cM q z ct) (by rw [← hF]; rfl)) cM_adr
    | succ kf ih =>
      intro k κx hki hIx hF
      refine z_iload_n hC dX5_slotsToCollect_18 rfl ?_
      refine z_sipush (v := 400) hC dX5_slotsToCollect_19 (by decide) ?_
      refine z_icmp_gt hC 59 dX5_slotsToCollect_22 (by decide) (fun c22 => (by have hh := (nI_ltI (a := 400) (b := k) (by omega) (by omega)).mp c22; omega)) (fun c22 => ?_)
      replace c22 := (nI_nltI (a := 400) (b := k) (by omega) (by omega)).mp c22
      refine z_aload_n hC dX5_slotsToCollect_25 rfl ?_
      refine z_get 0 0 hC bl_X5 (ci := 5) rfl (by decide) rfl bw_67 rfl rfl dX5_slotsToCollect_26 ?_
      refine z_iload_n hC dX5_slotsToCollect_29 rfl ?_
      refine z_bipush (v := 13) hC dX5_slotsToCollect_30 (by decide) ?_
      refine z_iaddN (4830) (13) hC dX5_slotsToCollect_32 ?_
      refine z_ialdN (4830 + 13) 1 0 hC rfl rfl (by decide) (by omega) dX5_slotsToCollect_33 ?_
      refine z_aload_n hC dX5_slotsToCollect_34 rfl ?_
      refine z_get 0 0 hC bl_X5 (ci := 5) rfl (by decide) rfl bw_67 rfl rfl dX5_slotsToCollect_35 ?_
      refine z_iload_n hC dX5_slotsToCollect_38 rfl ?_
      refine z_bipush (v := 19) hC dX5_slotsToCollect_39 (by decide) ?_
      refine z_iaddN (4830) (19) hC dX5_slotsToCollect_41 ?_
      refine z_ialdN (4830 + 19) 1 0 hC rfl rfl (by decide) (by omega) dX5_slotsToCollect_42 ?_
      refine z_icmp_ne hC 48 dX5_slotsToCollect_43 (by decide) (fun c43 => ?_) (fun c43 => ?_)
      · refine z_aload_n hC dX5_slotsToCollect_48 rfl ?_
        refine z_iload_n hC dX5_slotsToCollect_49 rfl ?_
        refine z_callV [0, 1, 2, 3] 0 5 hC (c_X5_slot l D ct q κx 4830 (by decide) (hI _ _ hIx).1) bw_355 bw_356 bw_357 bw_5 bw_358 1 (by decide +kernel) rfl rfl rfl rfl rfl ⟨Nat.le_of_ble_eq_true rfl, Nat.le_of_ble_eq_true rfl⟩ (Nat.le_of_ble_eq_true rfl) ⟨Nat.le_of_ble_eq_true rfl, Nat.le_of_ble_eq_true rfl⟩ rfl dX5_slotsToCollect_50 ?_
        refine zkd (G := fun v1 w1 => zG p l e _ s m args below meth c D _ _ _ _ _ _ _ (v1.toList ++ _) w1) (w2 := cM q (mdSlot κx 4830) ct) cM_all ?_
        obtain ⟨κ3, eκ3⟩ : ∃ zz_, zz_ = (mdSlot κx 4830) := ⟨_, rfl⟩
        rw [← eκ3]
        refine z_iincN (k) hC dX5_slotsToCollect_53 (by decide) rfl rfl ?_
        refine z_goto hC 18 dX5_slotsToCollect_56 (by decide) ?_
        exact ih (k + 1) κ3 (by omega) (by rw [eκ3]; exact (hI _ _ hIx).2) (by rw [← hF, eκ3, mdSc, if_neg c43])
      · refine z_iload_n hC dX5_slotsToCollect_46 rfl ?_
        exact z_iretd hC hr dX5_slotsToCollect_47 (Nat.zero_le _) (Nat.zero_le _) (by rw [← hF, mdSc, if_pos c43]) (congrArg (fun z => cM q z ct) (by rw [← hF, mdSc, if_pos c43])) cM_adr
  exact loop18 401 0 κ2 rfl (by subst eκ2; subst eκ1; exact hI0) (by subst eκ2; subst eκ1; exact hR)

set_option maxRecDepth 100000 in
set_option maxHeartbeats 1000000 in
theorem c_X5_undo_ok (l : Launch) (D : va_G) (ct : Nat → ClassId) (q : Nat → Nat) (κ : Nat → Nat → Int32) (z : Nat) (hz : κ 0 0 = nI z) (hz6 : z ≤ 6) (h0 : 0 < z) : zT l D ct yX5_undo cX5_undo 1 (some .int) 1 23 0 0 [.ref (q 0)] (cM q κ ct) (zd (some (.int (nI (z - 1)))) (cM q (u2 (mdLay (u2 κ 0 2 0) z 0) 0 0 (nI (z - 1))) ct)) := by
  refine zT_of ([some (.ref (q 0))]) (by decide +kernel) rfl (Nat.le_of_ble_eq_true rfl) ?_
  intro p e s m args below meth c hC hr hnm
  refine z_aload_n hC dX5_undo_0 rfl ?_
  refine z_aload_n hC dX5_undo_1 rfl ?_
  refine z_get 0 1 hC bl_X5 (ci := 5) rfl (by decide) rfl bw_152 rfl rfl dX5_undo_2 ?_
  refine z_top (y := nI (z)) (hz) ?_
  refine z_if_le hC 12 dX5_undo_5 (by decide) (fun c5 => (by have hh := (nI_leI (a := z) (b := 0) (by omega) (by omega)).mp c5; omega)) (fun c5 => ?_)
  replace c5 := (nI_nleI (a := z) (b := 0) (by omega) (by omega)).mp c5
  refine z_iconst (v := 1) hC dX5_undo_8 (by decide) ?_
  refine z_goto hC 13 dX5_undo_9 (by decide) ?_
  refine z_iconst (v := 1) hC dX5_undo_13 (by decide) ?_
  refine z_iconst (v := 1) hC dX5_undo_14 (by decide) ?_
  refine z_callV [0, 1, 2, 3] 0 5 hC (c_X5_goes l D ct q κ 1 1 1 0 rfl) bw_143 bw_144 bw_145 bw_5 bw_146 3 (by decide +kernel) rfl rfl rfl rfl rfl ⟨Nat.le_of_ble_eq_true rfl, Nat.le_of_ble_eq_true rfl⟩ (Nat.le_of_ble_eq_true rfl) ⟨Nat.le_of_ble_eq_true rfl, Nat.le_of_ble_eq_true rfl⟩ rfl dX5_undo_15 ?_
  refine zkd (G := fun v1 w1 => zG p l e _ s m args below meth c D _ _ _ _ _ _ _ (v1.toList ++ _) w1) (w2 := cM q (u2 κ 0 2 0) ct) cM_all ?_
  obtain ⟨κ1, eκ1⟩ : ∃ zz_, zz_ = (u2 κ 0 2 0) := ⟨_, rfl⟩
  rw [← eκ1]
  refine z_top (y := 1) (by decide) ?_
  refine z_if_ne hC 23 dX5_undo_18 (by decide) (fun cn2 => ?_) (fun cn2 => absurd cn2 (by decide))
  refine z_aload_n hC dX5_undo_23 rfl ?_
  refine z_aload_n hC dX5_undo_24 rfl ?_
  refine z_get 0 1 hC bl_X5 (ci := 5) rfl (by decide) rfl bw_152 rfl rfl dX5_undo_25 ?_
  refine z_top (y := nI (z)) (by subst eκ1; exact hz) ?_
  refine z_iconst (v := 0) hC dX5_undo_28 (by decide) ?_
  refine z_callV [0, 1, 2, 3] 0 5 hC (c_X5_lays l D ct q κ1 z 0 (by omega) (by omega)) bw_153 bw_154 bw_155 bw_5 bw_156 2 (by decide +kernel) rfl rfl rfl rfl rfl ⟨Nat.le_of_ble_eq_true rfl, Nat.le_of_ble_eq_true rfl⟩ (Nat.le_of_ble_eq_true rfl) ⟨Nat.le_of_ble_eq_true rfl, Nat.le_of_ble_eq_true rfl⟩ rfl dX5_undo_29 ?_
  refine zkd (G := fun v1 w1 => zG p l e _ s m args below meth c D _ _ _ _ _ _ _ (v1.toList ++ _) w1) (w2 := cM q (mdLay κ1 z 0) ct) cM_all ?_
  obtain ⟨κ3, eκ3⟩ : ∃ zz_, zz_ = (mdLay κ1 z 0) := ⟨_, rfl⟩
  rw [← eκ3]
  refine z_aload_n hC dX5_undo_32 rfl ?_
  refine z_dup hC dX5_undo_33 rfl ?_
  refine z_get 0 1 hC bl_X5 (ci := 5) rfl (by decide) rfl bw_152 rfl rfl dX5_undo_34 ?_
  refine z_top (y := nI (z)) (by subst eκ3; subst eκ1; rw [mdLay_0 _ _ _ _ (by decide)]; exact hz) ?_
  refine z_iconst (v := 1) hC dX5_undo_37 (by decide) ?_
  refine z_isubN (z) (1) hC (by omega) dX5_undo_38 ?_
  refine z_put (ci := 5) 0 1 hC bl_X5 tyX5_ok nmX5 rfl (by decide) rfl bw_152 rfl rfl rfl rfl (Nat.lt_of_lt_of_le (by decide) (Nat.le_refl 9)) dX5_undo_39 (w2 := cM q (u2 κ3 0 0 (nI (z - 1))) ct) cM_f0 ?_
  obtain ⟨κ4, eκ4⟩ : ∃ zz_, zz_ = u2 κ3 0 0 (nI (z - 1)) := ⟨_, rfl⟩
  rw [← eκ4]
  refine z_aload_n hC dX5_undo_42 rfl ?_
  refine z_get 0 1 hC bl_X5 (ci := 5) rfl (by decide) rfl bw_152 rfl rfl dX5_undo_43 ?_
  refine z_top (y := nI (z - 1)) (by subst eκ4; subst eκ3; subst eκ1; exact u2_at) ?_
  exact z_iretd hC hr dX5_undo_46 (Nat.zero_le _) (Nat.zero_le _) (by subst eκ4; subst eκ3; subst eκ1; rfl) (by subst eκ4; subst eκ3; subst eκ1; rfl) cM_adr

set_option maxRecDepth 100000 in
set_option maxHeartbeats 1000000 in
theorem c_X5_undo_no1 (l : Launch) (D : va_G) (ct : Nat → ClassId) (q : Nat → Nat) (κ : Nat → Nat → Int32) (hz : κ 0 0 = nI 0) : zT l D ct yX5_undo cX5_undo 1 (some .int) 1 23 0 0 [.ref (q 0)] (cM q κ ct) (zd (some (.int 0)) (cM q (u2 κ 0 2 1) ct)) := by
  refine zT_of ([some (.ref (q 0))]) (by decide +kernel) rfl (Nat.le_of_ble_eq_true rfl) ?_
  intro p e s m args below meth c hC hr hnm
  refine z_aload_n hC dX5_undo_0 rfl ?_
  refine z_aload_n hC dX5_undo_1 rfl ?_
  refine z_get 0 1 hC bl_X5 (ci := 5) rfl (by decide) rfl bw_152 rfl rfl dX5_undo_2 ?_
  refine z_top (y := nI (0)) (hz) ?_
  refine z_if_le hC 12 dX5_undo_5 (by decide) (fun c5 => ?_) (fun c5 => (by have hh := (nI_nleI (a := 0) (b := 0) (by omega) (by omega)).mp c5; omega))
  replace c5 := (nI_leI (a := 0) (b := 0) (by omega) (by omega)).mp c5
  refine z_iconst (v := 0) hC dX5_undo_12 (by decide) ?_
  refine z_iconst (v := 1) hC dX5_undo_13 (by decide) ?_
  refine z_iconst (v := 1) hC dX5_undo_14 (by decide) ?_
  refine z_callV [0, 1, 2, 3] 0 5 hC (c_X5_goes l D ct q κ 0 1 1 1 rfl) bw_143 bw_144 bw_145 bw_5 bw_146 3 (by decide +kernel) rfl rfl rfl rfl rfl ⟨Nat.le_of_ble_eq_true rfl, Nat.le_of_ble_eq_true rfl⟩ (Nat.le_of_ble_eq_true rfl) ⟨Nat.le_of_ble_eq_true rfl, Nat.le_of_ble_eq_true rfl⟩ rfl dX5_undo_15 ?_
  refine zkd (G := fun v1 w1 => zG p l e _ s m args below meth c D _ _ _ _ _ _ _ (v1.toList ++ _) w1) (w2 := cM q (u2 κ 0 2 1) ct) cM_all ?_
  obtain ⟨κ1, eκ1⟩ : ∃ zz_, zz_ = (u2 κ 0 2 1) := ⟨_, rfl⟩
  rw [← eκ1]
  refine z_top (y := 0) (by decide) ?_
  refine z_if_ne hC 23 dX5_undo_18 (by decide) (fun cn2 => absurd cn2 (by decide)) (fun cn2 => ?_)
  refine z_iconst (v := 0) hC dX5_undo_21 (by decide) ?_
  exact z_iretd hC hr dX5_undo_22 (Nat.zero_le _) (Nat.zero_le _) (by subst eκ1; rfl) (by subst eκ1; rfl) cM_adr

set_option maxRecDepth 100000 in
set_option maxHeartbeats 1000000 in
theorem c_X5_storedReading_ok (l : Launch) (D : va_G) (ct : Nat → ClassId) (q : Nat → Nat) (κ : Nat → Nat → Int32) (n : Nat) (h0 : 0 < n) (hn : n < 10) (i p0 : Nat) (hi : i < 2 ^ 31) (hp : p0 ≤ 4) (hK : okK κ 0 n) : zT l D ct yX5_storedReading cX5_storedReading 4 (some .int) 2 42 0 0 [.ref (q 0), .int (nI n), .int (nI i), .int (nI p0)] (cM q κ ct) (zd (some (.int (if i < mdK κ 0 n then κ 1 (0 + 90 + 5 * (6 * n + i) + p0) else -1))) (cM q (u2 κ 0 2 0) ct)) := by
  refine zT_of ([some (.ref (q 0)), some (.int (nI n)), some (.int (nI i)), some (.int (nI p0))]) (by decide +kernel) rfl (Nat.le_of_ble_eq_true rfl) ?_
  intro p e s m args below meth c hC hr hnm
  have hK6 := hK.2
  refine z_aload_n hC dX5_storedReading_0 rfl ?_
  refine z_iload_n hC dX5_storedReading_1 rfl ?_
  refine z_callS [] hC (c_X5_isMeter l D ct (nI n)) bw_206 bw_207 bw_5 bw_208 1 (by decide +kernel) rfl rfl rfl ⟨Nat.le_of_ble_eq_true rfl, Nat.le_of_ble_eq_true rfl⟩ (Nat.le_of_ble_eq_true rfl) ⟨Nat.le_of_ble_eq_true rfl, Nat.le_of_ble_eq_true rfl⟩ rfl dX5_storedReading_2 ?_
  refine zkq (G := fun v1 w1 => zG p l e _ s m args below meth c D _ _ _ _ _ _ _ (v1.toList ++ _) w1) rfl ?_
  refine z_top (bI_t (meterI h0 hn)) ?_
  refine z_if_eq hC 16 dX5_storedReading_5 (by decide) (fun cn1 => absurd cn1 (by decide)) (fun cn1 => ?_)
  refine z_iload_n hC dX5_storedReading_8 rfl ?_
  refine z_if_lt hC 16 dX5_storedReading_9 (by decide) (fun c9 => (by have hh := (nI_ltI (a := i) (b := 0) (by omega) (by omega)).mp c9; omega)) (fun c9 => ?_)
  replace c9 := (nI_nltI (a := i) (b := 0) (by omega) (by omega)).mp c9
  refine z_iconst (v := 1) hC dX5_storedReading_12 (by decide) ?_
  refine z_goto hC 17 dX5_storedReading_13 (by decide) ?_
  refine z_iload_n hC dX5_storedReading_17 rfl ?_
  refine z_iconst (v := 0) hC dX5_storedReading_18 (by decide) ?_
  refine z_iconst (v := 4) hC dX5_storedReading_19 (by decide) ?_
  refine z_callS [] hC (c_X5_in l D ct (nI p0) 0 4) bw_140 bw_141 bw_5 bw_142 3 (by decide +kernel) rfl rfl rfl ⟨Nat.le_of_ble_eq_true rfl, Nat.le_of_ble_eq_true rfl⟩ (Nat.le_of_ble_eq_true rfl) ⟨Nat.le_of_ble_eq_true rfl, Nat.le_of_ble_eq_true rfl⟩ rfl dX5_storedReading_20 ?_
  refine zkq (G := fun v1 w1 => zG p l e _ s m args below meth c D _ _ _ _ _ _ _ (v1.toList ++ _) w1) rfl ?_
  refine z_top (bI_t (by unfold mIn; rw [decide_eq_true (nI_pos' (by omega)), decide_eq_true (show nI p0 ≤ 4 from nI_le (b := 4) hp (by decide))]; rfl)) ?_
  refine z_iconst (v := 1) hC dX5_storedReading_23 (by decide) ?_
  refine z_callV [0, 1, 2, 3] 0 5 hC (c_X5_goes l D ct q κ 1 1 1 0 rfl) bw_143 bw_144 bw_145 bw_5 bw_146 3 (by decide +kernel) rfl rfl rfl rfl rfl ⟨Nat.le_of_ble_eq_true rfl, Nat.le_of_ble_eq_true rfl⟩ (Nat.le_of_ble_eq_true rfl) ⟨Nat.le_of_ble_eq_true rfl, Nat.le_of_ble_eq_true rfl⟩ rfl dX5_storedReading_24 ?_
  refine zkd (G := fun v1 w1 => zG p l e _ s m args below meth c D _ _ _ _ _ _ _ (v1.toList ++ _) w1) (w2 := cM q (u2 κ 0 2 0) ct) cM_all ?_
  obtain ⟨κ2, eκ2⟩ : ∃ zz_, zz_ = (u2 κ 0 2 0) := ⟨_, rfl⟩
  rw [← eκ2]
  refine z_top (y := 1) (by decide) ?_
  refine z_if_ne hC 32 dX5_storedReading_27 (by decide) (fun cn3 => ?_) (fun cn3 => absurd cn3 (by decide))
  refine z_iload_n hC dX5_storedReading_32 rfl ?_
  refine z_aload_n hC dX5_storedReading_33 rfl ?_
  refine z_get 0 0 hC bl_X5 (ci := 5) rfl (by decide) rfl bw_67 rfl rfl dX5_storedReading_34 ?_
  refine z_iconst (v := 0) hC dX5_storedReading_37 (by decide) ?_
  refine z_iload_n hC dX5_storedReading_38 rfl ?_
  refine z_callS [] hC (c_X5_at l D ct 0 n) bw_70 bw_71 bw_5 bw_72 2 (by decide +kernel) rfl rfl rfl ⟨Nat.le_of_ble_eq_true rfl, Nat.le_of_ble_eq_true rfl⟩ (Nat.le_of_ble_eq_true rfl) ⟨Nat.le_of_ble_eq_true rfl, Nat.le_of_ble_eq_true rfl⟩ rfl dX5_storedReading_39 ?_
  refine zkq (G := fun v1 w1 => zG p l e _ s m args below meth c D _ _ _ _ _ _ _ (v1.toList ++ _) w1) rfl ?_
  refine z_bipush (v := 6) hC dX5_storedReading_42 (by decide) ?_
  refine z_iaddN (0 + 20 + 7 * n) (6) hC dX5_storedReading_44 ?_
  refine z_ialdN (0 + 20 + 7 * n + 6) 1 0 hC rfl rfl (by decide) (by omega) dX5_storedReading_45 ?_
  refine z_top (y := nI (mdK κ 0 n)) (by subst eκ2; exact hK.1) ?_
  refine z_icmp_ge hC 65 dX5_storedReading_46 (by decide) (fun c46 => ?_) (fun c46 => ?_)
  · replace c46 := (nI_leI (a := mdK κ 0 n) (b := i) (by omega) (by omega)).mp c46
    refine z_iconst (v := (-1)) hC dX5_storedReading_65 (by decide) ?_
    exact z_iretd hC hr dX5_storedReading_66 (Nat.zero_le _) (Nat.zero_le _) (by subst eκ2; exact (if_neg (Nat.not_lt.mpr c46)).symm) (by subst eκ2; rfl) cM_adr
  · replace c46 := (nI_nleI (a := mdK κ 0 n) (b := i) (by omega) (by omega)).mp c46
    refine z_aload_n hC dX5_storedReading_49 rfl ?_
    refine z_get 0 0 hC bl_X5 (ci := 5) rfl (by decide) rfl bw_67 rfl rfl dX5_storedReading_50 ?_
    refine z_iconst (v := 0) hC dX5_storedReading_53 (by decide) ?_
    refine z_iload_n hC dX5_storedReading_54 rfl ?_
    refine z_iload_n hC dX5_storedReading_55 rfl ?_
    refine z_callS [] hC (c_X5_storeAt l D ct 0 n i) bw_282 bw_283 bw_5 bw_284 3 (by decide +kernel) rfl rfl rfl ⟨Nat.le_of_ble_eq_true rfl, Nat.le_of_ble_eq_true rfl⟩ (Nat.le_of_ble_eq_true rfl) ⟨Nat.le_of_ble_eq_true rfl, Nat.le_of_ble_eq_true rfl⟩ rfl dX5_storedReading_56 ?_
    refine zkq (G := fun v1 w1 => zG p l e _ s m args below meth c D _ _ _ _ _ _ _ (v1.toList ++ _) w1) rfl ?_
    refine z_iload_n hC dX5_storedReading_59 rfl ?_
    refine z_iaddN (0 + 90 + 5 * (6 * n + i)) (p0) hC dX5_storedReading_60 ?_
    refine z_ialdN (0 + 90 + 5 * (6 * n + i) + p0) 1 0 hC rfl rfl (by decide) (by omega) dX5_storedReading_61 ?_
    refine z_goto hC 66 dX5_storedReading_62 (by decide) ?_
    exact z_iretd hC hr dX5_storedReading_66 (Nat.zero_le _) (Nat.zero_le _) (by subst eκ2; exact (if_pos c46).symm) (by subst eκ2; rfl) cM_adr

set_option maxRecDepth 100000 in
set_option maxHeartbeats 1000000 in
theorem c_X5_storedReading_no1 (l : Launch) (D : va_G) (ct : Nat → ClassId) (q : Nat → Nat) (κ : Nat → Nat → Int32) (n i p0 : Int32) (hx : mMeter n = false ∨ i < 0) : zT l D ct yX5_storedReading cX5_storedReading 4 (some .int) 2 42 0 0 [.ref (q 0), .int n, .int i, .int p0] (cM q κ ct) (zd (some (.int 0)) (cM q (u2 κ 0 2 1) ct)) := by
  refine zT_of ([some (.ref (q 0)), some (.int n), some (.int i), some (.int p0)]) (by decide +kernel) rfl (Nat.le_of_ble_eq_true rfl) ?_
  intro p e s m args below meth c hC hr hnm
  refine z_aload_n hC dX5_storedReading_0 rfl ?_
  refine z_iload_n hC dX5_storedReading_1 rfl ?_
  refine z_callS [] hC (c_X5_isMeter l D ct n) bw_206 bw_207 bw_5 bw_208 1 (by decide +kernel) rfl rfl rfl ⟨Nat.le_of_ble_eq_true rfl, Nat.le_of_ble_eq_true rfl⟩ (Nat.le_of_ble_eq_true rfl) ⟨Nat.le_of_ble_eq_true rfl, Nat.le_of_ble_eq_true rfl⟩ rfl dX5_storedReading_2 ?_
  refine zkq (G := fun v1 w1 => zG p l e _ s m args below meth c D _ _ _ _ _ _ _ (v1.toList ++ _) w1) rfl ?_
  refine z_if_eq hC 16 dX5_storedReading_5 (by decide) (fun c5 => ?_) (fun c5 => ?_)
  · rw [bI_0] at c5
    refine z_iconst (v := 0) hC dX5_storedReading_16 (by decide) ?_
    refine z_iload_n hC dX5_storedReading_17 rfl ?_
    refine z_iconst (v := 0) hC dX5_storedReading_18 (by decide) ?_
    refine z_iconst (v := 4) hC dX5_storedReading_19 (by decide) ?_
    refine z_callS [] hC (c_X5_in l D ct p0 0 4) bw_140 bw_141 bw_5 bw_142 3 (by decide +kernel) rfl rfl rfl ⟨Nat.le_of_ble_eq_true rfl, Nat.le_of_ble_eq_true rfl⟩ (Nat.le_of_ble_eq_true rfl) ⟨Nat.le_of_ble_eq_true rfl, Nat.le_of_ble_eq_true rfl⟩ rfl dX5_storedReading_20 ?_
    refine zkq (G := fun v1 w1 => zG p l e _ s m args below meth c D _ _ _ _ _ _ _ (v1.toList ++ _) w1) rfl ?_
    refine z_iconst (v := 1) hC dX5_storedReading_23 (by decide) ?_
    refine z_callV [0, 1, 2, 3] 0 5 hC (c_X5_goes l D ct q κ 0 (bI (mIn p0 0 4)) 1 1 (if_pos rfl)) bw_143 bw_144 bw_145 bw_5 bw_146 3 (by decide +kernel) rfl rfl rfl rfl rfl ⟨Nat.le_of_ble_eq_true rfl, Nat.le_of_ble_eq_true rfl⟩ (Nat.le_of_ble_eq_true rfl) ⟨Nat.le_of_ble_eq_true rfl, Nat.le_of_ble_eq_true rfl⟩ rfl dX5_storedReading_24 ?_
    refine zkd (G := fun v1 w1 => zG p l e _ s m args below meth c D _ _ _ _ _ _ _ (v1.toList ++ _) w1) (w2 := cM q (u2 κ 0 2 1) ct) cM_all ?_
    obtain ⟨κ1, eκ1⟩ : ∃ zz_, zz_ = (u2 κ 0 2 1) := ⟨_, rfl⟩
    rw [← eκ1]
    refine z_top (y := 0) (by decide) ?_
    refine z_if_ne hC 32 dX5_storedReading_27 (by decide) (fun cn2 => absurd cn2 (by decide)) (fun cn2 => ?_)
    refine z_iconst (v := 0) hC dX5_storedReading_30 (by decide) ?_
    exact z_iretd hC hr dX5_storedReading_31 (Nat.zero_le _) (Nat.zero_le _) (by subst eκ1; rfl) (by subst eκ1; rfl) cM_adr
  · rw [bI_1] at c5
    refine z_iload_n hC dX5_storedReading_8 rfl ?_
    refine z_if_lt hC 16 dX5_storedReading_9 (by decide) (fun c9 => ?_) (fun c9 => absurd (hx.resolve_left (by rw [c5]; decide)) c9)
    refine z_iconst (v := 0) hC dX5_storedReading_16 (by decide) ?_
    refine z_iload_n hC dX5_storedReading_17 rfl ?_
    refine z_iconst (v := 0) hC dX5_storedReading_18 (by decide) ?_
    refine z_iconst (v := 4) hC dX5_storedReading_19 (by decide) ?_
    refine z_callS [] hC (c_X5_in l D ct p0 0 4) bw_140 bw_141 bw_5 bw_142 3 (by decide +kernel) rfl rfl rfl ⟨Nat.le_of_ble_eq_true rfl, Nat.le_of_ble_eq_true rfl⟩ (Nat.le_of_ble_eq_true rfl) ⟨Nat.le_of_ble_eq_true rfl, Nat.le_of_ble_eq_true rfl⟩ rfl dX5_storedReading_20 ?_
    refine zkq (G := fun v1 w1 => zG p l e _ s m args below meth c D _ _ _ _ _ _ _ (v1.toList ++ _) w1) rfl ?_
    refine z_iconst (v := 1) hC dX5_storedReading_23 (by decide) ?_
    refine z_callV [0, 1, 2, 3] 0 5 hC (c_X5_goes l D ct q κ 0 (bI (mIn p0 0 4)) 1 1 (if_pos rfl)) bw_143 bw_144 bw_145 bw_5 bw_146 3 (by decide +kernel) rfl rfl rfl rfl rfl ⟨Nat.le_of_ble_eq_true rfl, Nat.le_of_ble_eq_true rfl⟩ (Nat.le_of_ble_eq_true rfl) ⟨Nat.le_of_ble_eq_true rfl, Nat.le_of_ble_eq_true rfl⟩ rfl dX5_storedReading_24 ?_
    refine zkd (G := fun v1 w1 => zG p l e _ s m args below meth c D _ _ _ _ _ _ _ (v1.toList ++ _) w1) (w2 := cM q (u2 κ 0 2 1) ct) cM_all ?_
    obtain ⟨κ3, eκ3⟩ : ∃ zz_, zz_ = (u2 κ 0 2 1) := ⟨_, rfl⟩
    rw [← eκ3]
    refine z_top (y := 0) (by decide) ?_
    refine z_if_ne hC 32 dX5_storedReading_27 (by decide) (fun cn4 => absurd cn4 (by decide)) (fun cn4 => ?_)
    refine z_iconst (v := 0) hC dX5_storedReading_30 (by decide) ?_
    exact z_iretd hC hr dX5_storedReading_31 (Nat.zero_le _) (Nat.zero_le _) (by subst eκ3; rfl) (by subst eκ3; rfl) cM_adr

set_option maxRecDepth 100000 in
set_option maxHeartbeats 1000000 in
theorem c_X5_storedReading_no2 (l : Launch) (D : va_G) (ct : Nat → ClassId) (q : Nat → Nat) (κ : Nat → Nat → Int32) (n i p0 : Int32) (hm : mMeter n = true) (hi : ¬ i < 0) (hx : mIn p0 0 4 = false) : zT l D ct yX5_storedReading cX5_storedReading 4 (some .int) 2 42 0 0 [.ref (q 0), .int n, .int i, .int p0] (cM q κ ct) (zd (some (.int 0)) (cM q (u2 κ 0 2 2) ct)) := by
  refine zT_of ([some (.ref (q 0)), some (.int n), some (.int i), some (.int p0)]) (by decide +kernel) rfl (Nat.le_of_ble_eq_true rfl) ?_
  intro p e s m args below meth c hC hr hnm
  refine z_aload_n hC dX5_storedReading_0 rfl ?_
  refine z_iload_n hC dX5_storedReading_1 rfl ?_
  refine z_callS [] hC (c_X5_isMeter l D ct n) bw_206 bw_207 bw_5 bw_208 1 (by decide +kernel) rfl rfl rfl ⟨Nat.le_of_ble_eq_true rfl, Nat.le_of_ble_eq_true rfl⟩ (Nat.le_of_ble_eq_true rfl) ⟨Nat.le_of_ble_eq_true rfl, Nat.le_of_ble_eq_true rfl⟩ rfl dX5_storedReading_2 ?_
  refine zkq (G := fun v1 w1 => zG p l e _ s m args below meth c D _ _ _ _ _ _ _ (v1.toList ++ _) w1) rfl ?_
  refine z_top (bI_t hm) ?_
  refine z_if_eq hC 16 dX5_storedReading_5 (by decide) (fun cn1 => absurd cn1 (by decide)) (fun cn1 => ?_)
  refine z_iload_n hC dX5_storedReading_8 rfl ?_
  refine z_if_lt hC 16 dX5_storedReading_9 (by decide) (fun c9 => absurd c9 hi) (fun c9 => ?_)
  refine z_iconst (v := 1) hC dX5_storedReading_12 (by decide) ?_
  refine z_goto hC 17 dX5_storedReading_13 (by decide) ?_
  refine z_iload_n hC dX5_storedReading_17 rfl ?_
  refine z_iconst (v := 0) hC dX5_storedReading_18 (by decide) ?_
  refine z_iconst (v := 4) hC dX5_storedReading_19 (by decide) ?_
  refine z_callS [] hC (c_X5_in l D ct p0 0 4) bw_140 bw_141 bw_5 bw_142 3 (by decide +kernel) rfl rfl rfl ⟨Nat.le_of_ble_eq_true rfl, Nat.le_of_ble_eq_true rfl⟩ (Nat.le_of_ble_eq_true rfl) ⟨Nat.le_of_ble_eq_true rfl, Nat.le_of_ble_eq_true rfl⟩ rfl dX5_storedReading_20 ?_
  refine zkq (G := fun v1 w1 => zG p l e _ s m args below meth c D _ _ _ _ _ _ _ (v1.toList ++ _) w1) rfl ?_
  refine z_top (bI_f hx) ?_
  refine z_iconst (v := 1) hC dX5_storedReading_23 (by decide) ?_
  refine z_callV [0, 1, 2, 3] 0 5 hC (c_X5_goes l D ct q κ 1 0 1 2 rfl) bw_143 bw_144 bw_145 bw_5 bw_146 3 (by decide +kernel) rfl rfl rfl rfl rfl ⟨Nat.le_of_ble_eq_true rfl, Nat.le_of_ble_eq_true rfl⟩ (Nat.le_of_ble_eq_true rfl) ⟨Nat.le_of_ble_eq_true rfl, Nat.le_of_ble_eq_true rfl⟩ rfl dX5_storedReading_24 ?_
  refine zkd (G := fun v1 w1 => zG p l e _ s m args below meth c D _ _ _ _ _ _ _ (v1.toList ++ _) w1) (w2 := cM q (u2 κ 0 2 2) ct) cM_all ?_
  obtain ⟨κ2, eκ2⟩ : ∃ zz_, zz_ = (u2 κ 0 2 2) := ⟨_, rfl⟩
  rw [← eκ2]
  refine z_top (y := 0) (by decide) ?_
  refine z_if_ne hC 32 dX5_storedReading_27 (by decide) (fun cn3 => absurd cn3 (by decide)) (fun cn3 => ?_)
  refine z_iconst (v := 0) hC dX5_storedReading_30 (by decide) ?_
  exact z_iretd hC hr dX5_storedReading_31 (Nat.zero_le _) (Nat.zero_le _) (by subst eκ2; rfl) (by subst eκ2; rfl) cM_adr

set_option maxRecDepth 100000 in
set_option maxHeartbeats 1000000 in
theorem c_X5_collectedReading_ok (l : Launch) (D : va_G) (ct : Nat → ClassId) (q : Nat → Nat) (κ : Nat → Nat → Int32) (i p0 : Nat) (hi : i < 2 ^ 31) (hp : p0 ≤ 4) (hC0 : okC κ 0) : zT l D ct yX5_collectedReading cX5_collectedReading 3 (some .int) 1 23 0 0 [.ref (q 0), .int (nI i), .int (nI p0)] (cM q κ ct) (zd (some (.int (if i < mdC κ 0 then κ 1 (0 + 390 + 5 * i + p0) else -1))) (cM q (u2 κ 0 2 0) ct)) := by
  refine zT_of ([some (.ref (q 0)), some (.int (nI i)), some (.int (nI p0))]) (by decide +kernel) rfl (Nat.le_of_ble_eq_true rfl) ?_
  intro p e s m args below meth c hC hr hnm
  have hC6 := hC0.2
  refine z_aload_n hC dX5_collectedReading_0 rfl ?_
  refine z_iload_n hC dX5_collectedReading_1 rfl ?_
  refine z_if_lt hC 9 dX5_collectedReading_2 (by decide) (fun c2 => (by have hh := (nI_ltI (a := i) (b := 0) (by omega) (by omega)).mp c2; omega)) (fun c2 => ?_)
  replace c2 := (nI_nltI (a := i) (b := 0) (by omega) (by omega)).mp c2
  refine z_iconst (v := 1) hC dX5_collectedReading_5 (by decide) ?_
  refine z_goto hC 10 dX5_collectedReading_6 (by decide) ?_
  refine z_iload_n hC dX5_collectedReading_10 rfl ?_
  refine z_iconst (v := 0) hC dX5_collectedReading_11 (by decide) ?_
  refine z_iconst (v := 4) hC dX5_collectedReading_12 (by decide) ?_
  refine z_callS [] hC (c_X5_in l D ct (nI p0) 0 4) bw_140 bw_141 bw_5 bw_142 3 (by decide +kernel) rfl rfl rfl ⟨Nat.le_of_ble_eq_true rfl, Nat.le_of_ble_eq_true rfl⟩ (Nat.le_of_ble_eq_true rfl) ⟨Nat.le_of_ble_eq_true rfl, Nat.le_of_ble_eq_true rfl⟩ rfl dX5_collectedReading_13 ?_
  refine zkq (G := fun v1 w1 => zG p l e _ s m args below meth c D _ _ _ _ _ _ _ (v1.toList ++ _) w1) rfl ?_
  refine z_top (bI_t (by unfold mIn; rw [decide_eq_true (nI_pos' (by omega)), decide_eq_true (show nI p0 ≤ 4 from nI_le (b := 4) hp (by decide))]; rfl)) ?_
  refine z_iconst (v := 1) hC dX5_collectedReading_16 (by decide) ?_
  refine z_callV [0, 1, 2, 3] 0 5 hC (c_X5_goes l D ct q κ 1 1 1 0 rfl) bw_143 bw_144 bw_145 bw_5 bw_146 3 (by decide +kernel) rfl rfl rfl rfl rfl ⟨Nat.le_of_ble_eq_true rfl, Nat.le_of_ble_eq_true rfl⟩ (Nat.le_of_ble_eq_true rfl) ⟨Nat.le_of_ble_eq_true rfl, Nat.le_of_ble_eq_true rfl⟩ rfl dX5_collectedReading_17 ?_
  refine zkd (G := fun v1 w1 => zG p l e _ s m args below meth c D _ _ _ _ _ _ _ (v1.toList ++ _) w1) (w2 := cM q (u2 κ 0 2 0) ct) cM_all ?_
  obtain ⟨κ1, eκ1⟩ : ∃ zz_, zz_ = (u2 κ 0 2 0) := ⟨_, rfl⟩
  rw [← eκ1]
  refine z_top (y := 1) (by decide) ?_
  refine z_if_ne hC 25 dX5_collectedReading_20 (by decide) (fun cn2 => ?_) (fun cn2 => absurd cn2 (by decide))
  refine z_iload_n hC dX5_collectedReading_25 rfl ?_
  refine z_aload_n hC dX5_collectedReading_26 rfl ?_
  refine z_get 0 0 hC bl_X5 (ci := 5) rfl (by decide) rfl bw_67 rfl rfl dX5_collectedReading_27 ?_
  refine z_bipush (v := 19) hC dX5_collectedReading_30 (by decide) ?_
  refine z_ialdN (19) 1 0 hC rfl rfl (by decide) (by omega) dX5_collectedReading_32 ?_
  refine z_top (y := nI (mdC κ 0)) (by subst eκ1; exact hC0.1) ?_
  refine z_icmp_ge hC 51 dX5_collectedReading_33 (by decide) (fun c33 => ?_) (fun c33 => ?_)
  · replace c33 := (nI_leI (a := mdC κ 0) (b := i) (by omega) (by omega)).mp c33
    refine z_iconst (v := (-1)) hC dX5_collectedReading_51 (by decide) ?_
    exact z_iretd hC hr dX5_collectedReading_52 (Nat.zero_le _) (Nat.zero_le _) (by subst eκ1; exact (if_neg (Nat.not_lt.mpr c33)).symm) (by subst eκ1; rfl) cM_adr
  · replace c33 := (nI_nleI (a := mdC κ 0) (b := i) (by omega) (by omega)).mp c33
    refine z_aload_n hC dX5_collectedReading_36 rfl ?_
    refine z_get 0 0 hC bl_X5 (ci := 5) rfl (by decide) rfl bw_67 rfl rfl dX5_collectedReading_37 ?_
    refine z_iconst (v := 0) hC dX5_collectedReading_40 (by decide) ?_
    refine z_iload_n hC dX5_collectedReading_41 rfl ?_
    refine z_callS [] hC (c_X5_listAt l D ct 0 i) bw_395 bw_396 bw_5 bw_397 2 (by decide +kernel) rfl rfl rfl ⟨Nat.le_of_ble_eq_true rfl, Nat.le_of_ble_eq_true rfl⟩ (Nat.le_of_ble_eq_true rfl) ⟨Nat.le_of_ble_eq_true rfl, Nat.le_of_ble_eq_true rfl⟩ rfl dX5_collectedReading_42 ?_
    refine zkq (G := fun v1 w1 => zG p l e _ s m args below meth c D _ _ _ _ _ _ _ (v1.toList ++ _) w1) rfl ?_
    refine z_iload_n hC dX5_collectedReading_45 rfl ?_
    refine z_iaddN (0 + 390 + 5 * i) (p0) hC dX5_collectedReading_46 ?_
    refine z_ialdN (0 + 390 + 5 * i + p0) 1 0 hC rfl rfl (by decide) (by omega) dX5_collectedReading_47 ?_
    refine z_goto hC 52 dX5_collectedReading_48 (by decide) ?_
    exact z_iretd hC hr dX5_collectedReading_52 (Nat.zero_le _) (Nat.zero_le _) (by subst eκ1; exact (if_pos c33).symm) (by subst eκ1; rfl) cM_adr

set_option maxRecDepth 100000 in
set_option maxHeartbeats 1000000 in
theorem c_X5_collectedReading_no1 (l : Launch) (D : va_G) (ct : Nat → ClassId) (q : Nat → Nat) (κ : Nat → Nat → Int32) (i p0 : Int32) (hx : i < 0) : zT l D ct yX5_collectedReading cX5_collectedReading 3 (some .int) 1 23 0 0 [.ref (q 0), .int i, .int p0] (cM q κ ct) (zd (some (.int 0)) (cM q (u2 κ 0 2 1) ct)) := by
  refine zT_of ([some (.ref (q 0)), some (.int i), some (.int p0)]) (by decide +kernel) rfl (Nat.le_of_ble_eq_true rfl) ?_
  intro p e s m args below meth c hC hr hnm
  refine z_aload_n hC dX5_collectedReading_0 rfl ?_
  refine z_iload_n hC dX5_collectedReading_1 rfl ?_
  refine z_if_lt hC 9 dX5_collectedReading_2 (by decide) (fun c2 => ?_) (fun c2 => absurd hx c2)
  refine z_iconst (v := 0) hC dX5_collectedReading_9 (by decide) ?_
  refine z_iload_n hC dX5_collectedReading_10 rfl ?_
  refine z_iconst (v := 0) hC dX5_collectedReading_11 (by decide) ?_
  refine z_iconst (v := 4) hC dX5_collectedReading_12 (by decide) ?_
  refine z_callS [] hC (c_X5_in l D ct p0 0 4) bw_140 bw_141 bw_5 bw_142 3 (by decide +kernel) rfl rfl rfl ⟨Nat.le_of_ble_eq_true rfl, Nat.le_of_ble_eq_true rfl⟩ (Nat.le_of_ble_eq_true rfl) ⟨Nat.le_of_ble_eq_true rfl, Nat.le_of_ble_eq_true rfl⟩ rfl dX5_collectedReading_13 ?_
  refine zkq (G := fun v1 w1 => zG p l e _ s m args below meth c D _ _ _ _ _ _ _ (v1.toList ++ _) w1) rfl ?_
  refine z_iconst (v := 1) hC dX5_collectedReading_16 (by decide) ?_
  refine z_callV [0, 1, 2, 3] 0 5 hC (c_X5_goes l D ct q κ 0 (bI (mIn p0 0 4)) 1 1 (if_pos rfl)) bw_143 bw_144 bw_145 bw_5 bw_146 3 (by decide +kernel) rfl rfl rfl rfl rfl ⟨Nat.le_of_ble_eq_true rfl, Nat.le_of_ble_eq_true rfl⟩ (Nat.le_of_ble_eq_true rfl) ⟨Nat.le_of_ble_eq_true rfl, Nat.le_of_ble_eq_true rfl⟩ rfl dX5_collectedReading_17 ?_
  refine zkd (G := fun v1 w1 => zG p l e _ s m args below meth c D _ _ _ _ _ _ _ (v1.toList ++ _) w1) (w2 := cM q (u2 κ 0 2 1) ct) cM_all ?_
  obtain ⟨κ1, eκ1⟩ : ∃ zz_, zz_ = (u2 κ 0 2 1) := ⟨_, rfl⟩
  rw [← eκ1]
  refine z_top (y := 0) (by decide) ?_
  refine z_if_ne hC 25 dX5_collectedReading_20 (by decide) (fun cn2 => absurd cn2 (by decide)) (fun cn2 => ?_)
  refine z_iconst (v := 0) hC dX5_collectedReading_23 (by decide) ?_
  exact z_iretd hC hr dX5_collectedReading_24 (Nat.zero_le _) (Nat.zero_le _) (by subst eκ1; rfl) (by subst eκ1; rfl) cM_adr

set_option maxRecDepth 100000 in
set_option maxHeartbeats 1000000 in
theorem c_X5_collectedReading_no2 (l : Launch) (D : va_G) (ct : Nat → ClassId) (q : Nat → Nat) (κ : Nat → Nat → Int32) (i p0 : Int32) (hi : ¬ i < 0) (hx : mIn p0 0 4 = false) : zT l D ct yX5_collectedReading cX5_collectedReading 3 (some .int) 1 23 0 0 [.ref (q 0), .int i, .int p0] (cM q κ ct) (zd (some (.int 0)) (cM q (u2 κ 0 2 2) ct)) := by
  refine zT_of ([some (.ref (q 0)), some (.int i), some (.int p0)]) (by decide +kernel) rfl (Nat.le_of_ble_eq_true rfl) ?_
  intro p e s m args below meth c hC hr hnm
  refine z_aload_n hC dX5_collectedReading_0 rfl ?_
  refine z_iload_n hC dX5_collectedReading_1 rfl ?_
  refine z_if_lt hC 9 dX5_collectedReading_2 (by decide) (fun c2 => absurd c2 hi) (fun c2 => ?_)
  refine z_iconst (v := 1) hC dX5_collectedReading_5 (by decide) ?_
  refine z_goto hC 10 dX5_collectedReading_6 (by decide) ?_
  refine z_iload_n hC dX5_collectedReading_10 rfl ?_
  refine z_iconst (v := 0) hC dX5_collectedReading_11 (by decide) ?_
  refine z_iconst (v := 4) hC dX5_collectedReading_12 (by decide) ?_
  refine z_callS [] hC (c_X5_in l D ct p0 0 4) bw_140 bw_141 bw_5 bw_142 3 (by decide +kernel) rfl rfl rfl ⟨Nat.le_of_ble_eq_true rfl, Nat.le_of_ble_eq_true rfl⟩ (Nat.le_of_ble_eq_true rfl) ⟨Nat.le_of_ble_eq_true rfl, Nat.le_of_ble_eq_true rfl⟩ rfl dX5_collectedReading_13 ?_
  refine zkq (G := fun v1 w1 => zG p l e _ s m args below meth c D _ _ _ _ _ _ _ (v1.toList ++ _) w1) rfl ?_
  refine z_top (bI_f hx) ?_
  refine z_iconst (v := 1) hC dX5_collectedReading_16 (by decide) ?_
  refine z_callV [0, 1, 2, 3] 0 5 hC (c_X5_goes l D ct q κ 1 0 1 2 rfl) bw_143 bw_144 bw_145 bw_5 bw_146 3 (by decide +kernel) rfl rfl rfl rfl rfl ⟨Nat.le_of_ble_eq_true rfl, Nat.le_of_ble_eq_true rfl⟩ (Nat.le_of_ble_eq_true rfl) ⟨Nat.le_of_ble_eq_true rfl, Nat.le_of_ble_eq_true rfl⟩ rfl dX5_collectedReading_17 ?_
  refine zkd (G := fun v1 w1 => zG p l e _ s m args below meth c D _ _ _ _ _ _ _ (v1.toList ++ _) w1) (w2 := cM q (u2 κ 0 2 2) ct) cM_all ?_
  obtain ⟨κ1, eκ1⟩ : ∃ zz_, zz_ = (u2 κ 0 2 2) := ⟨_, rfl⟩
  rw [← eκ1]
  refine z_top (y := 0) (by decide) ?_
  refine z_if_ne hC 25 dX5_collectedReading_20 (by decide) (fun cn2 => absurd cn2 (by decide)) (fun cn2 => ?_)
  refine z_iconst (v := 0) hC dX5_collectedReading_23 (by decide) ?_
  exact z_iretd hC hr dX5_collectedReading_24 (Nat.zero_le _) (Nat.zero_le _) (by subst eκ1; rfl) (by subst eκ1; rfl) cM_adr

set_option maxRecDepth 100000 in
set_option maxHeartbeats 1000000 in
theorem c_X5_copies_ok (l : Launch) (D : va_G) (ct : Nat → ClassId) (q : Nat → Nat) (κ : Nat → Nat → Int32) (n : Nat) (h0 : 0 < n) (hn : n < 10) (x : Int32) (hA : okA κ 0) : zT l D ct yX5_copies cX5_copies 7 (some .int) 2 42 0 0 [.ref (q 0), .int (nI n), .int x] (cM q κ ct) (zd (some (.int (if mIn x 0 (κ 1 (0 + 20 + 7 * n + 5) - 1) = true then mdCop (u2 κ 0 2 0) n x else -1))) (cM q (u2 κ 0 2 0) ct)) := by
  refine zT_of ([some (.ref (q 0)), some (.int (nI n)), some (.int x), none, none, none, none]) (by decide +kernel) rfl (Nat.le_of_ble_eq_true rfl) ?_
  intro p e s m args below meth c hC hr hnm
  refine z_aload_n hC dX5_copies_0 rfl ?_
  refine z_iload_n hC dX5_copies_1 rfl ?_
  refine z_callS [] hC (c_X5_isMeter l D ct (nI n)) bw_206 bw_207 bw_5 bw_208 1 (by decide +kernel) rfl rfl rfl ⟨Nat.le_of_ble_eq_true rfl, Nat.le_of_ble_eq_true rfl⟩ (Nat.le_of_ble_eq_true rfl) ⟨Nat.le_of_ble_eq_true rfl, Nat.le_of_ble_eq_true rfl⟩ rfl dX5_copies_2 ?_
  refine zkq (G := fun v1 w1 => zG p l e _ s m args below meth c D _ _ _ _ _ _ _ (v1.toList ++ _) w1) rfl ?_
  refine z_top (bI_t (meterI h0 hn)) ?_
  refine z_iconst (v := 1) hC dX5_copies_5 (by decide) ?_
  refine z_iconst (v := 1) hC dX5_copies_6 (by decide) ?_
  refine z_callV [0, 1, 2, 3] 0 5 hC (c_X5_goes l D ct q κ 1 1 1 0 rfl) bw_143 bw_144 bw_145 bw_5 bw_146 3 (by decide +kernel) rfl rfl rfl rfl rfl ⟨Nat.le_of_ble_eq_true rfl, Nat.le_of_ble_eq_true rfl⟩ (Nat.le_of_ble_eq_true rfl) ⟨Nat.le_of_ble_eq_true rfl, Nat.le_of_ble_eq_true rfl⟩ rfl dX5_copies_7 ?_
  refine zkd (G := fun v1 w1 => zG p l e _ s m args below meth c D _ _ _ _ _ _ _ (v1.toList ++ _) w1) (w2 := cM q (u2 κ 0 2 0) ct) cM_all ?_
  obtain ⟨κ1, eκ1⟩ : ∃ zz_, zz_ = (u2 κ 0 2 0) := ⟨_, rfl⟩
  rw [← eκ1]
  refine z_top (y := 1) (by decide) ?_
  refine z_if_ne hC 15 dX5_copies_10 (by decide) (fun cn2 => ?_) (fun cn2 => absurd cn2 (by decide))
  refine z_iload_n hC dX5_copies_15 rfl ?_
  refine z_iconst (v := 0) hC dX5_copies_16 (by decide) ?_
  refine z_aload_n hC dX5_copies_17 rfl ?_
  refine z_get 0 0 hC bl_X5 (ci := 5) rfl (by decide) rfl bw_67 rfl rfl dX5_copies_18 ?_
  refine z_iconst (v := 0) hC dX5_copies_21 (by decide) ?_
  refine z_iload_n hC dX5_copies_22 rfl ?_
  refine z_callS [] hC (c_X5_at l D ct 0 n) bw_70 bw_71 bw_5 bw_72 2 (by decide +kernel) rfl rfl rfl ⟨Nat.le_of_ble_eq_true rfl, Nat.le_of_ble_eq_true rfl⟩ (Nat.le_of_ble_eq_true rfl) ⟨Nat.le_of_ble_eq_true rfl, Nat.le_of_ble_eq_true rfl⟩ rfl dX5_copies_23 ?_
  refine zkq (G := fun v1 w1 => zG p l e _ s m args below meth c D _ _ _ _ _ _ _ (v1.toList ++ _) w1) rfl ?_
  refine z_iconst (v := 5) hC dX5_copies_26 (by decide) ?_
  refine z_iaddN (0 + 20 + 7 * n) (5) hC dX5_copies_27 ?_
  refine z_ialdN (0 + 20 + 7 * n + 5) 1 0 hC rfl rfl (by decide) (by omega) dX5_copies_28 ?_
  refine z_iconst (v := 1) hC dX5_copies_29 (by decide) ?_
  refine z_isub hC dX5_copies_30 ?_
  refine z_callS [] hC (c_X5_in l D ct x 0 ((κ1 1 (0 + 20 + 7 * n + 5)) - 1)) bw_140 bw_141 bw_5 bw_142 3 (by decide +kernel) rfl rfl rfl ⟨Nat.le_of_ble_eq_true rfl, Nat.le_of_ble_eq_true rfl⟩ (Nat.le_of_ble_eq_true rfl) ⟨Nat.le_of_ble_eq_true rfl, Nat.le_of_ble_eq_true rfl⟩ rfl dX5_copies_31 ?_
  refine zkq (G := fun v1 w1 => zG p l e _ s m args below meth c D _ _ _ _ _ _ _ (v1.toList ++ _) w1) rfl ?_
  refine z_if_ne hC 39 dX5_copies_34 (by decide) (fun c34 => ?_) (fun c34 => ?_)
  · rw [bI_1] at c34
    subst eκ1
    refine z_iconst (v := 0) hC dX5_copies_39 (by decide) ?_
    refine z_istore_n hC dX5_copies_40 (by decide) rfl ?_
    refine z_iconst (v := 1) hC dX5_copies_41 (by decide) ?_
    refine z_istore hC dX5_copies_42 (by decide) rfl ?_
    have loop44 : ∀ (kf k : Nat) (a : Int32) (hki : kf + k = 10) (hF : kfor (mdCop2 (u2 κ 0 2 0) n x) kf k a = mdCop (u2 κ 0 2 0) n x), zG p l e { frames := 2, cells := 0, slots := 0, locals := 42 } s m args below meth c D (va_A (cM q κ ct) s.heap.size) 7 (MQ below (zQ D ct (cM q κ ct) s.heap.size (zd (some (.int (if mIn x 0 (κ 1 (0 + 20 + 7 * n + 5) - 1) = true then mdCop (u2 κ 0 2 0) n x else -1))) (cM q (u2 κ 0 2 0) ct))) args s 0 0 (va_A (cM q κ ct) s.heap.size)) 0 0 44 [some (.ref (q 0)), some (.int (nI n)), some (.int x), some (.int a), some (.int (nI k)), none, none] [] (cM q (u2 κ 0 2 0) ct) := by
      intro kf
      induction kf with
      | zero =>
        intro k a hki hF
        refine z_iload hC dX5_copies_44 rfl ?_
        refine z_bipush (v := 10) hC dX5_copies_46 (by decide) ?_
        refine z_icmp_ge hC 127 dX5_copies_48 (by decide) (fun c48 => ?_) (fun c48 => (by have hh := (nI_nleI (a := 10) (b := k) (by omega) (by omega)).mp c48; omega))
        replace c48 := (nI_leI (a := 10) (b := k) (by omega) (by omega)).mp c48
        refine z_iload_n hC dX5_copies_127 rfl ?_
        exact z_iretd hC hr dX5_copies_128 (Nat.zero_le _) (Nat.zero_le _) (by rw [show a = mdCop (u2 κ 0 2 0) n x from hF]; exact (if_pos (show mIn x 0 (κ 1 (0 + 20 + 7 * n + 5) - 1) = true from c34)).symm) (rfl) cM_adr
      | succ kf ih =>
        intro k a hki hF
        refine z_iload hC dX5_copies_44 rfl ?_
        refine z_bipush (v := 10) hC dX5_copies_46 (by decide) ?_
        refine z_icmp_ge hC 127 dX5_copies_48 (by decide) (fun c48 => (by have hh := (nI_leI (a := 10) (b := k) (by omega) (by omega)).mp c48; omega)) (fun c48 => ?_)
        replace c48 := (nI_nleI (a := 10) (b := k) (by omega) (by omega)).mp c48
        have hK6 := (hA k (by omega)).2
        refine z_iconst (v := 0) hC dX5_copies_51 (by decide) ?_
        refine z_istore hC dX5_copies_52 (by decide) rfl ?_
        have loop54 : ∀ (kg j : Nat) (a1 : Int32) (hkj : kg + j = mdK κ 0 k) (hG : kfor (mdCop1 (u2 κ 0 2 0) n x k) kg j a1 = mdCop2 (u2 κ 0 2 0) n x k a), zG p l e { frames := 2, cells := 0, slots := 0, locals := 42 } s m args below meth c D (va_A (cM q κ ct) s.heap.size) 7 (MQ below (zQ D ct (cM q κ ct) s.heap.size (zd (some (.int (if mIn x 0 (κ 1 (0 + 20 + 7 * n + 5) - 1) = true then mdCop (u2 κ 0 2 0) n x else -1))) (cM q (u2 κ 0 2 0) ct))) args s 0 0 (va_A (cM q κ ct) s.heap.size)) 0 0 54 [some (.ref (q 0)), some (.int (nI n)), some (.int x), some (.int a1), some (.int (nI k)), some (.int (nI j)), none] [] (cM q (u2 κ 0 2 0) ct) := by
          intro kg
          induction kg with
          | zero =>
            intro j a1 hkj hG
            refine z_iload hC dX5_copies_54 rfl ?_
            refine z_aload_n hC dX5_copies_56 rfl ?_
            refine z_get 0 0 hC bl_X5 (ci := 5) rfl (by decide) rfl bw_67 rfl rfl dX5_copies_57 ?_
            refine z_iconst (v := 0) hC dX5_copies_60 (by decide) ?_
            refine z_iload hC dX5_copies_61 rfl ?_
            refine z_callS [] hC (c_X5_at l D ct 0 k) bw_70 bw_71 bw_5 bw_72 2 (by decide +kernel) rfl rfl rfl ⟨Nat.le_of_ble_eq_true rfl, Nat.le_of_ble_eq_true rfl⟩ (Nat.le_of_ble_eq_true rfl) ⟨Nat.le_of_ble_eq_true rfl, Nat.le_of_ble_eq_true rfl⟩ rfl dX5_copies_63 ?_
            refine zkq (G := fun v1 w1 => zG p l e _ s m args below meth c D _ _ _ _ _ _ _ (v1.toList ++ _) w1) rfl ?_
            refine z_bipush (v := 6) hC dX5_copies_66 (by decide) ?_
            refine z_iaddN (0 + 20 + 7 * k) (6) hC dX5_copies_68 ?_
            refine z_ialdN (0 + 20 + 7 * k + 6) 1 0 hC rfl rfl (by decide) (by omega) dX5_copies_69 ?_
            refine z_top (y := nI (mdK κ 0 k)) ((hA k (by omega)).1) ?_
            refine z_icmp_ge hC 121 dX5_copies_70 (by decide) (fun c70 => ?_) (fun c70 => (by have hh := (nI_nleI (a := mdK κ 0 k) (b := j) (by omega) (by omega)).mp c70; omega))
            replace c70 := (nI_leI (a := mdK κ 0 k) (b := j) (by omega) (by omega)).mp c70
            refine z_iincN (k) hC dX5_copies_121 (by decide) rfl rfl ?_
            refine z_goto hC 44 dX5_copies_124 (by decide) ?_
            exact z_wk (ls_s (ls_s (ls_s (ls_s (ls_s (ls_n (ls_n ls_0))))))) (ih (k + 1) a1 (by omega) (by rw [← hF]; exact congrArg (kfor (mdCop2 (u2 κ 0 2 0) n x) kf (k + 1)) hG))
          | succ kg ihg =>
            intro j a1 hkj hG
            refine z_iload hC dX5_copies_54 rfl ?_
            refine z_aload_n hC dX5_copies_56 rfl ?_
            refine z_get 0 0 hC bl_X5 (ci := 5) rfl (by decide) rfl bw_67 rfl rfl dX5_copies_57 ?_
            refine z_iconst (v := 0) hC dX5_copies_60 (by decide) ?_
            refine z_iload hC dX5_copies_61 rfl ?_
            refine z_callS [] hC (c_X5_at l D ct 0 k) bw_70 bw_71 bw_5 bw_72 2 (by decide +kernel) rfl rfl rfl ⟨Nat.le_of_ble_eq_true rfl, Nat.le_of_ble_eq_true rfl⟩ (Nat.le_of_ble_eq_true rfl) ⟨Nat.le_of_ble_eq_true rfl, Nat.le_of_ble_eq_true rfl⟩ rfl dX5_copies_63 ?_
            refine zkq (G := fun v1 w1 => zG p l e _ s m args below meth c D _ _ _ _ _ _ _ (v1.toList ++ _) w1) rfl ?_
            refine z_bipush (v := 6) hC dX5_copies_66 (by decide) ?_
            refine z_iaddN (0 + 20 + 7 * k) (6) hC dX5_copies_68 ?_
            refine z_ialdN (0 + 20 + 7 * k + 6) 1 0 hC rfl rfl (by decide) (by omega) dX5_copies_69 ?_
            refine z_top (y := nI (mdK κ 0 k)) ((hA k (by omega)).1) ?_
            refine z_icmp_ge hC 121 dX5_copies_70 (by decide) (fun c70 => (by have hh := (nI_leI (a := mdK κ 0 k) (b := j) (by omega) (by omega)).mp c70; omega)) (fun c70 => ?_)
            replace c70 := (nI_nleI (a := mdK κ 0 k) (b := j) (by omega) (by omega)).mp c70
            refine z_iconst (v := 0) hC dX5_copies_73 (by decide) ?_
            refine z_iload hC dX5_copies_74 rfl ?_
            refine z_iload hC dX5_copies_76 rfl ?_
            refine z_callS [] hC (c_X5_storeAt l D ct 0 k j) bw_282 bw_283 bw_5 bw_284 3 (by decide +kernel) rfl rfl rfl ⟨Nat.le_of_ble_eq_true rfl, Nat.le_of_ble_eq_true rfl⟩ (Nat.le_of_ble_eq_true rfl) ⟨Nat.le_of_ble_eq_true rfl, Nat.le_of_ble_eq_true rfl⟩ rfl dX5_copies_78 ?_
            refine zkq (G := fun v1 w1 => zG p l e _ s m args below meth c D _ _ _ _ _ _ _ (v1.toList ++ _) w1) rfl ?_
            refine z_istore hC dX5_copies_81 (by decide) rfl ?_
            refine z_iload_n hC dX5_copies_83 rfl ?_
            refine z_aload_n hC dX5_copies_84 rfl ?_
            refine z_get 0 0 hC bl_X5 (ci := 5) rfl (by decide) rfl bw_67 rfl rfl dX5_copies_85 ?_
            refine z_iload hC dX5_copies_88 rfl ?_
            refine z_ialdN (0 + 90 + 5 * (6 * k + j)) 1 0 hC rfl rfl (by decide) (by omega) dX5_copies_90 ?_
            refine z_iload_n hC dX5_copies_91 rfl ?_
            refine z_icmp_ne hC 112 dX5_copies_92 (by decide) (fun c92 => ?_) (fun c92 => ?_)
            · refine z_iconst (v := 0) hC dX5_copies_112 (by decide) ?_
              refine z_iadd hC dX5_copies_113 ?_
              refine z_istore_n hC dX5_copies_114 (by decide) rfl ?_
              refine z_iincN (j) hC dX5_copies_115 (by decide) rfl rfl ?_
              refine z_goto hC 54 dX5_copies_118 (by decide) ?_
              exact z_wk (ls_s (ls_s (ls_s (ls_s (ls_s (ls_s (ls_n ls_0))))))) (ihg (j + 1) (a1 + 0) (by omega) (by rw [← hG]; exact congrArg (kfor (mdCop1 (u2 κ 0 2 0) n x k) kg (j + 1)) (by simp [mdCop1, c34, c48, c70, c92])))
            · refine z_aload_n hC dX5_copies_95 rfl ?_
              refine z_get 0 0 hC bl_X5 (ci := 5) rfl (by decide) rfl bw_67 rfl rfl dX5_copies_96 ?_
              refine z_iload hC dX5_copies_99 rfl ?_
              refine z_iconst (v := 1) hC dX5_copies_101 (by decide) ?_
              refine z_iaddN (0 + 90 + 5 * (6 * k + j)) (1) hC dX5_copies_102 ?_
              refine z_ialdN (0 + 90 + 5 * (6 * k + j) + 1) 1 0 hC rfl rfl (by decide) (by omega) dX5_copies_103 ?_
              refine z_iload_n hC dX5_copies_104 rfl ?_
              refine z_icmp_ne hC 112 dX5_copies_105 (by decide) (fun c105 => ?_) (fun c105 => ?_)
              · refine z_iconst (v := 0) hC dX5_copies_112 (by decide) ?_
                refine z_iadd hC dX5_copies_113 ?_
                refine z_istore_n hC dX5_copies_114 (by decide) rfl ?_
                refine z_iincN (j) hC dX5_copies_115 (by decide) rfl rfl ?_
                refine z_goto hC 54 dX5_copies_118 (by decide) ?_
                exact z_wk (ls_s (ls_s (ls_s (ls_s (ls_s (ls_s (ls_n ls_0))))))) (ihg (j + 1) (a1 + 0) (by omega) (by rw [← hG]; exact congrArg (kfor (mdCop1 (u2 κ 0 2 0) n x k) kg (j + 1)) (by simp [mdCop1, c34, c48, c70, c92, c105])))
              · refine z_iconst (v := 1) hC dX5_copies_108 (by decide) ?_
                refine z_goto hC 113 dX5_copies_109 (by decide) ?_
                refine z_iadd hC dX5_copies_113 ?_
                refine z_istore_n hC dX5_copies_114 (by decide) rfl ?_
                refine z_iincN (j) hC dX5_copies_115 (by decide) rfl rfl ?_
                refine z_goto hC 54 dX5_copies_118 (by decide) ?_
                exact z_wk (ls_s (ls_s (ls_s (ls_s (ls_s (ls_s (ls_n ls_0))))))) (ihg (j + 1) (a1 + 1) (by omega) (by rw [← hG]; exact congrArg (kfor (mdCop1 (u2 κ 0 2 0) n x k) kg (j + 1)) (by simp [mdCop1, c34, c48, c70, c92, c105])))
        refine z_ls (ls2 := [some (.ref (q 0)), some (.int (nI n)), some (.int x), some (.int a), some (.int (nI k)), some (.int (nI 0)), none]) rfl ?_
        exact loop54 (mdK κ 0 k) 0 a (Nat.add_zero _) rfl
    refine z_ls (ls2 := [some (.ref (q 0)), some (.int (nI n)), some (.int x), some (.int 0), some (.int (nI 1)), none, none]) rfl ?_
    exact loop44 9 1 0 rfl rfl
  · rw [bI_0] at c34
    refine z_iconst (v := (-1)) hC dX5_copies_37 (by decide) ?_
    exact z_iretd hC hr dX5_copies_38 (Nat.zero_le _) (Nat.zero_le _) (by subst eκ1; exact (if_neg (by rw [show mIn x 0 (κ 1 (0 + 20 + 7 * n + 5) - 1) = false from c34]; decide)).symm) (by subst eκ1; rfl) cM_adr

set_option maxRecDepth 100000 in
set_option maxHeartbeats 1000000 in
theorem c_X5_copies_no1 (l : Launch) (D : va_G) (ct : Nat → ClassId) (q : Nat → Nat) (κ : Nat → Nat → Int32) (n x : Int32) (hx : mMeter n = false) : zT l D ct yX5_copies cX5_copies 7 (some .int) 2 42 0 0 [.ref (q 0), .int n, .int x] (cM q κ ct) (zd (some (.int 0)) (cM q (u2 κ 0 2 1) ct)) := by
  refine zT_of ([some (.ref (q 0)), some (.int n), some (.int x), none, none, none, none]) (by decide +kernel) rfl (Nat.le_of_ble_eq_true rfl) ?_
  intro p e s m args below meth c hC hr hnm
  refine z_aload_n hC dX5_copies_0 rfl ?_
  refine z_iload_n hC dX5_copies_1 rfl ?_
  refine z_callS [] hC (c_X5_isMeter l D ct n) bw_206 bw_207 bw_5 bw_208 1 (by decide +kernel) rfl rfl rfl ⟨Nat.le_of_ble_eq_true rfl, Nat.le_of_ble_eq_true rfl⟩ (Nat.le_of_ble_eq_true rfl) ⟨Nat.le_of_ble_eq_true rfl, Nat.le_of_ble_eq_true rfl⟩ rfl dX5_copies_2 ?_
  refine zkq (G := fun v1 w1 => zG p l e _ s m args below meth c D _ _ _ _ _ _ _ (v1.toList ++ _) w1) rfl ?_
  refine z_top (bI_f hx) ?_
  refine z_iconst (v := 1) hC dX5_copies_5 (by decide) ?_
  refine z_iconst (v := 1) hC dX5_copies_6 (by decide) ?_
  refine z_callV [0, 1, 2, 3] 0 5 hC (c_X5_goes l D ct q κ 0 1 1 1 rfl) bw_143 bw_144 bw_145 bw_5 bw_146 3 (by decide +kernel) rfl rfl rfl rfl rfl ⟨Nat.le_of_ble_eq_true rfl, Nat.le_of_ble_eq_true rfl⟩ (Nat.le_of_ble_eq_true rfl) ⟨Nat.le_of_ble_eq_true rfl, Nat.le_of_ble_eq_true rfl⟩ rfl dX5_copies_7 ?_
  refine zkd (G := fun v1 w1 => zG p l e _ s m args below meth c D _ _ _ _ _ _ _ (v1.toList ++ _) w1) (w2 := cM q (u2 κ 0 2 1) ct) cM_all ?_
  obtain ⟨κ1, eκ1⟩ : ∃ zz_, zz_ = (u2 κ 0 2 1) := ⟨_, rfl⟩
  rw [← eκ1]
  refine z_top (y := 0) (by decide) ?_
  refine z_if_ne hC 15 dX5_copies_10 (by decide) (fun cn2 => absurd cn2 (by decide)) (fun cn2 => ?_)
  refine z_iconst (v := 0) hC dX5_copies_13 (by decide) ?_
  exact z_iretd hC hr dX5_copies_14 (Nat.zero_le _) (Nat.zero_le _) (by subst eκ1; rfl) (by subst eκ1; rfl) cM_adr

set_option maxRecDepth 100000 in
set_option maxHeartbeats 1000000 in
theorem c_X5_count_ok (l : Launch) (D : va_G) (ct : Nat → ClassId) (q : Nat → Nat) (κ : Nat → Nat → Int32) (k : Nat) (hk5 : k ≤ 5) (hk : mIn (nI k) 0 5 = true) : zT l D ct yX5_count cX5_count 2 (some .int) 1 23 0 0 [.ref (q 0), .int (nI k)] (cM q κ ct) (zd (some (.int (κ 1 (13 + k)))) (cM q (u2 κ 0 2 0) ct)) := by
  refine zT_of ([some (.ref (q 0)), some (.int (nI k))]) (by decide +kernel) rfl (Nat.le_of_ble_eq_true rfl) ?_
  intro p e s m args below meth c hC hr hnm
  refine z_aload_n hC dX5_count_0 rfl ?_
  refine z_iload_n hC dX5_count_1 rfl ?_
  refine z_iconst (v := 0) hC dX5_count_2 (by decide) ?_
  refine z_iconst (v := 5) hC dX5_count_3 (by decide) ?_
  refine z_callS [] hC (c_X5_in l D ct (nI k) 0 5) bw_140 bw_141 bw_5 bw_142 3 (by decide +kernel) rfl rfl rfl ⟨Nat.le_of_ble_eq_true rfl, Nat.le_of_ble_eq_true rfl⟩ (Nat.le_of_ble_eq_true rfl) ⟨Nat.le_of_ble_eq_true rfl, Nat.le_of_ble_eq_true rfl⟩ rfl dX5_count_4 ?_
  refine zkq (G := fun v1 w1 => zG p l e _ s m args below meth c D _ _ _ _ _ _ _ (v1.toList ++ _) w1) rfl ?_
  refine z_top (bI_t hk) ?_
  refine z_iconst (v := 1) hC dX5_count_7 (by decide) ?_
  refine z_iconst (v := 1) hC dX5_count_8 (by decide) ?_
  refine z_callV [0, 1, 2, 3] 0 5 hC (c_X5_goes l D ct q κ 1 1 1 0 rfl) bw_143 bw_144 bw_145 bw_5 bw_146 3 (by decide +kernel) rfl rfl rfl rfl rfl ⟨Nat.le_of_ble_eq_true rfl, Nat.le_of_ble_eq_true rfl⟩ (Nat.le_of_ble_eq_true rfl) ⟨Nat.le_of_ble_eq_true rfl, Nat.le_of_ble_eq_true rfl⟩ rfl dX5_count_9 ?_
  refine zkd (G := fun v1 w1 => zG p l e _ s m args below meth c D _ _ _ _ _ _ _ (v1.toList ++ _) w1) (w2 := cM q (u2 κ 0 2 0) ct) cM_all ?_
  obtain ⟨κ1, eκ1⟩ : ∃ zz_, zz_ = (u2 κ 0 2 0) := ⟨_, rfl⟩
  rw [← eκ1]
  refine z_top (y := 1) (by decide) ?_
  refine z_if_eq hC 27 dX5_count_12 (by decide) (fun cn2 => absurd cn2 (by decide)) (fun cn2 => ?_)
  refine z_aload_n hC dX5_count_15 rfl ?_
  refine z_get 0 0 hC bl_X5 (ci := 5) rfl (by decide) rfl bw_67 rfl rfl dX5_count_16 ?_
  refine z_bipush (v := 13) hC dX5_count_19 (by decide) ?_
  refine z_iload_n hC dX5_count_21 rfl ?_
  refine z_iaddN (13) (k) hC dX5_count_22 ?_
  refine z_ialdN (13 + k) 1 0 hC rfl rfl (by decide) (by omega) dX5_count_23 ?_
  refine z_goto hC 28 dX5_count_24 (by decide) ?_
  exact z_iretd hC hr dX5_count_28 (Nat.zero_le _) (Nat.zero_le _) (by subst eκ1; rfl) (by subst eκ1; rfl) cM_adr

set_option maxRecDepth 100000 in
set_option maxHeartbeats 1000000 in
theorem c_X5_count_no1 (l : Launch) (D : va_G) (ct : Nat → ClassId) (q : Nat → Nat) (κ : Nat → Nat → Int32) (k : Int32) (hx : mIn k 0 5 = false) : zT l D ct yX5_count cX5_count 2 (some .int) 1 23 0 0 [.ref (q 0), .int k] (cM q κ ct) (zd (some (.int 0)) (cM q (u2 κ 0 2 1) ct)) := by
  refine zT_of ([some (.ref (q 0)), some (.int k)]) (by decide +kernel) rfl (Nat.le_of_ble_eq_true rfl) ?_
  intro p e s m args below meth c hC hr hnm
  refine z_aload_n hC dX5_count_0 rfl ?_
  refine z_iload_n hC dX5_count_1 rfl ?_
  refine z_iconst (v := 0) hC dX5_count_2 (by decide) ?_
  refine z_iconst (v := 5) hC dX5_count_3 (by decide) ?_
  refine z_callS [] hC (c_X5_in l D ct k 0 5) bw_140 bw_141 bw_5 bw_142 3 (by decide +kernel) rfl rfl rfl ⟨Nat.le_of_ble_eq_true rfl, Nat.le_of_ble_eq_true rfl⟩ (Nat.le_of_ble_eq_true rfl) ⟨Nat.le_of_ble_eq_true rfl, Nat.le_of_ble_eq_true rfl⟩ rfl dX5_count_4 ?_
  refine zkq (G := fun v1 w1 => zG p l e _ s m args below meth c D _ _ _ _ _ _ _ (v1.toList ++ _) w1) rfl ?_
  refine z_top (bI_f hx) ?_
  refine z_iconst (v := 1) hC dX5_count_7 (by decide) ?_
  refine z_iconst (v := 1) hC dX5_count_8 (by decide) ?_
  refine z_callV [0, 1, 2, 3] 0 5 hC (c_X5_goes l D ct q κ 0 1 1 1 rfl) bw_143 bw_144 bw_145 bw_5 bw_146 3 (by decide +kernel) rfl rfl rfl rfl rfl ⟨Nat.le_of_ble_eq_true rfl, Nat.le_of_ble_eq_true rfl⟩ (Nat.le_of_ble_eq_true rfl) ⟨Nat.le_of_ble_eq_true rfl, Nat.le_of_ble_eq_true rfl⟩ rfl dX5_count_9 ?_
  refine zkd (G := fun v1 w1 => zG p l e _ s m args below meth c D _ _ _ _ _ _ _ (v1.toList ++ _) w1) (w2 := cM q (u2 κ 0 2 1) ct) cM_all ?_
  obtain ⟨κ1, eκ1⟩ : ∃ zz_, zz_ = (u2 κ 0 2 1) := ⟨_, rfl⟩
  rw [← eκ1]
  refine z_top (y := 0) (by decide) ?_
  refine z_if_eq hC 27 dX5_count_12 (by decide) (fun cn2 => ?_) (fun cn2 => absurd cn2 (by decide))
  refine z_iconst (v := 0) hC dX5_count_27 (by decide) ?_
  exact z_iretd hC hr dX5_count_28 (Nat.zero_le _) (Nat.zero_le _) (by subst eκ1; rfl) (by subst eκ1; rfl) cM_adr

set_option maxRecDepth 100000 in
set_option maxHeartbeats 1000000 in
theorem c_X5_time (l : Launch) (D : va_G) (ct : Nat → ClassId) (q : Nat → Nat) (κ : Nat → Nat → Int32)  : zT l D ct yX5_time cX5_time 1 (some .int) 0 0 0 0 [.ref (q 0)] (cM q κ ct) (zd (some (.int (κ 1 12))) (cM q (u2 κ 0 2 0) ct)) := by
  refine zT_of ([some (.ref (q 0))]) (by decide +kernel) rfl (Nat.le_of_ble_eq_true rfl) ?_
  intro p e s m args below meth c hC hr hnm
  refine z_aload_n hC dX5_time_0 rfl ?_
  refine z_iconst (v := 0) hC dX5_time_1 (by decide) ?_
  refine z_put (ci := 5) 0 4 hC bl_X5 tyX5_ok nmX5 rfl (by decide) rfl bw_147 rfl rfl rfl rfl (Nat.lt_of_lt_of_le (by decide) (Nat.le_refl 9)) dX5_time_2 (w2 := cM q (u2 κ 0 2 0) ct) cM_f2 ?_
  obtain ⟨κ1, eκ1⟩ : ∃ zz_, zz_ = u2 κ 0 2 0 := ⟨_, rfl⟩
  rw [← eκ1]
  refine z_aload_n hC dX5_time_5 rfl ?_
  refine z_get 0 0 hC bl_X5 (ci := 5) rfl (by decide) rfl bw_67 rfl rfl dX5_time_6 ?_
  refine z_bipush (v := 12) hC dX5_time_9 (by decide) ?_
  refine z_ialdN (12) 1 0 hC rfl rfl (by decide) (by omega) dX5_time_11 ?_
  exact z_iretd hC hr dX5_time_12 (Nat.zero_le _) (Nat.zero_le _) (by subst eκ1; rfl) (by subst eκ1; rfl) cM_adr

set_option maxRecDepth 100000 in
set_option maxHeartbeats 1000000 in
theorem c_X5_collected (l : Launch) (D : va_G) (ct : Nat → ClassId) (q : Nat → Nat) (κ : Nat → Nat → Int32)  : zT l D ct yX5_collected cX5_collected 1 (some .int) 0 0 0 0 [.ref (q 0)] (cM q κ ct) (zd (some (.int (κ 1 19))) (cM q (u2 κ 0 2 0) ct)) := by
  refine zT_of ([some (.ref (q 0))]) (by decide +kernel) rfl (Nat.le_of_ble_eq_true rfl) ?_
  intro p e s m args below meth c hC hr hnm
  refine z_aload_n hC dX5_collected_0 rfl ?_
  refine z_iconst (v := 0) hC dX5_collected_1 (by decide) ?_
  refine z_put (ci := 5) 0 4 hC bl_X5 tyX5_ok nmX5 rfl (by decide) rfl bw_147 rfl rfl rfl rfl (Nat.lt_of_lt_of_le (by decide) (Nat.le_refl 9)) dX5_collected_2 (w2 := cM q (u2 κ 0 2 0) ct) cM_f2 ?_
  obtain ⟨κ1, eκ1⟩ : ∃ zz_, zz_ = u2 κ 0 2 0 := ⟨_, rfl⟩
  rw [← eκ1]
  refine z_aload_n hC dX5_collected_5 rfl ?_
  refine z_get 0 0 hC bl_X5 (ci := 5) rfl (by decide) rfl bw_67 rfl rfl dX5_collected_6 ?_
  refine z_bipush (v := 19) hC dX5_collected_9 (by decide) ?_
  refine z_ialdN (19) 1 0 hC rfl rfl (by decide) (by omega) dX5_collected_11 ?_
  exact z_iretd hC hr dX5_collected_12 (Nat.zero_le _) (Nat.zero_le _) (by subst eκ1; rfl) (by subst eκ1; rfl) cM_adr

set_option maxRecDepth 100000 in
set_option maxHeartbeats 1000000 in
theorem c_X5_missing (l : Launch) (D : va_G) (ct : Nat → ClassId) (q : Nat → Nat) (κ : Nat → Nat → Int32)  : zT l D ct yX5_missing cX5_missing 1 (some .int) 0 0 0 0 [.ref (q 0)] (cM q κ ct) (zd (some (.int (κ 1 13 - κ 1 19))) (cM q (u2 κ 0 2 0) ct)) := by
  refine zT_of ([some (.ref (q 0))]) (by decide +kernel) rfl (Nat.le_of_ble_eq_true rfl) ?_
  intro p e s m args below meth c hC hr hnm
  refine z_aload_n hC dX5_missing_0 rfl ?_
  refine z_iconst (v := 0) hC dX5_missing_1 (by decide) ?_
  refine z_put (ci := 5) 0 4 hC bl_X5 tyX5_ok nmX5 rfl (by decide) rfl bw_147 rfl rfl rfl rfl (Nat.lt_of_lt_of_le (by decide) (Nat.le_refl 9)) dX5_missing_2 (w2 := cM q (u2 κ 0 2 0) ct) cM_f2 ?_
  obtain ⟨κ1, eκ1⟩ : ∃ zz_, zz_ = u2 κ 0 2 0 := ⟨_, rfl⟩
  rw [← eκ1]
  refine z_aload_n hC dX5_missing_5 rfl ?_
  refine z_get 0 0 hC bl_X5 (ci := 5) rfl (by decide) rfl bw_67 rfl rfl dX5_missing_6 ?_
  refine z_bipush (v := 13) hC dX5_missing_9 (by decide) ?_
  refine z_ialdN (13) 1 0 hC rfl rfl (by decide) (by omega) dX5_missing_11 ?_
  refine z_aload_n hC dX5_missing_12 rfl ?_
  refine z_get 0 0 hC bl_X5 (ci := 5) rfl (by decide) rfl bw_67 rfl rfl dX5_missing_13 ?_
  refine z_bipush (v := 19) hC dX5_missing_16 (by decide) ?_
  refine z_ialdN (19) 1 0 hC rfl rfl (by decide) (by omega) dX5_missing_18 ?_
  refine z_isub hC dX5_missing_19 ?_
  exact z_iretd hC hr dX5_missing_20 (Nat.zero_le _) (Nat.zero_le _) (by subst eκ1; rfl) (by subst eκ1; rfl) cM_adr

set_option maxRecDepth 100000 in
set_option maxHeartbeats 1000000 in
theorem c_X5_savedStates (l : Launch) (D : va_G) (ct : Nat → ClassId) (q : Nat → Nat) (κ : Nat → Nat → Int32)  : zT l D ct yX5_savedStates cX5_savedStates 1 (some .int) 0 0 0 0 [.ref (q 0)] (cM q κ ct) (zd (some (.int (κ 0 0))) (cM q (u2 κ 0 2 0) ct)) := by
  refine zT_of ([some (.ref (q 0))]) (by decide +kernel) rfl (Nat.le_of_ble_eq_true rfl) ?_
  intro p e s m args below meth c hC hr hnm
  refine z_aload_n hC dX5_savedStates_0 rfl ?_
  refine z_iconst (v := 0) hC dX5_savedStates_1 (by decide) ?_
  refine z_put (ci := 5) 0 4 hC bl_X5 tyX5_ok nmX5 rfl (by decide) rfl bw_147 rfl rfl rfl rfl (Nat.lt_of_lt_of_le (by decide) (Nat.le_refl 9)) dX5_savedStates_2 (w2 := cM q (u2 κ 0 2 0) ct) cM_f2 ?_
  obtain ⟨κ1, eκ1⟩ : ∃ zz_, zz_ = u2 κ 0 2 0 := ⟨_, rfl⟩
  rw [← eκ1]
  refine z_aload_n hC dX5_savedStates_5 rfl ?_
  refine z_get 0 1 hC bl_X5 (ci := 5) rfl (by decide) rfl bw_152 rfl rfl dX5_savedStates_6 ?_
  exact z_iretd hC hr dX5_savedStates_9 (Nat.zero_le _) (Nat.zero_le _) (by subst eκ1; rfl) (by subst eκ1; rfl) cM_adr

set_option maxRecDepth 100000 in
set_option maxHeartbeats 1000000 in
theorem c_X5_textLength (l : Launch) (D : va_G) (ct : Nat → ClassId) (q : Nat → Nat) (κ : Nat → Nat → Int32)  : zT l D ct yX5_textLength cX5_textLength 1 (some .int) 0 0 0 0 [.ref (q 0)] (cM q κ ct) (zd (some (.int (κ 0 1))) (cM q (u2 κ 0 2 0) ct)) := by
  refine zT_of ([some (.ref (q 0))]) (by decide +kernel) rfl (Nat.le_of_ble_eq_true rfl) ?_
  intro p e s m args below meth c hC hr hnm
  refine z_aload_n hC dX5_textLength_0 rfl ?_
  refine z_iconst (v := 0) hC dX5_textLength_1 (by decide) ?_
  refine z_put (ci := 5) 0 4 hC bl_X5 tyX5_ok nmX5 rfl (by decide) rfl bw_147 rfl rfl rfl rfl (Nat.lt_of_lt_of_le (by decide) (Nat.le_refl 9)) dX5_textLength_2 (w2 := cM q (u2 κ 0 2 0) ct) cM_f2 ?_
  obtain ⟨κ1, eκ1⟩ : ∃ zz_, zz_ = u2 κ 0 2 0 := ⟨_, rfl⟩
  rw [← eκ1]
  refine z_aload_n hC dX5_textLength_5 rfl ?_
  refine z_get 0 3 hC bl_X5 (ci := 5) rfl (by decide) rfl bw_432 rfl rfl dX5_textLength_6 ?_
  exact z_iretd hC hr dX5_textLength_9 (Nat.zero_le _) (Nat.zero_le _) (by subst eκ1; rfl) (by subst eκ1; rfl) cM_adr

set_option maxRecDepth 100000 in
set_option maxHeartbeats 1000000 in
theorem c_X5_clearText (l : Launch) (D : va_G) (ct : Nat → ClassId) (q : Nat → Nat) (κ : Nat → Nat → Int32)  : zT l D ct yX5_clearText cX5_clearText 2 (some .int) 0 0 0 0 [.ref (q 0)] (cM q κ ct) (zd (some (.int (κ 0 1))) (cM q (u2 (u2 κ 0 2 0) 0 1 0) ct)) := by
  refine zT_of ([some (.ref (q 0)), none]) (by decide +kernel) rfl (Nat.le_of_ble_eq_true rfl) ?_
  intro p e s m args below meth c hC hr hnm
  refine z_aload_n hC dX5_clearText_0 rfl ?_
  refine z_iconst (v := 0) hC dX5_clearText_1 (by decide) ?_
  refine z_put (ci := 5) 0 4 hC bl_X5 tyX5_ok nmX5 rfl (by decide) rfl bw_147 rfl rfl rfl rfl (Nat.lt_of_lt_of_le (by decide) (Nat.le_refl 9)) dX5_clearText_2 (w2 := cM q (u2 κ 0 2 0) ct) cM_f2 ?_
  obtain ⟨κ1, eκ1⟩ : ∃ zz_, zz_ = u2 κ 0 2 0 := ⟨_, rfl⟩
  rw [← eκ1]
  refine z_aload_n hC dX5_clearText_5 rfl ?_
  refine z_get 0 3 hC bl_X5 (ci := 5) rfl (by decide) rfl bw_432 rfl rfl dX5_clearText_6 ?_
  refine z_istore_n hC dX5_clearText_9 (by decide) rfl ?_
  refine z_aload_n hC dX5_clearText_10 rfl ?_
  refine z_iconst (v := 0) hC dX5_clearText_11 (by decide) ?_
  refine z_put (ci := 5) 0 3 hC bl_X5 tyX5_ok nmX5 rfl (by decide) rfl bw_432 rfl rfl rfl rfl (Nat.lt_of_lt_of_le (by decide) (Nat.le_refl 9)) dX5_clearText_12 (w2 := cM q (u2 κ1 0 1 0) ct) cM_f1 ?_
  obtain ⟨κ2, eκ2⟩ : ∃ zz_, zz_ = u2 κ1 0 1 0 := ⟨_, rfl⟩
  rw [← eκ2]
  refine z_iload_n hC dX5_clearText_15 rfl ?_
  exact z_iretd hC hr dX5_clearText_16 (Nat.zero_le _) (Nat.zero_le _) (by subst eκ2; subst eκ1; rfl) (by subst eκ2; subst eκ1; rfl) cM_adr

set_option maxRecDepth 100000 in
set_option maxHeartbeats 1000000 in
theorem c_X5_appendText_ok (l : Launch) (D : va_G) (ct : Nat → ClassId) (q : Nat → Nat) (κ : Nat → Nat → Int32) (v : Int32) (hv : mIn v 32 126 = true) (t : Nat) (ht : κ 0 1 = nI t) (ht8 : t < 80) : zT l D ct yX5_appendText cX5_appendText 2 (some .int) 1 23 0 0 [.ref (q 0), .int v] (cM q κ ct) (zd (some (.int (nI (t + 1)))) (cM q (u2 (u2 (u2 κ 0 2 0) 2 t (vp_nar .char ((v.toUInt32 % 65536).toInt32))) 0 1 (nI (t + 1))) ct)) := by
  refine zT_of ([some (.ref (q 0)), some (.int v)]) (by decide +kernel) rfl (Nat.le_of_ble_eq_true rfl) ?_
  intro p e s m args below meth c hC hr hnm
  refine z_aload_n hC dX5_appendText_0 rfl ?_
  refine z_iload_n hC dX5_appendText_1 rfl ?_
  refine z_bipush (v := 32) hC dX5_appendText_2 (by decide) ?_
  refine z_bipush (v := 126) hC dX5_appendText_4 (by decide) ?_
  refine z_callS [] hC (c_X5_in l D ct v 32 126) bw_140 bw_141 bw_5 bw_142 3 (by decide +kernel) rfl rfl rfl ⟨Nat.le_of_ble_eq_true rfl, Nat.le_of_ble_eq_true rfl⟩ (Nat.le_of_ble_eq_true rfl) ⟨Nat.le_of_ble_eq_true rfl, Nat.le_of_ble_eq_true rfl⟩ rfl dX5_appendText_6 ?_
  refine zkq (G := fun v1 w1 => zG p l e _ s m args below meth c D _ _ _ _ _ _ _ (v1.toList ++ _) w1) rfl ?_
  refine z_top (bI_t hv) ?_
  refine z_aload_n hC dX5_appendText_9 rfl ?_
  refine z_get 0 3 hC bl_X5 (ci := 5) rfl (by decide) rfl bw_432 rfl rfl dX5_appendText_10 ?_
  refine z_top (y := nI (t)) (ht) ?_
  refine z_bipush (v := 80) hC dX5_appendText_13 (by decide) ?_
  refine z_icmp_ge hC 22 dX5_appendText_15 (by decide) (fun c15 => (by have hh := (nI_leI (a := 80) (b := t) (by omega) (by omega)).mp c15; omega)) (fun c15 => ?_)
  replace c15 := (nI_nleI (a := 80) (b := t) (by omega) (by omega)).mp c15
  refine z_iconst (v := 1) hC dX5_appendText_18 (by decide) ?_
  refine z_goto hC 23 dX5_appendText_19 (by decide) ?_
  refine z_iconst (v := 1) hC dX5_appendText_23 (by decide) ?_
  refine z_callV [0, 1, 2, 3] 0 5 hC (c_X5_goes l D ct q κ 1 1 1 0 rfl) bw_143 bw_144 bw_145 bw_5 bw_146 3 (by decide +kernel) rfl rfl rfl rfl rfl ⟨Nat.le_of_ble_eq_true rfl, Nat.le_of_ble_eq_true rfl⟩ (Nat.le_of_ble_eq_true rfl) ⟨Nat.le_of_ble_eq_true rfl, Nat.le_of_ble_eq_true rfl⟩ rfl dX5_appendText_24 ?_
  refine zkd (G := fun v1 w1 => zG p l e _ s m args below meth c D _ _ _ _ _ _ _ (v1.toList ++ _) w1) (w2 := cM q (u2 κ 0 2 0) ct) cM_all ?_
  obtain ⟨κ1, eκ1⟩ : ∃ zz_, zz_ = (u2 κ 0 2 0) := ⟨_, rfl⟩
  rw [← eκ1]
  refine z_top (y := 1) (by decide) ?_
  refine z_if_ne hC 32 dX5_appendText_27 (by decide) (fun cn2 => ?_) (fun cn2 => absurd cn2 (by decide))
  refine z_aload_n hC dX5_appendText_32 rfl ?_
  refine z_get 0 2 hC bl_X5 (ci := 5) rfl (by decide) rfl bw_68 rfl rfl dX5_appendText_33 ?_
  refine z_aload_n hC dX5_appendText_36 rfl ?_
  refine z_get 0 3 hC bl_X5 (ci := 5) rfl (by decide) rfl bw_432 rfl rfl dX5_appendText_37 ?_
  refine z_top (y := nI (t)) (by subst eκ1; exact ht) ?_
  refine z_iload_n hC dX5_appendText_40 rfl ?_
  refine z_i2c hC dX5_appendText_41 ?_
  refine z_castN (t) 2 2 hC rfl rfl (by decide) (by omega) dX5_appendText_42 (w2 := cM q (u2 κ1 2 t (vp_nar .char (((v).toUInt32 % 65536).toInt32))) ct) cM_a2 ?_
  obtain ⟨κ3, eκ3⟩ : ∃ zz_, zz_ = u2 κ1 2 t (vp_nar .char (((v).toUInt32 % 65536).toInt32)) := ⟨_, rfl⟩
  rw [← eκ3]
  refine z_aload_n hC dX5_appendText_43 rfl ?_
  refine z_dup hC dX5_appendText_44 rfl ?_
  refine z_get 0 3 hC bl_X5 (ci := 5) rfl (by decide) rfl bw_432 rfl rfl dX5_appendText_45 ?_
  refine z_top (y := nI (t)) (by subst eκ3; subst eκ1; exact ht) ?_
  refine z_iconst (v := 1) hC dX5_appendText_48 (by decide) ?_
  refine z_iaddN (t) (1) hC dX5_appendText_49 ?_
  refine z_put (ci := 5) 0 3 hC bl_X5 tyX5_ok nmX5 rfl (by decide) rfl bw_432 rfl rfl rfl rfl (Nat.lt_of_lt_of_le (by decide) (Nat.le_refl 9)) dX5_appendText_50 (w2 := cM q (u2 κ3 0 1 (nI (t + 1))) ct) cM_f1 ?_
  obtain ⟨κ4, eκ4⟩ : ∃ zz_, zz_ = u2 κ3 0 1 (nI (t + 1)) := ⟨_, rfl⟩
  rw [← eκ4]
  refine z_aload_n hC dX5_appendText_53 rfl ?_
  refine z_get 0 3 hC bl_X5 (ci := 5) rfl (by decide) rfl bw_432 rfl rfl dX5_appendText_54 ?_
  refine z_top (y := nI (t + 1)) (by subst eκ4; subst eκ3; subst eκ1; exact u2_at) ?_
  exact z_iretd hC hr dX5_appendText_57 (Nat.zero_le _) (Nat.zero_le _) (by subst eκ4; subst eκ3; subst eκ1; rfl) (by subst eκ4; subst eκ3; subst eκ1; rfl) cM_adr

set_option maxRecDepth 100000 in
set_option maxHeartbeats 1000000 in
theorem c_X5_appendText_no1 (l : Launch) (D : va_G) (ct : Nat → ClassId) (q : Nat → Nat) (κ : Nat → Nat → Int32) (v : Int32) (hx : mIn v 32 126 = false) : zT l D ct yX5_appendText cX5_appendText 2 (some .int) 1 23 0 0 [.ref (q 0), .int v] (cM q κ ct) (zd (some (.int 0)) (cM q (u2 κ 0 2 1) ct)) := by
  refine zT_of ([some (.ref (q 0)), some (.int v)]) (by decide +kernel) rfl (Nat.le_of_ble_eq_true rfl) ?_
  intro p e s m args below meth c hC hr hnm
  refine z_aload_n hC dX5_appendText_0 rfl ?_
  refine z_iload_n hC dX5_appendText_1 rfl ?_
  refine z_bipush (v := 32) hC dX5_appendText_2 (by decide) ?_
  refine z_bipush (v := 126) hC dX5_appendText_4 (by decide) ?_
  refine z_callS [] hC (c_X5_in l D ct v 32 126) bw_140 bw_141 bw_5 bw_142 3 (by decide +kernel) rfl rfl rfl ⟨Nat.le_of_ble_eq_true rfl, Nat.le_of_ble_eq_true rfl⟩ (Nat.le_of_ble_eq_true rfl) ⟨Nat.le_of_ble_eq_true rfl, Nat.le_of_ble_eq_true rfl⟩ rfl dX5_appendText_6 ?_
  refine zkq (G := fun v1 w1 => zG p l e _ s m args below meth c D _ _ _ _ _ _ _ (v1.toList ++ _) w1) rfl ?_
  refine z_top (bI_f hx) ?_
  refine z_aload_n hC dX5_appendText_9 rfl ?_
  refine z_get 0 3 hC bl_X5 (ci := 5) rfl (by decide) rfl bw_432 rfl rfl dX5_appendText_10 ?_
  refine z_bipush (v := 80) hC dX5_appendText_13 (by decide) ?_
  refine z_icmp_ge hC 22 dX5_appendText_15 (by decide) (fun c15 => ?_) (fun c15 => ?_)
  · refine z_iconst (v := 0) hC dX5_appendText_22 (by decide) ?_
    refine z_iconst (v := 1) hC dX5_appendText_23 (by decide) ?_
    refine z_callV [0, 1, 2, 3] 0 5 hC (c_X5_goes l D ct q κ 0 0 1 1 (if_pos rfl)) bw_143 bw_144 bw_145 bw_5 bw_146 3 (by decide +kernel) rfl rfl rfl rfl rfl ⟨Nat.le_of_ble_eq_true rfl, Nat.le_of_ble_eq_true rfl⟩ (Nat.le_of_ble_eq_true rfl) ⟨Nat.le_of_ble_eq_true rfl, Nat.le_of_ble_eq_true rfl⟩ rfl dX5_appendText_24 ?_
    refine zkd (G := fun v1 w1 => zG p l e _ s m args below meth c D _ _ _ _ _ _ _ (v1.toList ++ _) w1) (w2 := cM q (u2 κ 0 2 1) ct) cM_all ?_
    obtain ⟨κ1, eκ1⟩ : ∃ zz_, zz_ = (u2 κ 0 2 1) := ⟨_, rfl⟩
    rw [← eκ1]
    refine z_top (y := 0) (by decide) ?_
    refine z_if_ne hC 32 dX5_appendText_27 (by decide) (fun cn2 => absurd cn2 (by decide)) (fun cn2 => ?_)
    refine z_iconst (v := 0) hC dX5_appendText_30 (by decide) ?_
    exact z_iretd hC hr dX5_appendText_31 (Nat.zero_le _) (Nat.zero_le _) (by subst eκ1; rfl) (by subst eκ1; rfl) cM_adr
  · refine z_iconst (v := 1) hC dX5_appendText_18 (by decide) ?_
    refine z_goto hC 23 dX5_appendText_19 (by decide) ?_
    refine z_iconst (v := 1) hC dX5_appendText_23 (by decide) ?_
    refine z_callV [0, 1, 2, 3] 0 5 hC (c_X5_goes l D ct q κ 0 1 1 1 (if_pos rfl)) bw_143 bw_144 bw_145 bw_5 bw_146 3 (by decide +kernel) rfl rfl rfl rfl rfl ⟨Nat.le_of_ble_eq_true rfl, Nat.le_of_ble_eq_true rfl⟩ (Nat.le_of_ble_eq_true rfl) ⟨Nat.le_of_ble_eq_true rfl, Nat.le_of_ble_eq_true rfl⟩ rfl dX5_appendText_24 ?_
    refine zkd (G := fun v1 w1 => zG p l e _ s m args below meth c D _ _ _ _ _ _ _ (v1.toList ++ _) w1) (w2 := cM q (u2 κ 0 2 1) ct) cM_all ?_
    obtain ⟨κ3, eκ3⟩ : ∃ zz_, zz_ = (u2 κ 0 2 1) := ⟨_, rfl⟩
    rw [← eκ3]
    refine z_top (y := 0) (by decide) ?_
    refine z_if_ne hC 32 dX5_appendText_27 (by decide) (fun cn4 => absurd cn4 (by decide)) (fun cn4 => ?_)
    refine z_iconst (v := 0) hC dX5_appendText_30 (by decide) ?_
    exact z_iretd hC hr dX5_appendText_31 (Nat.zero_le _) (Nat.zero_le _) (by subst eκ3; rfl) (by subst eκ3; rfl) cM_adr

set_option maxRecDepth 100000 in
set_option maxHeartbeats 1000000 in
theorem c_X5_appendText_no2 (l : Launch) (D : va_G) (ct : Nat → ClassId) (q : Nat → Nat) (κ : Nat → Nat → Int32) (v : Int32) (hv : mIn v 32 126 = true) (ht : κ 0 1 = nI 80) : zT l D ct yX5_appendText cX5_appendText 2 (some .int) 1 23 0 0 [.ref (q 0), .int v] (cM q κ ct) (zd (some (.int 0)) (cM q (u2 κ 0 2 2) ct)) := by
  refine zT_of ([some (.ref (q 0)), some (.int v)]) (by decide +kernel) rfl (Nat.le_of_ble_eq_true rfl) ?_
  intro p e s m args below meth c hC hr hnm
  refine z_aload_n hC dX5_appendText_0 rfl ?_
  refine z_iload_n hC dX5_appendText_1 rfl ?_
  refine z_bipush (v := 32) hC dX5_appendText_2 (by decide) ?_
  refine z_bipush (v := 126) hC dX5_appendText_4 (by decide) ?_
  refine z_callS [] hC (c_X5_in l D ct v 32 126) bw_140 bw_141 bw_5 bw_142 3 (by decide +kernel) rfl rfl rfl ⟨Nat.le_of_ble_eq_true rfl, Nat.le_of_ble_eq_true rfl⟩ (Nat.le_of_ble_eq_true rfl) ⟨Nat.le_of_ble_eq_true rfl, Nat.le_of_ble_eq_true rfl⟩ rfl dX5_appendText_6 ?_
  refine zkq (G := fun v1 w1 => zG p l e _ s m args below meth c D _ _ _ _ _ _ _ (v1.toList ++ _) w1) rfl ?_
  refine z_top (bI_t hv) ?_
  refine z_aload_n hC dX5_appendText_9 rfl ?_
  refine z_get 0 3 hC bl_X5 (ci := 5) rfl (by decide) rfl bw_432 rfl rfl dX5_appendText_10 ?_
  refine z_top (y := nI (80)) (ht) ?_
  refine z_bipush (v := 80) hC dX5_appendText_13 (by decide) ?_
  refine z_icmp_ge hC 22 dX5_appendText_15 (by decide) (fun c15 => ?_) (fun c15 => (by have hh := (nI_nleI (a := 80) (b := 80) (by omega) (by omega)).mp c15; omega))
  replace c15 := (nI_leI (a := 80) (b := 80) (by omega) (by omega)).mp c15
  refine z_iconst (v := 0) hC dX5_appendText_22 (by decide) ?_
  refine z_iconst (v := 1) hC dX5_appendText_23 (by decide) ?_
  refine z_callV [0, 1, 2, 3] 0 5 hC (c_X5_goes l D ct q κ 1 0 1 2 rfl) bw_143 bw_144 bw_145 bw_5 bw_146 3 (by decide +kernel) rfl rfl rfl rfl rfl ⟨Nat.le_of_ble_eq_true rfl, Nat.le_of_ble_eq_true rfl⟩ (Nat.le_of_ble_eq_true rfl) ⟨Nat.le_of_ble_eq_true rfl, Nat.le_of_ble_eq_true rfl⟩ rfl dX5_appendText_24 ?_
  refine zkd (G := fun v1 w1 => zG p l e _ s m args below meth c D _ _ _ _ _ _ _ (v1.toList ++ _) w1) (w2 := cM q (u2 κ 0 2 2) ct) cM_all ?_
  obtain ⟨κ1, eκ1⟩ : ∃ zz_, zz_ = (u2 κ 0 2 2) := ⟨_, rfl⟩
  rw [← eκ1]
  refine z_top (y := 0) (by decide) ?_
  refine z_if_ne hC 32 dX5_appendText_27 (by decide) (fun cn2 => absurd cn2 (by decide)) (fun cn2 => ?_)
  refine z_iconst (v := 0) hC dX5_appendText_30 (by decide) ?_
  exact z_iretd hC hr dX5_appendText_31 (Nat.zero_le _) (Nat.zero_le _) (by subst eκ1; rfl) (by subst eκ1; rfl) cM_adr

set_option maxRecDepth 100000 in
set_option maxHeartbeats 1000000 in
theorem c_X5_wrongStamps (l : Launch) (D : va_G) (ct : Nat → ClassId) (q : Nat → Nat) (κ : Nat → Nat → Int32) (hC0 : okC κ 0) : zT l D ct yX5_wrongStamps cX5_wrongStamps 3 (some .int) 1 21 0 0 [.ref (q 0)] (cM q κ ct) (zd (some (.int (mdWrong (u2 κ 0 2 0)))) (cM q (u2 κ 0 2 0) ct)) := by
  refine zT_of ([some (.ref (q 0)), none, none]) (by decide +kernel) rfl (Nat.le_of_ble_eq_true rfl) ?_
  intro p e s m args below meth c hC hr hnm
  have hC6 := hC0.2
  refine z_aload_n hC dX5_wrongStamps_0 rfl ?_
  refine z_iconst (v := 0) hC dX5_wrongStamps_1 (by decide) ?_
  refine z_put (ci := 5) 0 4 hC bl_X5 tyX5_ok nmX5 rfl (by decide) rfl bw_147 rfl rfl rfl rfl (Nat.lt_of_lt_of_le (by decide) (Nat.le_refl 9)) dX5_wrongStamps_2 (w2 := cM q (u2 κ 0 2 0) ct) cM_f2 ?_
  obtain ⟨κ1, eκ1⟩ : ∃ zz_, zz_ = u2 κ 0 2 0 := ⟨_, rfl⟩
  rw [← eκ1]
  subst eκ1
  refine z_iconst (v := 0) hC dX5_wrongStamps_5 (by decide) ?_
  refine z_istore_n hC dX5_wrongStamps_6 (by decide) rfl ?_
  refine z_iconst (v := 0) hC dX5_wrongStamps_7 (by decide) ?_
  refine z_istore_n hC dX5_wrongStamps_8 (by decide) rfl ?_
  have loop9 : ∀ (kf k : Nat) (a : Int32) (hki : kf + k = mdC κ 0) (hF : kfor (mdWrong1 (u2 κ 0 2 0)) kf k a = mdWrong (u2 κ 0 2 0)), zG p l e { frames := 1, cells := 0, slots := 0, locals := 21 } s m args below meth c D (va_A (cM q κ ct) s.heap.size) 3 (MQ below (zQ D ct (cM q κ ct) s.heap.size (zd (some (.int (mdWrong (u2 κ 0 2 0)))) (cM q (u2 κ 0 2 0) ct))) args s 0 0 (va_A (cM q κ ct) s.heap.size)) 0 0 9 [some (.ref (q 0)), some (.int a), some (.int (nI k))] [] (cM q (u2 κ 0 2 0) ct) := by
    intro kf
    induction kf with
    | zero =>
      intro k a hki hF
      refine z_iload_n hC dX5_wrongStamps_9 rfl ?_
      refine z_aload_n hC dX5_wrongStamps_10 rfl ?_
      refine z_get 0 0 hC bl_X5 (ci := 5) rfl (by decide) rfl bw_67 rfl rfl dX5_wrongStamps_11 ?_
      refine z_bipush (v := 19) hC dX5_wrongStamps_14 (by decide) ?_
      refine z_ialdN (19) 1 0 hC rfl rfl (by decide) (by omega) dX5_wrongStamps_16 ?_
      refine z_top (y := nI (mdC κ 0)) (hC0.1) ?_
      refine z_icmp_ge hC 61 dX5_wrongStamps_17 (by decide) (fun c17 => ?_) (fun c17 => (by have hh := (nI_nleI (a := mdC κ 0) (b := k) (by omega) (by omega)).mp c17; omega))
      replace c17 := (nI_leI (a := mdC κ 0) (b := k) (by omega) (by omega)).mp c17
      refine z_iload_n hC dX5_wrongStamps_61 rfl ?_
      exact z_iretd hC hr dX5_wrongStamps_62 (Nat.zero_le _) (Nat.zero_le _) (hF) (rfl) cM_adr
    | succ kf ih =>
      intro k a hki hF
      refine z_iload_n hC dX5_wrongStamps_9 rfl ?_
      refine z_aload_n hC dX5_wrongStamps_10 rfl ?_
      refine z_get 0 0 hC bl_X5 (ci := 5) rfl (by decide) rfl bw_67 rfl rfl dX5_wrongStamps_11 ?_
      refine z_bipush (v := 19) hC dX5_wrongStamps_14 (by decide) ?_
      refine z_ialdN (19) 1 0 hC rfl rfl (by decide) (by omega) dX5_wrongStamps_16 ?_
      refine z_top (y := nI (mdC κ 0)) (hC0.1) ?_
      refine z_icmp_ge hC 61 dX5_wrongStamps_17 (by decide) (fun c17 => (by have hh := (nI_leI (a := mdC κ 0) (b := k) (by omega) (by omega)).mp c17; omega)) (fun c17 => ?_)
      replace c17 := (nI_nleI (a := mdC κ 0) (b := k) (by omega) (by omega)).mp c17
      refine z_iload_n hC dX5_wrongStamps_20 rfl ?_
      refine z_aload_n hC dX5_wrongStamps_21 rfl ?_
      refine z_get 0 0 hC bl_X5 (ci := 5) rfl (by decide) rfl bw_67 rfl rfl dX5_wrongStamps_22 ?_
      refine z_iconst (v := 0) hC dX5_wrongStamps_25 (by decide) ?_
      refine z_iload_n hC dX5_wrongStamps_26 rfl ?_
      refine z_callS [] hC (c_X5_listAt l D ct 0 k) bw_395 bw_396 bw_5 bw_397 2 (by decide +kernel) rfl rfl rfl ⟨Nat.le_of_ble_eq_true rfl, Nat.le_of_ble_eq_true rfl⟩ (Nat.le_of_ble_eq_true rfl) ⟨Nat.le_of_ble_eq_true rfl, Nat.le_of_ble_eq_true rfl⟩ rfl dX5_wrongStamps_27 ?_
      refine zkq (G := fun v1 w1 => zG p l e _ s m args below meth c D _ _ _ _ _ _ _ (v1.toList ++ _) w1) rfl ?_
      refine z_iconst (v := 4) hC dX5_wrongStamps_30 (by decide) ?_
      refine z_iaddN (0 + 390 + 5 * k) (4) hC dX5_wrongStamps_31 ?_
      refine z_ialdN (0 + 390 + 5 * k + 4) 1 0 hC rfl rfl (by decide) (by omega) dX5_wrongStamps_32 ?_
      refine z_aload_n hC dX5_wrongStamps_33 rfl ?_
      refine z_get 0 0 hC bl_X5 (ci := 5) rfl (by decide) rfl bw_67 rfl rfl dX5_wrongStamps_34 ?_
      refine z_iconst (v := 0) hC dX5_wrongStamps_37 (by decide) ?_
      refine z_iload_n hC dX5_wrongStamps_38 rfl ?_
      refine z_callS [] hC (c_X5_listAt l D ct 0 k) bw_395 bw_396 bw_5 bw_397 2 (by decide +kernel) rfl rfl rfl ⟨Nat.le_of_ble_eq_true rfl, Nat.le_of_ble_eq_true rfl⟩ (Nat.le_of_ble_eq_true rfl) ⟨Nat.le_of_ble_eq_true rfl, Nat.le_of_ble_eq_true rfl⟩ rfl dX5_wrongStamps_39 ?_
      refine zkq (G := fun v1 w1 => zG p l e _ s m args below meth c D _ _ _ _ _ _ _ (v1.toList ++ _) w1) rfl ?_
      refine z_iconst (v := 3) hC dX5_wrongStamps_42 (by decide) ?_
      refine z_iaddN (0 + 390 + 5 * k) (3) hC dX5_wrongStamps_43 ?_
      refine z_ialdN (0 + 390 + 5 * k + 3) 1 0 hC rfl rfl (by decide) (by omega) dX5_wrongStamps_44 ?_
      refine z_icmp_eq hC 52 dX5_wrongStamps_45 (by decide) (fun c45 => ?_) (fun c45 => ?_)
      · refine z_iconst (v := 0) hC dX5_wrongStamps_52 (by decide) ?_
        refine z_iadd hC dX5_wrongStamps_53 ?_
        refine z_istore_n hC dX5_wrongStamps_54 (by decide) rfl ?_
        refine z_iincN (k) hC dX5_wrongStamps_55 (by decide) rfl rfl ?_
        refine z_goto hC 9 dX5_wrongStamps_58 (by decide) ?_
        exact ih (k + 1) (a + 0) (by omega) (by rw [← hF]; exact congrArg (kfor (mdWrong1 (u2 κ 0 2 0)) kf (k + 1)) (by simp [mdWrong1, c17, c45]))
      · refine z_iconst (v := 1) hC dX5_wrongStamps_48 (by decide) ?_
        refine z_goto hC 53 dX5_wrongStamps_49 (by decide) ?_
        refine z_iadd hC dX5_wrongStamps_53 ?_
        refine z_istore_n hC dX5_wrongStamps_54 (by decide) rfl ?_
        refine z_iincN (k) hC dX5_wrongStamps_55 (by decide) rfl rfl ?_
        refine z_goto hC 9 dX5_wrongStamps_58 (by decide) ?_
        exact ih (k + 1) (a + 1) (by omega) (by rw [← hF]; exact congrArg (kfor (mdWrong1 (u2 κ 0 2 0)) kf (k + 1)) (by simp [mdWrong1, c17, c45]))
  exact loop9 (mdC κ 0) 0 0 (Nat.add_zero _) rfl

set_option maxRecDepth 100000 in
set_option maxHeartbeats 1000000 in
theorem c_X5_joined (l : Launch) (D : va_G) (ct : Nat → ClassId) (q : Nat → Nat) (κ : Nat → Nat → Int32) : zT l D ct yX5_joined cX5_joined 3 (some .double) 1 21 0 0 [.ref (q 0)] (cM q κ ct) (zd (some (.double (mDiv (mdJoined (u2 κ 0 2 0))))) (cM q (u2 κ 0 2 0) ct)) := by
  refine zT_of ([some (.ref (q 0)), none, none]) (by decide +kernel) rfl (Nat.le_of_ble_eq_true rfl) ?_
  intro p e s m args below meth c hC hr hnm
  refine z_aload_n hC dX5_joined_0 rfl ?_
  refine z_iconst (v := 0) hC dX5_joined_1 (by decide) ?_
  refine z_put (ci := 5) 0 4 hC bl_X5 tyX5_ok nmX5 rfl (by decide) rfl bw_147 rfl rfl rfl rfl (Nat.lt_of_lt_of_le (by decide) (Nat.le_refl 9)) dX5_joined_2 (w2 := cM q (u2 κ 0 2 0) ct) cM_f2 ?_
  obtain ⟨κ1, eκ1⟩ : ∃ zz_, zz_ = u2 κ 0 2 0 := ⟨_, rfl⟩
  rw [← eκ1]
  subst eκ1
  refine z_iconst (v := 0) hC dX5_joined_5 (by decide) ?_
  refine z_istore_n hC dX5_joined_6 (by decide) rfl ?_
  refine z_iconst (v := 1) hC dX5_joined_7 (by decide) ?_
  refine z_istore_n hC dX5_joined_8 (by decide) rfl ?_
  have loop9 : ∀ (kf k : Nat) (a : Int32) (hki : kf + k = 10) (hF : kfor (mdJoin1 (u2 κ 0 2 0)) kf k a = mdJoined (u2 κ 0 2 0)), zG p l e { frames := 1, cells := 0, slots := 0, locals := 21 } s m args below meth c D (va_A (cM q κ ct) s.heap.size) 3 (MQ below (zQ D ct (cM q κ ct) s.heap.size (zd (some (.double (mDiv (mdJoined (u2 κ 0 2 0))))) (cM q (u2 κ 0 2 0) ct))) args s 0 0 (va_A (cM q κ ct) s.heap.size)) 0 0 9 [some (.ref (q 0)), some (.int a), some (.int (nI k))] [] (cM q (u2 κ 0 2 0) ct) := by
    intro kf
    induction kf with
    | zero =>
      intro k a hki hF
      refine z_iload_n hC dX5_joined_9 rfl ?_
      refine z_bipush (v := 10) hC dX5_joined_10 (by decide) ?_
      refine z_icmp_ge hC 45 dX5_joined_12 (by decide) (fun c12 => ?_) (fun c12 => (by have hh := (nI_nleI (a := 10) (b := k) (by omega) (by omega)).mp c12; omega))
      replace c12 := (nI_leI (a := 10) (b := k) (by omega) (by omega)).mp c12
      refine z_iload_n hC dX5_joined_45 rfl ?_
      refine z_i2d hC dX5_joined_46 ?_
      refine z_ldc2d (v := 4621256167635550208) hC bw_776 dX5_joined_47 ?_
      have hF2 : a = mdJoined (u2 κ 0 2 0) := hF
      subst hF2
      obtain ⟨jk, hjk, ejk⟩ := mdJoined_le (u2 κ 0 2 0)
      refine z_ddiv hC dX5_joined_50 (by rw [ejk]; exact mDiv_ok jk hjk) ?_
      exact z_dretd hC hr dX5_joined_51 (Nat.zero_le _) (Nat.zero_le _) rfl rfl cM_adr
    | succ kf ih =>
      intro k a hki hF
      refine z_iload_n hC dX5_joined_9 rfl ?_
      refine z_bipush (v := 10) hC dX5_joined_10 (by decide) ?_
      refine z_icmp_ge hC 45 dX5_joined_12 (by decide) (fun c12 => (by have hh := (nI_leI (a := 10) (b := k) (by omega) (by omega)).mp c12; omega)) (fun c12 => ?_)
      replace c12 := (nI_nleI (a := 10) (b := k) (by omega) (by omega)).mp c12
      refine z_iload_n hC dX5_joined_15 rfl ?_
      refine z_aload_n hC dX5_joined_16 rfl ?_
      refine z_get 0 0 hC bl_X5 (ci := 5) rfl (by decide) rfl bw_67 rfl rfl dX5_joined_17 ?_
      refine z_iconst (v := 0) hC dX5_joined_20 (by decide) ?_
      refine z_iload_n hC dX5_joined_21 rfl ?_
      refine z_callS [] hC (c_X5_at l D ct 0 k) bw_70 bw_71 bw_5 bw_72 2 (by decide +kernel) rfl rfl rfl ⟨Nat.le_of_ble_eq_true rfl, Nat.le_of_ble_eq_true rfl⟩ (Nat.le_of_ble_eq_true rfl) ⟨Nat.le_of_ble_eq_true rfl, Nat.le_of_ble_eq_true rfl⟩ rfl dX5_joined_22 ?_
      refine zkq (G := fun v1 w1 => zG p l e _ s m args below meth c D _ _ _ _ _ _ _ (v1.toList ++ _) w1) rfl ?_
      refine z_iconst (v := 1) hC dX5_joined_25 (by decide) ?_
      refine z_iaddN (0 + 20 + 7 * k) (1) hC dX5_joined_26 ?_
      refine z_ialdN (0 + 20 + 7 * k + 1) 1 0 hC rfl rfl (by decide) (by omega) dX5_joined_27 ?_
      refine z_iconst (v := (-1)) hC dX5_joined_28 (by decide) ?_
      refine z_icmp_ne hC 36 dX5_joined_29 (by decide) (fun c29 => ?_) (fun c29 => ?_)
      · refine z_iconst (v := 1) hC dX5_joined_36 (by decide) ?_
        refine z_iadd hC dX5_joined_37 ?_
        refine z_istore_n hC dX5_joined_38 (by decide) rfl ?_
        refine z_iincN (k) hC dX5_joined_39 (by decide) rfl rfl ?_
        refine z_goto hC 9 dX5_joined_42 (by decide) ?_
        exact ih (k + 1) (a + 1) (by omega) (by rw [← hF]; exact congrArg (kfor (mdJoin1 (u2 κ 0 2 0)) kf (k + 1)) (by simp [mdJoin1, c12, c29]))
      · refine z_iconst (v := 0) hC dX5_joined_32 (by decide) ?_
        refine z_goto hC 37 dX5_joined_33 (by decide) ?_
        refine z_iadd hC dX5_joined_37 ?_
        refine z_istore_n hC dX5_joined_38 (by decide) rfl ?_
        refine z_iincN (k) hC dX5_joined_39 (by decide) rfl rfl ?_
        refine z_goto hC 9 dX5_joined_42 (by decide) ?_
        exact ih (k + 1) (a + 0) (by omega) (by rw [← hF]; exact congrArg (kfor (mdJoin1 (u2 κ 0 2 0)) kf (k + 1)) (by simp [mdJoin1, c12, c29]))
  exact loop9 9 1 0 rfl rfl

set_option maxRecDepth 100000 in
set_option maxHeartbeats 1000000 in
theorem c_X5_hops_ok (l : Launch) (D : va_G) (ct : Nat → ClassId) (q : Nat → Nat) (κ : Nat → Nat → Int32) (n : Nat) (hn : n < 10) : zT l D ct yX5_hops cX5_hops 5 (some .int) 2 45 0 0 [.ref (q 0), .int (nI n)] (cM q κ ct) (zd (some (.int (mdHops (u2 κ 0 2 0) 3 n))) (cM q (mdHops (u2 κ 0 2 0)) ct)) := by
  refine zT_of ([some (.ref (q 0)), some (.int (nI n)), none, none, none]) (by decide +kernel) rfl (Nat.le_of_ble_eq_true rfl) ?_
  intro p e s m args below meth c hC hr hnm
  refine z_aload_n hC dX5_hops_0 rfl ?_
  refine z_iload_n hC dX5_hops_1 rfl ?_
  refine z_callS [] hC (c_X5_isNode l D ct (nI n)) bw_137 bw_138 bw_5 bw_139 1 (by decide +kernel) rfl rfl rfl ⟨Nat.le_of_ble_eq_true rfl, Nat.le_of_ble_eq_true rfl⟩ (Nat.le_of_ble_eq_true rfl) ⟨Nat.le_of_ble_eq_true rfl, Nat.le_of_ble_eq_true rfl⟩ rfl dX5_hops_2 ?_
  refine zkq (G := fun v1 w1 => zG p l e _ s m args below meth c D _ _ _ _ _ _ _ (v1.toList ++ _) w1) rfl ?_
  refine z_top (bI_t (nodeI hn)) ?_
  refine z_iconst (v := 1) hC dX5_hops_5 (by decide) ?_
  refine z_iconst (v := 1) hC dX5_hops_6 (by decide) ?_
  refine z_callV [0, 1, 2, 3] 0 5 hC (c_X5_goes l D ct q κ 1 1 1 0 rfl) bw_143 bw_144 bw_145 bw_5 bw_146 3 (by decide +kernel) rfl rfl rfl rfl rfl ⟨Nat.le_of_ble_eq_true rfl, Nat.le_of_ble_eq_true rfl⟩ (Nat.le_of_ble_eq_true rfl) ⟨Nat.le_of_ble_eq_true rfl, Nat.le_of_ble_eq_true rfl⟩ rfl dX5_hops_7 ?_
  refine zkd (G := fun v1 w1 => zG p l e _ s m args below meth c D _ _ _ _ _ _ _ (v1.toList ++ _) w1) (w2 := cM q (u2 κ 0 2 0) ct) cM_all ?_
  obtain ⟨κ1, eκ1⟩ : ∃ zz_, zz_ = (u2 κ 0 2 0) := ⟨_, rfl⟩
  rw [← eκ1]
  refine z_top (y := 1) (by decide) ?_
  refine z_if_ne hC 15 dX5_hops_10 (by decide) (fun cn2 => ?_) (fun cn2 => absurd cn2 (by decide))
  subst eκ1
  refine z_iconst (v := 0) hC dX5_hops_15 (by decide) ?_
  refine z_istore_n hC dX5_hops_16 (by decide) rfl ?_
  have loop17 : ∀ (kf k : Nat) (κx : Nat → Nat → Int32) (hki : kf + k = 10) (h1 : κx 1 = κ 1) (hF : kfor mdHop0 kf k κx = kfor mdHop0 10 0 (u2 κ 0 2 0)), zG p l e { frames := 2, cells := 0, slots := 0, locals := 45 } s m args below meth c D (va_A (cM q κ ct) s.heap.size) 5 (MQ below (zQ D ct (cM q κ ct) s.heap.size (zd (some (.int (mdHops (u2 κ 0 2 0) 3 n))) (cM q (mdHops (u2 κ 0 2 0)) ct))) args s 0 0 (va_A (cM q κ ct) s.heap.size)) 0 0 17 [some (.ref (q 0)), some (.int (nI n)), some (.int (nI k)), none, none] [] (cM q κx ct) := by
    intro kf
    induction kf with
    | zero =>
      intro k κx hki h1 hF
      refine z_iload_n hC dX5_hops_17 rfl ?_
      refine z_bipush (v := 10) hC dX5_hops_18 (by decide) ?_
      refine z_icmp_ge hC 53 dX5_hops_20 (by decide) (fun c20 => ?_) (fun c20 => (by have hh := (nI_nleI (a := 10) (b := k) (by omega) (by omega)).mp c20; omega))
      replace c20 := (nI_leI (a := 10) (b := k) (by omega) (by omega)).mp c20
      refine z_iconst (v := 0) hC dX5_hops_53 (by decide) ?_
      refine z_istore_n hC dX5_hops_54 (by decide) rfl ?_
      have loop55 : ∀ (kf f : Nat) (κy : Nat → Nat → Int32) (hki : kf + f = 10) (hF : kfor mdHop2 kf f κy = mdHops (u2 κ 0 2 0)), zG p l e { frames := 2, cells := 0, slots := 0, locals := 45 } s m args below meth c D (va_A (cM q κ ct) s.heap.size) 5 (MQ below (zQ D ct (cM q κ ct) s.heap.size (zd (some (.int (mdHops (u2 κ 0 2 0) 3 n))) (cM q (mdHops (u2 κ 0 2 0)) ct))) args s 0 0 (va_A (cM q κ ct) s.heap.size)) 0 0 55 [some (.ref (q 0)), some (.int (nI n)), some (.int (nI f)), none, none] [] (cM q κy ct) := by
        intro kf
        induction kf with
        | zero =>
          intro f κy hki hF
          refine z_iload_n hC dX5_hops_55 rfl ?_
          refine z_bipush (v := 10) hC dX5_hops_56 (by decide) ?_
          refine z_icmp_ge hC 159 dX5_hops_58 (by decide) (fun c58 => ?_) (fun c58 => (by have hh := (nI_nleI (a := 10) (b := f) (by omega) (by omega)).mp c58; omega))
          replace c58 := (nI_leI (a := 10) (b := f) (by omega) (by omega)).mp c58
          refine z_aload_n hC dX5_hops_159 rfl ?_
          refine z_get 0 5 hC bl_X5 (ci := 5) rfl (by decide) rfl bw_69 rfl rfl dX5_hops_160 ?_
          refine z_iload_n hC dX5_hops_163 rfl ?_
          refine z_ialdN (n) 3 0 hC rfl rfl (by decide) (by omega) dX5_hops_164 ?_
          exact z_iretd hC hr dX5_hops_165 (Nat.zero_le _) (Nat.zero_le _) (congrArg (fun z : Nat → Nat → Int32 => z 3 n) hF) (congrArg (fun z => cM q z ct) hF) cM_adr
        | succ kf ih =>
          intro f κy hki hF
          refine z_iload_n hC dX5_hops_55 rfl ?_
          refine z_bipush (v := 10) hC dX5_hops_56 (by decide) ?_
          refine z_icmp_ge hC 159 dX5_hops_58 (by decide) (fun c58 => (by have hh := (nI_leI (a := 10) (b := f) (by omega) (by omega)).mp c58; omega)) (fun c58 => ?_)
          replace c58 := (nI_nleI (a := 10) (b := f) (by omega) (by omega)).mp c58
          refine z_iconst (v := 0) hC dX5_hops_61 (by decide) ?_
          refine z_istore_n hC dX5_hops_62 (by decide) rfl ?_
          have loop63 : ∀ (kg k : Nat) (κz : Nat → Nat → Int32) (hkk : kg + k = 100) (hG : kfor (mdHop1 f) kg k κz = mdHop2 f κy), zG p l e { frames := 2, cells := 0, slots := 0, locals := 45 } s m args below meth c D (va_A (cM q κ ct) s.heap.size) 5 (MQ below (zQ D ct (cM q κ ct) s.heap.size (zd (some (.int (mdHops (u2 κ 0 2 0) 3 n))) (cM q (mdHops (u2 κ 0 2 0)) ct))) args s 0 0 (va_A (cM q κ ct) s.heap.size)) 0 0 63 [some (.ref (q 0)), some (.int (nI n)), some (.int (nI f)), some (.int (nI k)), none] [] (cM q κz ct) := by
            intro kg
            induction kg with
            | zero =>
              intro k κz hkk hG
              refine z_iload_n hC dX5_hops_63 rfl ?_
              refine z_bipush (v := 100) hC dX5_hops_64 (by decide) ?_
              refine z_icmp_ge hC 153 dX5_hops_66 (by decide) (fun c66 => ?_) (fun c66 => (by have hh := (nI_nleI (a := 100) (b := k) (by omega) (by omega)).mp c66; omega))
              replace c66 := (nI_leI (a := 100) (b := k) (by omega) (by omega)).mp c66
              refine z_iincN (f) hC dX5_hops_153 (by decide) rfl rfl ?_
              refine z_goto hC 55 dX5_hops_156 (by decide) ?_
              exact z_wk (ls_s (ls_s (ls_s (ls_n (ls_n ls_0))))) (ih (f + 1) κz (by omega) (by rw [← hF]; exact congrArg (kfor mdHop2 kf (f + 1)) hG))
            | succ kg ihg =>
              intro k κz hkk hG
              refine z_iload_n hC dX5_hops_63 rfl ?_
              refine z_bipush (v := 100) hC dX5_hops_64 (by decide) ?_
              refine z_icmp_ge hC 153 dX5_hops_66 (by decide) (fun c66 => (by have hh := (nI_leI (a := 100) (b := k) (by omega) (by omega)).mp c66; omega)) (fun c66 => ?_)
              replace c66 := (nI_nleI (a := 100) (b := k) (by omega) (by omega)).mp c66
              refine z_aload_n hC dX5_hops_69 rfl ?_
              refine z_get 0 5 hC bl_X5 (ci := 5) rfl (by decide) rfl bw_69 rfl rfl dX5_hops_70 ?_
              refine z_iload_n hC dX5_hops_73 rfl ?_
              refine z_bipush (v := 10) hC dX5_hops_74 (by decide) ?_
              refine z_idivN (k) (10) hC (by omega) (by decide) (by decide) dX5_hops_76 ?_
              refine z_ialdN ((k / 10)) 3 0 hC rfl rfl (by decide) (by omega) dX5_hops_77 ?_
              refine z_iload_n hC dX5_hops_78 rfl ?_
              refine z_icmp_ne hC 115 dX5_hops_79 (by decide) (fun c79 => ?_) (fun c79 => ?_)
              · refine z_iconst (v := 0) hC dX5_hops_115 (by decide) ?_
                refine z_istore hC dX5_hops_116 (by decide) rfl ?_
                refine z_aload_n hC dX5_hops_118 rfl ?_
                refine z_get 0 5 hC bl_X5 (ci := 5) rfl (by decide) rfl bw_69 rfl rfl dX5_hops_119 ?_
                refine z_iload_n hC dX5_hops_122 rfl ?_
                refine z_bipush (v := 10) hC dX5_hops_123 (by decide) ?_
                refine z_iremN (k) (10) hC (by omega) (by decide) (by decide) dX5_hops_125 ?_
                refine z_iload hC dX5_hops_126 rfl ?_
                refine z_if_eq hC 137 dX5_hops_128 (by decide) (fun cn3 => ?_) (fun cn3 => absurd cn3 (by decide))
                refine z_aload_n hC dX5_hops_137 rfl ?_
                refine z_get 0 5 hC bl_X5 (ci := 5) rfl (by decide) rfl bw_69 rfl rfl dX5_hops_138 ?_
                refine z_iload_n hC dX5_hops_141 rfl ?_
                refine z_bipush (v := 10) hC dX5_hops_142 (by decide) ?_
                refine z_iremN (k) (10) hC (by omega) (by decide) (by decide) dX5_hops_144 ?_
                refine z_ialdN ((k % 10)) 3 0 hC rfl rfl (by decide) (by omega) dX5_hops_145 ?_
                refine z_iastN ((k % 10)) 3 0 hC rfl rfl (by decide) (by omega) dX5_hops_146 (w2 := cM q (u2 κz 3 (k % 10) (κz 3 ((k % 10)))) ct) cM_a3 ?_
                obtain ⟨κ4, eκ4⟩ : ∃ zz_, zz_ = u2 κz 3 (k % 10) (κz 3 ((k % 10))) := ⟨_, rfl⟩
                rw [← eκ4]
                refine z_iincN (k) hC dX5_hops_147 (by decide) rfl rfl ?_
                refine z_goto hC 63 dX5_hops_150 (by decide) ?_
                exact z_wk (ls_s (ls_s (ls_s (ls_s (ls_n ls_0))))) (ihg (k + 1) κ4 (by omega) (by rw [← hG, eκ4]; exact congrArg (kfor (mdHop1 f) kg (k + 1)) (by rw [mdHop1]; simp [c20, c58, c66, c79])))
              · refine z_aload_n hC dX5_hops_82 rfl ?_
                refine z_get 0 5 hC bl_X5 (ci := 5) rfl (by decide) rfl bw_69 rfl rfl dX5_hops_83 ?_
                refine z_iload_n hC dX5_hops_86 rfl ?_
                refine z_bipush (v := 10) hC dX5_hops_87 (by decide) ?_
                refine z_iremN (k) (10) hC (by omega) (by decide) (by decide) dX5_hops_89 ?_
                refine z_ialdN ((k % 10)) 3 0 hC rfl rfl (by decide) (by omega) dX5_hops_90 ?_
                refine z_iconst (v := (-1)) hC dX5_hops_91 (by decide) ?_
                refine z_icmp_ne hC 115 dX5_hops_92 (by decide) (fun c92 => ?_) (fun c92 => ?_)
                · refine z_iconst (v := 0) hC dX5_hops_115 (by decide) ?_
                  refine z_istore hC dX5_hops_116 (by decide) rfl ?_
                  refine z_aload_n hC dX5_hops_118 rfl ?_
                  refine z_get 0 5 hC bl_X5 (ci := 5) rfl (by decide) rfl bw_69 rfl rfl dX5_hops_119 ?_
                  refine z_iload_n hC dX5_hops_122 rfl ?_
                  refine z_bipush (v := 10) hC dX5_hops_123 (by decide) ?_
                  refine z_iremN (k) (10) hC (by omega) (by decide) (by decide) dX5_hops_125 ?_
                  refine z_iload hC dX5_hops_126 rfl ?_
                  refine z_if_eq hC 137 dX5_hops_128 (by decide) (fun cn5 => ?_) (fun cn5 => absurd cn5 (by decide))
                  refine z_aload_n hC dX5_hops_137 rfl ?_
                  refine z_get 0 5 hC bl_X5 (ci := 5) rfl (by decide) rfl bw_69 rfl rfl dX5_hops_138 ?_
                  refine z_iload_n hC dX5_hops_141 rfl ?_
                  refine z_bipush (v := 10) hC dX5_hops_142 (by decide) ?_
                  refine z_iremN (k) (10) hC (by omega) (by decide) (by decide) dX5_hops_144 ?_
                  refine z_ialdN ((k % 10)) 3 0 hC rfl rfl (by decide) (by omega) dX5_hops_145 ?_
                  refine z_iastN ((k % 10)) 3 0 hC rfl rfl (by decide) (by omega) dX5_hops_146 (w2 := cM q (u2 κz 3 (k % 10) (κz 3 ((k % 10)))) ct) cM_a3 ?_
                  obtain ⟨κ6, eκ6⟩ : ∃ zz_, zz_ = u2 κz 3 (k % 10) (κz 3 ((k % 10))) := ⟨_, rfl⟩
                  rw [← eκ6]
                  refine z_iincN (k) hC dX5_hops_147 (by decide) rfl rfl ?_
                  refine z_goto hC 63 dX5_hops_150 (by decide) ?_
                  exact z_wk (ls_s (ls_s (ls_s (ls_s (ls_n ls_0))))) (ihg (k + 1) κ6 (by omega) (by rw [← hG, eκ6]; exact congrArg (kfor (mdHop1 f) kg (k + 1)) (by rw [mdHop1]; simp [c20, c58, c66, c79, c92])))
                · refine z_aload_n hC dX5_hops_95 rfl ?_
                  refine z_iconst (v := 0) hC dX5_hops_96 (by decide) ?_
                  refine z_iload_n hC dX5_hops_97 rfl ?_
                  refine z_bipush (v := 10) hC dX5_hops_98 (by decide) ?_
                  refine z_idivN (k) (10) hC (by omega) (by decide) (by decide) dX5_hops_100 ?_
                  refine z_iload_n hC dX5_hops_101 rfl ?_
                  refine z_bipush (v := 10) hC dX5_hops_102 (by decide) ?_
                  refine z_iremN (k) (10) hC (by omega) (by decide) (by decide) dX5_hops_104 ?_
                  refine z_callV [0, 1, 2, 3] 0 5 hC (c_X5_areConnected l D ct q κz 0 (k / 10) (k % 10) (by decide) (by omega)) bw_367 bw_368 bw_369 bw_5 bw_370 3 (by decide +kernel) rfl rfl rfl rfl rfl ⟨Nat.le_of_ble_eq_true rfl, Nat.le_of_ble_eq_true rfl⟩ (Nat.le_of_ble_eq_true rfl) ⟨Nat.le_of_ble_eq_true rfl, Nat.le_of_ble_eq_true rfl⟩ rfl dX5_hops_105 ?_
                  refine zkq (G := fun v1 w1 => zG p l e _ s m args below meth c D _ _ _ _ _ _ _ (v1.toList ++ _) w1) rfl ?_
                  refine z_if_eq hC 115 dX5_hops_108 (by decide) (fun c108 => ?_) (fun c108 => ?_)
                  · rw [bI_0] at c108
                    refine z_iconst (v := 0) hC dX5_hops_115 (by decide) ?_
                    refine z_istore hC dX5_hops_116 (by decide) rfl ?_
                    refine z_aload_n hC dX5_hops_118 rfl ?_
                    refine z_get 0 5 hC bl_X5 (ci := 5) rfl (by decide) rfl bw_69 rfl rfl dX5_hops_119 ?_
                    refine z_iload_n hC dX5_hops_122 rfl ?_
                    refine z_bipush (v := 10) hC dX5_hops_123 (by decide) ?_
                    refine z_iremN (k) (10) hC (by omega) (by decide) (by decide) dX5_hops_125 ?_
                    refine z_iload hC dX5_hops_126 rfl ?_
                    refine z_if_eq hC 137 dX5_hops_128 (by decide) (fun cn7 => ?_) (fun cn7 => absurd cn7 (by decide))
                    refine z_aload_n hC dX5_hops_137 rfl ?_
                    refine z_get 0 5 hC bl_X5 (ci := 5) rfl (by decide) rfl bw_69 rfl rfl dX5_hops_138 ?_
                    refine z_iload_n hC dX5_hops_141 rfl ?_
                    refine z_bipush (v := 10) hC dX5_hops_142 (by decide) ?_
                    refine z_iremN (k) (10) hC (by omega) (by decide) (by decide) dX5_hops_144 ?_
                    refine z_ialdN ((k % 10)) 3 0 hC rfl rfl (by decide) (by omega) dX5_hops_145 ?_
                    refine z_iastN ((k % 10)) 3 0 hC rfl rfl (by decide) (by omega) dX5_hops_146 (w2 := cM q (u2 κz 3 (k % 10) (κz 3 ((k % 10)))) ct) cM_a3 ?_
                    obtain ⟨κ8, eκ8⟩ : ∃ zz_, zz_ = u2 κz 3 (k % 10) (κz 3 ((k % 10))) := ⟨_, rfl⟩
                    rw [← eκ8]
                    refine z_iincN (k) hC dX5_hops_147 (by decide) rfl rfl ?_
                    refine z_goto hC 63 dX5_hops_150 (by decide) ?_
                    exact z_wk (ls_s (ls_s (ls_s (ls_s (ls_n ls_0))))) (ihg (k + 1) κ8 (by omega) (by rw [← hG, eκ8]; exact congrArg (kfor (mdHop1 f) kg (k + 1)) (by rw [mdHop1]; simp [c20, c58, c66, c79, c92, c108])))
                  · rw [bI_1] at c108
                    refine z_iconst (v := 1) hC dX5_hops_111 (by decide) ?_
                    refine z_goto hC 116 dX5_hops_112 (by decide) ?_
                    refine z_istore hC dX5_hops_116 (by decide) rfl ?_
                    refine z_aload_n hC dX5_hops_118 rfl ?_
                    refine z_get 0 5 hC bl_X5 (ci := 5) rfl (by decide) rfl bw_69 rfl rfl dX5_hops_119 ?_
                    refine z_iload_n hC dX5_hops_122 rfl ?_
                    refine z_bipush (v := 10) hC dX5_hops_123 (by decide) ?_
                    refine z_iremN (k) (10) hC (by omega) (by decide) (by decide) dX5_hops_125 ?_
                    refine z_iload hC dX5_hops_126 rfl ?_
                    refine z_if_eq hC 137 dX5_hops_128 (by decide) (fun cn9 => absurd cn9 (by decide)) (fun cn9 => ?_)
                    refine z_iload_n hC dX5_hops_131 rfl ?_
                    refine z_iconst (v := 1) hC dX5_hops_132 (by decide) ?_
                    refine z_iaddN (f) (1) hC dX5_hops_133 ?_
                    refine z_goto hC 146 dX5_hops_134 (by decide) ?_
                    refine z_iastN ((k % 10)) 3 0 hC rfl rfl (by decide) (by omega) dX5_hops_146 (w2 := cM q (u2 κz 3 (k % 10) (nI (f + 1))) ct) cM_a3 ?_
                    obtain ⟨κ10, eκ10⟩ : ∃ zz_, zz_ = u2 κz 3 (k % 10) (nI (f + 1)) := ⟨_, rfl⟩
                    rw [← eκ10]
                    refine z_iincN (k) hC dX5_hops_147 (by decide) rfl rfl ?_
                    refine z_goto hC 63 dX5_hops_150 (by decide) ?_
                    exact z_wk (ls_s (ls_s (ls_s (ls_s (ls_n ls_0))))) (ihg (k + 1) κ10 (by omega) (by rw [← hG, eκ10]; exact congrArg (kfor (mdHop1 f) kg (k + 1)) (by rw [mdHop1]; simp [c20, c58, c66, c79, c92, c108])))
          refine z_ls (ls2 := [some (.ref (q 0)), some (.int (nI n)), some (.int (nI f)), some (.int (nI 0)), none]) rfl ?_
          exact loop63 100 0 κy rfl rfl
      refine z_ls (ls2 := [some (.ref (q 0)), some (.int (nI n)), some (.int (nI 0)), none, none]) rfl ?_
      exact loop55 10 0 κx rfl (by rw [mdHops, ← hF]; rfl)
    | succ kf ih =>
      intro k κx hki h1 hF
      refine z_iload_n hC dX5_hops_17 rfl ?_
      refine z_bipush (v := 10) hC dX5_hops_18 (by decide) ?_
      refine z_icmp_ge hC 53 dX5_hops_20 (by decide) (fun c20 => (by have hh := (nI_leI (a := 10) (b := k) (by omega) (by omega)).mp c20; omega)) (fun c20 => ?_)
      replace c20 := (nI_nleI (a := 10) (b := k) (by omega) (by omega)).mp c20
      refine z_aload_n hC dX5_hops_23 rfl ?_
      refine z_get 0 5 hC bl_X5 (ci := 5) rfl (by decide) rfl bw_69 rfl rfl dX5_hops_24 ?_
      refine z_iload_n hC dX5_hops_27 rfl ?_
      refine z_iload_n hC dX5_hops_28 rfl ?_
      refine z_if_ne hC 45 dX5_hops_29 (by decide) (fun c29 => ?_) (fun c29 => ?_)
      · replace c29 := (nI_neI (a := k) (b := 0) (by omega) (by omega)).mp c29
        refine z_iconst (v := (-1)) hC dX5_hops_45 (by decide) ?_
        refine z_iastN (k) 3 0 hC rfl rfl (by decide) (by omega) dX5_hops_46 (w2 := cM q (u2 κx 3 k (-1)) ct) cM_a3 ?_
        obtain ⟨κ11, eκ11⟩ : ∃ zz_, zz_ = u2 κx 3 k (-1) := ⟨_, rfl⟩
        rw [← eκ11]
        refine z_iincN (k) hC dX5_hops_47 (by decide) rfl rfl ?_
        refine z_goto hC 17 dX5_hops_50 (by decide) ?_
        exact ih (k + 1) κ11 (by omega) (by rw [eκ11, u2_ne (by decide)]; exact h1) (by rw [← hF, eκ11]; exact congrArg (kfor mdHop0 kf (k + 1)) (by rw [mdHop0]; simp [c20, c29]))
      · replace c29 := (nI_eq (a := k) (b := 0) (by omega) (by omega)).mp c29
        refine z_aload_n hC dX5_hops_32 rfl ?_
        refine z_iconst (v := 0) hC dX5_hops_33 (by decide) ?_
        refine z_iconst (v := 0) hC dX5_hops_34 (by decide) ?_
        refine z_callV [0, 1, 2, 3] 0 5 hC (c_X5_isOn l D ct q κx 0 0 (by decide)) bw_359 bw_360 bw_361 bw_5 bw_362 2 (by decide +kernel) rfl rfl rfl rfl rfl ⟨Nat.le_of_ble_eq_true rfl, Nat.le_of_ble_eq_true rfl⟩ (Nat.le_of_ble_eq_true rfl) ⟨Nat.le_of_ble_eq_true rfl, Nat.le_of_ble_eq_true rfl⟩ rfl dX5_hops_35 ?_
        refine zkq (G := fun v1 w1 => zG p l e _ s m args below meth c D _ _ _ _ _ _ _ (v1.toList ++ _) w1) rfl ?_
        refine z_if_eq hC 45 dX5_hops_38 (by decide) (fun c38 => ?_) (fun c38 => ?_)
        · rw [bI_0] at c38
          refine z_iconst (v := (-1)) hC dX5_hops_45 (by decide) ?_
          refine z_iastN (k) 3 0 hC rfl rfl (by decide) (by omega) dX5_hops_46 (w2 := cM q (u2 κx 3 k (-1)) ct) cM_a3 ?_
          obtain ⟨κ12, eκ12⟩ : ∃ zz_, zz_ = u2 κx 3 k (-1) := ⟨_, rfl⟩
          rw [← eκ12]
          refine z_iincN (k) hC dX5_hops_47 (by decide) rfl rfl ?_
          refine z_goto hC 17 dX5_hops_50 (by decide) ?_
          exact ih (k + 1) κ12 (by omega) (by rw [eκ12, u2_ne (by decide)]; exact h1) (by rw [← hF, eκ12]; exact congrArg (kfor mdHop0 kf (k + 1)) (by rw [mdHop0]; simp [c20, c29, c38]))
        · rw [bI_1] at c38
          refine z_iconst (v := 0) hC dX5_hops_41 (by decide) ?_
          refine z_goto hC 46 dX5_hops_42 (by decide) ?_
          refine z_iastN (k) 3 0 hC rfl rfl (by decide) (by omega) dX5_hops_46 (w2 := cM q (u2 κx 3 k 0) ct) cM_a3 ?_
          obtain ⟨κ13, eκ13⟩ : ∃ zz_, zz_ = u2 κx 3 k 0 := ⟨_, rfl⟩
          rw [← eκ13]
          refine z_iincN (k) hC dX5_hops_47 (by decide) rfl rfl ?_
          refine z_goto hC 17 dX5_hops_50 (by decide) ?_
          exact ih (k + 1) κ13 (by omega) (by rw [eκ13, u2_ne (by decide)]; exact h1) (by rw [← hF, eκ13]; exact congrArg (kfor mdHop0 kf (k + 1)) (by rw [mdHop0]; simp [c20, c29, c38]))
  exact loop17 10 0 (u2 κ 0 2 0) rfl rfl rfl

set_option maxRecDepth 100000 in
set_option maxHeartbeats 1000000 in
theorem c_X5_hops_no1 (l : Launch) (D : va_G) (ct : Nat → ClassId) (q : Nat → Nat) (κ : Nat → Nat → Int32) (n : Int32) (hx : mNode n = false) : zT l D ct yX5_hops cX5_hops 5 (some .int) 2 45 0 0 [.ref (q 0), .int n] (cM q κ ct) (zd (some (.int 0)) (cM q (u2 κ 0 2 1) ct)) := by
  refine zT_of ([some (.ref (q 0)), some (.int n), none, none, none]) (by decide +kernel) rfl (Nat.le_of_ble_eq_true rfl) ?_
  intro p e s m args below meth c hC hr hnm
  refine z_aload_n hC dX5_hops_0 rfl ?_
  refine z_iload_n hC dX5_hops_1 rfl ?_
  refine z_callS [] hC (c_X5_isNode l D ct n) bw_137 bw_138 bw_5 bw_139 1 (by decide +kernel) rfl rfl rfl ⟨Nat.le_of_ble_eq_true rfl, Nat.le_of_ble_eq_true rfl⟩ (Nat.le_of_ble_eq_true rfl) ⟨Nat.le_of_ble_eq_true rfl, Nat.le_of_ble_eq_true rfl⟩ rfl dX5_hops_2 ?_
  refine zkq (G := fun v1 w1 => zG p l e _ s m args below meth c D _ _ _ _ _ _ _ (v1.toList ++ _) w1) rfl ?_
  refine z_top (bI_f hx) ?_
  refine z_iconst (v := 1) hC dX5_hops_5 (by decide) ?_
  refine z_iconst (v := 1) hC dX5_hops_6 (by decide) ?_
  refine z_callV [0, 1, 2, 3] 0 5 hC (c_X5_goes l D ct q κ 0 1 1 1 rfl) bw_143 bw_144 bw_145 bw_5 bw_146 3 (by decide +kernel) rfl rfl rfl rfl rfl ⟨Nat.le_of_ble_eq_true rfl, Nat.le_of_ble_eq_true rfl⟩ (Nat.le_of_ble_eq_true rfl) ⟨Nat.le_of_ble_eq_true rfl, Nat.le_of_ble_eq_true rfl⟩ rfl dX5_hops_7 ?_
  refine zkd (G := fun v1 w1 => zG p l e _ s m args below meth c D _ _ _ _ _ _ _ (v1.toList ++ _) w1) (w2 := cM q (u2 κ 0 2 1) ct) cM_all ?_
  obtain ⟨κ1, eκ1⟩ : ∃ zz_, zz_ = (u2 κ 0 2 1) := ⟨_, rfl⟩
  rw [← eκ1]
  refine z_top (y := 0) (by decide) ?_
  refine z_if_ne hC 15 dX5_hops_10 (by decide) (fun cn2 => absurd cn2 (by decide)) (fun cn2 => ?_)
  refine z_iconst (v := 0) hC dX5_hops_13 (by decide) ?_
  exact z_iretd hC hr dX5_hops_14 (Nat.zero_le _) (Nat.zero_le _) (by subst eκ1; rfl) (by subst eκ1; rfl) cM_adr
