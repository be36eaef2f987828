theorem cNTS_t {x : Nat × va_E} {q : Nat → Nat} {τ τ2 : Nat → Nat → Int32} {ct : Nat → ClassId} {B : va_W} : wput ((x :: cT q τ ct) ++ B) [1, 2] (cT q τ2 ct) = (x :: cT q τ2 ct) ++ B := rfl
theorem cNTS_f1 {x : Nat × va_E} {q : Nat → Nat} {σ : Nat → Nat → Int32} {ct : Nat → ClassId} {B : va_W} {v : Int32} : ((x :: cT q σ ct) ++ B).set 1 (q 0, .inr (3, [Value.ref (q 1), .int (σ 0 0), .int (σ 0 1), .int (σ 0 2), .int (σ 0 3), .int (σ 0 4), .int (σ 0 5)].set 2 (.int v))) = (x :: cT q (u2 σ 0 1 v) ct) ++ B := rfl
theorem cNTS_s {x : Nat × va_E} {q qs : Nat → Nat} {τ σ σ2 : Nat → Nat → Int32} {ct : Nat → ClassId} {B : va_W} : wput ((x :: cT q τ ct) ++ (cS qs σ ct ++ B)) [3, 4, 5, 6, 7, 8, 9, 10, 11, 12, 13, 14, 15, 16, 17, 18] (cS qs σ2 ct) = (x :: cT q τ ct) ++ (cS qs σ2 ct ++ B) := by
  have h2 := wput_suf (List.range 16) (x :: cT q τ ct) (cS qs σ ct ++ B) (cS qs σ2 ct)
  have e : (cS qs σ ct).length = 16 := rfl
  have h4 := wput_pre (wc := cS qs σ ct) (rest := B) (wa := cS qs σ2 ct) cS_len2
  rw [e] at h4
  rw [h4] at h2
  have h5 : (List.range 16).map (· + (x :: cT q τ ct).length) = [3, 4, 5, 6, 7, 8, 9, 10, 11, 12, 13, 14, 15, 16, 17, 18] := rfl
  rw [h5] at h2
  exact h2
theorem cNTS_s0 {x : Nat × va_E} {q qs : Nat → Nat} {τ σ σ2 : Nat → Nat → Int32} {ct : Nat → ClassId} : wput ((x :: cT q τ ct) ++ cS qs σ ct) [3, 4, 5, 6, 7, 8, 9, 10, 11, 12, 13, 14, 15, 16, 17, 18] (cS qs σ2 ct) = (x :: cT q τ ct) ++ cS qs σ2 ct := by
  have h := cNTS_s (x := x) (q := q) (qs := qs) (τ := τ) (σ := σ) (σ2 := σ2) (ct := ct) (B := [])
  rw [List.append_nil, List.append_nil] at h
  exact h
theorem cNTS_e {x : Nat × va_E} {q qs : Nat → Nat} {τ σ σ2 : Nat → Nat → Int32} {ct : Nat → ClassId} {B : va_W} : wput ((x :: cT q τ ct) ++ (cS qs σ ct ++ B)) [0, 1, 2, 3, 4, 5, 6, 7, 8, 9, 10, 11, 12, 13, 14, 15, 16, 17, 18] ((x :: cT q τ ct) ++ cS qs σ2 ct) = (x :: cT q τ ct) ++ (cS qs σ2 ct ++ B) := by
  have h4 := wput_pre (wc := (x :: cT q τ ct) ++ cS qs σ ct) (rest := B) (wa := (x :: cT q τ ct) ++ cS qs σ2 ct) (by rw [List.length_append, List.length_append]; rfl)
  have e : ((x :: cT q τ ct) ++ cS qs σ ct).length = 19 := rfl
  rw [e, List.append_assoc, List.append_assoc] at h4
  exact h4
theorem cNTS_adr {x : Nat × va_E} {q qs : Nat → Nat} {τ σ σ2 : Nat → Nat → Int32} {ct : Nat → ClassId} : ((x :: cT q τ ct) ++ cS qs σ2 ct).map Prod.fst = ((x :: cT q τ ct) ++ cS qs σ ct).map Prod.fst := by
  rw [List.map_append, List.map_append, cS_adr]
theorem okS_run {σ : Nat → Nat → Int32} (h : okS σ) (k : Nat) : okS (msRun σ k) := kfor_inv okS (fun i a ha => okS_slot ha) _ _ _ h
theorem okS_copy {ρ σ : Nat → Nat → Int32} (h : okS σ) : okS (msCopy ρ σ) := fun k hk => by
  have e : msCopy ρ σ 13 k = kcp 10 (σ 13) (ρ 13) k := rfl
  rw [e]
  unfold kcp
  rw [if_pos hk]
  exact h k hk
theorem okS_take {σ : Nat → Nat → Int32} (h : okS σ) (n v : Int32) : okS (msTake σ n v) := by
  unfold msTake
  split
  · unfold mrTake
    split
    · exact okS_rd (fun k hk => h k hk)
    · refine okS_rd (mrPut_pos (fun k hk => h k hk) ?_)
      exact okS_size h n
  · exact h
theorem okS_setLink {σ : Nat → Nat → Int32} (h : okS σ) (a b v : Int32) : okS (msSetLink σ a b v) := by
  unfold msSetLink
  split
  · exact okS_u2 (okS_u2 h (by decide)) (by decide)
  · exact h
theorem okS_setPower {σ : Nat → Nat → Int32} (h : okS σ) (a v : Int32) : okS (msSetPower σ a v) := by
  unfold msSetPower
  split
  · exact okS_u2 h (by decide)
  · exact h
/-- how many slots till nothing is missing -/
def mSc : Nat → Nat → (Nat → Nat → Int32) → Int32 × (Nat → Nat → Int32)
  | 0, _, ρ => (-1, ρ)
  | k + 1, i, ρ => if mrMissing (rd ρ) = 0 then (nI i, ρ) else mSc k (i + 1) (msRun ρ (1 : Int32).toNatClampNeg)
/-- one command of the text -/
def mExec (τ σ : Nat → Nat → Int32) : Bool × (Nat → Nat → Int32) :=
  if τ 0 2 = 33 then (true, msSetPower σ (τ 0 3) (if msOn σ (τ 0 3) = true then 0 else 1)) else if τ 0 2 = 43 then (true, msSetLink σ (τ 0 3) (τ 0 4) 1) else if τ 0 2 = 45 then (true, msSetLink σ (τ 0 3) (τ 0 4) 0)
  else if τ 0 2 = 116 then (if msCanTake σ (τ 0 3) = true then (true, msTake σ (τ 0 3) (τ 0 5)) else (false, σ)) else (true, msRun σ (τ 0 5).toNatClampNeg)
theorem okS_exec {τ σ : Nat → Nat → Int32} (h : okS σ) : okS (mExec τ σ).2 := by
  unfold mExec
  split
  · exact okS_setPower h _ _
  · split
    · exact okS_setLink h _ _ _
    · split
      · exact okS_setLink h _ _ _
      · split
        · split
          · exact okS_take h _ _
          · exact h
        · exact okS_run h _
/-- the commands of the text, one by one -/
def mRt : Nat → Nat → (Nat → Nat → Int32) → (Nat → Nat → Int32) → Int32 × (Nat → Nat → Int32) × (Nat → Nat → Int32)
  | 0, i, τ, σ => (nI i, τ, σ)
  | k + 1, i, τ, σ => if (mtCmd τ).1 = false then (nI i, (mtCmd τ).2, σ) else if (mExec (mtCmd τ).2 σ).1 = false then (nI i, (mtCmd τ).2, (mExec (mtCmd τ).2 σ).2) else if (mtSgn (mtCmd τ).2 59).1 = false then (nI (i + 1), (mtSgn (mtCmd τ).2 59).2, (mExec (mtCmd τ).2 σ).2) else mRt k (i + 1) (mtSgn (mtCmd τ).2 59).2 (mExec (mtCmd τ).2 σ).2
set_option maxRecDepth 100000 in
set_option maxHeartbeats 1000000 in
theorem c_X4_undo (l : Launch) (D : va_G) (ct : Nat → ClassId) (b : Nat) (qs qt qh qx : Nat → Nat) (gq : Nat → Nat) (σ γ : Nat → Nat → Int32) (o z : Int32) (rg : Nat → Option Nat) (j : Nat) (hz : ¬ z = 0) (hj : j < 6) (hi : mFloor (o + z - 1) 6 = nI j) (hg : rg j = some (gq 0)) (hb1 : zbit (γ 1) 100) (hb2 : zbit (γ 2) 10) : zT l D ct yX4_undo cX4_undo 2 (some .int) 4 103 0 0 [.ref b] ([cN b qs qt qh qx] ++ (cS qs σ ct ++ (cH qh o z rg ct ++ cS gq γ ct))) (zd (some (.int (if z ≤ 0 then z else z - 1))) ([cN b qs qt qh qx] ++ (cS qs (msCopy σ γ) ct ++ (cH qh o (if z ≤ 0 then z else z - 1) rg ct ++ cS gq γ ct)))) := by
  refine zT_of ([some (.ref b), none]) (by decide +kernel) rfl (Nat.le_of_ble_eq_true rfl) ?_
  intro p e s m args below meth c hC hr hnm
  refine z_aload_n hC dX4_undo_0 rfl ?_
  refine z_get 0 2 hC bl_X4 (ci := 4) rfl (by decide) rfl bw_21 rfl rfl dX4_undo_1 ?_
  refine z_callVN [17, 18] 0 0 hC (c_X0_newest1 l D ct qh o z rg (gq 0) j hz hj hi hg) nw_62 bw_542 bw_543 bw_20 bw_544 0 (by decide +kernel) rfl rfl rfl rfl rfl ⟨Nat.le_of_ble_eq_true rfl, Nat.le_of_ble_eq_true rfl⟩ (Nat.le_of_ble_eq_true rfl) ⟨Nat.le_of_ble_eq_true rfl, Nat.le_of_ble_eq_true rfl⟩ rfl dX4_undo_4 ?_
  refine zkq (G := fun v1 w1 => zG p l e _ s m args below meth c D _ _ _ _ _ _ _ (v1.toList ++ _) w1) rfl ?_
  refine z_astore_n hC dX4_undo_7 (by decide) rfl ?_
  refine z_aload_n hC dX4_undo_8 rfl ?_
  refine z_ifnonnull hC 22 dX4_undo_9 (by decide) ?_
  refine z_aload_n hC dX4_undo_22 rfl ?_
  refine z_get 0 0 hC bl_X4 (ci := 4) rfl (by decide) rfl bw_16 rfl rfl dX4_undo_23 ?_
  refine z_aload_n hC dX4_undo_26 rfl ?_
  refine z_callVN [1, 2, 3, 4, 5, 6, 7, 8, 9, 10, 11, 12, 13, 14, 15, 16, 19, 20, 21, 22, 23, 24, 25, 26, 27, 28, 29, 30, 31, 32, 33, 34] 0 2 hC (c_X2_copyFrom l D ct qs gq σ γ hb1 hb2) nw_30 bw_102 bw_103 bw_15 bw_104 1 (by decide +kernel) rfl rfl rfl rfl rfl ⟨Nat.le_of_ble_eq_true rfl, Nat.le_of_ble_eq_true rfl⟩ (Nat.le_of_ble_eq_true rfl) ⟨Nat.le_of_ble_eq_true rfl, Nat.le_of_ble_eq_true rfl⟩ rfl dX4_undo_27 ?_
  refine zkd (G := fun v1 w1 => zG p l e _ s m args below meth c D _ _ _ _ _ _ _ (v1.toList ++ _) w1) (w2 := [cN b qs qt qh qx] ++ (cS qs (msCopy σ γ) ct ++ (cH qh o z rg ct ++ cS gq γ ct))) cNX_ud ?_
  obtain ⟨σ1, eσ1⟩ : ∃ zz_, zz_ = (msCopy σ γ) := ⟨_, rfl⟩
  rw [← eσ1]
  refine z_aload_n hC dX4_undo_30 rfl ?_
  refine z_get 0 2 hC bl_X4 (ci := 4) rfl (by decide) rfl bw_21 rfl rfl dX4_undo_31 ?_
  refine z_callVN [17, 18] 0 0 hC (c_X0_removeNewest l D ct qh o z rg) nw_63 bw_545 bw_546 bw_20 bw_547 0 (by decide +kernel) rfl rfl rfl rfl rfl ⟨Nat.le_of_ble_eq_true rfl, Nat.le_of_ble_eq_true rfl⟩ (Nat.le_of_ble_eq_true rfl) ⟨Nat.le_of_ble_eq_true rfl, Nat.le_of_ble_eq_true rfl⟩ rfl dX4_undo_34 ?_
  refine zkd (G := fun v1 w1 => zG p l e _ s m args below meth c D _ _ _ _ _ _ _ (v1.toList ++ _) w1) (w2 := [cN b qs qt qh qx] ++ (cS qs σ1 ct ++ (cH qh o (if z ≤ 0 then z else z - 1) rg ct ++ cS gq γ ct))) cNX_h ?_
  obtain ⟨zz2, ezz2⟩ : ∃ zz_, zz_ = (if z ≤ 0 then z else z - 1) := ⟨_, rfl⟩
  rw [← ezz2]
  refine z_aload_n hC dX4_undo_37 rfl ?_
  refine z_get 0 2 hC bl_X4 (ci := 4) rfl (by decide) rfl bw_21 rfl rfl dX4_undo_38 ?_
  refine z_getN 17 2 hC bl_X0 (ci := 0) rfl (by decide) rfl nw_18 rfl rfl dX4_undo_41 ?_
  exact z_iretd hC hr dX4_undo_44 (Nat.zero_le _) (Nat.zero_le _) (rfl) (rfl) cNX_uadr

set_option maxRecDepth 100000 in
set_option maxHeartbeats 1000000 in
theorem c_X4_ifRun (l : Launch) (D : va_G) (ct : Nat → ClassId) (b : Nat) (qs qt qh qx : Nat → Nat) (σ ρ : Nat → Nat → Int32) (hb1 : zbit (σ 1) 100) (hb2 : zbit (σ 2) 10) (hok : okS σ) (k : Int32) (h1 : ¬ k < 1) (h2 : ¬ 100 < k) : zT l D ct yX4_ifRun cX4_ifRun 2 (some .int) 6 152 0 0 [.ref b, .int k] ([cN b qs qt qh qx] ++ (cS qs σ ct ++ cS qt ρ ct)) (zd (some (.int (msRunR (msCopy ρ σ) k.toNatClampNeg))) ([cN b qs qt qh qx] ++ (cS qs σ ct ++ cS qt (msRun (msCopy ρ σ) k.toNatClampNeg) ct))) := by
  refine zT_of ([some (.ref b), some (.int k)]) (by decide +kernel) rfl (Nat.le_of_ble_eq_true rfl) ?_
  intro p e s m args below meth c hC hr hnm
  refine z_iload_n hC dX4_ifRun_0 rfl ?_
  refine z_iconst (v := 1) hC dX4_ifRun_1 (by decide) ?_
  refine z_bipush (v := 100) hC dX4_ifRun_2 (by decide) ?_
  refine z_callS [] hC (c_X4_checkRange l D ct k 1 100 h1 h2) bw_199 bw_200 bw_2 bw_201 3 (by decide +kernel) rfl rfl rfl ⟨Nat.le_of_ble_eq_true rfl, Nat.le_of_ble_eq_true rfl⟩ (Nat.le_of_ble_eq_true rfl) ⟨Nat.le_of_ble_eq_true rfl, Nat.le_of_ble_eq_true rfl⟩ rfl dX4_ifRun_4 ?_
  refine zkq (G := fun v1 w1 => zG p l e _ s m args below meth c D _ _ _ _ _ _ _ (v1.toList ++ _) w1) rfl ?_
  refine z_aload_n hC dX4_ifRun_7 rfl ?_
  refine z_get 0 1 hC bl_X4 (ci := 4) rfl (by decide) rfl bw_17 rfl rfl dX4_ifRun_8 ?_
  refine z_aload_n hC dX4_ifRun_11 rfl ?_
  refine z_get 0 0 hC bl_X4 (ci := 4) rfl (by decide) rfl bw_16 rfl rfl dX4_ifRun_12 ?_
  refine z_callVN [17, 18, 19, 20, 21, 22, 23, 24, 25, 26, 27, 28, 29, 30, 31, 32, 1, 2, 3, 4, 5, 6, 7, 8, 9, 10, 11, 12, 13, 14, 15, 16] 0 2 hC (c_X2_copyFrom l D ct qt qs ρ σ hb1 hb2) nw_30 bw_102 bw_103 bw_15 bw_104 1 (by decide +kernel) rfl rfl rfl rfl rfl ⟨Nat.le_of_ble_eq_true rfl, Nat.le_of_ble_eq_true rfl⟩ (Nat.le_of_ble_eq_true rfl) ⟨Nat.le_of_ble_eq_true rfl, Nat.le_of_ble_eq_true rfl⟩ rfl dX4_ifRun_15 ?_
  refine zkd (G := fun v1 w1 => zG p l e _ s m args below meth c D _ _ _ _ _ _ _ (v1.toList ++ _) w1) (w2 := [cN b qs qt qh qx] ++ (cS qs σ ct ++ cS qt (msCopy ρ σ) ct)) cNX_two ?_
  obtain ⟨ρ1, eρ1⟩ : ∃ zz_, zz_ = (msCopy ρ σ) := ⟨_, rfl⟩
  rw [← eρ1]
  refine z_aload_n hC dX4_ifRun_18 rfl ?_
  refine z_get 0 1 hC bl_X4 (ci := 4) rfl (by decide) rfl bw_17 rfl rfl dX4_ifRun_19 ?_
  refine z_iload_n hC dX4_ifRun_22 rfl ?_
  refine z_callVN [17, 18, 19, 20, 21, 22, 23, 24, 25, 26, 27, 28, 29, 30, 31, 32] 0 2 hC (c_X2_runSlots l D ct qt ρ1 k (by rw [eρ1]; exact okS_copy hok)) nw_35 bw_292 bw_293 bw_15 bw_294 1 (by decide +kernel) rfl rfl rfl rfl rfl ⟨Nat.le_of_ble_eq_true rfl, Nat.le_of_ble_eq_true rfl⟩ (Nat.le_of_ble_eq_true rfl) ⟨Nat.le_of_ble_eq_true rfl, Nat.le_of_ble_eq_true rfl⟩ rfl dX4_ifRun_23 ?_
  refine zkd (G := fun v1 w1 => zG p l e _ s m args below meth c D _ _ _ _ _ _ _ (v1.toList ++ _) w1) (w2 := [cN b qs qt qh qx] ++ (cS qs σ ct ++ cS qt (msRun ρ1 k.toNatClampNeg) ct)) cNX_sec ?_
  obtain ⟨ρ2, eρ2⟩ : ∃ zz_, zz_ = (msRun ρ1 k.toNatClampNeg) := ⟨_, rfl⟩
  rw [← eρ2]
  exact z_iretd hC hr dX4_ifRun_26 (Nat.zero_le _) (Nat.zero_le _) (rfl) (rfl) cNX_adr

set_option maxRecDepth 100000 in
set_option maxHeartbeats 1000000 in
theorem c_X4_slotsToCollect (l : Launch) (D : va_G) (ct : Nat → ClassId) (b : Nat) (qs qt qh qx : Nat → Nat) (σ ρ : Nat → Nat → Int32) (hb1 : zbit (σ 1) 100) (hb2 : zbit (σ 2) 10) (hok : okS σ) (R : Int32 × (Nat → Nat → Int32)) (hR : mSc 401 0 (msCopy ρ σ) = R) : zT l D ct yX4_slotsToCollect cX4_slotsToCollect 2 (some .int) 6 152 0 0 [.ref b] ([cN b qs qt qh qx] ++ (cS qs σ ct ++ cS qt ρ ct)) (zd (some (.int R.1)) ([cN b qs qt qh qx] ++ (cS qs σ ct ++ cS qt R.2 ct))) := by
  refine zT_of ([some (.ref b), none]) (by decide +kernel) rfl (Nat.le_of_ble_eq_true rfl) ?_
  intro p e s m args below meth c hC hr hnm
  refine z_aload_n hC dX4_slotsToCollect_0 rfl ?_
  refine z_get 0 1 hC bl_X4 (ci := 4) rfl (by decide) rfl bw_17 rfl rfl dX4_slotsToCollect_1 ?_
  refine z_aload_n hC dX4_slotsToCollect_4 rfl ?_
  refine z_get 0 0 hC bl_X4 (ci := 4) rfl (by decide) rfl bw_16 rfl rfl dX4_slotsToCollect_5 ?_
  refine z_callVN [17, 18, 19, 20, 21, 22, 23, 24, 25, 26, 27, 28, 29, 30, 31, 32, 1, 2, 3, 4, 5, 6, 7, 8, 9, 10, 11, 12, 13, 14, 15, 16] 0 2 hC (c_X2_copyFrom l D ct qt qs ρ σ hb1 hb2) nw_30 bw_102 bw_103 bw_15 bw_104 1 (by decide +kernel) rfl rfl rfl rfl rfl ⟨Nat.le_of_ble_eq_true rfl, Nat.le_of_ble_eq_true rfl⟩ (Nat.le_of_ble_eq_true rfl) ⟨Nat.le_of_ble_eq_true rfl, Nat.le_of_ble_eq_true rfl⟩ rfl dX4_slotsToCollect_8 ?_
  refine zkd (G := fun v1 w1 => zG p l e _ s m args below meth c D _ _ _ _ _ _ _ (v1.toList ++ _) w1) (w2 := [cN b qs qt qh qx] ++ (cS qs σ ct ++ cS qt (msCopy ρ σ) ct)) cNX_two ?_
  obtain ⟨ρ1, eρ1⟩ : ∃ zz_, zz_ = (msCopy ρ σ) := ⟨_, rfl⟩
  rw [← eρ1]
  refine z_iconst (v := 0) hC dX4_slotsToCollect_11 (by decide) ?_
  refine z_istore_n hC dX4_slotsToCollect_12 (by decide) rfl ?_
  have loop13 : ∀ (kf i : Nat) (ρx : Nat → Nat → Int32) (hki : kf + i = 401) (hokx : okS ρx) (hF : mSc kf i ρx = R), zG p l e { frames := 6, cells := 0, slots := 0, locals := 152 } s m args below meth c D (va_A ([cN b qs qt qh qx] ++ (cS qs σ ct ++ cS qt ρ ct)) s.heap.size) 2 (MQ below (zQ D ct ([cN b qs qt qh qx] ++ (cS qs σ ct ++ cS qt ρ ct)) s.heap.size (zd (some (.int R.1)) ([cN b qs qt qh qx] ++ (cS qs σ ct ++ cS qt R.2 ct)))) args s 0 0 (va_A ([cN b qs qt qh qx] ++ (cS qs σ ct ++ cS qt ρ ct)) s.heap.size)) 0 0 13 [some (.ref b), some (.int (nI i))] [] ([cN b qs qt qh qx] ++ (cS qs σ ct ++ cS qt ρx ct)) := by
    intro kf
    induction kf with
    | zero =>
      intro i ρx hki hokx hF
      refine z_iload_n hC dX4_slotsToCollect_13 rfl ?_
      refine z_sipush (v := 400) hC dX4_slotsToCollect_14 (by decide) ?_
      refine z_icmp_gt hC 50 dX4_slotsToCollect_17 (by decide) (fun c17 => ?_) (fun c17 => absurd (kgt1 400 rfl (by omega) (by omega)) c17)
      refine z_iconst (v := (-1)) hC dX4_slotsToCollect_50 (by decide) ?_
      exact z_iretd hC hr dX4_slotsToCollect_51 (Nat.zero_le _) (Nat.zero_le _) (by rw [← hF]; rfl) (congrArg (fun z => [cN b qs qt qh qx] ++ (cS qs σ ct ++ cS qt z ct)) (by rw [← hF]; rfl)) cNX_adr
    | succ kf ih =>
      intro i ρx hki hokx hF
      refine z_iload_n hC dX4_slotsToCollect_13 rfl ?_
      refine z_sipush (v := 400) hC dX4_slotsToCollect_14 (by decide) ?_
      refine z_icmp_gt hC 50 dX4_slotsToCollect_17 (by decide) (fun c17 => absurd c17 (kgt0 400 rfl (by omega) (by decide))) (fun c17 => ?_)
      refine z_aload_n hC dX4_slotsToCollect_20 rfl ?_
      refine z_get 0 1 hC bl_X4 (ci := 4) rfl (by decide) rfl bw_17 rfl rfl dX4_slotsToCollect_21 ?_
      refine z_getN 17 7 hC bl_X2 (ci := 2) rfl (by decide) rfl nw_9 rfl rfl dX4_slotsToCollect_24 ?_
      refine z_callVN [25, 26, 27, 28, 29, 30, 31, 32] 0 1 hC (c_X1_missingCount l D ct (fun i => qt (8 + i)) (rd ρx)) nw_28 bw_707 bw_708 bw_40 bw_709 0 (by decide +kernel) rfl rfl rfl rfl rfl ⟨Nat.le_of_ble_eq_true rfl, Nat.le_of_ble_eq_true rfl⟩ (Nat.le_of_ble_eq_true rfl) ⟨Nat.le_of_ble_eq_true rfl, Nat.le_of_ble_eq_true rfl⟩ rfl dX4_slotsToCollect_27 ?_
      refine zkq (G := fun v1 w1 => zG p l e _ s m args below meth c D _ _ _ _ _ _ _ (v1.toList ++ _) w1) rfl ?_
      refine z_if_ne hC 35 dX4_slotsToCollect_30 (by decide) (fun c30 => ?_) (fun c30 => ?_)
      · refine z_aload_n hC dX4_slotsToCollect_35 rfl ?_
        refine z_get 0 1 hC bl_X4 (ci := 4) rfl (by decide) rfl bw_17 rfl rfl dX4_slotsToCollect_36 ?_
        refine z_iconst (v := 1) hC dX4_slotsToCollect_39 (by decide) ?_
        refine z_callVN [17, 18, 19, 20, 21, 22, 23, 24, 25, 26, 27, 28, 29, 30, 31, 32] 0 2 hC (c_X2_runSlots l D ct qt ρx (1 : Int32) hokx) nw_35 bw_292 bw_293 bw_15 bw_294 1 (by decide +kernel) rfl rfl rfl rfl rfl ⟨Nat.le_of_ble_eq_true rfl, Nat.le_of_ble_eq_true rfl⟩ (Nat.le_of_ble_eq_true rfl) ⟨Nat.le_of_ble_eq_true rfl, Nat.le_of_ble_eq_true rfl⟩ rfl dX4_slotsToCollect_40 ?_
        refine zkd (G := fun v1 w1 => zG p l e _ s m args below meth c D _ _ _ _ _ _ _ (v1.toList ++ _) w1) (w2 := [cN b qs qt qh qx] ++ (cS qs σ ct ++ cS qt (msRun ρx (1 : Int32).toNatClampNeg) ct)) cNX_sec ?_
        obtain ⟨ρ2, eρ2⟩ : ∃ zz_, zz_ = (msRun ρx (1 : Int32).toNatClampNeg) := ⟨_, rfl⟩
        rw [← eρ2]
        refine z_pop hC dX4_slotsToCollect_43 rfl ?_
        refine z_iinc (cn := 1) hC dX4_slotsToCollect_44 (by decide) (by decide) rfl rfl ?_
        refine z_goto hC 13 dX4_slotsToCollect_47 (by decide) ?_
        rw [nI_1]
        exact ih (i + 1) ρ2 (by omega) (by rw [eρ2]; exact okS_run hokx _) (by rw [← hF, eρ2]; simp [mSc, c17, c30, i_nlt.mp c17])
      · refine z_iload_n hC dX4_slotsToCollect_33 rfl ?_
        exact z_iretd hC hr dX4_slotsToCollect_34 (Nat.zero_le _) (Nat.zero_le _) (by rw [← hF]; simp [mSc, c17, c30, i_nlt.mp c17]) (congrArg (fun z => [cN b qs qt qh qx] ++ (cS qs σ ct ++ cS qt z ct)) (by rw [← hF]; simp [mSc, c17, c30, i_nlt.mp c17])) cNX_adr
  exact loop13 401 0 ρ1 rfl (by rw [eρ1]; exact okS_copy hok) (by rw [eρ1]; exact hR)

set_option maxRecDepth 100000 in
set_option maxHeartbeats 1000000 in
theorem c_X4_executeCommand (l : Launch) (D : va_G) (ct : Nat → ClassId) (b : Nat) (qs qt qh qx : Nat → Nat) (τ σ : Nat → Nat → Int32) (hok : okS σ) (E : Bool × (Nat → Nat → Int32)) (hE : mExec τ σ = E) : zT l D ct yX4_executeCommand cX4_executeCommand 1 (some .boolean) 6 152 0 0 [.ref b] ((cN b qs qt qh qx :: cT qx τ ct) ++ cS qs σ ct) (zd (some (.int (bI E.1))) ((cN b qs qt qh qx :: cT qx τ ct) ++ cS qs E.2 ct)) := by
  refine zT_of ([some (.ref b)]) (by decide +kernel) rfl (Nat.le_of_ble_eq_true rfl) ?_
  intro p e s m args below meth c hC hr hnm
  refine z_aload_n hC dX4_executeCommand_0 rfl ?_
  refine z_get 0 3 hC bl_X4 (ci := 4) rfl (by decide) rfl bw_25 rfl rfl dX4_executeCommand_1 ?_
  refine z_getN 1 3 hC bl_X3 (ci := 3) rfl (by decide) rfl nw_22 rfl rfl dX4_executeCommand_4 ?_
  by_cases s7_33 : (τ 0 2) = 33
  · refine z_lookup (off := 89) hC 96 dX4_executeCommand_7 (by decide) (by rw [s7_33]; first | rfl | decide) (by decide) ?_
    refine z_aload_n hC dX4_executeCommand_96 rfl ?_
    refine z_get 0 0 hC bl_X4 (ci := 4) rfl (by decide) rfl bw_16 rfl rfl dX4_executeCommand_97 ?_
    refine z_aload_n hC dX4_executeCommand_100 rfl ?_
    refine z_get 0 3 hC bl_X4 (ci := 4) rfl (by decide) rfl bw_25 rfl rfl dX4_executeCommand_101 ?_
    refine z_getN 1 4 hC bl_X3 (ci := 3) rfl (by decide) rfl nw_23 rfl rfl dX4_executeCommand_104 ?_
    refine z_aload_n hC dX4_executeCommand_107 rfl ?_
    refine z_get 0 0 hC bl_X4 (ci := 4) rfl (by decide) rfl bw_16 rfl rfl dX4_executeCommand_108 ?_
    refine z_aload_n hC dX4_executeCommand_111 rfl ?_
    refine z_get 0 3 hC bl_X4 (ci := 4) rfl (by decide) rfl bw_25 rfl rfl dX4_executeCommand_112 ?_
    refine z_getN 1 4 hC bl_X3 (ci := 3) rfl (by decide) rfl nw_23 rfl rfl dX4_executeCommand_115 ?_
    refine z_callVN [3, 4, 5, 6, 7, 8, 9, 10, 11, 12, 13, 14, 15, 16, 17, 18] 0 2 hC (c_X2_isOn l D ct qs σ (τ 0 3)) nw_60 bw_313 bw_314 bw_15 bw_315 1 (by decide +kernel) rfl rfl rfl rfl rfl ⟨Nat.le_of_ble_eq_true rfl, Nat.le_of_ble_eq_true rfl⟩ (Nat.le_of_ble_eq_true rfl) ⟨Nat.le_of_ble_eq_true rfl, Nat.le_of_ble_eq_true rfl⟩ rfl dX4_executeCommand_118 ?_
    refine zkq (G := fun v1 w1 => zG p l e _ s m args below meth c D _ _ _ _ _ _ _ (v1.toList ++ _) w1) rfl ?_
    refine z_if_ne hC 128 dX4_executeCommand_121 (by decide) (fun c121 => ?_) (fun c121 => ?_)
    · rw [bI_1] at c121
      refine z_iconst (v := 0) hC dX4_executeCommand_128 (by decide) ?_
      refine z_callVN [3, 4, 5, 6, 7, 8, 9, 10, 11, 12, 13, 14, 15, 16, 17, 18] 0 2 hC (c_X2_setPower l D ct qs σ (τ 0 3) 0) nw_52 bw_175 bw_176 bw_15 bw_177 2 (by decide +kernel) rfl rfl rfl rfl rfl ⟨Nat.le_of_ble_eq_true rfl, Nat.le_of_ble_eq_true rfl⟩ (Nat.le_of_ble_eq_true rfl) ⟨Nat.le_of_ble_eq_true rfl, Nat.le_of_ble_eq_true rfl⟩ rfl dX4_executeCommand_129 ?_
      refine zkd (G := fun v1 w1 => zG p l e _ s m args below meth c D _ _ _ _ _ _ _ (v1.toList ++ _) w1) (w2 := (cN b qs qt qh qx :: cT qx τ ct) ++ cS qs (msSetPower σ (τ 0 3) 0) ct) cNTS_s0 ?_
      obtain ⟨σ1, eσ1⟩ : ∃ zz_, zz_ = (msSetPower σ (τ 0 3) 0) := ⟨_, rfl⟩
      rw [← eσ1]
      refine z_iconst (v := 1) hC dX4_executeCommand_132 (by decide) ?_
      exact z_zretd hC hr (rfl) dX4_executeCommand_133 (Nat.zero_le _) (Nat.zero_le _) (by rw [← hE]; simp [mExec, bI, s7_33, c121]) (congrArg (fun z => (cN b qs qt qh qx :: cT qx τ ct) ++ cS qs z ct) (by rw [← hE]; subst eσ1; simp [mExec, s7_33, c121])) cNTS_adr
    · rw [bI_0] at c121
      refine z_iconst (v := 1) hC dX4_executeCommand_124 (by decide) ?_
      refine z_goto hC 129 dX4_executeCommand_125 (by decide) ?_
      refine z_callVN [3, 4, 5, 6, 7, 8, 9, 10, 11, 12, 13, 14, 15, 16, 17, 18] 0 2 hC (c_X2_setPower l D ct qs σ (τ 0 3) 1) nw_52 bw_175 bw_176 bw_15 bw_177 2 (by decide +kernel) rfl rfl rfl rfl rfl ⟨Nat.le_of_ble_eq_true rfl, Nat.le_of_ble_eq_true rfl⟩ (Nat.le_of_ble_eq_true rfl) ⟨Nat.le_of_ble_eq_true rfl, Nat.le_of_ble_eq_true rfl⟩ rfl dX4_executeCommand_129 ?_
      refine zkd (G := fun v1 w1 => zG p l e _ s m args below meth c D _ _ _ _ _ _ _ (v1.toList ++ _) w1) (w2 := (cN b qs qt qh qx :: cT qx τ ct) ++ cS qs (msSetPower σ (τ 0 3) 1) ct) cNTS_s0 ?_
      obtain ⟨σ2, eσ2⟩ : ∃ zz_, zz_ = (msSetPower σ (τ 0 3) 1) := ⟨_, rfl⟩
      rw [← eσ2]
      refine z_iconst (v := 1) hC dX4_executeCommand_132 (by decide) ?_
      exact z_zretd hC hr (rfl) dX4_executeCommand_133 (Nat.zero_le _) (Nat.zero_le _) (by rw [← hE]; simp [mExec, bI, s7_33, c121]) (congrArg (fun z => (cN b qs qt qh qx :: cT qx τ ct) ++ cS qs z ct) (by rw [← hE]; subst eσ2; simp [mExec, s7_33, c121])) cNTS_adr
  by_cases s7_43 : (τ 0 2) = 43
  · refine z_lookup (off := 41) hC 48 dX4_executeCommand_7 (by decide) (by rw [s7_43]; first | rfl | decide) (by decide) ?_
    refine z_aload_n hC dX4_executeCommand_48 rfl ?_
    refine z_get 0 0 hC bl_X4 (ci := 4) rfl (by decide) rfl bw_16 rfl rfl dX4_executeCommand_49 ?_
    refine z_aload_n hC dX4_executeCommand_52 rfl ?_
    refine z_get 0 3 hC bl_X4 (ci := 4) rfl (by decide) rfl bw_25 rfl rfl dX4_executeCommand_53 ?_
    refine z_getN 1 4 hC bl_X3 (ci := 3) rfl (by decide) rfl nw_23 rfl rfl dX4_executeCommand_56 ?_
    refine z_aload_n hC dX4_executeCommand_59 rfl ?_
    refine z_get 0 3 hC bl_X4 (ci := 4) rfl (by decide) rfl bw_25 rfl rfl dX4_executeCommand_60 ?_
    refine z_getN 1 5 hC bl_X3 (ci := 3) rfl (by decide) rfl nw_24 rfl rfl dX4_executeCommand_63 ?_
    refine z_iconst (v := 1) hC dX4_executeCommand_66 (by decide) ?_
    refine z_callVN [3, 4, 5, 6, 7, 8, 9, 10, 11, 12, 13, 14, 15, 16, 17, 18] 0 2 hC (c_X2_setLink l D ct qs σ (τ 0 3) (τ 0 4) 1) nw_50 bw_127 bw_128 bw_15 bw_129 3 (by decide +kernel) rfl rfl rfl rfl rfl ⟨Nat.le_of_ble_eq_true rfl, Nat.le_of_ble_eq_true rfl⟩ (Nat.le_of_ble_eq_true rfl) ⟨Nat.le_of_ble_eq_true rfl, Nat.le_of_ble_eq_true rfl⟩ rfl dX4_executeCommand_67 ?_
    refine zkd (G := fun v1 w1 => zG p l e _ s m args below meth c D _ _ _ _ _ _ _ (v1.toList ++ _) w1) (w2 := (cN b qs qt qh qx :: cT qx τ ct) ++ cS qs (msSetLink σ (τ 0 3) (τ 0 4) 1) ct) cNTS_s0 ?_
    obtain ⟨σ3, eσ3⟩ : ∃ zz_, zz_ = (msSetLink σ (τ 0 3) (τ 0 4) 1) := ⟨_, rfl⟩
    rw [← eσ3]
    refine z_iconst (v := 1) hC dX4_executeCommand_70 (by decide) ?_
    exact z_zretd hC hr (rfl) dX4_executeCommand_71 (Nat.zero_le _) (Nat.zero_le _) (by rw [← hE]; simp [mExec, bI, s7_33, s7_43]) (congrArg (fun z => (cN b qs qt qh qx :: cT qx τ ct) ++ cS qs z ct) (by rw [← hE]; subst eσ3; simp [mExec, s7_33, s7_43])) cNTS_adr
  by_cases s7_45 : (τ 0 2) = 45
  · refine z_lookup (off := 65) hC 72 dX4_executeCommand_7 (by decide) (by rw [s7_45]; first | rfl | decide) (by decide) ?_
    refine z_aload_n hC dX4_executeCommand_72 rfl ?_
    refine z_get 0 0 hC bl_X4 (ci := 4) rfl (by decide) rfl bw_16 rfl rfl dX4_executeCommand_73 ?_
    refine z_aload_n hC dX4_executeCommand_76 rfl ?_
    refine z_get 0 3 hC bl_X4 (ci := 4) rfl (by decide) rfl bw_25 rfl rfl dX4_executeCommand_77 ?_
    refine z_getN 1 4 hC bl_X3 (ci := 3) rfl (by decide) rfl nw_23 rfl rfl dX4_executeCommand_80 ?_
    refine z_aload_n hC dX4_executeCommand_83 rfl ?_
    refine z_get 0 3 hC bl_X4 (ci := 4) rfl (by decide) rfl bw_25 rfl rfl dX4_executeCommand_84 ?_
    refine z_getN 1 5 hC bl_X3 (ci := 3) rfl (by decide) rfl nw_24 rfl rfl dX4_executeCommand_87 ?_
    refine z_iconst (v := 0) hC dX4_executeCommand_90 (by decide) ?_
    refine z_callVN [3, 4, 5, 6, 7, 8, 9, 10, 11, 12, 13, 14, 15, 16, 17, 18] 0 2 hC (c_X2_setLink l D ct qs σ (τ 0 3) (τ 0 4) 0) nw_50 bw_127 bw_128 bw_15 bw_129 3 (by decide +kernel) rfl rfl rfl rfl rfl ⟨Nat.le_of_ble_eq_true rfl, Nat.le_of_ble_eq_true rfl⟩ (Nat.le_of_ble_eq_true rfl) ⟨Nat.le_of_ble_eq_true rfl, Nat.le_of_ble_eq_true rfl⟩ rfl dX4_executeCommand_91 ?_
    refine zkd (G := fun v1 w1 => zG p l e _ s m args below meth c D _ _ _ _ _ _ _ (v1.toList ++ _) w1) (w2 := (cN b qs qt qh qx :: cT qx τ ct) ++ cS qs (msSetLink σ (τ 0 3) (τ 0 4) 0) ct) cNTS_s0 ?_
    obtain ⟨σ4, eσ4⟩ : ∃ zz_, zz_ = (msSetLink σ (τ 0 3) (τ 0 4) 0) := ⟨_, rfl⟩
    rw [← eσ4]
    refine z_iconst (v := 1) hC dX4_executeCommand_94 (by decide) ?_
    exact z_zretd hC hr (rfl) dX4_executeCommand_95 (Nat.zero_le _) (Nat.zero_le _) (by rw [← hE]; simp [mExec, bI, s7_33, s7_43, s7_45]) (congrArg (fun z => (cN b qs qt qh qx :: cT qx τ ct) ++ cS qs z ct) (by rw [← hE]; subst eσ4; simp [mExec, s7_33, s7_43, s7_45])) cNTS_adr
  by_cases s7_116 : (τ 0 2) = 116
  · refine z_lookup (off := 127) hC 134 dX4_executeCommand_7 (by decide) (by rw [s7_116]; first | rfl | decide) (by decide) ?_
    refine z_aload_n hC dX4_executeCommand_134 rfl ?_
    refine z_get 0 0 hC bl_X4 (ci := 4) rfl (by decide) rfl bw_16 rfl rfl dX4_executeCommand_135 ?_
    refine z_aload_n hC dX4_executeCommand_138 rfl ?_
    refine z_get 0 3 hC bl_X4 (ci := 4) rfl (by decide) rfl bw_25 rfl rfl dX4_executeCommand_139 ?_
    refine z_getN 1 4 hC bl_X3 (ci := 3) rfl (by decide) rfl nw_23 rfl rfl dX4_executeCommand_142 ?_
    refine z_callVN [3, 4, 5, 6, 7, 8, 9, 10, 11, 12, 13, 14, 15, 16, 17, 18] 0 2 hC (c_X2_canTake l D ct qs σ (τ 0 3)) nw_54 bw_245 bw_246 bw_15 bw_247 1 (by decide +kernel) rfl rfl rfl rfl rfl ⟨Nat.le_of_ble_eq_true rfl, Nat.le_of_ble_eq_true rfl⟩ (Nat.le_of_ble_eq_true rfl) ⟨Nat.le_of_ble_eq_true rfl, Nat.le_of_ble_eq_true rfl⟩ rfl dX4_executeCommand_145 ?_
    refine zkq (G := fun v1 w1 => zG p l e _ s m args below meth c D _ _ _ _ _ _ _ (v1.toList ++ _) w1) rfl ?_
    refine z_if_ne hC 153 dX4_executeCommand_148 (by decide) (fun c148 => ?_) (fun c148 => ?_)
    · rw [bI_1] at c148
      refine z_aload_n hC dX4_executeCommand_153 rfl ?_
      refine z_get 0 0 hC bl_X4 (ci := 4) rfl (by decide) rfl bw_16 rfl rfl dX4_executeCommand_154 ?_
      refine z_aload_n hC dX4_executeCommand_157 rfl ?_
      refine z_get 0 3 hC bl_X4 (ci := 4) rfl (by decide) rfl bw_25 rfl rfl dX4_executeCommand_158 ?_
      refine z_getN 1 4 hC bl_X3 (ci := 3) rfl (by decide) rfl nw_23 rfl rfl dX4_executeCommand_161 ?_
      refine z_aload_n hC dX4_executeCommand_164 rfl ?_
      refine z_get 0 3 hC bl_X4 (ci := 4) rfl (by decide) rfl bw_25 rfl rfl dX4_executeCommand_165 ?_
      refine z_getN 1 6 hC bl_X3 (ci := 3) rfl (by decide) rfl nw_25 rfl rfl dX4_executeCommand_168 ?_
      refine z_callVN [3, 4, 5, 6, 7, 8, 9, 10, 11, 12, 13, 14, 15, 16, 17, 18] 0 2 hC (c_X2_takeReading l D ct qs σ (τ 0 3) (τ 0 5) hok) nw_55 bw_256 bw_257 bw_15 bw_258 2 (by decide +kernel) rfl rfl rfl rfl rfl ⟨Nat.le_of_ble_eq_true rfl, Nat.le_of_ble_eq_true rfl⟩ (Nat.le_of_ble_eq_true rfl) ⟨Nat.le_of_ble_eq_true rfl, Nat.le_of_ble_eq_true rfl⟩ rfl dX4_executeCommand_171 ?_
      refine zkd (G := fun v1 w1 => zG p l e _ s m args below meth c D _ _ _ _ _ _ _ (v1.toList ++ _) w1) (w2 := (cN b qs qt qh qx :: cT qx τ ct) ++ cS qs (msTake σ (τ 0 3) (τ 0 5)) ct) cNTS_s0 ?_
      obtain ⟨σ5, eσ5⟩ : ∃ zz_, zz_ = (msTake σ (τ 0 3) (τ 0 5)) := ⟨_, rfl⟩
      rw [← eσ5]
      refine z_pop hC dX4_executeCommand_174 rfl ?_
      refine z_iconst (v := 1) hC dX4_executeCommand_175 (by decide) ?_
      exact z_zretd hC hr (rfl) dX4_executeCommand_176 (Nat.zero_le _) (Nat.zero_le _) (by rw [← hE]; simp [mExec, bI, s7_33, s7_43, s7_45, s7_116, c148]) (congrArg (fun z => (cN b qs qt qh qx :: cT qx τ ct) ++ cS qs z ct) (by rw [← hE]; subst eσ5; simp [mExec, s7_33, s7_43, s7_45, s7_116, c148])) cNTS_adr
    · rw [bI_0] at c148
      refine z_iconst (v := 0) hC dX4_executeCommand_151 (by decide) ?_
      exact z_zretd hC hr (rfl) dX4_executeCommand_152 (Nat.zero_le _) (Nat.zero_le _) (by rw [← hE]; simp [mExec, bI, s7_33, s7_43, s7_45, s7_116, c148]) (congrArg (fun z => (cN b qs qt qh qx :: cT qx τ ct) ++ cS qs z ct) (by rw [← hE]; simp [mExec, s7_33, s7_43, s7_45, s7_116, c148])) cNTS_adr
  have t7_33 : (33 : Int32).toInt = 33 := rfl
  have n7_33 := mt i_eq.mpr s7_33
  have t7_43 : (43 : Int32).toInt = 43 := rfl
  have n7_43 := mt i_eq.mpr s7_43
  have t7_45 : (45 : Int32).toInt = 45 := rfl
  have n7_45 := mt i_eq.mpr s7_45
  have t7_116 : (116 : Int32).toInt = 116 := rfl
  have n7_116 := mt i_eq.mpr s7_116
  refine z_lookup (off := 170) hC 177 dX4_executeCommand_7 (by decide) (by have e7_33 : ¬ (33 : Int) = ((τ 0 2)).toInt := (by omega); have e7_43 : ¬ (43 : Int) = ((τ 0 2)).toInt := (by omega); have e7_45 : ¬ (45 : Int) = ((τ 0 2)).toInt := (by omega); have e7_116 : ¬ (116 : Int) = ((τ 0 2)).toInt := (by omega); simp [Op.lookupswitch.offset, e7_33, e7_43, e7_45, e7_116]) (by decide) ?_
  refine z_aload_n hC dX4_executeCommand_177 rfl ?_
  refine z_get 0 0 hC bl_X4 (ci := 4) rfl (by decide) rfl bw_16 rfl rfl dX4_executeCommand_178 ?_
  refine z_aload_n hC dX4_executeCommand_181 rfl ?_
  refine z_get 0 3 hC bl_X4 (ci := 4) rfl (by decide) rfl bw_25 rfl rfl dX4_executeCommand_182 ?_
  refine z_getN 1 6 hC bl_X3 (ci := 3) rfl (by decide) rfl nw_25 rfl rfl dX4_executeCommand_185 ?_
  refine z_callVN [3, 4, 5, 6, 7, 8, 9, 10, 11, 12, 13, 14, 15, 16, 17, 18] 0 2 hC (c_X2_runSlots l D ct qs σ (τ 0 5) hok) nw_35 bw_292 bw_293 bw_15 bw_294 1 (by decide +kernel) rfl rfl rfl rfl rfl ⟨Nat.le_of_ble_eq_true rfl, Nat.le_of_ble_eq_true rfl⟩ (Nat.le_of_ble_eq_true rfl) ⟨Nat.le_of_ble_eq_true rfl, Nat.le_of_ble_eq_true rfl⟩ rfl dX4_executeCommand_188 ?_
  refine zkd (G := fun v1 w1 => zG p l e _ s m args below meth c D _ _ _ _ _ _ _ (v1.toList ++ _) w1) (w2 := (cN b qs qt qh qx :: cT qx τ ct) ++ cS qs (msRun σ (τ 0 5).toNatClampNeg) ct) cNTS_s0 ?_
  obtain ⟨σ6, eσ6⟩ : ∃ zz_, zz_ = (msRun σ (τ 0 5).toNatClampNeg) := ⟨_, rfl⟩
  rw [← eσ6]
  refine z_pop hC dX4_executeCommand_191 rfl ?_
  refine z_iconst (v := 1) hC dX4_executeCommand_192 (by decide) ?_
  exact z_zretd hC hr (rfl) dX4_executeCommand_193 (Nat.zero_le _) (Nat.zero_le _) (by rw [← hE]; simp [mExec, bI, s7_33, s7_43, s7_45, s7_116]) (congrArg (fun z => (cN b qs qt qh qx :: cT qx τ ct) ++ cS qs z ct) (by rw [← hE]; subst eσ6; simp [mExec, s7_33, s7_43, s7_45, s7_116])) cNTS_adr

set_option maxRecDepth 100000 in
set_option maxHeartbeats 1000000 in
theorem c_X4_runText (l : Launch) (D : va_G) (ct : Nat → ClassId) (b : Nat) (qs qt qh qx : Nat → Nat) (τ σ : Nat → Nat → Int32) (o z : Int32) (rg : Nat → Option Nat) (og : Option ((Nat → Nat) × (Nat → Nat → Int32))) (j : Nat) (hj : j < 6) (hi : mFloor (o + z) 6 = nI j) (hg : rg j = ogA og) (hb1 : zbit (σ 1) 100) (hb2 : zbit (σ 2) 10) (hokt : okT (τ 1)) (hok : okS σ) (herr : (mtErr τ).1 = -1) (R : Int32 × (Nat → Nat → Int32) × (Nat → Nat → Int32)) (hR : mRt 80 0 (u2 (mtErr τ).2 0 1 0) σ = R) : zT l D ct yX4_runText cX4_runText 2 (some .int) 7 172 16 1633 [.ref b] ((cN b qs qt qh qx :: cT qx τ ct) ++ (cS qs σ ct ++ (cH qh o z rg ct ++ cO og ct))) (zS (some (.int R.1)) (cN b qs qt qh qx :: cT qx R.2.1 ct) qs qh R.2.2 (mhO o z) (mhZ z) rg j og (msCopy (ogB og) σ) ct) := by
  refine zT_of ([some (.ref b), none]) (by decide +kernel) rfl (Nat.le_of_ble_eq_true rfl) ?_
  intro p e s m args below meth c hC hr hnm
  refine z_aload_n hC dX4_runText_0 rfl ?_
  refine z_get 0 3 hC bl_X4 (ci := 4) rfl (by decide) rfl bw_25 rfl rfl dX4_runText_1 ?_
  refine z_callVN [1, 2] 0 3 hC (c_X3_findError l D ct qx τ hokt) nw_26 bw_445 bw_446 bw_24 bw_447 0 (by decide +kernel) rfl rfl rfl rfl rfl ⟨Nat.le_of_ble_eq_true rfl, Nat.le_of_ble_eq_true rfl⟩ (Nat.le_of_ble_eq_true rfl) ⟨Nat.le_of_ble_eq_true rfl, Nat.le_of_ble_eq_true rfl⟩ rfl dX4_runText_4 ?_
  refine zkd (G := fun v1 w1 => zG p l e _ s m args below meth c D _ _ _ _ _ _ _ (v1.toList ++ _) w1) (w2 := (cN b qs qt qh qx :: cT qx ((mtErr τ).2) ct) ++ (cS qs σ ct ++ (cH qh o z rg ct ++ cO og ct))) cNTS_t ?_
  obtain ⟨τ1, eτ1⟩ : ∃ zz_, zz_ = (mtErr τ).2 := ⟨_, rfl⟩
  rw [← eτ1]
  refine z_iconst (v := (-1)) hC dX4_runText_7 (by decide) ?_
  refine z_icmp_eq hC 21 dX4_runText_8 (by decide) (fun c8 => ?_) (fun c8 => absurd herr c8)
  refine z_aload_n hC dX4_runText_21 rfl ?_
  refine z_get 0 2 hC bl_X4 (ci := 4) rfl (by decide) rfl bw_21 rfl rfl dX4_runText_22 ?_
  refine z_aload_n hC dX4_runText_25 rfl ?_
  refine z_get 0 0 hC bl_X4 (ci := 4) rfl (by decide) rfl bw_16 rfl rfl dX4_runText_26 ?_
  refine z_save hC hj hi hg hb1 hb2 ⟨Nat.le_of_ble_eq_true rfl, Nat.le_of_ble_eq_true rfl⟩ (Nat.le_of_ble_eq_true rfl) ⟨Nat.le_of_ble_eq_true rfl, Nat.le_of_ble_eq_true rfl⟩ dX4_runText_29 (fun g' hg' => ?_)
  refine z_aload_n hC dX4_runText_32 rfl ?_
  refine z_get 0 3 hC bl_X4 (ci := 4) rfl (by decide) rfl bw_25 rfl rfl dX4_runText_33 ?_
  refine z_iconst (v := 0) hC dX4_runText_36 (by decide) ?_
  refine z_putN (ci := 3) 1 2 hC bl_X3 tyX3_ok nmX3 rfl (by decide) rfl nw_21 rfl rfl rfl rfl (Nat.lt_of_lt_of_le (by decide) (Nat.le_refl 7)) dX4_runText_37 (w2 := (cN b qs qt qh qx :: cT qx (u2 τ1 0 1 0) ct) ++ (cS qs σ ct ++ (cH qh (mhO o z) (mhZ z) (va_up rg j (some (g' 0))) ct ++ cS g' (msCopy (ogB og) σ) ct))) cNTS_f1 ?_
  obtain ⟨τ2, eτ2⟩ : ∃ zz_, zz_ = u2 τ1 0 1 0 := ⟨_, rfl⟩
  rw [← eτ2]
  refine z_iconst (v := 0) hC dX4_runText_40 (by decide) ?_
  refine z_istore_n hC dX4_runText_41 (by decide) rfl ?_
  have loop42 : ∀ (kf i : Nat) (τx σx : Nat → Nat → Int32) (hki : kf + i = 80) (hokx : okT (τx 1)) (hoks : okS σx) (hF : mRt kf i τx σx = R), zG p l e { frames := 7, cells := 16, slots := 1633, locals := 172 } s m args below meth c D (va_A ((cN b qs qt qh qx :: cT qx τ ct) ++ (cS qs σ ct ++ (cH qh o z rg ct ++ cO og ct))) s.heap.size) 2 (MQ below (zQ D ct ((cN b qs qt qh qx :: cT qx τ ct) ++ (cS qs σ ct ++ (cH qh o z rg ct ++ cO og ct))) s.heap.size (zS (some (.int R.1)) (cN b qs qt qh qx :: cT qx R.2.1 ct) qs qh R.2.2 (mhO o z) (mhZ z) rg j og (msCopy (ogB og) σ) ct)) args s 16 1633 (va_A ((cN b qs qt qh qx :: cT qx τ ct) ++ (cS qs σ ct ++ (cH qh o z rg ct ++ cO og ct))) s.heap.size)) 16 1633 42 [some (.ref b), some (.int (nI i))] [] ((cN b qs qt qh qx :: cT qx τx ct) ++ (cS qs σx ct ++ (cH qh (mhO o z) (mhZ z) (va_up rg j (some (g' 0))) ct ++ cS g' (msCopy (ogB og) σ) ct))) := by
    intro kf
    induction kf with
    | zero =>
      intro i τx σx hki hokx hoks hF
      refine z_iload_n hC dX4_runText_42 rfl ?_
      refine z_bipush (v := 80) hC dX4_runText_43 (by decide) ?_
      refine z_icmp_ge hC 82 dX4_runText_45 (by decide) (fun c45 => ?_) (fun c45 => absurd (kge 80 rfl (by omega) (by omega)) c45)
      refine z_iload_n hC dX4_runText_82 rfl ?_
      have hE : R = ((nI i), τx, σx) := by rw [← hF]; simp [mRt, nI_1, c8, c45, i_nlt.mpr c45]
      subst hE
      obtain ⟨wa, wb, hw, hadr⟩ := zS_split (X := cN b qs qt qh qx :: cT qx τx ct) (X0 := cN b qs qt qh qx :: cT qx τ ct) (qs := qs) (qh := qh) (g' := g') (σ := σ) (σ2 := σx) (γ2 := msCopy (ogB og) σ) (o := o) (z := z) (o2 := mhO o z) (z2 := mhZ z) (rg := rg) (j := j) (og := og) (ct := ct) cNT_adr hg'
      exact z_iret hC hr dX4_runText_83 (Nat.le_refl _) (Nat.le_refl _) ⟨rfl, g', hg', hw.symm⟩ hw hadr
    | succ kf ih =>
      intro i τx σx hki hokx hoks hF
      refine z_iload_n hC dX4_runText_42 rfl ?_
      refine z_bipush (v := 80) hC dX4_runText_43 (by decide) ?_
      refine z_icmp_ge hC 82 dX4_runText_45 (by decide) (fun c45 => absurd c45 (klt 80 rfl (by omega) (by decide))) (fun c45 => ?_)
      refine z_aload_n hC dX4_runText_48 rfl ?_
      refine z_get 0 3 hC bl_X4 (ci := 4) rfl (by decide) rfl bw_25 rfl rfl dX4_runText_49 ?_
      refine z_callVN [1, 2] 0 3 hC (c_X3_readCommand l D ct qx τx hokx) nw_59 bw_450 bw_451 bw_24 bw_452 0 (by decide +kernel) rfl rfl rfl rfl rfl ⟨Nat.le_of_ble_eq_true rfl, Nat.le_of_ble_eq_true rfl⟩ (Nat.le_of_ble_eq_true rfl) ⟨Nat.le_of_ble_eq_true rfl, Nat.le_of_ble_eq_true rfl⟩ rfl dX4_runText_52 ?_
      refine zkd (G := fun v1 w1 => zG p l e _ s m args below meth c D _ _ _ _ _ _ _ (v1.toList ++ _) w1) (w2 := (cN b qs qt qh qx :: cT qx ((mtCmd τx).2) ct) ++ (cS qs σx ct ++ (cH qh (mhO o z) (mhZ z) (va_up rg j (some (g' 0))) ct ++ cS g' (msCopy (ogB og) σ) ct))) cNTS_t ?_
      obtain ⟨τ3, eτ3⟩ : ∃ zz_, zz_ = (mtCmd τx).2 := ⟨_, rfl⟩
      rw [← eτ3]
      refine z_if_eq hC 82 dX4_runText_55 (by decide) (fun c55 => ?_) (fun c55 => ?_)
      · rw [bI_0] at c55
        refine z_iload_n hC dX4_runText_82 rfl ?_
        have hE : R = ((nI i), τ3, σx) := by rw [← hF]; subst eτ3; simp [mRt, nI_1, c8, c45, c55, i_nle.mp c45]
        subst hE
        obtain ⟨wa, wb, hw, hadr⟩ := zS_split (X := cN b qs qt qh qx :: cT qx τ3 ct) (X0 := cN b qs qt qh qx :: cT qx τ ct) (qs := qs) (qh := qh) (g' := g') (σ := σ) (σ2 := σx) (γ2 := msCopy (ogB og) σ) (o := o) (z := z) (o2 := mhO o z) (z2 := mhZ z) (rg := rg) (j := j) (og := og) (ct := ct) cNT_adr hg'
        exact z_iret hC hr dX4_runText_83 (Nat.le_refl _) (Nat.le_refl _) ⟨rfl, g', hg', hw.symm⟩ hw hadr
      · rw [bI_1] at c55
        refine z_aload_n hC dX4_runText_58 rfl ?_
        refine z_callV [0, 1, 2, 3, 4, 5, 6, 7, 8, 9, 10, 11, 12, 13, 14, 15, 16, 17, 18] 0 4 hC (c_X4_executeCommand l D ct b qs qt qh qx τ3 σx hoks (mExec τ3 σx) rfl) bw_523 bw_524 bw_525 bw_2 bw_526 0 (by decide +kernel) rfl rfl rfl rfl rfl ⟨Nat.le_of_ble_eq_true rfl, Nat.le_of_ble_eq_true rfl⟩ (Nat.le_of_ble_eq_true rfl) ⟨Nat.le_of_ble_eq_true rfl, Nat.le_of_ble_eq_true rfl⟩ rfl dX4_runText_59 ?_
        refine zkd (G := fun v1 w1 => zG p l e _ s m args below meth c D _ _ _ _ _ _ _ (v1.toList ++ _) w1) (w2 := (cN b qs qt qh qx :: cT qx τ3 ct) ++ (cS qs ((mExec τ3 σx).2) ct ++ (cH qh (mhO o z) (mhZ z) (va_up rg j (some (g' 0))) ct ++ cS g' (msCopy (ogB og) σ) ct))) cNTS_e ?_
        obtain ⟨σ4, eσ4⟩ : ∃ zz_, zz_ = (mExec τ3 σx).2 := ⟨_, rfl⟩
        rw [← eσ4]
        refine z_if_eq hC 82 dX4_runText_62 (by decide) (fun c62 => ?_) (fun c62 => ?_)
        · rw [bI_0] at c62
          refine z_iload_n hC dX4_runText_82 rfl ?_
          have hE : R = ((nI i), τ3, σ4) := by rw [← hF]; subst eσ4; subst eτ3; simp [mRt, nI_1, c8, c45, c55, c62, i_nle.mp c45]
          subst hE
          obtain ⟨wa, wb, hw, hadr⟩ := zS_split (X := cN b qs qt qh qx :: cT qx τ3 ct) (X0 := cN b qs qt qh qx :: cT qx τ ct) (qs := qs) (qh := qh) (g' := g') (σ := σ) (σ2 := σ4) (γ2 := msCopy (ogB og) σ) (o := o) (z := z) (o2 := mhO o z) (z2 := mhZ z) (rg := rg) (j := j) (og := og) (ct := ct) cNT_adr hg'
          exact z_iret hC hr dX4_runText_83 (Nat.le_refl _) (Nat.le_refl _) ⟨rfl, g', hg', hw.symm⟩ hw hadr
        · rw [bI_1] at c62
          refine z_iinc (cn := 1) hC dX4_runText_65 (by decide) (by decide) rfl rfl ?_
          refine z_aload_n hC dX4_runText_68 rfl ?_
          refine z_get 0 3 hC bl_X4 (ci := 4) rfl (by decide) rfl bw_25 rfl rfl dX4_runText_69 ?_
          refine z_bipush (v := 59) hC dX4_runText_72 (by decide) ?_
          refine z_callVN [1, 2] 0 3 hC (c_X3_readSign l D ct qx τ3 59 (by simpa [eτ3, mtStep_1, mtSgn_1, mtFirst_1, mtSecond_1, mtNum_1, mtCmd_1, mtErr_1, u2_ne] using hokx)) nw_61 bw_473 bw_474 bw_24 bw_475 1 (by decide +kernel) rfl rfl rfl rfl rfl ⟨Nat.le_of_ble_eq_true rfl, Nat.le_of_ble_eq_true rfl⟩ (Nat.le_of_ble_eq_true rfl) ⟨Nat.le_of_ble_eq_true rfl, Nat.le_of_ble_eq_true rfl⟩ rfl dX4_runText_74 ?_
          refine zkd (G := fun v1 w1 => zG p l e _ s m args below meth c D _ _ _ _ _ _ _ (v1.toList ++ _) w1) (w2 := (cN b qs qt qh qx :: cT qx ((mtSgn τ3 59).2) ct) ++ (cS qs σ4 ct ++ (cH qh (mhO o z) (mhZ z) (va_up rg j (some (g' 0))) ct ++ cS g' (msCopy (ogB og) σ) ct))) cNTS_t ?_
          obtain ⟨τ5, eτ5⟩ : ∃ zz_, zz_ = (mtSgn τ3 59).2 := ⟨_, rfl⟩
          rw [← eτ5]
          refine z_if_ne hC 42 dX4_runText_77 (by decide) (fun c77 => ?_) (fun c77 => ?_)
          · rw [bI_1] at c77
            rw [nI_1]
            exact ih (i + 1) τ5 σ4 (by omega) (by simpa [eτ5, eτ3, mtStep_1, mtSgn_1, mtFirst_1, mtSecond_1, mtNum_1, mtCmd_1, mtErr_1, u2_ne] using hokx) (by rw [eσ4]; exact okS_exec hoks) (by rw [← hF]; subst eτ5; subst eσ4; subst eτ3; simp [mRt, c8, c45, c55, c62, c77, i_nle.mp c45])
          · rw [bI_0] at c77
            refine z_iload_n hC dX4_runText_80 rfl ?_
            have hE : R = (((nI i) + 1), τ5, σ4) := by rw [← hF]; subst eτ5; subst eσ4; subst eτ3; simp [mRt, nI_1, c8, c45, c55, c62, c77, i_nle.mp c45]
            subst hE
            obtain ⟨wa, wb, hw, hadr⟩ := zS_split (X := cN b qs qt qh qx :: cT qx τ5 ct) (X0 := cN b qs qt qh qx :: cT qx τ ct) (qs := qs) (qh := qh) (g' := g') (σ := σ) (σ2 := σ4) (γ2 := msCopy (ogB og) σ) (o := o) (z := z) (o2 := mhO o z) (z2 := mhZ z) (rg := rg) (j := j) (og := og) (ct := ct) cNT_adr hg'
            exact z_iret hC hr dX4_runText_81 (Nat.le_refl _) (Nat.le_refl _) ⟨rfl, g', hg', hw.symm⟩ hw hadr
  exact loop42 80 0 τ2 σ rfl (by simpa [eτ2, eτ1, mtStep_1, mtSgn_1, mtFirst_1, mtSecond_1, mtNum_1, mtCmd_1, mtErr_1, u2_ne] using hokt) hok (by rw [eτ2, eτ1]; exact hR)
