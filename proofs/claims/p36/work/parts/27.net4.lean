theorem cNTS_t {x : Nat × va_E} {q : Nat → Nat} {τ τ2 : Nat → Nat → Int32} {ct : Nat → ClassId} {B : va_W} : wput ((x :: cT q τ ct) ++ B) [1, 2] (cT q τ2 ct) = (x :: cT q τ2 ct) ++ B := rfl
theorem cNTS_f1 {x : Nat × va_E} {q : Nat → Nat} {σ : Nat → Nat → Int32} {ct : Nat → ClassId} {B : va_W} {v : Int32} : ((x :: cT q σ ct) ++ B).set 1 (q 0, .inr (3, [Value.ref (q 1), .int (σ 0 0), .int (σ 0 1), .int (σ 0 2), .int (σ 0 3), .int (σ 0 4), .int (σ 0 5)].set 2 (.int v))) = (x :: cT q (u2 σ 0 1 v) ct) ++ B := rfl
theorem cNTS_s {x : Nat × va_E} {q qs : Nat → Nat} {τ σ σ2 : Nat → Nat → Int32} {ct : Nat → ClassId} {B : va_W} : wput ((x :: cT q τ ct) ++ (cS qs σ ct ++ B)) [3, 4, 5, 6, 7, 8, 9, 10, 11, 12, 13, 14, 15, 16, 17, 18] (cS qs σ2 ct) = (x :: cT q τ ct) ++ (cS qs σ2 ct ++ B) := by
  have h2 := wput_suf (List.range 16) (x :: cT q τ ct) (cS qs σ ct ++ B) (cS qs σ2 ct)
  have e : (cS qs σ ct).length = 16 := rfl
  have h4 := wput_pre (wc := cS qs σ ct) (rest := B) (wa := cS qs σ2 ct) cS_len2
  rw [e] at h4
  rw [h4] at h2
  have h5 : (List.range 16).map (· + (x :: cT q τ ct).length) = [3, 4, 5, 6, 7, 8, 9, 10, 11, 12, 13, 14, 15, 16, 17, 18] := rfl
  rw [h5] at h2
  exact h2
theorem cNTS_s0 {x : Nat × va_E} {q qs : Nat → Nat} {τ σ σ2 : Nat → Nat → Int32} {ct : Nat → ClassId} : wput ((x :: cT q τ ct) ++ cS qs σ ct) [3, 4, 5, 6, 7, 8, 9, 10, 11, 12, 13, 14, 15, 16, 17, 18] (cS qs σ2 ct) = (x :: cT q τ ct) ++ cS qs σ2 ct := by
  have h := cNTS_s (x := x) (q := q) (qs := qs) (τ := τ) (σ := σ) (σ2 := σ2) (ct := ct) (B := [])
  rw [List.append_nil, List.append_nil] at h
  exact h
theorem cNTS_e {x : Nat × va_E} {q qs : Nat → Nat} {τ σ σ2 : Nat → Nat → Int32} {ct : Nat → ClassId} {B : va_W} : wput ((x :: cT q τ ct) ++ (cS qs σ ct ++ B)) [0, 1, 2, 3, 4, 5, 6, 7, 8, 9, 10, 11, 12, 13, 14, 15, 16, 17, 18] ((x :: cT q τ ct) ++ cS qs σ2 ct) = (x :: cT q τ ct) ++ (cS qs σ2 ct ++ B) := by
  have h4 := wput_pre (wc := (x :: cT q τ ct) ++ cS qs σ ct) (rest := B) (wa := (x :: cT q τ ct) ++ cS qs σ2 ct) (by rw [List.length_append, List.length_append]; rfl)
  have e : ((x :: cT q τ ct) ++ cS qs σ ct).length = 19 := rfl
  rw [e, List.append_assoc, List.append_assoc] at h4
  exact h4
theorem cNTS_adr {x : Nat × va_E} {q qs : Nat → Nat} {τ σ σ2 : Nat → Nat → Int32} {ct : Nat → ClassId} : ((x :: cT q τ ct) ++ cS qs σ2 ct).map Prod.fst = ((x :: cT q τ ct) ++ cS qs σ ct).map Prod.fst := by
  rw [List.map_append, List.map_append, cS_adr]
theorem okS_run {σ : Nat → Nat → Int32} (h : okS σ) (k : Nat) : okS (msRun σ k) := kfor_inv okS (fun i a ha => okS_slot ha) _ _ _ h
theorem okS_copy {ρ σ : Nat → Nat → Int32} (h : okS σ) : okS (msCopy ρ σ) := h
theorem okS_take {σ : Nat → Nat → Int32} (h : okS σ) (n v : Int32) : okS (msTake σ n v) := by
  unfold msTake
  split
  · unfold mrTake
    split
    · exact okS_rd (fun k hk => h k hk)
    · refine okS_rd (mrPut_pos (fun k hk => h k hk) ?_)
      exact okS_size h n
  · exact h
theorem okS_setLink {σ : Nat → Nat → Int32} (h : okS σ) (a b v : Int32) : okS (msSetLink σ a b v) := by
  unfold msSetLink
  split
  · exact okS_u2 (okS_u2 h (by decide)) (by decide)
  · exact h
theorem okS_setPower {σ : Nat → Nat → Int32} (h : okS σ) (a v : Int32) : okS (msSetPower σ a v) := by
  unfold msSetPower
  split
  · exact okS_u2 h (by decide)
  · exact h
/-- how many slots till nothing is missing -/
def mSc : Nat → Nat → (Nat → Nat → Int32) → Int32 × (Nat → Nat → Int32)
  | 0, _, ρ => (-1, ρ)
  | k + 1, i, ρ => if mrMissing (rd ρ) = 0 then (nI i, ρ) else mSc k (i + 1) (msRun ρ (1 : Int32).toNatClampNeg)
/-- one command of the text -/
def mExec (τ σ : Nat → Nat → Int32) : Bool × (Nat → Nat → Int32) :=
  if τ 0 2 = 33 then (true, msSetPower σ (τ 0 3) (if msOn σ (τ 0 3) = true then 0 else 1)) else if τ 0 2 = 43 then (true, msSetLink σ (τ 0 3) (τ 0 4) 1) else if τ 0 2 = 45 then (true, msSetLink σ (τ 0 3) (τ 0 4) 0)
  else if τ 0 2 = 116 then (if msCanTake σ (τ 0 3) = true then (true, msTake σ (τ 0 3) (τ 0 5)) else (false, σ)) else (true, msRun σ (τ 0 5).toNatClampNeg)
theorem okS_exec {τ σ : Nat → Nat → Int32} (h : okS σ) : okS (mExec τ σ).2 := by
  unfold mExec
  split
  · exact okS_setPower h _ _
  · split
    · exact okS_setLink h _ _ _
    · split
      · exact okS_setLink h _ _ _
      · split
        · split
          · exact okS_take h _ _
          · exact h
        · exact okS_run h _
/-- the commands of the text, one by one -/
def mRt : Nat → Nat → (Nat → Nat → Int32) → (Nat → Nat → Int32) → Int32 × (Nat → Nat → Int32) × (Nat → Nat → Int32)
  | 0, i, τ, σ => (nI i, τ, σ)
  | k + 1, i, τ, σ => if (mtCmd τ).1 = false then (nI i, (mtCmd τ).2, σ) else if (mExec (mtCmd τ).2 σ).1 = false then (nI i, (mtCmd τ).2, (mExec (mtCmd τ).2 σ).2) else if (mtSgn (mtCmd τ).2 59).1 = false then (nI (i + 1), (mtSgn (mtCmd τ).2 59).2, (mExec (mtCmd τ).2 σ).2) else mRt k (i + 1) (mtSgn (mtCmd τ).2 59).2 (mExec (mtCmd τ).2 σ).2
set_option maxRecDepth 100000 in
set_option maxHeartbeats 1000000 in
theorem c_X4_undo (l : Launch) (D : va_G) (ct : Nat → ClassId) (b : Nat) (qs qt qh qx : Nat → Nat) (gq : Nat → Nat) (σ γ : Nat → Nat → Int32) (o z : Int32) (rg : Nat → Option Nat) (j : Nat) (hz : ¬ z = 0) (hj : j < 6) (hi : mFloor (o + z - 1) 6 = nI j) (hg : rg j = some (gq 0)) (hb1 : zbit (γ 1) 100) (hb2 : zbit (γ 2) 10) : zT l D ct yX4_undo cX4_undo 2 (some .int) 4 103 0 0 [.ref b] ([cN b qs qt qh qx] ++ (cS qs σ ct ++ (cH qh o z rg ct ++ cS gq γ ct))) (zd (some (.int (if z ≤ 0 then z else z - 1))) ([cN b qs qt qh qx] ++ (cS qs (msCopy σ γ) ct ++ (cH qh o (if z ≤ 0 then z else z - 1) rg ct ++ cS gq γ ct)))) := by
  refine zT_of ([some (.ref b), none]) (by decide +kernel) rfl (Nat.le_of_ble_eq_true rfl) ?_
  intro p e s m args below meth c hC hr hnm
  refine z_aload_n hC dX4_undo_0 rfl ?_
  refine z_get 0 2 hC bl_X4 (ci := 4) rfl (by decide) rfl bw_18 rfl rfl dX4_undo_1 ?_
  refine z_callVN [17, 18] 0 0 hC (c_X0_newest1 l D ct qh o z rg (gq 0) j hz hj hi hg) nw_30 bw_430 bw_431 bw_17 bw_432 0 (by decide +kernel) rfl rfl rfl rfl rfl ⟨Nat.le_of_ble_eq_true rfl, Nat.le_of_ble_eq_true rfl⟩ (Nat.le_of_ble_eq_true rfl) ⟨Nat.le_of_ble_eq_true rfl, Nat.le_of_ble_eq_true rfl⟩ rfl dX4_undo_4 ?_
  refine zkq (G := fun v1 w1 => zG p l e _ s m args below meth c D _ _ _ _ _ _ _ (v1.toList ++ _) w1) rfl ?_
  refine z_astore_n hC dX4_undo_7 (by decide) rfl ?_
  refine z_aload_n hC dX4_undo_8 rfl ?_
  refine z_ifnonnull hC 22 dX4_undo_9 (by decide) ?_
  refine z_aload_n hC dX4_undo_22 rfl ?_
  refine z_get 0 0 hC bl_X4 (ci := 4) rfl (by decide) rfl bw_13 rfl rfl dX4_undo_23 ?_
  refine z_aload_n hC dX4_undo_26 rfl ?_
  refine z_callVN [1, 2, 3, 4, 5, 6, 7, 8, 9, 10, 11, 12, 13, 14, 15, 16, 19, 20, 21, 22, 23, 24, 25, 26, 27, 28, 29, 30, 31, 32, 33, 34] 0 2 hC (c_X2_copyFrom l D ct qs gq σ γ hb1 hb2) nw_31 bw_283 bw_284 bw_12 bw_285 1 (by decide +kernel) rfl rfl rfl rfl rfl ⟨Nat.le_of_ble_eq_true rfl, Nat.le_of_ble_eq_true rfl⟩ (Nat.le_of_ble_eq_true rfl) ⟨Nat.le_of_ble_eq_true rfl, Nat.le_of_ble_eq_true rfl⟩ rfl dX4_undo_27 ?_
  refine zkd (G := fun v1 w1 => zG p l e _ s m args below meth c D _ _ _ _ _ _ _ (v1.toList ++ _) w1) (w2 := [cN b qs qt qh qx] ++ (cS qs (msCopy σ γ) ct ++ (cH qh o z rg ct ++ cS gq γ ct))) cNX_ud ?_
  obtain ⟨σ1, eσ1⟩ : ∃ zz_, zz_ = (msCopy σ γ) := ⟨_, rfl⟩
  rw [← eσ1]
  refine z_aload_n hC dX4_undo_30 rfl ?_
  refine z_get 0 2 hC bl_X4 (ci := 4) rfl (by decide) rfl bw_18 rfl rfl dX4_undo_31 ?_
  refine z_callVN [17, 18] 0 0 hC (c_X0_removeNewest l D ct qh o z rg) nw_32 bw_433 bw_434 bw_17 bw_435 0 (by decide +kernel) rfl rfl rfl rfl rfl ⟨Nat.le_of_ble_eq_true rfl, Nat.le_of_ble_eq_true rfl⟩ (Nat.le_of_ble_eq_true rfl) ⟨Nat.le_of_ble_eq_true rfl, Nat.le_of_ble_eq_true rfl⟩ rfl dX4_undo_34 ?_
  refine zkd (G := fun v1 w1 => zG p l e _ s m args below meth c D _ _ _ _ _ _ _ (v1.toList ++ _) w1) (w2 := [cN b qs qt qh qx] ++ (cS qs σ1 ct ++ (cH qh o (if z ≤ 0 then z else z - 1) rg ct ++ cS gq γ ct))) cNX_h ?_
  obtain ⟨zz2, ezz2⟩ : ∃ zz_, zz_ = (if z ≤ 0 then z else z - 1) := ⟨_, rfl⟩
  rw [← ezz2]
  refine z_aload_n hC dX4_undo_37 rfl ?_
  refine z_get 0 2 hC bl_X4 (ci := 4) rfl (by decide) rfl bw_18 rfl rfl dX4_undo_38 ?_
  refine z_getN 17 2 hC bl_X0 (ci := 0) rfl (by decide) rfl nw_18 rfl rfl dX4_undo_41 ?_
  exact z_iretd hC hr dX4_undo_44 (Nat.zero_le _) (Nat.zero_le _) (rfl) (rfl) cNX_uadr

set_option maxRecDepth 100000 in
set_option maxHeartbeats 1000000 in
theorem c_X4_ifRun (l : Launch) (D : va_G) (ct : Nat → ClassId) (b : Nat) (qs qt qh qx : Nat → Nat) (σ ρ : Nat → Nat → Int32) (hb1 : zbit (σ 1) 100) (hb2 : zbit (σ 2) 10) (hok : okS σ) (k : Int32) (h1 : ¬ k < 1) (h2 : ¬ 100 < k) : zT l D ct yX4_ifRun cX4_ifRun 2 (some .int) 6 152 0 0 [.ref b, .int k] ([cN b qs qt qh qx] ++ (cS qs σ ct ++ cS qt ρ ct)) (zd (some (.int (msRunR (msCopy ρ σ) k.toNatClampNeg))) ([cN b qs qt qh qx] ++ (cS qs σ ct ++ cS qt (msRun (msCopy ρ σ) k.toNatClampNeg) ct))) := by
  refine zT_of ([some (.ref b), some (.int k)]) (by decide +kernel) rfl (Nat.le_of_ble_eq_true rfl) ?_
  intro p e s m args below meth c hC hr hnm
  refine z_iload_n hC dX4_ifRun_0 rfl ?_
  refine z_iconst (v := 1) hC dX4_ifRun_1 (by decide) ?_
  refine z_bipush (v := 100) hC dX4_ifRun_2 (by decide) ?_
  refine z_callS [] hC (c_X4_checkRange l D ct k 1 100 h1 h2) bw_170 bw_171 bw_2 bw_172 3 (by decide +kernel) rfl rfl rfl ⟨Nat.le_of_ble_eq_true rfl, Nat.le_of_ble_eq_true rfl⟩ (Nat.le_of_ble_eq_true rfl) ⟨Nat.le_of_ble_eq_true rfl, Nat.le_of_ble_eq_true rfl⟩ rfl dX4_ifRun_4 ?_
  refine zkq (G := fun v1 w1 => zG p l e _ s m args below meth c D _ _ _ _ _ _ _ (v1.toList ++ _) w1) rfl ?_
  refine z_aload_n hC dX4_ifRun_7 rfl ?_
  refine z_get 0 1 hC bl_X4 (ci := 4) rfl (by decide) rfl bw_14 rfl rfl dX4_ifRun_8 ?_
  refine z_aload_n hC dX4_ifRun_11 rfl ?_
  refine z_get 0 0 hC bl_X4 (ci := 4) rfl (by decide) rfl bw_13 rfl rfl dX4_ifRun_12 ?_
  refine z_callVN [17, 18, 19, 20, 21, 22, 23, 24, 25, 26, 27, 28, 29, 30, 31, 32, 1, 2, 3, 4, 5, 6, 7, 8, 9, 10, 11, 12, 13, 14, 15, 16] 0 2 hC (c_X2_copyFrom l D ct qt qs ρ σ hb1 hb2) nw_31 bw_283 bw_284 bw_12 bw_285 1 (by decide +kernel) rfl rfl rfl rfl rfl ⟨Nat.le_of_ble_eq_true rfl, Nat.le_of_ble_eq_true rfl⟩ (Nat.le_of_ble_eq_true rfl) ⟨Nat.le_of_ble_eq_true rfl, Nat.le_of_ble_eq_true rfl⟩ rfl dX4_ifRun_15 ?_
  refine zkd (G := fun v1 w1 => zG p l e _ s m args below meth c D _ _ _ _ _ _ _ (v1.toList ++ _) w1) (w2 := [cN b qs qt qh qx] ++ (cS qs σ ct ++ cS qt (msCopy ρ σ) ct)) cNX_two ?_
  obtain ⟨ρ1, eρ1⟩ : ∃ zz_, zz_ = (msCopy ρ σ) := ⟨_, rfl⟩
  rw [← eρ1]
  refine z_aload_n hC dX4_ifRun_18 rfl ?_
  refine z_get 0 1 hC bl_X4 (ci := 4) rfl (by decide) rfl bw_14 rfl rfl dX4_ifRun_19 ?_
  refine z_iload_n hC dX4_ifRun_22 rfl ?_
  refine z_callVN [17, 18, 19, 20, 21, 22, 23, 24, 25, 26, 27, 28, 29, 30, 31, 32] 0 2 hC (c_X2_runSlots l D ct qt ρ1 k (by rw [eρ1]; exact okS_copy hok)) nw_40 bw_385 bw_386 bw_12 bw_387 1 (by decide +kernel) rfl rfl rfl rfl rfl ⟨Nat.le_of_ble_eq_true rfl, Nat.le_of_ble_eq_true rfl⟩ (Nat.le_of_ble_eq_true rfl) ⟨Nat.le_of_ble_eq_true rfl, Nat.le_of_ble_eq_true rfl⟩ rfl dX4_ifRun_23 ?_
  refine zkd (G := fun v1 w1 => zG p l e _ s m args below meth c D _ _ _ _ _ _ _ (v1.toList ++ _) w1) (w2 := [cN b qs qt qh qx] ++ (cS qs σ ct ++ cS qt (msRun ρ1 k.toNatClampNeg) ct)) cNX_sec ?_
  obtain ⟨ρ2, eρ2⟩ : ∃ zz_, zz_ = (msRun ρ1 k.toNatClampNeg) := ⟨_, rfl⟩
  rw [← eρ2]
  exact z_iretd hC hr dX4_ifRun_26 (Nat.zero_le _) (Nat.zero_le _) (rfl) (rfl) cNX_adr

set_option maxRecDepth 100000 in
set_option maxHeartbeats 1000000 in
theorem c_X4_slotsToCollect (l : Launch) (D : va_G) (ct : Nat → ClassId) (b : Nat) (qs qt qh qx : Nat → Nat) (σ ρ : Nat → Nat → Int32) (hb1 : zbit (σ 1) 100) (hb2 : zbit (σ 2) 10) (hok : okS σ) (R : Int32 × (Nat → Nat → Int32)) (hR : mSc 401 0 (msCopy ρ σ) = R) : zT l D ct yX4_slotsToCollect cX4_slotsToCollect 2 (some .int) 6 152 0 0 [.ref b] ([cN b qs qt qh qx] ++ (cS qs σ ct ++ cS qt ρ ct)) (zd (some (.int R.1)) ([cN b qs qt qh qx] ++ (cS qs σ ct ++ cS qt R.2 ct))) := by
  refine zT_of ([some (.ref b), none]) (by decide +kernel) rfl (Nat.le_of_ble_eq_true rfl) ?_
  intro p e s m args below meth c hC hr hnm
  refine z_aload_n hC dX4_slotsToCollect_0 rfl ?_
  refine z_get 0 1 hC bl_X4 (ci := 4) rfl (by decide) rfl bw_14 rfl rfl dX4_slotsToCollect_1 ?_
  refine z_aload_n hC dX4_slotsToCollect_4 rfl ?_
  refine z_get 0 0 hC bl_X4 (ci := 4) rfl (by decide) rfl bw_13 rfl rfl dX4_slotsToCollect_5 ?_
  refine z_callVN [17, 18, 19, 20, 21, 22, 23, 24, 25, 26, 27, 28, 29, 30, 31, 32, 1, 2, 3, 4, 5, 6, 7, 8, 9, 10, 11, 12, 13, 14, 15, 16] 0 2 hC (c_X2_copyFrom l D ct qt qs ρ σ hb1 hb2) nw_31 bw_283 bw_284 bw_12 bw_285 1 (by decide +kernel) rfl rfl rfl rfl rfl ⟨Nat.le_of_ble_eq_true rfl, Nat.le_of_ble_eq_true rfl⟩ (Nat.le_of_ble_eq_true rfl) ⟨Nat.le_of_ble_eq_true rfl, Nat.le_of_ble_eq_true rfl⟩ rfl dX4_slotsToCollect_8 ?_
  refine zkd (G := fun v1 w1 => zG p l e _ s m args below meth c D _ _ _ _ _ _ _ (v1.toList ++ _) w1) (w2 := [cN b qs qt qh qx] ++ (cS qs σ ct ++ cS qt (msCopy ρ σ) ct)) cNX_two ?_
  obtain ⟨ρ1, eρ1⟩ : ∃ zz_, zz_ = (msCopy ρ σ) := ⟨_, rfl⟩
  rw [← eρ1]
  refine z_iconst (v := 0) hC dX4_slotsToCollect_11 (by decide) ?_
  refine z_istore_n hC dX4_slotsToCollect_12 (by decide) rfl ?_
  have loop13 : ∀ (kf i : Nat) (ρx : Nat → Nat → Int32) (hki : kf + i = 401) (hokx : okS ρx) (hF : mSc kf i ρx = R), zG p l e { frames := 6, cells := 0, slots := 0, locals := 152 } s m args below meth c D (va_A ([cN b qs qt qh qx] ++ (cS qs σ ct ++ cS qt ρ ct)) s.heap.size) 2 (MQ below (zQ D ct ([cN b qs qt qh qx] ++ (cS qs σ ct ++ cS qt ρ ct)) s.heap.size (zd (some (.int R.1)) ([cN b qs qt qh qx] ++ (cS qs σ ct ++ cS qt R.2 ct)))) args s 0 0 (va_A ([cN b qs qt qh qx] ++ (cS qs σ ct ++ cS qt ρ ct)) s.heap.size)) 0 0 13 [some (.ref b), some (.int (nI i))] [] ([cN b qs qt qh qx] ++ (cS qs σ ct ++ cS qt ρx ct)) := by
    intro kf
    induction kf with
    | zero =>
      intro i ρx hki hokx hF
      refine z_iload_n hC dX4_slotsToCollect_13 rfl ?_
      refine z_sipush (v := 400) hC dX4_slotsToCollect_14 (by decide) ?_
      refine z_icmp_gt hC 50 dX4_slotsToCollect_17 (by decide) (fun c17 => ?_) (fun c17 => absurd (kgt1 400 rfl (by omega) (by omega)) c17)
      refine z_iconst (v := (-1)) hC dX4_slotsToCollect_50 (by decide) ?_
      exact z_iretd hC hr dX4_slotsToCollect_51 (Nat.zero_le _) (Nat.zero_le _) (by rw [← hF]; rfl) (congrArg (fun z => [cN b qs qt qh qx] ++ (cS qs σ ct ++ cS qt z ct)) (by rw [← hF]; rfl)) cNX_adr
    | succ kf ih =>
      intro i ρx hki hokx hF
      refine z_iload_n hC dX4_slotsToCollect_13 rfl ?_
      refine z_sipush (v := 400) hC dX4_slotsToCollect_14 (by decide) ?_
      refine z_icmp_gt hC 50 dX4_slotsToCollect_17 (by decide) (fun c17 => absurd c17 (kgt0 400 rfl (by omega) (by decide))) (fun c17 => ?_)
      refine z_aload_n hC dX4_slotsToCollect_20 rfl ?_
      refine z_get 0 1 hC bl_X4 (ci := 4) rfl (by decide) rfl bw_14 rfl rfl dX4_slotsToCollect_21 ?_
      refine z_getN 17 7 hC bl_X2 (ci := 2) rfl (by decide) rfl nw_9 rfl rfl dX4_slotsToCollect_24 ?_
      refine z_callVN [25, 26, 27, 28, 29, 30, 31, 32] 0 1 hC (c_X1_missingCount l D ct (fun i => qt (8 + i)) (rd ρx)) nw_56 bw_231 bw_232 bw_37 bw_233 0 (by decide +kernel) rfl rfl rfl rfl rfl ⟨Nat.le_of_ble_eq_true rfl, Nat.le_of_ble_eq_true rfl⟩ (Nat.le_of_ble_eq_true rfl) ⟨Nat.le_of_ble_eq_true rfl, Nat.le_of_ble_eq_true rfl⟩ rfl dX4_slotsToCollect_27 ?_
      refine zkq (G := fun v1 w1 => zG p l e _ s m args below meth c D _ _ _ _ _ _ _ (v1.toList ++ _) w1) rfl ?_
      refine z_if_ne hC 35 dX4_slotsToCollect_30 (by decide) (fun c30 => ?_) (fun c30 => ?_)
      · refine z_aload_n hC dX4_slotsToCollect_35 rfl ?_
        refine z_get 0 1 hC bl_X4 (ci := 4) rfl (by decide) rfl bw_14 rfl rfl dX4_slotsToCollect_36 ?_
        refine z_iconst (v := 1) hC dX4_slotsToCollect_39 (by decide) ?_
        refine z_callVN [17, 18, 19, 20, 21, 22, 23, 24, 25, 26, 27, 28, 29, 30, 31, 32] 0 2 hC (c_X2_runSlots l D ct qt ρx (1 : Int32) hokx) nw_40 bw_385 bw_386 bw_12 bw_387 1 (by decide +kernel) rfl rfl rfl rfl rfl ⟨Nat.le_of_ble_eq_true rfl, Nat.le_of_ble_eq_true rfl⟩ (Nat.le_of_ble_eq_true rfl) ⟨Nat.le_of_ble_eq_true rfl, Nat.le_of_ble_eq_true rfl⟩ rfl dX4_slotsToCollect_40 ?_
        refine zkd (G := fun v1 w1 => zG p l e _ s m args below meth c D _ _ _ _ _ _ _ (v1.toList ++ _) w1) (w2 := [cN b qs qt qh qx] ++ (cS qs σ ct ++ cS qt (msRun ρx (1 : Int32).toNatClampNeg) ct)) cNX_sec ?_
        obtain ⟨ρ2, eρ2⟩ : ∃ zz_, zz_ = (msRun ρx (1 : Int32).toNatClampNeg) := ⟨_, rfl⟩
        rw [← eρ2]
        refine z_pop hC dX4_slotsToCollect_43 rfl ?_
        refine z_iinc (cn := 1) hC dX4_slotsToCollect_44 (by decide) (by decide) rfl rfl ?_
        refine z_goto hC 13 dX4_slotsToCollect_47 (by decide) ?_
        rw [nI_1]
        exact ih (i + 1) ρ2 (by omega) (by rw [eρ2]; exact okS_run hokx _) (by rw [← hF, eρ2]; simp [mSc, c17, c30, i_nlt.mp c17])
      · refine z_iload_n hC dX4_slotsToCollect_33 rfl ?_
        exact z_iretd hC hr dX4_slotsToCollect_34 (Nat.zero_le _) (Nat.zero_le _) (by rw [← hF]; simp [mSc, c17, c30, i_nlt.mp c17]) (congrArg (fun z => [cN b qs qt qh qx] ++ (cS qs σ ct ++ cS qt z ct)) (by rw [← hF]; simp [mSc, c17, c30, i_nlt.mp c17])) cNX_adr
  exact loop13 401 0 ρ1 rfl (by rw [eρ1]; exact okS_copy hok) (by rw [eρ1]; exact hR)
