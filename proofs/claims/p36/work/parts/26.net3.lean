theorem cNX_a1 {x : Nat × va_E} {B : va_W} {q : Nat → Nat} {σ : Nat → Nat → Int32} {ct : Nat → ClassId} {k : Nat} {v : Int32} : ([x] ++ (cS q σ ct ++ B)).set 2 (q 1, .inl (ct 1, 100, .inl (upd (σ 1) k v))) = [x] ++ (cS q (u2 σ 1 k v) ct ++ B) := rfl
theorem cNX_a2 {x : Nat × va_E} {B : va_W} {q : Nat → Nat} {σ : Nat → Nat → Int32} {ct : Nat → ClassId} {k : Nat} {v : Int32} : ([x] ++ (cS q σ ct ++ B)).set 3 (q 2, .inl (ct 1, 10, .inl (upd (σ 2) k v))) = [x] ++ (cS q (u2 σ 2 k v) ct ++ B) := rfl
theorem cNX_a3 {x : Nat × va_E} {B : va_W} {q : Nat → Nat} {σ : Nat → Nat → Int32} {ct : Nat → ClassId} {k : Nat} {v : Int32} : ([x] ++ (cS q σ ct ++ B)).set 4 (q 3, .inl (ct 0, 10, .inl (upd (σ 3) k v))) = [x] ++ (cS q (u2 σ 3 k v) ct ++ B) := rfl
theorem cNX_a4 {x : Nat × va_E} {B : va_W} {q : Nat → Nat} {σ : Nat → Nat → Int32} {ct : Nat → ClassId} {k : Nat} {v : Int32} : ([x] ++ (cS q σ ct ++ B)).set 5 (q 4, .inl (ct 0, 10, .inl (upd (σ 4) k v))) = [x] ++ (cS q (u2 σ 4 k v) ct ++ B) := rfl
theorem cNX_a5 {x : Nat × va_E} {B : va_W} {q : Nat → Nat} {σ : Nat → Nat → Int32} {ct : Nat → ClassId} {k : Nat} {v : Int32} : ([x] ++ (cS q σ ct ++ B)).set 6 (q 5, .inl (ct 0, 10, .inl (upd (σ 5) k v))) = [x] ++ (cS q (u2 σ 5 k v) ct ++ B) := rfl
theorem cNX_a6 {x : Nat × va_E} {B : va_W} {q : Nat → Nat} {σ : Nat → Nat → Int32} {ct : Nat → ClassId} {k : Nat} {v : Int32} : ([x] ++ (cS q σ ct ++ B)).set 7 (q 6, .inl (ct 0, 10, .inl (upd (σ 6) k v))) = [x] ++ (cS q (u2 σ 6 k v) ct ++ B) := rfl
theorem cNX_a7 {x : Nat × va_E} {B : va_W} {q : Nat → Nat} {σ : Nat → Nat → Int32} {ct : Nat → ClassId} {k : Nat} {v : Int32} : ([x] ++ (cS q σ ct ++ B)).set 8 (q 7, .inl (ct 0, 10, .inl (upd (σ 7) k v))) = [x] ++ (cS q (u2 σ 7 k v) ct ++ B) := rfl
theorem cNX_f1 {x : Nat × va_E} {B : va_W} {q : Nat → Nat} {σ : Nat → Nat → Int32} {ct : Nat → ClassId} {v : Int32} : ([x] ++ (cS q σ ct ++ B)).set 1 (q 0, .inr (2, [Value.ref (q 1), .ref (q 2), .ref (q 3), .ref (q 4), .ref (q 5), .ref (q 6), .ref (q 7), .ref (q 8), .int (σ 0 0), .int (σ 0 1), .int (σ 0 2), .int (σ 0 3), .int (σ 0 4), .int (σ 0 5), .int (σ 0 6)].set 9 (.int v))) = [x] ++ (cS q (u2 σ 0 1 v) ct ++ B) := rfl
theorem cNX_all {x : Nat × va_E} {B : va_W} {q : Nat → Nat} {σ τ : Nat → Nat → Int32} {ct : Nat → ClassId} : wput ([x] ++ (cS q σ ct ++ B)) [1, 2, 3, 4, 5, 6, 7, 8, 9, 10, 11, 12, 13, 14, 15, 16] (cS q τ ct) = [x] ++ (cS q τ ct ++ B) := rfl
theorem cNX_sec {x : Nat × va_E} {q q2 : Nat → Nat} {σ τ ρ : Nat → Nat → Int32} {ct : Nat → ClassId} : wput ([x] ++ (cS q σ ct ++ cS q2 τ ct)) [17, 18, 19, 20, 21, 22, 23, 24, 25, 26, 27, 28, 29, 30, 31, 32] (cS q2 ρ ct) = [x] ++ (cS q σ ct ++ cS q2 ρ ct) := by
  have h2 := wput_suf (List.range 16) ([x] ++ cS q σ ct) (cS q2 τ ct) (cS q2 ρ ct)
  have e : (cS q2 τ ct).length = 16 := rfl
  have h4 := wput_all (w := cS q2 τ ct) (es := cS q2 ρ ct) cS_len2
  rw [e] at h4
  rw [h4, List.append_assoc, List.append_assoc] at h2
  have h5 : (List.range 16).map (· + ([x] ++ cS q σ ct).length) = [17, 18, 19, 20, 21, 22, 23, 24, 25, 26, 27, 28, 29, 30, 31, 32] := rfl
  rw [h5] at h2
  exact h2
theorem cNX_two {x : Nat × va_E} {q q2 : Nat → Nat} {σ τ ρ : Nat → Nat → Int32} {ct : Nat → ClassId} : wput ([x] ++ (cS q σ ct ++ cS q2 τ ct)) [17, 18, 19, 20, 21, 22, 23, 24, 25, 26, 27, 28, 29, 30, 31, 32, 1, 2, 3, 4, 5, 6, 7, 8, 9, 10, 11, 12, 13, 14, 15, 16] (cS q2 ρ ct ++ cS q σ ct) = [x] ++ (cS q σ ct ++ cS q2 ρ ct) := by
  have h1 := wput_two [17, 18, 19, 20, 21, 22, 23, 24, 25, 26, 27, 28, 29, 30, 31, 32] [1, 2, 3, 4, 5, 6, 7, 8, 9, 10, 11, 12, 13, 14, 15, 16] ([x] ++ (cS q σ ct ++ cS q2 τ ct)) (cS q2 ρ ct) (cS q σ ct) rfl
  rw [cNX_sec] at h1
  have h3 := wput_same [1, 2, 3, 4, 5, 6, 7, 8, 9, 10, 11, 12, 13, 14, 15, 16] ([x] ++ (cS q σ ct ++ cS q2 ρ ct)) (cS q σ ct) rfl
  rw [h3] at h1
  exact h1
theorem cNX_ud {x : Nat × va_E} {q q2 qh : Nat → Nat} {o z : Int32} {rg : Nat → Option Nat} {σ τ ρ : Nat → Nat → Int32} {ct : Nat → ClassId} : wput ([x] ++ (cS q σ ct ++ (cH qh o z rg ct ++ cS q2 τ ct))) [1, 2, 3, 4, 5, 6, 7, 8, 9, 10, 11, 12, 13, 14, 15, 16, 19, 20, 21, 22, 23, 24, 25, 26, 27, 28, 29, 30, 31, 32, 33, 34] (cS q ρ ct ++ cS q2 τ ct) = [x] ++ (cS q ρ ct ++ (cH qh o z rg ct ++ cS q2 τ ct)) := by
  have h1 := wput_two [1, 2, 3, 4, 5, 6, 7, 8, 9, 10, 11, 12, 13, 14, 15, 16] [19, 20, 21, 22, 23, 24, 25, 26, 27, 28, 29, 30, 31, 32, 33, 34] ([x] ++ (cS q σ ct ++ (cH qh o z rg ct ++ cS q2 τ ct))) (cS q ρ ct) (cS q2 τ ct) rfl
  rw [cNX_all] at h1
  have h3 := wput_same [19, 20, 21, 22, 23, 24, 25, 26, 27, 28, 29, 30, 31, 32, 33, 34] ([x] ++ (cS q ρ ct ++ (cH qh o z rg ct ++ cS q2 τ ct))) (cS q2 τ ct) rfl
  rw [h3] at h1
  exact h1
theorem cNX_h {x : Nat × va_E} {q qh : Nat → Nat} {o z z2 : Int32} {rg : Nat → Option Nat} {σ : Nat → Nat → Int32} {B : va_W} {ct : Nat → ClassId} : wput ([x] ++ (cS q σ ct ++ (cH qh o z rg ct ++ B))) [17, 18] (cH qh o z2 rg ct) = [x] ++ (cS q σ ct ++ (cH qh o z2 rg ct ++ B)) := rfl
theorem cNX_adr {x : Nat × va_E} {q q2 : Nat → Nat} {σ τ ρ : Nat → Nat → Int32} {ct : Nat → ClassId} : ([x] ++ (cS q σ ct ++ cS q2 τ ct)).map Prod.fst = ([x] ++ (cS q σ ct ++ cS q2 ρ ct)).map Prod.fst := rfl
theorem cNX_uadr {x : Nat × va_E} {q q2 qh : Nat → Nat} {σ ρ τ : Nat → Nat → Int32} {o z z2 : Int32} {rg : Nat → Option Nat} {ct : Nat → ClassId} : ([x] ++ (cS q ρ ct ++ (cH qh o z2 rg ct ++ cS q2 τ ct))).map Prod.fst = ([x] ++ (cS q σ ct ++ (cH qh o z rg ct ++ cS q2 τ ct))).map Prod.fst := rfl
theorem lnk_neq {a b : Int32} (h : a = b) (k : ¬ a = b) : False := k h
set_option maxRecDepth 100000 in
set_option maxHeartbeats 1000000 in
theorem c_X4_link (l : Launch) (D : va_G) (ct : Nat → ClassId) (b : Nat) (qs qt qh qx : Nat → Nat) (σ : Nat → Nat → Int32) (o z : Int32) (rg : Nat → Option Nat) (og : Option ((Nat → Nat) × (Nat → Nat → Int32))) (j : Nat) (hj : j < 6) (hi : mFloor (o + z) 6 = nI j) (hg : rg j = ogA og) (hb1 : zbit (σ 1) 100) (hb2 : zbit (σ 2) 10) (a c0 v : Int32) (ha : mNode a = true) (hc : mNode c0 = true) (hac : ¬ a = c0) : zT l D ct yX4_link cX4_link 4 (some .int) 5 126 16 1633 [.ref b, .int a, .int c0, .int v] ([cN b qs qt qh qx] ++ (cS qs σ ct ++ (cH qh o z rg ct ++ cO og ct))) (zS (some (.int (msLinks (msSetLink σ a c0 v)))) ([cN b qs qt qh qx]) qs qh (msSetLink σ a c0 v) (mhO o z) (mhZ z) rg j og (msCopy (ogB og) σ) ct) := by
  refine zT_of ([some (.ref b), some (.int a), some (.int c0), some (.int v)]) (by decide +kernel) rfl (Nat.le_of_ble_eq_true rfl) ?_
  intro p e s m args below meth c hC hr hnm
  refine z_iload_n hC dX4_link_0 rfl ?_
  refine z_callS [] hC (c_X4_checkNode l D ct a ha) bw_74 bw_75 bw_2 bw_76 1 (by decide +kernel) rfl rfl rfl ⟨Nat.le_of_ble_eq_true rfl, Nat.le_of_ble_eq_true rfl⟩ (Nat.le_of_ble_eq_true rfl) ⟨Nat.le_of_ble_eq_true rfl, Nat.le_of_ble_eq_true rfl⟩ rfl dX4_link_1 ?_
  refine zkq (G := fun v1 w1 => zG p l e _ s m args below meth c D _ _ _ _ _ _ _ (v1.toList ++ _) w1) rfl ?_
  refine z_iload_n hC dX4_link_4 rfl ?_
  refine z_callS [] hC (c_X4_checkNode l D ct c0 hc) bw_74 bw_75 bw_2 bw_76 1 (by decide +kernel) rfl rfl rfl ⟨Nat.le_of_ble_eq_true rfl, Nat.le_of_ble_eq_true rfl⟩ (Nat.le_of_ble_eq_true rfl) ⟨Nat.le_of_ble_eq_true rfl, Nat.le_of_ble_eq_true rfl⟩ rfl dX4_link_5 ?_
  refine zkq (G := fun v1 w1 => zG p l e _ s m args below meth c D _ _ _ _ _ _ _ (v1.toList ++ _) w1) rfl ?_
  refine z_iload_n hC dX4_link_8 rfl ?_
  refine z_iload_n hC dX4_link_9 rfl ?_
  refine z_icmp_ne hC 23 dX4_link_10 (by decide) (fun c10 => ?_) (fun c10 => absurd c10 hac)
  refine z_aload_n hC dX4_link_23 rfl ?_
  refine z_get 0 2 hC bl_X4 (ci := 4) rfl (by decide) rfl bw_18 rfl rfl dX4_link_24 ?_
  refine z_aload_n hC dX4_link_27 rfl ?_
  refine z_get 0 0 hC bl_X4 (ci := 4) rfl (by decide) rfl bw_13 rfl rfl dX4_link_28 ?_
  refine z_save hC hj hi hg hb1 hb2 ⟨Nat.le_of_ble_eq_true rfl, Nat.le_of_ble_eq_true rfl⟩ (Nat.le_of_ble_eq_true rfl) ⟨Nat.le_of_ble_eq_true rfl, Nat.le_of_ble_eq_true rfl⟩ dX4_link_31 (fun g' hg' => ?_)
  refine z_aload_n hC dX4_link_34 rfl ?_
  refine z_get 0 0 hC bl_X4 (ci := 4) rfl (by decide) rfl bw_13 rfl rfl dX4_link_35 ?_
  refine z_iload_n hC dX4_link_38 rfl ?_
  refine z_iload_n hC dX4_link_39 rfl ?_
  refine z_iload_n hC dX4_link_40 rfl ?_
  refine z_callVN [1, 2, 3, 4, 5, 6, 7, 8, 9, 10, 11, 12, 13, 14, 15, 16] 0 2 hC (c_X2_setLink l D ct qs σ a c0 v) nw_27 bw_304 bw_305 bw_12 bw_306 3 (by decide +kernel) rfl rfl rfl rfl rfl ⟨Nat.le_of_ble_eq_true rfl, Nat.le_of_ble_eq_true rfl⟩ (Nat.le_of_ble_eq_true rfl) ⟨Nat.le_of_ble_eq_true rfl, Nat.le_of_ble_eq_true rfl⟩ rfl dX4_link_41 ?_
  refine zkd (G := fun v1 w1 => zG p l e _ s m args below meth c D _ _ _ _ _ _ _ (v1.toList ++ _) w1) (w2 := [cN b qs qt qh qx] ++ (cS qs (msSetLink σ a c0 v) ct ++ (cH qh (mhO o z) (mhZ z) (va_up rg j (some (g' 0))) ct ++ cS g' (msCopy (ogB og) σ) ct))) cNX_all ?_
  obtain ⟨σ1, eσ1⟩ : ∃ zz_, zz_ = (msSetLink σ a c0 v) := ⟨_, rfl⟩
  rw [← eσ1]
  refine z_aload_n hC dX4_link_44 rfl ?_
  refine z_get 0 0 hC bl_X4 (ci := 4) rfl (by decide) rfl bw_13 rfl rfl dX4_link_45 ?_
  refine z_callVN [1, 2, 3, 4, 5, 6, 7, 8, 9, 10, 11, 12, 13, 14, 15, 16] 0 2 hC (c_X2_linkCount l D ct qs σ1) nw_29 bw_307 bw_308 bw_12 bw_309 0 (by decide +kernel) rfl rfl rfl rfl rfl ⟨Nat.le_of_ble_eq_true rfl, Nat.le_of_ble_eq_true rfl⟩ (Nat.le_of_ble_eq_true rfl) ⟨Nat.le_of_ble_eq_true rfl, Nat.le_of_ble_eq_true rfl⟩ rfl dX4_link_48 ?_
  refine zkq (G := fun v1 w1 => zG p l e _ s m args below meth c D _ _ _ _ _ _ _ (v1.toList ++ _) w1) rfl ?_
  subst eσ1
  obtain ⟨wa, wb, hw, hadr⟩ := zS_split (X := [cN b qs qt qh qx]) (X0 := [cN b qs qt qh qx]) (qs := qs) (qh := qh) (g' := g') (σ := σ) (σ2 := (msSetLink σ a c0 v)) (γ2 := msCopy (ogB og) σ) (o := o) (z := z) (o2 := mhO o z) (z2 := mhZ z) (rg := rg) (j := j) (og := og) (ct := ct) rfl hg'
  exact z_iret hC hr dX4_link_51 (Nat.le_refl _) (Nat.le_refl _) ⟨rfl, g', hg', hw.symm⟩ hw hadr

set_option maxRecDepth 100000 in
set_option maxHeartbeats 1000000 in
theorem c_X4_power (l : Launch) (D : va_G) (ct : Nat → ClassId) (b : Nat) (qs qt qh qx : Nat → Nat) (σ : Nat → Nat → Int32) (o z : Int32) (rg : Nat → Option Nat) (og : Option ((Nat → Nat) × (Nat → Nat → Int32))) (j : Nat) (hj : j < 6) (hi : mFloor (o + z) 6 = nI j) (hg : rg j = ogA og) (hb1 : zbit (σ 1) 100) (hb2 : zbit (σ 2) 10) (n : Int32) (hn : mNode n = true) (v : Int32) : zT l D ct yX4_power cX4_power 3 (some .int) 5 126 16 1633 [.ref b, .int n, .int v] ([cN b qs qt qh qx] ++ (cS qs σ ct ++ (cH qh o z rg ct ++ cO og ct))) (zS (some (.int (msOnCount (msSetPower σ n v)))) ([cN b qs qt qh qx]) qs qh (msSetPower σ n v) (mhO o z) (mhZ z) rg j og (msCopy (ogB og) σ) ct) := by
  refine zT_of ([some (.ref b), some (.int n), some (.int v)]) (by decide +kernel) rfl (Nat.le_of_ble_eq_true rfl) ?_
  intro p e s m args below meth c hC hr hnm
  refine z_iload_n hC dX4_power_0 rfl ?_
  refine z_callS [] hC (c_X4_checkNode l D ct n hn) bw_74 bw_75 bw_2 bw_76 1 (by decide +kernel) rfl rfl rfl ⟨Nat.le_of_ble_eq_true rfl, Nat.le_of_ble_eq_true rfl⟩ (Nat.le_of_ble_eq_true rfl) ⟨Nat.le_of_ble_eq_true rfl, Nat.le_of_ble_eq_true rfl⟩ rfl dX4_power_1 ?_
  refine zkq (G := fun v1 w1 => zG p l e _ s m args below meth c D _ _ _ _ _ _ _ (v1.toList ++ _) w1) rfl ?_
  refine z_aload_n hC dX4_power_4 rfl ?_
  refine z_get 0 2 hC bl_X4 (ci := 4) rfl (by decide) rfl bw_18 rfl rfl dX4_power_5 ?_
  refine z_aload_n hC dX4_power_8 rfl ?_
  refine z_get 0 0 hC bl_X4 (ci := 4) rfl (by decide) rfl bw_13 rfl rfl dX4_power_9 ?_
  refine z_save hC hj hi hg hb1 hb2 ⟨Nat.le_of_ble_eq_true rfl, Nat.le_of_ble_eq_true rfl⟩ (Nat.le_of_ble_eq_true rfl) ⟨Nat.le_of_ble_eq_true rfl, Nat.le_of_ble_eq_true rfl⟩ dX4_power_12 (fun g' hg' => ?_)
  refine z_aload_n hC dX4_power_15 rfl ?_
  refine z_get 0 0 hC bl_X4 (ci := 4) rfl (by decide) rfl bw_13 rfl rfl dX4_power_16 ?_
  refine z_iload_n hC dX4_power_19 rfl ?_
  refine z_iload_n hC dX4_power_20 rfl ?_
  refine z_callVN [1, 2, 3, 4, 5, 6, 7, 8, 9, 10, 11, 12, 13, 14, 15, 16] 0 2 hC (c_X2_setPower l D ct qs σ n v) nw_33 bw_320 bw_321 bw_12 bw_322 2 (by decide +kernel) rfl rfl rfl rfl rfl ⟨Nat.le_of_ble_eq_true rfl, Nat.le_of_ble_eq_true rfl⟩ (Nat.le_of_ble_eq_true rfl) ⟨Nat.le_of_ble_eq_true rfl, Nat.le_of_ble_eq_true rfl⟩ rfl dX4_power_21 ?_
  refine zkd (G := fun v1 w1 => zG p l e _ s m args below meth c D _ _ _ _ _ _ _ (v1.toList ++ _) w1) (w2 := [cN b qs qt qh qx] ++ (cS qs (msSetPower σ n v) ct ++ (cH qh (mhO o z) (mhZ z) (va_up rg j (some (g' 0))) ct ++ cS g' (msCopy (ogB og) σ) ct))) cNX_all ?_
  obtain ⟨σ1, eσ1⟩ : ∃ zz_, zz_ = (msSetPower σ n v) := ⟨_, rfl⟩
  rw [← eσ1]
  refine z_aload_n hC dX4_power_24 rfl ?_
  refine z_get 0 0 hC bl_X4 (ci := 4) rfl (by decide) rfl bw_13 rfl rfl dX4_power_25 ?_
  refine z_callVN [1, 2, 3, 4, 5, 6, 7, 8, 9, 10, 11, 12, 13, 14, 15, 16] 0 2 hC (c_X2_onCount l D ct qs σ1) nw_34 bw_323 bw_324 bw_12 bw_325 0 (by decide +kernel) rfl rfl rfl rfl rfl ⟨Nat.le_of_ble_eq_true rfl, Nat.le_of_ble_eq_true rfl⟩ (Nat.le_of_ble_eq_true rfl) ⟨Nat.le_of_ble_eq_true rfl, Nat.le_of_ble_eq_true rfl⟩ rfl dX4_power_28 ?_
  refine zkq (G := fun v1 w1 => zG p l e _ s m args below meth c D _ _ _ _ _ _ _ (v1.toList ++ _) w1) rfl ?_
  subst eσ1
  obtain ⟨wa, wb, hw, hadr⟩ := zS_split (X := [cN b qs qt qh qx]) (X0 := [cN b qs qt qh qx]) (qs := qs) (qh := qh) (g' := g') (σ := σ) (σ2 := (msSetPower σ n v)) (γ2 := msCopy (ogB og) σ) (o := o) (z := z) (o2 := mhO o z) (z2 := mhZ z) (rg := rg) (j := j) (og := og) (ct := ct) rfl hg'
  exact z_iret hC hr dX4_power_31 (Nat.le_refl _) (Nat.le_refl _) ⟨rfl, g', hg', hw.symm⟩ hw hadr

set_option maxRecDepth 100000 in
set_option maxHeartbeats 1000000 in
theorem c_X4_jump (l : Launch) (D : va_G) (ct : Nat → ClassId) (b : Nat) (qs qt qh qx : Nat → Nat) (σ : Nat → Nat → Int32) (o z : Int32) (rg : Nat → Option Nat) (og : Option ((Nat → Nat) × (Nat → Nat → Int32))) (j : Nat) (hj : j < 6) (hi : mFloor (o + z) 6 = nI j) (hg : rg j = ogA og) (hb1 : zbit (σ 1) 100) (hb2 : zbit (σ 2) 10) (n : Int32) (hn : mMeter n = true) (k : Int32) (h1 : ¬ k < -100) (h2 : ¬ 100 < k) : zT l D ct yX4_jump cX4_jump 3 (some .int) 5 126 16 1633 [.ref b, .int n, .int k] ([cN b qs qt qh qx] ++ (cS qs σ ct ++ (cH qh o z rg ct ++ cO og ct))) (zS (some (.int (σ 6 n.toNatClampNeg + k))) ([cN b qs qt qh qx]) qs qh (u2 σ 6 n.toNatClampNeg (σ 6 n.toNatClampNeg + k)) (mhO o z) (mhZ z) rg j og (msCopy (ogB og) σ) ct) := by
  refine zT_of ([some (.ref b), some (.int n), some (.int k)]) (by decide +kernel) rfl (Nat.le_of_ble_eq_true rfl) ?_
  intro p e s m args below meth c hC hr hnm
  refine z_iload_n hC dX4_jump_0 rfl ?_
  refine z_callS [] hC (c_X4_checkMeter l D ct n hn) bw_107 bw_108 bw_2 bw_109 1 (by decide +kernel) rfl rfl rfl ⟨Nat.le_of_ble_eq_true rfl, Nat.le_of_ble_eq_true rfl⟩ (Nat.le_of_ble_eq_true rfl) ⟨Nat.le_of_ble_eq_true rfl, Nat.le_of_ble_eq_true rfl⟩ rfl dX4_jump_1 ?_
  refine zkq (G := fun v1 w1 => zG p l e _ s m args below meth c D _ _ _ _ _ _ _ (v1.toList ++ _) w1) rfl ?_
  refine z_iload_n hC dX4_jump_4 rfl ?_
  refine z_bipush (v := (-100)) hC dX4_jump_5 (by decide) ?_
  refine z_bipush (v := 100) hC dX4_jump_7 (by decide) ?_
  refine z_callS [] hC (c_X4_checkRange l D ct k (-100) 100 h1 h2) bw_170 bw_171 bw_2 bw_172 3 (by decide +kernel) rfl rfl rfl ⟨Nat.le_of_ble_eq_true rfl, Nat.le_of_ble_eq_true rfl⟩ (Nat.le_of_ble_eq_true rfl) ⟨Nat.le_of_ble_eq_true rfl, Nat.le_of_ble_eq_true rfl⟩ rfl dX4_jump_9 ?_
  refine zkq (G := fun v1 w1 => zG p l e _ s m args below meth c D _ _ _ _ _ _ _ (v1.toList ++ _) w1) rfl ?_
  refine z_aload_n hC dX4_jump_12 rfl ?_
  refine z_get 0 2 hC bl_X4 (ci := 4) rfl (by decide) rfl bw_18 rfl rfl dX4_jump_13 ?_
  refine z_aload_n hC dX4_jump_16 rfl ?_
  refine z_get 0 0 hC bl_X4 (ci := 4) rfl (by decide) rfl bw_13 rfl rfl dX4_jump_17 ?_
  refine z_save hC hj hi hg hb1 hb2 ⟨Nat.le_of_ble_eq_true rfl, Nat.le_of_ble_eq_true rfl⟩ (Nat.le_of_ble_eq_true rfl) ⟨Nat.le_of_ble_eq_true rfl, Nat.le_of_ble_eq_true rfl⟩ dX4_jump_20 (fun g' hg' => ?_)
  refine z_aload_n hC dX4_jump_23 rfl ?_
  refine z_get 0 0 hC bl_X4 (ci := 4) rfl (by decide) rfl bw_13 rfl rfl dX4_jump_24 ?_
  refine z_getN 1 5 hC bl_X2 (ci := 2) rfl (by decide) rfl nw_7 rfl rfl dX4_jump_27 ?_
  refine z_iload_n hC dX4_jump_30 rfl ?_
  refine z_dup2 hC dX4_jump_31 rfl rfl ?_
  refine z_iald 7 0 hC rfl rfl (vnode (meter_node hn)) dX4_jump_32 ?_
  refine z_iload_n hC dX4_jump_33 rfl ?_
  refine z_iadd hC dX4_jump_34 ?_
  refine z_iast 7 0 hC rfl rfl (vnode (meter_node hn)) dX4_jump_35 (w2 := [cN b qs qt qh qx] ++ (cS qs (u2 σ 6 ((n).toNatClampNeg) ((σ 6 (n).toNatClampNeg) + k)) ct ++ (cH qh (mhO o z) (mhZ z) (va_up rg j (some (g' 0))) ct ++ cS g' (msCopy (ogB og) σ) ct))) cNX_a6 ?_
  obtain ⟨σ1, eσ1⟩ : ∃ zz_, zz_ = u2 σ 6 ((n).toNatClampNeg) ((σ 6 (n).toNatClampNeg) + k) := ⟨_, rfl⟩
  rw [← eσ1]
  refine z_aload_n hC dX4_jump_36 rfl ?_
  refine z_get 0 0 hC bl_X4 (ci := 4) rfl (by decide) rfl bw_13 rfl rfl dX4_jump_37 ?_
  refine z_getN 1 5 hC bl_X2 (ci := 2) rfl (by decide) rfl nw_7 rfl rfl dX4_jump_40 ?_
  refine z_iload_n hC dX4_jump_43 rfl ?_
  refine z_iald 7 0 hC rfl rfl (vnode (meter_node hn)) dX4_jump_44 ?_
  subst eσ1
  obtain ⟨wa, wb, hw, hadr⟩ := zS_split (X := [cN b qs qt qh qx]) (X0 := [cN b qs qt qh qx]) (qs := qs) (qh := qh) (g' := g') (σ := σ) (σ2 := (u2 σ 6 n.toNatClampNeg (σ 6 n.toNatClampNeg + k))) (γ2 := msCopy (ogB og) σ) (o := o) (z := z) (o2 := mhO o z) (z2 := mhZ z) (rg := rg) (j := j) (og := og) (ct := ct) rfl hg'
  exact z_iret hC hr dX4_jump_45 (Nat.le_refl _) (Nat.le_refl _) ⟨by rw [u2_at], g', hg', hw.symm⟩ hw hadr

set_option maxRecDepth 100000 in
set_option maxHeartbeats 1000000 in
theorem c_X4_setFaults (l : Launch) (D : va_G) (ct : Nat → ClassId) (b : Nat) (qs qt qh qx : Nat → Nat) (σ : Nat → Nat → Int32) (o z : Int32) (rg : Nat → Option Nat) (og : Option ((Nat → Nat) × (Nat → Nat → Int32))) (j : Nat) (hj : j < 6) (hi : mFloor (o + z) 6 = nI j) (hg : rg j = ogA og) (hb1 : zbit (σ 1) 100) (hb2 : zbit (σ 2) 10) (n : Int32) (hn : mMeter n = true) (k : Int32) (h1 : ¬ k < 0) (h2 : ¬ 9 < k) : zT l D ct yX4_setFaults cX4_setFaults 4 (some .int) 5 126 16 1633 [.ref b, .int n, .int k] ([cN b qs qt qh qx] ++ (cS qs σ ct ++ (cH qh o z rg ct ++ cO og ct))) (zS (some (.int (σ 7 n.toNatClampNeg))) ([cN b qs qt qh qx]) qs qh (u2 σ 7 n.toNatClampNeg k) (mhO o z) (mhZ z) rg j og (msCopy (ogB og) σ) ct) := by
  refine zT_of ([some (.ref b), some (.int n), some (.int k), none]) (by decide +kernel) rfl (Nat.le_of_ble_eq_true rfl) ?_
  intro p e s m args below meth c hC hr hnm
  refine z_iload_n hC dX4_setFaults_0 rfl ?_
  refine z_callS [] hC (c_X4_checkMeter l D ct n hn) bw_107 bw_108 bw_2 bw_109 1 (by decide +kernel) rfl rfl rfl ⟨Nat.le_of_ble_eq_true rfl, Nat.le_of_ble_eq_true rfl⟩ (Nat.le_of_ble_eq_true rfl) ⟨Nat.le_of_ble_eq_true rfl, Nat.le_of_ble_eq_true rfl⟩ rfl dX4_setFaults_1 ?_
  refine zkq (G := fun v1 w1 => zG p l e _ s m args below meth c D _ _ _ _ _ _ _ (v1.toList ++ _) w1) rfl ?_
  refine z_iload_n hC dX4_setFaults_4 rfl ?_
  refine z_iconst (v := 0) hC dX4_setFaults_5 (by decide) ?_
  refine z_bipush (v := 9) hC dX4_setFaults_6 (by decide) ?_
  refine z_callS [] hC (c_X4_checkRange l D ct k 0 9 h1 h2) bw_170 bw_171 bw_2 bw_172 3 (by decide +kernel) rfl rfl rfl ⟨Nat.le_of_ble_eq_true rfl, Nat.le_of_ble_eq_true rfl⟩ (Nat.le_of_ble_eq_true rfl) ⟨Nat.le_of_ble_eq_true rfl, Nat.le_of_ble_eq_true rfl⟩ rfl dX4_setFaults_8 ?_
  refine zkq (G := fun v1 w1 => zG p l e _ s m args below meth c D _ _ _ _ _ _ _ (v1.toList ++ _) w1) rfl ?_
  refine z_aload_n hC dX4_setFaults_11 rfl ?_
  refine z_get 0 2 hC bl_X4 (ci := 4) rfl (by decide) rfl bw_18 rfl rfl dX4_setFaults_12 ?_
  refine z_aload_n hC dX4_setFaults_15 rfl ?_
  refine z_get 0 0 hC bl_X4 (ci := 4) rfl (by decide) rfl bw_13 rfl rfl dX4_setFaults_16 ?_
  refine z_save hC hj hi hg hb1 hb2 ⟨Nat.le_of_ble_eq_true rfl, Nat.le_of_ble_eq_true rfl⟩ (Nat.le_of_ble_eq_true rfl) ⟨Nat.le_of_ble_eq_true rfl, Nat.le_of_ble_eq_true rfl⟩ dX4_setFaults_19 (fun g' hg' => ?_)
  refine z_aload_n hC dX4_setFaults_22 rfl ?_
  refine z_get 0 0 hC bl_X4 (ci := 4) rfl (by decide) rfl bw_13 rfl rfl dX4_setFaults_23 ?_
  refine z_getN 1 6 hC bl_X2 (ci := 2) rfl (by decide) rfl nw_8 rfl rfl dX4_setFaults_26 ?_
  refine z_iload_n hC dX4_setFaults_29 rfl ?_
  refine z_iald 8 0 hC rfl rfl (vnode (meter_node hn)) dX4_setFaults_30 ?_
  refine z_istore_n hC dX4_setFaults_31 (by decide) rfl ?_
  refine z_aload_n hC dX4_setFaults_32 rfl ?_
  refine z_get 0 0 hC bl_X4 (ci := 4) rfl (by decide) rfl bw_13 rfl rfl dX4_setFaults_33 ?_
  refine z_getN 1 6 hC bl_X2 (ci := 2) rfl (by decide) rfl nw_8 rfl rfl dX4_setFaults_36 ?_
  refine z_iload_n hC dX4_setFaults_39 rfl ?_
  refine z_iload_n hC dX4_setFaults_40 rfl ?_
  refine z_iast 8 0 hC rfl rfl (vnode (meter_node hn)) dX4_setFaults_41 (w2 := [cN b qs qt qh qx] ++ (cS qs (u2 σ 7 ((n).toNatClampNeg) k) ct ++ (cH qh (mhO o z) (mhZ z) (va_up rg j (some (g' 0))) ct ++ cS g' (msCopy (ogB og) σ) ct))) cNX_a7 ?_
  obtain ⟨σ1, eσ1⟩ : ∃ zz_, zz_ = u2 σ 7 ((n).toNatClampNeg) k := ⟨_, rfl⟩
  rw [← eσ1]
  refine z_iload_n hC dX4_setFaults_42 rfl ?_
  subst eσ1
  obtain ⟨wa, wb, hw, hadr⟩ := zS_split (X := [cN b qs qt qh qx]) (X0 := [cN b qs qt qh qx]) (qs := qs) (qh := qh) (g' := g') (σ := σ) (σ2 := (u2 σ 7 n.toNatClampNeg k)) (γ2 := msCopy (ogB og) σ) (o := o) (z := z) (o2 := mhO o z) (z2 := mhZ z) (rg := rg) (j := j) (og := og) (ct := ct) rfl hg'
  exact z_iret hC hr dX4_setFaults_43 (Nat.le_refl _) (Nat.le_refl _) ⟨rfl, g', hg', hw.symm⟩ hw hadr

set_option maxRecDepth 100000 in
set_option maxHeartbeats 1000000 in
theorem c_X4_setPatience (l : Launch) (D : va_G) (ct : Nat → ClassId) (b : Nat) (qs qt qh qx : Nat → Nat) (σ : Nat → Nat → Int32) (o z : Int32) (rg : Nat → Option Nat) (og : Option ((Nat → Nat) × (Nat → Nat → Int32))) (j : Nat) (hj : j < 6) (hi : mFloor (o + z) 6 = nI j) (hg : rg j = ogA og) (hb1 : zbit (σ 1) 100) (hb2 : zbit (σ 2) 10) (k : Int32) (h1 : ¬ k < 1) (h2 : ¬ 5 < k) : zT l D ct yX4_setPatience cX4_setPatience 3 (some .int) 5 126 16 1633 [.ref b, .int k] ([cN b qs qt qh qx] ++ (cS qs σ ct ++ (cH qh o z rg ct ++ cO og ct))) (zS (some (.int (σ 0 1))) ([cN b qs qt qh qx]) qs qh (u2 σ 0 1 k) (mhO o z) (mhZ z) rg j og (msCopy (ogB og) σ) ct) := by
  refine zT_of ([some (.ref b), some (.int k), none]) (by decide +kernel) rfl (Nat.le_of_ble_eq_true rfl) ?_
  intro p e s m args below meth c hC hr hnm
  refine z_iload_n hC dX4_setPatience_0 rfl ?_
  refine z_iconst (v := 1) hC dX4_setPatience_1 (by decide) ?_
  refine z_iconst (v := 5) hC dX4_setPatience_2 (by decide) ?_
  refine z_callS [] hC (c_X4_checkRange l D ct k 1 5 h1 h2) bw_170 bw_171 bw_2 bw_172 3 (by decide +kernel) rfl rfl rfl ⟨Nat.le_of_ble_eq_true rfl, Nat.le_of_ble_eq_true rfl⟩ (Nat.le_of_ble_eq_true rfl) ⟨Nat.le_of_ble_eq_true rfl, Nat.le_of_ble_eq_true rfl⟩ rfl dX4_setPatience_3 ?_
  refine zkq (G := fun v1 w1 => zG p l e _ s m args below meth c D _ _ _ _ _ _ _ (v1.toList ++ _) w1) rfl ?_
  refine z_aload_n hC dX4_setPatience_6 rfl ?_
  refine z_get 0 2 hC bl_X4 (ci := 4) rfl (by decide) rfl bw_18 rfl rfl dX4_setPatience_7 ?_
  refine z_aload_n hC dX4_setPatience_10 rfl ?_
  refine z_get 0 0 hC bl_X4 (ci := 4) rfl (by decide) rfl bw_13 rfl rfl dX4_setPatience_11 ?_
  refine z_save hC hj hi hg hb1 hb2 ⟨Nat.le_of_ble_eq_true rfl, Nat.le_of_ble_eq_true rfl⟩ (Nat.le_of_ble_eq_true rfl) ⟨Nat.le_of_ble_eq_true rfl, Nat.le_of_ble_eq_true rfl⟩ dX4_setPatience_14 (fun g' hg' => ?_)
  refine z_aload_n hC dX4_setPatience_17 rfl ?_
  refine z_get 0 0 hC bl_X4 (ci := 4) rfl (by decide) rfl bw_13 rfl rfl dX4_setPatience_18 ?_
  refine z_getN 1 9 hC bl_X2 (ci := 2) rfl (by decide) rfl nw_11 rfl rfl dX4_setPatience_21 ?_
  refine z_istore_n hC dX4_setPatience_24 (by decide) rfl ?_
  refine z_aload_n hC dX4_setPatience_25 rfl ?_
  refine z_get 0 0 hC bl_X4 (ci := 4) rfl (by decide) rfl bw_13 rfl rfl dX4_setPatience_26 ?_
  refine z_iload_n hC dX4_setPatience_29 rfl ?_
  refine z_putN (ci := 2) 1 9 hC bl_X2 tyX2_ok nmX2 rfl (by decide) rfl nw_11 rfl rfl rfl rfl (Nat.lt_of_lt_of_le (by decide) (Nat.le_refl 15)) dX4_setPatience_30 (w2 := [cN b qs qt qh qx] ++ (cS qs (u2 σ 0 1 k) ct ++ (cH qh (mhO o z) (mhZ z) (va_up rg j (some (g' 0))) ct ++ cS g' (msCopy (ogB og) σ) ct))) cNX_f1 ?_
  obtain ⟨σ1, eσ1⟩ : ∃ zz_, zz_ = u2 σ 0 1 k := ⟨_, rfl⟩
  rw [← eσ1]
  refine z_iload_n hC dX4_setPatience_33 rfl ?_
  subst eσ1
  obtain ⟨wa, wb, hw, hadr⟩ := zS_split (X := [cN b qs qt qh qx]) (X0 := [cN b qs qt qh qx]) (qs := qs) (qh := qh) (g' := g') (σ := σ) (σ2 := (u2 σ 0 1 k)) (γ2 := msCopy (ogB og) σ) (o := o) (z := z) (o2 := mhO o z) (z2 := mhZ z) (rg := rg) (j := j) (og := og) (ct := ct) rfl hg'
  exact z_iret hC hr dX4_setPatience_34 (Nat.le_refl _) (Nat.le_refl _) ⟨rfl, g', hg', hw.symm⟩ hw hadr

set_option maxRecDepth 100000 in
set_option maxHeartbeats 1000000 in
theorem c_X4_take (l : Launch) (D : va_G) (ct : Nat → ClassId) (b : Nat) (qs qt qh qx : Nat → Nat) (σ : Nat → Nat → Int32) (o z : Int32) (rg : Nat → Option Nat) (og : Option ((Nat → Nat) × (Nat → Nat → Int32))) (j : Nat) (hj : j < 6) (hi : mFloor (o + z) 6 = nI j) (hg : rg j = ogA og) (hb1 : zbit (σ 1) 100) (hb2 : zbit (σ 2) 10) (n : Int32) (hn : mMeter n = true) (k : Int32) (h1 : ¬ k < 0) (h2 : ¬ 999 < k) (hct : msCanTake σ n = true) (hok : okS σ) : zT l D ct yX4_take cX4_take 3 (some .int) 5 126 16 1633 [.ref b, .int n, .int k] ([cN b qs qt qh qx] ++ (cS qs σ ct ++ (cH qh o z rg ct ++ cO og ct))) (zS (some (.int (msTakeR σ n))) ([cN b qs qt qh qx]) qs qh (msTake σ n k) (mhO o z) (mhZ z) rg j og (msCopy (ogB og) σ) ct) := by
  refine zT_of ([some (.ref b), some (.int n), some (.int k)]) (by decide +kernel) rfl (Nat.le_of_ble_eq_true rfl) ?_
  intro p e s m args below meth c hC hr hnm
  refine z_iload_n hC dX4_take_0 rfl ?_
  refine z_callS [] hC (c_X4_checkMeter l D ct n hn) bw_107 bw_108 bw_2 bw_109 1 (by decide +kernel) rfl rfl rfl ⟨Nat.le_of_ble_eq_true rfl, Nat.le_of_ble_eq_true rfl⟩ (Nat.le_of_ble_eq_true rfl) ⟨Nat.le_of_ble_eq_true rfl, Nat.le_of_ble_eq_true rfl⟩ rfl dX4_take_1 ?_
  refine zkq (G := fun v1 w1 => zG p l e _ s m args below meth c D _ _ _ _ _ _ _ (v1.toList ++ _) w1) rfl ?_
  refine z_iload_n hC dX4_take_4 rfl ?_
  refine z_iconst (v := 0) hC dX4_take_5 (by decide) ?_
  refine z_sipush (v := 999) hC dX4_take_6 (by decide) ?_
  refine z_callS [] hC (c_X4_checkRange l D ct k 0 999 h1 h2) bw_170 bw_171 bw_2 bw_172 3 (by decide +kernel) rfl rfl rfl ⟨Nat.le_of_ble_eq_true rfl, Nat.le_of_ble_eq_true rfl⟩ (Nat.le_of_ble_eq_true rfl) ⟨Nat.le_of_ble_eq_true rfl, Nat.le_of_ble_eq_true rfl⟩ rfl dX4_take_9 ?_
  refine zkq (G := fun v1 w1 => zG p l e _ s m args below meth c D _ _ _ _ _ _ _ (v1.toList ++ _) w1) rfl ?_
  refine z_aload_n hC dX4_take_12 rfl ?_
  refine z_get 0 0 hC bl_X4 (ci := 4) rfl (by decide) rfl bw_13 rfl rfl dX4_take_13 ?_
  refine z_iload_n hC dX4_take_16 rfl ?_
  refine z_callVN [1, 2, 3, 4, 5, 6, 7, 8, 9, 10, 11, 12, 13, 14, 15, 16] 0 2 hC (c_X2_canTake l D ct qs σ n) nw_35 bw_358 bw_359 bw_12 bw_360 1 (by decide +kernel) rfl rfl rfl rfl rfl ⟨Nat.le_of_ble_eq_true rfl, Nat.le_of_ble_eq_true rfl⟩ (Nat.le_of_ble_eq_true rfl) ⟨Nat.le_of_ble_eq_true rfl, Nat.le_of_ble_eq_true rfl⟩ rfl dX4_take_17 ?_
  refine zkq (G := fun v1 w1 => zG p l e _ s m args below meth c D _ _ _ _ _ _ _ (v1.toList ++ _) w1) rfl ?_
  refine z_if_ne hC 33 dX4_take_20 (by decide) (fun c20 => ?_) (fun c20 => absurd c20 ((bI_1 _).mpr hct))
  refine z_aload_n hC dX4_take_33 rfl ?_
  refine z_get 0 2 hC bl_X4 (ci := 4) rfl (by decide) rfl bw_18 rfl rfl dX4_take_34 ?_
  refine z_aload_n hC dX4_take_37 rfl ?_
  refine z_get 0 0 hC bl_X4 (ci := 4) rfl (by decide) rfl bw_13 rfl rfl dX4_take_38 ?_
  refine z_save hC hj hi hg hb1 hb2 ⟨Nat.le_of_ble_eq_true rfl, Nat.le_of_ble_eq_true rfl⟩ (Nat.le_of_ble_eq_true rfl) ⟨Nat.le_of_ble_eq_true rfl, Nat.le_of_ble_eq_true rfl⟩ dX4_take_41 (fun g' hg' => ?_)
  refine z_aload_n hC dX4_take_44 rfl ?_
  refine z_get 0 0 hC bl_X4 (ci := 4) rfl (by decide) rfl bw_13 rfl rfl dX4_take_45 ?_
  refine z_iload_n hC dX4_take_48 rfl ?_
  refine z_iload_n hC dX4_take_49 rfl ?_
  refine z_callVN [1, 2, 3, 4, 5, 6, 7, 8, 9, 10, 11, 12, 13, 14, 15, 16] 0 2 hC (c_X2_takeReading l D ct qs σ n k hok) nw_37 bw_364 bw_365 bw_12 bw_366 2 (by decide +kernel) rfl rfl rfl rfl rfl ⟨Nat.le_of_ble_eq_true rfl, Nat.le_of_ble_eq_true rfl⟩ (Nat.le_of_ble_eq_true rfl) ⟨Nat.le_of_ble_eq_true rfl, Nat.le_of_ble_eq_true rfl⟩ rfl dX4_take_50 ?_
  refine zkd (G := fun v1 w1 => zG p l e _ s m args below meth c D _ _ _ _ _ _ _ (v1.toList ++ _) w1) (w2 := [cN b qs qt qh qx] ++ (cS qs (msTake σ n k) ct ++ (cH qh (mhO o z) (mhZ z) (va_up rg j (some (g' 0))) ct ++ cS g' (msCopy (ogB og) σ) ct))) cNX_all ?_
  obtain ⟨σ1, eσ1⟩ : ∃ zz_, zz_ = (msTake σ n k) := ⟨_, rfl⟩
  rw [← eσ1]
  subst eσ1
  obtain ⟨wa, wb, hw, hadr⟩ := zS_split (X := [cN b qs qt qh qx]) (X0 := [cN b qs qt qh qx]) (qs := qs) (qh := qh) (g' := g') (σ := σ) (σ2 := (msTake σ n k)) (γ2 := msCopy (ogB og) σ) (o := o) (z := z) (o2 := mhO o z) (z2 := mhZ z) (rg := rg) (j := j) (og := og) (ct := ct) rfl hg'
  exact z_iret hC hr dX4_take_53 (Nat.le_refl _) (Nat.le_refl _) ⟨rfl, g', hg', hw.symm⟩ hw hadr

set_option maxRecDepth 100000 in
set_option maxHeartbeats 1000000 in
theorem c_X4_run (l : Launch) (D : va_G) (ct : Nat → ClassId) (b : Nat) (qs qt qh qx : Nat → Nat) (σ : Nat → Nat → Int32) (o z : Int32) (rg : Nat → Option Nat) (og : Option ((Nat → Nat) × (Nat → Nat → Int32))) (j : Nat) (hj : j < 6) (hi : mFloor (o + z) 6 = nI j) (hg : rg j = ogA og) (hb1 : zbit (σ 1) 100) (hb2 : zbit (σ 2) 10) (k : Int32) (h1 : ¬ k < 1) (h2 : ¬ 100 < k) (hok : okS σ) : zT l D ct yX4_run cX4_run 2 (some .int) 6 152 16 1633 [.ref b, .int k] ([cN b qs qt qh qx] ++ (cS qs σ ct ++ (cH qh o z rg ct ++ cO og ct))) (zS (some (.int (msRunR σ k.toNatClampNeg))) ([cN b qs qt qh qx]) qs qh (msRun σ k.toNatClampNeg) (mhO o z) (mhZ z) rg j og (msCopy (ogB og) σ) ct) := by
  refine zT_of ([some (.ref b), some (.int k)]) (by decide +kernel) rfl (Nat.le_of_ble_eq_true rfl) ?_
  intro p e s m args below meth c hC hr hnm
  refine z_iload_n hC dX4_run_0 rfl ?_
  refine z_iconst (v := 1) hC dX4_run_1 (by decide) ?_
  refine z_bipush (v := 100) hC dX4_run_2 (by decide) ?_
  refine z_callS [] hC (c_X4_checkRange l D ct k 1 100 h1 h2) bw_170 bw_171 bw_2 bw_172 3 (by decide +kernel) rfl rfl rfl ⟨Nat.le_of_ble_eq_true rfl, Nat.le_of_ble_eq_true rfl⟩ (Nat.le_of_ble_eq_true rfl) ⟨Nat.le_of_ble_eq_true rfl, Nat.le_of_ble_eq_true rfl⟩ rfl dX4_run_4 ?_
  refine zkq (G := fun v1 w1 => zG p l e _ s m args below meth c D _ _ _ _ _ _ _ (v1.toList ++ _) w1) rfl ?_
  refine z_aload_n hC dX4_run_7 rfl ?_
  refine z_get 0 2 hC bl_X4 (ci := 4) rfl (by decide) rfl bw_18 rfl rfl dX4_run_8 ?_
  refine z_aload_n hC dX4_run_11 rfl ?_
  refine z_get 0 0 hC bl_X4 (ci := 4) rfl (by decide) rfl bw_13 rfl rfl dX4_run_12 ?_
  refine z_save hC hj hi hg hb1 hb2 ⟨Nat.le_of_ble_eq_true rfl, Nat.le_of_ble_eq_true rfl⟩ (Nat.le_of_ble_eq_true rfl) ⟨Nat.le_of_ble_eq_true rfl, Nat.le_of_ble_eq_true rfl⟩ dX4_run_15 (fun g' hg' => ?_)
  refine z_aload_n hC dX4_run_18 rfl ?_
  refine z_get 0 0 hC bl_X4 (ci := 4) rfl (by decide) rfl bw_13 rfl rfl dX4_run_19 ?_
  refine z_iload_n hC dX4_run_22 rfl ?_
  refine z_callVN [1, 2, 3, 4, 5, 6, 7, 8, 9, 10, 11, 12, 13, 14, 15, 16] 0 2 hC (c_X2_runSlots l D ct qs σ k hok) nw_40 bw_385 bw_386 bw_12 bw_387 1 (by decide +kernel) rfl rfl rfl rfl rfl ⟨Nat.le_of_ble_eq_true rfl, Nat.le_of_ble_eq_true rfl⟩ (Nat.le_of_ble_eq_true rfl) ⟨Nat.le_of_ble_eq_true rfl, Nat.le_of_ble_eq_true rfl⟩ rfl dX4_run_23 ?_
  refine zkd (G := fun v1 w1 => zG p l e _ s m args below meth c D _ _ _ _ _ _ _ (v1.toList ++ _) w1) (w2 := [cN b qs qt qh qx] ++ (cS qs (msRun σ k.toNatClampNeg) ct ++ (cH qh (mhO o z) (mhZ z) (va_up rg j (some (g' 0))) ct ++ cS g' (msCopy (ogB og) σ) ct))) cNX_all ?_
  obtain ⟨σ1, eσ1⟩ : ∃ zz_, zz_ = (msRun σ k.toNatClampNeg) := ⟨_, rfl⟩
  rw [← eσ1]
  subst eσ1
  obtain ⟨wa, wb, hw, hadr⟩ := zS_split (X := [cN b qs qt qh qx]) (X0 := [cN b qs qt qh qx]) (qs := qs) (qh := qh) (g' := g') (σ := σ) (σ2 := (msRun σ k.toNatClampNeg)) (γ2 := msCopy (ogB og) σ) (o := o) (z := z) (o2 := mhO o z) (z2 := mhZ z) (rg := rg) (j := j) (og := og) (ct := ct) rfl hg'
  exact z_iret hC hr dX4_run_26 (Nat.le_refl _) (Nat.le_refl _) ⟨rfl, g', hg', hw.symm⟩ hw hadr
