/-! the calls that save, that undo, that write the text, and the plain ones -/
theorem rng_x : ∀ y : Int32, (if y = 0 then (0 : Int32) else 1) = 0 ∨ (if y = 0 then (0 : Int32) else 1) = 1 := fun y => by
  by_cases h : y = 0
  · exact Or.inl (if_pos h)
  · exact Or.inr (if_neg h)
theorem s_02 (κ : TB) (z : Nat) : mdSave (u2 κ 0 2 0) z 0 2 = 0 := by rw [mdSave_0 _ _ _ (by omega)]; rfl
theorem nI_inj {a c : Nat} (ha : a < 2 ^ 31) (hc : c < 2 ^ 31) (h : nI a = nI c) : a = c := by
  have e := congrArg Int32.toInt h
  rw [nI_toInt ha, nI_toInt hc] at e
  omega
theorem nar_c (x : Int32) : ∃ c : Nat, c < 65536 ∧ vp_nar .char x = nI c := by
  rw [vp_nar_char]
  obtain ⟨u, hu⟩ : ∃ u : UInt16, u = x.toUInt32.toUInt16 := ⟨_, rfl⟩
  rw [← hu]
  refine ⟨u.toNat, u.toNat_lt, ?_⟩
  apply Int32.toBitVec_inj.mp
  apply BitVec.eq_of_toNat_eq
  have h1 : (nI u.toNat).toBitVec.toNat = u.toNat % 2 ^ 32 := rfl
  have h2 : u.toUInt32.toInt32.toBitVec.toNat = u.toNat := rfl
  have h3 := u.toNat_lt
  rw [h1, h2]
  omega
theorem msJoinedL (σ : TB) : ∀ (k i z : Nat), ∃ m, m ≤ z + k ∧ kfor (fun i (a : Int32) => a + (if σ 3 (nI i).toNatClampNeg = -1 then 0 else 1)) k i (nI z) = nI m
  | 0, i, z => ⟨z, Nat.le_refl z, rfl⟩
  | k + 1, i, z => by
    rw [kfor_s]
    by_cases c : σ 3 (nI i).toNatClampNeg = -1
    · obtain ⟨m, h1, h2⟩ := msJoinedL σ k (i + 1) z
      refine ⟨m, by omega, ?_⟩
      rw [← h2, if_pos c]
      exact congrArg (kfor _ k (i + 1)) (Int32.add_zero _)
    · obtain ⟨m, h1, h2⟩ := msJoinedL σ k (i + 1) (z + 1)
      refine ⟨m, by omega, ?_⟩
      rw [← h2, if_neg c, nI_1]
theorem msJoined_n (σ : TB) : ∃ k, k < 11 ∧ msJoined σ = nI k := by
  obtain ⟨m, h1, h2⟩ := msJoinedL σ 10 0 0
  exact ⟨m, by omega, h2⟩
theorem lawI_er {n : Nat} {σ τ κ : TB} {o z : Int32} {rg : Nat → Option Nat} {og : Nat → Option ((Nat → Nat) × TB)} (h : lawI n σ τ κ o z rg og) {t : Nat} {k : Nat} (hk : n ≤ k) : lawI k σ τ (mdEr κ t) o z rg og :=
  ⟨Rel_mono (Rel_r1 h.1 (x3_1 (by omega))) (by omega), lawX_of h.2.1 (kR_x3.2.2 1 (by omega)) (x3_1 (by omega)), lawH_of h.2.2 (kR_x3.2.2 0 (by omega)) (fun c _ _ => congrFun (x3_1 (by omega)) c) hk⟩
theorem lawI_app {n : Nat} {σ τ κ τ2 : TB} {o z v : Int32} {rg : Nat → Option Nat} {og : Nat → Option ((Nat → Nat) × TB)} (h : lawI n σ τ κ o z rg og) {t : Nat} (ht : κ 0 1 = nI t) (ht8 : t < 80) (e : τ2 = u2 (u2 τ 1 t (vp_nar .char v)) 0 0 (nI (t + 1))) : lawI (n + 1) σ τ2 (u2 (u2 (u2 κ 0 2 0) 2 t (vp_nar .char v)) 0 1 (nI (t + 1))) o z rg og := by
  refine ⟨Rel_mono (Rel_r1 h.1 rfl) (by omega), ⟨⟨t + 1, by omega, by rw [e]; exact u2_ye rfl rfl, u2_ye rfl rfl⟩, fun k hk => ?_, fun k hk => ?_⟩, lawH_of h.2.2 rfl (fun _ _ _ => rfl) (by omega)⟩
  · have g1 : τ2 1 k = u2 τ 1 t (vp_nar .char v) 1 k := by rw [e]; exact u2_no (fun q => by omega)
    have g2 : u2 (u2 (u2 κ 0 2 0) 2 t (vp_nar .char v)) 0 1 (nI (t + 1)) 2 k = u2 κ 2 t (vp_nar .char v) 2 k := rfl
    rw [g1, g2, u2_v, u2_v]
    by_cases c : k = t
    · rw [if_pos ⟨rfl, c⟩, if_pos ⟨rfl, c⟩]
    · rw [if_neg (fun q => c q.2), if_neg (fun q => c q.2)]; exact h.2.1.2.1 k hk
  · rw [e, u2_no (fun _ => by omega), u2_v]
    by_cases c : k = t
    · rw [if_pos ⟨rfl, c⟩]; exact nar_c v
    · rw [if_neg (fun q => c q.2)]; exact h.2.1.2.2 k hk
/-- the text, whatever the place -/
theorem lawX_t {τ τ2 κ κ2 : TB} {t q : Nat} (h : lawX τ κ) (ht : κ 0 1 = nI t) (ht8 : t ≤ 80) (hp : tP τ2 (κ 2) t q) (h0 : κ2 0 1 = κ 0 1) (h2 : κ2 2 = κ 2) : lawX τ2 κ2 := by
  obtain ⟨⟨_, _, _, _⟩, h3, h4⟩ := h
  refine ⟨⟨t, ht8, hp.1, by rw [h0]; exact ht⟩, fun k hk => by rw [h2]; exact hp.2.2 k hk, fun k hk => ?_⟩
  obtain ⟨c, c1, c2⟩ := h4 k hk
  exact ⟨c, c1, by rw [hp.2.2 k hk, ← h3 k hk]; exact c2⟩
theorem lawX_p {τ κ : TB} (h : lawX τ κ) : ∃ t, t ≤ 80 ∧ κ 0 1 = nI t ∧ τ 0 0 = nI t ∧ tP (u2 τ 0 1 0) (κ 2) t 0 := by
  obtain ⟨⟨t, t1, t2, t3⟩, h3, h4⟩ := h
  exact ⟨t, t1, t3, t2, by rw [u2_no (fun _ => by omega)]; exact t2, u2_ye rfl rfl, fun k hk => by rw [u2_ne (by omega)]; exact h3 k hk⟩
theorem mtErr_n {τ κ : TB} {t : Nat} (ht8 : t ≤ 80) (h : tP (u2 τ 0 1 0) (κ 2) t 0) : (mtErr τ).1 = (mdErr κ t).1 ∧ ∃ q, tP (mtErr τ).2 (κ 2) t q :=
  err_n ht8 81 _ 0 (κ 0 4) (κ 0 5) h (Nat.zero_le t)
theorem mDiv_n : ∀ k, k < 11 → Op.cmpValue (FP.dcmp (mDiv (nI k)) (mDiv (nI k))) .l = 0 := by decide +kernel
section STR
variable {p : Program} {l : Launch} {e : Env} {s : State} {m : MethodId} {args : Array Value} {below : List Frame} {meth : Method} {c : Code} {D : va_G} {A : Nat → Prop} {Q : State → Prop} {ct : Nat → ClassId} {b0 b ao i L : Nat} {xs : Nat → Int32} {q qs qt qh qx : Nat → Nat} {n cells slots : Nat} {σ ρ τ κ : TB} {g : Nat → Int64} {o z : Int32} {rg : Nat → Option Nat} {og : Nat → Option ((Nat → Nat) × TB)}
set_option maxRecDepth 100000 in
set_option maxHeartbeats 1000000 in
theorem st_link (hC : zC p s m meth c args RL 9 cL_law D ct A) (hx : wX A s s.heap) (hX : va_X b0 L xs s s.heap) (hbl : b0 < s.heap.size) (hbA : ¬ A b0) (hL : L ≤ 2048) (hi : i + 3 < L) (hlf : l.stackTraces = false) (hb1 : cells + 17 ≤ 601024) (hb2 : slots + 1640 ≤ 7293034) (hn6 : n < 600) (hI : lawI n σ τ κ o z rg og) (K : zKK p l e s m args below meth c D A Q b0 b ao i q qs qt qh qx ct n cells slots) : zW1 p l e s m args below meth c D A Q b0 b ao i (q 0) cells slots 184 (blk (lwF b ao q qs qt qh qx σ ρ τ κ g o z rg og ct) all13) := by
  have hR := hI.1
  by_cases hn : mNode (xs (i + 1)) = true ∧ mNode (xs (i + 2)) = true
  · by_cases hac : xs (i + 1) = xs (i + 2)
    · obtain ⟨v, hv, e1⟩ := node_ex hn.1
      obtain ⟨w, hw, e2⟩ := node_ex hn.2
      have hvw : v = w := by rw [e1, e2] at hac; exact nI_inj (by omega) (by omega) hac
      refine z_open (cl := [0]) (rs := [1, 4, 5, 6, 7, 8, 9, 10, 11, 12]) (by decide) e_0 rfl rfl ?_
      refine lc_link hC hx hX hbl hbA hL hi (κ2 := (u2 κ 0 2 2)) (bb := 0) (hx_link_2 l D ct ao b g (xs (i + 1)) (xs (i + 2)) (if xs (i + 3) = 0 then 0 else 1) _ _ _ (by decide) (by decide) (x_X4_link_IAE l D ct b qs qt qh qx (xs (i + 1)) (xs (i + 2)) (if xs (i + 3) = 0 then 0 else 1) hn.1 hn.2 hac hlf) rfl rfl) (by rw [e1, e2]; exact c_X5_link_no2 l D ct q κ v w hv hw hvw _) (by decide) (by decide) ?_ (by omega) (by omega) ?_
      · rintro k wc' wb g' ⟨rfl, rfl, rfl, rfl⟩
        exact ⟨rfl, fun h => absurd h (by decide)⟩
      · rintro k wc' wb g' ⟨rfl, rfl, rfl, rfl⟩
        rw [List.append_nil]
        exact k_same (cl := [0]) (rs := [1, 4, 5, 6, 7, 8, 9, 10, 11, 12]) K (lawI_thr hI 2) (by decide) _ e_0 rfl (by omega) (by omega)
    · obtain ⟨v, hv, e1⟩ := node_ex hn.1
      obtain ⟨w, hw, e2⟩ := node_ex hn.2
      have hvw : ¬ v = w := fun h => hac (by rw [e1, e2, h])
      obtain ⟨j, z', hj, hz0, hz6, hfl, hrg, hsv⟩ := lawI_save hI
      have hRs := (hsv (fun _ => 0)).1
      have hR2 := (show Rel (msSetLink σ (xs (i + 1)) (xs (i + 2)) (if xs (i + 3) = 0 then 0 else 1)) (mdLink (mdSave (u2 κ 0 2 0) z') v w (if xs (i + 3) = 0 then 0 else 1)) 0 (8000 * n) by rw [e1, e2]; exact Rel_link hRs hv hw (rng_x _))
      have HEQ := Rel_links hR2
      refine z_open (cl := [0, 1, 5, j + 7]) (rs := 4 :: 6 :: rng j) (rng_save j hj) e_save rfl rfl ?_
      refine lc_link hC hx hX hbl hbA hL hi (κ2 := (mdLink (mdSave (u2 κ 0 2 0) z') v w (if xs (i + 3) = 0 then 0 else 1))) (bb := (mdLinks (mdLink (mdSave (u2 κ 0 2 0) z') v w (if xs (i + 3) = 0 then 0 else 1)))) (hk_link l D ct ao b g (xs (i + 1)) (xs (i + 2)) (if xs (i + 3) = 0 then 0 else 1) _ _ _ (by decide) (by decide) (c_X4_link l D ct b qs qt qh qx σ o z rg (og j) j hj hfl hrg (Rel_zbit hR).1 (Rel_zbit hR).2 (xs (i + 1)) (xs (i + 2)) (if xs (i + 3) = 0 then 0 else 1) hn.1 hn.2 hac) rfl zS_int) (by rw [e1, e2]; exact c_X5_link_ok l D ct q κ v w hv hw hvw _ z' hz0 hz6) (by decide) (by decide) ?_ (by omega) (by omega) ?_
      · rintro k wc' wb g' ⟨rfl, x, ⟨hx1, a2, ha2, hw2⟩, rfl⟩
        cases hx1
        exact ⟨by rw [show (mdLink (mdSave (u2 κ 0 2 0) z') v w (if xs (i + 3) = 0 then 0 else 1)) 0 = (mdSave (u2 κ 0 2 0) z') 0 from by unfold mdLink; rw [u2_ne (by omega), u2_ne (by omega)]]; exact s_02 κ z', fun _ => pk_uLs.trans (congrArg Int32.toInt64 HEQ)⟩
      · rintro k wc' wb g' ⟨rfl, x, ⟨hx1, a2, ha2, hw2⟩, rfl⟩
        exact k_save hj K a2 (lawI_blk (hsv a2) (Rel_mono hR2 (by omega)) (fr_mdLink hv hw) (by rw [show (mdLink (mdSave (u2 κ 0 2 0) z') v w (if xs (i + 3) = 0 then 0 else 1)) 0 = (mdSave (u2 κ 0 2 0) z') 0 from by unfold mdLink; rw [u2_ne (by omega), u2_ne (by omega)]]) (by rw [show (mdLink (mdSave (u2 κ 0 2 0) z') v w (if xs (i + 3) = 0 then 0 else 1)) 0 = (mdSave (u2 κ 0 2 0) z') 0 from by unfold mdLink; rw [u2_ne (by omega), u2_ne (by omega)]]) (show (mdLink (mdSave (u2 κ 0 2 0) z') v w (if xs (i + 3) = 0 then 0 else 1)) 2 = (mdSave (u2 κ 0 2 0) z') 2 from by unfold mdLink; rw [u2_ne (by omega), u2_ne (by omega)])) hw2 _ (by omega) (by omega)
  · have hn2 : mNode (xs (i + 1)) = false ∨ mNode (xs (i + 2)) = false := by
      by_cases c1 : mNode (xs (i + 1)) = true
      · exact Or.inr (bfalse (fun q => hn ⟨c1, q⟩))
      · exact Or.inl (bfalse c1)
    refine z_open (cl := [0]) (rs := [1, 4, 5, 6, 7, 8, 9, 10, 11, 12]) (by decide) e_0 rfl rfl ?_
    refine lc_link hC hx hX hbl hbA hL hi (κ2 := (u2 κ 0 2 1)) (bb := 0) (hx_link_1 l D ct ao b g (xs (i + 1)) (xs (i + 2)) (if xs (i + 3) = 0 then 0 else 1) _ _ _ (by decide) (by decide) (x_X4_link_IOB l D ct b qs qt qh qx (xs (i + 1)) (xs (i + 2)) (if xs (i + 3) = 0 then 0 else 1) hn2 hlf) rfl rfl) (c_X5_link_no1 l D ct q κ (xs (i + 1)) (xs (i + 2)) _ hn2) (by decide) (by decide) ?_ (by omega) (by omega) ?_
    · rintro k wc' wb g' ⟨rfl, rfl, rfl, rfl⟩
      exact ⟨rfl, fun h => absurd h (by decide)⟩
    · rintro k wc' wb g' ⟨rfl, rfl, rfl, rfl⟩
      rw [List.append_nil]
      exact k_same (cl := [0]) (rs := [1, 4, 5, 6, 7, 8, 9, 10, 11, 12]) K (lawI_thr hI 1) (by decide) _ e_0 rfl (by omega) (by omega)

set_option maxRecDepth 100000 in
set_option maxHeartbeats 1000000 in
theorem st_power (hC : zC p s m meth c args RL 9 cL_law D ct A) (hx : wX A s s.heap) (hX : va_X b0 L xs s s.heap) (hbl : b0 < s.heap.size) (hbA : ¬ A b0) (hL : L ≤ 2048) (hi : i + 3 < L) (hlf : l.stackTraces = false) (hb1 : cells + 17 ≤ 601024) (hb2 : slots + 1640 ≤ 7293034) (hn6 : n < 600) (hI : lawI n σ τ κ o z rg og) (K : zKK p l e s m args below meth c D A Q b0 b ao i q qs qt qh qx ct n cells slots) : zW1 p l e s m args below meth c D A Q b0 b ao i (q 0) cells slots 280 (blk (lwF b ao q qs qt qh qx σ ρ τ κ g o z rg og ct) all13) := by
  have hR := hI.1
  by_cases hn : mNode (xs (i + 1)) = true
  · obtain ⟨v, hv, e1⟩ := node_ex hn
    obtain ⟨j, z', hj, hz0, hz6, hfl, hrg, hsv⟩ := lawI_save hI
    have hRs := (hsv (fun _ => 0)).1
    have hR2 := (show Rel (msSetPower σ (xs (i + 1)) (if xs (i + 2) = 0 then 0 else 1)) (mdPower (mdSave (u2 κ 0 2 0) z') v (if xs (i + 2) = 0 then 0 else 1)) 0 (8000 * n) by rw [e1]; exact Rel_power hRs hv (rng_x _))
    have HEQ := Rel_onCount hR2
    refine z_open (cl := [0, 1, 5, j + 7]) (rs := 4 :: 6 :: rng j) (rng_save j hj) e_save rfl rfl ?_
    refine lc_power hC hx hX hbl hbA hL hi (κ2 := (mdPower (mdSave (u2 κ 0 2 0) z') v (if xs (i + 2) = 0 then 0 else 1))) (bb := (mdOnes ((mdPower (mdSave (u2 κ 0 2 0) z') v (if xs (i + 2) = 0 then 0 else 1)) 1 10))) (hk_power l D ct ao b g (xs (i + 1)) (if xs (i + 2) = 0 then 0 else 1) _ _ _ (by decide) (by decide) (c_X4_power l D ct b qs qt qh qx σ o z rg (og j) j hj hfl hrg (Rel_zbit hR).1 (Rel_zbit hR).2 (xs (i + 1)) hn (if xs (i + 2) = 0 then 0 else 1)) rfl zS_int) (by rw [e1]; exact c_X5_power_ok l D ct q κ v hv _ z' hz0 hz6) (by decide) (by decide) ?_ (by omega) (by omega) ?_
    · rintro k wc' wb g' ⟨rfl, x, ⟨hx1, a2, ha2, hw2⟩, rfl⟩
      cases hx1
      exact ⟨by rw [show (mdPower (mdSave (u2 κ 0 2 0) z') v (if xs (i + 2) = 0 then 0 else 1)) 0 = (mdSave (u2 κ 0 2 0) z') 0 from u2_ne (by omega)]; exact s_02 κ z', fun _ => pk_uLs.trans (congrArg Int32.toInt64 HEQ)⟩
    · rintro k wc' wb g' ⟨rfl, x, ⟨hx1, a2, ha2, hw2⟩, rfl⟩
      exact k_save hj K a2 (lawI_blk (hsv a2) (Rel_mono hR2 (by omega)) fr_mdPower (by rw [show (mdPower (mdSave (u2 κ 0 2 0) z') v (if xs (i + 2) = 0 then 0 else 1)) 0 = (mdSave (u2 κ 0 2 0) z') 0 from u2_ne (by omega)]) (by rw [show (mdPower (mdSave (u2 κ 0 2 0) z') v (if xs (i + 2) = 0 then 0 else 1)) 0 = (mdSave (u2 κ 0 2 0) z') 0 from u2_ne (by omega)]) (show (mdPower (mdSave (u2 κ 0 2 0) z') v (if xs (i + 2) = 0 then 0 else 1)) 2 = (mdSave (u2 κ 0 2 0) z') 2 from u2_ne (by omega))) hw2 _ (by omega) (by omega)
  · refine z_open (cl := [0]) (rs := [1, 4, 5, 6, 7, 8, 9, 10, 11, 12]) (by decide) e_0 rfl rfl ?_
    refine lc_power hC hx hX hbl hbA hL hi (κ2 := (u2 κ 0 2 1)) (bb := 0) (hx_power_1 l D ct ao b g (xs (i + 1)) (if xs (i + 2) = 0 then 0 else 1) _ _ _ (by decide) (by decide) (x_X4_power_IOB l D ct b qs qt qh qx (xs (i + 1)) (if xs (i + 2) = 0 then 0 else 1) (bfalse hn) hlf) rfl rfl) (c_X5_power_no1 l D ct q κ (xs (i + 1)) _ (bfalse hn)) (by decide) (by decide) ?_ (by omega) (by omega) ?_
    · rintro k wc' wb g' ⟨rfl, rfl, rfl, rfl⟩
      exact ⟨rfl, fun h => absurd h (by decide)⟩
    · rintro k wc' wb g' ⟨rfl, rfl, rfl, rfl⟩
      rw [List.append_nil]
      exact k_same (cl := [0]) (rs := [1, 4, 5, 6, 7, 8, 9, 10, 11, 12]) K (lawI_thr hI 1) (by decide) _ e_0 rfl (by omega) (by omega)

set_option maxRecDepth 100000 in
set_option maxHeartbeats 1000000 in
theorem st_jump (hC : zC p s m meth c args RL 9 cL_law D ct A) (hx : wX A s s.heap) (hX : va_X b0 L xs s s.heap) (hbl : b0 < s.heap.size) (hbA : ¬ A b0) (hL : L ≤ 2048) (hi : i + 3 < L) (hlf : l.stackTraces = false) (hb1 : cells + 17 ≤ 601024) (hb2 : slots + 1640 ≤ 7293034) (hn6 : n < 600) (hI : lawI n σ τ κ o z rg og) (K : zKK p l e s m args below meth c D A Q b0 b ao i q qs qt qh qx ct n cells slots) : zW1 p l e s m args below meth c D A Q b0 b ao i (q 0) cells slots 364 (blk (lwF b ao q qs qt qh qx σ ρ τ κ g o z rg og ct) all13) := by
  have hR := hI.1
  by_cases hn : mMeter (xs (i + 1)) = true
  · by_cases hp : ¬ xs (i + 2) < -100 ∧ ¬ 100 < xs (i + 2)
    · obtain ⟨v, h0, hv, e1⟩ := meter_ex hn
      obtain ⟨j, z', hj, hz0, hz6, hfl, hrg, hsv⟩ := lawI_save hI
      have hRs := (hsv (fun _ => 0)).1
      have hR2 := (show Rel (u2 σ 6 (xs (i + 1)).toNatClampNeg (σ 6 (xs (i + 1)).toNatClampNeg + xs (i + 2))) (mdAdd (mdSave (u2 κ 0 2 0) z') (0 + 20 + 7 * v + 0) (xs (i + 2))) 0 (8000 * n) by
      rw [e1, nI_clamp (by omega)]
      have h := Rel_node hRs 0 (by omega) v hv (σ 6 v + xs (i + 2)) (fun q => absurd q (by omega))
      rw [← show (mdSave (u2 κ 0 2 0) z') 1 (0 + 20 + 7 * v + 0) = σ 6 v from hRs.2.1 v 0 hv (by omega)] at h ⊢
      exact h)
      have HEQ := (show σ 6 (xs (i + 1)).toNatClampNeg + xs (i + 2) = (mdAdd (mdSave (u2 κ 0 2 0) z') (0 + 20 + 7 * v + 0) (xs (i + 2))) 1 (0 + 20 + 7 * v + 0) by
      rw [e1, nI_clamp (by omega)]
      unfold mdAdd
      rw [u2_ye rfl rfl, show (mdSave (u2 κ 0 2 0) z') 1 (0 + 20 + 7 * v + 0) = σ 6 v from hRs.2.1 v 0 hv (by omega)])
      refine z_open (cl := [0, 1, 5, j + 7]) (rs := 4 :: 6 :: rng j) (rng_save j hj) e_save rfl rfl ?_
      refine lc_jump hC hx hX hbl hbA hL hi (κ2 := (mdAdd (mdSave (u2 κ 0 2 0) z') (0 + 20 + 7 * v + 0) (xs (i + 2)))) (bb := ((mdAdd (mdSave (u2 κ 0 2 0) z') (0 + 20 + 7 * v + 0) (xs (i + 2))) 1 (0 + 20 + 7 * v + 0))) (hk_jump l D ct ao b g (xs (i + 1)) (xs (i + 2)) _ _ _ (by decide) (by decide) (c_X4_jump l D ct b qs qt qh qx σ o z rg (og j) j hj hfl hrg (Rel_zbit hR).1 (Rel_zbit hR).2 (xs (i + 1)) hn (xs (i + 2)) hp.1 hp.2) rfl zS_int) (by rw [e1]; exact c_X5_jump_ok l D ct q κ v h0 hv (xs (i + 2)) (mIn_iff.mpr hp) z' hz0 hz6) (by decide) (by decide) ?_ (by omega) (by omega) ?_
      · rintro k wc' wb g' ⟨rfl, x, ⟨hx1, a2, ha2, hw2⟩, rfl⟩
        cases hx1
        exact ⟨by rw [show (mdAdd (mdSave (u2 κ 0 2 0) z') (0 + 20 + 7 * v + 0) (xs (i + 2))) 0 = (mdSave (u2 κ 0 2 0) z') 0 from u2_ne (by omega)]; exact s_02 κ z', fun _ => pk_uLs.trans (congrArg Int32.toInt64 HEQ)⟩
      · rintro k wc' wb g' ⟨rfl, x, ⟨hx1, a2, ha2, hw2⟩, rfl⟩
        exact k_save hj K a2 (lawI_blk (hsv a2) (Rel_mono hR2 (by omega)) (fr_u2 (by omega) (by omega)) (by rw [show (mdAdd (mdSave (u2 κ 0 2 0) z') (0 + 20 + 7 * v + 0) (xs (i + 2))) 0 = (mdSave (u2 κ 0 2 0) z') 0 from u2_ne (by omega)]) (by rw [show (mdAdd (mdSave (u2 κ 0 2 0) z') (0 + 20 + 7 * v + 0) (xs (i + 2))) 0 = (mdSave (u2 κ 0 2 0) z') 0 from u2_ne (by omega)]) (show (mdAdd (mdSave (u2 κ 0 2 0) z') (0 + 20 + 7 * v + 0) (xs (i + 2))) 2 = (mdSave (u2 κ 0 2 0) z') 2 from u2_ne (by omega))) hw2 _ (by omega) (by omega)
    · have hp2 : xs (i + 2) < -100 ∨ 100 < xs (i + 2) := mIn_no (bfalse (fun q => hp (mIn_iff.mp q)))
      refine z_open (cl := [0]) (rs := [1, 4, 5, 6, 7, 8, 9, 10, 11, 12]) (by decide) e_0 rfl rfl ?_
      refine lc_jump hC hx hX hbl hbA hL hi (κ2 := (u2 κ 0 2 2)) (bb := 0) (hx_jump_2 l D ct ao b g (xs (i + 1)) (xs (i + 2)) _ _ _ (by decide) (by decide) (x_X4_jump_IAE l D ct b qs qt qh qx (xs (i + 1)) (xs (i + 2)) hn hp2 hlf) rfl rfl) (c_X5_jump_no2 l D ct q κ (xs (i + 1)) (xs (i + 2)) hn (bfalse (fun q => hp (mIn_iff.mp q)))) (by decide) (by decide) ?_ (by omega) (by omega) ?_
      · rintro k wc' wb g' ⟨rfl, rfl, rfl, rfl⟩
        exact ⟨rfl, fun h => absurd h (by decide)⟩
      · rintro k wc' wb g' ⟨rfl, rfl, rfl, rfl⟩
        rw [List.append_nil]
        exact k_same (cl := [0]) (rs := [1, 4, 5, 6, 7, 8, 9, 10, 11, 12]) K (lawI_thr hI 2) (by decide) _ e_0 rfl (by omega) (by omega)
  · refine z_open (cl := [0]) (rs := [1, 4, 5, 6, 7, 8, 9, 10, 11, 12]) (by decide) e_0 rfl rfl ?_
    refine lc_jump hC hx hX hbl hbA hL hi (κ2 := (u2 κ 0 2 1)) (bb := 0) (hx_jump_1 l D ct ao b g (xs (i + 1)) (xs (i + 2)) _ _ _ (by decide) (by decide) (x_X4_jump_IOB l D ct b qs qt qh qx (xs (i + 1)) (xs (i + 2)) (bfalse hn) hlf) rfl rfl) (c_X5_jump_no1 l D ct q κ (xs (i + 1)) (xs (i + 2)) (bfalse hn)) (by decide) (by decide) ?_ (by omega) (by omega) ?_
    · rintro k wc' wb g' ⟨rfl, rfl, rfl, rfl⟩
      exact ⟨rfl, fun h => absurd h (by decide)⟩
    · rintro k wc' wb g' ⟨rfl, rfl, rfl, rfl⟩
      rw [List.append_nil]
      exact k_same (cl := [0]) (rs := [1, 4, 5, 6, 7, 8, 9, 10, 11, 12]) K (lawI_thr hI 1) (by decide) _ e_0 rfl (by omega) (by omega)

set_option maxRecDepth 100000 in
set_option maxHeartbeats 1000000 in
theorem st_setFaults (hC : zC p s m meth c args RL 9 cL_law D ct A) (hx : wX A s s.heap) (hX : va_X b0 L xs s s.heap) (hbl : b0 < s.heap.size) (hbA : ¬ A b0) (hL : L ≤ 2048) (hi : i + 3 < L) (hlf : l.stackTraces = false) (hb1 : cells + 17 ≤ 601024) (hb2 : slots + 1640 ≤ 7293034) (hn6 : n < 600) (hI : lawI n σ τ κ o z rg og) (K : zKK p l e s m args below meth c D A Q b0 b ao i q qs qt qh qx ct n cells slots) : zW1 p l e s m args below meth c D A Q b0 b ao i (q 0) cells slots 432 (blk (lwF b ao q qs qt qh qx σ ρ τ κ g o z rg og ct) all13) := by
  have hR := hI.1
  by_cases hn : mMeter (xs (i + 1)) = true
  · by_cases hp : ¬ xs (i + 2) < 0 ∧ ¬ 9 < xs (i + 2)
    · obtain ⟨v, h0, hv, e1⟩ := meter_ex hn
      obtain ⟨j, z', hj, hz0, hz6, hfl, hrg, hsv⟩ := lawI_save hI
      have hRs := (hsv (fun _ => 0)).1
      have hR2 := (show Rel (u2 σ 7 (xs (i + 1)).toNatClampNeg (xs (i + 2))) (u2 (mdSave (u2 κ 0 2 0) z') 1 (0 + 20 + 7 * v + 4) (xs (i + 2))) 0 (8000 * n) by
      rw [e1, nI_clamp (by omega)]
      exact Rel_node hRs 4 (by omega) v hv (xs (i + 2)) (fun q => absurd q (by omega)))
      have HEQ := (show σ 7 (xs (i + 1)).toNatClampNeg = (mdSave (u2 κ 0 2 0) z') 1 (0 + 20 + 7 * v + 4) by rw [e1, nI_clamp (by omega)]; exact (hRs.2.1 v 4 hv (by omega)).symm)
      refine z_open (cl := [0, 1, 5, j + 7]) (rs := 4 :: 6 :: rng j) (rng_save j hj) e_save rfl rfl ?_
      refine lc_setFaults hC hx hX hbl hbA hL hi (κ2 := (u2 (mdSave (u2 κ 0 2 0) z') 1 (0 + 20 + 7 * v + 4) (xs (i + 2)))) (bb := ((mdSave (u2 κ 0 2 0) z') 1 (0 + 20 + 7 * v + 4))) (hk_setFaults l D ct ao b g (xs (i + 1)) (xs (i + 2)) _ _ _ (by decide) (by decide) (c_X4_setFaults l D ct b qs qt qh qx σ o z rg (og j) j hj hfl hrg (Rel_zbit hR).1 (Rel_zbit hR).2 (xs (i + 1)) hn (xs (i + 2)) hp.1 hp.2) rfl zS_int) (by rw [e1]; exact c_X5_setFaults_ok l D ct q κ v h0 hv (xs (i + 2)) (mIn_iff.mpr hp) z' hz0 hz6) (by decide) (by decide) ?_ (by omega) (by omega) ?_
      · rintro k wc' wb g' ⟨rfl, x, ⟨hx1, a2, ha2, hw2⟩, rfl⟩
        cases hx1
        exact ⟨by rw [show (u2 (mdSave (u2 κ 0 2 0) z') 1 (0 + 20 + 7 * v + 4) (xs (i + 2))) 0 = (mdSave (u2 κ 0 2 0) z') 0 from u2_ne (by omega)]; exact s_02 κ z', fun _ => pk_uLs.trans (congrArg Int32.toInt64 HEQ)⟩
      · rintro k wc' wb g' ⟨rfl, x, ⟨hx1, a2, ha2, hw2⟩, rfl⟩
        exact k_save hj K a2 (lawI_blk (hsv a2) (Rel_mono hR2 (by omega)) (fr_u2 (by omega) (by omega)) (by rw [show (u2 (mdSave (u2 κ 0 2 0) z') 1 (0 + 20 + 7 * v + 4) (xs (i + 2))) 0 = (mdSave (u2 κ 0 2 0) z') 0 from u2_ne (by omega)]) (by rw [show (u2 (mdSave (u2 κ 0 2 0) z') 1 (0 + 20 + 7 * v + 4) (xs (i + 2))) 0 = (mdSave (u2 κ 0 2 0) z') 0 from u2_ne (by omega)]) (show (u2 (mdSave (u2 κ 0 2 0) z') 1 (0 + 20 + 7 * v + 4) (xs (i + 2))) 2 = (mdSave (u2 κ 0 2 0) z') 2 from u2_ne (by omega))) hw2 _ (by omega) (by omega)
    · have hp2 : xs (i + 2) < 0 ∨ 9 < xs (i + 2) := mIn_no (bfalse (fun q => hp (mIn_iff.mp q)))
      refine z_open (cl := [0]) (rs := [1, 4, 5, 6, 7, 8, 9, 10, 11, 12]) (by decide) e_0 rfl rfl ?_
      refine lc_setFaults hC hx hX hbl hbA hL hi (κ2 := (u2 κ 0 2 2)) (bb := 0) (hx_setFaults_2 l D ct ao b g (xs (i + 1)) (xs (i + 2)) _ _ _ (by decide) (by decide) (x_X4_setFaults_IAE l D ct b qs qt qh qx (xs (i + 1)) (xs (i + 2)) hn hp2 hlf) rfl rfl) (c_X5_setFaults_no2 l D ct q κ (xs (i + 1)) (xs (i + 2)) hn (bfalse (fun q => hp (mIn_iff.mp q)))) (by decide) (by decide) ?_ (by omega) (by omega) ?_
      · rintro k wc' wb g' ⟨rfl, rfl, rfl, rfl⟩
        exact ⟨rfl, fun h => absurd h (by decide)⟩
      · rintro k wc' wb g' ⟨rfl, rfl, rfl, rfl⟩
        rw [List.append_nil]
        exact k_same (cl := [0]) (rs := [1, 4, 5, 6, 7, 8, 9, 10, 11, 12]) K (lawI_thr hI 2) (by decide) _ e_0 rfl (by omega) (by omega)
  · refine z_open (cl := [0]) (rs := [1, 4, 5, 6, 7, 8, 9, 10, 11, 12]) (by decide) e_0 rfl rfl ?_
    refine lc_setFaults hC hx hX hbl hbA hL hi (κ2 := (u2 κ 0 2 1)) (bb := 0) (hx_setFaults_1 l D ct ao b g (xs (i + 1)) (xs (i + 2)) _ _ _ (by decide) (by decide) (x_X4_setFaults_IOB l D ct b qs qt qh qx (xs (i + 1)) (xs (i + 2)) (bfalse hn) hlf) rfl rfl) (c_X5_setFaults_no1 l D ct q κ (xs (i + 1)) (xs (i + 2)) (bfalse hn)) (by decide) (by decide) ?_ (by omega) (by omega) ?_
    · rintro k wc' wb g' ⟨rfl, rfl, rfl, rfl⟩
      exact ⟨rfl, fun h => absurd h (by decide)⟩
    · rintro k wc' wb g' ⟨rfl, rfl, rfl, rfl⟩
      rw [List.append_nil]
      exact k_same (cl := [0]) (rs := [1, 4, 5, 6, 7, 8, 9, 10, 11, 12]) K (lawI_thr hI 1) (by decide) _ e_0 rfl (by omega) (by omega)

set_option maxRecDepth 100000 in
set_option maxHeartbeats 1000000 in
theorem st_setPatience (hC : zC p s m meth c args RL 9 cL_law D ct A) (hx : wX A s s.heap) (hX : va_X b0 L xs s s.heap) (hbl : b0 < s.heap.size) (hbA : ¬ A b0) (hL : L ≤ 2048) (hi : i + 3 < L) (hlf : l.stackTraces = false) (hb1 : cells + 17 ≤ 601024) (hb2 : slots + 1640 ≤ 7293034) (hn6 : n < 600) (hI : lawI n σ τ κ o z rg og) (K : zKK p l e s m args below meth c D A Q b0 b ao i q qs qt qh qx ct n cells slots) : zW1 p l e s m args below meth c D A Q b0 b ao i (q 0) cells slots 500 (blk (lwF b ao q qs qt qh qx σ ρ τ κ g o z rg og ct) all13) := by
  have hR := hI.1
  by_cases hp : ¬ xs (i + 1) < 1 ∧ ¬ 5 < xs (i + 1)
  · obtain ⟨j, z', hj, hz0, hz6, hfl, hrg, hsv⟩ := lawI_save hI
    have hRs := (hsv (fun _ => 0)).1
    have hR2 := (show Rel (u2 σ 0 1 (xs (i + 1))) (u2 (mdSave (u2 κ 0 2 0) z') 1 11 (xs (i + 1))) 0 (8000 * n) from Rel_num hRs 11 (by omega) (by omega) (by omega) (by omega) (xs (i + 1)))
    have HEQ := (show σ 0 1 = (mdSave (u2 κ 0 2 0) z') 1 11 from (hRs.1.1 11 (by omega) (by omega) (by omega)).symm)
    refine z_open (cl := [0, 1, 5, j + 7]) (rs := 4 :: 6 :: rng j) (rng_save j hj) e_save rfl rfl ?_
    refine lc_setPatience hC hx hX hbl hbA hL hi (κ2 := (u2 (mdSave (u2 κ 0 2 0) z') 1 11 (xs (i + 1)))) (bb := ((mdSave (u2 κ 0 2 0) z') 1 11)) (hk_setPatience l D ct ao b g (xs (i + 1)) _ _ _ (by decide) (by decide) (c_X4_setPatience l D ct b qs qt qh qx σ o z rg (og j) j hj hfl hrg (Rel_zbit hR).1 (Rel_zbit hR).2 (xs (i + 1)) hp.1 hp.2) rfl zS_int) (c_X5_setPatience_ok l D ct q κ (xs (i + 1)) (mIn_iff.mpr hp) z' hz0 hz6) (by decide) (by decide) ?_ (by omega) (by omega) ?_
    · rintro k wc' wb g' ⟨rfl, x, ⟨hx1, a2, ha2, hw2⟩, rfl⟩
      cases hx1
      exact ⟨by rw [show (u2 (mdSave (u2 κ 0 2 0) z') 1 11 (xs (i + 1))) 0 = (mdSave (u2 κ 0 2 0) z') 0 from u2_ne (by omega)]; exact s_02 κ z', fun _ => pk_uLs.trans (congrArg Int32.toInt64 HEQ)⟩
    · rintro k wc' wb g' ⟨rfl, x, ⟨hx1, a2, ha2, hw2⟩, rfl⟩
      exact k_save hj K a2 (lawI_blk (hsv a2) (Rel_mono hR2 (by omega)) (fr_u2 (by omega) (by omega)) (by rw [show (u2 (mdSave (u2 κ 0 2 0) z') 1 11 (xs (i + 1))) 0 = (mdSave (u2 κ 0 2 0) z') 0 from u2_ne (by omega)]) (by rw [show (u2 (mdSave (u2 κ 0 2 0) z') 1 11 (xs (i + 1))) 0 = (mdSave (u2 κ 0 2 0) z') 0 from u2_ne (by omega)]) (show (u2 (mdSave (u2 κ 0 2 0) z') 1 11 (xs (i + 1))) 2 = (mdSave (u2 κ 0 2 0) z') 2 from u2_ne (by omega))) hw2 _ (by omega) (by omega)
  · have hp2 : xs (i + 1) < 1 ∨ 5 < xs (i + 1) := mIn_no (bfalse (fun q => hp (mIn_iff.mp q)))
    refine z_open (cl := [0]) (rs := [1, 4, 5, 6, 7, 8, 9, 10, 11, 12]) (by decide) e_0 rfl rfl ?_
    refine lc_setPatience hC hx hX hbl hbA hL hi (κ2 := (u2 κ 0 2 1)) (bb := 0) (hx_setPatience_1 l D ct ao b g (xs (i + 1)) _ _ _ (by decide) (by decide) (x_X4_setPatience_IAE l D ct b qs qt qh qx (xs (i + 1)) hp2 hlf) rfl rfl) (c_X5_setPatience_no1 l D ct q κ (xs (i + 1)) (bfalse (fun q => hp (mIn_iff.mp q)))) (by decide) (by decide) ?_ (by omega) (by omega) ?_
    · rintro k wc' wb g' ⟨rfl, rfl, rfl, rfl⟩
      exact ⟨rfl, fun h => absurd h (by decide)⟩
    · rintro k wc' wb g' ⟨rfl, rfl, rfl, rfl⟩
      rw [List.append_nil]
      exact k_same (cl := [0]) (rs := [1, 4, 5, 6, 7, 8, 9, 10, 11, 12]) K (lawI_thr hI 1) (by decide) _ e_0 rfl (by omega) (by omega)

set_option maxRecDepth 100000 in
set_option maxHeartbeats 1000000 in
theorem st_take (hC : zC p s m meth c args RL 9 cL_law D ct A) (hx : wX A s s.heap) (hX : va_X b0 L xs s s.heap) (hbl : b0 < s.heap.size) (hbA : ¬ A b0) (hL : L ≤ 2048) (hi : i + 3 < L) (hlf : l.stackTraces = false) (hb1 : cells + 17 ≤ 601024) (hb2 : slots + 1640 ≤ 7293034) (hn6 : n < 600) (hI : lawI n σ τ κ o z rg og) (K : zKK p l e s m args below meth c D A Q b0 b ao i q qs qt qh qx ct n cells slots) : zW1 p l e s m args below meth c D A Q b0 b ao i (q 0) cells slots 556 (blk (lwF b ao q qs qt qh qx σ ρ τ κ g o z rg og ct) all13) := by
  have hR := hI.1
  by_cases hn : mMeter (xs (i + 1)) = true
  · obtain ⟨v, h0, hv, e1⟩ := meter_ex hn
    by_cases hp : ¬ xs (i + 2) < 0 ∧ ¬ 999 < xs (i + 2)
    · by_cases hc : msCanTake σ (xs (i + 1)) = true
      · have hcan : mdCan κ v = true := by rw [← Rel_canTake hR h0 hv, ← e1]; exact hc
        have hRv := hR
        obtain ⟨j, z', hj, hz0, hz6, hfl, hrg, hsv⟩ := lawI_save hI
        have hRs := (hsv (fun _ => 0)).1
        have hR2 := (show Rel (msTake σ (xs (i + 1)) (xs (i + 2))) (mdTake (mdSave (u2 κ 0 2 0) z') v (xs (i + 2))) 0 (8000 * n) ∧ msTakeR σ (xs (i + 1)) = (mdTake (mdSave (u2 κ 0 2 0) z') v (xs (i + 2))) 1 (0 + 20 + 7 * v + 5) - 1 by
      rw [e1]
      exact Rel_take hRs h0 hv (by rw [← Rel_canTake hRs h0 hv, ← e1]; exact hc) (xs (i + 2)))
        have HEQ := hR2.2
        refine z_open (cl := [0, 1, 5, j + 7]) (rs := 4 :: 6 :: rng j) (rng_save j hj) e_save rfl rfl ?_
        refine lc_take hC hx hX hbl hbA hL hi (κ2 := (mdTake (mdSave (u2 κ 0 2 0) z') v (xs (i + 2)))) (bb := ((mdTake (mdSave (u2 κ 0 2 0) z') v (xs (i + 2))) 1 (0 + 20 + 7 * v + 5) - 1)) (hk_take l D ct ao b g (xs (i + 1)) (xs (i + 2)) _ _ _ (by decide) (by decide) (c_X4_take l D ct b qs qt qh qx σ o z rg (og j) j hj hfl hrg (Rel_zbit hR).1 (Rel_zbit hR).2 (xs (i + 1)) hn (xs (i + 2)) hp.1 hp.2 hc (Rel_okS hR)) rfl zS_int) (by rw [e1]; exact c_X5_take_ok l D ct q κ v h0 hv (xs (i + 2)) (mIn_iff.mpr hp) (Rel_okA hR v hv) hcan z' hz0 hz6 (Rel_okA hRs v hv)) (by decide) (by decide) ?_ (by omega) (by omega) ?_
        · rintro k wc' wb g' ⟨rfl, x, ⟨hx1, a2, ha2, hw2⟩, rfl⟩
          cases hx1
          exact ⟨by rw [show (mdTake (mdSave (u2 κ 0 2 0) z') v (xs (i + 2))) 0 = (mdSave (u2 κ 0 2 0) z') 0 from mdTake_r (by omega) _ _ _]; exact s_02 κ z', fun _ => pk_uLs.trans (congrArg Int32.toInt64 HEQ)⟩
        · rintro k wc' wb g' ⟨rfl, x, ⟨hx1, a2, ha2, hw2⟩, rfl⟩
          exact k_save hj K a2 (lawI_blk (hsv a2) (Rel_mono hR2.1 (by omega)) (fr_mdTake hv (Rel_okA hRs v hv).2) (by rw [show (mdTake (mdSave (u2 κ 0 2 0) z') v (xs (i + 2))) 0 = (mdSave (u2 κ 0 2 0) z') 0 from mdTake_r (by omega) _ _ _]) (by rw [show (mdTake (mdSave (u2 κ 0 2 0) z') v (xs (i + 2))) 0 = (mdSave (u2 κ 0 2 0) z') 0 from mdTake_r (by omega) _ _ _]) (show (mdTake (mdSave (u2 κ 0 2 0) z') v (xs (i + 2))) 2 = (mdSave (u2 κ 0 2 0) z') 2 from mdTake_r (by omega) _ _ _)) hw2 _ (by omega) (by omega)
      · have hc3 : mdCan κ v = false := by rw [← Rel_canTake hR h0 hv, ← e1]; exact bfalse hc
        refine z_open (cl := [0, 1]) (rs := [4, 5, 6, 7, 8, 9, 10, 11, 12]) (by decide) e_01 rfl rfl ?_
        refine lc_take hC hx hX hbl hbA hL hi (κ2 := (u2 κ 0 2 3)) (bb := 0) (hx_take_3 l D ct ao b g (xs (i + 1)) (xs (i + 2)) _ _ _ (by decide) (by decide) (x_X4_take_ISE l D ct b qs qt qh qx σ (xs (i + 1)) (xs (i + 2)) hn hp.1 hp.2 (bfalse hc) hlf) rfl rfl) (by rw [e1]; exact c_X5_take_no3 l D ct q κ v h0 hv (xs (i + 2)) (mIn_iff.mpr hp) (Rel_okA hR v hv) hc3) (by decide) (by decide) ?_ (by omega) (by omega) ?_
        · rintro k wc' wb g' ⟨rfl, rfl, rfl, rfl⟩
          exact ⟨rfl, fun h => absurd h (by decide)⟩
        · rintro k wc' wb g' ⟨rfl, rfl, rfl, rfl⟩
          rw [List.append_nil]
          exact k_same (cl := [0, 1]) (rs := [4, 5, 6, 7, 8, 9, 10, 11, 12]) K (lawI_thr hI 3) (by decide) _ e_01 rfl (by omega) (by omega)
    · have hp2 : xs (i + 2) < 0 ∨ 999 < xs (i + 2) := mIn_no (bfalse (fun q => hp (mIn_iff.mp q)))
      refine z_open (cl := [0]) (rs := [1, 4, 5, 6, 7, 8, 9, 10, 11, 12]) (by decide) e_0 rfl rfl ?_
      refine lc_take hC hx hX hbl hbA hL hi (κ2 := (u2 κ 0 2 2)) (bb := 0) (hx_take_2 l D ct ao b g (xs (i + 1)) (xs (i + 2)) _ _ _ (by decide) (by decide) (x_X4_take_IAE l D ct b qs qt qh qx (xs (i + 1)) (xs (i + 2)) hn hp2 hlf) rfl rfl) (by rw [e1]; exact c_X5_take_no2 l D ct q κ v h0 hv (xs (i + 2)) (Rel_okA hR v hv) (bfalse (fun q => hp (mIn_iff.mp q)))) (by decide) (by decide) ?_ (by omega) (by omega) ?_
      · rintro k wc' wb g' ⟨rfl, rfl, rfl, rfl⟩
        exact ⟨rfl, fun h => absurd h (by decide)⟩
      · rintro k wc' wb g' ⟨rfl, rfl, rfl, rfl⟩
        rw [List.append_nil]
        exact k_same (cl := [0]) (rs := [1, 4, 5, 6, 7, 8, 9, 10, 11, 12]) K (lawI_thr hI 2) (by decide) _ e_0 rfl (by omega) (by omega)
  · refine z_open (cl := [0]) (rs := [1, 4, 5, 6, 7, 8, 9, 10, 11, 12]) (by decide) e_0 rfl rfl ?_
    refine lc_take hC hx hX hbl hbA hL hi (κ2 := (u2 κ 0 2 1)) (bb := 0) (hx_take_1 l D ct ao b g (xs (i + 1)) (xs (i + 2)) _ _ _ (by decide) (by decide) (x_X4_take_IOB l D ct b qs qt qh qx (xs (i + 1)) (xs (i + 2)) (bfalse hn) hlf) rfl rfl) (c_X5_take_no1 l D ct q κ (xs (i + 1)) (xs (i + 2)) (bfalse hn)) (by decide) (by decide) ?_ (by omega) (by omega) ?_
    · rintro k wc' wb g' ⟨rfl, rfl, rfl, rfl⟩
      exact ⟨rfl, fun h => absurd h (by decide)⟩
    · rintro k wc' wb g' ⟨rfl, rfl, rfl, rfl⟩
      rw [List.append_nil]
      exact k_same (cl := [0]) (rs := [1, 4, 5, 6, 7, 8, 9, 10, 11, 12]) K (lawI_thr hI 1) (by decide) _ e_0 rfl (by omega) (by omega)

set_option maxRecDepth 100000 in
set_option maxHeartbeats 1000000 in
theorem st_run (hC : zC p s m meth c args RL 9 cL_law D ct A) (hx : wX A s s.heap) (hX : va_X b0 L xs s s.heap) (hbl : b0 < s.heap.size) (hbA : ¬ A b0) (hL : L ≤ 2048) (hi : i + 3 < L) (hlf : l.stackTraces = false) (hb1 : cells + 17 ≤ 601024) (hb2 : slots + 1640 ≤ 7293034) (hn6 : n < 600) (hI : lawI n σ τ κ o z rg og) (K : zKK p l e s m args below meth c D A Q b0 b ao i q qs qt qh qx ct n cells slots) : zW1 p l e s m args below meth c D A Q b0 b ao i (q 0) cells slots 624 (blk (lwF b ao q qs qt qh qx σ ρ τ κ g o z rg og ct) all13) := by
  have hR := hI.1
  by_cases hp : ¬ xs (i + 1) < 1 ∧ ¬ 100 < xs (i + 1)
  · obtain ⟨u, hu0, hu, e1⟩ := rng_ex (lo := 1) (hi := 100) (by decide) (by decide) hp.1 hp.2
    have eu : (xs (i + 1)).toNatClampNeg = u := by rw [e1, nI_clamp (by omega)]
    obtain ⟨j, z', hj, hz0, hz6, hfl, hrg, hsv⟩ := lawI_save hI
    have hRs := (hsv (fun _ => 0)).1
    have hR2 := (show Rel (msRun σ (xs (i + 1)).toNatClampNeg) (mdRun (mdSave (u2 κ 0 2 0) z') 0 u) 0 (8000 * n + u) by rw [eu]; exact Rel_run hRs (by omega))
    have HEQ := (show msRunR σ (xs (i + 1)).toNatClampNeg = mdRunR (mdSave (u2 κ 0 2 0) z') 0 u by rw [eu]; exact Rel_runR hRs (by omega))
    refine z_open (cl := [0, 1, 5, j + 7]) (rs := 4 :: 6 :: rng j) (rng_save j hj) e_save rfl rfl ?_
    refine lc_run hC hx hX hbl hbA hL hi (κ2 := (mdRun (mdSave (u2 κ 0 2 0) z') 0 u)) (bb := (mdRunR (mdSave (u2 κ 0 2 0) z') 0 u)) (hk_run l D ct ao b g (xs (i + 1)) _ _ _ (by decide) (by decide) (c_X4_run l D ct b qs qt qh qx σ o z rg (og j) j hj hfl hrg (Rel_zbit hR).1 (Rel_zbit hR).2 (xs (i + 1)) hp.1 hp.2 (Rel_okS hR)) rfl zS_int) (by rw [e1]; exact c_X5_run_ok l D ct q κ u (by rw [← e1]; exact mIn_iff.mpr hp) (by omega) z' hz0 hz6 (zI 0) (fun j κ h => zI_step h) ⟨_, _, hRs, by omega⟩) (by decide) (by decide) ?_ (by omega) (by omega) ?_
    · rintro k wc' wb g' ⟨rfl, x, ⟨hx1, a2, ha2, hw2⟩, rfl⟩
      cases hx1
      exact ⟨by rw [show (mdRun (mdSave (u2 κ 0 2 0) z') 0 u) 0 = (mdSave (u2 κ 0 2 0) z') 0 from mdRun_r (by omega) _ _ _]; exact s_02 κ z', fun _ => pk_uLs.trans (congrArg Int32.toInt64 HEQ)⟩
    · rintro k wc' wb g' ⟨rfl, x, ⟨hx1, a2, ha2, hw2⟩, rfl⟩
      exact k_save hj K a2 (lawI_blk (hsv a2) (Rel_mono hR2 (by omega)) (fr_run hRs (k := u) (by omega)) (by rw [show (mdRun (mdSave (u2 κ 0 2 0) z') 0 u) 0 = (mdSave (u2 κ 0 2 0) z') 0 from mdRun_r (by omega) _ _ _]) (by rw [show (mdRun (mdSave (u2 κ 0 2 0) z') 0 u) 0 = (mdSave (u2 κ 0 2 0) z') 0 from mdRun_r (by omega) _ _ _]) (show (mdRun (mdSave (u2 κ 0 2 0) z') 0 u) 2 = (mdSave (u2 κ 0 2 0) z') 2 from mdRun_r (by omega) _ _ _)) hw2 _ (by omega) (by omega)
  · have hp2 : xs (i + 1) < 1 ∨ 100 < xs (i + 1) := mIn_no (bfalse (fun q => hp (mIn_iff.mp q)))
    refine z_open (cl := [0]) (rs := [1, 4, 5, 6, 7, 8, 9, 10, 11, 12]) (by decide) e_0 rfl rfl ?_
    refine lc_run hC hx hX hbl hbA hL hi (κ2 := (u2 κ 0 2 1)) (bb := 0) (hx_run_1 l D ct ao b g (xs (i + 1)) _ _ _ (by decide) (by decide) (x_X4_run_IAE l D ct b qs qt qh qx (xs (i + 1)) hp2 hlf) rfl rfl) (c_X5_run_no1 l D ct q κ (xs (i + 1)) (bfalse (fun q => hp (mIn_iff.mp q)))) (by decide) (by decide) ?_ (by omega) (by omega) ?_
    · rintro k wc' wb g' ⟨rfl, rfl, rfl, rfl⟩
      exact ⟨rfl, fun h => absurd h (by decide)⟩
    · rintro k wc' wb g' ⟨rfl, rfl, rfl, rfl⟩
      rw [List.append_nil]
      exact k_same (cl := [0]) (rs := [1, 4, 5, 6, 7, 8, 9, 10, 11, 12]) K (lawI_thr hI 1) (by decide) _ e_0 rfl (by omega) (by omega)

set_option maxRecDepth 100000 in
set_option maxHeartbeats 1000000 in
theorem st_collected (hC : zC p s m meth c args RL 9 cL_law D ct A) (hx : wX A s s.heap) (hX : va_X b0 L xs s s.heap) (hbl : b0 < s.heap.size) (hbA : ¬ A b0) (hL : L ≤ 2048) (hi : i + 3 < L) (hlf : l.stackTraces = false) (hb1 : cells + 17 ≤ 601024) (hb2 : slots + 1640 ≤ 7293034) (hn6 : n < 600) (hI : lawI n σ τ κ o z rg og) (K : zKK p l e s m args below meth c D A Q b0 b ao i q qs qt qh qx ct n cells slots) : zW1 p l e s m args below meth c D A Q b0 b ao i (q 0) cells slots 1397 (blk (lwF b ao q qs qt qh qx σ ρ τ κ g o z rg og ct) all13) := by
  have hR := hI.1
  have HEQ := (show mrSize (rd σ) 0 = κ 1 19 from (Rel_size hR (n := 0) (by omega)).trans (by rw [Nat.zero_add]; rfl))
  have hM := c_X5_collected l D ct q κ 
  rw [← HEQ] at hM
  refine z_open (cl := [0, 1]) (rs := [4, 5, 6, 7, 8, 9, 10, 11, 12]) (by decide) e_01 rfl rfl ?_
  refine ld_collected hC (c_X4_collected l D ct b qs qt qh qx σ) (by decide) (by decide) rfl hM (by decide) (by decide) (by omega) (by omega) ?_
  exact k_same (cl := [0, 1]) (rs := [4, 5, 6, 7, 8, 9, 10, 11, 12]) K (lawI_thr hI 0) (by decide) _ e_01 rfl (by omega) (by omega)

set_option maxRecDepth 100000 in
set_option maxHeartbeats 1000000 in
theorem st_missing (hC : zC p s m meth c args RL 9 cL_law D ct A) (hx : wX A s s.heap) (hX : va_X b0 L xs s s.heap) (hbl : b0 < s.heap.size) (hbA : ¬ A b0) (hL : L ≤ 2048) (hi : i + 3 < L) (hlf : l.stackTraces = false) (hb1 : cells + 17 ≤ 601024) (hb2 : slots + 1640 ≤ 7293034) (hn6 : n < 600) (hI : lawI n σ τ κ o z rg og) (K : zKK p l e s m args below meth c D A Q b0 b ao i q qs qt qh qx ct n cells slots) : zW1 p l e s m args below meth c D A Q b0 b ao i (q 0) cells slots 1546 (blk (lwF b ao q qs qt qh qx σ ρ τ κ g o z rg og ct) all13) := by
  have hR := hI.1
  have HEQ := (show mrMissing (rd σ) = κ 1 13 - κ 1 19 by have h := Rel_missing hR; rwa [Nat.zero_add, Nat.zero_add] at h)
  have hM := c_X5_missing l D ct q κ 
  rw [← HEQ] at hM
  refine z_open (cl := [0, 1]) (rs := [4, 5, 6, 7, 8, 9, 10, 11, 12]) (by decide) e_01 rfl rfl ?_
  refine ld_missing hC (c_X4_missing l D ct b qs qt qh qx σ) (by decide) (by decide) rfl hM (by decide) (by decide) (by omega) (by omega) ?_
  exact k_same (cl := [0, 1]) (rs := [4, 5, 6, 7, 8, 9, 10, 11, 12]) K (lawI_thr hI 0) (by decide) _ e_01 rfl (by omega) (by omega)

set_option maxRecDepth 100000 in
set_option maxHeartbeats 1000000 in
theorem st_wrongStamps (hC : zC p s m meth c args RL 9 cL_law D ct A) (hx : wX A s s.heap) (hX : va_X b0 L xs s s.heap) (hbl : b0 < s.heap.size) (hbA : ¬ A b0) (hL : L ≤ 2048) (hi : i + 3 < L) (hlf : l.stackTraces = false) (hb1 : cells + 17 ≤ 601024) (hb2 : slots + 1640 ≤ 7293034) (hn6 : n < 600) (hI : lawI n σ τ κ o z rg og) (K : zKK p l e s m args below meth c D A Q b0 b ao i q qs qt qh qx ct n cells slots) : zW1 p l e s m args below meth c D A Q b0 b ao i (q 0) cells slots 1559 (blk (lwF b ao q qs qt qh qx σ ρ τ κ g o z rg og ct) all13) := by
  have hR := hI.1
  have HEQ := (show mrWrong (rd σ) = mdWrong (u2 κ 0 2 0) from Rel_wrong (Rel_r1 (κ2 := u2 κ 0 2 0) hR rfl))
  have hM := c_X5_wrongStamps l D ct q κ (Rel_okC hR)
  rw [← HEQ] at hM
  refine z_open (cl := [0, 1]) (rs := [4, 5, 6, 7, 8, 9, 10, 11, 12]) (by decide) e_01 rfl rfl ?_
  refine ld_wrongStamps hC (c_X4_wrongStamps l D ct b qs qt qh qx σ) (by decide) (by decide) rfl hM (by decide) (by decide) (by omega) (by omega) ?_
  exact k_same (cl := [0, 1]) (rs := [4, 5, 6, 7, 8, 9, 10, 11, 12]) K (lawI_thr hI 0) (by decide) _ e_01 rfl (by omega) (by omega)

set_option maxRecDepth 100000 in
set_option maxHeartbeats 1000000 in
theorem st_time (hC : zC p s m meth c args RL 9 cL_law D ct A) (hx : wX A s s.heap) (hX : va_X b0 L xs s s.heap) (hbl : b0 < s.heap.size) (hbA : ¬ A b0) (hL : L ≤ 2048) (hi : i + 3 < L) (hlf : l.stackTraces = false) (hb1 : cells + 17 ≤ 601024) (hb2 : slots + 1640 ≤ 7293034) (hn6 : n < 600) (hI : lawI n σ τ κ o z rg og) (K : zKK p l e s m args below meth c D A Q b0 b ao i q qs qt qh qx ct n cells slots) : zW1 p l e s m args below meth c D A Q b0 b ao i (q 0) cells slots 1641 (blk (lwF b ao q qs qt qh qx σ ρ τ κ g o z rg og ct) all13) := by
  have hR := hI.1
  have HEQ := (Rel_12 hR).symm
  have hM := c_X5_time l D ct q κ 
  rw [← HEQ] at hM
  refine z_open (cl := [0, 1]) (rs := [4, 5, 6, 7, 8, 9, 10, 11, 12]) (by decide) e_01 rfl rfl ?_
  refine ld_time hC (c_X4_time l D ct b qs qt qh qx σ) (by decide) (by decide) rfl hM (by decide) (by decide) (by omega) (by omega) ?_
  exact k_same (cl := [0, 1]) (rs := [4, 5, 6, 7, 8, 9, 10, 11, 12]) K (lawI_thr hI 0) (by decide) _ e_01 rfl (by omega) (by omega)

set_option maxRecDepth 100000 in
set_option maxHeartbeats 1000000 in
theorem st_joined (hC : zC p s m meth c args RL 9 cL_law D ct A) (hx : wX A s s.heap) (hX : va_X b0 L xs s s.heap) (hbl : b0 < s.heap.size) (hbA : ¬ A b0) (hL : L ≤ 2048) (hi : i + 3 < L) (hlf : l.stackTraces = false) (hb1 : cells + 17 ≤ 601024) (hb2 : slots + 1640 ≤ 7293034) (hn6 : n < 600) (hI : lawI n σ τ κ o z rg og) (K : zKK p l e s m args below meth c D A Q b0 b ao i q qs qt qh qx ct n cells slots) : zW1 p l e s m args below meth c D A Q b0 b ao i (q 0) cells slots 1710 (blk (lwF b ao q qs qt qh qx σ ρ τ κ g o z rg og ct) all13) := by
  have hR := hI.1
  obtain ⟨k0, hk0, ek0⟩ := msJoined_n σ
  have HEQ := (show mDiv (msJoined σ) = mDiv (mdJoined (u2 κ 0 2 0)) from congrArg mDiv (Rel_joined (Rel_r1 (κ2 := u2 κ 0 2 0) hR rfl)))
  have hM := c_X5_joined l D ct q κ 
  rw [← HEQ] at hM
  refine z_open (cl := [0, 1]) (rs := [4, 5, 6, 7, 8, 9, 10, 11, 12]) (by decide) e_01 rfl rfl ?_
  refine ld_joined hC (by rw [ek0]; exact mDiv_n k0 hk0) (c_X4_joined l D ct b qs qt qh qx σ) (by decide) (by decide) rfl hM (by decide) (by decide) (by omega) (by omega) ?_
  exact k_same (cl := [0, 1]) (rs := [4, 5, 6, 7, 8, 9, 10, 11, 12]) K (lawI_thr hI 0) (by decide) _ e_01 rfl (by omega) (by omega)

set_option maxRecDepth 100000 in
set_option maxHeartbeats 1000000 in
theorem st_savedStates (hC : zC p s m meth c args RL 9 cL_law D ct A) (hx : wX A s s.heap) (hX : va_X b0 L xs s s.heap) (hbl : b0 < s.heap.size) (hbA : ¬ A b0) (hL : L ≤ 2048) (hi : i + 3 < L) (hlf : l.stackTraces = false) (hb1 : cells + 17 ≤ 601024) (hb2 : slots + 1640 ≤ 7293034) (hn6 : n < 600) (hI : lawI n σ τ κ o z rg og) (K : zKK p l e s m args below meth c D A Q b0 b ao i q qs qt qh qx ct n cells slots) : zW1 p l e s m args below meth c D A Q b0 b ao i (q 0) cells slots 1751 (blk (lwF b ao q qs qt qh qx σ ρ τ κ g o z rg og ct) all13) := by
  have hR := hI.1
  obtain ⟨o', z', a1, a2, a3, a4, a5, a6, a7⟩ := hI.2.2
  have HEQ := (show z = κ 0 0 by rw [a3, a5])
  have hM := c_X5_savedStates l D ct q κ 
  rw [← HEQ] at hM
  refine z_open (cl := [0, 5]) (rs := [1, 4, 6, 7, 8, 9, 10, 11, 12]) (by decide) e_05 rfl rfl ?_
  refine ld_savedStates hC (c_X4_savedStates l D ct b qs qt qh qx o z rg) (by decide) (by decide) rfl hM (by decide) (by decide) (by omega) (by omega) ?_
  exact k_same (cl := [0, 5]) (rs := [1, 4, 6, 7, 8, 9, 10, 11, 12]) K (lawI_thr hI 0) (by decide) _ e_05 rfl (by omega) (by omega)

set_option maxRecDepth 100000 in
set_option maxHeartbeats 1000000 in
theorem st_textLength (hC : zC p s m meth c args RL 9 cL_law D ct A) (hx : wX A s s.heap) (hX : va_X b0 L xs s s.heap) (hbl : b0 < s.heap.size) (hbA : ¬ A b0) (hL : L ≤ 2048) (hi : i + 3 < L) (hlf : l.stackTraces = false) (hb1 : cells + 17 ≤ 601024) (hb2 : slots + 1640 ≤ 7293034) (hn6 : n < 600) (hI : lawI n σ τ κ o z rg og) (K : zKK p l e s m args below meth c D A Q b0 b ao i q qs qt qh qx ct n cells slots) : zW1 p l e s m args below meth c D A Q b0 b ao i (q 0) cells slots 1764 (blk (lwF b ao q qs qt qh qx σ ρ τ κ g o z rg og ct) all13) := by
  have hR := hI.1
  obtain ⟨t, t1, t2, t3⟩ := hI.2.1.1
  have HEQ := (show τ 0 0 = κ 0 1 by rw [t2, t3])
  have hM := c_X5_textLength l D ct q κ 
  rw [← HEQ] at hM
  refine z_open (cl := [0, 6]) (rs := [1, 4, 5, 7, 8, 9, 10, 11, 12]) (by decide) e_06 rfl rfl ?_
  refine ld_textLength hC (c_X4_textLength l D ct b qs qt qh qx τ) (by decide) (by decide) rfl hM (by decide) (by decide) (by omega) (by omega) ?_
  exact k_same (cl := [0, 6]) (rs := [1, 4, 5, 7, 8, 9, 10, 11, 12]) K (lawI_thr hI 0) (by decide) _ e_06 rfl (by omega) (by omega)

set_option maxRecDepth 100000 in
set_option maxHeartbeats 1000000 in
theorem st_clearText (hC : zC p s m meth c args RL 9 cL_law D ct A) (hx : wX A s s.heap) (hX : va_X b0 L xs s s.heap) (hbl : b0 < s.heap.size) (hbA : ¬ A b0) (hL : L ≤ 2048) (hi : i + 3 < L) (hlf : l.stackTraces = false) (hb1 : cells + 17 ≤ 601024) (hb2 : slots + 1640 ≤ 7293034) (hn6 : n < 600) (hI : lawI n σ τ κ o z rg og) (K : zKK p l e s m args below meth c D A Q b0 b ao i q qs qt qh qx ct n cells slots) : zW1 p l e s m args below meth c D A Q b0 b ao i (q 0) cells slots 736 (blk (lwF b ao q qs qt qh qx σ ρ τ κ g o z rg og ct) all13) := by
  have hR := hI.1
  obtain ⟨⟨t, t1, t2, t3⟩, t4, t5⟩ := hI.2.1
  have HEQ := (show τ 0 0 = κ 0 1 by rw [t2, t3])
  have hM := c_X5_clearText l D ct q κ 
  rw [← HEQ] at hM
  refine z_open (cl := [0, 6]) (rs := [1, 4, 5, 7, 8, 9, 10, 11, 12]) (by decide) e_06 rfl rfl ?_
  refine ld_clearText hC (c_X4_clearText l D ct b qs qt qh qx τ) (by decide) (by decide) rfl hM (by decide) (by decide) (by omega) (by omega) ?_
  exact k_same (cl := [0, 6]) (rs := [1, 4, 5, 7, 8, 9, 10, 11, 12]) (τ := u2 τ 0 0 0) K (show lawI (n + 1) σ (u2 τ 0 0 0) (u2 (u2 κ 0 2 0) 0 1 0) o z rg og from ⟨Rel_mono (Rel_r1 hR rfl) (by omega), ⟨⟨0, by omega, rfl, rfl⟩, t4, t5⟩, lawH_of hI.2.2 rfl (fun _ _ _ => rfl) (by omega)⟩) (by decide) _ e_06 rfl (by omega) (by omega)

set_option maxRecDepth 100000 in
set_option maxHeartbeats 1000000 in
theorem st_errorPosition (hC : zC p s m meth c args RL 9 cL_law D ct A) (hx : wX A s s.heap) (hX : va_X b0 L xs s s.heap) (hbl : b0 < s.heap.size) (hbA : ¬ A b0) (hL : L ≤ 2048) (hi : i + 3 < L) (hlf : l.stackTraces = false) (hb1 : cells + 17 ≤ 601024) (hb2 : slots + 1640 ≤ 7293034) (hn6 : n < 600) (hI : lawI n σ τ κ o z rg og) (K : zKK p l e s m args below meth c D A Q b0 b ao i q qs qt qh qx ct n cells slots) : zW1 p l e s m args below meth c D A Q b0 b ao i (q 0) cells slots 749 (blk (lwF b ao q qs qt qh qx σ ρ τ κ g o z rg og ct) all13) := by
  have hR := hI.1
  obtain ⟨t, t1, t2, t3, t4⟩ := lawX_p hI.2.1
  obtain ⟨v1, q1, v2⟩ := mtErr_n (κ := u2 κ 0 2 0) t1 t4
  have HEQ := v1
  have hM := c_X5_errorPosition l D ct q κ t t2 t1
  rw [← HEQ] at hM
  refine z_open (cl := [0, 6]) (rs := [1, 4, 5, 7, 8, 9, 10, 11, 12]) (by decide) e_06 rfl rfl ?_
  refine ld_errorPosition hC (c_X4_errorPosition l D ct b qs qt qh qx τ hI.2.1.2.2) (by decide) (by decide) rfl hM (by decide) (by decide) (by omega) (by omega) ?_
  exact k_same (cl := [0, 6]) (rs := [1, 4, 5, 7, 8, 9, 10, 11, 12]) (τ := (mtErr τ).2) K (show lawI (n + 1) σ (mtErr τ).2 (mdEr (u2 κ 0 2 0) t) o z rg og from ⟨(lawI_er (lawI_thr hI 0) (t := t) (Nat.le_refl _)).1, lawX_t hI.2.1 t2 t1 v2 (kR_x3.2.2 1 (by omega)) (x3_1 (by omega)), (lawI_er (lawI_thr hI 0) (t := t) (Nat.le_refl _)).2.2⟩) (by decide) _ e_06 rfl (by omega) (by omega)

set_option maxRecDepth 100000 in
set_option maxHeartbeats 1000000 in
theorem st_slotsToCollect (hC : zC p s m meth c args RL 9 cL_law D ct A) (hx : wX A s s.heap) (hX : va_X b0 L xs s s.heap) (hbl : b0 < s.heap.size) (hbA : ¬ A b0) (hL : L ≤ 2048) (hi : i + 3 < L) (hlf : l.stackTraces = false) (hb1 : cells + 17 ≤ 601024) (hb2 : slots + 1640 ≤ 7293034) (hn6 : n < 600) (hI : lawI n σ τ κ o z rg og) (K : zKK p l e s m args below meth c D A Q b0 b ao i q qs qt qh qx ct n cells slots) : zW1 p l e s m args below meth c D A Q b0 b ao i (q 0) cells slots 1572 (blk (lwF b ao q qs qt qh qx σ ρ τ κ g o z rg og ct) all13) := by
  have hR := hI.1
  have hR7 : Rel (msCopy ρ σ) (mdLay (u2 κ 0 2 0) 0 7) 4830 (8000 * n) := Rel_lay (i := 0) (j := 7) (by omega) (Rel_copy (κ := u2 κ 0 2 0) (Rel_r1 hR rfl))
  obtain ⟨s1, s2, s3⟩ := Rel_sc 401 0 _ _ _ hR7 (by omega)
  have hf7 : fr 4830 (u2 κ 0 2 0) (mdSc 401 0 (mdLay (u2 κ 0 2 0) 0 7)).2 := fr_tr (fr_lay (i := 0) (j := 7) (by omega)) s2
  have hk7 : ∀ r, r ≠ 1 → (mdSc 401 0 (mdLay (u2 κ 0 2 0) 0 7)).2 r = u2 κ 0 2 0 r := fun r hr => by rw [s3 r hr, mdLay_0 _ _ _ _ hr]
  have HEQ := s1
  have hM := c_X5_slotsToCollect l D ct q κ (zI 4830) (fun j κ h => zI_step h) ⟨_, _, hR7, by omega⟩ _ rfl
  rw [← HEQ] at hM
  refine z_open (cl := [0, 1, 4]) (rs := [5, 6, 7, 8, 9, 10, 11, 12]) (by decide) e_014 rfl rfl ?_
  refine ld_slotsToCollect hC (c_X4_slotsToCollect l D ct b qs qt qh qx σ ρ (Rel_zbit hR).1 (Rel_zbit hR).2 (Rel_okS hR) _ rfl) (by decide) (by decide) rfl hM (by decide) (by decide) (by omega) (by omega) ?_
  exact k_same (cl := [0, 1, 4]) (rs := [5, 6, 7, 8, 9, 10, 11, 12]) (ρ := (mSc 401 0 (msCopy ρ σ)).2) K (lawI_same hI (by rw [hk7 0 (by omega)]; rfl) (by rw [hk7 0 (by omega)]; rfl) (fun x hx => hf7 x (by omega)) (by rw [hk7 2 (by omega)]; rfl)) (by decide) _ e_014 rfl (by omega) (by omega)

set_option maxRecDepth 100000 in
set_option maxHeartbeats 1000000 in
theorem st_appendText (hC : zC p s m meth c args RL 9 cL_law D ct A) (hx : wX A s s.heap) (hX : va_X b0 L xs s s.heap) (hbl : b0 < s.heap.size) (hbA : ¬ A b0) (hL : L ≤ 2048) (hi : i + 3 < L) (hlf : l.stackTraces = false) (hb1 : cells + 17 ≤ 601024) (hb2 : slots + 1640 ≤ 7293034) (hn6 : n < 600) (hI : lawI n σ τ κ o z rg og) (K : zKK p l e s m args below meth c D A Q b0 b ao i q qs qt qh qx ct n cells slots) : zW1 p l e s m args below meth c D A Q b0 b ao i (q 0) cells slots 680 (blk (lwF b ao q qs qt qh qx σ ρ τ κ g o z rg og ct) all13) := by
  have hR := hI.1
  obtain ⟨t, t1, t2, t3, t4⟩ := lawX_p hI.2.1
  by_cases hp : ¬ xs (i + 1) < 32 ∧ ¬ 126 < xs (i + 1)
  · by_cases ct8 : t < 80
    · have hf : mtFull τ = false := by unfold mtFull; rw [t3]; exact decide_eq_false (nI_ge (by omega) (by decide))
      have eA : mtAppend τ ((xs (i + 1)).toUInt32 % 65536).toInt32 = u2 (u2 τ 1 t (vp_nar .char ((xs (i + 1)).toUInt32 % 65536).toInt32)) 0 0 (nI (t + 1)) := by
        unfold mtAppend
        rw [t3, if_pos ⟨nI_pos (by omega), (nI_ltI (by omega) (by decide)).mpr ct8⟩, nI_clamp (by omega), nI_1]
      have HEQ : mtAppend τ ((xs (i + 1)).toUInt32 % 65536).toInt32 0 0 = nI (t + 1) := by rw [eA]; exact u2_ye rfl rfl
      refine z_open (cl := [0, 6]) (rs := [1, 4, 5, 7, 8, 9, 10, 11, 12]) (by decide) e_06 rfl rfl ?_
      refine lc_appendText hC hx hX hbl hbA hL hi (κ2 := (u2 (u2 (u2 κ 0 2 0) 2 t (vp_nar .char ((xs (i + 1)).toUInt32 % 65536).toInt32)) 0 1 (nI (t + 1)))) (bb := (nI (t + 1))) (hk_appendText l D ct ao b g (xs (i + 1)) _ _ _ (by decide) (by decide) (c_X4_appendText l D ct b qs qt qh qx τ (xs (i + 1)) hp.1 hp.2 hf) rfl zd_int) (c_X5_appendText_ok l D ct q κ (xs (i + 1)) (mIn_iff.mpr hp) t t2 ct8) (by decide) (by decide) ?_ (by omega) (by omega) ?_
      · rintro k wc' wb g' ⟨rfl, x, ⟨hx1, rfl, rfl⟩, rfl⟩
        cases hx1
        refine ⟨rfl, fun _ => ?_⟩
        exact pk_uLs.trans (congrArg Int32.toInt64 HEQ)
      · rintro k wc' wb g' ⟨rfl, x, ⟨hx1, rfl, rfl⟩, rfl⟩
        rw [List.append_nil]
        exact k_same (cl := [0, 6]) (rs := [1, 4, 5, 7, 8, 9, 10, 11, 12]) (τ := mtAppend τ ((xs (i + 1)).toUInt32 % 65536).toInt32) K (show lawI (n + 1) σ (mtAppend τ ((xs (i + 1)).toUInt32 % 65536).toInt32) (u2 (u2 (u2 κ 0 2 0) 2 t (vp_nar .char ((xs (i + 1)).toUInt32 % 65536).toInt32)) 0 1 (nI (t + 1))) o z rg og from lawI_app hI t2 ct8 eA) (by decide) _ e_06 rfl (by omega) (by omega)
    · have e8 : t = 80 := by omega
      subst e8
      have hf : mtFull τ = true := by unfold mtFull; rw [t3]; decide
      refine z_open (cl := [0, 6]) (rs := [1, 4, 5, 7, 8, 9, 10, 11, 12]) (by decide) e_06 rfl rfl ?_
      refine lc_appendText hC hx hX hbl hbA hL hi (κ2 := (u2 κ 0 2 2)) (bb := 0) (hx_appendText_2 l D ct ao b g (xs (i + 1)) _ _ _ (by decide) (by decide) (x_X4_appendText_ISE l D ct b qs qt qh qx τ (xs (i + 1)) hp.1 hp.2 hf hlf) rfl rfl) (c_X5_appendText_no2 l D ct q κ (xs (i + 1)) (mIn_iff.mpr hp) t2) (by decide) (by decide) ?_ (by omega) (by omega) ?_
      · rintro k wc' wb g' ⟨rfl, rfl, rfl, rfl⟩
        exact ⟨rfl, fun h => absurd h (by decide)⟩
      · rintro k wc' wb g' ⟨rfl, rfl, rfl, rfl⟩
        rw [List.append_nil]
        exact k_same (cl := [0, 6]) (rs := [1, 4, 5, 7, 8, 9, 10, 11, 12]) K (lawI_thr hI 2) (by decide) _ e_06 rfl (by omega) (by omega)
  · have hp2 : xs (i + 1) < 32 ∨ 126 < xs (i + 1) := mIn_no (bfalse (fun q => hp (mIn_iff.mp q)))
    refine z_open (cl := [0]) (rs := [1, 4, 5, 6, 7, 8, 9, 10, 11, 12]) (by decide) e_0 rfl rfl ?_
    refine lc_appendText hC hx hX hbl hbA hL hi (κ2 := (u2 κ 0 2 1)) (bb := 0) (hx_appendText_1 l D ct ao b g (xs (i + 1)) _ _ _ (by decide) (by decide) (x_X4_appendText_IAE l D ct b qs qt qh qx (xs (i + 1)) hp2 hlf) rfl rfl) (c_X5_appendText_no1 l D ct q κ (xs (i + 1)) (bfalse (fun q => hp (mIn_iff.mp q)))) (by decide) (by decide) ?_ (by omega) (by omega) ?_
    · rintro k wc' wb g' ⟨rfl, rfl, rfl, rfl⟩
      exact ⟨rfl, fun h => absurd h (by decide)⟩
    · rintro k wc' wb g' ⟨rfl, rfl, rfl, rfl⟩
      rw [List.append_nil]
      exact k_same (cl := [0]) (rs := [1, 4, 5, 6, 7, 8, 9, 10, 11, 12]) K (lawI_thr hI 1) (by decide) _ e_0 rfl (by omega) (by omega)

set_option maxRecDepth 100000 in
set_option maxHeartbeats 1000000 in
theorem st_undo (hC : zC p s m meth c args RL 9 cL_law D ct A) (hx : wX A s s.heap) (hX : va_X b0 L xs s s.heap) (hbl : b0 < s.heap.size) (hbA : ¬ A b0) (hL : L ≤ 2048) (hi : i + 3 < L) (hlf : l.stackTraces = false) (hb1 : cells + 17 ≤ 601024) (hb2 : slots + 1640 ≤ 7293034) (hn6 : n < 600) (hI : lawI n σ τ κ o z rg og) (K : zKK p l e s m args below meth c D A Q b0 b ao i q qs qt qh qx ct n cells slots) : zW1 p l e s m args below meth c D A Q b0 b ao i (q 0) cells slots 806 (blk (lwF b ao q qs qt qh qx σ ρ τ κ g o z rg og ct) all13) := by
  have hR := hI.1
  rcases lawI_undo hI with ⟨hz, hz0⟩ | ⟨j, z', gg, hz, hj, hz0, hz6, hzp, hfl, hog, hrg, hif, zb1, zb2, hI2⟩
  · subst hz
    refine z_open (cl := [0, 5]) (rs := [1, 4, 6, 7, 8, 9, 10, 11, 12]) (by decide) e_05b rfl rfl ?_
    refine lc_undo hC hx hX hbl hbA hL hi (κ2 := (u2 κ 0 2 1)) (bb := 0) (hx_undo_1 l D ct ao b g  _ _ _ (by decide) (by decide) (x_X4_undo_ISE l D ct b qs qt qh qx o rg hlf) rfl rfl) (c_X5_undo_no1 l D ct q κ hz0) (by decide) (by decide) ?_ (by omega) (by omega) ?_
    · rintro k wc' wb g' ⟨rfl, rfl, rfl, rfl⟩
      exact ⟨rfl, fun h => absurd h (by decide)⟩
    · rintro k wc' wb g' ⟨rfl, rfl, rfl, rfl⟩
      rw [List.append_nil]
      exact k_same (cl := [0, 5]) (rs := [1, 4, 6, 7, 8, 9, 10, 11, 12]) K (lawI_thr hI 1) (by decide) _ e_05b rfl (by omega) (by omega)
  · have eO : cO (og j) ct = cS gg.1 gg.2 ct := by rw [hog]; rfl
    have hH := c_X4_undo l D ct b qs qt qh qx gg.1 σ gg.2 o z rg j hz hj hfl hrg zb1 zb2
    rw [hif] at hH
    refine z_open (cl := [0, 1, 5, j + 7]) (rs := 4 :: 6 :: rng j) (wc := [cN b qs qt qh qx] ++ (cS qs σ ct ++ (cH qh o z rg ct ++ cS gg.1 gg.2 ct))) (rng_save j hj) (by rw [e_save, eO]) rfl rfl ?_
    refine lc_undo hC hx hX hbl hbA hL hi (κ2 := (u2 (mdLay (u2 κ 0 2 0) z' 0) 0 0 (nI (z' - 1)))) (bb := nI (z' - 1)) (hk_undo l D ct ao b g _ _ _ (by decide) (by decide) hH rfl zd_int) (c_X5_undo_ok l D ct q κ z' hz0 hz6 hzp) (by decide) (by decide) ?_ (by omega) (by omega) ?_
    · rintro k wc' wb g' ⟨rfl, x, ⟨hx1, rfl, rfl⟩, rfl⟩
      cases hx1
      refine ⟨?_, fun _ => pk_uLs⟩
      rw [u2_no (fun _ => by omega), mdLay_0 _ _ _ _ (by omega)]
      rfl
    · rintro k wc' wb g' ⟨rfl, x, ⟨hx1, rfl, rfl⟩, rfl⟩
      rw [List.append_nil]
      refine k_same (σ := msCopy σ gg.2) (cl := [0, 1, 5, j + 7]) (rs := 4 :: 6 :: rng j) K hI2 (rng_save j hj) _ ?_ (r_save hj (fun _ _ => rfl)) (by omega) (by omega)
      rw [e_save, eO]

set_option maxRecDepth 100000 in
set_option maxHeartbeats 1000000 in
theorem st_runText (hC : zC p s m meth c args RL 9 cL_law D ct A) (hx : wX A s s.heap) (hX : va_X b0 L xs s s.heap) (hbl : b0 < s.heap.size) (hbA : ¬ A b0) (hL : L ≤ 2048) (hi : i + 3 < L) (hlf : l.stackTraces = false) (hb1 : cells + 17 ≤ 601024) (hb2 : slots + 1640 ≤ 7293034) (hn6 : n < 600) (hI : lawI n σ τ κ o z rg og) (K : zKK p l e s m args below meth c D A Q b0 b ao i q qs qt qh qx ct n cells slots) : zW1 p l e s m args below meth c D A Q b0 b ao i (q 0) cells slots 762 (blk (lwF b ao q qs qt qh qx σ ρ τ κ g o z rg og ct) all13) := by
  have hR := hI.1
  obtain ⟨t, t1, t2, t3, t4⟩ := lawX_p hI.2.1
  obtain ⟨v1, q1, v2⟩ := mtErr_n (κ := κ) t1 t4
  by_cases he : (mdErr κ t).1 = -1
  · obtain ⟨j, z', hj, hz0, hz6, hfl, hrg, hsv⟩ := lawI_save (lawI_er hI (t := t) (Nat.le_refl _))
    have hz00 : κ 0 0 = nI z' := (kR_x3.2.2 0 (by omega)).symm.trans hz0
    have hRs := (hsv (fun _ => 0)).1
    have hR1 : Rel σ (u2 (mdSave (u2 (mdEr κ t) 0 2 0) z') 0 3 0) 0 (8000 * n) := Rel_r1 hRs rfl
    obtain ⟨w1, w2, w3, w4⟩ := runT_n (f := κ 2) t1 80 0 (u2 (mtErr τ).2 0 1 0) σ (u2 (mdSave (u2 (mdEr κ t) 0 2 0) z') 0 3 0) 0 (8000 * n) ⟨by rw [u2_no (fun _ => by omega)]; exact v2.1, u2_ye rfl rfl, fun k hk => by rw [u2_ne (by omega)]; exact v2.2.2 k hk⟩ rfl (Nat.zero_le t) ((xE_ind (κ 2) t 81 0 0 0 (κ 0 4) (κ 0 5)).trans he) hR1 (by omega)
    obtain ⟨q2, w5⟩ := w4
    have hk0 : ∀ c, c < 3 → (xR (κ 2) t 80 0 (u2 (mdSave (u2 (mdEr κ t) 0 2 0) z') 0 3 0)).2 0 c = mdSave (u2 (mdEr κ t) 0 2 0) z' 0 c := fun c hc => (w3.2.2 c hc).trans (u2_no (fun _ => by omega))
    have hk1 : (xR (κ 2) t 80 0 (u2 (mdSave (u2 (mdEr κ t) 0 2 0) z') 0 3 0)).2 2 = κ 2 := (w3.2.1 2 (by omega) (by omega)).trans ((u2_ne (by omega)).trans ((mdSave_r (by omega) (by omega) _ _).trans ((u2_ne (by omega)).trans (x3_1 (by omega)))))
    have hk3 : (xR (κ 2) t 80 0 (u2 (mdSave (u2 (mdEr κ t) 0 2 0) z') 0 3 0)).2 0 1 = κ 0 1 := (hk0 1 (by omega)).trans ((mdSave_0 _ _ _ (by omega)).trans ((u2_no (fun _ => by omega)).trans (kR_x3.2.2 1 (by omega))))
    have hM := c_X5_runText_ok l D ct q κ t z' t2 t1 hz00 hz6 he ⟨_, _, hR1, by omega⟩ _ rfl
    rw [← w1] at hM
    refine z_open (cl := [0, 6, 1, 5, j + 7]) (rs := 4 :: rng j) (rng_text j hj) e_text rfl rfl ?_
    refine lc_runText hC hx hX hbl hbA hL hi (κ2 := (xR (κ 2) t 80 0 (u2 (mdSave (u2 (mdEr κ t) 0 2 0) z') 0 3 0)).2) (bb := (mRt 80 0 (u2 (mtErr τ).2 0 1 0) σ).1) (hk_runText l D ct ao b g _ _ _ (by decide) (by decide) (c_X4_runText l D ct b qs qt qh qx τ σ o z rg (og j) j hj hfl hrg (Rel_zbit hR).1 (Rel_zbit hR).2 hI.2.1.2.2 (Rel_okS hR) (v1.trans he) _ rfl) rfl zS_int) hM (by decide) (by decide) ?_ (by omega) (by omega) ?_
    · rintro k wc' wb g' ⟨rfl, x, ⟨hx1, a2, ha2, hw2⟩, rfl⟩
      cases hx1
      exact ⟨(hk0 2 (by omega)).trans (s_02 _ z'), fun _ => pk_uLs⟩
    · rintro k wc' wb g' ⟨rfl, x, ⟨hx1, a2, ha2, hw2⟩, rfl⟩
      have hI3 := lawI_blk (hsv a2) (Rel_mono w2 (by omega)) (fr_tr (show fr 0 (mdSave (u2 (mdEr κ t) 0 2 0) z') (u2 (mdSave (u2 (mdEr κ t) 0 2 0) z') 0 3 0) from fun _ _ => rfl) w3.1) (hk0 0 (by omega)) (hk0 1 (by omega)) (hk1.trans ((mdSave_r (by omega) (by omega) _ _).trans ((u2_ne (by omega)).trans (x3_1 (by omega)))).symm)
      exact k_text hj K a2 ⟨hI3.1, lawX_t hI.2.1 t2 t1 w5 hk3 hk1, hI3.2.2⟩ hw2 _ (by omega) (by omega)
  · refine z_open (cl := [0, 6]) (rs := [1, 4, 5, 7, 8, 9, 10, 11, 12]) (by decide) e_06 rfl rfl ?_
    refine lc_runText hC hx hX hbl hbA hL hi (κ2 := (u2 (mdEr κ t) 0 2 1)) (bb := 0) (hx_runText_1 l D ct ao b g  _ _ _ (by decide) (by decide) (x_X4_runText_ISE l D ct b qs qt qh qx τ hI.2.1.2.2 (fun h => he (v1.symm.trans h)) hlf) rfl rfl) (c_X5_runText_no1 l D ct q κ t t2 t1 he) (by decide) (by decide) ?_ (by omega) (by omega) ?_
    · rintro k wc' wb g' ⟨rfl, rfl, rfl, rfl⟩
      exact ⟨rfl, fun h => absurd h (by decide)⟩
    · rintro k wc' wb g' ⟨rfl, rfl, rfl, rfl⟩
      rw [List.append_nil]
      exact k_same (τ := (mtErr τ).2) (cl := [0, 6]) (rs := [1, 4, 5, 7, 8, 9, 10, 11, 12]) K (show lawI (n + 1) σ (mtErr τ).2 (u2 (mdEr κ t) 0 2 1) o z rg og from ⟨(lawI_thr (lawI_er hI (t := t) (Nat.le_refl _)) 1).1, lawX_t hI.2.1 t2 t1 v2 ((u2_no (fun _ => by omega)).trans (kR_x3.2.2 1 (by omega))) ((u2_ne (by omega)).trans (x3_1 (by omega))), (lawI_thr (lawI_er hI (t := t) (Nat.le_refl _)) 1).2.2⟩) (by decide) _ e_06 rfl (by omega) (by omega)
end STR
