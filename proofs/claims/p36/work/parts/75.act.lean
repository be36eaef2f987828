/-! P36: THE LAW'S act: a call by two numbers -/
def actM (x : Int32) : Nat := 1 + lowN (x >>> (4 &&& 31)) (if nI (lowN (x >>> (9 &&& 31)) 2) = 0 then 9 else 4)
theorem actM_pos (x : Int32) : 0 < actM x := by unfold actM; omega
theorem actM_lt (x : Int32) : actM x < 10 := by
  unfold actM
  have h := lowN_lt (x >>> (4 &&& 31)) (n := if nI (lowN (x >>> (9 &&& 31)) 2) = 0 then 9 else 4) (by split <;> omega)
  have h2 : (if nI (lowN (x >>> (9 &&& 31)) 2) = 0 then 9 else 4) ≤ 9 := by split <;> omega
  omega
def aB (y : Int32) (n : Nat) : Int32 := if nI (lowN y n) ≤ 0 then 0 else 1
def aA (x : Int32) : Nat := lowN (x >>> (4 &&& 31)) 10
def aC (y : Int32) : Nat := lowN y 10
def aX (y : Int32) : Int32 := nI (lowN y 41) - 20
def aR (y : Int32) : Nat := 1 + lowN y (if nI (lowN (y >>> (8 &&& 31)) 3) = 0 then 100 else 20)
/-- what a call by two numbers tells, the state then, and whether it throws -/
def aO (σ : TB) (x y : Int32) : Int32 × TB × Bool :=
  if lowN x 15 < 2 then (if aA x = aC y then (-1000002, σ, true) else (msLinks (msSetLink σ (nI (aA x)) (nI (aC y)) (aB (y >>> (4 &&& 31)) 4)), msSetLink σ (nI (aA x)) (nI (aC y)) (aB (y >>> (4 &&& 31)) 4), false))
  else if lowN x 15 = 2 then (msOnCount (msSetPower σ (nI (aA x)) (aB y 3)), msSetPower σ (nI (aA x)) (aB y 3), false)
  else if lowN x 15 = 3 then (σ 6 (actM x) + aX y, u2 σ 6 (actM x) (σ 6 (actM x) + aX y), false)
  else if lowN x 15 = 4 then (σ 7 (actM x), u2 σ 7 (actM x) (nI (lowN y 4)), false)
  else if lowN x 15 = 5 then (σ 0 1, u2 σ 0 1 (nI (1 + lowN y 5)), false)
  else if lowN x 15 < 10 then (if msCanTake σ (nI (actM x)) = true then (msTakeR σ (nI (actM x)), msTake σ (nI (actM x)) (nI (lowN y 1000)), false) else (-1000003, σ, true))
  else (msRunR σ (aR y), msRun σ (aR y), false)
def aH (t : Bool) (h1 h2 : List TB) : List TB := match t with
  | true => h1
  | false => h2
theorem ft {P : Prop} (z : false = true) : P := absurd z Bool.false_ne_true
theorem tf {P : Prop} (z : true = false) : P := absurd z.symm Bool.false_ne_true
section AO
variable {σ : TB} {x y : Int32}
theorem aO_l0 (h : lowN x 15 < 2) (h2 : aA x = aC y) : aO σ x y = (-1000002, σ, true) := by unfold aO; rw [if_pos h, if_pos h2]
theorem aO_l1 (h : lowN x 15 < 2) (h2 : ¬ aA x = aC y) : aO σ x y = (msLinks (msSetLink σ (nI (aA x)) (nI (aC y)) (aB (y >>> (4 &&& 31)) 4)), msSetLink σ (nI (aA x)) (nI (aC y)) (aB (y >>> (4 &&& 31)) 4), false) := by unfold aO; rw [if_pos h, if_neg h2]
theorem aO_2 (h : lowN x 15 = 2) : aO σ x y = (msOnCount (msSetPower σ (nI (aA x)) (aB y 3)), msSetPower σ (nI (aA x)) (aB y 3), false) := by unfold aO; rw [if_neg (by omega), if_pos h]
theorem aO_3 (h : lowN x 15 = 3) : aO σ x y = (σ 6 (actM x) + aX y, u2 σ 6 (actM x) (σ 6 (actM x) + aX y), false) := by unfold aO; rw [if_neg (by omega), if_neg (by omega), if_pos h]
theorem aO_4 (h : lowN x 15 = 4) : aO σ x y = (σ 7 (actM x), u2 σ 7 (actM x) (nI (lowN y 4)), false) := by unfold aO; rw [if_neg (by omega), if_neg (by omega), if_neg (by omega), if_pos h]
theorem aO_5 (h : lowN x 15 = 5) : aO σ x y = (σ 0 1, u2 σ 0 1 (nI (1 + lowN y 5)), false) := by unfold aO; rw [if_neg (by omega), if_neg (by omega), if_neg (by omega), if_neg (by omega), if_pos h]
theorem aO_t1 (h : 5 < lowN x 15) (h1 : lowN x 15 < 10) (h2 : msCanTake σ (nI (actM x)) = true) : aO σ x y = (msTakeR σ (nI (actM x)), msTake σ (nI (actM x)) (nI (lowN y 1000)), false) := by unfold aO; rw [if_neg (by omega), if_neg (by omega), if_neg (by omega), if_neg (by omega), if_neg (by omega), if_pos h1, if_pos h2]
theorem aO_t0 (h : 5 < lowN x 15) (h1 : lowN x 15 < 10) (h2 : ¬ msCanTake σ (nI (actM x)) = true) : aO σ x y = (-1000003, σ, true) := by unfold aO; rw [if_neg (by omega), if_neg (by omega), if_neg (by omega), if_neg (by omega), if_neg (by omega), if_pos h1, if_neg h2]
theorem aO_r (h : 9 < lowN x 15) : aO σ x y = (msRunR σ (aR y), msRun σ (aR y), false) := by unfold aO; rw [if_neg (by omega), if_neg (by omega), if_neg (by omega), if_neg (by omega), if_neg (by omega), if_neg (by omega)]
theorem aB_01 (y : Int32) (n : Nat) : aB y n = 0 ∨ aB y n = 1 := by unfold aB; split <;> simp
theorem aR_b (y : Int32) : 0 < aR y ∧ aR y ≤ 100 := by
  unfold aR
  have h := lowN_lt y (n := if nI (lowN (y >>> (8 &&& 31)) 3) = 0 then 100 else 20) (by split <;> omega)
  have h2 : (if nI (lowN (y >>> (8 &&& 31)) 3) = 0 then 100 else 20) ≤ 100 := by split <;> omega
  omega
theorem aX_i (y : Int32) : (aX y).toInt = (lowN y 41 : Int) - 20 := by
  have h := lowN_lt y (n := 41) (by omega)
  exact pk_sub_toInt (a := lowN y 41) (b := 20) (by omega) (by omega)
theorem aX_b (y : Int32) : ¬ aX y < -100 ∧ ¬ 100 < aX y := by
  have h := lowN_lt y (n := 41) (by omega)
  have e := aX_i y
  have e1 : (-100 : Int32).toInt = -100 := by decide
  have e2 : (100 : Int32).toInt = 100 := by decide
  rw [Int32.lt_iff_toInt_lt, Int32.lt_iff_toInt_lt, e, e1, e2]
  omega
/-- what a call by two numbers keeps; it tells less than -999999 just if it throws, and then the state stays -/
theorem Inv_act {B : Nat} (h : Inv B σ) (hB : B + 1000 < 900000) (x y : Int32) : Inv (B + 100) (aO σ x y).2.1 ∧ ((aO σ x y).2.2 = true → (aO σ x y).1 ≤ -1000000 ∧ (aO σ x y).2.1 = σ) ∧ ((aO σ x y).2.2 = false → -1000000 < (aO σ x y).1) := by
  have pos : ∀ n : Nat, n < 2 ^ 30 → (-1000000 : Int32) < nI n := fun n hn => by
    rw [Int32.lt_iff_toInt_lt, nI_toInt (by omega)]
    have : (-1000000 : Int32).toInt = -1000000 := by decide
    omega
  have hA : aA x < 10 := lowN_lt _ (by omega)
  have hC : aC y < 10 := lowN_lt _ (by omega)
  have hm0 := actM_pos x
  have hm := actM_lt x
  have h15 := lowN_lt x (n := 15) (by omega)
  rcases (show lowN x 15 < 2 ∨ lowN x 15 = 2 ∨ lowN x 15 = 3 ∨ lowN x 15 = 4 ∨ lowN x 15 = 5 ∨ (5 < lowN x 15 ∧ lowN x 15 < 10) ∨ 9 < lowN x 15 by omega) with q | q | q | q | q | ⟨q, q2⟩ | q
  · by_cases c : aA x = aC y
    · rw [aO_l0 q c]
      exact ⟨Inv_mono h (by omega), fun _ => ⟨(by decide : (-1000002 : Int32) ≤ -1000000), rfl⟩, fun z => tf z⟩
    · rw [aO_l1 q c]
      refine ⟨Inv_mono (Inv_link h hA hC c (aB_01 _ _)) (by omega), fun z => ft z, fun _ => ?_⟩
      obtain ⟨n, n1, n2⟩ := links_n (msSetLink σ (nI (aA x)) (nI (aC y)) (aB (y >>> (4 &&& 31)) 4))
      show -1000000 < msLinks _
      rw [n2]; exact pos n (by omega)
  · rw [aO_2 q]
    refine ⟨Inv_mono (Inv_power h hA (aB_01 _ _)) (by omega), fun z => ft z, fun _ => ?_⟩
    obtain ⟨n, n1, n2⟩ := on_n (msSetPower σ (nI (aA x)) (aB y 3))
    show -1000000 < msOnCount _
    rw [n2]; exact pos n (by omega)
  · rw [aO_3 q]
    have e := aX_i y
    have l := lowN_lt y (n := 41) (by omega)
    have j := Inv_jump h hm0 hm (x := aX y) (b := 100) (by omega) (by omega)
    refine ⟨j, fun z => ft z, fun _ => ?_⟩
    obtain ⟨-, t, -, js, -⟩ := j
    have g := (js.2.2.2.2.2.2.2 (actM x) hm).2
    rw [u2_ye rfl rfl] at g
    show -1000000 < σ 6 (actM x) + aX y
    rw [Int32.lt_iff_toInt_lt]
    have : (-1000000 : Int32).toInt = -1000000 := by decide
    omega
  · rw [aO_4 q]
    have l := lowN_lt y (n := 4) (by omega)
    refine ⟨Inv_mono (Inv_faults h hm (f := lowN y 4) (by omega)) (by omega), fun z => ft z, fun _ => ?_⟩
    obtain ⟨f, f1, f2⟩ := Inv_f h hm
    show -1000000 < σ 7 (actM x)
    rw [f2]; exact pos f (by omega)
  · rw [aO_5 q]
    have l := lowN_lt y (n := 5) (by omega)
    refine ⟨Inv_mono (Inv_patience h (p := 1 + lowN y 5) (by omega)) (by omega), fun z => ft z, fun _ => ?_⟩
    obtain ⟨-, t, -, js, -⟩ := h
    obtain ⟨p, p1, p2⟩ := js.2.2.2.2.2.2.1
    show -1000000 < σ 0 1
    rw [p2]; exact pos p (by omega)
  · by_cases c : msCanTake σ (nI (actM x)) = true
    · rw [aO_t1 q q2 c]
      refine ⟨Inv_mono (Inv_take h hm0 hm c _) (by omega), fun z => ft z, fun _ => ?_⟩
      obtain ⟨⟨κ, h1⟩, -⟩ := h
      obtain ⟨k1, k2⟩ := can_n h1 hm0 hm c
      show -1000000 < msTakeR σ (nI (actM x))
      rw [(take_eq h1 hm0 hm k1 k2 0).1]
      have := cnt_le (f := σ 9) (m := actM x) (k := sT σ)
      exact pos _ (by omega)
    · rw [aO_t0 q q2 c]
      exact ⟨Inv_mono h (by omega), fun _ => ⟨(by decide : (-1000003 : Int32) ≤ -1000000), rfl⟩, fun z => tf z⟩
  · rw [aO_r q]
    have r := aR_b y
    have j := Inv_run h (k := aR y) (by omega)
    refine ⟨Inv_mono j (by omega), fun z => ft z, fun _ => ?_⟩
    show -1000000 < msRunR σ (aR y)
    rw [runR_n h (by omega)]
    have := (size_0 j).2
    exact pos _ (by omega)
end AO

set_option maxRecDepth 100000 in
set_option maxHeartbeats 1000000 in
theorem c_L_act (l : Launch) (hlf : l.stackTraces = false) (D : va_G) (ct : Nat → ClassId) (b : Nat) (qs qt qh qx : Nat → Nat) (σ : TB) (hs : List TB) {B : Nat} (hI : Inv B σ) (x y : Int32) : ∀ (ρ : TB) (o z : Int32) (rg : Nat → Option Nat) (og : OG), hOK hs o z rg og → zTX l D ct yL_act cL_act 4 (some .int) 10 200 16 1633 [.ref b, .int x, .int y] (lwW b qs qt qh qx σ ρ o z rg og ct) (lwP b qs qt qh qx og ct (some (.int (aO σ x y).1)) (aO σ x y).2.1 (aH (aO σ x y).2.2 hs (push σ hs))) := by
  intro ρ o z rg og hok
  have hA : aA x < 10 := lowN_lt _ (by omega)
  have hC0 : aC y < 10 := lowN_lt _ (by omega)
  refine zTX_of ([some (.ref b), some (.int x), some (.int y), none]) (by decide +kernel) rfl (Nat.le_of_ble_eq_true rfl) ?_
  intro p e s m args below meth c hC hX hr
  refine z_iconst (v := 1) hC dL_act_0 (by decide) ?_
  refine z_iload_n hC dL_act_1 rfl ?_
  refine z_iconst (v := 4) hC dL_act_2 (by decide) ?_
  refine z_ishr hC dL_act_3 ?_
  refine z_iload_n hC dL_act_4 rfl ?_
  refine z_bipush (v := 9) hC dL_act_5 (by decide) ?_
  refine z_ishr hC dL_act_7 ?_
  refine z_iconst (v := 2) hC dL_act_8 (by decide) ?_
  refine z_callS [] hC (c_L_low l D ct (x >>> (9 &&& 31)) 2 (by decide) (by decide)) bw_263 bw_264 bw_62 bw_265 2 (by decide +kernel) rfl rfl rfl ⟨Nat.le_of_ble_eq_true rfl, Nat.le_of_ble_eq_true rfl⟩ (Nat.le_of_ble_eq_true rfl) ⟨Nat.le_of_ble_eq_true rfl, Nat.le_of_ble_eq_true rfl⟩ rfl dL_act_9 ?_
  refine zkq (G := fun v1 w1 => zG p l e _ s m args below meth c D _ _ _ _ _ _ _ (v1.toList ++ _) w1) rfl ?_
  suffices k21_1 : zG p l e { frames := 10, cells := 16, slots := 1633, locals := 200 } s m args below meth c D (va_A (lwW b qs qt qh qx σ ρ o z rg og ct) s.heap.size) 4 (MQ below (zQ D ct (lwW b qs qt qh qx σ ρ o z rg og ct) s.heap.size (lwP b qs qt qh qx og ct (some (.int (aO σ x y).1)) (aO σ x y).2.1 (aH (aO σ x y).2.2 hs (push σ hs)))) args s 16 1633 (va_A (lwW b qs qt qh qx σ ρ o z rg og ct) s.heap.size)) (0 + 0) (0 + 0) 21 [some (.ref b), some (.int x), some (.int y), none] [.int (nI (if nI (lowN (x >>> (9 &&& 31)) 2) = 0 then 9 else 4)), .int (x >>> (4 &&& 31)), .int 1] (lwW b qs qt qh qx σ ρ o z rg og ct) by
    refine z_if_ne hC 20 dL_act_12 (by decide) (fun c12 => ?_) (fun c12 => ?_)
    · refine z_iconst (v := 4) hC dL_act_20 (by decide) ?_
      exact zG_s (by first | (rw [if_pos (c12)] <;> rfl) | (rw [if_neg (c12)] <;> rfl)) k21_1
    · refine z_bipush (v := 9) hC dL_act_15 (by decide) ?_
      refine z_goto hC 21 dL_act_17 (by decide) ?_
      exact zG_s (by first | (rw [if_pos (c12)] <;> rfl) | (rw [if_neg (c12)] <;> rfl)) k21_1
  refine z_callS [] hC (c_L_low l D ct (x >>> (4 &&& 31)) (if nI (lowN (x >>> (9 &&& 31)) 2) = 0 then 9 else 4) (by split <;> omega) (by split <;> omega)) bw_263 bw_264 bw_62 bw_265 2 (by decide +kernel) rfl rfl rfl ⟨Nat.le_of_ble_eq_true rfl, Nat.le_of_ble_eq_true rfl⟩ (Nat.le_of_ble_eq_true rfl) ⟨Nat.le_of_ble_eq_true rfl, Nat.le_of_ble_eq_true rfl⟩ rfl dL_act_21 ?_
  refine zkq (G := fun v1 w1 => zG p l e _ s m args below meth c D _ _ _ _ _ _ _ (v1.toList ++ _) w1) rfl ?_
  refine z_iadd hC dL_act_24 ?_
  rw [show ((1 : Int32) + (nI (lowN (x >>> (4 &&& 31)) (if nI (lowN (x >>> (9 &&& 31)) 2) = 0 then 9 else 4)))) = (nI (actM x)) from nI_add 1 _]
  refine z_istore_n hC dL_act_25 (by decide) rfl ?_
  refine z_iload_n hC dL_act_26 rfl ?_
  refine z_bipush (v := 15) hC dL_act_27 (by decide) ?_
  refine z_callS [] hC (c_L_low l D ct x 15 (by decide) (by decide)) bw_263 bw_264 bw_62 bw_265 2 (by decide +kernel) rfl rfl rfl ⟨Nat.le_of_ble_eq_true rfl, Nat.le_of_ble_eq_true rfl⟩ (Nat.le_of_ble_eq_true rfl) ⟨Nat.le_of_ble_eq_true rfl, Nat.le_of_ble_eq_true rfl⟩ rfl dL_act_29 ?_
  refine zkq (G := fun v1 w1 => zG p l e _ s m args below meth c D _ _ _ _ _ _ _ (v1.toList ++ _) w1) rfl ?_
  have h15 := lowN_lt x (n := 15) (by omega)
  rcases (show lowN x 15 = 0 ∨ lowN x 15 = 1 ∨ lowN x 15 = 2 ∨ lowN x 15 = 3 ∨ lowN x 15 = 4 ∨ lowN x 15 = 5 ∨ lowN x 15 = 6 ∨ lowN x 15 = 7 ∨ lowN x 15 = 8 ∨ lowN x 15 = 9 ∨ 9 < lowN x 15 by omega) with eK | eK | eK | eK | eK | eK | eK | eK | eK | eK | eK
  · rw [eK]
    refine z_tableIn (off := 56) hC 88 dL_act_32 (by decide) (by decide) rfl (by decide) ?_
    refine z_aload_n hC dL_act_88 rfl ?_
    refine z_iload_n hC dL_act_89 rfl ?_
    refine z_iconst (v := 4) hC dL_act_90 (by decide) ?_
    refine z_ishr hC dL_act_91 ?_
    refine z_bipush (v := 10) hC dL_act_92 (by decide) ?_
    refine z_callS [] hC (c_L_low l D ct (x >>> (4 &&& 31)) 10 (by decide) (by decide)) bw_263 bw_264 bw_62 bw_265 2 (by decide +kernel) rfl rfl rfl ⟨Nat.le_of_ble_eq_true rfl, Nat.le_of_ble_eq_true rfl⟩ (Nat.le_of_ble_eq_true rfl) ⟨Nat.le_of_ble_eq_true rfl, Nat.le_of_ble_eq_true rfl⟩ rfl dL_act_94 ?_
    refine zkq (G := fun v1 w1 => zG p l e _ s m args below meth c D _ _ _ _ _ _ _ (v1.toList ++ _) w1) rfl ?_
    rw [show (nI (lowN (x >>> (4 &&& 31)) 10)) = (nI (aA x)) from rfl]
    refine z_iload_n hC dL_act_97 rfl ?_
    refine z_bipush (v := 10) hC dL_act_98 (by decide) ?_
    refine z_callS [] hC (c_L_low l D ct y 10 (by decide) (by decide)) bw_263 bw_264 bw_62 bw_265 2 (by decide +kernel) rfl rfl rfl ⟨Nat.le_of_ble_eq_true rfl, Nat.le_of_ble_eq_true rfl⟩ (Nat.le_of_ble_eq_true rfl) ⟨Nat.le_of_ble_eq_true rfl, Nat.le_of_ble_eq_true rfl⟩ rfl dL_act_100 ?_
    refine zkq (G := fun v1 w1 => zG p l e _ s m args below meth c D _ _ _ _ _ _ _ (v1.toList ++ _) w1) rfl ?_
    rw [show (nI (lowN y 10)) = (nI (aC y)) from rfl]
    refine z_iload_n hC dL_act_103 rfl ?_
    refine z_iconst (v := 4) hC dL_act_104 (by decide) ?_
    refine z_ishr hC dL_act_105 ?_
    refine z_iconst (v := 4) hC dL_act_106 (by decide) ?_
    refine z_callS [] hC (c_L_low l D ct (y >>> (4 &&& 31)) 4 (by decide) (by decide)) bw_263 bw_264 bw_62 bw_265 2 (by decide +kernel) rfl rfl rfl ⟨Nat.le_of_ble_eq_true rfl, Nat.le_of_ble_eq_true rfl⟩ (Nat.le_of_ble_eq_true rfl) ⟨Nat.le_of_ble_eq_true rfl, Nat.le_of_ble_eq_true rfl⟩ rfl dL_act_107 ?_
    refine zkq (G := fun v1 w1 => zG p l e _ s m args below meth c D _ _ _ _ _ _ _ (v1.toList ++ _) w1) rfl ?_
    suffices k118_2 : zG p l e { frames := 10, cells := 16, slots := 1633, locals := 200 } s m args below meth c D (va_A (lwW b qs qt qh qx σ ρ o z rg og ct) s.heap.size) 4 (MQ below (zQ D ct (lwW b qs qt qh qx σ ρ o z rg og ct) s.heap.size (lwP b qs qt qh qx og ct (some (.int (aO σ x y).1)) (aO σ x y).2.1 (aH (aO σ x y).2.2 hs (push σ hs)))) args s 16 1633 (va_A (lwW b qs qt qh qx σ ρ o z rg og ct) s.heap.size)) ((((((0 + 0) + 0) + 0) + 0) + 0) + 0) ((((((0 + 0) + 0) + 0) + 0) + 0) + 0) 118 [some (.ref b), some (.int x), some (.int y), some (.int (nI (actM x)))] [.int (aB (y >>> (4 &&& 31)) 4), .int (nI (aC y)), .int (nI (aA x)), .ref b] (lwW b qs qt qh qx σ ρ o z rg og ct) by
      refine z_if_le hC 117 dL_act_110 (by decide) (fun c110 => ?_) (fun c110 => ?_)
      · refine z_iconst (v := 0) hC dL_act_117 (by decide) ?_
        exact zG_s (by unfold aB; first | (rw [if_pos (c110)] <;> rfl) | (rw [if_neg (c110)] <;> rfl) | (rw [if_pos (i_nlt.mpr c110)] <;> rfl) | (rw [if_neg (i_nlt.mpr c110)] <;> rfl)) k118_2
      · refine z_iconst (v := 1) hC dL_act_113 (by decide) ?_
        refine z_goto hC 118 dL_act_114 (by decide) ?_
        exact zG_s (by unfold aB; first | (rw [if_pos (c110)] <;> rfl) | (rw [if_neg (c110)] <;> rfl) | (rw [if_pos (i_nle.mp c110)] <;> rfl) | (rw [if_neg (i_nle.mp c110)] <;> rfl)) k118_2
    by_cases hac : aA x = aC y
    · rw [hac]
      refine z_callLW hC hX hok (w_linkX l hlf D ct b qs qt qh qx σ hs hI (aC y) hC0 (aB (y >>> (4 &&& 31)) 4)) bw_267 bw_268 bw_62 bw_269 4 (by decide +kernel) rfl ⟨Nat.le_of_ble_eq_true rfl, Nat.le_of_ble_eq_true rfl⟩ (Nat.le_of_ble_eq_true rfl) ⟨Nat.le_of_ble_eq_true rfl, Nat.le_of_ble_eq_true rfl⟩ rfl dL_act_118 ?_
      intro ρ3 o3 z3 rg3 og3 hok3 hy3
      have hx3 := hy3
      rw [show aO σ x y = _ from aO_l0 (by omega) hac]
      exact z_iretW hC hr dL_act_121 (Nat.le_of_ble_eq_true rfl) (Nat.le_of_ble_eq_true rfl) hok3 hx3
    · refine z_callLW hC hX hok (fun ρ o z rg og hok => zL_of_zH (w_link l D ct b qs qt qh qx σ hs hI (aA x) (aC y) hA hC0 hac (aB (y >>> (4 &&& 31)) 4) ρ o z rg og hok)) bw_267 bw_268 bw_62 bw_269 4 (by decide +kernel) rfl ⟨Nat.le_of_ble_eq_true rfl, Nat.le_of_ble_eq_true rfl⟩ (Nat.le_of_ble_eq_true rfl) ⟨Nat.le_of_ble_eq_true rfl, Nat.le_of_ble_eq_true rfl⟩ rfl dL_act_118 ?_
      intro ρ4 o4 z4 rg4 og4 hok4 hy4
      have hx4 := hy4
      rw [show aO σ x y = _ from aO_l1 (by omega) hac]
      exact z_iretW hC hr dL_act_121 (Nat.le_of_ble_eq_true rfl) (Nat.le_of_ble_eq_true rfl) hok4 hx4
  · rw [eK]
    refine z_tableIn (off := 56) hC 88 dL_act_32 (by decide) (by decide) rfl (by decide) ?_
    refine z_aload_n hC dL_act_88 rfl ?_
    refine z_iload_n hC dL_act_89 rfl ?_
    refine z_iconst (v := 4) hC dL_act_90 (by decide) ?_
    refine z_ishr hC dL_act_91 ?_
    refine z_bipush (v := 10) hC dL_act_92 (by decide) ?_
    refine z_callS [] hC (c_L_low l D ct (x >>> (4 &&& 31)) 10 (by decide) (by decide)) bw_263 bw_264 bw_62 bw_265 2 (by decide +kernel) rfl rfl rfl ⟨Nat.le_of_ble_eq_true rfl, Nat.le_of_ble_eq_true rfl⟩ (Nat.le_of_ble_eq_true rfl) ⟨Nat.le_of_ble_eq_true rfl, Nat.le_of_ble_eq_true rfl⟩ rfl dL_act_94 ?_
    refine zkq (G := fun v1 w1 => zG p l e _ s m args below meth c D _ _ _ _ _ _ _ (v1.toList ++ _) w1) rfl ?_
    rw [show (nI (lowN (x >>> (4 &&& 31)) 10)) = (nI (aA x)) from rfl]
    refine z_iload_n hC dL_act_97 rfl ?_
    refine z_bipush (v := 10) hC dL_act_98 (by decide) ?_
    refine z_callS [] hC (c_L_low l D ct y 10 (by decide) (by decide)) bw_263 bw_264 bw_62 bw_265 2 (by decide +kernel) rfl rfl rfl ⟨Nat.le_of_ble_eq_true rfl, Nat.le_of_ble_eq_true rfl⟩ (Nat.le_of_ble_eq_true rfl) ⟨Nat.le_of_ble_eq_true rfl, Nat.le_of_ble_eq_true rfl⟩ rfl dL_act_100 ?_
    refine zkq (G := fun v1 w1 => zG p l e _ s m args below meth c D _ _ _ _ _ _ _ (v1.toList ++ _) w1) rfl ?_
    rw [show (nI (lowN y 10)) = (nI (aC y)) from rfl]
    refine z_iload_n hC dL_act_103 rfl ?_
    refine z_iconst (v := 4) hC dL_act_104 (by decide) ?_
    refine z_ishr hC dL_act_105 ?_
    refine z_iconst (v := 4) hC dL_act_106 (by decide) ?_
    refine z_callS [] hC (c_L_low l D ct (y >>> (4 &&& 31)) 4 (by decide) (by decide)) bw_263 bw_264 bw_62 bw_265 2 (by decide +kernel) rfl rfl rfl ⟨Nat.le_of_ble_eq_true rfl, Nat.le_of_ble_eq_true rfl⟩ (Nat.le_of_ble_eq_true rfl) ⟨Nat.le_of_ble_eq_true rfl, Nat.le_of_ble_eq_true rfl⟩ rfl dL_act_107 ?_
    refine zkq (G := fun v1 w1 => zG p l e _ s m args below meth c D _ _ _ _ _ _ _ (v1.toList ++ _) w1) rfl ?_
    suffices k118_5 : zG p l e { frames := 10, cells := 16, slots := 1633, locals := 200 } s m args below meth c D (va_A (lwW b qs qt qh qx σ ρ o z rg og ct) s.heap.size) 4 (MQ below (zQ D ct (lwW b qs qt qh qx σ ρ o z rg og ct) s.heap.size (lwP b qs qt qh qx og ct (some (.int (aO σ x y).1)) (aO σ x y).2.1 (aH (aO σ x y).2.2 hs (push σ hs)))) args s 16 1633 (va_A (lwW b qs qt qh qx σ ρ o z rg og ct) s.heap.size)) ((((((0 + 0) + 0) + 0) + 0) + 0) + 0) ((((((0 + 0) + 0) + 0) + 0) + 0) + 0) 118 [some (.ref b), some (.int x), some (.int y), some (.int (nI (actM x)))] [.int (aB (y >>> (4 &&& 31)) 4), .int (nI (aC y)), .int (nI (aA x)), .ref b] (lwW b qs qt qh qx σ ρ o z rg og ct) by
      refine z_if_le hC 117 dL_act_110 (by decide) (fun c110 => ?_) (fun c110 => ?_)
      · refine z_iconst (v := 0) hC dL_act_117 (by decide) ?_
        exact zG_s (by unfold aB; first | (rw [if_pos (c110)] <;> rfl) | (rw [if_neg (c110)] <;> rfl) | (rw [if_pos (i_nlt.mpr c110)] <;> rfl) | (rw [if_neg (i_nlt.mpr c110)] <;> rfl)) k118_5
      · refine z_iconst (v := 1) hC dL_act_113 (by decide) ?_
        refine z_goto hC 118 dL_act_114 (by decide) ?_
        exact zG_s (by unfold aB; first | (rw [if_pos (c110)] <;> rfl) | (rw [if_neg (c110)] <;> rfl) | (rw [if_pos (i_nle.mp c110)] <;> rfl) | (rw [if_neg (i_nle.mp c110)] <;> rfl)) k118_5
    by_cases hac : aA x = aC y
    · rw [hac]
      refine z_callLW hC hX hok (w_linkX l hlf D ct b qs qt qh qx σ hs hI (aC y) hC0 (aB (y >>> (4 &&& 31)) 4)) bw_267 bw_268 bw_62 bw_269 4 (by decide +kernel) rfl ⟨Nat.le_of_ble_eq_true rfl, Nat.le_of_ble_eq_true rfl⟩ (Nat.le_of_ble_eq_true rfl) ⟨Nat.le_of_ble_eq_true rfl, Nat.le_of_ble_eq_true rfl⟩ rfl dL_act_118 ?_
      intro ρ6 o6 z6 rg6 og6 hok6 hy6
      have hx6 := hy6
      rw [show aO σ x y = _ from aO_l0 (by omega) hac]
      exact z_iretW hC hr dL_act_121 (Nat.le_of_ble_eq_true rfl) (Nat.le_of_ble_eq_true rfl) hok6 hx6
    · refine z_callLW hC hX hok (fun ρ o z rg og hok => zL_of_zH (w_link l D ct b qs qt qh qx σ hs hI (aA x) (aC y) hA hC0 hac (aB (y >>> (4 &&& 31)) 4) ρ o z rg og hok)) bw_267 bw_268 bw_62 bw_269 4 (by decide +kernel) rfl ⟨Nat.le_of_ble_eq_true rfl, Nat.le_of_ble_eq_true rfl⟩ (Nat.le_of_ble_eq_true rfl) ⟨Nat.le_of_ble_eq_true rfl, Nat.le_of_ble_eq_true rfl⟩ rfl dL_act_118 ?_
      intro ρ7 o7 z7 rg7 og7 hok7 hy7
      have hx7 := hy7
      rw [show aO σ x y = _ from aO_l1 (by omega) hac]
      exact z_iretW hC hr dL_act_121 (Nat.le_of_ble_eq_true rfl) (Nat.le_of_ble_eq_true rfl) hok7 hx7
  · rw [eK]
    refine z_tableIn (off := 90) hC 122 dL_act_32 (by decide) (by decide) rfl (by decide) ?_
    refine z_aload_n hC dL_act_122 rfl ?_
    refine z_iload_n hC dL_act_123 rfl ?_
    refine z_iconst (v := 4) hC dL_act_124 (by decide) ?_
    refine z_ishr hC dL_act_125 ?_
    refine z_bipush (v := 10) hC dL_act_126 (by decide) ?_
    refine z_callS [] hC (c_L_low l D ct (x >>> (4 &&& 31)) 10 (by decide) (by decide)) bw_263 bw_264 bw_62 bw_265 2 (by decide +kernel) rfl rfl rfl ⟨Nat.le_of_ble_eq_true rfl, Nat.le_of_ble_eq_true rfl⟩ (Nat.le_of_ble_eq_true rfl) ⟨Nat.le_of_ble_eq_true rfl, Nat.le_of_ble_eq_true rfl⟩ rfl dL_act_128 ?_
    refine zkq (G := fun v1 w1 => zG p l e _ s m args below meth c D _ _ _ _ _ _ _ (v1.toList ++ _) w1) rfl ?_
    rw [show (nI (lowN (x >>> (4 &&& 31)) 10)) = (nI (aA x)) from rfl]
    refine z_iload_n hC dL_act_131 rfl ?_
    refine z_iconst (v := 3) hC dL_act_132 (by decide) ?_
    refine z_callS [] hC (c_L_low l D ct y 3 (by decide) (by decide)) bw_263 bw_264 bw_62 bw_265 2 (by decide +kernel) rfl rfl rfl ⟨Nat.le_of_ble_eq_true rfl, Nat.le_of_ble_eq_true rfl⟩ (Nat.le_of_ble_eq_true rfl) ⟨Nat.le_of_ble_eq_true rfl, Nat.le_of_ble_eq_true rfl⟩ rfl dL_act_133 ?_
    refine zkq (G := fun v1 w1 => zG p l e _ s m args below meth c D _ _ _ _ _ _ _ (v1.toList ++ _) w1) rfl ?_
    suffices k144_8 : zG p l e { frames := 10, cells := 16, slots := 1633, locals := 200 } s m args below meth c D (va_A (lwW b qs qt qh qx σ ρ o z rg og ct) s.heap.size) 4 (MQ below (zQ D ct (lwW b qs qt qh qx σ ρ o z rg og ct) s.heap.size (lwP b qs qt qh qx og ct (some (.int (aO σ x y).1)) (aO σ x y).2.1 (aH (aO σ x y).2.2 hs (push σ hs)))) args s 16 1633 (va_A (lwW b qs qt qh qx σ ρ o z rg og ct) s.heap.size)) (((((0 + 0) + 0) + 0) + 0) + 0) (((((0 + 0) + 0) + 0) + 0) + 0) 144 [some (.ref b), some (.int x), some (.int y), some (.int (nI (actM x)))] [.int (aB y 3), .int (nI (aA x)), .ref b] (lwW b qs qt qh qx σ ρ o z rg og ct) by
      refine z_if_le hC 143 dL_act_136 (by decide) (fun c136 => ?_) (fun c136 => ?_)
      · refine z_iconst (v := 0) hC dL_act_143 (by decide) ?_
        exact zG_s (by unfold aB; first | (rw [if_pos (c136)] <;> rfl) | (rw [if_neg (c136)] <;> rfl) | (rw [if_pos (i_nlt.mpr c136)] <;> rfl) | (rw [if_neg (i_nlt.mpr c136)] <;> rfl)) k144_8
      · refine z_iconst (v := 1) hC dL_act_139 (by decide) ?_
        refine z_goto hC 144 dL_act_140 (by decide) ?_
        exact zG_s (by unfold aB; first | (rw [if_pos (c136)] <;> rfl) | (rw [if_neg (c136)] <;> rfl) | (rw [if_pos (i_nle.mp c136)] <;> rfl) | (rw [if_neg (i_nle.mp c136)] <;> rfl)) k144_8
    refine z_callHW hC hok (w_power l D ct b qs qt qh qx σ hs hI (aA x) hA (aB y 3)) bw_313 bw_314 bw_62 bw_315 3 (by decide +kernel) rfl ⟨Nat.le_of_ble_eq_true rfl, Nat.le_of_ble_eq_true rfl⟩ (Nat.le_of_ble_eq_true rfl) ⟨Nat.le_of_ble_eq_true rfl, Nat.le_of_ble_eq_true rfl⟩ rfl dL_act_144 ?_
    intro ρ9 o9 z9 rg9 og9 hok9 hy9
    have hx9 := hy9
    rw [show aO σ x y = _ from aO_2 eK]
    exact z_iretW hC hr dL_act_147 (Nat.le_of_ble_eq_true rfl) (Nat.le_of_ble_eq_true rfl) hok9 hx9
  · rw [eK]
    refine z_tableIn (off := 116) hC 148 dL_act_32 (by decide) (by decide) rfl (by decide) ?_
    refine z_aload_n hC dL_act_148 rfl ?_
    refine z_iload_n hC dL_act_149 rfl ?_
    refine z_iload_n hC dL_act_150 rfl ?_
    refine z_bipush (v := 41) hC dL_act_151 (by decide) ?_
    refine z_callS [] hC (c_L_low l D ct y 41 (by decide) (by decide)) bw_263 bw_264 bw_62 bw_265 2 (by decide +kernel) rfl rfl rfl ⟨Nat.le_of_ble_eq_true rfl, Nat.le_of_ble_eq_true rfl⟩ (Nat.le_of_ble_eq_true rfl) ⟨Nat.le_of_ble_eq_true rfl, Nat.le_of_ble_eq_true rfl⟩ rfl dL_act_153 ?_
    refine zkq (G := fun v1 w1 => zG p l e _ s m args below meth c D _ _ _ _ _ _ _ (v1.toList ++ _) w1) rfl ?_
    refine z_bipush (v := 20) hC dL_act_156 (by decide) ?_
    refine z_isub hC dL_act_158 ?_
    rw [show ((nI (lowN y 41)) - 20) = (aX y) from rfl]
    refine z_callHW hC hok (w_jump l D ct b qs qt qh qx σ hs hI (actM x) (actM_pos x) (actM_lt x) (aX y) (aX_b y).1 (aX_b y).2) bw_326 bw_327 bw_62 bw_328 3 (by decide +kernel) rfl ⟨Nat.le_of_ble_eq_true rfl, Nat.le_of_ble_eq_true rfl⟩ (Nat.le_of_ble_eq_true rfl) ⟨Nat.le_of_ble_eq_true rfl, Nat.le_of_ble_eq_true rfl⟩ rfl dL_act_159 ?_
    intro ρ10 o10 z10 rg10 og10 hok10 hy10
    have hx10 := hy10
    rw [show aO σ x y = _ from aO_3 eK]
    exact z_iretW hC hr dL_act_162 (Nat.le_of_ble_eq_true rfl) (Nat.le_of_ble_eq_true rfl) hok10 hx10
  · rw [eK]
    refine z_tableIn (off := 131) hC 163 dL_act_32 (by decide) (by decide) rfl (by decide) ?_
    refine z_aload_n hC dL_act_163 rfl ?_
    refine z_iload_n hC dL_act_164 rfl ?_
    refine z_iload_n hC dL_act_165 rfl ?_
    refine z_iconst (v := 4) hC dL_act_166 (by decide) ?_
    refine z_callS [] hC (c_L_low l D ct y 4 (by decide) (by decide)) bw_263 bw_264 bw_62 bw_265 2 (by decide +kernel) rfl rfl rfl ⟨Nat.le_of_ble_eq_true rfl, Nat.le_of_ble_eq_true rfl⟩ (Nat.le_of_ble_eq_true rfl) ⟨Nat.le_of_ble_eq_true rfl, Nat.le_of_ble_eq_true rfl⟩ rfl dL_act_167 ?_
    refine zkq (G := fun v1 w1 => zG p l e _ s m args below meth c D _ _ _ _ _ _ _ (v1.toList ++ _) w1) rfl ?_
    have l4 := lowN_lt y (n := 4) (by omega)
    have h9 : ¬ 9 < nI (lowN y 4) := nI_nlt (a := 9) (b := lowN y 4) (by omega) (by decide)
    refine z_callHW hC hok (w_setFaults l D ct b qs qt qh qx σ hs hI (actM x) (actM_pos x) (actM_lt x) (nI (lowN y 4)) (nI_pos (by omega)) h9) bw_333 bw_334 bw_62 bw_335 3 (by decide +kernel) rfl ⟨Nat.le_of_ble_eq_true rfl, Nat.le_of_ble_eq_true rfl⟩ (Nat.le_of_ble_eq_true rfl) ⟨Nat.le_of_ble_eq_true rfl, Nat.le_of_ble_eq_true rfl⟩ rfl dL_act_170 ?_
    intro ρ11 o11 z11 rg11 og11 hok11 hy11
    have hx11 := hy11
    rw [show aO σ x y = _ from aO_4 eK]
    exact z_iretW hC hr dL_act_173 (Nat.le_of_ble_eq_true rfl) (Nat.le_of_ble_eq_true rfl) hok11 hx11
  · rw [eK]
    refine z_tableIn (off := 142) hC 174 dL_act_32 (by decide) (by decide) rfl (by decide) ?_
    refine z_aload_n hC dL_act_174 rfl ?_
    refine z_iconst (v := 1) hC dL_act_175 (by decide) ?_
    refine z_iload_n hC dL_act_176 rfl ?_
    refine z_iconst (v := 5) hC dL_act_177 (by decide) ?_
    refine z_callS [] hC (c_L_low l D ct y 5 (by decide) (by decide)) bw_263 bw_264 bw_62 bw_265 2 (by decide +kernel) rfl rfl rfl ⟨Nat.le_of_ble_eq_true rfl, Nat.le_of_ble_eq_true rfl⟩ (Nat.le_of_ble_eq_true rfl) ⟨Nat.le_of_ble_eq_true rfl, Nat.le_of_ble_eq_true rfl⟩ rfl dL_act_178 ?_
    refine zkq (G := fun v1 w1 => zG p l e _ s m args below meth c D _ _ _ _ _ _ _ (v1.toList ++ _) w1) rfl ?_
    refine z_iadd hC dL_act_181 ?_
    rw [show ((1 : Int32) + (nI (lowN y 5))) = (nI (1 + lowN y 5)) from nI_add 1 _]
    have l5 := lowN_lt y (n := 5) (by omega)
    have h1p : ¬ nI (1 + lowN y 5) < 1 := nI_nlt (a := 1 + lowN y 5) (b := 1) (by omega) (by omega)
    have h5p : ¬ 5 < nI (1 + lowN y 5) := nI_nlt (a := 5) (b := 1 + lowN y 5) (by omega) (by decide)
    refine z_callHW hC hok (w_setPatience l D ct b qs qt qh qx σ hs hI (nI (1 + lowN y 5)) h1p h5p) bw_340 bw_341 bw_62 bw_342 2 (by decide +kernel) rfl ⟨Nat.le_of_ble_eq_true rfl, Nat.le_of_ble_eq_true rfl⟩ (Nat.le_of_ble_eq_true rfl) ⟨Nat.le_of_ble_eq_true rfl, Nat.le_of_ble_eq_true rfl⟩ rfl dL_act_182 ?_
    intro ρ12 o12 z12 rg12 og12 hok12 hy12
    have hx12 := hy12
    rw [show aO σ x y = _ from aO_5 eK]
    exact z_iretW hC hr dL_act_185 (Nat.le_of_ble_eq_true rfl) (Nat.le_of_ble_eq_true rfl) hok12 hx12
  · rw [eK]
    refine z_tableIn (off := 154) hC 186 dL_act_32 (by decide) (by decide) rfl (by decide) ?_
    refine z_aload_n hC dL_act_186 rfl ?_
    refine z_iload_n hC dL_act_187 rfl ?_
    refine z_iload_n hC dL_act_188 rfl ?_
    refine z_sipush (v := 1000) hC dL_act_189 (by decide) ?_
    refine z_callS [] hC (c_L_low l D ct y 1000 (by decide) (by decide)) bw_263 bw_264 bw_62 bw_265 2 (by decide +kernel) rfl rfl rfl ⟨Nat.le_of_ble_eq_true rfl, Nat.le_of_ble_eq_true rfl⟩ (Nat.le_of_ble_eq_true rfl) ⟨Nat.le_of_ble_eq_true rfl, Nat.le_of_ble_eq_true rfl⟩ rfl dL_act_192 ?_
    refine zkq (G := fun v1 w1 => zG p l e _ s m args below meth c D _ _ _ _ _ _ _ (v1.toList ++ _) w1) rfl ?_
    have l9 := lowN_lt y (n := 1000) (by omega)
    have h999 : ¬ 999 < nI (lowN y 1000) := nI_nlt (a := 999) (b := lowN y 1000) (by omega) (by decide)
    by_cases hct : msCanTake σ (nI (actM x)) = true
    · refine z_callLW hC hX hok (fun ρ o z rg og hok => zL_of_zH (w_take l D ct b qs qt qh qx σ hs hI (actM x) (actM_pos x) (actM_lt x) (nI (lowN y 1000)) (nI_pos (by omega)) h999 hct ρ o z rg og hok)) bw_347 bw_348 bw_62 bw_349 3 (by decide +kernel) rfl ⟨Nat.le_of_ble_eq_true rfl, Nat.le_of_ble_eq_true rfl⟩ (Nat.le_of_ble_eq_true rfl) ⟨Nat.le_of_ble_eq_true rfl, Nat.le_of_ble_eq_true rfl⟩ rfl dL_act_195 ?_
      intro ρ13 o13 z13 rg13 og13 hok13 hy13
      have hx13 := hy13
      rw [show aO σ x y = _ from aO_t1 (by omega) (by omega) hct]
      exact z_iretW hC hr dL_act_198 (Nat.le_of_ble_eq_true rfl) (Nat.le_of_ble_eq_true rfl) hok13 hx13
    · refine z_callLW hC hX hok (w_takeX l hlf D ct b qs qt qh qx σ hs hI (actM x) (actM_pos x) (actM_lt x) (nI (lowN y 1000)) (nI_pos (by omega)) h999 (Bool.eq_false_iff.mpr hct)) bw_347 bw_348 bw_62 bw_349 3 (by decide +kernel) rfl ⟨Nat.le_of_ble_eq_true rfl, Nat.le_of_ble_eq_true rfl⟩ (Nat.le_of_ble_eq_true rfl) ⟨Nat.le_of_ble_eq_true rfl, Nat.le_of_ble_eq_true rfl⟩ rfl dL_act_195 ?_
      intro ρ14 o14 z14 rg14 og14 hok14 hy14
      have hx14 := hy14
      rw [show aO σ x y = _ from aO_t0 (by omega) (by omega) hct]
      exact z_iretW hC hr dL_act_198 (Nat.le_of_ble_eq_true rfl) (Nat.le_of_ble_eq_true rfl) hok14 hx14
  · rw [eK]
    refine z_tableIn (off := 154) hC 186 dL_act_32 (by decide) (by decide) rfl (by decide) ?_
    refine z_aload_n hC dL_act_186 rfl ?_
    refine z_iload_n hC dL_act_187 rfl ?_
    refine z_iload_n hC dL_act_188 rfl ?_
    refine z_sipush (v := 1000) hC dL_act_189 (by decide) ?_
    refine z_callS [] hC (c_L_low l D ct y 1000 (by decide) (by decide)) bw_263 bw_264 bw_62 bw_265 2 (by decide +kernel) rfl rfl rfl ⟨Nat.le_of_ble_eq_true rfl, Nat.le_of_ble_eq_true rfl⟩ (Nat.le_of_ble_eq_true rfl) ⟨Nat.le_of_ble_eq_true rfl, Nat.le_of_ble_eq_true rfl⟩ rfl dL_act_192 ?_
    refine zkq (G := fun v1 w1 => zG p l e _ s m args below meth c D _ _ _ _ _ _ _ (v1.toList ++ _) w1) rfl ?_
    have l9 := lowN_lt y (n := 1000) (by omega)
    have h999 : ¬ 999 < nI (lowN y 1000) := nI_nlt (a := 999) (b := lowN y 1000) (by omega) (by decide)
    by_cases hct : msCanTake σ (nI (actM x)) = true
    · refine z_callLW hC hX hok (fun ρ o z rg og hok => zL_of_zH (w_take l D ct b qs qt qh qx σ hs hI (actM x) (actM_pos x) (actM_lt x) (nI (lowN y 1000)) (nI_pos (by omega)) h999 hct ρ o z rg og hok)) bw_347 bw_348 bw_62 bw_349 3 (by decide +kernel) rfl ⟨Nat.le_of_ble_eq_true rfl, Nat.le_of_ble_eq_true rfl⟩ (Nat.le_of_ble_eq_true rfl) ⟨Nat.le_of_ble_eq_true rfl, Nat.le_of_ble_eq_true rfl⟩ rfl dL_act_195 ?_
      intro ρ15 o15 z15 rg15 og15 hok15 hy15
      have hx15 := hy15
      rw [show aO σ x y = _ from aO_t1 (by omega) (by omega) hct]
      exact z_iretW hC hr dL_act_198 (Nat.le_of_ble_eq_true rfl) (Nat.le_of_ble_eq_true rfl) hok15 hx15
    · refine z_callLW hC hX hok (w_takeX l hlf D ct b qs qt qh qx σ hs hI (actM x) (actM_pos x) (actM_lt x) (nI (lowN y 1000)) (nI_pos (by omega)) h999 (Bool.eq_false_iff.mpr hct)) bw_347 bw_348 bw_62 bw_349 3 (by decide +kernel) rfl ⟨Nat.le_of_ble_eq_true rfl, Nat.le_of_ble_eq_true rfl⟩ (Nat.le_of_ble_eq_true rfl) ⟨Nat.le_of_ble_eq_true rfl, Nat.le_of_ble_eq_true rfl⟩ rfl dL_act_195 ?_
      intro ρ16 o16 z16 rg16 og16 hok16 hy16
      have hx16 := hy16
      rw [show aO σ x y = _ from aO_t0 (by omega) (by omega) hct]
      exact z_iretW hC hr dL_act_198 (Nat.le_of_ble_eq_true rfl) (Nat.le_of_ble_eq_true rfl) hok16 hx16
  · rw [eK]
    refine z_tableIn (off := 154) hC 186 dL_act_32 (by decide) (by decide) rfl (by decide) ?_
    refine z_aload_n hC dL_act_186 rfl ?_
    refine z_iload_n hC dL_act_187 rfl ?_
    refine z_iload_n hC dL_act_188 rfl ?_
    refine z_sipush (v := 1000) hC dL_act_189 (by decide) ?_
    refine z_callS [] hC (c_L_low l D ct y 1000 (by decide) (by decide)) bw_263 bw_264 bw_62 bw_265 2 (by decide +kernel) rfl rfl rfl ⟨Nat.le_of_ble_eq_true rfl, Nat.le_of_ble_eq_true rfl⟩ (Nat.le_of_ble_eq_true rfl) ⟨Nat.le_of_ble_eq_true rfl, Nat.le_of_ble_eq_true rfl⟩ rfl dL_act_192 ?_
    refine zkq (G := fun v1 w1 => zG p l e _ s m args below meth c D _ _ _ _ _ _ _ (v1.toList ++ _) w1) rfl ?_
    have l9 := lowN_lt y (n := 1000) (by omega)
    have h999 : ¬ 999 < nI (lowN y 1000) := nI_nlt (a := 999) (b := lowN y 1000) (by omega) (by decide)
    by_cases hct : msCanTake σ (nI (actM x)) = true
    · refine z_callLW hC hX hok (fun ρ o z rg og hok => zL_of_zH (w_take l D ct b qs qt qh qx σ hs hI (actM x) (actM_pos x) (actM_lt x) (nI (lowN y 1000)) (nI_pos (by omega)) h999 hct ρ o z rg og hok)) bw_347 bw_348 bw_62 bw_349 3 (by decide +kernel) rfl ⟨Nat.le_of_ble_eq_true rfl, Nat.le_of_ble_eq_true rfl⟩ (Nat.le_of_ble_eq_true rfl) ⟨Nat.le_of_ble_eq_true rfl, Nat.le_of_ble_eq_true rfl⟩ rfl dL_act_195 ?_
      intro ρ17 o17 z17 rg17 og17 hok17 hy17
      have hx17 := hy17
      rw [show aO σ x y = _ from aO_t1 (by omega) (by omega) hct]
      exact z_iretW hC hr dL_act_198 (Nat.le_of_ble_eq_true rfl) (Nat.le_of_ble_eq_true rfl) hok17 hx17
    · refine z_callLW hC hX hok (w_takeX l hlf D ct b qs qt qh qx σ hs hI (actM x) (actM_pos x) (actM_lt x) (nI (lowN y 1000)) (nI_pos (by omega)) h999 (Bool.eq_false_iff.mpr hct)) bw_347 bw_348 bw_62 bw_349 3 (by decide +kernel) rfl ⟨Nat.le_of_ble_eq_true rfl, Nat.le_of_ble_eq_true rfl⟩ (Nat.le_of_ble_eq_true rfl) ⟨Nat.le_of_ble_eq_true rfl, Nat.le_of_ble_eq_true rfl⟩ rfl dL_act_195 ?_
      intro ρ18 o18 z18 rg18 og18 hok18 hy18
      have hx18 := hy18
      rw [show aO σ x y = _ from aO_t0 (by omega) (by omega) hct]
      exact z_iretW hC hr dL_act_198 (Nat.le_of_ble_eq_true rfl) (Nat.le_of_ble_eq_true rfl) hok18 hx18
  · rw [eK]
    refine z_tableIn (off := 154) hC 186 dL_act_32 (by decide) (by decide) rfl (by decide) ?_
    refine z_aload_n hC dL_act_186 rfl ?_
    refine z_iload_n hC dL_act_187 rfl ?_
    refine z_iload_n hC dL_act_188 rfl ?_
    refine z_sipush (v := 1000) hC dL_act_189 (by decide) ?_
    refine z_callS [] hC (c_L_low l D ct y 1000 (by decide) (by decide)) bw_263 bw_264 bw_62 bw_265 2 (by decide +kernel) rfl rfl rfl ⟨Nat.le_of_ble_eq_true rfl, Nat.le_of_ble_eq_true rfl⟩ (Nat.le_of_ble_eq_true rfl) ⟨Nat.le_of_ble_eq_true rfl, Nat.le_of_ble_eq_true rfl⟩ rfl dL_act_192 ?_
    refine zkq (G := fun v1 w1 => zG p l e _ s m args below meth c D _ _ _ _ _ _ _ (v1.toList ++ _) w1) rfl ?_
    have l9 := lowN_lt y (n := 1000) (by omega)
    have h999 : ¬ 999 < nI (lowN y 1000) := nI_nlt (a := 999) (b := lowN y 1000) (by omega) (by decide)
    by_cases hct : msCanTake σ (nI (actM x)) = true
    · refine z_callLW hC hX hok (fun ρ o z rg og hok => zL_of_zH (w_take l D ct b qs qt qh qx σ hs hI (actM x) (actM_pos x) (actM_lt x) (nI (lowN y 1000)) (nI_pos (by omega)) h999 hct ρ o z rg og hok)) bw_347 bw_348 bw_62 bw_349 3 (by decide +kernel) rfl ⟨Nat.le_of_ble_eq_true rfl, Nat.le_of_ble_eq_true rfl⟩ (Nat.le_of_ble_eq_true rfl) ⟨Nat.le_of_ble_eq_true rfl, Nat.le_of_ble_eq_true rfl⟩ rfl dL_act_195 ?_
      intro ρ19 o19 z19 rg19 og19 hok19 hy19
      have hx19 := hy19
      rw [show aO σ x y = _ from aO_t1 (by omega) (by omega) hct]
      exact z_iretW hC hr dL_act_198 (Nat.le_of_ble_eq_true rfl) (Nat.le_of_ble_eq_true rfl) hok19 hx19
    · refine z_callLW hC hX hok (w_takeX l hlf D ct b qs qt qh qx σ hs hI (actM x) (actM_pos x) (actM_lt x) (nI (lowN y 1000)) (nI_pos (by omega)) h999 (Bool.eq_false_iff.mpr hct)) bw_347 bw_348 bw_62 bw_349 3 (by decide +kernel) rfl ⟨Nat.le_of_ble_eq_true rfl, Nat.le_of_ble_eq_true rfl⟩ (Nat.le_of_ble_eq_true rfl) ⟨Nat.le_of_ble_eq_true rfl, Nat.le_of_ble_eq_true rfl⟩ rfl dL_act_195 ?_
      intro ρ20 o20 z20 rg20 og20 hok20 hy20
      have hx20 := hy20
      rw [show aO σ x y = _ from aO_t0 (by omega) (by omega) hct]
      exact z_iretW hC hr dL_act_198 (Nat.le_of_ble_eq_true rfl) (Nat.le_of_ble_eq_true rfl) hok20 hx20
  · refine z_tableOut hC 199 dL_act_32 (Or.inr (by rw [nI_toInt (by omega)]; omega)) (by decide) ?_
    refine z_aload_n hC dL_act_199 rfl ?_
    refine z_iconst (v := 1) hC dL_act_200 (by decide) ?_
    refine z_iload_n hC dL_act_201 rfl ?_
    refine z_iload_n hC dL_act_202 rfl ?_
    refine z_bipush (v := 8) hC dL_act_203 (by decide) ?_
    refine z_ishr hC dL_act_205 ?_
    refine z_iconst (v := 3) hC dL_act_206 (by decide) ?_
    refine z_callS [] hC (c_L_low l D ct (y >>> (8 &&& 31)) 3 (by decide) (by decide)) bw_263 bw_264 bw_62 bw_265 2 (by decide +kernel) rfl rfl rfl ⟨Nat.le_of_ble_eq_true rfl, Nat.le_of_ble_eq_true rfl⟩ (Nat.le_of_ble_eq_true rfl) ⟨Nat.le_of_ble_eq_true rfl, Nat.le_of_ble_eq_true rfl⟩ rfl dL_act_207 ?_
    refine zkq (G := fun v1 w1 => zG p l e _ s m args below meth c D _ _ _ _ _ _ _ (v1.toList ++ _) w1) rfl ?_
    suffices k220_21 : zG p l e { frames := 10, cells := 16, slots := 1633, locals := 200 } s m args below meth c D (va_A (lwW b qs qt qh qx σ ρ o z rg og ct) s.heap.size) 4 (MQ below (zQ D ct (lwW b qs qt qh qx σ ρ o z rg og ct) s.heap.size (lwP b qs qt qh qx og ct (some (.int (aO σ x y).1)) (aO σ x y).2.1 (aH (aO σ x y).2.2 hs (push σ hs)))) args s 16 1633 (va_A (lwW b qs qt qh qx σ ρ o z rg og ct) s.heap.size)) ((((0 + 0) + 0) + 0) + 0) ((((0 + 0) + 0) + 0) + 0) 220 [some (.ref b), some (.int x), some (.int y), some (.int (nI (actM x)))] [.int (nI (if nI (lowN (y >>> (8 &&& 31)) 3) = 0 then 100 else 20)), .int y, .int 1, .ref b] (lwW b qs qt qh qx σ ρ o z rg og ct) by
      refine z_if_ne hC 218 dL_act_210 (by decide) (fun c210 => ?_) (fun c210 => ?_)
      · refine z_bipush (v := 20) hC dL_act_218 (by decide) ?_
        exact zG_s (by first | (rw [if_pos (c210)] <;> rfl) | (rw [if_neg (c210)] <;> rfl)) k220_21
      · refine z_bipush (v := 100) hC dL_act_213 (by decide) ?_
        refine z_goto hC 220 dL_act_215 (by decide) ?_
        exact zG_s (by first | (rw [if_pos (c210)] <;> rfl) | (rw [if_neg (c210)] <;> rfl)) k220_21
    refine z_callS [] hC (c_L_low l D ct y (if nI (lowN (y >>> (8 &&& 31)) 3) = 0 then 100 else 20) (by split <;> omega) (by split <;> omega)) bw_263 bw_264 bw_62 bw_265 2 (by decide +kernel) rfl rfl rfl ⟨Nat.le_of_ble_eq_true rfl, Nat.le_of_ble_eq_true rfl⟩ (Nat.le_of_ble_eq_true rfl) ⟨Nat.le_of_ble_eq_true rfl, Nat.le_of_ble_eq_true rfl⟩ rfl dL_act_220 ?_
    refine zkq (G := fun v1 w1 => zG p l e _ s m args below meth c D _ _ _ _ _ _ _ (v1.toList ++ _) w1) rfl ?_
    refine z_iadd hC dL_act_223 ?_
    rw [show ((1 : Int32) + (nI (lowN y (if nI (lowN (y >>> (8 &&& 31)) 3) = 0 then 100 else 20)))) = (nI (aR y)) from nI_add 1 _]
    refine z_callHW hC hok (w_run l D ct b qs qt qh qx σ hs hI (aR y) (aR_b y).1 (aR_b y).2) bw_378 bw_379 bw_62 bw_380 2 (by decide +kernel) rfl ⟨Nat.le_of_ble_eq_true rfl, Nat.le_of_ble_eq_true rfl⟩ (Nat.le_of_ble_eq_true rfl) ⟨Nat.le_of_ble_eq_true rfl, Nat.le_of_ble_eq_true rfl⟩ rfl dL_act_224 ?_
    intro ρ22 o22 z22 rg22 og22 hok22 hy22
    have hx22 := hy22
    rw [show aO σ x y = _ from aO_r eK]
    exact z_iretW hC hr dL_act_227 (Nat.le_of_ble_eq_true rfl) (Nat.le_of_ble_eq_true rfl) hok22 hx22
