/-! THE REFERENCE: error, what a command does, carrying a text out, a new object -/
theorem nI_all (x : Int32) : ∃ n : Nat, x = nI n := ⟨x.toBitVec.toNat, by
  apply Int32.toBitVec_inj.mp
  show x.toBitVec = BitVec.ofNat 32 x.toBitVec.toNat
  rw [BitVec.ofNat_toNat, BitVec.setWidth_eq]⟩
set_option maxRecDepth 100000 in
set_option maxHeartbeats 1000000 in
theorem c_X5_error (l : Launch) (D : va_G) (ct : Nat → ClassId) (q : Nat → Nat) (κ : Nat → Nat → Int32) (t p0 : Nat) (o w : Int32) (ht : κ 0 1 = nI t) (ht8 : t ≤ 80) (E : Int32 × Nat × Int32 × Int32) (hE : xE (κ 2) t 81 0 o w = E) : zT l D ct yX5_error cX5_error 1 (some .int) 6 130 0 0 [.ref (q 0)] (cX q κ (p0) o w ct) (zd (some (.int E.1)) (cX q κ E.2.1 E.2.2.1 E.2.2.2 ct)) := by
  refine zT_of ([some (.ref (q 0))]) (by decide +kernel) rfl (Nat.le_of_ble_eq_true rfl) ?_
  intro p e s m args below meth c hC hr hnm
  refine z_aload_n hC dX5_error_0 rfl ?_
  refine z_iconst (v := 0) hC dX5_error_1 (by decide) ?_
  refine z_put (ci := 5) 0 6 hC bl_X5 tyX5_ok nmX5 rfl (by decide) rfl bw_489 rfl rfl rfl rfl (Nat.lt_of_lt_of_le (by decide) (Nat.le_refl 9)) dX5_error_2 (w2 := cX q κ (0) o w ct) cX_f3 ?_
  have loop5 : ∀ (kf pn : Nat) (ox wx : Int32) (hki : 81 ≤ kf + pn) (hpn : pn ≤ t) (hF : xE (κ 2) t kf pn ox wx = E), zG p l e { frames := 6, cells := 0, slots := 0, locals := 130 } s m args below meth c D (va_A (cX q κ (p0) o w ct) s.heap.size) 1 (MQ below (zQ D ct (cX q κ (p0) o w ct) s.heap.size (zd (some (.int E.1)) (cX q κ E.2.1 E.2.2.1 E.2.2.2 ct))) args s 0 0 (va_A (cX q κ (p0) o w ct) s.heap.size)) 0 0 5 [some (.ref (q 0))] [] (cX q κ (pn) ox wx ct) := by
    intro kf
    induction kf with
    | zero =>
      intro pn ox wx hki hpn hF
      omega
    | succ kf ih =>
      intro pn ox wx hki hpn hF
      skip
      refine z_aload_n hC dX5_error_5 rfl ?_
      refine z_callV [0, 1, 2, 3] 0 5 hC (c_X5_command l D ct q κ t pn ox wx ht ht8 (by omega) (xC (κ 2) t pn ox wx) rfl) bw_490 bw_491 bw_492 bw_5 bw_493 0 (by decide +kernel) rfl rfl rfl rfl rfl ⟨Nat.le_of_ble_eq_true rfl, Nat.le_of_ble_eq_true rfl⟩ (Nat.le_of_ble_eq_true rfl) ⟨Nat.le_of_ble_eq_true rfl, Nat.le_of_ble_eq_true rfl⟩ rfl dX5_error_6 ?_
      refine zkd (G := fun v1 w1 => zG p l e _ s m args below meth c D _ _ _ _ _ _ _ (v1.toList ++ _) w1) (w2 := cX q κ ((xC (κ 2) t pn ox wx).2.1) ((xC (κ 2) t pn ox wx).2.2.1) ((xC (κ 2) t pn ox wx).2.2.2) ct) cX_all ?_
      have hpd1 : (xC (κ 2) t pn ox wx).2.1 ≤ 81 := xC_hi ht8 (by omega) _ _
      refine z_bipush (v := 32) hC dX5_error_9 (by decide) ?_
      refine z_icmp_eq hC 59 dX5_error_11 (by decide) (fun c11 => ?_) (fun c11 => ?_)
      · refine z_aload_n hC dX5_error_59 rfl ?_
        refine z_get 0 6 hC bl_X5 (ci := 5) rfl (by decide) rfl bw_489 rfl rfl dX5_error_60 ?_
        exact z_iretd hC hr dX5_error_63 (Nat.zero_le _) (Nat.zero_le _) (by rw [← hF, xE, if_pos c11]) (by rw [← hF, xE, if_pos c11]) cX_adr
      · obtain ⟨hx1, hx2, hx3⟩ := xC_le c11
        refine z_aload_n hC dX5_error_14 rfl ?_
        refine z_get 0 6 hC bl_X5 (ci := 5) rfl (by decide) rfl bw_489 rfl rfl dX5_error_15 ?_
        refine z_aload_n hC dX5_error_18 rfl ?_
        refine z_get 0 3 hC bl_X5 (ci := 5) rfl (by decide) rfl bw_432 rfl rfl dX5_error_19 ?_
        refine z_top (y := nI (t)) (ht) ?_
        refine z_icmp_ne hC 27 dX5_error_22 (by decide) (fun c22 => ?_) (fun c22 => ?_)
        · replace c22 := (nI_neI (a := (xC (κ 2) t pn ox wx).2.1) (b := t) (by omega) (by omega)).mp c22
          refine z_aload_n hC dX5_error_27 rfl ?_
          refine z_get 0 2 hC bl_X5 (ci := 5) rfl (by decide) rfl bw_68 rfl rfl dX5_error_28 ?_
          refine z_aload_n hC dX5_error_31 rfl ?_
          refine z_get 0 6 hC bl_X5 (ci := 5) rfl (by decide) rfl bw_489 rfl rfl dX5_error_32 ?_
          refine z_caldN ((xC (κ 2) t pn ox wx).2.1) 2 2 hC rfl rfl (by decide) (by omega) dX5_error_35 ?_
          refine z_bipush (v := 59) hC dX5_error_36 (by decide) ?_
          refine z_icmp_eq hC 46 dX5_error_38 (by decide) (fun c38 => ?_) (fun c38 => ?_)
          · refine z_aload_n hC dX5_error_46 rfl ?_
            refine z_dup hC dX5_error_47 rfl ?_
            refine z_get 0 6 hC bl_X5 (ci := 5) rfl (by decide) rfl bw_489 rfl rfl dX5_error_48 ?_
            refine z_iconst (v := 1) hC dX5_error_51 (by decide) ?_
            refine z_iaddN ((xC (κ 2) t pn ox wx).2.1) (1) hC dX5_error_52 ?_
            refine z_put (ci := 5) 0 6 hC bl_X5 tyX5_ok nmX5 rfl (by decide) rfl bw_489 rfl rfl rfl rfl (Nat.lt_of_lt_of_le (by decide) (Nat.le_refl 9)) dX5_error_53 (w2 := cX q κ ((xC (κ 2) t pn ox wx).2.1 + 1) ((xC (κ 2) t pn ox wx).2.2.1) ((xC (κ 2) t pn ox wx).2.2.2) ct) cX_f3 ?_
            refine z_goto hC 5 dX5_error_56 (by decide) ?_
            obtain ⟨hx1, hx2, hx3⟩ := xC_le c11
            exact ih ((xC (κ 2) t pn ox wx).2.1 + 1) _ _ (by omega) (by omega) (by rw [← hF, xE, if_neg c11, if_neg c22, if_pos c38])
          · refine z_aload_n hC dX5_error_41 rfl ?_
            refine z_get 0 6 hC bl_X5 (ci := 5) rfl (by decide) rfl bw_489 rfl rfl dX5_error_42 ?_
            exact z_iretd hC hr dX5_error_45 (Nat.zero_le _) (Nat.zero_le _) (by rw [← hF, xE, if_neg c11, if_neg c22, if_neg c38]) (by rw [← hF, xE, if_neg c11, if_neg c22, if_neg c38]) cX_adr
        · replace c22 := (nI_eq (a := (xC (κ 2) t pn ox wx).2.1) (b := t) (by omega) (by omega)).mp c22
          refine z_iconst (v := (-1)) hC dX5_error_25 (by decide) ?_
          exact z_iretd hC hr dX5_error_26 (Nat.zero_le _) (Nat.zero_le _) (by rw [← hF, xE, if_neg c11, if_pos c22]) (by rw [← hF, xE, if_neg c11, if_pos c22]) cX_adr
  exact loop5 81 0 o w (by omega) (by omega) hE

def mdErr (κ : Nat → Nat → Int32) (t : Nat) : Int32 × Nat × Int32 × Int32 := xE (κ 2) t 81 0 (κ 0 4) (κ 0 5)
def mdEr (κ : Nat → Nat → Int32) (t : Nat) : Nat → Nat → Int32 := x3 κ (mdErr κ t).2.1 (mdErr κ t).2.2.1 (mdErr κ t).2.2.2
theorem c_X5_errorM (l : Launch) (D : va_G) (ct : Nat → ClassId) (q : Nat → Nat) (κ : Nat → Nat → Int32) (t : Nat) (ht : κ 0 1 = nI t) (ht8 : t ≤ 80) : zT l D ct yX5_error cX5_error 1 (some .int) 6 130 0 0 [.ref (q 0)] (cM q κ ct) (zd (some (.int (mdErr κ t).1)) (cM q (mdEr κ t) ct)) := by
  obtain ⟨pn, hpn⟩ := nI_all (κ 0 3)
  rw [cM_cX (κ := κ) hpn rfl rfl]
  exact c_X5_error l D ct q κ t pn (κ 0 4) (κ 0 5) ht ht8 (mdErr κ t) rfl

set_option maxRecDepth 100000 in
set_option maxHeartbeats 1000000 in
theorem c_X5_errorPosition (l : Launch) (D : va_G) (ct : Nat → ClassId) (q : Nat → Nat) (κ : Nat → Nat → Int32) (t : Nat) (ht : κ 0 1 = nI t) (ht8 : t ≤ 80) : zT l D ct yX5_errorPosition cX5_errorPosition 1 (some .int) 7 150 0 0 [.ref (q 0)] (cM q κ ct) (zd (some (.int (mdErr (u2 κ 0 2 0) t).1)) (cM q (mdEr (u2 κ 0 2 0) t) ct)) := by
  refine zT_of ([some (.ref (q 0))]) (by decide +kernel) rfl (Nat.le_of_ble_eq_true rfl) ?_
  intro p e s m args below meth c hC hr hnm
  refine z_aload_n hC dX5_errorPosition_0 rfl ?_
  refine z_iconst (v := 0) hC dX5_errorPosition_1 (by decide) ?_
  refine z_put (ci := 5) 0 4 hC bl_X5 tyX5_ok nmX5 rfl (by decide) rfl bw_147 rfl rfl rfl rfl (Nat.lt_of_lt_of_le (by decide) (Nat.le_refl 9)) dX5_errorPosition_2 (w2 := cM q (u2 κ 0 2 0) ct) cM_f2 ?_
  obtain ⟨κ1, eκ1⟩ : ∃ zz_, zz_ = u2 κ 0 2 0 := ⟨_, rfl⟩
  rw [← eκ1]
  refine z_aload_n hC dX5_errorPosition_5 rfl ?_
  refine z_callV [0, 1, 2, 3] 0 5 hC (c_X5_errorM l D ct q κ1 t (by subst eκ1; exact ht) ht8) bw_485 bw_486 bw_487 bw_5 bw_488 0 (by decide +kernel) rfl rfl rfl rfl rfl ⟨Nat.le_of_ble_eq_true rfl, Nat.le_of_ble_eq_true rfl⟩ (Nat.le_of_ble_eq_true rfl) ⟨Nat.le_of_ble_eq_true rfl, Nat.le_of_ble_eq_true rfl⟩ rfl dX5_errorPosition_6 ?_
  refine zkd (G := fun v1 w1 => zG p l e _ s m args below meth c D _ _ _ _ _ _ _ (v1.toList ++ _) w1) (w2 := cM q (mdEr κ1 t) ct) cM_all ?_
  obtain ⟨κ2, eκ2⟩ : ∃ zz_, zz_ = (mdEr κ1 t) := ⟨_, rfl⟩
  rw [← eκ2]
  exact z_iretd hC hr dX5_errorPosition_9 (Nat.zero_le _) (Nat.zero_le _) (by subst eκ2; subst eκ1; rfl) (by subst eκ2; subst eκ1; rfl) cM_adr

set_option maxRecDepth 100000 in
set_option maxHeartbeats 1000000 in
theorem c_X5_does_43 (l : Launch) (D : va_G) (ct : Nat → ClassId) (q : Nat → Nat) (κ : Nat → Nat → Int32) (a c0 : Nat) (ha : a < 10) (hc : c0 < 10) (h4 : κ 0 4 = nI a) (h5 : κ 0 5 = nI c0) : zT l D ct yX5_does cX5_does 2 (some .int) 9 242 0 0 [.ref (q 0), .int 43] (cM q κ ct) (zd (some (.int (mdLinks (mdLink κ a c0 1)))) (cM q (mdLink κ a c0 1) ct)) := by
  refine zT_of ([some (.ref (q 0)), some (.int 43)]) (by decide +kernel) rfl (Nat.le_of_ble_eq_true rfl) ?_
  intro p e s m args below meth c hC hr hnm
  refine z_iload_n hC dX5_does_0 rfl ?_
  refine z_lookup (off := 43) hC 44 dX5_does_1 (by decide) (by decide) (by decide) ?_
  refine z_aload_n hC dX5_does_44 rfl ?_
  refine z_aload_n hC dX5_does_45 rfl ?_
  refine z_get 0 7 hC bl_X5 (ci := 5) rfl (by decide) rfl bw_494 rfl rfl dX5_does_46 ?_
  refine z_top (y := nI (a)) (h4) ?_
  refine z_aload_n hC dX5_does_49 rfl ?_
  refine z_get 0 8 hC bl_X5 (ci := 5) rfl (by decide) rfl bw_499 rfl rfl dX5_does_50 ?_
  refine z_top (y := nI (c0)) (h5) ?_
  refine z_iload_n hC dX5_does_53 rfl ?_
  refine z_bipush (v := 43) hC dX5_does_54 (by decide) ?_
  refine z_icmp_ne hC 63 dX5_does_56 (by decide) (fun cn1 => absurd cn1 (by decide)) (fun cn1 => ?_)
  refine z_iconst (v := 1) hC dX5_does_59 (by decide) ?_
  refine z_goto hC 64 dX5_does_60 (by decide) ?_
  refine z_callV [0, 1, 2, 3] 0 5 hC (c_X5_links l D ct q κ a c0 1 (by omega) (by omega)) bw_157 bw_158 bw_159 bw_5 bw_160 3 (by decide +kernel) rfl rfl rfl rfl rfl ⟨Nat.le_of_ble_eq_true rfl, Nat.le_of_ble_eq_true rfl⟩ (Nat.le_of_ble_eq_true rfl) ⟨Nat.le_of_ble_eq_true rfl, Nat.le_of_ble_eq_true rfl⟩ rfl dX5_does_64 ?_
  refine zkd (G := fun v1 w1 => zG p l e _ s m args below meth c D _ _ _ _ _ _ _ (v1.toList ++ _) w1) (w2 := cM q (mdLink κ a c0 1) ct) cM_all ?_
  obtain ⟨κ2, eκ2⟩ : ∃ zz_, zz_ = (mdLink κ a c0 1) := ⟨_, rfl⟩
  rw [← eκ2]
  exact z_iretd hC hr dX5_does_67 (Nat.zero_le _) (Nat.zero_le _) (by subst eκ2; rfl) (by subst eκ2; rfl) cM_adr

set_option maxRecDepth 100000 in
set_option maxHeartbeats 1000000 in
theorem c_X5_does_45 (l : Launch) (D : va_G) (ct : Nat → ClassId) (q : Nat → Nat) (κ : Nat → Nat → Int32) (a c0 : Nat) (ha : a < 10) (hc : c0 < 10) (h4 : κ 0 4 = nI a) (h5 : κ 0 5 = nI c0) : zT l D ct yX5_does cX5_does 2 (some .int) 9 242 0 0 [.ref (q 0), .int 45] (cM q κ ct) (zd (some (.int (mdLinks (mdLink κ a c0 0)))) (cM q (mdLink κ a c0 0) ct)) := by
  refine zT_of ([some (.ref (q 0)), some (.int 45)]) (by decide +kernel) rfl (Nat.le_of_ble_eq_true rfl) ?_
  intro p e s m args below meth c hC hr hnm
  refine z_iload_n hC dX5_does_0 rfl ?_
  refine z_lookup (off := 43) hC 44 dX5_does_1 (by decide) (by decide) (by decide) ?_
  refine z_aload_n hC dX5_does_44 rfl ?_
  refine z_aload_n hC dX5_does_45 rfl ?_
  refine z_get 0 7 hC bl_X5 (ci := 5) rfl (by decide) rfl bw_494 rfl rfl dX5_does_46 ?_
  refine z_top (y := nI (a)) (h4) ?_
  refine z_aload_n hC dX5_does_49 rfl ?_
  refine z_get 0 8 hC bl_X5 (ci := 5) rfl (by decide) rfl bw_499 rfl rfl dX5_does_50 ?_
  refine z_top (y := nI (c0)) (h5) ?_
  refine z_iload_n hC dX5_does_53 rfl ?_
  refine z_bipush (v := 43) hC dX5_does_54 (by decide) ?_
  refine z_icmp_ne hC 63 dX5_does_56 (by decide) (fun cn1 => ?_) (fun cn1 => absurd cn1 (by decide))
  refine z_iconst (v := 0) hC dX5_does_63 (by decide) ?_
  refine z_callV [0, 1, 2, 3] 0 5 hC (c_X5_links l D ct q κ a c0 0 (by omega) (by omega)) bw_157 bw_158 bw_159 bw_5 bw_160 3 (by decide +kernel) rfl rfl rfl rfl rfl ⟨Nat.le_of_ble_eq_true rfl, Nat.le_of_ble_eq_true rfl⟩ (Nat.le_of_ble_eq_true rfl) ⟨Nat.le_of_ble_eq_true rfl, Nat.le_of_ble_eq_true rfl⟩ rfl dX5_does_64 ?_
  refine zkd (G := fun v1 w1 => zG p l e _ s m args below meth c D _ _ _ _ _ _ _ (v1.toList ++ _) w1) (w2 := cM q (mdLink κ a c0 0) ct) cM_all ?_
  obtain ⟨κ2, eκ2⟩ : ∃ zz_, zz_ = (mdLink κ a c0 0) := ⟨_, rfl⟩
  rw [← eκ2]
  exact z_iretd hC hr dX5_does_67 (Nat.zero_le _) (Nat.zero_le _) (by subst eκ2; rfl) (by subst eκ2; rfl) cM_adr

set_option maxRecDepth 100000 in
set_option maxHeartbeats 1000000 in
theorem c_X5_does_33 (l : Launch) (D : va_G) (ct : Nat → ClassId) (q : Nat → Nat) (κ : Nat → Nat → Int32) (n : Nat) (hn : n < 10) (h4 : κ 0 4 = nI n) : zT l D ct yX5_does cX5_does 2 (some .int) 9 242 0 0 [.ref (q 0), .int 33] (cM q κ ct) (zd (some (.int (mdOnes (mdPower κ n (if mdOn κ 0 n = true then 0 else 1) 1 10)))) (cM q (mdPower κ n (if mdOn κ 0 n = true then 0 else 1)) ct)) := by
  refine zT_of ([some (.ref (q 0)), some (.int 33)]) (by decide +kernel) rfl (Nat.le_of_ble_eq_true rfl) ?_
  intro p e s m args below meth c hC hr hnm
  refine z_iload_n hC dX5_does_0 rfl ?_
  refine z_lookup (off := 67) hC 68 dX5_does_1 (by decide) (by decide) (by decide) ?_
  refine z_aload_n hC dX5_does_68 rfl ?_
  refine z_aload_n hC dX5_does_69 rfl ?_
  refine z_get 0 7 hC bl_X5 (ci := 5) rfl (by decide) rfl bw_494 rfl rfl dX5_does_70 ?_
  refine z_top (y := nI (n)) (h4) ?_
  refine z_aload_n hC dX5_does_73 rfl ?_
  refine z_iconst (v := 0) hC dX5_does_74 (by decide) ?_
  refine z_aload_n hC dX5_does_75 rfl ?_
  refine z_get 0 7 hC bl_X5 (ci := 5) rfl (by decide) rfl bw_494 rfl rfl dX5_does_76 ?_
  refine z_top (y := nI (n)) (h4) ?_
  refine z_callV [0, 1, 2, 3] 0 5 hC (c_X5_isOn l D ct q κ 0 n (by decide)) bw_359 bw_360 bw_361 bw_5 bw_362 2 (by decide +kernel) rfl rfl rfl rfl rfl ⟨Nat.le_of_ble_eq_true rfl, Nat.le_of_ble_eq_true rfl⟩ (Nat.le_of_ble_eq_true rfl) ⟨Nat.le_of_ble_eq_true rfl, Nat.le_of_ble_eq_true rfl⟩ rfl dX5_does_79 ?_
  refine zkq (G := fun v1 w1 => zG p l e _ s m args below meth c D _ _ _ _ _ _ _ (v1.toList ++ _) w1) rfl ?_
  refine z_if_ne hC 89 dX5_does_82 (by decide) (fun c82 => ?_) (fun c82 => ?_)
  · rw [bI_1] at c82
    refine z_iconst (v := 0) hC dX5_does_89 (by decide) ?_
    refine z_callV [0, 1, 2, 3] 0 5 hC (c_X5_powers l D ct q κ n 0) bw_185 bw_186 bw_187 bw_5 bw_188 2 (by decide +kernel) rfl rfl rfl rfl rfl ⟨Nat.le_of_ble_eq_true rfl, Nat.le_of_ble_eq_true rfl⟩ (Nat.le_of_ble_eq_true rfl) ⟨Nat.le_of_ble_eq_true rfl, Nat.le_of_ble_eq_true rfl⟩ rfl dX5_does_90 ?_
    refine zkd (G := fun v1 w1 => zG p l e _ s m args below meth c D _ _ _ _ _ _ _ (v1.toList ++ _) w1) (w2 := cM q (mdPower κ n 0) ct) cM_all ?_
    obtain ⟨κ1, eκ1⟩ : ∃ zz_, zz_ = (mdPower κ n 0) := ⟨_, rfl⟩
    rw [← eκ1]
    exact z_iretd hC hr dX5_does_93 (Nat.zero_le _) (Nat.zero_le _) (by subst eκ1; rw [if_pos c82]) (by subst eκ1; rw [if_pos c82]) cM_adr
  · rw [bI_0] at c82
    refine z_iconst (v := 1) hC dX5_does_85 (by decide) ?_
    refine z_goto hC 90 dX5_does_86 (by decide) ?_
    refine z_callV [0, 1, 2, 3] 0 5 hC (c_X5_powers l D ct q κ n 1) bw_185 bw_186 bw_187 bw_5 bw_188 2 (by decide +kernel) rfl rfl rfl rfl rfl ⟨Nat.le_of_ble_eq_true rfl, Nat.le_of_ble_eq_true rfl⟩ (Nat.le_of_ble_eq_true rfl) ⟨Nat.le_of_ble_eq_true rfl, Nat.le_of_ble_eq_true rfl⟩ rfl dX5_does_90 ?_
    refine zkd (G := fun v1 w1 => zG p l e _ s m args below meth c D _ _ _ _ _ _ _ (v1.toList ++ _) w1) (w2 := cM q (mdPower κ n 1) ct) cM_all ?_
    obtain ⟨κ2, eκ2⟩ : ∃ zz_, zz_ = (mdPower κ n 1) := ⟨_, rfl⟩
    rw [← eκ2]
    exact z_iretd hC hr dX5_does_93 (Nat.zero_le _) (Nat.zero_le _) (by subst eκ2; rw [if_neg (by rw [c82]; decide)]) (by subst eκ2; rw [if_neg (by rw [c82]; decide)]) cM_adr

set_option maxRecDepth 100000 in
set_option maxHeartbeats 1000000 in
theorem c_X5_does_116 (l : Launch) (D : va_G) (ct : Nat → ClassId) (q : Nat → Nat) (κ : Nat → Nat → Int32) (n : Nat) (hn : n < 10) (h4 : κ 0 4 = nI n) (hKt : okK κ 0 n) : zT l D ct yX5_does cX5_does 2 (some .int) 9 242 0 0 [.ref (q 0), .int 116] (cM q κ ct) (zd (some (.int (mdTake κ n (κ 0 5) 1 (0 + 20 + 7 * n + 5) - 1))) (cM q (mdTake κ n (κ 0 5)) ct)) := by
  refine zT_of ([some (.ref (q 0)), some (.int 116)]) (by decide +kernel) rfl (Nat.le_of_ble_eq_true rfl) ?_
  intro p e s m args below meth c hC hr hnm
  refine z_iload_n hC dX5_does_0 rfl ?_
  refine z_lookup (off := 93) hC 94 dX5_does_1 (by decide) (by decide) (by decide) ?_
  refine z_aload_n hC dX5_does_94 rfl ?_
  refine z_aload_n hC dX5_does_95 rfl ?_
  refine z_get 0 7 hC bl_X5 (ci := 5) rfl (by decide) rfl bw_494 rfl rfl dX5_does_96 ?_
  refine z_top (y := nI (n)) (h4) ?_
  refine z_aload_n hC dX5_does_99 rfl ?_
  refine z_get 0 8 hC bl_X5 (ci := 5) rfl (by decide) rfl bw_499 rfl rfl dX5_does_100 ?_
  refine z_callV [0, 1, 2, 3] 0 5 hC (c_X5_takes l D ct q κ n (κ 0 5) (by omega) hKt) bw_278 bw_279 bw_280 bw_5 bw_281 2 (by decide +kernel) rfl rfl rfl rfl rfl ⟨Nat.le_of_ble_eq_true rfl, Nat.le_of_ble_eq_true rfl⟩ (Nat.le_of_ble_eq_true rfl) ⟨Nat.le_of_ble_eq_true rfl, Nat.le_of_ble_eq_true rfl⟩ rfl dX5_does_103 ?_
  refine zkd (G := fun v1 w1 => zG p l e _ s m args below meth c D _ _ _ _ _ _ _ (v1.toList ++ _) w1) (w2 := cM q (mdTake κ n (κ 0 5)) ct) cM_all ?_
  obtain ⟨κ1, eκ1⟩ : ∃ zz_, zz_ = (mdTake κ n (κ 0 5)) := ⟨_, rfl⟩
  rw [← eκ1]
  exact z_iretd hC hr dX5_does_106 (Nat.zero_le _) (Nat.zero_le _) (by subst eκ1; rfl) (by subst eκ1; rfl) cM_adr

set_option maxRecDepth 100000 in
set_option maxHeartbeats 1000000 in
theorem c_X5_does_114 (l : Launch) (D : va_G) (ct : Nat → ClassId) (q : Nat → Nat) (κ : Nat → Nat → Int32) (n : Nat) (hn : n < 2 ^ 31) (h4 : κ 0 4 = nI n) (Inv : Nat → (Nat → Nat → Int32) → Prop) (hI : ∀ j κ, Inv (j + 1) κ → okSlot κ 0 ∧ Inv j (mdSlot κ 0)) (hI0 : Inv n κ) : zT l D ct yX5_does cX5_does 2 (some .int) 9 242 0 0 [.ref (q 0), .int 114] (cM q κ ct) (zd (some (.int (mdRunR κ 0 n))) (cM q (mdRun κ 0 n) ct)) := by
  refine zT_of ([some (.ref (q 0)), some (.int 114)]) (by decide +kernel) rfl (Nat.le_of_ble_eq_true rfl) ?_
  intro p e s m args below meth c hC hr hnm
  refine z_iload_n hC dX5_does_0 rfl ?_
  refine z_lookup (off := 106) hC 107 dX5_does_1 (by decide) (by decide) (by decide) ?_
  refine z_aload_n hC dX5_does_107 rfl ?_
  refine z_iconst (v := 0) hC dX5_does_108 (by decide) ?_
  refine z_aload_n hC dX5_does_109 rfl ?_
  refine z_get 0 7 hC bl_X5 (ci := 5) rfl (by decide) rfl bw_494 rfl rfl dX5_does_110 ?_
  refine z_top (y := nI (n)) (h4) ?_
  refine z_callV [0, 1, 2, 3] 0 5 hC (c_X5_runs l D ct q κ 0 n (by decide) (by omega) Inv hI hI0) bw_351 bw_352 bw_353 bw_5 bw_354 2 (by decide +kernel) rfl rfl rfl rfl rfl ⟨Nat.le_of_ble_eq_true rfl, Nat.le_of_ble_eq_true rfl⟩ (Nat.le_of_ble_eq_true rfl) ⟨Nat.le_of_ble_eq_true rfl, Nat.le_of_ble_eq_true rfl⟩ rfl dX5_does_113 ?_
  refine zkd (G := fun v1 w1 => zG p l e _ s m args below meth c D _ _ _ _ _ _ _ (v1.toList ++ _) w1) (w2 := cM q (mdRun κ 0 n) ct) cM_all ?_
  obtain ⟨κ1, eκ1⟩ : ∃ zz_, zz_ = (mdRun κ 0 n) := ⟨_, rfl⟩
  rw [← eκ1]
  exact z_iretd hC hr dX5_does_116 (Nat.zero_le _) (Nat.zero_le _) (by subst eκ1; rfl) (by subst eκ1; rfl) cM_adr

theorem zI_mono {b j k : Nat} {κ : TB} (h : zI b j κ) (hk : k ≤ j) : zI b k κ := by
  obtain ⟨σ, B, h1, h2⟩ := h
  exact ⟨σ, B, h1, by omega⟩
theorem c_X5_does (l : Launch) (D : va_G) (ct : Nat → ClassId) (q : Nat → Nat) (κ : Nat → Nat → Int32) (sg : Int32) (hok : okDo κ sg) (hz : zI 0 100 κ) : zT l D ct yX5_does cX5_does 2 (some .int) 9 242 0 0 [.ref (q 0), .int sg] (cM q κ ct) (zd (some (.int (mdDoR κ sg))) (cM q (mdDo κ sg) ct)) := by
  rcases hok with ⟨s1, s2, s3⟩ | ⟨s1, s2, s3, s4, s5⟩ | ⟨s1, s2, s3, s4⟩ | ⟨s1, s2, s3, s4⟩
  · subst s1
    exact c_X5_does_33 l D ct q κ (xa κ) s3 s2
  · rcases s1 with s1 | s1
    · subst s1
      exact c_X5_does_43 l D ct q κ (xa κ) (xb κ) s3 s5 s2 s4
    · subst s1
      exact c_X5_does_45 l D ct q κ (xa κ) (xb κ) s3 s5 s2 s4
  · subst s1
    obtain ⟨σ, B, h1, h2⟩ := hz
    exact c_X5_does_116 l D ct q κ (xa κ) s4 s2 (Rel_okA h1 _ s4)
  · subst s1
    exact c_X5_does_114 l D ct q κ (xa κ) (by omega) s2 (zI 0) (fun j κ h => zI_step h) (zI_mono hz s4)
