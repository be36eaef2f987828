/-! THE REFERENCE: error, what a command does, carrying a text out, a new object -/
theorem nI_all (x : Int32) : ∃ n : Nat, x = nI n := ⟨x.toBitVec.toNat, by
  apply Int32.toBitVec_inj.mp
  show x.toBitVec = BitVec.ofNat 32 x.toBitVec.toNat
  rw [BitVec.ofNat_toNat, BitVec.setWidth_eq]⟩
set_option maxRecDepth 100000 in
set_option maxHeartbeats 1000000 in
theorem c_X5_error (l : Launch) (D : va_G) (ct : Nat → ClassId) (q : Nat → Nat) (κ : Nat → Nat → Int32) (t p0 : Nat) (o w : Int32) (ht : κ 0 1 = nI t) (ht8 : t ≤ 80) (E : Int32 × Nat × Int32 × Int32) (hE : xE (κ 2) t 81 0 o w = E) : zT l D ct yX5_error cX5_error 1 (some .int) 6 130 0 0 [.ref (q 0)] (cX q κ (p0) o w ct) (zd (some (.int E.1)) (cX q κ E.2.1 E.2.2.1 E.2.2.2 ct)) := by
  refine zT_of ([some (.ref (q 0))]) (by decide +kernel) rfl (Nat.le_of_ble_eq_true rfl) ?_
  intro p e s m args below meth c hC hr hnm
  refine z_aload_n hC dX5_error_0 rfl ?_
  refine z_iconst (v := 0) hC dX5_error_1 (by decide) ?_
  refine z_put (ci := 5) 0 6 hC bl_X5 tyX5_ok nmX5 rfl (by decide) rfl bw_489 rfl rfl rfl rfl (Nat.lt_of_lt_of_le (by decide) (Nat.le_refl 9)) dX5_error_2 (w2 := cX q κ (0) o w ct) cX_f3 ?_
  have loop5 : ∀ (kf pn : Nat) (ox wx : Int32) (hki : 81 ≤ kf + pn) (hpn : pn ≤ t) (hF : xE (κ 2) t kf pn ox wx = E), zG p l e { frames := 6, cells := 0, slots := 0, locals := 130 } s m args below meth c D (va_A (cX q κ (p0) o w ct) s.heap.size) 1 (MQ below (zQ D ct (cX q κ (p0) o w ct) s.heap.size (zd (some (.int E.1)) (cX q κ E.2.1 E.2.2.1 E.2.2.2 ct))) args s 0 0 (va_A (cX q κ (p0) o w ct) s.heap.size)) 0 0 5 [some (.ref (q 0))] [] (cX q κ (pn) ox wx ct) := by
    intro kf
    induction kf with
    | zero =>
      intro pn ox wx hki hpn hF
      omega
    | succ kf ih =>
      intro pn ox wx hki hpn hF
      skip
      refine z_aload_n hC dX5_error_5 rfl ?_
      refine z_callV [0, 1, 2, 3] 0 5 hC (c_X5_command l D ct q κ t pn ox wx ht ht8 (by omega) (xC (κ 2) t pn ox wx) rfl) bw_490 bw_491 bw_492 bw_5 bw_493 0 (by decide +kernel) rfl rfl rfl rfl rfl ⟨Nat.le_of_ble_eq_true rfl, Nat.le_of_ble_eq_true rfl⟩ (Nat.le_of_ble_eq_true rfl) ⟨Nat.le_of_ble_eq_true rfl, Nat.le_of_ble_eq_true rfl⟩ rfl dX5_error_6 ?_
      refine zkd (G := fun v1 w1 => zG p l e _ s m args below meth c D _ _ _ _ _ _ _ (v1.toList ++ _) w1) (w2 := cX q κ ((xC (κ 2) t pn ox wx).2.1) ((xC (κ 2) t pn ox wx).2.2.1) ((xC (κ 2) t pn ox wx).2.2.2) ct) cX_all ?_
      have hpd1 : (xC (κ 2) t pn ox wx).2.1 ≤ 81 := xC_hi ht8 (by omega) _ _
      refine z_bipush (v := 32) hC dX5_error_9 (by decide) ?_
      refine z_icmp_eq hC 59 dX5_error_11 (by decide) (fun c11 => ?_) (fun c11 => ?_)
      · refine z_aload_n hC dX5_error_59 rfl ?_
        refine z_get 0 6 hC bl_X5 (ci := 5) rfl (by decide) rfl bw_489 rfl rfl dX5_error_60 ?_
        exact z_iretd hC hr dX5_error_63 (Nat.zero_le _) (Nat.zero_le _) (by rw [← hF, xE, if_pos c11]) (by rw [← hF, xE, if_pos c11]) cX_adr
      · obtain ⟨hx1, hx2, hx3⟩ := xC_le c11
        refine z_aload_n hC dX5_error_14 rfl ?_
        refine z_get 0 6 hC bl_X5 (ci := 5) rfl (by decide) rfl bw_489 rfl rfl dX5_error_15 ?_
        refine z_aload_n hC dX5_error_18 rfl ?_
        refine z_get 0 3 hC bl_X5 (ci := 5) rfl (by decide) rfl bw_432 rfl rfl dX5_error_19 ?_
        refine z_top (y := nI (t)) (ht) ?_
        refine z_icmp_ne hC 27 dX5_error_22 (by decide) (fun c22 => ?_) (fun c22 => ?_)
        · replace c22 := (nI_neI (a := (xC (κ 2) t pn ox wx).2.1) (b := t) (by omega) (by omega)).mp c22
          refine z_aload_n hC dX5_error_27 rfl ?_
          refine z_get 0 2 hC bl_X5 (ci := 5) rfl (by decide) rfl bw_68 rfl rfl dX5_error_28 ?_
          refine z_aload_n hC dX5_error_31 rfl ?_
          refine z_get 0 6 hC bl_X5 (ci := 5) rfl (by decide) rfl bw_489 rfl rfl dX5_error_32 ?_
          refine z_caldN ((xC (κ 2) t pn ox wx).2.1) 2 2 hC rfl rfl (by decide) (by omega) dX5_error_35 ?_
          refine z_bipush (v := 59) hC dX5_error_36 (by decide) ?_
          refine z_icmp_eq hC 46 dX5_error_38 (by decide) (fun c38 => ?_) (fun c38 => ?_)
          · refine z_aload_n hC dX5_error_46 rfl ?_
            refine z_dup hC dX5_error_47 rfl ?_
            refine z_get 0 6 hC bl_X5 (ci := 5) rfl (by decide) rfl bw_489 rfl rfl dX5_error_48 ?_
            refine z_iconst (v := 1) hC dX5_error_51 (by decide) ?_
            refine z_iaddN ((xC (κ 2) t pn ox wx).2.1) (1) hC dX5_error_52 ?_
            refine z_put (ci := 5) 0 6 hC bl_X5 tyX5_ok nmX5 rfl (by decide) rfl bw_489 rfl rfl rfl rfl (Nat.lt_of_lt_of_le (by decide) (Nat.le_refl 9)) dX5_error_53 (w2 := cX q κ ((xC (κ 2) t pn ox wx).2.1 + 1) ((xC (κ 2) t pn ox wx).2.2.1) ((xC (κ 2) t pn ox wx).2.2.2) ct) cX_f3 ?_
            refine z_goto hC 5 dX5_error_56 (by decide) ?_
            obtain ⟨hx1, hx2, hx3⟩ := xC_le c11
            exact ih ((xC (κ 2) t pn ox wx).2.1 + 1) _ _ (by omega) (by omega) (by rw [← hF, xE, if_neg c11, if_neg c22, if_pos c38])
          · refine z_aload_n hC dX5_error_41 rfl ?_
            refine z_get 0 6 hC bl_X5 (ci := 5) rfl (by decide) rfl bw_489 rfl rfl dX5_error_42 ?_
            exact z_iretd hC hr dX5_error_45 (Nat.zero_le _) (Nat.zero_le _) (by rw [← hF, xE, if_neg c11, if_neg c22, if_neg c38]) (by rw [← hF, xE, if_neg c11, if_neg c22, if_neg c38]) cX_adr
        · replace c22 := (nI_eq (a := (xC (κ 2) t pn ox wx).2.1) (b := t) (by omega) (by omega)).mp c22
          refine z_iconst (v := (-1)) hC dX5_error_25 (by decide) ?_
          exact z_iretd hC hr dX5_error_26 (Nat.zero_le _) (Nat.zero_le _) (by rw [← hF, xE, if_neg c11, if_pos c22]) (by rw [← hF, xE, if_neg c11, if_pos c22]) cX_adr
  exact loop5 81 0 o w (by omega) (by omega) hE
