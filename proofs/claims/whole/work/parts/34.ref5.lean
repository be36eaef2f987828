/-! THE REFERENCE's TEXTS: f the signs, t how many, p where it stands -/
abbrev cX (q : Nat → Nat) (κ : Nat → Nat → Int32) (p : Nat) (o w : Int32) (ct : Nat → ClassId) : va_W := [(q 0, .inr (5, [.ref (q 1), .int (κ 0 0), .ref (q 2), .int (κ 0 1), .int (κ 0 2), .ref (q 3), .int (nI p), .int o, .int w])), (q 1, .inl (ct 0, 5520, .inl (κ 1))), (q 2, .inl (ct 2, 80, .inl (κ 2))), (q 3, .inl (ct 0, 10, .inl (κ 3)))]
def x3 (κ : Nat → Nat → Int32) (p : Nat) (o w : Int32) : Nat → Nat → Int32 := u2 (u2 (u2 κ 0 3 (nI p)) 0 4 o) 0 5 w
theorem cX_cM {q : Nat → Nat} {κ : Nat → Nat → Int32} {p : Nat} {o w : Int32} {ct : Nat → ClassId} : cX q κ p o w ct = cM q (x3 κ p o w) ct := rfl
theorem cM_cX {q : Nat → Nat} {κ : Nat → Nat → Int32} {p : Nat} {o w : Int32} {ct : Nat → ClassId} (h3 : κ 0 3 = nI p) (h4 : κ 0 4 = o) (h5 : κ 0 5 = w) : cM q κ ct = cX q κ p o w ct := by
  subst h4; subst h5
  show [_, _, _, _] = [_, _, _, _]
  rw [h3]
theorem cX_f3 {q : Nat → Nat} {κ : Nat → Nat → Int32} {p p2 : Nat} {o w : Int32} {ct : Nat → ClassId} : (cX q κ p o w ct).set 0 (q 0, .inr (5, [Value.ref (q 1), .int (κ 0 0), .ref (q 2), .int (κ 0 1), .int (κ 0 2), .ref (q 3), .int (nI p), .int o, .int w].set 6 (.int (nI p2)))) = cX q κ p2 o w ct := rfl
theorem cX_f4 {q : Nat → Nat} {κ : Nat → Nat → Int32} {p : Nat} {o w v : Int32} {ct : Nat → ClassId} : (cX q κ p o w ct).set 0 (q 0, .inr (5, [Value.ref (q 1), .int (κ 0 0), .ref (q 2), .int (κ 0 1), .int (κ 0 2), .ref (q 3), .int (nI p), .int o, .int w].set 7 (.int v))) = cX q κ p v w ct := rfl
theorem cX_f5 {q : Nat → Nat} {κ : Nat → Nat → Int32} {p : Nat} {o w v : Int32} {ct : Nat → ClassId} : (cX q κ p o w ct).set 0 (q 0, .inr (5, [Value.ref (q 1), .int (κ 0 0), .ref (q 2), .int (κ 0 1), .int (κ 0 2), .ref (q 3), .int (nI p), .int o, .int w].set 8 (.int v))) = cX q κ p o v ct := rfl
theorem cX_adr {q : Nat → Nat} {κ κ2 : Nat → Nat → Int32} {p p2 : Nat} {o w o2 w2 : Int32} {ct : Nat → ClassId} : (cX q κ p o w ct).map Prod.fst = (cX q κ2 p2 o2 w2 ct).map Prod.fst := rfl
theorem cX_all {q : Nat → Nat} {κ κ2 : Nat → Nat → Int32} {p p2 : Nat} {o w o2 w2 : Int32} {ct : Nat → ClassId} : wput (cX q κ p o w ct) [0, 1, 2, 3] (cX q κ2 p2 o2 w2 ct) = cX q κ2 p2 o2 w2 ct := rfl
def xH (f : Nat → Int32) (t p : Nat) (lo hi : Int32) : Bool := decide (p < t) && mIn (f p) lo hi
def xD (f : Nat → Int32) (t p : Nat) (lo : Int32) : Int32 × Nat := if xH f t p lo 57 = true then (f p - 48, p + 1) else (-1, p)
def xNL (f : Nat → Int32) (t : Nat) (g : Int32) : Nat → Int32 → Nat → Int32 × Nat
  | 0, v, p => (v, p)
  | k + 1, v, p => if 0 < v ∧ xH f t p 48 57 = true ∧ 10 * v + f p - 48 ≤ g then xNL f t g k (10 * v + f p - 48) (p + 1) else (v, p)
def xN (f : Nat → Int32) (t p : Nat) (l g : Int32) : Int32 × Nat := xNL f t g t (xD f t p (if l = 0 then 48 else 49)).1 (xD f t p (if l = 0 then 48 else 49)).2
def xRL (f : Nat → Int32) (t p : Nat) (w : Int32) : Bool × Nat × Int32 × Int32 := if (xD f t p 48).1 = -1 ∨ ((xD f t p 48).2 < t ∧ f (xD f t p 48).2 - 48 = (xD f t p 48).1) then (false, (xD f t p 48).2, (xD f t p 48).1, w) else (decide (¬ (xD f t (xD f t p 48).2 48).1 = -1), (xD f t (xD f t p 48).2 48).2, (xD f t p 48).1, (xD f t (xD f t p 48).2 48).1)
def xRT (f : Nat → Int32) (t p : Nat) (w : Int32) : Bool × Nat × Int32 × Int32 := if (xD f t p 49).1 = -1 ∨ xH f t (xD f t p 49).2 44 44 = false then (false, (xD f t p 49).2, (xD f t p 49).1, w) else (decide (¬ (xN f t ((xD f t p 49).2 + 1) 0 999).1 = -1), (xN f t ((xD f t p 49).2 + 1) 0 999).2, (xD f t p 49).1, (xN f t ((xD f t p 49).2 + 1) 0 999).1)
def xCs (f : Nat → Int32) (t p : Nat) (o w s : Int32) : Int32 × Nat × Int32 × Int32 :=
  if s = 33 then (if (xD f t (p + 1) 48).1 = -1 then 32 else 33, (xD f t (p + 1) 48).2, (xD f t (p + 1) 48).1, w)
  else if s = 43 ∨ s = 45 then (if (xRL f t (p + 1) w).1 = true then s else 32, (xRL f t (p + 1) w).2)
  else if s = 114 then (if (xN f t (p + 1) 1 100).1 = -1 then 32 else 114, (xN f t (p + 1) 1 100).2, (xN f t (p + 1) 1 100).1, w)
  else if s = 116 then (if (xRT f t (p + 1) w).1 = true then 116 else 32, (xRT f t (p + 1) w).2)
  else (32, p, o, w)
def xC (f : Nat → Int32) (t p : Nat) (o w : Int32) : Int32 × Nat × Int32 × Int32 := xCs f t p o w (if p < t then f p else 32)
def xE (f : Nat → Int32) (t : Nat) : Nat → Nat → Int32 → Int32 → Int32 × Nat × Int32 × Int32
  | 0, p, o, w => (nI p, p, o, w)
  | k + 1, p, o, w => if (xC f t p o w).1 = 32 then (nI (xC f t p o w).2.1, (xC f t p o w).2) else if (xC f t p o w).2.1 = t then (-1, (xC f t p o w).2) else if f (xC f t p o w).2.1 = 59 then xE f t k ((xC f t p o w).2.1 + 1) (xC f t p o w).2.2.1 (xC f t p o w).2.2.2 else (nI (xC f t p o w).2.1, (xC f t p o w).2)
theorem xH_lt {f : Nat → Int32} {t p : Nat} {lo hi : Int32} (h : xH f t p lo hi = true) : p < t := by
  unfold xH at h
  rw [Bool.and_eq_true, decide_eq_true_eq] at h
  exact h.1
theorem xH_in {f : Nat → Int32} {t p : Nat} {lo hi : Int32} (h : xH f t p lo hi = true) : lo ≤ f p ∧ f p ≤ hi := by
  unfold xH mIn at h
  simp only [Bool.and_eq_true, decide_eq_true_eq] at h
  exact h.2
theorem xH_dig {f : Nat → Int32} {t p : Nat} {lo : Int32} (hl : 48 ≤ lo) (h : xH f t p lo 57 = true) : ∃ d : Nat, d < 10 ∧ f p = nI (48 + d) ∧ f p - 48 = nI d := by
  have h1 := xH_in h
  have h48 : (48 : Int32).toInt = 48 := rfl
  have h57 : (57 : Int32).toInt = 57 := rfl
  have e1 := h1.1
  have e2 := h1.2
  rw [Int32.le_iff_toInt_le] at e1 e2 hl
  have e0 : ¬ f p < 0 := by
    rw [Int32.lt_iff_toInt_lt]
    have : (0 : Int32).toInt = 0 := rfl
    omega
  obtain ⟨j, hj, e⟩ := nI_of e0
  have hjI : (f p).toInt = (j : Int) := by rw [e]; exact nI_toInt hj
  refine ⟨j - 48, by omega, by rw [e, show 48 + (j - 48) = j by omega], ?_⟩
  rw [e, show (48 : Int32) = nI 48 from rfl, pk_sub (by omega)]
theorem xD_le {f : Nat → Int32} {t p : Nat} {lo : Int32} {M : Nat} (hp : p ≤ M) (ht : t ≤ M) : (xD f t p lo).2 ≤ M := by
  unfold xD
  split
  · rename_i h
    have := xH_lt h
    show p + 1 ≤ M
    omega
  · exact hp
theorem xD_ge {f : Nat → Int32} {t p : Nat} {lo : Int32} : p ≤ (xD f t p lo).2 := by
  unfold xD
  split
  · exact Nat.le_succ p
  · exact Nat.le_refl p
theorem xD_dig {f : Nat → Int32} {t p : Nat} {lo : Int32} (hl : 48 ≤ lo) (h : ¬ (xD f t p lo).1 = -1) : xH f t p lo 57 = true ∧ (xD f t p lo).2 = p + 1 ∧ p < t ∧ ∃ d : Nat, d < 10 ∧ f p = nI (48 + d) ∧ (xD f t p lo).1 = nI d := by
  unfold xD at *
  split
  · rename_i hc
    obtain ⟨d, h1, h2, h3⟩ := xH_dig hl hc
    exact ⟨hc, rfl, xH_lt hc, d, h1, h2, h3⟩
  · rename_i hc
    rw [if_neg hc] at h
    exact absurd rfl h
theorem xNL_le {f : Nat → Int32} {t : Nat} {g : Int32} {M : Nat} (ht : t ≤ M) : ∀ (k : Nat) (v : Int32) (p : Nat), p ≤ M → (xNL f t g k v p).2 ≤ M
  | 0, v, p, h => h
  | k + 1, v, p, h => by
    unfold xNL
    split
    · rename_i hc
      have := xH_lt hc.2.1
      exact xNL_le ht k _ _ (by omega)
    · exact h
theorem xNL_ge {f : Nat → Int32} {t : Nat} {g : Int32} : ∀ (k : Nat) (v : Int32) (p : Nat), p ≤ (xNL f t g k v p).2
  | 0, v, p => Nat.le_refl p
  | k + 1, v, p => by
    unfold xNL
    split
    · have := xNL_ge (f := f) (t := t) (g := g) k (10 * v + f p - 48) (p + 1)
      omega
    · exact Nat.le_refl p
theorem xN_le {f : Nat → Int32} {t p : Nat} {l g : Int32} {M : Nat} (hp : p ≤ M) (ht : t ≤ M) : (xN f t p l g).2 ≤ M := xNL_le ht _ _ _ (xD_le hp ht)
theorem xN_ge {f : Nat → Int32} {t p : Nat} {l g : Int32} : p ≤ (xN f t p l g).2 := Nat.le_trans xD_ge (xNL_ge _ _ _)
theorem xRL_le {f : Nat → Int32} {t p : Nat} {w : Int32} {M : Nat} (hp : p ≤ M) (ht : t ≤ M) : (xRL f t p w).2.1 ≤ M := by
  unfold xRL
  split
  · exact xD_le hp ht
  · exact xD_le (xD_le hp ht) ht
theorem xRT_le {f : Nat → Int32} {t p : Nat} {w : Int32} {M : Nat} (hp : p ≤ M) (ht : t ≤ M) : (xRT f t p w).2.1 ≤ M := by
  unfold xRT
  split
  · exact xD_le hp ht
  · rename_i hc
    refine xN_le ?_ ht
    have h2 : xH f t (xD f t p 49).2 44 44 = true := by
      cases hb : xH f t (xD f t p 49).2 44 44 with
      | true => rfl
      | false => exact absurd (Or.inr hb) hc
    have := xH_lt h2
    omega
theorem xRL_ge {f : Nat → Int32} {t p : Nat} {w : Int32} : p ≤ (xRL f t p w).2.1 := by
  unfold xRL
  split
  · exact xD_ge
  · exact Nat.le_trans xD_ge xD_ge
theorem xRT_ge {f : Nat → Int32} {t p : Nat} {w : Int32} : p ≤ (xRT f t p w).2.1 := by
  unfold xRT
  split
  · exact xD_ge
  · have h1 : p ≤ (xD f t p 49).2 := xD_ge
    have h2 : (xD f t p 49).2 + 1 ≤ (xN f t ((xD f t p 49).2 + 1) 0 999).2 := xN_ge
    show p ≤ (xN f t ((xD f t p 49).2 + 1) 0 999).2
    omega
/-- a command that is read stands before the end, and the reader goes on -/
theorem xC_le {f : Nat → Int32} {t p : Nat} {o w : Int32} (h : ¬ (xC f t p o w).1 = 32) : p < t ∧ p < (xC f t p o w).2.1 ∧ (xC f t p o w).2.1 ≤ t := by
  unfold xC at *
  by_cases hp : p < t
  · rw [if_pos hp] at *
    refine ⟨hp, ?_⟩
    unfold xCs at *
    split
    · exact ⟨Nat.lt_of_lt_of_le (Nat.lt_succ_self p) xD_ge, xD_le hp (Nat.le_refl t)⟩
    · split
      · exact ⟨Nat.lt_of_lt_of_le (Nat.lt_succ_self p) xRL_ge, xRL_le hp (Nat.le_refl t)⟩
      · split
        · exact ⟨Nat.lt_of_lt_of_le (Nat.lt_succ_self p) xN_ge, xN_le hp (Nat.le_refl t)⟩
        · split
          · exact ⟨Nat.lt_of_lt_of_le (Nat.lt_succ_self p) xRT_ge, xRT_le hp (Nat.le_refl t)⟩
          · rename_i h1 h2 h3 h4
            rw [if_neg h1, if_neg h2, if_neg h3, if_neg h4] at h
            exact absurd rfl h
  · rw [if_neg hp] at h
    exact absurd rfl h
theorem xCs_le {f : Nat → Int32} {t p : Nat} {o w s : Int32} {M : Nat} (hp : p < M) (ht : t ≤ M) : (xCs f t p o w s).2.1 ≤ M := by
  unfold xCs
  split
  · exact xD_le hp ht
  · split
    · exact xRL_le hp ht
    · split
      · exact xN_le hp ht
      · split
        · exact xRT_le hp ht
        · exact Nat.le_of_lt hp
set_option maxRecDepth 100000 in
set_option maxHeartbeats 1000000 in
theorem c_X5_isHere (l : Launch) (D : va_G) (ct : Nat → ClassId) (q : Nat → Nat) (κ : Nat → Nat → Int32) (t p0 : Nat) (o w : Int32) (ht : κ 0 1 = nI t) (ht8 : t ≤ 80) (hp : p0 ≤ 81) (lo hi : Int32) : zT l D ct yX5_isHere cX5_isHere 3 (some .boolean) 1 22 0 0 [.ref (q 0), .int lo, .int hi] (cX q κ (p0) o w ct) (zd (some (.int (bI (xH (κ 2) t p0 lo hi)))) (cX q κ p0 o w ct)) := by
  refine zT_of ([some (.ref (q 0)), some (.int lo), some (.int hi)]) (by decide +kernel) rfl (Nat.le_of_ble_eq_true rfl) ?_
  intro p e s m args below meth c hC hr hnm
  refine z_aload_n hC dX5_isHere_0 rfl ?_
  refine z_get 0 6 hC bl_X5 (ci := 5) rfl (by decide) rfl bw_489 rfl rfl dX5_isHere_1 ?_
  refine z_aload_n hC dX5_isHere_4 rfl ?_
  refine z_get 0 3 hC bl_X5 (ci := 5) rfl (by decide) rfl bw_432 rfl rfl dX5_isHere_5 ?_
  refine z_top (y := nI (t)) (ht) ?_
  refine z_icmp_ge hC 32 dX5_isHere_8 (by decide) (fun c8 => ?_) (fun c8 => ?_)
  · replace c8 := (nI_leI (a := t) (b := p0) (by omega) (by omega)).mp c8
    refine z_iconst (v := 0) hC dX5_isHere_32 (by decide) ?_
    exact z_zretd hC hr (rfl) dX5_isHere_33 (Nat.zero_le _) (Nat.zero_le _) (by have h := Nat.not_lt.mpr c8; simp [xH, bI, h]) (rfl) cX_adr
  · replace c8 := (nI_nleI (a := t) (b := p0) (by omega) (by omega)).mp c8
    refine z_aload_n hC dX5_isHere_11 rfl ?_
    refine z_get 0 2 hC bl_X5 (ci := 5) rfl (by decide) rfl bw_68 rfl rfl dX5_isHere_12 ?_
    refine z_aload_n hC dX5_isHere_15 rfl ?_
    refine z_get 0 6 hC bl_X5 (ci := 5) rfl (by decide) rfl bw_489 rfl rfl dX5_isHere_16 ?_
    refine z_caldN (p0) 2 2 hC rfl rfl (by decide) (by omega) dX5_isHere_19 ?_
    refine z_iload_n hC dX5_isHere_20 rfl ?_
    refine z_iload_n hC dX5_isHere_21 rfl ?_
    refine z_callS [] hC (c_X5_in l D ct (κ 2 p0) lo hi) bw_140 bw_141 bw_5 bw_142 3 (by decide +kernel) rfl rfl rfl ⟨Nat.le_of_ble_eq_true rfl, Nat.le_of_ble_eq_true rfl⟩ (Nat.le_of_ble_eq_true rfl) ⟨Nat.le_of_ble_eq_true rfl, Nat.le_of_ble_eq_true rfl⟩ rfl dX5_isHere_22 ?_
    refine zkq (G := fun v1 w1 => zG p l e _ s m args below meth c D _ _ _ _ _ _ _ (v1.toList ++ _) w1) rfl ?_
    refine z_if_eq hC 32 dX5_isHere_25 (by decide) (fun c25 => ?_) (fun c25 => ?_)
    · rw [bI_0] at c25
      refine z_iconst (v := 0) hC dX5_isHere_32 (by decide) ?_
      exact z_zretd hC hr (rfl) dX5_isHere_33 (Nat.zero_le _) (Nat.zero_le _) (by simp [xH, bI, c8, c25]) (rfl) cX_adr
    · rw [bI_1] at c25
      refine z_iconst (v := 1) hC dX5_isHere_28 (by decide) ?_
      refine z_goto hC 33 dX5_isHere_29 (by decide) ?_
      exact z_zretd hC hr (rfl) dX5_isHere_33 (Nat.zero_le _) (Nat.zero_le _) (by simp [xH, bI, c8, c25]) (rfl) cX_adr

set_option maxRecDepth 100000 in
set_option maxHeartbeats 1000000 in
theorem c_X5_digit (l : Launch) (D : va_G) (ct : Nat → ClassId) (q : Nat → Nat) (κ : Nat → Nat → Int32) (t p0 : Nat) (o w : Int32) (ht : κ 0 1 = nI t) (ht8 : t ≤ 80) (hp : p0 ≤ 81) (lo : Int32) (hlo : 48 ≤ lo) : zT l D ct yX5_digit cX5_digit 3 (some .int) 2 44 0 0 [.ref (q 0), .int lo] (cX q κ (p0) o w ct) (zd (some (.int (xD (κ 2) t p0 lo).1)) (cX q κ (xD (κ 2) t p0 lo).2 o w ct)) := by
  refine zT_of ([some (.ref (q 0)), some (.int lo), none]) (by decide +kernel) rfl (Nat.le_of_ble_eq_true rfl) ?_
  intro p e s m args below meth c hC hr hnm
  refine z_aload_n hC dX5_digit_0 rfl ?_
  refine z_iload_n hC dX5_digit_1 rfl ?_
  refine z_bipush (v := 57) hC dX5_digit_2 (by decide) ?_
  refine z_callV [0, 1, 2, 3] 0 5 hC (c_X5_isHere l D ct q κ t (p0) o w ht ht8 hp lo 57) bw_504 bw_505 bw_506 bw_5 bw_507 2 (by decide +kernel) rfl rfl rfl rfl rfl ⟨Nat.le_of_ble_eq_true rfl, Nat.le_of_ble_eq_true rfl⟩ (Nat.le_of_ble_eq_true rfl) ⟨Nat.le_of_ble_eq_true rfl, Nat.le_of_ble_eq_true rfl⟩ rfl dX5_digit_4 ?_
  refine zkd (G := fun v1 w1 => zG p l e _ s m args below meth c D _ _ _ _ _ _ _ (v1.toList ++ _) w1) (w2 := cX q κ (p0) o w ct) cX_all ?_
  refine z_if_eq hC 25 dX5_digit_7 (by decide) (fun c7 => ?_) (fun c7 => ?_)
  · rw [bI_0] at c7
    refine z_iconst (v := (-1)) hC dX5_digit_25 (by decide) ?_
    refine z_istore_n hC dX5_digit_26 (by decide) rfl ?_
    refine z_aload_n hC dX5_digit_27 rfl ?_
    refine z_dup hC dX5_digit_28 rfl ?_
    refine z_get 0 6 hC bl_X5 (ci := 5) rfl (by decide) rfl bw_489 rfl rfl dX5_digit_29 ?_
    refine z_iload_n hC dX5_digit_32 rfl ?_
    refine z_iconst (v := (-1)) hC dX5_digit_33 (by decide) ?_
    refine z_icmp_ne hC 41 dX5_digit_34 (by decide) (fun cn1 => absurd cn1 (by decide)) (fun cn1 => ?_)
    refine z_iconst (v := 0) hC dX5_digit_37 (by decide) ?_
    refine z_goto hC 42 dX5_digit_38 (by decide) ?_
    refine z_iaddN (p0) (0) hC dX5_digit_42 ?_
    refine z_put (ci := 5) 0 6 hC bl_X5 tyX5_ok nmX5 rfl (by decide) rfl bw_489 rfl rfl rfl rfl (Nat.lt_of_lt_of_le (by decide) (Nat.le_refl 9)) dX5_digit_43 (w2 := cX q κ (p0 + 0) o w ct) cX_f3 ?_
    refine z_iload_n hC dX5_digit_46 rfl ?_
    exact z_iretd hC hr dX5_digit_47 (Nat.zero_le _) (Nat.zero_le _) (by rw [xD, if_neg (by rw [c7]; decide)]) (by rw [xD, if_neg (by rw [c7]; decide)]; rfl) cX_adr
  · rw [bI_1] at c7
    have hpt := xH_lt c7
    refine z_aload_n hC dX5_digit_10 rfl ?_
    refine z_get 0 2 hC bl_X5 (ci := 5) rfl (by decide) rfl bw_68 rfl rfl dX5_digit_11 ?_
    refine z_aload_n hC dX5_digit_14 rfl ?_
    refine z_get 0 6 hC bl_X5 (ci := 5) rfl (by decide) rfl bw_489 rfl rfl dX5_digit_15 ?_
    refine z_caldN (p0) 2 2 hC rfl rfl (by decide) (by omega) dX5_digit_18 ?_
    refine z_bipush (v := 48) hC dX5_digit_19 (by decide) ?_
    refine z_isub hC dX5_digit_21 ?_
    refine z_goto hC 26 dX5_digit_22 (by decide) ?_
    refine z_istore_n hC dX5_digit_26 (by decide) rfl ?_
    refine z_aload_n hC dX5_digit_27 rfl ?_
    refine z_dup hC dX5_digit_28 rfl ?_
    refine z_get 0 6 hC bl_X5 (ci := 5) rfl (by decide) rfl bw_489 rfl rfl dX5_digit_29 ?_
    refine z_iload_n hC dX5_digit_32 rfl ?_
    refine z_iconst (v := (-1)) hC dX5_digit_33 (by decide) ?_
    refine z_icmp_ne hC 41 dX5_digit_34 (by decide) (fun c34 => ?_) (fun c34 => False.elim (by obtain ⟨dd, hd, -, hd2⟩ := xH_dig hlo c7; exact nI_ne (a := dd) (by omega) (hd2.symm.trans c34)))
    refine z_iconst (v := 1) hC dX5_digit_41 (by decide) ?_
    refine z_iaddN (p0) (1) hC dX5_digit_42 ?_
    refine z_put (ci := 5) 0 6 hC bl_X5 tyX5_ok nmX5 rfl (by decide) rfl bw_489 rfl rfl rfl rfl (Nat.lt_of_lt_of_le (by decide) (Nat.le_refl 9)) dX5_digit_43 (w2 := cX q κ (p0 + 1) o w ct) cX_f3 ?_
    refine z_iload_n hC dX5_digit_46 rfl ?_
    exact z_iretd hC hr dX5_digit_47 (Nat.zero_le _) (Nat.zero_le _) (by rw [xD, if_pos c7]) (by rw [xD, if_pos c7]) cX_adr

set_option maxRecDepth 100000 in
set_option maxHeartbeats 1000000 in
theorem c_X5_number (l : Launch) (D : va_G) (ct : Nat → ClassId) (q : Nat → Nat) (κ : Nat → Nat → Int32) (t p0 : Nat) (o w : Int32) (ht : κ 0 1 = nI t) (ht8 : t ≤ 80) (hp : p0 ≤ 81) (l0 g0 : Int32) : zT l D ct yX5_number cX5_number 4 (some .int) 3 66 0 0 [.ref (q 0), .int l0, .int g0] (cX q κ (p0) o w ct) (zd (some (.int (xN (κ 2) t p0 l0 g0).1)) (cX q κ (xN (κ 2) t p0 l0 g0).2 o w ct)) := by
  refine zT_of ([some (.ref (q 0)), some (.int l0), some (.int g0), none]) (by decide +kernel) rfl (Nat.le_of_ble_eq_true rfl) ?_
  intro p e s m args below meth c hC hr hnm
  refine z_aload_n hC dX5_number_0 rfl ?_
  refine z_iload_n hC dX5_number_1 rfl ?_
  refine z_if_ne hC 10 dX5_number_2 (by decide) (fun c2 => ?_) (fun c2 => ?_)
  · refine z_bipush (v := 49) hC dX5_number_10 (by decide) ?_
    refine z_callV [0, 1, 2, 3] 0 5 hC (c_X5_digit l D ct q κ t (p0) o w ht ht8 (by omega) 49 (by decide)) bw_500 bw_501 bw_502 bw_5 bw_503 1 (by decide +kernel) rfl rfl rfl rfl rfl ⟨Nat.le_of_ble_eq_true rfl, Nat.le_of_ble_eq_true rfl⟩ (Nat.le_of_ble_eq_true rfl) ⟨Nat.le_of_ble_eq_true rfl, Nat.le_of_ble_eq_true rfl⟩ rfl dX5_number_12 ?_
    refine zkd (G := fun v1 w1 => zG p l e _ s m args below meth c D _ _ _ _ _ _ _ (v1.toList ++ _) w1) (w2 := cX q κ ((xD (κ 2) t p0 49).2) o w ct) cX_all ?_
    have hpd1 : (xD (κ 2) t p0 49).2 ≤ 81 := xD_le (M := 81) (by omega) (by omega)
    refine z_istore_n hC dX5_number_15 (by decide) rfl ?_
    have loop16 : ∀ (kf pn : Nat) (v : Int32) (hki : t ≤ kf + pn) (hpn : pn ≤ 81) (hF : xNL (κ 2) t g0 kf v pn = xN (κ 2) t p0 l0 g0), zG p l e { frames := 3, cells := 0, slots := 0, locals := 66 } s m args below meth c D (va_A (cX q κ (p0) o w ct) s.heap.size) 4 (MQ below (zQ D ct (cX q κ (p0) o w ct) s.heap.size (zd (some (.int (xN (κ 2) t p0 l0 g0).1)) (cX q κ (xN (κ 2) t p0 l0 g0).2 o w ct))) args s 0 0 (va_A (cX q κ (p0) o w ct) s.heap.size)) 0 0 16 [some (.ref (q 0)), some (.int l0), some (.int g0), some (.int v)] [] (cX q κ (pn) o w ct) := by
      intro kf
      induction kf with
      | zero =>
        intro pn v hki hpn hF
        refine z_iload_n hC dX5_number_16 rfl ?_
        refine z_if_le hC 83 dX5_number_17 (by decide) (fun c17 => ?_) (fun c17 => ?_)
        · refine z_iload_n hC dX5_number_83 rfl ?_
          exact z_iretd hC hr dX5_number_84 (Nat.zero_le _) (Nat.zero_le _) (by rw [← hF]; rfl) (by rw [← hF]; rfl) cX_adr
        · refine z_aload_n hC dX5_number_20 rfl ?_
          refine z_bipush (v := 48) hC dX5_number_21 (by decide) ?_
          refine z_bipush (v := 57) hC dX5_number_23 (by decide) ?_
          refine z_callV [0, 1, 2, 3] 0 5 hC (c_X5_isHere l D ct q κ t (pn) o w ht ht8 (by omega) 48 57) bw_504 bw_505 bw_506 bw_5 bw_507 2 (by decide +kernel) rfl rfl rfl rfl rfl ⟨Nat.le_of_ble_eq_true rfl, Nat.le_of_ble_eq_true rfl⟩ (Nat.le_of_ble_eq_true rfl) ⟨Nat.le_of_ble_eq_true rfl, Nat.le_of_ble_eq_true rfl⟩ rfl dX5_number_25 ?_
          refine zkd (G := fun v1 w1 => zG p l e _ s m args below meth c D _ _ _ _ _ _ _ (v1.toList ++ _) w1) (w2 := cX q κ (pn) o w ct) cX_all ?_
          refine z_if_eq hC 83 dX5_number_28 (by decide) (fun c28 => ?_) (fun c28 => ?_)
          · rw [bI_0] at c28
            refine z_iload_n hC dX5_number_83 rfl ?_
            exact z_iretd hC hr dX5_number_84 (Nat.zero_le _) (Nat.zero_le _) (by rw [← hF]; rfl) (by rw [← hF]; rfl) cX_adr
          · rw [bI_1] at c28
            have hpt := xH_lt c28
            omega
      | succ kf ih =>
        intro pn v hki hpn hF
        refine z_iload_n hC dX5_number_16 rfl ?_
        refine z_if_le hC 83 dX5_number_17 (by decide) (fun c17 => ?_) (fun c17 => ?_)
        · refine z_iload_n hC dX5_number_83 rfl ?_
          exact z_iretd hC hr dX5_number_84 (Nat.zero_le _) (Nat.zero_le _) (by rw [← hF, xNL, if_neg (fun h => absurd h.1 (i_nlt.mpr c17))]) (by rw [← hF, xNL, if_neg (fun h => absurd h.1 (i_nlt.mpr c17))]) cX_adr
        · refine z_aload_n hC dX5_number_20 rfl ?_
          refine z_bipush (v := 48) hC dX5_number_21 (by decide) ?_
          refine z_bipush (v := 57) hC dX5_number_23 (by decide) ?_
          refine z_callV [0, 1, 2, 3] 0 5 hC (c_X5_isHere l D ct q κ t (pn) o w ht ht8 (by omega) 48 57) bw_504 bw_505 bw_506 bw_5 bw_507 2 (by decide +kernel) rfl rfl rfl rfl rfl ⟨Nat.le_of_ble_eq_true rfl, Nat.le_of_ble_eq_true rfl⟩ (Nat.le_of_ble_eq_true rfl) ⟨Nat.le_of_ble_eq_true rfl, Nat.le_of_ble_eq_true rfl⟩ rfl dX5_number_25 ?_
          refine zkd (G := fun v1 w1 => zG p l e _ s m args below meth c D _ _ _ _ _ _ _ (v1.toList ++ _) w1) (w2 := cX q κ (pn) o w ct) cX_all ?_
          refine z_if_eq hC 83 dX5_number_28 (by decide) (fun c28 => ?_) (fun c28 => ?_)
          · rw [bI_0] at c28
            refine z_iload_n hC dX5_number_83 rfl ?_
            exact z_iretd hC hr dX5_number_84 (Nat.zero_le _) (Nat.zero_le _) (by rw [← hF, xNL, if_neg (fun h => absurd h.2.1 (by rw [c28]; decide))]) (by rw [← hF, xNL, if_neg (fun h => absurd h.2.1 (by rw [c28]; decide))]) cX_adr
          · rw [bI_1] at c28
            have hpt := xH_lt c28
            refine z_bipush (v := 10) hC dX5_number_31 (by decide) ?_
            refine z_iload_n hC dX5_number_33 rfl ?_
            refine z_imul hC dX5_number_34 ?_
            refine z_aload_n hC dX5_number_35 rfl ?_
            refine z_get 0 2 hC bl_X5 (ci := 5) rfl (by decide) rfl bw_68 rfl rfl dX5_number_36 ?_
            refine z_aload_n hC dX5_number_39 rfl ?_
            refine z_get 0 6 hC bl_X5 (ci := 5) rfl (by decide) rfl bw_489 rfl rfl dX5_number_40 ?_
            refine z_caldN (pn) 2 2 hC rfl rfl (by decide) (by omega) dX5_number_43 ?_
            refine z_iadd hC dX5_number_44 ?_
            refine z_bipush (v := 48) hC dX5_number_45 (by decide) ?_
            refine z_isub hC dX5_number_47 ?_
            refine z_iload_n hC dX5_number_48 rfl ?_
            refine z_icmp_gt hC 83 dX5_number_49 (by decide) (fun c49 => ?_) (fun c49 => ?_)
            · refine z_iload_n hC dX5_number_83 rfl ?_
              exact z_iretd hC hr dX5_number_84 (Nat.zero_le _) (Nat.zero_le _) (by rw [← hF, xNL, if_neg (fun h => absurd h.2.2 (i_nle.mpr c49))]) (by rw [← hF, xNL, if_neg (fun h => absurd h.2.2 (i_nle.mpr c49))]) cX_adr
            · refine z_bipush (v := 10) hC dX5_number_52 (by decide) ?_
              refine z_iload_n hC dX5_number_54 rfl ?_
              refine z_imul hC dX5_number_55 ?_
              refine z_aload_n hC dX5_number_56 rfl ?_
              refine z_get 0 2 hC bl_X5 (ci := 5) rfl (by decide) rfl bw_68 rfl rfl dX5_number_57 ?_
              refine z_aload_n hC dX5_number_60 rfl ?_
              refine z_get 0 6 hC bl_X5 (ci := 5) rfl (by decide) rfl bw_489 rfl rfl dX5_number_61 ?_
              refine z_caldN (pn) 2 2 hC rfl rfl (by decide) (by omega) dX5_number_64 ?_
              refine z_iadd hC dX5_number_65 ?_
              refine z_bipush (v := 48) hC dX5_number_66 (by decide) ?_
              refine z_isub hC dX5_number_68 ?_
              refine z_istore_n hC dX5_number_69 (by decide) rfl ?_
              refine z_aload_n hC dX5_number_70 rfl ?_
              refine z_dup hC dX5_number_71 rfl ?_
              refine z_get 0 6 hC bl_X5 (ci := 5) rfl (by decide) rfl bw_489 rfl rfl dX5_number_72 ?_
              refine z_iconst (v := 1) hC dX5_number_75 (by decide) ?_
              refine z_iaddN (pn) (1) hC dX5_number_76 ?_
              refine z_put (ci := 5) 0 6 hC bl_X5 tyX5_ok nmX5 rfl (by decide) rfl bw_489 rfl rfl rfl rfl (Nat.lt_of_lt_of_le (by decide) (Nat.le_refl 9)) dX5_number_77 (w2 := cX q κ (pn + 1) o w ct) cX_f3 ?_
              refine z_goto hC 16 dX5_number_80 (by decide) ?_
              exact ih (pn + 1) (((10 * v) + (κ 2 pn)) - 48) (by omega) (by omega) (by rw [← hF, xNL, if_pos ⟨i_nle.mp c17, c28, i_nlt.mp c49⟩])
    exact loop16 t _ _ (Nat.le_add_right _ _) (by assumption) (by rw [xN, if_neg c2])
  · refine z_bipush (v := 48) hC dX5_number_5 (by decide) ?_
    refine z_goto hC 12 dX5_number_7 (by decide) ?_
    refine z_callV [0, 1, 2, 3] 0 5 hC (c_X5_digit l D ct q κ t (p0) o w ht ht8 (by omega) 48 (by decide)) bw_500 bw_501 bw_502 bw_5 bw_503 1 (by decide +kernel) rfl rfl rfl rfl rfl ⟨Nat.le_of_ble_eq_true rfl, Nat.le_of_ble_eq_true rfl⟩ (Nat.le_of_ble_eq_true rfl) ⟨Nat.le_of_ble_eq_true rfl, Nat.le_of_ble_eq_true rfl⟩ rfl dX5_number_12 ?_
    refine zkd (G := fun v1 w1 => zG p l e _ s m args below meth c D _ _ _ _ _ _ _ (v1.toList ++ _) w1) (w2 := cX q κ ((xD (κ 2) t p0 48).2) o w ct) cX_all ?_
    have hpd2 : (xD (κ 2) t p0 48).2 ≤ 81 := xD_le (M := 81) (by omega) (by omega)
    refine z_istore_n hC dX5_number_15 (by decide) rfl ?_
    have loop16 : ∀ (kf pn : Nat) (v : Int32) (hki : t ≤ kf + pn) (hpn : pn ≤ 81) (hF : xNL (κ 2) t g0 kf v pn = xN (κ 2) t p0 l0 g0), zG p l e { frames := 3, cells := 0, slots := 0, locals := 66 } s m args below meth c D (va_A (cX q κ (p0) o w ct) s.heap.size) 4 (MQ below (zQ D ct (cX q κ (p0) o w ct) s.heap.size (zd (some (.int (xN (κ 2) t p0 l0 g0).1)) (cX q κ (xN (κ 2) t p0 l0 g0).2 o w ct))) args s 0 0 (va_A (cX q κ (p0) o w ct) s.heap.size)) 0 0 16 [some (.ref (q 0)), some (.int l0), some (.int g0), some (.int v)] [] (cX q κ (pn) o w ct) := by
      intro kf
      induction kf with
      | zero =>
        intro pn v hki hpn hF
        refine z_iload_n hC dX5_number_16 rfl ?_
        refine z_if_le hC 83 dX5_number_17 (by decide) (fun c17 => ?_) (fun c17 => ?_)
        · refine z_iload_n hC dX5_number_83 rfl ?_
          exact z_iretd hC hr dX5_number_84 (Nat.zero_le _) (Nat.zero_le _) (by rw [← hF]; rfl) (by rw [← hF]; rfl) cX_adr
        · refine z_aload_n hC dX5_number_20 rfl ?_
          refine z_bipush (v := 48) hC dX5_number_21 (by decide) ?_
          refine z_bipush (v := 57) hC dX5_number_23 (by decide) ?_
          refine z_callV [0, 1, 2, 3] 0 5 hC (c_X5_isHere l D ct q κ t (pn) o w ht ht8 (by omega) 48 57) bw_504 bw_505 bw_506 bw_5 bw_507 2 (by decide +kernel) rfl rfl rfl rfl rfl ⟨Nat.le_of_ble_eq_true rfl, Nat.le_of_ble_eq_true rfl⟩ (Nat.le_of_ble_eq_true rfl) ⟨Nat.le_of_ble_eq_true rfl, Nat.le_of_ble_eq_true rfl⟩ rfl dX5_number_25 ?_
          refine zkd (G := fun v1 w1 => zG p l e _ s m args below meth c D _ _ _ _ _ _ _ (v1.toList ++ _) w1) (w2 := cX q κ (pn) o w ct) cX_all ?_
          refine z_if_eq hC 83 dX5_number_28 (by decide) (fun c28 => ?_) (fun c28 => ?_)
          · rw [bI_0] at c28
            refine z_iload_n hC dX5_number_83 rfl ?_
            exact z_iretd hC hr dX5_number_84 (Nat.zero_le _) (Nat.zero_le _) (by rw [← hF]; rfl) (by rw [← hF]; rfl) cX_adr
          · rw [bI_1] at c28
            have hpt := xH_lt c28
            omega
      | succ kf ih =>
        intro pn v hki hpn hF
        refine z_iload_n hC dX5_number_16 rfl ?_
        refine z_if_le hC 83 dX5_number_17 (by decide) (fun c17 => ?_) (fun c17 => ?_)
        · refine z_iload_n hC dX5_number_83 rfl ?_
          exact z_iretd hC hr dX5_number_84 (Nat.zero_le _) (Nat.zero_le _) (by rw [← hF, xNL, if_neg (fun h => absurd h.1 (i_nlt.mpr c17))]) (by rw [← hF, xNL, if_neg (fun h => absurd h.1 (i_nlt.mpr c17))]) cX_adr
        · refine z_aload_n hC dX5_number_20 rfl ?_
          refine z_bipush (v := 48) hC dX5_number_21 (by decide) ?_
          refine z_bipush (v := 57) hC dX5_number_23 (by decide) ?_
          refine z_callV [0, 1, 2, 3] 0 5 hC (c_X5_isHere l D ct q κ t (pn) o w ht ht8 (by omega) 48 57) bw_504 bw_505 bw_506 bw_5 bw_507 2 (by decide +kernel) rfl rfl rfl rfl rfl ⟨Nat.le_of_ble_eq_true rfl, Nat.le_of_ble_eq_true rfl⟩ (Nat.le_of_ble_eq_true rfl) ⟨Nat.le_of_ble_eq_true rfl, Nat.le_of_ble_eq_true rfl⟩ rfl dX5_number_25 ?_
          refine zkd (G := fun v1 w1 => zG p l e _ s m args below meth c D _ _ _ _ _ _ _ (v1.toList ++ _) w1) (w2 := cX q κ (pn) o w ct) cX_all ?_
          refine z_if_eq hC 83 dX5_number_28 (by decide) (fun c28 => ?_) (fun c28 => ?_)
          · rw [bI_0] at c28
            refine z_iload_n hC dX5_number_83 rfl ?_
            exact z_iretd hC hr dX5_number_84 (Nat.zero_le _) (Nat.zero_le _) (by rw [← hF, xNL, if_neg (fun h => absurd h.2.1 (by rw [c28]; decide))]) (by rw [← hF, xNL, if_neg (fun h => absurd h.2.1 (by rw [c28]; decide))]) cX_adr
          · rw [bI_1] at c28
            have hpt := xH_lt c28
            refine z_bipush (v := 10) hC dX5_number_31 (by decide) ?_
            refine z_iload_n hC dX5_number_33 rfl ?_
            refine z_imul hC dX5_number_34 ?_
            refine z_aload_n hC dX5_number_35 rfl ?_
            refine z_get 0 2 hC bl_X5 (ci := 5) rfl (by decide) rfl bw_68 rfl rfl dX5_number_36 ?_
            refine z_aload_n hC dX5_number_39 rfl ?_
            refine z_get 0 6 hC bl_X5 (ci := 5) rfl (by decide) rfl bw_489 rfl rfl dX5_number_40 ?_
            refine z_caldN (pn) 2 2 hC rfl rfl (by decide) (by omega) dX5_number_43 ?_
            refine z_iadd hC dX5_number_44 ?_
            refine z_bipush (v := 48) hC dX5_number_45 (by decide) ?_
            refine z_isub hC dX5_number_47 ?_
            refine z_iload_n hC dX5_number_48 rfl ?_
            refine z_icmp_gt hC 83 dX5_number_49 (by decide) (fun c49 => ?_) (fun c49 => ?_)
            · refine z_iload_n hC dX5_number_83 rfl ?_
              exact z_iretd hC hr dX5_number_84 (Nat.zero_le _) (Nat.zero_le _) (by rw [← hF, xNL, if_neg (fun h => absurd h.2.2 (i_nle.mpr c49))]) (by rw [← hF, xNL, if_neg (fun h => absurd h.2.2 (i_nle.mpr c49))]) cX_adr
            · refine z_bipush (v := 10) hC dX5_number_52 (by decide) ?_
              refine z_iload_n hC dX5_number_54 rfl ?_
              refine z_imul hC dX5_number_55 ?_
              refine z_aload_n hC dX5_number_56 rfl ?_
              refine z_get 0 2 hC bl_X5 (ci := 5) rfl (by decide) rfl bw_68 rfl rfl dX5_number_57 ?_
              refine z_aload_n hC dX5_number_60 rfl ?_
              refine z_get 0 6 hC bl_X5 (ci := 5) rfl (by decide) rfl bw_489 rfl rfl dX5_number_61 ?_
              refine z_caldN (pn) 2 2 hC rfl rfl (by decide) (by omega) dX5_number_64 ?_
              refine z_iadd hC dX5_number_65 ?_
              refine z_bipush (v := 48) hC dX5_number_66 (by decide) ?_
              refine z_isub hC dX5_number_68 ?_
              refine z_istore_n hC dX5_number_69 (by decide) rfl ?_
              refine z_aload_n hC dX5_number_70 rfl ?_
              refine z_dup hC dX5_number_71 rfl ?_
              refine z_get 0 6 hC bl_X5 (ci := 5) rfl (by decide) rfl bw_489 rfl rfl dX5_number_72 ?_
              refine z_iconst (v := 1) hC dX5_number_75 (by decide) ?_
              refine z_iaddN (pn) (1) hC dX5_number_76 ?_
              refine z_put (ci := 5) 0 6 hC bl_X5 tyX5_ok nmX5 rfl (by decide) rfl bw_489 rfl rfl rfl rfl (Nat.lt_of_lt_of_le (by decide) (Nat.le_refl 9)) dX5_number_77 (w2 := cX q κ (pn + 1) o w ct) cX_f3 ?_
              refine z_goto hC 16 dX5_number_80 (by decide) ?_
              exact ih (pn + 1) (((10 * v) + (κ 2 pn)) - 48) (by omega) (by omega) (by rw [← hF, xNL, if_pos ⟨i_nle.mp c17, c28, i_nlt.mp c49⟩])
    exact loop16 t _ _ (Nat.le_add_right _ _) (by assumption) (by rw [xN, if_pos c2])

set_option maxRecDepth 100000 in
set_option maxHeartbeats 1000000 in
theorem c_X5_readsLink (l : Launch) (D : va_G) (ct : Nat → ClassId) (q : Nat → Nat) (κ : Nat → Nat → Int32) (t p0 : Nat) (o w : Int32) (ht : κ 0 1 = nI t) (ht8 : t ≤ 80) (hp : p0 ≤ 81) (E : Bool × Nat × Int32 × Int32) (hE : xRL (κ 2) t p0 w = E) : zT l D ct yX5_readsLink cX5_readsLink 1 (some .boolean) 3 66 0 0 [.ref (q 0)] (cX q κ (p0) o w ct) (zd (some (.int (bI E.1))) (cX q κ E.2.1 E.2.2.1 E.2.2.2 ct)) := by
  refine zT_of ([some (.ref (q 0))]) (by decide +kernel) rfl (Nat.le_of_ble_eq_true rfl) ?_
  intro p e s m args below meth c hC hr hnm
  refine z_aload_n hC dX5_readsLink_0 rfl ?_
  refine z_aload_n hC dX5_readsLink_1 rfl ?_
  refine z_bipush (v := 48) hC dX5_readsLink_2 (by decide) ?_
  refine z_callV [0, 1, 2, 3] 0 5 hC (c_X5_digit l D ct q κ t (p0) o w ht ht8 (by omega) 48 (by decide)) bw_500 bw_501 bw_502 bw_5 bw_503 1 (by decide +kernel) rfl rfl rfl rfl rfl ⟨Nat.le_of_ble_eq_true rfl, Nat.le_of_ble_eq_true rfl⟩ (Nat.le_of_ble_eq_true rfl) ⟨Nat.le_of_ble_eq_true rfl, Nat.le_of_ble_eq_true rfl⟩ rfl dX5_readsLink_4 ?_
  refine zkd (G := fun v1 w1 => zG p l e _ s m args below meth c D _ _ _ _ _ _ _ (v1.toList ++ _) w1) (w2 := cX q κ ((xD (κ 2) t p0 48).2) o w ct) cX_all ?_
  have hpd1 : (xD (κ 2) t p0 48).2 ≤ 81 := xD_le (M := 81) (by omega) (by omega)
  refine z_put (ci := 5) 0 7 hC bl_X5 tyX5_ok nmX5 rfl (by decide) rfl bw_494 rfl rfl rfl rfl (Nat.lt_of_lt_of_le (by decide) (Nat.le_refl 9)) dX5_readsLink_7 (w2 := cX q κ ((xD (κ 2) t p0 48).2) ((xD (κ 2) t p0 48).1) w ct) cX_f4 ?_
  refine z_aload_n hC dX5_readsLink_10 rfl ?_
  refine z_get 0 7 hC bl_X5 (ci := 5) rfl (by decide) rfl bw_494 rfl rfl dX5_readsLink_11 ?_
  refine z_iconst (v := (-1)) hC dX5_readsLink_14 (by decide) ?_
  refine z_icmp_eq hC 48 dX5_readsLink_15 (by decide) (fun c15 => ?_) (fun c15 => ?_)
  · refine z_iconst (v := 0) hC dX5_readsLink_48 (by decide) ?_
    exact z_zretd hC hr (rfl) dX5_readsLink_49 (Nat.zero_le _) (Nat.zero_le _) (by rw [← hE]; simp [xRL, bI, c15]) (by rw [← hE]; simp [xRL, c15]) cX_adr
  · refine z_aload_n hC dX5_readsLink_18 rfl ?_
    refine z_get 0 6 hC bl_X5 (ci := 5) rfl (by decide) rfl bw_489 rfl rfl dX5_readsLink_19 ?_
    refine z_aload_n hC dX5_readsLink_22 rfl ?_
    refine z_get 0 3 hC bl_X5 (ci := 5) rfl (by decide) rfl bw_432 rfl rfl dX5_readsLink_23 ?_
    refine z_top (y := nI (t)) (ht) ?_
    refine z_icmp_ge hC 50 dX5_readsLink_26 (by decide) (fun c26 => ?_) (fun c26 => ?_)
    · replace c26 := (nI_leI (a := t) (b := (xD (κ 2) t p0 48).2) (by omega) (by omega)).mp c26
      refine z_aload_n hC dX5_readsLink_50 rfl ?_
      refine z_aload_n hC dX5_readsLink_51 rfl ?_
      refine z_bipush (v := 48) hC dX5_readsLink_52 (by decide) ?_
      refine z_callV [0, 1, 2, 3] 0 5 hC (c_X5_digit l D ct q κ t ((xD (κ 2) t p0 48).2) ((xD (κ 2) t p0 48).1) w ht ht8 (by omega) 48 (by decide)) bw_500 bw_501 bw_502 bw_5 bw_503 1 (by decide +kernel) rfl rfl rfl rfl rfl ⟨Nat.le_of_ble_eq_true rfl, Nat.le_of_ble_eq_true rfl⟩ (Nat.le_of_ble_eq_true rfl) ⟨Nat.le_of_ble_eq_true rfl, Nat.le_of_ble_eq_true rfl⟩ rfl dX5_readsLink_54 ?_
      refine zkd (G := fun v1 w1 => zG p l e _ s m args below meth c D _ _ _ _ _ _ _ (v1.toList ++ _) w1) (w2 := cX q κ ((xD (κ 2) t ((xD (κ 2) t p0 48).2) 48).2) ((xD (κ 2) t p0 48).1) w ct) cX_all ?_
      have hpd2 : (xD (κ 2) t ((xD (κ 2) t p0 48).2) 48).2 ≤ 81 := xD_le (M := 81) (by omega) (by omega)
      refine z_put (ci := 5) 0 8 hC bl_X5 tyX5_ok nmX5 rfl (by decide) rfl bw_499 rfl rfl rfl rfl (Nat.lt_of_lt_of_le (by decide) (Nat.le_refl 9)) dX5_readsLink_57 (w2 := cX q κ ((xD (κ 2) t ((xD (κ 2) t p0 48).2) 48).2) ((xD (κ 2) t p0 48).1) ((xD (κ 2) t ((xD (κ 2) t p0 48).2) 48).1) ct) cX_f5 ?_
      refine z_aload_n hC dX5_readsLink_60 rfl ?_
      refine z_get 0 8 hC bl_X5 (ci := 5) rfl (by decide) rfl bw_499 rfl rfl dX5_readsLink_61 ?_
      refine z_iconst (v := (-1)) hC dX5_readsLink_64 (by decide) ?_
      refine z_icmp_eq hC 72 dX5_readsLink_65 (by decide) (fun c65 => ?_) (fun c65 => ?_)
      · refine z_iconst (v := 0) hC dX5_readsLink_72 (by decide) ?_
        exact z_zretd hC hr (rfl) dX5_readsLink_73 (Nat.zero_le _) (Nat.zero_le _) (by rw [← hE]; simp [xRL, bI, c15, c26, c65, Nat.not_lt.mpr c26]) (by rw [← hE]; simp [xRL, c15, c26, c65, Nat.not_lt.mpr c26]) cX_adr
      · refine z_iconst (v := 1) hC dX5_readsLink_68 (by decide) ?_
        refine z_goto hC 73 dX5_readsLink_69 (by decide) ?_
        exact z_zretd hC hr (rfl) dX5_readsLink_73 (Nat.zero_le _) (Nat.zero_le _) (by rw [← hE]; simp [xRL, bI, c15, c26, c65, Nat.not_lt.mpr c26]) (by rw [← hE]; simp [xRL, c15, c26, c65, Nat.not_lt.mpr c26]) cX_adr
    · replace c26 := (nI_nleI (a := t) (b := (xD (κ 2) t p0 48).2) (by omega) (by omega)).mp c26
      refine z_aload_n hC dX5_readsLink_29 rfl ?_
      refine z_get 0 2 hC bl_X5 (ci := 5) rfl (by decide) rfl bw_68 rfl rfl dX5_readsLink_30 ?_
      refine z_aload_n hC dX5_readsLink_33 rfl ?_
      refine z_get 0 6 hC bl_X5 (ci := 5) rfl (by decide) rfl bw_489 rfl rfl dX5_readsLink_34 ?_
      refine z_caldN ((xD (κ 2) t p0 48).2) 2 2 hC rfl rfl (by decide) (by omega) dX5_readsLink_37 ?_
      refine z_bipush (v := 48) hC dX5_readsLink_38 (by decide) ?_
      refine z_isub hC dX5_readsLink_40 ?_
      refine z_aload_n hC dX5_readsLink_41 rfl ?_
      refine z_get 0 7 hC bl_X5 (ci := 5) rfl (by decide) rfl bw_494 rfl rfl dX5_readsLink_42 ?_
      refine z_icmp_ne hC 50 dX5_readsLink_45 (by decide) (fun c45 => ?_) (fun c45 => ?_)
      · refine z_aload_n hC dX5_readsLink_50 rfl ?_
        refine z_aload_n hC dX5_readsLink_51 rfl ?_
        refine z_bipush (v := 48) hC dX5_readsLink_52 (by decide) ?_
        refine z_callV [0, 1, 2, 3] 0 5 hC (c_X5_digit l D ct q κ t ((xD (κ 2) t p0 48).2) ((xD (κ 2) t p0 48).1) w ht ht8 (by omega) 48 (by decide)) bw_500 bw_501 bw_502 bw_5 bw_503 1 (by decide +kernel) rfl rfl rfl rfl rfl ⟨Nat.le_of_ble_eq_true rfl, Nat.le_of_ble_eq_true rfl⟩ (Nat.le_of_ble_eq_true rfl) ⟨Nat.le_of_ble_eq_true rfl, Nat.le_of_ble_eq_true rfl⟩ rfl dX5_readsLink_54 ?_
        refine zkd (G := fun v1 w1 => zG p l e _ s m args below meth c D _ _ _ _ _ _ _ (v1.toList ++ _) w1) (w2 := cX q κ ((xD (κ 2) t ((xD (κ 2) t p0 48).2) 48).2) ((xD (κ 2) t p0 48).1) w ct) cX_all ?_
        have hpd3 : (xD (κ 2) t ((xD (κ 2) t p0 48).2) 48).2 ≤ 81 := xD_le (M := 81) (by omega) (by omega)
        refine z_put (ci := 5) 0 8 hC bl_X5 tyX5_ok nmX5 rfl (by decide) rfl bw_499 rfl rfl rfl rfl (Nat.lt_of_lt_of_le (by decide) (Nat.le_refl 9)) dX5_readsLink_57 (w2 := cX q κ ((xD (κ 2) t ((xD (κ 2) t p0 48).2) 48).2) ((xD (κ 2) t p0 48).1) ((xD (κ 2) t ((xD (κ 2) t p0 48).2) 48).1) ct) cX_f5 ?_
        refine z_aload_n hC dX5_readsLink_60 rfl ?_
        refine z_get 0 8 hC bl_X5 (ci := 5) rfl (by decide) rfl bw_499 rfl rfl dX5_readsLink_61 ?_
        refine z_iconst (v := (-1)) hC dX5_readsLink_64 (by decide) ?_
        refine z_icmp_eq hC 72 dX5_readsLink_65 (by decide) (fun c65 => ?_) (fun c65 => ?_)
        · refine z_iconst (v := 0) hC dX5_readsLink_72 (by decide) ?_
          exact z_zretd hC hr (rfl) dX5_readsLink_73 (Nat.zero_le _) (Nat.zero_le _) (by rw [← hE]; simp [xRL, bI, c15, c26, c45, c65]) (by rw [← hE]; simp [xRL, c15, c26, c45, c65]) cX_adr
        · refine z_iconst (v := 1) hC dX5_readsLink_68 (by decide) ?_
          refine z_goto hC 73 dX5_readsLink_69 (by decide) ?_
          exact z_zretd hC hr (rfl) dX5_readsLink_73 (Nat.zero_le _) (Nat.zero_le _) (by rw [← hE]; simp [xRL, bI, c15, c26, c45, c65]) (by rw [← hE]; simp [xRL, c15, c26, c45, c65]) cX_adr
      · refine z_iconst (v := 0) hC dX5_readsLink_48 (by decide) ?_
        exact z_zretd hC hr (rfl) dX5_readsLink_49 (Nat.zero_le _) (Nat.zero_le _) (by rw [← hE]; simp [xRL, bI, c15, c26, c45]) (by rw [← hE]; simp [xRL, c15, c26, c45]) cX_adr

set_option maxRecDepth 100000 in
set_option maxHeartbeats 1000000 in
theorem c_X5_readsTake (l : Launch) (D : va_G) (ct : Nat → ClassId) (q : Nat → Nat) (κ : Nat → Nat → Int32) (t p0 : Nat) (o w : Int32) (ht : κ 0 1 = nI t) (ht8 : t ≤ 80) (hp : p0 ≤ 81) (E : Bool × Nat × Int32 × Int32) (hE : xRT (κ 2) t p0 w = E) : zT l D ct yX5_readsTake cX5_readsTake 1 (some .boolean) 4 89 0 0 [.ref (q 0)] (cX q κ (p0) o w ct) (zd (some (.int (bI E.1))) (cX q κ E.2.1 E.2.2.1 E.2.2.2 ct)) := by
  refine zT_of ([some (.ref (q 0))]) (by decide +kernel) rfl (Nat.le_of_ble_eq_true rfl) ?_
  intro p e s m args below meth c hC hr hnm
  refine z_aload_n hC dX5_readsTake_0 rfl ?_
  refine z_aload_n hC dX5_readsTake_1 rfl ?_
  refine z_bipush (v := 49) hC dX5_readsTake_2 (by decide) ?_
  refine z_callV [0, 1, 2, 3] 0 5 hC (c_X5_digit l D ct q κ t (p0) o w ht ht8 (by omega) 49 (by decide)) bw_500 bw_501 bw_502 bw_5 bw_503 1 (by decide +kernel) rfl rfl rfl rfl rfl ⟨Nat.le_of_ble_eq_true rfl, Nat.le_of_ble_eq_true rfl⟩ (Nat.le_of_ble_eq_true rfl) ⟨Nat.le_of_ble_eq_true rfl, Nat.le_of_ble_eq_true rfl⟩ rfl dX5_readsTake_4 ?_
  refine zkd (G := fun v1 w1 => zG p l e _ s m args below meth c D _ _ _ _ _ _ _ (v1.toList ++ _) w1) (w2 := cX q κ ((xD (κ 2) t p0 49).2) o w ct) cX_all ?_
  have hpd1 : (xD (κ 2) t p0 49).2 ≤ 81 := xD_le (M := 81) (by omega) (by omega)
  refine z_put (ci := 5) 0 7 hC bl_X5 tyX5_ok nmX5 rfl (by decide) rfl bw_494 rfl rfl rfl rfl (Nat.lt_of_lt_of_le (by decide) (Nat.le_refl 9)) dX5_readsTake_7 (w2 := cX q κ ((xD (κ 2) t p0 49).2) ((xD (κ 2) t p0 49).1) w ct) cX_f4 ?_
  refine z_aload_n hC dX5_readsTake_10 rfl ?_
  refine z_get 0 7 hC bl_X5 (ci := 5) rfl (by decide) rfl bw_494 rfl rfl dX5_readsTake_11 ?_
  refine z_iconst (v := (-1)) hC dX5_readsTake_14 (by decide) ?_
  refine z_icmp_eq hC 29 dX5_readsTake_15 (by decide) (fun c15 => ?_) (fun c15 => ?_)
  · refine z_iconst (v := 0) hC dX5_readsTake_29 (by decide) ?_
    exact z_zretd hC hr (rfl) dX5_readsTake_30 (Nat.zero_le _) (Nat.zero_le _) (by rw [← hE]; simp [xRT, bI, c15]) (by rw [← hE]; simp [xRT, c15]) cX_adr
  · refine z_aload_n hC dX5_readsTake_18 rfl ?_
    refine z_bipush (v := 44) hC dX5_readsTake_19 (by decide) ?_
    refine z_bipush (v := 44) hC dX5_readsTake_21 (by decide) ?_
    refine z_callV [0, 1, 2, 3] 0 5 hC (c_X5_isHere l D ct q κ t ((xD (κ 2) t p0 49).2) ((xD (κ 2) t p0 49).1) w ht ht8 (by omega) 44 44) bw_504 bw_505 bw_506 bw_5 bw_507 2 (by decide +kernel) rfl rfl rfl rfl rfl ⟨Nat.le_of_ble_eq_true rfl, Nat.le_of_ble_eq_true rfl⟩ (Nat.le_of_ble_eq_true rfl) ⟨Nat.le_of_ble_eq_true rfl, Nat.le_of_ble_eq_true rfl⟩ rfl dX5_readsTake_23 ?_
    refine zkd (G := fun v1 w1 => zG p l e _ s m args below meth c D _ _ _ _ _ _ _ (v1.toList ++ _) w1) (w2 := cX q κ ((xD (κ 2) t p0 49).2) ((xD (κ 2) t p0 49).1) w ct) cX_all ?_
    refine z_if_ne hC 31 dX5_readsTake_26 (by decide) (fun c26 => ?_) (fun c26 => ?_)
    · rw [bI_1] at c26
      have hpt := xH_lt c26
      refine z_aload_n hC dX5_readsTake_31 rfl ?_
      refine z_dup hC dX5_readsTake_32 rfl ?_
      refine z_get 0 6 hC bl_X5 (ci := 5) rfl (by decide) rfl bw_489 rfl rfl dX5_readsTake_33 ?_
      refine z_iconst (v := 1) hC dX5_readsTake_36 (by decide) ?_
      refine z_iaddN ((xD (κ 2) t p0 49).2) (1) hC dX5_readsTake_37 ?_
      refine z_put (ci := 5) 0 6 hC bl_X5 tyX5_ok nmX5 rfl (by decide) rfl bw_489 rfl rfl rfl rfl (Nat.lt_of_lt_of_le (by decide) (Nat.le_refl 9)) dX5_readsTake_38 (w2 := cX q κ ((xD (κ 2) t p0 49).2 + 1) ((xD (κ 2) t p0 49).1) w ct) cX_f3 ?_
      refine z_aload_n hC dX5_readsTake_41 rfl ?_
      refine z_aload_n hC dX5_readsTake_42 rfl ?_
      refine z_iconst (v := 0) hC dX5_readsTake_43 (by decide) ?_
      refine z_sipush (v := 999) hC dX5_readsTake_44 (by decide) ?_
      refine z_callV [0, 1, 2, 3] 0 5 hC (c_X5_number l D ct q κ t ((xD (κ 2) t p0 49).2 + 1) ((xD (κ 2) t p0 49).1) w ht ht8 (by omega) 0 999) bw_512 bw_513 bw_514 bw_5 bw_515 2 (by decide +kernel) rfl rfl rfl rfl rfl ⟨Nat.le_of_ble_eq_true rfl, Nat.le_of_ble_eq_true rfl⟩ (Nat.le_of_ble_eq_true rfl) ⟨Nat.le_of_ble_eq_true rfl, Nat.le_of_ble_eq_true rfl⟩ rfl dX5_readsTake_47 ?_
      refine zkd (G := fun v1 w1 => zG p l e _ s m args below meth c D _ _ _ _ _ _ _ (v1.toList ++ _) w1) (w2 := cX q κ ((xN (κ 2) t ((xD (κ 2) t p0 49).2 + 1) 0 999).2) ((xD (κ 2) t p0 49).1) w ct) cX_all ?_
      have hpd2 : (xN (κ 2) t ((xD (κ 2) t p0 49).2 + 1) 0 999).2 ≤ 81 := xN_le (M := 81) (by omega) (by omega)
      refine z_put (ci := 5) 0 8 hC bl_X5 tyX5_ok nmX5 rfl (by decide) rfl bw_499 rfl rfl rfl rfl (Nat.lt_of_lt_of_le (by decide) (Nat.le_refl 9)) dX5_readsTake_50 (w2 := cX q κ ((xN (κ 2) t ((xD (κ 2) t p0 49).2 + 1) 0 999).2) ((xD (κ 2) t p0 49).1) ((xN (κ 2) t ((xD (κ 2) t p0 49).2 + 1) 0 999).1) ct) cX_f5 ?_
      refine z_aload_n hC dX5_readsTake_53 rfl ?_
      refine z_get 0 8 hC bl_X5 (ci := 5) rfl (by decide) rfl bw_499 rfl rfl dX5_readsTake_54 ?_
      refine z_iconst (v := (-1)) hC dX5_readsTake_57 (by decide) ?_
      refine z_icmp_eq hC 65 dX5_readsTake_58 (by decide) (fun c58 => ?_) (fun c58 => ?_)
      · refine z_iconst (v := 0) hC dX5_readsTake_65 (by decide) ?_
        exact z_zretd hC hr (rfl) dX5_readsTake_66 (Nat.zero_le _) (Nat.zero_le _) (by rw [← hE]; simp [xRT, bI, c15, c26, c58]) (by rw [← hE]; simp [xRT, c15, c26, c58]) cX_adr
      · refine z_iconst (v := 1) hC dX5_readsTake_61 (by decide) ?_
        refine z_goto hC 66 dX5_readsTake_62 (by decide) ?_
        exact z_zretd hC hr (rfl) dX5_readsTake_66 (Nat.zero_le _) (Nat.zero_le _) (by rw [← hE]; simp [xRT, bI, c15, c26, c58]) (by rw [← hE]; simp [xRT, c15, c26, c58]) cX_adr
    · rw [bI_0] at c26
      refine z_iconst (v := 0) hC dX5_readsTake_29 (by decide) ?_
      exact z_zretd hC hr (rfl) dX5_readsTake_30 (Nat.zero_le _) (Nat.zero_le _) (by rw [← hE]; simp [xRT, bI, c15, c26]) (by rw [← hE]; simp [xRT, c15, c26]) cX_adr

set_option maxRecDepth 100000 in
set_option maxHeartbeats 1000000 in
theorem c_X5_command (l : Launch) (D : va_G) (ct : Nat → ClassId) (q : Nat → Nat) (κ : Nat → Nat → Int32) (t p0 : Nat) (o w : Int32) (ht : κ 0 1 = nI t) (ht8 : t ≤ 80) (hp : p0 ≤ 80) (E : Int32 × Nat × Int32 × Int32) (hE : xC (κ 2) t p0 o w = E) : zT l D ct yX5_command cX5_command 2 (some .char) 5 109 0 0 [.ref (q 0)] (cX q κ (p0) o w ct) (zd (some (.int E.1)) (cX q κ E.2.1 E.2.2.1 E.2.2.2 ct)) := by
  refine zT_of ([some (.ref (q 0)), none]) (by decide +kernel) rfl (Nat.le_of_ble_eq_true rfl) ?_
  intro p e s m args below meth c hC hr hnm
  refine z_aload_n hC dX5_command_0 rfl ?_
  refine z_get 0 6 hC bl_X5 (ci := 5) rfl (by decide) rfl bw_489 rfl rfl dX5_command_1 ?_
  refine z_aload_n hC dX5_command_4 rfl ?_
  refine z_get 0 3 hC bl_X5 (ci := 5) rfl (by decide) rfl bw_432 rfl rfl dX5_command_5 ?_
  refine z_top (y := nI (t)) (ht) ?_
  refine z_icmp_ge hC 23 dX5_command_8 (by decide) (fun c8 => ?_) (fun c8 => ?_)
  · replace c8 := (nI_leI (a := t) (b := p0) (by omega) (by omega)).mp c8
    refine z_bipush (v := 32) hC dX5_command_23 (by decide) ?_
    skip
    refine z_istore_n hC dX5_command_25 (by decide) rfl ?_
    refine z_aload_n hC dX5_command_26 rfl ?_
    refine z_dup hC dX5_command_27 rfl ?_
    refine z_get 0 6 hC bl_X5 (ci := 5) rfl (by decide) rfl bw_489 rfl rfl dX5_command_28 ?_
    refine z_iconst (v := 1) hC dX5_command_31 (by decide) ?_
    refine z_iaddN (p0) (1) hC dX5_command_32 ?_
    refine z_put (ci := 5) 0 6 hC bl_X5 tyX5_ok nmX5 rfl (by decide) rfl bw_489 rfl rfl rfl rfl (Nat.lt_of_lt_of_le (by decide) (Nat.le_refl 9)) dX5_command_33 (w2 := cX q κ (p0 + 1) o w ct) cX_f3 ?_
    refine z_iload_n hC dX5_command_36 rfl ?_
    refine z_lookup (off := 130) hC 167 dX5_command_37 (by decide) (by decide) (by decide) ?_
    refine z_aload_n hC dX5_command_167 rfl ?_
    refine z_dup hC dX5_command_168 rfl ?_
    refine z_get 0 6 hC bl_X5 (ci := 5) rfl (by decide) rfl bw_489 rfl rfl dX5_command_169 ?_
    refine z_iconst (v := 1) hC dX5_command_172 (by decide) ?_
    refine z_isubN (p0 + 1) (1) hC (by omega) dX5_command_173 ?_
    refine z_put (ci := 5) 0 6 hC bl_X5 tyX5_ok nmX5 rfl (by decide) rfl bw_489 rfl rfl rfl rfl (Nat.lt_of_lt_of_le (by decide) (Nat.le_refl 9)) dX5_command_174 (w2 := cX q κ (p0 + 1 - 1) o w ct) cX_f3 ?_
    refine z_bipush (v := 32) hC dX5_command_177 (by decide) ?_
    exact z_zretd hC hr (rfl) dX5_command_179 (Nat.zero_le _) (Nat.zero_le _) (by rw [← hE, xC, if_neg (Nat.not_lt.mpr c8)]; rfl) (by rw [← hE, xC, if_neg (Nat.not_lt.mpr c8)]; rfl) cX_adr
  · replace c8 := (nI_nleI (a := t) (b := p0) (by omega) (by omega)).mp c8
    refine z_aload_n hC dX5_command_11 rfl ?_
    refine z_get 0 2 hC bl_X5 (ci := 5) rfl (by decide) rfl bw_68 rfl rfl dX5_command_12 ?_
    refine z_aload_n hC dX5_command_15 rfl ?_
    refine z_get 0 6 hC bl_X5 (ci := 5) rfl (by decide) rfl bw_489 rfl rfl dX5_command_16 ?_
    refine z_caldN (p0) 2 2 hC rfl rfl (by decide) (by omega) dX5_command_19 ?_
    refine z_goto hC 25 dX5_command_20 (by decide) ?_
    obtain ⟨kk, ekk⟩ : ∃ zz_, zz_ = κ 2 p0 := ⟨_, rfl⟩
    rw [← ekk]
    refine z_istore_n hC dX5_command_25 (by decide) rfl ?_
    refine z_aload_n hC dX5_command_26 rfl ?_
    refine z_dup hC dX5_command_27 rfl ?_
    refine z_get 0 6 hC bl_X5 (ci := 5) rfl (by decide) rfl bw_489 rfl rfl dX5_command_28 ?_
    refine z_iconst (v := 1) hC dX5_command_31 (by decide) ?_
    refine z_iaddN (p0) (1) hC dX5_command_32 ?_
    refine z_put (ci := 5) 0 6 hC bl_X5 tyX5_ok nmX5 rfl (by decide) rfl bw_489 rfl rfl rfl rfl (Nat.lt_of_lt_of_le (by decide) (Nat.le_refl 9)) dX5_command_33 (w2 := cX q κ (p0 + 1) o w ct) cX_f3 ?_
    refine z_iload_n hC dX5_command_36 rfl ?_
    by_cases s37_33 : kk = 33
    · refine z_lookup (off := 65) hC 102 dX5_command_37 (by decide) (by rw [s37_33]; first | rfl | decide) (by decide) ?_
      subst s37_33
      refine z_aload_n hC dX5_command_102 rfl ?_
      refine z_aload_n hC dX5_command_103 rfl ?_
      refine z_bipush (v := 48) hC dX5_command_104 (by decide) ?_
      refine z_callV [0, 1, 2, 3] 0 5 hC (c_X5_digit l D ct q κ t (p0 + 1) o w ht ht8 (by omega) 48 (by decide)) bw_500 bw_501 bw_502 bw_5 bw_503 1 (by decide +kernel) rfl rfl rfl rfl rfl ⟨Nat.le_of_ble_eq_true rfl, Nat.le_of_ble_eq_true rfl⟩ (Nat.le_of_ble_eq_true rfl) ⟨Nat.le_of_ble_eq_true rfl, Nat.le_of_ble_eq_true rfl⟩ rfl dX5_command_106 ?_
      refine zkd (G := fun v1 w1 => zG p l e _ s m args below meth c D _ _ _ _ _ _ _ (v1.toList ++ _) w1) (w2 := cX q κ ((xD (κ 2) t (p0 + 1) 48).2) o w ct) cX_all ?_
      have hpd1 : (xD (κ 2) t (p0 + 1) 48).2 ≤ 81 := xD_le (M := 81) (by omega) (by omega)
      refine z_put (ci := 5) 0 7 hC bl_X5 tyX5_ok nmX5 rfl (by decide) rfl bw_494 rfl rfl rfl rfl (Nat.lt_of_lt_of_le (by decide) (Nat.le_refl 9)) dX5_command_109 (w2 := cX q κ ((xD (κ 2) t (p0 + 1) 48).2) ((xD (κ 2) t (p0 + 1) 48).1) w ct) cX_f4 ?_
      refine z_aload_n hC dX5_command_112 rfl ?_
      refine z_get 0 7 hC bl_X5 (ci := 5) rfl (by decide) rfl bw_494 rfl rfl dX5_command_113 ?_
      refine z_iconst (v := (-1)) hC dX5_command_116 (by decide) ?_
      refine z_icmp_eq hC 124 dX5_command_117 (by decide) (fun c117 => ?_) (fun c117 => ?_)
      · refine z_bipush (v := 32) hC dX5_command_124 (by decide) ?_
        exact z_zretd hC hr (rfl) dX5_command_126 (Nat.zero_le _) (Nat.zero_le _) (by rw [← hE, xC, if_pos c8, ← ekk]; simp [xCs, bI, c8, c117]) (by rw [← hE, xC, if_pos c8, ← ekk]; simp [xCs, bI, c8, c117]) cX_adr
      · refine z_iload_n hC dX5_command_120 rfl ?_
        refine z_goto hC 126 dX5_command_121 (by decide) ?_
        exact z_zretd hC hr (rfl) dX5_command_126 (Nat.zero_le _) (Nat.zero_le _) (by rw [← hE, xC, if_pos c8, ← ekk]; simp [xCs, bI, c8, c117]) (by rw [← hE, xC, if_pos c8, ← ekk]; simp [xCs, bI, c8, c117]) cX_adr
    by_cases s37_43 : kk = 43
    · refine z_lookup (off := 51) hC 88 dX5_command_37 (by decide) (by rw [s37_43]; first | rfl | decide) (by decide) ?_
      subst s37_43
      refine z_aload_n hC dX5_command_88 rfl ?_
      refine z_callV [0, 1, 2, 3] 0 5 hC (c_X5_readsLink l D ct q κ t (p0 + 1) o w ht ht8 (by omega) (xRL (κ 2) t (p0 + 1) w) rfl) bw_495 bw_496 bw_497 bw_5 bw_498 0 (by decide +kernel) rfl rfl rfl rfl rfl ⟨Nat.le_of_ble_eq_true rfl, Nat.le_of_ble_eq_true rfl⟩ (Nat.le_of_ble_eq_true rfl) ⟨Nat.le_of_ble_eq_true rfl, Nat.le_of_ble_eq_true rfl⟩ rfl dX5_command_89 ?_
      refine zkd (G := fun v1 w1 => zG p l e _ s m args below meth c D _ _ _ _ _ _ _ (v1.toList ++ _) w1) (w2 := cX q κ ((xRL (κ 2) t (p0 + 1) w).2.1) ((xRL (κ 2) t (p0 + 1) w).2.2.1) ((xRL (κ 2) t (p0 + 1) w).2.2.2) ct) cX_all ?_
      refine z_if_eq hC 99 dX5_command_92 (by decide) (fun c92 => ?_) (fun c92 => ?_)
      · rw [bI_0] at c92
        refine z_bipush (v := 32) hC dX5_command_99 (by decide) ?_
        exact z_zretd hC hr (rfl) dX5_command_101 (Nat.zero_le _) (Nat.zero_le _) (by rw [← hE, xC, if_pos c8, ← ekk]; simp [xCs, bI, c8, s37_33, c92]) (by rw [← hE, xC, if_pos c8, ← ekk]; simp [xCs, bI, c8, s37_33, c92]) cX_adr
      · rw [bI_1] at c92
        refine z_iload_n hC dX5_command_95 rfl ?_
        refine z_goto hC 101 dX5_command_96 (by decide) ?_
        exact z_zretd hC hr (rfl) dX5_command_101 (Nat.zero_le _) (Nat.zero_le _) (by rw [← hE, xC, if_pos c8, ← ekk]; simp [xCs, bI, c8, s37_33, c92]) (by rw [← hE, xC, if_pos c8, ← ekk]; simp [xCs, bI, c8, s37_33, c92]) cX_adr
    by_cases s37_45 : kk = 45
    · refine z_lookup (off := 51) hC 88 dX5_command_37 (by decide) (by rw [s37_45]; first | rfl | decide) (by decide) ?_
      subst s37_45
      refine z_aload_n hC dX5_command_88 rfl ?_
      refine z_callV [0, 1, 2, 3] 0 5 hC (c_X5_readsLink l D ct q κ t (p0 + 1) o w ht ht8 (by omega) (xRL (κ 2) t (p0 + 1) w) rfl) bw_495 bw_496 bw_497 bw_5 bw_498 0 (by decide +kernel) rfl rfl rfl rfl rfl ⟨Nat.le_of_ble_eq_true rfl, Nat.le_of_ble_eq_true rfl⟩ (Nat.le_of_ble_eq_true rfl) ⟨Nat.le_of_ble_eq_true rfl, Nat.le_of_ble_eq_true rfl⟩ rfl dX5_command_89 ?_
      refine zkd (G := fun v1 w1 => zG p l e _ s m args below meth c D _ _ _ _ _ _ _ (v1.toList ++ _) w1) (w2 := cX q κ ((xRL (κ 2) t (p0 + 1) w).2.1) ((xRL (κ 2) t (p0 + 1) w).2.2.1) ((xRL (κ 2) t (p0 + 1) w).2.2.2) ct) cX_all ?_
      refine z_if_eq hC 99 dX5_command_92 (by decide) (fun c92 => ?_) (fun c92 => ?_)
      · rw [bI_0] at c92
        refine z_bipush (v := 32) hC dX5_command_99 (by decide) ?_
        exact z_zretd hC hr (rfl) dX5_command_101 (Nat.zero_le _) (Nat.zero_le _) (by rw [← hE, xC, if_pos c8, ← ekk]; simp [xCs, bI, c8, s37_33, s37_43, c92]) (by rw [← hE, xC, if_pos c8, ← ekk]; simp [xCs, bI, c8, s37_33, s37_43, c92]) cX_adr
      · rw [bI_1] at c92
        refine z_iload_n hC dX5_command_95 rfl ?_
        refine z_goto hC 101 dX5_command_96 (by decide) ?_
        exact z_zretd hC hr (rfl) dX5_command_101 (Nat.zero_le _) (Nat.zero_le _) (by rw [← hE, xC, if_pos c8, ← ekk]; simp [xCs, bI, c8, s37_33, s37_43, c92]) (by rw [← hE, xC, if_pos c8, ← ekk]; simp [xCs, bI, c8, s37_33, s37_43, c92]) cX_adr
    by_cases s37_114 : kk = 114
    · refine z_lookup (off := 104) hC 141 dX5_command_37 (by decide) (by rw [s37_114]; first | rfl | decide) (by decide) ?_
      subst s37_114
      refine z_aload_n hC dX5_command_141 rfl ?_
      refine z_aload_n hC dX5_command_142 rfl ?_
      refine z_iconst (v := 1) hC dX5_command_143 (by decide) ?_
      refine z_bipush (v := 100) hC dX5_command_144 (by decide) ?_
      refine z_callV [0, 1, 2, 3] 0 5 hC (c_X5_number l D ct q κ t (p0 + 1) o w ht ht8 (by omega) 1 100) bw_512 bw_513 bw_514 bw_5 bw_515 2 (by decide +kernel) rfl rfl rfl rfl rfl ⟨Nat.le_of_ble_eq_true rfl, Nat.le_of_ble_eq_true rfl⟩ (Nat.le_of_ble_eq_true rfl) ⟨Nat.le_of_ble_eq_true rfl, Nat.le_of_ble_eq_true rfl⟩ rfl dX5_command_146 ?_
      refine zkd (G := fun v1 w1 => zG p l e _ s m args below meth c D _ _ _ _ _ _ _ (v1.toList ++ _) w1) (w2 := cX q κ ((xN (κ 2) t (p0 + 1) 1 100).2) o w ct) cX_all ?_
      have hpd2 : (xN (κ 2) t (p0 + 1) 1 100).2 ≤ 81 := xN_le (M := 81) (by omega) (by omega)
      refine z_put (ci := 5) 0 7 hC bl_X5 tyX5_ok nmX5 rfl (by decide) rfl bw_494 rfl rfl rfl rfl (Nat.lt_of_lt_of_le (by decide) (Nat.le_refl 9)) dX5_command_149 (w2 := cX q κ ((xN (κ 2) t (p0 + 1) 1 100).2) ((xN (κ 2) t (p0 + 1) 1 100).1) w ct) cX_f4 ?_
      refine z_aload_n hC dX5_command_152 rfl ?_
      refine z_get 0 7 hC bl_X5 (ci := 5) rfl (by decide) rfl bw_494 rfl rfl dX5_command_153 ?_
      refine z_iconst (v := (-1)) hC dX5_command_156 (by decide) ?_
      refine z_icmp_eq hC 164 dX5_command_157 (by decide) (fun c157 => ?_) (fun c157 => ?_)
      · refine z_bipush (v := 32) hC dX5_command_164 (by decide) ?_
        exact z_zretd hC hr (rfl) dX5_command_166 (Nat.zero_le _) (Nat.zero_le _) (by rw [← hE, xC, if_pos c8, ← ekk]; simp [xCs, bI, c8, s37_33, s37_43, s37_45, c157]) (by rw [← hE, xC, if_pos c8, ← ekk]; simp [xCs, bI, c8, s37_33, s37_43, s37_45, c157]) cX_adr
      · refine z_iload_n hC dX5_command_160 rfl ?_
        refine z_goto hC 166 dX5_command_161 (by decide) ?_
        exact z_zretd hC hr (rfl) dX5_command_166 (Nat.zero_le _) (Nat.zero_le _) (by rw [← hE, xC, if_pos c8, ← ekk]; simp [xCs, bI, c8, s37_33, s37_43, s37_45, c157]) (by rw [← hE, xC, if_pos c8, ← ekk]; simp [xCs, bI, c8, s37_33, s37_43, s37_45, c157]) cX_adr
    by_cases s37_116 : kk = 116
    · refine z_lookup (off := 90) hC 127 dX5_command_37 (by decide) (by rw [s37_116]; first | rfl | decide) (by decide) ?_
      subst s37_116
      refine z_aload_n hC dX5_command_127 rfl ?_
      refine z_callV [0, 1, 2, 3] 0 5 hC (c_X5_readsTake l D ct q κ t (p0 + 1) o w ht ht8 (by omega) (xRT (κ 2) t (p0 + 1) w) rfl) bw_508 bw_509 bw_510 bw_5 bw_511 0 (by decide +kernel) rfl rfl rfl rfl rfl ⟨Nat.le_of_ble_eq_true rfl, Nat.le_of_ble_eq_true rfl⟩ (Nat.le_of_ble_eq_true rfl) ⟨Nat.le_of_ble_eq_true rfl, Nat.le_of_ble_eq_true rfl⟩ rfl dX5_command_128 ?_
      refine zkd (G := fun v1 w1 => zG p l e _ s m args below meth c D _ _ _ _ _ _ _ (v1.toList ++ _) w1) (w2 := cX q κ ((xRT (κ 2) t (p0 + 1) w).2.1) ((xRT (κ 2) t (p0 + 1) w).2.2.1) ((xRT (κ 2) t (p0 + 1) w).2.2.2) ct) cX_all ?_
      refine z_if_eq hC 138 dX5_command_131 (by decide) (fun c131 => ?_) (fun c131 => ?_)
      · rw [bI_0] at c131
        refine z_bipush (v := 32) hC dX5_command_138 (by decide) ?_
        exact z_zretd hC hr (rfl) dX5_command_140 (Nat.zero_le _) (Nat.zero_le _) (by rw [← hE, xC, if_pos c8, ← ekk]; simp [xCs, bI, c8, s37_33, s37_43, s37_45, s37_114, c131]) (by rw [← hE, xC, if_pos c8, ← ekk]; simp [xCs, bI, c8, s37_33, s37_43, s37_45, s37_114, c131]) cX_adr
      · rw [bI_1] at c131
        refine z_iload_n hC dX5_command_134 rfl ?_
        refine z_goto hC 140 dX5_command_135 (by decide) ?_
        exact z_zretd hC hr (rfl) dX5_command_140 (Nat.zero_le _) (Nat.zero_le _) (by rw [← hE, xC, if_pos c8, ← ekk]; simp [xCs, bI, c8, s37_33, s37_43, s37_45, s37_114, c131]) (by rw [← hE, xC, if_pos c8, ← ekk]; simp [xCs, bI, c8, s37_33, s37_43, s37_45, s37_114, c131]) cX_adr
    have t37_33 : (33 : Int32).toInt = 33 := rfl
    have n37_33 := mt i_eq.mpr s37_33
    have t37_43 : (43 : Int32).toInt = 43 := rfl
    have n37_43 := mt i_eq.mpr s37_43
    have t37_45 : (45 : Int32).toInt = 45 := rfl
    have n37_45 := mt i_eq.mpr s37_45
    have t37_114 : (114 : Int32).toInt = 114 := rfl
    have n37_114 := mt i_eq.mpr s37_114
    have t37_116 : (116 : Int32).toInt = 116 := rfl
    have n37_116 := mt i_eq.mpr s37_116
    refine z_lookup (off := 130) hC 167 dX5_command_37 (by decide) (by have e37_33 : ¬ (33 : Int) = (kk).toInt := (by omega); have e37_43 : ¬ (43 : Int) = (kk).toInt := (by omega); have e37_45 : ¬ (45 : Int) = (kk).toInt := (by omega); have e37_114 : ¬ (114 : Int) = (kk).toInt := (by omega); have e37_116 : ¬ (116 : Int) = (kk).toInt := (by omega); simp [Op.lookupswitch.offset, e37_33, e37_43, e37_45, e37_114, e37_116]) (by decide) ?_
    refine z_aload_n hC dX5_command_167 rfl ?_
    refine z_dup hC dX5_command_168 rfl ?_
    refine z_get 0 6 hC bl_X5 (ci := 5) rfl (by decide) rfl bw_489 rfl rfl dX5_command_169 ?_
    refine z_iconst (v := 1) hC dX5_command_172 (by decide) ?_
    refine z_isubN (p0 + 1) (1) hC (by omega) dX5_command_173 ?_
    refine z_put (ci := 5) 0 6 hC bl_X5 tyX5_ok nmX5 rfl (by decide) rfl bw_489 rfl rfl rfl rfl (Nat.lt_of_lt_of_le (by decide) (Nat.le_refl 9)) dX5_command_174 (w2 := cX q κ (p0 + 1 - 1) o w ct) cX_f3 ?_
    refine z_bipush (v := 32) hC dX5_command_177 (by decide) ?_
    exact z_zretd hC hr (rfl) dX5_command_179 (Nat.zero_le _) (Nat.zero_le _) (by rw [← hE, xC, if_pos c8, ← ekk]; simp [xCs, bI, c8, s37_33, s37_43, s37_45, s37_114, s37_116]) (by rw [← hE, xC, if_pos c8, ← ekk]; simp [xCs, bI, c8, s37_33, s37_43, s37_45, s37_114, s37_116]) cX_adr
