/-! WHAT THE METHODS OF THE REFERENCE ANSWER AND DO, on its row s of numbers: a state from place b on -/
def mdK (κ : Nat → Nat → Int32) (b n : Nat) : Nat := (κ 1 (b + 20 + 7 * n + 6)).toNatClampNeg
def mdC (κ : Nat → Nat → Int32) (b : Nat) : Nat := (κ 1 (b + 19)).toNatClampNeg
def okK (κ : Nat → Nat → Int32) (b n : Nat) : Prop := κ 1 (b + 20 + 7 * n + 6) = nI (mdK κ b n) ∧ mdK κ b n ≤ 6
def okC (κ : Nat → Nat → Int32) (b : Nat) : Prop := κ 1 (b + 19) = nI (mdC κ b) ∧ mdC κ b ≤ 60
theorem okK_u2 {κ : Nat → Nat → Int32} {b n i : Nat} {x : Int32} (h : okK κ b n) (hi : b + 20 + 7 * n + 6 ≠ i) : okK (u2 κ 1 i x) b n := by
  unfold okK mdK at *
  rw [u2_nk hi]
  exact h
theorem okC_u2 {κ : Nat → Nat → Int32} {b i : Nat} {x : Int32} (h : okC κ b) (hi : b + 19 ≠ i) : okC (u2 κ 1 i x) b := by
  unfold okC mdC at *
  rw [u2_nk hi]
  exact h
theorem nI_ne {a : Nat} (h : a < 2 ^ 31) : ¬ nI a = -1 := fun e => nI_pos h (by rw [e]; decide)
def mdOn (κ : Nat → Nat → Int32) (b n : Nat) : Bool := decide ((κ 1 (b + 10) >>> (nI n &&& 31)) &&& 1 = 1)
def mdConn (κ : Nat → Nat → Int32) (b i j : Nat) : Bool := decide ((κ 1 (b + 0 + i) >>> (nI j &&& 31)) &&& 1 = 1) && (mdOn κ b i && mdOn κ b j)
def mdInc (κ : Nat → Nat → Int32) (i : Nat) : Nat → Nat → Int32 := u2 κ 1 i (κ 1 i + 1)
def mdDrop (κ : Nat → Nat → Int32) (b m : Nat) : Nat → Nat → Int32 := mdInc (u2 (u2 κ 1 (b + 20 + 7 * m + 1) (-1)) 1 (b + 20 + 7 * m + 2) (-1)) (b + 18)
def mdShift1 (b m : Nat) (v : Int32) (i : Nat) (κ : Nat → Nat → Int32) : Nat → Nat → Int32 := u2 κ 1 (b + 90 + 5 * (6 * m + i) + 4) (κ 1 (b + 90 + 5 * (6 * m + i) + 4) + v)
def mdClock (κ : Nat → Nat → Int32) (b m n : Nat) : Nat → Nat → Int32 := kfor (mdShift1 b m (κ 1 (b + 20 + 7 * n + 0) - κ 1 (b + 20 + 7 * m + 0))) (mdK κ b m) 0 (u2 κ 1 (b + 20 + 7 * m + 0) (κ 1 (b + 20 + 7 * m + 0) + (κ 1 (b + 20 + 7 * n + 0) - κ 1 (b + 20 + 7 * m + 0))))
def mdF1 (κ : Nat → Nat → Int32) (b m n : Nat) : Nat → Nat → Int32 := u2 κ 1 (b + 20 + 7 * m + 1) (nI n)
def mdF2 (κ : Nat → Nat → Int32) (b m n : Nat) : Nat → Nat → Int32 := u2 κ 1 (b + 20 + 7 * m + 2) (κ 1 (b + 20 + 7 * n + 2) + 1)
def mdF3 (κ : Nat → Nat → Int32) (b m : Nat) : Nat → Nat → Int32 := u2 κ 1 (b + 20 + 7 * m + 3) (κ 1 (b + 12))
def mdFollow (κ : Nat → Nat → Int32) (b m n : Nat) : Nat → Nat → Int32 := mdClock (mdF3 (mdF2 (mdF1 κ b m n) b m n) b m) b m n
def mdLeads (κ : Nat → Nat → Int32) (b n : Nat) : Bool := decide (¬ κ 1 (b + 20 + 7 * n + 2) = -1) && decide (κ 1 (b + 20 + 7 * n + 2) < 9)
def mdHear (κ : Nat → Nat → Int32) (b m n : Nat) : Nat → Nat → Int32 := if κ 1 (b + 20 + 7 * m + 1) = nI n then (if mdLeads κ b n = true then mdFollow κ b m n else mdDrop κ b m) else if mdLeads κ b n = true ∧ ¬ κ 1 (b + 20 + 7 * n + 1) = nI m ∧ (κ 1 (b + 20 + 7 * m + 1) = -1 ∨ κ 1 (b + 20 + 7 * n + 2) + 1 < κ 1 (b + 20 + 7 * m + 2)) then mdFollow κ b m n else κ
def mdSame (κ : Nat → Nat → Int32) (i j : Nat) : Bool := decide (κ 1 i = κ 1 j) && decide (κ 1 (i + 1) = κ 1 (j + 1))
def mdColl (κ : Nat → Nat → Int32) (b i : Nat) : Bool := kfor (fun k r => r || mdSame κ i (b + 390 + 5 * k)) (mdC κ b) 0 false
def mdStor (κ : Nat → Nat → Int32) (b n i : Nat) : Bool := kfor (fun k r => r || mdSame κ i (b + 90 + 5 * (6 * n + k))) (mdK κ b n) 0 false
def mdWr1 (i j k : Nat) (κ : Nat → Nat → Int32) : Nat → Nat → Int32 := u2 κ 1 (j + k) (κ 1 (i + k))
def mdAdd (κ : Nat → Nat → Int32) (i : Nat) (v : Int32) : Nat → Nat → Int32 := u2 κ 1 i (κ 1 i + v)
def mdWrite (κ : Nat → Nat → Int32) (i j : Nat) (v : Int32) : Nat → Nat → Int32 := mdAdd (kfor (mdWr1 i j) 5 0 κ) (j + 4) v
theorem kfor_at1 {f : Nat → (Nat → Nat → Int32) → (Nat → Nat → Int32)} {c : Nat} : ∀ (k i : Nat) (κ : Nat → Nat → Int32), (∀ (j : Nat) (ξ : Nat → Nat → Int32), i ≤ j → j < i + k → f j ξ 1 c = ξ 1 c) → kfor f k i κ 1 c = κ 1 c
  | 0, _, _, _ => rfl
  | k + 1, i, κ, h => by
    show kfor f k (i + 1) (f i κ) 1 c = κ 1 c
    rw [kfor_at1 k (i + 1) (f i κ) (fun j ξ h1 h2 => h j ξ (by omega) (by omega))]
    exact h i κ (Nat.le_refl _) (by omega)
theorem mdWrite_ne {κ : Nat → Nat → Int32} {i j c : Nat} {v : Int32} (h : c < j ∨ j + 5 ≤ c) : mdWrite κ i j v 1 c = κ 1 c := by
  unfold mdWrite mdAdd
  rw [u2_nk (by omega)]
  exact kfor_at1 5 0 κ (fun k ξ h1 h2 => by unfold mdWr1; rw [u2_nk (by omega)])
def mdHandR (κ : Nat → Nat → Int32) (b i n : Nat) : Bool := if n = 0 then true else if mdStor κ b n i = true then true else if mdK κ b n = 6 then false else true
def mdHand (κ : Nat → Nat → Int32) (b i n : Nat) (v : Int32) : Nat → Nat → Int32 := if n = 0 then (if mdColl κ b i = true then mdInc κ (b + 15) else mdInc (mdWrite κ i (b + 390 + 5 * mdC κ b) v) (b + 19)) else if mdStor κ b n i = true then mdInc κ (b + 15) else if mdK κ b n = 6 then mdInc κ (b + 16) else mdInc (mdWrite κ i (b + 90 + 5 * (6 * n + mdK κ b n)) v) (b + 20 + 7 * n + 6)
def mdRem1 (b m k : Nat) (κ : Nat → Nat → Int32) : Nat → Nat → Int32 := mdWrite κ (b + 90 + 5 * (6 * m + (k + 1))) (b + 90 + 5 * (6 * m + k)) 0
def mdRemove (κ : Nat → Nat → Int32) (b m : Nat) : Nat → Nat → Int32 := kfor (mdRem1 b m) (mdK κ b m - 1) 0 (u2 κ 1 (b + 20 + 7 * m + 6) (nI (mdK κ b m - 1)))
def mdSend2 (κ : Nat → Nat → Int32) (b m : Nat) (r : Bool) : Nat → Nat → Int32 := if r = false then κ else if 0 < κ 1 (b + 20 + 7 * m + 4) then mdInc (u2 κ 1 (b + 20 + 7 * m + 4) (κ 1 (b + 20 + 7 * m + 4) - 1)) (b + 17) else mdRemove κ b m
def mdSend (κ : Nat → Nat → Int32) (b m p : Nat) : Nat → Nat → Int32 := if mdK κ b m = 0 ∨ mdConn κ b m p = false then κ else mdSend2 (mdHand (mdInc κ (b + 14)) b (b + 90 + 5 * (6 * m + 0)) p (mdInc κ (b + 14) 1 (b + 20 + 7 * p + 0) - mdInc κ (b + 14) 1 (b + 20 + 7 * m + 0))) b m (mdHandR (mdInc κ (b + 14)) b (b + 90 + 5 * (6 * m + 0)) p)
set_option maxRecDepth 100000 in
set_option maxHeartbeats 1000000 in
theorem c_X5_at (l : Launch) (D : va_G) (ct : Nat → ClassId) (b n : Nat) : zT l D ct yX5_at cX5_at 2 (some .int) 0 0 0 0 [.int (nI b), .int (nI n)] (([] : va_W)) (zd (some (.int (nI (b + 20 + 7 * n)))) (([] : va_W))) := by
  refine zT_of ([some (.int (nI b)), some (.int (nI n))]) (by decide +kernel) rfl (Nat.le_of_ble_eq_true rfl) ?_
  intro p e s m args below meth c hC hr hnm
  refine z_iload_n hC dX5_at_0 rfl ?_
  refine z_bipush (v := 20) hC dX5_at_1 (by decide) ?_
  refine z_iaddN (b) (20) hC dX5_at_3 ?_
  refine z_bipush (v := 7) hC dX5_at_4 (by decide) ?_
  refine z_iload_n hC dX5_at_6 rfl ?_
  refine z_imulN (7) (n) hC dX5_at_7 ?_
  refine z_iaddN (b + 20) (7 * n) hC dX5_at_8 ?_
  exact z_iretd hC hr dX5_at_9 (Nat.zero_le _) (Nat.zero_le _) (by clear hC hr hnm; first | rfl | (simp [*]; done) | (simp_all []; done)) (by first | rfl | (simp [*]; done)) rfl

set_option maxRecDepth 100000 in
set_option maxHeartbeats 1000000 in
theorem c_X5_storeAt (l : Launch) (D : va_G) (ct : Nat → ClassId) (b n i : Nat) : zT l D ct yX5_storeAt cX5_storeAt 3 (some .int) 0 0 0 0 [.int (nI b), .int (nI n), .int (nI i)] (([] : va_W)) (zd (some (.int (nI (b + 90 + 5 * (6 * n + i))))) (([] : va_W))) := by
  refine zT_of ([some (.int (nI b)), some (.int (nI n)), some (.int (nI i))]) (by decide +kernel) rfl (Nat.le_of_ble_eq_true rfl) ?_
  intro p e s m args below meth c hC hr hnm
  refine z_iload_n hC dX5_storeAt_0 rfl ?_
  refine z_bipush (v := 90) hC dX5_storeAt_1 (by decide) ?_
  refine z_iaddN (b) (90) hC dX5_storeAt_3 ?_
  refine z_iconst (v := 5) hC dX5_storeAt_4 (by decide) ?_
  refine z_bipush (v := 6) hC dX5_storeAt_5 (by decide) ?_
  refine z_iload_n hC dX5_storeAt_7 rfl ?_
  refine z_imulN (6) (n) hC dX5_storeAt_8 ?_
  refine z_iload_n hC dX5_storeAt_9 rfl ?_
  refine z_iaddN (6 * n) (i) hC dX5_storeAt_10 ?_
  refine z_imulN (5) (6 * n + i) hC dX5_storeAt_11 ?_
  refine z_iaddN (b + 90) (5 * (6 * n + i)) hC dX5_storeAt_12 ?_
  exact z_iretd hC hr dX5_storeAt_13 (Nat.zero_le _) (Nat.zero_le _) (by clear hC hr hnm; first | rfl | (simp [*]; done) | (simp_all []; done)) (by first | rfl | (simp [*]; done)) rfl

set_option maxRecDepth 100000 in
set_option maxHeartbeats 1000000 in
theorem c_X5_listAt (l : Launch) (D : va_G) (ct : Nat → ClassId) (b i : Nat) : zT l D ct yX5_listAt cX5_listAt 2 (some .int) 0 0 0 0 [.int (nI b), .int (nI i)] (([] : va_W)) (zd (some (.int (nI (b + 390 + 5 * i)))) (([] : va_W))) := by
  refine zT_of ([some (.int (nI b)), some (.int (nI i))]) (by decide +kernel) rfl (Nat.le_of_ble_eq_true rfl) ?_
  intro p e s m args below meth c hC hr hnm
  refine z_iload_n hC dX5_listAt_0 rfl ?_
  refine z_sipush (v := 390) hC dX5_listAt_1 (by decide) ?_
  refine z_iaddN (b) (390) hC dX5_listAt_4 ?_
  refine z_iconst (v := 5) hC dX5_listAt_5 (by decide) ?_
  refine z_iload_n hC dX5_listAt_6 rfl ?_
  refine z_imulN (5) (i) hC dX5_listAt_7 ?_
  refine z_iaddN (b + 390) (5 * i) hC dX5_listAt_8 ?_
  exact z_iretd hC hr dX5_listAt_9 (Nat.zero_le _) (Nat.zero_le _) (by clear hC hr hnm; first | rfl | (simp [*]; done) | (simp_all []; done)) (by first | rfl | (simp [*]; done)) rfl

set_option maxRecDepth 100000 in
set_option maxHeartbeats 1000000 in
theorem c_X5_isOn (l : Launch) (D : va_G) (ct : Nat → ClassId) (q : Nat → Nat) (κ : Nat → Nat → Int32) (b n : Nat) (hb : b ≤ 4830) : zT l D ct yX5_isOn cX5_isOn 3 (some .boolean) 0 0 0 0 [.ref (q 0), .int (nI b), .int (nI n)] (cM q κ ct) (zd (some (.int (bI (mdOn κ b n)))) (cM q κ ct)) := by
  refine zT_of ([some (.ref (q 0)), some (.int (nI b)), some (.int (nI n))]) (by decide +kernel) rfl (Nat.le_of_ble_eq_true rfl) ?_
  intro p e s m args below meth c hC hr hnm
  refine z_aload_n hC dX5_isOn_0 rfl ?_
  refine z_get 0 0 hC bl_X5 (ci := 5) rfl (by decide) rfl bw_67 rfl rfl dX5_isOn_1 ?_
  refine z_iload_n hC dX5_isOn_4 rfl ?_
  refine z_bipush (v := 10) hC dX5_isOn_5 (by decide) ?_
  refine z_iaddN (b) (10) hC dX5_isOn_7 ?_
  refine z_ialdN (b + 10) 1 0 hC rfl rfl (by decide) (by omega) dX5_isOn_8 ?_
  refine z_iload_n hC dX5_isOn_9 rfl ?_
  refine z_ishr hC dX5_isOn_10 ?_
  refine z_iconst (v := 1) hC dX5_isOn_11 (by decide) ?_
  refine z_iand hC dX5_isOn_12 ?_
  refine z_iconst (v := 1) hC dX5_isOn_13 (by decide) ?_
  refine z_icmp_ne hC 21 dX5_isOn_14 (by decide) (fun c14 => ?_) (fun c14 => ?_)
  · refine z_iconst (v := 0) hC dX5_isOn_21 (by decide) ?_
    exact z_zretd hC hr (rfl) dX5_isOn_22 (Nat.zero_le _) (Nat.zero_le _) (by clear hC hr hnm; first | rfl | (simp [mdOn, bI, c14, *]; done) | (simp_all [mdOn, bI, c14]; done)) (by first | rfl | (simp [mdOn, bI, c14, *]; done)) cM_adr
  · refine z_iconst (v := 1) hC dX5_isOn_17 (by decide) ?_
    refine z_goto hC 22 dX5_isOn_18 (by decide) ?_
    exact z_zretd hC hr (rfl) dX5_isOn_22 (Nat.zero_le _) (Nat.zero_le _) (by clear hC hr hnm; first | rfl | (simp [mdOn, bI, c14, *]; done) | (simp_all [mdOn, bI, c14]; done)) (by first | rfl | (simp [mdOn, bI, c14, *]; done)) cM_adr

set_option maxRecDepth 100000 in
set_option maxHeartbeats 1000000 in
theorem c_X5_areConnected (l : Launch) (D : va_G) (ct : Nat → ClassId) (q : Nat → Nat) (κ : Nat → Nat → Int32) (b i j : Nat) (hb : b ≤ 4830) (hi : i < 10) : zT l D ct yX5_areConnected cX5_areConnected 4 (some .boolean) 1 22 0 0 [.ref (q 0), .int (nI b), .int (nI i), .int (nI j)] (cM q κ ct) (zd (some (.int (bI (mdConn κ b i j)))) (cM q κ ct)) := by
  refine zT_of ([some (.ref (q 0)), some (.int (nI b)), some (.int (nI i)), some (.int (nI j))]) (by decide +kernel) rfl (Nat.le_of_ble_eq_true rfl) ?_
  intro p e s m args below meth c hC hr hnm
  refine z_aload_n hC dX5_areConnected_0 rfl ?_
  refine z_get 0 0 hC bl_X5 (ci := 5) rfl (by decide) rfl bw_67 rfl rfl dX5_areConnected_1 ?_
  refine z_iload_n hC dX5_areConnected_4 rfl ?_
  refine z_iconst (v := 0) hC dX5_areConnected_5 (by decide) ?_
  refine z_iaddN (b) (0) hC dX5_areConnected_6 ?_
  refine z_iload_n hC dX5_areConnected_7 rfl ?_
  refine z_iaddN (b + 0) (i) hC dX5_areConnected_8 ?_
  refine z_ialdN (b + 0 + i) 1 0 hC rfl rfl (by decide) (by omega) dX5_areConnected_9 ?_
  refine z_iload_n hC dX5_areConnected_10 rfl ?_
  refine z_ishr hC dX5_areConnected_11 ?_
  refine z_iconst (v := 1) hC dX5_areConnected_12 (by decide) ?_
  refine z_iand hC dX5_areConnected_13 ?_
  refine z_iconst (v := 1) hC dX5_areConnected_14 (by decide) ?_
  refine z_icmp_ne hC 40 dX5_areConnected_15 (by decide) (fun c15 => ?_) (fun c15 => ?_)
  · refine z_iconst (v := 0) hC dX5_areConnected_40 (by decide) ?_
    exact z_zretd hC hr (rfl) dX5_areConnected_41 (Nat.zero_le _) (Nat.zero_le _) (by clear hC hr hnm; first | rfl | (simp [mdConn, bI, c15, *]; done) | (simp_all [mdConn, bI, c15]; done)) (by first | rfl | (simp [mdConn, bI, c15, *]; done)) cM_adr
  · refine z_aload_n hC dX5_areConnected_18 rfl ?_
    refine z_iload_n hC dX5_areConnected_19 rfl ?_
    refine z_iload_n hC dX5_areConnected_20 rfl ?_
    refine z_callV [0, 1, 2, 3] 0 5 hC (c_X5_isOn l D ct q κ b i hb) bw_359 bw_360 bw_361 bw_5 bw_362 2 (by decide +kernel) rfl rfl rfl rfl rfl ⟨Nat.le_of_ble_eq_true rfl, Nat.le_of_ble_eq_true rfl⟩ (Nat.le_of_ble_eq_true rfl) ⟨Nat.le_of_ble_eq_true rfl, Nat.le_of_ble_eq_true rfl⟩ rfl dX5_areConnected_21 ?_
    refine zkq (G := fun v1 w1 => zG p l e _ s m args below meth c D _ _ _ _ _ _ _ (v1.toList ++ _) w1) rfl ?_
    refine z_if_eq hC 40 dX5_areConnected_24 (by decide) (fun c24 => ?_) (fun c24 => ?_)
    · rw [bI_0] at c24
      refine z_iconst (v := 0) hC dX5_areConnected_40 (by decide) ?_
      exact z_zretd hC hr (rfl) dX5_areConnected_41 (Nat.zero_le _) (Nat.zero_le _) (by clear hC hr hnm; first | rfl | (simp [mdConn, bI, c15, c24, *]; done) | (simp_all [mdConn, bI, c15, c24]; done)) (by first | rfl | (simp [mdConn, bI, c15, c24, *]; done)) cM_adr
    · rw [bI_1] at c24
      refine z_aload_n hC dX5_areConnected_27 rfl ?_
      refine z_iload_n hC dX5_areConnected_28 rfl ?_
      refine z_iload_n hC dX5_areConnected_29 rfl ?_
      refine z_callV [0, 1, 2, 3] 0 5 hC (c_X5_isOn l D ct q κ b j hb) bw_359 bw_360 bw_361 bw_5 bw_362 2 (by decide +kernel) rfl rfl rfl rfl rfl ⟨Nat.le_of_ble_eq_true rfl, Nat.le_of_ble_eq_true rfl⟩ (Nat.le_of_ble_eq_true rfl) ⟨Nat.le_of_ble_eq_true rfl, Nat.le_of_ble_eq_true rfl⟩ rfl dX5_areConnected_30 ?_
      refine zkq (G := fun v1 w1 => zG p l e _ s m args below meth c D _ _ _ _ _ _ _ (v1.toList ++ _) w1) rfl ?_
      refine z_if_eq hC 40 dX5_areConnected_33 (by decide) (fun c33 => ?_) (fun c33 => ?_)
      · rw [bI_0] at c33
        refine z_iconst (v := 0) hC dX5_areConnected_40 (by decide) ?_
        exact z_zretd hC hr (rfl) dX5_areConnected_41 (Nat.zero_le _) (Nat.zero_le _) (by clear hC hr hnm; first | rfl | (simp [mdConn, bI, c15, c24, c33, *]; done) | (simp_all [mdConn, bI, c15, c24, c33]; done)) (by first | rfl | (simp [mdConn, bI, c15, c24, c33, *]; done)) cM_adr
      · rw [bI_1] at c33
        refine z_iconst (v := 1) hC dX5_areConnected_36 (by decide) ?_
        refine z_goto hC 41 dX5_areConnected_37 (by decide) ?_
        exact z_zretd hC hr (rfl) dX5_areConnected_41 (Nat.zero_le _) (Nat.zero_le _) (by clear hC hr hnm; first | rfl | (simp [mdConn, bI, c15, c24, c33, *]; done) | (simp_all [mdConn, bI, c15, c24, c33]; done)) (by first | rfl | (simp [mdConn, bI, c15, c24, c33, *]; done)) cM_adr

set_option maxRecDepth 100000 in
set_option maxHeartbeats 1000000 in
theorem c_X5_drops (l : Launch) (D : va_G) (ct : Nat → ClassId) (q : Nat → Nat) (κ : Nat → Nat → Int32) (b m0 : Nat) (hb : b ≤ 4830) (hm : m0 < 10) : zT l D ct yX5_drops cX5_drops 3 none 1 21 0 0 [.ref (q 0), .int (nI b), .int (nI m0)] (cM q κ ct) (zd none (cM q (mdDrop κ b m0) ct)) := by
  refine zT_of ([some (.ref (q 0)), some (.int (nI b)), some (.int (nI m0))]) (by decide +kernel) rfl (Nat.le_of_ble_eq_true rfl) ?_
  intro p e s m args below meth c hC hr hnm
  refine z_aload_n hC dX5_drops_0 rfl ?_
  refine z_get 0 0 hC bl_X5 (ci := 5) rfl (by decide) rfl bw_67 rfl rfl dX5_drops_1 ?_
  refine z_iload_n hC dX5_drops_4 rfl ?_
  refine z_iload_n hC dX5_drops_5 rfl ?_
  refine z_callS [] hC (c_X5_at l D ct b m0) bw_70 bw_71 bw_5 bw_72 2 (by decide +kernel) rfl rfl rfl ⟨Nat.le_of_ble_eq_true rfl, Nat.le_of_ble_eq_true rfl⟩ (Nat.le_of_ble_eq_true rfl) ⟨Nat.le_of_ble_eq_true rfl, Nat.le_of_ble_eq_true rfl⟩ rfl dX5_drops_6 ?_
  refine zkq (G := fun v1 w1 => zG p l e _ s m args below meth c D _ _ _ _ _ _ _ (v1.toList ++ _) w1) rfl ?_
  refine z_iconst (v := 1) hC dX5_drops_9 (by decide) ?_
  refine z_iaddN (b + 20 + 7 * m0) (1) hC dX5_drops_10 ?_
  refine z_iconst (v := (-1)) hC dX5_drops_11 (by decide) ?_
  refine z_iastN (b + 20 + 7 * m0 + 1) 1 0 hC rfl rfl (by decide) (by omega) dX5_drops_12 (w2 := cM q (u2 κ 1 (b + 20 + 7 * m0 + 1) (-1)) ct) cM_a1 ?_
  obtain ⟨κ1, eκ1⟩ : ∃ zz_, zz_ = u2 κ 1 (b + 20 + 7 * m0 + 1) (-1) := ⟨_, rfl⟩
  rw [← eκ1]
  refine z_aload_n hC dX5_drops_13 rfl ?_
  refine z_get 0 0 hC bl_X5 (ci := 5) rfl (by decide) rfl bw_67 rfl rfl dX5_drops_14 ?_
  refine z_iload_n hC dX5_drops_17 rfl ?_
  refine z_iload_n hC dX5_drops_18 rfl ?_
  refine z_callS [] hC (c_X5_at l D ct b m0) bw_70 bw_71 bw_5 bw_72 2 (by decide +kernel) rfl rfl rfl ⟨Nat.le_of_ble_eq_true rfl, Nat.le_of_ble_eq_true rfl⟩ (Nat.le_of_ble_eq_true rfl) ⟨Nat.le_of_ble_eq_true rfl, Nat.le_of_ble_eq_true rfl⟩ rfl dX5_drops_19 ?_
  refine zkq (G := fun v1 w1 => zG p l e _ s m args below meth c D _ _ _ _ _ _ _ (v1.toList ++ _) w1) rfl ?_
  refine z_iconst (v := 2) hC dX5_drops_22 (by decide) ?_
  refine z_iaddN (b + 20 + 7 * m0) (2) hC dX5_drops_23 ?_
  refine z_iconst (v := (-1)) hC dX5_drops_24 (by decide) ?_
  refine z_iastN (b + 20 + 7 * m0 + 2) 1 0 hC rfl rfl (by decide) (by omega) dX5_drops_25 (w2 := cM q (u2 κ1 1 (b + 20 + 7 * m0 + 2) (-1)) ct) cM_a1 ?_
  obtain ⟨κ2, eκ2⟩ : ∃ zz_, zz_ = u2 κ1 1 (b + 20 + 7 * m0 + 2) (-1) := ⟨_, rfl⟩
  rw [← eκ2]
  refine z_aload_n hC dX5_drops_26 rfl ?_
  refine z_get 0 0 hC bl_X5 (ci := 5) rfl (by decide) rfl bw_67 rfl rfl dX5_drops_27 ?_
  refine z_iload_n hC dX5_drops_30 rfl ?_
  refine z_bipush (v := 18) hC dX5_drops_31 (by decide) ?_
  refine z_iaddN (b) (18) hC dX5_drops_33 ?_
  refine z_dup2 hC dX5_drops_34 rfl rfl ?_
  refine z_ialdN (b + 18) 1 0 hC rfl rfl (by decide) (by omega) dX5_drops_35 ?_
  refine z_iconst (v := 1) hC dX5_drops_36 (by decide) ?_
  refine z_iadd hC dX5_drops_37 ?_
  refine z_iastN (b + 18) 1 0 hC rfl rfl (by decide) (by omega) dX5_drops_38 (w2 := cM q (u2 κ2 1 (b + 18) ((κ2 1 (b + 18)) + 1)) ct) cM_a1 ?_
  obtain ⟨κ3, eκ3⟩ : ∃ zz_, zz_ = u2 κ2 1 (b + 18) ((κ2 1 (b + 18)) + 1) := ⟨_, rfl⟩
  rw [← eκ3]
  exact z_vretd hC hr dX5_drops_39 (Nat.zero_le _) (Nat.zero_le _) (by subst eκ3; subst eκ2; subst eκ1; rfl) cM_adr

set_option maxRecDepth 100000 in
set_option maxHeartbeats 1000000 in
theorem c_X5_setsClock (l : Launch) (D : va_G) (ct : Nat → ClassId) (q : Nat → Nat) (κ : Nat → Nat → Int32) (b m0 n : Nat) (hb : b ≤ 4830) (hm : m0 < 10) (hn : n < 10) (hK : okK κ b m0) : zT l D ct yX5_setsClock cX5_setsClock 6 none 1 22 0 0 [.ref (q 0), .int (nI b), .int (nI m0), .int (nI n)] (cM q κ ct) (zd none (cM q (mdClock κ b m0 n) ct)) := by
  refine zT_of ([some (.ref (q 0)), some (.int (nI b)), some (.int (nI m0)), some (.int (nI n)), none, none]) (by decide +kernel) rfl (Nat.le_of_ble_eq_true rfl) ?_
  intro p e s m args below meth c hC hr hnm
  obtain ⟨hK0, hK6⟩ := hK
  refine z_aload_n hC dX5_setsClock_0 rfl ?_
  refine z_get 0 0 hC bl_X5 (ci := 5) rfl (by decide) rfl bw_67 rfl rfl dX5_setsClock_1 ?_
  refine z_iload_n hC dX5_setsClock_4 rfl ?_
  refine z_iload_n hC dX5_setsClock_5 rfl ?_
  refine z_callS [] hC (c_X5_at l D ct b n) bw_70 bw_71 bw_5 bw_72 2 (by decide +kernel) rfl rfl rfl ⟨Nat.le_of_ble_eq_true rfl, Nat.le_of_ble_eq_true rfl⟩ (Nat.le_of_ble_eq_true rfl) ⟨Nat.le_of_ble_eq_true rfl, Nat.le_of_ble_eq_true rfl⟩ rfl dX5_setsClock_6 ?_
  refine zkq (G := fun v1 w1 => zG p l e _ s m args below meth c D _ _ _ _ _ _ _ (v1.toList ++ _) w1) rfl ?_
  refine z_iconst (v := 0) hC dX5_setsClock_9 (by decide) ?_
  refine z_iaddN (b + 20 + 7 * n) (0) hC dX5_setsClock_10 ?_
  refine z_ialdN (b + 20 + 7 * n + 0) 1 0 hC rfl rfl (by decide) (by omega) dX5_setsClock_11 ?_
  refine z_aload_n hC dX5_setsClock_12 rfl ?_
  refine z_get 0 0 hC bl_X5 (ci := 5) rfl (by decide) rfl bw_67 rfl rfl dX5_setsClock_13 ?_
  refine z_iload_n hC dX5_setsClock_16 rfl ?_
  refine z_iload_n hC dX5_setsClock_17 rfl ?_
  refine z_callS [] hC (c_X5_at l D ct b m0) bw_70 bw_71 bw_5 bw_72 2 (by decide +kernel) rfl rfl rfl ⟨Nat.le_of_ble_eq_true rfl, Nat.le_of_ble_eq_true rfl⟩ (Nat.le_of_ble_eq_true rfl) ⟨Nat.le_of_ble_eq_true rfl, Nat.le_of_ble_eq_true rfl⟩ rfl dX5_setsClock_18 ?_
  refine zkq (G := fun v1 w1 => zG p l e _ s m args below meth c D _ _ _ _ _ _ _ (v1.toList ++ _) w1) rfl ?_
  refine z_iconst (v := 0) hC dX5_setsClock_21 (by decide) ?_
  refine z_iaddN (b + 20 + 7 * m0) (0) hC dX5_setsClock_22 ?_
  refine z_ialdN (b + 20 + 7 * m0 + 0) 1 0 hC rfl rfl (by decide) (by omega) dX5_setsClock_23 ?_
  refine z_isub hC dX5_setsClock_24 ?_
  refine z_istore hC dX5_setsClock_25 (by decide) rfl ?_
  refine z_aload_n hC dX5_setsClock_27 rfl ?_
  refine z_get 0 0 hC bl_X5 (ci := 5) rfl (by decide) rfl bw_67 rfl rfl dX5_setsClock_28 ?_
  refine z_iload_n hC dX5_setsClock_31 rfl ?_
  refine z_iload_n hC dX5_setsClock_32 rfl ?_
  refine z_callS [] hC (c_X5_at l D ct b m0) bw_70 bw_71 bw_5 bw_72 2 (by decide +kernel) rfl rfl rfl ⟨Nat.le_of_ble_eq_true rfl, Nat.le_of_ble_eq_true rfl⟩ (Nat.le_of_ble_eq_true rfl) ⟨Nat.le_of_ble_eq_true rfl, Nat.le_of_ble_eq_true rfl⟩ rfl dX5_setsClock_33 ?_
  refine zkq (G := fun v1 w1 => zG p l e _ s m args below meth c D _ _ _ _ _ _ _ (v1.toList ++ _) w1) rfl ?_
  refine z_iconst (v := 0) hC dX5_setsClock_36 (by decide) ?_
  refine z_iaddN (b + 20 + 7 * m0) (0) hC dX5_setsClock_37 ?_
  refine z_dup2 hC dX5_setsClock_38 rfl rfl ?_
  refine z_ialdN (b + 20 + 7 * m0 + 0) 1 0 hC rfl rfl (by decide) (by omega) dX5_setsClock_39 ?_
  refine z_iload hC dX5_setsClock_40 rfl ?_
  refine z_iadd hC dX5_setsClock_42 ?_
  refine z_iastN (b + 20 + 7 * m0 + 0) 1 0 hC rfl rfl (by decide) (by omega) dX5_setsClock_43 (w2 := cM q (u2 κ 1 (b + 20 + 7 * m0 + 0) ((κ 1 (b + 20 + 7 * m0 + 0)) + ((κ 1 (b + 20 + 7 * n + 0)) - (κ 1 (b + 20 + 7 * m0 + 0))))) ct) cM_a1 ?_
  obtain ⟨κ1, eκ1⟩ : ∃ zz_, zz_ = u2 κ 1 (b + 20 + 7 * m0 + 0) ((κ 1 (b + 20 + 7 * m0 + 0)) + ((κ 1 (b + 20 + 7 * n + 0)) - (κ 1 (b + 20 + 7 * m0 + 0)))) := ⟨_, rfl⟩
  rw [← eκ1]
  refine z_iconst (v := 0) hC dX5_setsClock_44 (by decide) ?_
  refine z_istore hC dX5_setsClock_45 (by decide) rfl ?_
  have loop47 : ∀ (kf i : Nat) (κx : Nat → Nat → Int32) (hki : kf + i = mdK κ b m0) (hK1 : κx 1 (b + 20 + 7 * m0 + 6) = nI (mdK κ b m0)) (hF : kfor (mdShift1 b m0 (κ 1 (b + 20 + 7 * n + 0) - κ 1 (b + 20 + 7 * m0 + 0))) kf i κx = mdClock κ b m0 n), zG p l e { frames := 1, cells := 0, slots := 0, locals := 22 } s m args below meth c D (va_A (cM q κ ct) s.heap.size) 6 (MQ below (zQ D ct (cM q κ ct) s.heap.size (zd none (cM q (mdClock κ b m0 n) ct))) args s 0 0 (va_A (cM q κ ct) s.heap.size)) 0 0 47 [some (.ref (q 0)), some (.int (nI b)), some (.int (nI m0)), some (.int (nI n)), some (.int ((κ 1 (b + 20 + 7 * n + 0)) - (κ 1 (b + 20 + 7 * m0 + 0)))), some (.int (nI i))] [] (cM q κx ct) := by
    intro kf
    induction kf with
    | zero =>
      intro i κx hki hK1 hF
      refine z_iload hC dX5_setsClock_47 rfl ?_
      refine z_aload_n hC dX5_setsClock_49 rfl ?_
      refine z_get 0 0 hC bl_X5 (ci := 5) rfl (by decide) rfl bw_67 rfl rfl dX5_setsClock_50 ?_
      refine z_iload_n hC dX5_setsClock_53 rfl ?_
      refine z_iload_n hC dX5_setsClock_54 rfl ?_
      refine z_callS [] hC (c_X5_at l D ct b m0) bw_70 bw_71 bw_5 bw_72 2 (by decide +kernel) rfl rfl rfl ⟨Nat.le_of_ble_eq_true rfl, Nat.le_of_ble_eq_true rfl⟩ (Nat.le_of_ble_eq_true rfl) ⟨Nat.le_of_ble_eq_true rfl, Nat.le_of_ble_eq_true rfl⟩ rfl dX5_setsClock_55 ?_
      refine zkq (G := fun v1 w1 => zG p l e _ s m args below meth c D _ _ _ _ _ _ _ (v1.toList ++ _) w1) rfl ?_
      refine z_bipush (v := 6) hC dX5_setsClock_58 (by decide) ?_
      refine z_iaddN (b + 20 + 7 * m0) (6) hC dX5_setsClock_60 ?_
      refine z_ialdN (b + 20 + 7 * m0 + 6) 1 0 hC rfl rfl (by decide) (by omega) dX5_setsClock_61 ?_
      refine z_top (y := nI (mdK κ b m0)) (hK1) ?_
      refine z_icmp_ge hC 90 dX5_setsClock_62 (by decide) (fun c62 => ?_) (fun c62 => (by have hh := (nI_nleI (a := mdK κ b m0) (b := i) (by omega) (by omega)).mp c62; omega))
      replace c62 := (nI_leI (a := mdK κ b m0) (b := i) (by omega) (by omega)).mp c62
      exact z_vretd hC hr dX5_setsClock_90 (Nat.zero_le _) (Nat.zero_le _) (congrArg (fun z => cM q z ct) hF) cM_adr
    | succ kf ih =>
      intro i κx hki hK1 hF
      refine z_iload hC dX5_setsClock_47 rfl ?_
      refine z_aload_n hC dX5_setsClock_49 rfl ?_
      refine z_get 0 0 hC bl_X5 (ci := 5) rfl (by decide) rfl bw_67 rfl rfl dX5_setsClock_50 ?_
      refine z_iload_n hC dX5_setsClock_53 rfl ?_
      refine z_iload_n hC dX5_setsClock_54 rfl ?_
      refine z_callS [] hC (c_X5_at l D ct b m0) bw_70 bw_71 bw_5 bw_72 2 (by decide +kernel) rfl rfl rfl ⟨Nat.le_of_ble_eq_true rfl, Nat.le_of_ble_eq_true rfl⟩ (Nat.le_of_ble_eq_true rfl) ⟨Nat.le_of_ble_eq_true rfl, Nat.le_of_ble_eq_true rfl⟩ rfl dX5_setsClock_55 ?_
      refine zkq (G := fun v1 w1 => zG p l e _ s m args below meth c D _ _ _ _ _ _ _ (v1.toList ++ _) w1) rfl ?_
      refine z_bipush (v := 6) hC dX5_setsClock_58 (by decide) ?_
      refine z_iaddN (b + 20 + 7 * m0) (6) hC dX5_setsClock_60 ?_
      refine z_ialdN (b + 20 + 7 * m0 + 6) 1 0 hC rfl rfl (by decide) (by omega) dX5_setsClock_61 ?_
      refine z_top (y := nI (mdK κ b m0)) (hK1) ?_
      refine z_icmp_ge hC 90 dX5_setsClock_62 (by decide) (fun c62 => (by have hh := (nI_leI (a := mdK κ b m0) (b := i) (by omega) (by omega)).mp c62; omega)) (fun c62 => ?_)
      replace c62 := (nI_nleI (a := mdK κ b m0) (b := i) (by omega) (by omega)).mp c62
      refine z_aload_n hC dX5_setsClock_65 rfl ?_
      refine z_get 0 0 hC bl_X5 (ci := 5) rfl (by decide) rfl bw_67 rfl rfl dX5_setsClock_66 ?_
      refine z_iload_n hC dX5_setsClock_69 rfl ?_
      refine z_iload_n hC dX5_setsClock_70 rfl ?_
      refine z_iload hC dX5_setsClock_71 rfl ?_
      refine z_callS [] hC (c_X5_storeAt l D ct b m0 i) bw_282 bw_283 bw_5 bw_284 3 (by decide +kernel) rfl rfl rfl ⟨Nat.le_of_ble_eq_true rfl, Nat.le_of_ble_eq_true rfl⟩ (Nat.le_of_ble_eq_true rfl) ⟨Nat.le_of_ble_eq_true rfl, Nat.le_of_ble_eq_true rfl⟩ rfl dX5_setsClock_73 ?_
      refine zkq (G := fun v1 w1 => zG p l e _ s m args below meth c D _ _ _ _ _ _ _ (v1.toList ++ _) w1) rfl ?_
      refine z_iconst (v := 4) hC dX5_setsClock_76 (by decide) ?_
      refine z_iaddN (b + 90 + 5 * (6 * m0 + i)) (4) hC dX5_setsClock_77 ?_
      refine z_dup2 hC dX5_setsClock_78 rfl rfl ?_
      refine z_ialdN (b + 90 + 5 * (6 * m0 + i) + 4) 1 0 hC rfl rfl (by decide) (by omega) dX5_setsClock_79 ?_
      refine z_iload hC dX5_setsClock_80 rfl ?_
      refine z_iadd hC dX5_setsClock_82 ?_
      refine z_iastN (b + 90 + 5 * (6 * m0 + i) + 4) 1 0 hC rfl rfl (by decide) (by omega) dX5_setsClock_83 (w2 := cM q (u2 κx 1 (b + 90 + 5 * (6 * m0 + i) + 4) ((κx 1 (b + 90 + 5 * (6 * m0 + i) + 4)) + ((κ 1 (b + 20 + 7 * n + 0)) - (κ 1 (b + 20 + 7 * m0 + 0))))) ct) cM_a1 ?_
      obtain ⟨κ2, eκ2⟩ : ∃ zz_, zz_ = u2 κx 1 (b + 90 + 5 * (6 * m0 + i) + 4) ((κx 1 (b + 90 + 5 * (6 * m0 + i) + 4)) + ((κ 1 (b + 20 + 7 * n + 0)) - (κ 1 (b + 20 + 7 * m0 + 0)))) := ⟨_, rfl⟩
      rw [← eκ2]
      refine z_iincN (i) hC dX5_setsClock_84 (by decide) rfl rfl ?_
      refine z_goto hC 47 dX5_setsClock_87 (by decide) ?_
      exact ih (i + 1) κ2 (by omega) (by rw [eκ2, u2_nk (by omega)]; exact hK1) (by rw [← hF, eκ2]; rfl)
  exact loop47 (mdK κ b m0) 0 κ1 (Nat.add_zero _) (by rw [eκ1, u2_nk (by omega)]; exact hK0) (by rw [eκ1]; rfl)

set_option maxRecDepth 100000 in
set_option maxHeartbeats 1000000 in
theorem c_X5_follows (l : Launch) (D : va_G) (ct : Nat → ClassId) (q : Nat → Nat) (κ : Nat → Nat → Int32) (b m0 n : Nat) (hb : b ≤ 4830) (hm : m0 < 10) (hn : n < 10) (hK : okK κ b m0) : zT l D ct yX5_follows cX5_follows 4 none 2 47 0 0 [.ref (q 0), .int (nI b), .int (nI m0), .int (nI n)] (cM q κ ct) (zd none (cM q (mdFollow κ b m0 n) ct)) := by
  refine zT_of ([some (.ref (q 0)), some (.int (nI b)), some (.int (nI m0)), some (.int (nI n))]) (by decide +kernel) rfl (Nat.le_of_ble_eq_true rfl) ?_
  intro p e s m args below meth c hC hr hnm
  refine z_aload_n hC dX5_follows_0 rfl ?_
  refine z_get 0 0 hC bl_X5 (ci := 5) rfl (by decide) rfl bw_67 rfl rfl dX5_follows_1 ?_
  refine z_iload_n hC dX5_follows_4 rfl ?_
  refine z_iload_n hC dX5_follows_5 rfl ?_
  refine z_callS [] hC (c_X5_at l D ct b m0) bw_70 bw_71 bw_5 bw_72 2 (by decide +kernel) rfl rfl rfl ⟨Nat.le_of_ble_eq_true rfl, Nat.le_of_ble_eq_true rfl⟩ (Nat.le_of_ble_eq_true rfl) ⟨Nat.le_of_ble_eq_true rfl, Nat.le_of_ble_eq_true rfl⟩ rfl dX5_follows_6 ?_
  refine zkq (G := fun v1 w1 => zG p l e _ s m args below meth c D _ _ _ _ _ _ _ (v1.toList ++ _) w1) rfl ?_
  refine z_iconst (v := 1) hC dX5_follows_9 (by decide) ?_
  refine z_iaddN (b + 20 + 7 * m0) (1) hC dX5_follows_10 ?_
  refine z_iload_n hC dX5_follows_11 rfl ?_
  refine z_iastN (b + 20 + 7 * m0 + 1) 1 0 hC rfl rfl (by decide) (by omega) dX5_follows_12 (w2 := cM q (u2 κ 1 (b + 20 + 7 * m0 + 1) (nI n)) ct) cM_a1 ?_
  obtain ⟨κ1, eκ1⟩ : ∃ zz_, zz_ = u2 κ 1 (b + 20 + 7 * m0 + 1) (nI n) := ⟨_, rfl⟩
  rw [← eκ1]
  refine z_aload_n hC dX5_follows_13 rfl ?_
  refine z_get 0 0 hC bl_X5 (ci := 5) rfl (by decide) rfl bw_67 rfl rfl dX5_follows_14 ?_
  refine z_iload_n hC dX5_follows_17 rfl ?_
  refine z_iload_n hC dX5_follows_18 rfl ?_
  refine z_callS [] hC (c_X5_at l D ct b m0) bw_70 bw_71 bw_5 bw_72 2 (by decide +kernel) rfl rfl rfl ⟨Nat.le_of_ble_eq_true rfl, Nat.le_of_ble_eq_true rfl⟩ (Nat.le_of_ble_eq_true rfl) ⟨Nat.le_of_ble_eq_true rfl, Nat.le_of_ble_eq_true rfl⟩ rfl dX5_follows_19 ?_
  refine zkq (G := fun v1 w1 => zG p l e _ s m args below meth c D _ _ _ _ _ _ _ (v1.toList ++ _) w1) rfl ?_
  refine z_iconst (v := 2) hC dX5_follows_22 (by decide) ?_
  refine z_iaddN (b + 20 + 7 * m0) (2) hC dX5_follows_23 ?_
  refine z_aload_n hC dX5_follows_24 rfl ?_
  refine z_get 0 0 hC bl_X5 (ci := 5) rfl (by decide) rfl bw_67 rfl rfl dX5_follows_25 ?_
  refine z_iload_n hC dX5_follows_28 rfl ?_
  refine z_iload_n hC dX5_follows_29 rfl ?_
  refine z_callS [] hC (c_X5_at l D ct b n) bw_70 bw_71 bw_5 bw_72 2 (by decide +kernel) rfl rfl rfl ⟨Nat.le_of_ble_eq_true rfl, Nat.le_of_ble_eq_true rfl⟩ (Nat.le_of_ble_eq_true rfl) ⟨Nat.le_of_ble_eq_true rfl, Nat.le_of_ble_eq_true rfl⟩ rfl dX5_follows_30 ?_
  refine zkq (G := fun v1 w1 => zG p l e _ s m args below meth c D _ _ _ _ _ _ _ (v1.toList ++ _) w1) rfl ?_
  refine z_iconst (v := 2) hC dX5_follows_33 (by decide) ?_
  refine z_iaddN (b + 20 + 7 * n) (2) hC dX5_follows_34 ?_
  refine z_ialdN (b + 20 + 7 * n + 2) 1 0 hC rfl rfl (by decide) (by omega) dX5_follows_35 ?_
  refine z_iconst (v := 1) hC dX5_follows_36 (by decide) ?_
  refine z_iadd hC dX5_follows_37 ?_
  refine z_iastN (b + 20 + 7 * m0 + 2) 1 0 hC rfl rfl (by decide) (by omega) dX5_follows_38 (w2 := cM q (u2 κ1 1 (b + 20 + 7 * m0 + 2) ((κ1 1 (b + 20 + 7 * n + 2)) + 1)) ct) cM_a1 ?_
  obtain ⟨κ2, eκ2⟩ : ∃ zz_, zz_ = u2 κ1 1 (b + 20 + 7 * m0 + 2) ((κ1 1 (b + 20 + 7 * n + 2)) + 1) := ⟨_, rfl⟩
  rw [← eκ2]
  refine z_aload_n hC dX5_follows_39 rfl ?_
  refine z_get 0 0 hC bl_X5 (ci := 5) rfl (by decide) rfl bw_67 rfl rfl dX5_follows_40 ?_
  refine z_iload_n hC dX5_follows_43 rfl ?_
  refine z_iload_n hC dX5_follows_44 rfl ?_
  refine z_callS [] hC (c_X5_at l D ct b m0) bw_70 bw_71 bw_5 bw_72 2 (by decide +kernel) rfl rfl rfl ⟨Nat.le_of_ble_eq_true rfl, Nat.le_of_ble_eq_true rfl⟩ (Nat.le_of_ble_eq_true rfl) ⟨Nat.le_of_ble_eq_true rfl, Nat.le_of_ble_eq_true rfl⟩ rfl dX5_follows_45 ?_
  refine zkq (G := fun v1 w1 => zG p l e _ s m args below meth c D _ _ _ _ _ _ _ (v1.toList ++ _) w1) rfl ?_
  refine z_iconst (v := 3) hC dX5_follows_48 (by decide) ?_
  refine z_iaddN (b + 20 + 7 * m0) (3) hC dX5_follows_49 ?_
  refine z_aload_n hC dX5_follows_50 rfl ?_
  refine z_get 0 0 hC bl_X5 (ci := 5) rfl (by decide) rfl bw_67 rfl rfl dX5_follows_51 ?_
  refine z_iload_n hC dX5_follows_54 rfl ?_
  refine z_bipush (v := 12) hC dX5_follows_55 (by decide) ?_
  refine z_iaddN (b) (12) hC dX5_follows_57 ?_
  refine z_ialdN (b + 12) 1 0 hC rfl rfl (by decide) (by omega) dX5_follows_58 ?_
  refine z_iastN (b + 20 + 7 * m0 + 3) 1 0 hC rfl rfl (by decide) (by omega) dX5_follows_59 (w2 := cM q (u2 κ2 1 (b + 20 + 7 * m0 + 3) (κ2 1 (b + 12))) ct) cM_a1 ?_
  obtain ⟨κ3, eκ3⟩ : ∃ zz_, zz_ = u2 κ2 1 (b + 20 + 7 * m0 + 3) (κ2 1 (b + 12)) := ⟨_, rfl⟩
  rw [← eκ3]
  refine z_aload_n hC dX5_follows_60 rfl ?_
  refine z_iload_n hC dX5_follows_61 rfl ?_
  refine z_iload_n hC dX5_follows_62 rfl ?_
  refine z_iload_n hC dX5_follows_63 rfl ?_
  refine z_callV [0, 1, 2, 3] 0 5 hC (c_X5_setsClock l D ct q κ3 b m0 n hb (by omega) (by omega) (by subst eκ3; subst eκ2; subst eκ1; exact okK_u2 (okK_u2 (okK_u2 hK (by omega)) (by omega)) (by omega))) bw_379 bw_380 bw_381 bw_5 bw_382 3 (by decide +kernel) rfl rfl rfl rfl rfl ⟨Nat.le_of_ble_eq_true rfl, Nat.le_of_ble_eq_true rfl⟩ (Nat.le_of_ble_eq_true rfl) ⟨Nat.le_of_ble_eq_true rfl, Nat.le_of_ble_eq_true rfl⟩ rfl dX5_follows_64 ?_
  refine zkd (G := fun v1 w1 => zG p l e _ s m args below meth c D _ _ _ _ _ _ _ (v1.toList ++ _) w1) (w2 := cM q (mdClock κ3 b m0 n) ct) cM_all ?_
  obtain ⟨κ4, eκ4⟩ : ∃ zz_, zz_ = (mdClock κ3 b m0 n) := ⟨_, rfl⟩
  rw [← eκ4]
  exact z_vretd hC hr dX5_follows_67 (Nat.zero_le _) (Nat.zero_le _) (by subst eκ4; subst eκ3; subst eκ2; subst eκ1; rfl) cM_adr

set_option maxRecDepth 100000 in
set_option maxHeartbeats 1000000 in
theorem c_X5_hears (l : Launch) (D : va_G) (ct : Nat → ClassId) (q : Nat → Nat) (κ : Nat → Nat → Int32) (b m0 n : Nat) (hb : b ≤ 4830) (hm : m0 < 10) (hn : n < 10) (hK : okK κ b m0) : zT l D ct yX5_hears cX5_hears 7 none 3 70 0 0 [.ref (q 0), .int (nI b), .int (nI m0), .int (nI n)] (cM q κ ct) (zd none (cM q (mdHear κ b m0 n) ct)) := by
  refine zT_of ([some (.ref (q 0)), some (.int (nI b)), some (.int (nI m0)), some (.int (nI n)), none, none, none]) (by decide +kernel) rfl (Nat.le_of_ble_eq_true rfl) ?_
  intro p e s m args below meth c hC hr hnm
  refine z_iload_n hC dX5_hears_0 rfl ?_
  refine z_iload_n hC dX5_hears_1 rfl ?_
  refine z_callS [] hC (c_X5_at l D ct b m0) bw_70 bw_71 bw_5 bw_72 2 (by decide +kernel) rfl rfl rfl ⟨Nat.le_of_ble_eq_true rfl, Nat.le_of_ble_eq_true rfl⟩ (Nat.le_of_ble_eq_true rfl) ⟨Nat.le_of_ble_eq_true rfl, Nat.le_of_ble_eq_true rfl⟩ rfl dX5_hears_2 ?_
  refine zkq (G := fun v1 w1 => zG p l e _ s m args below meth c D _ _ _ _ _ _ _ (v1.toList ++ _) w1) rfl ?_
  refine z_istore hC dX5_hears_5 (by decide) rfl ?_
  refine z_aload_n hC dX5_hears_7 rfl ?_
  refine z_get 0 0 hC bl_X5 (ci := 5) rfl (by decide) rfl bw_67 rfl rfl dX5_hears_8 ?_
  refine z_iload_n hC dX5_hears_11 rfl ?_
  refine z_iload_n hC dX5_hears_12 rfl ?_
  refine z_callS [] hC (c_X5_at l D ct b n) bw_70 bw_71 bw_5 bw_72 2 (by decide +kernel) rfl rfl rfl ⟨Nat.le_of_ble_eq_true rfl, Nat.le_of_ble_eq_true rfl⟩ (Nat.le_of_ble_eq_true rfl) ⟨Nat.le_of_ble_eq_true rfl, Nat.le_of_ble_eq_true rfl⟩ rfl dX5_hears_13 ?_
  refine zkq (G := fun v1 w1 => zG p l e _ s m args below meth c D _ _ _ _ _ _ _ (v1.toList ++ _) w1) rfl ?_
  refine z_iconst (v := 2) hC dX5_hears_16 (by decide) ?_
  refine z_iaddN (b + 20 + 7 * n) (2) hC dX5_hears_17 ?_
  refine z_ialdN (b + 20 + 7 * n + 2) 1 0 hC rfl rfl (by decide) (by omega) dX5_hears_18 ?_
  refine z_istore hC dX5_hears_19 (by decide) rfl ?_
  refine z_iload hC dX5_hears_21 rfl ?_
  refine z_iconst (v := (-1)) hC dX5_hears_23 (by decide) ?_
  refine z_icmp_eq hC 38 dX5_hears_24 (by decide) (fun c24 => ?_) (fun c24 => ?_)
  · refine z_iconst (v := 0) hC dX5_hears_38 (by decide) ?_
    refine z_istore hC dX5_hears_39 (by decide) rfl ?_
    refine z_aload_n hC dX5_hears_41 rfl ?_
    refine z_get 0 0 hC bl_X5 (ci := 5) rfl (by decide) rfl bw_67 rfl rfl dX5_hears_42 ?_
    refine z_iload hC dX5_hears_45 rfl ?_
    refine z_iconst (v := 1) hC dX5_hears_47 (by decide) ?_
    refine z_iaddN (b + 20 + 7 * m0) (1) hC dX5_hears_48 ?_
    refine z_ialdN (b + 20 + 7 * m0 + 1) 1 0 hC rfl rfl (by decide) (by omega) dX5_hears_49 ?_
    refine z_iload_n hC dX5_hears_50 rfl ?_
    refine z_icmp_ne hC 78 dX5_hears_51 (by decide) (fun c51 => ?_) (fun c51 => ?_)
    · refine z_iload hC dX5_hears_78 rfl ?_
      refine z_if_eq hC 135 dX5_hears_80 (by decide) (fun cn1 => ?_) (fun cn1 => absurd cn1 (by decide))
      exact z_vretd hC hr dX5_hears_135 (Nat.zero_le _) (Nat.zero_le _) (by first | rfl | (simp [mdHear, mdLeads, c24, c51, *]; done)) cM_adr
    · refine z_iload hC dX5_hears_54 rfl ?_
      refine z_if_eq hC 69 dX5_hears_56 (by decide) (fun cn2 => ?_) (fun cn2 => absurd cn2 (by decide))
      refine z_aload_n hC dX5_hears_69 rfl ?_
      refine z_iload_n hC dX5_hears_70 rfl ?_
      refine z_iload_n hC dX5_hears_71 rfl ?_
      refine z_callV [0, 1, 2, 3] 0 5 hC (c_X5_drops l D ct q κ b m0 hb (by omega)) bw_363 bw_364 bw_365 bw_5 bw_366 2 (by decide +kernel) rfl rfl rfl rfl rfl ⟨Nat.le_of_ble_eq_true rfl, Nat.le_of_ble_eq_true rfl⟩ (Nat.le_of_ble_eq_true rfl) ⟨Nat.le_of_ble_eq_true rfl, Nat.le_of_ble_eq_true rfl⟩ rfl dX5_hears_72 ?_
      refine zkd (G := fun v1 w1 => zG p l e _ s m args below meth c D _ _ _ _ _ _ _ (v1.toList ++ _) w1) (w2 := cM q (mdDrop κ b m0) ct) cM_all ?_
      obtain ⟨κ3, eκ3⟩ : ∃ zz_, zz_ = (mdDrop κ b m0) := ⟨_, rfl⟩
      rw [← eκ3]
      refine z_goto hC 135 dX5_hears_75 (by decide) ?_
      exact z_vretd hC hr dX5_hears_135 (Nat.zero_le _) (Nat.zero_le _) (by subst eκ3; refine congrArg (fun z => cM q z ct) ?_; first | (simp only [mdHear, mdLeads, c24, c51, and_self, if_true, if_false]; done) | (simp [mdHear, mdLeads, c24, c51]; done) | (simp [mdHear, mdLeads, c24, c51, *]; done)) cM_adr
  · refine z_iload hC dX5_hears_27 rfl ?_
    refine z_bipush (v := 9) hC dX5_hears_29 (by decide) ?_
    refine z_icmp_ge hC 38 dX5_hears_31 (by decide) (fun c31 => ?_) (fun c31 => ?_)
    · refine z_iconst (v := 0) hC dX5_hears_38 (by decide) ?_
      refine z_istore hC dX5_hears_39 (by decide) rfl ?_
      refine z_aload_n hC dX5_hears_41 rfl ?_
      refine z_get 0 0 hC bl_X5 (ci := 5) rfl (by decide) rfl bw_67 rfl rfl dX5_hears_42 ?_
      refine z_iload hC dX5_hears_45 rfl ?_
      refine z_iconst (v := 1) hC dX5_hears_47 (by decide) ?_
      refine z_iaddN (b + 20 + 7 * m0) (1) hC dX5_hears_48 ?_
      refine z_ialdN (b + 20 + 7 * m0 + 1) 1 0 hC rfl rfl (by decide) (by omega) dX5_hears_49 ?_
      refine z_iload_n hC dX5_hears_50 rfl ?_
      refine z_icmp_ne hC 78 dX5_hears_51 (by decide) (fun c51 => ?_) (fun c51 => ?_)
      · refine z_iload hC dX5_hears_78 rfl ?_
        refine z_if_eq hC 135 dX5_hears_80 (by decide) (fun cn4 => ?_) (fun cn4 => absurd cn4 (by decide))
        exact z_vretd hC hr dX5_hears_135 (Nat.zero_le _) (Nat.zero_le _) (by first | rfl | (simp [mdHear, mdLeads, c24, c31, c51, i_nlt.mpr c31, *]; done)) cM_adr
      · refine z_iload hC dX5_hears_54 rfl ?_
        refine z_if_eq hC 69 dX5_hears_56 (by decide) (fun cn5 => ?_) (fun cn5 => absurd cn5 (by decide))
        refine z_aload_n hC dX5_hears_69 rfl ?_
        refine z_iload_n hC dX5_hears_70 rfl ?_
        refine z_iload_n hC dX5_hears_71 rfl ?_
        refine z_callV [0, 1, 2, 3] 0 5 hC (c_X5_drops l D ct q κ b m0 hb (by omega)) bw_363 bw_364 bw_365 bw_5 bw_366 2 (by decide +kernel) rfl rfl rfl rfl rfl ⟨Nat.le_of_ble_eq_true rfl, Nat.le_of_ble_eq_true rfl⟩ (Nat.le_of_ble_eq_true rfl) ⟨Nat.le_of_ble_eq_true rfl, Nat.le_of_ble_eq_true rfl⟩ rfl dX5_hears_72 ?_
        refine zkd (G := fun v1 w1 => zG p l e _ s m args below meth c D _ _ _ _ _ _ _ (v1.toList ++ _) w1) (w2 := cM q (mdDrop κ b m0) ct) cM_all ?_
        obtain ⟨κ6, eκ6⟩ : ∃ zz_, zz_ = (mdDrop κ b m0) := ⟨_, rfl⟩
        rw [← eκ6]
        refine z_goto hC 135 dX5_hears_75 (by decide) ?_
        exact z_vretd hC hr dX5_hears_135 (Nat.zero_le _) (Nat.zero_le _) (by subst eκ6; refine congrArg (fun z => cM q z ct) ?_; first | (simp only [mdHear, mdLeads, c24, c31, c51, i_nlt.mpr c31, and_self, if_true, if_false]; done) | (simp [mdHear, mdLeads, c24, c31, c51, i_nlt.mpr c31]; done) | (simp [mdHear, mdLeads, c24, c31, c51, i_nlt.mpr c31, *]; done)) cM_adr
    · refine z_iconst (v := 1) hC dX5_hears_34 (by decide) ?_
      refine z_goto hC 39 dX5_hears_35 (by decide) ?_
      refine z_istore hC dX5_hears_39 (by decide) rfl ?_
      refine z_aload_n hC dX5_hears_41 rfl ?_
      refine z_get 0 0 hC bl_X5 (ci := 5) rfl (by decide) rfl bw_67 rfl rfl dX5_hears_42 ?_
      refine z_iload hC dX5_hears_45 rfl ?_
      refine z_iconst (v := 1) hC dX5_hears_47 (by decide) ?_
      refine z_iaddN (b + 20 + 7 * m0) (1) hC dX5_hears_48 ?_
      refine z_ialdN (b + 20 + 7 * m0 + 1) 1 0 hC rfl rfl (by decide) (by omega) dX5_hears_49 ?_
      refine z_iload_n hC dX5_hears_50 rfl ?_
      refine z_icmp_ne hC 78 dX5_hears_51 (by decide) (fun c51 => ?_) (fun c51 => ?_)
      · refine z_iload hC dX5_hears_78 rfl ?_
        refine z_if_eq hC 135 dX5_hears_80 (by decide) (fun cn7 => absurd cn7 (by decide)) (fun cn7 => ?_)
        refine z_aload_n hC dX5_hears_83 rfl ?_
        refine z_get 0 0 hC bl_X5 (ci := 5) rfl (by decide) rfl bw_67 rfl rfl dX5_hears_84 ?_
        refine z_iload_n hC dX5_hears_87 rfl ?_
        refine z_iload_n hC dX5_hears_88 rfl ?_
        refine z_callS [] hC (c_X5_at l D ct b n) bw_70 bw_71 bw_5 bw_72 2 (by decide +kernel) rfl rfl rfl ⟨Nat.le_of_ble_eq_true rfl, Nat.le_of_ble_eq_true rfl⟩ (Nat.le_of_ble_eq_true rfl) ⟨Nat.le_of_ble_eq_true rfl, Nat.le_of_ble_eq_true rfl⟩ rfl dX5_hears_89 ?_
        refine zkq (G := fun v1 w1 => zG p l e _ s m args below meth c D _ _ _ _ _ _ _ (v1.toList ++ _) w1) rfl ?_
        refine z_iconst (v := 1) hC dX5_hears_92 (by decide) ?_
        refine z_iaddN (b + 20 + 7 * n) (1) hC dX5_hears_93 ?_
        refine z_ialdN (b + 20 + 7 * n + 1) 1 0 hC rfl rfl (by decide) (by omega) dX5_hears_94 ?_
        refine z_iload_n hC dX5_hears_95 rfl ?_
        refine z_icmp_eq hC 135 dX5_hears_96 (by decide) (fun c96 => ?_) (fun c96 => ?_)
        · exact z_vretd hC hr dX5_hears_135 (Nat.zero_le _) (Nat.zero_le _) (by first | rfl | (simp [mdHear, mdLeads, c24, c31, c51, c96, i_nle.mp c31, *]; done)) cM_adr
        · refine z_aload_n hC dX5_hears_99 rfl ?_
          refine z_get 0 0 hC bl_X5 (ci := 5) rfl (by decide) rfl bw_67 rfl rfl dX5_hears_100 ?_
          refine z_iload hC dX5_hears_103 rfl ?_
          refine z_iconst (v := 1) hC dX5_hears_105 (by decide) ?_
          refine z_iaddN (b + 20 + 7 * m0) (1) hC dX5_hears_106 ?_
          refine z_ialdN (b + 20 + 7 * m0 + 1) 1 0 hC rfl rfl (by decide) (by omega) dX5_hears_107 ?_
          refine z_iconst (v := (-1)) hC dX5_hears_108 (by decide) ?_
          refine z_icmp_eq hC 128 dX5_hears_109 (by decide) (fun c109 => ?_) (fun c109 => ?_)
          · refine z_aload_n hC dX5_hears_128 rfl ?_
            refine z_iload_n hC dX5_hears_129 rfl ?_
            refine z_iload_n hC dX5_hears_130 rfl ?_
            refine z_iload_n hC dX5_hears_131 rfl ?_
            refine z_callV [0, 1, 2, 3] 0 5 hC (c_X5_follows l D ct q κ b m0 n hb (by omega) (by omega) hK) bw_375 bw_376 bw_377 bw_5 bw_378 3 (by decide +kernel) rfl rfl rfl rfl rfl ⟨Nat.le_of_ble_eq_true rfl, Nat.le_of_ble_eq_true rfl⟩ (Nat.le_of_ble_eq_true rfl) ⟨Nat.le_of_ble_eq_true rfl, Nat.le_of_ble_eq_true rfl⟩ rfl dX5_hears_132 ?_
            refine zkd (G := fun v1 w1 => zG p l e _ s m args below meth c D _ _ _ _ _ _ _ (v1.toList ++ _) w1) (w2 := cM q (mdFollow κ b m0 n) ct) cM_all ?_
            obtain ⟨κ8, eκ8⟩ : ∃ zz_, zz_ = (mdFollow κ b m0 n) := ⟨_, rfl⟩
            rw [← eκ8]
            exact z_vretd hC hr dX5_hears_135 (Nat.zero_le _) (Nat.zero_le _) (by subst eκ8; refine congrArg (fun z => cM q z ct) ?_; first | (simp only [mdHear, mdLeads, c24, c31, c51, c96, c109, i_nle.mp c31, and_self, if_true, if_false]; done) | (simp [mdHear, mdLeads, c24, c31, c51, c96, c109, i_nle.mp c31]; done) | (simp [mdHear, mdLeads, c24, c31, c51, c96, c109, i_nle.mp c31, *]; done)) cM_adr
          · refine z_aload_n hC dX5_hears_112 rfl ?_
            refine z_get 0 0 hC bl_X5 (ci := 5) rfl (by decide) rfl bw_67 rfl rfl dX5_hears_113 ?_
            refine z_iload hC dX5_hears_116 rfl ?_
            refine z_iconst (v := 2) hC dX5_hears_118 (by decide) ?_
            refine z_iaddN (b + 20 + 7 * m0) (2) hC dX5_hears_119 ?_
            refine z_ialdN (b + 20 + 7 * m0 + 2) 1 0 hC rfl rfl (by decide) (by omega) dX5_hears_120 ?_
            refine z_iload hC dX5_hears_121 rfl ?_
            refine z_iconst (v := 1) hC dX5_hears_123 (by decide) ?_
            refine z_iadd hC dX5_hears_124 ?_
            refine z_icmp_le hC 135 dX5_hears_125 (by decide) (fun c125 => ?_) (fun c125 => ?_)
            · exact z_vretd hC hr dX5_hears_135 (Nat.zero_le _) (Nat.zero_le _) (by first | rfl | (simp [mdHear, mdLeads, c24, c31, c51, c96, c109, c125, i_nle.mp c31, i_nlt.mpr c125, *]; done)) cM_adr
            · refine z_aload_n hC dX5_hears_128 rfl ?_
              refine z_iload_n hC dX5_hears_129 rfl ?_
              refine z_iload_n hC dX5_hears_130 rfl ?_
              refine z_iload_n hC dX5_hears_131 rfl ?_
              refine z_callV [0, 1, 2, 3] 0 5 hC (c_X5_follows l D ct q κ b m0 n hb (by omega) (by omega) hK) bw_375 bw_376 bw_377 bw_5 bw_378 3 (by decide +kernel) rfl rfl rfl rfl rfl ⟨Nat.le_of_ble_eq_true rfl, Nat.le_of_ble_eq_true rfl⟩ (Nat.le_of_ble_eq_true rfl) ⟨Nat.le_of_ble_eq_true rfl, Nat.le_of_ble_eq_true rfl⟩ rfl dX5_hears_132 ?_
              refine zkd (G := fun v1 w1 => zG p l e _ s m args below meth c D _ _ _ _ _ _ _ (v1.toList ++ _) w1) (w2 := cM q (mdFollow κ b m0 n) ct) cM_all ?_
              obtain ⟨κ9, eκ9⟩ : ∃ zz_, zz_ = (mdFollow κ b m0 n) := ⟨_, rfl⟩
              rw [← eκ9]
              exact z_vretd hC hr dX5_hears_135 (Nat.zero_le _) (Nat.zero_le _) (by subst eκ9; refine congrArg (fun z => cM q z ct) ?_; first | (simp only [mdHear, mdLeads, c24, c31, c51, c96, c109, c125, i_nle.mp c31, i_nle.mp c125, and_self, if_true, if_false]; done) | (simp [mdHear, mdLeads, c24, c31, c51, c96, c109, c125, i_nle.mp c31, i_nle.mp c125]; done) | (simp [mdHear, mdLeads, c24, c31, c51, c96, c109, c125, i_nle.mp c31, i_nle.mp c125, *]; done)) cM_adr
      · refine z_iload hC dX5_hears_54 rfl ?_
        refine z_if_eq hC 69 dX5_hears_56 (by decide) (fun cn10 => absurd cn10 (by decide)) (fun cn10 => ?_)
        refine z_aload_n hC dX5_hears_59 rfl ?_
        refine z_iload_n hC dX5_hears_60 rfl ?_
        refine z_iload_n hC dX5_hears_61 rfl ?_
        refine z_iload_n hC dX5_hears_62 rfl ?_
        refine z_callV [0, 1, 2, 3] 0 5 hC (c_X5_follows l D ct q κ b m0 n hb (by omega) (by omega) hK) bw_375 bw_376 bw_377 bw_5 bw_378 3 (by decide +kernel) rfl rfl rfl rfl rfl ⟨Nat.le_of_ble_eq_true rfl, Nat.le_of_ble_eq_true rfl⟩ (Nat.le_of_ble_eq_true rfl) ⟨Nat.le_of_ble_eq_true rfl, Nat.le_of_ble_eq_true rfl⟩ rfl dX5_hears_63 ?_
        refine zkd (G := fun v1 w1 => zG p l e _ s m args below meth c D _ _ _ _ _ _ _ (v1.toList ++ _) w1) (w2 := cM q (mdFollow κ b m0 n) ct) cM_all ?_
        obtain ⟨κ11, eκ11⟩ : ∃ zz_, zz_ = (mdFollow κ b m0 n) := ⟨_, rfl⟩
        rw [← eκ11]
        refine z_goto hC 135 dX5_hears_66 (by decide) ?_
        exact z_vretd hC hr dX5_hears_135 (Nat.zero_le _) (Nat.zero_le _) (by subst eκ11; refine congrArg (fun z => cM q z ct) ?_; first | (simp only [mdHear, mdLeads, c24, c31, c51, i_nle.mp c31, and_self, if_true, if_false]; done) | (simp [mdHear, mdLeads, c24, c31, c51, i_nle.mp c31]; done) | (simp [mdHear, mdLeads, c24, c31, c51, i_nle.mp c31, *]; done)) cM_adr

set_option maxRecDepth 100000 in
set_option maxHeartbeats 1000000 in
theorem c_X5_areSame (l : Launch) (D : va_G) (ct : Nat → ClassId) (q : Nat → Nat) (κ : Nat → Nat → Int32) (i j : Nat) (hi : i + 1 < 5520) (hj : j + 1 < 5520) : zT l D ct yX5_areSame cX5_areSame 3 (some .boolean) 0 0 0 0 [.ref (q 0), .int (nI i), .int (nI j)] (cM q κ ct) (zd (some (.int (bI (mdSame κ i j)))) (cM q κ ct)) := by
  refine zT_of ([some (.ref (q 0)), some (.int (nI i)), some (.int (nI j))]) (by decide +kernel) rfl (Nat.le_of_ble_eq_true rfl) ?_
  intro p e s m args below meth c hC hr hnm
  refine z_aload_n hC dX5_areSame_0 rfl ?_
  refine z_get 0 0 hC bl_X5 (ci := 5) rfl (by decide) rfl bw_67 rfl rfl dX5_areSame_1 ?_
  refine z_iload_n hC dX5_areSame_4 rfl ?_
  refine z_ialdN (i) 1 0 hC rfl rfl (by decide) (by omega) dX5_areSame_5 ?_
  refine z_aload_n hC dX5_areSame_6 rfl ?_
  refine z_get 0 0 hC bl_X5 (ci := 5) rfl (by decide) rfl bw_67 rfl rfl dX5_areSame_7 ?_
  refine z_iload_n hC dX5_areSame_10 rfl ?_
  refine z_ialdN (j) 1 0 hC rfl rfl (by decide) (by omega) dX5_areSame_11 ?_
  refine z_icmp_ne hC 38 dX5_areSame_12 (by decide) (fun c12 => ?_) (fun c12 => ?_)
  · refine z_iconst (v := 0) hC dX5_areSame_38 (by decide) ?_
    exact z_zretd hC hr (rfl) dX5_areSame_39 (Nat.zero_le _) (Nat.zero_le _) (by clear hC hr hnm; first | rfl | (simp [mdSame, bI, c12, *]; done) | (simp_all [mdSame, bI, c12]; done)) (by first | rfl | (simp [mdSame, bI, c12, *]; done)) cM_adr
  · refine z_aload_n hC dX5_areSame_15 rfl ?_
    refine z_get 0 0 hC bl_X5 (ci := 5) rfl (by decide) rfl bw_67 rfl rfl dX5_areSame_16 ?_
    refine z_iload_n hC dX5_areSame_19 rfl ?_
    refine z_iconst (v := 1) hC dX5_areSame_20 (by decide) ?_
    refine z_iaddN (i) (1) hC dX5_areSame_21 ?_
    refine z_ialdN (i + 1) 1 0 hC rfl rfl (by decide) (by omega) dX5_areSame_22 ?_
    refine z_aload_n hC dX5_areSame_23 rfl ?_
    refine z_get 0 0 hC bl_X5 (ci := 5) rfl (by decide) rfl bw_67 rfl rfl dX5_areSame_24 ?_
    refine z_iload_n hC dX5_areSame_27 rfl ?_
    refine z_iconst (v := 1) hC dX5_areSame_28 (by decide) ?_
    refine z_iaddN (j) (1) hC dX5_areSame_29 ?_
    refine z_ialdN (j + 1) 1 0 hC rfl rfl (by decide) (by omega) dX5_areSame_30 ?_
    refine z_icmp_ne hC 38 dX5_areSame_31 (by decide) (fun c31 => ?_) (fun c31 => ?_)
    · refine z_iconst (v := 0) hC dX5_areSame_38 (by decide) ?_
      exact z_zretd hC hr (rfl) dX5_areSame_39 (Nat.zero_le _) (Nat.zero_le _) (by clear hC hr hnm; first | rfl | (simp [mdSame, bI, c12, c31, *]; done) | (simp_all [mdSame, bI, c12, c31]; done)) (by first | rfl | (simp [mdSame, bI, c12, c31, *]; done)) cM_adr
    · refine z_iconst (v := 1) hC dX5_areSame_34 (by decide) ?_
      refine z_goto hC 39 dX5_areSame_35 (by decide) ?_
      exact z_zretd hC hr (rfl) dX5_areSame_39 (Nat.zero_le _) (Nat.zero_le _) (by clear hC hr hnm; first | rfl | (simp [mdSame, bI, c12, c31, *]; done) | (simp_all [mdSame, bI, c12, c31]; done)) (by first | rfl | (simp [mdSame, bI, c12, c31, *]; done)) cM_adr

set_option maxRecDepth 100000 in
set_option maxHeartbeats 1000000 in
theorem c_X5_isCollected (l : Launch) (D : va_G) (ct : Nat → ClassId) (q : Nat → Nat) (κ : Nat → Nat → Int32) (b i : Nat) (hb : b ≤ 4830) (hi : i + 5 ≤ 5520) (hK : okC κ b) (R : Bool) (hR : mdColl κ b i = R) : zT l D ct yX5_isCollected cX5_isCollected 5 (some .boolean) 1 22 0 0 [.ref (q 0), .int (nI b), .int (nI i)] (cM q κ ct) (zd (some (.int (bI R))) (cM q κ ct)) := by
  refine zT_of ([some (.ref (q 0)), some (.int (nI b)), some (.int (nI i)), none, none]) (by decide +kernel) rfl (Nat.le_of_ble_eq_true rfl) ?_
  intro p e s m args below meth c hC hr hnm
  obtain ⟨hK0, hK6⟩ := hK
  refine z_iconst (v := 0) hC dX5_isCollected_0 (by decide) ?_
  refine z_istore_n hC dX5_isCollected_1 (by decide) rfl ?_
  refine z_iconst (v := 0) hC dX5_isCollected_2 (by decide) ?_
  refine z_istore hC dX5_isCollected_3 (by decide) rfl ?_
  have loop5 : ∀ (kf k : Nat) (r : Bool) (hki : kf + k = mdC κ b) (hF : kfor (fun k r => r || mdSame κ i (b + 390 + 5 * k)) kf k r = R), zG p l e { frames := 1, cells := 0, slots := 0, locals := 22 } s m args below meth c D (va_A (cM q κ ct) s.heap.size) 5 (MQ below (zQ D ct (cM q κ ct) s.heap.size (zd (some (.int (bI R))) (cM q κ ct))) args s 0 0 (va_A (cM q κ ct) s.heap.size)) 0 0 5 [some (.ref (q 0)), some (.int (nI b)), some (.int (nI i)), some (.int (bI r)), some (.int (nI k))] [] (cM q κ ct) := by
    intro kf
    induction kf with
    | zero =>
      intro k r hki hF
      refine z_iload hC dX5_isCollected_5 rfl ?_
      refine z_aload_n hC dX5_isCollected_7 rfl ?_
      refine z_get 0 0 hC bl_X5 (ci := 5) rfl (by decide) rfl bw_67 rfl rfl dX5_isCollected_8 ?_
      refine z_iload_n hC dX5_isCollected_11 rfl ?_
      refine z_bipush (v := 19) hC dX5_isCollected_12 (by decide) ?_
      refine z_iaddN (b) (19) hC dX5_isCollected_14 ?_
      refine z_ialdN (b + 19) 1 0 hC rfl rfl (by decide) (by omega) dX5_isCollected_15 ?_
      refine z_top (y := nI (mdC κ b)) (hK0) ?_
      refine z_icmp_ge hC 49 dX5_isCollected_16 (by decide) (fun c16 => ?_) (fun c16 => (by have hh := (nI_nleI (a := mdC κ b) (b := k) (by omega) (by omega)).mp c16; omega))
      replace c16 := (nI_leI (a := mdC κ b) (b := k) (by omega) (by omega)).mp c16
      refine z_iload_n hC dX5_isCollected_49 rfl ?_
      exact z_zretd hC hr (bI_nar _) dX5_isCollected_50 (Nat.zero_le _) (Nat.zero_le _) (by rw [← hF]; rfl) (by first | rfl | (simp [c16, *]; done)) cM_adr
    | succ kf ih =>
      intro k r hki hF
      refine z_iload hC dX5_isCollected_5 rfl ?_
      refine z_aload_n hC dX5_isCollected_7 rfl ?_
      refine z_get 0 0 hC bl_X5 (ci := 5) rfl (by decide) rfl bw_67 rfl rfl dX5_isCollected_8 ?_
      refine z_iload_n hC dX5_isCollected_11 rfl ?_
      refine z_bipush (v := 19) hC dX5_isCollected_12 (by decide) ?_
      refine z_iaddN (b) (19) hC dX5_isCollected_14 ?_
      refine z_ialdN (b + 19) 1 0 hC rfl rfl (by decide) (by omega) dX5_isCollected_15 ?_
      refine z_top (y := nI (mdC κ b)) (hK0) ?_
      refine z_icmp_ge hC 49 dX5_isCollected_16 (by decide) (fun c16 => (by have hh := (nI_leI (a := mdC κ b) (b := k) (by omega) (by omega)).mp c16; omega)) (fun c16 => ?_)
      replace c16 := (nI_nleI (a := mdC κ b) (b := k) (by omega) (by omega)).mp c16
      refine z_iload_n hC dX5_isCollected_19 rfl ?_
      refine z_if_ne hC 37 dX5_isCollected_20 (by decide) (fun c20 => ?_) (fun c20 => ?_)
      · rw [bI_1] at c20
        refine z_iconst (v := 1) hC dX5_isCollected_37 (by decide) ?_
        refine z_goto hC 42 dX5_isCollected_38 (by decide) ?_
        refine z_istore_n hC dX5_isCollected_42 (by decide) rfl ?_
        refine z_iincN (k) hC dX5_isCollected_43 (by decide) rfl rfl ?_
        refine z_goto hC 5 dX5_isCollected_46 (by decide) ?_
        exact ih (k + 1) true (by omega) (by rw [← hF]; simp [kfor, c16, c20])
      · rw [bI_0] at c20
        refine z_aload_n hC dX5_isCollected_23 rfl ?_
        refine z_iload_n hC dX5_isCollected_24 rfl ?_
        refine z_iload_n hC dX5_isCollected_25 rfl ?_
        refine z_iload hC dX5_isCollected_26 rfl ?_
        refine z_callS [] hC (c_X5_listAt l D ct b k) bw_395 bw_396 bw_5 bw_397 2 (by decide +kernel) rfl rfl rfl ⟨Nat.le_of_ble_eq_true rfl, Nat.le_of_ble_eq_true rfl⟩ (Nat.le_of_ble_eq_true rfl) ⟨Nat.le_of_ble_eq_true rfl, Nat.le_of_ble_eq_true rfl⟩ rfl dX5_isCollected_28 ?_
        refine zkq (G := fun v1 w1 => zG p l e _ s m args below meth c D _ _ _ _ _ _ _ (v1.toList ++ _) w1) rfl ?_
        refine z_callV [0, 1, 2, 3] 0 5 hC (c_X5_areSame l D ct q κ i (b + 390 + 5 * k) (by omega) (by omega)) bw_398 bw_399 bw_400 bw_5 bw_401 2 (by decide +kernel) rfl rfl rfl rfl rfl ⟨Nat.le_of_ble_eq_true rfl, Nat.le_of_ble_eq_true rfl⟩ (Nat.le_of_ble_eq_true rfl) ⟨Nat.le_of_ble_eq_true rfl, Nat.le_of_ble_eq_true rfl⟩ rfl dX5_isCollected_31 ?_
        refine zkq (G := fun v1 w1 => zG p l e _ s m args below meth c D _ _ _ _ _ _ _ (v1.toList ++ _) w1) rfl ?_
        refine z_if_eq hC 41 dX5_isCollected_34 (by decide) (fun c34 => ?_) (fun c34 => ?_)
        · rw [bI_0] at c34
          refine z_iconst (v := 0) hC dX5_isCollected_41 (by decide) ?_
          refine z_istore_n hC dX5_isCollected_42 (by decide) rfl ?_
          refine z_iincN (k) hC dX5_isCollected_43 (by decide) rfl rfl ?_
          refine z_goto hC 5 dX5_isCollected_46 (by decide) ?_
          exact ih (k + 1) false (by omega) (by rw [← hF]; simp [kfor, c16, c20, c34])
        · rw [bI_1] at c34
          refine z_iconst (v := 1) hC dX5_isCollected_37 (by decide) ?_
          refine z_goto hC 42 dX5_isCollected_38 (by decide) ?_
          refine z_istore_n hC dX5_isCollected_42 (by decide) rfl ?_
          refine z_iincN (k) hC dX5_isCollected_43 (by decide) rfl rfl ?_
          refine z_goto hC 5 dX5_isCollected_46 (by decide) ?_
          exact ih (k + 1) true (by omega) (by rw [← hF]; simp [kfor, c16, c20, c34])
  exact loop5 (mdC κ b) 0 false (Nat.add_zero _) hR

set_option maxRecDepth 100000 in
set_option maxHeartbeats 1000000 in
theorem c_X5_isStored (l : Launch) (D : va_G) (ct : Nat → ClassId) (q : Nat → Nat) (κ : Nat → Nat → Int32) (b n i : Nat) (hb : b ≤ 4830) (hn : n < 10) (hi : i + 5 ≤ 5520) (hK : okK κ b n) (R : Bool) (hR : mdStor κ b n i = R) : zT l D ct yX5_isStored cX5_isStored 6 (some .boolean) 1 22 0 0 [.ref (q 0), .int (nI b), .int (nI n), .int (nI i)] (cM q κ ct) (zd (some (.int (bI R))) (cM q κ ct)) := by
  refine zT_of ([some (.ref (q 0)), some (.int (nI b)), some (.int (nI n)), some (.int (nI i)), none, none]) (by decide +kernel) rfl (Nat.le_of_ble_eq_true rfl) ?_
  intro p e s m args below meth c hC hr hnm
  obtain ⟨hK0, hK6⟩ := hK
  refine z_iconst (v := 0) hC dX5_isStored_0 (by decide) ?_
  refine z_istore hC dX5_isStored_1 (by decide) rfl ?_
  refine z_iconst (v := 0) hC dX5_isStored_3 (by decide) ?_
  refine z_istore hC dX5_isStored_4 (by decide) rfl ?_
  have loop6 : ∀ (kf k : Nat) (r : Bool) (hki : kf + k = mdK κ b n) (hF : kfor (fun k r => r || mdSame κ i (b + 90 + 5 * (6 * n + k))) kf k r = R), zG p l e { frames := 1, cells := 0, slots := 0, locals := 22 } s m args below meth c D (va_A (cM q κ ct) s.heap.size) 6 (MQ below (zQ D ct (cM q κ ct) s.heap.size (zd (some (.int (bI R))) (cM q κ ct))) args s 0 0 (va_A (cM q κ ct) s.heap.size)) 0 0 6 [some (.ref (q 0)), some (.int (nI b)), some (.int (nI n)), some (.int (nI i)), some (.int (bI r)), some (.int (nI k))] [] (cM q κ ct) := by
    intro kf
    induction kf with
    | zero =>
      intro k r hki hF
      refine z_iload hC dX5_isStored_6 rfl ?_
      refine z_aload_n hC dX5_isStored_8 rfl ?_
      refine z_get 0 0 hC bl_X5 (ci := 5) rfl (by decide) rfl bw_67 rfl rfl dX5_isStored_9 ?_
      refine z_iload_n hC dX5_isStored_12 rfl ?_
      refine z_iload_n hC dX5_isStored_13 rfl ?_
      refine z_callS [] hC (c_X5_at l D ct b n) bw_70 bw_71 bw_5 bw_72 2 (by decide +kernel) rfl rfl rfl ⟨Nat.le_of_ble_eq_true rfl, Nat.le_of_ble_eq_true rfl⟩ (Nat.le_of_ble_eq_true rfl) ⟨Nat.le_of_ble_eq_true rfl, Nat.le_of_ble_eq_true rfl⟩ rfl dX5_isStored_14 ?_
      refine zkq (G := fun v1 w1 => zG p l e _ s m args below meth c D _ _ _ _ _ _ _ (v1.toList ++ _) w1) rfl ?_
      refine z_bipush (v := 6) hC dX5_isStored_17 (by decide) ?_
      refine z_iaddN (b + 20 + 7 * n) (6) hC dX5_isStored_19 ?_
      refine z_ialdN (b + 20 + 7 * n + 6) 1 0 hC rfl rfl (by decide) (by omega) dX5_isStored_20 ?_
      refine z_top (y := nI (mdK κ b n)) (hK0) ?_
      refine z_icmp_ge hC 57 dX5_isStored_21 (by decide) (fun c21 => ?_) (fun c21 => (by have hh := (nI_nleI (a := mdK κ b n) (b := k) (by omega) (by omega)).mp c21; omega))
      replace c21 := (nI_leI (a := mdK κ b n) (b := k) (by omega) (by omega)).mp c21
      refine z_iload hC dX5_isStored_57 rfl ?_
      exact z_zretd hC hr (bI_nar _) dX5_isStored_59 (Nat.zero_le _) (Nat.zero_le _) (by rw [← hF]; rfl) (by first | rfl | (simp [c21, *]; done)) cM_adr
    | succ kf ih =>
      intro k r hki hF
      refine z_iload hC dX5_isStored_6 rfl ?_
      refine z_aload_n hC dX5_isStored_8 rfl ?_
      refine z_get 0 0 hC bl_X5 (ci := 5) rfl (by decide) rfl bw_67 rfl rfl dX5_isStored_9 ?_
      refine z_iload_n hC dX5_isStored_12 rfl ?_
      refine z_iload_n hC dX5_isStored_13 rfl ?_
      refine z_callS [] hC (c_X5_at l D ct b n) bw_70 bw_71 bw_5 bw_72 2 (by decide +kernel) rfl rfl rfl ⟨Nat.le_of_ble_eq_true rfl, Nat.le_of_ble_eq_true rfl⟩ (Nat.le_of_ble_eq_true rfl) ⟨Nat.le_of_ble_eq_true rfl, Nat.le_of_ble_eq_true rfl⟩ rfl dX5_isStored_14 ?_
      refine zkq (G := fun v1 w1 => zG p l e _ s m args below meth c D _ _ _ _ _ _ _ (v1.toList ++ _) w1) rfl ?_
      refine z_bipush (v := 6) hC dX5_isStored_17 (by decide) ?_
      refine z_iaddN (b + 20 + 7 * n) (6) hC dX5_isStored_19 ?_
      refine z_ialdN (b + 20 + 7 * n + 6) 1 0 hC rfl rfl (by decide) (by omega) dX5_isStored_20 ?_
      refine z_top (y := nI (mdK κ b n)) (hK0) ?_
      refine z_icmp_ge hC 57 dX5_isStored_21 (by decide) (fun c21 => (by have hh := (nI_leI (a := mdK κ b n) (b := k) (by omega) (by omega)).mp c21; omega)) (fun c21 => ?_)
      replace c21 := (nI_nleI (a := mdK κ b n) (b := k) (by omega) (by omega)).mp c21
      refine z_iload hC dX5_isStored_24 rfl ?_
      refine z_if_ne hC 44 dX5_isStored_26 (by decide) (fun c26 => ?_) (fun c26 => ?_)
      · rw [bI_1] at c26
        refine z_iconst (v := 1) hC dX5_isStored_44 (by decide) ?_
        refine z_goto hC 49 dX5_isStored_45 (by decide) ?_
        refine z_istore hC dX5_isStored_49 (by decide) rfl ?_
        refine z_iincN (k) hC dX5_isStored_51 (by decide) rfl rfl ?_
        refine z_goto hC 6 dX5_isStored_54 (by decide) ?_
        exact ih (k + 1) true (by omega) (by rw [← hF]; simp [kfor, c21, c26])
      · rw [bI_0] at c26
        refine z_aload_n hC dX5_isStored_29 rfl ?_
        refine z_iload_n hC dX5_isStored_30 rfl ?_
        refine z_iload_n hC dX5_isStored_31 rfl ?_
        refine z_iload_n hC dX5_isStored_32 rfl ?_
        refine z_iload hC dX5_isStored_33 rfl ?_
        refine z_callS [] hC (c_X5_storeAt l D ct b n k) bw_282 bw_283 bw_5 bw_284 3 (by decide +kernel) rfl rfl rfl ⟨Nat.le_of_ble_eq_true rfl, Nat.le_of_ble_eq_true rfl⟩ (Nat.le_of_ble_eq_true rfl) ⟨Nat.le_of_ble_eq_true rfl, Nat.le_of_ble_eq_true rfl⟩ rfl dX5_isStored_35 ?_
        refine zkq (G := fun v1 w1 => zG p l e _ s m args below meth c D _ _ _ _ _ _ _ (v1.toList ++ _) w1) rfl ?_
        refine z_callV [0, 1, 2, 3] 0 5 hC (c_X5_areSame l D ct q κ i (b + 90 + 5 * (6 * n + k)) (by omega) (by omega)) bw_398 bw_399 bw_400 bw_5 bw_401 2 (by decide +kernel) rfl rfl rfl rfl rfl ⟨Nat.le_of_ble_eq_true rfl, Nat.le_of_ble_eq_true rfl⟩ (Nat.le_of_ble_eq_true rfl) ⟨Nat.le_of_ble_eq_true rfl, Nat.le_of_ble_eq_true rfl⟩ rfl dX5_isStored_38 ?_
        refine zkq (G := fun v1 w1 => zG p l e _ s m args below meth c D _ _ _ _ _ _ _ (v1.toList ++ _) w1) rfl ?_
        refine z_if_eq hC 48 dX5_isStored_41 (by decide) (fun c41 => ?_) (fun c41 => ?_)
        · rw [bI_0] at c41
          refine z_iconst (v := 0) hC dX5_isStored_48 (by decide) ?_
          refine z_istore hC dX5_isStored_49 (by decide) rfl ?_
          refine z_iincN (k) hC dX5_isStored_51 (by decide) rfl rfl ?_
          refine z_goto hC 6 dX5_isStored_54 (by decide) ?_
          exact ih (k + 1) false (by omega) (by rw [← hF]; simp [kfor, c21, c26, c41])
        · rw [bI_1] at c41
          refine z_iconst (v := 1) hC dX5_isStored_44 (by decide) ?_
          refine z_goto hC 49 dX5_isStored_45 (by decide) ?_
          refine z_istore hC dX5_isStored_49 (by decide) rfl ?_
          refine z_iincN (k) hC dX5_isStored_51 (by decide) rfl rfl ?_
          refine z_goto hC 6 dX5_isStored_54 (by decide) ?_
          exact ih (k + 1) true (by omega) (by rw [← hF]; simp [kfor, c21, c26, c41])
  exact loop6 (mdK κ b n) 0 false (Nat.add_zero _) hR

set_option maxRecDepth 100000 in
set_option maxHeartbeats 1000000 in
theorem c_X5_writes (l : Launch) (D : va_G) (ct : Nat → ClassId) (q : Nat → Nat) (κ : Nat → Nat → Int32) (i j : Nat) (v : Int32) (hi : i + 5 ≤ 5520) (hj : j + 5 ≤ 5520) : zT l D ct yX5_writes cX5_writes 5 none 0 0 0 0 [.ref (q 0), .int (nI i), .int (nI j), .int v] (cM q κ ct) (zd none (cM q (mdWrite κ i j v) ct)) := by
  refine zT_of ([some (.ref (q 0)), some (.int (nI i)), some (.int (nI j)), some (.int v), none]) (by decide +kernel) rfl (Nat.le_of_ble_eq_true rfl) ?_
  intro p e s m args below meth c hC hr hnm
  refine z_iconst (v := 0) hC dX5_writes_0 (by decide) ?_
  refine z_istore hC dX5_writes_1 (by decide) rfl ?_
  have loop3 : ∀ (kf k : Nat) (κx : Nat → Nat → Int32) (hki : kf + k = 5) (hF : kfor (mdWr1 i j) kf k κx = kfor (mdWr1 i j) 5 0 κ), zG p l e { frames := 0, cells := 0, slots := 0, locals := 0 } s m args below meth c D (va_A (cM q κ ct) s.heap.size) 5 (MQ below (zQ D ct (cM q κ ct) s.heap.size (zd none (cM q (mdWrite κ i j v) ct))) args s 0 0 (va_A (cM q κ ct) s.heap.size)) 0 0 3 [some (.ref (q 0)), some (.int (nI i)), some (.int (nI j)), some (.int v), some (.int (nI k))] [] (cM q κx ct) := by
    intro kf
    induction kf with
    | zero =>
      intro k κx hki hF
      refine z_iload hC dX5_writes_3 rfl ?_
      refine z_iconst (v := 5) hC dX5_writes_5 (by decide) ?_
      refine z_icmp_ge hC 33 dX5_writes_6 (by decide) (fun c6 => ?_) (fun c6 => (by have hh := (nI_nleI (a := 5) (b := k) (by omega) (by omega)).mp c6; omega))
      replace c6 := (nI_leI (a := 5) (b := k) (by omega) (by omega)).mp c6
      refine z_aload_n hC dX5_writes_33 rfl ?_
      refine z_get 0 0 hC bl_X5 (ci := 5) rfl (by decide) rfl bw_67 rfl rfl dX5_writes_34 ?_
      refine z_iload_n hC dX5_writes_37 rfl ?_
      refine z_iconst (v := 4) hC dX5_writes_38 (by decide) ?_
      refine z_iaddN (j) (4) hC dX5_writes_39 ?_
      refine z_dup2 hC dX5_writes_40 rfl rfl ?_
      refine z_ialdN (j + 4) 1 0 hC rfl rfl (by decide) (by omega) dX5_writes_41 ?_
      refine z_iload_n hC dX5_writes_42 rfl ?_
      refine z_iadd hC dX5_writes_43 ?_
      refine z_iastN (j + 4) 1 0 hC rfl rfl (by decide) (by omega) dX5_writes_44 (w2 := cM q (u2 κx 1 (j + 4) ((κx 1 (j + 4)) + v)) ct) cM_a1 ?_
      obtain ⟨κ1, eκ1⟩ : ∃ zz_, zz_ = u2 κx 1 (j + 4) ((κx 1 (j + 4)) + v) := ⟨_, rfl⟩
      rw [← eκ1]
      exact z_vretd hC hr dX5_writes_45 (Nat.zero_le _) (Nat.zero_le _) (congrArg (fun z => cM q z ct) (by rw [eκ1, mdWrite, ← hF]; rfl)) cM_adr
    | succ kf ih =>
      intro k κx hki hF
      refine z_iload hC dX5_writes_3 rfl ?_
      refine z_iconst (v := 5) hC dX5_writes_5 (by decide) ?_
      refine z_icmp_ge hC 33 dX5_writes_6 (by decide) (fun c6 => (by have hh := (nI_leI (a := 5) (b := k) (by omega) (by omega)).mp c6; omega)) (fun c6 => ?_)
      replace c6 := (nI_nleI (a := 5) (b := k) (by omega) (by omega)).mp c6
      refine z_aload_n hC dX5_writes_9 rfl ?_
      refine z_get 0 0 hC bl_X5 (ci := 5) rfl (by decide) rfl bw_67 rfl rfl dX5_writes_10 ?_
      refine z_iload_n hC dX5_writes_13 rfl ?_
      refine z_iload hC dX5_writes_14 rfl ?_
      refine z_iaddN (j) (k) hC dX5_writes_16 ?_
      refine z_aload_n hC dX5_writes_17 rfl ?_
      refine z_get 0 0 hC bl_X5 (ci := 5) rfl (by decide) rfl bw_67 rfl rfl dX5_writes_18 ?_
      refine z_iload_n hC dX5_writes_21 rfl ?_
      refine z_iload hC dX5_writes_22 rfl ?_
      refine z_iaddN (i) (k) hC dX5_writes_24 ?_
      refine z_ialdN (i + k) 1 0 hC rfl rfl (by decide) (by omega) dX5_writes_25 ?_
      refine z_iastN (j + k) 1 0 hC rfl rfl (by decide) (by omega) dX5_writes_26 (w2 := cM q (u2 κx 1 (j + k) (κx 1 (i + k))) ct) cM_a1 ?_
      obtain ⟨κ2, eκ2⟩ : ∃ zz_, zz_ = u2 κx 1 (j + k) (κx 1 (i + k)) := ⟨_, rfl⟩
      rw [← eκ2]
      refine z_iincN (k) hC dX5_writes_27 (by decide) rfl rfl ?_
      refine z_goto hC 3 dX5_writes_30 (by decide) ?_
      exact ih (k + 1) κ2 (by omega) (by rw [← hF, eκ2]; rfl)
  exact loop3 5 0 κ rfl rfl

set_option maxRecDepth 100000 in
set_option maxHeartbeats 1000000 in
theorem c_X5_hands (l : Launch) (D : va_G) (ct : Nat → ClassId) (q : Nat → Nat) (κ : Nat → Nat → Int32) (b i n : Nat) (v : Int32) (hb : b ≤ 4830) (hi : i + 5 ≤ 5520) (hn : n < 10) (hK : okK κ b n) (hC0 : okC κ b) (hC1 : n = 0 → mdColl κ b i = false → mdC κ b < 60) : zT l D ct yX5_hands cX5_hands 5 (some .boolean) 2 47 0 0 [.ref (q 0), .int (nI b), .int (nI i), .int (nI n), .int v] (cM q κ ct) (zd (some (.int (bI (mdHandR κ b i n)))) (cM q (mdHand κ b i n v) ct)) := by
  refine zT_of ([some (.ref (q 0)), some (.int (nI b)), some (.int (nI i)), some (.int (nI n)), some (.int v)]) (by decide +kernel) rfl (Nat.le_of_ble_eq_true rfl) ?_
  intro p e s m args below meth c hC hr hnm
  have hK6 := hK.2
  refine z_iload_n hC dX5_hands_0 rfl ?_
  refine z_if_ne hC 64 dX5_hands_1 (by decide) (fun c1 => ?_) (fun c1 => ?_)
  · replace c1 := (nI_neI (a := n) (b := 0) (by omega) (by omega)).mp c1
    refine z_aload_n hC dX5_hands_64 rfl ?_
    refine z_iload_n hC dX5_hands_65 rfl ?_
    refine z_iload_n hC dX5_hands_66 rfl ?_
    refine z_iload_n hC dX5_hands_67 rfl ?_
    refine z_callV [0, 1, 2, 3] 0 5 hC (c_X5_isStored l D ct q κ b n i hb (by omega) (by omega) hK _ rfl) bw_406 bw_407 bw_408 bw_5 bw_409 3 (by decide +kernel) rfl rfl rfl rfl rfl ⟨Nat.le_of_ble_eq_true rfl, Nat.le_of_ble_eq_true rfl⟩ (Nat.le_of_ble_eq_true rfl) ⟨Nat.le_of_ble_eq_true rfl, Nat.le_of_ble_eq_true rfl⟩ rfl dX5_hands_68 ?_
    refine zkq (G := fun v1 w1 => zG p l e _ s m args below meth c D _ _ _ _ _ _ _ (v1.toList ++ _) w1) rfl ?_
    refine z_if_eq hC 89 dX5_hands_71 (by decide) (fun c71 => ?_) (fun c71 => ?_)
    · rw [bI_0] at c71
      refine z_aload_n hC dX5_hands_89 rfl ?_
      refine z_get 0 0 hC bl_X5 (ci := 5) rfl (by decide) rfl bw_67 rfl rfl dX5_hands_90 ?_
      refine z_iload_n hC dX5_hands_93 rfl ?_
      refine z_iload_n hC dX5_hands_94 rfl ?_
      refine z_callS [] hC (c_X5_at l D ct b n) bw_70 bw_71 bw_5 bw_72 2 (by decide +kernel) rfl rfl rfl ⟨Nat.le_of_ble_eq_true rfl, Nat.le_of_ble_eq_true rfl⟩ (Nat.le_of_ble_eq_true rfl) ⟨Nat.le_of_ble_eq_true rfl, Nat.le_of_ble_eq_true rfl⟩ rfl dX5_hands_95 ?_
      refine zkq (G := fun v1 w1 => zG p l e _ s m args below meth c D _ _ _ _ _ _ _ (v1.toList ++ _) w1) rfl ?_
      refine z_bipush (v := 6) hC dX5_hands_98 (by decide) ?_
      refine z_iaddN (b + 20 + 7 * n) (6) hC dX5_hands_100 ?_
      refine z_ialdN (b + 20 + 7 * n + 6) 1 0 hC rfl rfl (by decide) (by omega) dX5_hands_101 ?_
      refine z_top (y := nI (mdK κ b n)) (hK.1) ?_
      refine z_bipush (v := 6) hC dX5_hands_102 (by decide) ?_
      refine z_icmp_ne hC 122 dX5_hands_104 (by decide) (fun c104 => ?_) (fun c104 => ?_)
      · replace c104 := (nI_neI (a := mdK κ b n) (b := 6) (by omega) (by omega)).mp c104
        refine z_aload_n hC dX5_hands_122 rfl ?_
        refine z_iload_n hC dX5_hands_123 rfl ?_
        refine z_iload_n hC dX5_hands_124 rfl ?_
        refine z_iload_n hC dX5_hands_125 rfl ?_
        refine z_aload_n hC dX5_hands_126 rfl ?_
        refine z_get 0 0 hC bl_X5 (ci := 5) rfl (by decide) rfl bw_67 rfl rfl dX5_hands_127 ?_
        refine z_iload_n hC dX5_hands_130 rfl ?_
        refine z_iload_n hC dX5_hands_131 rfl ?_
        refine z_callS [] hC (c_X5_at l D ct b n) bw_70 bw_71 bw_5 bw_72 2 (by decide +kernel) rfl rfl rfl ⟨Nat.le_of_ble_eq_true rfl, Nat.le_of_ble_eq_true rfl⟩ (Nat.le_of_ble_eq_true rfl) ⟨Nat.le_of_ble_eq_true rfl, Nat.le_of_ble_eq_true rfl⟩ rfl dX5_hands_132 ?_
        refine zkq (G := fun v1 w1 => zG p l e _ s m args below meth c D _ _ _ _ _ _ _ (v1.toList ++ _) w1) rfl ?_
        refine z_bipush (v := 6) hC dX5_hands_135 (by decide) ?_
        refine z_iaddN (b + 20 + 7 * n) (6) hC dX5_hands_137 ?_
        refine z_ialdN (b + 20 + 7 * n + 6) 1 0 hC rfl rfl (by decide) (by omega) dX5_hands_138 ?_
        refine z_top (y := nI (mdK κ b n)) (hK.1) ?_
        refine z_callS [] hC (c_X5_storeAt l D ct b n (mdK κ b n)) bw_282 bw_283 bw_5 bw_284 3 (by decide +kernel) rfl rfl rfl ⟨Nat.le_of_ble_eq_true rfl, Nat.le_of_ble_eq_true rfl⟩ (Nat.le_of_ble_eq_true rfl) ⟨Nat.le_of_ble_eq_true rfl, Nat.le_of_ble_eq_true rfl⟩ rfl dX5_hands_139 ?_
        refine zkq (G := fun v1 w1 => zG p l e _ s m args below meth c D _ _ _ _ _ _ _ (v1.toList ++ _) w1) rfl ?_
        refine z_iload hC dX5_hands_142 rfl ?_
        refine z_callV [0, 1, 2, 3] 0 5 hC (c_X5_writes l D ct q κ i (b + 90 + 5 * (6 * n + mdK κ b n)) v (by omega) (by omega)) bw_402 bw_403 bw_404 bw_5 bw_405 3 (by decide +kernel) rfl rfl rfl rfl rfl ⟨Nat.le_of_ble_eq_true rfl, Nat.le_of_ble_eq_true rfl⟩ (Nat.le_of_ble_eq_true rfl) ⟨Nat.le_of_ble_eq_true rfl, Nat.le_of_ble_eq_true rfl⟩ rfl dX5_hands_144 ?_
        refine zkd (G := fun v1 w1 => zG p l e _ s m args below meth c D _ _ _ _ _ _ _ (v1.toList ++ _) w1) (w2 := cM q (mdWrite κ i (b + 90 + 5 * (6 * n + mdK κ b n)) v) ct) cM_all ?_
        obtain ⟨κ1, eκ1⟩ : ∃ zz_, zz_ = (mdWrite κ i (b + 90 + 5 * (6 * n + mdK κ b n)) v) := ⟨_, rfl⟩
        rw [← eκ1]
        refine z_aload_n hC dX5_hands_147 rfl ?_
        refine z_get 0 0 hC bl_X5 (ci := 5) rfl (by decide) rfl bw_67 rfl rfl dX5_hands_148 ?_
        refine z_iload_n hC dX5_hands_151 rfl ?_
        refine z_iload_n hC dX5_hands_152 rfl ?_
        refine z_callS [] hC (c_X5_at l D ct b n) bw_70 bw_71 bw_5 bw_72 2 (by decide +kernel) rfl rfl rfl ⟨Nat.le_of_ble_eq_true rfl, Nat.le_of_ble_eq_true rfl⟩ (Nat.le_of_ble_eq_true rfl) ⟨Nat.le_of_ble_eq_true rfl, Nat.le_of_ble_eq_true rfl⟩ rfl dX5_hands_153 ?_
        refine zkq (G := fun v1 w1 => zG p l e _ s m args below meth c D _ _ _ _ _ _ _ (v1.toList ++ _) w1) rfl ?_
        refine z_bipush (v := 6) hC dX5_hands_156 (by decide) ?_
        refine z_iaddN (b + 20 + 7 * n) (6) hC dX5_hands_158 ?_
        refine z_dup2 hC dX5_hands_159 rfl rfl ?_
        refine z_ialdN (b + 20 + 7 * n + 6) 1 0 hC rfl rfl (by decide) (by omega) dX5_hands_160 ?_
        refine z_iconst (v := 1) hC dX5_hands_161 (by decide) ?_
        refine z_iadd hC dX5_hands_162 ?_
        refine z_iastN (b + 20 + 7 * n + 6) 1 0 hC rfl rfl (by decide) (by omega) dX5_hands_163 (w2 := cM q (u2 κ1 1 (b + 20 + 7 * n + 6) ((κ1 1 (b + 20 + 7 * n + 6)) + 1)) ct) cM_a1 ?_
        obtain ⟨κ2, eκ2⟩ : ∃ zz_, zz_ = u2 κ1 1 (b + 20 + 7 * n + 6) ((κ1 1 (b + 20 + 7 * n + 6)) + 1) := ⟨_, rfl⟩
        rw [← eκ2]
        refine z_iconst (v := 1) hC dX5_hands_164 (by decide) ?_
        exact z_zretd hC hr (rfl) dX5_hands_165 (Nat.zero_le _) (Nat.zero_le _) (by subst eκ2; subst eκ1; clear hC hr hnm; first | rfl | (simp [mdHandR, mdHand, mdInc, bI, c1, c71, c104, *]; done) | (simp_all [mdHandR, mdHand, mdInc, bI, c1, c71, c104]; done)) (by subst eκ2; subst eκ1; refine congrArg (fun z => cM q z ct) ?_; first | (simp only [mdHandR, mdHand, mdInc, bI, c1, c71, c104, and_self, if_true, if_false]; done) | (simp [mdHandR, mdHand, mdInc, bI, c1, c71, c104]; done) | (simp [mdHandR, mdHand, mdInc, bI, c1, c71, c104, *]; done)) cM_adr
      · replace c104 := (nI_eq (a := mdK κ b n) (b := 6) (by omega) (by omega)).mp c104
        refine z_aload_n hC dX5_hands_107 rfl ?_
        refine z_get 0 0 hC bl_X5 (ci := 5) rfl (by decide) rfl bw_67 rfl rfl dX5_hands_108 ?_
        refine z_iload_n hC dX5_hands_111 rfl ?_
        refine z_bipush (v := 16) hC dX5_hands_112 (by decide) ?_
        refine z_iaddN (b) (16) hC dX5_hands_114 ?_
        refine z_dup2 hC dX5_hands_115 rfl rfl ?_
        refine z_ialdN (b + 16) 1 0 hC rfl rfl (by decide) (by omega) dX5_hands_116 ?_
        refine z_iconst (v := 1) hC dX5_hands_117 (by decide) ?_
        refine z_iadd hC dX5_hands_118 ?_
        refine z_iastN (b + 16) 1 0 hC rfl rfl (by decide) (by omega) dX5_hands_119 (w2 := cM q (u2 κ 1 (b + 16) ((κ 1 (b + 16)) + 1)) ct) cM_a1 ?_
        obtain ⟨κ3, eκ3⟩ : ∃ zz_, zz_ = u2 κ 1 (b + 16) ((κ 1 (b + 16)) + 1) := ⟨_, rfl⟩
        rw [← eκ3]
        refine z_iconst (v := 0) hC dX5_hands_120 (by decide) ?_
        exact z_zretd hC hr (rfl) dX5_hands_121 (Nat.zero_le _) (Nat.zero_le _) (by subst eκ3; clear hC hr hnm; first | rfl | (simp [mdHandR, mdHand, mdInc, bI, c1, c71, c104, *]; done) | (simp_all [mdHandR, mdHand, mdInc, bI, c1, c71, c104]; done)) (by subst eκ3; refine congrArg (fun z => cM q z ct) ?_; first | (simp only [mdHandR, mdHand, mdInc, bI, c1, c71, c104, and_self, if_true, if_false]; done) | (simp [mdHandR, mdHand, mdInc, bI, c1, c71, c104]; done) | (simp [mdHandR, mdHand, mdInc, bI, c1, c71, c104, *]; done)) cM_adr
    · rw [bI_1] at c71
      refine z_aload_n hC dX5_hands_74 rfl ?_
      refine z_get 0 0 hC bl_X5 (ci := 5) rfl (by decide) rfl bw_67 rfl rfl dX5_hands_75 ?_
      refine z_iload_n hC dX5_hands_78 rfl ?_
      refine z_bipush (v := 15) hC dX5_hands_79 (by decide) ?_
      refine z_iaddN (b) (15) hC dX5_hands_81 ?_
      refine z_dup2 hC dX5_hands_82 rfl rfl ?_
      refine z_ialdN (b + 15) 1 0 hC rfl rfl (by decide) (by omega) dX5_hands_83 ?_
      refine z_iconst (v := 1) hC dX5_hands_84 (by decide) ?_
      refine z_iadd hC dX5_hands_85 ?_
      refine z_iastN (b + 15) 1 0 hC rfl rfl (by decide) (by omega) dX5_hands_86 (w2 := cM q (u2 κ 1 (b + 15) ((κ 1 (b + 15)) + 1)) ct) cM_a1 ?_
      obtain ⟨κ4, eκ4⟩ : ∃ zz_, zz_ = u2 κ 1 (b + 15) ((κ 1 (b + 15)) + 1) := ⟨_, rfl⟩
      rw [← eκ4]
      refine z_iconst (v := 1) hC dX5_hands_87 (by decide) ?_
      exact z_zretd hC hr (rfl) dX5_hands_88 (Nat.zero_le _) (Nat.zero_le _) (by subst eκ4; clear hC hr hnm; first | rfl | (simp [mdHandR, mdHand, mdInc, bI, c1, c71, *]; done) | (simp_all [mdHandR, mdHand, mdInc, bI, c1, c71]; done)) (by subst eκ4; refine congrArg (fun z => cM q z ct) ?_; first | (simp only [mdHandR, mdHand, mdInc, bI, c1, c71, and_self, if_true, if_false]; done) | (simp [mdHandR, mdHand, mdInc, bI, c1, c71]; done) | (simp [mdHandR, mdHand, mdInc, bI, c1, c71, *]; done)) cM_adr
  · replace c1 := (nI_eq (a := n) (b := 0) (by omega) (by omega)).mp c1
    refine z_aload_n hC dX5_hands_4 rfl ?_
    refine z_iload_n hC dX5_hands_5 rfl ?_
    refine z_iload_n hC dX5_hands_6 rfl ?_
    refine z_callV [0, 1, 2, 3] 0 5 hC (c_X5_isCollected l D ct q κ b i hb (by omega) hC0 _ rfl) bw_391 bw_392 bw_393 bw_5 bw_394 2 (by decide +kernel) rfl rfl rfl rfl rfl ⟨Nat.le_of_ble_eq_true rfl, Nat.le_of_ble_eq_true rfl⟩ (Nat.le_of_ble_eq_true rfl) ⟨Nat.le_of_ble_eq_true rfl, Nat.le_of_ble_eq_true rfl⟩ rfl dX5_hands_7 ?_
    refine zkq (G := fun v1 w1 => zG p l e _ s m args below meth c D _ _ _ _ _ _ _ (v1.toList ++ _) w1) rfl ?_
    refine z_if_eq hC 29 dX5_hands_10 (by decide) (fun c10 => ?_) (fun c10 => ?_)
    · rw [bI_0] at c10
      have hC2 := hC1 c1 c10
      refine z_aload_n hC dX5_hands_29 rfl ?_
      refine z_iload_n hC dX5_hands_30 rfl ?_
      refine z_iload_n hC dX5_hands_31 rfl ?_
      refine z_aload_n hC dX5_hands_32 rfl ?_
      refine z_get 0 0 hC bl_X5 (ci := 5) rfl (by decide) rfl bw_67 rfl rfl dX5_hands_33 ?_
      refine z_iload_n hC dX5_hands_36 rfl ?_
      refine z_bipush (v := 19) hC dX5_hands_37 (by decide) ?_
      refine z_iaddN (b) (19) hC dX5_hands_39 ?_
      refine z_ialdN (b + 19) 1 0 hC rfl rfl (by decide) (by omega) dX5_hands_40 ?_
      refine z_top (y := nI (mdC κ b)) (hC0.1) ?_
      refine z_callS [] hC (c_X5_listAt l D ct b (mdC κ b)) bw_395 bw_396 bw_5 bw_397 2 (by decide +kernel) rfl rfl rfl ⟨Nat.le_of_ble_eq_true rfl, Nat.le_of_ble_eq_true rfl⟩ (Nat.le_of_ble_eq_true rfl) ⟨Nat.le_of_ble_eq_true rfl, Nat.le_of_ble_eq_true rfl⟩ rfl dX5_hands_41 ?_
      refine zkq (G := fun v1 w1 => zG p l e _ s m args below meth c D _ _ _ _ _ _ _ (v1.toList ++ _) w1) rfl ?_
      refine z_iload hC dX5_hands_44 rfl ?_
      refine z_callV [0, 1, 2, 3] 0 5 hC (c_X5_writes l D ct q κ i (b + 390 + 5 * mdC κ b) v (by omega) (by omega)) bw_402 bw_403 bw_404 bw_5 bw_405 3 (by decide +kernel) rfl rfl rfl rfl rfl ⟨Nat.le_of_ble_eq_true rfl, Nat.le_of_ble_eq_true rfl⟩ (Nat.le_of_ble_eq_true rfl) ⟨Nat.le_of_ble_eq_true rfl, Nat.le_of_ble_eq_true rfl⟩ rfl dX5_hands_46 ?_
      refine zkd (G := fun v1 w1 => zG p l e _ s m args below meth c D _ _ _ _ _ _ _ (v1.toList ++ _) w1) (w2 := cM q (mdWrite κ i (b + 390 + 5 * mdC κ b) v) ct) cM_all ?_
      obtain ⟨κ5, eκ5⟩ : ∃ zz_, zz_ = (mdWrite κ i (b + 390 + 5 * mdC κ b) v) := ⟨_, rfl⟩
      rw [← eκ5]
      refine z_aload_n hC dX5_hands_49 rfl ?_
      refine z_get 0 0 hC bl_X5 (ci := 5) rfl (by decide) rfl bw_67 rfl rfl dX5_hands_50 ?_
      refine z_iload_n hC dX5_hands_53 rfl ?_
      refine z_bipush (v := 19) hC dX5_hands_54 (by decide) ?_
      refine z_iaddN (b) (19) hC dX5_hands_56 ?_
      refine z_dup2 hC dX5_hands_57 rfl rfl ?_
      refine z_ialdN (b + 19) 1 0 hC rfl rfl (by decide) (by omega) dX5_hands_58 ?_
      refine z_iconst (v := 1) hC dX5_hands_59 (by decide) ?_
      refine z_iadd hC dX5_hands_60 ?_
      refine z_iastN (b + 19) 1 0 hC rfl rfl (by decide) (by omega) dX5_hands_61 (w2 := cM q (u2 κ5 1 (b + 19) ((κ5 1 (b + 19)) + 1)) ct) cM_a1 ?_
      obtain ⟨κ6, eκ6⟩ : ∃ zz_, zz_ = u2 κ5 1 (b + 19) ((κ5 1 (b + 19)) + 1) := ⟨_, rfl⟩
      rw [← eκ6]
      refine z_iconst (v := 1) hC dX5_hands_62 (by decide) ?_
      exact z_zretd hC hr (rfl) dX5_hands_63 (Nat.zero_le _) (Nat.zero_le _) (by subst eκ6; subst eκ5; clear hC hr hnm; first | rfl | (simp [mdHandR, mdHand, mdInc, bI, c1, c10, *]; done) | (simp_all [mdHandR, mdHand, mdInc, bI, c1, c10]; done)) (by subst eκ6; subst eκ5; refine congrArg (fun z => cM q z ct) ?_; first | (simp only [mdHandR, mdHand, mdInc, bI, c1, c10, and_self, if_true, if_false]; done) | (simp [mdHandR, mdHand, mdInc, bI, c1, c10]; done) | (simp [mdHandR, mdHand, mdInc, bI, c1, c10, *]; done)) cM_adr
    · rw [bI_1] at c10
      refine z_aload_n hC dX5_hands_13 rfl ?_
      refine z_get 0 0 hC bl_X5 (ci := 5) rfl (by decide) rfl bw_67 rfl rfl dX5_hands_14 ?_
      refine z_iload_n hC dX5_hands_17 rfl ?_
      refine z_bipush (v := 15) hC dX5_hands_18 (by decide) ?_
      refine z_iaddN (b) (15) hC dX5_hands_20 ?_
      refine z_dup2 hC dX5_hands_21 rfl rfl ?_
      refine z_ialdN (b + 15) 1 0 hC rfl rfl (by decide) (by omega) dX5_hands_22 ?_
      refine z_iconst (v := 1) hC dX5_hands_23 (by decide) ?_
      refine z_iadd hC dX5_hands_24 ?_
      refine z_iastN (b + 15) 1 0 hC rfl rfl (by decide) (by omega) dX5_hands_25 (w2 := cM q (u2 κ 1 (b + 15) ((κ 1 (b + 15)) + 1)) ct) cM_a1 ?_
      obtain ⟨κ7, eκ7⟩ : ∃ zz_, zz_ = u2 κ 1 (b + 15) ((κ 1 (b + 15)) + 1) := ⟨_, rfl⟩
      rw [← eκ7]
      refine z_goto hC 62 dX5_hands_26 (by decide) ?_
      refine z_iconst (v := 1) hC dX5_hands_62 (by decide) ?_
      exact z_zretd hC hr (rfl) dX5_hands_63 (Nat.zero_le _) (Nat.zero_le _) (by subst eκ7; clear hC hr hnm; first | rfl | (simp [mdHandR, mdHand, mdInc, bI, c1, c10, *]; done) | (simp_all [mdHandR, mdHand, mdInc, bI, c1, c10]; done)) (by subst eκ7; refine congrArg (fun z => cM q z ct) ?_; first | (simp only [mdHandR, mdHand, mdInc, bI, c1, c10, and_self, if_true, if_false]; done) | (simp [mdHandR, mdHand, mdInc, bI, c1, c10]; done) | (simp [mdHandR, mdHand, mdInc, bI, c1, c10, *]; done)) cM_adr

set_option maxRecDepth 100000 in
set_option maxHeartbeats 1000000 in
theorem c_X5_removesFirst (l : Launch) (D : va_G) (ct : Nat → ClassId) (q : Nat → Nat) (κ : Nat → Nat → Int32) (b m0 : Nat) (hb : b ≤ 4830) (hm : m0 < 10) (hK : okK κ b m0) (hK2 : 0 < mdK κ b m0) : zT l D ct yX5_removesFirst cX5_removesFirst 4 none 1 24 0 0 [.ref (q 0), .int (nI b), .int (nI m0)] (cM q κ ct) (zd none (cM q (mdRemove κ b m0) ct)) := by
  refine zT_of ([some (.ref (q 0)), some (.int (nI b)), some (.int (nI m0)), none]) (by decide +kernel) rfl (Nat.le_of_ble_eq_true rfl) ?_
  intro p e s m args below meth c hC hr hnm
  obtain ⟨hK0, hK6⟩ := hK
  refine z_aload_n hC dX5_removesFirst_0 rfl ?_
  refine z_get 0 0 hC bl_X5 (ci := 5) rfl (by decide) rfl bw_67 rfl rfl dX5_removesFirst_1 ?_
  refine z_iload_n hC dX5_removesFirst_4 rfl ?_
  refine z_iload_n hC dX5_removesFirst_5 rfl ?_
  refine z_callS [] hC (c_X5_at l D ct b m0) bw_70 bw_71 bw_5 bw_72 2 (by decide +kernel) rfl rfl rfl ⟨Nat.le_of_ble_eq_true rfl, Nat.le_of_ble_eq_true rfl⟩ (Nat.le_of_ble_eq_true rfl) ⟨Nat.le_of_ble_eq_true rfl, Nat.le_of_ble_eq_true rfl⟩ rfl dX5_removesFirst_6 ?_
  refine zkq (G := fun v1 w1 => zG p l e _ s m args below meth c D _ _ _ _ _ _ _ (v1.toList ++ _) w1) rfl ?_
  refine z_bipush (v := 6) hC dX5_removesFirst_9 (by decide) ?_
  refine z_iaddN (b + 20 + 7 * m0) (6) hC dX5_removesFirst_11 ?_
  refine z_dup2 hC dX5_removesFirst_12 rfl rfl ?_
  refine z_ialdN (b + 20 + 7 * m0 + 6) 1 0 hC rfl rfl (by decide) (by omega) dX5_removesFirst_13 ?_
  refine z_top (y := nI (mdK κ b m0)) (hK0) ?_
  refine z_iconst (v := 1) hC dX5_removesFirst_14 (by decide) ?_
  refine z_isubN (mdK κ b m0) (1) hC (by omega) dX5_removesFirst_15 ?_
  refine z_iastN (b + 20 + 7 * m0 + 6) 1 0 hC rfl rfl (by decide) (by omega) dX5_removesFirst_16 (w2 := cM q (u2 κ 1 (b + 20 + 7 * m0 + 6) (nI (mdK κ b m0 - 1))) ct) cM_a1 ?_
  obtain ⟨κ1, eκ1⟩ : ∃ zz_, zz_ = u2 κ 1 (b + 20 + 7 * m0 + 6) (nI (mdK κ b m0 - 1)) := ⟨_, rfl⟩
  rw [← eκ1]
  refine z_iconst (v := 0) hC dX5_removesFirst_17 (by decide) ?_
  refine z_istore_n hC dX5_removesFirst_18 (by decide) rfl ?_
  have loop19 : ∀ (kf k : Nat) (κx : Nat → Nat → Int32) (hki : kf + k = mdK κ b m0 - 1) (hK1 : κx 1 (b + 20 + 7 * m0 + 6) = nI (mdK κ b m0 - 1)) (hF : kfor (mdRem1 b m0) kf k κx = mdRemove κ b m0), zG p l e { frames := 1, cells := 0, slots := 0, locals := 24 } s m args below meth c D (va_A (cM q κ ct) s.heap.size) 4 (MQ below (zQ D ct (cM q κ ct) s.heap.size (zd none (cM q (mdRemove κ b m0) ct))) args s 0 0 (va_A (cM q κ ct) s.heap.size)) 0 0 19 [some (.ref (q 0)), some (.int (nI b)), some (.int (nI m0)), some (.int (nI k))] [] (cM q κx ct) := by
    intro kf
    induction kf with
    | zero =>
      intro k κx hki hK1 hF
      refine z_iload_n hC dX5_removesFirst_19 rfl ?_
      refine z_aload_n hC dX5_removesFirst_20 rfl ?_
      refine z_get 0 0 hC bl_X5 (ci := 5) rfl (by decide) rfl bw_67 rfl rfl dX5_removesFirst_21 ?_
      refine z_iload_n hC dX5_removesFirst_24 rfl ?_
      refine z_iload_n hC dX5_removesFirst_25 rfl ?_
      refine z_callS [] hC (c_X5_at l D ct b m0) bw_70 bw_71 bw_5 bw_72 2 (by decide +kernel) rfl rfl rfl ⟨Nat.le_of_ble_eq_true rfl, Nat.le_of_ble_eq_true rfl⟩ (Nat.le_of_ble_eq_true rfl) ⟨Nat.le_of_ble_eq_true rfl, Nat.le_of_ble_eq_true rfl⟩ rfl dX5_removesFirst_26 ?_
      refine zkq (G := fun v1 w1 => zG p l e _ s m args below meth c D _ _ _ _ _ _ _ (v1.toList ++ _) w1) rfl ?_
      refine z_bipush (v := 6) hC dX5_removesFirst_29 (by decide) ?_
      refine z_iaddN (b + 20 + 7 * m0) (6) hC dX5_removesFirst_31 ?_
      refine z_ialdN (b + 20 + 7 * m0 + 6) 1 0 hC rfl rfl (by decide) (by omega) dX5_removesFirst_32 ?_
      refine z_top (y := nI (mdK κ b m0 - 1)) (hK1) ?_
      refine z_icmp_ge hC 61 dX5_removesFirst_33 (by decide) (fun c33 => ?_) (fun c33 => (by have hh := (nI_nleI (a := mdK κ b m0 - 1) (b := k) (by omega) (by omega)).mp c33; omega))
      replace c33 := (nI_leI (a := mdK κ b m0 - 1) (b := k) (by omega) (by omega)).mp c33
      exact z_vretd hC hr dX5_removesFirst_61 (Nat.zero_le _) (Nat.zero_le _) (congrArg (fun z => cM q z ct) hF) cM_adr
    | succ kf ih =>
      intro k κx hki hK1 hF
      refine z_iload_n hC dX5_removesFirst_19 rfl ?_
      refine z_aload_n hC dX5_removesFirst_20 rfl ?_
      refine z_get 0 0 hC bl_X5 (ci := 5) rfl (by decide) rfl bw_67 rfl rfl dX5_removesFirst_21 ?_
      refine z_iload_n hC dX5_removesFirst_24 rfl ?_
      refine z_iload_n hC dX5_removesFirst_25 rfl ?_
      refine z_callS [] hC (c_X5_at l D ct b m0) bw_70 bw_71 bw_5 bw_72 2 (by decide +kernel) rfl rfl rfl ⟨Nat.le_of_ble_eq_true rfl, Nat.le_of_ble_eq_true rfl⟩ (Nat.le_of_ble_eq_true rfl) ⟨Nat.le_of_ble_eq_true rfl, Nat.le_of_ble_eq_true rfl⟩ rfl dX5_removesFirst_26 ?_
      refine zkq (G := fun v1 w1 => zG p l e _ s m args below meth c D _ _ _ _ _ _ _ (v1.toList ++ _) w1) rfl ?_
      refine z_bipush (v := 6) hC dX5_removesFirst_29 (by decide) ?_
      refine z_iaddN (b + 20 + 7 * m0) (6) hC dX5_removesFirst_31 ?_
      refine z_ialdN (b + 20 + 7 * m0 + 6) 1 0 hC rfl rfl (by decide) (by omega) dX5_removesFirst_32 ?_
      refine z_top (y := nI (mdK κ b m0 - 1)) (hK1) ?_
      refine z_icmp_ge hC 61 dX5_removesFirst_33 (by decide) (fun c33 => (by have hh := (nI_leI (a := mdK κ b m0 - 1) (b := k) (by omega) (by omega)).mp c33; omega)) (fun c33 => ?_)
      replace c33 := (nI_nleI (a := mdK κ b m0 - 1) (b := k) (by omega) (by omega)).mp c33
      refine z_aload_n hC dX5_removesFirst_36 rfl ?_
      refine z_iload_n hC dX5_removesFirst_37 rfl ?_
      refine z_iload_n hC dX5_removesFirst_38 rfl ?_
      refine z_iload_n hC dX5_removesFirst_39 rfl ?_
      refine z_iconst (v := 1) hC dX5_removesFirst_40 (by decide) ?_
      refine z_iaddN (k) (1) hC dX5_removesFirst_41 ?_
      refine z_callS [] hC (c_X5_storeAt l D ct b m0 (k + 1)) bw_282 bw_283 bw_5 bw_284 3 (by decide +kernel) rfl rfl rfl ⟨Nat.le_of_ble_eq_true rfl, Nat.le_of_ble_eq_true rfl⟩ (Nat.le_of_ble_eq_true rfl) ⟨Nat.le_of_ble_eq_true rfl, Nat.le_of_ble_eq_true rfl⟩ rfl dX5_removesFirst_42 ?_
      refine zkq (G := fun v1 w1 => zG p l e _ s m args below meth c D _ _ _ _ _ _ _ (v1.toList ++ _) w1) rfl ?_
      refine z_iload_n hC dX5_removesFirst_45 rfl ?_
      refine z_iload_n hC dX5_removesFirst_46 rfl ?_
      refine z_iload_n hC dX5_removesFirst_47 rfl ?_
      refine z_callS [] hC (c_X5_storeAt l D ct b m0 k) bw_282 bw_283 bw_5 bw_284 3 (by decide +kernel) rfl rfl rfl ⟨Nat.le_of_ble_eq_true rfl, Nat.le_of_ble_eq_true rfl⟩ (Nat.le_of_ble_eq_true rfl) ⟨Nat.le_of_ble_eq_true rfl, Nat.le_of_ble_eq_true rfl⟩ rfl dX5_removesFirst_48 ?_
      refine zkq (G := fun v1 w1 => zG p l e _ s m args below meth c D _ _ _ _ _ _ _ (v1.toList ++ _) w1) rfl ?_
      refine z_iconst (v := 0) hC dX5_removesFirst_51 (by decide) ?_
      refine z_callV [0, 1, 2, 3] 0 5 hC (c_X5_writes l D ct q κx (b + 90 + 5 * (6 * m0 + (k + 1))) (b + 90 + 5 * (6 * m0 + k)) 0 (by omega) (by omega)) bw_402 bw_403 bw_404 bw_5 bw_405 3 (by decide +kernel) rfl rfl rfl rfl rfl ⟨Nat.le_of_ble_eq_true rfl, Nat.le_of_ble_eq_true rfl⟩ (Nat.le_of_ble_eq_true rfl) ⟨Nat.le_of_ble_eq_true rfl, Nat.le_of_ble_eq_true rfl⟩ rfl dX5_removesFirst_52 ?_
      refine zkd (G := fun v1 w1 => zG p l e _ s m args below meth c D _ _ _ _ _ _ _ (v1.toList ++ _) w1) (w2 := cM q (mdWrite κx (b + 90 + 5 * (6 * m0 + (k + 1))) (b + 90 + 5 * (6 * m0 + k)) 0) ct) cM_all ?_
      obtain ⟨κ2, eκ2⟩ : ∃ zz_, zz_ = (mdWrite κx (b + 90 + 5 * (6 * m0 + (k + 1))) (b + 90 + 5 * (6 * m0 + k)) 0) := ⟨_, rfl⟩
      rw [← eκ2]
      refine z_iincN (k) hC dX5_removesFirst_55 (by decide) rfl rfl ?_
      refine z_goto hC 19 dX5_removesFirst_58 (by decide) ?_
      exact ih (k + 1) κ2 (by omega) (by rw [eκ2, mdWrite_ne (by omega)]; exact hK1) (by rw [← hF, eκ2]; rfl)
  exact loop19 (mdK κ b m0 - 1) 0 κ1 (Nat.add_zero _) (by rw [eκ1, u2_at]) (by rw [eκ1]; rfl)

set_option maxRecDepth 100000 in
set_option maxHeartbeats 1000000 in
theorem c_X5_sends0 (l : Launch) (D : va_G) (ct : Nat → ClassId) (q : Nat → Nat) (κ : Nat → Nat → Int32) (b m0 : Nat) (hb : b ≤ 4830) (hm : m0 < 10) (hK : okK κ b m0) (hC0 : okC κ b) (hp : κ 1 (b + 20 + 7 * m0 + 1) = -1) : zT l D ct yX5_sends cX5_sends 5 none 6 170 0 0 [.ref (q 0), .int (nI b), .int (nI m0)] (cM q κ ct) (zd none (cM q κ ct)) := by
  refine zT_of ([some (.ref (q 0)), some (.int (nI b)), some (.int (nI m0)), none, none]) (by decide +kernel) rfl (Nat.le_of_ble_eq_true rfl) ?_
  intro p e s m args below meth c hC hr hnm
  refine z_iload_n hC dX5_sends_0 rfl ?_
  refine z_iload_n hC dX5_sends_1 rfl ?_
  refine z_callS [] hC (c_X5_at l D ct b m0) bw_70 bw_71 bw_5 bw_72 2 (by decide +kernel) rfl rfl rfl ⟨Nat.le_of_ble_eq_true rfl, Nat.le_of_ble_eq_true rfl⟩ (Nat.le_of_ble_eq_true rfl) ⟨Nat.le_of_ble_eq_true rfl, Nat.le_of_ble_eq_true rfl⟩ rfl dX5_sends_2 ?_
  refine zkq (G := fun v1 w1 => zG p l e _ s m args below meth c D _ _ _ _ _ _ _ (v1.toList ++ _) w1) rfl ?_
  refine z_istore_n hC dX5_sends_5 (by decide) rfl ?_
  refine z_aload_n hC dX5_sends_6 rfl ?_
  refine z_get 0 0 hC bl_X5 (ci := 5) rfl (by decide) rfl bw_67 rfl rfl dX5_sends_7 ?_
  refine z_iload_n hC dX5_sends_10 rfl ?_
  refine z_iconst (v := 1) hC dX5_sends_11 (by decide) ?_
  refine z_iaddN (b + 20 + 7 * m0) (1) hC dX5_sends_12 ?_
  refine z_ialdN (b + 20 + 7 * m0 + 1) 1 0 hC rfl rfl (by decide) (by omega) dX5_sends_13 ?_
  refine z_istore hC dX5_sends_14 (by decide) rfl ?_
  refine z_iload hC dX5_sends_16 rfl ?_
  refine z_iconst (v := (-1)) hC dX5_sends_18 (by decide) ?_
  refine z_icmp_eq hC 45 dX5_sends_19 (by decide) (fun c19 => ?_) (fun c19 => absurd hp c19)
  exact z_vretd hC hr dX5_sends_45 (Nat.zero_le _) (Nat.zero_le _) (rfl) cM_adr

set_option maxRecDepth 100000 in
set_option maxHeartbeats 1000000 in
theorem c_X5_sends1 (l : Launch) (D : va_G) (ct : Nat → ClassId) (q : Nat → Nat) (κ : Nat → Nat → Int32) (b m0 p0 : Nat) (hb : b ≤ 4830) (hm : m0 < 10) (hK : okK κ b m0) (hC0 : okC κ b) (hp : κ 1 (b + 20 + 7 * m0 + 1) = nI p0) (hp9 : p0 < 10) (hKp : okK κ b p0) (hC1 : 0 < mdK κ b m0 → p0 = 0 → mdColl (mdInc κ (b + 14)) b (b + 90 + 5 * (6 * m0 + 0)) = false → mdC (mdInc κ (b + 14)) b < 60) (hK2 : 0 < mdK κ b m0 → mdHandR (mdInc κ (b + 14)) b (b + 90 + 5 * (6 * m0 + 0)) p0 = true → okK (mdHand (mdInc κ (b + 14)) b (b + 90 + 5 * (6 * m0 + 0)) p0 (mdInc κ (b + 14) 1 (b + 20 + 7 * p0 + 0) - mdInc κ (b + 14) 1 (b + 20 + 7 * m0 + 0))) b m0 ∧ 0 < mdK (mdHand (mdInc κ (b + 14)) b (b + 90 + 5 * (6 * m0 + 0)) p0 (mdInc κ (b + 14) 1 (b + 20 + 7 * p0 + 0) - mdInc κ (b + 14) 1 (b + 20 + 7 * m0 + 0))) b m0) : zT l D ct yX5_sends cX5_sends 5 none 6 170 0 0 [.ref (q 0), .int (nI b), .int (nI m0)] (cM q κ ct) (zd none (cM q (mdSend κ b m0 p0) ct)) := by
  refine zT_of ([some (.ref (q 0)), some (.int (nI b)), some (.int (nI m0)), none, none]) (by decide +kernel) rfl (Nat.le_of_ble_eq_true rfl) ?_
  intro p e s m args below meth c hC hr hnm
  have hK6 := hK.2
  refine z_iload_n hC dX5_sends_0 rfl ?_
  refine z_iload_n hC dX5_sends_1 rfl ?_
  refine z_callS [] hC (c_X5_at l D ct b m0) bw_70 bw_71 bw_5 bw_72 2 (by decide +kernel) rfl rfl rfl ⟨Nat.le_of_ble_eq_true rfl, Nat.le_of_ble_eq_true rfl⟩ (Nat.le_of_ble_eq_true rfl) ⟨Nat.le_of_ble_eq_true rfl, Nat.le_of_ble_eq_true rfl⟩ rfl dX5_sends_2 ?_
  refine zkq (G := fun v1 w1 => zG p l e _ s m args below meth c D _ _ _ _ _ _ _ (v1.toList ++ _) w1) rfl ?_
  refine z_istore_n hC dX5_sends_5 (by decide) rfl ?_
  refine z_aload_n hC dX5_sends_6 rfl ?_
  refine z_get 0 0 hC bl_X5 (ci := 5) rfl (by decide) rfl bw_67 rfl rfl dX5_sends_7 ?_
  refine z_iload_n hC dX5_sends_10 rfl ?_
  refine z_iconst (v := 1) hC dX5_sends_11 (by decide) ?_
  refine z_iaddN (b + 20 + 7 * m0) (1) hC dX5_sends_12 ?_
  refine z_ialdN (b + 20 + 7 * m0 + 1) 1 0 hC rfl rfl (by decide) (by omega) dX5_sends_13 ?_
  refine z_top (y := nI (p0)) (hp) ?_
  refine z_istore hC dX5_sends_14 (by decide) rfl ?_
  refine z_iload hC dX5_sends_16 rfl ?_
  refine z_iconst (v := (-1)) hC dX5_sends_18 (by decide) ?_
  refine z_icmp_eq hC 45 dX5_sends_19 (by decide) (fun c19 => absurd c19 (nI_ne (by omega))) (fun c19 => ?_)
  refine z_aload_n hC dX5_sends_22 rfl ?_
  refine z_get 0 0 hC bl_X5 (ci := 5) rfl (by decide) rfl bw_67 rfl rfl dX5_sends_23 ?_
  refine z_iload_n hC dX5_sends_26 rfl ?_
  refine z_bipush (v := 6) hC dX5_sends_27 (by decide) ?_
  refine z_iaddN (b + 20 + 7 * m0) (6) hC dX5_sends_29 ?_
  refine z_ialdN (b + 20 + 7 * m0 + 6) 1 0 hC rfl rfl (by decide) (by omega) dX5_sends_30 ?_
  refine z_top (y := nI (mdK κ b m0)) (hK.1) ?_
  refine z_if_eq hC 45 dX5_sends_31 (by decide) (fun c31 => ?_) (fun c31 => ?_)
  · replace c31 := (nI_eq (a := mdK κ b m0) (b := 0) (by omega) (by omega)).mp c31
    exact z_vretd hC hr dX5_sends_45 (Nat.zero_le _) (Nat.zero_le _) (by first | rfl | (simp [mdSend, mdSend2, mdInc, c19, c31, *]; done)) cM_adr
  · replace c31 := (nI_neI (a := mdK κ b m0) (b := 0) (by omega) (by omega)).mp c31
    replace hC1 := hC1 (by omega)
    replace hK2 := hK2 (by omega)
    refine z_aload_n hC dX5_sends_34 rfl ?_
    refine z_iload_n hC dX5_sends_35 rfl ?_
    refine z_iload_n hC dX5_sends_36 rfl ?_
    refine z_iload hC dX5_sends_37 rfl ?_
    refine z_callV [0, 1, 2, 3] 0 5 hC (c_X5_areConnected l D ct q κ b m0 p0 hb (by omega)) bw_367 bw_368 bw_369 bw_5 bw_370 3 (by decide +kernel) rfl rfl rfl rfl rfl ⟨Nat.le_of_ble_eq_true rfl, Nat.le_of_ble_eq_true rfl⟩ (Nat.le_of_ble_eq_true rfl) ⟨Nat.le_of_ble_eq_true rfl, Nat.le_of_ble_eq_true rfl⟩ rfl dX5_sends_39 ?_
    refine zkq (G := fun v1 w1 => zG p l e _ s m args below meth c D _ _ _ _ _ _ _ (v1.toList ++ _) w1) rfl ?_
    refine z_if_ne hC 46 dX5_sends_42 (by decide) (fun c42 => ?_) (fun c42 => ?_)
    · rw [bI_1] at c42
      refine z_aload_n hC dX5_sends_46 rfl ?_
      refine z_get 0 0 hC bl_X5 (ci := 5) rfl (by decide) rfl bw_67 rfl rfl dX5_sends_47 ?_
      refine z_iload_n hC dX5_sends_50 rfl ?_
      refine z_bipush (v := 14) hC dX5_sends_51 (by decide) ?_
      refine z_iaddN (b) (14) hC dX5_sends_53 ?_
      refine z_dup2 hC dX5_sends_54 rfl rfl ?_
      refine z_ialdN (b + 14) 1 0 hC rfl rfl (by decide) (by omega) dX5_sends_55 ?_
      refine z_iconst (v := 1) hC dX5_sends_56 (by decide) ?_
      refine z_iadd hC dX5_sends_57 ?_
      refine z_iastN (b + 14) 1 0 hC rfl rfl (by decide) (by omega) dX5_sends_58 (w2 := cM q (u2 κ 1 (b + 14) ((κ 1 (b + 14)) + 1)) ct) cM_a1 ?_
      obtain ⟨κ1, eκ1⟩ : ∃ zz_, zz_ = u2 κ 1 (b + 14) ((κ 1 (b + 14)) + 1) := ⟨_, rfl⟩
      rw [← eκ1]
      refine z_aload_n hC dX5_sends_59 rfl ?_
      refine z_iload_n hC dX5_sends_60 rfl ?_
      refine z_iload_n hC dX5_sends_61 rfl ?_
      refine z_iload_n hC dX5_sends_62 rfl ?_
      refine z_iconst (v := 0) hC dX5_sends_63 (by decide) ?_
      refine z_callS [] hC (c_X5_storeAt l D ct b m0 0) bw_282 bw_283 bw_5 bw_284 3 (by decide +kernel) rfl rfl rfl ⟨Nat.le_of_ble_eq_true rfl, Nat.le_of_ble_eq_true rfl⟩ (Nat.le_of_ble_eq_true rfl) ⟨Nat.le_of_ble_eq_true rfl, Nat.le_of_ble_eq_true rfl⟩ rfl dX5_sends_64 ?_
      refine zkq (G := fun v1 w1 => zG p l e _ s m args below meth c D _ _ _ _ _ _ _ (v1.toList ++ _) w1) rfl ?_
      refine z_iload hC dX5_sends_67 rfl ?_
      refine z_aload_n hC dX5_sends_69 rfl ?_
      refine z_get 0 0 hC bl_X5 (ci := 5) rfl (by decide) rfl bw_67 rfl rfl dX5_sends_70 ?_
      refine z_iload_n hC dX5_sends_73 rfl ?_
      refine z_iload hC dX5_sends_74 rfl ?_
      refine z_callS [] hC (c_X5_at l D ct b p0) bw_70 bw_71 bw_5 bw_72 2 (by decide +kernel) rfl rfl rfl ⟨Nat.le_of_ble_eq_true rfl, Nat.le_of_ble_eq_true rfl⟩ (Nat.le_of_ble_eq_true rfl) ⟨Nat.le_of_ble_eq_true rfl, Nat.le_of_ble_eq_true rfl⟩ rfl dX5_sends_76 ?_
      refine zkq (G := fun v1 w1 => zG p l e _ s m args below meth c D _ _ _ _ _ _ _ (v1.toList ++ _) w1) rfl ?_
      refine z_iconst (v := 0) hC dX5_sends_79 (by decide) ?_
      refine z_iaddN (b + 20 + 7 * p0) (0) hC dX5_sends_80 ?_
      refine z_ialdN (b + 20 + 7 * p0 + 0) 1 0 hC rfl rfl (by decide) (by omega) dX5_sends_81 ?_
      refine z_aload_n hC dX5_sends_82 rfl ?_
      refine z_get 0 0 hC bl_X5 (ci := 5) rfl (by decide) rfl bw_67 rfl rfl dX5_sends_83 ?_
      refine z_iload_n hC dX5_sends_86 rfl ?_
      refine z_iconst (v := 0) hC dX5_sends_87 (by decide) ?_
      refine z_iaddN (b + 20 + 7 * m0) (0) hC dX5_sends_88 ?_
      refine z_ialdN (b + 20 + 7 * m0 + 0) 1 0 hC rfl rfl (by decide) (by omega) dX5_sends_89 ?_
      refine z_isub hC dX5_sends_90 ?_
      refine z_callV [0, 1, 2, 3] 0 5 hC (c_X5_hands l D ct q κ1 b (b + 90 + 5 * (6 * m0 + 0)) p0 ((κ1 1 (b + 20 + 7 * p0 + 0)) - (κ1 1 (b + 20 + 7 * m0 + 0))) hb (by omega) (by omega) (by subst eκ1; exact okK_u2 hKp (by omega)) (by subst eκ1; exact okC_u2 hC0 (by omega)) (by subst eκ1; exact hC1)) bw_387 bw_388 bw_389 bw_5 bw_390 4 (by decide +kernel) rfl rfl rfl rfl rfl ⟨Nat.le_of_ble_eq_true rfl, Nat.le_of_ble_eq_true rfl⟩ (Nat.le_of_ble_eq_true rfl) ⟨Nat.le_of_ble_eq_true rfl, Nat.le_of_ble_eq_true rfl⟩ rfl dX5_sends_91 ?_
      refine zkd (G := fun v1 w1 => zG p l e _ s m args below meth c D _ _ _ _ _ _ _ (v1.toList ++ _) w1) (w2 := cM q (mdHand κ1 b (b + 90 + 5 * (6 * m0 + 0)) p0 ((κ1 1 (b + 20 + 7 * p0 + 0)) - (κ1 1 (b + 20 + 7 * m0 + 0)))) ct) cM_all ?_
      obtain ⟨κ2, eκ2⟩ : ∃ zz_, zz_ = (mdHand κ1 b (b + 90 + 5 * (6 * m0 + 0)) p0 ((κ1 1 (b + 20 + 7 * p0 + 0)) - (κ1 1 (b + 20 + 7 * m0 + 0)))) := ⟨_, rfl⟩
      rw [← eκ2]
      refine z_if_ne hC 98 dX5_sends_94 (by decide) (fun c94 => ?_) (fun c94 => ?_)
      · rw [bI_1] at c94
        refine z_aload_n hC dX5_sends_98 rfl ?_
        refine z_get 0 0 hC bl_X5 (ci := 5) rfl (by decide) rfl bw_67 rfl rfl dX5_sends_99 ?_
        refine z_iload_n hC dX5_sends_102 rfl ?_
        refine z_iconst (v := 4) hC dX5_sends_103 (by decide) ?_
        refine z_iaddN (b + 20 + 7 * m0) (4) hC dX5_sends_104 ?_
        refine z_ialdN (b + 20 + 7 * m0 + 4) 1 0 hC rfl rfl (by decide) (by omega) dX5_sends_105 ?_
        refine z_if_le hC 137 dX5_sends_106 (by decide) (fun c106 => ?_) (fun c106 => ?_)
        · refine z_aload_n hC dX5_sends_137 rfl ?_
          refine z_iload_n hC dX5_sends_138 rfl ?_
          refine z_iload_n hC dX5_sends_139 rfl ?_
          refine z_callV [0, 1, 2, 3] 0 5 hC (c_X5_removesFirst l D ct q κ2 b m0 hb (by omega) (by subst eκ2; subst eκ1; exact (hK2 c94).1) (by subst eκ2; subst eκ1; exact (hK2 c94).2)) bw_410 bw_411 bw_412 bw_5 bw_413 2 (by decide +kernel) rfl rfl rfl rfl rfl ⟨Nat.le_of_ble_eq_true rfl, Nat.le_of_ble_eq_true rfl⟩ (Nat.le_of_ble_eq_true rfl) ⟨Nat.le_of_ble_eq_true rfl, Nat.le_of_ble_eq_true rfl⟩ rfl dX5_sends_140 ?_
          refine zkd (G := fun v1 w1 => zG p l e _ s m args below meth c D _ _ _ _ _ _ _ (v1.toList ++ _) w1) (w2 := cM q (mdRemove κ2 b m0) ct) cM_all ?_
          obtain ⟨κ3, eκ3⟩ : ∃ zz_, zz_ = (mdRemove κ2 b m0) := ⟨_, rfl⟩
          rw [← eκ3]
          exact z_vretd hC hr dX5_sends_143 (Nat.zero_le _) (Nat.zero_le _) (by subst eκ3; subst eκ2; subst eκ1; refine congrArg (fun z => cM q z ct) (Eq.symm ((if_neg (fun h => h.elim c31 (fun h => absurd (h.symm.trans c42) (by decide)))).trans ((if_neg (fun h => absurd (h.symm.trans c94) (by decide))).trans ((if_neg (i_nlt.mpr c106)).trans rfl))))) cM_adr
        · refine z_aload_n hC dX5_sends_109 rfl ?_
          refine z_get 0 0 hC bl_X5 (ci := 5) rfl (by decide) rfl bw_67 rfl rfl dX5_sends_110 ?_
          refine z_iload_n hC dX5_sends_113 rfl ?_
          refine z_iconst (v := 4) hC dX5_sends_114 (by decide) ?_
          refine z_iaddN (b + 20 + 7 * m0) (4) hC dX5_sends_115 ?_
          refine z_dup2 hC dX5_sends_116 rfl rfl ?_
          refine z_ialdN (b + 20 + 7 * m0 + 4) 1 0 hC rfl rfl (by decide) (by omega) dX5_sends_117 ?_
          refine z_iconst (v := 1) hC dX5_sends_118 (by decide) ?_
          refine z_isub hC dX5_sends_119 ?_
          refine z_iastN (b + 20 + 7 * m0 + 4) 1 0 hC rfl rfl (by decide) (by omega) dX5_sends_120 (w2 := cM q (u2 κ2 1 (b + 20 + 7 * m0 + 4) ((κ2 1 (b + 20 + 7 * m0 + 4)) - 1)) ct) cM_a1 ?_
          obtain ⟨κ4, eκ4⟩ : ∃ zz_, zz_ = u2 κ2 1 (b + 20 + 7 * m0 + 4) ((κ2 1 (b + 20 + 7 * m0 + 4)) - 1) := ⟨_, rfl⟩
          rw [← eκ4]
          refine z_aload_n hC dX5_sends_121 rfl ?_
          refine z_get 0 0 hC bl_X5 (ci := 5) rfl (by decide) rfl bw_67 rfl rfl dX5_sends_122 ?_
          refine z_iload_n hC dX5_sends_125 rfl ?_
          refine z_bipush (v := 17) hC dX5_sends_126 (by decide) ?_
          refine z_iaddN (b) (17) hC dX5_sends_128 ?_
          refine z_dup2 hC dX5_sends_129 rfl rfl ?_
          refine z_ialdN (b + 17) 1 0 hC rfl rfl (by decide) (by omega) dX5_sends_130 ?_
          refine z_iconst (v := 1) hC dX5_sends_131 (by decide) ?_
          refine z_iadd hC dX5_sends_132 ?_
          refine z_iastN (b + 17) 1 0 hC rfl rfl (by decide) (by omega) dX5_sends_133 (w2 := cM q (u2 κ4 1 (b + 17) ((κ4 1 (b + 17)) + 1)) ct) cM_a1 ?_
          obtain ⟨κ5, eκ5⟩ : ∃ zz_, zz_ = u2 κ4 1 (b + 17) ((κ4 1 (b + 17)) + 1) := ⟨_, rfl⟩
          rw [← eκ5]
          refine z_goto hC 143 dX5_sends_134 (by decide) ?_
          exact z_vretd hC hr dX5_sends_143 (Nat.zero_le _) (Nat.zero_le _) (by subst eκ5; subst eκ4; subst eκ2; subst eκ1; refine congrArg (fun z => cM q z ct) (Eq.symm ((if_neg (fun h => h.elim c31 (fun h => absurd (h.symm.trans c42) (by decide)))).trans ((if_neg (fun h => absurd (h.symm.trans c94) (by decide))).trans ((if_pos (i_nle.mp c106)).trans rfl))))) cM_adr
      · rw [bI_0] at c94
        exact z_vretd hC hr dX5_sends_97 (Nat.zero_le _) (Nat.zero_le _) (by subst eκ2; subst eκ1; refine congrArg (fun z => cM q z ct) (Eq.symm ((if_neg (fun h => h.elim c31 (fun h => absurd (h.symm.trans c42) (by decide)))).trans ((if_pos c94).trans rfl)))) cM_adr
    · rw [bI_0] at c42
      exact z_vretd hC hr dX5_sends_45 (Nat.zero_le _) (Nat.zero_le _) (by first | rfl | (simp [mdSend, mdSend2, mdInc, c19, c31, c42, *]; done)) cM_adr
