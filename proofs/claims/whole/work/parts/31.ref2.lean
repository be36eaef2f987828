/-! THE REFERENCE: a slot, slots, saving, links, the calls' first lines -/
def mdP (κ : Nat → Nat → Int32) (b n : Nat) : Nat := (κ 1 (b + 20 + 7 * n + 1)).toNatClampNeg
def mdT (κ : Nat → Nat → Int32) (b : Nat) : Nat := (κ 1 (b + 12)).toNatClampNeg
def okA (κ : Nat → Nat → Int32) (b : Nat) : Prop := ∀ n, n < 10 → okK κ b n
def mdSendA (κ : Nat → Nat → Int32) (b m : Nat) : Nat → Nat → Int32 := if κ 1 (b + 20 + 7 * m + 1) = -1 then κ else mdSend κ b m (mdP κ b m)
def okSend (κ : Nat → Nat → Int32) (b m : Nat) : Prop := κ 1 (b + 20 + 7 * m + 1) = -1 ∨ (κ 1 (b + 20 + 7 * m + 1) = nI (mdP κ b m) ∧ mdP κ b m < 10 ∧
  (0 < mdK κ b m → mdP κ b m = 0 → mdColl (mdInc κ (b + 14)) b (b + 90 + 5 * (6 * m + 0)) = false → mdC (mdInc κ (b + 14)) b < 60) ∧
  (0 < mdK κ b m → mdHandR (mdInc κ (b + 14)) b (b + 90 + 5 * (6 * m + 0)) (mdP κ b m) = true → okK (mdHand (mdInc κ (b + 14)) b (b + 90 + 5 * (6 * m + 0)) (mdP κ b m) (mdInc κ (b + 14) 1 (b + 20 + 7 * mdP κ b m + 0) - mdInc κ (b + 14) 1 (b + 20 + 7 * m + 0))) b m ∧ 0 < mdK (mdHand (mdInc κ (b + 14)) b (b + 90 + 5 * (6 * m + 0)) (mdP κ b m) (mdInc κ (b + 14) 1 (b + 20 + 7 * mdP κ b m + 0) - mdInc κ (b + 14) 1 (b + 20 + 7 * m + 0))) b m))
def mdLose (κ : Nat → Nat → Int32) (b n : Nat) : Nat → Nat → Int32 := if ¬ κ 1 (b + 20 + 7 * n + 1) = -1 ∧ 10 * κ 1 (b + 11) < κ 1 (b + 12) - κ 1 (b + 20 + 7 * n + 3) then mdDrop κ b n else κ
def mdHear1 (b n m : Nat) (κ : Nat → Nat → Int32) : Nat → Nat → Int32 := if mdConn κ b m n = true then mdHear κ b m n else κ
def mdHeard (κ : Nat → Nat → Int32) (b n : Nat) : Nat → Nat → Int32 := kfor (mdHear1 b n) 9 1 κ
def mdTurn (κ : Nat → Nat → Int32) (b n : Nat) : Nat → Nat → Int32 := if mdOn κ b n = true then (if 0 < n then mdSendA (mdHeard (mdLose κ b n) b n) b n else mdHeard (mdLose κ b n) b n) else κ
def mdSlot (κ : Nat → Nat → Int32) (b : Nat) : Nat → Nat → Int32 := mdInc (mdTurn κ b (mdT κ b % 10)) (b + 12)
def okSlot (κ : Nat → Nat → Int32) (b : Nat) : Prop := okA κ b ∧ okC κ b ∧ κ 1 (b + 12) = nI (mdT κ b) ∧ (mdOn κ b (mdT κ b % 10) = true → 0 < mdT κ b % 10 → okSend (mdHeard (mdLose κ b (mdT κ b % 10)) b (mdT κ b % 10)) b (mdT κ b % 10))
def mdRun (κ : Nat → Nat → Int32) (b k : Nat) : Nat → Nat → Int32 := kfor (fun _ κ => mdSlot κ b) k 0 κ
def mdRunR (κ : Nat → Nat → Int32) (b k : Nat) : Int32 := mdRun κ b k 1 (b + 19) - κ 1 (b + 19)
/-! cells that stay -/
theorem mdClock_ne {κ : Nat → Nat → Int32} {b m n c : Nat} (h1 : c ≠ b + 20 + 7 * m + 0) (h2 : ∀ i, i < mdK κ b m → c ≠ b + 90 + 5 * (6 * m + i) + 4) : mdClock κ b m n 1 c = κ 1 c := by
  unfold mdClock
  rw [kfor_at1 _ _ _ (fun j ξ h3 h4 => by unfold mdShift1; rw [u2_nk (h2 j (by omega))]), u2_nk h1]
theorem mdK_u2 {κ : Nat → Nat → Int32} {b n i : Nat} {x : Int32} (hi : b + 20 + 7 * n + 6 ≠ i) : mdK (u2 κ 1 i x) b n = mdK κ b n := by
  unfold mdK
  rw [u2_nk hi]
theorem mdFollow_ne {κ : Nat → Nat → Int32} {b m n c : Nat} (h0 : c ≠ b + 20 + 7 * m + 0) (h1 : c ≠ b + 20 + 7 * m + 1) (h2 : c ≠ b + 20 + 7 * m + 2) (h3 : c ≠ b + 20 + 7 * m + 3) (h4 : ∀ i, i < mdK κ b m → c ≠ b + 90 + 5 * (6 * m + i) + 4) : mdFollow κ b m n 1 c = κ 1 c := by
  unfold mdFollow
  have e : mdK (mdF3 (mdF2 (mdF1 κ b m n) b m n) b m) b m = mdK κ b m := by
    unfold mdF3 mdF2 mdF1
    rw [mdK_u2 (by omega), mdK_u2 (by omega), mdK_u2 (by omega)]
  rw [mdClock_ne h0 (by rw [e]; exact h4)]
  unfold mdF3 mdF2 mdF1
  rw [u2_nk h3, u2_nk h2, u2_nk h1]
theorem mdDrop_ne {κ : Nat → Nat → Int32} {b m c : Nat} (h1 : c ≠ b + 20 + 7 * m + 1) (h2 : c ≠ b + 20 + 7 * m + 2) (h3 : c ≠ b + 18) : mdDrop κ b m 1 c = κ 1 c := by
  unfold mdDrop mdInc
  rw [u2_nk h3, u2_nk h2, u2_nk h1]
theorem mdHear_ne {κ : Nat → Nat → Int32} {b m n c : Nat} (h0 : c ≠ b + 20 + 7 * m + 0) (h1 : c ≠ b + 20 + 7 * m + 1) (h2 : c ≠ b + 20 + 7 * m + 2) (h3 : c ≠ b + 20 + 7 * m + 3) (h5 : c ≠ b + 18) (h4 : ∀ i, i < mdK κ b m → c ≠ b + 90 + 5 * (6 * m + i) + 4) : mdHear κ b m n 1 c = κ 1 c := by
  unfold mdHear
  split
  · split
    · exact mdFollow_ne h0 h1 h2 h3 h4
    · exact mdDrop_ne h1 h2 h5
  · split
    · exact mdFollow_ne h0 h1 h2 h3 h4
    · rfl
theorem okK_of {κ κ2 : Nat → Nat → Int32} {b n : Nat} (h : okK κ b n) (e : κ2 1 (b + 20 + 7 * n + 6) = κ 1 (b + 20 + 7 * n + 6)) : okK κ2 b n := by
  unfold okK mdK at *
  rw [e]
  exact h
theorem okC_of {κ κ2 : Nat → Nat → Int32} {b : Nat} (h : okC κ b) (e : κ2 1 (b + 19) = κ 1 (b + 19)) : okC κ2 b := by
  unfold okC mdC at *
  rw [e]
  exact h
theorem okA_hear1 {κ : Nat → Nat → Int32} {b n m : Nat} (hm : m < 10) (h : okA κ b) : okA (mdHear1 b n m κ) b := fun j hj => by
  unfold mdHear1
  split
  · have h6 := (h m hm).2
    exact okK_of (h j hj) (mdHear_ne (by omega) (by omega) (by omega) (by omega) (by omega) (fun i hi => by omega))
  · exact h j hj
theorem okC_hear1 {κ : Nat → Nat → Int32} {b n m : Nat} (hm : m < 10) (h : okC κ b) : okC (mdHear1 b n m κ) b := by
  unfold mdHear1
  split
  · exact okC_of h (mdHear_ne (by omega) (by omega) (by omega) (by omega) (by omega) (fun i hi => by omega))
  · exact h
theorem okA_drop {κ : Nat → Nat → Int32} {b n : Nat} (h : okA κ b) : okA (mdDrop κ b n) b := fun j hj => okK_of (h j hj) (mdDrop_ne (by omega) (by omega) (by omega))
theorem okC_drop {κ : Nat → Nat → Int32} {b n : Nat} (h : okC κ b) : okC (mdDrop κ b n) b := okC_of h (mdDrop_ne (by omega) (by omega) (by omega))
def mdLay1 (i j k : Nat) (κ : Nat → Nat → Int32) : Nat → Nat → Int32 := u2 κ 1 (690 * j + k) (κ 1 (690 * i + k))
def mdLay (κ : Nat → Nat → Int32) (i j : Nat) : Nat → Nat → Int32 := kfor (mdLay1 i j) 690 0 κ
theorem mdLay_0 (κ : Nat → Nat → Int32) (i j r : Nat) (hr : r ≠ 1) : mdLay κ i j r = κ r := kfor_inv (fun z : Nat → Nat → Int32 => z r = κ r) (fun k z h => by show mdLay1 i j k z r = κ r; rw [← h]; exact u2_ne hr) _ _ _ rfl
def mdLays (k : Nat) (κ : Nat → Nat → Int32) : Nat → Nat → Int32 := mdLay κ (k + 1) k
def mdShiftAll (κ : Nat → Nat → Int32) : Nat → Nat → Int32 := kfor mdLays 5 1 κ
theorem mdShiftAll_0 (κ : Nat → Nat → Int32) (r : Nat) (hr : r ≠ 1) : mdShiftAll κ r = κ r := kfor_inv (fun z : Nat → Nat → Int32 => z r = κ r) (fun k z h => by show mdLay z (k + 1) k r = κ r; rw [mdLay_0 _ _ _ _ hr]; exact h) _ _ _ rfl
def mdSave (κ : Nat → Nat → Int32) (z : Nat) : Nat → Nat → Int32 := if z = 6 then mdLay (u2 (u2 (mdShiftAll κ) 0 0 (nI (6 - 1))) 0 0 (nI (6 - 1 + 1))) 0 (6 - 1 + 1) else mdLay (u2 κ 0 0 (nI (z + 1))) 0 (z + 1)
def mdOnes (x : Int32) : Int32 := kfor (fun k (n : Int32) => n + ((x >>> (nI k &&& 31)) &&& 1)) 10 0 0
def mdBit (x : Int32) (j : Nat) (v : Int32) : Int32 := if v = 0 then x &&& ((1 <<< (nI j &&& 31)) ^^^ (-1)) else x ||| (1 <<< (nI j &&& 31))
def mdLink (κ : Nat → Nat → Int32) (a b : Nat) (v : Int32) : Nat → Nat → Int32 := u2 (u2 κ 1 (0 + a) (mdBit (κ 1 (0 + a)) b v)) 1 (0 + b) (mdBit (u2 κ 1 (0 + a) (mdBit (κ 1 (0 + a)) b v) 1 (0 + b)) a v)
def mdLinks (κ : Nat → Nat → Int32) : Int32 := kfor (fun k (n : Int32) => n + mdOnes (κ 1 (0 + k))) 10 0 0 / 2
def mdPower (κ : Nat → Nat → Int32) (n : Nat) (v : Int32) : Nat → Nat → Int32 := u2 κ 1 10 (mdBit (κ 1 10) n v)
def mdCan (κ : Nat → Nat → Int32) (m : Nat) : Bool := decide (mdK κ 0 m < 6) && decide (κ 1 13 < 60)
def mdTk1 (κ : Nat → Nat → Int32) (m π : Nat) : Nat → Nat → Int32 := u2 κ 1 π (nI m)
def mdTk2 (κ : Nat → Nat → Int32) (m π : Nat) : Nat → Nat → Int32 := u2 κ 1 (π + 1) (κ 1 (0 + 20 + 7 * m + 5))
def mdTk3 (κ : Nat → Nat → Int32) (π : Nat) (v : Int32) : Nat → Nat → Int32 := u2 κ 1 (π + 2) v
def mdTk4 (κ : Nat → Nat → Int32) (π : Nat) : Nat → Nat → Int32 := u2 κ 1 (π + 3) (κ 1 12)
def mdTk5 (κ : Nat → Nat → Int32) (m π : Nat) : Nat → Nat → Int32 := u2 κ 1 (π + 4) (κ 1 12 + κ 1 (0 + 20 + 7 * m + 0))
def mdTake (κ : Nat → Nat → Int32) (m : Nat) (v : Int32) : Nat → Nat → Int32 := mdInc (mdInc (mdInc (mdTk5 (mdTk4 (mdTk3 (mdTk2 (mdTk1 κ m (0 + 90 + 5 * (6 * m + mdK κ 0 m))) m (0 + 90 + 5 * (6 * m + mdK κ 0 m))) (0 + 90 + 5 * (6 * m + mdK κ 0 m)) v) (0 + 90 + 5 * (6 * m + mdK κ 0 m))) m (0 + 90 + 5 * (6 * m + mdK κ 0 m))) (0 + 20 + 7 * m + 6)) (0 + 20 + 7 * m + 5)) 13
def mIn (v lo hi : Int32) : Bool := decide (lo ≤ v) && decide (v ≤ hi)
def mdGo (a b c : Int32) : Int32 := if a = 0 then 1 else if b = 0 then 2 else if c = 0 then 3 else 0
theorem mIn_node (n : Int32) : mIn n 0 9 = mNode n := by
  by_cases h : 0 ≤ n ∧ n < 10
  · have h9 : n ≤ 9 := by
      rw [Int32.le_iff_toInt_le]
      have h2 := h.2
      rw [Int32.lt_iff_toInt_lt] at h2
      have e10 : (10 : Int32).toInt = 10 := rfl
      have e9 : (9 : Int32).toInt = 9 := rfl
      omega
    rw [node_of2 h]
    unfold mIn
    rw [decide_eq_true h.1, decide_eq_true h9]
    rfl
  · have h1 : mNode n = false := by
      cases hb : mNode n with
      | false => rfl
      | true => exact absurd (node_of hb) h
    rw [h1]
    unfold mIn
    cases hd : (decide (0 ≤ n) && decide (n ≤ 9)) with
    | false => rfl
    | true =>
      exfalso
      rw [Bool.and_eq_true, decide_eq_true_eq, decide_eq_true_eq] at hd
      refine h ⟨hd.1, ?_⟩
      have h2 := hd.2
      rw [Int32.le_iff_toInt_le] at h2
      rw [Int32.lt_iff_toInt_lt]
      have e10 : (10 : Int32).toInt = 10 := rfl
      have e9 : (9 : Int32).toInt = 9 := rfl
      omega
theorem mIn_meter (n : Int32) : mIn n 1 9 = mMeter n := by
  have h := mIn_node n
  unfold mMeter
  rw [← h]
  unfold mIn
  have e1 : (1 : Int32).toInt = 1 := rfl
  have e0 : (0 : Int32).toInt = 0 := rfl
  by_cases h1 : 1 ≤ n
  · have h0 : 0 ≤ n := by rw [Int32.le_iff_toInt_le] at h1 ⊢; omega
    have hn : ¬ n = 0 := fun e => by rw [e] at h1; exact absurd h1 (by decide)
    simp [h1, h0, hn]
  · by_cases h0 : 0 ≤ n
    · have hn : n = 0 := by rw [i_eq]; rw [Int32.le_iff_toInt_le] at h1 h0; omega
      simp [h1, hn]
    · simp [h1, h0]
def mdHop0 (k : Nat) (κ : Nat → Nat → Int32) : Nat → Nat → Int32 := u2 κ 3 k (if k = 0 ∧ mdOn κ 0 0 = true then 0 else -1)
def mdHop1 (far k : Nat) (κ : Nat → Nat → Int32) : Nat → Nat → Int32 := u2 κ 3 (k % 10) (if κ 3 (k / 10) = nI far ∧ κ 3 (k % 10) = -1 ∧ mdConn κ 0 (k / 10) (k % 10) = true then nI (far + 1) else κ 3 (k % 10))
def mdHop2 (far : Nat) (κ : Nat → Nat → Int32) : Nat → Nat → Int32 := kfor (mdHop1 far) 100 0 κ
def mdHops (κ : Nat → Nat → Int32) : Nat → Nat → Int32 := kfor mdHop2 10 0 (kfor mdHop0 10 0 κ)
def mdCop1 (κ : Nat → Nat → Int32) (m : Nat) (x : Int32) (n k : Nat) (a : Int32) : Int32 := a + (if κ 1 (0 + 90 + 5 * (6 * n + k)) = nI m ∧ κ 1 (0 + 90 + 5 * (6 * n + k) + 1) = x then 1 else 0)
def mdCop2 (κ : Nat → Nat → Int32) (m : Nat) (x : Int32) (n : Nat) (a : Int32) : Int32 := kfor (mdCop1 κ m x n) (mdK κ 0 n) 0 a
def mdCop (κ : Nat → Nat → Int32) (m : Nat) (x : Int32) : Int32 := kfor (mdCop2 κ m x) 9 1 0
def mdWrong1 (κ : Nat → Nat → Int32) (k : Nat) (a : Int32) : Int32 := a + (if κ 1 (0 + 390 + 5 * k + 4) = κ 1 (0 + 390 + 5 * k + 3) then 0 else 1)
def mdWrong (κ : Nat → Nat → Int32) : Int32 := kfor (mdWrong1 κ) (mdC κ 0) 0 0
def mdJoin1 (κ : Nat → Nat → Int32) (k : Nat) (a : Int32) : Int32 := a + (if κ 1 (0 + 20 + 7 * k + 1) = -1 then 0 else 1)
def mdJoined (κ : Nat → Nat → Int32) : Int32 := kfor (mdJoin1 κ) 9 1 0
theorem mdJoined_le (κ : Nat → Nat → Int32) : ∃ k : Nat, k < 11 ∧ mdJoined κ = nI k := by
  have h : ∀ (k i j : Nat), j + k ≤ 10 → ∃ n : Nat, n ≤ j + k ∧ kfor (mdJoin1 κ) k i (nI j) = nI n := by
    intro k
    induction k with
    | zero => intro i j hj; exact ⟨j, by omega, rfl⟩
    | succ k ih =>
      intro i j hj
      show ∃ n : Nat, n ≤ j + (k + 1) ∧ kfor _ k (i + 1) (nI j + (if κ 1 (0 + 20 + 7 * i + 1) = -1 then 0 else 1)) = nI n
      split
      · obtain ⟨n, h1, h2⟩ := ih (i + 1) j (by omega)
        exact ⟨n, by omega, by rw [show nI j + 0 = nI j from by simp]; exact h2⟩
      · obtain ⟨n, h1, h2⟩ := ih (i + 1) (j + 1) (by omega)
        exact ⟨n, by omega, by rw [nI_1]; exact h2⟩
  obtain ⟨n, h1, h2⟩ := h 9 1 0 (by omega)
  exact ⟨n, by omega, h2⟩
theorem c_X5_sends (l : Launch) (D : va_G) (ct : Nat → ClassId) (q : Nat → Nat) (κ : Nat → Nat → Int32) (b m0 : Nat) (hb : b ≤ 4830) (hm : m0 < 10) (hA : okA κ b) (hC0 : okC κ b) (hS : okSend κ b m0) : zT l D ct yX5_sends cX5_sends 5 none 6 170 0 0 [.ref (q 0), .int (nI b), .int (nI m0)] (cM q κ ct) (zd none (cM q (mdSendA κ b m0) ct)) := by
  by_cases hp : κ 1 (b + 20 + 7 * m0 + 1) = -1
  · rw [show mdSendA κ b m0 = κ from if_pos hp]
    exact c_X5_sends0 l D ct q κ b m0 hb hm (hA m0 hm) hC0 hp
  · rw [show mdSendA κ b m0 = mdSend κ b m0 (mdP κ b m0) from if_neg hp]
    obtain ⟨h1, h2, h3, h4⟩ := hS.resolve_left hp
    exact c_X5_sends1 l D ct q κ b m0 (mdP κ b m0) hb hm (hA m0 hm) hC0 h1 h2 (hA _ h2) h3 h4

set_option maxRecDepth 100000 in
set_option maxHeartbeats 1000000 in
theorem c_X5_slot (l : Launch) (D : va_G) (ct : Nat → ClassId) (q : Nat → Nat) (κ : Nat → Nat → Int32) (b : Nat) (hb : b ≤ 4830) (hok : okSlot κ b) : zT l D ct yX5_slot cX5_slot 5 none 7 194 0 0 [.ref (q 0), .int (nI b)] (cM q κ ct) (zd none (cM q (mdSlot κ b) ct)) := by
  refine zT_of ([some (.ref (q 0)), some (.int (nI b)), none, none, none]) (by decide +kernel) rfl (Nat.le_of_ble_eq_true rfl) ?_
  intro p e s m args below meth c hC hr hnm
  obtain ⟨hA, hC0, hT, hS⟩ := hok
  have hT31 : mdT κ b < 2 ^ 31 := by have := lim_31 (κ 1 (b + 12)); unfold mdT; omega
  refine z_aload_n hC dX5_slot_0 rfl ?_
  refine z_get 0 0 hC bl_X5 (ci := 5) rfl (by decide) rfl bw_67 rfl rfl dX5_slot_1 ?_
  refine z_iload_n hC dX5_slot_4 rfl ?_
  refine z_bipush (v := 12) hC dX5_slot_5 (by decide) ?_
  refine z_iaddN (b) (12) hC dX5_slot_7 ?_
  refine z_ialdN (b + 12) 1 0 hC rfl rfl (by decide) (by omega) dX5_slot_8 ?_
  refine z_top (y := nI (mdT κ b)) (hT) ?_
  refine z_bipush (v := 10) hC dX5_slot_9 (by decide) ?_
  refine z_iremN (mdT κ b) (10) hC (by omega) (by decide) (by decide) dX5_slot_11 ?_
  refine z_istore_n hC dX5_slot_12 (by decide) rfl ?_
  refine z_aload_n hC dX5_slot_13 rfl ?_
  refine z_iload_n hC dX5_slot_14 rfl ?_
  refine z_iload_n hC dX5_slot_15 rfl ?_
  refine z_callV [0, 1, 2, 3] 0 5 hC (c_X5_isOn l D ct q κ b (mdT κ b % 10) hb) bw_359 bw_360 bw_361 bw_5 bw_362 2 (by decide +kernel) rfl rfl rfl rfl rfl ⟨Nat.le_of_ble_eq_true rfl, Nat.le_of_ble_eq_true rfl⟩ (Nat.le_of_ble_eq_true rfl) ⟨Nat.le_of_ble_eq_true rfl, Nat.le_of_ble_eq_true rfl⟩ rfl dX5_slot_16 ?_
  refine zkq (G := fun v1 w1 => zG p l e _ s m args below meth c D _ _ _ _ _ _ _ (v1.toList ++ _) w1) rfl ?_
  refine z_if_eq hC 124 dX5_slot_19 (by decide) (fun c19 => ?_) (fun c19 => ?_)
  · rw [bI_0] at c19
    refine z_aload_n hC dX5_slot_124 rfl ?_
    refine z_get 0 0 hC bl_X5 (ci := 5) rfl (by decide) rfl bw_67 rfl rfl dX5_slot_125 ?_
    refine z_iload_n hC dX5_slot_128 rfl ?_
    refine z_bipush (v := 12) hC dX5_slot_129 (by decide) ?_
    refine z_iaddN (b) (12) hC dX5_slot_131 ?_
    refine z_dup2 hC dX5_slot_132 rfl rfl ?_
    refine z_ialdN (b + 12) 1 0 hC rfl rfl (by decide) (by omega) dX5_slot_133 ?_
    refine z_iconst (v := 1) hC dX5_slot_134 (by decide) ?_
    refine z_iadd hC dX5_slot_135 ?_
    refine z_iastN (b + 12) 1 0 hC rfl rfl (by decide) (by omega) dX5_slot_136 (w2 := cM q (u2 κ 1 (b + 12) ((κ 1 (b + 12)) + 1)) ct) cM_a1 ?_
    obtain ⟨κ1, eκ1⟩ : ∃ zz_, zz_ = u2 κ 1 (b + 12) ((κ 1 (b + 12)) + 1) := ⟨_, rfl⟩
    rw [← eκ1]
    exact z_vretd hC hr dX5_slot_137 (Nat.zero_le _) (Nat.zero_le _) (congrArg (fun z => cM q z ct) (by subst eκ1; rw [mdSlot, mdTurn, if_neg (by rw [c19]; decide)]; rfl)) cM_adr
  · rw [bI_1] at c19
    have hS2 := hS c19
    refine z_iload_n hC dX5_slot_22 rfl ?_
    refine z_iload_n hC dX5_slot_23 rfl ?_
    refine z_callS [] hC (c_X5_at l D ct b (mdT κ b % 10)) bw_70 bw_71 bw_5 bw_72 2 (by decide +kernel) rfl rfl rfl ⟨Nat.le_of_ble_eq_true rfl, Nat.le_of_ble_eq_true rfl⟩ (Nat.le_of_ble_eq_true rfl) ⟨Nat.le_of_ble_eq_true rfl, Nat.le_of_ble_eq_true rfl⟩ rfl dX5_slot_24 ?_
    refine zkq (G := fun v1 w1 => zG p l e _ s m args below meth c D _ _ _ _ _ _ _ (v1.toList ++ _) w1) rfl ?_
    refine z_istore_n hC dX5_slot_27 (by decide) rfl ?_
    refine z_aload_n hC dX5_slot_28 rfl ?_
    refine z_get 0 0 hC bl_X5 (ci := 5) rfl (by decide) rfl bw_67 rfl rfl dX5_slot_29 ?_
    refine z_iload_n hC dX5_slot_32 rfl ?_
    refine z_iconst (v := 1) hC dX5_slot_33 (by decide) ?_
    refine z_iaddN (b + 20 + 7 * (mdT κ b % 10)) (1) hC dX5_slot_34 ?_
    refine z_ialdN (b + 20 + 7 * (mdT κ b % 10) + 1) 1 0 hC rfl rfl (by decide) (by omega) dX5_slot_35 ?_
    refine z_iconst (v := (-1)) hC dX5_slot_36 (by decide) ?_
    refine z_icmp_eq hC 79 dX5_slot_37 (by decide) (fun c37 => ?_) (fun c37 => ?_)
    · refine z_iconst (v := 1) hC dX5_slot_79 (by decide) ?_
      refine z_istore hC dX5_slot_80 (by decide) rfl ?_
      have loop82 : ∀ (kf k : Nat) (κx : Nat → Nat → Int32) (hki : kf + k = 10) (hA : okA κx b) (hCx : okC κx b) (hF : kfor (mdHear1 b (mdT κ b % 10)) kf k κx = mdHeard (mdLose κ b (mdT κ b % 10)) b (mdT κ b % 10)), zG p l e { frames := 7, cells := 0, slots := 0, locals := 194 } s m args below meth c D (va_A (cM q κ ct) s.heap.size) 5 (MQ below (zQ D ct (cM q κ ct) s.heap.size (zd none (cM q (mdSlot κ b) ct))) args s 0 0 (va_A (cM q κ ct) s.heap.size)) 0 0 82 [some (.ref (q 0)), some (.int (nI b)), some (.int (nI (mdT κ b % 10))), some (.int (nI (b + 20 + 7 * (mdT κ b % 10)))), some (.int (nI k))] [] (cM q κx ct) := by
        intro kf
        induction kf with
        | zero =>
          intro k κx hki hA hCx hF
          refine z_iload hC dX5_slot_82 rfl ?_
          refine z_bipush (v := 10) hC dX5_slot_84 (by decide) ?_
          refine z_icmp_ge hC 114 dX5_slot_86 (by decide) (fun c86 => ?_) (fun c86 => (by have hh := (nI_nleI (a := 10) (b := k) (by omega) (by omega)).mp c86; omega))
          replace c86 := (nI_leI (a := 10) (b := k) (by omega) (by omega)).mp c86
          refine z_iload_n hC dX5_slot_114 rfl ?_
          refine z_if_le hC 124 dX5_slot_115 (by decide) (fun c115 => ?_) (fun c115 => ?_)
          · replace c115 := (nI_leI (a := (mdT κ b % 10)) (b := 0) (by omega) (by omega)).mp c115
            refine z_aload_n hC dX5_slot_124 rfl ?_
            refine z_get 0 0 hC bl_X5 (ci := 5) rfl (by decide) rfl bw_67 rfl rfl dX5_slot_125 ?_
            refine z_iload_n hC dX5_slot_128 rfl ?_
            refine z_bipush (v := 12) hC dX5_slot_129 (by decide) ?_
            refine z_iaddN (b) (12) hC dX5_slot_131 ?_
            refine z_dup2 hC dX5_slot_132 rfl rfl ?_
            refine z_ialdN (b + 12) 1 0 hC rfl rfl (by decide) (by omega) dX5_slot_133 ?_
            refine z_iconst (v := 1) hC dX5_slot_134 (by decide) ?_
            refine z_iadd hC dX5_slot_135 ?_
            refine z_iastN (b + 12) 1 0 hC rfl rfl (by decide) (by omega) dX5_slot_136 (w2 := cM q (u2 κx 1 (b + 12) ((κx 1 (b + 12)) + 1)) ct) cM_a1 ?_
            obtain ⟨κ2, eκ2⟩ : ∃ zz_, zz_ = u2 κx 1 (b + 12) ((κx 1 (b + 12)) + 1) := ⟨_, rfl⟩
            rw [← eκ2]
            exact z_vretd hC hr dX5_slot_137 (Nat.zero_le _) (Nat.zero_le _) (congrArg (fun z => cM q z ct) (by subst eκ2; rw [mdSlot, mdTurn, if_pos c19, if_neg (by omega), ← hF]; rfl)) cM_adr
          · replace c115 := (nI_nleI (a := (mdT κ b % 10)) (b := 0) (by omega) (by omega)).mp c115
            refine z_aload_n hC dX5_slot_118 rfl ?_
            refine z_iload_n hC dX5_slot_119 rfl ?_
            refine z_iload_n hC dX5_slot_120 rfl ?_
            refine z_callV [0, 1, 2, 3] 0 5 hC (c_X5_sends l D ct q κx b (mdT κ b % 10) hb (by omega) hA hCx (by rw [show κx = _ from hF]; exact hS2 c115)) bw_383 bw_384 bw_385 bw_5 bw_386 2 (by decide +kernel) rfl rfl rfl rfl rfl ⟨Nat.le_of_ble_eq_true rfl, Nat.le_of_ble_eq_true rfl⟩ (Nat.le_of_ble_eq_true rfl) ⟨Nat.le_of_ble_eq_true rfl, Nat.le_of_ble_eq_true rfl⟩ rfl dX5_slot_121 ?_
            refine zkd (G := fun v1 w1 => zG p l e _ s m args below meth c D _ _ _ _ _ _ _ (v1.toList ++ _) w1) (w2 := cM q (mdSendA κx b (mdT κ b % 10)) ct) cM_all ?_
            obtain ⟨κ3, eκ3⟩ : ∃ zz_, zz_ = (mdSendA κx b (mdT κ b % 10)) := ⟨_, rfl⟩
            rw [← eκ3]
            refine z_aload_n hC dX5_slot_124 rfl ?_
            refine z_get 0 0 hC bl_X5 (ci := 5) rfl (by decide) rfl bw_67 rfl rfl dX5_slot_125 ?_
            refine z_iload_n hC dX5_slot_128 rfl ?_
            refine z_bipush (v := 12) hC dX5_slot_129 (by decide) ?_
            refine z_iaddN (b) (12) hC dX5_slot_131 ?_
            refine z_dup2 hC dX5_slot_132 rfl rfl ?_
            refine z_ialdN (b + 12) 1 0 hC rfl rfl (by decide) (by omega) dX5_slot_133 ?_
            refine z_iconst (v := 1) hC dX5_slot_134 (by decide) ?_
            refine z_iadd hC dX5_slot_135 ?_
            refine z_iastN (b + 12) 1 0 hC rfl rfl (by decide) (by omega) dX5_slot_136 (w2 := cM q (u2 κ3 1 (b + 12) ((κ3 1 (b + 12)) + 1)) ct) cM_a1 ?_
            obtain ⟨κ4, eκ4⟩ : ∃ zz_, zz_ = u2 κ3 1 (b + 12) ((κ3 1 (b + 12)) + 1) := ⟨_, rfl⟩
            rw [← eκ4]
            exact z_vretd hC hr dX5_slot_137 (Nat.zero_le _) (Nat.zero_le _) (congrArg (fun z => cM q z ct) (by subst eκ4; subst eκ3; rw [mdSlot, mdTurn, if_pos c19, if_pos c115, ← hF]; rfl)) cM_adr
        | succ kf ih =>
          intro k κx hki hA hCx hF
          refine z_iload hC dX5_slot_82 rfl ?_
          refine z_bipush (v := 10) hC dX5_slot_84 (by decide) ?_
          refine z_icmp_ge hC 114 dX5_slot_86 (by decide) (fun c86 => (by have hh := (nI_leI (a := 10) (b := k) (by omega) (by omega)).mp c86; omega)) (fun c86 => ?_)
          replace c86 := (nI_nleI (a := 10) (b := k) (by omega) (by omega)).mp c86
          refine z_aload_n hC dX5_slot_89 rfl ?_
          refine z_iload_n hC dX5_slot_90 rfl ?_
          refine z_iload hC dX5_slot_91 rfl ?_
          refine z_iload_n hC dX5_slot_93 rfl ?_
          refine z_callV [0, 1, 2, 3] 0 5 hC (c_X5_areConnected l D ct q κx b k (mdT κ b % 10) hb (by omega)) bw_367 bw_368 bw_369 bw_5 bw_370 3 (by decide +kernel) rfl rfl rfl rfl rfl ⟨Nat.le_of_ble_eq_true rfl, Nat.le_of_ble_eq_true rfl⟩ (Nat.le_of_ble_eq_true rfl) ⟨Nat.le_of_ble_eq_true rfl, Nat.le_of_ble_eq_true rfl⟩ rfl dX5_slot_94 ?_
          refine zkq (G := fun v1 w1 => zG p l e _ s m args below meth c D _ _ _ _ _ _ _ (v1.toList ++ _) w1) rfl ?_
          refine z_if_eq hC 108 dX5_slot_97 (by decide) (fun c97 => ?_) (fun c97 => ?_)
          · rw [bI_0] at c97
            refine z_iincN (k) hC dX5_slot_108 (by decide) rfl rfl ?_
            refine z_goto hC 82 dX5_slot_111 (by decide) ?_
            have eT : κx = mdHear1 b (mdT κ b % 10) k κx := by rw [mdHear1, if_neg (by rw [c97]; decide)]
            exact ih (k + 1) κx (by omega) (by rw [eT]; exact okA_hear1 (by omega) hA) (by rw [eT]; exact okC_hear1 (by omega) hCx) (by rw [← hF]; exact congrArg (kfor (mdHear1 b (mdT κ b % 10)) kf (k + 1)) eT)
          · rw [bI_1] at c97
            refine z_aload_n hC dX5_slot_100 rfl ?_
            refine z_iload_n hC dX5_slot_101 rfl ?_
            refine z_iload hC dX5_slot_102 rfl ?_
            refine z_iload_n hC dX5_slot_104 rfl ?_
            refine z_callV [0, 1, 2, 3] 0 5 hC (c_X5_hears l D ct q κx b k (mdT κ b % 10) hb (by omega) (by omega) (hA _ (by omega))) bw_371 bw_372 bw_373 bw_5 bw_374 3 (by decide +kernel) rfl rfl rfl rfl rfl ⟨Nat.le_of_ble_eq_true rfl, Nat.le_of_ble_eq_true rfl⟩ (Nat.le_of_ble_eq_true rfl) ⟨Nat.le_of_ble_eq_true rfl, Nat.le_of_ble_eq_true rfl⟩ rfl dX5_slot_105 ?_
            refine zkd (G := fun v1 w1 => zG p l e _ s m args below meth c D _ _ _ _ _ _ _ (v1.toList ++ _) w1) (w2 := cM q (mdHear κx b k (mdT κ b % 10)) ct) cM_all ?_
            obtain ⟨κ5, eκ5⟩ : ∃ zz_, zz_ = (mdHear κx b k (mdT κ b % 10)) := ⟨_, rfl⟩
            rw [← eκ5]
            refine z_iincN (k) hC dX5_slot_108 (by decide) rfl rfl ?_
            refine z_goto hC 82 dX5_slot_111 (by decide) ?_
            have eT : κ5 = mdHear1 b (mdT κ b % 10) k κx := by subst eκ5; rw [mdHear1, if_pos c97]
            exact ih (k + 1) κ5 (by omega) (by rw [eT]; exact okA_hear1 (by omega) hA) (by rw [eT]; exact okC_hear1 (by omega) hCx) (by rw [← hF]; exact congrArg (kfor (mdHear1 b (mdT κ b % 10)) kf (k + 1)) eT)
      exact loop82 9 1 κ rfl hA hC0 (by rw [mdLose, if_neg (fun h => by first | exact h.1 c37 | exact absurd h.2 (i_nlt.mpr c70))]; rfl)
    · refine z_aload_n hC dX5_slot_40 rfl ?_
      refine z_get 0 0 hC bl_X5 (ci := 5) rfl (by decide) rfl bw_67 rfl rfl dX5_slot_41 ?_
      refine z_iload_n hC dX5_slot_44 rfl ?_
      refine z_bipush (v := 12) hC dX5_slot_45 (by decide) ?_
      refine z_iaddN (b) (12) hC dX5_slot_47 ?_
      refine z_ialdN (b + 12) 1 0 hC rfl rfl (by decide) (by omega) dX5_slot_48 ?_
      refine z_aload_n hC dX5_slot_49 rfl ?_
      refine z_get 0 0 hC bl_X5 (ci := 5) rfl (by decide) rfl bw_67 rfl rfl dX5_slot_50 ?_
      refine z_iload_n hC dX5_slot_53 rfl ?_
      refine z_iconst (v := 3) hC dX5_slot_54 (by decide) ?_
      refine z_iaddN (b + 20 + 7 * (mdT κ b % 10)) (3) hC dX5_slot_55 ?_
      refine z_ialdN (b + 20 + 7 * (mdT κ b % 10) + 3) 1 0 hC rfl rfl (by decide) (by omega) dX5_slot_56 ?_
      refine z_isub hC dX5_slot_57 ?_
      refine z_bipush (v := 10) hC dX5_slot_58 (by decide) ?_
      refine z_aload_n hC dX5_slot_60 rfl ?_
      refine z_get 0 0 hC bl_X5 (ci := 5) rfl (by decide) rfl bw_67 rfl rfl dX5_slot_61 ?_
      refine z_iload_n hC dX5_slot_64 rfl ?_
      refine z_bipush (v := 11) hC dX5_slot_65 (by decide) ?_
      refine z_iaddN (b) (11) hC dX5_slot_67 ?_
      refine z_ialdN (b + 11) 1 0 hC rfl rfl (by decide) (by omega) dX5_slot_68 ?_
      refine z_imul hC dX5_slot_69 ?_
      refine z_icmp_le hC 79 dX5_slot_70 (by decide) (fun c70 => ?_) (fun c70 => ?_)
      · refine z_iconst (v := 1) hC dX5_slot_79 (by decide) ?_
        refine z_istore hC dX5_slot_80 (by decide) rfl ?_
        have loop82 : ∀ (kf k : Nat) (κx : Nat → Nat → Int32) (hki : kf + k = 10) (hA : okA κx b) (hCx : okC κx b) (hF : kfor (mdHear1 b (mdT κ b % 10)) kf k κx = mdHeard (mdLose κ b (mdT κ b % 10)) b (mdT κ b % 10)), zG p l e { frames := 7, cells := 0, slots := 0, locals := 194 } s m args below meth c D (va_A (cM q κ ct) s.heap.size) 5 (MQ below (zQ D ct (cM q κ ct) s.heap.size (zd none (cM q (mdSlot κ b) ct))) args s 0 0 (va_A (cM q κ ct) s.heap.size)) 0 0 82 [some (.ref (q 0)), some (.int (nI b)), some (.int (nI (mdT κ b % 10))), some (.int (nI (b + 20 + 7 * (mdT κ b % 10)))), some (.int (nI k))] [] (cM q κx ct) := by
          intro kf
          induction kf with
          | zero =>
            intro k κx hki hA hCx hF
            refine z_iload hC dX5_slot_82 rfl ?_
            refine z_bipush (v := 10) hC dX5_slot_84 (by decide) ?_
            refine z_icmp_ge hC 114 dX5_slot_86 (by decide) (fun c86 => ?_) (fun c86 => (by have hh := (nI_nleI (a := 10) (b := k) (by omega) (by omega)).mp c86; omega))
            replace c86 := (nI_leI (a := 10) (b := k) (by omega) (by omega)).mp c86
            refine z_iload_n hC dX5_slot_114 rfl ?_
            refine z_if_le hC 124 dX5_slot_115 (by decide) (fun c115 => ?_) (fun c115 => ?_)
            · replace c115 := (nI_leI (a := (mdT κ b % 10)) (b := 0) (by omega) (by omega)).mp c115
              refine z_aload_n hC dX5_slot_124 rfl ?_
              refine z_get 0 0 hC bl_X5 (ci := 5) rfl (by decide) rfl bw_67 rfl rfl dX5_slot_125 ?_
              refine z_iload_n hC dX5_slot_128 rfl ?_
              refine z_bipush (v := 12) hC dX5_slot_129 (by decide) ?_
              refine z_iaddN (b) (12) hC dX5_slot_131 ?_
              refine z_dup2 hC dX5_slot_132 rfl rfl ?_
              refine z_ialdN (b + 12) 1 0 hC rfl rfl (by decide) (by omega) dX5_slot_133 ?_
              refine z_iconst (v := 1) hC dX5_slot_134 (by decide) ?_
              refine z_iadd hC dX5_slot_135 ?_
              refine z_iastN (b + 12) 1 0 hC rfl rfl (by decide) (by omega) dX5_slot_136 (w2 := cM q (u2 κx 1 (b + 12) ((κx 1 (b + 12)) + 1)) ct) cM_a1 ?_
              obtain ⟨κ6, eκ6⟩ : ∃ zz_, zz_ = u2 κx 1 (b + 12) ((κx 1 (b + 12)) + 1) := ⟨_, rfl⟩
              rw [← eκ6]
              exact z_vretd hC hr dX5_slot_137 (Nat.zero_le _) (Nat.zero_le _) (congrArg (fun z => cM q z ct) (by subst eκ6; rw [mdSlot, mdTurn, if_pos c19, if_neg (by omega), ← hF]; rfl)) cM_adr
            · replace c115 := (nI_nleI (a := (mdT κ b % 10)) (b := 0) (by omega) (by omega)).mp c115
              refine z_aload_n hC dX5_slot_118 rfl ?_
              refine z_iload_n hC dX5_slot_119 rfl ?_
              refine z_iload_n hC dX5_slot_120 rfl ?_
              refine z_callV [0, 1, 2, 3] 0 5 hC (c_X5_sends l D ct q κx b (mdT κ b % 10) hb (by omega) hA hCx (by rw [show κx = _ from hF]; exact hS2 c115)) bw_383 bw_384 bw_385 bw_5 bw_386 2 (by decide +kernel) rfl rfl rfl rfl rfl ⟨Nat.le_of_ble_eq_true rfl, Nat.le_of_ble_eq_true rfl⟩ (Nat.le_of_ble_eq_true rfl) ⟨Nat.le_of_ble_eq_true rfl, Nat.le_of_ble_eq_true rfl⟩ rfl dX5_slot_121 ?_
              refine zkd (G := fun v1 w1 => zG p l e _ s m args below meth c D _ _ _ _ _ _ _ (v1.toList ++ _) w1) (w2 := cM q (mdSendA κx b (mdT κ b % 10)) ct) cM_all ?_
              obtain ⟨κ7, eκ7⟩ : ∃ zz_, zz_ = (mdSendA κx b (mdT κ b % 10)) := ⟨_, rfl⟩
              rw [← eκ7]
              refine z_aload_n hC dX5_slot_124 rfl ?_
              refine z_get 0 0 hC bl_X5 (ci := 5) rfl (by decide) rfl bw_67 rfl rfl dX5_slot_125 ?_
              refine z_iload_n hC dX5_slot_128 rfl ?_
              refine z_bipush (v := 12) hC dX5_slot_129 (by decide) ?_
              refine z_iaddN (b) (12) hC dX5_slot_131 ?_
              refine z_dup2 hC dX5_slot_132 rfl rfl ?_
              refine z_ialdN (b + 12) 1 0 hC rfl rfl (by decide) (by omega) dX5_slot_133 ?_
              refine z_iconst (v := 1) hC dX5_slot_134 (by decide) ?_
              refine z_iadd hC dX5_slot_135 ?_
              refine z_iastN (b + 12) 1 0 hC rfl rfl (by decide) (by omega) dX5_slot_136 (w2 := cM q (u2 κ7 1 (b + 12) ((κ7 1 (b + 12)) + 1)) ct) cM_a1 ?_
              obtain ⟨κ8, eκ8⟩ : ∃ zz_, zz_ = u2 κ7 1 (b + 12) ((κ7 1 (b + 12)) + 1) := ⟨_, rfl⟩
              rw [← eκ8]
              exact z_vretd hC hr dX5_slot_137 (Nat.zero_le _) (Nat.zero_le _) (congrArg (fun z => cM q z ct) (by subst eκ8; subst eκ7; rw [mdSlot, mdTurn, if_pos c19, if_pos c115, ← hF]; rfl)) cM_adr
          | succ kf ih =>
            intro k κx hki hA hCx hF
            refine z_iload hC dX5_slot_82 rfl ?_
            refine z_bipush (v := 10) hC dX5_slot_84 (by decide) ?_
            refine z_icmp_ge hC 114 dX5_slot_86 (by decide) (fun c86 => (by have hh := (nI_leI (a := 10) (b := k) (by omega) (by omega)).mp c86; omega)) (fun c86 => ?_)
            replace c86 := (nI_nleI (a := 10) (b := k) (by omega) (by omega)).mp c86
            refine z_aload_n hC dX5_slot_89 rfl ?_
            refine z_iload_n hC dX5_slot_90 rfl ?_
            refine z_iload hC dX5_slot_91 rfl ?_
            refine z_iload_n hC dX5_slot_93 rfl ?_
            refine z_callV [0, 1, 2, 3] 0 5 hC (c_X5_areConnected l D ct q κx b k (mdT κ b % 10) hb (by omega)) bw_367 bw_368 bw_369 bw_5 bw_370 3 (by decide +kernel) rfl rfl rfl rfl rfl ⟨Nat.le_of_ble_eq_true rfl, Nat.le_of_ble_eq_true rfl⟩ (Nat.le_of_ble_eq_true rfl) ⟨Nat.le_of_ble_eq_true rfl, Nat.le_of_ble_eq_true rfl⟩ rfl dX5_slot_94 ?_
            refine zkq (G := fun v1 w1 => zG p l e _ s m args below meth c D _ _ _ _ _ _ _ (v1.toList ++ _) w1) rfl ?_
            refine z_if_eq hC 108 dX5_slot_97 (by decide) (fun c97 => ?_) (fun c97 => ?_)
            · rw [bI_0] at c97
              refine z_iincN (k) hC dX5_slot_108 (by decide) rfl rfl ?_
              refine z_goto hC 82 dX5_slot_111 (by decide) ?_
              have eT : κx = mdHear1 b (mdT κ b % 10) k κx := by rw [mdHear1, if_neg (by rw [c97]; decide)]
              exact ih (k + 1) κx (by omega) (by rw [eT]; exact okA_hear1 (by omega) hA) (by rw [eT]; exact okC_hear1 (by omega) hCx) (by rw [← hF]; exact congrArg (kfor (mdHear1 b (mdT κ b % 10)) kf (k + 1)) eT)
            · rw [bI_1] at c97
              refine z_aload_n hC dX5_slot_100 rfl ?_
              refine z_iload_n hC dX5_slot_101 rfl ?_
              refine z_iload hC dX5_slot_102 rfl ?_
              refine z_iload_n hC dX5_slot_104 rfl ?_
              refine z_callV [0, 1, 2, 3] 0 5 hC (c_X5_hears l D ct q κx b k (mdT κ b % 10) hb (by omega) (by omega) (hA _ (by omega))) bw_371 bw_372 bw_373 bw_5 bw_374 3 (by decide +kernel) rfl rfl rfl rfl rfl ⟨Nat.le_of_ble_eq_true rfl, Nat.le_of_ble_eq_true rfl⟩ (Nat.le_of_ble_eq_true rfl) ⟨Nat.le_of_ble_eq_true rfl, Nat.le_of_ble_eq_true rfl⟩ rfl dX5_slot_105 ?_
              refine zkd (G := fun v1 w1 => zG p l e _ s m args below meth c D _ _ _ _ _ _ _ (v1.toList ++ _) w1) (w2 := cM q (mdHear κx b k (mdT κ b % 10)) ct) cM_all ?_
              obtain ⟨κ9, eκ9⟩ : ∃ zz_, zz_ = (mdHear κx b k (mdT κ b % 10)) := ⟨_, rfl⟩
              rw [← eκ9]
              refine z_iincN (k) hC dX5_slot_108 (by decide) rfl rfl ?_
              refine z_goto hC 82 dX5_slot_111 (by decide) ?_
              have eT : κ9 = mdHear1 b (mdT κ b % 10) k κx := by subst eκ9; rw [mdHear1, if_pos c97]
              exact ih (k + 1) κ9 (by omega) (by rw [eT]; exact okA_hear1 (by omega) hA) (by rw [eT]; exact okC_hear1 (by omega) hCx) (by rw [← hF]; exact congrArg (kfor (mdHear1 b (mdT κ b % 10)) kf (k + 1)) eT)
        exact loop82 9 1 κ rfl hA hC0 (by rw [mdLose, if_neg (fun h => by first | exact h.1 c37 | exact absurd h.2 (i_nlt.mpr c70))]; rfl)
      · refine z_aload_n hC dX5_slot_73 rfl ?_
        refine z_iload_n hC dX5_slot_74 rfl ?_
        refine z_iload_n hC dX5_slot_75 rfl ?_
        refine z_callV [0, 1, 2, 3] 0 5 hC (c_X5_drops l D ct q κ b (mdT κ b % 10) hb (by omega)) bw_363 bw_364 bw_365 bw_5 bw_366 2 (by decide +kernel) rfl rfl rfl rfl rfl ⟨Nat.le_of_ble_eq_true rfl, Nat.le_of_ble_eq_true rfl⟩ (Nat.le_of_ble_eq_true rfl) ⟨Nat.le_of_ble_eq_true rfl, Nat.le_of_ble_eq_true rfl⟩ rfl dX5_slot_76 ?_
        refine zkd (G := fun v1 w1 => zG p l e _ s m args below meth c D _ _ _ _ _ _ _ (v1.toList ++ _) w1) (w2 := cM q (mdDrop κ b (mdT κ b % 10)) ct) cM_all ?_
        obtain ⟨κ10, eκ10⟩ : ∃ zz_, zz_ = (mdDrop κ b (mdT κ b % 10)) := ⟨_, rfl⟩
        rw [← eκ10]
        refine z_iconst (v := 1) hC dX5_slot_79 (by decide) ?_
        refine z_istore hC dX5_slot_80 (by decide) rfl ?_
        have loop82 : ∀ (kf k : Nat) (κx : Nat → Nat → Int32) (hki : kf + k = 10) (hA : okA κx b) (hCx : okC κx b) (hF : kfor (mdHear1 b (mdT κ b % 10)) kf k κx = mdHeard (mdLose κ b (mdT κ b % 10)) b (mdT κ b % 10)), zG p l e { frames := 7, cells := 0, slots := 0, locals := 194 } s m args below meth c D (va_A (cM q κ ct) s.heap.size) 5 (MQ below (zQ D ct (cM q κ ct) s.heap.size (zd none (cM q (mdSlot κ b) ct))) args s 0 0 (va_A (cM q κ ct) s.heap.size)) 0 0 82 [some (.ref (q 0)), some (.int (nI b)), some (.int (nI (mdT κ b % 10))), some (.int (nI (b + 20 + 7 * (mdT κ b % 10)))), some (.int (nI k))] [] (cM q κx ct) := by
          intro kf
          induction kf with
          | zero =>
            intro k κx hki hA hCx hF
            refine z_iload hC dX5_slot_82 rfl ?_
            refine z_bipush (v := 10) hC dX5_slot_84 (by decide) ?_
            refine z_icmp_ge hC 114 dX5_slot_86 (by decide) (fun c86 => ?_) (fun c86 => (by have hh := (nI_nleI (a := 10) (b := k) (by omega) (by omega)).mp c86; omega))
            replace c86 := (nI_leI (a := 10) (b := k) (by omega) (by omega)).mp c86
            refine z_iload_n hC dX5_slot_114 rfl ?_
            refine z_if_le hC 124 dX5_slot_115 (by decide) (fun c115 => ?_) (fun c115 => ?_)
            · replace c115 := (nI_leI (a := (mdT κ b % 10)) (b := 0) (by omega) (by omega)).mp c115
              refine z_aload_n hC dX5_slot_124 rfl ?_
              refine z_get 0 0 hC bl_X5 (ci := 5) rfl (by decide) rfl bw_67 rfl rfl dX5_slot_125 ?_
              refine z_iload_n hC dX5_slot_128 rfl ?_
              refine z_bipush (v := 12) hC dX5_slot_129 (by decide) ?_
              refine z_iaddN (b) (12) hC dX5_slot_131 ?_
              refine z_dup2 hC dX5_slot_132 rfl rfl ?_
              refine z_ialdN (b + 12) 1 0 hC rfl rfl (by decide) (by omega) dX5_slot_133 ?_
              refine z_iconst (v := 1) hC dX5_slot_134 (by decide) ?_
              refine z_iadd hC dX5_slot_135 ?_
              refine z_iastN (b + 12) 1 0 hC rfl rfl (by decide) (by omega) dX5_slot_136 (w2 := cM q (u2 κx 1 (b + 12) ((κx 1 (b + 12)) + 1)) ct) cM_a1 ?_
              obtain ⟨κ11, eκ11⟩ : ∃ zz_, zz_ = u2 κx 1 (b + 12) ((κx 1 (b + 12)) + 1) := ⟨_, rfl⟩
              rw [← eκ11]
              exact z_vretd hC hr dX5_slot_137 (Nat.zero_le _) (Nat.zero_le _) (congrArg (fun z => cM q z ct) (by subst eκ11; rw [mdSlot, mdTurn, if_pos c19, if_neg (by omega), ← hF]; rfl)) cM_adr
            · replace c115 := (nI_nleI (a := (mdT κ b % 10)) (b := 0) (by omega) (by omega)).mp c115
              refine z_aload_n hC dX5_slot_118 rfl ?_
              refine z_iload_n hC dX5_slot_119 rfl ?_
              refine z_iload_n hC dX5_slot_120 rfl ?_
              refine z_callV [0, 1, 2, 3] 0 5 hC (c_X5_sends l D ct q κx b (mdT κ b % 10) hb (by omega) hA hCx (by rw [show κx = _ from hF]; exact hS2 c115)) bw_383 bw_384 bw_385 bw_5 bw_386 2 (by decide +kernel) rfl rfl rfl rfl rfl ⟨Nat.le_of_ble_eq_true rfl, Nat.le_of_ble_eq_true rfl⟩ (Nat.le_of_ble_eq_true rfl) ⟨Nat.le_of_ble_eq_true rfl, Nat.le_of_ble_eq_true rfl⟩ rfl dX5_slot_121 ?_
              refine zkd (G := fun v1 w1 => zG p l e _ s m args below meth c D _ _ _ _ _ _ _ (v1.toList ++ _) w1) (w2 := cM q (mdSendA κx b (mdT κ b % 10)) ct) cM_all ?_
              obtain ⟨κ12, eκ12⟩ : ∃ zz_, zz_ = (mdSendA κx b (mdT κ b % 10)) := ⟨_, rfl⟩
              rw [← eκ12]
              refine z_aload_n hC dX5_slot_124 rfl ?_
              refine z_get 0 0 hC bl_X5 (ci := 5) rfl (by decide) rfl bw_67 rfl rfl dX5_slot_125 ?_
              refine z_iload_n hC dX5_slot_128 rfl ?_
              refine z_bipush (v := 12) hC dX5_slot_129 (by decide) ?_
              refine z_iaddN (b) (12) hC dX5_slot_131 ?_
              refine z_dup2 hC dX5_slot_132 rfl rfl ?_
              refine z_ialdN (b + 12) 1 0 hC rfl rfl (by decide) (by omega) dX5_slot_133 ?_
              refine z_iconst (v := 1) hC dX5_slot_134 (by decide) ?_
              refine z_iadd hC dX5_slot_135 ?_
              refine z_iastN (b + 12) 1 0 hC rfl rfl (by decide) (by omega) dX5_slot_136 (w2 := cM q (u2 κ12 1 (b + 12) ((κ12 1 (b + 12)) + 1)) ct) cM_a1 ?_
              obtain ⟨κ13, eκ13⟩ : ∃ zz_, zz_ = u2 κ12 1 (b + 12) ((κ12 1 (b + 12)) + 1) := ⟨_, rfl⟩
              rw [← eκ13]
              exact z_vretd hC hr dX5_slot_137 (Nat.zero_le _) (Nat.zero_le _) (congrArg (fun z => cM q z ct) (by subst eκ13; subst eκ12; rw [mdSlot, mdTurn, if_pos c19, if_pos c115, ← hF]; rfl)) cM_adr
          | succ kf ih =>
            intro k κx hki hA hCx hF
            refine z_iload hC dX5_slot_82 rfl ?_
            refine z_bipush (v := 10) hC dX5_slot_84 (by decide) ?_
            refine z_icmp_ge hC 114 dX5_slot_86 (by decide) (fun c86 => (by have hh := (nI_leI (a := 10) (b := k) (by omega) (by omega)).mp c86; omega)) (fun c86 => ?_)
            replace c86 := (nI_nleI (a := 10) (b := k) (by omega) (by omega)).mp c86
            refine z_aload_n hC dX5_slot_89 rfl ?_
            refine z_iload_n hC dX5_slot_90 rfl ?_
            refine z_iload hC dX5_slot_91 rfl ?_
            refine z_iload_n hC dX5_slot_93 rfl ?_
            refine z_callV [0, 1, 2, 3] 0 5 hC (c_X5_areConnected l D ct q κx b k (mdT κ b % 10) hb (by omega)) bw_367 bw_368 bw_369 bw_5 bw_370 3 (by decide +kernel) rfl rfl rfl rfl rfl ⟨Nat.le_of_ble_eq_true rfl, Nat.le_of_ble_eq_true rfl⟩ (Nat.le_of_ble_eq_true rfl) ⟨Nat.le_of_ble_eq_true rfl, Nat.le_of_ble_eq_true rfl⟩ rfl dX5_slot_94 ?_
            refine zkq (G := fun v1 w1 => zG p l e _ s m args below meth c D _ _ _ _ _ _ _ (v1.toList ++ _) w1) rfl ?_
            refine z_if_eq hC 108 dX5_slot_97 (by decide) (fun c97 => ?_) (fun c97 => ?_)
            · rw [bI_0] at c97
              refine z_iincN (k) hC dX5_slot_108 (by decide) rfl rfl ?_
              refine z_goto hC 82 dX5_slot_111 (by decide) ?_
              have eT : κx = mdHear1 b (mdT κ b % 10) k κx := by rw [mdHear1, if_neg (by rw [c97]; decide)]
              exact ih (k + 1) κx (by omega) (by rw [eT]; exact okA_hear1 (by omega) hA) (by rw [eT]; exact okC_hear1 (by omega) hCx) (by rw [← hF]; exact congrArg (kfor (mdHear1 b (mdT κ b % 10)) kf (k + 1)) eT)
            · rw [bI_1] at c97
              refine z_aload_n hC dX5_slot_100 rfl ?_
              refine z_iload_n hC dX5_slot_101 rfl ?_
              refine z_iload hC dX5_slot_102 rfl ?_
              refine z_iload_n hC dX5_slot_104 rfl ?_
              refine z_callV [0, 1, 2, 3] 0 5 hC (c_X5_hears l D ct q κx b k (mdT κ b % 10) hb (by omega) (by omega) (hA _ (by omega))) bw_371 bw_372 bw_373 bw_5 bw_374 3 (by decide +kernel) rfl rfl rfl rfl rfl ⟨Nat.le_of_ble_eq_true rfl, Nat.le_of_ble_eq_true rfl⟩ (Nat.le_of_ble_eq_true rfl) ⟨Nat.le_of_ble_eq_true rfl, Nat.le_of_ble_eq_true rfl⟩ rfl dX5_slot_105 ?_
              refine zkd (G := fun v1 w1 => zG p l e _ s m args below meth c D _ _ _ _ _ _ _ (v1.toList ++ _) w1) (w2 := cM q (mdHear κx b k (mdT κ b % 10)) ct) cM_all ?_
              obtain ⟨κ14, eκ14⟩ : ∃ zz_, zz_ = (mdHear κx b k (mdT κ b % 10)) := ⟨_, rfl⟩
              rw [← eκ14]
              refine z_iincN (k) hC dX5_slot_108 (by decide) rfl rfl ?_
              refine z_goto hC 82 dX5_slot_111 (by decide) ?_
              have eT : κ14 = mdHear1 b (mdT κ b % 10) k κx := by subst eκ14; rw [mdHear1, if_pos c97]
              exact ih (k + 1) κ14 (by omega) (by rw [eT]; exact okA_hear1 (by omega) hA) (by rw [eT]; exact okC_hear1 (by omega) hCx) (by rw [← hF]; exact congrArg (kfor (mdHear1 b (mdT κ b % 10)) kf (k + 1)) eT)
        exact loop82 9 1 κ10 rfl (by subst eκ10; exact okA_drop hA) (by subst eκ10; exact okC_drop hC0) (by subst eκ10; rw [mdLose, if_pos ⟨c37, i_nle.mp c70⟩]; rfl)
