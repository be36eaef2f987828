/-! THE REFERENCE: a slot, slots, saving, links, the calls' first lines -/
def mdP (κ : Nat → Nat → Int32) (b n : Nat) : Nat := (κ 1 (b + 20 + 7 * n + 1)).toNatClampNeg
def mdT (κ : Nat → Nat → Int32) (b : Nat) : Nat := (κ 1 (b + 12)).toNatClampNeg
def okA (κ : Nat → Nat → Int32) (b : Nat) : Prop := ∀ n, n < 10 → okK κ b n
def mdSendA (κ : Nat → Nat → Int32) (b m : Nat) : Nat → Nat → Int32 := if κ 1 (b + 20 + 7 * m + 1) = -1 then κ else mdSend κ b m (mdP κ b m)
def okSend (κ : Nat → Nat → Int32) (b m : Nat) : Prop := κ 1 (b + 20 + 7 * m + 1) = -1 ∨ (κ 1 (b + 20 + 7 * m + 1) = nI (mdP κ b m) ∧ mdP κ b m < 10 ∧
  (0 < mdK κ b m → mdP κ b m = 0 → mdColl (mdInc κ (b + 14)) b (b + 90 + 5 * (6 * m + 0)) = false → mdC (mdInc κ (b + 14)) b < 60) ∧
  (0 < mdK κ b m → mdHandR (mdInc κ (b + 14)) b (b + 90 + 5 * (6 * m + 0)) (mdP κ b m) = true → okK (mdHand (mdInc κ (b + 14)) b (b + 90 + 5 * (6 * m + 0)) (mdP κ b m) (mdInc κ (b + 14) 1 (b + 20 + 7 * mdP κ b m + 0) - mdInc κ (b + 14) 1 (b + 20 + 7 * m + 0))) b m ∧ 0 < mdK (mdHand (mdInc κ (b + 14)) b (b + 90 + 5 * (6 * m + 0)) (mdP κ b m) (mdInc κ (b + 14) 1 (b + 20 + 7 * mdP κ b m + 0) - mdInc κ (b + 14) 1 (b + 20 + 7 * m + 0))) b m))
def mdLose (κ : Nat → Nat → Int32) (b n : Nat) : Nat → Nat → Int32 := if ¬ κ 1 (b + 20 + 7 * n + 1) = -1 ∧ 10 * κ 1 (b + 11) < κ 1 (b + 12) - κ 1 (b + 20 + 7 * n + 3) then mdDrop κ b n else κ
def mdHear1 (b n m : Nat) (κ : Nat → Nat → Int32) : Nat → Nat → Int32 := if mdConn κ b m n = true then mdHear κ b m n else κ
def mdHeard (κ : Nat → Nat → Int32) (b n : Nat) : Nat → Nat → Int32 := kfor (mdHear1 b n) 9 1 κ
def mdTurn (κ : Nat → Nat → Int32) (b n : Nat) : Nat → Nat → Int32 := if mdOn κ b n = true then (if 0 < n then mdSendA (mdHeard (mdLose κ b n) b n) b n else mdHeard (mdLose κ b n) b n) else κ
def mdSlot (κ : Nat → Nat → Int32) (b : Nat) : Nat → Nat → Int32 := mdInc (mdTurn κ b (mdT κ b % 10)) (b + 12)
def okSlot (κ : Nat → Nat → Int32) (b : Nat) : Prop := okA κ b ∧ okC κ b ∧ κ 1 (b + 12) = nI (mdT κ b) ∧ (mdOn κ b (mdT κ b % 10) = true → 0 < mdT κ b % 10 → okSend (mdHeard (mdLose κ b (mdT κ b % 10)) b (mdT κ b % 10)) b (mdT κ b % 10))
def mdRun (κ : Nat → Nat → Int32) (b k : Nat) : Nat → Nat → Int32 := kfor (fun _ κ => mdSlot κ b) k 0 κ
def mdRunR (κ : Nat → Nat → Int32) (b k : Nat) : Int32 := mdRun κ b k 1 (b + 19) - κ 1 (b + 19)
/-! cells that stay -/
theorem mdClock_ne {κ : Nat → Nat → Int32} {b m n c : Nat} (h1 : c ≠ b + 20 + 7 * m + 0) (h2 : ∀ i, i < mdK κ b m → c ≠ b + 90 + 5 * (6 * m + i) + 4) : mdClock κ b m n 1 c = κ 1 c := by
  unfold mdClock
  rw [kfor_at1 _ _ _ (fun j ξ h3 h4 => by unfold mdShift1; rw [u2_nk (h2 j (by omega))]), u2_nk h1]
theorem mdK_u2 {κ : Nat → Nat → Int32} {b n i : Nat} {x : Int32} (hi : b + 20 + 7 * n + 6 ≠ i) : mdK (u2 κ 1 i x) b n = mdK κ b n := by
  unfold mdK
  rw [u2_nk hi]
theorem mdFollow_ne {κ : Nat → Nat → Int32} {b m n c : Nat} (h0 : c ≠ b + 20 + 7 * m + 0) (h1 : c ≠ b + 20 + 7 * m + 1) (h2 : c ≠ b + 20 + 7 * m + 2) (h3 : c ≠ b + 20 + 7 * m + 3) (h4 : ∀ i, i < mdK κ b m → c ≠ b + 90 + 5 * (6 * m + i) + 4) : mdFollow κ b m n 1 c = κ 1 c := by
  unfold mdFollow
  have e : mdK (mdF3 (mdF2 (mdF1 κ b m n) b m n) b m) b m = mdK κ b m := by
    unfold mdF3 mdF2 mdF1
    rw [mdK_u2 (by omega), mdK_u2 (by omega), mdK_u2 (by omega)]
  rw [mdClock_ne h0 (by rw [e]; exact h4)]
  unfold mdF3 mdF2 mdF1
  rw [u2_nk h3, u2_nk h2, u2_nk h1]
theorem mdDrop_ne {κ : Nat → Nat → Int32} {b m c : Nat} (h1 : c ≠ b + 20 + 7 * m + 1) (h2 : c ≠ b + 20 + 7 * m + 2) (h3 : c ≠ b + 18) : mdDrop κ b m 1 c = κ 1 c := by
  unfold mdDrop mdInc
  rw [u2_nk h3, u2_nk h2, u2_nk h1]
theorem mdHear_ne {κ : Nat → Nat → Int32} {b m n c : Nat} (h0 : c ≠ b + 20 + 7 * m + 0) (h1 : c ≠ b + 20 + 7 * m + 1) (h2 : c ≠ b + 20 + 7 * m + 2) (h3 : c ≠ b + 20 + 7 * m + 3) (h5 : c ≠ b + 18) (h4 : ∀ i, i < mdK κ b m → c ≠ b + 90 + 5 * (6 * m + i) + 4) : mdHear κ b m n 1 c = κ 1 c := by
  unfold mdHear
  split
  · split
    · exact mdFollow_ne h0 h1 h2 h3 h4
    · exact mdDrop_ne h1 h2 h5
  · split
    · exact mdFollow_ne h0 h1 h2 h3 h4
    · rfl
theorem okK_of {κ κ2 : Nat → Nat → Int32} {b n : Nat} (h : okK κ b n) (e : κ2 1 (b + 20 + 7 * n + 6) = κ 1 (b + 20 + 7 * n + 6)) : okK κ2 b n := by
  unfold okK mdK at *
  rw [e]
  exact h
theorem okC_of {κ κ2 : Nat → Nat → Int32} {b : Nat} (h : okC κ b) (e : κ2 1 (b + 19) = κ 1 (b + 19)) : okC κ2 b := by
  unfold okC mdC at *
  rw [e]
  exact h
theorem okA_hear1 {κ : Nat → Nat → Int32} {b n m : Nat} (hm : m < 10) (h : okA κ b) : okA (mdHear1 b n m κ) b := fun j hj => by
  unfold mdHear1
  split
  · have h6 := (h m hm).2
    exact okK_of (h j hj) (mdHear_ne (by omega) (by omega) (by omega) (by omega) (by omega) (fun i hi => by omega))
  · exact h j hj
theorem okC_hear1 {κ : Nat → Nat → Int32} {b n m : Nat} (hm : m < 10) (h : okC κ b) : okC (mdHear1 b n m κ) b := by
  unfold mdHear1
  split
  · exact okC_of h (mdHear_ne (by omega) (by omega) (by omega) (by omega) (by omega) (fun i hi => by omega))
  · exact h
theorem okA_drop {κ : Nat → Nat → Int32} {b n : Nat} (h : okA κ b) : okA (mdDrop κ b n) b := fun j hj => okK_of (h j hj) (mdDrop_ne (by omega) (by omega) (by omega))
theorem okC_drop {κ : Nat → Nat → Int32} {b n : Nat} (h : okC κ b) : okC (mdDrop κ b n) b := okC_of h (mdDrop_ne (by omega) (by omega) (by omega))
def mdLay1 (i j k : Nat) (κ : Nat → Nat → Int32) : Nat → Nat → Int32 := u2 κ 1 (690 * j + k) (κ 1 (690 * i + k))
def mdLay (κ : Nat → Nat → Int32) (i j : Nat) : Nat → Nat → Int32 := kfor (mdLay1 i j) 690 0 κ
theorem mdLay_0 (κ : Nat → Nat → Int32) (i j r : Nat) (hr : r ≠ 1) : mdLay κ i j r = κ r := kfor_inv (fun z : Nat → Nat → Int32 => z r = κ r) (fun k z h => by show mdLay1 i j k z r = κ r; rw [← h]; exact u2_ne hr) _ _ _ rfl
def mdLays (k : Nat) (κ : Nat → Nat → Int32) : Nat → Nat → Int32 := mdLay κ (k + 1) k
def mdShiftAll (κ : Nat → Nat → Int32) : Nat → Nat → Int32 := kfor mdLays 5 1 κ
theorem mdShiftAll_0 (κ : Nat → Nat → Int32) (r : Nat) (hr : r ≠ 1) : mdShiftAll κ r = κ r := kfor_inv (fun z : Nat → Nat → Int32 => z r = κ r) (fun k z h => by show mdLay z (k + 1) k r = κ r; rw [mdLay_0 _ _ _ _ hr]; exact h) _ _ _ rfl
def mdSave (κ : Nat → Nat → Int32) (z : Nat) : Nat → Nat → Int32 := if z = 6 then mdLay (u2 (u2 (mdShiftAll κ) 0 0 (nI (6 - 1))) 0 0 (nI (6 - 1 + 1))) 0 (6 - 1 + 1) else mdLay (u2 κ 0 0 (nI (z + 1))) 0 (z + 1)
def mdOnes (x : Int32) : Int32 := kfor (fun k (n : Int32) => n + ((x >>> (nI k &&& 31)) &&& 1)) 10 0 0
def mdBit (x : Int32) (j : Nat) (v : Int32) : Int32 := if v = 0 then x &&& ((1 <<< (nI j &&& 31)) ^^^ (-1)) else x ||| (1 <<< (nI j &&& 31))
def mdLink (κ : Nat → Nat → Int32) (a b : Nat) (v : Int32) : Nat → Nat → Int32 := u2 (u2 κ 1 (0 + a) (mdBit (κ 1 (0 + a)) b v)) 1 (0 + b) (mdBit (u2 κ 1 (0 + a) (mdBit (κ 1 (0 + a)) b v) 1 (0 + b)) a v)
def mdLinks (κ : Nat → Nat → Int32) : Int32 := kfor (fun k (n : Int32) => n + mdOnes (κ 1 (0 + k))) 10 0 0 / 2
def mdPower (κ : Nat → Nat → Int32) (n : Nat) (v : Int32) : Nat → Nat → Int32 := u2 κ 1 10 (mdBit (κ 1 10) n v)
def mdCan (κ : Nat → Nat → Int32) (m : Nat) : Bool := decide (mdK κ 0 m < 6) && decide (κ 1 13 < 60)
def mdTk1 (κ : Nat → Nat → Int32) (m π : Nat) : Nat → Nat → Int32 := u2 κ 1 π (nI m)
def mdTk2 (κ : Nat → Nat → Int32) (m π : Nat) : Nat → Nat → Int32 := u2 κ 1 (π + 1) (κ 1 (0 + 20 + 7 * m + 5))
def mdTk3 (κ : Nat → Nat → Int32) (π : Nat) (v : Int32) : Nat → Nat → Int32 := u2 κ 1 (π + 2) v
def mdTk4 (κ : Nat → Nat → Int32) (π : Nat) : Nat → Nat → Int32 := u2 κ 1 (π + 3) (κ 1 12)
def mdTk5 (κ : Nat → Nat → Int32) (m π : Nat) : Nat → Nat → Int32 := u2 κ 1 (π + 4) (κ 1 12 + κ 1 (0 + 20 + 7 * m + 0))
def mdTake (κ : Nat → Nat → Int32) (m : Nat) (v : Int32) : Nat → Nat → Int32 := mdInc (mdInc (mdInc (mdTk5 (mdTk4 (mdTk3 (mdTk2 (mdTk1 κ m (0 + 90 + 5 * (6 * m + mdK κ 0 m))) m (0 + 90 + 5 * (6 * m + mdK κ 0 m))) (0 + 90 + 5 * (6 * m + mdK κ 0 m)) v) (0 + 90 + 5 * (6 * m + mdK κ 0 m))) m (0 + 90 + 5 * (6 * m + mdK κ 0 m))) (0 + 20 + 7 * m + 6)) (0 + 20 + 7 * m + 5)) 13
def mIn (v lo hi : Int32) : Bool := decide (lo ≤ v) && decide (v ≤ hi)
def mdGo (a b c : Int32) : Int32 := if a = 0 then 1 else if b = 0 then 2 else if c = 0 then 3 else 0
theorem mIn_node (n : Int32) : mIn n 0 9 = mNode n := by
  by_cases h : 0 ≤ n ∧ n < 10
  · have h9 : n ≤ 9 := by
      rw [Int32.le_iff_toInt_le]
      have h2 := h.2
      rw [Int32.lt_iff_toInt_lt] at h2
      have e10 : (10 : Int32).toInt = 10 := rfl
      have e9 : (9 : Int32).toInt = 9 := rfl
      omega
    rw [node_of2 h]
    unfold mIn
    rw [decide_eq_true h.1, decide_eq_true h9]
    rfl
  · have h1 : mNode n = false := by
      cases hb : mNode n with
      | false => rfl
      | true => exact absurd (node_of hb) h
    rw [h1]
    unfold mIn
    cases hd : (decide (0 ≤ n) && decide (n ≤ 9)) with
    | false => rfl
    | true =>
      exfalso
      rw [Bool.and_eq_true, decide_eq_true_eq, decide_eq_true_eq] at hd
      refine h ⟨hd.1, ?_⟩
      have h2 := hd.2
      rw [Int32.le_iff_toInt_le] at h2
      rw [Int32.lt_iff_toInt_lt]
      have e10 : (10 : Int32).toInt = 10 := rfl
      have e9 : (9 : Int32).toInt = 9 := rfl
      omega
theorem mIn_meter (n : Int32) : mIn n 1 9 = mMeter n := by
  have h := mIn_node n
  unfold mMeter
  rw [← h]
  unfold mIn
  have e1 : (1 : Int32).toInt = 1 := rfl
  have e0 : (0 : Int32).toInt = 0 := rfl
  by_cases h1 : 1 ≤ n
  · have h0 : 0 ≤ n := by rw [Int32.le_iff_toInt_le] at h1 ⊢; omega
    have hn : ¬ n = 0 := fun e => by rw [e] at h1; exact absurd h1 (by decide)
    simp [h1, h0, hn]
  · by_cases h0 : 0 ≤ n
    · have hn : n = 0 := by rw [i_eq]; rw [Int32.le_iff_toInt_le] at h1 h0; omega
      simp [h1, hn]
    · simp [h1, h0]
def mdHop0 (k : Nat) (κ : Nat → Nat → Int32) : Nat → Nat → Int32 := u2 κ 3 k (if k = 0 ∧ mdOn κ 0 0 = true then 0 else -1)
def mdHop1 (far k : Nat) (κ : Nat → Nat → Int32) : Nat → Nat → Int32 := u2 κ 3 (k % 10) (if κ 3 (k / 10) = nI far ∧ κ 3 (k % 10) = -1 ∧ mdConn κ 0 (k / 10) (k % 10) = true then nI (far + 1) else κ 3 (k % 10))
def mdHop2 (far : Nat) (κ : Nat → Nat → Int32) : Nat → Nat → Int32 := kfor (mdHop1 far) 100 0 κ
def mdHops (κ : Nat → Nat → Int32) : Nat → Nat → Int32 := kfor mdHop2 10 0 (kfor mdHop0 10 0 κ)
def mdCop1 (κ : Nat → Nat → Int32) (m : Nat) (x : Int32) (n k : Nat) (a : Int32) : Int32 := a + (if κ 1 (0 + 90 + 5 * (6 * n + k)) = nI m ∧ κ 1 (0 + 90 + 5 * (6 * n + k) + 1) = x then 1 else 0)
def mdCop2 (κ : Nat → Nat → Int32) (m : Nat) (x : Int32) (n : Nat) (a : Int32) : Int32 := kfor (mdCop1 κ m x n) (mdK κ 0 n) 0 a
def mdCop (κ : Nat → Nat → Int32) (m : Nat) (x : Int32) : Int32 := kfor (mdCop2 κ m x) 9 1 0
def mdWrong1 (κ : Nat → Nat → Int32) (k : Nat) (a : Int32) : Int32 := a + (if κ 1 (0 + 390 + 5 * k + 4) = κ 1 (0 + 390 + 5 * k + 3) then 0 else 1)
def mdWrong (κ : Nat → Nat → Int32) : Int32 := kfor (mdWrong1 κ) (mdC κ 0) 0 0
def mdJoin1 (κ : Nat → Nat → Int32) (k : Nat) (a : Int32) : Int32 := a + (if κ 1 (0 + 20 + 7 * k + 1) = -1 then 0 else 1)
def mdJoined (κ : Nat → Nat → Int32) : Int32 := kfor (mdJoin1 κ) 9 1 0
theorem mdJoined_le (κ : Nat → Nat → Int32) : ∃ k : Nat, k < 11 ∧ mdJoined κ = nI k := by
  have h : ∀ (k i j : Nat), j + k ≤ 10 → ∃ n : Nat, n ≤ j + k ∧ kfor (mdJoin1 κ) k i (nI j) = nI n := by
    intro k
    induction k with
    | zero => intro i j hj; exact ⟨j, by omega, rfl⟩
    | succ k ih =>
      intro i j hj
      show ∃ n : Nat, n ≤ j + (k + 1) ∧ kfor _ k (i + 1) (nI j + (if κ 1 (0 + 20 + 7 * i + 1) = -1 then 0 else 1)) = nI n
      split
      · obtain ⟨n, h1, h2⟩ := ih (i + 1) j (by omega)
        exact ⟨n, by omega, by rw [show nI j + 0 = nI j from by simp]; exact h2⟩
      · obtain ⟨n, h1, h2⟩ := ih (i + 1) (j + 1) (by omega)
        exact ⟨n, by omega, by rw [nI_1]; exact h2⟩
  obtain ⟨n, h1, h2⟩ := h 9 1 0 (by omega)
  exact ⟨n, by omega, h2⟩
