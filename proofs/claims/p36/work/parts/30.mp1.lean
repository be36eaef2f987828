/-! WHAT THE METHODS OF THE REFERENCE ANSWER AND DO, on its row s of numbers: a state from place b on -/
def mdK (κ : Nat → Nat → Int32) (b n : Nat) : Nat := (κ 1 (b + 20 + 7 * n + 6)).toNatClampNeg
def mdC (κ : Nat → Nat → Int32) (b : Nat) : Nat := (κ 1 (b + 19)).toNatClampNeg
def okK (κ : Nat → Nat → Int32) (b n : Nat) : Prop := κ 1 (b + 20 + 7 * n + 6) = nI (mdK κ b n) ∧ mdK κ b n ≤ 6
def okC (κ : Nat → Nat → Int32) (b : Nat) : Prop := κ 1 (b + 19) = nI (mdC κ b) ∧ mdC κ b ≤ 60
theorem okK_u2 {κ : Nat → Nat → Int32} {b n i : Nat} {x : Int32} (h : okK κ b n) (hi : b + 20 + 7 * n + 6 ≠ i) : okK (u2 κ 1 i x) b n := by
  unfold okK mdK at *
  rw [u2_nk hi]
  exact h
theorem okC_u2 {κ : Nat → Nat → Int32} {b i : Nat} {x : Int32} (h : okC κ b) (hi : b + 19 ≠ i) : okC (u2 κ 1 i x) b := by
  unfold okC mdC at *
  rw [u2_nk hi]
  exact h
theorem nI_ne {a : Nat} (h : a < 2 ^ 31) : ¬ nI a = -1 := fun e => nI_pos h (by rw [e]; decide)
def mdOn (κ : Nat → Nat → Int32) (b n : Nat) : Bool := decide ((κ 1 (b + 10) >>> (nI n &&& 31)) &&& 1 = 1)
def mdConn (κ : Nat → Nat → Int32) (b i j : Nat) : Bool := decide ((κ 1 (b + 0 + i) >>> (nI j &&& 31)) &&& 1 = 1) && (mdOn κ b i && mdOn κ b j)
def mdInc (κ : Nat → Nat → Int32) (i : Nat) : Nat → Nat → Int32 := u2 κ 1 i (κ 1 i + 1)
def mdDrop (κ : Nat → Nat → Int32) (b m : Nat) : Nat → Nat → Int32 := mdInc (u2 (u2 κ 1 (b + 20 + 7 * m + 1) (-1)) 1 (b + 20 + 7 * m + 2) (-1)) (b + 18)
def mdShift1 (b m : Nat) (v : Int32) (i : Nat) (κ : Nat → Nat → Int32) : Nat → Nat → Int32 := u2 κ 1 (b + 90 + 5 * (6 * m + i) + 4) (κ 1 (b + 90 + 5 * (6 * m + i) + 4) + v)
def mdClock (κ : Nat → Nat → Int32) (b m n : Nat) : Nat → Nat → Int32 := kfor (mdShift1 b m (κ 1 (b + 20 + 7 * n + 0) - κ 1 (b + 20 + 7 * m + 0))) (mdK κ b m) 0 (u2 κ 1 (b + 20 + 7 * m + 0) (κ 1 (b + 20 + 7 * m + 0) + (κ 1 (b + 20 + 7 * n + 0) - κ 1 (b + 20 + 7 * m + 0))))
def mdF1 (κ : Nat → Nat → Int32) (b m n : Nat) : Nat → Nat → Int32 := u2 κ 1 (b + 20 + 7 * m + 1) (nI n)
def mdF2 (κ : Nat → Nat → Int32) (b m n : Nat) : Nat → Nat → Int32 := u2 κ 1 (b + 20 + 7 * m + 2) (κ 1 (b + 20 + 7 * n + 2) + 1)
def mdF3 (κ : Nat → Nat → Int32) (b m : Nat) : Nat → Nat → Int32 := u2 κ 1 (b + 20 + 7 * m + 3) (κ 1 (b + 12))
def mdFollow (κ : Nat → Nat → Int32) (b m n : Nat) : Nat → Nat → Int32 := mdClock (mdF3 (mdF2 (mdF1 κ b m n) b m n) b m) b m n
def mdLeads (κ : Nat → Nat → Int32) (b n : Nat) : Bool := decide (¬ κ 1 (b + 20 + 7 * n + 2) = -1) && decide (κ 1 (b + 20 + 7 * n + 2) < 9)
def mdHear (κ : Nat → Nat → Int32) (b m n : Nat) : Nat → Nat → Int32 := if κ 1 (b + 20 + 7 * m + 1) = nI n then (if mdLeads κ b n = true then mdFollow κ b m n else mdDrop κ b m) else if mdLeads κ b n = true ∧ ¬ κ 1 (b + 20 + 7 * n + 1) = nI m ∧ (κ 1 (b + 20 + 7 * m + 1) = -1 ∨ κ 1 (b + 20 + 7 * n + 2) + 1 < κ 1 (b + 20 + 7 * m + 2)) then mdFollow κ b m n else κ
def mdSame (κ : Nat → Nat → Int32) (i j : Nat) : Bool := decide (κ 1 i = κ 1 j) && decide (κ 1 (i + 1) = κ 1 (j + 1))
def mdColl (κ : Nat → Nat → Int32) (b i : Nat) : Bool := kfor (fun k r => r || mdSame κ i (b + 390 + 5 * k)) (mdC κ b) 0 false
def mdStor (κ : Nat → Nat → Int32) (b n i : Nat) : Bool := kfor (fun k r => r || mdSame κ i (b + 90 + 5 * (6 * n + k))) (mdK κ b n) 0 false
def mdWr1 (i j k : Nat) (κ : Nat → Nat → Int32) : Nat → Nat → Int32 := u2 κ 1 (j + k) (κ 1 (i + k))
def mdAdd (κ : Nat → Nat → Int32) (i : Nat) (v : Int32) : Nat → Nat → Int32 := u2 κ 1 i (κ 1 i + v)
def mdWrite (κ : Nat → Nat → Int32) (i j : Nat) (v : Int32) : Nat → Nat → Int32 := mdAdd (kfor (mdWr1 i j) 5 0 κ) (j + 4) v
theorem kfor_at1 {f : Nat → (Nat → Nat → Int32) → (Nat → Nat → Int32)} {c : Nat} : ∀ (k i : Nat) (κ : Nat → Nat → Int32), (∀ (j : Nat) (ξ : Nat → Nat → Int32), i ≤ j → j < i + k → f j ξ 1 c = ξ 1 c) → kfor f k i κ 1 c = κ 1 c
  | 0, _, _, _ => rfl
  | k + 1, i, κ, h => by
    show kfor f k (i + 1) (f i κ) 1 c = κ 1 c
    rw [kfor_at1 k (i + 1) (f i κ) (fun j ξ h1 h2 => h j ξ (by omega) (by omega))]
    exact h i κ (Nat.le_refl _) (by omega)
theorem mdWrite_ne {κ : Nat → Nat → Int32} {i j c : Nat} {v : Int32} (h : c < j ∨ j + 5 ≤ c) : mdWrite κ i j v 1 c = κ 1 c := by
  unfold mdWrite mdAdd
  rw [u2_nk (by omega)]
  exact kfor_at1 5 0 κ (fun k ξ h1 h2 => by unfold mdWr1; rw [u2_nk (by omega)])
def mdHandR (κ : Nat → Nat → Int32) (b i n : Nat) : Bool := if n = 0 then true else if mdStor κ b n i = true then true else if mdK κ b n = 6 then false else true
def mdHand (κ : Nat → Nat → Int32) (b i n : Nat) (v : Int32) : Nat → Nat → Int32 := if n = 0 then (if mdColl κ b i = true then mdInc κ (b + 15) else mdInc (mdWrite κ i (b + 390 + 5 * mdC κ b) v) (b + 19)) else if mdStor κ b n i = true then mdInc κ (b + 15) else if mdK κ b n = 6 then mdInc κ (b + 16) else mdInc (mdWrite κ i (b + 90 + 5 * (6 * n + mdK κ b n)) v) (b + 20 + 7 * n + 6)
def mdRem1 (b m k : Nat) (κ : Nat → Nat → Int32) : Nat → Nat → Int32 := mdWrite κ (b + 90 + 5 * (6 * m + (k + 1))) (b + 90 + 5 * (6 * m + k)) 0
def mdRemove (κ : Nat → Nat → Int32) (b m : Nat) : Nat → Nat → Int32 := kfor (mdRem1 b m) (mdK κ b m - 1) 0 (u2 κ 1 (b + 20 + 7 * m + 6) (nI (mdK κ b m - 1)))
def mdSend2 (κ : Nat → Nat → Int32) (b m : Nat) (r : Bool) : Nat → Nat → Int32 := if r = false then κ else if 0 < κ 1 (b + 20 + 7 * m + 4) then mdInc (u2 κ 1 (b + 20 + 7 * m + 4) (κ 1 (b + 20 + 7 * m + 4) - 1)) (b + 17) else mdRemove κ b m
def mdSend (κ : Nat → Nat → Int32) (b m p : Nat) : Nat → Nat → Int32 := if mdK κ b m = 0 ∨ mdConn κ b m p = false then κ else mdSend2 (mdHand (mdInc κ (b + 14)) b (b + 90 + 5 * (6 * m + 0)) p (mdInc κ (b + 14) 1 (b + 20 + 7 * p + 0) - mdInc κ (b + 14) 1 (b + 20 + 7 * m + 0))) b m (mdHandR (mdInc κ (b + 14)) b (b + 90 + 5 * (6 * m + 0)) p)
