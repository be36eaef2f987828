theorem neg_msb (x : Int32) : x < 0 ↔ x.toBitVec.msb = true := by
  rw [Int32.lt_iff_toInt_lt, BitVec.msb_eq_toInt, decide_eq_true_eq]
  exact Iff.rfl
theorem xor10_neg (x : Int32) : x ^^^ 10 < 0 ↔ x < 0 := by
  rw [neg_msb, neg_msb, Int32.toBitVec_xor, BitVec.msb_xor]
  have h : (10 : Int32).toBitVec.msb = false := by decide
  rw [h]
  simp
theorem rem10 (x : Int32) : (x - x / 10 * 10).toInt = x.toInt.tmod 10 := by
  have h1 := Int32.toInt_lt x
  have h2 := Int32.le_toInt x
  have e1 : (x / 10).toInt = x.toInt.tdiv 10 := Int32.toInt_div_of_ne_right x 10 (by decide)
  have e0 : (10 : Int32).toInt = 10 := rfl
  have e2 : x.toInt.tdiv 10 * 10 + x.toInt.tmod 10 = x.toInt := Int.tdiv_mul_add_tmod x.toInt 10
  have h3 := tmod_bounds (a := x.toInt) (M := 10) (by decide)
  have e3 : (x / 10 * 10).toInt = x.toInt.tdiv 10 * 10 := by
    rw [Int32.toInt_mul, e1, e0]
    rcases Int.le_total 0 x.toInt with h0 | h0
    · have h5 : 0 ≤ x.toInt.tmod 10 := Int.tmod_nonneg 10 h0
      have h6 : 0 ≤ x.toInt.tdiv 10 := Int.tdiv_nonneg h0 (by decide)
      exact Int.bmod_eq_of_le (by omega) (by omega)
    · have h5 : x.toInt.tmod 10 ≤ 0 := by
        have h7 : 0 ≤ (-x.toInt).tmod 10 := Int.tmod_nonneg 10 (by omega)
        rw [Int.neg_tmod] at h7
        omega
      exact Int.bmod_eq_of_le (by omega) (by omega)
  rw [Int32.toInt_sub, e3]
  have e4 : x.toInt - x.toInt.tdiv 10 * 10 = x.toInt.tmod 10 := by omega
  rw [e4]
  exact Int.bmod_eq_of_le (by omega) (by omega)
theorem rem10_pos {x : Int32} (h : ¬ x < 0) : 0 ≤ x.toInt.tmod 10 := by
  rw [Int32.lt_iff_toInt_lt] at h
  have e0 : (0 : Int32).toInt = 0 := rfl
  exact Int.tmod_nonneg 10 (by omega)
theorem mFloor_node (x : Int32) : mNode (mFloor x 10) = true := by
  have h3 := tmod_bounds (a := x.toInt) (M := 10) (by decide)
  have e0 : (0 : Int32).toInt = 0 := rfl
  have e10 : (10 : Int32).toInt = 10 := rfl
  have er := rem10 x
  apply node_of2
  rw [Int32.le_iff_toInt_le, Int32.lt_iff_toInt_lt, e0, e10]
  unfold mFloor
  by_cases hx : x < 0
  · have hx2 : x.toInt < 0 := by rw [Int32.lt_iff_toInt_lt] at hx; omega
    have h5 : x.toInt.tmod 10 ≤ 0 := by
      have h7 : 0 ≤ (-x.toInt).tmod 10 := Int.tmod_nonneg 10 (by omega)
      rw [Int.neg_tmod] at h7
      omega
    by_cases hr : x - x / 10 * 10 = 0
    · rw [if_neg (fun h => h.2 hr), hr]
      decide
    · rw [if_pos ⟨(xor10_neg x).mpr hx, hr⟩]
      have h6 : ¬ (x - x / 10 * 10).toInt = 0 := fun h => hr (i_eq.mpr h)
      rw [Int32.toInt_add, er, e10]
      rw [Int.bmod_eq_of_le (by omega) (by omega)]
      omega
  · rw [if_neg (fun h => hx ((xor10_neg x).mp h.1)), er]
    have := rem10_pos hx
    omega
theorem msNode_node (σ : Nat → Nat → Int32) : mNode (msNode σ) = true := mFloor_node _
/-! no size falls below 0 -/
theorem wd_hi {σ ρ : Nat → Nat → Int32} {r : Nat} : wd σ ρ (8 + r) = ρ r := by
  unfold wd
  rw [if_neg (by omega), show 8 + r - 8 = r by omega]
theorem okS_rd {σ : Nat → Nat → Int32} {ρ : Nat → Nat → Int32} (h : ∀ k : Nat, k < 10 → ¬ ρ 5 k < 0) : okS (wd σ ρ) := fun k hk => h k hk
theorem msDrop_13 (σ : Nat → Nat → Int32) (m : Int32) : msDrop σ m 13 = σ 13 := rfl
theorem okS_u2 {σ : Nat → Nat → Int32} {r k : Nat} {x : Int32} (h : okS σ) (hr : 13 ≠ r) : okS (u2 σ r k x) := okS_of13 h (u2_ne hr)
theorem okS_drop {σ : Nat → Nat → Int32} (h : okS σ) (m : Int32) : okS (msDrop σ m) := okS_of13 h (msDrop_13 σ m)
theorem okS_lose {σ : Nat → Nat → Int32} (h : okS σ) (n : Int32) : okS (msLose σ n) := by
  unfold msLose
  split
  · exact okS_drop h n
  · exact h
theorem kfor_inv {α : Type} {f : Nat → α → α} (P : α → Prop) (hf : ∀ i a, P a → P (f i a)) : ∀ (k i : Nat) (a : α), P a → P (kfor f k i a)
  | 0, _, _, h => h
  | k + 1, i, a, h => kfor_inv P hf k (i + 1) (f i a) (hf i a h)
theorem mrShift_5 (ρ : Nat → Nat → Int32) (n a : Int32) : mrShift ρ n a 5 = ρ 5 :=
  kfor_inv (fun z : Nat → Nat → Int32 => z 5 = ρ 5) (fun i z h => by show mrShift1 n a i z 5 = ρ 5; rw [← h]; rfl) _ _ _ rfl
theorem okS_follow {σ : Nat → Nat → Int32} (h : okS σ) (m n : Int32) : okS (msFollow σ m n) := by
  refine okS_of13 h ?_
  unfold msFollow
  rw [u2_ne (by decide), show (13 : Nat) = 8 + 5 from rfl, wd_hi, mrShift_5]
  rfl
theorem okS_hear {σ : Nat → Nat → Int32} (h : okS σ) (m n : Int32) : okS (msHear σ m n) := by
  unfold msHear
  split
  · split
    · exact okS_follow h m n
    · exact okS_drop h m
  · split
    · exact okS_follow h m n
    · exact h
theorem okS_hear1 {σ : Nat → Nat → Int32} (n : Int32) (i : Nat) (h : okS σ) : okS (msHear1 n i σ) := by
  unfold msHear1
  split
  · exact okS_hear h _ _
  · exact h
theorem okS_beHeard {σ : Nat → Nat → Int32} (h : okS σ) (n : Int32) : okS (msBeHeard σ n) := kfor_inv okS (fun i a ha => okS_hear1 n i ha) _ _ _ h
theorem i_add1 {x : Int32} (h0 : ¬ x < 0) (h1 : x < 60) : ¬ x + 1 < 0 := by
  obtain ⟨j, hj, rfl⟩ := vnat 60 (by decide) rfl (i_nlt.mp h0) h1
  rw [nI_1]
  exact nI_pos (by omega)
theorem i_sub1 {x : Int32} (h0 : ¬ x < 0) (h1 : ¬ x = 0) : ¬ x - 1 < 0 := by
  obtain ⟨j, hj, rfl⟩ := nI_of h0
  have hj0 : j ≠ 0 := fun h => h1 (by rw [h]; rfl)
  rw [show (1 : Int32) = nI 1 from rfl, pk_sub (by omega)]
  exact nI_pos (by omega)
theorem upd_pos {f : Nat → Int32} {k : Nat} {x : Int32} (hf : ∀ j, j < 10 → ¬ f j < 0) (hx : ¬ x < 0) : ∀ j, j < 10 → ¬ upd f k x j < 0 := by
  intro j hj
  unfold upd
  split
  · exact hx
  · exact hf j hj
theorem mrPut_pos {ρ : Nat → Nat → Int32} {n id sp : Int32} (h : ∀ k : Nat, k < 10 → ¬ ρ 5 k < 0) (h0 : ¬ mrSize ρ n < 0) : ∀ k : Nat, k < 10 → ¬ mrPut ρ n id sp 5 k < 0 := by
  unfold mrPut
  split
  · rename_i hc
    rw [u2_eq]
    exact upd_pos h (i_add1 h0 hc.2)
  · exact h
theorem mrMove_5 (n : Int32) (i : Nat) (ρ : Nat → Nat → Int32) : mrMove n i ρ 5 = ρ 5 := rfl
theorem mrRemove_pos {ρ : Nat → Nat → Int32} {n : Int32} (h : ∀ k : Nat, k < 10 → ¬ ρ 5 k < 0) (h0 : ¬ mrSize ρ n < 0) : ∀ k : Nat, k < 10 → ¬ mrRemove ρ n 5 k < 0 := by
  unfold mrRemove
  split
  · exact h
  · rename_i hc
    rw [u2_eq]
    refine upd_pos (fun j hj => ?_) (i_sub1 h0 hc)
    have e : kfor (mrMove n) ((mrSize ρ n).toNatClampNeg - 1) 1 ρ 5 = ρ 5 := kfor_inv (fun z : Nat → Nat → Int32 => z 5 = ρ 5) (fun i z hz => by show mrMove n i z 5 = ρ 5; rw [← hz]; rfl) _ _ _ rfl
    rw [e]
    exact h j hj
theorem okS_acc {σ : Nat → Nat → Int32} (h : okS σ) (n p : Int32) : okS (msAcc σ n p) := by
  unfold msAcc
  split
  · exact okS_u2 h (by decide)
  · split
    · exact okS_rd (mrPut_pos (fun k hk => h k hk) (okS_size h p))
    · exact h
theorem okS_send2 {σ : Nat → Nat → Int32} (h : okS σ) (n : Int32) (b : Bool) : okS (msSend2 σ n b) := by
  unfold msSend2
  split
  · exact okS_u2 h (by decide)
  · split
    · exact okS_u2 h (by decide)
    · exact okS_rd (mrRemove_pos (fun k hk => h k hk) (okS_size h n))
theorem okS_send {σ : Nat → Nat → Int32} (h : okS σ) (n : Int32) : okS (msSend σ n) := by
  unfold msSend
  split
  · exact okS_send2 (okS_acc (okS_u2 h (by decide)) _ _) _ _
  · exact h
theorem okS_turn {σ : Nat → Nat → Int32} (h : okS σ) : okS (msTurn σ) := by
  unfold msTurn
  split
  · exact h
  · exact okS_send (okS_beHeard (okS_lose h _) _) _
theorem okS_slot {σ : Nat → Nat → Int32} (h : okS σ) : okS (msSlot σ) := okS_u2 (okS_turn h) (by decide)
