/-! WHAT THE METHODS OF Readings ANSWER AND DO, as functions of a table of rows: row 0 the numbers (taken), 1 meters, 2 numbers, 3 values, 4 times, 5 sizes, 6 ids, 7 stamps -/
def kany (p : Nat → Bool) : Nat → Nat → Bool
  | 0, _ => false
  | k + 1, i => p i || kany p k (i + 1)
def kfst (p : Nat → Bool) : Nat → Nat → Int32
  | 0, _ => -1
  | k + 1, i => if p i = true then nI i else kfst p k (i + 1)
abbrev cR (q : Nat → Nat) (ρ : Nat → Nat → Int32) (ct : Nat → ClassId) : va_W := [(q 0, .inr (1, [.ref (q 1), .ref (q 2), .ref (q 3), .ref (q 4), .int (ρ 0 0), .ref (q 5), .ref (q 6), .ref (q 7)])), (q 1, .inl (ct 0, 60, .inl (ρ 1))), (q 2, .inl (ct 0, 60, .inl (ρ 2))), (q 3, .inl (ct 0, 60, .inl (ρ 3))), (q 4, .inl (ct 0, 60, .inl (ρ 4))), (q 5, .inl (ct 0, 10, .inl (ρ 5))), (q 6, .inl (ct 0, 600, .inl (ρ 6))), (q 7, .inl (ct 0, 600, .inl (ρ 7)))]
def mNode (n : Int32) : Bool := decide (0 ≤ n) && decide (n < 10)
def mrSize (ρ : Nat → Nat → Int32) (n : Int32) : Int32 := if 0 ≤ n ∧ n < 10 then (if 60 < ρ 5 n.toNatClampNeg then 60 else ρ 5 n.toNatClampNeg) else 0
def mrFull (ρ : Nat → Nat → Int32) (n : Int32) : Bool := decide ((if n = 0 then 60 else 6) ≤ mrSize ρ n)
def mrAt (n i : Int32) : Nat := (n * 60 + i).toNatClampNeg
def mrId (ρ : Nat → Nat → Int32) (n i : Int32) : Int32 := if 0 ≤ i ∧ i < mrSize ρ n then ρ 6 (mrAt n i) else -1
def mrSt (ρ : Nat → Nat → Int32) (n i : Int32) : Int32 := if 0 ≤ i ∧ i < mrSize ρ n then ρ 7 (mrAt n i) else -1
def mrPart (ρ : Nat → Nat → Int32) (n i p : Int32) : Int32 := if mrId ρ n i < 0 ∨ 60 ≤ mrId ρ n i then -1 else if p = 0 then ρ 1 (mrId ρ n i).toNatClampNeg else if p = 1 then ρ 2 (mrId ρ n i).toNatClampNeg else if p = 2 then ρ 3 (mrId ρ n i).toNatClampNeg else if p = 3 then ρ 4 (mrId ρ n i).toNatClampNeg else mrSt ρ n i
def mrMissing (ρ : Nat → Nat → Int32) : Int32 := ρ 0 0 - mrSize ρ 0
def mrHolds (ρ : Nat → Nat → Int32) (n id : Int32) : Bool := kany (fun i => decide (ρ 6 (mrAt n (nI i)) = id)) (mrSize ρ n).toNatClampNeg 0
def mrLim (ρ : Nat → Nat → Int32) : Nat := (if 60 < ρ 0 0 then 60 else ρ 0 0).toNatClampNeg
def mrTakenAt (ρ : Nat → Nat → Int32) (m : Int32) : Int32 := kfor (fun i (a : Int32) => a + (if ρ 1 (nI i).toNatClampNeg = m then 1 else 0)) (mrLim ρ) 0 0
def mrFind (ρ : Nat → Nat → Int32) (m k : Int32) : Int32 := kfst (fun i => decide (ρ 1 (nI i).toNatClampNeg = m) && decide (ρ 2 (nI i).toNatClampNeg = k)) (mrLim ρ) 0
def mrStores (ρ : Nat → Nat → Int32) (id : Int32) : Int32 := kfor (fun i (a : Int32) => a + (if ¬ nI i = 0 ∧ mrHolds ρ (nI i) id = true then 1 else 0)) 10 0 0
def mrWrong (ρ : Nat → Nat → Int32) : Int32 := kfor (fun i (a : Int32) => a + (if mrPart ρ 0 (nI i) 4 = mrPart ρ 0 (nI i) 3 then 0 else 1)) (mrSize ρ 0).toNatClampNeg 0 0
def mrPut (ρ : Nat → Nat → Int32) (n id st : Int32) : Nat → Nat → Int32 := if mNode n = true ∧ mrSize ρ n < 60 then u2 (u2 (u2 ρ 6 (mrAt n (mrSize ρ n)) id) 7 (mrAt n (mrSize ρ n)) st) 5 n.toNatClampNeg (mrSize ρ n + 1) else ρ
def mrMove (n : Int32) (i : Nat) (ρ : Nat → Nat → Int32) : Nat → Nat → Int32 := u2 (u2 ρ 6 (n * 60 + nI i - 1).toNatClampNeg (ρ 6 (mrAt n (nI i)))) 7 (n * 60 + nI i - 1).toNatClampNeg (ρ 7 (mrAt n (nI i)))
def mrRemove (ρ : Nat → Nat → Int32) (n : Int32) : Nat → Nat → Int32 := if mrSize ρ n = 0 then ρ else u2 (kfor (mrMove n) ((mrSize ρ n).toNatClampNeg - 1) 1 ρ) 5 n.toNatClampNeg (mrSize ρ n - 1)
def mrShift1 (n a : Int32) (i : Nat) (ρ : Nat → Nat → Int32) : Nat → Nat → Int32 := u2 ρ 7 (mrAt n (nI i)) (ρ 7 (mrAt n (nI i)) + a)
def mrShift (ρ : Nat → Nat → Int32) (n a : Int32) : Nat → Nat → Int32 := kfor (mrShift1 n a) (mrSize ρ n).toNatClampNeg 0 ρ
def mrTakeR (ρ : Nat → Nat → Int32) (m : Int32) : Int32 := if ρ 0 0 < 0 ∨ 60 ≤ ρ 0 0 then -1 else mrTakenAt ρ m
def mrTake (ρ : Nat → Nat → Int32) (m v t st : Int32) : Nat → Nat → Int32 := if ρ 0 0 < 0 ∨ 60 ≤ ρ 0 0 then ρ else mrPut (u2 (u2 (u2 (u2 (u2 ρ 1 (ρ 0 0).toNatClampNeg m) 2 (ρ 0 0).toNatClampNeg (mrTakenAt ρ m)) 3 (ρ 0 0).toNatClampNeg v) 4 (ρ 0 0).toNatClampNeg t) 0 0 (ρ 0 0 + 1)) m (ρ 0 0) st
/-! bounds -/
theorem i_nlt {x y : Int32} : ¬ x < y ↔ y ≤ x := by rw [Int32.lt_iff_toInt_lt, Int32.le_iff_toInt_le]; omega
theorem i_nle {x y : Int32} : ¬ x ≤ y ↔ y < x := by rw [Int32.lt_iff_toInt_lt, Int32.le_iff_toInt_le]; omega
theorem i_eq {x y : Int32} : x = y ↔ x.toInt = y.toInt := ⟨fun h => by rw [h], fun h => Int32.toInt_inj.mp h⟩
theorem vin {x M : Int32} (N : Nat) (hM : M.toInt = (N : Int)) (h0 : ¬ x < 0) (h1 : ¬ M ≤ x) : vp_in x N := by
  rw [vp_in_iff]
  rw [Int32.lt_iff_toInt_lt] at h0
  rw [Int32.le_iff_toInt_le] at h1
  have h2 : (0 : Int32).toInt = 0 := rfl
  omega
theorem vnat {x M : Int32} (N : Nat) (hN : N < 2 ^ 31) (hM : M.toInt = (N : Int)) (h0 : 0 ≤ x) (h1 : x < M) : ∃ j : Nat, j < N ∧ x = nI j := by
  have h : vp_in x N := vin N hM (i_nlt.mpr h0) (i_nle.mpr h1)
  exact vp_in_of h hN
theorem mrSize_le (ρ : Nat → Nat → Int32) (n : Int32) : mrSize ρ n ≤ 60 := by
  unfold mrSize
  split
  · split
    · exact Int32.le_refl _
    · rename_i h
      exact i_nlt.mp h
  · decide
theorem mrSize_node {ρ : Nat → Nat → Int32} {n i : Int32} (h0 : ¬ i < 0) (h : i < mrSize ρ n) : 0 ≤ n ∧ n < 10 := by
  unfold mrSize at h
  split at h
  · assumption
  · exact absurd h h0
theorem vrow0 {n i : Int32} (hn : 0 ≤ n ∧ n < 10) (h0 : ¬ i < 0) (h1 : i < 60) : ∃ k j : Nat, k < 10 ∧ j < 60 ∧ n = nI k ∧ i = nI j ∧ n * 60 + i = nI (k * 60 + j) := by
  obtain ⟨k, hk, rfl⟩ := vnat 10 (by decide) rfl hn.1 hn.2
  obtain ⟨j, hj, rfl⟩ := vnat 60 (by decide) rfl (i_nlt.mp h0) h1
  refine ⟨k, j, hk, hj, rfl, rfl, ?_⟩
  rw [show (60 : Int32) = nI 60 from rfl, pk_mul, nI_add]
theorem vrow {n i : Int32} (hn : 0 ≤ n ∧ n < 10) (h0 : ¬ i < 0) (h1 : i < 60) : vp_in (n * 60 + i) 600 := by
  obtain ⟨k, j, hk, hj, -, -, e⟩ := vrow0 hn h0 h1
  rw [e]
  exact vp_in_nI (by omega) (by decide)
theorem vrowS {ρ : Nat → Nat → Int32} {n i : Int32} (h0 : ¬ i < 0) (h : ¬ mrSize ρ n ≤ i) : vp_in (n * 60 + i) 600 :=
  vrow (mrSize_node h0 (i_nle.mp h)) h0 (Int32.lt_of_lt_of_le (i_nle.mp h) (mrSize_le ρ n))
theorem lim_ge {x : Int32} {i : Nat} (h : x.toNatClampNeg ≤ i) (hi : i < 2 ^ 31) : x ≤ nI i := by
  rw [Int32.le_iff_toInt_le, nI_toInt hi]
  have : x.toNatClampNeg = x.toInt.toNat := rfl
  omega
theorem lim_lt {x : Int32} {i : Nat} (h : i < x.toNatClampNeg) : ¬ x ≤ nI i := by
  have h1 : x.toNatClampNeg = x.toInt.toNat := rfl
  have h2 := Int32.toInt_lt x
  have hi : i < 2 ^ 31 := by omega
  rw [Int32.le_iff_toInt_le, nI_toInt hi]
  omega
theorem lim_31 (x : Int32) : x.toNatClampNeg < 2 ^ 31 := by
  have h1 : x.toNatClampNeg = x.toInt.toNat := rfl
  have h2 := Int32.toInt_lt x
  omega
theorem node_of {n : Int32} (h : mNode n = true) : 0 ≤ n ∧ n < 10 := by simpa [mNode] using h
theorem node_of2 {n : Int32} (h : 0 ≤ n ∧ n < 10) : mNode n = true := by simpa [mNode] using h
theorem vnode {n : Int32} (h : mNode n = true) : vp_in n 10 := vin 10 rfl (i_nlt.mpr (node_of h).1) (i_nle.mpr (node_of h).2)
theorem vrowN {ρ : Nat → Nat → Int32} {n : Int32} {i : Nat} (h : i < (mrSize ρ n).toNatClampNeg) : vp_in (n * 60 + nI i) 600 := by
  have h1 := lim_lt h
  have h2 := lim_31 (mrSize ρ n)
  exact vrowS (nI_pos (by omega)) h1
theorem vrowN1 {ρ : Nat → Nat → Int32} {n : Int32} {i : Nat} (h : i < (mrSize ρ n).toNatClampNeg) (h1 : 1 ≤ i) : vp_in (n * 60 + nI i - 1) 600 := by
  have h2 := lim_31 (mrSize ρ n)
  have h3 := lim_lt h
  have h0 : ¬ nI i < 0 := nI_pos (by omega)
  have hn := mrSize_node h0 (i_nle.mp h3)
  obtain ⟨k, j, hk, hj, e1, e2, e⟩ := vrow0 hn h0 (Int32.lt_of_lt_of_le (i_nle.mp h3) (mrSize_le ρ n))
  have e3 : i = j := (nI_eq (by omega) (by omega)).mp e2
  subst e3
  rw [e, show (1 : Int32) = nI 1 from rfl, pk_sub (by omega)]
  exact vp_in_nI (by omega) (by decide)
theorem mrLim_le (ρ : Nat → Nat → Int32) : mrLim ρ ≤ 60 := by
  unfold mrLim
  split
  · decide
  · rename_i h
    have h1 := i_nlt.mp h
    rw [Int32.le_iff_toInt_le] at h1
    have h2 : (60 : Int32).toInt = 60 := rfl
    have h3 : (ρ 0 0).toNatClampNeg = (ρ 0 0).toInt.toNat := rfl
    omega
theorem mrLim_ge {ρ : Nat → Nat → Int32} {i : Nat} (h : mrLim ρ ≤ i) (hi : i < 60) : ρ 0 0 ≤ nI i := by
  unfold mrLim at h
  split at h
  · exact absurd h (by rw [show ((60 : Int32).toNatClampNeg) = 60 from rfl]; omega)
  · exact lim_ge h (by omega)
theorem mrLim_lt {ρ : Nat → Nat → Int32} {i : Nat} (h : i < mrLim ρ) : ¬ ρ 0 0 ≤ nI i := by
  have h0 := mrLim_le ρ
  unfold mrLim at h
  split at h
  · rename_i h1
    rw [i_nle]
    have h3 : i < 60 := by rw [show ((60 : Int32).toNatClampNeg) = 60 from rfl] at h; omega
    rw [Int32.lt_iff_toInt_lt, nI_toInt (by omega)]
    rw [Int32.lt_iff_toInt_lt] at h1
    have h2 : (60 : Int32).toInt = 60 := rfl
    omega
  · exact lim_lt h
theorem nI_lt60 {i : Nat} (h : i < 60) : ¬ (60 : Int32) ≤ nI i := by
  rw [show (60 : Int32) = nI 60 from rfl]
  exact nI_ge h (by decide)
theorem nI_ge60 {i : Nat} (h : 60 ≤ i) (hi : i < 2 ^ 31) : (60 : Int32) ≤ nI i := by
  rw [show (60 : Int32) = nI 60 from rfl]
  exact nI_le h hi
theorem nI_ltK {i : Nat} (K : Nat) (hK : K < 2 ^ 31) (h : i < K) : ¬ nI K ≤ nI i := nI_ge h hK
theorem v60 {i : Nat} (h : i < 60) : vp_in (nI i) 60 := vp_in_nI h (by decide)
theorem vin60 {x : Int32} (h0 : ¬ x < 0) (h1 : x < 60) : vp_in x 60 := vin 60 rfl h0 (i_nle.mpr h1)
theorem kge {M : Int32} {i : Nat} (K : Nat) (hM : M = nI K) (h : K ≤ i) (hi : i < 2 ^ 31) : M ≤ nI i := by
  subst hM
  exact nI_le h hi
theorem klt {M : Int32} {i : Nat} (K : Nat) (hM : M = nI K) (h : i < K) (hK : K < 2 ^ 31) : ¬ M ≤ nI i := by
  subst hM
  exact nI_ge h hK
theorem klt2 {M : Int32} {i : Nat} (K : Nat) (hM : M = nI K) (hK : K < 2 ^ 31) (hi : i < 2 ^ 31) (h : ¬ M ≤ nI i) : i < K := by
  subst hM
  exact Nat.lt_of_not_le (fun h1 => h (nI_le h1 hi))
theorem mrSize_u2 {ρ : Nat → Nat → Int32} {n x : Int32} {r k : Nat} (h : r ≠ 5) : mrSize (u2 ρ r k x) n = mrSize ρ n := by
  have e : u2 ρ r k x 5 = ρ 5 := by unfold u2; rw [if_neg (fun h1 => h h1.symm)]
  unfold mrSize
  rw [e]
theorem mrAt_eq (n i : Int32) : (n * 60 + i).toNatClampNeg = mrAt n i := rfl
def mFloor (x y : Int32) : Int32 := if x ^^^ y < 0 ∧ ¬ x - x / y * y = 0 then x - x / y * y + y else x - x / y * y
theorem mrSize_n0 {ρ : Nat → Nat → Int32} {n : Int32} (h : ¬ mrSize ρ n = 0) : 0 ≤ n ∧ n < 10 := by
  unfold mrSize at h
  split at h
  · assumption
  · exact absurd rfl h
theorem cR_a1 {q : Nat → Nat} {ρ : Nat → Nat → Int32} {ct : Nat → ClassId} {k : Nat} {x : Int32} : (cR q ρ ct).set 1 (q 1, .inl (ct 0, 60, .inl (upd (ρ 1) k x))) = cR q (u2 ρ 1 k x) ct := rfl
theorem cR_a2 {q : Nat → Nat} {ρ : Nat → Nat → Int32} {ct : Nat → ClassId} {k : Nat} {x : Int32} : (cR q ρ ct).set 2 (q 2, .inl (ct 0, 60, .inl (upd (ρ 2) k x))) = cR q (u2 ρ 2 k x) ct := rfl
theorem cR_a3 {q : Nat → Nat} {ρ : Nat → Nat → Int32} {ct : Nat → ClassId} {k : Nat} {x : Int32} : (cR q ρ ct).set 3 (q 3, .inl (ct 0, 60, .inl (upd (ρ 3) k x))) = cR q (u2 ρ 3 k x) ct := rfl
theorem cR_a4 {q : Nat → Nat} {ρ : Nat → Nat → Int32} {ct : Nat → ClassId} {k : Nat} {x : Int32} : (cR q ρ ct).set 4 (q 4, .inl (ct 0, 60, .inl (upd (ρ 4) k x))) = cR q (u2 ρ 4 k x) ct := rfl
theorem cR_a5 {q : Nat → Nat} {ρ : Nat → Nat → Int32} {ct : Nat → ClassId} {k : Nat} {x : Int32} : (cR q ρ ct).set 5 (q 5, .inl (ct 0, 10, .inl (upd (ρ 5) k x))) = cR q (u2 ρ 5 k x) ct := rfl
theorem cR_a6 {q : Nat → Nat} {ρ : Nat → Nat → Int32} {ct : Nat → ClassId} {k : Nat} {x : Int32} : (cR q ρ ct).set 6 (q 6, .inl (ct 0, 600, .inl (upd (ρ 6) k x))) = cR q (u2 ρ 6 k x) ct := rfl
theorem cR_a7 {q : Nat → Nat} {ρ : Nat → Nat → Int32} {ct : Nat → ClassId} {k : Nat} {x : Int32} : (cR q ρ ct).set 7 (q 7, .inl (ct 0, 600, .inl (upd (ρ 7) k x))) = cR q (u2 ρ 7 k x) ct := rfl
theorem cR_f0 {q : Nat → Nat} {ρ : Nat → Nat → Int32} {ct : Nat → ClassId} {x : Int32} : (cR q ρ ct).set 0 (q 0, .inr (1, [Value.ref (q 1), .ref (q 2), .ref (q 3), .ref (q 4), .int (ρ 0 0), .ref (q 5), .ref (q 6), .ref (q 7)].set 4 (.int x))) = cR q (u2 ρ 0 0 x) ct := rfl
theorem cR_fst {q : Nat → Nat} {σ : Nat → Nat → Int32} {ct : Nat → ClassId} : (cR q σ ct).map Prod.fst = [q 0, q 1, q 2, q 3, q 4, q 5, q 6, q 7] := rfl
theorem cR_adr {q : Nat → Nat} {σ τ : Nat → Nat → Int32} {ct : Nat → ClassId} : (cR q σ ct).map Prod.fst = (cR q τ ct).map Prod.fst := cR_fst.trans cR_fst.symm
theorem cR_all {q : Nat → Nat} {σ τ : Nat → Nat → Int32} {ct : Nat → ClassId} : wput (cR q σ ct) [0, 1, 2, 3, 4, 5, 6, 7] (cR q τ ct) = cR q τ ct := rfl
