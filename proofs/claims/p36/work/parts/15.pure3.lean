/-! WHAT THE METHODS OF TextBuffer ANSWER AND DO: row 0 the numbers (length, position, kind, first, second, number), row 1 the signs -/
abbrev cT (q : Nat → Nat) (τ : Nat → Nat → Int32) (ct : Nat → ClassId) : va_W := [(q 0, .inr (3, [.ref (q 1), .int (τ 0 0), .int (τ 0 1), .int (τ 0 2), .int (τ 0 3), .int (τ 0 4), .int (τ 0 5)])), (q 1, .inl (ct 2, 80, .inl (τ 1)))]
theorem cT_fst {q : Nat → Nat} {σ : Nat → Nat → Int32} {ct : Nat → ClassId} : (cT q σ ct).map Prod.fst = [q 0, q 1] := rfl
theorem cT_adr {q : Nat → Nat} {σ τ : Nat → Nat → Int32} {ct : Nat → ClassId} : (cT q σ ct).map Prod.fst = (cT q τ ct).map Prod.fst := cT_fst.trans cT_fst.symm
theorem cT_all {q : Nat → Nat} {σ τ : Nat → Nat → Int32} {ct : Nat → ClassId} : wput (cT q σ ct) [0, 1] (cT q τ ct) = cT q τ ct := rfl
theorem cT_a1 {q : Nat → Nat} {σ : Nat → Nat → Int32} {ct : Nat → ClassId} {k : Nat} {x : Int32} : (cT q σ ct).set 1 (q 1, .inl (ct 2, 80, .inl (upd (σ 1) k x))) = cT q (u2 σ 1 k x) ct := rfl
theorem cT_f0 {q : Nat → Nat} {σ : Nat → Nat → Int32} {ct : Nat → ClassId} {x : Int32} : (cT q σ ct).set 0 (q 0, .inr (3, [Value.ref (q 1), .int (σ 0 0), .int (σ 0 1), .int (σ 0 2), .int (σ 0 3), .int (σ 0 4), .int (σ 0 5)].set 1 (.int x))) = cT q (u2 σ 0 0 x) ct := rfl
theorem cT_f1 {q : Nat → Nat} {σ : Nat → Nat → Int32} {ct : Nat → ClassId} {x : Int32} : (cT q σ ct).set 0 (q 0, .inr (3, [Value.ref (q 1), .int (σ 0 0), .int (σ 0 1), .int (σ 0 2), .int (σ 0 3), .int (σ 0 4), .int (σ 0 5)].set 2 (.int x))) = cT q (u2 σ 0 1 x) ct := rfl
theorem cT_f2 {q : Nat → Nat} {σ : Nat → Nat → Int32} {ct : Nat → ClassId} {x : Int32} : (cT q σ ct).set 0 (q 0, .inr (3, [Value.ref (q 1), .int (σ 0 0), .int (σ 0 1), .int (σ 0 2), .int (σ 0 3), .int (σ 0 4), .int (σ 0 5)].set 3 (.int x))) = cT q (u2 σ 0 2 x) ct := rfl
theorem cT_f3 {q : Nat → Nat} {σ : Nat → Nat → Int32} {ct : Nat → ClassId} {x : Int32} : (cT q σ ct).set 0 (q 0, .inr (3, [Value.ref (q 1), .int (σ 0 0), .int (σ 0 1), .int (σ 0 2), .int (σ 0 3), .int (σ 0 4), .int (σ 0 5)].set 4 (.int x))) = cT q (u2 σ 0 3 x) ct := rfl
theorem cT_f4 {q : Nat → Nat} {σ : Nat → Nat → Int32} {ct : Nat → ClassId} {x : Int32} : (cT q σ ct).set 0 (q 0, .inr (3, [Value.ref (q 1), .int (σ 0 0), .int (σ 0 1), .int (σ 0 2), .int (σ 0 3), .int (σ 0 4), .int (σ 0 5)].set 5 (.int x))) = cT q (u2 σ 0 4 x) ct := rfl
theorem cT_f5 {q : Nat → Nat} {σ : Nat → Nat → Int32} {ct : Nat → ClassId} {x : Int32} : (cT q σ ct).set 0 (q 0, .inr (3, [Value.ref (q 1), .int (σ 0 0), .int (σ 0 1), .int (σ 0 2), .int (σ 0 3), .int (σ 0 4), .int (σ 0 5)].set 6 (.int x))) = cT q (u2 σ 0 5 x) ct := rfl
def okT (f : Nat → Int32) : Prop := ∀ k : Nat, k < 80 → ∃ c : Nat, c < 65536 ∧ f k = nI c
def mtFull (τ : Nat → Nat → Int32) : Bool := decide (80 ≤ τ 0 0)
def mtAppend (τ : Nat → Nat → Int32) (v : Int32) : Nat → Nat → Int32 := if ¬ τ 0 0 < 0 ∧ τ 0 0 < 80 then u2 (u2 τ 1 (τ 0 0).toNatClampNeg (vp_nar .char v)) 0 0 (τ 0 0 + 1) else τ
def mtSign (τ : Nat → Nat → Int32) : Int32 := if ¬ τ 0 1 < 0 ∧ τ 0 1 < τ 0 0 ∧ τ 0 1 < 80 then τ 1 (τ 0 1).toNatClampNeg else 0
def mtDigit (τ : Nat → Nat → Int32) : Int32 := if 48 ≤ mtSign τ ∧ mtSign τ ≤ 57 then mtSign τ - 48 else -1
def mtStep (τ : Nat → Nat → Int32) : Nat → Nat → Int32 := u2 τ 0 1 (τ 0 1 + 1)
def mtSgn (τ : Nat → Nat → Int32) (c : Int32) : Bool × (Nat → Nat → Int32) := if mtSign τ = c then (true, mtStep τ) else (false, τ)
def mtFirst (τ : Nat → Nat → Int32) (l : Int32) : Bool × (Nat → Nat → Int32) := if mtDigit τ < l then (false, τ) else (true, mtStep (u2 τ 0 3 (mtDigit τ)))
def mtSecond (τ : Nat → Nat → Int32) : Bool × (Nat → Nat → Int32) := if mtDigit τ = -1 ∨ mtDigit τ = τ 0 3 then (false, τ) else (true, mtStep (u2 τ 0 4 (mtDigit τ)))
def mtNumL (most : Int32) : Nat → (Nat → Nat → Int32) → Bool × (Nat → Nat → Int32)
  | 0, τ => (true, τ)
  | k + 1, τ => if mtDigit τ = -1 then (true, τ) else if τ 0 5 = 0 ∨ most < τ 0 5 * 10 + mtDigit τ then (false, τ) else mtNumL most k (mtStep (u2 τ 0 5 (τ 0 5 * 10 + mtDigit τ)))
def mtNum (τ : Nat → Nat → Int32) (least most : Int32) : Bool × (Nat → Nat → Int32) := if mtDigit τ < least then (false, u2 τ 0 5 (mtDigit τ)) else mtNumL most 79 (mtStep (u2 τ 0 5 (mtDigit τ)))
def mtC1 (τ : Nat → Nat → Int32) : Bool × (Nat → Nat → Int32) := if (mtFirst τ 0).1 = true then mtSecond (mtFirst τ 0).2 else (false, (mtFirst τ 0).2)
def mtC2 (τ : Nat → Nat → Int32) : Bool × (Nat → Nat → Int32) := if (mtFirst τ 1).1 = true then (if (mtSgn (mtFirst τ 1).2 44).1 = true then mtNum (mtSgn (mtFirst τ 1).2 44).2 0 999 else (false, (mtSgn (mtFirst τ 1).2 44).2)) else (false, (mtFirst τ 1).2)
def mtCmdK (τ : Nat → Nat → Int32) (k : Int32) : Bool × (Nat → Nat → Int32) := if k = 33 then mtFirst (mtStep τ) 0 else if k = 43 ∨ k = 45 then mtC1 (mtStep τ) else if k = 114 then mtNum (mtStep τ) 1 100 else if k = 116 then mtC2 (mtStep τ) else (false, τ)
def mtCmd (τ : Nat → Nat → Int32) : Bool × (Nat → Nat → Int32) := mtCmdK (u2 τ 0 2 (mtSign τ)) (mtSign τ)
def mtErrL : Nat → (Nat → Nat → Int32) → Int32 × (Nat → Nat → Int32)
  | 0, τ => (τ 0 1, τ)
  | k + 1, τ => if (mtCmd τ).1 = false then ((mtCmd τ).2 0 1, (mtCmd τ).2) else if (mtCmd τ).2 0 0 ≤ (mtCmd τ).2 0 1 then (-1, (mtCmd τ).2) else if (mtSgn (mtCmd τ).2 59).1 = false then ((mtSgn (mtCmd τ).2 59).2 0 1, (mtSgn (mtCmd τ).2 59).2) else mtErrL k (mtSgn (mtCmd τ).2 59).2
def mtErr (τ : Nat → Nat → Int32) : Int32 × (Nat → Nat → Int32) := mtErrL 81 (u2 τ 0 1 0)
/-! the signs stay as they are -/
theorem mtStep_1 (τ : Nat → Nat → Int32) : mtStep τ 1 = τ 1 := rfl
theorem mtSgn_1 (τ : Nat → Nat → Int32) (c : Int32) : (mtSgn τ c).2 1 = τ 1 := by unfold mtSgn; split <;> rfl
theorem mtFirst_1 (τ : Nat → Nat → Int32) (l : Int32) : (mtFirst τ l).2 1 = τ 1 := by unfold mtFirst; split <;> rfl
theorem mtSecond_1 (τ : Nat → Nat → Int32) : (mtSecond τ).2 1 = τ 1 := by unfold mtSecond; split <;> rfl
theorem mtNumL_1 (most : Int32) : ∀ (k : Nat) (τ : Nat → Nat → Int32), (mtNumL most k τ).2 1 = τ 1
  | 0, τ => rfl
  | k + 1, τ => by
    unfold mtNumL
    split
    · rfl
    · split
      · rfl
      · rw [mtNumL_1 most k]; rfl
theorem mtNum_1 (τ : Nat → Nat → Int32) (a b : Int32) : (mtNum τ a b).2 1 = τ 1 := by
  unfold mtNum
  split
  · rfl
  · rw [mtNumL_1]; rfl
theorem mtC1_1 (τ : Nat → Nat → Int32) : (mtC1 τ).2 1 = τ 1 := by
  unfold mtC1
  split
  · rw [mtSecond_1, mtFirst_1]
  · rw [mtFirst_1]
theorem mtC2_1 (τ : Nat → Nat → Int32) : (mtC2 τ).2 1 = τ 1 := by
  unfold mtC2
  split
  · split
    · rw [mtNum_1, mtSgn_1, mtFirst_1]
    · rw [mtSgn_1, mtFirst_1]
  · rw [mtFirst_1]
theorem mtCmd_1 (τ : Nat → Nat → Int32) : (mtCmd τ).2 1 = τ 1 := by
  unfold mtCmd mtCmdK
  split
  · rw [mtFirst_1]; rfl
  · split
    · rw [mtC1_1]; rfl
    · split
      · rw [mtNum_1]; rfl
      · split
        · rw [mtC2_1]; rfl
        · rfl
theorem mtErrL_1 : ∀ (k : Nat) (τ : Nat → Nat → Int32), (mtErrL k τ).2 1 = τ 1
  | 0, τ => rfl
  | k + 1, τ => by
    unfold mtErrL
    split
    · exact mtCmd_1 τ
    · split
      · exact mtCmd_1 τ
      · split
        · rw [mtSgn_1, mtCmd_1]
        · rw [mtErrL_1 k, mtSgn_1, mtCmd_1]
theorem mtErr_1 (τ : Nat → Nat → Int32) : (mtErr τ).2 1 = τ 1 := by unfold mtErr; rw [mtErrL_1]; rfl
theorem vpos {x : Int32} (h0 : ¬ x < 0) (h1 : ¬ Int32.ofNat 80 ≤ x) : vp_in x 80 := vin 80 rfl h0 h1
theorem mtSign_ch {τ : Nat → Nat → Int32} (h : okT (τ 1)) : ∃ c : Nat, c < 65536 ∧ mtSign τ = nI c := by
  unfold mtSign
  split
  · rename_i hc
    obtain ⟨j, hj, e⟩ := vnat 80 (by decide) rfl (i_nlt.mp hc.1) hc.2.2
    rw [e, nI_clamp (by omega)]
    exact h j hj
  · exact ⟨0, by decide, rfl⟩
theorem mtSign_nar {τ : Nat → Nat → Int32} (h : okT (τ 1)) : narrow .char (.int (mtSign τ)) = .int (mtSign τ) := by
  obtain ⟨c, hc, e⟩ := mtSign_ch h
  rw [e]
  exact (pk_charN hc).1
theorem mtSign_fit {τ : Nat → Nat → Int32} (h : okT (τ 1)) : fits .char (.int (mtSign τ)) = true := by
  obtain ⟨c, hc, e⟩ := mtSign_ch h
  rw [e]
  exact (pk_charN hc).2
theorem okT_nar {f : Nat → Int32} (h : okT f) {x : Int32} (h0 : ¬ x < 0) (h1 : ¬ Int32.ofNat 80 ≤ x) : narrow .char (.int (f x.toNatClampNeg)) = .int (f x.toNatClampNeg) := by
  obtain ⟨j, hj, e⟩ := vp_in_of (vpos h0 h1) (by decide)
  rw [e, nI_clamp (by omega)]
  obtain ⟨c, hc, e2⟩ := h j hj
  rw [e2]
  exact (pk_charN hc).1
theorem kgt0 {M : Int32} {i : Nat} (K : Nat) (hM : M = nI K) (h : i ≤ K) (hK : K < 2 ^ 31) : ¬ M < nI i := by
  subst hM
  exact nI_nlt h hK
theorem kgt1 {M : Int32} {i : Nat} (K : Nat) (hM : M = nI K) (h : K < i) (hi : i < 2 ^ 31) : M < nI i := by
  subst hM
  exact nI_lt h hi
