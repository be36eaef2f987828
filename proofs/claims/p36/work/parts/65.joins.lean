/-! P36: A METER THAT IS LINKED WITH THE COLLECTOR follows it behind the collector's slot -/
section JN
variable {σ : TB} {B t e : Nat}
theorem hear_k {m i : Nat} (hi : i < 10) (hmi : m ≠ i) {r : Nat} (hr : r = 3 ∨ r = 4 ∨ r = 5 ∨ r = 6) (σ : TB) : msHear σ (nI i) (nI 0) r m = σ r m := by
  have f : msFollow σ (nI i) (nI 0) r m = σ r m := by
    rw [follow_lo hi (by omega) (by omega), u2_no (fun _ => hmi), u2_no (fun _ => hmi), u2_no (fun _ => hmi), u2_no (fun _ => hmi)]
  have d : msDrop σ (nI i) r m = σ r m := by
    rw [drop_v hi, u2_no (fun q => by omega), u2_no (fun _ => hmi), u2_no (fun _ => hmi)]
  unfold msHear
  split
  · split
    · exact f
    · exact d
  · split
    · exact f
    · rfl
/-- m hears the collector -/
theorem hear_0 (h : jS t e B σ) (h30 : σ 3 0 = -1) {m : Nat} (hm0 : 0 < m) (hm : m < 10) : msHear σ (nI m) (nI 0) = msFollow σ (nI m) (nI 0) := by
  have hT := h.2.1
  have hl : msLeads σ (nI 0) = true := by
    unfold msLeads
    rw [nI_clamp (by omega), hT.1]
    decide
  unfold msHear
  rw [nI_clamp (by omega)]
  by_cases c : σ 3 m = nI 0
  · rw [if_pos c, if_pos hl]
  · have hb : msBetter σ (nI m) (nI 0) = true := by
      unfold msBetter
      rw [nI_clamp (by omega), nI_clamp (by omega), h30, hT.1]
      rcases hT.2.2 m hm0 hm with ⟨c1, c2⟩ | ⟨p, d, u, c1, c2, c3, c4, c5, c6, c7, c8⟩
      · rw [c1]
        have : ¬ (-1 : Int32) = nI m := fun q => nI_ne (by omega) q.symm
        simp [this]
      · have hp0 : p ≠ 0 := fun q => c (by rw [c5, q])
        have hd0 : d ≠ 0 := fun q => hp0 (c8 q)
        have : ¬ (-1 : Int32) = nI m := fun q => nI_ne (by omega) q.symm
        have l : nI 1 < σ 4 m := by
          rw [c6]
          exact nI_lt (by omega) (by omega)
        simp [this]
        exact Or.inr l
    rw [if_neg c, if_pos ⟨hl, hb⟩]
def hJ (σ : TB) (t m : Nat) : Prop := σ 3 m = nI 0 ∧ σ 4 m = nI 1 ∧ σ 5 m = nI t ∧ σ 6 m = 0
theorem heard_0 {m : Nat} (hm0 : 0 < m) (hm : m < 10) : ∀ (k i : Nat) (σ : TB), 0 < i → i + k = 10 → jS t e B σ → σ 3 0 = -1 → msConn σ (nI m) (nI 0) = true → (m < i → hJ σ t m) → hJ (kfor (msHear1 (nI 0)) k i σ) t m ∧ (kfor (msHear1 (nI 0)) k i σ) 3 0 = -1
  | 0, i, σ, _, hk, _, h30, _, hx => ⟨hx (by omega), h30⟩
  | k + 1, i, σ, hi, hk, hj, h30, hc, hx => by
    rw [kfor_s]
    have hi10 : i < 10 := by omega
    have step : jS t e B (msHear1 (nI 0) i σ) := jS_heardL (n := 0) (by omega) 1 i σ hi (by omega) hj
    have s30 : msHear1 (nI 0) i σ 3 0 = -1 := by
      unfold msHear1
      split
      · rw [hear_k hi10 (by omega) (Or.inl rfl)]; exact h30
      · exact h30
    have sc : msConn (msHear1 (nI 0) i σ) (nI m) (nI 0) = true := by
      have q : ∀ r, r = 1 ∨ r = 2 → msHear1 (nI 0) i σ r = σ r := fun r hr => by
        unfold msHear1
        split
        · exact hear_12 (by omega) (by omega) (by omega) (by omega) (by omega) (by omega) _ _ _
        · rfl
      rw [conn_of (q 1 (Or.inl rfl)) (q 2 (Or.inr rfl))]; exact hc
    refine heard_0 hm0 hm k (i + 1) _ (by omega) (by omega) step s30 sc (fun hlt => ?_)
    by_cases c : m = i
    · subst c
      unfold msHear1
      rw [if_pos ⟨nI_ne0 hm0 (by omega), hc⟩, hear_0 hj h30 hm0 hm]
      have f : ∀ r, r < 8 → msFollow σ (nI m) (nI 0) r m = _ := fun r hr => follow_lo (k := m) hm (show 0 < 10 by omega) hr
      refine ⟨?_, ?_, ?_, ?_⟩
      · rw [f 3 (by omega), u2_no (fun q => by omega), u2_no (fun q => by omega), u2_no (fun q => by omega), u2_ye rfl rfl]
      · rw [f 4 (by omega), u2_no (fun q => by omega), u2_no (fun q => by omega), u2_ye rfl rfl, hj.2.1.1]; rfl
      · rw [f 5 (by omega), u2_no (fun q => by omega), u2_ye rfl rfl, hj.1]
      · rw [f 6 (by omega), u2_ye rfl rfl, hj.2.1.2.1]
    · have hx2 := hx (by omega)
      have q : ∀ r, (r = 3 ∨ r = 4 ∨ r = 5 ∨ r = 6) → msHear1 (nI 0) i σ r m = σ r m := fun r hr => by
        unfold msHear1
        split
        · exact hear_k hi10 c hr σ
        · rfl
      unfold hJ
      rw [q 3 (by omega), q 4 (by omega), q 5 (by omega), q 6 (by omega)]
      exact hx2
/-- behind the collector's slot -/
theorem joined_slot (h : Inv B σ) (hB : B < 2 ^ 30) {t : Nat} (h0 : σ 0 0 = nI t) (ht2 : t < 2 ^ 31) (ht : t % 10 = 0) {m : Nat} (hm0 : 0 < m) (hm : m < 10) (hc : msConn σ (nI m) (nI 0) = true) : hJ (msSlot σ) t m ∧ (msSlot σ) 0 0 = nI (t + 1) := by
  have hs := slot_m h hB
  obtain ⟨⟨κ, h1⟩, t2, ht3, j, -⟩ := h
  have e : t2 = t := (nI_eq (by omega) ht2).mp (j.1.symm.trans h0)
  subst e
  refine ⟨?_, by rw [hs.1, h0, nI_1]⟩
  have h30 : σ 3 0 = -1 := h1.2.2.2.2.2.2.2.2.1
  have eN : msNode σ = nI 0 := by unfold msNode; rw [h0, mFloor_n (by omega), ht]
  have on0 : ¬ σ 2 0 = 0 := by
    unfold msConn msOn at hc
    simp only [Bool.and_eq_true, decide_eq_true_eq] at hc
    exact hc.2.1.2
  have el : msLose σ (nI 0) = σ := by
    unfold msLose
    rw [nI_clamp (by omega), if_neg (fun q => q.1 h30)]
  have eT : msTurn σ = msBeHeard σ (nI 0) := by
    unfold msTurn
    rw [eN, if_neg (by rw [nI_clamp (by omega)]; exact on0), el]
    unfold msSend
    rw [nI_clamp (by omega), heard_1, (heard_0 hm0 hm 9 1 σ (by omega) rfl j h30 hc (fun q => by omega)).2, conn_neg, if_neg (fun q => absurd q.1 Bool.false_ne_true)]
  have g := (heard_0 hm0 hm 9 1 σ (by omega) rfl j h30 hc (fun q => by omega)).1
  rw [← heard_1, ← eT] at g
  unfold msSlot
  exact g
/-! counts of nodes and links -/
theorem kfor_ge {p : Nat → Bool} {j : Nat} (k i a : Nat) (h1 : i ≤ j) (h2 : j < i + k) (h3 : p j = true) : ∃ c, 0 < c ∧ c ≤ k ∧ kfor (fun i (a : Int32) => a + (if p i = true then 1 else 0)) k i (nI a) = nI (a + c) := by
  obtain ⟨c, c1, c2, c3⟩ := kcnt (p := p) k i a
  exact ⟨c, c3 ⟨j, h1, h2, h3⟩, c1, c2⟩
theorem on_form (σ : TB) : msOnCount σ = kfor (fun i (a : Int32) => a + (if decide (¬ σ 2 i = 0) = true then 1 else 0)) 10 0 (nI 0) := by
  unfold msOnCount
  refine kfor_ext 10 0 0 _ (fun d z hd => ?_)
  show z + _ = z + _
  rw [Nat.zero_add, nI_clamp (by omega)]
  by_cases c : σ 2 d = 0 <;> simp [c]
theorem on_n (σ : TB) : ∃ c, c ≤ 10 ∧ msOnCount σ = nI c := by
  obtain ⟨c, c1, c2, -⟩ := kcnt (p := fun i => decide (¬ σ 2 i = 0)) 10 0 0
  exact ⟨c, c1, by rw [on_form, c2, Nat.zero_add]⟩
theorem on_1 {n : Nat} (hn : n < 10) (h : ¬ σ 2 n = 0) : ∃ c, 0 < c ∧ c ≤ 10 ∧ msOnCount σ = nI c := by
  obtain ⟨c, c1, c2, c3⟩ := kfor_ge (p := fun i => decide (¬ σ 2 i = 0)) 10 0 0 (Nat.zero_le n) (by omega) (decide_eq_true h)
  exact ⟨c, c1, c2, by rw [on_form, c3, Nat.zero_add]⟩
theorem on_2 {m : Nat} (hm0 : 0 < m) (hm : m < 10) (h0 : ¬ σ 2 0 = 0) (h : ¬ σ 2 m = 0) : ∃ c, 1 < c ∧ c ≤ 10 ∧ msOnCount σ = nI c := by
  obtain ⟨c, c1, c2, c3⟩ := kfor_ge (p := fun i => decide (¬ σ 2 i = 0)) 9 1 1 (j := m) (by omega) (by omega) (decide_eq_true h)
  refine ⟨1 + c, by omega, by omega, ?_⟩
  rw [on_form, kfor_s, if_pos (decide_eq_true h0), nI_1, c3]
theorem links_n (σ : TB) : ∃ c, c ≤ 50 ∧ msLinks σ = nI c := by
  obtain ⟨c, c1, c2, -⟩ := kcnt (p := fun i => decide (¬ σ 1 i = 0)) 100 0 0
  refine ⟨c / 2, by omega, ?_⟩
  unfold msLinks
  rw [kfor_ext (g := fun i (a : Int32) => a + (if decide (¬ σ 1 i = 0) = true then 1 else 0)) 100 0 0 _ (fun d z hd => ?_)]
  · show kfor (fun i (a : Int32) => a + (if decide (¬ σ 1 i = 0) = true then 1 else 0)) 100 0 (nI 0) / nI 2 = _
    rw [c2, Nat.zero_add, pk_div (by omega) (by omega) (by omega)]
  · show z + _ = z + _
    rw [Nat.zero_add, nI_clamp (by omega)]
    by_cases c : σ 1 d = 0 <;> simp [c]
theorem links_2 {x y : Nat} (hxy : x < y) (hy : y < 100) (h1 : ¬ σ 1 x = 0) (h2 : ¬ σ 1 y = 0) : ∃ c, 0 < c ∧ c ≤ 50 ∧ msLinks σ = nI c := by
  obtain ⟨a, a1, a2, a3⟩ := kfor_ge (p := fun i => decide (¬ σ 1 i = 0)) y 0 0 (j := x) (by omega) (by omega) (decide_eq_true h1)
  obtain ⟨b, b1, b2, b3⟩ := kfor_ge (p := fun i => decide (¬ σ 1 i = 0)) (100 - y) y (0 + a) (j := y) (by omega) (by omega) (decide_eq_true h2)
  refine ⟨(0 + a + b) / 2, by omega, by omega, ?_⟩
  unfold msLinks
  rw [kfor_ext (g := fun i (a : Int32) => a + (if decide (¬ σ 1 i = 0) = true then 1 else 0)) 100 0 0 _ (fun d z hd => ?_)]
  · have ea := kfor_add (f := fun i (a : Int32) => a + (if decide (¬ σ 1 i = 0) = true then 1 else 0)) y (100 - y) 0 (nI 0)
    rw [show y + (100 - y) = 100 by omega, a3, Nat.zero_add y, b3] at ea
    show kfor (fun i (a : Int32) => a + (if decide (¬ σ 1 i = 0) = true then 1 else 0)) 100 0 (nI 0) / nI 2 = _
    rw [ea, pk_div (by omega) (by omega) (by omega)]
  · show z + _ = z + _
    rw [Nat.zero_add, nI_clamp (by omega)]
    by_cases c : σ 1 d = 0 <;> simp [c]
end JN
