/-! THE RELATION: what is asked of the readings, what would be collected -/
theorem kfst_at {p : Nat → Bool} {j : Nat} (hj : p j = true) : ∀ (k i : Nat), i ≤ j → j < i + k → (∀ l, i ≤ l → l < j → p l = false) → kfst p k i = nI j
  | 0, i, h1, h2, _ => by omega
  | k + 1, i, h1, h2, h3 => by
    show (if p i = true then nI i else kfst p k (i + 1)) = nI j
    by_cases e : i = j
    · subst e; rw [if_pos hj]
    · rw [if_neg (by rw [h3 i (Nat.le_refl i) (by omega)]; decide)]
      exact kfst_at hj k (i + 1) (by omega) (by omega) (fun l a1 a2 => h3 l (by omega) a2)
theorem kfst_no {p : Nat → Bool} : ∀ (k i : Nat), (∀ l, i ≤ l → l < i + k → p l = false) → kfst p k i = -1
  | 0, _, _ => rfl
  | k + 1, i, h => by
    show (if p i = true then nI i else kfst p k (i + 1)) = -1
    rw [if_neg (by rw [h i (Nat.le_refl i) (by omega)]; decide)]
    exact kfst_no k (i + 1) (fun l a1 a2 => h l (by omega) (by omega))
theorem cnt_ex {f : Nat → Int32} {m x : Nat} : ∀ (k : Nat), x < cnt f m k → ∃ j, j < k ∧ f j = nI m ∧ cnt f m j = x
  | 0, h => absurd h (by show ¬ x < 0; omega)
  | k + 1, h => by
    have h2 : x < cnt f m k + (if f k = nI m then 1 else 0) := h
    by_cases c : x < cnt f m k
    · obtain ⟨j, h3, h4, h5⟩ := cnt_ex k c
      exact ⟨j, by omega, h4, h5⟩
    · by_cases c2 : f k = nI m
      · rw [if_pos c2] at h2
        exact ⟨k, by omega, c2, by omega⟩
      · rw [if_neg c2] at h2
        omega
theorem kany_no {p : Nat → Bool} {k i : Nat} (h : ∀ j, i ≤ j → j < i + k → p j = false) : kany p k i = false := by
  cases hb : kany p k i with
  | false => rfl
  | true =>
    obtain ⟨j, h1, h2, h3⟩ := (kany_iff k i).mp hb
    rw [h j h1 h2] at h3
    exact absurd h3 (by decide)
theorem one_cnt {p : Nat → Bool} : ∀ (k i : Nat) (a : Int32), (∀ j l, i ≤ j → j < l → l < i + k → p j = true → p l = false) → kfor (fun k (a : Int32) => a + (if p k = true then 1 else 0)) k i a = a + (if kany p k i = true then 1 else 0)
  | 0, i, a, _ => (Int32.add_zero a).symm
  | k + 1, i, a, h => by
    show kfor (fun k (a : Int32) => a + (if p k = true then 1 else 0)) k (i + 1) (a + (if p i = true then 1 else 0)) = a + (if (p i || kany p k (i + 1)) = true then 1 else 0)
    rw [one_cnt k (i + 1) _ (fun j l a1 a2 a3 a4 => h j l (by omega) a2 (by omega) a4)]
    cases hb : p i with
    | true =>
      rw [kany_no (fun j a1 a2 => h i j (Nat.le_refl i) (by omega) (by omega) hb), if_pos rfl, if_neg (by decide), Bool.true_or, if_pos rfl, Int32.add_zero]
    | false =>
      rw [if_neg (by decide), Int32.add_zero, Bool.false_or]
theorem kfor_s {α : Type} {f : Nat → α → α} {k i : Nat} {a : α} : kfor f (k + 1) i a = kfor f k (i + 1) (f i a) := rfl
theorem i_sub0 {x y : Int32} : x - y = 0 ↔ x = y := by
  constructor
  · intro h
    have h2 := Int32.sub_add_cancel x y
    rw [h, Int32.zero_add] at h2
    exact h2.symm
  · intro h
    rw [h, Int32.sub_self]
section RQ
variable {σ κ : TB} {b B : Nat}
theorem Rel_part (h : Rel σ κ b B) {n i p0 : Nat} (hn : n < 10) (hi : i < 2 ^ 31) (hp : p0 ≤ 4) : mrPart (rd σ) (nI n) (nI i) (nI p0) = if i < sK σ n then κ 1 (b + pl n i + p0) else -1 := by
  have iKh := h.2.2.2.2.2.2.1
  have hT := h.2.2.2.2.2.1.2.2
  have hl := lm_le n
  have hg := (iKh n hn).2.1
  by_cases c : i < sK σ n
  · obtain ⟨e1, e2⟩ := mrSt_n iKh hn c
    obtain ⟨id, f1, f2, f3, f4, f5, f6, f7⟩ := (h.2.2.2.2.1 n hn).2 i c
    unfold mrPart
    rw [e1, f2, if_neg (fun q => q.elim (nI_pos (by omega)) (nI_lt60 (by omega))), if_pos c, nI_clamp (by omega), e2]
    rcases (show p0 = 0 ∨ p0 = 1 ∨ p0 = 2 ∨ p0 = 3 ∨ p0 = 4 by omega) with rfl | rfl | rfl | rfl | rfl
    · rw [if_pos (show nI 0 = 0 from rfl)]; exact f3.symm
    · rw [if_neg (show ¬ nI 1 = 0 by decide), if_pos (show nI 1 = 1 from rfl)]; exact f4.symm
    · rw [if_neg (show ¬ nI 2 = 0 by decide), if_neg (show ¬ nI 2 = 1 by decide), if_pos (show nI 2 = 2 from rfl)]; exact f5.symm
    · rw [if_neg (show ¬ nI 3 = 0 by decide), if_neg (show ¬ nI 3 = 1 by decide), if_neg (show ¬ nI 3 = 2 by decide), if_pos (show nI 3 = 3 from rfl)]; exact f6.symm
    · rw [if_neg (show ¬ nI 4 = 0 by decide), if_neg (show ¬ nI 4 = 1 by decide), if_neg (show ¬ nI 4 = 2 by decide), if_neg (show ¬ nI 4 = 3 by decide)]; exact f7.symm
  · have e1 : mrId (rd σ) (nI n) (nI i) = -1 := by
      unfold mrId
      rw [mrSize_n iKh hn, if_neg (fun q => nI_nlt (by omega) hi q.2)]
    unfold mrPart
    rw [e1, if_pos (Or.inl (by decide)), if_neg c]
theorem Rel_wrong (h : Rel σ κ 0 B) : mrWrong (rd σ) = mdWrong κ := by
  have iKh := h.2.2.2.2.2.2.1
  have hg := (iKh 0 (by omega)).2.1
  have hl := lm_le 0
  unfold mrWrong mdWrong
  rw [show (0 : Int32) = nI 0 from rfl, mrSize_n iKh (by omega), nI_clamp (by omega), Rel_mdC h]
  refine kfor_ext _ 0 0 _ (fun d z hd => ?_)
  unfold mdWrong1
  have e4 := Rel_part h (n := 0) (i := d) (p0 := 4) (by omega) (by omega) (by omega)
  have e3 := Rel_part h (n := 0) (i := d) (p0 := 3) (by omega) (by omega) (by omega)
  rw [if_pos hd] at e4 e3
  have ep : pl 0 d = 390 + 5 * d := if_pos rfl
  show z + (if mrPart (rd σ) (nI 0) (nI (0 + d)) (nI 4) = mrPart (rd σ) (nI 0) (nI (0 + d)) (nI 3) then (nI 0) else 1) = _
  rw [Nat.zero_add d, e4, e3, show 0 + pl 0 d + 4 = 0 + 390 + 5 * d + 4 by omega, show 0 + pl 0 d + 3 = 0 + 390 + 5 * d + 3 by omega]
  rfl
theorem Rel_joined (h : Rel σ κ 0 B) : msJoined σ = mdJoined κ := by
  have h0 := h.2.2.2.2.2.2.2.2.1
  unfold msJoined mdJoined
  refine Eq.trans (kfor_s (k := 9) (i := 0)) ?_
  have e0 : (0 : Int32) + (if σ 3 (nI 0).toNatClampNeg = -1 then (0 : Int32) else 1) = 0 := by
    rw [nI_clamp (by decide), if_pos h0]; rfl
  rw [e0]
  refine kfor_ext 9 1 1 _ (fun d z hd => ?_)
  unfold mdJoin1
  show z + (if σ 3 (nI (1 + d)).toNatClampNeg = -1 then (0 : Int32) else 1) = _
  rw [nI_clamp (by omega), show κ 1 (0 + 20 + 7 * (1 + d) + 1) = σ 3 (1 + d) from h.2.1 (1 + d) 1 (by omega) (by omega)]
theorem Rel_missing (h : Rel σ κ b B) : mrMissing (rd σ) = κ 1 (b + 13) - κ 1 (b + 19) := by
  have iKh := h.2.2.2.2.2.2.1
  unfold mrMissing
  rw [show (0 : Int32) = nI 0 from rfl, mrSize_n iKh (by omega), ← (iKh 0 (by omega)).1, h.1.2.1, show κ 1 (b + 19) = σ 13 0 from (h.2.2.2.2.1 0 (by omega)).1]
  rfl
theorem Rel_size (h : Rel σ κ b B) {n : Nat} (hn : n < 10) : mrSize (rd σ) (nI n) = κ 1 (b + pz n) := by
  have iKh := h.2.2.2.2.2.2.1
  rw [mrSize_n iKh hn, ← (iKh n hn).1, (h.2.2.2.2.1 n hn).1]
theorem Rel_count (h : Rel σ κ 0 B) {k : Nat} (hk : k ≤ 5) : mCount σ (nI k) = κ 1 (13 + k) := by
  have h1 := h.1.1
  unfold mCount
  rcases (show k = 0 ∨ k = 1 ∨ k = 2 ∨ k = 3 ∨ k = 4 ∨ k = 5 by omega) with rfl | rfl | rfl | rfl | rfl | rfl
  · rw [if_pos (show nI 0 = 0 from rfl)]
    have := h.1.2.1
    rw [Nat.zero_add] at this
    exact this.symm
  · rw [if_neg (show ¬ nI 1 = 0 by decide), if_pos (show nI 1 = 1 from rfl)]
    have := h1 14 (by omega) (by omega) (by omega)
    rw [Nat.zero_add] at this
    exact this.symm
  · rw [if_neg (show ¬ nI 2 = 0 by decide), if_neg (show ¬ nI 2 = 1 by decide), if_pos (show nI 2 = 2 from rfl)]
    have := h1 15 (by omega) (by omega) (by omega)
    rw [Nat.zero_add] at this
    exact this.symm
  · rw [if_neg (show ¬ nI 3 = 0 by decide), if_neg (show ¬ nI 3 = 1 by decide), if_neg (show ¬ nI 3 = 2 by decide), if_pos (show nI 3 = 3 from rfl)]
    have := h1 16 (by omega) (by omega) (by omega)
    rw [Nat.zero_add] at this
    exact this.symm
  · rw [if_neg (show ¬ nI 4 = 0 by decide), if_neg (show ¬ nI 4 = 1 by decide), if_neg (show ¬ nI 4 = 2 by decide), if_neg (show ¬ nI 4 = 3 by decide), if_pos (show nI 4 = 4 from rfl)]
    have := h1 17 (by omega) (by omega) (by omega)
    rw [Nat.zero_add] at this
    exact this.symm
  · rw [if_neg (show ¬ nI 5 = 0 by decide), if_neg (show ¬ nI 5 = 1 by decide), if_neg (show ¬ nI 5 = 2 by decide), if_neg (show ¬ nI 5 = 3 by decide), if_neg (show ¬ nI 5 = 4 by decide)]
    have := h1 18 (by omega) (by omega) (by omega)
    rw [Nat.zero_add] at this
    exact this.symm
theorem Rel_okS (h : Rel σ κ b B) : okS σ := fun k hk => by
  have iKh := h.2.2.2.2.2.2.1
  have hg := (iKh k hk).2.1
  have hl := lm_le k
  rw [(iKh k hk).1]
  exact nI_pos (by omega)
theorem fit_01 {x : Int32} (h : x = 0 ∨ x = 1) : fits .boolean (.int x) = true := by
  rcases h with rfl | rfl <;> decide
theorem Rel_zbit (h : Rel σ κ b B) : zbit (σ 1) 100 ∧ zbit (σ 2) 10 := by
  refine ⟨fun i hi => fit_01 ?_, fun i hi => fit_01 ?_⟩
  · have := h.2.2.2.1.1 (i / 10) (i % 10) (by omega) (Nat.mod_lt _ (by decide))
    rw [show 10 * (i / 10) + i % 10 = i by omega] at this
    rw [this]
    exact bt_01 _ _
  · rw [h.2.2.2.1.2 i hi]
    exact bt_01 _ _
/-- what is kept while slots are run in the block b, with room for j more -/
def zI (b j : Nat) (κ : TB) : Prop := ∃ σ B, Rel σ κ b B ∧ B + j < 2 ^ 30
theorem zI_step {j : Nat} (h : zI b (j + 1) κ) : okSlot κ b ∧ zI b j (mdSlot κ b) := by
  obtain ⟨σ, B, h1, h2⟩ := h
  exact ⟨Rel_okSlot h1 (by omega), msSlot σ, B + 1, Rel_slot h1 (by omega), by omega⟩
/-! the copies of a reading -/
theorem Rel_find (h : Rel σ κ 0 B) {m : Nat} {x : Int32} {id : Nat} (hid : id < sT σ) (h9 : σ 9 id = nI m) (h10 : σ 10 id = x) : mrFind (rd σ) (nI m) x = nI id := by
  have g6 := h.2.2.2.2.2.1
  have g8 := h.2.2.2.2.2.2.2.1
  have hT := g6.2.2
  unfold mrFind
  rw [lim_n g6]
  refine kfst_at ?_ _ 0 (by omega) (by omega) (fun l _ hl => ?_)
  · show (decide (σ 9 (nI id).toNatClampNeg = nI m) && decide (σ 10 (nI id).toNatClampNeg = x)) = true
    rw [nI_clamp (by omega), decide_eq_true h9, decide_eq_true h10]; rfl
  · show (decide (σ 9 (nI l).toNatClampNeg = nI m) && decide (σ 10 (nI l).toNatClampNeg = x)) = false
    rw [nI_clamp (by omega)]
    by_cases c1 : σ 9 l = nI m
    · by_cases c2 : σ 10 l = x
      · have := id_inj hT g8 (show l < sT σ by omega) hid (by rw [c1, h9]) (by rw [c2, h10])
        omega
      · rw [decide_eq_false c2, Bool.and_false]
    · rw [decide_eq_false c1, Bool.false_and]
theorem Rel_find0 (h : Rel σ κ 0 B) {m : Nat} {x : Int32} (hno : ∀ id, id < sT σ → σ 9 id = nI m → σ 10 id ≠ x) : mrFind (rd σ) (nI m) x = -1 := by
  have g6 := h.2.2.2.2.2.1
  have hT := g6.2.2
  unfold mrFind
  rw [lim_n g6]
  refine kfst_no _ 0 (fun l _ hl => ?_)
  show (decide (σ 9 (nI l).toNatClampNeg = nI m) && decide (σ 10 (nI l).toNatClampNeg = x)) = false
  rw [nI_clamp (by omega)]
  by_cases c1 : σ 9 l = nI m
  · rw [decide_eq_false (hno l (by omega) c1), Bool.and_false]
  · rw [decide_eq_false c1, Bool.false_and]
theorem Rel_cop2 (h : Rel σ κ 0 B) {m n id : Nat} {x : Int32} (hn0 : 0 < n) (hn : n < 10) (hid : id < sT σ) (h9 : σ 9 id = nI m) (h10 : σ 10 id = x) (a : Int32) : mdCop2 κ m x n a = a + (if mrHolds (rd σ) (nI n) (nI id) = true then 1 else 0) := by
  have iKh := h.2.2.2.2.2.2.1
  have g8 := h.2.2.2.2.2.2.2.1
  have hT := h.2.2.2.2.2.1.2.2
  have hg := (iKh n hn).2.1
  have hl := lm_le n
  have epl : ∀ k, pl n k = 90 + 5 * (6 * n + k) := fun k => by unfold pl; rw [if_neg (by omega)]
  have key : ∀ j, j < sK σ n → ((κ 1 (0 + 90 + 5 * (6 * n + j)) = nI m ∧ κ 1 (0 + 90 + 5 * (6 * n + j) + 1) = x) ↔ σ 14 (60 * n + j) = nI id) := fun j hj => by
    obtain ⟨id2, f1, f2, f3, f4, -⟩ := (h.2.2.2.2.1 n hn).2 j hj
    rw [show 0 + pl n j = 0 + 90 + 5 * (6 * n + j) by rw [epl]; omega] at f3 f4
    rw [f3, f4, f2]
    constructor
    · rintro ⟨a1, a2⟩
      rw [id_inj hT g8 f1 hid (by rw [a1, h9]) (by rw [a2, h10])]
    · intro q
      have e : id2 = id := (nI_eq (by omega) (by omega)).mp q
      rw [e]
      exact ⟨h9, h10⟩
  unfold mdCop2
  rw [Rel_mdK h hn0 hn]
  have e1 : kfor (mdCop1 κ m x n) (sK σ n) 0 a = kfor (fun k (a : Int32) => a + (if decide (σ 14 (60 * n + k) = nI id) = true then 1 else 0)) (sK σ n) 0 a := by
    refine kfor_ext _ 0 0 _ (fun d z hd => ?_)
    unfold mdCop1
    rw [Nat.zero_add d]
    by_cases c : σ 14 (60 * n + d) = nI id
    · rw [if_pos ((key d hd).mpr c), if_pos (decide_eq_true c)]
    · rw [if_neg (fun q => c ((key d hd).mp q)), if_neg (by rw [decide_eq_false c]; decide)]
  rw [e1, one_cnt _ _ _ (fun j l _ a2 a3 a4 => decide_eq_false (fun q => (iKh n hn).2.2 j l a2 (by omega) ((of_decide_eq_true a4).trans q.symm)))]
  have e2 : kany (fun k => decide (σ 14 (60 * n + k) = nI id)) (sK σ n) 0 = true ↔ mrHolds (rd σ) (nI n) (nI id) = true := by
    rw [kany_iff, holds_iff iKh hn]
    constructor
    · rintro ⟨j, -, a2, a3⟩
      exact ⟨j, by omega, of_decide_eq_true a3⟩
    · rintro ⟨j, a2, a3⟩
      exact ⟨j, by omega, by omega, decide_eq_true a3⟩
  by_cases c : mrHolds (rd σ) (nI n) (nI id) = true
  · rw [if_pos c, if_pos (e2.mpr c)]
  · rw [if_neg c, if_neg (fun q => c (e2.mp q))]
theorem Rel_cop (h : Rel σ κ 0 B) {m id : Nat} {x : Int32} (hid : id < sT σ) (h9 : σ 9 id = nI m) (h10 : σ 10 id = x) : mrStores (rd σ) (nI id) = mdCop κ m x := by
  unfold mrStores mdCop
  refine Eq.trans (kfor_s (k := 9) (i := 0)) ?_
  have e0 : (0 : Int32) + (if ¬ nI 0 = 0 ∧ mrHolds (rd σ) (nI 0) (nI id) = true then (1 : Int32) else 0) = 0 := by
    rw [if_neg (fun q => q.1 rfl)]; rfl
  rw [e0]
  refine kfor_ext 9 1 1 _ (fun d z hd => ?_)
  rw [Rel_cop2 h (by omega) (by omega) hid h9 h10]
  show z + (if ¬ nI (1 + d) = 0 ∧ mrHolds (rd σ) (nI (1 + d)) (nI id) = true then (1 : Int32) else 0) = _
  by_cases c : mrHolds (rd σ) (nI (1 + d)) (nI id) = true
  · rw [if_pos ⟨nI_ne0 (by omega) (by omega), c⟩, if_pos c]
  · rw [if_neg (fun q => c q.2), if_neg c]
theorem Rel_copies (h : Rel σ κ 0 B) {m : Nat} (hm : m < 10) (x : Int32) : (if mrFind (rd σ) (nI m) x = -1 then -1 else mrStores (rd σ) (mrFind (rd σ) (nI m) x)) = if mIn x 0 (κ 1 (0 + 20 + 7 * m + 5) - 1) = true then mdCop κ m x else -1 := by
  have g6 := h.2.2.2.2.2.1
  have g8 := h.2.2.2.2.2.2.2.1
  have hT := g6.2.2
  have hc := cnt_le (f := σ 9) (m := m) (k := sT σ)
  have e : κ 1 (0 + 20 + 7 * m + 5) = nI (cnt (σ 9) m (sT σ)) := h.2.2.1 m hm
  have hin : mIn x 0 (κ 1 (0 + 20 + 7 * m + 5) - 1) = true ↔ ∃ y, y < cnt (σ 9) m (sT σ) ∧ x = nI y := by
    rw [e]
    unfold mIn
    rw [Bool.and_eq_true, decide_eq_true_eq, decide_eq_true_eq]
    obtain ⟨N, eN⟩ : ∃ z, z = cnt (σ 9) m (sT σ) := ⟨_, rfl⟩
    rw [← eN] at hc ⊢
    have eN1 : (nI N - 1).toInt = (N : Int) - 1 := by
      rcases Nat.eq_zero_or_pos N with q | q
      · subst q; decide
      · rw [show (1 : Int32) = nI 1 from rfl, pk_sub q, nI_toInt (by omega)]; omega
    constructor
    · rintro ⟨a1, a2⟩
      have h0 : ¬ x < 0 := i_nlt.mpr a1
      obtain ⟨j, hj, e2⟩ := nI_of h0
      subst e2
      rw [Int32.le_iff_toInt_le, nI_toInt hj, eN1] at a2
      exact ⟨j, by omega, rfl⟩
    · rintro ⟨y, hy, e2⟩
      subst e2
      refine ⟨nI_pos' (by omega), ?_⟩
      rw [Int32.le_iff_toInt_le, nI_toInt (by omega), eN1]
      omega
  by_cases c : mIn x 0 (κ 1 (0 + 20 + 7 * m + 5) - 1) = true
  · obtain ⟨y, hy, ey⟩ := hin.mp c
    obtain ⟨id, a1, a2, a3⟩ := cnt_ex _ hy
    obtain ⟨k, k0, k1, k2, k3⟩ := g8 id a1
    have ekm : k = m := (nI_eq (by omega) (by omega)).mp (by rw [← k2, a2])
    subst ekm
    have h10 : σ 10 id = x := by rw [k3, a3, ey]
    have ef := Rel_find h a1 a2 h10
    rw [ef, if_neg (nI_ne (by omega)), if_pos c]
    exact Rel_cop h a1 a2 h10
  · have ef : mrFind (rd σ) (nI m) x = -1 := Rel_find0 h (fun id hid h9 q => c (hin.mpr (by
      obtain ⟨k, k0, k1, k2, k3⟩ := g8 id hid
      have ekm : k = m := (nI_eq (by omega) (by omega)).mp (by rw [← k2, h9])
      subst ekm
      exact ⟨cnt (σ 9) k id, cnt_lt hid h9, by rw [← q, k3]⟩)))
    rw [ef, if_pos rfl, if_neg c]
end RQ
