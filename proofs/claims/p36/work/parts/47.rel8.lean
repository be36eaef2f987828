/-! THE RELATION: hops -/
def inb (z : Int32) (j : Nat) : Bool := z.toBitVec.getLsbD j
theorem inb_and (z : Int32) {j : Nat} (hj : j < 32) : (z &&& (1 <<< (nI j &&& 31)) = 0) ↔ inb z j = false := by
  unfold inb
  constructor
  · intro h
    have h2 := congrArg (fun y : Int32 => y.toBitVec.getLsbD j) h
    rw [Int32.toBitVec_and, sh_n j hj, BitVec.getLsbD_and, BitVec.getLsbD_twoPow, decide_eq_true hj, show (0 : Int32).toBitVec = 0#32 from rfl, BitVec.getLsbD_zero] at h2
    simpa using h2
  · intro h
    apply Int32.toBitVec_inj.mp
    rw [Int32.toBitVec_and, sh_n j hj]
    apply BitVec.eq_of_getLsbD_eq
    intro i hi
    rw [BitVec.getLsbD_and, BitVec.getLsbD_twoPow, show (0 : Int32).toBitVec = 0#32 from rfl, BitVec.getLsbD_zero]
    by_cases c : j = i
    · subst c; rw [h, Bool.false_and]
    · rw [decide_eq_false c, Bool.and_false, Bool.and_false]
theorem inb_and2 (z : Int32) {j : Nat} (hj : j < 32) : (¬ z &&& (1 <<< (nI j &&& 31)) = 0) ↔ inb z j = true := by
  rw [inb_and z hj]
  cases inb z j <;> simp
theorem inb_or (z : Int32) {i j : Nat} (hi : i < 32) (hj : j < 32) : inb (z ||| (1 <<< (nI i &&& 31))) j = (inb z j || decide (i = j)) := by
  unfold inb
  rw [Int32.toBitVec_or, sh_n i hi, BitVec.getLsbD_or, BitVec.getLsbD_twoPow, decide_eq_true hi, Bool.true_and]
theorem inb_or2 (z y : Int32) (j : Nat) : inb (z ||| y) j = (inb z j || inb y j) := by
  unfold inb
  rw [Int32.toBitVec_or, BitVec.getLsbD_or]
theorem inb_0 (j : Nat) : inb 0 j = false := by
  unfold inb
  rw [show (0 : Int32).toBitVec = 0#32 from rfl, BitVec.getLsbD_zero]
section RH
variable {σ κ : TB} {b B : Nat}
theorem nb1L {set : Int32} {a j : Nat} (ha : a < 10) (hj : j < 10) : ∀ (k i : Nat) (z : Int32), i + k ≤ 10 → (inb (kfor (msNb1 σ set a) k i z) j = true ↔ inb z j = true ∨ (i ≤ j ∧ j < i + k ∧ inb set a = true ∧ msConn σ (nI a) (nI j) = true))
  | 0, i, z, _ => by
    constructor
    · exact Or.inl
    · rintro (h | ⟨h1, h2, -⟩)
      · exact h
      · omega
  | k + 1, i, z, hk => by
    rw [kfor_s, nb1L ha hj k (i + 1) _ (by omega)]
    unfold msNb1
    by_cases c : ¬ set &&& (1 <<< (nI a &&& 31)) = 0 ∧ msConn σ (nI a) (nI i) = true
    · rw [if_pos c, inb_or z (by omega) (by omega), Bool.or_eq_true, decide_eq_true_eq]
      have c1 := (inb_and2 set (show a < 32 by omega)).mp c.1
      constructor
      · rintro ((h | h) | ⟨h1, h2, h3, h4⟩)
        · exact Or.inl h
        · subst h; exact Or.inr ⟨Nat.le_refl i, by omega, c1, c.2⟩
        · exact Or.inr ⟨by omega, by omega, h3, h4⟩
      · rintro (h | ⟨h1, h2, h3, h4⟩)
        · exact Or.inl (Or.inl h)
        · by_cases e : i = j
          · exact Or.inl (Or.inr e)
          · exact Or.inr ⟨by omega, by omega, h3, h4⟩
    · rw [if_neg c]
      constructor
      · rintro (h | ⟨h1, h2, h3, h4⟩)
        · exact Or.inl h
        · exact Or.inr ⟨by omega, by omega, h3, h4⟩
      · rintro (h | ⟨h1, h2, h3, h4⟩)
        · exact Or.inl h
        · by_cases e : i = j
          · subst e
            exact absurd ⟨(inb_and2 set (show a < 32 by omega)).mpr h3, h4⟩ c
          · exact Or.inr ⟨by omega, by omega, h3, h4⟩
theorem nbL {set : Int32} {j : Nat} (hj : j < 10) : ∀ (k i : Nat) (z : Int32), i + k ≤ 10 → (inb (kfor (fun a (z : Int32) => kfor (msNb1 σ set a) 10 0 z) k i z) j = true ↔ inb z j = true ∨ ∃ a, i ≤ a ∧ a < i + k ∧ inb set a = true ∧ msConn σ (nI a) (nI j) = true)
  | 0, i, z, _ => by
    constructor
    · exact Or.inl
    · rintro (h | ⟨a, h1, h2, -⟩)
      · exact h
      · omega
  | k + 1, i, z, hk => by
    rw [kfor_s, nbL hj k (i + 1) _ (by omega), nb1L (by omega) hj 10 0 z (by omega)]
    constructor
    · rintro ((h | ⟨-, -, h3, h4⟩) | ⟨a, h1, h2, h3, h4⟩)
      · exact Or.inl h
      · exact Or.inr ⟨i, Nat.le_refl i, by omega, h3, h4⟩
      · exact Or.inr ⟨a, by omega, by omega, h3, h4⟩
    · rintro (h | ⟨a, h1, h2, h3, h4⟩)
      · exact Or.inl (Or.inl h)
      · by_cases e : a = i
        · subst e; exact Or.inl (Or.inr ⟨by omega, by omega, h3, h4⟩)
        · exact Or.inr ⟨a, by omega, by omega, h3, h4⟩
theorem nb_iff {set : Int32} {j : Nat} (hj : j < 10) : inb (msNb σ set) j = true ↔ ∃ a, a < 10 ∧ inb set a = true ∧ msConn σ (nI a) (nI j) = true := by
  unfold msNb
  rw [nbL hj 10 0 0 (by omega), inb_0]
  constructor
  · rintro (h | ⟨a, h1, h2, h3, h4⟩)
    · exact absurd h (by decide)
    · exact ⟨a, by omega, h3, h4⟩
  · rintro ⟨a, h2, h3, h4⟩
    exact Or.inr ⟨a, by omega, by omega, h3, h4⟩
/-- one round of the reference's search: who is reached now -/
def hP (κ : TB) (d i : Nat) (κ2 : TB) : Prop := (∀ r, r ≠ 3 → κ2 r = κ r) ∧ ∀ j, j < 10 → (κ2 3 j = nI (d + 1) ∧ κ 3 j = -1 ∧ ∃ a, a < 10 ∧ 10 * a + j < i ∧ κ 3 a = nI d ∧ mdConn κ 0 a j = true) ∨ (κ2 3 j = κ 3 j ∧ (κ 3 j = -1 → ∀ a, a < 10 → 10 * a + j < i → ¬ (κ 3 a = nI d ∧ mdConn κ 0 a j = true)))
theorem conn_r {κ κ2 : TB} (h : κ2 1 = κ 1) (i j : Nat) : mdConn κ2 b i j = mdConn κ b i j := by
  unfold mdConn mdOn
  rw [h]
theorem hop1L {d : Nat} (hd : d < 10) : ∀ (k i : Nat) (κ2 : TB), i + k ≤ 100 → hP κ d i κ2 → hP κ d (i + k) (kfor (mdHop1 d) k i κ2)
  | 0, _, _, _, h => h
  | k + 1, i, κ2, hk, h => by
    rw [kfor_s, show i + (k + 1) = i + 1 + k by omega]
    refine hop1L hd k (i + 1) _ (by omega) ?_
    obtain ⟨h1, h2⟩ := h
    have hi10 : i / 10 < 10 := by omega
    have hj10 : i % 10 < 10 := Nat.mod_lt _ (by decide)
    unfold mdHop1
    refine ⟨fun r hr => by rw [u2_ne hr]; exact h1 r hr, fun j hj => ?_⟩
    rw [u2_v]
    by_cases e : j = i % 10
    · rw [if_pos ⟨rfl, e⟩, ← e, conn_r (h1 1 (by omega))]
      have ea : κ2 3 (i / 10) = nI d ↔ κ 3 (i / 10) = nI d := by
        rcases h2 (i / 10) hi10 with ⟨q1, q2, -⟩ | ⟨q1, -⟩
        · rw [q1, q2]
          constructor
          · intro q
            have := (nI_eq (by omega) (by omega)).mp q
            omega
          · intro q
            exact absurd q.symm (nI_ne (by omega))
        · rw [q1]
      rcases h2 j hj with ⟨q1, q2, q3⟩ | ⟨q1, q2⟩
      · left
        rw [q1, if_neg (fun q => nI_ne (by omega) q.2.1)]
        obtain ⟨a, a1, a2, a3, a4⟩ := q3
        exact ⟨rfl, q2, a, a1, by omega, a3, a4⟩
      · rw [q1]
        by_cases c : κ2 3 (i / 10) = nI d ∧ κ 3 j = -1 ∧ mdConn κ 0 (i / 10) j = true
        · left
          rw [if_pos c]
          exact ⟨rfl, c.2.1, i / 10, hi10, by omega, ea.mp c.1, c.2.2⟩
        · right
          rw [if_neg c]
          refine ⟨rfl, fun q3 a a1 a2 a3 => ?_⟩
          by_cases c2 : 10 * a + j < i
          · exact q2 q3 a a1 c2 a3
          · have e2 : a = i / 10 := by omega
            subst e2
            exact c ⟨ea.mpr a3.1, q3, a3.2⟩
    · rw [if_neg (fun q => e q.2)]
      rcases h2 j hj with ⟨q1, q2, a, a1, a2, a3, a4⟩ | ⟨q1, q2⟩
      · exact Or.inl ⟨q1, q2, a, a1, by omega, a3, a4⟩
      · refine Or.inr ⟨q1, fun q3 a a1 a2 => ?_⟩
        exact q2 q3 a a1 (by omega)
theorem hop2_v {d : Nat} (hd : d < 10) : (∀ r, r ≠ 3 → mdHop2 d κ r = κ r) ∧ ∀ j, j < 10 → (mdHop2 d κ 3 j = nI (d + 1) ∧ κ 3 j = -1 ∧ ∃ a, a < 10 ∧ κ 3 a = nI d ∧ mdConn κ 0 a j = true) ∨ (mdHop2 d κ 3 j = κ 3 j ∧ (κ 3 j = -1 → ∀ a, a < 10 → ¬ (κ 3 a = nI d ∧ mdConn κ 0 a j = true))) := by
  have h := hop1L (κ := κ) hd 100 0 κ (by omega) ⟨fun _ _ => rfl, fun j hj => Or.inr ⟨rfl, fun _ a _ q => by omega⟩⟩
  refine ⟨h.1, fun j hj => ?_⟩
  rcases h.2 j hj with ⟨q1, q2, a, a1, a2, a3, a4⟩ | ⟨q1, q2⟩
  · exact Or.inl ⟨q1, q2, a, a1, a3, a4⟩
  · exact Or.inr ⟨q1, fun q3 a a1 => q2 q3 a a1 (by omega)⟩
theorem hop2_keep {d : Nat} (hd : d < 10) {j : Nat} (hj : j < 10) (h : ¬ κ 3 j = -1) : mdHop2 d κ 3 j = κ 3 j := by
  rcases (hop2_v (κ := κ) hd).2 j hj with ⟨-, q2, -⟩ | ⟨q1, -⟩
  · exact absurd q2 h
  · exact q1
theorem hopL_keep {j : Nat} (hj : j < 10) : ∀ (k i : Nat) (κ : TB), i + k ≤ 10 → ¬ κ 3 j = -1 → kfor mdHop2 k i κ 3 j = κ 3 j
  | 0, _, _, _, _ => rfl
  | k + 1, i, κ, hk, h => by
    have e := hop2_keep (κ := κ) (d := i) (by omega) hj h
    rw [kfor_s, hopL_keep hj k (i + 1) _ (by omega) (by rw [e]; exact h), e]
/-- both searches after d rounds -/
def hI (σ κ : TB) (d : Nat) (r : Int32) : Prop := (∀ i j, i < 10 → j < 10 → msConn σ (nI i) (nI j) = mdConn κ 0 i j) ∧ ∀ j, j < 10 → (κ 3 j = -1 ∨ ∃ h, h ≤ d ∧ κ 3 j = nI h) ∧ (inb r j = true ↔ ¬ κ 3 j = -1) ∧ (∀ h k, h < d → k < 10 → κ 3 j = nI h → mdConn κ 0 j k = true → ¬ κ 3 k = -1) ∧ (∀ h, h < d → κ 3 j = nI (h + 1) → ∃ k, k < 10 ∧ κ 3 k = nI h)
theorem hI_step {d : Nat} {r : Int32} (hd : d < 10) (h : hI σ κ d r) : hI σ (mdHop2 d κ) (d + 1) (r ||| msNb σ r) := by
  obtain ⟨hc, hj⟩ := h
  obtain ⟨v1, v2⟩ := hop2_v (κ := κ) hd
  have ec : ∀ i j, mdConn (mdHop2 d κ) 0 i j = mdConn κ 0 i j := fun i j => conn_r (v1 1 (by omega)) i j
  refine ⟨fun i j hi hj => by rw [ec]; exact hc i j hi hj, fun j hj10 => ?_⟩
  obtain ⟨p1, p2, p3, p4⟩ := hj j hj10
  have nbj : inb (msNb σ r) j = true ↔ ∃ a, a < 10 ∧ ¬ κ 3 a = -1 ∧ mdConn κ 0 a j = true := by
    rw [nb_iff hj10]
    constructor
    · rintro ⟨a, a1, a2, a3⟩
      exact ⟨a, a1, (hj a a1).2.1.mp a2, by rw [← hc a j a1 hj10]; exact a3⟩
    · rintro ⟨a, a1, a2, a3⟩
      exact ⟨a, a1, (hj a a1).2.1.mpr a2, by rw [hc a j a1 hj10]; exact a3⟩
  rcases v2 j hj10 with ⟨q1, q2, a, a1, a2, a3⟩ | ⟨q1, q2⟩
  · refine ⟨Or.inr ⟨d + 1, Nat.le_refl _, q1⟩, ?_, fun g k hg hk e hcn => ?_, fun g hg e => ?_⟩
    · rw [inb_or2, Bool.or_eq_true, q1]
      constructor
      · intro _; exact nI_ne (by omega)
      · intro _; exact Or.inr (nbj.mpr ⟨a, a1, by rw [a2]; exact nI_ne (by omega), a3⟩)
    · rw [q1] at e
      have := (nI_eq (by omega) (by omega)).mp e
      omega
    · rw [q1] at e
      have := (nI_eq (by omega) (by omega)).mp e
      have eg : g = d := by omega
      subst eg
      exact ⟨a, a1, by rw [hop2_keep hd a1 (by rw [a2]; exact nI_ne (by omega)), a2]⟩
  · refine ⟨?_, ?_, fun g k hg hk e hcn => ?_, fun g hg e => ?_⟩
    · rw [q1]
      rcases p1 with p1 | ⟨g, g1, g2⟩
      · exact Or.inl p1
      · exact Or.inr ⟨g, by omega, g2⟩
    · rw [inb_or2, Bool.or_eq_true, q1, p2]
      constructor
      · rintro (q | q)
        · exact q
        · intro q3
          obtain ⟨a, a1, a2, a3⟩ := nbj.mp q
          obtain ⟨g, g1, g2⟩ := (hj a a1).1.resolve_left a2
          by_cases c : g = d
          · subst c; exact q2 q3 a a1 ⟨g2, a3⟩
          · exact (hj a a1).2.2.1 g j (by omega) hj10 g2 a3 q3
      · exact Or.inl
    · rw [q1] at e
      rw [ec] at hcn
      intro q3
      by_cases c : g = d
      · subst c
        rcases v2 k hk with ⟨r1, -⟩ | ⟨r1, r2⟩
        · rw [r1] at q3; exact nI_ne (by omega) q3
        · rw [r1] at q3
          exact r2 q3 j hj10 ⟨e, hcn⟩
      · have h5 := p3 g k (by omega) hk e hcn
        rw [hop2_keep hd hk h5] at q3
        exact h5 q3
    · rw [q1] at e
      rcases p1 with p1 | ⟨g3, g4, g5⟩
      · rw [p1] at e
        exact absurd e.symm (nI_ne (by omega))
      · have e2 := (nI_eq (by omega) (by omega)).mp (e.symm.trans g5)
        obtain ⟨k, k1, k2⟩ := p4 g (by omega) e
        exact ⟨k, k1, by rw [hop2_keep hd k1 (by rw [k2]; exact nI_ne (by omega))]; exact k2⟩
theorem hI_10 {r : Int32} (h : hI σ κ 10 r) {n : Nat} (hn : n < 10) (hv : κ 3 n = nI 10) : False := by
  have key : ∀ i, i ≤ 10 → ∃ k, k < 10 ∧ κ 3 k = nI (10 - i) := by
    intro i
    induction i with
    | zero => intro _; exact ⟨n, hn, hv⟩
    | succ i ih =>
      intro hi
      obtain ⟨k, k1, k2⟩ := ih (by omega)
      exact (h.2 k k1).2.2.2 (10 - (i + 1)) (by omega) (by rw [k2, show 10 - (i + 1) + 1 = 10 - i by omega])
  have key2 : ∀ i : Nat, ∃ k, i ≤ 10 → k < 10 ∧ κ 3 k = nI (10 - i) := fun i => by
    by_cases c : i ≤ 10
    · obtain ⟨k, k1⟩ := key i c
      exact ⟨k, fun _ => k1⟩
    · exact ⟨0, fun q => absurd q c⟩
  obtain ⟨i, j, h1, h2, h3⟩ := pig 10 (fun i => Classical.choose (key2 i)) (fun i hi => (Classical.choose_spec (key2 i) (by omega)).1)
  have e1 := (Classical.choose_spec (key2 i) (by omega)).2
  have e2 := (Classical.choose_spec (key2 j) (by omega)).2
  have h4 : Classical.choose (key2 i) = Classical.choose (key2 j) := h3
  rw [h4] at e1
  have := (nI_eq (by omega) (by omega)).mp (e1.symm.trans e2)
  omega
theorem hopsL {n : Nat} (hn : n < 10) : ∀ (k d : Nat) (r : Int32) (κ : TB), k + d = 10 → hI σ κ d r → (κ 3 n = -1 ∨ κ 3 n = nI d) → msHop σ (nI n) k d r = kfor mdHop2 k d κ 3 n
  | 0, d, r, κ, hk, h, hf => by
    have ed : d = 10 := by omega
    subst ed
    rcases hf with hf | hf
    · exact hf.symm
    · exact (hI_10 h hn hf).elim
  | k + 1, d, r, κ, hk, h, hf => by
    show (if ¬ r &&& (1 <<< (nI n &&& 31)) = 0 then nI d else msHop σ (nI n) k (d + 1) (r ||| msNb σ r)) = _
    by_cases c : κ 3 n = -1
    · have c2 : inb r n = false := by
        cases hb : inb r n with
        | false => rfl
        | true => exact absurd c ((h.2 n hn).2.1.mp hb)
      rw [if_neg (fun q => q ((inb_and r (by omega)).mpr c2)), kfor_s]
      refine hopsL hn k (d + 1) _ _ (by omega) (hI_step (by omega) h) ?_
      rcases (hop2_v (κ := κ) (d := d) (by omega)).2 n hn with ⟨q1, -⟩ | ⟨q1, -⟩
      · exact Or.inr q1
      · exact Or.inl (q1.trans c)
    · rw [if_pos ((inb_and2 r (by omega)).mpr ((h.2 n hn).2.1.mpr c)), hopL_keep hn (k + 1) d κ (by omega) c]
      exact (hf.resolve_left c).symm
theorem hop0L {K : Nat} : ∀ (k i : Nat) (κ : TB), (∀ r, r ≠ 3 → kfor mdHop0 k i κ r = κ r) ∧ ∀ j, kfor mdHop0 k i κ 3 j = if i ≤ j ∧ j < i + k then (if j = 0 ∧ mdOn κ 0 0 = true then 0 else -1) else κ 3 j
  | 0, i, κ => ⟨fun _ _ => rfl, fun j => by rw [if_neg (fun q => by omega)]; rfl⟩
  | k + 1, i, κ => by
    obtain ⟨h1, h2⟩ := hop0L (K := K) k (i + 1) (mdHop0 i κ)
    have e1 : ∀ r, r ≠ 3 → mdHop0 i κ r = κ r := fun r hr => u2_ne hr
    have e2 : mdOn (mdHop0 i κ) 0 0 = mdOn κ 0 0 := by unfold mdOn; rw [e1 1 (by omega)]
    refine ⟨fun r hr => by rw [kfor_s, h1 r hr, e1 r hr], fun j => ?_⟩
    rw [kfor_s, h2 j, e2]
    by_cases c : i + 1 ≤ j ∧ j < i + 1 + k
    · rw [if_pos c, if_pos (show i ≤ j ∧ j < i + (k + 1) by omega)]
    · rw [if_neg c]
      unfold mdHop0
      rw [u2_v]
      by_cases c2 : j = i
      · subst c2
        rw [if_pos ⟨rfl, rfl⟩, if_pos (show j ≤ j ∧ j < j + (k + 1) by omega)]
      · rw [if_neg (fun q => c2 q.2), if_neg (fun q => c2 (by omega))]
theorem Rel_hops (h : Rel σ κ 0 B) {n : Nat} (hn : n < 10) : msHops σ (nI n) = mdHops κ 3 n := by
  obtain ⟨h1, h2⟩ := hop0L (K := 0) 10 0 κ
  have hon := Rel_on2 h (n := 0) (by omega)
  have e0 : (0 : Int32).toNatClampNeg = 0 := rfl
  unfold msHops mdHops
  refine hopsL hn 10 0 _ _ rfl ⟨fun i j hi hj => by rw [conn_r (h1 1 (by omega))]; exact Rel_conn h hi hj, fun j hj => ?_⟩ ?_
  · rw [e0]
    have e3 : kfor mdHop0 10 0 κ 3 j = if j = 0 ∧ mdOn κ 0 0 = true then 0 else -1 := by rw [h2 j, if_pos (by omega)]
    refine ⟨?_, ?_, fun g k hg => by omega, fun g hg => by omega⟩
    · rw [e3]
      split
      · exact Or.inr ⟨0, Nat.le_refl 0, rfl⟩
      · exact Or.inl rfl
    · rw [e3]
      by_cases c : mdOn κ 0 0 = true
      · rw [if_neg (fun q => by rw [hon.mp q] at c; exact absurd c (by decide))]
        by_cases c2 : j = 0
        · subst c2
          rw [if_pos ⟨rfl, c⟩]
          constructor
          · intro _; decide
          · intro _; rfl
        · rw [if_neg (fun q => c2 q.1)]
          have e4 : inb 1 j = false := by
            unfold inb
            rw [show (1 : Int32).toBitVec = 1#32 from rfl, BitVec.getLsbD_one]
            simp [c2]
          rw [e4]
          constructor
          · intro q; exact absurd q (by decide)
          · intro q; exact absurd rfl q
      · rw [if_pos (hon.mpr (by cases hb : mdOn κ 0 0 with | true => exact absurd hb c | false => rfl)), if_neg (fun q => c q.2), inb_0]
        constructor
        · intro q; exact absurd q (by decide)
        · intro q; exact absurd rfl q
  · rw [h2 n, if_pos (by omega)]
    split
    · exact Or.inr rfl
    · exact Or.inl rfl
end RH
