/-! P36: HOPS: one more than the least of the neighbours' -/
def rS (σ : TB) : Nat → Int32
  | 0 => if σ 2 (0 : Int32).toNatClampNeg = 0 then 0 else 1
  | h + 1 => rS σ h ||| msNb σ (rS σ h)
section HP
variable {σ : TB}
theorem rS_up {j : Nat} : ∀ {h : Nat} (d : Nat), inb (rS σ h) j = true → inb (rS σ (h + d)) j = true
  | _, 0, q => q
  | h, d + 1, q => by
    show inb (rS σ (h + d) ||| msNb σ (rS σ (h + d))) j = true
    rw [inb_or2, rS_up d q, Bool.true_or]
theorem rS_mono {j h g : Nat} (hg : h ≤ g) (q : inb (rS σ h) j = true) : inb (rS σ g) j = true := by
  have := rS_up (g - h) q
  rwa [show h + (g - h) = g by omega] at this
theorem rS_step {j h : Nat} (hj : j < 10) : inb (rS σ (h + 1)) j = true ↔ inb (rS σ h) j = true ∨ ∃ a, a < 10 ∧ inb (rS σ h) a = true ∧ msConn σ (nI a) (nI j) = true := by
  show inb (rS σ h ||| msNb σ (rS σ h)) j = true ↔ _
  rw [inb_or2, Bool.or_eq_true, nb_iff hj]
theorem rS_0 {j : Nat} (hj : j < 10) (q : inb (rS σ 0) j = true) : j = 0 := by
  unfold rS at q
  split at q
  · rw [inb_0] at q; exact absurd q Bool.false_ne_true
  · have key : ∀ j, j < 10 → inb 1 j = true → j = 0 := by decide +kernel
    exact key j hj q
theorem hop_spec {n : Nat} (hn : n < 10) : ∀ (k i : Nat), (msHop σ (nI n) k i (rS σ i) = -1 ∧ ∀ h, i ≤ h → h < i + k → inb (rS σ h) n = false) ∨ ∃ h, i ≤ h ∧ h < i + k ∧ msHop σ (nI n) k i (rS σ i) = nI h ∧ inb (rS σ h) n = true ∧ ∀ g, i ≤ g → g < h → inb (rS σ g) n = false
  | 0, i => Or.inl ⟨rfl, fun h h1 h2 => by omega⟩
  | k + 1, i => by
    have e : msHop σ (nI n) (k + 1) i (rS σ i) = if ¬ rS σ i &&& (1 <<< (nI n &&& 31)) = 0 then nI i else msHop σ (nI n) k (i + 1) (rS σ (i + 1)) := rfl
    rw [e]
    by_cases c : inb (rS σ i) n = true
    · rw [if_pos ((inb_and2 _ (by omega)).mpr c)]
      exact Or.inr ⟨i, Nat.le_refl _, by omega, rfl, c, fun g h1 h2 => by omega⟩
    · rw [if_neg (fun q => c ((inb_and2 _ (by omega)).mp q))]
      have cF : inb (rS σ i) n = false := by
        cases hb : inb (rS σ i) n with
        | true => exact absurd hb c
        | false => rfl
      rcases hop_spec hn k (i + 1) with ⟨h1, h2⟩ | ⟨h, h1, h2, h3, h4, h5⟩
      · refine Or.inl ⟨h1, fun h g1 g2 => ?_⟩
        by_cases d : h = i
        · subst d; exact cF
        · exact h2 h (by omega) (by omega)
      · refine Or.inr ⟨h, by omega, by omega, h3, h4, fun g g1 g2 => ?_⟩
        by_cases d : g = i
        · subst d; exact cF
        · exact h5 g (by omega) g2
theorem hops_cases {n : Nat} (hn : n < 10) : (msHops σ (nI n) = -1 ∧ ∀ h, h < 10 → inb (rS σ h) n = false) ∨ ∃ h, h < 10 ∧ msHops σ (nI n) = nI h ∧ inb (rS σ h) n = true ∧ ∀ g, g < h → inb (rS σ g) n = false := by
  rcases hop_spec (σ := σ) hn 10 0 with ⟨h1, h2⟩ | ⟨h, h1, h2, h3, h4, h5⟩
  · exact Or.inl ⟨h1, fun h g => h2 h (by omega) (by omega)⟩
  · exact Or.inr ⟨h, by omega, h3, h4, fun g g1 => h5 g (by omega) g1⟩
/-- whoever is reached in ten steps is reached in nine -/
theorem r_ten {n : Nat} (hn : n < 10) (h : inb (rS σ 10) n = true) : inb (rS σ 9) n = true := by
  cases hb : inb (rS σ 9) n with
  | true => rfl
  | false =>
    exfalso
    have key : ∀ d, d ≤ 10 → ∃ v, v < 10 ∧ inb (rS σ (10 - d)) v = true ∧ ∀ g, g < 10 - d → inb (rS σ g) v = false := by
      intro d
      induction d with
      | zero =>
        intro _
        refine ⟨n, hn, h, fun g hg => ?_⟩
        cases hc : inb (rS σ g) n with
        | false => rfl
        | true => rw [rS_mono (show g ≤ 9 by omega) hc] at hb; exact absurd hb (by decide)
      | succ d ih =>
        intro hd
        obtain ⟨v, v1, v2, v3⟩ := ih (by omega)
        obtain ⟨L, eL⟩ : ∃ z, z = 10 - (d + 1) := ⟨_, rfl⟩
        rw [show 10 - d = L + 1 by omega] at v2 v3
        rw [← eL]
        rcases (rS_step v1).mp v2 with q | ⟨a, a1, a2, a3⟩
        · rw [v3 L (by omega)] at q; exact absurd q (by decide)
        · refine ⟨a, a1, a2, fun g hg => ?_⟩
          cases hc : inb (rS σ g) a with
          | false => rfl
          | true =>
            have := (rS_step v1).mpr (Or.inr ⟨a, a1, hc, a3⟩)
            rw [v3 (g + 1) (by omega)] at this
            exact absurd this (by decide)
    have ex : ∀ i, i < 11 → ∃ v, v < 10 ∧ inb (rS σ i) v = true ∧ ∀ g, g < i → inb (rS σ g) v = false := fun i hi => by
      have := key (10 - i) (by omega)
      rwa [show 10 - (10 - i) = i by omega] at this
    obtain ⟨i, j, h1, h2, h3⟩ := pig 10 (fun i => if hi : i < 11 then Classical.choose (ex i hi) else 0) (fun i hi => by
      show (if hi : i < 11 then Classical.choose (ex i hi) else 0) < 10
      rw [dif_pos hi]
      exact (Classical.choose_spec (ex i hi)).1)
    have h4 : (if hi : i < 11 then Classical.choose (ex i hi) else 0) = (if hj : j < 11 then Classical.choose (ex j hj) else 0) := h3
    rw [dif_pos (show i < 11 by omega), dif_pos h2] at h4
    have s1 := (Classical.choose_spec (ex i (by omega))).2.1
    have s2 := (Classical.choose_spec (ex j h2)).2.2 i h1
    rw [← h4, s1] at s2
    exact absurd s2 (by decide)
def nst (σ : TB) (k m : Nat) (nr : Int32) : Int32 := if msConn σ (nI k) (nI m) = true ∧ ¬ msHops σ (nI m) < 0 ∧ (nr < 0 ∨ msHops σ (nI m) < nr) then msHops σ (nI m) else nr
def near (σ : TB) (k : Nat) : Int32 := kfor (nst σ k) 10 0 (-1)
def nrI (σ : TB) (k i : Nat) (nr : Int32) : Prop := (nr = -1 ∧ ∀ m, m < i → msConn σ (nI k) (nI m) = true → msHops σ (nI m) = -1) ∨ ∃ h m, h < 10 ∧ m < i ∧ nr = nI h ∧ msConn σ (nI k) (nI m) = true ∧ msHops σ (nI m) = nI h ∧ ∀ m2, m2 < i → msConn σ (nI k) (nI m2) = true → msHops σ (nI m2) = -1 ∨ ∃ h2, h2 < 10 ∧ msHops σ (nI m2) = nI h2 ∧ h ≤ h2
theorem m1_neg : (-1 : Int32) < 0 := by decide
theorem nrI_step {k i : Nat} {nr : Int32} (hi : i < 10) (h : nrI σ k i nr) : nrI σ k (i + 1) (nst σ k i nr) := by
  unfold nst
  rcases hops_cases (σ := σ) hi with ⟨e, -⟩ | ⟨g, g1, e, -, -⟩
  · rw [e, if_neg (fun q => q.2.1 m1_neg)]
    rcases h with ⟨a, b⟩ | ⟨h, m, a, b, c, d, f, l⟩
    · refine Or.inl ⟨a, fun m hm hc => ?_⟩
      by_cases z : m = i
      · rw [z]; exact e
      · exact b m (by omega) hc
    · refine Or.inr ⟨h, m, a, by omega, c, d, f, fun m2 hm hc => ?_⟩
      by_cases z : m2 = i
      · rw [z]; exact Or.inl e
      · exact l m2 (by omega) hc
  · rw [e]
    have gpos : ¬ nI g < 0 := nI_pos (by omega)
    rcases h with ⟨a, b⟩ | ⟨h, m, a, b, c, d, f, l⟩
    · by_cases cc : msConn σ (nI k) (nI i) = true
      · rw [if_pos ⟨cc, gpos, Or.inl (by rw [a]; exact m1_neg)⟩]
        refine Or.inr ⟨g, i, g1, by omega, rfl, cc, e, fun m2 hm hc => ?_⟩
        by_cases z : m2 = i
        · rw [z]; exact Or.inr ⟨g, g1, e, Nat.le_refl _⟩
        · exact Or.inl (b m2 (by omega) hc)
      · rw [if_neg (fun q => cc q.1)]
        refine Or.inl ⟨a, fun m hm hc => ?_⟩
        by_cases z : m = i
        · rw [z] at hc; exact absurd hc cc
        · exact b m (by omega) hc
    · subst c
      by_cases cc : msConn σ (nI k) (nI i) = true ∧ g < h
      · rw [if_pos ⟨cc.1, gpos, Or.inr (nI_lt cc.2 (by omega))⟩]
        refine Or.inr ⟨g, i, g1, by omega, rfl, cc.1, e, fun m2 hm hc => ?_⟩
        by_cases z : m2 = i
        · rw [z]; exact Or.inr ⟨g, g1, e, Nat.le_refl _⟩
        · rcases l m2 (by omega) hc with q | ⟨h2, q1, q2, q3⟩
          · exact Or.inl q
          · exact Or.inr ⟨h2, q1, q2, by omega⟩
      · rw [if_neg (fun q => q.2.2.elim (nI_pos (by omega)) (fun z => cc ⟨q.1, (nI_ltI (by omega) (by omega)).mp z⟩))]
        refine Or.inr ⟨h, m, a, by omega, rfl, d, f, fun m2 hm hc => ?_⟩
        by_cases z : m2 = i
        · rw [z] at hc ⊢
          exact Or.inr ⟨g, g1, e, Nat.le_of_not_lt (fun q => cc ⟨hc, q⟩)⟩
        · exact l m2 (by omega) hc
theorem nrI_loop {k : Nat} : ∀ (kf i : Nat) (nr : Int32), i + kf = 10 → nrI σ k i nr → nrI σ k 10 (kfor (nst σ k) kf i nr)
  | 0, i, nr, hi, h => by rw [show i = 10 by omega] at h; exact h
  | kf + 1, i, nr, hi, h => nrI_loop kf (i + 1) _ (by omega) (nrI_step (by omega) h)
theorem near_spec (k : Nat) : nrI σ k 10 (near σ k) := nrI_loop 10 0 _ rfl (Or.inl ⟨rfl, fun m hm => by omega⟩)
/-- the hops of a meter are one more than the least of those that it is connected with -/
theorem hops_near (hL : jL σ) {k : Nat} (hk0 : 0 < k) (hk : k < 10) : msHops σ (nI k) = if near σ k < 0 then -1 else near σ k + 1 := by
  -- whoever is reached at first in h > 0 steps has a neighbour reached in h - 1
  have pre : ∀ h, h < 10 → inb (rS σ h) k = true → (∀ g, g < h → inb (rS σ g) k = false) → ∃ a h2, a < 10 ∧ msConn σ (nI k) (nI a) = true ∧ msHops σ (nI a) = nI h2 ∧ h2 < h := by
    intro h hh h1 h2
    obtain ⟨g, rfl⟩ : ∃ g, h = g + 1 := by
      rcases Nat.eq_zero_or_pos h with q | q
      · subst q; have := rS_0 hk h1; omega
      · exact ⟨h - 1, by omega⟩
    rcases (rS_step hk).mp h1 with q | ⟨a, a1, a2, a3⟩
    · rw [h2 g (by omega)] at q; exact absurd q (by decide)
    · rw [conn_sym hL a1 hk] at a3
      rcases hops_cases (σ := σ) a1 with ⟨-, e⟩ | ⟨h3, g1, e, -, e2⟩
      · rw [e g (by omega)] at a2; exact absurd a2 (by decide)
      · refine ⟨a, h3, a1, a3, e, ?_⟩
        rcases Nat.lt_or_ge g h3 with q | q
        · rw [e2 g q] at a2; exact absurd a2 (by decide)
        · omega
  rcases near_spec (σ := σ) k with ⟨a, b⟩ | ⟨h, m, a, b, c, d, f, l⟩
  · rw [a, if_pos m1_neg]
    rcases hops_cases (σ := σ) hk with ⟨e, -⟩ | ⟨h, h1, -, h3, h4⟩
    · exact e
    · exfalso
      obtain ⟨a2, h2, q1, q2, q3, q4⟩ := pre h h1 h3 h4
      rw [b a2 q1 q2] at q3
      exact absurd q3.symm (nI_ne (by omega))
  · rw [c, if_neg (nI_pos (by omega)), nI_1]
    have hm : inb (rS σ h) m = true := by
      rcases hops_cases (σ := σ) b with ⟨e, -⟩ | ⟨h2, g1, e, e1, -⟩
      · rw [e] at f; exact absurd f.symm (nI_ne (by omega))
      · rw [e] at f
        have := (nI_eq (by omega) (by omega)).mp f
        rw [← this]; exact e1
    rw [conn_sym hL hk b] at d
    have hk1 : inb (rS σ (h + 1)) k = true := (rS_step hk).mpr (Or.inr ⟨m, b, hm, d⟩)
    have hk2 : ∃ g, g < 10 ∧ g ≤ h + 1 ∧ inb (rS σ g) k = true := by
      by_cases z : h = 9
      · subst z; exact ⟨9, by omega, by omega, r_ten hk hk1⟩
      · exact ⟨h + 1, by omega, by omega, hk1⟩
    obtain ⟨g, g1, g2, g3⟩ := hk2
    rcases hops_cases (σ := σ) hk with ⟨-, e⟩ | ⟨h2, h21, e, e1, e2⟩
    · rw [e g g1] at g3; exact absurd g3 (by decide)
    · rw [e]
      have u : h2 ≤ g := by
        rcases Nat.lt_or_ge g h2 with q | q
        · rw [e2 g q] at g3; exact absurd g3 (by decide)
        · exact q
      have v : ¬ h2 ≤ h := fun q => by
        obtain ⟨a2, h3, q1, q2, q3, q4⟩ := pre h2 h21 e1 e2
        rcases l a2 q1 q2 with z | ⟨h4, z1, z2, z3⟩
        · rw [z] at q3; exact absurd q3.symm (nI_ne (by omega))
        · rw [z2] at q3
          have := (nI_eq (by omega) (by omega)).mp q3
          omega
      rw [show h2 = h + 1 by omega]
theorem hops_0 : ¬ 0 < msHops σ (nI 0) := by
  rcases hops_cases (σ := σ) (show 0 < 10 by omega) with ⟨e, -⟩ | ⟨h, h1, e, e1, e2⟩
  · rw [e]; decide
  · rw [e]
    rcases Nat.eq_zero_or_pos h with q | q
    · subst q; decide
    · exfalso
      have h0 := e2 0 q
      have z : rS σ 0 = 0 := by
        unfold rS at h0 ⊢
        split at h0
        · rename_i c; rw [if_pos c]
        · have : inb 1 0 = true := by decide
          rw [this] at h0; exact absurd h0 (by decide)
      have none : ∀ g j, j < 10 → inb (rS σ g) j = false := by
        intro g
        induction g with
        | zero => intro j _; rw [z, inb_0]
        | succ g ih =>
          intro j hj
          cases hb : inb (rS σ (g + 1)) j with
          | false => rfl
          | true =>
            rcases (rS_step hj).mp hb with q | ⟨a, a1, a2, -⟩
            · rw [ih j hj] at q; exact absurd q (by decide)
            · rw [ih a a1] at a2; exact absurd a2 (by decide)
      rw [none h 0 (by omega)] at e1
      exact absurd e1 (by decide)
/-- a meter that is linked with the collector, both on, is one hop away -/
theorem hops_1 {m : Nat} (hm0 : 0 < m) (hm : m < 10) (hc : msConn σ (nI 0) (nI m) = true) : msHops σ (nI m) = nI 1 := by
  have h0 : inb (rS σ 0) 0 = true := by
    unfold rS
    unfold msConn msOn at hc
    simp only [Bool.and_eq_true, decide_eq_true_eq] at hc
    have c : ¬ σ 2 (0 : Int32).toNatClampNeg = 0 := hc.1.2
    rw [if_neg c]
    decide
  have h1 : inb (rS σ 1) m = true := (rS_step hm).mpr (Or.inr ⟨0, by omega, h0, hc⟩)
  rcases hops_cases (σ := σ) hm with ⟨-, e⟩ | ⟨h, g1, e, e1, e2⟩
  · rw [e 1 (by omega)] at h1; exact absurd h1 (by decide)
  · rw [e]
    have a : h ≤ 1 := by
      rcases Nat.lt_or_ge 1 h with q | q
      · rw [e2 1 q] at h1; exact absurd h1 (by decide)
      · exact q
    rcases Nat.eq_zero_or_pos h with q | q
    · subst q; have := rS_0 hm e1; omega
    · rw [show h = 1 by omega]
end HP
