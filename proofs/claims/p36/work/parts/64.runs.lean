/-! P36: WHAT RUNNING SLOTS DOES: time, what is collected, how long till nothing is missing -/
section RU
variable {σ κ : TB} {B t : Nat}
/-- rows that no slot writes: links, switches -/
theorem lose_12 {r : Nat} (h0 : r ≠ 0) (h3 : r ≠ 3) (h4 : r ≠ 4) (σ : TB) (n : Int32) : msLose σ n r = σ r := by
  unfold msLose
  split
  · unfold msDrop
    rw [u2_ne h0, u2_ne h4, u2_ne h3]
  · rfl
theorem hear_12 {r : Nat} (hr : r < 8) (h0 : r ≠ 0) (h3 : r ≠ 3) (h4 : r ≠ 4) (h5 : r ≠ 5) (h6 : r ≠ 6) (σ : TB) (m n : Int32) : msHear σ m n r = σ r := by
  have f : msFollow σ m n r = σ r := by
    unfold msFollow
    rw [u2_ne h6, wd_lo hr, u2_ne h5, u2_ne h4, u2_ne h3]
  have d : msDrop σ m r = σ r := by
    unfold msDrop
    rw [u2_ne h0, u2_ne h4, u2_ne h3]
  unfold msHear
  split
  · split
    · exact f
    · exact d
  · split
    · exact f
    · rfl
theorem heard_12 {r : Nat} (hr : r < 8) (h0 : r ≠ 0) (h3 : r ≠ 3) (h4 : r ≠ 4) (h5 : r ≠ 5) (h6 : r ≠ 6) (σ : TB) (n : Int32) : msBeHeard σ n r = σ r :=
  kfor_inv (fun z : TB => z r = σ r) (fun i z hz => by
    show msHear1 n i z r = σ r
    unfold msHear1
    split
    · rw [hear_12 hr h0 h3 h4 h5 h6]; exact hz
    · exact hz) _ _ _ rfl
theorem send_12 {r : Nat} (hr : r < 8) (h0 : r ≠ 0) (h7 : r ≠ 7) (σ : TB) (n : Int32) : msSend σ n r = σ r := by
  have a : ∀ (σ : TB) (n p : Int32), msAcc σ n p r = σ r := fun σ n p => by
    unfold msAcc
    split
    · exact u2_ne h0
    · split
      · exact wd_lo hr
      · rfl
  have b : ∀ (σ : TB) (n : Int32) (x : Bool), msSend2 σ n x r = σ r := fun σ n x => by
    unfold msSend2
    split
    · exact u2_ne h0
    · split
      · rw [u2_ne h0, u2_ne h7]
      · exact wd_lo hr
  unfold msSend
  split
  · rw [b, a, u2_ne h0]
  · rfl
theorem slot_12 {r : Nat} (h1 : r = 1 ∨ r = 2) (σ : TB) : msSlot σ r = σ r := by
  unfold msSlot
  rw [u2_ne (by omega)]
  unfold msTurn
  split
  · rfl
  · rw [send_12 (by omega) (by omega) (by omega), heard_12 (by omega) (by omega) (by omega) (by omega) (by omega) (by omega), lose_12 (by omega) (by omega) (by omega)]
theorem run_12 {r : Nat} (h1 : r = 1 ∨ r = 2) (σ : TB) (k : Nat) : msRun σ k r = σ r := kfor_inv (fun z : TB => z r = σ r) (fun i z hz => by show msSlot z r = σ r; rw [slot_12 h1]; exact hz) _ _ _ rfl
theorem conn_of {σ2 : TB} (h1 : σ2 1 = σ 1) (h2 : σ2 2 = σ 2) (a b : Int32) : msConn σ2 a b = msConn σ a b := by
  unfold msConn msOn
  rw [h1, h2]
/-- the time, what was taken, what is collected -/
theorem turn_m (h : Inv B σ) (hB : B < 2 ^ 30) : (msTurn σ) 0 0 = σ 0 0 ∧ sT (msTurn σ) = sT σ ∧ sK σ 0 ≤ sK (msTurn σ) 0 := by
  obtain ⟨⟨κ, h1⟩, t, ht, j, q⟩ := h
  have hn : t % 10 < 10 := Nat.mod_lt _ (by decide)
  have eN : msNode σ = nI (t % 10) := by unfold msNode; rw [j.1, mFloor_n (by omega)]
  unfold msTurn
  rw [eN]
  split
  · exact ⟨rfl, rfl, Nat.le_refl _⟩
  · obtain ⟨n, en⟩ : ∃ z, z = t % 10 := ⟨_, rfl⟩
    rw [← en] at hn ⊢
    have h2 := Rel_heard (Rel_lose h1 hn) hn
    have j2 := jS_heard (jS_lose j h1.2.2.2.2.2.2.2.2 hn) hn
    have e8 : sT (msBeHeard (msLose σ (nI n)) (nI n)) = sT σ ∧ sK (msBeHeard (msLose σ (nI n)) (nI n)) 0 = sK σ 0 := by
      have a : ∀ r, 8 ≤ r → r ≠ 15 → msBeHeard (msLose σ (nI n)) (nI n) r = σ r := fun r hr h15 => by
        rw [heard_1]
        have key : ∀ (k i : Nat) (X : TB), 0 < i → i + k ≤ 10 → kfor (msHear1 (nI n)) k i X r = X r := by
          intro k
          induction k with
          | zero => intro i X _ _; rfl
          | succ k ih =>
            intro i X hi hk
            rw [kfor_s, ih (i + 1) _ (by omega) (by omega)]
            unfold msHear1
            split
            · unfold msHear
              split
              · split
                · exact follow_hi hr h15
                · exact drop_r (by omega) (by omega) (by omega)
              · split
                · exact follow_hi hr h15
                · rfl
            · rfl
        rw [key 9 1 _ (by omega) (by omega), lose_12 (by omega) (by omega) (by omega)]
      exact ⟨sT_of (by rw [a 8 (by omega) (by omega)]), sK_of (by rw [a 13 (by omega) (by omega)])⟩
    obtain ⟨ρ, eρ⟩ : ∃ z, z = msBeHeard (msLose σ (nI n)) (nI n) := ⟨_, rfl⟩
    rw [← eρ] at h2 j2 e8 ⊢
    rw [← e8.1, ← e8.2]
    have j3 := jS_send h2 j2 hn
    refine ⟨by rw [j3.1, j.1], ?_⟩
    have hP := h2.2.2.2.2.2.2.2.2
    have iKh := h2.2.2.2.2.2.2.1
    unfold msSend
    rw [nI_clamp (by omega)]
    by_cases c0 : ρ 3 n = -1
    · rw [c0, conn_neg, if_neg (fun q => absurd q.1 Bool.false_ne_true)]
      exact ⟨rfl, Nat.le_refl _⟩
    · have hn0 : 0 < n := by
        rcases Nat.eq_zero_or_pos n with q | q
        · subst q; exact absurd hP.1 c0
        · exact q
      obtain ⟨p, hp, e3⟩ := (hP.2 n hn).resolve_left c0
      rw [e3, mrSize_n iKh hn]
      by_cases c : msConn ρ (nI n) (nI p) = true ∧ ¬ nI (sK ρ n) = 0
      · rw [if_pos c]
        have hK : 0 < sK ρ n := by
          rcases Nat.eq_zero_or_pos (sK ρ n) with q | q
          · rw [q] at c; exact absurd rfl c.2
          · exact q
        have g1 : Rel (u2 ρ 0 2 (ρ 0 2 + 1)) (mdInc (mdHeard (mdLose κ 0 n) 0 n) (0 + 14)) 0 B := Rel_inc h2 14 (by omega) (by omega) (by omega) (by omega)
        have hK1 : 0 < sK (u2 ρ 0 2 (ρ 0 2 + 1)) n := hK
        have two : ∀ X : TB, iK X → 0 < sK X n → sT (msSend2 X (nI n) true) = sT X ∧ sK (msSend2 X (nI n) true) 0 = sK X 0 := fun X iX hX => by
          unfold msSend2
          rw [if_neg (by decide)]
          split
          · exact ⟨rfl, rfl⟩
          · obtain ⟨v1, v2, v3⟩ := rem_v iX hn0 hn hX
            exact ⟨sT_of (v1 8 0 (by omega) (by omega) (by omega)), sK_of (by rw [v2, if_neg (by omega)])⟩
        obtain ⟨id, f1, f2, hc⟩ := acc_cases g1 hn0 hn hp hK1
        rcases hc with ⟨-, a1, a2⟩ | ⟨kf, a1, x, a2⟩ | ⟨a1, a2⟩
        · rw [a1, a2]
          obtain ⟨b1, b2⟩ := two _ (iK_of iKh (fun _ _ => rfl) (fun _ _ => rfl) : iK (u2 (u2 ρ 0 2 (ρ 0 2 + 1)) 0 3 ((u2 ρ 0 2 (ρ 0 2 + 1)) 0 3 + 1))) hK
          rw [b1, b2]
          exact ⟨rfl, Nat.le_refl _⟩
        · have iK2 : iK (msAcc (u2 ρ 0 2 (ρ 0 2 + 1)) (nI n) (nI p)) ∧ 0 < sK (msAcc (u2 ρ 0 2 (ρ 0 2 + 1)) (nI n) (nI p)) n := by
            rcases Rel_acc g1 hn0 hn hp hK1 with ⟨-, -, b3, b4⟩ | ⟨b1, -⟩
            · exact ⟨b3.2.2.2.2.2.2.1, b4⟩
            · rw [a1] at b1; exact absurd b1 (by decide)
          rw [a1]
          obtain ⟨b1, b2⟩ := two _ iK2.1 iK2.2
          rw [b1, b2, a2]
          have hlp := lm_le p
          refine ⟨rfl, ?_⟩
          have kf : sK ρ p < lm p := kf
          have e5 : sK (u2 ρ 0 2 (ρ 0 2 + 1)) p = sK ρ p := rfl
          rw [sK_put (by omega)]
          split
          · rename_i z; subst z; rw [e5]; omega
          · exact Nat.le_refl _
        · rw [a1, a2]
          unfold msSend2
          rw [if_pos rfl]
          exact ⟨rfl, Nat.le_refl _⟩
      · rw [if_neg c]
        exact ⟨rfl, Nat.le_refl _⟩
theorem slot_m (h : Inv B σ) (hB : B < 2 ^ 30) : (msSlot σ) 0 0 = σ 0 0 + 1 ∧ sT (msSlot σ) = sT σ ∧ sK σ 0 ≤ sK (msSlot σ) 0 := by
  obtain ⟨a, b, c⟩ := turn_m h hB
  unfold msSlot
  exact ⟨by rw [u2_ye rfl rfl, a], b, c⟩
theorem run_s (σ : TB) (k : Nat) : msRun σ (k + 1) = msRun (msSlot σ) k := kfor_ext k 1 0 _ (fun _ _ _ => rfl)
theorem run_add (σ : TB) : ∀ (a b : Nat), msRun σ (a + b) = msRun (msRun σ a) b
  | 0, b => by rw [Nat.zero_add]; rfl
  | a + 1, b => by rw [show a + 1 + b = (a + b) + 1 by omega, run_s, run_add _ a b, run_s]
theorem run_m : ∀ (k : Nat) (σ : TB) (B : Nat), Inv B σ → B + k < 2 ^ 30 → (msRun σ k) 0 0 = σ 0 0 + nI k ∧ sT (msRun σ k) = sT σ ∧ sK σ 0 ≤ sK (msRun σ k) 0
  | 0, σ, B, h, _ => ⟨by show σ 0 0 = _; rw [nI_0, Int32.add_zero], rfl, Nat.le_refl _⟩
  | k + 1, σ, B, h, hB => by
    obtain ⟨a, b, c⟩ := slot_m h (by omega)
    obtain ⟨a2, b2, c2⟩ := run_m k (msSlot σ) (B + 1) (Inv_slot h (by omega)) (by omega)
    rw [run_s]
    exact ⟨by rw [a2, a, Int32.add_assoc, show (1 : Int32) = nI 1 from rfl, nI_add, Nat.add_comm 1 k], by rw [b2, b], Nat.le_trans c c2⟩
theorem size_0 (h : Inv B σ) : mrSize (rd σ) 0 = nI (sK σ 0) ∧ sK σ 0 ≤ sT σ ∧ sT σ ≤ 60 ∧ mrMissing (rd σ) = nI (sT σ - sK σ 0) := by
  obtain ⟨⟨κ, h1⟩, -⟩ := h
  exact ⟨mrSize_n (n := 0) h1.2.2.2.2.2.2.1 (by omega), (miss_n h1).1, h1.2.2.2.2.2.1.2.2, mrMissing_n h1⟩
theorem runR_n (h : Inv B σ) {k : Nat} (hB : B + k < 2 ^ 30) : msRunR σ k = nI (sK (msRun σ k) 0 - sK σ 0) := by
  unfold msRunR
  rw [(size_0 (Inv_run h hB)).1, (size_0 h).1, pk_sub (run_m k σ B h hB).2.2]
/-- nothing is missing -/
def ms0 (σ : TB) : Prop := mrMissing (rd σ) = 0
theorem ms0_iff (h : Inv B σ) : ms0 σ ↔ sK σ 0 = sT σ := by
  obtain ⟨-, a, b, c⟩ := size_0 h
  unfold ms0
  rw [c, show (0 : Int32) = nI 0 from rfl, nI_eq (by omega) (by omega)]
  omega
theorem ms0_up (h : Inv B σ) {k : Nat} (hB : B + k < 2 ^ 30) (h0 : ms0 σ) : ms0 (msRun σ k) := by
  have h2 := Inv_run h hB
  obtain ⟨-, b, c⟩ := run_m k σ B h hB
  obtain ⟨-, d, -, -⟩ := size_0 h2
  rw [ms0_iff h] at h0
  rw [ms0_iff h2]
  omega
theorem sc_spec : ∀ (k i : Nat) (ρ : TB), ((mSc k i ρ).1 = -1 ∧ ∀ d, d < k → ¬ ms0 (msRun ρ d)) ∨ ∃ d, d < k ∧ (mSc k i ρ).1 = nI (i + d) ∧ ms0 (msRun ρ d) ∧ ∀ e, e < d → ¬ ms0 (msRun ρ e)
  | 0, i, ρ => Or.inl ⟨rfl, fun d hd => by omega⟩
  | k + 1, i, ρ => by
    have e : mSc (k + 1) i ρ = if mrMissing (rd ρ) = 0 then (nI i, ρ) else mSc k (i + 1) (msRun ρ (1 : Int32).toNatClampNeg) := rfl
    rw [e]
    by_cases c : mrMissing (rd ρ) = 0
    · rw [if_pos c]
      exact Or.inr ⟨0, by omega, rfl, c, fun e he => by omega⟩
    · rw [if_neg c]
      have e1 : msRun ρ (1 : Int32).toNatClampNeg = msSlot ρ := rfl
      rw [e1]
      rcases sc_spec k (i + 1) (msSlot ρ) with ⟨a, b⟩ | ⟨d, a, b, f, g⟩
      · refine Or.inl ⟨a, fun d hd => ?_⟩
        cases d with
        | zero => exact c
        | succ d => rw [run_s]; exact b d (by omega)
      · refine Or.inr ⟨d + 1, by omega, by rw [b, show i + 1 + d = i + (d + 1) by omega], by rw [run_s]; exact f, fun e he => ?_⟩
        cases e with
        | zero => exact c
        | succ e => rw [run_s]; exact g e (by omega)
/-- how long till nothing is missing, and when slots have been run -/
theorem sc_run (h : Inv B σ) {k : Nat} (hk : k ≤ 100) (hB : B + 600 < 2 ^ 30) :
    ((mSc 401 0 σ).1 = -1 ∧ ¬ ms0 σ ∧ ¬ ms0 (msRun σ k)) ∨
    (∃ d, d ≤ k ∧ (mSc 401 0 σ).1 = nI d ∧ (d = 0 ↔ ms0 σ) ∧ ms0 (msRun σ k)) ∨
    (∃ d, k < d ∧ d ≤ 400 ∧ (mSc 401 0 σ).1 = nI d ∧ ¬ ms0 σ ∧ ¬ ms0 (msRun σ k) ∧ (mSc 401 0 (msRun σ k)).1 = nI (d - k)) := by
  rcases sc_spec 401 0 σ with ⟨a, b⟩ | ⟨d, a, b, f, g⟩
  · exact Or.inl ⟨a, b 0 (by omega), b k (by omega)⟩
  · right
    rw [Nat.zero_add] at b
    by_cases c : d ≤ k
    · refine Or.inl ⟨d, c, b, ⟨fun q => by subst q; exact f, fun q => ?_⟩, ?_⟩
      · rcases Nat.eq_zero_or_pos d with z | z
        · exact z
        · exact absurd q (g 0 z)
      · have := ms0_up (Inv_run h (k := d) (by omega)) (k := k - d) (by omega) f
        rw [← run_add, show d + (k - d) = k by omega] at this
        exact this
    · refine Or.inr ⟨d, by omega, by omega, b, g 0 (by omega), g k (by omega), ?_⟩
      rcases sc_spec 401 0 (msRun σ k) with ⟨-, b2⟩ | ⟨d2, a2, b2, f2, g2⟩
      · have := b2 (d - k) (by omega)
        rw [← run_add, show k + (d - k) = d by omega] at this
        exact absurd f this
      · rw [Nat.zero_add] at b2
        rw [← run_add] at f2
        have u : ¬ k + d2 < d := fun q => g _ q f2
        have v : ¬ d - k < d2 := fun q => by
          have := g2 (d - k) q
          rw [← run_add, show k + (d - k) = d by omega] at this
          exact this f
        rw [b2, show d2 = d - k by omega]
end RU
