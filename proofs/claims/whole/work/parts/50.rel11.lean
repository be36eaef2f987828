/-! THE TEXTS: carrying one out -/
theorem xRL_ind (f : Nat → Int32) (t p : Nat) (w w2 : Int32) : (xRL f t p w).1 = (xRL f t p w2).1 ∧ (xRL f t p w).2.1 = (xRL f t p w2).2.1 := by
  unfold xRL
  split
  · exact ⟨rfl, rfl⟩
  · exact ⟨rfl, rfl⟩
theorem xRT_ind (f : Nat → Int32) (t p : Nat) (w w2 : Int32) : (xRT f t p w).1 = (xRT f t p w2).1 ∧ (xRT f t p w).2.1 = (xRT f t p w2).2.1 := by
  unfold xRT
  split
  · exact ⟨rfl, rfl⟩
  · exact ⟨rfl, rfl⟩
theorem xC_ind (f : Nat → Int32) (t p : Nat) (o w o2 w2 : Int32) : (xC f t p o w).1 = (xC f t p o2 w2).1 ∧ (xC f t p o w).2.1 = (xC f t p o2 w2).2.1 := by
  unfold xC
  obtain ⟨s, es⟩ : ∃ z, z = if p < t then f p else 32 := ⟨_, rfl⟩
  rw [← es]
  unfold xCs
  by_cases c1 : s = 33
  · rw [if_pos c1, if_pos c1]; exact ⟨rfl, rfl⟩
  · rw [if_neg c1, if_neg c1]
    by_cases c2 : s = 43 ∨ s = 45
    · rw [if_pos c2, if_pos c2]
      have h := xRL_ind f t (p + 1) w w2
      refine ⟨?_, h.2⟩
      show (if (xRL f t (p + 1) w).1 = true then s else 32) = if (xRL f t (p + 1) w2).1 = true then s else 32
      rw [h.1]
    · rw [if_neg c2, if_neg c2]
      by_cases c3 : s = 114
      · rw [if_pos c3, if_pos c3]; exact ⟨rfl, rfl⟩
      · rw [if_neg c3, if_neg c3]
        by_cases c4 : s = 116
        · rw [if_pos c4, if_pos c4]
          have h := xRT_ind f t (p + 1) w w2
          refine ⟨?_, h.2⟩
          show (if (xRT f t (p + 1) w).1 = true then (116 : Int32) else 32) = if (xRT f t (p + 1) w2).1 = true then (116 : Int32) else 32
          rw [h.1]
        · rw [if_neg c4, if_neg c4]; exact ⟨rfl, rfl⟩
theorem xE_ind (f : Nat → Int32) (t : Nat) : ∀ (k p : Nat) (o w o2 w2 : Int32), (xE f t k p o w).1 = (xE f t k p o2 w2).1
  | 0, _, _, _, _, _ => rfl
  | k + 1, p, o, w, o2, w2 => by
    obtain ⟨h1, h2⟩ := xC_ind f t p o w o2 w2
    unfold xE
    rw [h1, h2]
    split
    · rfl
    · split
      · rfl
      · split
        · exact xE_ind f t k _ _ _ _ _
        · rfl
/-- a text that is valid from p on -/
def vE (f : Nat → Int32) (t k p : Nat) : Prop := (xE f t k p 0 0).1 = -1
theorem vE_step {f : Nat → Int32} {t k p : Nat} (ht : t ≤ 80) (hp : p ≤ t) (h : vE f t (k + 1) p) (o w : Int32) : ¬ (xC f t p o w).1 = 32 ∧ ((xC f t p o w).2.1 = t ∨ ((xC f t p o w).2.1 < t ∧ f (xC f t p o w).2.1 = 59 ∧ vE f t k ((xC f t p o w).2.1 + 1))) := by
  have h0 : (xE f t (k + 1) p o w).1 = -1 := (xE_ind f t (k + 1) p o w 0 0).trans h
  have hhi := xC_hi (f := f) ht (show p ≤ 80 by omega) o w
  unfold xE at h0
  by_cases c : (xC f t p o w).1 = 32
  · rw [if_pos c] at h0
    exact absurd h0 (nI_ne (by omega))
  · refine ⟨c, ?_⟩
    rw [if_neg c] at h0
    have hle := (xC_le c).2.2
    by_cases c2 : (xC f t p o w).2.1 = t
    · exact Or.inl c2
    · rw [if_neg c2] at h0
      by_cases c3 : f (xC f t p o w).2.1 = 59
      · rw [if_pos c3] at h0
        exact Or.inr ⟨by omega, c3, (xE_ind f t k _ 0 0 _ _).trans h0⟩
      · rw [if_neg c3] at h0
        exact absurd h0 (nI_ne (by omega))
theorem run_mono {σ κ : TB} {b B B2 : Nat} (h : Rel σ κ b B) (hB : B ≤ B2) : Rel σ κ b B2 := Rel_mono h hB
theorem fr_mdTake {κ : TB} {m : Nat} {v : Int32} (hm : m < 10) (hK : mdK κ 0 m ≤ 6) : fr 0 κ (mdTake κ m v) := by
  unfold mdTake mdTk5 mdTk4 mdTk3 mdTk2 mdTk1
  exact fr_tr (fr_tr (fr_tr (fr_tr (fr_tr (fr_tr (fr_tr (fr_u2 (by omega) (by omega)) (fr_u2 (by omega) (by omega))) (fr_u2 (by omega) (by omega))) (fr_u2 (by omega) (by omega))) (fr_u2 (by omega) (by omega))) (fr_inc (by omega) (by omega))) (fr_inc (by omega) (by omega))) (fr_inc (by omega) (by omega))
theorem fr_mdLink {κ : TB} {a c : Nat} {v : Int32} (ha : a < 10) (hc : c < 10) : fr 0 κ (mdLink κ a c v) := fr_tr (fr_u2 (by omega) (by omega)) (fr_u2 (by omega) (by omega))
theorem fr_mdPower {κ : TB} {n : Nat} {v : Int32} : fr 0 κ (mdPower κ n v) := fr_u2 (by omega) (by omega)
section RZ
variable {τ σ κ : TB} {f : Nat → Int32} {t p B : Nat}
/-- one command, carried out by both -/
theorem exec_n (h : Rel σ κ 0 B) (hB : B + 100 < 2 ^ 30) {C : Bool × TB} {R : Int32 × Nat × Int32 × Int32} (h2 : C.2 0 2 = R.1) (hc : cTc R.1 C R) (ho : okDo κ R.1) (e4 : κ 0 4 = R.2.2.1) (e5 : κ 0 5 = R.2.2.2) :
    ((R.1 = 116 ∧ mdCan κ (xa κ) = false) ∧ (mExec C.2 σ).1 = false ∧ (mExec C.2 σ).2 = σ) ∨ (¬ (R.1 = 116 ∧ mdCan κ (xa κ) = false) ∧ (mExec C.2 σ).1 = true ∧ Rel (mExec C.2 σ).2 (mdDo κ R.1) 0 (B + 100) ∧ fr 0 κ (mdDo κ R.1)) := by
  obtain ⟨v1, v2, v3, v4⟩ := hc
  unfold mExec mdDo
  rw [h2]
  rcases ho with ⟨s1, s2, s3⟩ | ⟨s1, s2, s3, s4, s5⟩ | ⟨s1, s2, s3, s4⟩ | ⟨s1, s2, s3, s4⟩
  · have c3 : C.2 0 3 = nI (xa κ) := by rw [v1 s1, ← e4]; exact s2
    right
    rw [if_pos s1, if_pos s1, c3, Rel_on h s3]
    refine ⟨fun q => ?_, rfl, ?_, fr_mdPower⟩
    · rw [s1] at q; exact absurd q.1 (by decide)
    · refine Rel_mono (Rel_power h s3 ?_) (by omega)
      split
      · exact Or.inl rfl
      · exact Or.inr rfl
  · obtain ⟨d3, d4⟩ := v2 s1
    have c3 : C.2 0 3 = nI (xa κ) := by rw [d3, ← e4]; exact s2
    have c4 : C.2 0 4 = nI (xb κ) := by rw [d4, ← e5]; exact s4
    right
    rcases s1 with s1 | s1
    · rw [s1, if_neg (show ¬ (43 : Int32) = 33 by decide), if_neg (show ¬ (43 : Int32) = 33 by decide), if_pos rfl, if_pos rfl, c3, c4]
      exact ⟨fun q => absurd q.1 (by decide), rfl, Rel_mono (Rel_link h s3 s5 (Or.inr rfl)) (by omega), fr_mdLink s3 s5⟩
    · rw [s1, if_neg (show ¬ (45 : Int32) = 33 by decide), if_neg (show ¬ (45 : Int32) = 33 by decide), if_neg (show ¬ (45 : Int32) = 43 by decide), if_neg (show ¬ (45 : Int32) = 43 by decide), if_pos rfl, if_pos rfl, c3, c4]
      exact ⟨fun q => absurd q.1 (by decide), rfl, Rel_mono (Rel_link h s3 s5 (Or.inl rfl)) (by omega), fr_mdLink s3 s5⟩
  · obtain ⟨d3, d5⟩ := v3 s1
    have c3 : C.2 0 3 = nI (xa κ) := by rw [d3, ← e4]; exact s2
    have c5 : C.2 0 5 = κ 0 5 := by rw [d5, e5]
    rw [s1, if_neg (show ¬ (116 : Int32) = 33 by decide), if_neg (show ¬ (116 : Int32) = 33 by decide), if_neg (show ¬ (116 : Int32) = 43 by decide), if_neg (show ¬ (116 : Int32) = 43 by decide), if_neg (show ¬ (116 : Int32) = 45 by decide), if_neg (show ¬ (116 : Int32) = 45 by decide), if_pos rfl, if_pos rfl, c3, c5, Rel_canTake h s3 s4]
    by_cases c : mdCan κ (xa κ) = true
    · right
      rw [if_pos c]
      exact ⟨fun q => by rw [c] at q; exact absurd q.2 (by decide), rfl, Rel_mono (Rel_take h s3 s4 c _).1 (by omega), fr_mdTake s4 (Rel_okA h _ s4).2⟩
    · left
      rw [if_neg c]
      exact ⟨⟨rfl, by cases hb : mdCan κ (xa κ) with | true => exact absurd hb c | false => rfl⟩, rfl, rfl⟩
  · have c5 : C.2 0 5 = nI (xa κ) := by rw [v4 s1, ← e4]; exact s2
    right
    rw [s1, if_neg (show ¬ (114 : Int32) = 33 by decide), if_neg (show ¬ (114 : Int32) = 33 by decide), if_neg (show ¬ (114 : Int32) = 43 by decide), if_neg (show ¬ (114 : Int32) = 43 by decide), if_neg (show ¬ (114 : Int32) = 45 by decide), if_neg (show ¬ (114 : Int32) = 45 by decide), if_neg (show ¬ (114 : Int32) = 116 by decide), if_neg (show ¬ (114 : Int32) = 116 by decide), c5, nI_clamp (by omega)]
    exact ⟨fun q => absurd q.1 (by decide), rfl, Rel_mono (Rel_run h (by omega)) (by omega), fr_run h (by omega)⟩
/-- what the reference's carrying out leaves as it was -/
def kR (κ κ2 : TB) : Prop := fr 0 κ κ2 ∧ (∀ r, r ≠ 0 → r ≠ 1 → κ2 r = κ r) ∧ ∀ c, c < 3 → κ2 0 c = κ 0 c
theorem kR_rf : kR κ κ := ⟨fr_rf, fun _ _ _ => rfl, fun _ _ => rfl⟩
theorem kR_tr {κ1 κ2 : TB} (h : kR κ κ1) (h2 : kR κ1 κ2) : kR κ κ2 := ⟨fr_tr h.1 h2.1, fun r a b => (h2.2.1 r a b).trans (h.2.1 r a b), fun c hc => (h2.2.2 c hc).trans (h.2.2 c hc)⟩
theorem x3_1 {p : Nat} {o w : Int32} {r : Nat} (hr : r ≠ 0) : x3 κ p o w r = κ r := by unfold x3; rw [u2_ne hr, u2_ne hr, u2_ne hr]
theorem kR_x3 {p : Nat} {o w : Int32} : kR κ (x3 κ p o w) := ⟨fun c _ => by rw [x3_1 (by omega)], fun r a _ => x3_1 a, fun c hc => by unfold x3; rw [u2_no (fun _ => by omega), u2_no (fun _ => by omega), u2_no (fun _ => by omega)]⟩
theorem runT_n (ht : t ≤ 80) : ∀ (k i : Nat) (τ σ κ : TB) (p B : Nat), tP τ f t p → κ 0 3 = nI p → p ≤ t → vE f t (k + 1) p → Rel σ κ 0 B → B + 100 * k < 2 ^ 30 →
    (mRt k i τ σ).1 = (xR f t k i κ).1 ∧ Rel (mRt k i τ σ).2.2 (xR f t k i κ).2 0 (B + 100 * k) ∧ kR κ (xR f t k i κ).2 ∧ ∃ q, tP (mRt k i τ σ).2.1 f t q
  | 0, i, τ, σ, κ, p, B, h, h3, hp, hv, hR, hB => ⟨rfl, hR, kR_rf, p, h⟩
  | k + 1, i, τ, σ, κ, p, B, h, h3, hp, hv, hR, hB => by
    have exp : xp κ = p := by unfold xp; rw [h3, nI_clamp (by omega)]
    have exc : xc f t κ = xC f t p (κ 0 4) (κ 0 5) := by show xC f t (xp κ) (κ 0 4) (κ 0 5) = _; rw [exp]
    obtain ⟨v1, v2⟩ := vE_step ht hp hv (κ 0 4) (κ 0 5)
    obtain ⟨a1, a2⟩ := cmd_n h ht (show p ≤ 81 by omega) (κ 0 4) (κ 0 5)
    have hok := okDo_c (f := f) (t := t) (κ := κ) (by rw [exc]; exact v1)
    obtain ⟨l1, l2, l3⟩ := xC_le v1
    have exk : xk f t κ = x3 κ (xC f t p (κ 0 4) (κ 0 5)).2.1 (xC f t p (κ 0 4) (κ 0 5)).2.2.1 (xC f t p (κ 0 4) (κ 0 5)).2.2.2 := by unfold xk; rw [exc]
    rw [exc, exk] at hok
    obtain ⟨R, eR⟩ : ∃ z, z = xC f t p (κ 0 4) (κ 0 5) := ⟨_, rfl⟩
    rw [← eR] at v1 v2 a1 a2 hok l2 l3 exc exk
    obtain ⟨C, eC⟩ : ∃ z, z = mtCmd τ := ⟨_, rfl⟩
    rw [← eC] at a1 a2
    rcases a2 with ⟨b1, -, b3, b4⟩ | ⟨b1, b2⟩
    · have hR2 : Rel σ (x3 κ R.2.1 R.2.2.1 R.2.2.2) 0 B := Rel_r1 hR (x3_1 (by omega))
      have e4 : x3 κ R.2.1 R.2.2.1 R.2.2.2 0 4 = R.2.2.1 := rfl
      have e5 : x3 κ R.2.1 R.2.2.1 R.2.2.2 0 5 = R.2.2.2 := rfl
      have hk0 : kR κ (x3 κ R.2.1 R.2.2.1 R.2.2.2) := kR_x3
      obtain ⟨κ1, ek1⟩ : ∃ z, z = x3 κ R.2.1 R.2.2.1 R.2.2.2 := ⟨_, rfl⟩
      rw [← ek1] at hR2 e4 e5 hk0 hok exk
      have hx := exec_n hR2 (by omega) b3 b4 hok e4 e5
      have eXR : xR f t (k + 1) i κ = if R.1 = 116 ∧ mdCan κ1 (xa κ1) = false then (nI i, κ1) else xR f t k (i + 1) (u2 (mdDo κ1 R.1) 0 3 (nI (R.2.1 + 1))) := by
        show (if xp κ < t then _ else _) = _
        rw [exp, if_pos l1, exc, exk]
      have eMR : mRt (k + 1) i τ σ = if C.1 = false then (nI i, C.2, σ) else if (mExec C.2 σ).1 = false then (nI i, C.2, (mExec C.2 σ).2) else if (mtSgn C.2 59).1 = false then (nI (i + 1), (mtSgn C.2 59).2, (mExec C.2 σ).2) else mRt k (i + 1) (mtSgn C.2 59).2 (mExec C.2 σ).2 := by
        rw [eC]; rfl
      rw [eXR, eMR, if_neg (by rw [b1]; decide)]
      rcases hx with ⟨x1, x2, x3⟩ | ⟨x1, x2, x3, x4⟩
      · rw [if_pos x1, if_pos x2, x3]
        exact ⟨rfl, Rel_mono hR2 (by omega), hk0, _, a1⟩
      · rw [if_neg x1, if_neg (by rw [x2]; decide)]
        obtain ⟨σ2, es⟩ : ∃ z, z = (mExec C.2 σ).2 := ⟨_, rfl⟩
        rw [← es] at x3 ⊢
        obtain ⟨κ2, ek2⟩ : ∃ z, z = u2 (mdDo κ1 R.1) 0 3 (nI (R.2.1 + 1)) := ⟨_, rfl⟩
        have hk2 : kR κ1 κ2 := by
          rw [ek2]
          refine ⟨fun c hc => ?_, fun r r0 r1 => ?_, fun c hc => ?_⟩
          · rw [u2_no (fun q => by omega)]; exact x4 c hc
          · rw [u2_ne r0, mdDo_r r1]
          · rw [u2_no (fun q => by omega), mdDo_r (by omega)]
        have hk3 : kR κ κ2 := kR_tr hk0 hk2
        have h33 : κ2 0 3 = nI (R.2.1 + 1) := by rw [ek2, u2_ye rfl rfl]
        have hR3 : Rel σ2 κ2 0 (B + 100) := Rel_r1 x3 (by rw [ek2]; exact u2_ne (by omega))
        rw [← ek2]
        rcases v2 with w1 | ⟨w1, w2, w3⟩
        · rcases sgn_n a1 ht (by omega) (show ¬ (59 : Int32) = 0 by decide) with ⟨g1, g2, g3⟩ | ⟨g1, g2⟩
          · omega
          · rw [g1, if_pos rfl]
            have e9 : xR f t k (i + 1) κ2 = (nI (i + 1), κ2) := by
              cases k with
              | zero => rfl
              | succ k =>
                show (if xp κ2 < t then _ else _) = _
                unfold xp
                rw [h33, nI_clamp (by omega), if_neg (by omega)]
            rw [e9]
            exact ⟨rfl, Rel_mono hR3 (by omega), hk3, _, a1⟩
        · rcases sgn_n a1 ht (by omega) (show ¬ (59 : Int32) = 0 by decide) with ⟨g1, g2, g3⟩ | ⟨g1, g2⟩
          · rw [g1, if_neg (show ¬ true = false by decide)]
            obtain ⟨y1, y2, y3, y4⟩ := runT_n ht k (i + 1) (mtStep C.2) σ2 κ2 (R.2.1 + 1) (B + 100) (tP_step a1) h33 (by omega) w3 hR3 (by omega)
            refine ⟨y1, ?_, kR_tr hk3 y3, y4⟩
            rw [show B + 100 * (k + 1) = B + 100 + 100 * k by omega]
            exact y2
          · exact absurd ⟨w1, w2⟩ g2
    · exfalso
      rcases b2 with b2 | ⟨b2, b3⟩
      · exact v1 b2
      · rcases v2 with w1 | ⟨w1, w2, w3⟩
        · omega
        · exact b3 w2
end RZ
