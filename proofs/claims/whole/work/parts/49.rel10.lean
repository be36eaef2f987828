/-! THE TEXTS: commands, the error's position -/
/-- what one command is to both readers -/
def cTc (s : Int32) (C : Bool × TB) (R : Int32 × Nat × Int32 × Int32) : Prop := (s = 33 → C.2 0 3 = R.2.2.1) ∧ (s = 43 ∨ s = 45 → C.2 0 3 = R.2.2.1 ∧ C.2 0 4 = R.2.2.2) ∧ (s = 116 → C.2 0 3 = R.2.2.1 ∧ C.2 0 5 = R.2.2.2) ∧ (s = 114 → C.2 0 5 = R.2.2.1)
def cT2 (f : Nat → Int32) (t : Nat) (C : Bool × TB) (R : Int32 × Nat × Int32 × Int32) : Prop := tP C.2 f t R.2.1 ∧ ((C.1 = true ∧ ¬ R.1 = 32 ∧ C.2 0 2 = R.1 ∧ cTc R.1 C R) ∨ (C.1 = false ∧ (R.1 = 32 ∨ (R.2.1 < t ∧ ¬ f R.2.1 = 59))))
theorem cTc33 {C : Bool × TB} {R : Int32 × Nat × Int32 × Int32} (h : C.2 0 3 = R.2.2.1) : cTc 33 C R := ⟨fun _ => h, fun q => absurd q (by decide), fun q => absurd q (by decide), fun q => absurd q (by decide)⟩
theorem cTc43 {s : Int32} {C : Bool × TB} {R : Int32 × Nat × Int32 × Int32} (hs : s = 43 ∨ s = 45) (h : C.2 0 3 = R.2.2.1) (h2 : C.2 0 4 = R.2.2.2) : cTc s C R := by
  rcases hs with rfl | rfl
  · exact ⟨fun q => absurd q (by decide), fun _ => ⟨h, h2⟩, fun q => absurd q (by decide), fun q => absurd q (by decide)⟩
  · exact ⟨fun q => absurd q (by decide), fun _ => ⟨h, h2⟩, fun q => absurd q (by decide), fun q => absurd q (by decide)⟩
theorem cTc114 {C : Bool × TB} {R : Int32 × Nat × Int32 × Int32} (h : C.2 0 5 = R.2.2.1) : cTc 114 C R := ⟨fun q => absurd q (by decide), fun q => absurd q (by decide), fun q => absurd q (by decide), fun _ => h⟩
theorem cTc116 {C : Bool × TB} {R : Int32 × Nat × Int32 × Int32} (h : C.2 0 3 = R.2.2.1) (h2 : C.2 0 5 = R.2.2.2) : cTc 116 C R := ⟨fun q => absurd q (by decide), fun q => absurd q (by decide), fun _ => ⟨h, h2⟩, fun q => absurd q (by decide)⟩
section RY
variable {τ : TB} {f : Nat → Int32} {t p : Nat}
theorem xD_ok {q : Nat} {lo : Int32} (h : ¬ (xD f t q lo).1 = -1) : (xD f t q lo).2 = q + 1 ∧ q < t := by
  unfold xD at *
  by_cases c : xH f t q lo 57 = true
  · rw [if_pos c]; exact ⟨rfl, xH_lt c⟩
  · rw [if_neg c] at h; exact absurd rfl h
theorem cmd33 (h : tP τ f t p) (ht : t ≤ 80) (hp : p < t) (h2 : τ 0 2 = 33) (o w : Int32) : cT2 f t (mtFirst (mtStep τ) 0) (if (xD f t (p + 1) 48).1 = -1 then 32 else 33, (xD f t (p + 1) 48).2, (xD f t (p + 1) 48).1, w) := by
  obtain ⟨a1, a2, a3⟩ := first0 (tP_step h) ht (show p + 1 ≤ 81 by omega)
  rw [step_c (by omega), h2] at a2
  refine ⟨a1, ?_⟩
  rcases a3 with ⟨b1, b2, b3⟩ | ⟨b1, b2⟩
  · left
    rw [if_neg b2]
    exact ⟨b1, (by decide : ¬ (33 : Int32) = 32), a2, cTc33 b3⟩
  · right
    rw [if_pos b2]
    exact ⟨b1, Or.inl rfl⟩
theorem second_n (h : tP τ f t p) (ht : t ≤ 80) (hp : p ≤ 81) {d : Nat} (hd : d < 10) (h3 : τ 0 3 = nI d) :
    (mtSecond τ = (false, τ) ∧ ((p < t ∧ f p - 48 = nI d) ∨ xD f t p 48 = (-1, p))) ∨ (¬ (p < t ∧ f p - 48 = nI d) ∧ ∃ e, e < 10 ∧ mtSecond τ = (true, mtStep (u2 τ 0 4 (nI e))) ∧ xD f t p 48 = (nI e, p + 1)) := by
  have hdg := digit_n h ht hp
  unfold mtSecond
  rw [hdg, h3]
  rcases dig_cases f t p with ⟨h1, h2, -⟩ | ⟨e, h1, h2, h4, h5, h6, -⟩
  · left
    rw [h2]
    exact ⟨if_pos (Or.inl rfl), Or.inr rfl⟩
  · rw [h6]
    have e1 : f p - 48 = nI e := by rw [h4, show (48 : Int32) = nI 48 from rfl, pk_sub (by omega), show 48 + e - 48 = e by omega]
    by_cases c : e = d
    · left
      subst c
      exact ⟨if_pos (Or.inr rfl), Or.inl ⟨h2, e1⟩⟩
    · right
      refine ⟨fun q => c ((nI_eq (by omega) (by omega)).mp (e1.symm.trans q.2)), e, h1, if_neg (fun q => ?_), rfl⟩
      rcases q with q | q
      · exact nI_ne (by omega) q
      · exact c ((nI_eq (by omega) (by omega)).mp q)
theorem cmd43 (h : tP τ f t p) (ht : t ≤ 80) (hp : p < t) {s : Int32} (hs : s = 43 ∨ s = 45) (h2 : τ 0 2 = s) (o w : Int32) : cT2 f t (mtC1 (mtStep τ)) (if (xRL f t (p + 1) w).1 = true then s else 32, (xRL f t (p + 1) w).2) := by
  obtain ⟨a1, a2, a3⟩ := first0 (tP_step h) ht (show p + 1 ≤ 81 by omega)
  rw [step_c (by omega), h2] at a2
  have hs32 : ¬ s = 32 := by rcases hs with rfl | rfl <;> decide
  unfold mtC1
  rcases a3 with ⟨b1, b2, b3⟩ | ⟨b1, b2⟩
  · rw [if_pos b1]
    obtain ⟨c1, c2⟩ := xD_ok b2
    obtain ⟨d, hd, -, e1⟩ := (xD_dig (f := f) (t := t) (p := p + 1) (lo := 48) (by decide) b2).2.2.2
    rw [e1] at b3
    rw [c1] at a1
    rcases second_n a1 ht (by omega) hd b3 with ⟨g1, g2⟩ | ⟨g1, e, g2, g3, g4⟩
    · have er : (xRL f t (p + 1) w).1 = false ∧ (xRL f t (p + 1) w).2.1 = p + 1 + 1 := by
        unfold xRL
        rw [c1, e1]
        by_cases c : p + 1 + 1 < t ∧ f (p + 1 + 1) - 48 = nI d
        · rw [if_pos (Or.inr c)]; exact ⟨rfl, rfl⟩
        · rw [if_neg (fun q => q.elim (nI_ne (by omega)) c)]
          have g5 := g2.resolve_left c
          rw [g5]
          exact ⟨rfl, rfl⟩
      refine ⟨?_, Or.inr ⟨by rw [g1], Or.inl ?_⟩⟩
      · rw [g1]
        show tP (mtFirst (mtStep τ) 0).2 f t (xRL f t (p + 1) w).2.1
        rw [er.2]; exact a1
      · show (if (xRL f t (p + 1) w).1 = true then s else 32) = 32
        rw [er.1]; rfl
    · have er : xRL f t (p + 1) w = (true, p + 1 + 1 + 1, nI d, nI e) := by
        unfold xRL
        rw [c1, e1, if_neg (fun q => q.elim (nI_ne (by omega)) g1), g4]
        show (decide (¬ nI e = -1), p + 1 + 1 + 1, nI d, nI e) = _
        rw [decide_eq_true (nI_ne (by omega))]
      rw [er, g3, if_pos rfl]
      refine ⟨tP_step (tP_set a1 (by omega) _), Or.inl ⟨rfl, hs32, ?_, cTc43 hs ?_ ?_⟩⟩
      · show mtStep (u2 _ 0 4 (nI e)) 0 2 = s
        rw [step_c (by omega), u2_no (fun _ => by omega)]; exact a2
      · show mtStep (u2 _ 0 4 (nI e)) 0 3 = nI d
        rw [step_c (by omega), u2_no (fun _ => by omega)]; exact b3
      · show mtStep (u2 (mtFirst (mtStep τ) 0).2 0 4 (nI e)) 0 4 = nI e
        rw [step_c (by omega), u2_ye rfl rfl]
  · rw [if_neg (by rw [b1]; decide)]
    have e1 : xRL f t (p + 1) w = (false, (xD f t (p + 1) 48).2, (xD f t (p + 1) 48).1, w) := by
      unfold xRL; exact if_pos (Or.inl b2)
    rw [e1, if_neg (show ¬ false = true by decide)]
    exact ⟨a1, Or.inr ⟨rfl, Or.inl rfl⟩⟩
theorem cmd114 (h : tP τ f t p) (ht : t ≤ 80) (hp : p < t) (h2 : τ 0 2 = 114) (o w : Int32) : cT2 f t (mtNum (mtStep τ) 1 100) (if (xN f t (p + 1) 1 100).1 = -1 then 32 else 114, (xN f t (p + 1) 1 100).2, (xN f t (p + 1) 1 100).1, w) := by
  have hn := num1 (g := 100) (tP_step h) ht (show p + 1 ≤ 80 by omega) (by decide) (by decide)
  rw [show nI 100 = (100 : Int32) from rfl] at hn
  obtain ⟨a1, a2, a3⟩ := hn
  have a22 := a2 2 (by omega) (by omega)
  rw [step_c (by omega), h2] at a22
  refine ⟨a1, ?_⟩
  rcases a3 with ⟨b1, b2, b3⟩ | ⟨b1, b2⟩
  · left
    rw [if_neg b2]
    exact ⟨b1, (by decide : ¬ (114 : Int32) = 32), a22, cTc114 b3⟩
  · right
    refine ⟨b1, ?_⟩
    by_cases c : (xN f t (p + 1) 1 100).1 = -1
    · exact Or.inl (if_pos c)
    · exact Or.inr (b2.resolve_left c)
theorem sgn_n (h : tP τ f t p) (ht : t ≤ 80) (hp : p ≤ 81) {c : Int32} (hc : ¬ c = 0) : (mtSgn τ c = (true, mtStep τ) ∧ p < t ∧ f p = c) ∨ (mtSgn τ c = (false, τ) ∧ ¬ (p < t ∧ f p = c)) := by
  have hs := sign_n h ht hp
  unfold mtSgn
  rw [hs]
  by_cases c1 : p < t
  · rw [if_pos c1]
    by_cases c2 : f p = c
    · exact Or.inl ⟨if_pos c2, c1, c2⟩
    · exact Or.inr ⟨if_neg c2, fun q => c2 q.2⟩
  · rw [if_neg c1]
    exact Or.inr ⟨if_neg (fun q => hc q.symm), fun q => c1 q.1⟩
theorem xH_eq {q : Nat} {c : Int32} : xH f t q c c = true ↔ q < t ∧ f q = c := by
  unfold xH mIn
  rw [Bool.and_eq_true, Bool.and_eq_true, decide_eq_true_eq, decide_eq_true_eq, decide_eq_true_eq]
  constructor
  · rintro ⟨h1, h2, h3⟩
    exact ⟨h1, Int32.le_antisymm h3 h2⟩
  · rintro ⟨h1, h2⟩
    rw [h2]
    exact ⟨h1, Int32.le_refl _, Int32.le_refl _⟩
theorem cmd116 (h : tP τ f t p) (ht : t ≤ 80) (hp : p < t) (h2 : τ 0 2 = 116) (o w : Int32) : cT2 f t (mtC2 (mtStep τ)) (if (xRT f t (p + 1) w).1 = true then 116 else 32, (xRT f t (p + 1) w).2) := by
  obtain ⟨a1, a2, a3⟩ := first1 (tP_step h) ht (show p + 1 ≤ 81 by omega)
  rw [step_c (by omega), h2] at a2
  unfold mtC2
  rcases a3 with ⟨b1, b2, b3⟩ | ⟨b1, b2⟩
  · rw [if_pos b1]
    obtain ⟨c1, c2⟩ := xD_ok b2
    rw [c1] at a1
    rcases sgn_n a1 ht (by omega) (show ¬ (44 : Int32) = 0 by decide) with ⟨g1, g2, g3⟩ | ⟨g1, g2⟩
    · obtain ⟨τ3, e3⟩ : ∃ z, z = mtStep (mtFirst (mtStep τ) 1).2 := ⟨_, rfl⟩
      have a3 := tP_step a1
      rw [← e3] at a3 g1
      have hn := num0 (g := 999) a3 ht (by omega) (by decide) (by decide)
      rw [show nI 999 = (999 : Int32) from rfl] at hn
      have k2 : τ3 0 2 = 116 := by rw [e3, step_c (by omega)]; exact a2
      have k3 : τ3 0 3 = (xD f t (p + 1) 49).1 := by rw [e3, step_c (by omega)]; exact b3
      have key : ∀ (C : Bool × TB) (N : Int32 × Nat), nT τ3 f t C N → cT2 f t C (if decide (¬ N.1 = -1) = true then 116 else 32, N.2, (xD f t (p + 1) 49).1, N.1) := by
        rintro C N ⟨d1, d2, d3⟩
        refine ⟨d1, ?_⟩
        have d22 := d2 2 (by omega) (by omega)
        have d23 := d2 3 (by omega) (by omega)
        rw [k2] at d22
        rw [k3] at d23
        rcases d3 with ⟨q1, q2, q3⟩ | ⟨q1, q2⟩
        · left
          rw [decide_eq_true q2]
          exact ⟨q1, (by decide : ¬ (116 : Int32) = 32), d22, cTc116 d23 q3⟩
        · right
          refine ⟨q1, ?_⟩
          by_cases c : N.1 = -1
          · left
            show (if decide (¬ N.1 = -1) = true then (116 : Int32) else 32) = 32
            rw [decide_eq_false (fun q => q c)]; rfl
          · exact Or.inr (q2.resolve_left c)
      have e1 : xRT f t (p + 1) w = (decide (¬ (xN f t (p + 1 + 1 + 1) 0 999).1 = -1), (xN f t (p + 1 + 1 + 1) 0 999).2, (xD f t (p + 1) 49).1, (xN f t (p + 1 + 1 + 1) 0 999).1) := by
        unfold xRT
        rw [c1]
        exact if_neg (fun q => q.elim b2 (fun q => by rw [xH_eq.mpr ⟨g2, g3⟩] at q; exact absurd q (by decide)))
      rw [e1, g1]
      have hk := key _ _ hn
      obtain ⟨C, eC⟩ : ∃ z, z = mtNum τ3 0 999 := ⟨_, rfl⟩
      obtain ⟨N, eN⟩ : ∃ z, z = xN f t (p + 1 + 1 + 1) 0 999 := ⟨_, rfl⟩
      rw [← eC, ← eN] at hk
      rw [← eN]
      have e9 : (if (true, τ3).1 = true then mtNum (true, τ3).2 0 999 else (false, (true, τ3).2)) = C := by rw [eC]; exact if_pos rfl
      rw [e9]
      exact hk
    · rw [g1]
      have e1 : xRT f t (p + 1) w = (false, p + 1 + 1, (xD f t (p + 1) 49).1, w) := by
        unfold xRT
        rw [c1]
        refine if_pos (Or.inr ?_)
        cases hb : xH f t (p + 1 + 1) 44 44 with
        | false => rfl
        | true => exact absurd (xH_eq.mp hb) g2
      rw [e1, if_neg (show ¬ false = true by decide), if_neg (show ¬ false = true by decide)]
      exact ⟨a1, Or.inr ⟨rfl, Or.inl rfl⟩⟩
  · rw [if_neg (by rw [b1]; decide)]
    have e1 : xRT f t (p + 1) w = (false, (xD f t (p + 1) 49).2, (xD f t (p + 1) 49).1, w) := by
      unfold xRT; exact if_pos (Or.inl b2)
    rw [e1, if_neg (show ¬ false = true by decide)]
    exact ⟨a1, Or.inr ⟨rfl, Or.inl rfl⟩⟩
theorem cmd_n (h : tP τ f t p) (ht : t ≤ 80) (hp : p ≤ 81) (o w : Int32) : cT2 f t (mtCmd τ) (xC f t p o w) := by
  have hs := sign_n h ht hp
  unfold mtCmd xC
  by_cases c : p < t
  · rw [if_pos c] at hs ⊢
    rw [hs]
    have h1 : tP (u2 τ 0 2 (f p)) f t p := tP_set h (by omega) _
    have h2 : u2 τ 0 2 (f p) 0 2 = f p := u2_ye rfl rfl
    obtain ⟨s, es⟩ : ∃ z, z = f p := ⟨_, rfl⟩
    rw [← es] at h1 h2 ⊢
    unfold mtCmdK xCs
    by_cases c1 : s = 33
    · rw [if_pos c1, if_pos c1]
      exact cmd33 h1 ht c (h2.trans c1) o w
    · rw [if_neg c1, if_neg c1]
      by_cases c2 : s = 43 ∨ s = 45
      · rw [if_pos c2, if_pos c2]
        exact cmd43 h1 ht c c2 h2 o w
      · rw [if_neg c2, if_neg c2]
        by_cases c3 : s = 114
        · rw [if_pos c3, if_pos c3]
          exact cmd114 h1 ht c (h2.trans c3) o w
        · rw [if_neg c3, if_neg c3]
          by_cases c4 : s = 116
          · rw [if_pos c4, if_pos c4]
            exact cmd116 h1 ht c (h2.trans c4) o w
          · rw [if_neg c4, if_neg c4]
            exact ⟨h1, Or.inr ⟨rfl, Or.inl rfl⟩⟩
  · rw [if_neg c] at hs ⊢
    rw [hs]
    have e1 : mtCmdK (u2 τ 0 2 0) 0 = (false, u2 τ 0 2 0) := by
      unfold mtCmdK
      rw [if_neg (show ¬ (0 : Int32) = 33 by decide), if_neg (show ¬ ((0 : Int32) = 43 ∨ (0 : Int32) = 45) by decide), if_neg (show ¬ (0 : Int32) = 114 by decide), if_neg (show ¬ (0 : Int32) = 116 by decide)]
    have e2 : xCs f t p o w 32 = (32, p, o, w) := by
      unfold xCs
      rw [if_neg (show ¬ (32 : Int32) = 33 by decide), if_neg (show ¬ ((32 : Int32) = 43 ∨ (32 : Int32) = 45) by decide), if_neg (show ¬ (32 : Int32) = 114 by decide), if_neg (show ¬ (32 : Int32) = 116 by decide)]
    rw [e1, e2]
    exact ⟨tP_set h (by omega) _, Or.inr ⟨rfl, Or.inl rfl⟩⟩
theorem xC_hi (ht : t ≤ 80) (hp : p ≤ 80) (o w : Int32) : (xC f t p o w).2.1 ≤ 81 := by
  unfold xC
  by_cases c : p < t
  · exact xCs_le (by omega) (by omega)
  · rw [if_neg c]
    exact xCs_le (by omega) (by omega)
/-- the error's position is the same -/
theorem err_n (ht : t ≤ 80) : ∀ (k : Nat) (τ : TB) (p : Nat) (o w : Int32), tP τ f t p → p ≤ t → (mtErrL k τ).1 = (xE f t k p o w).1 ∧ ∃ q, tP (mtErrL k τ).2 f t q
  | 0, τ, p, o, w, h, hp => ⟨h.2.1, p, h⟩
  | k + 1, τ, p, o, w, h, hp => by
    obtain ⟨h1, h2⟩ := cmd_n h ht (show p ≤ 81 by omega) o w
    have hhi := xC_hi (f := f) ht (show p ≤ 80 by omega) o w
    unfold mtErrL xE
    rcases h2 with ⟨b1, b2, b3, -⟩ | ⟨b1, b2⟩
    · obtain ⟨c1, c2, c3⟩ := xC_le b2
      rw [if_neg (by rw [b1]; decide), if_neg b2, h1.1, h1.2.1]
      by_cases c : (xC f t p o w).2.1 = t
      · rw [if_pos (by rw [c]; exact Int32.le_refl _), if_pos c]
        exact ⟨rfl, _, h1⟩
      · rw [if_neg (nI_ge (by omega) (by omega)), if_neg c]
        rcases sgn_n h1 ht (by omega) (show ¬ (59 : Int32) = 0 by decide) with ⟨g1, g2, g3⟩ | ⟨g1, g2⟩
        · rw [g1, if_neg (show ¬ true = false by decide), if_pos g3]
          exact err_n ht k _ _ _ _ (tP_step h1) (by omega)
        · rw [g1, if_pos rfl, if_neg (fun q => g2 ⟨by omega, q⟩)]
          exact ⟨h1.2.1, _, h1⟩
    · rw [if_pos b1]
      refine ⟨?_, _, h1⟩
      show (mtCmd τ).2 0 1 = _
      rw [h1.2.1]
      by_cases c : (xC f t p o w).1 = 32
      · rw [if_pos c]
      · obtain ⟨d1, d2⟩ := b2.resolve_left c
        rw [if_neg c, if_neg (by omega), if_neg d2]
end RY
