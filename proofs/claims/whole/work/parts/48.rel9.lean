/-! THE TEXTS: both readers go the same way -/
def tP (τ : TB) (f : Nat → Int32) (t p : Nat) : Prop := τ 0 0 = nI t ∧ τ 0 1 = nI p ∧ ∀ k, k < 80 → τ 1 k = f k
section RX
variable {τ : TB} {f : Nat → Int32} {t p : Nat}
theorem tP_set (h : tP τ f t p) {c : Nat} (hc : 1 < c) (x : Int32) : tP (u2 τ 0 c x) f t p := ⟨by rw [u2_no (fun _ => by omega)]; exact h.1, by rw [u2_no (fun _ => by omega)]; exact h.2.1, h.2.2⟩
theorem tP_step (h : tP τ f t p) : tP (mtStep τ) f t (p + 1) := by
  refine ⟨?_, ?_, h.2.2⟩
  · unfold mtStep; rw [u2_no (fun _ => by omega)]; exact h.1
  · unfold mtStep; rw [u2_ye rfl rfl, h.2.1, nI_1]
theorem step_c {c : Nat} (hc : c ≠ 1) : mtStep τ 0 c = τ 0 c := u2_no (fun _ => hc)
theorem sign_n (h : tP τ f t p) (ht : t ≤ 80) (hp : p ≤ 81) : mtSign τ = if p < t then f p else 0 := by
  unfold mtSign
  rw [h.1, h.2.1]
  by_cases c : p < t
  · rw [if_pos ⟨nI_pos (by omega), nI_lt c (by omega), by rw [show (80 : Int32) = nI 80 from rfl]; exact nI_lt (by omega) (by decide)⟩, if_pos c, nI_clamp (by omega), h.2.2 p (by omega)]
  · rw [if_neg (fun q => nI_nlt (by omega) (by omega) q.2.1), if_neg c]
theorem xH_48 {q : Nat} (h : xH f t q 49 57 = true) : xH f t q 48 57 = true := by
  have h1 := xH_lt h
  have h2 := xH_in h
  unfold xH mIn
  rw [decide_eq_true h1, decide_eq_true h2.2, decide_eq_true (Int32.le_trans (show (48 : Int32) ≤ 49 by decide) h2.1)]
  rfl
/-- the sign at q: no digit, or the digit d -/
theorem dig_cases (f : Nat → Int32) (t q : Nat) : (xH f t q 48 57 = false ∧ xD f t q 48 = (-1, q) ∧ xD f t q 49 = (-1, q)) ∨ ∃ d, d < 10 ∧ q < t ∧ f q = nI (48 + d) ∧ xH f t q 48 57 = true ∧ xD f t q 48 = (nI d, q + 1) ∧ xD f t q 49 = if d = 0 then (-1, q) else (nI d, q + 1) := by
  cases hb : xH f t q 48 57 with
  | false =>
    refine Or.inl ⟨rfl, ?_, ?_⟩
    · unfold xD; rw [hb, if_neg (by decide)]
    · unfold xD
      rw [if_neg (fun c => by rw [xH_48 c] at hb; exact absurd hb (by decide))]
  | true =>
    obtain ⟨d, h1, h2, h3⟩ := xH_dig (by decide) hb
    have h4 := xH_lt hb
    refine Or.inr ⟨d, h1, h4, h2, rfl, ?_, ?_⟩
    · unfold xD; rw [hb, if_pos rfl, h3]
    · unfold xD
      by_cases c : d = 0
      · subst c
        rw [if_pos rfl, if_neg (fun c => ?_)]
        have := (xH_in c).1
        rw [h2] at this
        exact absurd this (by decide)
      · rw [if_neg c, h3, if_pos]
        unfold xH mIn
        rw [decide_eq_true h4, h2, show (49 : Int32) = nI 49 from rfl, show (57 : Int32) = nI 57 from rfl, decide_eq_true ((nI_leI (by decide) (by omega)).mpr (by omega)), decide_eq_true ((nI_leI (by omega) (by decide)).mpr (by omega))]
        rfl
theorem digit_n (h : tP τ f t p) (ht : t ≤ 80) (hp : p ≤ 81) : mtDigit τ = (xD f t p 48).1 := by
  unfold mtDigit
  rw [sign_n h ht hp]
  rcases dig_cases f t p with ⟨h1, h2, -⟩ | ⟨d, h1, h2, h3, h4, h5, -⟩
  · rw [h2]
    by_cases c : p < t
    · rw [if_pos c, if_neg (fun q => ?_)]
      unfold xH mIn at h1
      rw [decide_eq_true c, decide_eq_true q.1, decide_eq_true q.2] at h1
      exact absurd h1 (by decide)
    · rw [if_neg c, if_neg (fun q => absurd q.1 (by decide))]
  · rw [h5, if_pos h2, h3, if_pos ⟨by rw [show (48 : Int32) = nI 48 from rfl]; exact (nI_leI (by decide) (by omega)).mpr (by omega), by rw [show (57 : Int32) = nI 57 from rfl]; exact (nI_leI (by omega) (by decide)).mpr (by omega)⟩, show (48 : Int32) = nI 48 from rfl, pk_sub (by omega), show 48 + d - 48 = d by omega]
def fT (τ : TB) (f : Nat → Int32) (t : Nat) (C : Bool × TB) (D : Int32 × Nat) : Prop := tP C.2 f t D.2 ∧ C.2 0 2 = τ 0 2 ∧ ((C.1 = true ∧ ¬ D.1 = -1 ∧ C.2 0 3 = D.1) ∨ (C.1 = false ∧ D.1 = -1))
theorem fbad (h : tP τ f t p) : fT τ f t (false, τ) (-1, p) := ⟨h, rfl, Or.inr ⟨rfl, rfl⟩⟩
theorem fgood (h : tP τ f t p) {d : Nat} (hd : d < 10) : fT τ f t (true, mtStep (u2 τ 0 3 (nI d))) (nI d, p + 1) := ⟨tP_step (tP_set h (by omega) _), rfl, Or.inl ⟨rfl, nI_ne (by omega), rfl⟩⟩
/-- a first digit, from 0 on or from 1 on -/
theorem first0 (h : tP τ f t p) (ht : t ≤ 80) (hp : p ≤ 81) : fT τ f t (mtFirst τ 0) (xD f t p 48) := by
  have hd := digit_n h ht hp
  rcases dig_cases f t p with ⟨h1, h2, h3⟩ | ⟨d, h1, h2, h3, h4, h5, h6⟩
  · have e : mtFirst τ 0 = (false, τ) := by
      unfold mtFirst; rw [hd, h2]; exact if_pos (show (-1 : Int32) < 0 by decide)
    rw [e, h2]; exact fbad h
  · have e : mtFirst τ 0 = (true, mtStep (u2 τ 0 3 (nI d))) := by
      unfold mtFirst; rw [hd, h5]; exact if_neg (show ¬ nI d < 0 from nI_pos (by omega))
    rw [e, h5]; exact fgood h h1
theorem first1 (h : tP τ f t p) (ht : t ≤ 80) (hp : p ≤ 81) : fT τ f t (mtFirst τ 1) (xD f t p 49) := by
  have hd := digit_n h ht hp
  rcases dig_cases f t p with ⟨h1, h2, h3⟩ | ⟨d, h1, h2, h3, h4, h5, h6⟩
  · have e : mtFirst τ 1 = (false, τ) := by
      unfold mtFirst; rw [hd, h2]; exact if_pos (show (-1 : Int32) < 1 by decide)
    rw [e, h3]; exact fbad h
  · by_cases c : d = 0
    · subst c
      have e : mtFirst τ 1 = (false, τ) := by
        unfold mtFirst; rw [hd, h5]; exact if_pos (show nI 0 < 1 by decide)
      rw [e, h6, if_pos rfl]; exact fbad h
    · have e : mtFirst τ 1 = (true, mtStep (u2 τ 0 3 (nI d))) := by
        unfold mtFirst; rw [hd, h5]; exact if_neg (show ¬ nI d < 1 by rw [show (1 : Int32) = nI 1 from rfl]; exact nI_nlt (by omega) (by omega))
      rw [e, h6, if_neg c]; exact fgood h h1
theorem ne59 {d : Nat} (h : d < 10) : ¬ nI (48 + d) = 59 := by
  rw [show (59 : Int32) = nI 59 from rfl, nI_eq (by omega) (by decide)]
  omega
theorem numL (ht : t ≤ 80) {g : Nat} (hg : g < 1000) : ∀ (kc kr : Nat) (τ : TB) (v p : Nat), tP τ f t p → τ 0 5 = nI v → v ≤ g → p ≤ 81 → t ≤ p + kc → t ≤ p + kr →
    tP (mtNumL (nI g) kc τ).2 f t (xNL f t (nI g) kr (nI v) p).2 ∧ (mtNumL (nI g) kc τ).2 0 5 = (xNL f t (nI g) kr (nI v) p).1 ∧ ¬ (xNL f t (nI g) kr (nI v) p).1 = -1 ∧ (∀ c, 1 < c → c < 5 → (mtNumL (nI g) kc τ).2 0 c = τ 0 c) ∧
    ((mtNumL (nI g) kc τ).1 = true ∨ ((mtNumL (nI g) kc τ).1 = false ∧ (xNL f t (nI g) kr (nI v) p).2 < t ∧ ¬ f (xNL f t (nI g) kr (nI v) p).2 = 59)) := by
  intro kc
  induction kc with
  | zero =>
    intro kr τ v p h h5 hv hp hc hr
    have e : xNL f t (nI g) kr (nI v) p = (nI v, p) := by
      cases kr with
      | zero => rfl
      | succ kr =>
        rw [xNL, if_neg (fun q => by have := xH_lt q.2.1; omega)]
    rw [e]
    exact ⟨h, h5, nI_ne (by omega), fun _ _ _ => rfl, Or.inl rfl⟩
  | succ kc ih =>
    intro kr τ v p h h5 hv hp hc hr
    have hd := digit_n h ht hp
    rcases dig_cases f t p with ⟨h1, h2, -⟩ | ⟨d, h1, h2, h3, h4, h6, -⟩
    · have e : xNL f t (nI g) kr (nI v) p = (nI v, p) := by
        cases kr with
        | zero => rfl
        | succ kr => rw [xNL, if_neg (fun q => by rw [h1] at q; exact absurd q.2.1 (by decide))]
      have e2 : mtNumL (nI g) (kc + 1) τ = (true, τ) := by
        rw [mtNumL, hd, h2, if_pos rfl]
      rw [e, e2]
      exact ⟨h, h5, nI_ne (by omega), fun _ _ _ => rfl, Or.inl rfl⟩
    · obtain ⟨kr2, rfl⟩ : ∃ k, kr = k + 1 := ⟨kr - 1, by omega⟩
      have ed : mtDigit τ = nI d := by rw [hd, h6]
      have ev : τ 0 5 * 10 + mtDigit τ = nI (10 * v + d) := by rw [h5, ed, show (10 : Int32) = nI 10 from rfl, pk_mul, nI_add, Nat.mul_comm]
      have er : 10 * nI v + f p - 48 = nI (10 * v + d) := by
        rw [h3, show (10 : Int32) = nI 10 from rfl, pk_mul, nI_add, show (48 : Int32) = nI 48 from rfl, pk_sub (by omega), show 10 * v + (48 + d) - 48 = 10 * v + d by omega]
      by_cases c : v = 0 ∨ g < 10 * v + d
      · have e : xNL f t (nI g) (kr2 + 1) (nI v) p = (nI v, p) := by
          rw [xNL, if_neg (fun q => ?_)]
          rw [er] at q
          rcases c with c | c
          · subst c; exact absurd q.1 (by decide)
          · exact nI_ge c (by omega) q.2.2
        have e2 : mtNumL (nI g) (kc + 1) τ = (false, τ) := by
          rw [mtNumL, if_neg (by rw [ed]; exact nI_ne (by omega)), if_pos]
          rw [ev, h5]
          rcases c with c | c
          · subst c; exact Or.inl rfl
          · exact Or.inr (nI_lt c (by omega))
        rw [e, e2]
        exact ⟨h, h5, nI_ne (by omega), fun _ _ _ => rfl, Or.inr ⟨rfl, h2, by rw [h3]; exact ne59 h1⟩⟩
      · have hv0 : 0 < v := by omega
        have e : xNL f t (nI g) (kr2 + 1) (nI v) p = xNL f t (nI g) kr2 (nI (10 * v + d)) (p + 1) := by
          rw [xNL, if_pos ⟨by rw [show (0 : Int32) = nI 0 from rfl]; exact nI_lt hv0 (by omega), h4, by rw [er]; exact nI_le (by omega) (by omega)⟩, er]
        have e2 : mtNumL (nI g) (kc + 1) τ = mtNumL (nI g) kc (mtStep (u2 τ 0 5 (nI (10 * v + d)))) := by
          rw [mtNumL, if_neg (by rw [ed]; exact nI_ne (by omega)), ev, if_neg]
          rw [h5]
          rintro (q | q)
          · exact nI_ne0 hv0 (by omega) q
          · exact nI_nlt (by omega) (by omega) q
        rw [e, e2]
        obtain ⟨a1, a2, a3, a4, a5⟩ := ih kr2 (mtStep (u2 τ 0 5 (nI (10 * v + d)))) (10 * v + d) (p + 1) (tP_step (tP_set h (by omega) _)) (by rw [step_c (by omega), u2_ye rfl rfl]) (by omega) (by omega) (by omega) (by omega)
        exact ⟨a1, a2, a3, fun c hc1 hc2 => by rw [a4 c hc1 hc2, step_c (by omega), u2_no (fun _ => by omega)], a5⟩
def nT (τ : TB) (f : Nat → Int32) (t : Nat) (C : Bool × TB) (R : Int32 × Nat) : Prop := tP C.2 f t R.2 ∧ (∀ c, 1 < c → c < 5 → C.2 0 c = τ 0 c) ∧ ((C.1 = true ∧ ¬ R.1 = -1 ∧ C.2 0 5 = R.1) ∨ (C.1 = false ∧ (R.1 = -1 ∨ (R.2 < t ∧ ¬ f R.2 = 59))))
theorem nbad (h : tP τ f t p) (x : Int32) : nT τ f t (false, u2 τ 0 5 x) (-1, p) := ⟨tP_set h (by omega) _, fun c _ hc2 => show u2 τ 0 5 x 0 c = τ 0 c from u2_no (fun _ => by omega), Or.inr ⟨rfl, Or.inl rfl⟩⟩
theorem ngood (h : tP τ f t p) (ht : t ≤ 80) (hp : p ≤ 80) {g : Nat} (hg : g < 1000) (hg9 : 9 ≤ g) {d : Nat} (hd : d < 10) : nT τ f t (mtNumL (nI g) 79 (mtStep (u2 τ 0 5 (nI d)))) (xNL f t (nI g) t (nI d) (p + 1)) := by
  obtain ⟨a1, a2, a3, a4, a5⟩ := numL (f := f) ht hg 79 t (mtStep (u2 τ 0 5 (nI d))) d (p + 1) (tP_step (tP_set h (by omega) _)) (by rw [step_c (by omega), u2_ye rfl rfl]) (by omega) (by omega) (by omega) (by omega)
  exact ⟨a1, fun c hc1 hc2 => by rw [a4 c hc1 hc2, step_c (by omega), u2_no (fun _ => by omega)], a5.elim (fun q => Or.inl ⟨q, a3, a2⟩) (fun q => Or.inr ⟨q.1, Or.inr q.2⟩)⟩
theorem xNL_m1 (f : Nat → Int32) (t : Nat) (g : Int32) (k q : Nat) : xNL f t g k (-1) q = (-1, q) := by
  cases k with
  | zero => rfl
  | succ k => rw [xNL, if_neg (fun q => absurd q.1 (by decide))]
theorem num0 (h : tP τ f t p) (ht : t ≤ 80) (hp : p ≤ 80) {g : Nat} (hg : g < 1000) (hg9 : 9 ≤ g) : nT τ f t (mtNum τ 0 (nI g)) (xN f t p 0 (nI g)) := by
  have hd := digit_n h ht (by omega)
  rcases dig_cases f t p with ⟨h1, h2, h3⟩ | ⟨d, h1, h2, h3, h4, h5, h6⟩
  · have e : mtNum τ 0 (nI g) = (false, u2 τ 0 5 (-1)) := by
      unfold mtNum; rw [hd, h2]; exact if_pos (show (-1 : Int32) < 0 by decide)
    have e2 : xN f t p 0 (nI g) = (-1, p) := by
      unfold xN; rw [if_pos (show (0 : Int32) = 0 from rfl), h2]; exact xNL_m1 _ _ _ _ _
    rw [e, e2]; exact nbad h _
  · have e : mtNum τ 0 (nI g) = mtNumL (nI g) 79 (mtStep (u2 τ 0 5 (nI d))) := by
      unfold mtNum; rw [hd, h5]; exact if_neg (show ¬ nI d < 0 from nI_pos (by omega))
    have e2 : xN f t p 0 (nI g) = xNL f t (nI g) t (nI d) (p + 1) := by
      unfold xN; rw [if_pos (show (0 : Int32) = 0 from rfl), h5]
    rw [e, e2]; exact ngood h ht hp hg hg9 h1
theorem num1 (h : tP τ f t p) (ht : t ≤ 80) (hp : p ≤ 80) {g : Nat} (hg : g < 1000) (hg9 : 9 ≤ g) : nT τ f t (mtNum τ 1 (nI g)) (xN f t p 1 (nI g)) := by
  have hd := digit_n h ht (by omega)
  rcases dig_cases f t p with ⟨h1, h2, h3⟩ | ⟨d, h1, h2, h3, h4, h5, h6⟩
  · have e : mtNum τ 1 (nI g) = (false, u2 τ 0 5 (-1)) := by
      unfold mtNum; rw [hd, h2]; exact if_pos (show (-1 : Int32) < 1 by decide)
    have e2 : xN f t p 1 (nI g) = (-1, p) := by
      unfold xN; rw [if_neg (show ¬ (1 : Int32) = 0 by decide), h3]; exact xNL_m1 _ _ _ _ _
    rw [e, e2]; exact nbad h _
  · by_cases c : d = 0
    · subst c
      have e : mtNum τ 1 (nI g) = (false, u2 τ 0 5 (nI 0)) := by
        unfold mtNum; rw [hd, h5]; exact if_pos (show nI 0 < 1 by decide)
      have e2 : xN f t p 1 (nI g) = (-1, p) := by
        unfold xN; rw [if_neg (show ¬ (1 : Int32) = 0 by decide), h6, if_pos rfl]; exact xNL_m1 _ _ _ _ _
      rw [e, e2]; exact nbad h _
    · have e : mtNum τ 1 (nI g) = mtNumL (nI g) 79 (mtStep (u2 τ 0 5 (nI d))) := by
        unfold mtNum; rw [hd, h5]; exact if_neg (show ¬ nI d < 1 by rw [show (1 : Int32) = nI 1 from rfl]; exact nI_nlt (by omega) (by omega))
      have e2 : xN f t p 1 (nI g) = xNL f t (nI g) t (nI d) (p + 1) := by
        unfold xN; rw [if_neg (show ¬ (1 : Int32) = 0 by decide), h6, if_neg c]
      rw [e, e2]; exact ngood h ht hp hg hg9 h1
end RX
