/-! THE RELATION is kept: lists, sending, slots -/
theorem kany_iff {p : Nat → Bool} : ∀ (k i : Nat), kany p k i = true ↔ ∃ j, i ≤ j ∧ j < i + k ∧ p j = true
  | 0, i => by
    constructor
    · intro h; exact absurd (show false = true from h) Bool.false_ne_true
    · rintro ⟨j, h1, h2, -⟩; omega
  | k + 1, i => by
    show (p i || kany p k (i + 1)) = true ↔ _
    rw [Bool.or_eq_true, kany_iff k (i + 1)]
    constructor
    · rintro (h | ⟨j, h1, h2, h3⟩)
      · exact ⟨i, Nat.le_refl i, by omega, h⟩
      · exact ⟨j, by omega, by omega, h3⟩
    · rintro ⟨j, h1, h2, h3⟩
      by_cases e : j = i
      · subst e; exact Or.inl h3
      · exact Or.inr ⟨j, by omega, by omega, h3⟩
theorem kor_iff {p : Nat → Bool} : ∀ (k i : Nat) (r : Bool), kfor (fun k r => r || p k) k i r = true ↔ r = true ∨ ∃ j, i ≤ j ∧ j < i + k ∧ p j = true
  | 0, i, r => by
    show r = true ↔ _
    constructor
    · exact Or.inl
    · rintro (h | ⟨j, h1, h2, -⟩)
      · exact h
      · omega
  | k + 1, i, r => by
    show kfor (fun k r => r || p k) k (i + 1) (r || p i) = true ↔ _
    rw [kor_iff k (i + 1), Bool.or_eq_true]
    constructor
    · rintro ((h | h) | ⟨j, h1, h2, h3⟩)
      · exact Or.inl h
      · exact Or.inr ⟨i, Nat.le_refl i, by omega, h⟩
      · exact Or.inr ⟨j, by omega, by omega, h3⟩
    · rintro (h | ⟨j, h1, h2, h3⟩)
      · exact Or.inl (Or.inl h)
      · by_cases e : j = i
        · subst e; exact Or.inl (Or.inr h3)
        · exact Or.inr ⟨j, by omega, by omega, h3⟩
theorem pig : ∀ (n : Nat) (f : Nat → Nat), (∀ i, i < n + 1 → f i < n) → ∃ i j, i < j ∧ j < n + 1 ∧ f i = f j
  | 0, f, h => absurd (h 0 (by omega)) (by omega)
  | n + 1, f, h => by
    by_cases c : ∃ i, i < n + 1 ∧ f i = f (n + 1)
    · obtain ⟨i, h1, h2⟩ := c
      exact ⟨i, n + 1, h1, by omega, h2⟩
    · have hv : f (n + 1) < n + 1 := h (n + 1) (by omega)
      obtain ⟨i, j, h1, h2, h3⟩ := pig n (fun i => if f i = n then f (n + 1) else f i) (fun i hi => by
        have h4 := h i (by omega)
        have h5 : ¬ f i = f (n + 1) := fun q => c ⟨i, hi, q⟩
        show (if f i = n then f (n + 1) else f i) < n
        split <;> omega)
      have h4 : ¬ f i = f (n + 1) := fun q => c ⟨i, by omega, q⟩
      have h5 : ¬ f j = f (n + 1) := fun q => c ⟨j, by omega, q⟩
      refine ⟨i, j, h1, by omega, ?_⟩
      have h6 : (if f i = n then f (n + 1) else f i) = (if f j = n then f (n + 1) else f j) := h3
      split at h6 <;> split at h6 <;> omega
section RS
variable {σ κ κ2 : TB} {b B : Nat}
theorem id_inj (hT : sT σ ≤ 60) (h : iR σ) {x y : Nat} (hx : x < sT σ) (hy : y < sT σ) (h9 : σ 9 x = σ 9 y) (h10 : σ 10 x = σ 10 y) : x = y := by
  obtain ⟨m, m0, m1, m2, m3⟩ := h x hx
  obtain ⟨k, k0, k1, k2, k3⟩ := h y hy
  have e : m = k := (nI_eq (by omega) (by omega)).mp (by rw [← m2, ← k2, h9])
  subst e
  have c1 := cnt_le (f := σ 9) (m := m) (k := x)
  have c2 := cnt_le (f := σ 9) (m := m) (k := y)
  have e2 : cnt (σ 9) m x = cnt (σ 9) m y := (nI_eq (by omega) (by omega)).mp (by rw [← m3, ← k3, h10])
  rcases Nat.lt_trichotomy x y with g | g | g
  · have := cnt_lt g m2
    omega
  · exact g
  · have := cnt_lt g k2
    omega
theorem Rel_C60 (h : Rel σ κ b B) {x : Nat} (hx : x < sT σ) (hno : ∀ i, i < sK σ 0 → σ 14 (60 * 0 + i) ≠ nI x) : sK σ 0 < 60 := by
  have hT := h.2.2.2.2.2.1.2.2
  have hK := h.2.2.2.2.2.2.1 0 (by omega)
  rcases Nat.lt_or_ge (sK σ 0) 60 with c | c
  · exact c
  · exfalso
    have key : ∀ i, i < sK σ 0 → ∃ id, id < sT σ ∧ σ 14 (60 * 0 + i) = nI id := fun i hi => by
      obtain ⟨id, h1, h2, -⟩ := (h.2.2.2.2.1 0 (by omega)).2 i hi
      exact ⟨id, h1, h2⟩
    have hf : ∀ i, i < sK σ 0 → (σ 14 (60 * 0 + i)).toNatClampNeg < sT σ ∧ σ 14 (60 * 0 + i) = nI (σ 14 (60 * 0 + i)).toNatClampNeg := fun i hi => by
      obtain ⟨id, h1, h2⟩ := key i hi
      rw [h2, nI_clamp (by omega)]
      exact ⟨h1, rfl⟩
    obtain ⟨i, j, h1, h2, h3⟩ := pig 60 (fun i => if i < 60 then (σ 14 (60 * 0 + i)).toNatClampNeg else x) (fun i hi => by
      show (if i < 60 then (σ 14 (60 * 0 + i)).toNatClampNeg else x) < 60
      split
      · have := (hf i (by omega)).1
        omega
      · omega)
    have h4 : (if i < 60 then (σ 14 (60 * 0 + i)).toNatClampNeg else x) = (if j < 60 then (σ 14 (60 * 0 + j)).toNatClampNeg else x) := h3
    rw [if_pos (by omega)] at h4
    by_cases c2 : j < 60
    · rw [if_pos c2] at h4
      refine hK.2.2 i j h1 (by omega) ?_
      rw [(hf i (by omega)).2, (hf j (by omega)).2, h4]
    · rw [if_neg c2] at h4
      refine hno i (by omega) ?_
      rw [(hf i (by omega)).2, h4]
/-- a list gets a reading at its end -/
theorem Rel_put (h : Rel σ κ b B) {p id : Nat} (hp : p < 10) (hK : sK σ p < lm p) (hid : id < sT σ) (hno : ∀ i, i < sK σ p → σ 14 (60 * p + i) ≠ nI id) {x : Int32}
    (k0 : κ2 1 (b + pl p (sK σ p)) = σ 9 id) (k1 : κ2 1 (b + pl p (sK σ p) + 1) = σ 10 id) (k2 : κ2 1 (b + pl p (sK σ p) + 2) = σ 11 id) (k3 : κ2 1 (b + pl p (sK σ p) + 3) = σ 12 id) (k4 : κ2 1 (b + pl p (sK σ p) + 4) = x) (kz : κ2 1 (b + pz p) = nI (sK σ p + 1))
    (ho : ∀ q, q ≠ b + pz p → (q < b + pl p (sK σ p) ∨ b + pl p (sK σ p) + 5 ≤ q) → κ2 1 q = κ 1 q) :
    Rel (u2 (u2 (u2 σ 14 (60 * p + sK σ p) (nI id)) 15 (60 * p + sK σ p) x) 13 p (nI (sK σ p + 1))) κ2 b B := by
  obtain ⟨g1, g2, g3, g4, g5, g6, g7, g8, g9⟩ := h
  obtain ⟨K, eK⟩ : ∃ z, z = sK σ p := ⟨_, rfl⟩
  rw [← eK] at hK hno k0 k1 k2 k3 k4 kz ho ⊢
  have hlp := lm_le p
  have hge := pl_ge (n := p) (i := K)
  have hlt := pl_lt hp hK
  have hz := pz_lt hp
  have eS : ∀ n, sK (u2 (u2 (u2 σ 14 (60 * p + K) (nI id)) 15 (60 * p + K) x) 13 p (nI (K + 1))) n = if n = p then K + 1 else sK σ n := fun n => by
    unfold sK
    by_cases e : n = p
    · rw [u2_ye rfl e, if_pos e, nI_clamp (by omega)]
    · rw [u2_no (fun _ => e), if_neg e]; rfl
  refine ⟨rA_of g1 (fun _ _ => rfl) rfl (fun c h1 h2 => ?_) (ho _ (by omega) (by omega)), rB_of g2 (fun o n hoo hn => ?_) (fun n o hn hoo => ?_), rX_of g3 rfl (fun _ _ => rfl) (fun n hn => ?_), rL_of g4 (fun _ _ => rfl) (fun _ _ => rfl) (fun d hd => ?_), fun n hn => ⟨?_, fun i hi => ?_⟩, iT_of g6 rfl rfl, fun n hn => ⟨?_, ?_, fun i j hij hj => ?_⟩, iR_of g8 rfl (fun r e1 e2 j _ => ?_), iP_of g9 (fun _ _ => rfl)⟩
  · by_cases e : pz p = c
    · exfalso
      have : p = 0 := by unfold pz at e; split at e <;> omega
      subst this
      unfold pz at e
      rw [if_pos rfl] at e
      omega
    · exact ho _ (by omega) (by omega)
  · have := ro_lt o
    rw [u2_no (fun q => by omega), u2_no (fun q => by omega), u2_no (fun q => by omega)]
  · have := pz_ne (n := p) (m := n) (o := o) (by omega)
    exact ho _ (by omega) (by omega)
  · have := pz_ne (n := p) (m := n) (o := 5) (by omega)
    exact ho _ (by omega) (by omega)
  · exact ho _ (by omega) (by omega)
  · by_cases e : n = p
    · subst e
      rw [u2_ye rfl rfl]; exact kz
    · have hz2 := pz_lt hn
      rw [u2_no (fun _ => e), ho _ (fun q => e (pz_inj (by omega))) (by omega)]
      exact (g5 n hn).1
  · rw [eS] at hi
    by_cases e : n = p ∧ i = K
    · obtain ⟨rfl, rfl⟩ := e
      refine ⟨id, hid, ?_, k0, k1, k2, k3, ?_⟩
      · rw [u2_no (fun q => by omega), u2_no (fun q => by omega), u2_ye rfl rfl]
      · rw [u2_no (fun q => by omega), u2_ye rfl rfl]; exact k4
    · have hiK : i < sK σ n := by
        by_cases c : n = p
        · rw [if_pos c] at hi
          have : i ≠ K := fun q => e ⟨c, q⟩
          rw [c, ← eK]; omega
        · rw [if_neg c] at hi; exact hi
      have hil : i < lm n := Nat.lt_of_lt_of_le hiK (g7 n hn).2.1
      have hln := lm_le n
      have hge2 := pl_ge (n := n) (i := i)
      have hd : ∀ d, d < 5 → κ2 1 (b + pl n i + d) = κ 1 (b + pl n i + d) := fun d hd => by
        refine ho _ (by omega) ?_
        rcases Nat.lt_or_ge (b + pl n i + d) (b + pl p K) with c1 | c1
        · exact Or.inl c1
        · rcases Nat.lt_or_ge (b + pl n i + d) (b + pl p K + 5) with c2 | c2
          · exfalso
            have := pl_inj hn hil hd hp hK (d2 := pl n i + d - pl p K) (by omega) (by omega)
            exact e ⟨this.1, this.2.1⟩
          · exact Or.inr c2
      obtain ⟨id2, e1, e2, e3, e4, e5, e6, e7⟩ := (g5 n hn).2 i hiK
      refine ⟨id2, e1, ?_, ?_, ?_, ?_, ?_, ?_⟩
      · rw [u2_no (fun q => by omega), u2_no (fun q => by omega), u2_no (fun _ q => e (by omega))]; exact e2
      · have := hd 0 (by omega)
        rw [Nat.add_zero] at this
        rw [this]; exact e3
      · rw [hd 1 (by omega)]; exact e4
      · rw [hd 2 (by omega)]; exact e5
      · rw [hd 3 (by omega)]; exact e6
      · rw [hd 4 (by omega), u2_no (fun q => by omega), u2_no (fun _ q => e (by omega))]; exact e7
  · by_cases e : n = p
    · rw [eS, if_pos e, u2_ye rfl e]
    · rw [eS, if_neg e, u2_no (fun _ => e)]; exact (g7 n hn).1
  · rw [eS]
    by_cases e : n = p
    · subst e; rw [if_pos rfl]; omega
    · rw [if_neg e]; exact (g7 n hn).2.1
  · rw [eS] at hj
    have hln := lm_le n
    have hl := (g7 n hn).2.1
    have hlt2 : ∀ j, j < sK σ n → (u2 (u2 (u2 σ 14 (60 * p + K) (nI id)) 15 (60 * p + K) x) 13 p (nI (K + 1))) 14 (60 * n + j) = σ 14 (60 * n + j) := fun j hj => by
      rw [u2_no (fun q => by omega), u2_no (fun q => by omega), u2_no (fun _ q => ?_)]
      have e1 : n = p := by omega
      subst e1
      rw [← eK] at hj
      omega
    by_cases e : n = p
    · subst e
      rw [if_pos rfl] at hj
      rw [hlt2 i (by omega)]
      by_cases c : j = K
      · subst c
        rw [u2_no (fun q => by omega), u2_no (fun q => by omega), u2_ye rfl rfl]
        exact hno i (by omega)
      · rw [hlt2 j (by omega)]
        exact (g7 n hn).2.2 i j hij (by omega)
    · rw [if_neg e] at hj
      rw [hlt2 i (by omega), hlt2 j hj]
      exact (g7 n hn).2.2 i j hij hj
  · rw [u2_no (fun q => by omega), u2_no (fun q => by omega), u2_no (fun q => by omega)]
/-- a store loses its first reading -/
theorem Rel_rem (h : Rel σ κ b B) {σ2 : TB} {n : Nat} (hn0 : 0 < n) (hn : n < 10) (hK : 0 < sK σ n) (hs : ∀ r k, r ≠ 13 → r ≠ 14 → r ≠ 15 → σ2 r k = σ r k) (h13 : ∀ k, σ2 13 k = if k = n then nI (sK σ n - 1) else σ 13 k)
    (h14 : ∀ r k, (r = 14 ∨ r = 15) → σ2 r k = if 60 * n ≤ k ∧ k < 60 * n + (sK σ n - 1) then σ r (k + 1) else σ r k)
    (hz : κ2 1 (b + pz n) = nI (sK σ n - 1)) (hq : ∀ q, q ≠ b + pz n → κ2 1 q = if b + pl n 0 ≤ q ∧ q < b + pl n 0 + 5 * (sK σ n - 1) then κ 1 (q + 5) else κ 1 q) : Rel σ2 κ2 b B := by
  obtain ⟨g1, g2, g3, g4, g5, g6, g7, g8, g9⟩ := h
  have ⟨a1, a2, a3⟩ := g7 n hn
  have e6 : lm n = 6 := by unfold lm; rw [if_neg (by omega)]
  have hl0 : ∀ i, pl n i = 90 + 5 * (6 * n + i) := fun i => by unfold pl; rw [if_neg (by omega)]
  have hz0 : pz n = 26 + 7 * n := by unfold pz; rw [if_neg (by omega)]
  obtain ⟨K, eK⟩ : ∃ z, z = sK σ n := ⟨_, rfl⟩
  have hpl0 := hl0 0
  rw [← eK] at hK h13 h14 hz hq a1 a2 a3
  have hno : ∀ q, q ≠ b + pz n → (q < b + pl n 0 ∨ b + pl n 0 + 30 ≤ q) → κ2 1 q = κ 1 q := fun q h1 h2 => by
    rw [hq q h1, if_neg (fun c => by omega)]
  have eT : sT σ2 = sT σ := by unfold sT; rw [hs 8 0 (by omega) (by omega) (by omega)]
  have eS : ∀ m, sK σ2 m = if m = n then K - 1 else sK σ m := fun m => by
    unfold sK
    rw [h13]
    by_cases e : m = n
    · rw [if_pos e, if_pos e, nI_clamp (by omega)]
    · rw [if_neg e, if_neg e]
  have h14o : ∀ m i, m < 10 → i < 60 → m ≠ n → ∀ r, (r = 14 ∨ r = 15) → σ2 r (60 * m + i) = σ r (60 * m + i) := fun m i hm hi e r hr => by
    rw [h14 r _ hr, if_neg (fun c => by omega)]
  refine ⟨rA_of g1 (fun k _ => hs 0 k (by omega) (by omega) (by omega)) (hs 8 0 (by omega) (by omega) (by omega)) (fun c h1 h2 => hno _ (by omega) (by omega)) (hno _ (by omega) (by omega)), rB_of g2 (fun o m hoo hm => ?_) (fun m o hm hoo => hno _ (by omega) (by omega)), rX_of g3 (hs 8 0 (by omega) (by omega) (by omega)) (fun j _ => hs 9 j (by omega) (by omega) (by omega)) (fun m hm => hno _ (by omega) (by omega)), rL_of g4 (fun k _ => hs 1 k (by omega) (by omega) (by omega)) (fun k _ => hs 2 k (by omega) (by omega) (by omega)) (fun d hd => hno _ (by omega) (by omega)), fun m hm => ⟨?_, fun i hi => ?_⟩, iT_of g6 (hs 0 0 (by omega) (by omega) (by omega)) (hs 8 0 (by omega) (by omega) (by omega)), fun m hm => ⟨?_, ?_, fun i j hij hj => ?_⟩, iR_of g8 (hs 8 0 (by omega) (by omega) (by omega)) (fun r e1 e2 j _ => hs r j (by omega) (by omega) (by omega)), iP_of g9 (fun k _ => hs 3 k (by omega) (by omega) (by omega))⟩
  · have := ro_lt o
    exact hs _ _ (by omega) (by omega) (by omega)
  · rw [h13]
    by_cases e : m = n
    · rw [if_pos e, e]; exact hz
    · have hz2 := pz_lt hm
      rw [if_neg e, hno _ (fun q => e (pz_inj (by omega))) (by omega)]
      exact (g5 m hm).1
  · rw [eS] at hi
    have hlm := (g7 m hm).2.1
    have hl60 := lm_le m
    by_cases e : m = n
    · subst e
      rw [if_pos rfl] at hi
      obtain ⟨id, f1, f2, f3, f4, f5, f6, f7⟩ := (g5 m hm).2 (i + 1) (by omega)
      have hd : ∀ d, d < 5 → κ2 1 (b + pl m i + d) = κ 1 (b + pl m (i + 1) + d) := fun d hd => by
        have c1 := hl0 i
        have c2 := hl0 (i + 1)
        rw [hq _ (by omega), if_pos (by omega), show b + pl m i + d + 5 = b + pl m (i + 1) + d by omega]
      refine ⟨id, by rw [eT]; exact f1, ?_, ?_, ?_, ?_, ?_, ?_⟩
      · rw [h14 14 _ (Or.inl rfl), if_pos (by omega)]; exact f2
      · have := hd 0 (by omega)
        rw [Nat.add_zero, Nat.add_zero] at this
        rw [this, hs 9 _ (by omega) (by omega) (by omega)]; exact f3
      · rw [hd 1 (by omega), hs 10 _ (by omega) (by omega) (by omega)]; exact f4
      · rw [hd 2 (by omega), hs 11 _ (by omega) (by omega) (by omega)]; exact f5
      · rw [hd 3 (by omega), hs 12 _ (by omega) (by omega) (by omega)]; exact f6
      · rw [hd 4 (by omega), h14 15 _ (Or.inr rfl), if_pos (by omega)]; exact f7
    · rw [if_neg e] at hi
      have hil : i < lm m := by omega
      obtain ⟨id, f1, f2, f3, f4, f5, f6, f7⟩ := (g5 m hm).2 i hi
      have hd : ∀ d, d < 5 → κ2 1 (b + pl m i + d) = κ 1 (b + pl m i + d) := fun d hd => by
        have c0 := pl_ge (n := m) (i := i)
        refine hno _ (by omega) ?_
        by_cases c : m = 0
        · have : pl m i = 390 + 5 * i := by unfold pl; rw [if_pos c]
          omega
        · have : pl m i = 90 + 5 * (6 * m + i) := by unfold pl; rw [if_neg c]
          have : lm m = 6 := by unfold lm; rw [if_neg c]
          omega
      refine ⟨id, by rw [eT]; exact f1, ?_, ?_, ?_, ?_, ?_, ?_⟩
      · rw [h14o m i hm (by omega) e 14 (Or.inl rfl)]; exact f2
      · have := hd 0 (by omega)
        rw [Nat.add_zero] at this
        rw [this, hs 9 _ (by omega) (by omega) (by omega)]; exact f3
      · rw [hd 1 (by omega), hs 10 _ (by omega) (by omega) (by omega)]; exact f4
      · rw [hd 2 (by omega), hs 11 _ (by omega) (by omega) (by omega)]; exact f5
      · rw [hd 3 (by omega), hs 12 _ (by omega) (by omega) (by omega)]; exact f6
      · rw [hd 4 (by omega), h14o m i hm (by omega) e 15 (Or.inr rfl)]; exact f7
  · rw [eS, h13]
    by_cases e : m = n
    · rw [if_pos e, if_pos e]
    · rw [if_neg e, if_neg e]; exact (g7 m hm).1
  · rw [eS]
    by_cases e : m = n
    · subst e; rw [if_pos rfl]; omega
    · rw [if_neg e]; exact (g7 m hm).2.1
  · rw [eS] at hj
    have hlm := (g7 m hm).2.1
    have hl60 := lm_le m
    by_cases e : m = n
    · subst e
      rw [if_pos rfl] at hj
      rw [h14 14 _ (Or.inl rfl), h14 14 _ (Or.inl rfl), if_pos (by omega), if_pos (by omega)]
      exact a3 (i + 1) (j + 1) (by omega) (by omega)
    · rw [if_neg e] at hj
      rw [h14o m i hm (by omega) e 14 (Or.inl rfl), h14o m j hm (by omega) e 14 (Or.inl rfl)]
      exact (g7 m hm).2.2 i j hij hj
end RS
/-! the loops that move -/
theorem mvl {n : Nat} (hn : n < 10) : ∀ (k i : Nat) (ρ : TB), 1 ≤ i → i + k ≤ 60 → ∀ r c, kfor (mrMove (nI n)) k i ρ r c = if (r = 6 ∨ r = 7) ∧ 60 * n + i - 1 ≤ c ∧ c < 60 * n + i - 1 + k then ρ r (c + 1) else ρ r c
  | 0, i, ρ, _, _, r, c => by rw [if_neg (fun q => by omega)]; rfl
  | k + 1, i, ρ, h1, h2, r, c => by
    show kfor (mrMove (nI n)) k (i + 1) (mrMove (nI n) i ρ) r c = _
    have e1 : (nI n * 60 + nI i - 1).toNatClampNeg = 60 * n + i - 1 := by
      rw [show (60 : Int32) = nI 60 from rfl, pk_mul, nI_add, show (1 : Int32) = nI 1 from rfl, pk_sub (by omega), nI_clamp (by omega), Nat.mul_comm]
    have e2 : ∀ r c, mrMove (nI n) i ρ r c = if (r = 6 ∨ r = 7) ∧ c = 60 * n + i - 1 then ρ r (c + 1) else ρ r c := fun r c => by
      unfold mrMove
      rw [e1, mrAt_n hn (by omega), u2_v, u2_v]
      by_cases c7 : r = 7 ∧ c = 60 * n + i - 1
      · rw [if_pos c7, if_pos ⟨Or.inr c7.1, c7.2⟩, c7.1, c7.2, show 60 * n + i - 1 + 1 = 60 * n + i by omega]
      · rw [if_neg c7]
        by_cases c6 : r = 6 ∧ c = 60 * n + i - 1
        · rw [if_pos c6, if_pos ⟨Or.inl c6.1, c6.2⟩, c6.1, c6.2, show 60 * n + i - 1 + 1 = 60 * n + i by omega]
        · rw [if_neg c6, if_neg (fun q => q.1.elim (fun q1 => c6 ⟨q1, q.2⟩) (fun q1 => c7 ⟨q1, q.2⟩))]
    rw [mvl hn k (i + 1) _ (by omega) (by omega) r c, e2, e2]
    by_cases hr : r = 6 ∨ r = 7
    · by_cases d1 : 60 * n + (i + 1) - 1 ≤ c ∧ c < 60 * n + (i + 1) - 1 + k
      · rw [if_pos ⟨hr, d1⟩, if_neg (fun q => by omega), if_pos ⟨hr, by omega⟩]
      · rw [if_neg (fun q => d1 q.2)]
        by_cases d2 : c = 60 * n + i - 1
        · rw [if_pos ⟨hr, d2⟩, if_pos ⟨hr, by omega⟩]
        · rw [if_neg (fun q => d2 q.2), if_neg (fun q => by omega)]
    · rw [if_neg (fun q => hr q.1), if_neg (fun q => hr q.1), if_neg (fun q => hr q.1)]
theorem wrl {i j : Nat} (hd : i + 5 ≤ j ∨ j + 5 ≤ i) : ∀ (k c0 : Nat) (κ : TB), c0 + k ≤ 5 → ∀ c, kfor (mdWr1 i j) k c0 κ 1 c = if j + c0 ≤ c ∧ c < j + c0 + k then κ 1 (i + (c - j)) else κ 1 c
  | 0, c0, κ, _, c => by rw [if_neg (fun q => by omega)]; rfl
  | k + 1, c0, κ, h, c => by
    show kfor (mdWr1 i j) k (c0 + 1) (mdWr1 i j c0 κ) 1 c = _
    have e2 : ∀ c, mdWr1 i j c0 κ 1 c = if c = j + c0 then κ 1 (i + c0) else κ 1 c := fun c => by
      unfold mdWr1
      rw [u2_v]
      by_cases d : c = j + c0
      · rw [if_pos ⟨rfl, d⟩, if_pos d]
      · rw [if_neg (fun q => d q.2), if_neg d]
    rw [wrl hd k (c0 + 1) _ (by omega) c, e2, e2]
    by_cases d1 : j + (c0 + 1) ≤ c ∧ c < j + (c0 + 1) + k
    · rw [if_pos d1, if_neg (by omega), if_pos (by omega)]
    · rw [if_neg d1]
      by_cases d2 : c = j + c0
      · rw [if_pos d2, if_pos (by omega), show c - j = c0 by omega]
      · rw [if_neg d2, if_neg (by omega)]
theorem mdWrite_v {i j c : Nat} {κ : TB} {v : Int32} (hd : i + 5 ≤ j ∨ j + 5 ≤ i) : mdWrite κ i j v 1 c = if j ≤ c ∧ c < j + 5 then (if c = j + 4 then κ 1 (i + 4) + v else κ 1 (i + (c - j))) else κ 1 c := by
  unfold mdWrite mdAdd
  rw [u2_v, wrl hd 5 0 κ (by omega), wrl hd 5 0 κ (by omega)]
  by_cases d : c = j + 4
  · rw [if_pos ⟨rfl, d⟩, if_pos (by omega), if_pos (by omega), if_pos d, show j + 4 - j = 4 by omega]
  · rw [if_neg (fun q => d q.2)]
    by_cases d2 : j ≤ c ∧ c < j + 5
    · rw [if_pos (by omega), if_pos d2, if_neg d]
    · rw [if_neg (by omega), if_neg d2]
theorem rml {b m : Nat} : ∀ (k i : Nat) (κ : TB) (c : Nat), kfor (mdRem1 b m) k i κ 1 c = if b + 90 + 5 * (6 * m + i) ≤ c ∧ c < b + 90 + 5 * (6 * m + i) + 5 * k then κ 1 (c + 5) else κ 1 c
  | 0, i, κ, c => by rw [if_neg (fun q => by omega)]; rfl
  | k + 1, i, κ, c => by
    show kfor (mdRem1 b m) k (i + 1) (mdRem1 b m i κ) 1 c = _
    have e2 : ∀ c, mdRem1 b m i κ 1 c = if b + 90 + 5 * (6 * m + i) ≤ c ∧ c < b + 90 + 5 * (6 * m + i) + 5 then κ 1 (c + 5) else κ 1 c := fun c => by
      unfold mdRem1
      rw [mdWrite_v (by omega)]
      by_cases d : b + 90 + 5 * (6 * m + i) ≤ c ∧ c < b + 90 + 5 * (6 * m + i) + 5
      · rw [if_pos d, if_pos d]
        by_cases d2 : c = b + 90 + 5 * (6 * m + i) + 4
        · rw [if_pos d2, Int32.add_zero, show b + 90 + 5 * (6 * m + (i + 1)) + 4 = c + 5 by omega]
        · rw [if_neg d2, show b + 90 + 5 * (6 * m + (i + 1)) + (c - (b + 90 + 5 * (6 * m + i))) = c + 5 by omega]
      · rw [if_neg d, if_neg d]
    rw [rml k (i + 1) _ c, e2, e2]
    by_cases d1 : b + 90 + 5 * (6 * m + (i + 1)) ≤ c ∧ c < b + 90 + 5 * (6 * m + (i + 1)) + 5 * k
    · rw [if_pos d1, if_neg (by omega), if_pos (by omega)]
    · rw [if_neg d1]
      by_cases d2 : b + 90 + 5 * (6 * m + i) ≤ c ∧ c < b + 90 + 5 * (6 * m + i) + 5
      · rw [if_pos d2, if_pos (by omega)]
      · rw [if_neg d2, if_neg (by omega)]
