/-! THE RELATION of a State's table σ and the reference's row from b on -/
abbrev TB := Nat → Nat → Int32
theorem u2_v {σ : TB} {r k r1 k1 : Nat} {x : Int32} : u2 σ r k x r1 k1 = if r1 = r ∧ k1 = k then x else σ r1 k1 := by
  unfold u2 upd
  by_cases h : r1 = r
  · subst h
    rw [if_pos rfl]
    by_cases h2 : k1 = k
    · rw [if_pos h2, if_pos ⟨rfl, h2⟩]
    · rw [if_neg h2, if_neg (fun q => h2 q.2)]
  · rw [if_neg h, if_neg (fun q => h q.1)]
theorem u2_no {σ : TB} {r k r1 k1 : Nat} {x : Int32} (h : r1 = r → k1 ≠ k) : u2 σ r k x r1 k1 = σ r1 k1 := by rw [u2_v, if_neg (fun q => h q.1 q.2)]
theorem u2_ye {σ : TB} {r k r1 k1 : Nat} {x : Int32} (h : r1 = r) (h2 : k1 = k) : u2 σ r k x r1 k1 = x := by rw [u2_v, if_pos ⟨h, h2⟩]
def sT (σ : TB) : Nat := (σ 8 0).toNatClampNeg
def sK (σ : TB) (n : Nat) : Nat := (σ 13 n).toNatClampNeg
def lm (n : Nat) : Nat := if n = 0 then 60 else 6
def pl (n i : Nat) : Nat := if n = 0 then 390 + 5 * i else 90 + 5 * (6 * n + i)
def pz (n : Nat) : Nat := if n = 0 then 19 else 26 + 7 * n
def cnt (f : Nat → Int32) (m : Nat) : Nat → Nat
  | 0 => 0
  | k + 1 => cnt f m k + (if f k = nI m then 1 else 0)
def bt (x : Int32) (j : Nat) : Int32 := (x >>> (nI j &&& 31)) &&& 1
def nk (c : Nat) : Nat := if c = 11 then 1 else if c = 12 then 0 else c - 12
def ro (o : Nat) : Nat := if o = 0 then 6 else if o < 4 then o + 2 else 7
theorem nk_inj {c d : Nat} (h1 : 11 ≤ c) (h2 : c ≠ 13) (h3 : 11 ≤ d) (h4 : d ≠ 13) (h : nk c = nk d) : c = d := by
  unfold nk at h
  split at h <;> split at h <;> (try split at h) <;> (try split at h) <;> omega
theorem ro_inj {o p : Nat} (h1 : o < 5) (h2 : p < 5) (h : ro o = ro p) : o = p := by
  unfold ro at h
  split at h <;> split at h <;> (try split at h) <;> (try split at h) <;> omega
theorem ro_lt (o : Nat) : 3 ≤ ro o ∧ ro o ≤ 7 := by
  unfold ro
  split
  · omega
  · split <;> omega
theorem nk_lt {c : Nat} (h : c < 19) : nk c < 7 := by
  unfold nk
  split
  · omega
  · split <;> omega
theorem lm_le (n : Nat) : lm n ≤ 60 := by unfold lm; split <;> omega
theorem pl_ge {n i : Nat} : 120 ≤ pl n i := by unfold pl; split <;> omega
theorem pl_lt {n i : Nat} (hn : n < 10) (hi : i < lm n) : pl n i + 5 ≤ 690 := by
  unfold lm at hi
  unfold pl
  split at hi <;> simp_all <;> omega
theorem pl_inj {n i d n2 i2 d2 : Nat} (hn : n < 10) (hi : i < lm n) (hd : d < 5) (hn2 : n2 < 10) (hi2 : i2 < lm n2) (hd2 : d2 < 5) (h : pl n i + d = pl n2 i2 + d2) : n = n2 ∧ i = i2 ∧ d = d2 := by
  unfold lm at hi hi2
  unfold pl at h
  by_cases c1 : n = 0 <;> by_cases c2 : n2 = 0 <;> simp only [c1, c2, if_true, if_false] at hi hi2 h <;> exact ⟨by omega, by omega, by omega⟩
theorem pz_lt {n : Nat} (hn : n < 10) : 19 ≤ pz n ∧ pz n ≤ 89 ∧ pz n ≠ 26 := by unfold pz; split <;> omega
theorem pz_inj {n m : Nat} (h : pz n = pz m) : n = m := by
  unfold pz at h
  split at h <;> split at h <;> omega
theorem pz_ne {n m o : Nat} (ho : o < 6) : pz n ≠ 20 + 7 * m + o := by unfold pz; split <;> omega
theorem cnt_of {f g : Nat → Int32} {m : Nat} : ∀ {k : Nat}, (∀ j, j < k → g j = f j) → cnt g m k = cnt f m k
  | 0, _ => rfl
  | k + 1, h => by
    show cnt g m k + _ = cnt f m k + _
    rw [cnt_of (fun j hj => h j (by omega)), h k (by omega)]
theorem cnt_le {f : Nat → Int32} {m : Nat} : ∀ {k : Nat}, cnt f m k ≤ k
  | 0 => Nat.le_refl 0
  | k + 1 => by
    have := cnt_le (f := f) (m := m) (k := k)
    show cnt f m k + _ ≤ k + 1
    split <;> omega
theorem cnt_mono {f : Nat → Int32} {m : Nat} : ∀ {j k : Nat}, j ≤ k → cnt f m j ≤ cnt f m k
  | j, 0, h => by rw [Nat.le_zero.mp h]; exact Nat.le_refl _
  | j, k + 1, h => by
    by_cases e : j = k + 1
    · rw [e]; exact Nat.le_refl _
    · have := cnt_mono (f := f) (m := m) (j := j) (k := k) (by omega)
      show _ ≤ cnt f m k + _
      omega
theorem cnt_lt {f : Nat → Int32} {m j k : Nat} (h : j < k) (hj : f j = nI m) : cnt f m j < cnt f m k := by
  have h1 : cnt f m (j + 1) ≤ cnt f m k := cnt_mono h
  have h2 : cnt f m (j + 1) = cnt f m j + 1 := by show _ + _ = _; rw [if_pos hj]
  omega
def rA (σ κ : TB) (b : Nat) : Prop := (∀ c, 11 ≤ c → c < 19 → c ≠ 13 → κ 1 (b + c) = σ 0 (nk c)) ∧ κ 1 (b + 13) = σ 8 0 ∧ κ 1 (b + 26) = 0
def rB (σ κ : TB) (b : Nat) : Prop := ∀ n o, n < 10 → o < 5 → κ 1 (b + 20 + 7 * n + o) = σ (ro o) n
def rX (σ κ : TB) (b : Nat) : Prop := ∀ n, n < 10 → κ 1 (b + 20 + 7 * n + 5) = nI (cnt (σ 9) n (sT σ))
def rL (σ κ : TB) (b : Nat) : Prop := (∀ a j, a < 10 → j < 10 → σ 1 (10 * a + j) = bt (κ 1 (b + a)) j) ∧ ∀ j, j < 10 → σ 2 j = bt (κ 1 (b + 10)) j
def rE (σ κ : TB) (b n i : Nat) : Prop := ∃ id, id < sT σ ∧ σ 14 (60 * n + i) = nI id ∧ κ 1 (b + pl n i) = σ 9 id ∧ κ 1 (b + pl n i + 1) = σ 10 id ∧ κ 1 (b + pl n i + 2) = σ 11 id ∧ κ 1 (b + pl n i + 3) = σ 12 id ∧ κ 1 (b + pl n i + 4) = σ 15 (60 * n + i)
def rC (σ κ : TB) (b : Nat) : Prop := ∀ n, n < 10 → κ 1 (b + pz n) = σ 13 n ∧ ∀ i, i < sK σ n → rE σ κ b n i
def iT (σ : TB) (B : Nat) : Prop := (∃ t, σ 0 0 = nI t ∧ t ≤ B) ∧ σ 8 0 = nI (sT σ) ∧ sT σ ≤ 60
def iK (σ : TB) : Prop := ∀ n, n < 10 → σ 13 n = nI (sK σ n) ∧ sK σ n ≤ lm n ∧ ∀ i j, i < j → j < sK σ n → σ 14 (60 * n + i) ≠ σ 14 (60 * n + j)
def iR (σ : TB) : Prop := ∀ id, id < sT σ → ∃ m, 0 < m ∧ m < 10 ∧ σ 9 id = nI m ∧ σ 10 id = nI (cnt (σ 9) m id)
def iP (σ : TB) : Prop := σ 3 0 = -1 ∧ ∀ n, n < 10 → σ 3 n = -1 ∨ ∃ p, p < 10 ∧ σ 3 n = nI p
def Rel (σ κ : TB) (b B : Nat) : Prop := rA σ κ b ∧ rB σ κ b ∧ rX σ κ b ∧ rL σ κ b ∧ rC σ κ b ∧ iT σ B ∧ iK σ ∧ iR σ ∧ iP σ
section RO
variable {σ σ2 κ κ2 : TB} {b b2 B : Nat}
theorem rA_of (h : rA σ κ b) (h0 : ∀ k, k < 7 → σ2 0 k = σ 0 k) (h8 : σ2 8 0 = σ 8 0) (hk : ∀ c, 11 ≤ c → c < 19 → κ2 1 (b2 + c) = κ 1 (b + c)) (h26 : κ2 1 (b2 + 26) = κ 1 (b + 26)) : rA σ2 κ2 b2 :=
  ⟨fun c h1 h2 h3 => by rw [hk c h1 h2, h0 _ (nk_lt h2)]; exact h.1 c h1 h2 h3, by rw [hk 13 (by omega) (by omega), h8]; exact h.2.1, by rw [h26]; exact h.2.2⟩
theorem rB_of (h : rB σ κ b) (hs : ∀ o n, o < 5 → n < 10 → σ2 (ro o) n = σ (ro o) n) (hk : ∀ n o, n < 10 → o < 5 → κ2 1 (b2 + 20 + 7 * n + o) = κ 1 (b + 20 + 7 * n + o)) : rB σ2 κ2 b2 :=
  fun n o hn ho => by rw [hk n o hn ho, hs o n ho hn]; exact h n o hn ho
theorem rX_of (h : rX σ κ b) (hT : σ2 8 0 = σ 8 0) (h9 : ∀ j, j < sT σ → σ2 9 j = σ 9 j) (hk : ∀ n, n < 10 → κ2 1 (b2 + 20 + 7 * n + 5) = κ 1 (b + 20 + 7 * n + 5)) : rX σ2 κ2 b2 :=
  fun n hn => by
    have e : sT σ2 = sT σ := by unfold sT; rw [hT]
    rw [hk n hn, e, cnt_of h9]
    exact h n hn
theorem rL_of (h : rL σ κ b) (h1 : ∀ k, k < 100 → σ2 1 k = σ 1 k) (h2 : ∀ k, k < 10 → σ2 2 k = σ 2 k) (hk : ∀ c, c < 11 → κ2 1 (b2 + c) = κ 1 (b + c)) : rL σ2 κ2 b2 :=
  ⟨fun a j ha hj => by rw [h1 _ (by omega), hk a (by omega)]; exact h.1 a j ha hj, fun j hj => by rw [h2 j hj, hk 10 (by omega)]; exact h.2 j hj⟩
theorem rC_of (h : rC σ κ b) (hK : iK σ) (hT : σ2 8 0 = σ 8 0) (h13 : ∀ n, n < 10 → σ2 13 n = σ 13 n) (h14 : ∀ k, k < 600 → σ2 14 k = σ 14 k) (h15 : ∀ k, k < 600 → σ2 15 k = σ 15 k) (hR : ∀ r, 9 ≤ r → r < 13 → ∀ j, j < sT σ → σ2 r j = σ r j) (hz : ∀ n, n < 10 → κ2 1 (b2 + pz n) = κ 1 (b + pz n)) (hp : ∀ n i d, n < 10 → i < lm n → d < 5 → κ2 1 (b2 + pl n i + d) = κ 1 (b + pl n i + d)) : rC σ2 κ2 b2 :=
  fun n hn => by
    have e : sT σ2 = sT σ := by unfold sT; rw [hT]
    have eK : sK σ2 n = sK σ n := by unfold sK; rw [h13 n hn]
    refine ⟨by rw [hz n hn, h13 n hn]; exact (h n hn).1, fun i hi => ?_⟩
    rw [eK] at hi
    have hl : i < lm n := Nat.lt_of_lt_of_le hi (hK n hn).2.1
    have h60 : lm n ≤ 60 := lm_le n
    obtain ⟨id, g1, g2, g3, g4, g5, g6, g7⟩ := (h n hn).2 i hi
    refine ⟨id, by rw [e]; exact g1, by rw [h14 _ (by omega)]; exact g2, ?_, ?_, ?_, ?_, ?_⟩
    · have := hp n i 0 hn hl (by omega)
      rw [Nat.add_zero, Nat.add_zero] at this
      rw [this, hR 9 (by omega) (by omega) id g1]; exact g3
    · rw [hp n i 1 hn hl (by omega), hR 10 (by omega) (by omega) id g1]; exact g4
    · rw [hp n i 2 hn hl (by omega), hR 11 (by omega) (by omega) id g1]; exact g5
    · rw [hp n i 3 hn hl (by omega), hR 12 (by omega) (by omega) id g1]; exact g6
    · rw [hp n i 4 hn hl (by omega), h15 _ (by omega)]; exact g7
theorem iT_of (h : iT σ B) (h0 : σ2 0 0 = σ 0 0) (hT : σ2 8 0 = σ 8 0) : iT σ2 B := by
  have e : sT σ2 = sT σ := by unfold sT; rw [hT]
  unfold iT
  rw [h0, hT, e]
  exact h
theorem iK_of (h : iK σ) (h13 : ∀ n, n < 10 → σ2 13 n = σ 13 n) (h14 : ∀ k, k < 600 → σ2 14 k = σ 14 k) : iK σ2 := fun n hn => by
  have eK : sK σ2 n = sK σ n := by unfold sK; rw [h13 n hn]
  have h60 : lm n ≤ 60 := lm_le n
  obtain ⟨g1, g2, g3⟩ := h n hn
  rw [eK, h13 n hn]
  refine ⟨g1, g2, fun i j hij hj => ?_⟩
  rw [h14 _ (by omega), h14 _ (by omega)]
  exact g3 i j hij hj
theorem iR_of (h : iR σ) (hT : σ2 8 0 = σ 8 0) (hR : ∀ r, 9 ≤ r → r < 13 → ∀ j, j < sT σ → σ2 r j = σ r j) : iR σ2 := fun id hid => by
  have e : sT σ2 = sT σ := by unfold sT; rw [hT]
  rw [e] at hid
  obtain ⟨m, h1, h2, h3, h4⟩ := h id hid
  refine ⟨m, h1, h2, by rw [hR 9 (by omega) (by omega) id hid]; exact h3, ?_⟩
  rw [hR 10 (by omega) (by omega) id hid, cnt_of (fun j hj => hR 9 (by omega) (by omega) j (by omega))]
  exact h4
theorem iP_of (h : iP σ) (h3 : ∀ n, n < 10 → σ2 3 n = σ 3 n) : iP σ2 := ⟨by rw [h3 0 (by omega)]; exact h.1, fun n hn => by rw [h3 n hn]; exact h.2 n hn⟩
theorem Rel_congr (h : Rel σ κ b B) (hs : ∀ r k, r < 16 → k < rw_len r → σ2 r k = σ r k) (hk : ∀ c, c < 690 → κ2 1 (b2 + c) = κ 1 (b + c)) : Rel σ2 κ2 b2 B := by
  obtain ⟨g1, g2, g3, g4, g5, g6, g7, g8, g9⟩ := h
  have hT : σ2 8 0 = σ 8 0 := hs 8 0 (by omega) (by decide)
  have hT60 := g6.2.2
  have hR : ∀ r, 9 ≤ r → r < 13 → ∀ j, j < sT σ → σ2 r j = σ r j := fun r h1 h2 j hj => by
    refine hs r j (by omega) ?_
    have e : rw_len r = 60 := by unfold rw_len; rw [if_neg (by omega), if_neg (by omega), if_neg (by omega), if_neg (by omega), if_pos h2]
    omega
  have h13 : ∀ n, n < 10 → σ2 13 n = σ 13 n := fun n hn => hs 13 n (by omega) hn
  have h14 : ∀ n, n < 600 → σ2 14 n = σ 14 n := fun n hn => hs 14 n (by omega) hn
  have h15 : ∀ n, n < 600 → σ2 15 n = σ 15 n := fun n hn => hs 15 n (by omega) hn
  have hkk : ∀ c d, c + d < 690 → κ2 1 (b2 + c + d) = κ 1 (b + c + d) := fun c d h => by
    have := hk (c + d) h
    rwa [← Nat.add_assoc, ← Nat.add_assoc] at this
  refine ⟨rA_of g1 (fun k hk2 => hs 0 k (by omega) hk2) hT (fun c h1 h2 => hk c (by omega)) (hk 26 (by omega)), rB_of g2 (fun o n ho hn => ?_) (fun n o hn ho => ?_), rX_of g3 hT (fun j hj => hR 9 (by omega) (by omega) j hj) (fun n hn => ?_), rL_of g4 (fun k hk2 => hs 1 k (by omega) hk2) (fun k hk2 => hs 2 k (by omega) hk2) (fun c hc => hk c (by omega)), rC_of g5 g7 hT h13 h14 h15 hR (fun n hn => hk _ (by have := pz_lt hn; omega)) (fun n i d hn hi hd => hkk _ _ (by have := pl_lt hn hi; omega)), iT_of g6 (hs 0 0 (by omega) (by decide)) hT, iK_of g7 h13 h14, iR_of g8 hT hR, iP_of g9 (fun n hn => hs 3 n (by omega) hn)⟩
  · have h1 := ro_lt o
    refine hs (ro o) n (by omega) ?_
    unfold rw_len
    rw [if_neg (by omega), if_neg (by omega), if_pos (by omega)]
    exact hn
  · have := hkk (20 + 7 * n) o (by omega)
    rwa [← Nat.add_assoc, ← Nat.add_assoc] at this
  · have := hkk (20 + 7 * n) 5 (by omega)
    rwa [← Nat.add_assoc, ← Nat.add_assoc] at this
theorem Rel_mono {B2 : Nat} (h : Rel σ κ b B) (hB : B ≤ B2) : Rel σ κ b B2 := by
  obtain ⟨g1, g2, g3, g4, g5, ⟨⟨t, ht, h1⟩, h2⟩, g7, g8, g9⟩ := h
  exact ⟨g1, g2, g3, g4, g5, ⟨⟨t, ht, by omega⟩, h2⟩, g7, g8, g9⟩
/-! one cell written on both sides -/
theorem Rel_num (h : Rel σ κ b B) (c : Nat) (h1 : 11 ≤ c) (h2 : c < 19) (h3 : c ≠ 13) (h4 : c ≠ 12) (x : Int32) : Rel (u2 σ 0 (nk c) x) (u2 κ 1 (b + c) x) b B := by
  obtain ⟨g1, g2, g3, g4, g5, g6, g7, g8, g9⟩ := h
  refine ⟨⟨fun d e1 e2 e3 => ?_, ?_, ?_⟩, rB_of g2 (fun o n ho hn => ?_) (fun n o hn ho => ?_), rX_of g3 rfl (fun _ _ => rfl) (fun n hn => ?_), rL_of g4 (fun _ _ => rfl) (fun _ _ => rfl) (fun d hd => ?_), rC_of g5 g7 rfl (fun _ _ => rfl) (fun _ _ => rfl) (fun _ _ => rfl) (fun r e1 e2 j _ => ?_) (fun n hn => ?_) (fun n i d hn hi hd => ?_), iT_of g6 ?_ rfl, iK_of g7 (fun _ _ => rfl) (fun _ _ => rfl), iR_of g8 rfl (fun r e1 e2 j _ => ?_), iP_of g9 (fun _ _ => rfl)⟩
  · by_cases e : d = c
    · subst e
      rw [u2_ye rfl rfl, u2_ye rfl rfl]
    · rw [u2_no (fun _ => by omega), u2_no (fun _ q => e (nk_inj e1 e3 h1 h3 q))]
      exact g1.1 d e1 e2 e3
  · rw [u2_no (fun _ => by omega)]; exact g1.2.1
  · rw [u2_no (fun _ => by omega)]; exact g1.2.2
  · have := ro_lt o
    exact u2_no (fun q => by omega)
  · exact u2_no (fun q => by omega)
  · exact u2_no (fun q => by omega)
  · exact u2_no (fun q => by omega)
  · exact u2_no (fun q => by omega)
  · have := pz_lt hn
    exact u2_no (fun q => by omega)
  · have := pl_ge (n := n) (i := i)
    exact u2_no (fun q => by omega)
  · refine u2_no (fun _ q => ?_)
    have e : nk 12 = nk c := q
    have := nk_inj (by omega) (by omega) h1 h3 e
    omega
  · exact u2_no (fun q => by omega)
theorem Rel_time (h : Rel σ κ b B) (hB : B < 2 ^ 30) : Rel (u2 σ 0 0 (σ 0 0 + 1)) (mdInc κ (b + 12)) b (B + 1) := by
  obtain ⟨g1, g2, g3, g4, g5, ⟨⟨t, ht, h1⟩, h2⟩, g7, g8, g9⟩ := h
  have e0 : κ 1 (b + 12) = σ 0 0 := g1.1 12 (by omega) (by omega) (by omega)
  unfold mdInc
  rw [e0]
  refine ⟨⟨fun d e1 e2 e3 => ?_, ?_, ?_⟩, rB_of g2 (fun o n ho hn => ?_) (fun n o hn ho => ?_), rX_of g3 rfl (fun _ _ => rfl) (fun n hn => ?_), rL_of g4 (fun _ _ => rfl) (fun _ _ => rfl) (fun d hd => ?_), rC_of g5 g7 rfl (fun _ _ => rfl) (fun _ _ => rfl) (fun _ _ => rfl) (fun r e1 e2 j _ => ?_) (fun n hn => ?_) (fun n i d hn hi hd => ?_), ⟨⟨t + 1, ?_, by omega⟩, h2⟩, iK_of g7 (fun _ _ => rfl) (fun _ _ => rfl), iR_of g8 rfl (fun r e1 e2 j _ => ?_), iP_of g9 (fun _ _ => rfl)⟩
  · by_cases e : d = 12
    · subst e
      rw [u2_ye rfl rfl, u2_ye rfl (show nk 12 = 0 from rfl)]
    · rw [u2_no (fun _ => by omega), u2_no (k := 0) (fun _ q => e (nk_inj (d := 12) e1 e3 (by omega) (by omega) (show nk d = nk 12 from q)))]
      exact g1.1 d e1 e2 e3
  · rw [u2_no (fun _ => by omega)]; exact g1.2.1
  · rw [u2_no (fun _ => by omega)]; exact g1.2.2
  · have := ro_lt o
    exact u2_no (fun q => by omega)
  · exact u2_no (fun q => by omega)
  · exact u2_no (fun q => by omega)
  · exact u2_no (fun q => by omega)
  · exact u2_no (fun q => by omega)
  · have := pz_lt hn
    exact u2_no (fun q => by omega)
  · have := pl_ge (n := n) (i := i)
    exact u2_no (fun q => by omega)
  · rw [u2_ye rfl rfl, ht, nI_1]
  · exact u2_no (fun q => by omega)
theorem Rel_node (h : Rel σ κ b B) (o : Nat) (ho : o < 5) (m : Nat) (hm : m < 10) (x : Int32) (hx : o = 1 → x = -1 ∨ (0 < m ∧ ∃ p, p < 10 ∧ x = nI p)) : Rel (u2 σ (ro o) m x) (u2 κ 1 (b + 20 + 7 * m + o) x) b B := by
  obtain ⟨g1, g2, g3, g4, g5, g6, g7, g8, g9⟩ := h
  have hro := ro_lt o
  refine ⟨rA_of g1 (fun k hk => u2_no (fun q => by omega)) (u2_no (fun q => by omega)) (fun c h1 h2 => u2_no (fun q => by omega)) (u2_no (fun q => by omega)), fun n p hn hp => ?_, rX_of g3 (u2_no (fun q => by omega)) (fun _ _ => u2_no (fun q => by omega)) (fun n hn => u2_no (fun q => by omega)), rL_of g4 (fun _ _ => u2_no (fun q => by omega)) (fun _ _ => u2_no (fun q => by omega)) (fun d hd => u2_no (fun q => by omega)), rC_of g5 g7 (u2_no (fun q => by omega)) (fun _ _ => u2_no (fun q => by omega)) (fun _ _ => u2_no (fun q => by omega)) (fun _ _ => u2_no (fun q => by omega)) (fun r e1 e2 j _ => u2_no (fun q => by omega)) (fun n hn => u2_no (fun q => ?_)) (fun n i d hn hi hd => u2_no (fun q => ?_)), iT_of g6 (u2_no (fun q => by omega)) (u2_no (fun q => by omega)), iK_of g7 (fun _ _ => u2_no (fun q => by omega)) (fun _ _ => u2_no (fun q => by omega)), iR_of g8 (u2_no (fun q => by omega)) (fun r e1 e2 j _ => u2_no (fun q => by omega)), ?_⟩
  · by_cases e : n = m ∧ p = o
    · obtain ⟨rfl, rfl⟩ := e
      rw [u2_ye rfl rfl, u2_ye rfl rfl]
    · rw [u2_no (fun _ => by omega), u2_no (fun q1 q2 => e ⟨q2, ro_inj hp ho q1⟩)]
      exact g2 n p hn hp
  · have := pz_ne (n := n) (m := m) (o := o) (by omega)
    omega
  · have := pl_ge (n := n) (i := i)
    omega
  · by_cases e : o = 1
    · subst e
      have e3 : ro 1 = 3 := rfl
      rw [e3]
      rcases hx rfl with rfl | ⟨hm0, p, hp, rfl⟩
      · refine ⟨?_, fun n hn => ?_⟩
        · rw [u2_v]; split
          · rfl
          · exact g9.1
        · rw [u2_v]; split
          · exact Or.inl rfl
          · exact g9.2 n hn
      · refine ⟨?_, fun n hn => ?_⟩
        · rw [u2_no (fun _ => by omega)]; exact g9.1
        · rw [u2_v]; split
          · exact Or.inr ⟨p, hp, rfl⟩
          · exact g9.2 n hn
    · refine iP_of g9 (fun n hn => u2_no (fun q => ?_))
      have : ro 1 = ro o := q
      exact absurd (ro_inj (by omega) ho this).symm e
theorem Rel_stamp (h : Rel σ κ b B) {n i : Nat} (hn : n < 10) (hi : i < lm n) (x : Int32) : Rel (u2 σ 15 (60 * n + i) x) (u2 κ 1 (b + pl n i + 4) x) b B := by
  obtain ⟨g1, g2, g3, g4, g5, g6, g7, g8, g9⟩ := h
  have hge := pl_ge (n := n) (i := i)
  refine ⟨rA_of g1 (fun _ _ => rfl) rfl (fun c h1 h2 => u2_no (fun q => by omega)) (u2_no (fun q => by omega)), rB_of g2 (fun o n ho hn => ?_) (fun n o hn ho => u2_no (fun q => by omega)), rX_of g3 rfl (fun _ _ => rfl) (fun n hn => u2_no (fun q => by omega)), rL_of g4 (fun _ _ => rfl) (fun _ _ => rfl) (fun d hd => u2_no (fun q => by omega)), fun m hm => ⟨?_, fun j hj => ?_⟩, iT_of g6 rfl rfl, iK_of g7 (fun _ _ => rfl) (fun _ _ => rfl), iR_of g8 rfl (fun r e1 e2 j _ => u2_no (fun q => by omega)), iP_of g9 (fun _ _ => rfl)⟩
  · have := ro_lt o
    exact u2_no (fun q => by omega)
  · have := pz_lt hm
    rw [u2_no (fun _ => by omega)]
    exact (g5 m hm).1
  · have hj2 : j < sK σ m := hj
    have hjl : j < lm m := Nat.lt_of_lt_of_le hj2 (g7 m hm).2.1
    have hl1 := lm_le m
    have hl2 := lm_le n
    obtain ⟨id, e1, e2, e3, e4, e5, e6, e7⟩ := (g5 m hm).2 j hj2
    have hne : ∀ d, d < 4 → b + pl m j + d ≠ b + pl n i + 4 := fun d hd q => by
      have := pl_inj hm hjl (show d < 5 by omega) hn hi (show 4 < 5 by omega) (by omega)
      omega
    refine ⟨id, e1, e2, ?_, ?_, ?_, ?_, ?_⟩
    · rw [u2_no (fun _ => show b + pl m j ≠ b + pl n i + 4 from hne 0 (by omega))]; exact e3
    · rw [u2_no (fun _ => hne 1 (by omega))]; exact e4
    · rw [u2_no (fun _ => hne 2 (by omega))]; exact e5
    · rw [u2_no (fun _ => hne 3 (by omega))]; exact e6
    · by_cases e : m = n ∧ j = i
      · obtain ⟨rfl, rfl⟩ := e
        rw [u2_ye rfl rfl, u2_ye rfl rfl]
      · rw [u2_no (fun _ q => e (by have := pl_inj hm hjl (show 4 < 5 by omega) hn hi (show 4 < 5 by omega) (by omega); exact ⟨this.1, this.2.1⟩)), u2_no (fun _ q => e (by omega))]
        exact e7
end RO
