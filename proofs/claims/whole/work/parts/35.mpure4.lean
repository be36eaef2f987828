/-! THE REFERENCE: rows that stay, carrying out a text -/
theorem row_kfor {r : Nat} {f : Nat → (Nat → Nat → Int32) → (Nat → Nat → Int32)} (hf : ∀ (j : Nat) (ξ : Nat → Nat → Int32), f j ξ r = ξ r) (k i : Nat) (κ : Nat → Nat → Int32) : kfor f k i κ r = κ r := kfor_inv (fun z : Nat → Nat → Int32 => z r = κ r) (fun j z h => (hf j z).trans h) k i κ rfl
theorem mdInc_r {r : Nat} (hr : r ≠ 1) (κ : Nat → Nat → Int32) (i : Nat) : mdInc κ i r = κ r := u2_ne hr
theorem mdDrop_r {r : Nat} (hr : r ≠ 1) (κ : Nat → Nat → Int32) (b m : Nat) : mdDrop κ b m r = κ r := by unfold mdDrop; rw [mdInc_r hr, u2_ne hr, u2_ne hr]
theorem mdClock_r {r : Nat} (hr : r ≠ 1) (κ : Nat → Nat → Int32) (b m n : Nat) : mdClock κ b m n r = κ r := by unfold mdClock; rw [row_kfor (fun j ξ => by unfold mdShift1; rw [u2_ne hr]), u2_ne hr]
theorem mdFollow_r {r : Nat} (hr : r ≠ 1) (κ : Nat → Nat → Int32) (b m n : Nat) : mdFollow κ b m n r = κ r := by unfold mdFollow mdF3 mdF2 mdF1; rw [mdClock_r hr, u2_ne hr, u2_ne hr, u2_ne hr]
theorem mdHear_r {r : Nat} (hr : r ≠ 1) (κ : Nat → Nat → Int32) (b m n : Nat) : mdHear κ b m n r = κ r := by
  unfold mdHear
  split
  · split
    · exact mdFollow_r hr κ b m n
    · exact mdDrop_r hr κ b m
  · split
    · exact mdFollow_r hr κ b m n
    · rfl
theorem mdHear1_r {r : Nat} (hr : r ≠ 1) (κ : Nat → Nat → Int32) (b n m : Nat) : mdHear1 b n m κ r = κ r := by
  unfold mdHear1
  split
  · exact mdHear_r hr κ b m n
  · rfl
theorem mdHeard_r {r : Nat} (hr : r ≠ 1) (κ : Nat → Nat → Int32) (b n : Nat) : mdHeard κ b n r = κ r := row_kfor (fun j ξ => mdHear1_r hr ξ b n j) _ _ _
theorem mdLose_r {r : Nat} (hr : r ≠ 1) (κ : Nat → Nat → Int32) (b n : Nat) : mdLose κ b n r = κ r := by
  unfold mdLose
  split
  · exact mdDrop_r hr κ b n
  · rfl
theorem mdWrite_r {r : Nat} (hr : r ≠ 1) (κ : Nat → Nat → Int32) (i j : Nat) (v : Int32) : mdWrite κ i j v r = κ r := by unfold mdWrite mdAdd; rw [u2_ne hr, row_kfor (fun k ξ => by unfold mdWr1; rw [u2_ne hr])]
theorem mdHand_r {r : Nat} (hr : r ≠ 1) (κ : Nat → Nat → Int32) (b i n : Nat) (v : Int32) : mdHand κ b i n v r = κ r := by
  unfold mdHand
  split
  · split
    · exact mdInc_r hr κ _
    · rw [mdInc_r hr, mdWrite_r hr]
  · split
    · exact mdInc_r hr κ _
    · split
      · exact mdInc_r hr κ _
      · rw [mdInc_r hr, mdWrite_r hr]
theorem mdRemove_r {r : Nat} (hr : r ≠ 1) (κ : Nat → Nat → Int32) (b m : Nat) : mdRemove κ b m r = κ r := by unfold mdRemove; rw [row_kfor (fun k ξ => by unfold mdRem1; rw [mdWrite_r hr]), u2_ne hr]
theorem mdSend2_r {r : Nat} (hr : r ≠ 1) (κ : Nat → Nat → Int32) (b m : Nat) (c : Bool) : mdSend2 κ b m c r = κ r := by
  unfold mdSend2
  split
  · rfl
  · split
    · rw [mdInc_r hr, u2_ne hr]
    · exact mdRemove_r hr κ b m
theorem mdSend_r {r : Nat} (hr : r ≠ 1) (κ : Nat → Nat → Int32) (b m p : Nat) : mdSend κ b m p r = κ r := by
  unfold mdSend
  split
  · rfl
  · rw [mdSend2_r hr, mdHand_r hr, mdInc_r hr]
theorem mdSendA_r {r : Nat} (hr : r ≠ 1) (κ : Nat → Nat → Int32) (b m : Nat) : mdSendA κ b m r = κ r := by
  unfold mdSendA
  split
  · rfl
  · exact mdSend_r hr κ b m _
theorem mdTurn_r {r : Nat} (hr : r ≠ 1) (κ : Nat → Nat → Int32) (b n : Nat) : mdTurn κ b n r = κ r := by
  unfold mdTurn
  split
  · split
    · rw [mdSendA_r hr, mdHeard_r hr, mdLose_r hr]
    · rw [mdHeard_r hr, mdLose_r hr]
  · rfl
theorem mdSlot_r {r : Nat} (hr : r ≠ 1) (κ : Nat → Nat → Int32) (b : Nat) : mdSlot κ b r = κ r := by unfold mdSlot; rw [mdInc_r hr, mdTurn_r hr]
theorem mdRun_r {r : Nat} (hr : r ≠ 1) (κ : Nat → Nat → Int32) (b k : Nat) : mdRun κ b k r = κ r := row_kfor (fun j ξ => mdSlot_r hr ξ b) _ _ _
theorem mdLink_r {r : Nat} (hr : r ≠ 1) (κ : Nat → Nat → Int32) (a b : Nat) (v : Int32) : mdLink κ a b v r = κ r := by unfold mdLink; rw [u2_ne hr, u2_ne hr]
theorem mdPower_r {r : Nat} (hr : r ≠ 1) (κ : Nat → Nat → Int32) (n : Nat) (v : Int32) : mdPower κ n v r = κ r := u2_ne hr
theorem mdTake_r {r : Nat} (hr : r ≠ 1) (κ : Nat → Nat → Int32) (m : Nat) (v : Int32) : mdTake κ m v r = κ r := by unfold mdTake mdTk5 mdTk4 mdTk3 mdTk2 mdTk1; rw [mdInc_r hr, mdInc_r hr, mdInc_r hr, u2_ne hr, u2_ne hr, u2_ne hr, u2_ne hr, u2_ne hr]
theorem mdSave_r {r : Nat} (hr : r ≠ 1) (hr0 : r ≠ 0) (κ : Nat → Nat → Int32) (z : Nat) : mdSave κ z r = κ r := by
  unfold mdSave
  split
  · rw [mdLay_0 _ _ _ _ hr, u2_ne hr0, u2_ne hr0, mdShiftAll_0 _ _ hr]
  · rw [mdLay_0 _ _ _ _ hr, u2_ne hr0]
theorem mdSave_0 (κ : Nat → Nat → Int32) (z c : Nat) (hc : c ≠ 0) : mdSave κ z 0 c = κ 0 c := by
  unfold mdSave
  split
  · rw [mdLay_0 _ _ _ _ (by decide), u2_nk hc, u2_nk hc, mdShiftAll_0 _ _ (by decide)]
  · rw [mdLay_0 _ _ _ _ (by decide), u2_nk hc]
def xa (κ : Nat → Nat → Int32) : Nat := (κ 0 4).toNatClampNeg
def xb (κ : Nat → Nat → Int32) : Nat := (κ 0 5).toNatClampNeg
def xp (κ : Nat → Nat → Int32) : Nat := (κ 0 3).toNatClampNeg
def mdDo (κ : Nat → Nat → Int32) (s : Int32) : Nat → Nat → Int32 := if s = 33 then mdPower κ (xa κ) (if mdOn κ 0 (xa κ) = true then 0 else 1) else if s = 43 then mdLink κ (xa κ) (xb κ) 1 else if s = 45 then mdLink κ (xa κ) (xb κ) 0 else if s = 116 then mdTake κ (xa κ) (κ 0 5) else mdRun κ 0 (xa κ)
def mdDoR (κ : Nat → Nat → Int32) (s : Int32) : Int32 := if s = 33 then mdOnes (mdPower κ (xa κ) (if mdOn κ 0 (xa κ) = true then 0 else 1) 1 10) else if s = 43 then mdLinks (mdLink κ (xa κ) (xb κ) 1) else if s = 45 then mdLinks (mdLink κ (xa κ) (xb κ) 0) else if s = 116 then mdTake κ (xa κ) (κ 0 5) 1 (0 + 20 + 7 * xa κ + 5) - 1 else mdRunR κ 0 (xa κ)
theorem mdDo_r {r : Nat} (hr : r ≠ 1) (κ : Nat → Nat → Int32) (s : Int32) : mdDo κ s r = κ r := by
  unfold mdDo
  split
  · exact mdPower_r hr κ _ _
  · split
    · exact mdLink_r hr κ _ _ _
    · split
      · exact mdLink_r hr κ _ _ _
      · split
        · exact mdTake_r hr κ _ _
        · exact mdRun_r hr κ _ _
/-- what a command may stand on -/
def okDo (κ : Nat → Nat → Int32) (s : Int32) : Prop := (s = 33 ∧ κ 0 4 = nI (xa κ) ∧ xa κ < 10) ∨ ((s = 43 ∨ s = 45) ∧ κ 0 4 = nI (xa κ) ∧ xa κ < 10 ∧ κ 0 5 = nI (xb κ) ∧ xb κ < 10) ∨ (s = 116 ∧ κ 0 4 = nI (xa κ) ∧ 0 < xa κ ∧ xa κ < 10) ∨ (s = 114 ∧ κ 0 4 = nI (xa κ) ∧ 0 < xa κ ∧ xa κ ≤ 100)
abbrev xc (f : Nat → Int32) (t : Nat) (κ : Nat → Nat → Int32) : Int32 × Nat × Int32 × Int32 := xC f t (xp κ) (κ 0 4) (κ 0 5)
def xk (f : Nat → Int32) (t : Nat) (κ : Nat → Nat → Int32) : Nat → Nat → Int32 := x3 κ (xc f t κ).2.1 (xc f t κ).2.2.1 (xc f t κ).2.2.2
def xR (f : Nat → Int32) (t : Nat) : Nat → Nat → (Nat → Nat → Int32) → Int32 × (Nat → Nat → Int32)
  | 0, i, κ => (nI i, κ)
  | k + 1, i, κ => if xp κ < t then (if (xc f t κ).1 = 116 ∧ mdCan (xk f t κ) (xa (xk f t κ)) = false then (nI i, xk f t κ) else xR f t k (i + 1) (u2 (mdDo (xk f t κ) (xc f t κ).1) 0 3 (nI ((xc f t κ).2.1 + 1)))) else (nI i, κ)
theorem nI_cl {n : Nat} (h : n < 2 ^ 31) : nI (nI n).toNatClampNeg = nI n := by rw [nI_clamp h]
theorem xNL_v {f : Nat → Int32} {t : Nat} {g : Nat} (hg : g < 1000) : ∀ (k v : Nat) (p : Nat), v ≤ g → ∃ v2 : Nat, (xNL f t (nI g) k (nI v) p).1 = nI v2 ∧ v ≤ v2 ∧ v2 ≤ g
  | 0, v, p, h => ⟨v, rfl, Nat.le_refl v, h⟩
  | k + 1, v, p, h => by
    unfold xNL
    split
    · rename_i hc
      obtain ⟨d, h1, h2, h3⟩ := xH_dig (by decide) hc.2.1
      have e : 10 * nI v + f p - 48 = nI (10 * v + d) := by
        rw [h2, show (10 : Int32) = nI 10 from rfl, pk_mul, nI_add, show (48 : Int32) = nI 48 from rfl, pk_sub (by omega), show 10 * v + (48 + d) - 48 = 10 * v + d by omega]
      have hle := hc.2.2
      rw [e, nI_leI (by omega) (by omega)] at hle
      rw [e]
      obtain ⟨v2, a1, a2, a3⟩ := xNL_v hg k (10 * v + d) (p + 1) hle
      exact ⟨v2, a1, by omega, a3⟩
    · exact ⟨v, rfl, Nat.le_refl v, h⟩
theorem xN_v {f : Nat → Int32} {t p g : Nat} {l : Int32} (hg : g < 1000) (hg9 : 9 ≤ g) (h : ¬ (xN f t p l (nI g)).1 = -1) : ∃ v : Nat, (xN f t p l (nI g)).1 = nI v ∧ v ≤ g ∧ (¬ l = 0 → 0 < v) := by
  unfold xN at *
  by_cases hd : (xD f t p (if l = 0 then 48 else 49)).1 = -1
  · exfalso
    have e : ∀ k, (xNL f t (nI g) k (xD f t p (if l = 0 then 48 else 49)).1 (xD f t p (if l = 0 then 48 else 49)).2).1 = -1 := by
      intro k
      rw [hd]
      cases k with
      | zero => rfl
      | succ k => rw [xNL, if_neg (fun q => absurd q.1 (by decide))]
    exact h (e t)
  · have hl : 48 ≤ (if l = 0 then (48 : Int32) else 49) := by split <;> decide
    obtain ⟨h1, h2, h3, d, h4, h5, h6⟩ := xD_dig hl hd
    rw [h6] at *
    obtain ⟨v2, a1, a2, a3⟩ := xNL_v (f := f) (t := t) hg t d (xD f t p (if l = 0 then 48 else 49)).2 (by omega)
    refine ⟨v2, a1, a3, fun hl0 => ?_⟩
    have h7 := (xH_in h1).1
    rw [if_neg hl0, h5, show (49 : Int32) = nI 49 from rfl, nI_leI (by omega) (by omega)] at h7
    omega
theorem okDo_c {f : Nat → Int32} {t : Nat} {κ : Nat → Nat → Int32} (h : ¬ (xc f t κ).1 = 32) : okDo (xk f t κ) (xc f t κ).1 := by
  have key : ∀ (p : Nat) (o w s : Int32), ¬ (xCs f t p o w s).1 = 32 → ∀ ξ : Nat → Nat → Int32, okDo (x3 ξ (xCs f t p o w s).2.1 (xCs f t p o w s).2.2.1 (xCs f t p o w s).2.2.2) (xCs f t p o w s).1 := by
    intro p o w s hs ξ
    have h4 : ∀ (p2 : Nat) (o2 w2 : Int32), x3 ξ p2 o2 w2 0 4 = o2 := fun _ _ _ => rfl
    have h5 : ∀ (p2 : Nat) (o2 w2 : Int32), x3 ξ p2 o2 w2 0 5 = w2 := fun _ _ _ => rfl
    unfold xCs at *
    by_cases c1 : s = 33
    · rw [if_pos c1] at *
      by_cases c2 : (xD f t (p + 1) 48).1 = -1
      · rw [if_pos c2] at hs
        exact absurd rfl hs
      · obtain ⟨-, -, -, d, hd, -, e⟩ := xD_dig (by decide) c2
        refine Or.inl ⟨if_neg c2, ?_, ?_⟩
        · unfold xa; rw [h4, e, nI_clamp (by omega)]
        · unfold xa; rw [h4, e, nI_clamp (by omega)]; exact hd
    · rw [if_neg c1] at *
      by_cases c2 : s = 43 ∨ s = 45
      · rw [if_pos c2] at *
        by_cases c3 : (xRL f t (p + 1) w).1 = true
        · have e1 : (if (xRL f t (p + 1) w).1 = true then s else 32) = s := if_pos c3
          have c4 := c3
          unfold xRL at c4
          by_cases c5 : (xD f t (p + 1) 48).1 = -1 ∨ ((xD f t (p + 1) 48).2 < t ∧ f (xD f t (p + 1) 48).2 - 48 = (xD f t (p + 1) 48).1)
          · rw [if_pos c5] at c4
            exact absurd (show false = true from c4) Bool.false_ne_true
          · rw [if_neg c5] at c4
            have c6 : ¬ (xD f t (xD f t (p + 1) 48).2 48).1 = -1 := by simpa using c4
            obtain ⟨-, -, -, d, hd, -, e⟩ := xD_dig (by decide) (fun q => c5 (Or.inl q))
            obtain ⟨-, -, -, d2, hd2, -, e2⟩ := xD_dig (by decide) c6
            have e3 : (xRL f t (p + 1) w).2 = ((xD f t (xD f t (p + 1) 48).2 48).2, (xD f t (p + 1) 48).1, (xD f t (xD f t (p + 1) 48).2 48).1) := by unfold xRL; rw [if_neg c5]
            refine Or.inr (Or.inl ⟨?_, ?_, ?_, ?_, ?_⟩)
            · show (if (xRL f t (p + 1) w).1 = true then s else 32) = 43 ∨ (if (xRL f t (p + 1) w).1 = true then s else 32) = 45
              rw [e1]; exact c2
            · unfold xa; rw [h4, e3]; show (xD f t (p + 1) 48).1 = _; rw [e, nI_clamp (by omega)]
            · unfold xa; rw [h4, e3]; show (xD f t (p + 1) 48).1.toNatClampNeg < 10; rw [e, nI_clamp (by omega)]; exact hd
            · unfold xb; rw [h5, e3]; show (xD f t (xD f t (p + 1) 48).2 48).1 = _; rw [e2, nI_clamp (by omega)]
            · unfold xb; rw [h5, e3]; show (xD f t (xD f t (p + 1) 48).2 48).1.toNatClampNeg < 10; rw [e2, nI_clamp (by omega)]; exact hd2
        · rw [if_neg c3] at hs
          exact absurd rfl hs
      · rw [if_neg c2] at *
        by_cases c3 : s = 114
        · rw [if_pos c3] at *
          by_cases c4 : (xN f t (p + 1) 1 100).1 = -1
          · rw [if_pos c4] at hs
            exact absurd rfl hs
          · obtain ⟨v, e, hv, hv0⟩ := xN_v (g := 100) (by decide) (by decide) c4
            refine Or.inr (Or.inr (Or.inr ⟨if_neg c4, ?_, ?_, ?_⟩))
            · unfold xa; rw [h4]; show (xN f t (p + 1) 1 100).1 = nI (xN f t (p + 1) 1 100).1.toNatClampNeg; rw [show (xN f t (p + 1) 1 100).1 = nI v from e, nI_clamp (by omega)]
            · unfold xa; rw [h4]; show 0 < (xN f t (p + 1) 1 100).1.toNatClampNeg; rw [show (xN f t (p + 1) 1 100).1 = nI v from e, nI_clamp (by omega)]; exact hv0 (by decide)
            · unfold xa; rw [h4]; show (xN f t (p + 1) 1 100).1.toNatClampNeg ≤ 100; rw [show (xN f t (p + 1) 1 100).1 = nI v from e, nI_clamp (by omega)]; exact hv
        · rw [if_neg c3] at *
          by_cases c4 : s = 116
          · rw [if_pos c4] at *
            by_cases c5 : (xRT f t (p + 1) w).1 = true
            · have c6 := c5
              unfold xRT at c6
              by_cases c7 : (xD f t (p + 1) 49).1 = -1 ∨ xH f t (xD f t (p + 1) 49).2 44 44 = false
              · rw [if_pos c7] at c6
                exact absurd (show false = true from c6) Bool.false_ne_true
              · obtain ⟨c8, -, -, d, hd, e5, e⟩ := xD_dig (by decide) (fun q => c7 (Or.inl q))
                have hd0 : 0 < d := by
                  have h7 := (xH_in c8).1
                  rw [e5, show (49 : Int32) = nI 49 from rfl, nI_leI (by omega) (by omega)] at h7
                  omega
                have e3 : (xRT f t (p + 1) w).2.2.1 = (xD f t (p + 1) 49).1 := by unfold xRT; rw [if_neg c7]
                refine Or.inr (Or.inr (Or.inl ⟨if_pos c5, ?_, ?_, ?_⟩))
                · unfold xa; rw [h4, e3, e, nI_clamp (by omega)]
                · unfold xa; rw [h4, e3, e, nI_clamp (by omega)]; exact hd0
                · unfold xa; rw [h4, e3, e, nI_clamp (by omega)]; exact hd
            · rw [if_neg c5] at hs
              exact absurd rfl hs
          · rw [if_neg c4] at hs
            exact absurd rfl hs
  exact key _ _ _ _ h κ
