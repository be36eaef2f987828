/-! WHAT HOLDS BETWEEN TWO CALLS of the law -/
theorem xor6_neg (x : Int32) : x ^^^ 6 < 0 ↔ x < 0 := by
  rw [neg_msb, neg_msb, Int32.toBitVec_xor, BitVec.msb_xor]
  have h : (6 : Int32).toBitVec.msb = false := by decide
  rw [h]
  simp
theorem mFloor_6 {t : Nat} (ht : t < 2 ^ 31) : mFloor (nI t) 6 = nI (t % 6) := by
  unfold mFloor
  rw [if_neg (fun q => absurd ((xor6_neg _).mp q.1) (nI_pos ht)), show (6 : Int32) = nI 6 from rfl, pk_rem ht (by decide) (by decide)]
theorem shl_all : ∀ (k i : Nat) (κ : TB) (c : Nat), kfor mdLays k i κ 1 c = if 690 * i ≤ c ∧ c < 690 * (i + k) then κ 1 (c + 690) else κ 1 c
  | 0, i, κ, c => by rw [if_neg (fun q => by omega)]; rfl
  | k + 1, i, κ, c => by
    rw [kfor_s, shl_all k (i + 1) _ c]
    have e2 : ∀ c, mdLays i κ 1 c = if 690 * i ≤ c ∧ c < 690 * i + 690 then κ 1 (c + 690) else κ 1 c := fun c => by
      unfold mdLays
      rw [mdLay_v (by omega)]
      by_cases d : 690 * i ≤ c ∧ c < 690 * i + 690
      · rw [if_pos d, if_pos d, show 690 * (i + 1) + (c - 690 * i) = c + 690 by omega]
      · rw [if_neg d, if_neg d]
    rw [e2, e2]
    by_cases d1 : 690 * (i + 1) ≤ c ∧ c < 690 * (i + 1 + k)
    · rw [if_pos d1, if_neg (by omega), if_pos (by omega)]
    · rw [if_neg d1]
      by_cases d2 : 690 * i ≤ c ∧ c < 690 * i + 690
      · rw [if_pos d2, if_pos (by omega)]
      · rw [if_neg d2, if_neg (by omega)]
/-- the saved states, as both hold them -/
def lawH (n : Nat) (κ : TB) (o z : Int32) (rg : Nat → Option Nat) (og : Nat → Option ((Nat → Nat) × TB)) : Prop :=
  ∃ o' z' : Nat, o = nI o' ∧ o' < 6 ∧ z = nI z' ∧ z' ≤ 6 ∧ κ 0 0 = nI z' ∧ (∀ j, j < 6 → rg j = ogA (og j)) ∧ ∀ i, i < z' → ∃ g, og ((o' + i) % 6) = some g ∧ Rel g.2 κ (690 * (i + 1)) (8000 * n)
def lawX (τ κ : TB) : Prop := (∃ t, t ≤ 80 ∧ τ 0 0 = nI t ∧ κ 0 1 = nI t) ∧ (∀ k, k < 80 → τ 1 k = κ 2 k) ∧ okT (τ 1)
def lawI (n : Nat) (σ τ κ : TB) (o z : Int32) (rg : Nat → Option Nat) (og : Nat → Option ((Nat → Nat) × TB)) : Prop := Rel σ κ 0 (8000 * n) ∧ lawX τ κ ∧ lawH n κ o z rg og
section LI
variable {n : Nat} {σ σ2 τ τ2 κ κ2 : TB} {o z : Int32} {rg : Nat → Option Nat} {og : Nat → Option ((Nat → Nat) × TB)}
theorem lawH_of (h : lawH n κ o z rg og) (h0 : κ2 0 0 = κ 0 0) (h1 : ∀ c, 690 ≤ c → c < 4830 → κ2 1 c = κ 1 c) {k : Nat} (hk : n ≤ k) : lawH k κ2 o z rg og := by
  obtain ⟨o', z', a1, a2, a3, a4, a5, a6, a7⟩ := h
  refine ⟨o', z', a1, a2, a3, a4, by rw [h0]; exact a5, a6, fun i hi => ?_⟩
  obtain ⟨g, g1, g2⟩ := a7 i hi
  exact ⟨g, g1, Rel_mono (Rel_congr g2 (fun _ _ _ _ => rfl) (fun c hc => h1 _ (by omega) (by omega))) (by omega)⟩
theorem lawX_of (h : lawX τ κ) (h0 : κ2 0 1 = κ 0 1) (h2 : κ2 2 = κ 2) : lawX τ κ2 := by
  obtain ⟨⟨t, t1, t2, t3⟩, h3, h4⟩ := h
  exact ⟨⟨t, t1, t2, by rw [h0]; exact t3⟩, fun k hk => by rw [h2]; exact h3 k hk, h4⟩
/-- the class's object stays, the reference's notes alone change -/
theorem lawI_same (h : lawI n σ τ κ o z rg og) (h00 : κ2 0 0 = κ 0 0) (h01 : κ2 0 1 = κ 0 1) (h1 : ∀ c, c < 4830 → κ2 1 c = κ 1 c) (h2 : κ2 2 = κ 2) : lawI (n + 1) σ τ κ2 o z rg og :=
  ⟨Rel_mono (Rel_congr h.1 (fun _ _ _ _ => rfl) (fun c hc => h1 _ (by omega))) (by omega), lawX_of h.2.1 h01 h2, lawH_of h.2.2 h00 (fun c _ hc => h1 c hc) (Nat.le_succ n)⟩
theorem lawI_thr (h : lawI n σ τ κ o z rg og) (x : Int32) : lawI (n + 1) σ τ (u2 κ 0 2 x) o z rg og := lawI_same h rfl rfl (fun _ _ => rfl) rfl
/-- the state's block alone has changed -/
theorem lawI_blk (h : lawI n σ τ κ o z rg og) (hR : Rel σ2 κ2 0 (8000 * (n + 1))) (hf : fr 0 κ κ2) (h00 : κ2 0 0 = κ 0 0) (h01 : κ2 0 1 = κ 0 1) (h2 : κ2 2 = κ 2) : lawI (n + 1) σ2 τ κ2 o z rg og :=
  ⟨hR, lawX_of h.2.1 h01 h2, lawH_of h.2.2 h00 (fun c h1 _ => hf c (by omega)) (Nat.le_succ n)⟩
theorem lawI_save (h : lawI n σ τ κ o z rg og) : ∃ j z' : Nat, j < 6 ∧ κ 0 0 = nI z' ∧ z' ≤ 6 ∧ mFloor (o + z) 6 = nI j ∧ rg j = ogA (og j) ∧
    ∀ g' : Nat → Nat, lawI n σ τ (mdSave (u2 κ 0 2 0) z') (mhO o z) (mhZ z) (va_up rg j (some (g' 0))) (fun i => if i = j then some (g', msCopy (ogB (og j)) σ) else og i) := by
  obtain ⟨hR, hX, o', z', a1, a2, a3, a4, a5, a6, a7⟩ := h
  have hj : (o' + z') % 6 < 6 := Nat.mod_lt _ (by decide)
  refine ⟨(o' + z') % 6, z', hj, a5, a4, ?_, a6 _ hj, fun g' => ?_⟩
  · rw [a1, a3, nI_add, mFloor_6 (by omega)]
  obtain ⟨j, ej⟩ : ∃ x, x = (o' + z') % 6 := ⟨_, rfl⟩
  rw [← ej] at hj ⊢
  have hrg : ∀ i, i < 6 → va_up rg j (some (g' 0)) i = ogA (if i = j then some (g', msCopy (ogB (og j)) σ) else og i) := fun i hi => by
    unfold va_up
    by_cases c : i = j
    · rw [if_pos c, if_pos c]; rfl
    · rw [if_neg c, if_neg c]; exact a6 i hi
  have hx1 : lawX τ (mdSave (u2 κ 0 2 0) z') := lawX_of hX (by rw [mdSave_0 _ _ _ (by omega)]; rfl) (by rw [mdSave_r (by omega) (by omega)]; rfl)
  by_cases c6 : z' = 6
  · subst c6
    have eo : mhO o z = nI ((o' + 1) % 6) := by
      unfold mhO
      rw [a3, if_pos (show (6 : Int32) ≤ nI 6 by decide), a1, nI_1, mFloor_6 (by omega)]
    have ez : mhZ z = nI 6 := by unfold mhZ; rw [a3, if_pos (show (6 : Int32) ≤ nI 6 by decide)]
    obtain ⟨κs, eκ⟩ : ∃ x, x = mdSave (u2 κ 0 2 0) 6 := ⟨_, rfl⟩
    have hv : ∀ c, κs 1 c = if 690 * 6 ≤ c ∧ c < 690 * 6 + 690 then κ 1 (c - 4140) else if 690 ≤ c ∧ c < 4140 then κ 1 (c + 690) else κ 1 c := fun c => by
      rw [eκ]
      unfold mdSave
      rw [if_pos rfl, mdLay_v (by omega)]
      have e : ∀ c, (u2 (u2 (mdShiftAll (u2 κ 0 2 0)) 0 0 (nI (6 - 1))) 0 0 (nI (6 - 1 + 1))) 1 c = if 690 ≤ c ∧ c < 4140 then κ 1 (c + 690) else κ 1 c := fun c => by
        rw [u2_no (fun q => by omega), u2_no (fun q => by omega)]
        unfold mdShiftAll
        rw [shl_all]
        rfl
      rw [e, e]
      by_cases d : 690 * 6 ≤ c ∧ c < 690 * 6 + 690
      · rw [if_pos d, if_pos d, if_neg (by omega), show 690 * 0 + (c - 690 * (6 - 1 + 1)) = c - 4140 by omega]
      · rw [if_neg d, if_neg d]
    rw [← eκ] at hx1 ⊢
    refine ⟨Rel_congr hR (fun _ _ _ _ => rfl) (fun c hc => by rw [hv, if_neg (by omega), if_neg (by omega)]), hx1, (o' + 1) % 6, 6, eo, Nat.mod_lt _ (by decide), ez, by omega, ?_, hrg, fun i hi => ?_⟩
    · rw [eκ]
      unfold mdSave
      rw [if_pos rfl, mdLay_0 _ _ _ _ (by omega), u2_ye rfl rfl]
    · by_cases ci : i = 5
      · subst ci
        have e : ((o' + 1) % 6 + 5) % 6 = j := by omega
        refine ⟨(g', msCopy (ogB (og j)) σ), by rw [e]; exact if_pos rfl, Rel_copy (Rel_congr hR (fun _ _ _ _ => rfl) (fun c hc => ?_))⟩
        rw [hv, if_pos (by omega), show 690 * (5 + 1) + c - 4140 = 0 + c by omega]
      · have e : ((o' + 1) % 6 + i) % 6 = (o' + (i + 1)) % 6 := by omega
        have ne : ¬ (o' + (i + 1)) % 6 = j := by omega
        obtain ⟨g, g1, g2⟩ := a7 (i + 1) (by omega)
        refine ⟨g, by rw [e]; exact (if_neg ne).trans g1, Rel_congr g2 (fun _ _ _ _ => rfl) (fun c hc => ?_)⟩
        rw [hv, if_neg (by omega), if_pos (by omega), show 690 * (i + 1) + c + 690 = 690 * (i + 1 + 1) + c by omega]
  · have eo : mhO o z = nI o' := by
      unfold mhO
      rw [a3, show (6 : Int32) = nI 6 from rfl, if_neg (nI_ge (by omega) (by decide))]; exact a1
    have ez : mhZ z = nI (z' + 1) := by
      unfold mhZ
      rw [a3, show (6 : Int32) = nI 6 from rfl, if_neg (nI_ge (by omega) (by decide)), nI_1]
    obtain ⟨κs, eκ⟩ : ∃ x, x = mdSave (u2 κ 0 2 0) z' := ⟨_, rfl⟩
    have hv : ∀ c, κs 1 c = if 690 * (z' + 1) ≤ c ∧ c < 690 * (z' + 1) + 690 then κ 1 (c - 690 * (z' + 1)) else κ 1 c := fun c => by
      rw [eκ]
      unfold mdSave
      rw [if_neg c6, mdLay_v (by omega)]
      by_cases d : 690 * (z' + 1) ≤ c ∧ c < 690 * (z' + 1) + 690
      · rw [if_pos d, if_pos d, show 690 * 0 + (c - 690 * (z' + 1)) = c - 690 * (z' + 1) by omega]; rfl
      · rw [if_neg d, if_neg d]; rfl
    rw [← eκ] at hx1 ⊢
    refine ⟨Rel_congr hR (fun _ _ _ _ => rfl) (fun c hc => by rw [hv, if_neg (by omega)]), hx1, o', z' + 1, eo, a2, ez, by omega, ?_, hrg, fun i hi => ?_⟩
    · rw [eκ]
      unfold mdSave
      rw [if_neg c6, mdLay_0 _ _ _ _ (by omega), u2_ye rfl rfl]
    · by_cases ci : i = z'
      · subst ci
        refine ⟨(g', msCopy (ogB (og j)) σ), by rw [← ej]; exact if_pos rfl, Rel_copy (Rel_congr hR (fun _ _ _ _ => rfl) (fun c hc => ?_))⟩
        rw [hv, if_pos (by omega), show 690 * (i + 1) + c - 690 * (i + 1) = 0 + c by omega]
      · have ne : ¬ (o' + i) % 6 = j := by omega
        obtain ⟨g, g1, g2⟩ := a7 i (by omega)
        refine ⟨g, (if_neg ne).trans g1, Rel_congr g2 (fun _ _ _ _ => rfl) (fun c hc => ?_)⟩
        rw [hv, if_neg (by omega)]
theorem lawI_undo (h : lawI n σ τ κ o z rg og) : (z = 0 ∧ κ 0 0 = nI 0) ∨ ∃ j z' : Nat, ∃ g : (Nat → Nat) × TB, ¬ z = 0 ∧ j < 6 ∧ κ 0 0 = nI z' ∧ z' ≤ 6 ∧ 0 < z' ∧ mFloor (o + z - 1) 6 = nI j ∧ og j = some g ∧ rg j = some (g.1 0) ∧ (if z ≤ 0 then z else z - 1) = nI (z' - 1) ∧ zbit (g.2 1) 100 ∧ zbit (g.2 2) 10 ∧
    lawI (n + 1) (msCopy σ g.2) τ (u2 (mdLay (u2 κ 0 2 0) z' 0) 0 0 (nI (z' - 1))) o (nI (z' - 1)) rg og := by
  obtain ⟨hR, hX, o', z', a1, a2, a3, a4, a5, a6, a7⟩ := h
  rcases Nat.eq_zero_or_pos z' with c | c
  · subst c
    exact Or.inl ⟨a3, a5⟩
  · right
    obtain ⟨g, g1, g2⟩ := a7 (z' - 1) (by omega)
    have hj : (o' + (z' - 1)) % 6 < 6 := Nat.mod_lt _ (by decide)
    rw [show 690 * (z' - 1 + 1) = 690 * z' by rw [show z' - 1 + 1 = z' by omega]] at g2
    have hv : ∀ c, (u2 (mdLay (u2 κ 0 2 0) z' 0) 0 0 (nI (z' - 1))) 1 c = if 690 * 0 ≤ c ∧ c < 690 * 0 + 690 then κ 1 (690 * z' + (c - 690 * 0)) else κ 1 c := fun c => by
      rw [u2_no (fun q => by omega), mdLay_v (by omega)]
      rfl
    refine ⟨(o' + (z' - 1)) % 6, z', g, ?_, hj, a5, a4, c, ?_, g1, ?_, ?_, (Rel_zbit g2).1, (Rel_zbit g2).2, ?_⟩
    · rw [a3]; exact nI_ne0 c (by omega)
    · rw [a1, a3, nI_add, show (1 : Int32) = nI 1 from rfl, pk_sub (by omega), mFloor_6 (by omega), show o' + z' - 1 = o' + (z' - 1) by omega]
    · rw [a6 _ hj, g1]; rfl
    · rw [a3, if_neg (nI_nle c (by omega)), show (1 : Int32) = nI 1 from rfl, pk_sub (by omega)]
    · refine ⟨Rel_mono (Rel_copy (Rel_congr g2 (fun _ _ _ _ => rfl) (fun c hc => ?_))) (by omega), lawX_of hX ?_ ?_, o', z' - 1, a1, a2, rfl, by omega, u2_ye rfl rfl, a6, fun i hi => ?_⟩
      · rw [hv, if_pos (by omega), show 690 * z' + (0 + c - 690 * 0) = 690 * z' + c by omega]
      · rw [u2_no (fun _ => by omega), mdLay_0 _ _ _ _ (by omega)]; rfl
      · rw [u2_ne (by omega), mdLay_0 _ _ _ _ (by omega)]; rfl
      · obtain ⟨g3, g4, g5⟩ := a7 i (by omega)
        exact ⟨g3, g4, Rel_mono (Rel_congr g5 (fun _ _ _ _ => rfl) (fun c hc => by rw [hv, if_neg (by omega)])) (by omega)⟩
end LI
