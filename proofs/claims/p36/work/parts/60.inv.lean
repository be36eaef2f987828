/-! P36: WHAT HOLDS OF A STATE: the tree of parents, links both ways, counts, times, each reading in a list -/
def jT (σ : TB) (t : Nat) : Prop := σ 4 0 = 0 ∧ σ 6 0 = 0 ∧ ∀ m, 0 < m → m < 10 → (σ 3 m = -1 ∧ σ 4 m = -1) ∨ ∃ p d h, p < 10 ∧ p ≠ m ∧ d < 9 ∧ h ≤ t ∧ σ 3 m = nI p ∧ σ 4 m = nI (d + 1) ∧ σ 5 m = nI h ∧ (d = 0 → p = 0)
def jL (σ : TB) : Prop := ∀ a, a < 10 → σ 1 (10 * a + a) = 0 ∧ ∀ c, c < 10 → σ 1 (10 * a + c) = σ 1 (10 * c + a)
def jC (σ : TB) (t : Nat) : Prop := ∃ s d r, σ 0 2 = nI s ∧ σ 0 3 = nI d ∧ σ 0 4 = nI r ∧ d + r + sK σ 0 ≤ s ∧ s ≤ t
def jR (σ : TB) (t : Nat) : Prop := ∀ id, id < sT σ → ∃ u, u ≤ t ∧ σ 12 id = nI u
def jQ (σ : TB) (t : Nat) : Prop := ∀ i id, i < sK σ 0 → id < sT σ → σ 14 i = nI id → ∃ u, u < t ∧ σ 12 id = nI u
def jV (σ : TB) : Prop := ∀ id, id < sT σ → ∃ n i, n < 10 ∧ i < sK σ n ∧ σ 14 (60 * n + i) = nI id
def jF (σ : TB) (B : Nat) : Prop := (∃ p, p ≤ 5 ∧ σ 0 1 = nI p) ∧ ∀ m, m < 10 → (∃ f, f ≤ 9 ∧ σ 7 m = nI f) ∧ -(B : Int) ≤ (σ 6 m).toInt ∧ (σ 6 m).toInt ≤ B
section JO
variable {σ σ2 : TB} {t t2 B B2 : Nat}
theorem jT_of (h : jT σ t) (ht : t ≤ t2) (h3 : ∀ m, m < 10 → σ2 3 m = σ 3 m) (h4 : ∀ m, m < 10 → σ2 4 m = σ 4 m) (h5 : ∀ m, m < 10 → σ2 5 m = σ 5 m) (h6 : σ2 6 0 = σ 6 0) : jT σ2 t2 := by
  obtain ⟨a, b, c⟩ := h
  refine ⟨by rw [h4 0 (by omega)]; exact a, by rw [h6]; exact b, fun m m0 m1 => ?_⟩
  rcases c m m0 m1 with ⟨c1, c2⟩ | ⟨p, d, u, c1, c2, c3, c4, c5, c6, c7, c8⟩
  · exact Or.inl ⟨by rw [h3 m m1]; exact c1, by rw [h4 m m1]; exact c2⟩
  · exact Or.inr ⟨p, d, u, c1, c2, c3, by omega, by rw [h3 m m1]; exact c5, by rw [h4 m m1]; exact c6, by rw [h5 m m1]; exact c7, c8⟩
theorem jL_of (h : jL σ) (h1 : ∀ k, k < 100 → σ2 1 k = σ 1 k) : jL σ2 := fun a ha => ⟨by rw [h1 _ (by omega)]; exact (h a ha).1, fun c hc => by rw [h1 _ (by omega), h1 _ (by omega)]; exact (h a ha).2 c hc⟩
theorem sK_of {n : Nat} (h : σ2 13 n = σ 13 n) : sK σ2 n = sK σ n := by unfold sK; rw [h]
theorem sT_of (h : σ2 8 0 = σ 8 0) : sT σ2 = sT σ := by unfold sT; rw [h]
theorem jC_of (h : jC σ t) (ht : t ≤ t2) (h2 : σ2 0 2 = σ 0 2) (h3 : σ2 0 3 = σ 0 3) (h4 : σ2 0 4 = σ 0 4) (h13 : σ2 13 0 = σ 13 0) : jC σ2 t2 := by
  obtain ⟨s, d, r, a, b, c, e, f⟩ := h
  exact ⟨s, d, r, by rw [h2]; exact a, by rw [h3]; exact b, by rw [h4]; exact c, by rw [sK_of h13]; exact e, by omega⟩
theorem jR_of (h : jR σ t) (ht : t ≤ t2) (hT : σ2 8 0 = σ 8 0) (h12 : ∀ id, id < sT σ → σ2 12 id = σ 12 id) : jR σ2 t2 := fun id hid => by
  rw [sT_of hT] at hid
  obtain ⟨u, h1, h2⟩ := h id hid
  exact ⟨u, by omega, by rw [h12 id hid]; exact h2⟩
theorem jQ_of (h : jQ σ t) (ht : t ≤ t2) (hT : σ2 8 0 = σ 8 0) (h12 : ∀ id, id < sT σ → σ2 12 id = σ 12 id) (h13 : σ2 13 0 = σ 13 0) (h14 : ∀ i, i < sK σ 0 → σ2 14 i = σ 14 i) : jQ σ2 t2 := fun i id hi hid hl => by
  rw [sT_of hT] at hid
  rw [sK_of h13] at hi
  rw [h14 i hi] at hl
  obtain ⟨u, h1, h2⟩ := h i id hi hid hl
  exact ⟨u, by omega, by rw [h12 id hid]; exact h2⟩
theorem jV_of (h : jV σ) (hT : σ2 8 0 = σ 8 0) (h13 : σ2 13 = σ 13) (h14 : σ2 14 = σ 14) : jV σ2 := fun id hid => by
  rw [sT_of hT] at hid
  obtain ⟨n, i, h1, h2, h3⟩ := h id hid
  exact ⟨n, i, h1, by rw [sK_of (congrFun h13 n)]; exact h2, by rw [h14]; exact h3⟩
theorem jF_of (h : jF σ B) (hB : B ≤ B2) (h1 : σ2 0 1 = σ 0 1) (h7 : ∀ m, m < 10 → σ2 7 m = σ 7 m) (h6 : ∀ m, m < 10 → σ2 6 m = σ 6 m) : jF σ2 B2 := by
  obtain ⟨⟨p, a, b⟩, c⟩ := h
  refine ⟨⟨p, a, by rw [h1]; exact b⟩, fun m hm => ?_⟩
  rw [h7 m hm, h6 m hm]
  obtain ⟨c1, c2, c3⟩ := c m hm
  exact ⟨c1, by omega, by omega⟩
end JO
/-- in the midst of a slot: e more may have been sent than there were slots -/
def jS (t e B : Nat) (σ : TB) : Prop := σ 0 0 = nI t ∧ jT σ t ∧ jL σ ∧ jC σ (t + e) ∧ jR σ t ∧ jV σ ∧ jF σ B
section JS
variable {σ κ : TB} {t e B : Nat}
theorem mrShift_r (ρ : TB) (n a : Int32) {r : Nat} (hr : r ≠ 7) : mrShift ρ n a r = ρ r := kfor_inv (fun z : TB => z r = ρ r) (fun i z h => by show mrShift1 n a i z r = ρ r; rw [← h]; exact u2_ne hr) _ _ _ rfl
theorem follow_hi {m n r : Nat} (hr : 8 ≤ r) (h15 : r ≠ 15) : msFollow σ (nI m) (nI n) r = σ r := by
  unfold msFollow
  rw [u2_ne (by omega)]
  obtain ⟨r0, rfl⟩ : ∃ r0, r = 8 + r0 := ⟨r - 8, by omega⟩
  rw [wd_hi, mrShift_r _ _ _ (by omega)]
  rfl
theorem follow_lo {m n r k : Nat} (hm : m < 10) (hn : n < 10) (hr : r < 8) : msFollow σ (nI m) (nI n) r k = u2 (u2 (u2 (u2 σ 3 m (nI n)) 4 m (σ 4 n + 1)) 5 m (σ 0 0)) 6 m (σ 6 n) r k := by
  unfold msFollow
  rw [nI_clamp (by omega), nI_clamp (by omega), u2_v, u2_v, wd_lo hr]
theorem drop_v {m r k : Nat} (hm : m < 10) : msDrop σ (nI m) r k = u2 (u2 (u2 σ 3 m (-1)) 4 m (-1)) 0 6 (σ 0 6 + 1) r k := by
  unfold msDrop
  rw [nI_clamp (by omega)]
theorem drop_r {m r : Nat} (h0 : r ≠ 0) (h3 : r ≠ 3) (h4 : r ≠ 4) : msDrop σ (nI m) r = σ r := by
  unfold msDrop
  rw [u2_ne h0, u2_ne h4, u2_ne h3]
theorem jS_drop (h : jS t e B σ) {m : Nat} (hm0 : 0 < m) (hm : m < 10) : jS t e B (msDrop σ (nI m)) := by
  obtain ⟨h0, hT, hL, hC, hR, hV, hF⟩ := h
  have e0 : ∀ k, k ≠ 6 → msDrop σ (nI m) 0 k = σ 0 k := fun k hk => by rw [drop_v hm, u2_no (fun _ => hk), u2_no (fun q => by omega), u2_no (fun q => by omega)]
  have e3 : ∀ k, msDrop σ (nI m) 3 k = if k = m then -1 else σ 3 k := fun k => by
    rw [drop_v hm, u2_no (fun q => by omega), u2_no (fun q => by omega), u2_v]
    by_cases c : k = m
    · rw [if_pos ⟨rfl, c⟩, if_pos c]
    · rw [if_neg (fun q => c q.2), if_neg c]
  have e4 : ∀ k, msDrop σ (nI m) 4 k = if k = m then -1 else σ 4 k := fun k => by
    rw [drop_v hm, u2_no (fun q => by omega), u2_v]
    by_cases c : k = m
    · rw [if_pos ⟨rfl, c⟩, if_pos c]
    · rw [if_neg (fun q => c q.2), if_neg c, u2_no (fun q => by omega)]
  refine ⟨by rw [e0 0 (by omega)]; exact h0, ⟨by rw [e4, if_neg (by omega)]; exact hT.1, by rw [drop_r (by omega) (by omega) (by omega)]; exact hT.2.1, fun k k0 k1 => ?_⟩, jL_of hL (fun k _ => by rw [drop_r (by omega) (by omega) (by omega)]), jC_of hC (Nat.le_refl _) (e0 2 (by omega)) (e0 3 (by omega)) (e0 4 (by omega)) (by rw [drop_r (by omega) (by omega) (by omega)]), jR_of hR (Nat.le_refl _) (by rw [drop_r (by omega) (by omega) (by omega)]) (fun _ _ => by rw [drop_r (by omega) (by omega) (by omega)]), jV_of hV (by rw [drop_r (by omega) (by omega) (by omega)]) (drop_r (by omega) (by omega) (by omega)) (drop_r (by omega) (by omega) (by omega)), jF_of hF (Nat.le_refl _) (e0 1 (by omega)) (fun _ _ => by rw [drop_r (by omega) (by omega) (by omega)]) (fun _ _ => by rw [drop_r (by omega) (by omega) (by omega)])⟩
  rw [e3, e4, show msDrop σ (nI m) 5 = σ 5 from drop_r (by omega) (by omega) (by omega)]
  by_cases c : k = m
  · rw [if_pos c, if_pos c]; exact Or.inl ⟨rfl, rfl⟩
  · rw [if_neg c, if_neg c]; exact hT.2.2 k k0 k1
theorem leads_n (hT : jT σ t) {n : Nat} (hn : n < 10) (h : msLeads σ (nI n) = true) : ∃ d, d < 9 ∧ σ 4 n = nI d ∧ (d = 0 → n = 0) := by
  unfold msLeads at h
  rw [nI_clamp (by omega), Bool.and_eq_true, decide_eq_true_eq, decide_eq_true_eq] at h
  rcases Nat.eq_zero_or_pos n with c | c
  · subst c
    exact ⟨0, by omega, hT.1, fun _ => rfl⟩
  · rcases hT.2.2 n c hn with ⟨c1, c2⟩ | ⟨p, d, u, c1, c2, c3, c4, c5, c6, c7, c8⟩
    · exact absurd c2 h.1
    · have h2 := h.2
      rw [c6, show (9 : Int32) = nI 9 from rfl, nI_ltI (by omega) (by decide)] at h2
      exact ⟨d + 1, h2, c6, fun q => by omega⟩
theorem jS_follow (h : jS t e B σ) {m n : Nat} (hm0 : 0 < m) (hm : m < 10) (hn : n < 10) (hmn : m ≠ n) (hl : msLeads σ (nI n) = true) : jS t e B (msFollow σ (nI m) (nI n)) := by
  obtain ⟨h0, hT, hL, hC, hR, hV, hF⟩ := h
  obtain ⟨d, hd, e4n, hd0⟩ := leads_n hT hn hl
  obtain ⟨σ2, es⟩ : ∃ z, z = msFollow σ (nI m) (nI n) := ⟨_, rfl⟩
  rw [← es]
  have elo : ∀ r k, r < 8 → σ2 r k = u2 (u2 (u2 (u2 σ 3 m (nI n)) 4 m (σ 4 n + 1)) 5 m (σ 0 0)) 6 m (σ 6 n) r k := fun r k hr => by rw [es]; exact follow_lo hm hn hr
  have ehi : ∀ r, 8 ≤ r → r ≠ 15 → σ2 r = σ r := fun r h1 h2 => by rw [es]; exact follow_hi h1 h2
  have eo : ∀ r k, r < 8 → r ≠ 3 → r ≠ 4 → r ≠ 5 → r ≠ 6 → σ2 r k = σ r k := fun r k hr a b c d => by
    rw [elo r k hr, u2_no (fun q => absurd q d), u2_no (fun q => absurd q c), u2_no (fun q => absurd q b), u2_no (fun q => absurd q a)]
  have ek : ∀ r k, r < 8 → k ≠ m → σ2 r k = σ r k := fun r k hr hk => by
    rw [elo r k hr, u2_no (fun _ => hk), u2_no (fun _ => hk), u2_no (fun _ => hk), u2_no (fun _ => hk)]
  have e3 : σ2 3 m = nI n := by rw [elo 3 m (by omega), u2_no (fun q => by omega), u2_no (fun q => by omega), u2_no (fun q => by omega), u2_ye rfl rfl]
  have e4 : σ2 4 m = nI (d + 1) := by rw [elo 4 m (by omega), u2_no (fun q => by omega), u2_no (fun q => by omega), u2_ye rfl rfl, e4n, nI_1]
  have e5 : σ2 5 m = nI t := by rw [elo 5 m (by omega), u2_no (fun q => by omega), u2_ye rfl rfl, h0]
  have e6 : σ2 6 m = σ 6 n := by rw [elo 6 m (by omega), u2_ye rfl rfl]
  refine ⟨by rw [eo 0 0 (by omega) (by omega) (by omega) (by omega) (by omega)]; exact h0, ⟨by rw [ek 4 0 (by omega) (by omega)]; exact hT.1, by rw [ek 6 0 (by omega) (by omega)]; exact hT.2.1, fun k k0 k1 => ?_⟩, jL_of hL (fun k _ => eo 1 k (by omega) (by omega) (by omega) (by omega) (by omega)), jC_of hC (Nat.le_refl _) (eo 0 2 (by omega) (by omega) (by omega) (by omega) (by omega)) (eo 0 3 (by omega) (by omega) (by omega) (by omega) (by omega)) (eo 0 4 (by omega) (by omega) (by omega) (by omega) (by omega)) (by rw [ehi 13 (by omega) (by omega)]), jR_of hR (Nat.le_refl _) (by rw [ehi 8 (by omega) (by omega)]) (fun _ _ => by rw [ehi 12 (by omega) (by omega)]), jV_of hV (by rw [ehi 8 (by omega) (by omega)]) (ehi 13 (by omega) (by omega)) (ehi 14 (by omega) (by omega)), ?_⟩
  · by_cases c : k = m
    · subst c
      exact Or.inr ⟨n, d, t, hn, fun q => hmn q.symm, hd, Nat.le_refl _, e3, e4, e5, hd0⟩
    · rw [ek 3 k (by omega) c, ek 4 k (by omega) c, ek 5 k (by omega) c]
      exact hT.2.2 k k0 k1
  · refine ⟨by rw [eo 0 1 (by omega) (by omega) (by omega) (by omega) (by omega)]; exact hF.1, fun k hk => ?_⟩
    rw [eo 7 k (by omega) (by omega) (by omega) (by omega) (by omega)]
    by_cases c : k = m
    · rw [c, e6]
      exact ⟨(hF.2 m hm).1, (hF.2 n hn).2⟩
    · rw [ek 6 k (by omega) c]
      exact hF.2 k hk
theorem conn_ne (hL : jL σ) {a c : Nat} (ha : a < 10) (hc : c < 10) (h : msConn σ (nI a) (nI c) = true) : a ≠ c := fun q => by
  subst q
  unfold msConn at h
  rw [at10 ha ha, (hL a ha).1] at h
  simp at h
theorem conn_sym (hL : jL σ) {a c : Nat} (ha : a < 10) (hc : c < 10) : msConn σ (nI a) (nI c) = msConn σ (nI c) (nI a) := by
  unfold msConn
  rw [at10 ha hc, at10 hc ha, (hL a ha).2 c hc]
  cases msOn σ (nI a) <;> cases msOn σ (nI c) <;> simp
theorem jS_hear (h : jS t e B σ) {m n : Nat} (hm0 : 0 < m) (hm : m < 10) (hn : n < 10) (hmn : m ≠ n) : jS t e B (msHear σ (nI m) (nI n)) := by
  unfold msHear
  split
  · split
    · rename_i c
      exact jS_follow h hm0 hm hn hmn c
    · exact jS_drop h hm0 hm
  · split
    · rename_i c
      exact jS_follow h hm0 hm hn hmn c.1
    · exact h
theorem jS_heardL {n : Nat} (hn : n < 10) : ∀ (k i : Nat) (σ : TB), 0 < i → i + k ≤ 10 → jS t e B σ → jS t e B (kfor (msHear1 (nI n)) k i σ)
  | 0, _, _, _, _, h => h
  | k + 1, i, σ, h0, hi, h => by
    refine jS_heardL hn k (i + 1) _ (by omega) (by omega) ?_
    unfold msHear1
    split
    · rename_i c
      exact jS_hear h h0 (by omega) hn (conn_ne h.2.2.1 (by omega) hn c.2)
    · exact h
theorem heard_1 (n : Int32) : msBeHeard σ n = kfor (msHear1 n) 9 1 σ := by
  have e : msHear1 n 0 σ = σ := by unfold msHear1; rw [if_neg (fun q => q.1 rfl)]
  show kfor (msHear1 n) 9 1 (msHear1 n 0 σ) = _
  rw [e]
theorem jS_heard (h : jS t e B σ) {n : Nat} (hn : n < 10) : jS t e B (msBeHeard σ (nI n)) := by
  rw [heard_1]
  exact jS_heardL hn 9 1 σ (by omega) (by omega) h
theorem jS_lose (h : jS t e B σ) (hP : iP σ) {n : Nat} (hn : n < 10) : jS t e B (msLose σ (nI n)) := by
  unfold msLose
  split
  · rename_i c
    have c1 := c.1
    rw [nI_clamp (by omega)] at c1
    refine jS_drop h ?_ hn
    rcases Nat.eq_zero_or_pos n with q | q
    · subst q; exact absurd hP.1 c1
    · exact q
  · exact h
/-! sending -/
theorem acc_cases (h : Rel σ κ 0 B) {n p : Nat} (hn0 : 0 < n) (hn : n < 10) (hp : p < 10) (hK : 0 < sK σ n) : ∃ id, id < sT σ ∧ σ 14 (60 * n + 0) = nI id ∧
    (((∃ i, i < sK σ p ∧ σ 14 (60 * p + i) = nI id) ∧ msAccR σ (nI n) (nI p) = true ∧ msAcc σ (nI n) (nI p) = u2 σ 0 3 (σ 0 3 + 1)) ∨
     (sK σ p < lm p ∧ msAccR σ (nI n) (nI p) = true ∧ ∃ x, msAcc σ (nI n) (nI p) = u2 (u2 (u2 σ 14 (60 * p + sK σ p) (nI id)) 15 (60 * p + sK σ p) x) 13 p (nI (sK σ p + 1))) ∨
     (msAccR σ (nI n) (nI p) = false ∧ msAcc σ (nI n) (nI p) = σ)) := by
  have iKh := h.2.2.2.2.2.2.1
  have hT := h.2.2.2.2.2.1.2.2
  have e0 : (0 : Int32) = nI 0 := rfl
  obtain ⟨id, f1, f2, -⟩ := (h.2.2.2.2.1 n hn).2 0 hK
  have eId : mrId (rd σ) (nI n) 0 = nI id := by rw [e0, (mrSt_n iKh hn hK).1]; exact f2
  have hh := holds_iff iKh hp (v := nI id)
  refine ⟨id, f1, f2, ?_⟩
  by_cases c : mrHolds (rd σ) (nI p) (nI id) = true
  · refine Or.inl ⟨hh.mp c, ?_, ?_⟩
    · unfold msAccR; rw [eId, c, Bool.true_or]
    · unfold msAcc; rw [eId, if_pos c]
  · have cF : mrHolds (rd σ) (nI p) (nI id) = false := by
      cases hb : mrHolds (rd σ) (nI p) (nI id) with
      | true => exact absurd hb c
      | false => rfl
    right
    by_cases hf : sK σ p < lm p
    · have eF : mrFull (rd σ) (nI p) = false := by rw [full_n iKh hp]; exact decide_eq_false (by omega)
      refine Or.inl ⟨hf, ?_, mrSt (rd σ) (nI n) 0 + σ 6 p - σ 6 n, ?_⟩
      · unfold msAccR; rw [eId, cF, eF, nodeI hp]; rfl
      · unfold msAcc
        rw [eId, if_neg c, if_pos ⟨nodeI hp, eF⟩, nI_clamp (by omega), nI_clamp (by omega), wd_put iKh hp hf]
    · have eF : mrFull (rd σ) (nI p) = true := by rw [full_n iKh hp]; exact decide_eq_true (by omega)
      refine Or.inr ⟨?_, ?_⟩
      · unfold msAccR; rw [eId, cF, eF, nodeI hp]; rfl
      · unfold msAcc
        rw [eId, if_neg c, if_neg (fun q => by rw [eF] at q; exact absurd q.2 (by decide))]
theorem rem_v (iKh : iK σ) {n : Nat} (hn0 : 0 < n) (hn : n < 10) (hK : 0 < sK σ n) : (∀ r k, r ≠ 13 → r ≠ 14 → r ≠ 15 → wd σ (mrRemove (rd σ) (nI n)) r k = σ r k) ∧ (∀ k, wd σ (mrRemove (rd σ) (nI n)) 13 k = if k = n then nI (sK σ n - 1) else σ 13 k) ∧
    (∀ k, wd σ (mrRemove (rd σ) (nI n)) 14 k = if 60 * n ≤ k ∧ k < 60 * n + (sK σ n - 1) then σ 14 (k + 1) else σ 14 k) := by
  have g := (iKh n hn).2.1
  have e6 : lm n = 6 := by unfold lm; rw [if_neg (by omega)]
  have e1 : mrRemove (rd σ) (nI n) = u2 (kfor (mrMove (nI n)) (sK σ n - 1) 1 (rd σ)) 5 n (nI (sK σ n - 1)) := by
    unfold mrRemove
    rw [mrSize_n iKh hn, if_neg (nI_ne0 hK (by omega)), nI_clamp (by omega), nI_clamp (by omega), show (1 : Int32) = nI 1 from rfl, pk_sub (by omega)]
  rw [e1]
  refine ⟨fun r k h1 h2 h3 => ?_, fun k => ?_, fun k => ?_⟩
  · rw [wd_u2, u2_no (fun q => by omega)]
    unfold wd
    by_cases c : r < 8
    · rw [if_pos c]
    · rw [if_neg c, mvl hn _ _ _ (by omega) (by omega), if_neg (fun q => by omega)]
      show σ (8 + (r - 8)) k = σ r k
      rw [show 8 + (r - 8) = r by omega]
  · rw [wd_u2, u2_v]
    by_cases c : k = n
    · rw [if_pos ⟨rfl, c⟩, if_pos c]
    · rw [if_neg (fun q => c q.2), if_neg c]
      show kfor (mrMove (nI n)) (sK σ n - 1) 1 (rd σ) 5 k = σ 13 k
      rw [mvl hn _ _ _ (by omega) (by omega), if_neg (fun q => by omega)]
      rfl
  · rw [wd_u2, u2_no (fun q => by omega)]
    show kfor (mrMove (nI n)) (sK σ n - 1) 1 (rd σ) 6 k = _
    rw [mvl hn _ _ _ (by omega) (by omega)]
    by_cases c : 60 * n ≤ k ∧ k < 60 * n + (sK σ n - 1)
    · rw [if_pos ⟨by omega, by omega, by omega⟩, if_pos c]; rfl
    · rw [if_neg (fun q => by omega), if_neg c]; rfl
/-- behind the handing over: each reading has a place that isn't the first of n's -/
def jW (σ : TB) (n : Nat) : Prop := ∀ id, id < sT σ → ∃ m i, m < 10 ∧ i < sK σ m ∧ σ 14 (60 * m + i) = nI id ∧ (m = n → 0 < i)
theorem jS_send2 (h : jS t e B σ) (iKh : iK σ) {n : Nat} (hn0 : 0 < n) (hn : n < 10) (hK : 0 < sK σ n) (hW : jW σ n) : jS t e B (msSend2 σ (nI n) true) := by
  obtain ⟨h0, hT, hL, hC, hR, hV, hF⟩ := h
  unfold msSend2
  rw [if_neg (by decide), nI_clamp (by omega)]
  obtain ⟨f, hf9, hf⟩ := (hF.2 n hn).1
  by_cases c : 0 < σ 7 n
  · rw [if_pos c]
    have hf0 : 0 < f := by
      rw [hf, show (0 : Int32) = nI 0 from rfl, nI_ltI (by decide) (by omega)] at c
      exact c
    refine ⟨h0, jT_of hT (Nat.le_refl _) (fun _ _ => rfl) (fun _ _ => rfl) (fun _ _ => rfl) rfl, jL_of hL (fun _ _ => rfl), jC_of hC (Nat.le_refl _) rfl rfl rfl rfl, jR_of hR (Nat.le_refl _) rfl (fun _ _ => rfl), jV_of hV rfl rfl rfl, ⟨hF.1, fun m hm => ⟨?_, (hF.2 m hm).2⟩⟩⟩
    rw [u2_no (fun q => by omega), u2_v]
    by_cases cm : m = n
    · rw [if_pos ⟨rfl, cm⟩, hf, show (1 : Int32) = nI 1 from rfl, pk_sub (by omega)]
      exact ⟨f - 1, by omega, rfl⟩
    · rw [if_neg (fun q => cm q.2)]
      exact (hF.2 m hm).1
  · rw [if_neg c]
    obtain ⟨v1, v2, v3⟩ := rem_v iKh hn0 hn hK
    obtain ⟨σ2, es⟩ : ∃ z, z = wd σ (mrRemove (rd σ) (nI n)) := ⟨_, rfl⟩
    rw [← es] at v1 v2 v3 ⊢
    have e13 : σ2 13 0 = σ 13 0 := by rw [v2, if_neg (by omega)]
    have e8 : σ2 8 0 = σ 8 0 := v1 8 0 (by omega) (by omega) (by omega)
    refine ⟨by rw [v1 0 0 (by omega) (by omega) (by omega)]; exact h0, jT_of hT (Nat.le_refl _) (fun k _ => v1 3 k (by omega) (by omega) (by omega)) (fun k _ => v1 4 k (by omega) (by omega) (by omega)) (fun k _ => v1 5 k (by omega) (by omega) (by omega)) (v1 6 0 (by omega) (by omega) (by omega)), jL_of hL (fun k _ => v1 1 k (by omega) (by omega) (by omega)), jC_of hC (Nat.le_refl _) (v1 0 2 (by omega) (by omega) (by omega)) (v1 0 3 (by omega) (by omega) (by omega)) (v1 0 4 (by omega) (by omega) (by omega)) e13, jR_of hR (Nat.le_refl _) e8 (fun k _ => v1 12 k (by omega) (by omega) (by omega)), fun id hid => ?_, jF_of hF (Nat.le_refl _) (v1 0 1 (by omega) (by omega) (by omega)) (fun k _ => v1 7 k (by omega) (by omega) (by omega)) (fun k _ => v1 6 k (by omega) (by omega) (by omega))⟩
    rw [sT_of e8] at hid
    obtain ⟨m, i, m1, m2, m3, m4⟩ := hW id hid
    have hl := (iKh m m1).2.1
    have hl60 := lm_le m
    have hln := (iKh n hn).2.1
    have hln60 := lm_le n
    have hs1 : sK σ n - 1 < 2 ^ 31 := by omega
    have eS : ∀ k, sK σ2 k = if k = n then sK σ n - 1 else sK σ k := fun k => by
      unfold sK
      rw [v2]
      by_cases ck : k = n
      · rw [if_pos ck, if_pos ck, nI_clamp hs1]; rfl
      · rw [if_neg ck, if_neg ck]
    by_cases cm : m = n
    · subst cm
      have hi0 := m4 rfl
      refine ⟨m, i - 1, m1, by rw [eS, if_pos rfl]; omega, ?_⟩
      rw [v3, if_pos (by omega), show 60 * m + (i - 1) + 1 = 60 * m + i by omega]
      exact m3
    · refine ⟨m, i, m1, by rw [eS, if_neg cm]; exact m2, ?_⟩
      rw [v3, if_neg (by omega)]
      exact m3
theorem jS_send (h : Rel σ κ 0 B) (j : jS t 0 B σ) {n : Nat} (hn : n < 10) : jS t 1 B (msSend σ (nI n)) := by
  have hP := h.2.2.2.2.2.2.2.2
  have iKh := h.2.2.2.2.2.2.1
  have up : jS t 1 B σ := ⟨j.1, j.2.1, j.2.2.1, jC_of j.2.2.2.1 (by omega) rfl rfl rfl rfl, j.2.2.2.2⟩
  unfold msSend
  rw [nI_clamp (by omega)]
  by_cases c0 : σ 3 n = -1
  · rw [c0, conn_neg, if_neg (fun q => absurd q.1 Bool.false_ne_true)]
    exact up
  · have hn0 : 0 < n := by
      rcases Nat.eq_zero_or_pos n with q | q
      · subst q; exact absurd hP.1 c0
      · exact q
    obtain ⟨p, d, u, hp, hpn, -, -, e3, -⟩ := (j.2.1.2.2 n hn0 hn).resolve_left (fun q => c0 q.1)
    rw [e3, mrSize_n iKh hn]
    by_cases c : msConn σ (nI n) (nI p) = true ∧ ¬ nI (sK σ n) = 0
    · rw [if_pos c]
      have hK : 0 < sK σ n := by
        rcases Nat.eq_zero_or_pos (sK σ n) with q | q
        · rw [q] at c; exact absurd rfl c.2
        · exact q
      have h1 : Rel (u2 σ 0 2 (σ 0 2 + 1)) (mdInc κ (0 + 14)) 0 B := Rel_inc h 14 (by omega) (by omega) (by omega) (by omega)
      obtain ⟨h0, hT, hL, ⟨s, d2, r, s1, s2, s3, s4, s5⟩, hR, hV, hF⟩ := j
      have hK1 : 0 < sK (u2 σ 0 2 (σ 0 2 + 1)) n := hK
      obtain ⟨id, f1, f2, hc⟩ := acc_cases h1 hn0 hn hp hK1
      have f1 : id < sT σ := f1
      have f2 : σ 14 (60 * n + 0) = nI id := f2
      have hT60 := h.2.2.2.2.2.1.2.2
      rcases hc with ⟨⟨i, i1, i2⟩, a1, a2⟩ | ⟨kf, a1, x, a2⟩ | ⟨a1, a2⟩
      · -- a duplicate
        rw [a1, a2]
        have i1 : i < sK σ p := i1
        have i2 : σ 14 (60 * p + i) = nI id := i2
        refine jS_send2 (σ := u2 (u2 σ 0 2 (σ 0 2 + 1)) 0 3 ((u2 σ 0 2 (σ 0 2 + 1)) 0 3 + 1)) ⟨h0, jT_of hT (Nat.le_refl _) (fun _ _ => rfl) (fun _ _ => rfl) (fun _ _ => rfl) rfl, jL_of hL (fun _ _ => rfl), ⟨s + 1, d2 + 1, r, ?_, ?_, s3, ?_, by omega⟩, jR_of hR (Nat.le_refl _) rfl (fun _ _ => rfl), jV_of hV rfl rfl rfl, jF_of hF (Nat.le_refl _) rfl (fun _ _ => rfl) (fun _ _ => rfl)⟩ (iK_of iKh (fun _ _ => rfl) (fun _ _ => rfl)) hn0 hn hK (fun id2 hid2 => ?_)
        · rw [u2_no (fun _ => by omega), u2_ye rfl rfl, s1, nI_1]
        · rw [u2_ye rfl rfl, u2_no (fun _ => by omega), s2, nI_1]
        · show d2 + 1 + r + sK σ 0 ≤ s + 1
          omega
        · have hid2 : id2 < sT σ := hid2
          obtain ⟨m, i3, m1, m2, m3⟩ := hV id2 hid2
          by_cases ci : id2 = id
          · subst ci
            exact ⟨p, i, hp, i1, i2, fun q => absurd q hpn⟩
          · refine ⟨m, i3, m1, m2, m3, fun q => ?_⟩
            subst q
            rcases Nat.eq_zero_or_pos i3 with z | z
            · subst z
              exact absurd ((nI_eq (by omega) (by omega)).mp (m3.symm.trans f2)) ci
            · exact z
      · -- handed over
        rw [a1, a2]
        have kf : sK σ p < lm p := kf
        have hl := lm_le p
        have a3 : msAcc (u2 σ 0 2 (σ 0 2 + 1)) (nI n) (nI p) = _ := a2
        have iK2 : iK (msAcc (u2 σ 0 2 (σ 0 2 + 1)) (nI n) (nI p)) := by
          rcases Rel_acc h1 hn0 hn hp hK1 with ⟨-, -, b3, -⟩ | ⟨b1, -⟩
          · exact b3.2.2.2.2.2.2.1
          · rw [a1] at b1; exact absurd b1 (by decide)
        rw [a3] at iK2
        obtain ⟨X, eX⟩ : ∃ z, z = u2 (u2 (u2 (u2 σ 0 2 (σ 0 2 + 1)) 14 (60 * p + sK σ p) (nI id)) 15 (60 * p + sK σ p) x) 13 p (nI (sK σ p + 1)) := ⟨_, rfl⟩
        have iK3 : iK X := by rw [eX]; exact iK2
        show jS t 1 B (msSend2 (u2 (u2 (u2 (u2 σ 0 2 (σ 0 2 + 1)) 14 (60 * p + sK σ p) (nI id)) 15 (60 * p + sK σ p) x) 13 p (nI (sK σ p + 1))) (nI n) true)
        rw [← eX]
        have eS : ∀ k, sK X k = if k = p then sK σ p + 1 else sK σ k := fun k => by rw [eX, sK_put (by omega)]; rfl
        have er : ∀ r k, r ≠ 0 → r ≠ 13 → r ≠ 14 → r ≠ 15 → X r k = σ r k := fun r k b0 b1 b2 b3 => by
          rw [eX, u2_no (fun q => absurd q b1), u2_no (fun q => absurd q b3), u2_no (fun q => absurd q b2), u2_no (fun q => absurd q b0)]
        have e0 : ∀ k, k ≠ 2 → X 0 k = σ 0 k := fun k hk => by
          rw [eX, u2_no (fun q => by omega), u2_no (fun q => by omega), u2_no (fun q => by omega), u2_no (fun _ => hk)]
        have e02 : X 0 2 = nI (s + 1) := by
          rw [eX, u2_no (fun q => by omega), u2_no (fun q => by omega), u2_no (fun q => by omega), u2_ye rfl rfl, s1, nI_1]
        have e14 : ∀ k, X 14 k = if k = 60 * p + sK σ p then nI id else σ 14 k := fun k => by
          rw [eX, u2_no (fun q => by omega), u2_no (fun q => by omega), u2_v]
          by_cases ck : k = 60 * p + sK σ p
          · rw [if_pos ⟨rfl, ck⟩, if_pos ck]
          · rw [if_neg (fun q => ck q.2), if_neg ck, u2_no (fun q => by omega)]
        have hW : jW X n := fun id2 hid2 => by
          have hid2 : id2 < sT σ := by rw [sT_of (er 8 0 (by omega) (by omega) (by omega) (by omega))] at hid2; exact hid2
          by_cases ci : id2 = id
          · subst ci
            refine ⟨p, sK σ p, hp, by rw [eS, if_pos rfl]; omega, by rw [e14, if_pos rfl], fun q => absurd q hpn⟩
          · obtain ⟨m, i3, m1, m2, m3⟩ := hV id2 hid2
            have hlm := (iKh m m1).2.1
            have hlm60 := lm_le m
            refine ⟨m, i3, m1, ?_, ?_, fun q => ?_⟩
            · rw [eS]; split
              · rename_i q; rw [q] at m2; omega
              · exact m2
            · rw [e14, if_neg (fun q => ?_)]
              · exact m3
              · have q1 : m = p := by omega
                subst q1
                omega
            · subst q
              rcases Nat.eq_zero_or_pos i3 with z | z
              · subst z
                exact absurd ((nI_eq (by omega) (by omega)).mp (m3.symm.trans f2)) ci
              · exact z
        refine jS_send2 ⟨by rw [e0 0 (by omega)]; exact h0, jT_of hT (Nat.le_refl _) (fun k _ => er 3 k (by omega) (by omega) (by omega) (by omega)) (fun k _ => er 4 k (by omega) (by omega) (by omega) (by omega)) (fun k _ => er 5 k (by omega) (by omega) (by omega) (by omega)) (er 6 0 (by omega) (by omega) (by omega) (by omega)), jL_of hL (fun k _ => er 1 k (by omega) (by omega) (by omega) (by omega)), ⟨s + 1, d2, r, e02, by rw [e0 3 (by omega)]; exact s2, by rw [e0 4 (by omega)]; exact s3, ?_, by omega⟩, jR_of hR (Nat.le_refl _) (er 8 0 (by omega) (by omega) (by omega) (by omega)) (fun k _ => er 12 k (by omega) (by omega) (by omega) (by omega)), fun id2 hid2 => ?_, jF_of hF (Nat.le_refl _) (e0 1 (by omega)) (fun k _ => er 7 k (by omega) (by omega) (by omega) (by omega)) (fun k _ => er 6 k (by omega) (by omega) (by omega) (by omega))⟩ iK3 hn0 hn ?_ hW
        · rw [eS]
          split
          · rename_i q; subst q; omega
          · omega
        · obtain ⟨m, i3, m1, m2, m3, -⟩ := hW id2 hid2
          exact ⟨m, i3, m1, m2, m3⟩
        · rw [eS]; split <;> omega
      · -- refused
        rw [a1, a2]
        unfold msSend2
        rw [if_pos rfl]
        refine ⟨h0, jT_of hT (Nat.le_refl _) (fun _ _ => rfl) (fun _ _ => rfl) (fun _ _ => rfl) rfl, jL_of hL (fun _ _ => rfl), ⟨s + 1, d2, r + 1, ?_, s2, ?_, ?_, by omega⟩, jR_of hR (Nat.le_refl _) rfl (fun _ _ => rfl), jV_of hV rfl rfl rfl, jF_of hF (Nat.le_refl _) rfl (fun _ _ => rfl) (fun _ _ => rfl)⟩
        · rw [u2_no (fun _ => by omega), u2_ye rfl rfl, s1, nI_1]
        · rw [u2_ye rfl rfl, u2_no (fun _ => by omega), s3, nI_1]
        · show d2 + (r + 1) + sK σ 0 ≤ s + 1
          omega
    · rw [if_neg c]
      exact up
end JS
/-- what holds of a state, its time and its offsets at most B -/
def Inv (B : Nat) (σ : TB) : Prop := (∃ κ, Rel σ κ 0 B) ∧ ∃ t, t ≤ B ∧ jS t 0 B σ ∧ jQ σ t
section IV
variable {σ : TB} {B B2 : Nat}
theorem Inv_mono (h : Inv B σ) (hB : B ≤ B2) : Inv B2 σ := by
  obtain ⟨⟨κ, h1⟩, t, ht, ⟨j0, j1, j2, j3, j4, j5, j6⟩, q⟩ := h
  exact ⟨⟨κ, Rel_mono h1 hB⟩, t, by omega, ⟨j0, j1, j2, j3, j4, j5, jF_of j6 hB rfl (fun _ _ => rfl) (fun _ _ => rfl)⟩, q⟩
theorem Inv_slot (h : Inv B σ) (hB : B < 2 ^ 30) : Inv (B + 1) (msSlot σ) := by
  obtain ⟨⟨κ, h1⟩, t, ht, j, q⟩ := h
  have hn : t % 10 < 10 := Nat.mod_lt _ (by decide)
  have eN : msNode σ = nI (t % 10) := by unfold msNode; rw [j.1, mFloor_n (by omega)]
  have g : jS t 1 B (msTurn σ) := by
    unfold msTurn
    rw [eN]
    split
    · exact ⟨j.1, j.2.1, j.2.2.1, jC_of j.2.2.2.1 (by omega) rfl rfl rfl rfl, j.2.2.2.2⟩
    · exact jS_send (Rel_heard (Rel_lose h1 hn) hn) (jS_heard (jS_lose j h1.2.2.2.2.2.2.2.2 hn) hn) hn
  obtain ⟨σ2, es⟩ : ∃ z, z = msTurn σ := ⟨_, rfl⟩
  have h2 := Rel_slot h1 hB
  unfold msSlot at h2 ⊢
  rw [← es] at g h2 ⊢
  obtain ⟨j0, j1, j2, j3, j4, j5, j6⟩ := g
  refine ⟨⟨_, h2⟩, t + 1, by omega, ⟨?_, jT_of j1 (by omega) (fun _ _ => rfl) (fun _ _ => rfl) (fun _ _ => rfl) rfl, jL_of j2 (fun _ _ => rfl), jC_of j3 (by omega) rfl rfl rfl rfl, jR_of j4 (by omega) rfl (fun _ _ => rfl), jV_of j5 rfl rfl rfl, jF_of j6 (by omega) rfl (fun _ _ => rfl) (fun _ _ => rfl)⟩, fun i id hi hid hl => ?_⟩
  · rw [u2_ye rfl rfl, j0, nI_1]
  · obtain ⟨u, u1, u2⟩ := j4 id hid
    exact ⟨u, by omega, u2⟩
theorem Inv_runL : ∀ (k i : Nat) (σ : TB) (B : Nat), Inv B σ → B + k < 2 ^ 30 → Inv (B + k) (kfor (fun _ σ => msSlot σ) k i σ)
  | 0, _, _, _, h, _ => h
  | k + 1, i, σ, B, h, hB => by
    have := Inv_runL k (i + 1) _ (B + 1) (Inv_slot h (by omega)) (by omega)
    rw [show B + 1 + k = B + (k + 1) by omega] at this
    exact this
theorem Inv_run (h : Inv B σ) {k : Nat} (hB : B + k < 2 ^ 30) : Inv (B + k) (msRun σ k) := Inv_runL k 0 σ B h hB
theorem Inv_link (h : Inv B σ) {a c : Nat} (ha : a < 10) (hc : c < 10) (hac : a ≠ c) {v : Int32} (hv : v = 0 ∨ v = 1) : Inv B (msSetLink σ (nI a) (nI c) v) := by
  obtain ⟨⟨κ, h1⟩, t, ht, ⟨j0, j1, j2, j3, j4, j5, j6⟩, q⟩ := h
  refine ⟨⟨_, Rel_link h1 ha hc hv⟩, t, ht, ?_⟩
  have e : msSetLink σ (nI a) (nI c) v = u2 (u2 σ 1 (10 * a + c) v) 1 (10 * c + a) v := by
    unfold msSetLink
    rw [if_pos ⟨nodeI ha, nodeI hc⟩, at10 ha hc, at10 hc ha, (nar_01 hv).1]
  rw [e]
  refine ⟨⟨j0, jT_of j1 (Nat.le_refl _) (fun _ _ => rfl) (fun _ _ => rfl) (fun _ _ => rfl) rfl, fun x hx => ⟨?_, fun y hy => ?_⟩, jC_of j3 (Nat.le_refl _) rfl rfl rfl rfl, jR_of j4 (Nat.le_refl _) rfl (fun _ _ => rfl), jV_of j5 rfl rfl rfl, jF_of j6 (Nat.le_refl _) rfl (fun _ _ => rfl) (fun _ _ => rfl)⟩, jQ_of q (Nat.le_refl _) rfl (fun _ _ => rfl) rfl (fun _ _ => rfl)⟩
  · rw [u2_no (fun _ => by omega), u2_no (fun _ => by omega)]
    exact (j2 x hx).1
  · rw [u2_v, u2_v, u2_v, u2_v]
    by_cases c1 : 10 * x + y = 10 * c + a
    · rw [if_pos ⟨rfl, c1⟩, if_neg (fun z => by omega), if_pos ⟨rfl, by omega⟩]
    · rw [if_neg (fun z => c1 z.2)]
      by_cases c2 : 10 * x + y = 10 * a + c
      · rw [if_pos ⟨rfl, c2⟩, if_pos ⟨rfl, by omega⟩]
      · rw [if_neg (fun z => c2 z.2), if_neg (fun z => by omega), if_neg (fun z => by omega)]
        exact (j2 x hx).2 y hy
theorem Inv_power (h : Inv B σ) {n : Nat} (hn : n < 10) {v : Int32} (hv : v = 0 ∨ v = 1) : Inv B (msSetPower σ (nI n) v) := by
  obtain ⟨⟨κ, h1⟩, t, ht, ⟨j0, j1, j2, j3, j4, j5, j6⟩, q⟩ := h
  refine ⟨⟨_, Rel_power h1 hn hv⟩, t, ht, ?_⟩
  unfold msSetPower
  rw [if_pos (nodeI hn)]
  exact ⟨⟨j0, jT_of j1 (Nat.le_refl _) (fun _ _ => rfl) (fun _ _ => rfl) (fun _ _ => rfl) rfl, jL_of j2 (fun _ _ => rfl), jC_of j3 (Nat.le_refl _) rfl rfl rfl rfl, jR_of j4 (Nat.le_refl _) rfl (fun _ _ => rfl), jV_of j5 rfl rfl rfl, jF_of j6 (Nat.le_refl _) rfl (fun _ _ => rfl) (fun _ _ => rfl)⟩, jQ_of q (Nat.le_refl _) rfl (fun _ _ => rfl) rfl (fun _ _ => rfl)⟩
theorem Inv_jump (h : Inv B σ) {m : Nat} (hm0 : 0 < m) (hm : m < 10) {x : Int32} {b : Nat} (hb : -(b : Int) ≤ x.toInt ∧ x.toInt ≤ b) (hB : B + b < 2 ^ 30) : Inv (B + b) (u2 σ 6 m (σ 6 m + x)) := by
  obtain ⟨⟨κ, h1⟩, t, ht, ⟨j0, j1, j2, j3, j4, j5, j6⟩, q⟩ := h
  have h2 := Rel_node h1 0 (by omega) m hm (σ 6 m + x) (fun e => absurd e (by decide))
  refine ⟨⟨_, Rel_mono h2 (by omega)⟩, t, by omega, ⟨j0, jT_of j1 (Nat.le_refl _) (fun _ _ => rfl) (fun _ _ => rfl) (fun _ _ => rfl) (u2_no (fun _ => by omega)), jL_of j2 (fun _ _ => rfl), jC_of j3 (Nat.le_refl _) rfl rfl rfl rfl, jR_of j4 (Nat.le_refl _) rfl (fun _ _ => rfl), jV_of j5 rfl rfl rfl, ⟨j6.1, fun k hk => ⟨(j6.2 k hk).1, ?_⟩⟩⟩, jQ_of q (Nat.le_refl _) rfl (fun _ _ => rfl) rfl (fun _ _ => rfl)⟩
  have g := (j6.2 k hk).2
  rw [u2_v]
  by_cases c : k = m
  · subst c
    rw [if_pos ⟨rfl, rfl⟩, Int32.toInt_add, Int.bmod_eq_of_le (by omega) (by omega)]
    omega
  · rw [if_neg (fun z => c z.2)]
    omega
theorem Inv_faults (h : Inv B σ) {m : Nat} (hm : m < 10) {f : Nat} (hf : f ≤ 9) : Inv B (u2 σ 7 m (nI f)) := by
  obtain ⟨⟨κ, h1⟩, t, ht, ⟨j0, j1, j2, j3, j4, j5, j6⟩, q⟩ := h
  have h2 := Rel_node h1 4 (by omega) m hm (nI f) (fun e => absurd e (by decide))
  refine ⟨⟨_, h2⟩, t, ht, ⟨j0, jT_of j1 (Nat.le_refl _) (fun _ _ => rfl) (fun _ _ => rfl) (fun _ _ => rfl) rfl, jL_of j2 (fun _ _ => rfl), jC_of j3 (Nat.le_refl _) rfl rfl rfl rfl, jR_of j4 (Nat.le_refl _) rfl (fun _ _ => rfl), jV_of j5 rfl rfl rfl, ⟨j6.1, fun k hk => ⟨?_, (j6.2 k hk).2⟩⟩⟩, jQ_of q (Nat.le_refl _) rfl (fun _ _ => rfl) rfl (fun _ _ => rfl)⟩
  rw [u2_v]
  split
  · exact ⟨f, hf, rfl⟩
  · exact (j6.2 k hk).1
theorem Inv_patience (h : Inv B σ) {p : Nat} (hp : p ≤ 5) : Inv B (u2 σ 0 1 (nI p)) := by
  obtain ⟨⟨κ, h1⟩, t, ht, ⟨j0, j1, j2, j3, j4, j5, j6⟩, q⟩ := h
  have h2 := Rel_num h1 11 (by omega) (by omega) (by omega) (by omega) (nI p)
  exact ⟨⟨_, h2⟩, t, ht, ⟨j0, jT_of j1 (Nat.le_refl _) (fun _ _ => rfl) (fun _ _ => rfl) (fun _ _ => rfl) rfl, jL_of j2 (fun _ _ => rfl), jC_of j3 (Nat.le_refl _) rfl rfl rfl rfl, jR_of j4 (Nat.le_refl _) rfl (fun _ _ => rfl), jV_of j5 rfl rfl rfl, ⟨⟨p, hp, u2_ye rfl rfl⟩, j6.2⟩⟩, jQ_of q (Nat.le_refl _) rfl (fun _ _ => rfl) rfl (fun _ _ => rfl)⟩
end IV
