/-! THE RELATION is kept: sending, slots, runs -/
theorem i_adds {x y z : Int32} : x + y - z = x + (y - z) := by rw [Int32.sub_eq_add_neg, Int32.sub_eq_add_neg, Int32.add_assoc]
section RT
variable {σ κ : TB} {b B : Nat}
theorem mrSt_n (h : iK σ) {n i : Nat} (hn : n < 10) (hi : i < sK σ n) : mrId (rd σ) (nI n) (nI i) = σ 14 (60 * n + i) ∧ mrSt (rd σ) (nI n) (nI i) = σ 15 (60 * n + i) := by
  have g := h n hn
  have hl := lm_le n
  unfold mrId mrSt
  rw [mrSize_n h hn, mrAt_n hn (by omega), if_pos ⟨nI_pos' (by omega), nI_lt hi (by omega)⟩, if_pos ⟨nI_pos' (by omega), nI_lt hi (by omega)⟩]
  exact ⟨rfl, rfl⟩
theorem holds_iff (h : iK σ) {p : Nat} (hp : p < 10) {v : Int32} : mrHolds (rd σ) (nI p) v = true ↔ ∃ i, i < sK σ p ∧ σ 14 (60 * p + i) = v := by
  have g := h p hp
  have hl := lm_le p
  unfold mrHolds
  rw [mrSize_n h hp, nI_clamp (by omega), kany_iff]
  constructor
  · rintro ⟨j, -, h2, h3⟩
    refine ⟨j, by omega, ?_⟩
    have h4 := of_decide_eq_true h3
    rw [mrAt_n hp (by omega)] at h4
    exact h4
  · rintro ⟨j, h2, h3⟩
    refine ⟨j, by omega, by omega, decide_eq_true ?_⟩
    rw [mrAt_n hp (by omega)]
    exact h3
theorem Rel_same (h : Rel σ κ b B) {p i id s : Nat} (hp : p < 10) (hi : i < sK σ p) (hid : id < sT σ) (h0 : κ 1 s = σ 9 id) (h1 : κ 1 (s + 1) = σ 10 id) : mdSame κ s (b + pl p i) = true ↔ σ 14 (60 * p + i) = nI id := by
  obtain ⟨g1, g2, g3, g4, g5, g6, g7, g8, g9⟩ := h
  obtain ⟨id2, e1, e2, e3, e4, -⟩ := (g5 p hp).2 i hi
  have hT := g6.2.2
  unfold mdSame
  rw [Bool.and_eq_true, decide_eq_true_eq, decide_eq_true_eq, h0, h1, e3, e4, e2]
  constructor
  · rintro ⟨a1, a2⟩
    rw [id_inj hT g8 hid e1 a1 a2]
  · intro a
    have : id2 = id := (nI_eq (by omega) (by omega)).mp a
    rw [this]
    exact ⟨rfl, rfl⟩
theorem Rel_has (h : Rel σ κ b B) {p id s : Nat} (hp : p < 10) (hid : id < sT σ) (h0 : κ 1 s = σ 9 id) (h1 : κ 1 (s + 1) = σ 10 id) : (if p = 0 then mdColl κ b s else mdStor κ b p s) = true ↔ ∃ i, i < sK σ p ∧ σ 14 (60 * p + i) = nI id := by
  have key : ∀ (K : Nat) (f : Nat → Bool), K = sK σ p → (∀ j, j < sK σ p → f j = mdSame κ s (b + pl p j)) → ((∃ j, 0 ≤ j ∧ j < 0 + K ∧ f j = true) ↔ ∃ i, i < sK σ p ∧ σ 14 (60 * p + i) = nI id) := by
    intro K f hK hf
    subst hK
    constructor
    · rintro ⟨j, -, a2, a3⟩
      rw [hf j (by omega)] at a3
      exact ⟨j, by omega, (Rel_same h hp (by omega) hid h0 h1).mp a3⟩
    · rintro ⟨j, a2, a3⟩
      refine ⟨j, by omega, by omega, ?_⟩
      rw [hf j a2]
      exact (Rel_same h hp a2 hid h0 h1).mpr a3
  by_cases c : p = 0
  · subst c
    rw [if_pos rfl]
    unfold mdColl
    rw [kor_iff, Rel_mdC h]
    rw [← key _ (fun k => mdSame κ s (b + 390 + 5 * k)) rfl (fun j _ => by unfold pl; rw [if_pos rfl, Nat.add_assoc])]
    constructor
    · rintro (q | q)
      · exact absurd q Bool.false_ne_true
      · exact q
    · exact Or.inr
  · rw [if_neg c]
    unfold mdStor
    rw [kor_iff, Rel_mdK h (by omega) hp]
    rw [← key _ (fun k => mdSame κ s (b + 90 + 5 * (6 * p + k))) rfl (fun j _ => by unfold pl; rw [if_neg c, Nat.add_assoc])]
    constructor
    · rintro (q | q)
      · exact absurd q Bool.false_ne_true
      · exact q
    · exact Or.inr
theorem wd_put (h : iK σ) {p : Nat} (hp : p < 10) (hK : sK σ p < lm p) (v x : Int32) : wd σ (mrPut (rd σ) (nI p) v x) = u2 (u2 (u2 σ 14 (60 * p + sK σ p) v) 15 (60 * p + sK σ p) x) 13 p (nI (sK σ p + 1)) := by
  have hl := lm_le p
  unfold mrPut
  rw [mrSize_n h hp, if_pos ⟨nodeI hp, by rw [show (60 : Int32) = nI 60 from rfl]; exact nI_lt (by omega) (by decide)⟩, mrAt_n hp (by omega), nI_clamp (by omega), nI_1, wd_u2, wd_u2, wd_u2, wd_rd]
theorem full_n (h : iK σ) {p : Nat} (hp : p < 10) : mrFull (rd σ) (nI p) = decide (lm p ≤ sK σ p) := by
  have hl := lm_le p
  have g := (h p hp).2.1
  unfold mrFull
  rw [mrSize_n h hp]
  by_cases c : p = 0
  · subst c
    have e : (if nI 0 = 0 then (60 : Int32) else 6) = nI 60 := if_pos rfl
    rw [e]
    exact decide_eq_decide.mpr (nI_leI (by decide) (by omega))
  · have e : lm p = 6 := by unfold lm; rw [if_neg c]
    rw [if_neg (nI_ne0 (by omega) (by omega)), e]
    exact decide_eq_decide.mpr (nI_leI (a := 6) (by decide) (by omega))
theorem sK_put {X : TB} {p n K : Nat} (hK : K < 2 ^ 31) : sK (u2 X 13 p (nI K)) n = if n = p then K else sK X n := by
  unfold sK
  rw [u2_v]
  by_cases e : n = p
  · rw [if_pos ⟨rfl, e⟩, if_pos e, nI_clamp hK]
  · rw [if_neg (fun q => e q.2), if_neg e]
theorem Rel_acc (h : Rel σ κ b B) {n p : Nat} (hn0 : 0 < n) (hn : n < 10) (hp : p < 10) (hK : 0 < sK σ n) :
    (msAccR σ (nI n) (nI p) = true ∧ mdHandR κ b (b + 90 + 5 * (6 * n + 0)) p = true ∧ Rel (msAcc σ (nI n) (nI p)) (mdHand κ b (b + 90 + 5 * (6 * n + 0)) p (κ 1 (b + 20 + 7 * p + 0) - κ 1 (b + 20 + 7 * n + 0))) b B ∧ 0 < sK (msAcc σ (nI n) (nI p)) n) ∨
    (msAccR σ (nI n) (nI p) = false ∧ mdHandR κ b (b + 90 + 5 * (6 * n + 0)) p = false ∧ Rel (u2 (msAcc σ (nI n) (nI p)) 0 4 (msAcc σ (nI n) (nI p) 0 4 + 1)) (mdHand κ b (b + 90 + 5 * (6 * n + 0)) p (κ 1 (b + 20 + 7 * p + 0) - κ 1 (b + 20 + 7 * n + 0))) b B) := by
  have iKh := h.2.2.2.2.2.2.1
  have hT := h.2.2.2.2.2.1.2.2
  have e0 : (0 : Int32) = nI 0 := rfl
  obtain ⟨id, f1, f2, f3, f4, f5, f6, f7⟩ := (h.2.2.2.2.1 n hn).2 0 hK
  have es : b + pl n 0 = b + 90 + 5 * (6 * n + 0) := by unfold pl; rw [if_neg (by omega)]; omega
  rw [es] at f3 f4 f5 f6 f7
  have eId : mrId (rd σ) (nI n) 0 = nI id := by rw [e0, (mrSt_n iKh hn hK).1]; exact f2
  have eSt : mrSt (rd σ) (nI n) 0 = σ 15 (60 * n + 0) := by rw [e0, (mrSt_n iKh hn hK).2]
  have hh := holds_iff iKh hp (v := nI id)
  have hr := Rel_has h hp f1 f3 f4
  have o1 : κ 1 (b + 20 + 7 * p + 0) = σ 6 p := h.2.1 p 0 hp (by omega)
  have o2 : κ 1 (b + 20 + 7 * n + 0) = σ 6 n := h.2.1 n 0 hn (by omega)
  by_cases c : mrHolds (rd σ) (nI p) (nI id) = true
  · have c2 := hr.mpr (hh.mp c)
    have r1 := Rel_inc h 15 (by omega) (by omega) (by omega) (by omega)
    refine Or.inl ⟨?_, ?_, ?_, ?_⟩
    · unfold msAccR; rw [eId, c, Bool.true_or]
    · unfold mdHandR
      by_cases p0 : p = 0
      · rw [if_pos p0]
      · rw [if_neg p0] at c2
        rw [if_neg p0, if_pos c2]
    · unfold msAcc mdHand
      rw [eId, if_pos c]
      by_cases p0 : p = 0
      · rw [if_pos p0] at c2
        rw [if_pos p0, if_pos c2]; exact r1
      · rw [if_neg p0] at c2
        rw [if_neg p0, if_pos c2]; exact r1
    · unfold msAcc
      rw [eId, if_pos c]
      exact hK
  · have c2 : ¬ (if p = 0 then mdColl κ b (b + 90 + 5 * (6 * n + 0)) else mdStor κ b p (b + 90 + 5 * (6 * n + 0))) = true := fun q => c (hh.mpr (hr.mp q))
    have hno : ∀ i, i < sK σ p → σ 14 (60 * p + i) ≠ nI id := fun i hi q => c (hh.mpr ⟨i, hi, q⟩)
    have cF : mrHolds (rd σ) (nI p) (nI id) = false := by
      cases hb : mrHolds (rd σ) (nI p) (nI id) with
      | true => exact absurd hb c
      | false => rfl
    have hl := lm_le p
    by_cases hf : sK σ p < lm p
    · -- it is put
      have eF : mrFull (rd σ) (nI p) = false := by rw [full_n iKh hp]; exact decide_eq_false (by omega)
      have eA : msAcc σ (nI n) (nI p) = u2 (u2 (u2 σ 14 (60 * p + sK σ p) (nI id)) 15 (60 * p + sK σ p) (σ 15 (60 * n + 0) + (σ 6 p - σ 6 n))) 13 p (nI (sK σ p + 1)) := by
        unfold msAcc
        rw [eId, if_neg c, if_pos ⟨nodeI hp, eF⟩, eSt, nI_clamp (by omega), nI_clamp (by omega), i_adds, wd_put iKh hp hf]
      have eH : mdHand κ b (b + 90 + 5 * (6 * n + 0)) p (σ 6 p - σ 6 n) = mdInc (mdWrite κ (b + 90 + 5 * (6 * n + 0)) (b + pl p (sK σ p)) (σ 6 p - σ 6 n)) (b + pz p) := by
        unfold mdHand pl pz
        by_cases p0 : p = 0
        · subst p0
          rw [if_pos rfl] at c2
          rw [if_pos rfl, if_neg c2, Rel_mdC h, if_pos rfl, if_pos rfl, show b + 390 + 5 * sK σ 0 = b + (390 + 5 * sK σ 0) by omega]
        · rw [if_neg p0] at c2
          have e6 : lm p = 6 := by unfold lm; rw [if_neg p0]
          rw [if_neg p0, if_neg c2, Rel_mdK h (by omega) hp, if_neg (by omega), if_neg p0, if_neg p0, show b + 90 + 5 * (6 * p + sK σ p) = b + (90 + 5 * (6 * p + sK σ p)) by omega, show b + 20 + 7 * p + 6 = b + (26 + 7 * p) by omega]
      have ez := (h.2.2.2.2.1 p hp).1
      have hz := pz_lt hp
      have hge := pl_ge (n := p) (i := sK σ p)
      have hd : b + 90 + 5 * (6 * n + 0) + 5 ≤ b + pl p (sK σ p) ∨ b + pl p (sK σ p) + 5 ≤ b + 90 + 5 * (6 * n + 0) := by
        by_cases p0 : p = 0
        · have : pl p (sK σ p) = 390 + 5 * sK σ p := by unfold pl; rw [if_pos p0]
          omega
        · have e1 : pl p (sK σ p) = 90 + 5 * (6 * p + sK σ p) := by unfold pl; rw [if_neg p0]
          have e6 : lm p = 6 := by unfold lm; rw [if_neg p0]
          by_cases e : p = n
          · subst e; omega
          · omega
      obtain ⟨x, ex⟩ : ∃ z, z = σ 6 p - σ 6 n := ⟨_, rfl⟩
      refine Or.inl ⟨?_, ?_, ?_, ?_⟩
      · unfold msAccR; rw [eId, cF, eF, nodeI hp]; rfl
      · unfold mdHandR
        by_cases p0 : p = 0
        · rw [if_pos p0]
        · rw [if_neg p0] at c2
          have e6 : lm p = 6 := by unfold lm; rw [if_neg p0]
          rw [if_neg p0, if_neg c2, Rel_mdK h (by omega) hp, if_neg (by omega)]
      · rw [o1, o2, eA, eH, ← ex]
        obtain ⟨dst, ed⟩ : ∃ z, z = pl p (sK σ p) := ⟨_, rfl⟩
        have hw : ∀ c, c ≠ b + pz p → mdInc (mdWrite κ (b + 90 + 5 * (6 * n + 0)) (b + pl p (sK σ p)) x) (b + pz p) 1 c = if b + pl p (sK σ p) ≤ c ∧ c < b + pl p (sK σ p) + 5 then (if c = b + pl p (sK σ p) + 4 then κ 1 (b + 90 + 5 * (6 * n + 0) + 4) + x else κ 1 (b + 90 + 5 * (6 * n + 0) + (c - (b + pl p (sK σ p))))) else κ 1 c := fun c hc => by
          rw [mdInc_def, u2_no (fun _ => hc), mdWrite_v hd]
        refine Rel_put h hp hf f1 hno ?_ ?_ ?_ ?_ ?_ ?_ ?_
        · rw [hw _ (by omega), if_pos (by omega), if_neg (by omega), Nat.sub_self, Nat.add_zero]; exact f3
        · rw [hw _ (by omega), if_pos (by omega), if_neg (by omega), show b + pl p (sK σ p) + 1 - (b + pl p (sK σ p)) = 1 by omega]; exact f4
        · rw [hw _ (by omega), if_pos (by omega), if_neg (by omega), show b + pl p (sK σ p) + 2 - (b + pl p (sK σ p)) = 2 by omega]; exact f5
        · rw [hw _ (by omega), if_pos (by omega), if_neg (by omega), show b + pl p (sK σ p) + 3 - (b + pl p (sK σ p)) = 3 by omega]; exact f6
        · rw [hw _ (by omega), if_pos (by omega), if_pos rfl, f7]
        · rw [mdInc_def, u2_ye rfl rfl, mdWrite_v hd, if_neg (by omega), ez, (iKh p hp).1, nI_1]
        · intro q h1 h2
          rw [hw q h1, if_neg (by omega)]
      · rw [eA, sK_put (by omega)]
        split
        · omega
        · exact hK
    · -- it is refused
      have p0 : ¬ p = 0 := fun q => by
        subst q
        have := Rel_C60 h f1 hno
        have e : lm 0 = 60 := rfl
        omega
      have e6 : lm p = 6 := by unfold lm; rw [if_neg p0]
      have g := (iKh p hp).2.1
      rw [if_neg p0] at c2
      have eF : mrFull (rd σ) (nI p) = true := by rw [full_n iKh hp]; exact decide_eq_true (by omega)
      have eA : msAcc σ (nI n) (nI p) = σ := by
        unfold msAcc
        rw [eId, if_neg c, if_neg (fun q => by rw [eF] at q; exact absurd q.2 (by decide))]
      refine Or.inr ⟨?_, ?_, ?_⟩
      · unfold msAccR; rw [eId, cF, eF, nodeI hp]; rfl
      · unfold mdHandR
        rw [if_neg p0, if_neg c2, Rel_mdK h (by omega) hp, if_pos (by omega)]
      · rw [eA]
        unfold mdHand
        rw [if_neg p0, if_neg c2, Rel_mdK h (by omega) hp, if_pos (by omega)]
        exact Rel_inc h 16 (by omega) (by omega) (by omega) (by omega)
theorem Rel_remove (h : Rel σ κ b B) {n : Nat} (hn0 : 0 < n) (hn : n < 10) (hK : 0 < sK σ n) : Rel (wd σ (mrRemove (rd σ) (nI n))) (mdRemove κ b n) b B := by
  have iKh := h.2.2.2.2.2.2.1
  have g := (iKh n hn).2.1
  have e6 : lm n = 6 := by unfold lm; rw [if_neg (by omega)]
  have hz : pz n = 26 + 7 * n := by unfold pz; rw [if_neg (by omega)]
  have hp0 : pl n 0 = 90 + 5 * (6 * n + 0) := by unfold pl; rw [if_neg (by omega)]
  have e1 : mrRemove (rd σ) (nI n) = u2 (kfor (mrMove (nI n)) (sK σ n - 1) 1 (rd σ)) 5 n (nI (sK σ n - 1)) := by
    unfold mrRemove
    rw [mrSize_n iKh hn, if_neg (nI_ne0 hK (by omega)), nI_clamp (by omega), nI_clamp (by omega), show (1 : Int32) = nI 1 from rfl, pk_sub (by omega)]
  have hlo : ∀ r k, ¬ r = 13 → ¬ (r = 14 ∨ r = 15) → wd σ (u2 (kfor (mrMove (nI n)) (sK σ n - 1) 1 (rd σ)) 5 n (nI (sK σ n - 1))) r k = σ r k := fun r k h1 h2 => by
    rw [wd_u2, u2_no (fun q => by omega)]
    unfold wd
    by_cases c : r < 8
    · rw [if_pos c]
    · rw [if_neg c, mvl hn _ _ _ (by omega) (by omega), if_neg (fun q => by omega)]
      show σ (8 + (r - 8)) k = σ r k
      rw [show 8 + (r - 8) = r by omega]
  rw [e1]
  refine Rel_rem h hn0 hn hK (fun r k h1 h2 h3 => hlo r k h1 (by omega)) (fun k => ?_) (fun r k hr => ?_) ?_ (fun q hq => ?_)
  · rw [wd_u2, u2_v]
    by_cases c : k = n
    · rw [if_pos ⟨rfl, c⟩, if_pos c]
    · rw [if_neg (fun q => c q.2), if_neg c]
      show kfor (mrMove (nI n)) (sK σ n - 1) 1 (rd σ) 5 k = σ 13 k
      rw [mvl hn _ _ _ (by omega) (by omega), if_neg (fun q => by omega)]
      rfl
  · rw [wd_u2, u2_no (fun q => by omega)]
    unfold wd
    rw [if_neg (by omega), mvl hn _ _ _ (by omega) (by omega)]
    have e8 : ∀ k, rd σ (r - 8) k = σ r k := fun k => by
      show σ (8 + (r - 8)) k = σ r k
      rw [show 8 + (r - 8) = r by omega]
    by_cases c : 60 * n ≤ k ∧ k < 60 * n + (sK σ n - 1)
    · rw [if_pos ⟨by omega, by omega, by omega⟩, if_pos c, e8]
    · rw [if_neg (fun q => by omega), if_neg c, e8]
  · unfold mdRemove
    rw [rml, if_neg (by omega), Rel_mdK h hn0 hn, u2_ye rfl (by omega)]
  · unfold mdRemove
    rw [rml, Rel_mdK h hn0 hn]
    by_cases c : b + pl n 0 ≤ q ∧ q < b + pl n 0 + 5 * (sK σ n - 1)
    · rw [if_pos (by omega), if_pos c, u2_no (fun _ => by omega)]
    · rw [if_neg (by omega), if_neg c, u2_no (fun _ => by omega)]
theorem conn_neg (n : Int32) : msConn σ n (-1) = false := by
  unfold msConn msOn
  have : mNode (-1) = false := by decide
  rw [this, Bool.false_and, Bool.false_and, Bool.and_false]
theorem Rel_send (h : Rel σ κ b B) {n : Nat} (hn : n < 10) : Rel (msSend σ (nI n)) (if 0 < n then mdSendA κ b n else κ) b B := by
  have hP := h.2.2.2.2.2.2.2.2
  have iKh := h.2.2.2.2.2.2.1
  by_cases c0 : σ 3 n = -1
  · have e : msSend σ (nI n) = σ := by
      unfold msSend
      rw [nI_clamp (by omega), c0, conn_neg, if_neg (fun q => absurd q.1 Bool.false_ne_true)]
    rw [e]
    split
    · unfold mdSendA
      rw [if_pos (by rw [show κ 1 (b + 20 + 7 * n + 1) = σ 3 n from h.2.1 n 1 hn (by omega)]; exact c0)]
      exact h
    · exact h
  · have hn0 : 0 < n := by
      rcases Nat.eq_zero_or_pos n with q | q
      · subst q; exact absurd hP.1 c0
      · exact q
    obtain ⟨p, hp, e3⟩ := (hP.2 n hn).resolve_left c0
    have ek : κ 1 (b + 20 + 7 * n + 1) = nI p := by rw [show κ 1 (b + 20 + 7 * n + 1) = σ 3 n from h.2.1 n 1 hn (by omega)]; exact e3
    have eP : mdP κ b n = p := by unfold mdP; rw [ek, nI_clamp (by omega)]
    rw [if_pos hn0]
    unfold mdSendA msSend
    rw [if_neg (show ¬ κ 1 (b + 20 + 7 * n + 1) = -1 by rw [ek]; exact nI_ne (by omega)), eP, nI_clamp (by omega), e3, Rel_conn h hn hp, mrSize_n iKh hn]
    unfold mdSend
    rw [Rel_mdK h hn0 hn]
    by_cases c : mdConn κ b n p = true ∧ ¬ sK σ n = 0
    · have hg := (iKh n hn).2.1
      have hl := lm_le n
      rw [if_pos ⟨c.1, fun q => c.2 ((nI_eq (by omega) (by omega)).mp (show nI (sK σ n) = nI 0 from q))⟩, if_neg (fun q => q.elim c.2 (fun q => by rw [c.1] at q; exact absurd q (by decide)))]
      have h1 : Rel (u2 σ 0 2 (σ 0 2 + 1)) (mdInc κ (b + 14)) b B := Rel_inc h 14 (by omega) (by omega) (by omega) (by omega)
      have hK1 : 0 < sK (u2 σ 0 2 (σ 0 2 + 1)) n := Nat.pos_of_ne_zero c.2
      rcases Rel_acc h1 hn0 hn hp hK1 with ⟨a1, a2, a3, a4⟩ | ⟨a1, a2, a3⟩
      · rw [a1, a2]
        obtain ⟨σ2, es⟩ : ∃ z, z = msAcc (u2 σ 0 2 (σ 0 2 + 1)) (nI n) (nI p) := ⟨_, rfl⟩
        obtain ⟨κ2, ek2⟩ : ∃ z, z = mdHand (mdInc κ (b + 14)) b (b + 90 + 5 * (6 * n + 0)) p (mdInc κ (b + 14) 1 (b + 20 + 7 * p + 0) - mdInc κ (b + 14) 1 (b + 20 + 7 * n + 0)) := ⟨_, rfl⟩
        rw [← es, ← ek2] at a3
        rw [← es] at a4
        rw [← es, ← ek2]
        unfold msSend2 mdSend2
        rw [if_neg (show ¬ true = false by decide), if_neg (show ¬ true = false by decide), nI_clamp (by omega), show κ2 1 (b + 20 + 7 * n + 4) = σ2 7 n from a3.2.1 n 4 hn (by omega)]
        by_cases c7 : 0 < σ2 7 n
        · rw [if_pos c7, if_pos c7]
          have h2 := Rel_node a3 4 (by omega) n hn (σ2 7 n - 1) (fun q => absurd q (by decide))
          exact Rel_inc h2 17 (by omega) (by omega) (by omega) (by omega)
        · rw [if_neg c7, if_neg c7]
          exact Rel_remove a3 hn0 hn a4
      · rw [a1, a2]
        unfold msSend2 mdSend2
        rw [if_pos rfl, if_pos rfl]
        exact a3
    · rw [if_neg (fun q => c ⟨q.1, fun q2 => q.2 (by rw [q2]; rfl)⟩), if_pos (by
        cases hb : mdConn κ b n p with
        | false => exact Or.inr rfl
        | true => exact Or.inl (by rcases Nat.eq_zero_or_pos (sK σ n) with q | q; exact q; exact absurd ⟨hb, by omega⟩ c))]
      exact h
theorem mFloor_n {t : Nat} (ht : t < 2 ^ 31) : mFloor (nI t) 10 = nI (t % 10) := by
  unfold mFloor
  rw [if_neg (fun q => absurd ((xor10_neg _).mp q.1) (nI_pos ht)), show (10 : Int32) = nI 10 from rfl, pk_rem ht (by decide) (by decide)]
theorem Rel_t (h : Rel σ κ b B) (hB : B < 2 ^ 30) : ∃ t, t ≤ B ∧ σ 0 0 = nI t ∧ mdT κ b = t ∧ κ 1 (b + 12) = nI t ∧ msNode σ = nI (t % 10) := by
  obtain ⟨t, ht, h1⟩ := h.2.2.2.2.2.1.1
  have e : κ 1 (b + 12) = nI t := by rw [h.1.1 12 (by omega) (by omega) (by omega)]; exact ht
  refine ⟨t, h1, ht, ?_, e, ?_⟩
  · unfold mdT; rw [e, nI_clamp (by omega)]
  · unfold msNode; rw [ht, mFloor_n (by omega)]
theorem Rel_turn (h : Rel σ κ b B) (hB : B < 2 ^ 30) : Rel (msTurn σ) (mdTurn κ b (mdT κ b % 10)) b B := by
  obtain ⟨t, h1, h2, h3, h4, h5⟩ := Rel_t h hB
  have ht : t % 10 < 10 := Nat.mod_lt _ (by decide)
  unfold msTurn mdTurn
  rw [h3, h5, nI_clamp (by omega)]
  by_cases c : mdOn κ b (t % 10) = true
  · rw [if_neg (fun q => by rw [(Rel_on2 h ht).mp q] at c; exact absurd c (by decide)), if_pos c]
    have g := Rel_send (Rel_heard (Rel_lose h ht) ht) ht
    by_cases c2 : 0 < t % 10
    · rw [if_pos c2] at g ⊢; exact g
    · rw [if_neg c2] at g ⊢; exact g
  · rw [if_pos ((Rel_on2 h ht).mpr (by cases hb : mdOn κ b (t % 10) with | true => exact absurd hb c | false => rfl)), if_neg c]
    exact h
theorem Rel_slot (h : Rel σ κ b B) (hB : B < 2 ^ 30) : Rel (msSlot σ) (mdSlot κ b) b (B + 1) := Rel_time (Rel_turn h hB) hB
theorem Rel_okSend (h : Rel σ κ b B) {n : Nat} (hn0 : 0 < n) (hn : n < 10) : okSend κ b n := by
  have hP := h.2.2.2.2.2.2.2.2
  have ek : κ 1 (b + 20 + 7 * n + 1) = σ 3 n := h.2.1 n 1 hn (by omega)
  rcases hP.2 n hn with e3 | ⟨p, hp, e3⟩
  · exact Or.inl (by rw [ek]; exact e3)
  · have eP : mdP κ b n = p := by unfold mdP; rw [ek, e3, nI_clamp (by omega)]
    refine Or.inr ⟨by rw [eP, ek]; exact e3, by rw [eP]; exact hp, fun hK e0 hc => ?_, fun hK hr => ?_⟩
    · have h1 : Rel (u2 σ 0 2 (σ 0 2 + 1)) (mdInc κ (b + 14)) b B := Rel_inc h 14 (by omega) (by omega) (by omega) (by omega)
      have hK1 : 0 < sK (u2 σ 0 2 (σ 0 2 + 1)) n := by rw [Rel_mdK h hn0 hn] at hK; exact hK
      obtain ⟨id, f1, f2, f3, f4, -⟩ := (h1.2.2.2.2.1 n hn).2 0 hK1
      have es : b + pl n 0 = b + 90 + 5 * (6 * n + 0) := by unfold pl; rw [if_neg (by omega)]; omega
      rw [es] at f3 f4
      have hr := Rel_has h1 (p := 0) (by omega) f1 f3 f4
      rw [if_pos rfl, hc] at hr
      rw [Rel_mdC h1]
      exact Rel_C60 h1 f1 (fun i hi q => absurd (hr.mpr ⟨i, hi, q⟩) (by decide))
    · have h1 : Rel (u2 σ 0 2 (σ 0 2 + 1)) (mdInc κ (b + 14)) b B := Rel_inc h 14 (by omega) (by omega) (by omega) (by omega)
      have hK1 : 0 < sK (u2 σ 0 2 (σ 0 2 + 1)) n := by rw [Rel_mdK h hn0 hn] at hK; exact hK
      rw [eP] at hr ⊢
      rcases Rel_acc h1 hn0 hn hp hK1 with ⟨a1, a2, a3, a4⟩ | ⟨a1, a2, a3⟩
      · exact ⟨Rel_okA a3 n hn, by rw [Rel_mdK a3 hn0 hn]; exact a4⟩
      · rw [a2] at hr
        exact absurd hr (by decide)
theorem Rel_okSlot (h : Rel σ κ b B) (hB : B < 2 ^ 30) : okSlot κ b := by
  obtain ⟨t, h1, h2, h3, h4, h5⟩ := Rel_t h hB
  have ht : t % 10 < 10 := Nat.mod_lt _ (by decide)
  refine ⟨Rel_okA h, Rel_okC h, by rw [h3]; exact h4, fun _ h0 => ?_⟩
  rw [h3] at h0 ⊢
  exact Rel_okSend (Rel_heard (Rel_lose h ht) ht) h0 ht
theorem Rel_runL : ∀ (k i : Nat) (σ κ : TB) (B : Nat), Rel σ κ b B → B + k < 2 ^ 30 → Rel (kfor (fun _ σ => msSlot σ) k i σ) (kfor (fun _ κ => mdSlot κ b) k i κ) b (B + k)
  | 0, _, _, _, _, h, _ => h
  | k + 1, i, σ, κ, B, h, hB => by
    have := Rel_runL k (i + 1) _ _ (B + 1) (Rel_slot h (by omega)) (by omega)
    rw [show B + 1 + k = B + (k + 1) by omega] at this
    exact this
theorem Rel_run (h : Rel σ κ b B) {k : Nat} (hB : B + k < 2 ^ 30) : Rel (msRun σ k) (mdRun κ b k) b (B + k) := Rel_runL k 0 _ _ _ h hB
theorem Rel_runR (h : Rel σ κ b B) {k : Nat} (hB : B + k < 2 ^ 30) : msRunR σ k = mdRunR κ b k := by
  have h2 := Rel_run h hB
  unfold msRunR mdRunR
  have e0 : (0 : Int32) = nI 0 := rfl
  rw [e0, mrSize_n h2.2.2.2.2.2.2.1 (by omega), mrSize_n h.2.2.2.2.2.2.1 (by omega), ← (h2.2.2.2.2.2.2.1 0 (by omega)).1, ← (h.2.2.2.2.2.2.1 0 (by omega)).1]
  rw [show mdRun κ b k 1 (b + 19) = msRun σ k 13 0 from (h2.2.2.2.2.1 0 (by omega)).1, show κ 1 (b + 19) = σ 13 0 from (h.2.2.2.2.1 0 (by omega)).1]
end RT
