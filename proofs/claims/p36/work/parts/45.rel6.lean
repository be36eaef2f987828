/-! THE RELATION: links, switches, taking -/
theorem nar_01 {v : Int32} (h : v = 0 ∨ v = 1) : vp_nar .boolean v = v ∧ (if v = 0 then (0 : Int32) else 1) = v := by
  rcases h with rfl | rfl
  · exact ⟨by decide, rfl⟩
  · exact ⟨by decide, rfl⟩
theorem kfor_add {α : Type} {f : Nat → α → α} : ∀ (k1 k2 i : Nat) (a : α), kfor f (k1 + k2) i a = kfor f k2 (i + k1) (kfor f k1 i a)
  | 0, k2, i, a => by rw [Nat.zero_add]; rfl
  | k1 + 1, k2, i, a => by
    rw [show k1 + 1 + k2 = (k1 + k2) + 1 by omega]
    show kfor f (k1 + k2) (i + 1) (f i a) = kfor f k2 (i + (k1 + 1)) (kfor f k1 (i + 1) (f i a))
    rw [kfor_add k1 k2, show i + 1 + k1 = i + (k1 + 1) by omega]
theorem kfor_sum {g : Nat → Int32} : ∀ (k i : Nat) (a : Int32), kfor (fun k n => n + g k) k i a = a + kfor (fun k n => n + g k) k i 0
  | 0, _, a => (Int32.add_zero a).symm
  | k + 1, i, a => by
    show kfor (fun k n => n + g k) k (i + 1) (a + g i) = a + kfor (fun k n => n + g k) k (i + 1) (0 + g i)
    rw [kfor_sum k (i + 1) (a + g i), kfor_sum k (i + 1) (0 + g i), Int32.zero_add, Int32.add_assoc]
theorem kfor_ext {α : Type} {f g : Nat → α → α} : ∀ (k i j : Nat) (a : α), (∀ d z, d < k → f (i + d) z = g (j + d) z) → kfor f k i a = kfor g k j a
  | 0, _, _, _, _ => rfl
  | k + 1, i, j, a, h => by
    show kfor f k (i + 1) (f i a) = kfor g k (j + 1) (g j a)
    have h0 := h 0 a (by omega)
    rw [Nat.add_zero, Nat.add_zero] at h0
    rw [h0]
    exact kfor_ext k (i + 1) (j + 1) _ (fun d z hd => by rw [show i + 1 + d = i + (d + 1) by omega, show j + 1 + d = j + (d + 1) by omega]; exact h (d + 1) z (by omega))
theorem bt_if (x : Int32) (j : Nat) : (if bt x j = 0 then (0 : Int32) else 1) = bt x j := by
  rcases bt_01 x j with h | h <;> rw [h] <;> rfl
section RL6
variable {σ κ : TB} {b B : Nat}
theorem Rel_link (h : Rel σ κ 0 B) {a c : Nat} (ha : a < 10) (hc : c < 10) {v : Int32} (hv : v = 0 ∨ v = 1) : Rel (msSetLink σ (nI a) (nI c) v) (mdLink κ a c v) 0 B := by
  obtain ⟨g1, g2, g3, g4, g5, g6, g7, g8, g9⟩ := h
  obtain ⟨n1, n2⟩ := nar_01 hv
  have e : msSetLink σ (nI a) (nI c) v = u2 (u2 σ 1 (10 * a + c) v) 1 (10 * c + a) v := by
    unfold msSetLink
    rw [if_pos ⟨nodeI ha, nodeI hc⟩, at10 ha hc, at10 hc ha, n1]
  have ek : ∀ q, 11 ≤ q → mdLink κ a c v 1 q = κ 1 q := fun q hq => by
    unfold mdLink
    rw [u2_no (fun _ => by omega), u2_no (fun _ => by omega)]
  rw [e]
  refine ⟨rA_of g1 (fun _ _ => rfl) rfl (fun d h1 h2 => ek _ (by omega)) (ek _ (by omega)), rB_of g2 (fun o n ho hn => ?_) (fun n o hn ho => ek _ (by omega)), rX_of g3 rfl (fun _ _ => rfl) (fun n hn => ek _ (by omega)), ⟨fun i j hi hj => ?_, fun j hj => ?_⟩, rC_of g5 g7 rfl (fun _ _ => rfl) (fun _ _ => rfl) (fun _ _ => rfl) (fun r e1 e2 j _ => ?_) (fun n hn => ek _ (by have := pz_lt hn; omega)) (fun n i d hn hi hd => ek _ (by have := pl_ge (n := n) (i := i); omega)), iT_of g6 rfl rfl, iK_of g7 (fun _ _ => rfl) (fun _ _ => rfl), iR_of g8 rfl (fun r e1 e2 j _ => ?_), iP_of g9 (fun _ _ => rfl)⟩
  · have := ro_lt o
    rw [u2_no (fun q => by omega), u2_no (fun q => by omega)]
  · have eκ : mdLink κ a c v 1 (0 + i) = if i = c then mdBit (if c = a then mdBit (κ 1 (0 + a)) c v else κ 1 (0 + c)) a v else if i = a then mdBit (κ 1 (0 + a)) c v else κ 1 (0 + i) := by
      unfold mdLink
      rw [u2_v]
      by_cases c1 : i = c
      · rw [if_pos ⟨rfl, by omega⟩, if_pos c1, u2_v]
        by_cases c2 : c = a
        · rw [if_pos ⟨rfl, by omega⟩, if_pos c2]
        · rw [if_neg (fun q => c2 (by omega)), if_neg c2]
      · rw [if_neg (fun q => c1 (by omega)), if_neg c1, u2_v]
        by_cases c2 : i = a
        · rw [if_pos ⟨rfl, by omega⟩, if_pos c2]
        · rw [if_neg (fun q => c2 (by omega)), if_neg c2]
    rw [eκ, u2_v, u2_v]
    by_cases c1 : i = c
    · rw [if_pos c1, bt_set _ _ (by omega) (by omega), n2]
      by_cases c2 : j = a
      · rw [if_pos ⟨rfl, by omega⟩, if_pos c2]
      · rw [if_neg (fun q => c2 (by omega)), if_neg c2]
        by_cases c3 : c = a
        · rw [if_pos c3, bt_set _ _ (by omega) (by omega), n2]
          by_cases c4 : j = c
          · exact absurd (c4.trans c3) c2
          · rw [if_neg (fun q => c4 (by omega)), if_neg c4, g4.1 i j hi hj, show i = a by omega]
        · rw [if_neg c3, if_neg (fun q => c3 (by omega)), g4.1 i j hi hj, c1]
    · rw [if_neg c1, if_neg (fun q => c1 (by omega))]
      by_cases c2 : i = a
      · rw [if_pos c2, bt_set _ _ (by omega) (by omega), n2]
        by_cases c3 : j = c
        · rw [if_pos ⟨rfl, by omega⟩, if_pos c3]
        · rw [if_neg (fun q => c3 (by omega)), if_neg c3, g4.1 i j hi hj, c2]
      · rw [if_neg c2, if_neg (fun q => c2 (by omega))]
        exact g4.1 i j hi hj
  · have e10 : mdLink κ a c v 1 (0 + 10) = κ 1 (0 + 10) := by
      unfold mdLink
      rw [u2_no (fun _ => by omega), u2_no (fun _ => by omega)]
    rw [e10]
    exact g4.2 j hj
  · rw [u2_no (fun q => by omega), u2_no (fun q => by omega)]
  · rw [u2_no (fun q => by omega), u2_no (fun q => by omega)]
theorem Rel_power (h : Rel σ κ 0 B) {n : Nat} (hn : n < 10) {v : Int32} (hv : v = 0 ∨ v = 1) : Rel (msSetPower σ (nI n) v) (mdPower κ n v) 0 B := by
  obtain ⟨g1, g2, g3, g4, g5, g6, g7, g8, g9⟩ := h
  obtain ⟨n1, n2⟩ := nar_01 hv
  have e : msSetPower σ (nI n) v = u2 σ 2 n v := by
    unfold msSetPower
    rw [if_pos (nodeI hn), nI_clamp (by omega), n1]
  have ek : ∀ q, q ≠ 10 → mdPower κ n v 1 q = κ 1 q := fun q hq => by
    unfold mdPower
    rw [u2_no (fun _ => hq)]
  rw [e]
  refine ⟨rA_of g1 (fun _ _ => rfl) rfl (fun d h1 h2 => ek _ (by omega)) (ek _ (by omega)), rB_of g2 (fun o n ho hn => ?_) (fun n o hn ho => ek _ (by omega)), rX_of g3 rfl (fun _ _ => rfl) (fun n hn => ek _ (by omega)), ⟨fun i j hi hj => ?_, fun j hj => ?_⟩, rC_of g5 g7 rfl (fun _ _ => rfl) (fun _ _ => rfl) (fun _ _ => rfl) (fun r e1 e2 j _ => ?_) (fun n hn => ek _ (by have := pz_lt hn; omega)) (fun n i d hn hi hd => ek _ (by have := pl_ge (n := n) (i := i); omega)), iT_of g6 rfl rfl, iK_of g7 (fun _ _ => rfl) (fun _ _ => rfl), iR_of g8 rfl (fun r e1 e2 j _ => ?_), iP_of g9 (fun _ _ => rfl)⟩
  · have := ro_lt o
    rw [u2_no (fun q => by omega)]
  · rw [ek _ (by omega)]
    exact g4.1 i j hi hj
  · have e10 : mdPower κ n v 1 (0 + 10) = mdBit (κ 1 10) n v := u2_ye rfl rfl
    rw [e10, bt_set _ _ (by omega) (by omega), n2, u2_v]
    by_cases c : j = n
    · rw [if_pos ⟨rfl, c⟩, if_pos c]
    · rw [if_neg (fun q => c q.2), if_neg c]
      exact g4.2 j hj
  · rw [u2_no (fun q => by omega)]
  · rw [u2_no (fun q => by omega)]
theorem ones_bt (x : Int32) : mdOnes x = kfor (fun k (n : Int32) => n + bt x k) 10 0 0 := rfl
theorem Rel_onCount (h : Rel σ κ 0 B) : msOnCount σ = mdOnes (κ 1 10) := by
  rw [ones_bt]
  unfold msOnCount
  refine kfor_ext 10 0 0 0 (fun d z hd => ?_)
  show z + (if σ 2 (nI (0 + d)).toNatClampNeg = 0 then 0 else 1) = z + bt (κ 1 10) (0 + d)
  rw [nI_clamp (by omega), h.2.2.2.1.2 (0 + d) (by omega), bt_if]
theorem Rel_linksL (h : Rel σ κ 0 B) : ∀ (k i : Nat) (z : Int32), i + k ≤ 10 → kfor (fun i (a : Int32) => a + (if σ 1 (nI i).toNatClampNeg = 0 then 0 else 1)) (10 * k) (10 * i) z = kfor (fun k (n : Int32) => n + mdOnes (κ 1 (0 + k))) k i z
  | 0, _, _, _ => rfl
  | k + 1, i, z, hi => by
    rw [show 10 * (k + 1) = 10 + 10 * k by omega, kfor_add, show 10 * i + 10 = 10 * (i + 1) by omega]
    show _ = kfor (fun k (n : Int32) => n + mdOnes (κ 1 (0 + k))) k (i + 1) (z + mdOnes (κ 1 (0 + i)))
    rw [Rel_linksL h k (i + 1) _ (by omega)]
    congr 1
    rw [ones_bt, ← kfor_sum]
    refine kfor_ext 10 (10 * i) 0 z (fun d z hd => ?_)
    show z + (if σ 1 (nI (10 * i + d)).toNatClampNeg = 0 then 0 else 1) = z + bt (κ 1 (0 + i)) (0 + d)
    rw [nI_clamp (by omega), h.2.2.2.1.1 i d (by omega) hd, bt_if, Nat.zero_add d]
theorem Rel_links (h : Rel σ κ 0 B) : msLinks σ = mdLinks κ := by
  unfold msLinks mdLinks
  rw [Rel_linksL h 10 0 0 (by omega)]
theorem cnt_kfor {f : Nat → Int32} {m : Nat} : ∀ (k i : Nat), i + k < 2 ^ 31 → kfor (fun i (a : Int32) => a + (if f (nI i).toNatClampNeg = nI m then 1 else 0)) k i (nI (cnt f m i)) = nI (cnt f m (i + k))
  | 0, _, _ => rfl
  | k + 1, i, h => by
    show kfor _ k (i + 1) (nI (cnt f m i) + (if f (nI i).toNatClampNeg = nI m then 1 else 0)) = _
    have e : nI (cnt f m i) + (if f (nI i).toNatClampNeg = nI m then (1 : Int32) else 0) = nI (cnt f m (i + 1)) := by
      rw [nI_clamp (by omega)]
      show _ = nI (cnt f m i + _)
      by_cases c : f i = nI m
      · rw [if_pos c, if_pos c, nI_1]
      · rw [if_neg c, if_neg c, Int32.add_zero]; rfl
    rw [e, cnt_kfor k (i + 1) (by omega), show i + 1 + k = i + (k + 1) by omega]
theorem lim_n (h : iT σ B) : mrLim (rd σ) = sT σ := by
  have e : rd σ 0 0 = nI (sT σ) := h.2.1
  have := h.2.2
  unfold mrLim
  rw [e, show (60 : Int32) = nI 60 from rfl, if_neg (nI_nlt (by omega) (by omega)), nI_clamp (by omega)]
theorem takenAt_n (h : iT σ B) (m : Nat) : mrTakenAt (rd σ) (nI m) = nI (cnt (σ 9) m (sT σ)) := by
  have := h.2.2
  have e := cnt_kfor (f := σ 9) (m := m) (sT σ) 0 (by omega)
  rw [Nat.zero_add] at e
  unfold mrTakenAt
  rw [lim_n h]
  exact e
theorem Rel_canTake (h : Rel σ κ 0 B) {m : Nat} (hm0 : 0 < m) (hm : m < 10) : msCanTake σ (nI m) = mdCan κ m := by
  have iKh := h.2.2.2.2.2.2.1
  have e6 : lm m = 6 := by unfold lm; rw [if_neg (by omega)]
  unfold msCanTake mdCan
  rw [full_n iKh hm, Rel_mdK h hm0 hm, show κ 1 13 = σ 8 0 by have := h.1.2.1; rwa [Nat.zero_add] at this, e6, Bool.and_comm]
  congr 1
  by_cases c : sK σ m < 6
  · rw [decide_eq_true c, decide_eq_false (by omega)]; rfl
  · rw [decide_eq_false c, decide_eq_true (by omega)]; rfl
theorem canTake_n (h : Rel σ κ 0 B) {m : Nat} (hm0 : 0 < m) (hm : m < 10) (hc : mdCan κ m = true) : sK σ m < 6 ∧ sT σ < 60 := by
  unfold mdCan at hc
  rw [Rel_mdK h hm0 hm, Bool.and_eq_true, decide_eq_true_eq, decide_eq_true_eq, show κ 1 13 = σ 8 0 by have := h.1.2.1; rwa [Nat.zero_add] at this, h.2.2.2.2.2.1.2.1, show (60 : Int32) = nI 60 from rfl] at hc
  have := h.2.2.2.2.2.1.2.2
  rw [nI_ltI (by omega) (by decide)] at hc
  exact hc
theorem Rel_mid (h : Rel σ κ 0 B) {m : Nat} (hm0 : 0 < m) (hm : m < 10) (hT : sT σ < 60) (v t : Int32) :
    Rel (u2 (u2 (u2 (u2 (u2 σ 9 (sT σ) (nI m)) 10 (sT σ) (nI (cnt (σ 9) m (sT σ)))) 11 (sT σ) v) 12 (sT σ) t) 8 0 (nI (sT σ + 1))) (u2 (u2 κ 1 (0 + 20 + 7 * m + 5) (nI (cnt (σ 9) m (sT σ) + 1))) 1 13 (nI (sT σ + 1))) 0 B := by
  obtain ⟨g1, g2, g3, g4, g5, g6, g7, g8, g9⟩ := h
  obtain ⟨T, eT⟩ : ∃ z, z = sT σ := ⟨_, rfl⟩
  obtain ⟨N, eN⟩ : ∃ z, z = cnt (σ 9) m T := ⟨_, rfl⟩
  rw [← eT] at hT ⊢
  rw [← eN]
  obtain ⟨σ2, es⟩ : ∃ z, z = u2 (u2 (u2 (u2 (u2 σ 9 T (nI m)) 10 T (nI N)) 11 T v) 12 T t) 8 0 (nI (T + 1)) := ⟨_, rfl⟩
  rw [← es]
  have hrow : ∀ r k, r ≠ 8 → (9 ≤ r → r < 13 → k ≠ T) → σ2 r k = σ r k := fun r k h1 h2 => by
    rw [es, u2_no (fun q => by omega), u2_no (fun q => h2 (by omega) (by omega)), u2_no (fun q => h2 (by omega) (by omega)), u2_no (fun q => h2 (by omega) (by omega)), u2_no (fun q => h2 (by omega) (by omega))]
  have e8 : σ2 8 0 = nI (T + 1) := by rw [es, u2_ye rfl rfl]
  have eS : sT σ2 = T + 1 := by unfold sT; rw [e8, nI_clamp (by omega)]
  have e9 : σ2 9 T = nI m := by rw [es, u2_no (fun q => by omega), u2_no (fun q => by omega), u2_no (fun q => by omega), u2_no (fun q => by omega), u2_ye rfl rfl]
  have e10 : σ2 10 T = nI N := by rw [es, u2_no (fun q => by omega), u2_no (fun q => by omega), u2_no (fun q => by omega), u2_ye rfl rfl]
  have hk : ∀ q, q ≠ 0 + 20 + 7 * m + 5 → q ≠ 13 → (u2 (u2 κ 1 (0 + 20 + 7 * m + 5) (nI (N + 1))) 1 13 (nI (T + 1))) 1 q = κ 1 q := fun q h1 h2 => by
    rw [u2_no (fun _ => h2), u2_no (fun _ => h1)]
  have hT60 := g6.2.2
  have hr9 : ∀ r j, 9 ≤ r → r < 13 → j < T → σ2 r j = σ r j := fun r j h1 h2 h3 => hrow r j (by omega) (fun _ _ => by omega)
  refine ⟨⟨fun c h1 h2 h3 => ?_, ?_, ?_⟩, rB_of g2 (fun o n ho hn => ?_) (fun n o hn ho => ?_), fun n hn => ?_, rL_of g4 (fun k _ => hrow 1 k (by omega) (fun _ _ => by omega)) (fun k _ => hrow 2 k (by omega) (fun _ _ => by omega)) (fun c hc => hk _ (by omega) (by omega)), fun n hn => ⟨?_, fun i hi => ?_⟩, ⟨?_, ?_, ?_⟩, iK_of g7 (fun n _ => hrow 13 n (by omega) (fun _ _ => by omega)) (fun k _ => hrow 14 k (by omega) (fun _ _ => by omega)), fun id hid => ?_, iP_of g9 (fun n _ => hrow 3 n (by omega) (fun _ _ => by omega))⟩
  · rw [hk _ (by omega) (by omega), hrow 0 _ (by omega) (fun _ _ => by omega)]
    exact g1.1 c h1 h2 h3
  · rw [e8]; exact u2_ye rfl rfl
  · rw [hk _ (by omega) (by omega)]; exact g1.2.2
  · have := ro_lt o
    exact hrow _ _ (by omega) (fun _ _ => by omega)
  · exact hk _ (by omega) (by omega)
  · rw [eS]
    show _ = nI (cnt (σ2 9) n T + _)
    rw [cnt_of (fun j hj => hr9 9 j (by omega) (by omega) hj), e9]
    by_cases c : n = m
    · subst c
      rw [u2_no (fun _ => by omega), u2_ye rfl rfl, if_pos rfl, eN]
    · rw [hk _ (by omega) (by omega), if_neg (fun q => c ((nI_eq (by omega) (by omega)).mp q).symm), Nat.add_zero, eT]
      exact g3 n hn
  · have := pz_ne (n := n) (m := m) (o := 5) (by omega)
    have := pz_lt hn
    rw [hk _ (by omega) (by omega), hrow 13 _ (by omega) (fun _ _ => by omega)]
    exact (g5 n hn).1
  · have hi2 : i < sK σ n := by
      unfold sK at hi ⊢
      rwa [hrow 13 _ (by omega) (fun _ _ => by omega)] at hi
    obtain ⟨id, f1, f2, f3, f4, f5, f6, f7⟩ := (g5 n hn).2 i hi2
    have hge := pl_ge (n := n) (i := i)
    rw [← eT] at f1
    refine ⟨id, by omega, ?_, ?_, ?_, ?_, ?_, ?_⟩
    · rw [hrow 14 _ (by omega) (fun _ _ => by omega)]; exact f2
    · rw [hk _ (by omega) (by omega), hr9 9 _ (by omega) (by omega) f1]; exact f3
    · rw [hk _ (by omega) (by omega), hr9 10 _ (by omega) (by omega) f1]; exact f4
    · rw [hk _ (by omega) (by omega), hr9 11 _ (by omega) (by omega) f1]; exact f5
    · rw [hk _ (by omega) (by omega), hr9 12 _ (by omega) (by omega) f1]; exact f6
    · rw [hk _ (by omega) (by omega), hrow 15 _ (by omega) (fun _ _ => by omega)]; exact f7
  · rw [hrow 0 _ (by omega) (fun _ _ => by omega)]; exact g6.1
  · rw [e8, eS]
  · rw [eS]; omega
  · rw [eS] at hid
    by_cases c : id = T
    · subst c
      refine ⟨m, hm0, hm, e9, ?_⟩
      rw [e10, cnt_of (fun j hj => hr9 9 j (by omega) (by omega) hj), eN]
    · have hid2 : id < T := by omega
      obtain ⟨k, k1, k2, k3, k4⟩ := g8 id (by rw [← eT]; exact hid2)
      refine ⟨k, k1, k2, by rw [hr9 9 _ (by omega) (by omega) hid2]; exact k3, ?_⟩
      rw [hr9 10 _ (by omega) (by omega) hid2, cnt_of (fun j hj => hr9 9 j (by omega) (by omega) (by omega))]
      exact k4
theorem rd_u2h {r k : Nat} {x : Int32} : rd (u2 σ (8 + r) k x) = u2 (rd σ) r k x := by
  funext r1 k1
  show u2 σ (8 + r) k x (8 + r1) k1 = _
  rw [u2_v, u2_v]
  by_cases c : r1 = r ∧ k1 = k
  · rw [if_pos ⟨by omega, c.2⟩, if_pos c]
  · rw [if_neg (fun q => c ⟨by omega, q.2⟩), if_neg c]; rfl
theorem wd_low {σ2 ρ : TB} (h : ∀ r, r < 8 → σ2 r = σ r) : wd σ2 ρ = wd σ ρ := by
  funext r
  unfold wd
  by_cases c : r < 8
  · rw [if_pos c, if_pos c, h r c]
  · rw [if_neg c, if_neg c]
theorem Rel_take (h : Rel σ κ 0 B) {m : Nat} (hm0 : 0 < m) (hm : m < 10) (hc : mdCan κ m = true) (v : Int32) : Rel (msTake σ (nI m) v) (mdTake κ m v) 0 B ∧ msTakeR σ (nI m) = mdTake κ m v 1 (0 + 20 + 7 * m + 5) - 1 := by
  obtain ⟨hK, hT⟩ := canTake_n h hm0 hm hc
  have g6 := h.2.2.2.2.2.1
  have iKh := h.2.2.2.2.2.2.1
  have hmid := Rel_mid h hm0 hm hT v (σ 0 0)
  have e00 : rd σ 0 0 = nI (sT σ) := g6.2.1
  have e6 : lm m = 6 := by unfold lm; rw [if_neg (by omega)]
  have hcond : ¬ (rd σ 0 0 < 0 ∨ 60 ≤ rd σ 0 0) := by
    rw [e00, show (60 : Int32) = nI 60 from rfl]
    rintro (q | q)
    · exact nI_pos (by omega) q
    · exact nI_ge hT (by decide) q
  have eX : κ 1 (0 + 20 + 7 * m + 5) = nI (cnt (σ 9) m (sT σ)) := h.2.2.1 m hm
  have ePl : pl m (sK σ m) = 90 + 5 * (6 * m + sK σ m) := by unfold pl; rw [if_neg (by omega)]
  have ePz : pz m = 26 + 7 * m := by unfold pz; rw [if_neg (by omega)]
  have eKd : mdK κ 0 m = sK σ m := Rel_mdK h hm0 hm
  have eTime : κ 1 12 = σ 0 0 := by have := h.1.1 12 (by omega) (by omega) (by omega); rwa [Nat.zero_add] at this
  have eOff : κ 1 (0 + 20 + 7 * m + 0) = σ 6 m := h.2.1 m 0 hm (by omega)
  have eTk : κ 1 13 = nI (sT σ) := by have := h.1.2.1; rw [Nat.zero_add] at this; rw [this]; exact g6.2.1
  have eKz : κ 1 (0 + 20 + 7 * m + 6) = nI (sK σ m) := by rw [Rel_K h hm0 hm]; exact (iKh m hm).1
  obtain ⟨T, eT⟩ : ∃ z, z = sT σ := ⟨_, rfl⟩
  obtain ⟨N, eN⟩ : ∃ z, z = cnt (σ 9) m (sT σ) := ⟨_, rfl⟩
  obtain ⟨K, eK⟩ : ∃ z, z = sK σ m := ⟨_, rfl⟩
  obtain ⟨π, eπ⟩ : ∃ z, z = 0 + 90 + 5 * (6 * m + K) := ⟨_, rfl⟩
  rw [← eK] at hK ePl eKz eKd
  rw [← eT] at hT e00 eTk hmid
  rw [← eT] at eN
  rw [← eT, ← eN] at eX
  rw [← eN] at hmid
  have hE : mdTake κ m v = u2 (u2 (u2 (u2 (u2 (u2 (u2 (u2 κ 1 π (nI m)) 1 (π + 1) (nI N)) 1 (π + 2) v) 1 (π + 3) (σ 0 0)) 1 (π + 4) (σ 0 0 + σ 6 m)) 1 (0 + 20 + 7 * m + 6) (nI (K + 1))) 1 (0 + 20 + 7 * m + 5) (nI (N + 1))) 1 13 (nI (T + 1)) := by
    unfold mdTake mdTk5 mdTk4 mdTk3 mdTk2 mdTk1
    rw [eKd, ← eπ]
    simp only [mdInc_def]
    have r1 : u2 κ 1 π (nI m) 1 (0 + 20 + 7 * m + 5) = nI N := by rw [u2_no (fun _ => by omega)]; exact eX
    rw [r1]
    have r2 : u2 (u2 (u2 κ 1 π (nI m)) 1 (π + 1) (nI N)) 1 (π + 2) v 1 12 = σ 0 0 := by rw [u2_no (fun _ => by omega), u2_no (fun _ => by omega), u2_no (fun _ => by omega)]; exact eTime
    rw [r2]
    obtain ⟨X, eXX⟩ : ∃ z, z = u2 (u2 (u2 (u2 κ 1 π (nI m)) 1 (π + 1) (nI N)) 1 (π + 2) v) 1 (π + 3) (σ 0 0) := ⟨_, rfl⟩
    rw [← eXX]
    have hX : ∀ q, q < π → X 1 q = κ 1 q := fun q hq => by rw [eXX, u2_no (fun _ => by omega), u2_no (fun _ => by omega), u2_no (fun _ => by omega), u2_no (fun _ => by omega)]
    rw [hX 12 (by omega), hX (0 + 20 + 7 * m + 0) (by omega), eTime, eOff]
    have r3 : u2 X 1 (π + 4) (σ 0 0 + σ 6 m) 1 (0 + 20 + 7 * m + 6) = nI K := by rw [u2_no (fun _ => by omega), hX _ (by omega)]; exact eKz
    rw [r3, nI_1]
    have r4 : u2 (u2 X 1 (π + 4) (σ 0 0 + σ 6 m)) 1 (0 + 20 + 7 * m + 6) (nI (K + 1)) 1 (0 + 20 + 7 * m + 5) = nI N := by rw [u2_no (fun _ => by omega), u2_no (fun _ => by omega), hX _ (by omega)]; exact eX
    rw [r4, nI_1]
    have r5 : u2 (u2 (u2 X 1 (π + 4) (σ 0 0 + σ 6 m)) 1 (0 + 20 + 7 * m + 6) (nI (K + 1))) 1 (0 + 20 + 7 * m + 5) (nI (N + 1)) 1 13 = nI T := by rw [u2_no (fun _ => by omega), u2_no (fun _ => by omega), u2_no (fun _ => by omega), hX _ (by omega)]; exact eTk
    rw [r5, nI_1]
  have hr : msTakeR σ (nI m) = nI N := by
    unfold msTakeR
    rw [if_pos (nodeI hm), mrTakeR, if_neg (by rw [e00] at hcond ⊢; exact hcond), takenAt_n g6, ← eT, ← eN]
  refine ⟨?_, ?_⟩
  · obtain ⟨σm, esm⟩ : ∃ z, z = u2 (u2 (u2 (u2 (u2 σ 9 T (nI m)) 10 T (nI N)) 11 T v) 12 T (σ 0 0)) 8 0 (nI (T + 1)) := ⟨_, rfl⟩
    have er : rd σm = u2 (u2 (u2 (u2 (u2 (rd σ) 1 T (nI m)) 2 T (nI N)) 3 T v) 4 T (σ 0 0)) 0 0 (nI (T + 1)) := by
      have e1 : rd (u2 (u2 (u2 (u2 (u2 σ (8 + 1) T (nI m)) (8 + 2) T (nI N)) (8 + 3) T v) (8 + 4) T (σ 0 0)) (8 + 0) 0 (nI (T + 1))) = u2 (u2 (u2 (u2 (u2 (rd σ) 1 T (nI m)) 2 T (nI N)) 3 T v) 4 T (σ 0 0)) 0 0 (nI (T + 1)) := by
        rw [rd_u2h, rd_u2h, rd_u2h, rd_u2h, rd_u2h]
      rw [esm]
      exact e1
    rw [← esm] at hmid
    have eKm : sK σm m = K := by rw [eK, esm]; rfl
    have eTm : sT σm = T + 1 := by rw [esm]; unfold sT; rw [u2_ye rfl rfl, nI_clamp (by omega)]
    have ecl : msTake σ (nI m) v = u2 (u2 (u2 σm 14 (60 * m + sK σm m) (nI T)) 15 (60 * m + sK σm m) (σ 0 0 + σ 6 m)) 13 m (nI (sK σm m + 1)) := by
      rw [← wd_put hmid.2.2.2.2.2.2.1 hm (by rw [eKm, e6]; omega) (nI T) (σ 0 0 + σ 6 m)]
      unfold msTake
      rw [if_pos (nodeI hm), nI_clamp (show m < 2 ^ 31 by omega), mrTake, if_neg (by rw [e00] at hcond ⊢; exact hcond), takenAt_n g6, ← eT, ← eN, e00, nI_clamp (show T < 2 ^ 31 by omega), nI_1, ← er]
      refine (wd_low (fun r hr => ?_)).symm
      rw [esm, u2_ne (by omega), u2_ne (by omega), u2_ne (by omega), u2_ne (by omega), u2_ne (by omega)]
    rw [ecl, hE]
    have n9 : σm 9 T = nI m := by rw [esm, u2_no (fun q => by omega), u2_no (fun q => by omega), u2_no (fun q => by omega), u2_no (fun q => by omega), u2_ye rfl rfl]
    have n10 : σm 10 T = nI N := by rw [esm, u2_no (fun q => by omega), u2_no (fun q => by omega), u2_no (fun q => by omega), u2_ye rfl rfl]
    have n11 : σm 11 T = v := by rw [esm, u2_no (fun q => by omega), u2_no (fun q => by omega), u2_ye rfl rfl]
    have n12 : σm 12 T = σ 0 0 := by rw [esm, u2_no (fun q => by omega), u2_ye rfl rfl]
    have eπ2 : 0 + pl m (sK σm m) = π := by rw [eKm, ePl, eπ]; omega
    refine Rel_put hmid hm (by rw [eKm, e6]; omega) (by rw [eTm]; omega) (fun i hi q => ?_) ?_ ?_ ?_ ?_ ?_ ?_ (fun q h1 h2 => ?_)
    · rw [eKm] at hi
      obtain ⟨id, f1, f2, -⟩ := (h.2.2.2.2.1 m hm).2 i (by rw [← eK]; exact hi)
      rw [← eT] at f1
      have e14 : σm 14 (60 * m + i) = σ 14 (60 * m + i) := by rw [esm]; rfl
      rw [e14, f2] at q
      have := (nI_eq (by omega) (by omega)).mp q
      omega
    · rw [eπ2, n9, u2_no (fun _ => by omega), u2_no (fun _ => by omega), u2_no (fun _ => by omega), u2_no (fun _ => by omega), u2_no (fun _ => by omega), u2_no (fun _ => by omega), u2_no (fun _ => by omega), u2_ye rfl rfl]
    · rw [eπ2, n10, u2_no (fun _ => by omega), u2_no (fun _ => by omega), u2_no (fun _ => by omega), u2_no (fun _ => by omega), u2_no (fun _ => by omega), u2_no (fun _ => by omega), u2_ye rfl rfl]
    · rw [eπ2, n11, u2_no (fun _ => by omega), u2_no (fun _ => by omega), u2_no (fun _ => by omega), u2_no (fun _ => by omega), u2_no (fun _ => by omega), u2_ye rfl rfl]
    · rw [eπ2, n12, u2_no (fun _ => by omega), u2_no (fun _ => by omega), u2_no (fun _ => by omega), u2_no (fun _ => by omega), u2_ye rfl rfl]
    · rw [eπ2, u2_no (fun _ => by omega), u2_no (fun _ => by omega), u2_no (fun _ => by omega), u2_ye rfl rfl]
    · rw [ePz, eKm, u2_no (fun _ => by omega), u2_no (fun _ => by omega), u2_ye rfl (by omega)]
    · rw [ePz] at h1
      rw [eπ2] at h2
      by_cases c1 : q = 13
      · rw [u2_ye rfl c1, u2_ye rfl c1]
      · by_cases c2 : q = 0 + 20 + 7 * m + 5
        · rw [u2_no (fun _ => c1), u2_ye rfl c2, u2_no (fun _ => c1), u2_ye rfl c2]
        · rw [u2_no (fun _ => c1), u2_no (fun _ => c2), u2_no (fun _ => by omega), u2_no (fun _ => by omega), u2_no (fun _ => by omega), u2_no (fun _ => by omega), u2_no (fun _ => by omega), u2_no (fun _ => by omega), u2_no (fun _ => c1), u2_no (fun _ => c2)]
  · rw [hr, hE, u2_no (fun _ => by omega), u2_ye rfl rfl, ← nI_1, Int32.add_sub_cancel]
end RL6
