section TK
variable {σ κ : TB} {B : Nat}
theorem take_eq (h : Rel σ κ 0 B) {m : Nat} (hm0 : 0 < m) (hm : m < 10) (hK : sK σ m < 6) (hT : sT σ < 60) (v : Int32) : msTakeR σ (nI m) = nI (cnt (σ 9) m (sT σ)) ∧
    msTake σ (nI m) v = u2 (u2 (u2 (u2 (u2 (u2 (u2 (u2 σ 9 (sT σ) (nI m)) 10 (sT σ) (nI (cnt (σ 9) m (sT σ)))) 11 (sT σ) v) 12 (sT σ) (σ 0 0)) 8 0 (nI (sT σ + 1))) 14 (60 * m + sK σ m) (nI (sT σ))) 15 (60 * m + sK σ m) (σ 0 0 + σ 6 m)) 13 m (nI (sK σ m + 1)) := by
  have g6 := h.2.2.2.2.2.1
  have hmid := Rel_mid h hm0 hm hT v (σ 0 0)
  have e00 : rd σ 0 0 = nI (sT σ) := g6.2.1
  have e6 : lm m = 6 := by unfold lm; rw [if_neg (by omega)]
  have hcond : ¬ (rd σ 0 0 < 0 ∨ 60 ≤ rd σ 0 0) := by
    rw [e00, show (60 : Int32) = nI 60 from rfl]
    rintro (q | q)
    · exact nI_pos (by omega) q
    · exact nI_ge hT (by decide) q
  obtain ⟨T, eT⟩ : ∃ z, z = sT σ := ⟨_, rfl⟩
  obtain ⟨N, eN⟩ : ∃ z, z = cnt (σ 9) m (sT σ) := ⟨_, rfl⟩
  obtain ⟨K, eK⟩ : ∃ z, z = sK σ m := ⟨_, rfl⟩
  rw [← eN] at hmid ⊢
  rw [← eK] at hK ⊢
  rw [← eT] at hT e00 hmid eN ⊢
  refine ⟨?_, ?_⟩
  · unfold msTakeR
    rw [if_pos (nodeI hm), mrTakeR, if_neg (by rw [e00] at hcond ⊢; exact hcond), takenAt_n g6, ← eT, ← eN]
  · obtain ⟨σm, esm⟩ : ∃ z, z = u2 (u2 (u2 (u2 (u2 σ 9 T (nI m)) 10 T (nI N)) 11 T v) 12 T (σ 0 0)) 8 0 (nI (T + 1)) := ⟨_, rfl⟩
    have er : rd σm = u2 (u2 (u2 (u2 (u2 (rd σ) 1 T (nI m)) 2 T (nI N)) 3 T v) 4 T (σ 0 0)) 0 0 (nI (T + 1)) := by
      have e1 : rd (u2 (u2 (u2 (u2 (u2 σ (8 + 1) T (nI m)) (8 + 2) T (nI N)) (8 + 3) T v) (8 + 4) T (σ 0 0)) (8 + 0) 0 (nI (T + 1))) = u2 (u2 (u2 (u2 (u2 (rd σ) 1 T (nI m)) 2 T (nI N)) 3 T v) 4 T (σ 0 0)) 0 0 (nI (T + 1)) := by
        rw [rd_u2h, rd_u2h, rd_u2h, rd_u2h, rd_u2h]
      rw [esm]
      exact e1
    rw [← esm] at hmid ⊢
    have eKm : sK σm m = K := by rw [eK, esm]; rfl
    have ew := wd_put hmid.2.2.2.2.2.2.1 hm (by rw [eKm, e6]; omega) (nI T) (σ 0 0 + σ 6 m)
    rw [eKm] at ew
    rw [← ew]
    unfold msTake
    rw [if_pos (nodeI hm), nI_clamp (show m < 2 ^ 31 by omega), mrTake, if_neg (by rw [e00] at hcond ⊢; exact hcond), takenAt_n g6, ← eT, ← eN, e00, nI_clamp (show T < 2 ^ 31 by omega), nI_1, ← er]
    refine (wd_low (fun r hr => ?_)).symm
    rw [esm, u2_ne (by omega), u2_ne (by omega), u2_ne (by omega), u2_ne (by omega), u2_ne (by omega)]
theorem can_n (h : Rel σ κ 0 B) {m : Nat} (hm0 : 0 < m) (hm : m < 10) (hc : msCanTake σ (nI m) = true) : sK σ m < 6 ∧ sT σ < 60 := by
  rw [Rel_canTake h hm0 hm] at hc
  exact canTake_n h hm0 hm hc
theorem Inv_take (h : Inv B σ) {m : Nat} (hm0 : 0 < m) (hm : m < 10) (hc : msCanTake σ (nI m) = true) (v : Int32) : Inv B (msTake σ (nI m) v) := by
  obtain ⟨⟨κ, h1⟩, t, ht, ⟨j0, j1, j2, j3, j4, j5, j6⟩, q⟩ := h
  obtain ⟨hK, hT⟩ := can_n h1 hm0 hm hc
  have hR := (Rel_take h1 hm0 hm (by rw [← Rel_canTake h1 hm0 hm]; exact hc) v).1
  have iKh := h1.2.2.2.2.2.2.1
  refine ⟨⟨_, hR⟩, t, ht, ?_⟩
  rw [(take_eq h1 hm0 hm hK hT v).2]
  obtain ⟨N, eN⟩ : ∃ z, z = cnt (σ 9) m (sT σ) := ⟨_, rfl⟩
  rw [← eN]
  obtain ⟨X, eX⟩ : ∃ z, z = u2 (u2 (u2 (u2 (u2 (u2 (u2 (u2 σ 9 (sT σ) (nI m)) 10 (sT σ) (nI N)) 11 (sT σ) v) 12 (sT σ) (σ 0 0)) 8 0 (nI (sT σ + 1))) 14 (60 * m + sK σ m) (nI (sT σ))) 15 (60 * m + sK σ m) (σ 0 0 + σ 6 m)) 13 m (nI (sK σ m + 1)) := ⟨_, rfl⟩
  rw [← eX]
  have elo : ∀ r k, r < 8 → X r k = σ r k := fun r k hr => by
    rw [eX, u2_no (fun z => by omega), u2_no (fun z => by omega), u2_no (fun z => by omega), u2_no (fun z => by omega), u2_no (fun z => by omega), u2_no (fun z => by omega), u2_no (fun z => by omega), u2_no (fun z => by omega)]
  have eS : ∀ k, sK X k = if k = m then sK σ m + 1 else sK σ k := fun k => by rw [eX, sK_put (by omega)]; rfl
  have eT8 : X 8 0 = nI (sT σ + 1) := by rw [eX, u2_no (fun z => by omega), u2_no (fun z => by omega), u2_no (fun z => by omega), u2_ye rfl rfl]
  have eT : sT X = sT σ + 1 := by
    have : sT X = (X 8 0).toNatClampNeg := rfl
    rw [this, eT8, nI_clamp (by omega)]
  have e12 : ∀ k, X 12 k = if k = sT σ then σ 0 0 else σ 12 k := fun k => by
    rw [eX, u2_no (fun z => by omega), u2_no (fun z => by omega), u2_no (fun z => by omega), u2_no (fun z => by omega), u2_v]
    by_cases c : k = sT σ
    · rw [if_pos ⟨rfl, c⟩, if_pos c]
    · rw [if_neg (fun z => c z.2), if_neg c, u2_no (fun z => by omega), u2_no (fun z => by omega), u2_no (fun z => by omega)]
  have e14 : ∀ k, X 14 k = if k = 60 * m + sK σ m then nI (sT σ) else σ 14 k := fun k => by
    rw [eX, u2_no (fun z => by omega), u2_no (fun z => by omega), u2_v]
    by_cases c : k = 60 * m + sK σ m
    · rw [if_pos ⟨rfl, c⟩, if_pos c]
    · rw [if_neg (fun z => c z.2), if_neg c, u2_no (fun z => by omega), u2_no (fun z => by omega), u2_no (fun z => by omega), u2_no (fun z => by omega), u2_no (fun z => by omega)]
  have e13 : X 13 0 = σ 13 0 := by
    rw [eX, u2_no (fun _ z => by omega), u2_no (fun z => by omega), u2_no (fun z => by omega), u2_no (fun z => by omega), u2_no (fun z => by omega), u2_no (fun z => by omega), u2_no (fun z => by omega), u2_no (fun z => by omega)]
  refine ⟨⟨by rw [elo 0 0 (by omega)]; exact j0, jT_of j1 (Nat.le_refl _) (fun k _ => elo 3 k (by omega)) (fun k _ => elo 4 k (by omega)) (fun k _ => elo 5 k (by omega)) (elo 6 0 (by omega)), jL_of j2 (fun k _ => elo 1 k (by omega)), jC_of j3 (Nat.le_refl _) (elo 0 2 (by omega)) (elo 0 3 (by omega)) (elo 0 4 (by omega)) e13, fun id hid => ?_, fun id hid => ?_, jF_of j6 (Nat.le_refl _) (elo 0 1 (by omega)) (fun k _ => elo 7 k (by omega)) (fun k _ => elo 6 k (by omega))⟩, fun i id hi hid hl => ?_⟩
  · rw [eT] at hid
    rw [e12]
    by_cases c : id = sT σ
    · rw [if_pos c]; exact ⟨t, Nat.le_refl _, j0⟩
    · rw [if_neg c]; exact j4 id (by omega)
  · rw [eT] at hid
    by_cases c : id = sT σ
    · subst c
      exact ⟨m, sK σ m, hm, by rw [eS, if_pos rfl]; omega, by rw [e14, if_pos rfl]⟩
    · obtain ⟨n, i, n1, n2, n3⟩ := j5 id (by omega)
      have hl := (iKh n n1).2.1
      have hl60 := lm_le n
      refine ⟨n, i, n1, ?_, ?_⟩
      · rw [eS]; split
        · rename_i z; rw [z] at n2; omega
        · exact n2
      · rw [e14, if_neg (fun z => ?_)]
        · exact n3
        · have : n = m := by omega
          subst this
          omega
  · rw [eT] at hid
    rw [sK_of e13] at hi
    have hl60 := (iKh 0 (by omega)).2.1
    have hl0 := lm_le 0
    rw [e14, if_neg (by omega)] at hl
    obtain ⟨id0, f1, f2, -⟩ := (h1.2.2.2.2.1 0 (by omega)).2 i hi
    rw [show 60 * 0 + i = i by omega, hl] at f2
    have c : id = id0 := (nI_eq (by omega) (by omega)).mp f2
    rw [e12, if_neg (by omega)]
    exact q i id hi (by omega) hl
end TK
def mdInit1 (i : Nat) (κ : TB) : TB := u2 (u2 κ 1 (0 + 20 + 7 * i + 1) (-1)) 1 (0 + 20 + 7 * i + 2) (if i = 0 then 0 else -1)
def mdInit : TB := kfor mdInit1 10 0 (u2 (u2 msZero 1 10 1023) 1 11 2)
theorem Rel_init : Rel msInit mdInit 0 0 := by
  have hK : ∀ n, n < 10 → sK msInit n = 0 := by decide +kernel
  have hT : sT msInit = 0 := by decide +kernel
  have h3 : ∀ n, n < 10 → msInit 3 n = -1 := by decide +kernel
  have hA : ∀ c, c < 19 → 11 ≤ c → c ≠ 13 → mdInit 1 (0 + c) = msInit 0 (nk c) := by decide +kernel
  have hB : ∀ n, n < 10 → ∀ o, o < 5 → mdInit 1 (0 + 20 + 7 * n + o) = msInit (ro o) n := by decide +kernel
  have hX : ∀ n, n < 10 → mdInit 1 (0 + 20 + 7 * n + 5) = nI (cnt (msInit 9) n (sT msInit)) := by decide +kernel
  have hL : ∀ a, a < 10 → ∀ j, j < 10 → msInit 1 (10 * a + j) = bt (mdInit 1 (0 + a)) j := by decide +kernel
  have hL2 : ∀ j, j < 10 → msInit 2 j = bt (mdInit 1 (0 + 10)) j := by decide +kernel
  have hC : ∀ n, n < 10 → mdInit 1 (0 + pz n) = msInit 13 n := by decide +kernel
  have hC2 : ∀ n, n < 10 → msInit 13 n = nI 0 := by decide +kernel
  refine ⟨⟨fun c h1 h2 h3 => hA c h2 h1 h3, by decide +kernel, by decide +kernel⟩, fun n o hn ho => hB n hn o ho, hX, ⟨fun a j ha hj => hL a ha j hj, hL2⟩, fun n hn => ⟨hC n hn, fun i hi => ?_⟩, ⟨⟨0, by decide +kernel, Nat.le_refl 0⟩, by decide +kernel, by rw [hT]; omega⟩, fun n hn => ⟨by rw [hK n hn]; exact hC2 n hn, by rw [hK n hn]; omega, fun i j _ hj => ?_⟩, fun id hid => ?_, h3 0 (by omega), fun n hn => Or.inl (h3 n hn)⟩
  · rw [hK n hn] at hi; omega
  · rw [hK n hn] at hj; omega
  · rw [hT] at hid; omega
theorem Inv_init : Inv 0 msInit := by
  have hT : sT msInit = 0 := by decide +kernel
  have hK : sK msInit 0 = 0 := by decide +kernel
  have h3 : ∀ m, m < 10 → 0 < m → msInit 3 m = -1 ∧ msInit 4 m = -1 := by decide +kernel
  have hL : ∀ a, a < 10 → msInit 1 (10 * a + a) = 0 ∧ ∀ c, c < 10 → msInit 1 (10 * a + c) = msInit 1 (10 * c + a) := by decide +kernel
  have hF : ∀ m, m < 10 → msInit 7 m = nI 0 ∧ msInit 6 m = 0 := by decide +kernel
  refine ⟨⟨_, Rel_init⟩, 0, Nat.le_refl _, ⟨by decide +kernel, ⟨by decide +kernel, by decide +kernel, fun m m0 m1 => Or.inl (h3 m m1 m0)⟩, hL, ⟨0, 0, 0, by decide +kernel, by decide +kernel, by decide +kernel, by rw [hK]; omega, by omega⟩, fun id hid => by rw [hT] at hid; omega, fun id hid => by rw [hT] at hid; omega, ⟨2, by omega, by decide +kernel⟩, fun m hm => ⟨⟨0, by omega, (hF m hm).1⟩, ?_⟩⟩, fun i id hi hid => by rw [hT] at hid; omega⟩
  rw [(hF m hm).2]
  decide
