/-! THE START: the first state of both, and what the tables give -/
theorem Rel_init : Rel msInit mdInit 0 0 := by
  have hK : ∀ n, n < 10 → sK msInit n = 0 := by decide +kernel
  have hT : sT msInit = 0 := by decide +kernel
  have h3 : ∀ n, n < 10 → msInit 3 n = -1 := by decide +kernel
  have hA : ∀ c, c < 19 → 11 ≤ c → c ≠ 13 → mdInit 1 (0 + c) = msInit 0 (nk c) := by decide +kernel
  have hB : ∀ n, n < 10 → ∀ o, o < 5 → mdInit 1 (0 + 20 + 7 * n + o) = msInit (ro o) n := by decide +kernel
  have hX : ∀ n, n < 10 → mdInit 1 (0 + 20 + 7 * n + 5) = nI (cnt (msInit 9) n (sT msInit)) := by decide +kernel
  have hL : ∀ a, a < 10 → ∀ j, j < 10 → msInit 1 (10 * a + j) = bt (mdInit 1 (0 + a)) j := by decide +kernel
  have hL2 : ∀ j, j < 10 → msInit 2 j = bt (mdInit 1 (0 + 10)) j := by decide +kernel
  have hC : ∀ n, n < 10 → mdInit 1 (0 + pz n) = msInit 13 n := by decide +kernel
  have hC2 : ∀ n, n < 10 → msInit 13 n = nI 0 := by decide +kernel
  refine ⟨⟨fun c h1 h2 h3 => hA c h2 h1 h3, by decide +kernel, by decide +kernel⟩, fun n o hn ho => hB n hn o ho, hX, ⟨fun a j ha hj => hL a ha j hj, hL2⟩, fun n hn => ⟨hC n hn, fun i hi => ?_⟩, ⟨⟨0, by decide +kernel, Nat.le_refl 0⟩, by decide +kernel, by rw [hT]; omega⟩, fun n hn => ⟨by rw [hK n hn]; exact hC2 n hn, by rw [hK n hn]; omega, fun i j _ hj => ?_⟩, fun id hid => ?_, h3 0 (by omega), fun n hn => Or.inl (h3 n hn)⟩
  · rw [hK n hn] at hi; omega
  · rw [hK n hn] at hj; omega
  · rw [hT] at hid; omega
theorem lawI_init : lawI 0 msInit (fun _ _ => 0) mdInit 0 0 (fun _ => none) (fun _ => none) := by
  have h2 : ∀ k, k < 80 → mdInit 2 k = 0 := by decide +kernel
  refine ⟨Rel_init, ⟨⟨0, by omega, rfl, by decide +kernel⟩, fun k hk => (h2 k hk).symm, fun k _ => ⟨0, by omega, rfl⟩⟩, 0, 0, rfl, by omega, rfl, by omega, by decide +kernel, fun j _ => rfl, fun i hi => absurd hi (Nat.not_lt_zero i)⟩
/-- an array's class out of the tables' word -/
theorem arr_of {s : State} {args : Array Value} {ty : FieldType} (hr : refKind ty = false) (h : (Cond.arrayClass ty).before args s = true) : ∃ cA, ArrOfT s cA ty ∧ va_RA s cA ty := by
  obtain ⟨cA, k, comp, h1, h2, h3⟩ := Cond.arrayClass_spec h
  refine ⟨cA, fun n z => ⟨fun k h => ?_, k, h2, comp, h3⟩, ?_⟩
  · cases h
  · unfold va_RA
    cases ty with
    | object C => exact absurd (show refKind (.object C) = false from hr) (by show ¬ true = false; decide)
    | _ => exact h1
theorem arr_ofq {s : State} {C : String} (h : va_AO C s) : ∃ cA, ArrOfT s cA (.object C) ∧ va_RA s cA (.object C) := by
  obtain ⟨comp, cA, k, h1, -, h3, h4, h5⟩ := Cond.arrayOver_spec (va_AO.use (A := #[]) h)
  refine ⟨cA, fun n z => ⟨fun k h => ?_, k, h3, comp, h4⟩, k, comp, h3, h4, h1, h5⟩
  cases h
section ST
variable {p : Program} {s : State} {m : MethodId} {meth : Method} {c : Code} {b L : Nat} {xs : Nat → Int32}
theorem at_wX (C0 : lw_At p s m meth c b L xs) : wX (fun q : Nat => s.heap.size ≤ q) s s.heap := by
  obtain ⟨hx, hb, hr, hml, hown, hts, hX, hbl, hlocks, hgv⟩ := C0
  have hs := flat_of_before _ hgv
  exact ⟨vx_Zqof (hts _ (by decide +kernel)) (hts _ (by decide +kernel)) (hs _ (by decide +kernel)) (fun a h => Nat.not_le.mpr h), vx_Zqof (hts _ (by decide +kernel)) (hts _ (by decide +kernel)) (hs _ (by decide +kernel)) (fun a h => Nat.not_le.mpr h)⟩
theorem at_wN (C0 : lw_At p s m meth c b L xs) : wN s := by
  obtain ⟨hx, hb, hr, hml, hown, hts, hX, hbl, hlocks, hgv⟩ := C0
  have hs := flat_of_before _ hgv
  obtain ⟨c4, iS4, hK4⟩ := u_known (C := RX4) (T := TX4) (N := 4) (n := 4) hts (fun w h => BW_tbl w (bl_X4 w h)) (hts _ (BW_tbl _ bw_1))
  refine ⟨fun w hw => ?_, va_AO.of (A := #[.ref b]) (hts _ (by decide +kernel)), fun k hk => ?_, fun q hq => va_Nc.of (args := #[.ref b]) (hs _ ?_), fun E hE => va_tabs (A := #[.ref b]) rfl rfl (hts _ ?_), fun y hy => va_tabs (A := #[.ref b]) rfl rfl (hts _ ?_)⟩
  · exact va_tabs (A := #[.ref b]) (nwTab (NW_ok w hw)) rfl (hts w (List.all_eq_true.mp (show NW.all (fun w => decide (w ∈ lw_tbl)) = true by decide +kernel) w hw |> of_decide_eq_true))
  · have h1 : (Cond.stringRef k.1 k.2.1 k.2.2).before #[.ref b] s = true := hts _ (List.all_eq_true.mp (show SL.all (fun k => decide (Cond.stringRef k.1 k.2.1 k.2.2 ∈ lw_tbl)) = true by decide +kernel) k hk |> of_decide_eq_true)
    have h2 : k.1 = RX4 := List.all_eq_true.mp (show SL.all (fun k => decide (k.1 = RX4)) = true by decide +kernel) k hk |> of_decide_eq_true
    obtain ⟨_, _, _, sa, _, _, _, _, _, hev⟩ := Cond.stringRef_spec (by rw [h2]; exact hK4.2.1) h1
    exact ⟨sa, vk_R.of (A := #[.ref b]) h1 hev⟩
  · revert q; decide +kernel
  · revert E; decide +kernel
  · revert y; decide +kernel
theorem at_K (C0 : lw_At p s m meth c b L xs) : ∃ (D : va_G) (ct : Nat → ClassId), va_K D vwCl (zty ct) s := by
  have hN := at_wN C0
  obtain ⟨hx, hb, hr, hml, hown, hts, hX, hbl, hlocks, hgv⟩ := C0
  obtain ⟨c0, iS0, hK0⟩ := u_known (C := RX0) (T := TX0) (N := 3) (n := 3) hts (fun w h => BW_tbl w (bl_X0 w h)) (hts _ (BW_tbl _ bw_19))
  obtain ⟨c1, iS1, hK1⟩ := u_known (C := RX1) (T := TX1) (N := 8) (n := 8) hts (fun w h => BW_tbl w (bl_X1 w h)) (hts _ (BW_tbl _ bw_39))
  obtain ⟨c2, iS2, hK2⟩ := u_known (C := RX2) (T := TX2) (N := 15) (n := 15) hts (fun w h => BW_tbl w (bl_X2 w h)) (hts _ (BW_tbl _ bw_14))
  obtain ⟨c3, iS3, hK3⟩ := u_known (C := RX3) (T := TX3) (N := 7) (n := 7) hts (fun w h => BW_tbl w (bl_X3 w h)) (hts _ (BW_tbl _ bw_23))
  obtain ⟨c4, iS4, hK4⟩ := u_known (C := RX4) (T := TX4) (N := 4) (n := 4) hts (fun w h => BW_tbl w (bl_X4 w h)) (hts _ (BW_tbl _ bw_1))
  obtain ⟨c5, iS5, hK5⟩ := u_known (C := RX5) (T := TX5) (N := 9) (n := 9) hts (fun w h => BW_tbl w (bl_X5 w h)) (hts _ (BW_tbl _ bw_4))
  obtain ⟨a0, hA0⟩ := arr_of (s := s) (args := #[.ref b]) (ty := .int) rfl (hts _ (BW_tbl _ bw_32))
  obtain ⟨a1, hA1⟩ := arr_of (s := s) (args := #[.ref b]) (ty := .boolean) rfl (hts _ (BW_tbl _ bw_29))
  obtain ⟨a2, hA2⟩ := arr_of (s := s) (args := #[.ref b]) (ty := .char) rfl (hts _ (BW_tbl _ bw_61))
  obtain ⟨a3, hA3⟩ := arr_ofq hN.2.1
  obtain ⟨a4, hA4⟩ := arr_of (s := s) (args := #[.ref b]) (ty := .long) rfl (hts _ (BW_tbl _ bw_6))
  refine ⟨(fun k => [c0, c1, c2, c3, c4, c5].getD k c0, fun k => [iS0, iS1, iS2, iS3, iS4, iS5].getD k iS0), fun k => [a0, a1, a2, a3, a4].getD k a0, ?_, ?_⟩
  · intro k q hq
    match k, hq with
    | 0, hq => cases hq; exact hK0
    | 1, hq => cases hq; exact hK1
    | 2, hq => cases hq; exact hK2
    | 3, hq => cases hq; exact hK3
    | 4, hq => cases hq; exact hK4
    | 5, hq => cases hq; exact hK5
    | k + 6, hq => simp [vwCl] at hq
  · intro k q hq
    match k, hq with
    | 0, hq => cases hq; exact hA0
    | 1, hq => cases hq; exact hA1
    | 2, hq => cases hq; exact hA2
    | 3, hq => cases hq; exact hA3
    | 4, hq => cases hq; exact hA4
    | k + 5, hq => simp [zty] at hq
end ST
