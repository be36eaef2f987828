/-! P36: what the tables give -/
/-- an array's class out of the tables' word -/
theorem arr_of {s : State} {args : Array Value} {ty : FieldType} (hr : refKind ty = false) (h : (Cond.arrayClass ty).before args s = true) : ∃ cA, ArrOfT s cA ty ∧ va_RA s cA ty := by
  obtain ⟨cA, k, comp, h1, h2, h3⟩ := Cond.arrayClass_spec h
  refine ⟨cA, fun n z => ⟨fun k h => ?_, k, h2, comp, h3⟩, ?_⟩
  · cases h
  · unfold va_RA
    cases ty with
    | object C => exact absurd (show refKind (.object C) = false from hr) (by show ¬ true = false; decide)
    | _ => exact h1
theorem arr_ofq {s : State} {C : String} (h : va_AO C s) : ∃ cA, ArrOfT s cA (.object C) ∧ va_RA s cA (.object C) := by
  obtain ⟨comp, cA, k, h1, -, h3, h4, h5⟩ := Cond.arrayOver_spec (va_AO.use (A := #[]) h)
  refine ⟨cA, fun n z => ⟨fun k h => ?_, k, h3, comp, h4⟩, k, comp, h3, h4, h1, h5⟩
  cases h
section ST
variable {p : Program} {s : State} {m : MethodId} {meth : Method} {c : Code} {b L : Nat} {xs : Nat → Int32}
theorem at_wX (C0 : lw_At p s m meth c b L xs) : wX (fun q : Nat => s.heap.size ≤ q) s s.heap := by
  obtain ⟨hx, hb, hr, hml, hown, hts, hX, hbl, hlocks, hgv⟩ := C0
  have hs := flat_of_before _ hgv
  exact ⟨vx_Zqof (hts _ (by decide +kernel)) (hts _ (by decide +kernel)) (hs _ (by decide +kernel)) (fun a h => Nat.not_le.mpr h), vx_Zqof (hts _ (by decide +kernel)) (hts _ (by decide +kernel)) (hs _ (by decide +kernel)) (fun a h => Nat.not_le.mpr h)⟩
theorem at_wN (C0 : lw_At p s m meth c b L xs) : wN s := by
  obtain ⟨hx, hb, hr, hml, hown, hts, hX, hbl, hlocks, hgv⟩ := C0
  have hs := flat_of_before _ hgv
  obtain ⟨c4, iS4, hK4⟩ := u_known (C := RX4) (T := TX4) (N := 4) (n := 4) hts (fun w h => BW_tbl w (bl_X4 w h)) (hts _ (BW_tbl _ bw_1))
  refine ⟨fun w hw => ?_, va_AO.of (A := #[.ref b]) (hts _ (by decide +kernel)), fun k hk => ?_, fun q hq => va_Nc.of (args := #[.ref b]) (hs _ ?_), fun E hE => va_tabs (A := #[.ref b]) rfl rfl (hts _ ?_), fun y hy => va_tabs (A := #[.ref b]) rfl rfl (hts _ ?_)⟩
  · exact va_tabs (A := #[.ref b]) (nwTab (NW_ok w hw)) rfl (hts w (List.all_eq_true.mp (show NW.all (fun w => decide (w ∈ lw_tbl)) = true by decide +kernel) w hw |> of_decide_eq_true))
  · have h1 : (Cond.stringRef k.1 k.2.1 k.2.2).before #[.ref b] s = true := hts _ (List.all_eq_true.mp (show SL.all (fun k => decide (Cond.stringRef k.1 k.2.1 k.2.2 ∈ lw_tbl)) = true by decide +kernel) k hk |> of_decide_eq_true)
    have h2 : k.1 = RX4 := List.all_eq_true.mp (show SL.all (fun k => decide (k.1 = RX4)) = true by decide +kernel) k hk |> of_decide_eq_true
    obtain ⟨_, _, _, sa, _, _, _, _, _, hev⟩ := Cond.stringRef_spec (by rw [h2]; exact hK4.2.1) h1
    exact ⟨sa, vk_R.of (A := #[.ref b]) h1 hev⟩
  · revert q; decide +kernel
  · revert E; decide +kernel
  · revert y; decide +kernel
theorem at_K (C0 : lw_At p s m meth c b L xs) : ∃ (D : va_G) (ct : Nat → ClassId), va_K D vwCl (zty ct) s := by
  have hN := at_wN C0
  obtain ⟨hx, hb, hr, hml, hown, hts, hX, hbl, hlocks, hgv⟩ := C0
  obtain ⟨c0, iS0, hK0⟩ := u_known (C := RX0) (T := TX0) (N := 3) (n := 3) hts (fun w h => BW_tbl w (bl_X0 w h)) (hts _ (BW_tbl _ bw_16))
  obtain ⟨c1, iS1, hK1⟩ := u_known (C := RX1) (T := TX1) (N := 8) (n := 8) hts (fun w h => BW_tbl w (bl_X1 w h)) (hts _ (BW_tbl _ bw_36))
  obtain ⟨c2, iS2, hK2⟩ := u_known (C := RX2) (T := TX2) (N := 15) (n := 15) hts (fun w h => BW_tbl w (bl_X2 w h)) (hts _ (BW_tbl _ bw_11))
  obtain ⟨c3, iS3, hK3⟩ := u_known (C := RX3) (T := TX3) (N := 7) (n := 7) hts (fun w h => BW_tbl w (bl_X3 w h)) (hts _ (BW_tbl _ bw_20))
  obtain ⟨c4, iS4, hK4⟩ := u_known (C := RX4) (T := TX4) (N := 4) (n := 4) hts (fun w h => BW_tbl w (bl_X4 w h)) (hts _ (BW_tbl _ bw_1))
  obtain ⟨a0, hA0⟩ := arr_of (s := s) (args := #[.ref b]) (ty := .int) rfl (hts _ (BW_tbl _ bw_29))
  obtain ⟨a1, hA1⟩ := arr_of (s := s) (args := #[.ref b]) (ty := .boolean) rfl (hts _ (BW_tbl _ bw_26))
  obtain ⟨a2, hA2⟩ := arr_of (s := s) (args := #[.ref b]) (ty := .char) rfl (hts _ (BW_tbl _ bw_58))
  obtain ⟨a3, hA3⟩ := arr_ofq hN.2.1
  refine ⟨(fun k => [c0, c1, c2, c3, c4].getD k c0, fun k => [iS0, iS1, iS2, iS3, iS4].getD k iS0), fun k => [a0, a1, a2, a3].getD k a0, ?_, ?_⟩
  · intro k q hq
    match k, hq with
    | 0, hq => cases hq; exact hK0
    | 1, hq => cases hq; exact hK1
    | 2, hq => cases hq; exact hK2
    | 3, hq => cases hq; exact hK3
    | 4, hq => cases hq; exact hK4
    | k + 5, hq => simp [vwCl] at hq
  · intro k q hq
    match k, hq with
    | 0, hq => cases hq; exact hA0
    | 1, hq => cases hq; exact hA1
    | 2, hq => cases hq; exact hA2
    | 3, hq => cases hq; exact hA3
    | k + 4, hq => simp [zty] at hq
end ST
