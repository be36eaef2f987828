/-! ONE CALL OF THE SCRIPT, each kind of call -/
theorem Rel_12 {σ κ : TB} {B : Nat} (h : Rel σ κ 0 B) : κ 1 12 = σ 0 0 := h.1.1 12 (by omega) (by omega) (by omega)
theorem mdHop2_r {r : Nat} (hr : r ≠ 3) (d : Nat) (κ : TB) : mdHop2 d κ r = κ r := row_kfor (fun j ξ => u2_ne hr) _ _ _
theorem mdHops_r {r : Nat} (hr : r ≠ 3) (κ : TB) : mdHops κ r = κ r := by
  unfold mdHops
  rw [row_kfor (fun j ξ => mdHop2_r hr j ξ)]
  exact row_kfor (f := mdHop0) (fun j ξ => u2_ne hr) _ _ _
section STQ
variable {p : Program} {l : Launch} {e : Env} {s : State} {m : MethodId} {args : Array Value} {below : List Frame} {meth : Method} {c : Code} {D : va_G} {A : Nat → Prop} {Q : State → Prop} {ct : Nat → ClassId} {b0 b ao i L : Nat} {xs : Nat → Int32} {q qs qt qh qx : Nat → Nat} {n cells slots : Nat} {σ ρ τ κ : TB} {g : Nat → Int64} {o z : Int32} {rg : Nat → Option Nat} {og : Nat → Option ((Nat → Nat) × TB)}
set_option maxRecDepth 100000 in
set_option maxHeartbeats 1000000 in
theorem st_parent (hC : zC p s m meth c args RL 9 cL_law D ct A) (hx : wX A s s.heap) (hX : va_X b0 L xs s s.heap) (hbl : b0 < s.heap.size) (hbA : ¬ A b0) (hL : L ≤ 2048) (hi : i + 3 < L) (hlf : l.stackTraces = false) (hb1 : cells + 17 ≤ 601024) (hb2 : slots + 1640 ≤ 7293034) (hn6 : n < 600) (hI : lawI n σ τ κ o z rg og) (K : zKK p l e s m args below meth c D A Q b0 b ao i q qs qt qh qx ct n cells slots) : zW1 p l e s m args below meth c D A Q b0 b ao i (q 0) cells slots 925 (blk (lwF b ao q qs qt qh qx σ ρ τ κ g o z rg og ct) all13) := by
  have hR := hI.1
  by_cases hn : mNode (xs (i + 1)) = true
  · obtain ⟨v, hv, e1⟩ := node_ex hn
    refine z_open (cl := [0, 1]) (rs := [4, 5, 6, 7, 8, 9, 10, 11, 12]) (by decide) e_01 rfl rfl ?_
    have HEQ := (show σ 3 (xs (i + 1)).toNatClampNeg = κ 1 (0 + 20 + 7 * v + 1) by rw [e1, nI_clamp (by omega)]; exact (hR.2.1 v 1 hv (by omega)).symm)
    refine lc_parent hC hx hX hbl hbA hL hi (κ2 := (u2 κ 0 2 0)) (bb := κ 1 (0 + 20 + 7 * v + 1)) (hk_parent l D ct ao b g (xs (i + 1)) _ _ _ (by decide) (by decide) (c_X4_parent l D ct b qs qt qh qx σ (xs (i + 1)) hn) rfl zd_int) (by rw [e1]; exact c_X5_parent_ok l D ct q κ v hv) (by decide) (by decide) ?_ (by omega) (by omega) ?_
    · rintro k wc' wb g' ⟨rfl, x, ⟨hx1, rfl, rfl⟩, rfl⟩
      cases hx1
      refine ⟨rfl, fun _ => ?_⟩
      exact pk_uLs.trans (congrArg Int32.toInt64 HEQ)
    · rintro k wc' wb g' ⟨rfl, x, ⟨hx1, rfl, rfl⟩, rfl⟩
      rw [List.append_nil]
      exact k_same (cl := [0, 1]) (rs := [4, 5, 6, 7, 8, 9, 10, 11, 12]) K (lawI_thr hI 0) (by decide) _ e_01 rfl (by omega) (by omega)
  · refine z_open (cl := [0]) (rs := [1, 4, 5, 6, 7, 8, 9, 10, 11, 12]) (by decide) e_0 rfl rfl ?_
    refine lc_parent hC hx hX hbl hbA hL hi (κ2 := (u2 κ 0 2 1)) (bb := 0) (hx_parent_1 l D ct ao b g (xs (i + 1)) _ _ _ (by decide) (by decide) (x_X4_parent_IOB l D ct b qs qt qh qx (xs (i + 1)) (bfalse hn) hlf) rfl rfl) (c_X5_parent_no1 l D ct q κ (xs (i + 1)) (bfalse hn)) (by decide) (by decide) ?_ (by omega) (by omega) ?_
    · rintro k wc' wb g' ⟨rfl, rfl, rfl, rfl⟩
      exact ⟨rfl, fun h => absurd h (by decide)⟩
    · rintro k wc' wb g' ⟨rfl, rfl, rfl, rfl⟩
      rw [List.append_nil]
      exact k_same (cl := [0]) (rs := [1, 4, 5, 6, 7, 8, 9, 10, 11, 12]) K (lawI_thr hI 1) (by decide) _ e_0 rfl (by omega) (by omega)

set_option maxRecDepth 100000 in
set_option maxHeartbeats 1000000 in
theorem st_depth (hC : zC p s m meth c args RL 9 cL_law D ct A) (hx : wX A s s.heap) (hX : va_X b0 L xs s s.heap) (hbl : b0 < s.heap.size) (hbA : ¬ A b0) (hL : L ≤ 2048) (hi : i + 3 < L) (hlf : l.stackTraces = false) (hb1 : cells + 17 ≤ 601024) (hb2 : slots + 1640 ≤ 7293034) (hn6 : n < 600) (hI : lawI n σ τ κ o z rg og) (K : zKK p l e s m args below meth c D A Q b0 b ao i q qs qt qh qx ct n cells slots) : zW1 p l e s m args below meth c D A Q b0 b ao i (q 0) cells slots 981 (blk (lwF b ao q qs qt qh qx σ ρ τ κ g o z rg og ct) all13) := by
  have hR := hI.1
  by_cases hn : mNode (xs (i + 1)) = true
  · obtain ⟨v, hv, e1⟩ := node_ex hn
    refine z_open (cl := [0, 1]) (rs := [4, 5, 6, 7, 8, 9, 10, 11, 12]) (by decide) e_01 rfl rfl ?_
    have HEQ := (show σ 4 (xs (i + 1)).toNatClampNeg = κ 1 (0 + 20 + 7 * v + 2) by rw [e1, nI_clamp (by omega)]; exact (hR.2.1 v 2 hv (by omega)).symm)
    refine lc_depth hC hx hX hbl hbA hL hi (κ2 := (u2 κ 0 2 0)) (bb := κ 1 (0 + 20 + 7 * v + 2)) (hk_depth l D ct ao b g (xs (i + 1)) _ _ _ (by decide) (by decide) (c_X4_depth l D ct b qs qt qh qx σ (xs (i + 1)) hn) rfl zd_int) (by rw [e1]; exact c_X5_depth_ok l D ct q κ v hv) (by decide) (by decide) ?_ (by omega) (by omega) ?_
    · rintro k wc' wb g' ⟨rfl, x, ⟨hx1, rfl, rfl⟩, rfl⟩
      cases hx1
      refine ⟨rfl, fun _ => ?_⟩
      exact pk_uLs.trans (congrArg Int32.toInt64 HEQ)
    · rintro k wc' wb g' ⟨rfl, x, ⟨hx1, rfl, rfl⟩, rfl⟩
      rw [List.append_nil]
      exact k_same (cl := [0, 1]) (rs := [4, 5, 6, 7, 8, 9, 10, 11, 12]) K (lawI_thr hI 0) (by decide) _ e_01 rfl (by omega) (by omega)
  · refine z_open (cl := [0]) (rs := [1, 4, 5, 6, 7, 8, 9, 10, 11, 12]) (by decide) e_0 rfl rfl ?_
    refine lc_depth hC hx hX hbl hbA hL hi (κ2 := (u2 κ 0 2 1)) (bb := 0) (hx_depth_1 l D ct ao b g (xs (i + 1)) _ _ _ (by decide) (by decide) (x_X4_depth_IOB l D ct b qs qt qh qx (xs (i + 1)) (bfalse hn) hlf) rfl rfl) (c_X5_depth_no1 l D ct q κ (xs (i + 1)) (bfalse hn)) (by decide) (by decide) ?_ (by omega) (by omega) ?_
    · rintro k wc' wb g' ⟨rfl, rfl, rfl, rfl⟩
      exact ⟨rfl, fun h => absurd h (by decide)⟩
    · rintro k wc' wb g' ⟨rfl, rfl, rfl, rfl⟩
      rw [List.append_nil]
      exact k_same (cl := [0]) (rs := [1, 4, 5, 6, 7, 8, 9, 10, 11, 12]) K (lawI_thr hI 1) (by decide) _ e_0 rfl (by omega) (by omega)

set_option maxRecDepth 100000 in
set_option maxHeartbeats 1000000 in
theorem st_clock (hC : zC p s m meth c args RL 9 cL_law D ct A) (hx : wX A s s.heap) (hX : va_X b0 L xs s s.heap) (hbl : b0 < s.heap.size) (hbA : ¬ A b0) (hL : L ≤ 2048) (hi : i + 3 < L) (hlf : l.stackTraces = false) (hb1 : cells + 17 ≤ 601024) (hb2 : slots + 1640 ≤ 7293034) (hn6 : n < 600) (hI : lawI n σ τ κ o z rg og) (K : zKK p l e s m args below meth c D A Q b0 b ao i q qs qt qh qx ct n cells slots) : zW1 p l e s m args below meth c D A Q b0 b ao i (q 0) cells slots 1037 (blk (lwF b ao q qs qt qh qx σ ρ τ κ g o z rg og ct) all13) := by
  have hR := hI.1
  by_cases hn : mNode (xs (i + 1)) = true
  · obtain ⟨v, hv, e1⟩ := node_ex hn
    refine z_open (cl := [0, 1]) (rs := [4, 5, 6, 7, 8, 9, 10, 11, 12]) (by decide) e_01 rfl rfl ?_
    have HEQ := (show σ 0 0 + σ 6 (xs (i + 1)).toNatClampNeg = κ 1 12 + κ 1 (0 + 20 + 7 * v + 0) by rw [e1, nI_clamp (by omega), Rel_12 hR, hR.2.1 v 0 hv (by omega)]; rfl)
    refine lc_clock hC hx hX hbl hbA hL hi (κ2 := (u2 κ 0 2 0)) (bb := (κ 1 12 + κ 1 (0 + 20 + 7 * v + 0))) (hk_clock l D ct ao b g (xs (i + 1)) _ _ _ (by decide) (by decide) (c_X4_clock l D ct b qs qt qh qx σ (xs (i + 1)) hn) rfl zd_int) (by rw [e1]; exact c_X5_clock_ok l D ct q κ v hv) (by decide) (by decide) ?_ (by omega) (by omega) ?_
    · rintro k wc' wb g' ⟨rfl, x, ⟨hx1, rfl, rfl⟩, rfl⟩
      cases hx1
      refine ⟨rfl, fun _ => ?_⟩
      exact pk_uLs.trans (congrArg Int32.toInt64 HEQ)
    · rintro k wc' wb g' ⟨rfl, x, ⟨hx1, rfl, rfl⟩, rfl⟩
      rw [List.append_nil]
      exact k_same (cl := [0, 1]) (rs := [4, 5, 6, 7, 8, 9, 10, 11, 12]) K (lawI_thr hI 0) (by decide) _ e_01 rfl (by omega) (by omega)
  · refine z_open (cl := [0]) (rs := [1, 4, 5, 6, 7, 8, 9, 10, 11, 12]) (by decide) e_0 rfl rfl ?_
    refine lc_clock hC hx hX hbl hbA hL hi (κ2 := (u2 κ 0 2 1)) (bb := 0) (hx_clock_1 l D ct ao b g (xs (i + 1)) _ _ _ (by decide) (by decide) (x_X4_clock_IOB l D ct b qs qt qh qx (xs (i + 1)) (bfalse hn) hlf) rfl rfl) (c_X5_clock_no1 l D ct q κ (xs (i + 1)) (bfalse hn)) (by decide) (by decide) ?_ (by omega) (by omega) ?_
    · rintro k wc' wb g' ⟨rfl, rfl, rfl, rfl⟩
      exact ⟨rfl, fun h => absurd h (by decide)⟩
    · rintro k wc' wb g' ⟨rfl, rfl, rfl, rfl⟩
      rw [List.append_nil]
      exact k_same (cl := [0]) (rs := [1, 4, 5, 6, 7, 8, 9, 10, 11, 12]) K (lawI_thr hI 1) (by decide) _ e_0 rfl (by omega) (by omega)

set_option maxRecDepth 100000 in
set_option maxHeartbeats 1000000 in
theorem st_hops (hC : zC p s m meth c args RL 9 cL_law D ct A) (hx : wX A s s.heap) (hX : va_X b0 L xs s s.heap) (hbl : b0 < s.heap.size) (hbA : ¬ A b0) (hL : L ≤ 2048) (hi : i + 3 < L) (hlf : l.stackTraces = false) (hb1 : cells + 17 ≤ 601024) (hb2 : slots + 1640 ≤ 7293034) (hn6 : n < 600) (hI : lawI n σ τ κ o z rg og) (K : zKK p l e s m args below meth c D A Q b0 b ao i q qs qt qh qx ct n cells slots) : zW1 p l e s m args below meth c D A Q b0 b ao i (q 0) cells slots 1205 (blk (lwF b ao q qs qt qh qx σ ρ τ κ g o z rg og ct) all13) := by
  have hR := hI.1
  by_cases hn : mNode (xs (i + 1)) = true
  · obtain ⟨v, hv, e1⟩ := node_ex hn
    refine z_open (cl := [0, 1]) (rs := [4, 5, 6, 7, 8, 9, 10, 11, 12]) (by decide) e_01 rfl rfl ?_
    have HEQ := (show msHops σ (xs (i + 1)) = mdHops (u2 κ 0 2 0) 3 v by rw [e1]; exact Rel_hops (κ := (u2 κ 0 2 0)) (Rel_r1 hR rfl) hv)
    refine lc_hops hC hx hX hbl hbA hL hi (κ2 := (mdHops (u2 κ 0 2 0))) (bb := (mdHops (u2 κ 0 2 0) 3 v)) (hk_hops l D ct ao b g (xs (i + 1)) _ _ _ (by decide) (by decide) (c_X4_hops l D ct b qs qt qh qx σ (xs (i + 1)) hn) rfl zd_int) (by rw [e1]; exact c_X5_hops_ok l D ct q κ v hv) (by decide) (by decide) ?_ (by omega) (by omega) ?_
    · rintro k wc' wb g' ⟨rfl, x, ⟨hx1, rfl, rfl⟩, rfl⟩
      cases hx1
      refine ⟨by rw [mdHops_r (by omega)]; rfl, fun _ => ?_⟩
      exact pk_uLs.trans (congrArg Int32.toInt64 HEQ)
    · rintro k wc' wb g' ⟨rfl, x, ⟨hx1, rfl, rfl⟩, rfl⟩
      rw [List.append_nil]
      exact k_same (cl := [0, 1]) (rs := [4, 5, 6, 7, 8, 9, 10, 11, 12]) K (lawI_same hI (by rw [mdHops_r (by omega)]; rfl) (by rw [mdHops_r (by omega)]; rfl) (fun _ _ => by rw [mdHops_r (by omega)]; rfl) (by rw [mdHops_r (by omega)]; rfl)) (by decide) _ e_01 rfl (by omega) (by omega)
  · refine z_open (cl := [0]) (rs := [1, 4, 5, 6, 7, 8, 9, 10, 11, 12]) (by decide) e_0 rfl rfl ?_
    refine lc_hops hC hx hX hbl hbA hL hi (κ2 := (u2 κ 0 2 1)) (bb := 0) (hx_hops_1 l D ct ao b g (xs (i + 1)) _ _ _ (by decide) (by decide) (x_X4_hops_IOB l D ct b qs qt qh qx (xs (i + 1)) (bfalse hn) hlf) rfl rfl) (c_X5_hops_no1 l D ct q κ (xs (i + 1)) (bfalse hn)) (by decide) (by decide) ?_ (by omega) (by omega) ?_
    · rintro k wc' wb g' ⟨rfl, rfl, rfl, rfl⟩
      exact ⟨rfl, fun h => absurd h (by decide)⟩
    · rintro k wc' wb g' ⟨rfl, rfl, rfl, rfl⟩
      rw [List.append_nil]
      exact k_same (cl := [0]) (rs := [1, 4, 5, 6, 7, 8, 9, 10, 11, 12]) K (lawI_thr hI 1) (by decide) _ e_0 rfl (by omega) (by omega)

set_option maxRecDepth 100000 in
set_option maxHeartbeats 1000000 in
theorem st_silence (hC : zC p s m meth c args RL 9 cL_law D ct A) (hx : wX A s s.heap) (hX : va_X b0 L xs s s.heap) (hbl : b0 < s.heap.size) (hbA : ¬ A b0) (hL : L ≤ 2048) (hi : i + 3 < L) (hlf : l.stackTraces = false) (hb1 : cells + 17 ≤ 601024) (hb2 : slots + 1640 ≤ 7293034) (hn6 : n < 600) (hI : lawI n σ τ κ o z rg og) (K : zKK p l e s m args below meth c D A Q b0 b ao i q qs qt qh qx ct n cells slots) : zW1 p l e s m args below meth c D A Q b0 b ao i (q 0) cells slots 1093 (blk (lwF b ao q qs qt qh qx σ ρ τ κ g o z rg og ct) all13) := by
  have hR := hI.1
  by_cases hn : mMeter (xs (i + 1)) = true
  · obtain ⟨v, h0, hv, e1⟩ := meter_ex hn
    refine z_open (cl := [0, 1]) (rs := [4, 5, 6, 7, 8, 9, 10, 11, 12]) (by decide) e_01 rfl rfl ?_
    have HEQ := (show (if σ 3 (xs (i + 1)).toNatClampNeg = -1 then (-1 : Int32) else σ 0 0 - σ 5 (xs (i + 1)).toNatClampNeg) = if κ 1 (0 + 20 + 7 * v + 1) = -1 then -1 else κ 1 12 - κ 1 (0 + 20 + 7 * v + 3) by rw [e1, nI_clamp (by omega), Rel_12 hR, hR.2.1 v 1 hv (by omega), hR.2.1 v 3 hv (by omega)]; rfl)
    refine lc_silence hC hx hX hbl hbA hL hi (κ2 := (u2 κ 0 2 0)) (bb := (if κ 1 (0 + 20 + 7 * v + 1) = -1 then -1 else κ 1 12 - κ 1 (0 + 20 + 7 * v + 3))) (hk_silence l D ct ao b g (xs (i + 1)) _ _ _ (by decide) (by decide) (c_X4_silence l D ct b qs qt qh qx σ (xs (i + 1)) hn) rfl zd_int) (by rw [e1]; exact c_X5_silence_ok l D ct q κ v h0 hv) (by decide) (by decide) ?_ (by omega) (by omega) ?_
    · rintro k wc' wb g' ⟨rfl, x, ⟨hx1, rfl, rfl⟩, rfl⟩
      cases hx1
      refine ⟨rfl, fun _ => ?_⟩
      exact pk_uLs.trans (congrArg Int32.toInt64 HEQ)
    · rintro k wc' wb g' ⟨rfl, x, ⟨hx1, rfl, rfl⟩, rfl⟩
      rw [List.append_nil]
      exact k_same (cl := [0, 1]) (rs := [4, 5, 6, 7, 8, 9, 10, 11, 12]) K (lawI_thr hI 0) (by decide) _ e_01 rfl (by omega) (by omega)
  · refine z_open (cl := [0]) (rs := [1, 4, 5, 6, 7, 8, 9, 10, 11, 12]) (by decide) e_0 rfl rfl ?_
    refine lc_silence hC hx hX hbl hbA hL hi (κ2 := (u2 κ 0 2 1)) (bb := 0) (hx_silence_1 l D ct ao b g (xs (i + 1)) _ _ _ (by decide) (by decide) (x_X4_silence_IOB l D ct b qs qt qh qx (xs (i + 1)) (bfalse hn) hlf) rfl rfl) (c_X5_silence_no1 l D ct q κ (xs (i + 1)) (bfalse hn)) (by decide) (by decide) ?_ (by omega) (by omega) ?_
    · rintro k wc' wb g' ⟨rfl, rfl, rfl, rfl⟩
      exact ⟨rfl, fun h => absurd h (by decide)⟩
    · rintro k wc' wb g' ⟨rfl, rfl, rfl, rfl⟩
      rw [List.append_nil]
      exact k_same (cl := [0]) (rs := [1, 4, 5, 6, 7, 8, 9, 10, 11, 12]) K (lawI_thr hI 1) (by decide) _ e_0 rfl (by omega) (by omega)

set_option maxRecDepth 100000 in
set_option maxHeartbeats 1000000 in
theorem st_faults (hC : zC p s m meth c args RL 9 cL_law D ct A) (hx : wX A s s.heap) (hX : va_X b0 L xs s s.heap) (hbl : b0 < s.heap.size) (hbA : ¬ A b0) (hL : L ≤ 2048) (hi : i + 3 < L) (hlf : l.stackTraces = false) (hb1 : cells + 17 ≤ 601024) (hb2 : slots + 1640 ≤ 7293034) (hn6 : n < 600) (hI : lawI n σ τ κ o z rg og) (K : zKK p l e s m args below meth c D A Q b0 b ao i q qs qt qh qx ct n cells slots) : zW1 p l e s m args below meth c D A Q b0 b ao i (q 0) cells slots 1149 (blk (lwF b ao q qs qt qh qx σ ρ τ κ g o z rg og ct) all13) := by
  have hR := hI.1
  by_cases hn : mMeter (xs (i + 1)) = true
  · obtain ⟨v, h0, hv, e1⟩ := meter_ex hn
    refine z_open (cl := [0, 1]) (rs := [4, 5, 6, 7, 8, 9, 10, 11, 12]) (by decide) e_01 rfl rfl ?_
    have HEQ := (show σ 7 (xs (i + 1)).toNatClampNeg = κ 1 (0 + 20 + 7 * v + 4) by rw [e1, nI_clamp (by omega)]; exact (hR.2.1 v 4 hv (by omega)).symm)
    refine lc_faults hC hx hX hbl hbA hL hi (κ2 := (u2 κ 0 2 0)) (bb := κ 1 (0 + 20 + 7 * v + 4)) (hk_faults l D ct ao b g (xs (i + 1)) _ _ _ (by decide) (by decide) (c_X4_faults l D ct b qs qt qh qx σ (xs (i + 1)) hn) rfl zd_int) (by rw [e1]; exact c_X5_faults_ok l D ct q κ v h0 hv) (by decide) (by decide) ?_ (by omega) (by omega) ?_
    · rintro k wc' wb g' ⟨rfl, x, ⟨hx1, rfl, rfl⟩, rfl⟩
      cases hx1
      refine ⟨rfl, fun _ => ?_⟩
      exact pk_uLs.trans (congrArg Int32.toInt64 HEQ)
    · rintro k wc' wb g' ⟨rfl, x, ⟨hx1, rfl, rfl⟩, rfl⟩
      rw [List.append_nil]
      exact k_same (cl := [0, 1]) (rs := [4, 5, 6, 7, 8, 9, 10, 11, 12]) K (lawI_thr hI 0) (by decide) _ e_01 rfl (by omega) (by omega)
  · refine z_open (cl := [0]) (rs := [1, 4, 5, 6, 7, 8, 9, 10, 11, 12]) (by decide) e_0 rfl rfl ?_
    refine lc_faults hC hx hX hbl hbA hL hi (κ2 := (u2 κ 0 2 1)) (bb := 0) (hx_faults_1 l D ct ao b g (xs (i + 1)) _ _ _ (by decide) (by decide) (x_X4_faults_IOB l D ct b qs qt qh qx (xs (i + 1)) (bfalse hn) hlf) rfl rfl) (c_X5_faults_no1 l D ct q κ (xs (i + 1)) (bfalse hn)) (by decide) (by decide) ?_ (by omega) (by omega) ?_
    · rintro k wc' wb g' ⟨rfl, rfl, rfl, rfl⟩
      exact ⟨rfl, fun h => absurd h (by decide)⟩
    · rintro k wc' wb g' ⟨rfl, rfl, rfl, rfl⟩
      rw [List.append_nil]
      exact k_same (cl := [0]) (rs := [1, 4, 5, 6, 7, 8, 9, 10, 11, 12]) K (lawI_thr hI 1) (by decide) _ e_0 rfl (by omega) (by omega)

set_option maxRecDepth 100000 in
set_option maxHeartbeats 1000000 in
theorem st_stored (hC : zC p s m meth c args RL 9 cL_law D ct A) (hx : wX A s s.heap) (hX : va_X b0 L xs s s.heap) (hbl : b0 < s.heap.size) (hbA : ¬ A b0) (hL : L ≤ 2048) (hi : i + 3 < L) (hlf : l.stackTraces = false) (hb1 : cells + 17 ≤ 601024) (hb2 : slots + 1640 ≤ 7293034) (hn6 : n < 600) (hI : lawI n σ τ κ o z rg og) (K : zKK p l e s m args below meth c D A Q b0 b ao i q qs qt qh qx ct n cells slots) : zW1 p l e s m args below meth c D A Q b0 b ao i (q 0) cells slots 1261 (blk (lwF b ao q qs qt qh qx σ ρ τ κ g o z rg og ct) all13) := by
  have hR := hI.1
  by_cases hn : mMeter (xs (i + 1)) = true
  · obtain ⟨v, h0, hv, e1⟩ := meter_ex hn
    refine z_open (cl := [0, 1]) (rs := [4, 5, 6, 7, 8, 9, 10, 11, 12]) (by decide) e_01 rfl rfl ?_
    have HEQ := (show mrSize (rd σ) (xs (i + 1)) = κ 1 (0 + 20 + 7 * v + 6) by rw [e1, Rel_K hR h0 hv, mrSize_n hR.2.2.2.2.2.2.1 hv]; exact (hR.2.2.2.2.2.2.1 v hv).1.symm)
    refine lc_stored hC hx hX hbl hbA hL hi (κ2 := (u2 κ 0 2 0)) (bb := κ 1 (0 + 20 + 7 * v + 6)) (hk_stored l D ct ao b g (xs (i + 1)) _ _ _ (by decide) (by decide) (c_X4_stored l D ct b qs qt qh qx σ (xs (i + 1)) hn) rfl zd_int) (by rw [e1]; exact c_X5_stored_ok l D ct q κ v h0 hv) (by decide) (by decide) ?_ (by omega) (by omega) ?_
    · rintro k wc' wb g' ⟨rfl, x, ⟨hx1, rfl, rfl⟩, rfl⟩
      cases hx1
      refine ⟨rfl, fun _ => ?_⟩
      exact pk_uLs.trans (congrArg Int32.toInt64 HEQ)
    · rintro k wc' wb g' ⟨rfl, x, ⟨hx1, rfl, rfl⟩, rfl⟩
      rw [List.append_nil]
      exact k_same (cl := [0, 1]) (rs := [4, 5, 6, 7, 8, 9, 10, 11, 12]) K (lawI_thr hI 0) (by decide) _ e_01 rfl (by omega) (by omega)
  · refine z_open (cl := [0]) (rs := [1, 4, 5, 6, 7, 8, 9, 10, 11, 12]) (by decide) e_0 rfl rfl ?_
    refine lc_stored hC hx hX hbl hbA hL hi (κ2 := (u2 κ 0 2 1)) (bb := 0) (hx_stored_1 l D ct ao b g (xs (i + 1)) _ _ _ (by decide) (by decide) (x_X4_stored_IOB l D ct b qs qt qh qx (xs (i + 1)) (bfalse hn) hlf) rfl rfl) (c_X5_stored_no1 l D ct q κ (xs (i + 1)) (bfalse hn)) (by decide) (by decide) ?_ (by omega) (by omega) ?_
    · rintro k wc' wb g' ⟨rfl, rfl, rfl, rfl⟩
      exact ⟨rfl, fun h => absurd h (by decide)⟩
    · rintro k wc' wb g' ⟨rfl, rfl, rfl, rfl⟩
      rw [List.append_nil]
      exact k_same (cl := [0]) (rs := [1, 4, 5, 6, 7, 8, 9, 10, 11, 12]) K (lawI_thr hI 1) (by decide) _ e_0 rfl (by omega) (by omega)

set_option maxRecDepth 100000 in
set_option maxHeartbeats 1000000 in
theorem st_isConnected (hC : zC p s m meth c args RL 9 cL_law D ct A) (hx : wX A s s.heap) (hX : va_X b0 L xs s s.heap) (hbl : b0 < s.heap.size) (hbA : ¬ A b0) (hL : L ≤ 2048) (hi : i + 3 < L) (hlf : l.stackTraces = false) (hb1 : cells + 17 ≤ 601024) (hb2 : slots + 1640 ≤ 7293034) (hn6 : n < 600) (hI : lawI n σ τ κ o z rg og) (K : zKK p l e s m args below meth c D A Q b0 b ao i q qs qt qh qx ct n cells slots) : zW1 p l e s m args below meth c D A Q b0 b ao i (q 0) cells slots 850 (blk (lwF b ao q qs qt qh qx σ ρ τ κ g o z rg og ct) all13) := by
  have hR := hI.1
  by_cases hn : mNode (xs (i + 1)) = true ∧ mNode (xs (i + 2)) = true
  · obtain ⟨v, hv, e1⟩ := node_ex hn.1
    obtain ⟨w, hw, e2⟩ := node_ex hn.2
    refine z_open (cl := [0, 1]) (rs := [4, 5, 6, 7, 8, 9, 10, 11, 12]) (by decide) e_01 rfl rfl ?_
    have HEQ := (show bI (msConn σ (xs (i + 1)) (xs (i + 2))) = bI (mdConn (u2 κ 0 2 0) 0 v w) by rw [e1, e2, Rel_conn (κ := (u2 κ 0 2 0)) (Rel_r1 hR rfl) hv hw])
    refine lc_isConnected hC hx hX hbl hbA hL hi (κ2 := (u2 κ 0 2 0)) (bb := (bI (mdConn (u2 κ 0 2 0) 0 v w))) (hk_isConnected l D ct ao b g (xs (i + 1)) (xs (i + 2)) _ _ _ (by decide) (by decide) (c_X4_isConnected l D ct b qs qt qh qx σ (xs (i + 1)) (xs (i + 2)) hn.1 hn.2) rfl zd_int) (by rw [e1, e2]; exact c_X5_isConnected_ok l D ct q κ v w hv hw) (by decide) (by decide) ?_ (by omega) (by omega) ?_
    · rintro k wc' wb g' ⟨rfl, x, ⟨hx1, rfl, rfl⟩, rfl⟩
      cases hx1
      refine ⟨rfl, fun _ => ?_⟩
      exact pk_uLs.trans (by rw [HEQ])
    · rintro k wc' wb g' ⟨rfl, x, ⟨hx1, rfl, rfl⟩, rfl⟩
      rw [List.append_nil]
      exact k_same (cl := [0, 1]) (rs := [4, 5, 6, 7, 8, 9, 10, 11, 12]) K (lawI_thr hI 0) (by decide) _ e_01 rfl (by omega) (by omega)
  · have hn2 : mNode (xs (i + 1)) = false ∨ mNode (xs (i + 2)) = false := by
      by_cases c1 : mNode (xs (i + 1)) = true
      · exact Or.inr (bfalse (fun q => hn ⟨c1, q⟩))
      · exact Or.inl (bfalse c1)
    refine z_open (cl := [0]) (rs := [1, 4, 5, 6, 7, 8, 9, 10, 11, 12]) (by decide) e_0 rfl rfl ?_
    refine lc_isConnected hC hx hX hbl hbA hL hi (κ2 := (u2 κ 0 2 1)) (bb := 0) (hx_isConnected_1 l D ct ao b g (xs (i + 1)) (xs (i + 2)) _ _ _ (by decide) (by decide) (x_X4_isConnected_IOB l D ct b qs qt qh qx (xs (i + 1)) (xs (i + 2)) hn2 hlf) rfl rfl) (c_X5_isConnected_no1 l D ct q κ (xs (i + 1)) (xs (i + 2)) hn2) (by decide) (by decide) ?_ (by omega) (by omega) ?_
    · rintro k wc' wb g' ⟨rfl, rfl, rfl, rfl⟩
      exact ⟨rfl, fun h => absurd h (by decide)⟩
    · rintro k wc' wb g' ⟨rfl, rfl, rfl, rfl⟩
      rw [List.append_nil]
      exact k_same (cl := [0]) (rs := [1, 4, 5, 6, 7, 8, 9, 10, 11, 12]) K (lawI_thr hI 1) (by decide) _ e_0 rfl (by omega) (by omega)

set_option maxRecDepth 100000 in
set_option maxHeartbeats 1000000 in
theorem st_storedReading (hC : zC p s m meth c args RL 9 cL_law D ct A) (hx : wX A s s.heap) (hX : va_X b0 L xs s s.heap) (hbl : b0 < s.heap.size) (hbA : ¬ A b0) (hL : L ≤ 2048) (hi : i + 3 < L) (hlf : l.stackTraces = false) (hb1 : cells + 17 ≤ 601024) (hb2 : slots + 1640 ≤ 7293034) (hn6 : n < 600) (hI : lawI n σ τ κ o z rg og) (K : zKK p l e s m args below meth c D A Q b0 b ao i q qs qt qh qx ct n cells slots) : zW1 p l e s m args below meth c D A Q b0 b ao i (q 0) cells slots 1317 (blk (lwF b ao q qs qt qh qx σ ρ τ κ g o z rg og ct) all13) := by
  have hR := hI.1
  by_cases hn : mMeter (xs (i + 1)) = true ∧ ¬ xs (i + 2) < 0
  · by_cases hp : ¬ xs (i + 3) < 0 ∧ ¬ 4 < xs (i + 3)
    · obtain ⟨v, h0, hv, e1⟩ := meter_ex hn.1
      obtain ⟨w, hw, e2⟩ := nI_of hn.2
      obtain ⟨u, hu0, hu, e3⟩ := rng_ex (lo := 0) (hi := 4) (by decide) (by decide) hp.1 hp.2
      have epl : pl v w = 90 + 5 * (6 * v + w) := by unfold pl; rw [if_neg (by omega)]
      refine z_open (cl := [0, 1]) (rs := [4, 5, 6, 7, 8, 9, 10, 11, 12]) (by decide) e_01 rfl rfl ?_
      have HEQ := (show mrPart (rd σ) (xs (i + 1)) (xs (i + 2)) (xs (i + 3)) = if w < mdK κ 0 v then κ 1 (0 + 90 + 5 * (6 * v + w) + u) else -1 by rw [e1, e2, e3, Rel_part hR hv hw hu, Rel_mdK hR h0 hv, epl, show 0 + (90 + 5 * (6 * v + w)) + u = 0 + 90 + 5 * (6 * v + w) + u by omega])
      refine lc_storedReading hC hx hX hbl hbA hL hi (κ2 := (u2 κ 0 2 0)) (bb := (if w < mdK κ 0 v then κ 1 (0 + 90 + 5 * (6 * v + w) + u) else -1)) (hk_storedReading l D ct ao b g (xs (i + 1)) (xs (i + 2)) (xs (i + 3)) _ _ _ (by decide) (by decide) (c_X4_storedReading l D ct b qs qt qh qx σ (xs (i + 1)) (xs (i + 2)) (xs (i + 3)) hn.1 hn.2 hp.1 hp.2) rfl zd_int) (by rw [e1, e2, e3]; exact c_X5_storedReading_ok l D ct q κ v h0 hv w u hw hu (Rel_okA hR v hv)) (by decide) (by decide) ?_ (by omega) (by omega) ?_
      · rintro k wc' wb g' ⟨rfl, x, ⟨hx1, rfl, rfl⟩, rfl⟩
        cases hx1
        refine ⟨rfl, fun _ => ?_⟩
        exact pk_uLs.trans (congrArg Int32.toInt64 HEQ)
      · rintro k wc' wb g' ⟨rfl, x, ⟨hx1, rfl, rfl⟩, rfl⟩
        rw [List.append_nil]
        exact k_same (cl := [0, 1]) (rs := [4, 5, 6, 7, 8, 9, 10, 11, 12]) K (lawI_thr hI 0) (by decide) _ e_01 rfl (by omega) (by omega)
    · have hp2 : xs (i + 3) < 0 ∨ 4 < xs (i + 3) := mIn_no (bfalse (fun q => hp (mIn_iff.mp q)))
      refine z_open (cl := [0]) (rs := [1, 4, 5, 6, 7, 8, 9, 10, 11, 12]) (by decide) e_0 rfl rfl ?_
      refine lc_storedReading hC hx hX hbl hbA hL hi (κ2 := (u2 κ 0 2 2)) (bb := 0) (hx_storedReading_2 l D ct ao b g (xs (i + 1)) (xs (i + 2)) (xs (i + 3)) _ _ _ (by decide) (by decide) (x_X4_storedReading_IAE l D ct b qs qt qh qx (xs (i + 1)) (xs (i + 2)) (xs (i + 3)) hn.1 hn.2 hp2 hlf) rfl rfl) (c_X5_storedReading_no2 l D ct q κ (xs (i + 1)) (xs (i + 2)) (xs (i + 3)) hn.1 hn.2 (bfalse (fun q => hp (mIn_iff.mp q)))) (by decide) (by decide) ?_ (by omega) (by omega) ?_
      · rintro k wc' wb g' ⟨rfl, rfl, rfl, rfl⟩
        exact ⟨rfl, fun h => absurd h (by decide)⟩
      · rintro k wc' wb g' ⟨rfl, rfl, rfl, rfl⟩
        rw [List.append_nil]
        exact k_same (cl := [0]) (rs := [1, 4, 5, 6, 7, 8, 9, 10, 11, 12]) K (lawI_thr hI 2) (by decide) _ e_0 rfl (by omega) (by omega)
  · have hn2 : mMeter (xs (i + 1)) = false ∨ xs (i + 2) < 0 := by
      by_cases c1 : mMeter (xs (i + 1)) = true
      · by_cases c2 : xs (i + 2) < 0
        · exact Or.inr c2
        · exact absurd ⟨c1, c2⟩ hn
      · exact Or.inl (bfalse c1)
    refine z_open (cl := [0]) (rs := [1, 4, 5, 6, 7, 8, 9, 10, 11, 12]) (by decide) e_0 rfl rfl ?_
    refine lc_storedReading hC hx hX hbl hbA hL hi (κ2 := (u2 κ 0 2 1)) (bb := 0) (hx_storedReading_1 l D ct ao b g (xs (i + 1)) (xs (i + 2)) (xs (i + 3)) _ _ _ (by decide) (by decide) (x_X4_storedReading_IOB l D ct b qs qt qh qx (xs (i + 1)) (xs (i + 2)) (xs (i + 3)) hn2 hlf) rfl rfl) (c_X5_storedReading_no1 l D ct q κ (xs (i + 1)) (xs (i + 2)) (xs (i + 3)) hn2) (by decide) (by decide) ?_ (by omega) (by omega) ?_
    · rintro k wc' wb g' ⟨rfl, rfl, rfl, rfl⟩
      exact ⟨rfl, fun h => absurd h (by decide)⟩
    · rintro k wc' wb g' ⟨rfl, rfl, rfl, rfl⟩
      rw [List.append_nil]
      exact k_same (cl := [0]) (rs := [1, 4, 5, 6, 7, 8, 9, 10, 11, 12]) K (lawI_thr hI 1) (by decide) _ e_0 rfl (by omega) (by omega)

set_option maxRecDepth 100000 in
set_option maxHeartbeats 1000000 in
theorem st_collectedReading (hC : zC p s m meth c args RL 9 cL_law D ct A) (hx : wX A s s.heap) (hX : va_X b0 L xs s s.heap) (hbl : b0 < s.heap.size) (hbA : ¬ A b0) (hL : L ≤ 2048) (hi : i + 3 < L) (hlf : l.stackTraces = false) (hb1 : cells + 17 ≤ 601024) (hb2 : slots + 1640 ≤ 7293034) (hn6 : n < 600) (hI : lawI n σ τ κ o z rg og) (K : zKK p l e s m args below meth c D A Q b0 b ao i q qs qt qh qx ct n cells slots) : zW1 p l e s m args below meth c D A Q b0 b ao i (q 0) cells slots 1410 (blk (lwF b ao q qs qt qh qx σ ρ τ κ g o z rg og ct) all13) := by
  have hR := hI.1
  by_cases hn : ¬ xs (i + 1) < 0
  · by_cases hp : ¬ xs (i + 2) < 0 ∧ ¬ 4 < xs (i + 2)
    · obtain ⟨w, hw, e2⟩ := nI_of hn
      obtain ⟨u, hu0, hu, e3⟩ := rng_ex (lo := 0) (hi := 4) (by decide) (by decide) hp.1 hp.2
      have epl : pl 0 w = 390 + 5 * w := if_pos rfl
      refine z_open (cl := [0, 1]) (rs := [4, 5, 6, 7, 8, 9, 10, 11, 12]) (by decide) e_01 rfl rfl ?_
      have HEQ := (show mrPart (rd σ) 0 (xs (i + 1)) (xs (i + 2)) = if w < mdC κ 0 then κ 1 (0 + 390 + 5 * w + u) else -1 by rw [e2, e3, show (0 : Int32) = nI 0 from rfl, Rel_part hR (by omega) hw hu, Rel_mdC hR, epl, show 0 + (390 + 5 * w) + u = 0 + 390 + 5 * w + u by omega])
      refine lc_collectedReading hC hx hX hbl hbA hL hi (κ2 := (u2 κ 0 2 0)) (bb := (if w < mdC κ 0 then κ 1 (0 + 390 + 5 * w + u) else -1)) (hk_collectedReading l D ct ao b g (xs (i + 1)) (xs (i + 2)) _ _ _ (by decide) (by decide) (c_X4_collectedReading l D ct b qs qt qh qx σ (xs (i + 1)) (xs (i + 2)) hn hp.1 hp.2) rfl zd_int) (by rw [e2, e3]; exact c_X5_collectedReading_ok l D ct q κ w u hw hu (Rel_okC hR)) (by decide) (by decide) ?_ (by omega) (by omega) ?_
      · rintro k wc' wb g' ⟨rfl, x, ⟨hx1, rfl, rfl⟩, rfl⟩
        cases hx1
        refine ⟨rfl, fun _ => ?_⟩
        exact pk_uLs.trans (congrArg Int32.toInt64 HEQ)
      · rintro k wc' wb g' ⟨rfl, x, ⟨hx1, rfl, rfl⟩, rfl⟩
        rw [List.append_nil]
        exact k_same (cl := [0, 1]) (rs := [4, 5, 6, 7, 8, 9, 10, 11, 12]) K (lawI_thr hI 0) (by decide) _ e_01 rfl (by omega) (by omega)
    · have hp2 : xs (i + 2) < 0 ∨ 4 < xs (i + 2) := mIn_no (bfalse (fun q => hp (mIn_iff.mp q)))
      refine z_open (cl := [0]) (rs := [1, 4, 5, 6, 7, 8, 9, 10, 11, 12]) (by decide) e_0 rfl rfl ?_
      refine lc_collectedReading hC hx hX hbl hbA hL hi (κ2 := (u2 κ 0 2 2)) (bb := 0) (hx_collectedReading_2 l D ct ao b g (xs (i + 1)) (xs (i + 2)) _ _ _ (by decide) (by decide) (x_X4_collectedReading_IAE l D ct b qs qt qh qx (xs (i + 1)) (xs (i + 2)) hn hp2 hlf) rfl rfl) (c_X5_collectedReading_no2 l D ct q κ (xs (i + 1)) (xs (i + 2)) hn (bfalse (fun q => hp (mIn_iff.mp q)))) (by decide) (by decide) ?_ (by omega) (by omega) ?_
      · rintro k wc' wb g' ⟨rfl, rfl, rfl, rfl⟩
        exact ⟨rfl, fun h => absurd h (by decide)⟩
      · rintro k wc' wb g' ⟨rfl, rfl, rfl, rfl⟩
        rw [List.append_nil]
        exact k_same (cl := [0]) (rs := [1, 4, 5, 6, 7, 8, 9, 10, 11, 12]) K (lawI_thr hI 2) (by decide) _ e_0 rfl (by omega) (by omega)
  · have hn2 : xs (i + 1) < 0 := Classical.not_not.mp hn
    refine z_open (cl := [0]) (rs := [1, 4, 5, 6, 7, 8, 9, 10, 11, 12]) (by decide) e_0 rfl rfl ?_
    refine lc_collectedReading hC hx hX hbl hbA hL hi (κ2 := (u2 κ 0 2 1)) (bb := 0) (hx_collectedReading_1 l D ct ao b g (xs (i + 1)) (xs (i + 2)) _ _ _ (by decide) (by decide) (x_X4_collectedReading_IOB l D ct b qs qt qh qx (xs (i + 1)) (xs (i + 2)) hn2 hlf) rfl rfl) (c_X5_collectedReading_no1 l D ct q κ (xs (i + 1)) (xs (i + 2)) hn2) (by decide) (by decide) ?_ (by omega) (by omega) ?_
    · rintro k wc' wb g' ⟨rfl, rfl, rfl, rfl⟩
      exact ⟨rfl, fun h => absurd h (by decide)⟩
    · rintro k wc' wb g' ⟨rfl, rfl, rfl, rfl⟩
      rw [List.append_nil]
      exact k_same (cl := [0]) (rs := [1, 4, 5, 6, 7, 8, 9, 10, 11, 12]) K (lawI_thr hI 1) (by decide) _ e_0 rfl (by omega) (by omega)

set_option maxRecDepth 100000 in
set_option maxHeartbeats 1000000 in
theorem st_copies (hC : zC p s m meth c args RL 9 cL_law D ct A) (hx : wX A s s.heap) (hX : va_X b0 L xs s s.heap) (hbl : b0 < s.heap.size) (hbA : ¬ A b0) (hL : L ≤ 2048) (hi : i + 3 < L) (hlf : l.stackTraces = false) (hb1 : cells + 17 ≤ 601024) (hb2 : slots + 1640 ≤ 7293034) (hn6 : n < 600) (hI : lawI n σ τ κ o z rg og) (K : zKK p l e s m args below meth c D A Q b0 b ao i q qs qt qh qx ct n cells slots) : zW1 p l e s m args below meth c D A Q b0 b ao i (q 0) cells slots 1478 (blk (lwF b ao q qs qt qh qx σ ρ τ κ g o z rg og ct) all13) := by
  have hR := hI.1
  by_cases hn : mMeter (xs (i + 1)) = true
  · obtain ⟨v, h0, hv, e1⟩ := meter_ex hn
    refine z_open (cl := [0, 1]) (rs := [4, 5, 6, 7, 8, 9, 10, 11, 12]) (by decide) e_01 rfl rfl ?_
    have HEQ := (show (if mrFind (rd σ) (xs (i + 1)) (xs (i + 2)) = -1 then (-1 : Int32) else mrStores (rd σ) (mrFind (rd σ) (xs (i + 1)) (xs (i + 2)))) = if mIn (xs (i + 2)) 0 (κ 1 (0 + 20 + 7 * v + 5) - 1) = true then mdCop (u2 κ 0 2 0) v (xs (i + 2)) else -1 by rw [e1]; exact Rel_copies (κ := (u2 κ 0 2 0)) (Rel_r1 hR rfl) hv (xs (i + 2)))
    refine lc_copies hC hx hX hbl hbA hL hi (κ2 := (u2 κ 0 2 0)) (bb := (if mIn (xs (i + 2)) 0 (κ 1 (0 + 20 + 7 * v + 5) - 1) = true then mdCop (u2 κ 0 2 0) v (xs (i + 2)) else -1)) (hk_copies l D ct ao b g (xs (i + 1)) (xs (i + 2)) _ _ _ (by decide) (by decide) (c_X4_copies l D ct b qs qt qh qx σ (xs (i + 1)) (xs (i + 2)) hn) rfl zd_int) (by rw [e1]; exact c_X5_copies_ok l D ct q κ v h0 hv (xs (i + 2)) (Rel_okA hR)) (by decide) (by decide) ?_ (by omega) (by omega) ?_
    · rintro k wc' wb g' ⟨rfl, x, ⟨hx1, rfl, rfl⟩, rfl⟩
      cases hx1
      refine ⟨rfl, fun _ => ?_⟩
      exact pk_uLs.trans (congrArg Int32.toInt64 HEQ)
    · rintro k wc' wb g' ⟨rfl, x, ⟨hx1, rfl, rfl⟩, rfl⟩
      rw [List.append_nil]
      exact k_same (cl := [0, 1]) (rs := [4, 5, 6, 7, 8, 9, 10, 11, 12]) K (lawI_thr hI 0) (by decide) _ e_01 rfl (by omega) (by omega)
  · refine z_open (cl := [0]) (rs := [1, 4, 5, 6, 7, 8, 9, 10, 11, 12]) (by decide) e_0 rfl rfl ?_
    refine lc_copies hC hx hX hbl hbA hL hi (κ2 := (u2 κ 0 2 1)) (bb := 0) (hx_copies_1 l D ct ao b g (xs (i + 1)) (xs (i + 2)) _ _ _ (by decide) (by decide) (x_X4_copies_IOB l D ct b qs qt qh qx (xs (i + 1)) (xs (i + 2)) (bfalse hn) hlf) rfl rfl) (c_X5_copies_no1 l D ct q κ (xs (i + 1)) (xs (i + 2)) (bfalse hn)) (by decide) (by decide) ?_ (by omega) (by omega) ?_
    · rintro k wc' wb g' ⟨rfl, rfl, rfl, rfl⟩
      exact ⟨rfl, fun h => absurd h (by decide)⟩
    · rintro k wc' wb g' ⟨rfl, rfl, rfl, rfl⟩
      rw [List.append_nil]
      exact k_same (cl := [0]) (rs := [1, 4, 5, 6, 7, 8, 9, 10, 11, 12]) K (lawI_thr hI 1) (by decide) _ e_0 rfl (by omega) (by omega)

set_option maxRecDepth 100000 in
set_option maxHeartbeats 1000000 in
theorem st_count (hC : zC p s m meth c args RL 9 cL_law D ct A) (hx : wX A s s.heap) (hX : va_X b0 L xs s s.heap) (hbl : b0 < s.heap.size) (hbA : ¬ A b0) (hL : L ≤ 2048) (hi : i + 3 < L) (hlf : l.stackTraces = false) (hb1 : cells + 17 ≤ 601024) (hb2 : slots + 1640 ≤ 7293034) (hn6 : n < 600) (hI : lawI n σ τ κ o z rg og) (K : zKK p l e s m args below meth c D A Q b0 b ao i q qs qt qh qx ct n cells slots) : zW1 p l e s m args below meth c D A Q b0 b ao i (q 0) cells slots 1654 (blk (lwF b ao q qs qt qh qx σ ρ τ κ g o z rg og ct) all13) := by
  have hR := hI.1
  by_cases hp : ¬ xs (i + 1) < 0 ∧ ¬ 5 < xs (i + 1)
  · obtain ⟨u, hu0, hu, e1⟩ := rng_ex (lo := 0) (hi := 5) (by decide) (by decide) hp.1 hp.2
    refine z_open (cl := [0, 1]) (rs := [4, 5, 6, 7, 8, 9, 10, 11, 12]) (by decide) e_01 rfl rfl ?_
    have HEQ := (show mCount σ (xs (i + 1)) = κ 1 (13 + u) by rw [e1]; exact Rel_count hR hu)
    refine lc_count hC hx hX hbl hbA hL hi (κ2 := (u2 κ 0 2 0)) (bb := (κ 1 (13 + u))) (hk_count l D ct ao b g (xs (i + 1)) _ _ _ (by decide) (by decide) (c_X4_count l D ct b qs qt qh qx σ (xs (i + 1)) hp.1 hp.2) rfl zd_int) (by rw [e1]; exact c_X5_count_ok l D ct q κ u hu (by rw [← e1]; exact mIn_iff.mpr hp)) (by decide) (by decide) ?_ (by omega) (by omega) ?_
    · rintro k wc' wb g' ⟨rfl, x, ⟨hx1, rfl, rfl⟩, rfl⟩
      cases hx1
      refine ⟨rfl, fun _ => ?_⟩
      exact pk_uLs.trans (congrArg Int32.toInt64 HEQ)
    · rintro k wc' wb g' ⟨rfl, x, ⟨hx1, rfl, rfl⟩, rfl⟩
      rw [List.append_nil]
      exact k_same (cl := [0, 1]) (rs := [4, 5, 6, 7, 8, 9, 10, 11, 12]) K (lawI_thr hI 0) (by decide) _ e_01 rfl (by omega) (by omega)
  · have hp2 : xs (i + 1) < 0 ∨ 5 < xs (i + 1) := mIn_no (bfalse (fun q => hp (mIn_iff.mp q)))
    refine z_open (cl := [0]) (rs := [1, 4, 5, 6, 7, 8, 9, 10, 11, 12]) (by decide) e_0 rfl rfl ?_
    refine lc_count hC hx hX hbl hbA hL hi (κ2 := (u2 κ 0 2 1)) (bb := 0) (hx_count_1 l D ct ao b g (xs (i + 1)) _ _ _ (by decide) (by decide) (x_X4_count_IAE l D ct b qs qt qh qx (xs (i + 1)) (fun h => by rw [h] at hp2; exact absurd hp2 (by decide)) (fun h => by rw [h] at hp2; exact absurd hp2 (by decide)) (fun h => by rw [h] at hp2; exact absurd hp2 (by decide)) (fun h => by rw [h] at hp2; exact absurd hp2 (by decide)) (fun h => by rw [h] at hp2; exact absurd hp2 (by decide)) (fun h => by rw [h] at hp2; exact absurd hp2 (by decide)) hlf) rfl rfl) (c_X5_count_no1 l D ct q κ (xs (i + 1)) (bfalse (fun q => hp (mIn_iff.mp q)))) (by decide) (by decide) ?_ (by omega) (by omega) ?_
    · rintro k wc' wb g' ⟨rfl, rfl, rfl, rfl⟩
      exact ⟨rfl, fun h => absurd h (by decide)⟩
    · rintro k wc' wb g' ⟨rfl, rfl, rfl, rfl⟩
      rw [List.append_nil]
      exact k_same (cl := [0]) (rs := [1, 4, 5, 6, 7, 8, 9, 10, 11, 12]) K (lawI_thr hI 1) (by decide) _ e_0 rfl (by omega) (by omega)

set_option maxRecDepth 100000 in
set_option maxHeartbeats 1000000 in
theorem st_ifRun (hC : zC p s m meth c args RL 9 cL_law D ct A) (hx : wX A s s.heap) (hX : va_X b0 L xs s s.heap) (hbl : b0 < s.heap.size) (hbA : ¬ A b0) (hL : L ≤ 2048) (hi : i + 3 < L) (hlf : l.stackTraces = false) (hb1 : cells + 17 ≤ 601024) (hb2 : slots + 1640 ≤ 7293034) (hn6 : n < 600) (hI : lawI n σ τ κ o z rg og) (K : zKK p l e s m args below meth c D A Q b0 b ao i q qs qt qh qx ct n cells slots) : zW1 p l e s m args below meth c D A Q b0 b ao i (q 0) cells slots 1585 (blk (lwF b ao q qs qt qh qx σ ρ τ κ g o z rg og ct) all13) := by
  have hR := hI.1
  by_cases hp : ¬ xs (i + 1) < 1 ∧ ¬ 100 < xs (i + 1)
  · obtain ⟨u, hu0, hu, e1⟩ := rng_ex (lo := 1) (hi := 100) (by decide) (by decide) hp.1 hp.2
    have hR7 : Rel (msCopy ρ σ) (mdLay (u2 κ 0 2 0) 0 7) 4830 (8000 * n) := Rel_lay (i := 0) (j := 7) (by omega) (Rel_copy (κ := (u2 κ 0 2 0)) (Rel_r1 hR rfl))
    have hf7 : fr 4830 (u2 κ 0 2 0) (mdRun (mdLay (u2 κ 0 2 0) 0 7) 4830 u) := fr_tr (fr_lay (i := 0) (j := 7) (by omega)) (fr_run hR7 (by omega))
    have hk7 : ∀ r, r ≠ 1 → mdRun (mdLay (u2 κ 0 2 0) 0 7) 4830 u r = (u2 κ 0 2 0) r := fun r hr => by rw [mdRun_r hr, mdLay_0 _ _ _ _ hr]
    have eu : (xs (i + 1)).toNatClampNeg = u := by rw [e1, nI_clamp (by omega)]
    refine z_open (cl := [0, 1, 4]) (rs := [5, 6, 7, 8, 9, 10, 11, 12]) (by decide) e_014 rfl rfl ?_
    have HEQ := (show msRunR (msCopy ρ σ) (xs (i + 1)).toNatClampNeg = mdRunR (mdLay (u2 κ 0 2 0) 0 7) 4830 u by rw [eu]; exact Rel_runR hR7 (by omega))
    refine lc_ifRun hC hx hX hbl hbA hL hi (κ2 := (mdRun (mdLay (u2 κ 0 2 0) 0 7) 4830 u)) (bb := (mdRunR (mdLay (u2 κ 0 2 0) 0 7) 4830 u)) (hk_ifRun l D ct ao b g (xs (i + 1)) _ _ _ (by decide) (by decide) (c_X4_ifRun l D ct b qs qt qh qx σ ρ (Rel_zbit hR).1 (Rel_zbit hR).2 (Rel_okS hR) (xs (i + 1)) hp.1 hp.2) rfl zd_int) (by rw [e1]; exact c_X5_ifRun_ok l D ct q κ u (by rw [← e1]; exact mIn_iff.mpr hp) (by omega) (zI 4830) (fun j κ h => zI_step h) ⟨_, _, hR7, by omega⟩) (by decide) (by decide) ?_ (by omega) (by omega) ?_
    · rintro k wc' wb g' ⟨rfl, x, ⟨hx1, rfl, rfl⟩, rfl⟩
      cases hx1
      refine ⟨by rw [hk7 0 (by omega)]; rfl, fun _ => ?_⟩
      exact pk_uLs.trans (congrArg Int32.toInt64 HEQ)
    · rintro k wc' wb g' ⟨rfl, x, ⟨hx1, rfl, rfl⟩, rfl⟩
      rw [List.append_nil]
      exact k_same (cl := [0, 1, 4]) (rs := [5, 6, 7, 8, 9, 10, 11, 12]) K (lawI_same hI (by rw [hk7 0 (by omega)]; rfl) (by rw [hk7 0 (by omega)]; rfl) (fun x hx => hf7 x (by omega)) (by rw [hk7 2 (by omega)]; rfl)) (by decide) _ e_014 rfl (by omega) (by omega)
  · have hp2 : xs (i + 1) < 1 ∨ 100 < xs (i + 1) := mIn_no (bfalse (fun q => hp (mIn_iff.mp q)))
    refine z_open (cl := [0]) (rs := [1, 4, 5, 6, 7, 8, 9, 10, 11, 12]) (by decide) e_0 rfl rfl ?_
    refine lc_ifRun hC hx hX hbl hbA hL hi (κ2 := (u2 κ 0 2 1)) (bb := 0) (hx_ifRun_1 l D ct ao b g (xs (i + 1)) _ _ _ (by decide) (by decide) (x_X4_ifRun_IAE l D ct b qs qt qh qx (xs (i + 1)) hp2 hlf) rfl rfl) (c_X5_ifRun_no1 l D ct q κ (xs (i + 1)) (bfalse (fun q => hp (mIn_iff.mp q)))) (by decide) (by decide) ?_ (by omega) (by omega) ?_
    · rintro k wc' wb g' ⟨rfl, rfl, rfl, rfl⟩
      exact ⟨rfl, fun h => absurd h (by decide)⟩
    · rintro k wc' wb g' ⟨rfl, rfl, rfl, rfl⟩
      rw [List.append_nil]
      exact k_same (cl := [0]) (rs := [1, 4, 5, 6, 7, 8, 9, 10, 11, 12]) K (lawI_thr hI 1) (by decide) _ e_0 rfl (by omega) (by omega)
end STQ
