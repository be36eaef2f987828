/-! THE LAW, from its entry -/
theorem pmI {cc zz : Nat × va_E} {S T H X M : va_W} : ((cc :: (S ++ (T ++ (H ++ X)))) ++ M) ++ [zz] = [cc] ++ (S ++ (T ++ (H ++ (X ++ (M ++ ([zz] ++ ([] ++ ([] ++ ([] ++ ([] ++ ([] ++ ([] ++ [])))))))))))) := by simp
theorem noTr {l : Launch} (h : l.flags = flags0) : l.stackTraces = false := by
  show (!l.flags.contains noTraceFlag) = false
  rw [h]
  decide +kernel
set_option maxHeartbeats 4000000 in
set_option maxRecDepth 100000 in
theorem whole_start {p : Program} {e : Env} {s : State} {m : MethodId} {below : List Frame} {meth : Method} {c : Code} (l : Launch) (hflags : l.flags = flags0) {b L : Nat} {xs : Nat → Int32} (hL : L ≤ 2048) (C0 : lw_At p s m meth c b L xs) : W p l e room_1 s m #[Value.ref b] below meth c s.heap [] 0 0 (lw_Z below #[Value.ref b] s) (entryFrame m ([Value.ref b] : List Value).toArray 9) := by
  have hlf := noTr hflags
  have hwX := at_wX C0
  have hwN := at_wN C0
  obtain ⟨D, ct, hK⟩ := at_K C0
  obtain ⟨hx, hb, hr, hml, hown, hts, hX, hbl, hlocks, hgv⟩ := id C0
  have hA : ∀ q : Nat, s.heap.size ≤ q → (fun q : Nat => s.heap.size ≤ q) q := fun _ h => h
  have hbA : ¬ (fun q : Nat => s.heap.size ≤ q) b := Nat.not_le.mpr hbl
  have hd0 := Drawn.sameBut.refl s.drawn lw_cs
  have hC : zC p s m meth c #[Value.ref b] RL 9 cL_law D ct (fun q : Nat => s.heap.size ≤ q) := ⟨hx, hb, hml, hown, fun w h => hts w (BW_tbl w h), hK, hwN, hA, hlocks⟩
  have hl := lv_entry ([.ref b]) (n := 9) (Nat.le_of_ble_eq_true rfl)
  rw [lg_entry_eq]
  generalize (lg_sl ([.ref b]) ++ List.replicate (9 - (lg_sl ([.ref b])).length) Slot.unset).toArray = ls at hl ⊢
  suffices K : zG p l e room_1 s m #[Value.ref b] below meth c D (fun q : Nat => s.heap.size ≤ q) 9 (lw_Z below #[Value.ref b] s) 0 0 0 [some (.ref b), none, none, none, none, none, none, none, none] [] [] from
    K s.heap [] ls (fun k q h => by simp at h) ⟨fun i j p q h => by simp at h, fun k q h => by simp at h⟩ va_S.rf hl
  refine z_new (ci := 4) (fs := [.null, .null, .null, .null]) hC bl_X4 tyX4_ok bw_0 bw_1 bw_2 rfl (by intro j hj; match j, hj with | 0, _ => rfl | 1, _ => rfl | 2, _ => rfl | 3, _ => rfl) (Nat.le_of_ble_eq_true rfl) (Nat.le_of_ble_eq_true rfl) dL_law_0 (fun q0 => ?_)
  refine zG_w (w2 := [(q0, .inr (4, [.null, .null, .null, .null]))]) rfl ?_
  refine z_dup hC dL_law_3 rfl ?_
  refine z_callI [0] hC (c_X4_init l D ct q0) bw_7 bw_8 bw_2 bw_9 rfl 0 (by decide +kernel) rfl rfl rfl ⟨Nat.le_of_ble_eq_true rfl, Nat.le_of_ble_eq_true rfl⟩ (Nat.le_of_ble_eq_true rfl) ⟨Nat.le_of_ble_eq_true rfl, Nat.le_of_ble_eq_true rfl⟩ rfl dL_law_4 ?_
  rintro v1 wa wb ⟨rfl, qs, qt, qh, qx, hw⟩ had
  have h1 : wa.length = 1 := by simpa using congrArg List.length had
  obtain ⟨y, rfl⟩ : ∃ y, wa = [y] := List.length_eq_one_iff.mp h1
  refine zG_w (w2 := cN q0 qs qt qh qx :: (cS qs msInit ct ++ (cS qt msInit ct ++ (cH qh 0 0 (fun _ => none) ct ++ cT qx (fun _ _ => 0) ct)))) hw ?_
  generalize hW1 : cN q0 qs qt qh qx :: (cS qs msInit ct ++ (cS qt msInit ct ++ (cH qh 0 0 (fun _ => none) ct ++ cT qx (fun _ _ => 0) ct))) = W1
  refine z_astore_n hC dL_law_7 (by decide) rfl ?_
  refine z_new (ci := 5) (fs := [.null, .int 0, .null, .int 0, .int 0, .null, .int 0, .int 0, .int 0]) hC bl_X5 tyX5_ok bw_3 bw_4 bw_5 rfl (by intro j hj; match j, hj with | 0, _ => rfl | 1, _ => rfl | 2, _ => rfl | 3, _ => rfl | 4, _ => rfl | 5, _ => rfl | 6, _ => rfl | 7, _ => rfl | 8, _ => rfl) (Nat.le_of_ble_eq_true rfl) (Nat.le_of_ble_eq_true rfl) dL_law_8 (fun q1 => ?_)
  refine zG_perm (List.perm_append_comm (l₁ := W1)) ?_
  refine z_dup hC dL_law_11 rfl ?_
  refine z_callI [0] hC (c_X5_init l D ct q1) bw_63 bw_64 bw_5 bw_65 rfl 0 (by decide +kernel) rfl rfl rfl ⟨Nat.le_of_ble_eq_true rfl, Nat.le_of_ble_eq_true rfl⟩ (Nat.le_of_ble_eq_true rfl) ⟨Nat.le_of_ble_eq_true rfl, Nat.le_of_ble_eq_true rfl⟩ rfl dL_law_12 ?_
  refine zkn (G := fun v1 w1 => zG p l e _ s m _ below meth c D _ _ _ _ _ _ _ (v1.toList ++ _) w1) rfl (fun q hq => ?_)
  subst hq
  refine zG_perm (w2 := W1 ++ cM q mdInit ct) ?_ ?_
  · show ((_ :: W1) ++ _).Perm (W1 ++ (_ :: _))
    exact List.perm_middle.symm
  refine z_astore_n hC dL_law_15 (by decide) rfl ?_
  refine z_iconst (v := 1) hC dL_law_16 (by decide) ?_
  refine z_newa (atype := .long) 4 1 hC bw_6 rfl (fun C h => by cases h) rfl (a0 := (1, .inr (.inl (fun _ => 0)))) (fun cA => rfl) (by decide) rfl (by decide) (Nat.le_of_ble_eq_true rfl) (Nat.le_of_ble_eq_true rfl) dL_law_17 (fun ao => ?_)
  refine z_astore_n hC dL_law_19 (by decide) rfl ?_
  refine z_iconst (v := 0) hC dL_law_20 (by decide) ?_
  refine z_istore hC dL_law_21 (by decide) rfl ?_
  subst hW1
  refine zG_perm (w2 := blk (lwF q0 ao q qs qt qh qx msInit msInit (fun _ _ => 0) mdInit (fun _ => 0) 0 0 (fun _ => none) (fun _ => none) ct) all13) ?_ ?_
  · refine List.Perm.trans (List.Perm.of_eq (pmI (cc := cN q0 qs qt qh qx) (zz := zo ct ao (fun _ => 0)) (S := cS qs msInit ct) (T := cS qt msInit ct) (H := cH qh 0 0 (fun _ => none) ct) (X := cT qx (fun _ _ => 0) ct) (M := cM q mdInit ct))) ?_
    exact blk_perm (f := lwF q0 ao q qs qt qh qx msInit msInit (fun _ _ => 0) mdInit (fun _ => 0) 0 0 (fun _ => none) (fun _ => none) ct) (is := [0, 1, 4, 5, 6, 3, 2, 7, 8, 9, 10, 11, 12]) (js := all13) (by decide)
  refine z_loop hC hwX hX hbl hbA hL hlf (fun i w cells slots h1 h2 => ?_) 512 0 0 _ _ msInit msInit (fun _ _ => 0) mdInit (fun _ => 0) 0 0 (fun _ => none) (fun _ => none) (by omega) (by omega) (Nat.le_of_ble_eq_true rfl) (Nat.le_of_ble_eq_true rfl) (by omega) lawI_init
  refine z_iconst (v := 1) hC dL_law_1783 (by decide) ?_
  intro H locs L1 hP hD hS hL1
  refine va_forget (fun q hq => hS.2.2 q hq) ?_
  refine W.widen (k := 601024) (n := 7293034) h1 h2 ?_
  exact lw_ret (d0 := s.drawn) hd0 hx hb hr hlocks dL_law_1784
