/-! P36: THE LAW, from its entry -/
section LAW3
variable {p : Program} {l : Launch} {e : Env} {s : State} {m : MethodId} {args : Array Value} {below : List Frame} {meth : Method} {c : Code} {D : va_G} {A : Nat → Prop} {Q : State → Prop} {ct : Nat → ClassId} {b0 b L k : Nat} {xs : Nat → Int32} {qs qt qh qx : Nat → Nat} {x y : Int32}

set_option maxRecDepth 100000 in
set_option maxHeartbeats 1000000 in
theorem law_8 (hC : zC p s m meth c args RL 10 cL_law D ct A) {Bd cm sm_ : Nat} (hB : Bd < 100000) (hcm : cm < 100000) (hsm : sm_ < 1000000) (K : LZ p l e s m args below meth c D A Q b qs qt qh qx ct Bd cm sm_ 30 [some (.ref b0), some (.ref b), some (.int 1), some (.int (nI 0)), none, none, none, none, none, none]) : LZ p l e s m args below meth c D A Q b qs qt qh qx ct Bd cm sm_ 8 [some (.ref b0), some (.ref b), none, none, none, none, none, none, none, none] := by
  intro cells slots σ hs ρ o z rg og hI hγ hok hcl hsl
  refine z_aload_n hC dL_law_8 rfl ?_
  refine z_callS [0, 1, 2, 3, 4, 5, 6, 7, 8, 9, 10, 11, 12, 13, 14, 15, 16] hC (n_nodes l D ct b qs qt qh qx σ hI (by omega)) bw_60 bw_61 bw_62 bw_63 1 (by decide +kernel) rfl rfl rfl ⟨Nat.le_of_ble_eq_true rfl, Nat.le_of_ble_eq_true rfl⟩ (Nat.le_of_ble_eq_true rfl) ⟨by show _ ≤ 600130; omega, by show _ ≤ 7301080; omega⟩ rfl dL_law_9 ?_
  refine zkq (G := fun v1 w1 => zG p l e _ s m args below meth c D _ _ _ _ _ _ _ (v1.toList ++ _) w1) rfl ?_
  refine z_if_eq hC 26 dL_law_12 (by decide) (fun cn1 => absurd cn1 (by decide)) (fun cn1 => ?_)
  refine z_aload_n hC dL_law_15 rfl ?_
  refine z_callS [0, 1, 2, 3, 4, 5, 6, 7, 8, 9, 10, 11, 12, 13, 14, 15, 16] hC (n_readings l D ct b qs qt qh qx σ hI (by omega)) bw_144 bw_145 bw_62 bw_146 1 (by decide +kernel) rfl rfl rfl ⟨Nat.le_of_ble_eq_true rfl, Nat.le_of_ble_eq_true rfl⟩ (Nat.le_of_ble_eq_true rfl) ⟨by show _ ≤ 600130; omega, by show _ ≤ 7301080; omega⟩ rfl dL_law_16 ?_
  refine zkq (G := fun v1 w1 => zG p l e _ s m args below meth c D _ _ _ _ _ _ _ (v1.toList ++ _) w1) rfl ?_
  refine z_if_eq hC 26 dL_law_19 (by decide) (fun cn2 => absurd cn2 (by decide)) (fun cn2 => ?_)
  refine z_iconst (v := 1) hC dL_law_22 (by decide) ?_
  refine z_goto hC 27 dL_law_23 (by decide) ?_
  refine z_istore_n hC dL_law_27 (by decide) rfl ?_
  refine z_iconst (v := 0) hC dL_law_28 (by decide) ?_
  refine z_istore_n hC dL_law_29 (by decide) rfl ?_
  exact z_wk (ls_s (ls_s (ls_s (ls_s (ls_n (ls_n (ls_n (ls_n (ls_n (ls_n ls_0)))))))))) (K _ _ σ hs _ _ _ _ _ hI hγ hok (by omega) (by omega))

end LAW3
theorem noTr {l : Launch} (h : l.flags = flags0) : l.stackTraces = false := by
  show (!l.flags.contains noTraceFlag) = false
  rw [h]
  decide +kernel
theorem lw_first {b : Nat} {qs qt qh qx : Nat → Nat} {ct : Nat → ClassId} {X : va_W} : cN b qs qt qh qx :: (cS qs msInit ct ++ (cS qt msInit ct ++ (cH qh 0 0 (fun _ => none) ct ++ X))) = lwW b qs qt qh qx msInit msInit 0 0 (fun _ => none) (fun _ => none) ct ++ X := by
  show _ = ([cN b qs qt qh qx] ++ (cS qs msInit ct ++ (cS qt msInit ct ++ (cH qh 0 0 (fun _ => none) ct ++ ([] ++ ([] ++ ([] ++ ([] ++ ([] ++ ([] ++ [])))))))))) ++ X
  simp
set_option maxHeartbeats 4000000 in
set_option maxRecDepth 100000 in
theorem whole_start {p : Program} {e : Env} {s : State} {m : MethodId} {below : List Frame} {meth : Method} {c : Code} (l : Launch) (hflags : l.flags = flags0) {b L : Nat} {xs : Nat → Int32} (hL : L ≤ 260) (C0 : lw_At p s m meth c b L xs) : W p l e room_1 s m #[Value.ref b] below meth c s.heap [] 0 0 (lw_Z below #[Value.ref b] s) (entryFrame m ([Value.ref b] : List Value).toArray 10) := by
  have hlf := noTr hflags
  have hwX := at_wX C0
  have hwN := at_wN C0
  obtain ⟨D, ct, hK⟩ := at_K C0
  obtain ⟨hx, hb, hr, hml, hown, hts, hX, hbl, hlocks, hgv⟩ := id C0
  have hA : ∀ q : Nat, s.heap.size ≤ q → (fun q : Nat => s.heap.size ≤ q) q := fun _ h => h
  have hbA : ¬ (fun q : Nat => s.heap.size ≤ q) b := Nat.not_le.mpr hbl
  have hd0 := Drawn.sameBut.refl s.drawn lw_cs
  have hC : zC p s m meth c #[Value.ref b] RL 10 cL_law D ct (fun q : Nat => s.heap.size ≤ q) := ⟨hx, hb, hml, hown, fun w h => hts w (BW_tbl w h), hK, hwN, hA, hlocks⟩
  have hl := lv_entry ([.ref b]) (n := 10) (Nat.le_of_ble_eq_true rfl)
  rw [lg_entry_eq]
  generalize (lg_sl ([.ref b]) ++ List.replicate (10 - (lg_sl ([.ref b])).length) Slot.unset).toArray = ls at hl ⊢
  suffices K : zG p l e room_1 s m #[Value.ref b] below meth c D (fun q : Nat => s.heap.size ≤ q) 10 (lw_Z below #[Value.ref b] s) 0 0 0 [some (.ref b), none, none, none, none, none, none, none, none, none] [] [] from
    K s.heap [] ls (fun k q h => by simp at h) ⟨fun i j p q h => by simp at h, fun k q h => by simp at h⟩ va_S.rf hl
  refine z_new (ci := 4) (fs := [.null, .null, .null, .null]) hC bl_X4 tyX4_ok bw_0 bw_1 bw_2 rfl (by intro j hj; match j, hj with | 0, _ => rfl | 1, _ => rfl | 2, _ => rfl | 3, _ => rfl) (Nat.le_of_ble_eq_true rfl) (Nat.le_of_ble_eq_true rfl) dL_law_0 (fun q0 => ?_)
  refine zG_w (w2 := [(q0, .inr (4, [.null, .null, .null, .null]))]) rfl ?_
  refine z_dup hC dL_law_3 rfl ?_
  refine z_callI [0] hC (c_X4_init l D ct q0) bw_4 bw_5 bw_2 bw_6 rfl 0 (by decide +kernel) rfl rfl rfl ⟨Nat.le_of_ble_eq_true rfl, Nat.le_of_ble_eq_true rfl⟩ (Nat.le_of_ble_eq_true rfl) ⟨Nat.le_of_ble_eq_true rfl, Nat.le_of_ble_eq_true rfl⟩ rfl dL_law_4 ?_
  rintro v1 wa wb ⟨rfl, qs, qt, qh, qx, hw⟩ had
  have h1 : wa.length = 1 := by simpa using congrArg List.length had
  obtain ⟨y, rfl⟩ : ∃ y, wa = [y] := List.length_eq_one_iff.mp h1
  refine zG_w (w2 := lwW q0 qs qt qh qx msInit msInit 0 0 (fun _ => none) (fun _ => none) ct ++ cT qx (fun _ _ => 0) ct) (hw.trans lw_first) ?_
  refine zG_less ?_
  refine z_astore_n hC dL_law_7 (by decide) rfl ?_
  refine law_8 hC (by omega) (by omega) (by omega) (law_loop hC hwX hlf hX hbA (by omega) (c0 := 50) (s0 := 4000) (by omega) (by omega) (fun cells slots σ hs ρ o z rg og hI hγ hok h1 h2 => ?_) 46 0 rfl) _ _ msInit [] _ _ _ _ _ Inv_init (fun γ q => absurd q List.not_mem_nil) hOK_init (Nat.le_of_ble_eq_true rfl) (Nat.le_of_ble_eq_true rfl)
  refine z_iload_n hC dL_law_30 rfl ?_
  refine z_bipush (v := 46) hC dL_law_31 (by decide) ?_
  refine z_icmp_ge hC 321 dL_law_33 (by decide) (fun _ => ?_) (fun q => absurd (nI_le (a := 46) (b := 46) (by decide) (by decide)) q)
  refine z_iload_n hC dL_law_321 rfl ?_
  intro H locs L1 hP hD hS hL1
  refine va_forget (fun q hq => hS.2.2 q hq) ?_
  refine W.widen (k := 600130) (n := 7301080) (by omega) (by omega) ?_
  exact lw_ret (d0 := s.drawn) hd0 hx hb hr hlocks dL_law_322
