/-! THE LAW'S HELPERS, each out of the contract of the call that it makes -/
abbrev zo (ct : Nat → ClassId) (ao : Nat) (g : Nat → Int64) : Nat × va_E := (ao, .inl (ct 4, 1, .inr (.inl g)))
def zLP (ct : Nat → ClassId) (ao : Nat) (Pk : Int32 → va_W → va_W → (Nat → Int64) → Prop) : Option Value → va_W → va_W → Prop := fun v wa wb => ∃ (k : Int32) (wc' : va_W) (g' : Nat → Int64), v = some (.int k) ∧ wa = wc' ++ [zo ct ao g'] ∧ Pk k wc' wb g'
theorem zo_at {ct : Nat → ClassId} {ao : Nat} {g : Nat → Int64} {wa wb : va_W} : ((wa ++ [zo ct ao g]) ++ wb)[wa.length]? = some (zo ct ao g) := by
  rw [List.append_assoc, List.getElem?_append_right (Nat.le_refl _), Nat.sub_self]
  rfl
theorem zo_set {ct : Nat → ClassId} {ao : Nat} {g g2 : Nat → Int64} {wa wb : va_W} : ((wa ++ [zo ct ao g]) ++ wb).set wa.length (zo ct ao g2) = (wa ++ [zo ct ao g2]) ++ wb := by
  rw [List.append_assoc, List.append_assoc, List.set_append_right _ _ (Nat.le_refl _), Nat.sub_self]
  rfl
theorem zo_adr {ct : Nat → ClassId} {ao : Nat} {g g2 : Nat → Int64} {wa wc : va_W} (h : wa.map Prod.fst = wc.map Prod.fst) : (wa ++ [zo ct ao g2]).map Prod.fst = (wc ++ [zo ct ao g]).map Prod.fst := by
  rw [List.map_append, List.map_append, h]
  rfl
set_option maxRecDepth 100000 in
set_option maxHeartbeats 1000000 in
theorem hk_link (l : Launch) (D : va_G) (ct : Nat → ClassId) (ao b : Nat) (g : Nat → Int64) (a1 : Int32) (a2 : Int32) (a3 : Int32) (wc : va_W) (fs : List Value) (po : Option Value → va_W → va_W → Prop) {fr lo mc ms : Nat} (hfr : fr ≤ 9) (hlo : lo ≤ 300) (hM : zT l D ct yX4_link cX4_link 4 (some .int) fr lo mc ms [.ref b, .int a1, .int a2, .int a3] wc po) (he : wc[0]? = some (b, .inr (4, fs))) (hpo : ∀ v wa wb, po v wa wb → ∃ x : Int32, v = some (.int x)) : zL l D ct yL_link cL_link 6 (some .int) [(0, 12, 15, 13), (0, 12, 19, 15)] 10 340 mc ms [.ref b, .int a1, .int a2, .int a3, .ref ao] (wc ++ [zo ct ao g]) (zLP ct ao (fun k wc' wb g' => k = 0 ∧ ∃ x : Int32, po (some (.int x)) wc' wb ∧ g' = vp_updL g 0 x.toInt64)) := by
  refine zL_of ([some (.ref b), some (.int a1), some (.int a2), some (.int a3), some (.ref ao), none]) (by decide +kernel) rfl (Nat.le_of_ble_eq_true rfl) ?_
  intro p e s m args below meth c hC hx hr htab
  refine z_aload hC dL_link_0 rfl ?_
  refine z_iconst (v := 0) hC dL_link_2 (by decide) ?_
  refine z_aload_n hC dL_link_3 rfl ?_
  refine z_iload_n hC dL_link_4 rfl ?_
  refine z_iload_n hC dL_link_5 rfl ?_
  refine z_iload_n hC dL_link_6 rfl ?_
  refine z_callV (List.range wc.length) 0 4 hC hM bw_79 bw_80 bw_81 bw_2 bw_82 3 (by decide +kernel) rfl (rng_nd _) rng_ps rfl he ⟨show fr + 1 ≤ 10 by omega, show 8 + (4 + 11) + lo ≤ 340 by omega⟩ (Nat.le_of_ble_eq_true rfl) ⟨Nat.le_of_eq (Nat.zero_add _), Nat.le_of_eq (Nat.zero_add _)⟩ rfl dL_link_7 ?_
  intro v wa wb hp1 had
  obtain ⟨x, rfl⟩ := hpo _ _ _ hp1
  rw [wput_pre (fst_len had)]
  refine z_i2l hC dL_link_10 ?_
  refine z_lastore wa.length (w' := (wa ++ [zo ct ao (vp_updL g 0 x.toInt64)]) ++ wb) hC zo_at dL_link_11 zo_set ?_
  refine z_goto hC 23 dL_link_12 (by decide) ?_
  refine z_iconst (v := 0) hC dL_link_23 (by decide) ?_
  exact z_iret hC hr dL_link_24 (Nat.le_of_eq (Nat.zero_add _)) (Nat.le_of_eq (Nat.zero_add _)) (wa := wa ++ [zo ct ao (vp_updL g 0 x.toInt64)]) (wb := wb) ⟨0, wa, _, rfl, rfl, rfl, x, hp1, rfl⟩ rfl (zo_adr had)

set_option maxRecDepth 100000 in
set_option maxHeartbeats 1000000 in
theorem hx_link_1 (l : Launch) (D : va_G) (ct : Nat → ClassId) (ao b : Nat) (g : Nat → Int64) (a1 : Int32) (a2 : Int32) (a3 : Int32) (wc wc2 : va_W) (fs : List Value) {fr lo mc ms : Nat} (hfr : fr ≤ 9) (hlo : lo ≤ 300) (hM : zX l D ct yX4_link cX4_link 4 (some .int) fr lo mc ms [.ref b, .int a1, .int a2, .int a3] wc wc2 xIOB) (had : wc2.map Prod.fst = wc.map Prod.fst) (he : wc[0]? = some (b, .inr (4, fs))) : zL l D ct yL_link cL_link 6 (some .int) [(0, 12, 15, 13), (0, 12, 19, 15)] 10 340 mc ms [.ref b, .int a1, .int a2, .int a3, .ref ao] (wc ++ [zo ct ao g]) (zLP ct ao (fun k wc' wb g' => k = 1 ∧ wc' = wc2 ∧ wb = [] ∧ g' = g)) := by
  refine zL_of ([some (.ref b), some (.int a1), some (.int a2), some (.int a3), some (.ref ao), none]) (by decide +kernel) rfl (Nat.le_of_ble_eq_true rfl) ?_
  intro p e s m args below meth c hC hx hr htab
  refine z_aload hC dL_link_0 rfl ?_
  refine z_iconst (v := 0) hC dL_link_2 (by decide) ?_
  refine z_aload_n hC dL_link_3 rfl ?_
  refine z_iload_n hC dL_link_4 rfl ?_
  refine z_iload_n hC dL_link_5 rfl ?_
  refine z_iload_n hC dL_link_6 rfl ?_
  refine z_callVX (List.range wc.length) 0 4 (pre := []) (suf := [(0, 12, 19, 15)]) (s0 := 0) (s1 := 12) (hpc := 15) (kt := 13) hC hM hx had htab (by decide) (by decide) bw_77 (by simp [EL]) (fun q hq => absurd hq List.not_mem_nil) bw_79 bw_80 bw_81 bw_2 bw_82 3 (by decide +kernel) rfl (rng_nd _) rng_ps rfl he ⟨show fr + 1 ≤ 10 by omega, show 8 + (4 + 11) + lo ≤ 340 by omega⟩ (Nat.le_of_ble_eq_true rfl) ⟨Nat.le_of_eq (Nat.zero_add _), Nat.le_of_eq (Nat.zero_add _)⟩ rfl dL_link_7 ?_
  intro q
  rw [wput_pre (fst_len had)]
  refine z_astore hC dL_link_15 (by decide) rfl ?_
  refine z_iconst (v := 1) hC dL_link_17 (by decide) ?_
  exact z_iret hC hr dL_link_18 (Nat.le_of_eq (Nat.zero_add _)) (Nat.le_of_eq (Nat.zero_add _)) (wa := wc2 ++ [zo ct ao g]) (wb := []) ⟨1, wc2, g, rfl, rfl, rfl, rfl, rfl, rfl⟩ (List.append_nil _).symm (zo_adr had)

set_option maxRecDepth 100000 in
set_option maxHeartbeats 1000000 in
theorem hx_link_2 (l : Launch) (D : va_G) (ct : Nat → ClassId) (ao b : Nat) (g : Nat → Int64) (a1 : Int32) (a2 : Int32) (a3 : Int32) (wc wc2 : va_W) (fs : List Value) {fr lo mc ms : Nat} (hfr : fr ≤ 9) (hlo : lo ≤ 300) (hM : zX l D ct yX4_link cX4_link 4 (some .int) fr lo mc ms [.ref b, .int a1, .int a2, .int a3] wc wc2 xIAE) (had : wc2.map Prod.fst = wc.map Prod.fst) (he : wc[0]? = some (b, .inr (4, fs))) : zL l D ct yL_link cL_link 6 (some .int) [(0, 12, 15, 13), (0, 12, 19, 15)] 10 340 mc ms [.ref b, .int a1, .int a2, .int a3, .ref ao] (wc ++ [zo ct ao g]) (zLP ct ao (fun k wc' wb g' => k = 2 ∧ wc' = wc2 ∧ wb = [] ∧ g' = g)) := by
  refine zL_of ([some (.ref b), some (.int a1), some (.int a2), some (.int a3), some (.ref ao), none]) (by decide +kernel) rfl (Nat.le_of_ble_eq_true rfl) ?_
  intro p e s m args below meth c hC hx hr htab
  refine z_aload hC dL_link_0 rfl ?_
  refine z_iconst (v := 0) hC dL_link_2 (by decide) ?_
  refine z_aload_n hC dL_link_3 rfl ?_
  refine z_iload_n hC dL_link_4 rfl ?_
  refine z_iload_n hC dL_link_5 rfl ?_
  refine z_iload_n hC dL_link_6 rfl ?_
  have hpre : ∀ q ∈ ([(0, 12, 15, 13)] : List (Nat × Nat × Nat × Nat)), q.2.2.2 ≠ 0 ∧ ∃ nm : String, Cond.classLink RL q.2.2.2 nm ∈ BW ∧ (xIAE, nm) ∈ NL := by
    intro q hq
    rcases List.mem_cons.mp hq with rfl | hq
    · exact ⟨by decide, xIOB, bw_77, by simp [NL]⟩
    exact absurd hq List.not_mem_nil
  refine z_callVX (List.range wc.length) 0 4 (pre := [(0, 12, 15, 13)]) (suf := []) (s0 := 0) (s1 := 12) (hpc := 19) (kt := 15) hC hM hx had htab (by decide) (by decide) bw_78 (by simp [EL]) hpre bw_79 bw_80 bw_81 bw_2 bw_82 3 (by decide +kernel) rfl (rng_nd _) rng_ps rfl he ⟨show fr + 1 ≤ 10 by omega, show 8 + (4 + 11) + lo ≤ 340 by omega⟩ (Nat.le_of_ble_eq_true rfl) ⟨Nat.le_of_eq (Nat.zero_add _), Nat.le_of_eq (Nat.zero_add _)⟩ rfl dL_link_7 ?_
  intro q
  rw [wput_pre (fst_len had)]
  refine z_astore hC dL_link_19 (by decide) rfl ?_
  refine z_iconst (v := 2) hC dL_link_21 (by decide) ?_
  exact z_iret hC hr dL_link_22 (Nat.le_of_eq (Nat.zero_add _)) (Nat.le_of_eq (Nat.zero_add _)) (wa := wc2 ++ [zo ct ao g]) (wb := []) ⟨2, wc2, g, rfl, rfl, rfl, rfl, rfl, rfl⟩ (List.append_nil _).symm (zo_adr had)

set_option maxRecDepth 100000 in
set_option maxHeartbeats 1000000 in
theorem hk_power (l : Launch) (D : va_G) (ct : Nat → ClassId) (ao b : Nat) (g : Nat → Int64) (a1 : Int32) (a2 : Int32) (wc : va_W) (fs : List Value) (po : Option Value → va_W → va_W → Prop) {fr lo mc ms : Nat} (hfr : fr ≤ 9) (hlo : lo ≤ 300) (hM : zT l D ct yX4_power cX4_power 3 (some .int) fr lo mc ms [.ref b, .int a1, .int a2] wc po) (he : wc[0]? = some (b, .inr (4, fs))) (hpo : ∀ v wa wb, po v wa wb → ∃ x : Int32, v = some (.int x)) : zL l D ct yL_power cL_power 5 (some .int) [(0, 10, 13, 13)] 10 340 mc ms [.ref b, .int a1, .int a2, .ref ao] (wc ++ [zo ct ao g]) (zLP ct ao (fun k wc' wb g' => k = 0 ∧ ∃ x : Int32, po (some (.int x)) wc' wb ∧ g' = vp_updL g 0 x.toInt64)) := by
  refine zL_of ([some (.ref b), some (.int a1), some (.int a2), some (.ref ao), none]) (by decide +kernel) rfl (Nat.le_of_ble_eq_true rfl) ?_
  intro p e s m args below meth c hC hx hr htab
  refine z_aload_n hC dL_power_0 rfl ?_
  refine z_iconst (v := 0) hC dL_power_1 (by decide) ?_
  refine z_aload_n hC dL_power_2 rfl ?_
  refine z_iload_n hC dL_power_3 rfl ?_
  refine z_iload_n hC dL_power_4 rfl ?_
  refine z_callV (List.range wc.length) 0 4 hC hM bw_171 bw_172 bw_173 bw_2 bw_174 2 (by decide +kernel) rfl (rng_nd _) rng_ps rfl he ⟨show fr + 1 ≤ 10 by omega, show 8 + (3 + 11) + lo ≤ 340 by omega⟩ (Nat.le_of_ble_eq_true rfl) ⟨Nat.le_of_eq (Nat.zero_add _), Nat.le_of_eq (Nat.zero_add _)⟩ rfl dL_power_5 ?_
  intro v wa wb hp1 had
  obtain ⟨x, rfl⟩ := hpo _ _ _ hp1
  rw [wput_pre (fst_len had)]
  refine z_i2l hC dL_power_8 ?_
  refine z_lastore wa.length (w' := (wa ++ [zo ct ao (vp_updL g 0 x.toInt64)]) ++ wb) hC zo_at dL_power_9 zo_set ?_
  refine z_goto hC 17 dL_power_10 (by decide) ?_
  refine z_iconst (v := 0) hC dL_power_17 (by decide) ?_
  exact z_iret hC hr dL_power_18 (Nat.le_of_eq (Nat.zero_add _)) (Nat.le_of_eq (Nat.zero_add _)) (wa := wa ++ [zo ct ao (vp_updL g 0 x.toInt64)]) (wb := wb) ⟨0, wa, _, rfl, rfl, rfl, x, hp1, rfl⟩ rfl (zo_adr had)

set_option maxRecDepth 100000 in
set_option maxHeartbeats 1000000 in
theorem hx_power_1 (l : Launch) (D : va_G) (ct : Nat → ClassId) (ao b : Nat) (g : Nat → Int64) (a1 : Int32) (a2 : Int32) (wc wc2 : va_W) (fs : List Value) {fr lo mc ms : Nat} (hfr : fr ≤ 9) (hlo : lo ≤ 300) (hM : zX l D ct yX4_power cX4_power 3 (some .int) fr lo mc ms [.ref b, .int a1, .int a2] wc wc2 xIOB) (had : wc2.map Prod.fst = wc.map Prod.fst) (he : wc[0]? = some (b, .inr (4, fs))) : zL l D ct yL_power cL_power 5 (some .int) [(0, 10, 13, 13)] 10 340 mc ms [.ref b, .int a1, .int a2, .ref ao] (wc ++ [zo ct ao g]) (zLP ct ao (fun k wc' wb g' => k = 1 ∧ wc' = wc2 ∧ wb = [] ∧ g' = g)) := by
  refine zL_of ([some (.ref b), some (.int a1), some (.int a2), some (.ref ao), none]) (by decide +kernel) rfl (Nat.le_of_ble_eq_true rfl) ?_
  intro p e s m args below meth c hC hx hr htab
  refine z_aload_n hC dL_power_0 rfl ?_
  refine z_iconst (v := 0) hC dL_power_1 (by decide) ?_
  refine z_aload_n hC dL_power_2 rfl ?_
  refine z_iload_n hC dL_power_3 rfl ?_
  refine z_iload_n hC dL_power_4 rfl ?_
  refine z_callVX (List.range wc.length) 0 4 (pre := []) (suf := []) (s0 := 0) (s1 := 10) (hpc := 13) (kt := 13) hC hM hx had htab (by decide) (by decide) bw_77 (by simp [EL]) (fun q hq => absurd hq List.not_mem_nil) bw_171 bw_172 bw_173 bw_2 bw_174 2 (by decide +kernel) rfl (rng_nd _) rng_ps rfl he ⟨show fr + 1 ≤ 10 by omega, show 8 + (3 + 11) + lo ≤ 340 by omega⟩ (Nat.le_of_ble_eq_true rfl) ⟨Nat.le_of_eq (Nat.zero_add _), Nat.le_of_eq (Nat.zero_add _)⟩ rfl dL_power_5 ?_
  intro q
  rw [wput_pre (fst_len had)]
  refine z_astore hC dL_power_13 (by decide) rfl ?_
  refine z_iconst (v := 1) hC dL_power_15 (by decide) ?_
  exact z_iret hC hr dL_power_16 (Nat.le_of_eq (Nat.zero_add _)) (Nat.le_of_eq (Nat.zero_add _)) (wa := wc2 ++ [zo ct ao g]) (wb := []) ⟨1, wc2, g, rfl, rfl, rfl, rfl, rfl, rfl⟩ (List.append_nil _).symm (zo_adr had)

set_option maxRecDepth 100000 in
set_option maxHeartbeats 1000000 in
theorem hk_jump (l : Launch) (D : va_G) (ct : Nat → ClassId) (ao b : Nat) (g : Nat → Int64) (a1 : Int32) (a2 : Int32) (wc : va_W) (fs : List Value) (po : Option Value → va_W → va_W → Prop) {fr lo mc ms : Nat} (hfr : fr ≤ 9) (hlo : lo ≤ 300) (hM : zT l D ct yX4_jump cX4_jump 3 (some .int) fr lo mc ms [.ref b, .int a1, .int a2] wc po) (he : wc[0]? = some (b, .inr (4, fs))) (hpo : ∀ v wa wb, po v wa wb → ∃ x : Int32, v = some (.int x)) : zL l D ct yL_jump cL_jump 5 (some .int) [(0, 10, 13, 13), (0, 10, 17, 15)] 10 340 mc ms [.ref b, .int a1, .int a2, .ref ao] (wc ++ [zo ct ao g]) (zLP ct ao (fun k wc' wb g' => k = 0 ∧ ∃ x : Int32, po (some (.int x)) wc' wb ∧ g' = vp_updL g 0 x.toInt64)) := by
  refine zL_of ([some (.ref b), some (.int a1), some (.int a2), some (.ref ao), none]) (by decide +kernel) rfl (Nat.le_of_ble_eq_true rfl) ?_
  intro p e s m args below meth c hC hx hr htab
  refine z_aload_n hC dL_jump_0 rfl ?_
  refine z_iconst (v := 0) hC dL_jump_1 (by decide) ?_
  refine z_aload_n hC dL_jump_2 rfl ?_
  refine z_iload_n hC dL_jump_3 rfl ?_
  refine z_iload_n hC dL_jump_4 rfl ?_
  refine z_callV (List.range wc.length) 0 4 hC hM bw_192 bw_193 bw_194 bw_2 bw_195 2 (by decide +kernel) rfl (rng_nd _) rng_ps rfl he ⟨show fr + 1 ≤ 10 by omega, show 8 + (3 + 11) + lo ≤ 340 by omega⟩ (Nat.le_of_ble_eq_true rfl) ⟨Nat.le_of_eq (Nat.zero_add _), Nat.le_of_eq (Nat.zero_add _)⟩ rfl dL_jump_5 ?_
  intro v wa wb hp1 had
  obtain ⟨x, rfl⟩ := hpo _ _ _ hp1
  rw [wput_pre (fst_len had)]
  refine z_i2l hC dL_jump_8 ?_
  refine z_lastore wa.length (w' := (wa ++ [zo ct ao (vp_updL g 0 x.toInt64)]) ++ wb) hC zo_at dL_jump_9 zo_set ?_
  refine z_goto hC 21 dL_jump_10 (by decide) ?_
  refine z_iconst (v := 0) hC dL_jump_21 (by decide) ?_
  exact z_iret hC hr dL_jump_22 (Nat.le_of_eq (Nat.zero_add _)) (Nat.le_of_eq (Nat.zero_add _)) (wa := wa ++ [zo ct ao (vp_updL g 0 x.toInt64)]) (wb := wb) ⟨0, wa, _, rfl, rfl, rfl, x, hp1, rfl⟩ rfl (zo_adr had)

set_option maxRecDepth 100000 in
set_option maxHeartbeats 1000000 in
theorem hx_jump_1 (l : Launch) (D : va_G) (ct : Nat → ClassId) (ao b : Nat) (g : Nat → Int64) (a1 : Int32) (a2 : Int32) (wc wc2 : va_W) (fs : List Value) {fr lo mc ms : Nat} (hfr : fr ≤ 9) (hlo : lo ≤ 300) (hM : zX l D ct yX4_jump cX4_jump 3 (some .int) fr lo mc ms [.ref b, .int a1, .int a2] wc wc2 xIOB) (had : wc2.map Prod.fst = wc.map Prod.fst) (he : wc[0]? = some (b, .inr (4, fs))) : zL l D ct yL_jump cL_jump 5 (some .int) [(0, 10, 13, 13), (0, 10, 17, 15)] 10 340 mc ms [.ref b, .int a1, .int a2, .ref ao] (wc ++ [zo ct ao g]) (zLP ct ao (fun k wc' wb g' => k = 1 ∧ wc' = wc2 ∧ wb = [] ∧ g' = g)) := by
  refine zL_of ([some (.ref b), some (.int a1), some (.int a2), some (.ref ao), none]) (by decide +kernel) rfl (Nat.le_of_ble_eq_true rfl) ?_
  intro p e s m args below meth c hC hx hr htab
  refine z_aload_n hC dL_jump_0 rfl ?_
  refine z_iconst (v := 0) hC dL_jump_1 (by decide) ?_
  refine z_aload_n hC dL_jump_2 rfl ?_
  refine z_iload_n hC dL_jump_3 rfl ?_
  refine z_iload_n hC dL_jump_4 rfl ?_
  refine z_callVX (List.range wc.length) 0 4 (pre := []) (suf := [(0, 10, 17, 15)]) (s0 := 0) (s1 := 10) (hpc := 13) (kt := 13) hC hM hx had htab (by decide) (by decide) bw_77 (by simp [EL]) (fun q hq => absurd hq List.not_mem_nil) bw_192 bw_193 bw_194 bw_2 bw_195 2 (by decide +kernel) rfl (rng_nd _) rng_ps rfl he ⟨show fr + 1 ≤ 10 by omega, show 8 + (3 + 11) + lo ≤ 340 by omega⟩ (Nat.le_of_ble_eq_true rfl) ⟨Nat.le_of_eq (Nat.zero_add _), Nat.le_of_eq (Nat.zero_add _)⟩ rfl dL_jump_5 ?_
  intro q
  rw [wput_pre (fst_len had)]
  refine z_astore hC dL_jump_13 (by decide) rfl ?_
  refine z_iconst (v := 1) hC dL_jump_15 (by decide) ?_
  exact z_iret hC hr dL_jump_16 (Nat.le_of_eq (Nat.zero_add _)) (Nat.le_of_eq (Nat.zero_add _)) (wa := wc2 ++ [zo ct ao g]) (wb := []) ⟨1, wc2, g, rfl, rfl, rfl, rfl, rfl, rfl⟩ (List.append_nil _).symm (zo_adr had)

set_option maxRecDepth 100000 in
set_option maxHeartbeats 1000000 in
theorem hx_jump_2 (l : Launch) (D : va_G) (ct : Nat → ClassId) (ao b : Nat) (g : Nat → Int64) (a1 : Int32) (a2 : Int32) (wc wc2 : va_W) (fs : List Value) {fr lo mc ms : Nat} (hfr : fr ≤ 9) (hlo : lo ≤ 300) (hM : zX l D ct yX4_jump cX4_jump 3 (some .int) fr lo mc ms [.ref b, .int a1, .int a2] wc wc2 xIAE) (had : wc2.map Prod.fst = wc.map Prod.fst) (he : wc[0]? = some (b, .inr (4, fs))) : zL l D ct yL_jump cL_jump 5 (some .int) [(0, 10, 13, 13), (0, 10, 17, 15)] 10 340 mc ms [.ref b, .int a1, .int a2, .ref ao] (wc ++ [zo ct ao g]) (zLP ct ao (fun k wc' wb g' => k = 2 ∧ wc' = wc2 ∧ wb = [] ∧ g' = g)) := by
  refine zL_of ([some (.ref b), some (.int a1), some (.int a2), some (.ref ao), none]) (by decide +kernel) rfl (Nat.le_of_ble_eq_true rfl) ?_
  intro p e s m args below meth c hC hx hr htab
  refine z_aload_n hC dL_jump_0 rfl ?_
  refine z_iconst (v := 0) hC dL_jump_1 (by decide) ?_
  refine z_aload_n hC dL_jump_2 rfl ?_
  refine z_iload_n hC dL_jump_3 rfl ?_
  refine z_iload_n hC dL_jump_4 rfl ?_
  have hpre : ∀ q ∈ ([(0, 10, 13, 13)] : List (Nat × Nat × Nat × Nat)), q.2.2.2 ≠ 0 ∧ ∃ nm : String, Cond.classLink RL q.2.2.2 nm ∈ BW ∧ (xIAE, nm) ∈ NL := by
    intro q hq
    rcases List.mem_cons.mp hq with rfl | hq
    · exact ⟨by decide, xIOB, bw_77, by simp [NL]⟩
    exact absurd hq List.not_mem_nil
  refine z_callVX (List.range wc.length) 0 4 (pre := [(0, 10, 13, 13)]) (suf := []) (s0 := 0) (s1 := 10) (hpc := 17) (kt := 15) hC hM hx had htab (by decide) (by decide) bw_78 (by simp [EL]) hpre bw_192 bw_193 bw_194 bw_2 bw_195 2 (by decide +kernel) rfl (rng_nd _) rng_ps rfl he ⟨show fr + 1 ≤ 10 by omega, show 8 + (3 + 11) + lo ≤ 340 by omega⟩ (Nat.le_of_ble_eq_true rfl) ⟨Nat.le_of_eq (Nat.zero_add _), Nat.le_of_eq (Nat.zero_add _)⟩ rfl dL_jump_5 ?_
  intro q
  rw [wput_pre (fst_len had)]
  refine z_astore hC dL_jump_17 (by decide) rfl ?_
  refine z_iconst (v := 2) hC dL_jump_19 (by decide) ?_
  exact z_iret hC hr dL_jump_20 (Nat.le_of_eq (Nat.zero_add _)) (Nat.le_of_eq (Nat.zero_add _)) (wa := wc2 ++ [zo ct ao g]) (wb := []) ⟨2, wc2, g, rfl, rfl, rfl, rfl, rfl, rfl⟩ (List.append_nil _).symm (zo_adr had)

set_option maxRecDepth 100000 in
set_option maxHeartbeats 1000000 in
theorem hk_setFaults (l : Launch) (D : va_G) (ct : Nat → ClassId) (ao b : Nat) (g : Nat → Int64) (a1 : Int32) (a2 : Int32) (wc : va_W) (fs : List Value) (po : Option Value → va_W → va_W → Prop) {fr lo mc ms : Nat} (hfr : fr ≤ 9) (hlo : lo ≤ 300) (hM : zT l D ct yX4_setFaults cX4_setFaults 4 (some .int) fr lo mc ms [.ref b, .int a1, .int a2] wc po) (he : wc[0]? = some (b, .inr (4, fs))) (hpo : ∀ v wa wb, po v wa wb → ∃ x : Int32, v = some (.int x)) : zL l D ct yL_setFaults cL_setFaults 5 (some .int) [(0, 10, 13, 13), (0, 10, 17, 15)] 10 340 mc ms [.ref b, .int a1, .int a2, .ref ao] (wc ++ [zo ct ao g]) (zLP ct ao (fun k wc' wb g' => k = 0 ∧ ∃ x : Int32, po (some (.int x)) wc' wb ∧ g' = vp_updL g 0 x.toInt64)) := by
  refine zL_of ([some (.ref b), some (.int a1), some (.int a2), some (.ref ao), none]) (by decide +kernel) rfl (Nat.le_of_ble_eq_true rfl) ?_
  intro p e s m args below meth c hC hx hr htab
  refine z_aload_n hC dL_setFaults_0 rfl ?_
  refine z_iconst (v := 0) hC dL_setFaults_1 (by decide) ?_
  refine z_aload_n hC dL_setFaults_2 rfl ?_
  refine z_iload_n hC dL_setFaults_3 rfl ?_
  refine z_iload_n hC dL_setFaults_4 rfl ?_
  refine z_callV (List.range wc.length) 0 4 hC hM bw_212 bw_213 bw_214 bw_2 bw_215 2 (by decide +kernel) rfl (rng_nd _) rng_ps rfl he ⟨show fr + 1 ≤ 10 by omega, show 8 + (4 + 11) + lo ≤ 340 by omega⟩ (Nat.le_of_ble_eq_true rfl) ⟨Nat.le_of_eq (Nat.zero_add _), Nat.le_of_eq (Nat.zero_add _)⟩ rfl dL_setFaults_5 ?_
  intro v wa wb hp1 had
  obtain ⟨x, rfl⟩ := hpo _ _ _ hp1
  rw [wput_pre (fst_len had)]
  refine z_i2l hC dL_setFaults_8 ?_
  refine z_lastore wa.length (w' := (wa ++ [zo ct ao (vp_updL g 0 x.toInt64)]) ++ wb) hC zo_at dL_setFaults_9 zo_set ?_
  refine z_goto hC 21 dL_setFaults_10 (by decide) ?_
  refine z_iconst (v := 0) hC dL_setFaults_21 (by decide) ?_
  exact z_iret hC hr dL_setFaults_22 (Nat.le_of_eq (Nat.zero_add _)) (Nat.le_of_eq (Nat.zero_add _)) (wa := wa ++ [zo ct ao (vp_updL g 0 x.toInt64)]) (wb := wb) ⟨0, wa, _, rfl, rfl, rfl, x, hp1, rfl⟩ rfl (zo_adr had)

set_option maxRecDepth 100000 in
set_option maxHeartbeats 1000000 in
theorem hx_setFaults_1 (l : Launch) (D : va_G) (ct : Nat → ClassId) (ao b : Nat) (g : Nat → Int64) (a1 : Int32) (a2 : Int32) (wc wc2 : va_W) (fs : List Value) {fr lo mc ms : Nat} (hfr : fr ≤ 9) (hlo : lo ≤ 300) (hM : zX l D ct yX4_setFaults cX4_setFaults 4 (some .int) fr lo mc ms [.ref b, .int a1, .int a2] wc wc2 xIOB) (had : wc2.map Prod.fst = wc.map Prod.fst) (he : wc[0]? = some (b, .inr (4, fs))) : zL l D ct yL_setFaults cL_setFaults 5 (some .int) [(0, 10, 13, 13), (0, 10, 17, 15)] 10 340 mc ms [.ref b, .int a1, .int a2, .ref ao] (wc ++ [zo ct ao g]) (zLP ct ao (fun k wc' wb g' => k = 1 ∧ wc' = wc2 ∧ wb = [] ∧ g' = g)) := by
  refine zL_of ([some (.ref b), some (.int a1), some (.int a2), some (.ref ao), none]) (by decide +kernel) rfl (Nat.le_of_ble_eq_true rfl) ?_
  intro p e s m args below meth c hC hx hr htab
  refine z_aload_n hC dL_setFaults_0 rfl ?_
  refine z_iconst (v := 0) hC dL_setFaults_1 (by decide) ?_
  refine z_aload_n hC dL_setFaults_2 rfl ?_
  refine z_iload_n hC dL_setFaults_3 rfl ?_
  refine z_iload_n hC dL_setFaults_4 rfl ?_
  refine z_callVX (List.range wc.length) 0 4 (pre := []) (suf := [(0, 10, 17, 15)]) (s0 := 0) (s1 := 10) (hpc := 13) (kt := 13) hC hM hx had htab (by decide) (by decide) bw_77 (by simp [EL]) (fun q hq => absurd hq List.not_mem_nil) bw_212 bw_213 bw_214 bw_2 bw_215 2 (by decide +kernel) rfl (rng_nd _) rng_ps rfl he ⟨show fr + 1 ≤ 10 by omega, show 8 + (4 + 11) + lo ≤ 340 by omega⟩ (Nat.le_of_ble_eq_true rfl) ⟨Nat.le_of_eq (Nat.zero_add _), Nat.le_of_eq (Nat.zero_add _)⟩ rfl dL_setFaults_5 ?_
  intro q
  rw [wput_pre (fst_len had)]
  refine z_astore hC dL_setFaults_13 (by decide) rfl ?_
  refine z_iconst (v := 1) hC dL_setFaults_15 (by decide) ?_
  exact z_iret hC hr dL_setFaults_16 (Nat.le_of_eq (Nat.zero_add _)) (Nat.le_of_eq (Nat.zero_add _)) (wa := wc2 ++ [zo ct ao g]) (wb := []) ⟨1, wc2, g, rfl, rfl, rfl, rfl, rfl, rfl⟩ (List.append_nil _).symm (zo_adr had)

set_option maxRecDepth 100000 in
set_option maxHeartbeats 1000000 in
theorem hx_setFaults_2 (l : Launch) (D : va_G) (ct : Nat → ClassId) (ao b : Nat) (g : Nat → Int64) (a1 : Int32) (a2 : Int32) (wc wc2 : va_W) (fs : List Value) {fr lo mc ms : Nat} (hfr : fr ≤ 9) (hlo : lo ≤ 300) (hM : zX l D ct yX4_setFaults cX4_setFaults 4 (some .int) fr lo mc ms [.ref b, .int a1, .int a2] wc wc2 xIAE) (had : wc2.map Prod.fst = wc.map Prod.fst) (he : wc[0]? = some (b, .inr (4, fs))) : zL l D ct yL_setFaults cL_setFaults 5 (some .int) [(0, 10, 13, 13), (0, 10, 17, 15)] 10 340 mc ms [.ref b, .int a1, .int a2, .ref ao] (wc ++ [zo ct ao g]) (zLP ct ao (fun k wc' wb g' => k = 2 ∧ wc' = wc2 ∧ wb = [] ∧ g' = g)) := by
  refine zL_of ([some (.ref b), some (.int a1), some (.int a2), some (.ref ao), none]) (by decide +kernel) rfl (Nat.le_of_ble_eq_true rfl) ?_
  intro p e s m args below meth c hC hx hr htab
  refine z_aload_n hC dL_setFaults_0 rfl ?_
  refine z_iconst (v := 0) hC dL_setFaults_1 (by decide) ?_
  refine z_aload_n hC dL_setFaults_2 rfl ?_
  refine z_iload_n hC dL_setFaults_3 rfl ?_
  refine z_iload_n hC dL_setFaults_4 rfl ?_
  have hpre : ∀ q ∈ ([(0, 10, 13, 13)] : List (Nat × Nat × Nat × Nat)), q.2.2.2 ≠ 0 ∧ ∃ nm : String, Cond.classLink RL q.2.2.2 nm ∈ BW ∧ (xIAE, nm) ∈ NL := by
    intro q hq
    rcases List.mem_cons.mp hq with rfl | hq
    · exact ⟨by decide, xIOB, bw_77, by simp [NL]⟩
    exact absurd hq List.not_mem_nil
  refine z_callVX (List.range wc.length) 0 4 (pre := [(0, 10, 13, 13)]) (suf := []) (s0 := 0) (s1 := 10) (hpc := 17) (kt := 15) hC hM hx had htab (by decide) (by decide) bw_78 (by simp [EL]) hpre bw_212 bw_213 bw_214 bw_2 bw_215 2 (by decide +kernel) rfl (rng_nd _) rng_ps rfl he ⟨show fr + 1 ≤ 10 by omega, show 8 + (4 + 11) + lo ≤ 340 by omega⟩ (Nat.le_of_ble_eq_true rfl) ⟨Nat.le_of_eq (Nat.zero_add _), Nat.le_of_eq (Nat.zero_add _)⟩ rfl dL_setFaults_5 ?_
  intro q
  rw [wput_pre (fst_len had)]
  refine z_astore hC dL_setFaults_17 (by decide) rfl ?_
  refine z_iconst (v := 2) hC dL_setFaults_19 (by decide) ?_
  exact z_iret hC hr dL_setFaults_20 (Nat.le_of_eq (Nat.zero_add _)) (Nat.le_of_eq (Nat.zero_add _)) (wa := wc2 ++ [zo ct ao g]) (wb := []) ⟨2, wc2, g, rfl, rfl, rfl, rfl, rfl, rfl⟩ (List.append_nil _).symm (zo_adr had)

set_option maxRecDepth 100000 in
set_option maxHeartbeats 1000000 in
theorem hk_setPatience (l : Launch) (D : va_G) (ct : Nat → ClassId) (ao b : Nat) (g : Nat → Int64) (a1 : Int32) (wc : va_W) (fs : List Value) (po : Option Value → va_W → va_W → Prop) {fr lo mc ms : Nat} (hfr : fr ≤ 9) (hlo : lo ≤ 300) (hM : zT l D ct yX4_setPatience cX4_setPatience 3 (some .int) fr lo mc ms [.ref b, .int a1] wc po) (he : wc[0]? = some (b, .inr (4, fs))) (hpo : ∀ v wa wb, po v wa wb → ∃ x : Int32, v = some (.int x)) : zL l D ct yL_setPatience cL_setPatience 4 (some .int) [(0, 9, 12, 15)] 10 340 mc ms [.ref b, .int a1, .ref ao] (wc ++ [zo ct ao g]) (zLP ct ao (fun k wc' wb g' => k = 0 ∧ ∃ x : Int32, po (some (.int x)) wc' wb ∧ g' = vp_updL g 0 x.toInt64)) := by
  refine zL_of ([some (.ref b), some (.int a1), some (.ref ao), none]) (by decide +kernel) rfl (Nat.le_of_ble_eq_true rfl) ?_
  intro p e s m args below meth c hC hx hr htab
  refine z_aload_n hC dL_setPatience_0 rfl ?_
  refine z_iconst (v := 0) hC dL_setPatience_1 (by decide) ?_
  refine z_aload_n hC dL_setPatience_2 rfl ?_
  refine z_iload_n hC dL_setPatience_3 rfl ?_
  refine z_callV (List.range wc.length) 0 4 hC hM bw_227 bw_228 bw_229 bw_2 bw_230 1 (by decide +kernel) rfl (rng_nd _) rng_ps rfl he ⟨show fr + 1 ≤ 10 by omega, show 8 + (3 + 11) + lo ≤ 340 by omega⟩ (Nat.le_of_ble_eq_true rfl) ⟨Nat.le_of_eq (Nat.zero_add _), Nat.le_of_eq (Nat.zero_add _)⟩ rfl dL_setPatience_4 ?_
  intro v wa wb hp1 had
  obtain ⟨x, rfl⟩ := hpo _ _ _ hp1
  rw [wput_pre (fst_len had)]
  refine z_i2l hC dL_setPatience_7 ?_
  refine z_lastore wa.length (w' := (wa ++ [zo ct ao (vp_updL g 0 x.toInt64)]) ++ wb) hC zo_at dL_setPatience_8 zo_set ?_
  refine z_goto hC 15 dL_setPatience_9 (by decide) ?_
  refine z_iconst (v := 0) hC dL_setPatience_15 (by decide) ?_
  exact z_iret hC hr dL_setPatience_16 (Nat.le_of_eq (Nat.zero_add _)) (Nat.le_of_eq (Nat.zero_add _)) (wa := wa ++ [zo ct ao (vp_updL g 0 x.toInt64)]) (wb := wb) ⟨0, wa, _, rfl, rfl, rfl, x, hp1, rfl⟩ rfl (zo_adr had)

set_option maxRecDepth 100000 in
set_option maxHeartbeats 1000000 in
theorem hx_setPatience_1 (l : Launch) (D : va_G) (ct : Nat → ClassId) (ao b : Nat) (g : Nat → Int64) (a1 : Int32) (wc wc2 : va_W) (fs : List Value) {fr lo mc ms : Nat} (hfr : fr ≤ 9) (hlo : lo ≤ 300) (hM : zX l D ct yX4_setPatience cX4_setPatience 3 (some .int) fr lo mc ms [.ref b, .int a1] wc wc2 xIAE) (had : wc2.map Prod.fst = wc.map Prod.fst) (he : wc[0]? = some (b, .inr (4, fs))) : zL l D ct yL_setPatience cL_setPatience 4 (some .int) [(0, 9, 12, 15)] 10 340 mc ms [.ref b, .int a1, .ref ao] (wc ++ [zo ct ao g]) (zLP ct ao (fun k wc' wb g' => k = 1 ∧ wc' = wc2 ∧ wb = [] ∧ g' = g)) := by
  refine zL_of ([some (.ref b), some (.int a1), some (.ref ao), none]) (by decide +kernel) rfl (Nat.le_of_ble_eq_true rfl) ?_
  intro p e s m args below meth c hC hx hr htab
  refine z_aload_n hC dL_setPatience_0 rfl ?_
  refine z_iconst (v := 0) hC dL_setPatience_1 (by decide) ?_
  refine z_aload_n hC dL_setPatience_2 rfl ?_
  refine z_iload_n hC dL_setPatience_3 rfl ?_
  refine z_callVX (List.range wc.length) 0 4 (pre := []) (suf := []) (s0 := 0) (s1 := 9) (hpc := 12) (kt := 15) hC hM hx had htab (by decide) (by decide) bw_78 (by simp [EL]) (fun q hq => absurd hq List.not_mem_nil) bw_227 bw_228 bw_229 bw_2 bw_230 1 (by decide +kernel) rfl (rng_nd _) rng_ps rfl he ⟨show fr + 1 ≤ 10 by omega, show 8 + (3 + 11) + lo ≤ 340 by omega⟩ (Nat.le_of_ble_eq_true rfl) ⟨Nat.le_of_eq (Nat.zero_add _), Nat.le_of_eq (Nat.zero_add _)⟩ rfl dL_setPatience_4 ?_
  intro q
  rw [wput_pre (fst_len had)]
  refine z_astore_n hC dL_setPatience_12 (by decide) rfl ?_
  refine z_iconst (v := 1) hC dL_setPatience_13 (by decide) ?_
  exact z_iret hC hr dL_setPatience_14 (Nat.le_of_eq (Nat.zero_add _)) (Nat.le_of_eq (Nat.zero_add _)) (wa := wc2 ++ [zo ct ao g]) (wb := []) ⟨1, wc2, g, rfl, rfl, rfl, rfl, rfl, rfl⟩ (List.append_nil _).symm (zo_adr had)

set_option maxRecDepth 100000 in
set_option maxHeartbeats 1000000 in
theorem hk_take (l : Launch) (D : va_G) (ct : Nat → ClassId) (ao b : Nat) (g : Nat → Int64) (a1 : Int32) (a2 : Int32) (wc : va_W) (fs : List Value) (po : Option Value → va_W → va_W → Prop) {fr lo mc ms : Nat} (hfr : fr ≤ 9) (hlo : lo ≤ 300) (hM : zT l D ct yX4_take cX4_take 3 (some .int) fr lo mc ms [.ref b, .int a1, .int a2] wc po) (he : wc[0]? = some (b, .inr (4, fs))) (hpo : ∀ v wa wb, po v wa wb → ∃ x : Int32, v = some (.int x)) : zL l D ct yL_take cL_take 5 (some .int) [(0, 10, 13, 13), (0, 10, 17, 15), (0, 10, 21, 35)] 10 340 mc ms [.ref b, .int a1, .int a2, .ref ao] (wc ++ [zo ct ao g]) (zLP ct ao (fun k wc' wb g' => k = 0 ∧ ∃ x : Int32, po (some (.int x)) wc' wb ∧ g' = vp_updL g 0 x.toInt64)) := by
  refine zL_of ([some (.ref b), some (.int a1), some (.int a2), some (.ref ao), none]) (by decide +kernel) rfl (Nat.le_of_ble_eq_true rfl) ?_
  intro p e s m args below meth c hC hx hr htab
  refine z_aload_n hC dL_take_0 rfl ?_
  refine z_iconst (v := 0) hC dL_take_1 (by decide) ?_
  refine z_aload_n hC dL_take_2 rfl ?_
  refine z_iload_n hC dL_take_3 rfl ?_
  refine z_iload_n hC dL_take_4 rfl ?_
  refine z_callV (List.range wc.length) 0 4 hC hM bw_239 bw_240 bw_241 bw_2 bw_242 2 (by decide +kernel) rfl (rng_nd _) rng_ps rfl he ⟨show fr + 1 ≤ 10 by omega, show 8 + (3 + 11) + lo ≤ 340 by omega⟩ (Nat.le_of_ble_eq_true rfl) ⟨Nat.le_of_eq (Nat.zero_add _), Nat.le_of_eq (Nat.zero_add _)⟩ rfl dL_take_5 ?_
  intro v wa wb hp1 had
  obtain ⟨x, rfl⟩ := hpo _ _ _ hp1
  rw [wput_pre (fst_len had)]
  refine z_i2l hC dL_take_8 ?_
  refine z_lastore wa.length (w' := (wa ++ [zo ct ao (vp_updL g 0 x.toInt64)]) ++ wb) hC zo_at dL_take_9 zo_set ?_
  refine z_goto hC 25 dL_take_10 (by decide) ?_
  refine z_iconst (v := 0) hC dL_take_25 (by decide) ?_
  exact z_iret hC hr dL_take_26 (Nat.le_of_eq (Nat.zero_add _)) (Nat.le_of_eq (Nat.zero_add _)) (wa := wa ++ [zo ct ao (vp_updL g 0 x.toInt64)]) (wb := wb) ⟨0, wa, _, rfl, rfl, rfl, x, hp1, rfl⟩ rfl (zo_adr had)

set_option maxRecDepth 100000 in
set_option maxHeartbeats 1000000 in
theorem hx_take_1 (l : Launch) (D : va_G) (ct : Nat → ClassId) (ao b : Nat) (g : Nat → Int64) (a1 : Int32) (a2 : Int32) (wc wc2 : va_W) (fs : List Value) {fr lo mc ms : Nat} (hfr : fr ≤ 9) (hlo : lo ≤ 300) (hM : zX l D ct yX4_take cX4_take 3 (some .int) fr lo mc ms [.ref b, .int a1, .int a2] wc wc2 xIOB) (had : wc2.map Prod.fst = wc.map Prod.fst) (he : wc[0]? = some (b, .inr (4, fs))) : zL l D ct yL_take cL_take 5 (some .int) [(0, 10, 13, 13), (0, 10, 17, 15), (0, 10, 21, 35)] 10 340 mc ms [.ref b, .int a1, .int a2, .ref ao] (wc ++ [zo ct ao g]) (zLP ct ao (fun k wc' wb g' => k = 1 ∧ wc' = wc2 ∧ wb = [] ∧ g' = g)) := by
  refine zL_of ([some (.ref b), some (.int a1), some (.int a2), some (.ref ao), none]) (by decide +kernel) rfl (Nat.le_of_ble_eq_true rfl) ?_
  intro p e s m args below meth c hC hx hr htab
  refine z_aload_n hC dL_take_0 rfl ?_
  refine z_iconst (v := 0) hC dL_take_1 (by decide) ?_
  refine z_aload_n hC dL_take_2 rfl ?_
  refine z_iload_n hC dL_take_3 rfl ?_
  refine z_iload_n hC dL_take_4 rfl ?_
  refine z_callVX (List.range wc.length) 0 4 (pre := []) (suf := [(0, 10, 17, 15), (0, 10, 21, 35)]) (s0 := 0) (s1 := 10) (hpc := 13) (kt := 13) hC hM hx had htab (by decide) (by decide) bw_77 (by simp [EL]) (fun q hq => absurd hq List.not_mem_nil) bw_239 bw_240 bw_241 bw_2 bw_242 2 (by decide +kernel) rfl (rng_nd _) rng_ps rfl he ⟨show fr + 1 ≤ 10 by omega, show 8 + (3 + 11) + lo ≤ 340 by omega⟩ (Nat.le_of_ble_eq_true rfl) ⟨Nat.le_of_eq (Nat.zero_add _), Nat.le_of_eq (Nat.zero_add _)⟩ rfl dL_take_5 ?_
  intro q
  rw [wput_pre (fst_len had)]
  refine z_astore hC dL_take_13 (by decide) rfl ?_
  refine z_iconst (v := 1) hC dL_take_15 (by decide) ?_
  exact z_iret hC hr dL_take_16 (Nat.le_of_eq (Nat.zero_add _)) (Nat.le_of_eq (Nat.zero_add _)) (wa := wc2 ++ [zo ct ao g]) (wb := []) ⟨1, wc2, g, rfl, rfl, rfl, rfl, rfl, rfl⟩ (List.append_nil _).symm (zo_adr had)

set_option maxRecDepth 100000 in
set_option maxHeartbeats 1000000 in
theorem hx_take_2 (l : Launch) (D : va_G) (ct : Nat → ClassId) (ao b : Nat) (g : Nat → Int64) (a1 : Int32) (a2 : Int32) (wc wc2 : va_W) (fs : List Value) {fr lo mc ms : Nat} (hfr : fr ≤ 9) (hlo : lo ≤ 300) (hM : zX l D ct yX4_take cX4_take 3 (some .int) fr lo mc ms [.ref b, .int a1, .int a2] wc wc2 xIAE) (had : wc2.map Prod.fst = wc.map Prod.fst) (he : wc[0]? = some (b, .inr (4, fs))) : zL l D ct yL_take cL_take 5 (some .int) [(0, 10, 13, 13), (0, 10, 17, 15), (0, 10, 21, 35)] 10 340 mc ms [.ref b, .int a1, .int a2, .ref ao] (wc ++ [zo ct ao g]) (zLP ct ao (fun k wc' wb g' => k = 2 ∧ wc' = wc2 ∧ wb = [] ∧ g' = g)) := by
  refine zL_of ([some (.ref b), some (.int a1), some (.int a2), some (.ref ao), none]) (by decide +kernel) rfl (Nat.le_of_ble_eq_true rfl) ?_
  intro p e s m args below meth c hC hx hr htab
  refine z_aload_n hC dL_take_0 rfl ?_
  refine z_iconst (v := 0) hC dL_take_1 (by decide) ?_
  refine z_aload_n hC dL_take_2 rfl ?_
  refine z_iload_n hC dL_take_3 rfl ?_
  refine z_iload_n hC dL_take_4 rfl ?_
  have hpre : ∀ q ∈ ([(0, 10, 13, 13)] : List (Nat × Nat × Nat × Nat)), q.2.2.2 ≠ 0 ∧ ∃ nm : String, Cond.classLink RL q.2.2.2 nm ∈ BW ∧ (xIAE, nm) ∈ NL := by
    intro q hq
    rcases List.mem_cons.mp hq with rfl | hq
    · exact ⟨by decide, xIOB, bw_77, by simp [NL]⟩
    exact absurd hq List.not_mem_nil
  refine z_callVX (List.range wc.length) 0 4 (pre := [(0, 10, 13, 13)]) (suf := [(0, 10, 21, 35)]) (s0 := 0) (s1 := 10) (hpc := 17) (kt := 15) hC hM hx had htab (by decide) (by decide) bw_78 (by simp [EL]) hpre bw_239 bw_240 bw_241 bw_2 bw_242 2 (by decide +kernel) rfl (rng_nd _) rng_ps rfl he ⟨show fr + 1 ≤ 10 by omega, show 8 + (3 + 11) + lo ≤ 340 by omega⟩ (Nat.le_of_ble_eq_true rfl) ⟨Nat.le_of_eq (Nat.zero_add _), Nat.le_of_eq (Nat.zero_add _)⟩ rfl dL_take_5 ?_
  intro q
  rw [wput_pre (fst_len had)]
  refine z_astore hC dL_take_17 (by decide) rfl ?_
  refine z_iconst (v := 2) hC dL_take_19 (by decide) ?_
  exact z_iret hC hr dL_take_20 (Nat.le_of_eq (Nat.zero_add _)) (Nat.le_of_eq (Nat.zero_add _)) (wa := wc2 ++ [zo ct ao g]) (wb := []) ⟨2, wc2, g, rfl, rfl, rfl, rfl, rfl, rfl⟩ (List.append_nil _).symm (zo_adr had)

set_option maxRecDepth 100000 in
set_option maxHeartbeats 1000000 in
theorem hx_take_3 (l : Launch) (D : va_G) (ct : Nat → ClassId) (ao b : Nat) (g : Nat → Int64) (a1 : Int32) (a2 : Int32) (wc wc2 : va_W) (fs : List Value) {fr lo mc ms : Nat} (hfr : fr ≤ 9) (hlo : lo ≤ 300) (hM : zX l D ct yX4_take cX4_take 3 (some .int) fr lo mc ms [.ref b, .int a1, .int a2] wc wc2 xISE) (had : wc2.map Prod.fst = wc.map Prod.fst) (he : wc[0]? = some (b, .inr (4, fs))) : zL l D ct yL_take cL_take 5 (some .int) [(0, 10, 13, 13), (0, 10, 17, 15), (0, 10, 21, 35)] 10 340 mc ms [.ref b, .int a1, .int a2, .ref ao] (wc ++ [zo ct ao g]) (zLP ct ao (fun k wc' wb g' => k = 3 ∧ wc' = wc2 ∧ wb = [] ∧ g' = g)) := by
  refine zL_of ([some (.ref b), some (.int a1), some (.int a2), some (.ref ao), none]) (by decide +kernel) rfl (Nat.le_of_ble_eq_true rfl) ?_
  intro p e s m args below meth c hC hx hr htab
  refine z_aload_n hC dL_take_0 rfl ?_
  refine z_iconst (v := 0) hC dL_take_1 (by decide) ?_
  refine z_aload_n hC dL_take_2 rfl ?_
  refine z_iload_n hC dL_take_3 rfl ?_
  refine z_iload_n hC dL_take_4 rfl ?_
  have hpre : ∀ q ∈ ([(0, 10, 13, 13), (0, 10, 17, 15)] : List (Nat × Nat × Nat × Nat)), q.2.2.2 ≠ 0 ∧ ∃ nm : String, Cond.classLink RL q.2.2.2 nm ∈ BW ∧ (xISE, nm) ∈ NL := by
    intro q hq
    rcases List.mem_cons.mp hq with rfl | hq
    · exact ⟨by decide, xIOB, bw_77, by simp [NL]⟩
    rcases List.mem_cons.mp hq with rfl | hq
    · exact ⟨by decide, xIAE, bw_78, by simp [NL]⟩
    exact absurd hq List.not_mem_nil
  refine z_callVX (List.range wc.length) 0 4 (pre := [(0, 10, 13, 13), (0, 10, 17, 15)]) (suf := []) (s0 := 0) (s1 := 10) (hpc := 21) (kt := 35) hC hM hx had htab (by decide) (by decide) bw_238 (by simp [EL]) hpre bw_239 bw_240 bw_241 bw_2 bw_242 2 (by decide +kernel) rfl (rng_nd _) rng_ps rfl he ⟨show fr + 1 ≤ 10 by omega, show 8 + (3 + 11) + lo ≤ 340 by omega⟩ (Nat.le_of_ble_eq_true rfl) ⟨Nat.le_of_eq (Nat.zero_add _), Nat.le_of_eq (Nat.zero_add _)⟩ rfl dL_take_5 ?_
  intro q
  rw [wput_pre (fst_len had)]
  refine z_astore hC dL_take_21 (by decide) rfl ?_
  refine z_iconst (v := 3) hC dL_take_23 (by decide) ?_
  exact z_iret hC hr dL_take_24 (Nat.le_of_eq (Nat.zero_add _)) (Nat.le_of_eq (Nat.zero_add _)) (wa := wc2 ++ [zo ct ao g]) (wb := []) ⟨3, wc2, g, rfl, rfl, rfl, rfl, rfl, rfl⟩ (List.append_nil _).symm (zo_adr had)

set_option maxRecDepth 100000 in
set_option maxHeartbeats 1000000 in
theorem hk_run (l : Launch) (D : va_G) (ct : Nat → ClassId) (ao b : Nat) (g : Nat → Int64) (a1 : Int32) (wc : va_W) (fs : List Value) (po : Option Value → va_W → va_W → Prop) {fr lo mc ms : Nat} (hfr : fr ≤ 9) (hlo : lo ≤ 300) (hM : zT l D ct yX4_run cX4_run 2 (some .int) fr lo mc ms [.ref b, .int a1] wc po) (he : wc[0]? = some (b, .inr (4, fs))) (hpo : ∀ v wa wb, po v wa wb → ∃ x : Int32, v = some (.int x)) : zL l D ct yL_run cL_run 4 (some .int) [(0, 9, 12, 15)] 10 340 mc ms [.ref b, .int a1, .ref ao] (wc ++ [zo ct ao g]) (zLP ct ao (fun k wc' wb g' => k = 0 ∧ ∃ x : Int32, po (some (.int x)) wc' wb ∧ g' = vp_updL g 0 x.toInt64)) := by
  refine zL_of ([some (.ref b), some (.int a1), some (.ref ao), none]) (by decide +kernel) rfl (Nat.le_of_ble_eq_true rfl) ?_
  intro p e s m args below meth c hC hx hr htab
  refine z_aload_n hC dL_run_0 rfl ?_
  refine z_iconst (v := 0) hC dL_run_1 (by decide) ?_
  refine z_aload_n hC dL_run_2 rfl ?_
  refine z_iload_n hC dL_run_3 rfl ?_
  refine z_callV (List.range wc.length) 0 4 hC hM bw_288 bw_289 bw_290 bw_2 bw_291 1 (by decide +kernel) rfl (rng_nd _) rng_ps rfl he ⟨show fr + 1 ≤ 10 by omega, show 8 + (2 + 11) + lo ≤ 340 by omega⟩ (Nat.le_of_ble_eq_true rfl) ⟨Nat.le_of_eq (Nat.zero_add _), Nat.le_of_eq (Nat.zero_add _)⟩ rfl dL_run_4 ?_
  intro v wa wb hp1 had
  obtain ⟨x, rfl⟩ := hpo _ _ _ hp1
  rw [wput_pre (fst_len had)]
  refine z_i2l hC dL_run_7 ?_
  refine z_lastore wa.length (w' := (wa ++ [zo ct ao (vp_updL g 0 x.toInt64)]) ++ wb) hC zo_at dL_run_8 zo_set ?_
  refine z_goto hC 15 dL_run_9 (by decide) ?_
  refine z_iconst (v := 0) hC dL_run_15 (by decide) ?_
  exact z_iret hC hr dL_run_16 (Nat.le_of_eq (Nat.zero_add _)) (Nat.le_of_eq (Nat.zero_add _)) (wa := wa ++ [zo ct ao (vp_updL g 0 x.toInt64)]) (wb := wb) ⟨0, wa, _, rfl, rfl, rfl, x, hp1, rfl⟩ rfl (zo_adr had)

set_option maxRecDepth 100000 in
set_option maxHeartbeats 1000000 in
theorem hx_run_1 (l : Launch) (D : va_G) (ct : Nat → ClassId) (ao b : Nat) (g : Nat → Int64) (a1 : Int32) (wc wc2 : va_W) (fs : List Value) {fr lo mc ms : Nat} (hfr : fr ≤ 9) (hlo : lo ≤ 300) (hM : zX l D ct yX4_run cX4_run 2 (some .int) fr lo mc ms [.ref b, .int a1] wc wc2 xIAE) (had : wc2.map Prod.fst = wc.map Prod.fst) (he : wc[0]? = some (b, .inr (4, fs))) : zL l D ct yL_run cL_run 4 (some .int) [(0, 9, 12, 15)] 10 340 mc ms [.ref b, .int a1, .ref ao] (wc ++ [zo ct ao g]) (zLP ct ao (fun k wc' wb g' => k = 1 ∧ wc' = wc2 ∧ wb = [] ∧ g' = g)) := by
  refine zL_of ([some (.ref b), some (.int a1), some (.ref ao), none]) (by decide +kernel) rfl (Nat.le_of_ble_eq_true rfl) ?_
  intro p e s m args below meth c hC hx hr htab
  refine z_aload_n hC dL_run_0 rfl ?_
  refine z_iconst (v := 0) hC dL_run_1 (by decide) ?_
  refine z_aload_n hC dL_run_2 rfl ?_
  refine z_iload_n hC dL_run_3 rfl ?_
  refine z_callVX (List.range wc.length) 0 4 (pre := []) (suf := []) (s0 := 0) (s1 := 9) (hpc := 12) (kt := 15) hC hM hx had htab (by decide) (by decide) bw_78 (by simp [EL]) (fun q hq => absurd hq List.not_mem_nil) bw_288 bw_289 bw_290 bw_2 bw_291 1 (by decide +kernel) rfl (rng_nd _) rng_ps rfl he ⟨show fr + 1 ≤ 10 by omega, show 8 + (2 + 11) + lo ≤ 340 by omega⟩ (Nat.le_of_ble_eq_true rfl) ⟨Nat.le_of_eq (Nat.zero_add _), Nat.le_of_eq (Nat.zero_add _)⟩ rfl dL_run_4 ?_
  intro q
  rw [wput_pre (fst_len had)]
  refine z_astore_n hC dL_run_12 (by decide) rfl ?_
  refine z_iconst (v := 1) hC dL_run_13 (by decide) ?_
  exact z_iret hC hr dL_run_14 (Nat.le_of_eq (Nat.zero_add _)) (Nat.le_of_eq (Nat.zero_add _)) (wa := wc2 ++ [zo ct ao g]) (wb := []) ⟨1, wc2, g, rfl, rfl, rfl, rfl, rfl, rfl⟩ (List.append_nil _).symm (zo_adr had)

set_option maxRecDepth 100000 in
set_option maxHeartbeats 1000000 in
theorem hk_appendText (l : Launch) (D : va_G) (ct : Nat → ClassId) (ao b : Nat) (g : Nat → Int64) (a1 : Int32) (wc : va_W) (fs : List Value) (po : Option Value → va_W → va_W → Prop) {fr lo mc ms : Nat} (hfr : fr ≤ 9) (hlo : lo ≤ 300) (hM : zT l D ct yX4_appendText cX4_appendText 2 (some .int) fr lo mc ms [.ref b, .int a1] wc po) (he : wc[0]? = some (b, .inr (4, fs))) (hpo : ∀ v wa wb, po v wa wb → ∃ x : Int32, v = some (.int x)) : zL l D ct yL_appendText cL_appendText 4 (some .int) [(0, 9, 12, 15), (0, 9, 15, 35)] 10 340 mc ms [.ref b, .int a1, .ref ao] (wc ++ [zo ct ao g]) (zLP ct ao (fun k wc' wb g' => k = 0 ∧ ∃ x : Int32, po (some (.int x)) wc' wb ∧ g' = vp_updL g 0 x.toInt64)) := by
  refine zL_of ([some (.ref b), some (.int a1), some (.ref ao), none]) (by decide +kernel) rfl (Nat.le_of_ble_eq_true rfl) ?_
  intro p e s m args below meth c hC hx hr htab
  refine z_aload_n hC dL_appendText_0 rfl ?_
  refine z_iconst (v := 0) hC dL_appendText_1 (by decide) ?_
  refine z_aload_n hC dL_appendText_2 rfl ?_
  refine z_iload_n hC dL_appendText_3 rfl ?_
  refine z_callV (List.range wc.length) 0 4 hC hM bw_417 bw_418 bw_419 bw_2 bw_420 1 (by decide +kernel) rfl (rng_nd _) rng_ps rfl he ⟨show fr + 1 ≤ 10 by omega, show 8 + (2 + 11) + lo ≤ 340 by omega⟩ (Nat.le_of_ble_eq_true rfl) ⟨Nat.le_of_eq (Nat.zero_add _), Nat.le_of_eq (Nat.zero_add _)⟩ rfl dL_appendText_4 ?_
  intro v wa wb hp1 had
  obtain ⟨x, rfl⟩ := hpo _ _ _ hp1
  rw [wput_pre (fst_len had)]
  refine z_i2l hC dL_appendText_7 ?_
  refine z_lastore wa.length (w' := (wa ++ [zo ct ao (vp_updL g 0 x.toInt64)]) ++ wb) hC zo_at dL_appendText_8 zo_set ?_
  refine z_goto hC 18 dL_appendText_9 (by decide) ?_
  refine z_iconst (v := 0) hC dL_appendText_18 (by decide) ?_
  exact z_iret hC hr dL_appendText_19 (Nat.le_of_eq (Nat.zero_add _)) (Nat.le_of_eq (Nat.zero_add _)) (wa := wa ++ [zo ct ao (vp_updL g 0 x.toInt64)]) (wb := wb) ⟨0, wa, _, rfl, rfl, rfl, x, hp1, rfl⟩ rfl (zo_adr had)

set_option maxRecDepth 100000 in
set_option maxHeartbeats 1000000 in
theorem hx_appendText_1 (l : Launch) (D : va_G) (ct : Nat → ClassId) (ao b : Nat) (g : Nat → Int64) (a1 : Int32) (wc wc2 : va_W) (fs : List Value) {fr lo mc ms : Nat} (hfr : fr ≤ 9) (hlo : lo ≤ 300) (hM : zX l D ct yX4_appendText cX4_appendText 2 (some .int) fr lo mc ms [.ref b, .int a1] wc wc2 xIAE) (had : wc2.map Prod.fst = wc.map Prod.fst) (he : wc[0]? = some (b, .inr (4, fs))) : zL l D ct yL_appendText cL_appendText 4 (some .int) [(0, 9, 12, 15), (0, 9, 15, 35)] 10 340 mc ms [.ref b, .int a1, .ref ao] (wc ++ [zo ct ao g]) (zLP ct ao (fun k wc' wb g' => k = 1 ∧ wc' = wc2 ∧ wb = [] ∧ g' = g)) := by
  refine zL_of ([some (.ref b), some (.int a1), some (.ref ao), none]) (by decide +kernel) rfl (Nat.le_of_ble_eq_true rfl) ?_
  intro p e s m args below meth c hC hx hr htab
  refine z_aload_n hC dL_appendText_0 rfl ?_
  refine z_iconst (v := 0) hC dL_appendText_1 (by decide) ?_
  refine z_aload_n hC dL_appendText_2 rfl ?_
  refine z_iload_n hC dL_appendText_3 rfl ?_
  refine z_callVX (List.range wc.length) 0 4 (pre := []) (suf := [(0, 9, 15, 35)]) (s0 := 0) (s1 := 9) (hpc := 12) (kt := 15) hC hM hx had htab (by decide) (by decide) bw_78 (by simp [EL]) (fun q hq => absurd hq List.not_mem_nil) bw_417 bw_418 bw_419 bw_2 bw_420 1 (by decide +kernel) rfl (rng_nd _) rng_ps rfl he ⟨show fr + 1 ≤ 10 by omega, show 8 + (2 + 11) + lo ≤ 340 by omega⟩ (Nat.le_of_ble_eq_true rfl) ⟨Nat.le_of_eq (Nat.zero_add _), Nat.le_of_eq (Nat.zero_add _)⟩ rfl dL_appendText_4 ?_
  intro q
  rw [wput_pre (fst_len had)]
  refine z_astore_n hC dL_appendText_12 (by decide) rfl ?_
  refine z_iconst (v := 1) hC dL_appendText_13 (by decide) ?_
  exact z_iret hC hr dL_appendText_14 (Nat.le_of_eq (Nat.zero_add _)) (Nat.le_of_eq (Nat.zero_add _)) (wa := wc2 ++ [zo ct ao g]) (wb := []) ⟨1, wc2, g, rfl, rfl, rfl, rfl, rfl, rfl⟩ (List.append_nil _).symm (zo_adr had)

set_option maxRecDepth 100000 in
set_option maxHeartbeats 1000000 in
theorem hx_appendText_2 (l : Launch) (D : va_G) (ct : Nat → ClassId) (ao b : Nat) (g : Nat → Int64) (a1 : Int32) (wc wc2 : va_W) (fs : List Value) {fr lo mc ms : Nat} (hfr : fr ≤ 9) (hlo : lo ≤ 300) (hM : zX l D ct yX4_appendText cX4_appendText 2 (some .int) fr lo mc ms [.ref b, .int a1] wc wc2 xISE) (had : wc2.map Prod.fst = wc.map Prod.fst) (he : wc[0]? = some (b, .inr (4, fs))) : zL l D ct yL_appendText cL_appendText 4 (some .int) [(0, 9, 12, 15), (0, 9, 15, 35)] 10 340 mc ms [.ref b, .int a1, .ref ao] (wc ++ [zo ct ao g]) (zLP ct ao (fun k wc' wb g' => k = 2 ∧ wc' = wc2 ∧ wb = [] ∧ g' = g)) := by
  refine zL_of ([some (.ref b), some (.int a1), some (.ref ao), none]) (by decide +kernel) rfl (Nat.le_of_ble_eq_true rfl) ?_
  intro p e s m args below meth c hC hx hr htab
  refine z_aload_n hC dL_appendText_0 rfl ?_
  refine z_iconst (v := 0) hC dL_appendText_1 (by decide) ?_
  refine z_aload_n hC dL_appendText_2 rfl ?_
  refine z_iload_n hC dL_appendText_3 rfl ?_
  have hpre : ∀ q ∈ ([(0, 9, 12, 15)] : List (Nat × Nat × Nat × Nat)), q.2.2.2 ≠ 0 ∧ ∃ nm : String, Cond.classLink RL q.2.2.2 nm ∈ BW ∧ (xISE, nm) ∈ NL := by
    intro q hq
    rcases List.mem_cons.mp hq with rfl | hq
    · exact ⟨by decide, xIAE, bw_78, by simp [NL]⟩
    exact absurd hq List.not_mem_nil
  refine z_callVX (List.range wc.length) 0 4 (pre := [(0, 9, 12, 15)]) (suf := []) (s0 := 0) (s1 := 9) (hpc := 15) (kt := 35) hC hM hx had htab (by decide) (by decide) bw_238 (by simp [EL]) hpre bw_417 bw_418 bw_419 bw_2 bw_420 1 (by decide +kernel) rfl (rng_nd _) rng_ps rfl he ⟨show fr + 1 ≤ 10 by omega, show 8 + (2 + 11) + lo ≤ 340 by omega⟩ (Nat.le_of_ble_eq_true rfl) ⟨Nat.le_of_eq (Nat.zero_add _), Nat.le_of_eq (Nat.zero_add _)⟩ rfl dL_appendText_4 ?_
  intro q
  rw [wput_pre (fst_len had)]
  refine z_astore_n hC dL_appendText_15 (by decide) rfl ?_
  refine z_iconst (v := 2) hC dL_appendText_16 (by decide) ?_
  exact z_iret hC hr dL_appendText_17 (Nat.le_of_eq (Nat.zero_add _)) (Nat.le_of_eq (Nat.zero_add _)) (wa := wc2 ++ [zo ct ao g]) (wb := []) ⟨2, wc2, g, rfl, rfl, rfl, rfl, rfl, rfl⟩ (List.append_nil _).symm (zo_adr had)

set_option maxRecDepth 100000 in
set_option maxHeartbeats 1000000 in
theorem hk_runText (l : Launch) (D : va_G) (ct : Nat → ClassId) (ao b : Nat) (g : Nat → Int64) (wc : va_W) (fs : List Value) (po : Option Value → va_W → va_W → Prop) {fr lo mc ms : Nat} (hfr : fr ≤ 9) (hlo : lo ≤ 300) (hM : zT l D ct yX4_runText cX4_runText 2 (some .int) fr lo mc ms [.ref b] wc po) (he : wc[0]? = some (b, .inr (4, fs))) (hpo : ∀ v wa wb, po v wa wb → ∃ x : Int32, v = some (.int x)) : zL l D ct yL_runText cL_runText 3 (some .int) [(0, 8, 11, 35)] 10 340 mc ms [.ref b, .ref ao] (wc ++ [zo ct ao g]) (zLP ct ao (fun k wc' wb g' => k = 0 ∧ ∃ x : Int32, po (some (.int x)) wc' wb ∧ g' = vp_updL g 0 x.toInt64)) := by
  refine zL_of ([some (.ref b), some (.ref ao), none]) (by decide +kernel) rfl (Nat.le_of_ble_eq_true rfl) ?_
  intro p e s m args below meth c hC hx hr htab
  refine z_aload_n hC dL_runText_0 rfl ?_
  refine z_iconst (v := 0) hC dL_runText_1 (by decide) ?_
  refine z_aload_n hC dL_runText_2 rfl ?_
  refine z_callV (List.range wc.length) 0 4 hC hM bw_519 bw_520 bw_521 bw_2 bw_522 0 (by decide +kernel) rfl (rng_nd _) rng_ps rfl he ⟨show fr + 1 ≤ 10 by omega, show 8 + (2 + 11) + lo ≤ 340 by omega⟩ (Nat.le_of_ble_eq_true rfl) ⟨Nat.le_of_eq (Nat.zero_add _), Nat.le_of_eq (Nat.zero_add _)⟩ rfl dL_runText_3 ?_
  intro v wa wb hp1 had
  obtain ⟨x, rfl⟩ := hpo _ _ _ hp1
  rw [wput_pre (fst_len had)]
  refine z_i2l hC dL_runText_6 ?_
  refine z_lastore wa.length (w' := (wa ++ [zo ct ao (vp_updL g 0 x.toInt64)]) ++ wb) hC zo_at dL_runText_7 zo_set ?_
  refine z_goto hC 14 dL_runText_8 (by decide) ?_
  refine z_iconst (v := 0) hC dL_runText_14 (by decide) ?_
  exact z_iret hC hr dL_runText_15 (Nat.le_of_eq (Nat.zero_add _)) (Nat.le_of_eq (Nat.zero_add _)) (wa := wa ++ [zo ct ao (vp_updL g 0 x.toInt64)]) (wb := wb) ⟨0, wa, _, rfl, rfl, rfl, x, hp1, rfl⟩ rfl (zo_adr had)

set_option maxRecDepth 100000 in
set_option maxHeartbeats 1000000 in
theorem hx_runText_1 (l : Launch) (D : va_G) (ct : Nat → ClassId) (ao b : Nat) (g : Nat → Int64) (wc wc2 : va_W) (fs : List Value) {fr lo mc ms : Nat} (hfr : fr ≤ 9) (hlo : lo ≤ 300) (hM : zX l D ct yX4_runText cX4_runText 2 (some .int) fr lo mc ms [.ref b] wc wc2 xISE) (had : wc2.map Prod.fst = wc.map Prod.fst) (he : wc[0]? = some (b, .inr (4, fs))) : zL l D ct yL_runText cL_runText 3 (some .int) [(0, 8, 11, 35)] 10 340 mc ms [.ref b, .ref ao] (wc ++ [zo ct ao g]) (zLP ct ao (fun k wc' wb g' => k = 1 ∧ wc' = wc2 ∧ wb = [] ∧ g' = g)) := by
  refine zL_of ([some (.ref b), some (.ref ao), none]) (by decide +kernel) rfl (Nat.le_of_ble_eq_true rfl) ?_
  intro p e s m args below meth c hC hx hr htab
  refine z_aload_n hC dL_runText_0 rfl ?_
  refine z_iconst (v := 0) hC dL_runText_1 (by decide) ?_
  refine z_aload_n hC dL_runText_2 rfl ?_
  refine z_callVX (List.range wc.length) 0 4 (pre := []) (suf := []) (s0 := 0) (s1 := 8) (hpc := 11) (kt := 35) hC hM hx had htab (by decide) (by decide) bw_238 (by simp [EL]) (fun q hq => absurd hq List.not_mem_nil) bw_519 bw_520 bw_521 bw_2 bw_522 0 (by decide +kernel) rfl (rng_nd _) rng_ps rfl he ⟨show fr + 1 ≤ 10 by omega, show 8 + (2 + 11) + lo ≤ 340 by omega⟩ (Nat.le_of_ble_eq_true rfl) ⟨Nat.le_of_eq (Nat.zero_add _), Nat.le_of_eq (Nat.zero_add _)⟩ rfl dL_runText_3 ?_
  intro q
  rw [wput_pre (fst_len had)]
  refine z_astore_n hC dL_runText_11 (by decide) rfl ?_
  refine z_iconst (v := 1) hC dL_runText_12 (by decide) ?_
  exact z_iret hC hr dL_runText_13 (Nat.le_of_eq (Nat.zero_add _)) (Nat.le_of_eq (Nat.zero_add _)) (wa := wc2 ++ [zo ct ao g]) (wb := []) ⟨1, wc2, g, rfl, rfl, rfl, rfl, rfl, rfl⟩ (List.append_nil _).symm (zo_adr had)

set_option maxRecDepth 100000 in
set_option maxHeartbeats 1000000 in
theorem hk_undo (l : Launch) (D : va_G) (ct : Nat → ClassId) (ao b : Nat) (g : Nat → Int64) (wc : va_W) (fs : List Value) (po : Option Value → va_W → va_W → Prop) {fr lo mc ms : Nat} (hfr : fr ≤ 9) (hlo : lo ≤ 300) (hM : zT l D ct yX4_undo cX4_undo 2 (some .int) fr lo mc ms [.ref b] wc po) (he : wc[0]? = some (b, .inr (4, fs))) (hpo : ∀ v wa wb, po v wa wb → ∃ x : Int32, v = some (.int x)) : zL l D ct yL_undo cL_undo 3 (some .int) [(0, 8, 11, 35)] 10 340 mc ms [.ref b, .ref ao] (wc ++ [zo ct ao g]) (zLP ct ao (fun k wc' wb g' => k = 0 ∧ ∃ x : Int32, po (some (.int x)) wc' wb ∧ g' = vp_updL g 0 x.toInt64)) := by
  refine zL_of ([some (.ref b), some (.ref ao), none]) (by decide +kernel) rfl (Nat.le_of_ble_eq_true rfl) ?_
  intro p e s m args below meth c hC hx hr htab
  refine z_aload_n hC dL_undo_0 rfl ?_
  refine z_iconst (v := 0) hC dL_undo_1 (by decide) ?_
  refine z_aload_n hC dL_undo_2 rfl ?_
  refine z_callV (List.range wc.length) 0 4 hC hM bw_538 bw_539 bw_540 bw_2 bw_541 0 (by decide +kernel) rfl (rng_nd _) rng_ps rfl he ⟨show fr + 1 ≤ 10 by omega, show 8 + (2 + 11) + lo ≤ 340 by omega⟩ (Nat.le_of_ble_eq_true rfl) ⟨Nat.le_of_eq (Nat.zero_add _), Nat.le_of_eq (Nat.zero_add _)⟩ rfl dL_undo_3 ?_
  intro v wa wb hp1 had
  obtain ⟨x, rfl⟩ := hpo _ _ _ hp1
  rw [wput_pre (fst_len had)]
  refine z_i2l hC dL_undo_6 ?_
  refine z_lastore wa.length (w' := (wa ++ [zo ct ao (vp_updL g 0 x.toInt64)]) ++ wb) hC zo_at dL_undo_7 zo_set ?_
  refine z_goto hC 14 dL_undo_8 (by decide) ?_
  refine z_iconst (v := 0) hC dL_undo_14 (by decide) ?_
  exact z_iret hC hr dL_undo_15 (Nat.le_of_eq (Nat.zero_add _)) (Nat.le_of_eq (Nat.zero_add _)) (wa := wa ++ [zo ct ao (vp_updL g 0 x.toInt64)]) (wb := wb) ⟨0, wa, _, rfl, rfl, rfl, x, hp1, rfl⟩ rfl (zo_adr had)

set_option maxRecDepth 100000 in
set_option maxHeartbeats 1000000 in
theorem hx_undo_1 (l : Launch) (D : va_G) (ct : Nat → ClassId) (ao b : Nat) (g : Nat → Int64) (wc wc2 : va_W) (fs : List Value) {fr lo mc ms : Nat} (hfr : fr ≤ 9) (hlo : lo ≤ 300) (hM : zX l D ct yX4_undo cX4_undo 2 (some .int) fr lo mc ms [.ref b] wc wc2 xISE) (had : wc2.map Prod.fst = wc.map Prod.fst) (he : wc[0]? = some (b, .inr (4, fs))) : zL l D ct yL_undo cL_undo 3 (some .int) [(0, 8, 11, 35)] 10 340 mc ms [.ref b, .ref ao] (wc ++ [zo ct ao g]) (zLP ct ao (fun k wc' wb g' => k = 1 ∧ wc' = wc2 ∧ wb = [] ∧ g' = g)) := by
  refine zL_of ([some (.ref b), some (.ref ao), none]) (by decide +kernel) rfl (Nat.le_of_ble_eq_true rfl) ?_
  intro p e s m args below meth c hC hx hr htab
  refine z_aload_n hC dL_undo_0 rfl ?_
  refine z_iconst (v := 0) hC dL_undo_1 (by decide) ?_
  refine z_aload_n hC dL_undo_2 rfl ?_
  refine z_callVX (List.range wc.length) 0 4 (pre := []) (suf := []) (s0 := 0) (s1 := 8) (hpc := 11) (kt := 35) hC hM hx had htab (by decide) (by decide) bw_238 (by simp [EL]) (fun q hq => absurd hq List.not_mem_nil) bw_538 bw_539 bw_540 bw_2 bw_541 0 (by decide +kernel) rfl (rng_nd _) rng_ps rfl he ⟨show fr + 1 ≤ 10 by omega, show 8 + (2 + 11) + lo ≤ 340 by omega⟩ (Nat.le_of_ble_eq_true rfl) ⟨Nat.le_of_eq (Nat.zero_add _), Nat.le_of_eq (Nat.zero_add _)⟩ rfl dL_undo_3 ?_
  intro q
  rw [wput_pre (fst_len had)]
  refine z_astore_n hC dL_undo_11 (by decide) rfl ?_
  refine z_iconst (v := 1) hC dL_undo_12 (by decide) ?_
  exact z_iret hC hr dL_undo_13 (Nat.le_of_eq (Nat.zero_add _)) (Nat.le_of_eq (Nat.zero_add _)) (wa := wc2 ++ [zo ct ao g]) (wb := []) ⟨1, wc2, g, rfl, rfl, rfl, rfl, rfl, rfl⟩ (List.append_nil _).symm (zo_adr had)

set_option maxRecDepth 100000 in
set_option maxHeartbeats 1000000 in
theorem hk_isConnected (l : Launch) (D : va_G) (ct : Nat → ClassId) (ao b : Nat) (g : Nat → Int64) (a1 : Int32) (a2 : Int32) (wc : va_W) (fs : List Value) (po : Option Value → va_W → va_W → Prop) {fr lo mc ms : Nat} (hfr : fr ≤ 9) (hlo : lo ≤ 300) (hM : zT l D ct yX4_isConnected cX4_isConnected 3 (some .boolean) fr lo mc ms [.ref b, .int a1, .int a2] wc po) (he : wc[0]? = some (b, .inr (4, fs))) (hpo : ∀ v wa wb, po v wa wb → ∃ x : Int32, v = some (.int x)) : zL l D ct yL_isConnected cL_isConnected 5 (some .int) [(0, 17, 20, 13)] 10 340 mc ms [.ref b, .int a1, .int a2, .ref ao] (wc ++ [zo ct ao g]) (zLP ct ao (fun k wc' wb g' => k = 0 ∧ ∃ x : Int32, po (some (.int x)) wc' wb ∧ g' = vp_updL g 0 (if x = 0 then 0 else 1))) := by
  refine zL_of ([some (.ref b), some (.int a1), some (.int a2), some (.ref ao), none]) (by decide +kernel) rfl (Nat.le_of_ble_eq_true rfl) ?_
  intro p e s m args below meth c hC hx hr htab
  refine z_aload_n hC dL_isConnected_0 rfl ?_
  refine z_iconst (v := 0) hC dL_isConnected_1 (by decide) ?_
  refine z_aload_n hC dL_isConnected_2 rfl ?_
  refine z_iload_n hC dL_isConnected_3 rfl ?_
  refine z_iload_n hC dL_isConnected_4 rfl ?_
  refine z_callV (List.range wc.length) 0 4 hC hM bw_555 bw_556 bw_557 bw_2 bw_558 2 (by decide +kernel) rfl (rng_nd _) rng_ps rfl he ⟨show fr + 1 ≤ 10 by omega, show 8 + (3 + 11) + lo ≤ 340 by omega⟩ (Nat.le_of_ble_eq_true rfl) ⟨Nat.le_of_eq (Nat.zero_add _), Nat.le_of_eq (Nat.zero_add _)⟩ rfl dL_isConnected_5 ?_
  intro v wa wb hp1 had
  obtain ⟨x, rfl⟩ := hpo _ _ _ hp1
  rw [wput_pre (fst_len had)]
  refine z_if_eq hC 15 dL_isConnected_8 (by decide) (fun cz => ?_) (fun cz => ?_)
  · refine z_lconst (v := 0) hC dL_isConnected_15 rfl ?_
    refine z_lastore wa.length (w' := (wa ++ [zo ct ao (vp_updL g 0 0)]) ++ wb) hC zo_at dL_isConnected_16 zo_set ?_
    refine z_goto hC 24 dL_isConnected_17 (by decide) ?_
    refine z_iconst (v := 0) hC dL_isConnected_24 (by decide) ?_
    exact z_iret hC hr dL_isConnected_25 (Nat.le_of_eq (Nat.zero_add _)) (Nat.le_of_eq (Nat.zero_add _)) (wa := wa ++ [zo ct ao (vp_updL g 0 0)]) (wb := wb) ⟨0, wa, _, rfl, rfl, rfl, x, hp1, by rw [if_pos cz]⟩ rfl (zo_adr had)
  · refine z_lconst (v := 1) hC dL_isConnected_11 rfl ?_
    refine z_goto hC 16 dL_isConnected_12 (by decide) ?_
    refine z_lastore wa.length (w' := (wa ++ [zo ct ao (vp_updL g 0 1)]) ++ wb) hC zo_at dL_isConnected_16 zo_set ?_
    refine z_goto hC 24 dL_isConnected_17 (by decide) ?_
    refine z_iconst (v := 0) hC dL_isConnected_24 (by decide) ?_
    exact z_iret hC hr dL_isConnected_25 (Nat.le_of_eq (Nat.zero_add _)) (Nat.le_of_eq (Nat.zero_add _)) (wa := wa ++ [zo ct ao (vp_updL g 0 1)]) (wb := wb) ⟨0, wa, _, rfl, rfl, rfl, x, hp1, by rw [if_neg cz]⟩ rfl (zo_adr had)

set_option maxRecDepth 100000 in
set_option maxHeartbeats 1000000 in
theorem hx_isConnected_1 (l : Launch) (D : va_G) (ct : Nat → ClassId) (ao b : Nat) (g : Nat → Int64) (a1 : Int32) (a2 : Int32) (wc wc2 : va_W) (fs : List Value) {fr lo mc ms : Nat} (hfr : fr ≤ 9) (hlo : lo ≤ 300) (hM : zX l D ct yX4_isConnected cX4_isConnected 3 (some .boolean) fr lo mc ms [.ref b, .int a1, .int a2] wc wc2 xIOB) (had : wc2.map Prod.fst = wc.map Prod.fst) (he : wc[0]? = some (b, .inr (4, fs))) : zL l D ct yL_isConnected cL_isConnected 5 (some .int) [(0, 17, 20, 13)] 10 340 mc ms [.ref b, .int a1, .int a2, .ref ao] (wc ++ [zo ct ao g]) (zLP ct ao (fun k wc' wb g' => k = 1 ∧ wc' = wc2 ∧ wb = [] ∧ g' = g)) := by
  refine zL_of ([some (.ref b), some (.int a1), some (.int a2), some (.ref ao), none]) (by decide +kernel) rfl (Nat.le_of_ble_eq_true rfl) ?_
  intro p e s m args below meth c hC hx hr htab
  refine z_aload_n hC dL_isConnected_0 rfl ?_
  refine z_iconst (v := 0) hC dL_isConnected_1 (by decide) ?_
  refine z_aload_n hC dL_isConnected_2 rfl ?_
  refine z_iload_n hC dL_isConnected_3 rfl ?_
  refine z_iload_n hC dL_isConnected_4 rfl ?_
  refine z_callVX (List.range wc.length) 0 4 (pre := []) (suf := []) (s0 := 0) (s1 := 17) (hpc := 20) (kt := 13) hC hM hx had htab (by decide) (by decide) bw_77 (by simp [EL]) (fun q hq => absurd hq List.not_mem_nil) bw_555 bw_556 bw_557 bw_2 bw_558 2 (by decide +kernel) rfl (rng_nd _) rng_ps rfl he ⟨show fr + 1 ≤ 10 by omega, show 8 + (3 + 11) + lo ≤ 340 by omega⟩ (Nat.le_of_ble_eq_true rfl) ⟨Nat.le_of_eq (Nat.zero_add _), Nat.le_of_eq (Nat.zero_add _)⟩ rfl dL_isConnected_5 ?_
  intro q
  rw [wput_pre (fst_len had)]
  refine z_astore hC dL_isConnected_20 (by decide) rfl ?_
  refine z_iconst (v := 1) hC dL_isConnected_22 (by decide) ?_
  exact z_iret hC hr dL_isConnected_23 (Nat.le_of_eq (Nat.zero_add _)) (Nat.le_of_eq (Nat.zero_add _)) (wa := wc2 ++ [zo ct ao g]) (wb := []) ⟨1, wc2, g, rfl, rfl, rfl, rfl, rfl, rfl⟩ (List.append_nil _).symm (zo_adr had)

set_option maxRecDepth 100000 in
set_option maxHeartbeats 1000000 in
theorem hk_parent (l : Launch) (D : va_G) (ct : Nat → ClassId) (ao b : Nat) (g : Nat → Int64) (a1 : Int32) (wc : va_W) (fs : List Value) (po : Option Value → va_W → va_W → Prop) {fr lo mc ms : Nat} (hfr : fr ≤ 9) (hlo : lo ≤ 300) (hM : zT l D ct yX4_parent cX4_parent 2 (some .int) fr lo mc ms [.ref b, .int a1] wc po) (he : wc[0]? = some (b, .inr (4, fs))) (hpo : ∀ v wa wb, po v wa wb → ∃ x : Int32, v = some (.int x)) : zL l D ct yL_parent cL_parent 4 (some .int) [(0, 9, 12, 13)] 10 340 mc ms [.ref b, .int a1, .ref ao] (wc ++ [zo ct ao g]) (zLP ct ao (fun k wc' wb g' => k = 0 ∧ ∃ x : Int32, po (some (.int x)) wc' wb ∧ g' = vp_updL g 0 x.toInt64)) := by
  refine zL_of ([some (.ref b), some (.int a1), some (.ref ao), none]) (by decide +kernel) rfl (Nat.le_of_ble_eq_true rfl) ?_
  intro p e s m args below meth c hC hx hr htab
  refine z_aload_n hC dL_parent_0 rfl ?_
  refine z_iconst (v := 0) hC dL_parent_1 (by decide) ?_
  refine z_aload_n hC dL_parent_2 rfl ?_
  refine z_iload_n hC dL_parent_3 rfl ?_
  refine z_callV (List.range wc.length) 0 4 hC hM bw_566 bw_567 bw_568 bw_2 bw_569 1 (by decide +kernel) rfl (rng_nd _) rng_ps rfl he ⟨show fr + 1 ≤ 10 by omega, show 8 + (2 + 11) + lo ≤ 340 by omega⟩ (Nat.le_of_ble_eq_true rfl) ⟨Nat.le_of_eq (Nat.zero_add _), Nat.le_of_eq (Nat.zero_add _)⟩ rfl dL_parent_4 ?_
  intro v wa wb hp1 had
  obtain ⟨x, rfl⟩ := hpo _ _ _ hp1
  rw [wput_pre (fst_len had)]
  refine z_i2l hC dL_parent_7 ?_
  refine z_lastore wa.length (w' := (wa ++ [zo ct ao (vp_updL g 0 x.toInt64)]) ++ wb) hC zo_at dL_parent_8 zo_set ?_
  refine z_goto hC 15 dL_parent_9 (by decide) ?_
  refine z_iconst (v := 0) hC dL_parent_15 (by decide) ?_
  exact z_iret hC hr dL_parent_16 (Nat.le_of_eq (Nat.zero_add _)) (Nat.le_of_eq (Nat.zero_add _)) (wa := wa ++ [zo ct ao (vp_updL g 0 x.toInt64)]) (wb := wb) ⟨0, wa, _, rfl, rfl, rfl, x, hp1, rfl⟩ rfl (zo_adr had)

set_option maxRecDepth 100000 in
set_option maxHeartbeats 1000000 in
theorem hx_parent_1 (l : Launch) (D : va_G) (ct : Nat → ClassId) (ao b : Nat) (g : Nat → Int64) (a1 : Int32) (wc wc2 : va_W) (fs : List Value) {fr lo mc ms : Nat} (hfr : fr ≤ 9) (hlo : lo ≤ 300) (hM : zX l D ct yX4_parent cX4_parent 2 (some .int) fr lo mc ms [.ref b, .int a1] wc wc2 xIOB) (had : wc2.map Prod.fst = wc.map Prod.fst) (he : wc[0]? = some (b, .inr (4, fs))) : zL l D ct yL_parent cL_parent 4 (some .int) [(0, 9, 12, 13)] 10 340 mc ms [.ref b, .int a1, .ref ao] (wc ++ [zo ct ao g]) (zLP ct ao (fun k wc' wb g' => k = 1 ∧ wc' = wc2 ∧ wb = [] ∧ g' = g)) := by
  refine zL_of ([some (.ref b), some (.int a1), some (.ref ao), none]) (by decide +kernel) rfl (Nat.le_of_ble_eq_true rfl) ?_
  intro p e s m args below meth c hC hx hr htab
  refine z_aload_n hC dL_parent_0 rfl ?_
  refine z_iconst (v := 0) hC dL_parent_1 (by decide) ?_
  refine z_aload_n hC dL_parent_2 rfl ?_
  refine z_iload_n hC dL_parent_3 rfl ?_
  refine z_callVX (List.range wc.length) 0 4 (pre := []) (suf := []) (s0 := 0) (s1 := 9) (hpc := 12) (kt := 13) hC hM hx had htab (by decide) (by decide) bw_77 (by simp [EL]) (fun q hq => absurd hq List.not_mem_nil) bw_566 bw_567 bw_568 bw_2 bw_569 1 (by decide +kernel) rfl (rng_nd _) rng_ps rfl he ⟨show fr + 1 ≤ 10 by omega, show 8 + (2 + 11) + lo ≤ 340 by omega⟩ (Nat.le_of_ble_eq_true rfl) ⟨Nat.le_of_eq (Nat.zero_add _), Nat.le_of_eq (Nat.zero_add _)⟩ rfl dL_parent_4 ?_
  intro q
  rw [wput_pre (fst_len had)]
  refine z_astore_n hC dL_parent_12 (by decide) rfl ?_
  refine z_iconst (v := 1) hC dL_parent_13 (by decide) ?_
  exact z_iret hC hr dL_parent_14 (Nat.le_of_eq (Nat.zero_add _)) (Nat.le_of_eq (Nat.zero_add _)) (wa := wc2 ++ [zo ct ao g]) (wb := []) ⟨1, wc2, g, rfl, rfl, rfl, rfl, rfl, rfl⟩ (List.append_nil _).symm (zo_adr had)

set_option maxRecDepth 100000 in
set_option maxHeartbeats 1000000 in
theorem hk_depth (l : Launch) (D : va_G) (ct : Nat → ClassId) (ao b : Nat) (g : Nat → Int64) (a1 : Int32) (wc : va_W) (fs : List Value) (po : Option Value → va_W → va_W → Prop) {fr lo mc ms : Nat} (hfr : fr ≤ 9) (hlo : lo ≤ 300) (hM : zT l D ct yX4_depth cX4_depth 2 (some .int) fr lo mc ms [.ref b, .int a1] wc po) (he : wc[0]? = some (b, .inr (4, fs))) (hpo : ∀ v wa wb, po v wa wb → ∃ x : Int32, v = some (.int x)) : zL l D ct yL_depth cL_depth 4 (some .int) [(0, 9, 12, 13)] 10 340 mc ms [.ref b, .int a1, .ref ao] (wc ++ [zo ct ao g]) (zLP ct ao (fun k wc' wb g' => k = 0 ∧ ∃ x : Int32, po (some (.int x)) wc' wb ∧ g' = vp_updL g 0 x.toInt64)) := by
  refine zL_of ([some (.ref b), some (.int a1), some (.ref ao), none]) (by decide +kernel) rfl (Nat.le_of_ble_eq_true rfl) ?_
  intro p e s m args below meth c hC hx hr htab
  refine z_aload_n hC dL_depth_0 rfl ?_
  refine z_iconst (v := 0) hC dL_depth_1 (by decide) ?_
  refine z_aload_n hC dL_depth_2 rfl ?_
  refine z_iload_n hC dL_depth_3 rfl ?_
  refine z_callV (List.range wc.length) 0 4 hC hM bw_577 bw_578 bw_579 bw_2 bw_580 1 (by decide +kernel) rfl (rng_nd _) rng_ps rfl he ⟨show fr + 1 ≤ 10 by omega, show 8 + (2 + 11) + lo ≤ 340 by omega⟩ (Nat.le_of_ble_eq_true rfl) ⟨Nat.le_of_eq (Nat.zero_add _), Nat.le_of_eq (Nat.zero_add _)⟩ rfl dL_depth_4 ?_
  intro v wa wb hp1 had
  obtain ⟨x, rfl⟩ := hpo _ _ _ hp1
  rw [wput_pre (fst_len had)]
  refine z_i2l hC dL_depth_7 ?_
  refine z_lastore wa.length (w' := (wa ++ [zo ct ao (vp_updL g 0 x.toInt64)]) ++ wb) hC zo_at dL_depth_8 zo_set ?_
  refine z_goto hC 15 dL_depth_9 (by decide) ?_
  refine z_iconst (v := 0) hC dL_depth_15 (by decide) ?_
  exact z_iret hC hr dL_depth_16 (Nat.le_of_eq (Nat.zero_add _)) (Nat.le_of_eq (Nat.zero_add _)) (wa := wa ++ [zo ct ao (vp_updL g 0 x.toInt64)]) (wb := wb) ⟨0, wa, _, rfl, rfl, rfl, x, hp1, rfl⟩ rfl (zo_adr had)

set_option maxRecDepth 100000 in
set_option maxHeartbeats 1000000 in
theorem hx_depth_1 (l : Launch) (D : va_G) (ct : Nat → ClassId) (ao b : Nat) (g : Nat → Int64) (a1 : Int32) (wc wc2 : va_W) (fs : List Value) {fr lo mc ms : Nat} (hfr : fr ≤ 9) (hlo : lo ≤ 300) (hM : zX l D ct yX4_depth cX4_depth 2 (some .int) fr lo mc ms [.ref b, .int a1] wc wc2 xIOB) (had : wc2.map Prod.fst = wc.map Prod.fst) (he : wc[0]? = some (b, .inr (4, fs))) : zL l D ct yL_depth cL_depth 4 (some .int) [(0, 9, 12, 13)] 10 340 mc ms [.ref b, .int a1, .ref ao] (wc ++ [zo ct ao g]) (zLP ct ao (fun k wc' wb g' => k = 1 ∧ wc' = wc2 ∧ wb = [] ∧ g' = g)) := by
  refine zL_of ([some (.ref b), some (.int a1), some (.ref ao), none]) (by decide +kernel) rfl (Nat.le_of_ble_eq_true rfl) ?_
  intro p e s m args below meth c hC hx hr htab
  refine z_aload_n hC dL_depth_0 rfl ?_
  refine z_iconst (v := 0) hC dL_depth_1 (by decide) ?_
  refine z_aload_n hC dL_depth_2 rfl ?_
  refine z_iload_n hC dL_depth_3 rfl ?_
  refine z_callVX (List.range wc.length) 0 4 (pre := []) (suf := []) (s0 := 0) (s1 := 9) (hpc := 12) (kt := 13) hC hM hx had htab (by decide) (by decide) bw_77 (by simp [EL]) (fun q hq => absurd hq List.not_mem_nil) bw_577 bw_578 bw_579 bw_2 bw_580 1 (by decide +kernel) rfl (rng_nd _) rng_ps rfl he ⟨show fr + 1 ≤ 10 by omega, show 8 + (2 + 11) + lo ≤ 340 by omega⟩ (Nat.le_of_ble_eq_true rfl) ⟨Nat.le_of_eq (Nat.zero_add _), Nat.le_of_eq (Nat.zero_add _)⟩ rfl dL_depth_4 ?_
  intro q
  rw [wput_pre (fst_len had)]
  refine z_astore_n hC dL_depth_12 (by decide) rfl ?_
  refine z_iconst (v := 1) hC dL_depth_13 (by decide) ?_
  exact z_iret hC hr dL_depth_14 (Nat.le_of_eq (Nat.zero_add _)) (Nat.le_of_eq (Nat.zero_add _)) (wa := wc2 ++ [zo ct ao g]) (wb := []) ⟨1, wc2, g, rfl, rfl, rfl, rfl, rfl, rfl⟩ (List.append_nil _).symm (zo_adr had)

set_option maxRecDepth 100000 in
set_option maxHeartbeats 1000000 in
theorem hk_clock (l : Launch) (D : va_G) (ct : Nat → ClassId) (ao b : Nat) (g : Nat → Int64) (a1 : Int32) (wc : va_W) (fs : List Value) (po : Option Value → va_W → va_W → Prop) {fr lo mc ms : Nat} (hfr : fr ≤ 9) (hlo : lo ≤ 300) (hM : zT l D ct yX4_clock cX4_clock 2 (some .int) fr lo mc ms [.ref b, .int a1] wc po) (he : wc[0]? = some (b, .inr (4, fs))) (hpo : ∀ v wa wb, po v wa wb → ∃ x : Int32, v = some (.int x)) : zL l D ct yL_clock cL_clock 4 (some .int) [(0, 9, 12, 13)] 10 340 mc ms [.ref b, .int a1, .ref ao] (wc ++ [zo ct ao g]) (zLP ct ao (fun k wc' wb g' => k = 0 ∧ ∃ x : Int32, po (some (.int x)) wc' wb ∧ g' = vp_updL g 0 x.toInt64)) := by
  refine zL_of ([some (.ref b), some (.int a1), some (.ref ao), none]) (by decide +kernel) rfl (Nat.le_of_ble_eq_true rfl) ?_
  intro p e s m args below meth c hC hx hr htab
  refine z_aload_n hC dL_clock_0 rfl ?_
  refine z_iconst (v := 0) hC dL_clock_1 (by decide) ?_
  refine z_aload_n hC dL_clock_2 rfl ?_
  refine z_iload_n hC dL_clock_3 rfl ?_
  refine z_callV (List.range wc.length) 0 4 hC hM bw_588 bw_589 bw_590 bw_2 bw_591 1 (by decide +kernel) rfl (rng_nd _) rng_ps rfl he ⟨show fr + 1 ≤ 10 by omega, show 8 + (2 + 11) + lo ≤ 340 by omega⟩ (Nat.le_of_ble_eq_true rfl) ⟨Nat.le_of_eq (Nat.zero_add _), Nat.le_of_eq (Nat.zero_add _)⟩ rfl dL_clock_4 ?_
  intro v wa wb hp1 had
  obtain ⟨x, rfl⟩ := hpo _ _ _ hp1
  rw [wput_pre (fst_len had)]
  refine z_i2l hC dL_clock_7 ?_
  refine z_lastore wa.length (w' := (wa ++ [zo ct ao (vp_updL g 0 x.toInt64)]) ++ wb) hC zo_at dL_clock_8 zo_set ?_
  refine z_goto hC 15 dL_clock_9 (by decide) ?_
  refine z_iconst (v := 0) hC dL_clock_15 (by decide) ?_
  exact z_iret hC hr dL_clock_16 (Nat.le_of_eq (Nat.zero_add _)) (Nat.le_of_eq (Nat.zero_add _)) (wa := wa ++ [zo ct ao (vp_updL g 0 x.toInt64)]) (wb := wb) ⟨0, wa, _, rfl, rfl, rfl, x, hp1, rfl⟩ rfl (zo_adr had)

set_option maxRecDepth 100000 in
set_option maxHeartbeats 1000000 in
theorem hx_clock_1 (l : Launch) (D : va_G) (ct : Nat → ClassId) (ao b : Nat) (g : Nat → Int64) (a1 : Int32) (wc wc2 : va_W) (fs : List Value) {fr lo mc ms : Nat} (hfr : fr ≤ 9) (hlo : lo ≤ 300) (hM : zX l D ct yX4_clock cX4_clock 2 (some .int) fr lo mc ms [.ref b, .int a1] wc wc2 xIOB) (had : wc2.map Prod.fst = wc.map Prod.fst) (he : wc[0]? = some (b, .inr (4, fs))) : zL l D ct yL_clock cL_clock 4 (some .int) [(0, 9, 12, 13)] 10 340 mc ms [.ref b, .int a1, .ref ao] (wc ++ [zo ct ao g]) (zLP ct ao (fun k wc' wb g' => k = 1 ∧ wc' = wc2 ∧ wb = [] ∧ g' = g)) := by
  refine zL_of ([some (.ref b), some (.int a1), some (.ref ao), none]) (by decide +kernel) rfl (Nat.le_of_ble_eq_true rfl) ?_
  intro p e s m args below meth c hC hx hr htab
  refine z_aload_n hC dL_clock_0 rfl ?_
  refine z_iconst (v := 0) hC dL_clock_1 (by decide) ?_
  refine z_aload_n hC dL_clock_2 rfl ?_
  refine z_iload_n hC dL_clock_3 rfl ?_
  refine z_callVX (List.range wc.length) 0 4 (pre := []) (suf := []) (s0 := 0) (s1 := 9) (hpc := 12) (kt := 13) hC hM hx had htab (by decide) (by decide) bw_77 (by simp [EL]) (fun q hq => absurd hq List.not_mem_nil) bw_588 bw_589 bw_590 bw_2 bw_591 1 (by decide +kernel) rfl (rng_nd _) rng_ps rfl he ⟨show fr + 1 ≤ 10 by omega, show 8 + (2 + 11) + lo ≤ 340 by omega⟩ (Nat.le_of_ble_eq_true rfl) ⟨Nat.le_of_eq (Nat.zero_add _), Nat.le_of_eq (Nat.zero_add _)⟩ rfl dL_clock_4 ?_
  intro q
  rw [wput_pre (fst_len had)]
  refine z_astore_n hC dL_clock_12 (by decide) rfl ?_
  refine z_iconst (v := 1) hC dL_clock_13 (by decide) ?_
  exact z_iret hC hr dL_clock_14 (Nat.le_of_eq (Nat.zero_add _)) (Nat.le_of_eq (Nat.zero_add _)) (wa := wc2 ++ [zo ct ao g]) (wb := []) ⟨1, wc2, g, rfl, rfl, rfl, rfl, rfl, rfl⟩ (List.append_nil _).symm (zo_adr had)

set_option maxRecDepth 100000 in
set_option maxHeartbeats 1000000 in
theorem hk_silence (l : Launch) (D : va_G) (ct : Nat → ClassId) (ao b : Nat) (g : Nat → Int64) (a1 : Int32) (wc : va_W) (fs : List Value) (po : Option Value → va_W → va_W → Prop) {fr lo mc ms : Nat} (hfr : fr ≤ 9) (hlo : lo ≤ 300) (hM : zT l D ct yX4_silence cX4_silence 2 (some .int) fr lo mc ms [.ref b, .int a1] wc po) (he : wc[0]? = some (b, .inr (4, fs))) (hpo : ∀ v wa wb, po v wa wb → ∃ x : Int32, v = some (.int x)) : zL l D ct yL_silence cL_silence 4 (some .int) [(0, 9, 12, 13)] 10 340 mc ms [.ref b, .int a1, .ref ao] (wc ++ [zo ct ao g]) (zLP ct ao (fun k wc' wb g' => k = 0 ∧ ∃ x : Int32, po (some (.int x)) wc' wb ∧ g' = vp_updL g 0 x.toInt64)) := by
  refine zL_of ([some (.ref b), some (.int a1), some (.ref ao), none]) (by decide +kernel) rfl (Nat.le_of_ble_eq_true rfl) ?_
  intro p e s m args below meth c hC hx hr htab
  refine z_aload_n hC dL_silence_0 rfl ?_
  refine z_iconst (v := 0) hC dL_silence_1 (by decide) ?_
  refine z_aload_n hC dL_silence_2 rfl ?_
  refine z_iload_n hC dL_silence_3 rfl ?_
  refine z_callV (List.range wc.length) 0 4 hC hM bw_599 bw_600 bw_601 bw_2 bw_602 1 (by decide +kernel) rfl (rng_nd _) rng_ps rfl he ⟨show fr + 1 ≤ 10 by omega, show 8 + (2 + 11) + lo ≤ 340 by omega⟩ (Nat.le_of_ble_eq_true rfl) ⟨Nat.le_of_eq (Nat.zero_add _), Nat.le_of_eq (Nat.zero_add _)⟩ rfl dL_silence_4 ?_
  intro v wa wb hp1 had
  obtain ⟨x, rfl⟩ := hpo _ _ _ hp1
  rw [wput_pre (fst_len had)]
  refine z_i2l hC dL_silence_7 ?_
  refine z_lastore wa.length (w' := (wa ++ [zo ct ao (vp_updL g 0 x.toInt64)]) ++ wb) hC zo_at dL_silence_8 zo_set ?_
  refine z_goto hC 15 dL_silence_9 (by decide) ?_
  refine z_iconst (v := 0) hC dL_silence_15 (by decide) ?_
  exact z_iret hC hr dL_silence_16 (Nat.le_of_eq (Nat.zero_add _)) (Nat.le_of_eq (Nat.zero_add _)) (wa := wa ++ [zo ct ao (vp_updL g 0 x.toInt64)]) (wb := wb) ⟨0, wa, _, rfl, rfl, rfl, x, hp1, rfl⟩ rfl (zo_adr had)

set_option maxRecDepth 100000 in
set_option maxHeartbeats 1000000 in
theorem hx_silence_1 (l : Launch) (D : va_G) (ct : Nat → ClassId) (ao b : Nat) (g : Nat → Int64) (a1 : Int32) (wc wc2 : va_W) (fs : List Value) {fr lo mc ms : Nat} (hfr : fr ≤ 9) (hlo : lo ≤ 300) (hM : zX l D ct yX4_silence cX4_silence 2 (some .int) fr lo mc ms [.ref b, .int a1] wc wc2 xIOB) (had : wc2.map Prod.fst = wc.map Prod.fst) (he : wc[0]? = some (b, .inr (4, fs))) : zL l D ct yL_silence cL_silence 4 (some .int) [(0, 9, 12, 13)] 10 340 mc ms [.ref b, .int a1, .ref ao] (wc ++ [zo ct ao g]) (zLP ct ao (fun k wc' wb g' => k = 1 ∧ wc' = wc2 ∧ wb = [] ∧ g' = g)) := by
  refine zL_of ([some (.ref b), some (.int a1), some (.ref ao), none]) (by decide +kernel) rfl (Nat.le_of_ble_eq_true rfl) ?_
  intro p e s m args below meth c hC hx hr htab
  refine z_aload_n hC dL_silence_0 rfl ?_
  refine z_iconst (v := 0) hC dL_silence_1 (by decide) ?_
  refine z_aload_n hC dL_silence_2 rfl ?_
  refine z_iload_n hC dL_silence_3 rfl ?_
  refine z_callVX (List.range wc.length) 0 4 (pre := []) (suf := []) (s0 := 0) (s1 := 9) (hpc := 12) (kt := 13) hC hM hx had htab (by decide) (by decide) bw_77 (by simp [EL]) (fun q hq => absurd hq List.not_mem_nil) bw_599 bw_600 bw_601 bw_2 bw_602 1 (by decide +kernel) rfl (rng_nd _) rng_ps rfl he ⟨show fr + 1 ≤ 10 by omega, show 8 + (2 + 11) + lo ≤ 340 by omega⟩ (Nat.le_of_ble_eq_true rfl) ⟨Nat.le_of_eq (Nat.zero_add _), Nat.le_of_eq (Nat.zero_add _)⟩ rfl dL_silence_4 ?_
  intro q
  rw [wput_pre (fst_len had)]
  refine z_astore_n hC dL_silence_12 (by decide) rfl ?_
  refine z_iconst (v := 1) hC dL_silence_13 (by decide) ?_
  exact z_iret hC hr dL_silence_14 (Nat.le_of_eq (Nat.zero_add _)) (Nat.le_of_eq (Nat.zero_add _)) (wa := wc2 ++ [zo ct ao g]) (wb := []) ⟨1, wc2, g, rfl, rfl, rfl, rfl, rfl, rfl⟩ (List.append_nil _).symm (zo_adr had)

set_option maxRecDepth 100000 in
set_option maxHeartbeats 1000000 in
theorem hk_faults (l : Launch) (D : va_G) (ct : Nat → ClassId) (ao b : Nat) (g : Nat → Int64) (a1 : Int32) (wc : va_W) (fs : List Value) (po : Option Value → va_W → va_W → Prop) {fr lo mc ms : Nat} (hfr : fr ≤ 9) (hlo : lo ≤ 300) (hM : zT l D ct yX4_faults cX4_faults 2 (some .int) fr lo mc ms [.ref b, .int a1] wc po) (he : wc[0]? = some (b, .inr (4, fs))) (hpo : ∀ v wa wb, po v wa wb → ∃ x : Int32, v = some (.int x)) : zL l D ct yL_faults cL_faults 4 (some .int) [(0, 9, 12, 13)] 10 340 mc ms [.ref b, .int a1, .ref ao] (wc ++ [zo ct ao g]) (zLP ct ao (fun k wc' wb g' => k = 0 ∧ ∃ x : Int32, po (some (.int x)) wc' wb ∧ g' = vp_updL g 0 x.toInt64)) := by
  refine zL_of ([some (.ref b), some (.int a1), some (.ref ao), none]) (by decide +kernel) rfl (Nat.le_of_ble_eq_true rfl) ?_
  intro p e s m args below meth c hC hx hr htab
  refine z_aload_n hC dL_faults_0 rfl ?_
  refine z_iconst (v := 0) hC dL_faults_1 (by decide) ?_
  refine z_aload_n hC dL_faults_2 rfl ?_
  refine z_iload_n hC dL_faults_3 rfl ?_
  refine z_callV (List.range wc.length) 0 4 hC hM bw_610 bw_611 bw_612 bw_2 bw_613 1 (by decide +kernel) rfl (rng_nd _) rng_ps rfl he ⟨show fr + 1 ≤ 10 by omega, show 8 + (2 + 11) + lo ≤ 340 by omega⟩ (Nat.le_of_ble_eq_true rfl) ⟨Nat.le_of_eq (Nat.zero_add _), Nat.le_of_eq (Nat.zero_add _)⟩ rfl dL_faults_4 ?_
  intro v wa wb hp1 had
  obtain ⟨x, rfl⟩ := hpo _ _ _ hp1
  rw [wput_pre (fst_len had)]
  refine z_i2l hC dL_faults_7 ?_
  refine z_lastore wa.length (w' := (wa ++ [zo ct ao (vp_updL g 0 x.toInt64)]) ++ wb) hC zo_at dL_faults_8 zo_set ?_
  refine z_goto hC 15 dL_faults_9 (by decide) ?_
  refine z_iconst (v := 0) hC dL_faults_15 (by decide) ?_
  exact z_iret hC hr dL_faults_16 (Nat.le_of_eq (Nat.zero_add _)) (Nat.le_of_eq (Nat.zero_add _)) (wa := wa ++ [zo ct ao (vp_updL g 0 x.toInt64)]) (wb := wb) ⟨0, wa, _, rfl, rfl, rfl, x, hp1, rfl⟩ rfl (zo_adr had)

set_option maxRecDepth 100000 in
set_option maxHeartbeats 1000000 in
theorem hx_faults_1 (l : Launch) (D : va_G) (ct : Nat → ClassId) (ao b : Nat) (g : Nat → Int64) (a1 : Int32) (wc wc2 : va_W) (fs : List Value) {fr lo mc ms : Nat} (hfr : fr ≤ 9) (hlo : lo ≤ 300) (hM : zX l D ct yX4_faults cX4_faults 2 (some .int) fr lo mc ms [.ref b, .int a1] wc wc2 xIOB) (had : wc2.map Prod.fst = wc.map Prod.fst) (he : wc[0]? = some (b, .inr (4, fs))) : zL l D ct yL_faults cL_faults 4 (some .int) [(0, 9, 12, 13)] 10 340 mc ms [.ref b, .int a1, .ref ao] (wc ++ [zo ct ao g]) (zLP ct ao (fun k wc' wb g' => k = 1 ∧ wc' = wc2 ∧ wb = [] ∧ g' = g)) := by
  refine zL_of ([some (.ref b), some (.int a1), some (.ref ao), none]) (by decide +kernel) rfl (Nat.le_of_ble_eq_true rfl) ?_
  intro p e s m args below meth c hC hx hr htab
  refine z_aload_n hC dL_faults_0 rfl ?_
  refine z_iconst (v := 0) hC dL_faults_1 (by decide) ?_
  refine z_aload_n hC dL_faults_2 rfl ?_
  refine z_iload_n hC dL_faults_3 rfl ?_
  refine z_callVX (List.range wc.length) 0 4 (pre := []) (suf := []) (s0 := 0) (s1 := 9) (hpc := 12) (kt := 13) hC hM hx had htab (by decide) (by decide) bw_77 (by simp [EL]) (fun q hq => absurd hq List.not_mem_nil) bw_610 bw_611 bw_612 bw_2 bw_613 1 (by decide +kernel) rfl (rng_nd _) rng_ps rfl he ⟨show fr + 1 ≤ 10 by omega, show 8 + (2 + 11) + lo ≤ 340 by omega⟩ (Nat.le_of_ble_eq_true rfl) ⟨Nat.le_of_eq (Nat.zero_add _), Nat.le_of_eq (Nat.zero_add _)⟩ rfl dL_faults_4 ?_
  intro q
  rw [wput_pre (fst_len had)]
  refine z_astore_n hC dL_faults_12 (by decide) rfl ?_
  refine z_iconst (v := 1) hC dL_faults_13 (by decide) ?_
  exact z_iret hC hr dL_faults_14 (Nat.le_of_eq (Nat.zero_add _)) (Nat.le_of_eq (Nat.zero_add _)) (wa := wc2 ++ [zo ct ao g]) (wb := []) ⟨1, wc2, g, rfl, rfl, rfl, rfl, rfl, rfl⟩ (List.append_nil _).symm (zo_adr had)

set_option maxRecDepth 100000 in
set_option maxHeartbeats 1000000 in
theorem hk_hops (l : Launch) (D : va_G) (ct : Nat → ClassId) (ao b : Nat) (g : Nat → Int64) (a1 : Int32) (wc : va_W) (fs : List Value) (po : Option Value → va_W → va_W → Prop) {fr lo mc ms : Nat} (hfr : fr ≤ 9) (hlo : lo ≤ 300) (hM : zT l D ct yX4_hops cX4_hops 2 (some .int) fr lo mc ms [.ref b, .int a1] wc po) (he : wc[0]? = some (b, .inr (4, fs))) (hpo : ∀ v wa wb, po v wa wb → ∃ x : Int32, v = some (.int x)) : zL l D ct yL_hops cL_hops 4 (some .int) [(0, 9, 12, 13)] 10 340 mc ms [.ref b, .int a1, .ref ao] (wc ++ [zo ct ao g]) (zLP ct ao (fun k wc' wb g' => k = 0 ∧ ∃ x : Int32, po (some (.int x)) wc' wb ∧ g' = vp_updL g 0 x.toInt64)) := by
  refine zL_of ([some (.ref b), some (.int a1), some (.ref ao), none]) (by decide +kernel) rfl (Nat.le_of_ble_eq_true rfl) ?_
  intro p e s m args below meth c hC hx hr htab
  refine z_aload_n hC dL_hops_0 rfl ?_
  refine z_iconst (v := 0) hC dL_hops_1 (by decide) ?_
  refine z_aload_n hC dL_hops_2 rfl ?_
  refine z_iload_n hC dL_hops_3 rfl ?_
  refine z_callV (List.range wc.length) 0 4 hC hM bw_621 bw_622 bw_623 bw_2 bw_624 1 (by decide +kernel) rfl (rng_nd _) rng_ps rfl he ⟨show fr + 1 ≤ 10 by omega, show 8 + (2 + 11) + lo ≤ 340 by omega⟩ (Nat.le_of_ble_eq_true rfl) ⟨Nat.le_of_eq (Nat.zero_add _), Nat.le_of_eq (Nat.zero_add _)⟩ rfl dL_hops_4 ?_
  intro v wa wb hp1 had
  obtain ⟨x, rfl⟩ := hpo _ _ _ hp1
  rw [wput_pre (fst_len had)]
  refine z_i2l hC dL_hops_7 ?_
  refine z_lastore wa.length (w' := (wa ++ [zo ct ao (vp_updL g 0 x.toInt64)]) ++ wb) hC zo_at dL_hops_8 zo_set ?_
  refine z_goto hC 15 dL_hops_9 (by decide) ?_
  refine z_iconst (v := 0) hC dL_hops_15 (by decide) ?_
  exact z_iret hC hr dL_hops_16 (Nat.le_of_eq (Nat.zero_add _)) (Nat.le_of_eq (Nat.zero_add _)) (wa := wa ++ [zo ct ao (vp_updL g 0 x.toInt64)]) (wb := wb) ⟨0, wa, _, rfl, rfl, rfl, x, hp1, rfl⟩ rfl (zo_adr had)

set_option maxRecDepth 100000 in
set_option maxHeartbeats 1000000 in
theorem hx_hops_1 (l : Launch) (D : va_G) (ct : Nat → ClassId) (ao b : Nat) (g : Nat → Int64) (a1 : Int32) (wc wc2 : va_W) (fs : List Value) {fr lo mc ms : Nat} (hfr : fr ≤ 9) (hlo : lo ≤ 300) (hM : zX l D ct yX4_hops cX4_hops 2 (some .int) fr lo mc ms [.ref b, .int a1] wc wc2 xIOB) (had : wc2.map Prod.fst = wc.map Prod.fst) (he : wc[0]? = some (b, .inr (4, fs))) : zL l D ct yL_hops cL_hops 4 (some .int) [(0, 9, 12, 13)] 10 340 mc ms [.ref b, .int a1, .ref ao] (wc ++ [zo ct ao g]) (zLP ct ao (fun k wc' wb g' => k = 1 ∧ wc' = wc2 ∧ wb = [] ∧ g' = g)) := by
  refine zL_of ([some (.ref b), some (.int a1), some (.ref ao), none]) (by decide +kernel) rfl (Nat.le_of_ble_eq_true rfl) ?_
  intro p e s m args below meth c hC hx hr htab
  refine z_aload_n hC dL_hops_0 rfl ?_
  refine z_iconst (v := 0) hC dL_hops_1 (by decide) ?_
  refine z_aload_n hC dL_hops_2 rfl ?_
  refine z_iload_n hC dL_hops_3 rfl ?_
  refine z_callVX (List.range wc.length) 0 4 (pre := []) (suf := []) (s0 := 0) (s1 := 9) (hpc := 12) (kt := 13) hC hM hx had htab (by decide) (by decide) bw_77 (by simp [EL]) (fun q hq => absurd hq List.not_mem_nil) bw_621 bw_622 bw_623 bw_2 bw_624 1 (by decide +kernel) rfl (rng_nd _) rng_ps rfl he ⟨show fr + 1 ≤ 10 by omega, show 8 + (2 + 11) + lo ≤ 340 by omega⟩ (Nat.le_of_ble_eq_true rfl) ⟨Nat.le_of_eq (Nat.zero_add _), Nat.le_of_eq (Nat.zero_add _)⟩ rfl dL_hops_4 ?_
  intro q
  rw [wput_pre (fst_len had)]
  refine z_astore_n hC dL_hops_12 (by decide) rfl ?_
  refine z_iconst (v := 1) hC dL_hops_13 (by decide) ?_
  exact z_iret hC hr dL_hops_14 (Nat.le_of_eq (Nat.zero_add _)) (Nat.le_of_eq (Nat.zero_add _)) (wa := wc2 ++ [zo ct ao g]) (wb := []) ⟨1, wc2, g, rfl, rfl, rfl, rfl, rfl, rfl⟩ (List.append_nil _).symm (zo_adr had)

set_option maxRecDepth 100000 in
set_option maxHeartbeats 1000000 in
theorem hk_stored (l : Launch) (D : va_G) (ct : Nat → ClassId) (ao b : Nat) (g : Nat → Int64) (a1 : Int32) (wc : va_W) (fs : List Value) (po : Option Value → va_W → va_W → Prop) {fr lo mc ms : Nat} (hfr : fr ≤ 9) (hlo : lo ≤ 300) (hM : zT l D ct yX4_stored cX4_stored 2 (some .int) fr lo mc ms [.ref b, .int a1] wc po) (he : wc[0]? = some (b, .inr (4, fs))) (hpo : ∀ v wa wb, po v wa wb → ∃ x : Int32, v = some (.int x)) : zL l D ct yL_stored cL_stored 4 (some .int) [(0, 9, 12, 13)] 10 340 mc ms [.ref b, .int a1, .ref ao] (wc ++ [zo ct ao g]) (zLP ct ao (fun k wc' wb g' => k = 0 ∧ ∃ x : Int32, po (some (.int x)) wc' wb ∧ g' = vp_updL g 0 x.toInt64)) := by
  refine zL_of ([some (.ref b), some (.int a1), some (.ref ao), none]) (by decide +kernel) rfl (Nat.le_of_ble_eq_true rfl) ?_
  intro p e s m args below meth c hC hx hr htab
  refine z_aload_n hC dL_stored_0 rfl ?_
  refine z_iconst (v := 0) hC dL_stored_1 (by decide) ?_
  refine z_aload_n hC dL_stored_2 rfl ?_
  refine z_iload_n hC dL_stored_3 rfl ?_
  refine z_callV (List.range wc.length) 0 4 hC hM bw_639 bw_640 bw_641 bw_2 bw_642 1 (by decide +kernel) rfl (rng_nd _) rng_ps rfl he ⟨show fr + 1 ≤ 10 by omega, show 8 + (2 + 11) + lo ≤ 340 by omega⟩ (Nat.le_of_ble_eq_true rfl) ⟨Nat.le_of_eq (Nat.zero_add _), Nat.le_of_eq (Nat.zero_add _)⟩ rfl dL_stored_4 ?_
  intro v wa wb hp1 had
  obtain ⟨x, rfl⟩ := hpo _ _ _ hp1
  rw [wput_pre (fst_len had)]
  refine z_i2l hC dL_stored_7 ?_
  refine z_lastore wa.length (w' := (wa ++ [zo ct ao (vp_updL g 0 x.toInt64)]) ++ wb) hC zo_at dL_stored_8 zo_set ?_
  refine z_goto hC 15 dL_stored_9 (by decide) ?_
  refine z_iconst (v := 0) hC dL_stored_15 (by decide) ?_
  exact z_iret hC hr dL_stored_16 (Nat.le_of_eq (Nat.zero_add _)) (Nat.le_of_eq (Nat.zero_add _)) (wa := wa ++ [zo ct ao (vp_updL g 0 x.toInt64)]) (wb := wb) ⟨0, wa, _, rfl, rfl, rfl, x, hp1, rfl⟩ rfl (zo_adr had)

set_option maxRecDepth 100000 in
set_option maxHeartbeats 1000000 in
theorem hx_stored_1 (l : Launch) (D : va_G) (ct : Nat → ClassId) (ao b : Nat) (g : Nat → Int64) (a1 : Int32) (wc wc2 : va_W) (fs : List Value) {fr lo mc ms : Nat} (hfr : fr ≤ 9) (hlo : lo ≤ 300) (hM : zX l D ct yX4_stored cX4_stored 2 (some .int) fr lo mc ms [.ref b, .int a1] wc wc2 xIOB) (had : wc2.map Prod.fst = wc.map Prod.fst) (he : wc[0]? = some (b, .inr (4, fs))) : zL l D ct yL_stored cL_stored 4 (some .int) [(0, 9, 12, 13)] 10 340 mc ms [.ref b, .int a1, .ref ao] (wc ++ [zo ct ao g]) (zLP ct ao (fun k wc' wb g' => k = 1 ∧ wc' = wc2 ∧ wb = [] ∧ g' = g)) := by
  refine zL_of ([some (.ref b), some (.int a1), some (.ref ao), none]) (by decide +kernel) rfl (Nat.le_of_ble_eq_true rfl) ?_
  intro p e s m args below meth c hC hx hr htab
  refine z_aload_n hC dL_stored_0 rfl ?_
  refine z_iconst (v := 0) hC dL_stored_1 (by decide) ?_
  refine z_aload_n hC dL_stored_2 rfl ?_
  refine z_iload_n hC dL_stored_3 rfl ?_
  refine z_callVX (List.range wc.length) 0 4 (pre := []) (suf := []) (s0 := 0) (s1 := 9) (hpc := 12) (kt := 13) hC hM hx had htab (by decide) (by decide) bw_77 (by simp [EL]) (fun q hq => absurd hq List.not_mem_nil) bw_639 bw_640 bw_641 bw_2 bw_642 1 (by decide +kernel) rfl (rng_nd _) rng_ps rfl he ⟨show fr + 1 ≤ 10 by omega, show 8 + (2 + 11) + lo ≤ 340 by omega⟩ (Nat.le_of_ble_eq_true rfl) ⟨Nat.le_of_eq (Nat.zero_add _), Nat.le_of_eq (Nat.zero_add _)⟩ rfl dL_stored_4 ?_
  intro q
  rw [wput_pre (fst_len had)]
  refine z_astore_n hC dL_stored_12 (by decide) rfl ?_
  refine z_iconst (v := 1) hC dL_stored_13 (by decide) ?_
  exact z_iret hC hr dL_stored_14 (Nat.le_of_eq (Nat.zero_add _)) (Nat.le_of_eq (Nat.zero_add _)) (wa := wc2 ++ [zo ct ao g]) (wb := []) ⟨1, wc2, g, rfl, rfl, rfl, rfl, rfl, rfl⟩ (List.append_nil _).symm (zo_adr had)

set_option maxRecDepth 100000 in
set_option maxHeartbeats 1000000 in
theorem hk_storedReading (l : Launch) (D : va_G) (ct : Nat → ClassId) (ao b : Nat) (g : Nat → Int64) (a1 : Int32) (a2 : Int32) (a3 : Int32) (wc : va_W) (fs : List Value) (po : Option Value → va_W → va_W → Prop) {fr lo mc ms : Nat} (hfr : fr ≤ 9) (hlo : lo ≤ 300) (hM : zT l D ct yX4_storedReading cX4_storedReading 4 (some .int) fr lo mc ms [.ref b, .int a1, .int a2, .int a3] wc po) (he : wc[0]? = some (b, .inr (4, fs))) (hpo : ∀ v wa wb, po v wa wb → ∃ x : Int32, v = some (.int x)) : zL l D ct yL_storedReading cL_storedReading 6 (some .int) [(0, 12, 15, 13), (0, 12, 19, 15)] 10 340 mc ms [.ref b, .int a1, .int a2, .int a3, .ref ao] (wc ++ [zo ct ao g]) (zLP ct ao (fun k wc' wb g' => k = 0 ∧ ∃ x : Int32, po (some (.int x)) wc' wb ∧ g' = vp_updL g 0 x.toInt64)) := by
  refine zL_of ([some (.ref b), some (.int a1), some (.int a2), some (.int a3), some (.ref ao), none]) (by decide +kernel) rfl (Nat.le_of_ble_eq_true rfl) ?_
  intro p e s m args below meth c hC hx hr htab
  refine z_aload hC dL_storedReading_0 rfl ?_
  refine z_iconst (v := 0) hC dL_storedReading_2 (by decide) ?_
  refine z_aload_n hC dL_storedReading_3 rfl ?_
  refine z_iload_n hC dL_storedReading_4 rfl ?_
  refine z_iload_n hC dL_storedReading_5 rfl ?_
  refine z_iload_n hC dL_storedReading_6 rfl ?_
  refine z_callV (List.range wc.length) 0 4 hC hM bw_650 bw_651 bw_652 bw_2 bw_653 3 (by decide +kernel) rfl (rng_nd _) rng_ps rfl he ⟨show fr + 1 ≤ 10 by omega, show 8 + (4 + 11) + lo ≤ 340 by omega⟩ (Nat.le_of_ble_eq_true rfl) ⟨Nat.le_of_eq (Nat.zero_add _), Nat.le_of_eq (Nat.zero_add _)⟩ rfl dL_storedReading_7 ?_
  intro v wa wb hp1 had
  obtain ⟨x, rfl⟩ := hpo _ _ _ hp1
  rw [wput_pre (fst_len had)]
  refine z_i2l hC dL_storedReading_10 ?_
  refine z_lastore wa.length (w' := (wa ++ [zo ct ao (vp_updL g 0 x.toInt64)]) ++ wb) hC zo_at dL_storedReading_11 zo_set ?_
  refine z_goto hC 23 dL_storedReading_12 (by decide) ?_
  refine z_iconst (v := 0) hC dL_storedReading_23 (by decide) ?_
  exact z_iret hC hr dL_storedReading_24 (Nat.le_of_eq (Nat.zero_add _)) (Nat.le_of_eq (Nat.zero_add _)) (wa := wa ++ [zo ct ao (vp_updL g 0 x.toInt64)]) (wb := wb) ⟨0, wa, _, rfl, rfl, rfl, x, hp1, rfl⟩ rfl (zo_adr had)

set_option maxRecDepth 100000 in
set_option maxHeartbeats 1000000 in
theorem hx_storedReading_1 (l : Launch) (D : va_G) (ct : Nat → ClassId) (ao b : Nat) (g : Nat → Int64) (a1 : Int32) (a2 : Int32) (a3 : Int32) (wc wc2 : va_W) (fs : List Value) {fr lo mc ms : Nat} (hfr : fr ≤ 9) (hlo : lo ≤ 300) (hM : zX l D ct yX4_storedReading cX4_storedReading 4 (some .int) fr lo mc ms [.ref b, .int a1, .int a2, .int a3] wc wc2 xIOB) (had : wc2.map Prod.fst = wc.map Prod.fst) (he : wc[0]? = some (b, .inr (4, fs))) : zL l D ct yL_storedReading cL_storedReading 6 (some .int) [(0, 12, 15, 13), (0, 12, 19, 15)] 10 340 mc ms [.ref b, .int a1, .int a2, .int a3, .ref ao] (wc ++ [zo ct ao g]) (zLP ct ao (fun k wc' wb g' => k = 1 ∧ wc' = wc2 ∧ wb = [] ∧ g' = g)) := by
  refine zL_of ([some (.ref b), some (.int a1), some (.int a2), some (.int a3), some (.ref ao), none]) (by decide +kernel) rfl (Nat.le_of_ble_eq_true rfl) ?_
  intro p e s m args below meth c hC hx hr htab
  refine z_aload hC dL_storedReading_0 rfl ?_
  refine z_iconst (v := 0) hC dL_storedReading_2 (by decide) ?_
  refine z_aload_n hC dL_storedReading_3 rfl ?_
  refine z_iload_n hC dL_storedReading_4 rfl ?_
  refine z_iload_n hC dL_storedReading_5 rfl ?_
  refine z_iload_n hC dL_storedReading_6 rfl ?_
  refine z_callVX (List.range wc.length) 0 4 (pre := []) (suf := [(0, 12, 19, 15)]) (s0 := 0) (s1 := 12) (hpc := 15) (kt := 13) hC hM hx had htab (by decide) (by decide) bw_77 (by simp [EL]) (fun q hq => absurd hq List.not_mem_nil) bw_650 bw_651 bw_652 bw_2 bw_653 3 (by decide +kernel) rfl (rng_nd _) rng_ps rfl he ⟨show fr + 1 ≤ 10 by omega, show 8 + (4 + 11) + lo ≤ 340 by omega⟩ (Nat.le_of_ble_eq_true rfl) ⟨Nat.le_of_eq (Nat.zero_add _), Nat.le_of_eq (Nat.zero_add _)⟩ rfl dL_storedReading_7 ?_
  intro q
  rw [wput_pre (fst_len had)]
  refine z_astore hC dL_storedReading_15 (by decide) rfl ?_
  refine z_iconst (v := 1) hC dL_storedReading_17 (by decide) ?_
  exact z_iret hC hr dL_storedReading_18 (Nat.le_of_eq (Nat.zero_add _)) (Nat.le_of_eq (Nat.zero_add _)) (wa := wc2 ++ [zo ct ao g]) (wb := []) ⟨1, wc2, g, rfl, rfl, rfl, rfl, rfl, rfl⟩ (List.append_nil _).symm (zo_adr had)

set_option maxRecDepth 100000 in
set_option maxHeartbeats 1000000 in
theorem hx_storedReading_2 (l : Launch) (D : va_G) (ct : Nat → ClassId) (ao b : Nat) (g : Nat → Int64) (a1 : Int32) (a2 : Int32) (a3 : Int32) (wc wc2 : va_W) (fs : List Value) {fr lo mc ms : Nat} (hfr : fr ≤ 9) (hlo : lo ≤ 300) (hM : zX l D ct yX4_storedReading cX4_storedReading 4 (some .int) fr lo mc ms [.ref b, .int a1, .int a2, .int a3] wc wc2 xIAE) (had : wc2.map Prod.fst = wc.map Prod.fst) (he : wc[0]? = some (b, .inr (4, fs))) : zL l D ct yL_storedReading cL_storedReading 6 (some .int) [(0, 12, 15, 13), (0, 12, 19, 15)] 10 340 mc ms [.ref b, .int a1, .int a2, .int a3, .ref ao] (wc ++ [zo ct ao g]) (zLP ct ao (fun k wc' wb g' => k = 2 ∧ wc' = wc2 ∧ wb = [] ∧ g' = g)) := by
  refine zL_of ([some (.ref b), some (.int a1), some (.int a2), some (.int a3), some (.ref ao), none]) (by decide +kernel) rfl (Nat.le_of_ble_eq_true rfl) ?_
  intro p e s m args below meth c hC hx hr htab
  refine z_aload hC dL_storedReading_0 rfl ?_
  refine z_iconst (v := 0) hC dL_storedReading_2 (by decide) ?_
  refine z_aload_n hC dL_storedReading_3 rfl ?_
  refine z_iload_n hC dL_storedReading_4 rfl ?_
  refine z_iload_n hC dL_storedReading_5 rfl ?_
  refine z_iload_n hC dL_storedReading_6 rfl ?_
  have hpre : ∀ q ∈ ([(0, 12, 15, 13)] : List (Nat × Nat × Nat × Nat)), q.2.2.2 ≠ 0 ∧ ∃ nm : String, Cond.classLink RL q.2.2.2 nm ∈ BW ∧ (xIAE, nm) ∈ NL := by
    intro q hq
    rcases List.mem_cons.mp hq with rfl | hq
    · exact ⟨by decide, xIOB, bw_77, by simp [NL]⟩
    exact absurd hq List.not_mem_nil
  refine z_callVX (List.range wc.length) 0 4 (pre := [(0, 12, 15, 13)]) (suf := []) (s0 := 0) (s1 := 12) (hpc := 19) (kt := 15) hC hM hx had htab (by decide) (by decide) bw_78 (by simp [EL]) hpre bw_650 bw_651 bw_652 bw_2 bw_653 3 (by decide +kernel) rfl (rng_nd _) rng_ps rfl he ⟨show fr + 1 ≤ 10 by omega, show 8 + (4 + 11) + lo ≤ 340 by omega⟩ (Nat.le_of_ble_eq_true rfl) ⟨Nat.le_of_eq (Nat.zero_add _), Nat.le_of_eq (Nat.zero_add _)⟩ rfl dL_storedReading_7 ?_
  intro q
  rw [wput_pre (fst_len had)]
  refine z_astore hC dL_storedReading_19 (by decide) rfl ?_
  refine z_iconst (v := 2) hC dL_storedReading_21 (by decide) ?_
  exact z_iret hC hr dL_storedReading_22 (Nat.le_of_eq (Nat.zero_add _)) (Nat.le_of_eq (Nat.zero_add _)) (wa := wc2 ++ [zo ct ao g]) (wb := []) ⟨2, wc2, g, rfl, rfl, rfl, rfl, rfl, rfl⟩ (List.append_nil _).symm (zo_adr had)

set_option maxRecDepth 100000 in
set_option maxHeartbeats 1000000 in
theorem hk_collectedReading (l : Launch) (D : va_G) (ct : Nat → ClassId) (ao b : Nat) (g : Nat → Int64) (a1 : Int32) (a2 : Int32) (wc : va_W) (fs : List Value) (po : Option Value → va_W → va_W → Prop) {fr lo mc ms : Nat} (hfr : fr ≤ 9) (hlo : lo ≤ 300) (hM : zT l D ct yX4_collectedReading cX4_collectedReading 3 (some .int) fr lo mc ms [.ref b, .int a1, .int a2] wc po) (he : wc[0]? = some (b, .inr (4, fs))) (hpo : ∀ v wa wb, po v wa wb → ∃ x : Int32, v = some (.int x)) : zL l D ct yL_collectedReading cL_collectedReading 5 (some .int) [(0, 10, 13, 13), (0, 10, 17, 15)] 10 340 mc ms [.ref b, .int a1, .int a2, .ref ao] (wc ++ [zo ct ao g]) (zLP ct ao (fun k wc' wb g' => k = 0 ∧ ∃ x : Int32, po (some (.int x)) wc' wb ∧ g' = vp_updL g 0 x.toInt64)) := by
  refine zL_of ([some (.ref b), some (.int a1), some (.int a2), some (.ref ao), none]) (by decide +kernel) rfl (Nat.le_of_ble_eq_true rfl) ?_
  intro p e s m args below meth c hC hx hr htab
  refine z_aload_n hC dL_collectedReading_0 rfl ?_
  refine z_iconst (v := 0) hC dL_collectedReading_1 (by decide) ?_
  refine z_aload_n hC dL_collectedReading_2 rfl ?_
  refine z_iload_n hC dL_collectedReading_3 rfl ?_
  refine z_iload_n hC dL_collectedReading_4 rfl ?_
  refine z_callV (List.range wc.length) 0 4 hC hM bw_677 bw_678 bw_679 bw_2 bw_680 2 (by decide +kernel) rfl (rng_nd _) rng_ps rfl he ⟨show fr + 1 ≤ 10 by omega, show 8 + (3 + 11) + lo ≤ 340 by omega⟩ (Nat.le_of_ble_eq_true rfl) ⟨Nat.le_of_eq (Nat.zero_add _), Nat.le_of_eq (Nat.zero_add _)⟩ rfl dL_collectedReading_5 ?_
  intro v wa wb hp1 had
  obtain ⟨x, rfl⟩ := hpo _ _ _ hp1
  rw [wput_pre (fst_len had)]
  refine z_i2l hC dL_collectedReading_8 ?_
  refine z_lastore wa.length (w' := (wa ++ [zo ct ao (vp_updL g 0 x.toInt64)]) ++ wb) hC zo_at dL_collectedReading_9 zo_set ?_
  refine z_goto hC 21 dL_collectedReading_10 (by decide) ?_
  refine z_iconst (v := 0) hC dL_collectedReading_21 (by decide) ?_
  exact z_iret hC hr dL_collectedReading_22 (Nat.le_of_eq (Nat.zero_add _)) (Nat.le_of_eq (Nat.zero_add _)) (wa := wa ++ [zo ct ao (vp_updL g 0 x.toInt64)]) (wb := wb) ⟨0, wa, _, rfl, rfl, rfl, x, hp1, rfl⟩ rfl (zo_adr had)

set_option maxRecDepth 100000 in
set_option maxHeartbeats 1000000 in
theorem hx_collectedReading_1 (l : Launch) (D : va_G) (ct : Nat → ClassId) (ao b : Nat) (g : Nat → Int64) (a1 : Int32) (a2 : Int32) (wc wc2 : va_W) (fs : List Value) {fr lo mc ms : Nat} (hfr : fr ≤ 9) (hlo : lo ≤ 300) (hM : zX l D ct yX4_collectedReading cX4_collectedReading 3 (some .int) fr lo mc ms [.ref b, .int a1, .int a2] wc wc2 xIOB) (had : wc2.map Prod.fst = wc.map Prod.fst) (he : wc[0]? = some (b, .inr (4, fs))) : zL l D ct yL_collectedReading cL_collectedReading 5 (some .int) [(0, 10, 13, 13), (0, 10, 17, 15)] 10 340 mc ms [.ref b, .int a1, .int a2, .ref ao] (wc ++ [zo ct ao g]) (zLP ct ao (fun k wc' wb g' => k = 1 ∧ wc' = wc2 ∧ wb = [] ∧ g' = g)) := by
  refine zL_of ([some (.ref b), some (.int a1), some (.int a2), some (.ref ao), none]) (by decide +kernel) rfl (Nat.le_of_ble_eq_true rfl) ?_
  intro p e s m args below meth c hC hx hr htab
  refine z_aload_n hC dL_collectedReading_0 rfl ?_
  refine z_iconst (v := 0) hC dL_collectedReading_1 (by decide) ?_
  refine z_aload_n hC dL_collectedReading_2 rfl ?_
  refine z_iload_n hC dL_collectedReading_3 rfl ?_
  refine z_iload_n hC dL_collectedReading_4 rfl ?_
  refine z_callVX (List.range wc.length) 0 4 (pre := []) (suf := [(0, 10, 17, 15)]) (s0 := 0) (s1 := 10) (hpc := 13) (kt := 13) hC hM hx had htab (by decide) (by decide) bw_77 (by simp [EL]) (fun q hq => absurd hq List.not_mem_nil) bw_677 bw_678 bw_679 bw_2 bw_680 2 (by decide +kernel) rfl (rng_nd _) rng_ps rfl he ⟨show fr + 1 ≤ 10 by omega, show 8 + (3 + 11) + lo ≤ 340 by omega⟩ (Nat.le_of_ble_eq_true rfl) ⟨Nat.le_of_eq (Nat.zero_add _), Nat.le_of_eq (Nat.zero_add _)⟩ rfl dL_collectedReading_5 ?_
  intro q
  rw [wput_pre (fst_len had)]
  refine z_astore hC dL_collectedReading_13 (by decide) rfl ?_
  refine z_iconst (v := 1) hC dL_collectedReading_15 (by decide) ?_
  exact z_iret hC hr dL_collectedReading_16 (Nat.le_of_eq (Nat.zero_add _)) (Nat.le_of_eq (Nat.zero_add _)) (wa := wc2 ++ [zo ct ao g]) (wb := []) ⟨1, wc2, g, rfl, rfl, rfl, rfl, rfl, rfl⟩ (List.append_nil _).symm (zo_adr had)

set_option maxRecDepth 100000 in
set_option maxHeartbeats 1000000 in
theorem hx_collectedReading_2 (l : Launch) (D : va_G) (ct : Nat → ClassId) (ao b : Nat) (g : Nat → Int64) (a1 : Int32) (a2 : Int32) (wc wc2 : va_W) (fs : List Value) {fr lo mc ms : Nat} (hfr : fr ≤ 9) (hlo : lo ≤ 300) (hM : zX l D ct yX4_collectedReading cX4_collectedReading 3 (some .int) fr lo mc ms [.ref b, .int a1, .int a2] wc wc2 xIAE) (had : wc2.map Prod.fst = wc.map Prod.fst) (he : wc[0]? = some (b, .inr (4, fs))) : zL l D ct yL_collectedReading cL_collectedReading 5 (some .int) [(0, 10, 13, 13), (0, 10, 17, 15)] 10 340 mc ms [.ref b, .int a1, .int a2, .ref ao] (wc ++ [zo ct ao g]) (zLP ct ao (fun k wc' wb g' => k = 2 ∧ wc' = wc2 ∧ wb = [] ∧ g' = g)) := by
  refine zL_of ([some (.ref b), some (.int a1), some (.int a2), some (.ref ao), none]) (by decide +kernel) rfl (Nat.le_of_ble_eq_true rfl) ?_
  intro p e s m args below meth c hC hx hr htab
  refine z_aload_n hC dL_collectedReading_0 rfl ?_
  refine z_iconst (v := 0) hC dL_collectedReading_1 (by decide) ?_
  refine z_aload_n hC dL_collectedReading_2 rfl ?_
  refine z_iload_n hC dL_collectedReading_3 rfl ?_
  refine z_iload_n hC dL_collectedReading_4 rfl ?_
  have hpre : ∀ q ∈ ([(0, 10, 13, 13)] : List (Nat × Nat × Nat × Nat)), q.2.2.2 ≠ 0 ∧ ∃ nm : String, Cond.classLink RL q.2.2.2 nm ∈ BW ∧ (xIAE, nm) ∈ NL := by
    intro q hq
    rcases List.mem_cons.mp hq with rfl | hq
    · exact ⟨by decide, xIOB, bw_77, by simp [NL]⟩
    exact absurd hq List.not_mem_nil
  refine z_callVX (List.range wc.length) 0 4 (pre := [(0, 10, 13, 13)]) (suf := []) (s0 := 0) (s1 := 10) (hpc := 17) (kt := 15) hC hM hx had htab (by decide) (by decide) bw_78 (by simp [EL]) hpre bw_677 bw_678 bw_679 bw_2 bw_680 2 (by decide +kernel) rfl (rng_nd _) rng_ps rfl he ⟨show fr + 1 ≤ 10 by omega, show 8 + (3 + 11) + lo ≤ 340 by omega⟩ (Nat.le_of_ble_eq_true rfl) ⟨Nat.le_of_eq (Nat.zero_add _), Nat.le_of_eq (Nat.zero_add _)⟩ rfl dL_collectedReading_5 ?_
  intro q
  rw [wput_pre (fst_len had)]
  refine z_astore hC dL_collectedReading_17 (by decide) rfl ?_
  refine z_iconst (v := 2) hC dL_collectedReading_19 (by decide) ?_
  exact z_iret hC hr dL_collectedReading_20 (Nat.le_of_eq (Nat.zero_add _)) (Nat.le_of_eq (Nat.zero_add _)) (wa := wc2 ++ [zo ct ao g]) (wb := []) ⟨2, wc2, g, rfl, rfl, rfl, rfl, rfl, rfl⟩ (List.append_nil _).symm (zo_adr had)

set_option maxRecDepth 100000 in
set_option maxHeartbeats 1000000 in
theorem hk_copies (l : Launch) (D : va_G) (ct : Nat → ClassId) (ao b : Nat) (g : Nat → Int64) (a1 : Int32) (a2 : Int32) (wc : va_W) (fs : List Value) (po : Option Value → va_W → va_W → Prop) {fr lo mc ms : Nat} (hfr : fr ≤ 9) (hlo : lo ≤ 300) (hM : zT l D ct yX4_copies cX4_copies 4 (some .int) fr lo mc ms [.ref b, .int a1, .int a2] wc po) (he : wc[0]? = some (b, .inr (4, fs))) (hpo : ∀ v wa wb, po v wa wb → ∃ x : Int32, v = some (.int x)) : zL l D ct yL_copies cL_copies 5 (some .int) [(0, 10, 13, 13)] 10 340 mc ms [.ref b, .int a1, .int a2, .ref ao] (wc ++ [zo ct ao g]) (zLP ct ao (fun k wc' wb g' => k = 0 ∧ ∃ x : Int32, po (some (.int x)) wc' wb ∧ g' = vp_updL g 0 x.toInt64)) := by
  refine zL_of ([some (.ref b), some (.int a1), some (.int a2), some (.ref ao), none]) (by decide +kernel) rfl (Nat.le_of_ble_eq_true rfl) ?_
  intro p e s m args below meth c hC hx hr htab
  refine z_aload_n hC dL_copies_0 rfl ?_
  refine z_iconst (v := 0) hC dL_copies_1 (by decide) ?_
  refine z_aload_n hC dL_copies_2 rfl ?_
  refine z_iload_n hC dL_copies_3 rfl ?_
  refine z_iload_n hC dL_copies_4 rfl ?_
  refine z_callV (List.range wc.length) 0 4 hC hM bw_688 bw_689 bw_690 bw_2 bw_691 2 (by decide +kernel) rfl (rng_nd _) rng_ps rfl he ⟨show fr + 1 ≤ 10 by omega, show 8 + (4 + 11) + lo ≤ 340 by omega⟩ (Nat.le_of_ble_eq_true rfl) ⟨Nat.le_of_eq (Nat.zero_add _), Nat.le_of_eq (Nat.zero_add _)⟩ rfl dL_copies_5 ?_
  intro v wa wb hp1 had
  obtain ⟨x, rfl⟩ := hpo _ _ _ hp1
  rw [wput_pre (fst_len had)]
  refine z_i2l hC dL_copies_8 ?_
  refine z_lastore wa.length (w' := (wa ++ [zo ct ao (vp_updL g 0 x.toInt64)]) ++ wb) hC zo_at dL_copies_9 zo_set ?_
  refine z_goto hC 17 dL_copies_10 (by decide) ?_
  refine z_iconst (v := 0) hC dL_copies_17 (by decide) ?_
  exact z_iret hC hr dL_copies_18 (Nat.le_of_eq (Nat.zero_add _)) (Nat.le_of_eq (Nat.zero_add _)) (wa := wa ++ [zo ct ao (vp_updL g 0 x.toInt64)]) (wb := wb) ⟨0, wa, _, rfl, rfl, rfl, x, hp1, rfl⟩ rfl (zo_adr had)

set_option maxRecDepth 100000 in
set_option maxHeartbeats 1000000 in
theorem hx_copies_1 (l : Launch) (D : va_G) (ct : Nat → ClassId) (ao b : Nat) (g : Nat → Int64) (a1 : Int32) (a2 : Int32) (wc wc2 : va_W) (fs : List Value) {fr lo mc ms : Nat} (hfr : fr ≤ 9) (hlo : lo ≤ 300) (hM : zX l D ct yX4_copies cX4_copies 4 (some .int) fr lo mc ms [.ref b, .int a1, .int a2] wc wc2 xIOB) (had : wc2.map Prod.fst = wc.map Prod.fst) (he : wc[0]? = some (b, .inr (4, fs))) : zL l D ct yL_copies cL_copies 5 (some .int) [(0, 10, 13, 13)] 10 340 mc ms [.ref b, .int a1, .int a2, .ref ao] (wc ++ [zo ct ao g]) (zLP ct ao (fun k wc' wb g' => k = 1 ∧ wc' = wc2 ∧ wb = [] ∧ g' = g)) := by
  refine zL_of ([some (.ref b), some (.int a1), some (.int a2), some (.ref ao), none]) (by decide +kernel) rfl (Nat.le_of_ble_eq_true rfl) ?_
  intro p e s m args below meth c hC hx hr htab
  refine z_aload_n hC dL_copies_0 rfl ?_
  refine z_iconst (v := 0) hC dL_copies_1 (by decide) ?_
  refine z_aload_n hC dL_copies_2 rfl ?_
  refine z_iload_n hC dL_copies_3 rfl ?_
  refine z_iload_n hC dL_copies_4 rfl ?_
  refine z_callVX (List.range wc.length) 0 4 (pre := []) (suf := []) (s0 := 0) (s1 := 10) (hpc := 13) (kt := 13) hC hM hx had htab (by decide) (by decide) bw_77 (by simp [EL]) (fun q hq => absurd hq List.not_mem_nil) bw_688 bw_689 bw_690 bw_2 bw_691 2 (by decide +kernel) rfl (rng_nd _) rng_ps rfl he ⟨show fr + 1 ≤ 10 by omega, show 8 + (4 + 11) + lo ≤ 340 by omega⟩ (Nat.le_of_ble_eq_true rfl) ⟨Nat.le_of_eq (Nat.zero_add _), Nat.le_of_eq (Nat.zero_add _)⟩ rfl dL_copies_5 ?_
  intro q
  rw [wput_pre (fst_len had)]
  refine z_astore hC dL_copies_13 (by decide) rfl ?_
  refine z_iconst (v := 1) hC dL_copies_15 (by decide) ?_
  exact z_iret hC hr dL_copies_16 (Nat.le_of_eq (Nat.zero_add _)) (Nat.le_of_eq (Nat.zero_add _)) (wa := wc2 ++ [zo ct ao g]) (wb := []) ⟨1, wc2, g, rfl, rfl, rfl, rfl, rfl, rfl⟩ (List.append_nil _).symm (zo_adr had)

set_option maxRecDepth 100000 in
set_option maxHeartbeats 1000000 in
theorem hk_ifRun (l : Launch) (D : va_G) (ct : Nat → ClassId) (ao b : Nat) (g : Nat → Int64) (a1 : Int32) (wc : va_W) (fs : List Value) (po : Option Value → va_W → va_W → Prop) {fr lo mc ms : Nat} (hfr : fr ≤ 9) (hlo : lo ≤ 300) (hM : zT l D ct yX4_ifRun cX4_ifRun 2 (some .int) fr lo mc ms [.ref b, .int a1] wc po) (he : wc[0]? = some (b, .inr (4, fs))) (hpo : ∀ v wa wb, po v wa wb → ∃ x : Int32, v = some (.int x)) : zL l D ct yL_ifRun cL_ifRun 4 (some .int) [(0, 9, 12, 15)] 10 340 mc ms [.ref b, .int a1, .ref ao] (wc ++ [zo ct ao g]) (zLP ct ao (fun k wc' wb g' => k = 0 ∧ ∃ x : Int32, po (some (.int x)) wc' wb ∧ g' = vp_updL g 0 x.toInt64)) := by
  refine zL_of ([some (.ref b), some (.int a1), some (.ref ao), none]) (by decide +kernel) rfl (Nat.le_of_ble_eq_true rfl) ?_
  intro p e s m args below meth c hC hx hr htab
  refine z_aload_n hC dL_ifRun_0 rfl ?_
  refine z_iconst (v := 0) hC dL_ifRun_1 (by decide) ?_
  refine z_aload_n hC dL_ifRun_2 rfl ?_
  refine z_iload_n hC dL_ifRun_3 rfl ?_
  refine z_callV (List.range wc.length) 0 4 hC hM bw_737 bw_738 bw_739 bw_2 bw_740 1 (by decide +kernel) rfl (rng_nd _) rng_ps rfl he ⟨show fr + 1 ≤ 10 by omega, show 8 + (2 + 11) + lo ≤ 340 by omega⟩ (Nat.le_of_ble_eq_true rfl) ⟨Nat.le_of_eq (Nat.zero_add _), Nat.le_of_eq (Nat.zero_add _)⟩ rfl dL_ifRun_4 ?_
  intro v wa wb hp1 had
  obtain ⟨x, rfl⟩ := hpo _ _ _ hp1
  rw [wput_pre (fst_len had)]
  refine z_i2l hC dL_ifRun_7 ?_
  refine z_lastore wa.length (w' := (wa ++ [zo ct ao (vp_updL g 0 x.toInt64)]) ++ wb) hC zo_at dL_ifRun_8 zo_set ?_
  refine z_goto hC 15 dL_ifRun_9 (by decide) ?_
  refine z_iconst (v := 0) hC dL_ifRun_15 (by decide) ?_
  exact z_iret hC hr dL_ifRun_16 (Nat.le_of_eq (Nat.zero_add _)) (Nat.le_of_eq (Nat.zero_add _)) (wa := wa ++ [zo ct ao (vp_updL g 0 x.toInt64)]) (wb := wb) ⟨0, wa, _, rfl, rfl, rfl, x, hp1, rfl⟩ rfl (zo_adr had)

set_option maxRecDepth 100000 in
set_option maxHeartbeats 1000000 in
theorem hx_ifRun_1 (l : Launch) (D : va_G) (ct : Nat → ClassId) (ao b : Nat) (g : Nat → Int64) (a1 : Int32) (wc wc2 : va_W) (fs : List Value) {fr lo mc ms : Nat} (hfr : fr ≤ 9) (hlo : lo ≤ 300) (hM : zX l D ct yX4_ifRun cX4_ifRun 2 (some .int) fr lo mc ms [.ref b, .int a1] wc wc2 xIAE) (had : wc2.map Prod.fst = wc.map Prod.fst) (he : wc[0]? = some (b, .inr (4, fs))) : zL l D ct yL_ifRun cL_ifRun 4 (some .int) [(0, 9, 12, 15)] 10 340 mc ms [.ref b, .int a1, .ref ao] (wc ++ [zo ct ao g]) (zLP ct ao (fun k wc' wb g' => k = 1 ∧ wc' = wc2 ∧ wb = [] ∧ g' = g)) := by
  refine zL_of ([some (.ref b), some (.int a1), some (.ref ao), none]) (by decide +kernel) rfl (Nat.le_of_ble_eq_true rfl) ?_
  intro p e s m args below meth c hC hx hr htab
  refine z_aload_n hC dL_ifRun_0 rfl ?_
  refine z_iconst (v := 0) hC dL_ifRun_1 (by decide) ?_
  refine z_aload_n hC dL_ifRun_2 rfl ?_
  refine z_iload_n hC dL_ifRun_3 rfl ?_
  refine z_callVX (List.range wc.length) 0 4 (pre := []) (suf := []) (s0 := 0) (s1 := 9) (hpc := 12) (kt := 15) hC hM hx had htab (by decide) (by decide) bw_78 (by simp [EL]) (fun q hq => absurd hq List.not_mem_nil) bw_737 bw_738 bw_739 bw_2 bw_740 1 (by decide +kernel) rfl (rng_nd _) rng_ps rfl he ⟨show fr + 1 ≤ 10 by omega, show 8 + (2 + 11) + lo ≤ 340 by omega⟩ (Nat.le_of_ble_eq_true rfl) ⟨Nat.le_of_eq (Nat.zero_add _), Nat.le_of_eq (Nat.zero_add _)⟩ rfl dL_ifRun_4 ?_
  intro q
  rw [wput_pre (fst_len had)]
  refine z_astore_n hC dL_ifRun_12 (by decide) rfl ?_
  refine z_iconst (v := 1) hC dL_ifRun_13 (by decide) ?_
  exact z_iret hC hr dL_ifRun_14 (Nat.le_of_eq (Nat.zero_add _)) (Nat.le_of_eq (Nat.zero_add _)) (wa := wc2 ++ [zo ct ao g]) (wb := []) ⟨1, wc2, g, rfl, rfl, rfl, rfl, rfl, rfl⟩ (List.append_nil _).symm (zo_adr had)

set_option maxRecDepth 100000 in
set_option maxHeartbeats 1000000 in
theorem hk_count (l : Launch) (D : va_G) (ct : Nat → ClassId) (ao b : Nat) (g : Nat → Int64) (a1 : Int32) (wc : va_W) (fs : List Value) (po : Option Value → va_W → va_W → Prop) {fr lo mc ms : Nat} (hfr : fr ≤ 9) (hlo : lo ≤ 300) (hM : zT l D ct yX4_count cX4_count 2 (some .int) fr lo mc ms [.ref b, .int a1] wc po) (he : wc[0]? = some (b, .inr (4, fs))) (hpo : ∀ v wa wb, po v wa wb → ∃ x : Int32, v = some (.int x)) : zL l D ct yL_count cL_count 4 (some .int) [(0, 9, 12, 15)] 10 340 mc ms [.ref b, .int a1, .ref ao] (wc ++ [zo ct ao g]) (zLP ct ao (fun k wc' wb g' => k = 0 ∧ ∃ x : Int32, po (some (.int x)) wc' wb ∧ g' = vp_updL g 0 x.toInt64)) := by
  refine zL_of ([some (.ref b), some (.int a1), some (.ref ao), none]) (by decide +kernel) rfl (Nat.le_of_ble_eq_true rfl) ?_
  intro p e s m args below meth c hC hx hr htab
  refine z_aload_n hC dL_count_0 rfl ?_
  refine z_iconst (v := 0) hC dL_count_1 (by decide) ?_
  refine z_aload_n hC dL_count_2 rfl ?_
  refine z_iload_n hC dL_count_3 rfl ?_
  refine z_callV (List.range wc.length) 0 4 hC hM bw_756 bw_757 bw_758 bw_2 bw_759 1 (by decide +kernel) rfl (rng_nd _) rng_ps rfl he ⟨show fr + 1 ≤ 10 by omega, show 8 + (2 + 11) + lo ≤ 340 by omega⟩ (Nat.le_of_ble_eq_true rfl) ⟨Nat.le_of_eq (Nat.zero_add _), Nat.le_of_eq (Nat.zero_add _)⟩ rfl dL_count_4 ?_
  intro v wa wb hp1 had
  obtain ⟨x, rfl⟩ := hpo _ _ _ hp1
  rw [wput_pre (fst_len had)]
  refine z_i2l hC dL_count_7 ?_
  refine z_lastore wa.length (w' := (wa ++ [zo ct ao (vp_updL g 0 x.toInt64)]) ++ wb) hC zo_at dL_count_8 zo_set ?_
  refine z_goto hC 15 dL_count_9 (by decide) ?_
  refine z_iconst (v := 0) hC dL_count_15 (by decide) ?_
  exact z_iret hC hr dL_count_16 (Nat.le_of_eq (Nat.zero_add _)) (Nat.le_of_eq (Nat.zero_add _)) (wa := wa ++ [zo ct ao (vp_updL g 0 x.toInt64)]) (wb := wb) ⟨0, wa, _, rfl, rfl, rfl, x, hp1, rfl⟩ rfl (zo_adr had)

set_option maxRecDepth 100000 in
set_option maxHeartbeats 1000000 in
theorem hx_count_1 (l : Launch) (D : va_G) (ct : Nat → ClassId) (ao b : Nat) (g : Nat → Int64) (a1 : Int32) (wc wc2 : va_W) (fs : List Value) {fr lo mc ms : Nat} (hfr : fr ≤ 9) (hlo : lo ≤ 300) (hM : zX l D ct yX4_count cX4_count 2 (some .int) fr lo mc ms [.ref b, .int a1] wc wc2 xIAE) (had : wc2.map Prod.fst = wc.map Prod.fst) (he : wc[0]? = some (b, .inr (4, fs))) : zL l D ct yL_count cL_count 4 (some .int) [(0, 9, 12, 15)] 10 340 mc ms [.ref b, .int a1, .ref ao] (wc ++ [zo ct ao g]) (zLP ct ao (fun k wc' wb g' => k = 1 ∧ wc' = wc2 ∧ wb = [] ∧ g' = g)) := by
  refine zL_of ([some (.ref b), some (.int a1), some (.ref ao), none]) (by decide +kernel) rfl (Nat.le_of_ble_eq_true rfl) ?_
  intro p e s m args below meth c hC hx hr htab
  refine z_aload_n hC dL_count_0 rfl ?_
  refine z_iconst (v := 0) hC dL_count_1 (by decide) ?_
  refine z_aload_n hC dL_count_2 rfl ?_
  refine z_iload_n hC dL_count_3 rfl ?_
  refine z_callVX (List.range wc.length) 0 4 (pre := []) (suf := []) (s0 := 0) (s1 := 9) (hpc := 12) (kt := 15) hC hM hx had htab (by decide) (by decide) bw_78 (by simp [EL]) (fun q hq => absurd hq List.not_mem_nil) bw_756 bw_757 bw_758 bw_2 bw_759 1 (by decide +kernel) rfl (rng_nd _) rng_ps rfl he ⟨show fr + 1 ≤ 10 by omega, show 8 + (2 + 11) + lo ≤ 340 by omega⟩ (Nat.le_of_ble_eq_true rfl) ⟨Nat.le_of_eq (Nat.zero_add _), Nat.le_of_eq (Nat.zero_add _)⟩ rfl dL_count_4 ?_
  intro q
  rw [wput_pre (fst_len had)]
  refine z_astore_n hC dL_count_12 (by decide) rfl ?_
  refine z_iconst (v := 1) hC dL_count_13 (by decide) ?_
  exact z_iret hC hr dL_count_14 (Nat.le_of_eq (Nat.zero_add _)) (Nat.le_of_eq (Nat.zero_add _)) (wa := wc2 ++ [zo ct ao g]) (wb := []) ⟨1, wc2, g, rfl, rfl, rfl, rfl, rfl, rfl⟩ (List.append_nil _).symm (zo_adr had)
