/-! P36: THE LAW, piece by piece -/
theorem tk5_in {γ : TB} {hs : List TB} (h : γ ∈ tk5 hs) : γ ∈ hs := List.mem_of_mem_take (List.mem_of_mem_take (List.mem_of_mem_take (List.mem_of_mem_take (List.mem_of_mem_take h))))
theorem tk6_in {γ : TB} {hs : List TB} (h : γ ∈ tk6 hs) : γ ∈ hs := tk5_in (List.mem_of_mem_take h)
theorem push_in {σ γ : TB} {hs : List TB} (h : γ ∈ push σ hs) : γ = σ ∨ γ ∈ hs := List.mem_cons.mp (List.mem_of_mem_take h)
theorem push_lt {σ : TB} {hs : List TB} (h : hs.length < 6) : push σ hs = σ :: hs := List.take_of_length_le (by rw [List.length_cons]; omega)
theorem push_len {σ : TB} {hs : List TB} : (push σ hs).length = if hs.length < 6 then hs.length + 1 else 6 := by
  unfold push
  rw [List.length_take, List.length_cons]
  split <;> omega
theorem hOK_len {hs : List TB} {o z : Int32} {rg : Nat → Option Nat} {og : OG} (h : hOK hs o z rg og) : z = nI hs.length ∧ hs.length ≤ 6 := by
  obtain ⟨o', -, -, a, b, -⟩ := h
  exact ⟨a, b⟩
/-- whatever the state and the saved states are, the walk goes on from here -/
def LZ (p : Program) (l : Launch) (e : Env) (s : State) (m : MethodId) (args : Array Value) (below : List Frame) (meth : Method) (c : Code) (D : va_G) (A : Nat → Prop) (Q : State → Prop) (b : Nat) (qs qt qh qx : Nat → Nat) (ct : Nat → ClassId) (Bd cmax smax pc : Nat) (ls : List (Option Value)) : Prop :=
  ∀ (cells slots : Nat) (σ : TB) (hs : List TB) (ρ : TB) (o z : Int32) (rg : Nat → Option Nat) (og : OG), Inv Bd σ → (∀ γ ∈ hs, Inv Bd γ) → hOK hs o z rg og → cells ≤ cmax → slots ≤ smax → zG p l e room_1 s m args below meth c D A 10 Q cells slots pc ls [] (lwW b qs qt qh qx σ ρ o z rg og ct)
section LAW
variable {p : Program} {l : Launch} {e : Env} {s : State} {m : MethodId} {args : Array Value} {below : List Frame} {meth : Method} {c : Code} {D : va_G} {A : Nat → Prop} {Q : State → Prop} {ct : Nat → ClassId} {b0 b L k : Nat} {xs : Nat → Int32} {qs qt qh qx : Nat → Nat} {x y : Int32}

set_option maxRecDepth 100000 in
set_option maxHeartbeats 1000000 in
theorem law_309 (hC : zC p s m meth c args RL 10 cL_law D ct A) (hk : k < 46) {Bd cm sm_ : Nat} (K : LZ p l e s m args below meth c D A Q b qs qt qh qx ct Bd cm sm_ 30 [some (.ref b0), some (.ref b), some (.int 1), some (.int (nI (k + 1))), none, none, none, none, none, none]) : LZ p l e s m args below meth c D A Q b qs qt qh qx ct Bd cm sm_ 309 [some (.ref b0), some (.ref b), some (.int 1), some (.int (nI k)), some (.int x), some (.int y), none, none, none, none] := by
  intro cells slots σ hs ρ o z rg og hI hγ hok hcl hsl
  refine z_iconst (v := 1) hC dL_law_309 (by decide) ?_
  refine z_goto hC 314 dL_law_310 (by decide) ?_
  refine z_istore_n hC dL_law_314 (by decide) rfl ?_
  refine z_iinc (cn := 1) hC dL_law_315 (by decide) (by decide) rfl rfl ?_
  refine z_goto hC 30 dL_law_318 (by decide) ?_
  rw [nI_1]
  exact z_wk (ls_s (ls_s (ls_s (ls_s (ls_n (ls_n (ls_n (ls_n (ls_n (ls_n ls_0)))))))))) (K _ _ σ hs _ _ _ _ _ hI hγ hok hcl hsl)

set_option maxRecDepth 100000 in
set_option maxHeartbeats 1000000 in
theorem law_284 (hC : zC p s m meth c args RL 10 cL_law D ct A) (hk : k < 46) {Bd cm sm_ : Nat} (hB : Bd < 100000) (hcm : cm < 100000) (hsm : sm_ < 1000000) (K : LZ p l e s m args below meth c D A Q b qs qt qh qx ct Bd (cm + 96) (sm_ + 9798) 309 [some (.ref b0), some (.ref b), some (.int 1), some (.int (nI k)), some (.int x), some (.int y), none, none, none, none]) : LZ p l e s m args below meth c D A Q b qs qt qh qx ct Bd cm sm_ 284 [some (.ref b0), some (.ref b), some (.int 1), some (.int (nI k)), some (.int x), some (.int y), none, none, none, none] := by
  intro cells slots σ hs ρ o z rg og hI hγ hok hcl hsl
  by_cases hkk : k % 4 = 0
  · refine z_iload_n hC dL_law_284 rfl ?_
    refine z_iconst (v := 4) hC dL_law_285 (by decide) ?_
    refine z_irem hC dL_law_286 (by decide) ?_
    rw [show ((nI k) - (nI k) / 4 * 4) = (nI (k % 4)) from pk_rem (d := 4) (by omega) (by decide) (by decide)]
    refine z_if_gt hC 309 dL_law_287 (by decide) (fun c287 => absurd c287 (by rw [hkk]; decide)) (fun c287 => ?_)
    refine z_aload_n hC dL_law_290 rfl ?_
    refine z_iconst (v := 1) hC dL_law_291 (by decide) ?_
    refine z_iload hC dL_law_292 rfl ?_
    refine z_bipush (v := 6) hC dL_law_294 (by decide) ?_
    refine z_ishr hC dL_law_296 ?_
    refine z_bipush (v := 9) hC dL_law_297 (by decide) ?_
    refine z_callS [] hC (c_L_low l D ct (x >>> (6 &&& 31)) 9 (by decide) (by decide)) bw_263 bw_264 bw_62 bw_265 2 (by decide +kernel) rfl rfl rfl ⟨Nat.le_of_ble_eq_true rfl, Nat.le_of_ble_eq_true rfl⟩ (Nat.le_of_ble_eq_true rfl) ⟨by show _ ≤ 600130; omega, by show _ ≤ 7301080; omega⟩ rfl dL_law_299 ?_
    refine zkq (G := fun v1 w1 => zG p l e _ s m args below meth c D _ _ _ _ _ _ _ (v1.toList ++ _) w1) rfl ?_
    refine z_iadd hC dL_law_302 ?_
    rw [show ((1 : Int32) + (nI (lowN (x >>> (6 &&& 31)) 9))) = (nI (1 + lowN (x >>> (6 &&& 31)) 9)) from nI_add 1 _]
    have l9 := lowN_lt (x >>> (6 &&& 31)) (n := 9) (by omega)
    obtain ⟨t, ht, hT⟩ := Inv_t hI
    by_cases ht10 : t % 10 = 0
    · have h10 : ∀ t, t < 2 ^ 30 → σ 0 0 = nI t → t % 10 = 0 := fun u hu2 hu => by have e1 : t = u := (nI_eq (by omega) (by omega)).mp (hT.symm.trans hu); rw [← e1]; exact ht10
      refine z_callTW hC hok (c_L_joins0 l D ct b qs qt qh qx σ hs hI (by omega) (1 + lowN (x >>> (6 &&& 31)) 9) (by omega) (by omega) h10) bw_450 bw_451 bw_62 bw_452 2 (by decide +kernel) rfl ⟨Nat.le_of_ble_eq_true rfl, Nat.le_of_ble_eq_true rfl⟩ (Nat.le_of_ble_eq_true rfl) ⟨by show _ ≤ 600130; omega, by show _ ≤ 7301080; omega⟩ rfl dL_law_303 ?_
      intro ρ1 o1 z1 rg1 og1 hok1 hy1
      refine z_if_eq hC 313 dL_law_306 (by decide) (fun cn2 => absurd cn2 (by decide)) (fun cn2 => ?_)
      exact z_wk (ls_s (ls_s (ls_s (ls_s (ls_s (ls_s (ls_n (ls_n (ls_n (ls_n ls_0)))))))))) (K _ _ σ (tk5 hs) _ _ _ _ _ hI (fun γ h => hγ γ (tk5_in h)) hok1 (by omega) (by omega))
    · have h10 : ∀ t, t < 2 ^ 30 → σ 0 0 = nI t → t % 10 ≠ 0 := fun u hu2 hu => by have e1 : t = u := (nI_eq (by omega) (by omega)).mp (hT.symm.trans hu); rw [← e1]; exact ht10
      refine z_callTW hC hok (c_L_joins1 l D ct b qs qt qh qx σ hs hI (by omega) (1 + lowN (x >>> (6 &&& 31)) 9) (by omega) (by omega) h10) bw_450 bw_451 bw_62 bw_452 2 (by decide +kernel) rfl ⟨Nat.le_of_ble_eq_true rfl, Nat.le_of_ble_eq_true rfl⟩ (Nat.le_of_ble_eq_true rfl) ⟨by show _ ≤ 600130; omega, by show _ ≤ 7301080; omega⟩ rfl dL_law_303 ?_
      intro ρ3 o3 z3 rg3 og3 hok3 hy3
      refine z_if_eq hC 313 dL_law_306 (by decide) (fun cn4 => absurd cn4 (by decide)) (fun cn4 => ?_)
      exact z_wk (ls_s (ls_s (ls_s (ls_s (ls_s (ls_s (ls_n (ls_n (ls_n (ls_n ls_0)))))))))) (K _ _ σ (tk6 hs) _ _ _ _ _ hI (fun γ h => hγ γ (tk6_in h)) hok3 (by omega) (by omega))
  · refine z_iload_n hC dL_law_284 rfl ?_
    refine z_iconst (v := 4) hC dL_law_285 (by decide) ?_
    refine z_irem hC dL_law_286 (by decide) ?_
    rw [show ((nI k) - (nI k) / 4 * 4) = (nI (k % 4)) from pk_rem (d := 4) (by omega) (by decide) (by decide)]
    refine z_if_gt hC 309 dL_law_287 (by decide) (fun c287 => ?_) (fun c287 => (c287 (nI_lt (a := 0) (Nat.pos_of_ne_zero hkk) (by omega))).elim)
    exact z_wk (ls_s (ls_s (ls_s (ls_s (ls_s (ls_s (ls_n (ls_n (ls_n (ls_n ls_0)))))))))) (K _ _ σ hs _ _ _ _ _ hI hγ hok (by omega) (by omega))

set_option maxRecDepth 100000 in
set_option maxHeartbeats 1000000 in
theorem law_260 (hC : zC p s m meth c args RL 10 cL_law D ct A) (hk : k < 46) {Bd cm sm_ : Nat} (hB : Bd < 100000) (hcm : cm < 100000) (hsm : sm_ < 1000000) (K : LZ p l e s m args below meth c D A Q b qs qt qh qx ct Bd (cm + 16) (sm_ + 1633) 284 [some (.ref b0), some (.ref b), some (.int 1), some (.int (nI k)), some (.int x), some (.int y), none, none, none, none]) : LZ p l e s m args below meth c D A Q b qs qt qh qx ct Bd cm sm_ 260 [some (.ref b0), some (.ref b), some (.int 1), some (.int (nI k)), some (.int x), some (.int y), none, none, none, none] := by
  intro cells slots σ hs ρ o z rg og hI hγ hok hcl hsl
  by_cases hkk : k % 2 = 0
  · refine z_iload_n hC dL_law_260 rfl ?_
    refine z_iconst (v := 2) hC dL_law_261 (by decide) ?_
    refine z_irem hC dL_law_262 (by decide) ?_
    rw [show ((nI k) - (nI k) / 2 * 2) = (nI (k % 2)) from pk_rem (d := 2) (by omega) (by decide) (by decide)]
    refine z_if_gt hC 284 dL_law_263 (by decide) (fun c263 => absurd c263 (by rw [hkk]; decide)) (fun c263 => ?_)
    refine z_aload_n hC dL_law_266 rfl ?_
    refine z_iconst (v := 1) hC dL_law_267 (by decide) ?_
    refine z_iload hC dL_law_268 rfl ?_
    refine z_iconst (v := 3) hC dL_law_270 (by decide) ?_
    refine z_ishr hC dL_law_271 ?_
    refine z_bipush (v := 100) hC dL_law_272 (by decide) ?_
    refine z_callS [] hC (c_L_low l D ct (y >>> (3 &&& 31)) 100 (by decide) (by decide)) bw_263 bw_264 bw_62 bw_265 2 (by decide +kernel) rfl rfl rfl ⟨Nat.le_of_ble_eq_true rfl, Nat.le_of_ble_eq_true rfl⟩ (Nat.le_of_ble_eq_true rfl) ⟨by show _ ≤ 600130; omega, by show _ ≤ 7301080; omega⟩ rfl dL_law_274 ?_
    refine zkq (G := fun v1 w1 => zG p l e _ s m args below meth c D _ _ _ _ _ _ _ (v1.toList ++ _) w1) rfl ?_
    refine z_iadd hC dL_law_277 ?_
    rw [show ((1 : Int32) + (nI (lowN (y >>> (3 &&& 31)) 100))) = (nI (1 + lowN (y >>> (3 &&& 31)) 100)) from nI_add 1 _]
    have l9 := lowN_lt (y >>> (3 &&& 31)) (n := 100) (by omega)
    refine z_callTW hC hok (c_L_runs l D ct b qs qt qh qx σ hs hI (by omega) (1 + lowN (y >>> (3 &&& 31)) 100) (by omega) (by omega)) bw_436 bw_437 bw_62 bw_438 2 (by decide +kernel) rfl ⟨Nat.le_of_ble_eq_true rfl, Nat.le_of_ble_eq_true rfl⟩ (Nat.le_of_ble_eq_true rfl) ⟨by show _ ≤ 600130; omega, by show _ ≤ 7301080; omega⟩ rfl dL_law_278 ?_
    intro ρ1 o1 z1 rg1 og1 hok1 hy1
    refine z_if_eq hC 313 dL_law_281 (by decide) (fun cn2 => absurd cn2 (by decide)) (fun cn2 => ?_)
    exact z_wk (ls_s (ls_s (ls_s (ls_s (ls_s (ls_s (ls_n (ls_n (ls_n (ls_n ls_0)))))))))) (K _ _ σ (List.take 5 hs) _ _ _ _ _ hI (fun γ h => hγ γ (List.mem_of_mem_take h)) hok1 (by omega) (by omega))
  · refine z_iload_n hC dL_law_260 rfl ?_
    refine z_iconst (v := 2) hC dL_law_261 (by decide) ?_
    refine z_irem hC dL_law_262 (by decide) ?_
    rw [show ((nI k) - (nI k) / 2 * 2) = (nI (k % 2)) from pk_rem (d := 2) (by omega) (by decide) (by decide)]
    refine z_if_gt hC 284 dL_law_263 (by decide) (fun c263 => ?_) (fun c263 => (c263 (nI_lt (a := 0) (Nat.pos_of_ne_zero hkk) (by omega))).elim)
    exact z_wk (ls_s (ls_s (ls_s (ls_s (ls_s (ls_s (ls_n (ls_n (ls_n (ls_n ls_0)))))))))) (K _ _ σ hs _ _ _ _ _ hI hγ hok (by omega) (by omega))

set_option maxRecDepth 100000 in
set_option maxHeartbeats 1000000 in
theorem law_236 (hC : zC p s m meth c args RL 10 cL_law D ct A) (hk : k < 46) {Bd cm sm_ : Nat} (hB : Bd < 100000) (hcm : cm < 100000) (hsm : sm_ < 1000000) (K : LZ p l e s m args below meth c D A Q b qs qt qh qx ct Bd cm sm_ 260 [some (.ref b0), some (.ref b), some (.int 1), some (.int (nI k)), some (.int x), some (.int y), none, none, none, none]) : LZ p l e s m args below meth c D A Q b qs qt qh qx ct Bd cm sm_ 236 [some (.ref b0), some (.ref b), some (.int 1), some (.int (nI k)), some (.int x), some (.int y), none, none, none, none] := by
  intro cells slots σ hs ρ o z rg og hI hγ hok hcl hsl
  refine z_iload_n hC dL_law_236 rfl ?_
  refine z_if_eq hC 313 dL_law_237 (by decide) (fun cn1 => absurd cn1 (by decide)) (fun cn1 => ?_)
  by_cases hkk : k % 3 = 0
  · refine z_iload_n hC dL_law_240 rfl ?_
    refine z_iconst (v := 3) hC dL_law_241 (by decide) ?_
    refine z_irem hC dL_law_242 (by decide) ?_
    rw [show ((nI k) - (nI k) / 3 * 3) = (nI (k % 3)) from pk_rem (d := 3) (by omega) (by decide) (by decide)]
    refine z_if_gt hC 260 dL_law_243 (by decide) (fun c243 => absurd c243 (by rw [hkk]; decide)) (fun c243 => ?_)
    refine z_aload_n hC dL_law_246 rfl ?_
    refine z_callS [0, 1, 2, 3, 4, 5, 6, 7, 8, 9, 10, 11, 12, 13, 14, 15, 16] hC (n_nodes l D ct b qs qt qh qx σ hI (by omega)) bw_60 bw_61 bw_62 bw_63 1 (by decide +kernel) rfl rfl rfl ⟨Nat.le_of_ble_eq_true rfl, Nat.le_of_ble_eq_true rfl⟩ (Nat.le_of_ble_eq_true rfl) ⟨by show _ ≤ 600130; omega, by show _ ≤ 7301080; omega⟩ rfl dL_law_247 ?_
    refine zkq (G := fun v1 w1 => zG p l e _ s m args below meth c D _ _ _ _ _ _ _ (v1.toList ++ _) w1) rfl ?_
    refine z_if_eq hC 313 dL_law_250 (by decide) (fun cn2 => absurd cn2 (by decide)) (fun cn2 => ?_)
    refine z_aload_n hC dL_law_253 rfl ?_
    refine z_callS [0, 1, 2, 3, 4, 5, 6, 7, 8, 9, 10, 11, 12, 13, 14, 15, 16] hC (n_readings l D ct b qs qt qh qx σ hI (by omega)) bw_144 bw_145 bw_62 bw_146 1 (by decide +kernel) rfl rfl rfl ⟨Nat.le_of_ble_eq_true rfl, Nat.le_of_ble_eq_true rfl⟩ (Nat.le_of_ble_eq_true rfl) ⟨by show _ ≤ 600130; omega, by show _ ≤ 7301080; omega⟩ rfl dL_law_254 ?_
    refine zkq (G := fun v1 w1 => zG p l e _ s m args below meth c D _ _ _ _ _ _ _ (v1.toList ++ _) w1) rfl ?_
    refine z_if_eq hC 313 dL_law_257 (by decide) (fun cn3 => absurd cn3 (by decide)) (fun cn3 => ?_)
    exact z_wk (ls_s (ls_s (ls_s (ls_s (ls_s (ls_s (ls_n (ls_n (ls_n (ls_n ls_0)))))))))) (K _ _ σ hs _ _ _ _ _ hI hγ hok (by omega) (by omega))
  · refine z_iload_n hC dL_law_240 rfl ?_
    refine z_iconst (v := 3) hC dL_law_241 (by decide) ?_
    refine z_irem hC dL_law_242 (by decide) ?_
    rw [show ((nI k) - (nI k) / 3 * 3) = (nI (k % 3)) from pk_rem (d := 3) (by omega) (by decide) (by decide)]
    refine z_if_gt hC 260 dL_law_243 (by decide) (fun c243 => ?_) (fun c243 => (c243 (nI_lt (a := 0) (Nat.pos_of_ne_zero hkk) (by omega))).elim)
    exact z_wk (ls_s (ls_s (ls_s (ls_s (ls_s (ls_s (ls_n (ls_n (ls_n (ls_n ls_0)))))))))) (K _ _ σ hs _ _ _ _ _ hI hγ hok (by omega) (by omega))

set_option maxRecDepth 100000 in
set_option maxHeartbeats 1000000 in
theorem law_105x (hC : zC p s m meth c args RL 10 cL_law D ct A) (hk : k < 46) {Bd cm sm_ : Nat} (hB : Bd < 100000) (hcm : cm < 100000) (hsm : sm_ < 1000000) (K : LZ p l e s m args below meth c D A Q b qs qt qh qx ct Bd cm sm_ 236 [some (.ref b0), some (.ref b), some (.int 1), some (.int (nI k)), some (.int x), some (.int y), none, none, none, none]) {cells slots : Nat} {ρ σ : TB} {hs : List TB} {o z T : Int32} {rg : Nat → Option Nat} {og : OG} (hI1 : Inv Bd σ) (hγ : ∀ γ ∈ hs, Inv Bd γ) (hok : hOK hs o z rg og) (hcl : cells ≤ cm) (hsl : slots ≤ sm_) (hT : T ≤ -1000000) : zG p l e room_1 s m args below meth c D A 10 Q cells slots 105 [some (.ref b0), some (.ref b), some (.int 1), some (.int (nI k)), some (.int x), some (.int y), some (.int (nI hs.length)), some (.long (prt σ)), none, none] [.int T] (lwW b qs qt qh qx σ ρ o z rg og ct) := by
  obtain rfl := (hOK_len hok).1
  refine z_istore hC dL_law_105 (by decide) rfl ?_
  refine z_iload hC dL_law_107 rfl ?_
  refine z_ldc (v := (-1000000)) hC bw_3 dL_law_109 ?_
  refine z_icmp_gt hC 142 dL_law_111 (by decide) (fun c111 => absurd c111 (i_nlt.mpr hT)) (fun c111 => ?_)
  refine z_aload_n hC dL_law_114 rfl ?_
  refine z_callV [0, 33, 34] 0 4 hC (c_X4_savedStates l D ct b qs qt qh qx o (nI hs.length) rg) bw_246 bw_247 bw_248 bw_2 bw_249 0 (by decide +kernel) rfl rfl rfl rfl rfl ⟨Nat.le_of_ble_eq_true rfl, Nat.le_of_ble_eq_true rfl⟩ (Nat.le_of_ble_eq_true rfl) ⟨by show _ ≤ 600130; omega, by show _ ≤ 7301080; omega⟩ rfl dL_law_115 ?_
  refine zkq (G := fun v1 w1 => zG p l e _ s m args below meth c D _ _ _ _ _ _ _ (v1.toList ++ _) w1) rfl ?_
  refine z_iload hC dL_law_118 rfl ?_
  refine z_icmp_ne hC 137 dL_law_120 (by decide) (fun c120 => (c120 rfl).elim) (fun c120 => ?_)
  refine z_aload_n hC dL_law_123 rfl ?_
  refine z_callS [0, 1, 2, 3, 4, 5, 6, 7, 8, 9, 10, 11, 12, 13, 14, 15, 16] hC (n_print l D ct b qs qt qh qx σ hI1) bw_250 bw_251 bw_62 bw_252 1 (by decide +kernel) rfl rfl rfl ⟨Nat.le_of_ble_eq_true rfl, Nat.le_of_ble_eq_true rfl⟩ (Nat.le_of_ble_eq_true rfl) ⟨by show _ ≤ 600130; omega, by show _ ≤ 7301080; omega⟩ rfl dL_law_124 ?_
  refine zkq (G := fun v1 w1 => zG p l e _ s m args below meth c D _ _ _ _ _ _ _ (v1.toList ++ _) w1) rfl ?_
  refine z_lload hC dL_law_127 rfl ?_
  refine z_lcmp hC dL_law_129 ?_
  refine z_if_ne hC 137 dL_law_130 (by decide) (fun c130 => (c130 (lg_self _)).elim) (fun c130 => ?_)
  refine z_iconst (v := 1) hC dL_law_133 (by decide) ?_
  refine z_goto hC 138 dL_law_134 (by decide) ?_
  refine z_istore_n hC dL_law_138 (by decide) rfl ?_
  refine z_goto hC 236 dL_law_139 (by decide) ?_
  exact z_wk (ls_s (ls_s (ls_s (ls_s (ls_s (ls_s (ls_n (ls_n (ls_n (ls_n ls_0)))))))))) (K _ _ σ hs _ _ _ _ _ hI1 hγ hok (by omega) (by omega))

set_option maxRecDepth 100000 in
set_option maxHeartbeats 1000000 in
theorem law_105a (hC : zC p s m meth c args RL 10 cL_law D ct A) (hk : k < 46) {Bd cm sm_ : Nat} (hB : Bd < 100000) (hcm : cm < 100000) (hsm : sm_ < 1000000) (K : LZ p l e s m args below meth c D A Q b qs qt qh qx ct Bd cm sm_ 236 [some (.ref b0), some (.ref b), some (.int 1), some (.int (nI k)), some (.int x), some (.int y), none, none, none, none]) {cells slots : Nat} {ρ σ σ1 : TB} {hs : List TB} {o z T : Int32} {rg : Nat → Option Nat} {og : OG} (hI0 : Inv Bd σ) (hI1 : Inv Bd σ1) (hγ : ∀ γ ∈ hs, Inv Bd γ) (hok : hOK (push σ hs) o z rg og) (hT : -1000000 < T) (hlen : hs.length ≤ 6) (hcl : cells ≤ cm) (hsl : slots ≤ sm_) (hk5 : k ≤ 5) : zG p l e room_1 s m args below meth c D A 10 Q cells slots 105 [some (.ref b0), some (.ref b), some (.int 1), some (.int (nI k)), some (.int x), some (.int y), some (.int (nI hs.length)), some (.long (prt σ)), none, none] [.int T] (lwW b qs qt qh qx σ1 ρ o z rg og ct) := by
  obtain rfl := (hOK_len hok).1
  refine z_istore hC dL_law_105 (by decide) rfl ?_
  refine z_iload hC dL_law_107 rfl ?_
  refine z_ldc (v := (-1000000)) hC bw_3 dL_law_109 ?_
  refine z_icmp_gt hC 142 dL_law_111 (by decide) (fun c111 => ?_) (fun c111 => (c111 hT).elim)
  by_cases h6 : hs.length < 6
  · refine z_aload_n hC dL_law_142 rfl ?_
    refine z_callV [0, 33, 34] 0 4 hC (c_X4_savedStates l D ct b qs qt qh qx o (nI (push σ hs).length) rg) bw_246 bw_247 bw_248 bw_2 bw_249 0 (by decide +kernel) rfl rfl rfl rfl rfl ⟨Nat.le_of_ble_eq_true rfl, Nat.le_of_ble_eq_true rfl⟩ (Nat.le_of_ble_eq_true rfl) ⟨by show _ ≤ 600130; omega, by show _ ≤ 7301080; omega⟩ rfl dL_law_143 ?_
    refine zkq (G := fun v1 w1 => zG p l e _ s m args below meth c D _ _ _ _ _ _ _ (v1.toList ++ _) w1) rfl ?_
    refine z_iload hC dL_law_146 rfl ?_
    refine z_bipush (v := 6) hC dL_law_148 (by decide) ?_
    refine z_icmp_ge hC 160 dL_law_150 (by decide) (fun c150 => absurd c150 (nI_ge (a := hs.length) (b := 6) h6 (by decide))) (fun c150 => ?_)
    refine z_iload hC dL_law_153 rfl ?_
    refine z_iconst (v := 1) hC dL_law_155 (by decide) ?_
    refine z_iadd hC dL_law_156 ?_
    refine z_goto hC 162 dL_law_157 (by decide) ?_
    refine z_icmp_ne hC 169 dL_law_162 (by decide) (fun c162 => (c162 (by rw [push_len, if_pos h6, nI_1])).elim) (fun c162 => ?_)
    refine z_iconst (v := 1) hC dL_law_165 (by decide) ?_
    refine z_goto hC 170 dL_law_166 (by decide) ?_
    refine z_istore_n hC dL_law_170 (by decide) rfl ?_
    refine z_iload_n hC dL_law_171 rfl ?_
    refine z_if_eq hC 236 dL_law_172 (by decide) (fun cn1 => absurd cn1 (by decide)) (fun cn1 => ?_)
    refine z_iload_n hC dL_law_175 rfl ?_
    refine z_iconst (v := 5) hC dL_law_176 (by decide) ?_
    refine z_icmp_le hC 236 dL_law_177 (by decide) (fun c177 => ?_) (fun c177 => (c177 (nI_le (a := k) (b := 5) hk5 (by decide))).elim)
    exact z_wk (ls_s (ls_s (ls_s (ls_s (ls_s (ls_s (ls_n (ls_n (ls_n (ls_n ls_0)))))))))) (K _ _ σ1 (push σ hs) _ _ _ _ _ hI1 (fun γ h => (push_in h).elim (fun q => q ▸ hI0) (fun q => hγ γ q)) hok (by omega) (by omega))
  · have hl6 := hlen
    refine z_aload_n hC dL_law_142 rfl ?_
    refine z_callV [0, 33, 34] 0 4 hC (c_X4_savedStates l D ct b qs qt qh qx o (nI (push σ hs).length) rg) bw_246 bw_247 bw_248 bw_2 bw_249 0 (by decide +kernel) rfl rfl rfl rfl rfl ⟨Nat.le_of_ble_eq_true rfl, Nat.le_of_ble_eq_true rfl⟩ (Nat.le_of_ble_eq_true rfl) ⟨by show _ ≤ 600130; omega, by show _ ≤ 7301080; omega⟩ rfl dL_law_143 ?_
    refine zkq (G := fun v1 w1 => zG p l e _ s m args below meth c D _ _ _ _ _ _ _ (v1.toList ++ _) w1) rfl ?_
    refine z_iload hC dL_law_146 rfl ?_
    refine z_bipush (v := 6) hC dL_law_148 (by decide) ?_
    refine z_icmp_ge hC 160 dL_law_150 (by decide) (fun c150 => ?_) (fun c150 => (c150 (nI_le (a := 6) (b := hs.length) (by omega) (by omega))).elim)
    refine z_bipush (v := 6) hC dL_law_160 (by decide) ?_
    refine z_icmp_ne hC 169 dL_law_162 (by decide) (fun c162 => (c162 (by rw [push_len, if_neg h6]; rfl)).elim) (fun c162 => ?_)
    refine z_iconst (v := 1) hC dL_law_165 (by decide) ?_
    refine z_goto hC 170 dL_law_166 (by decide) ?_
    refine z_istore_n hC dL_law_170 (by decide) rfl ?_
    refine z_iload_n hC dL_law_171 rfl ?_
    refine z_if_eq hC 236 dL_law_172 (by decide) (fun cn2 => absurd cn2 (by decide)) (fun cn2 => ?_)
    refine z_iload_n hC dL_law_175 rfl ?_
    refine z_iconst (v := 5) hC dL_law_176 (by decide) ?_
    refine z_icmp_le hC 236 dL_law_177 (by decide) (fun c177 => ?_) (fun c177 => (c177 (nI_le (a := k) (b := 5) hk5 (by decide))).elim)
    exact z_wk (ls_s (ls_s (ls_s (ls_s (ls_s (ls_s (ls_n (ls_n (ls_n (ls_n ls_0)))))))))) (K _ _ σ1 (push σ hs) _ _ _ _ _ hI1 (fun γ h => (push_in h).elim (fun q => q ▸ hI0) (fun q => hγ γ q)) hok (by omega) (by omega))

set_option maxRecDepth 100000 in
set_option maxHeartbeats 1000000 in
theorem law_105b (hC : zC p s m meth c args RL 10 cL_law D ct A) (hk : k < 46) {Bd cm sm_ : Nat} (hB : Bd < 100000) (hcm : cm < 100000) (hsm : sm_ < 1000000) (K : LZ p l e s m args below meth c D A Q b qs qt qh qx ct Bd (cm + 16) (sm_ + 1633) 236 [some (.ref b0), some (.ref b), some (.int 1), some (.int (nI k)), some (.int x), some (.int y), none, none, none, none]) {cells slots : Nat} {ρ σ σ1 : TB} {hs : List TB} {o z T : Int32} {rg : Nat → Option Nat} {og : OG} (hI0 : Inv Bd σ) (hI1 : Inv Bd σ1) (hγ : ∀ γ ∈ hs, Inv Bd γ) (hok : hOK (push σ hs) o z rg og) (hT : -1000000 < T) (hX : wX A s s.heap) (hlf : l.stackTraces = false) (hlen : hs.length ≤ 6) (hcl : cells ≤ cm) (hsl : slots ≤ sm_) (hk5 : 5 < k) (hTe : (aO σ x y).1 = T) (hIa : Inv Bd (aO σ x y).2.1) (hγa : ∀ γ ∈ aH (aO σ x y).2.2 hs (push σ hs), Inv Bd γ) : zG p l e room_1 s m args below meth c D A 10 Q cells slots 105 [some (.ref b0), some (.ref b), some (.int 1), some (.int (nI k)), some (.int x), some (.int y), some (.int (nI hs.length)), some (.long (prt σ)), none, none] [.int T] (lwW b qs qt qh qx σ1 ρ o z rg og ct) := by
  obtain rfl := (hOK_len hok).1
  refine z_istore hC dL_law_105 (by decide) rfl ?_
  refine z_iload hC dL_law_107 rfl ?_
  refine z_ldc (v := (-1000000)) hC bw_3 dL_law_109 ?_
  refine z_icmp_gt hC 142 dL_law_111 (by decide) (fun c111 => ?_) (fun c111 => (c111 hT).elim)
  by_cases h6 : hs.length < 6
  · refine z_aload_n hC dL_law_142 rfl ?_
    refine z_callV [0, 33, 34] 0 4 hC (c_X4_savedStates l D ct b qs qt qh qx o (nI (push σ hs).length) rg) bw_246 bw_247 bw_248 bw_2 bw_249 0 (by decide +kernel) rfl rfl rfl rfl rfl ⟨Nat.le_of_ble_eq_true rfl, Nat.le_of_ble_eq_true rfl⟩ (Nat.le_of_ble_eq_true rfl) ⟨by show _ ≤ 600130; omega, by show _ ≤ 7301080; omega⟩ rfl dL_law_143 ?_
    refine zkq (G := fun v1 w1 => zG p l e _ s m args below meth c D _ _ _ _ _ _ _ (v1.toList ++ _) w1) rfl ?_
    refine z_iload hC dL_law_146 rfl ?_
    refine z_bipush (v := 6) hC dL_law_148 (by decide) ?_
    refine z_icmp_ge hC 160 dL_law_150 (by decide) (fun c150 => absurd c150 (nI_ge (a := hs.length) (b := 6) h6 (by decide))) (fun c150 => ?_)
    refine z_iload hC dL_law_153 rfl ?_
    refine z_iconst (v := 1) hC dL_law_155 (by decide) ?_
    refine z_iadd hC dL_law_156 ?_
    refine z_goto hC 162 dL_law_157 (by decide) ?_
    refine z_icmp_ne hC 169 dL_law_162 (by decide) (fun c162 => (c162 (by rw [push_len, if_pos h6, nI_1])).elim) (fun c162 => ?_)
    refine z_iconst (v := 1) hC dL_law_165 (by decide) ?_
    refine z_goto hC 170 dL_law_166 (by decide) ?_
    refine z_istore_n hC dL_law_170 (by decide) rfl ?_
    refine z_iload_n hC dL_law_171 rfl ?_
    refine z_if_eq hC 236 dL_law_172 (by decide) (fun cn1 => absurd cn1 (by decide)) (fun cn1 => ?_)
    refine z_iload_n hC dL_law_175 rfl ?_
    refine z_iconst (v := 5) hC dL_law_176 (by decide) ?_
    refine z_icmp_le hC 236 dL_law_177 (by decide) (fun c177 => absurd c177 (nI_ge (a := 5) (b := k) hk5 (by omega))) (fun c177 => ?_)
    refine z_iload hC dL_law_180 rfl ?_
    refine z_bipush (v := 6) hC dL_law_182 (by decide) ?_
    refine z_icmp_ge hC 236 dL_law_184 (by decide) (fun c184 => absurd c184 (nI_ge (a := hs.length) (b := 6) h6 (by decide))) (fun c184 => ?_)
    refine z_iload hC dL_law_187 rfl ?_
    refine z_iconst (v := 5) hC dL_law_189 (by decide) ?_
    refine z_ishr hC dL_law_190 ?_
    refine z_iconst (v := 3) hC dL_law_191 (by decide) ?_
    refine z_callS [] hC (c_L_low l D ct (y >>> (5 &&& 31)) 3 (by decide) (by decide)) bw_263 bw_264 bw_62 bw_265 2 (by decide +kernel) rfl rfl rfl ⟨Nat.le_of_ble_eq_true rfl, Nat.le_of_ble_eq_true rfl⟩ (Nat.le_of_ble_eq_true rfl) ⟨by show _ ≤ 600130; omega, by show _ ≤ 7301080; omega⟩ rfl dL_law_192 ?_
    refine zkq (G := fun v1 w1 => zG p l e _ s m args below meth c D _ _ _ _ _ _ _ (v1.toList ++ _) w1) rfl ?_
    refine z_if_ne hC 236 dL_law_195 (by decide) (fun c195 => ?_) (fun c195 => ?_)
    · exact z_wk (ls_s (ls_s (ls_s (ls_s (ls_s (ls_s (ls_n (ls_n (ls_n (ls_n ls_0)))))))))) (K _ _ σ1 (push σ hs) _ _ _ _ _ hI1 (fun γ h => (push_in h).elim (fun q => q ▸ hI0) (fun q => hγ γ q)) hok (by omega) (by omega))
    · rw [push_lt h6] at hok ⊢
      refine z_aload_n hC dL_law_198 rfl ?_
      refine z_callHW hC hok (w_undo l D ct b qs qt qh qx σ1 σ hs hI0) bw_423 bw_424 bw_62 bw_425 1 (by decide +kernel) rfl ⟨Nat.le_of_ble_eq_true rfl, Nat.le_of_ble_eq_true rfl⟩ (Nat.le_of_ble_eq_true rfl) ⟨by show _ ≤ 600130; omega, by show _ ≤ 7301080; omega⟩ rfl dL_law_199 ?_
      intro ρ2 o2 z2 rg2 og2 hok2 hy2
      refine z_iload hC dL_law_202 rfl ?_
      refine z_icmp_ne hC 234 dL_law_204 (by decide) (fun c204 => (c204 rfl).elim) (fun c204 => ?_)
      refine z_aload_n hC dL_law_207 rfl ?_
      refine z_callS [0, 1, 2, 3, 4, 5, 6, 7, 8, 9, 10, 11, 12, 13, 14, 15, 16] hC (n_print l D ct b qs qt qh qx σ hI0) bw_250 bw_251 bw_62 bw_252 1 (by decide +kernel) rfl rfl rfl ⟨Nat.le_of_ble_eq_true rfl, Nat.le_of_ble_eq_true rfl⟩ (Nat.le_of_ble_eq_true rfl) ⟨by show _ ≤ 600130; omega, by show _ ≤ 7301080; omega⟩ rfl dL_law_208 ?_
      refine zkq (G := fun v1 w1 => zG p l e _ s m args below meth c D _ _ _ _ _ _ _ (v1.toList ++ _) w1) rfl ?_
      refine z_lload hC dL_law_211 rfl ?_
      refine z_lcmp hC dL_law_213 ?_
      refine z_if_ne hC 234 dL_law_214 (by decide) (fun c214 => (c214 (lg_self _)).elim) (fun c214 => ?_)
      refine z_aload_n hC dL_law_217 rfl ?_
      refine z_iload hC dL_law_218 rfl ?_
      refine z_iload hC dL_law_220 rfl ?_
      refine z_callTXW hC hX hok2 (c_L_act l hlf D ct b qs qt qh qx σ hs hI0 x y) bw_310 bw_311 bw_62 bw_312 3 (by decide +kernel) rfl ⟨Nat.le_of_ble_eq_true rfl, Nat.le_of_ble_eq_true rfl⟩ (Nat.le_of_ble_eq_true rfl) ⟨by show _ ≤ 600130; omega, by show _ ≤ 7301080; omega⟩ rfl dL_law_222 ?_
      intro ρ3 o3 z3 rg3 og3 hok3 hy3
      refine z_iload hC dL_law_225 rfl ?_
      refine z_icmp_ne hC 234 dL_law_227 (by decide) (fun c227 => (c227 hTe).elim) (fun c227 => ?_)
      refine z_iconst (v := 1) hC dL_law_230 (by decide) ?_
      refine z_goto hC 235 dL_law_231 (by decide) ?_
      refine z_istore_n hC dL_law_235 (by decide) rfl ?_
      exact z_wk (ls_s (ls_s (ls_s (ls_s (ls_s (ls_s (ls_n (ls_n (ls_n (ls_n ls_0)))))))))) (K _ _ ((aO σ x y).2.1) (aH (aO σ x y).2.2 hs (push σ hs)) _ _ _ _ _ hIa hγa hok3 (by omega) (by omega))
  · have hl6 := hlen
    refine z_aload_n hC dL_law_142 rfl ?_
    refine z_callV [0, 33, 34] 0 4 hC (c_X4_savedStates l D ct b qs qt qh qx o (nI (push σ hs).length) rg) bw_246 bw_247 bw_248 bw_2 bw_249 0 (by decide +kernel) rfl rfl rfl rfl rfl ⟨Nat.le_of_ble_eq_true rfl, Nat.le_of_ble_eq_true rfl⟩ (Nat.le_of_ble_eq_true rfl) ⟨by show _ ≤ 600130; omega, by show _ ≤ 7301080; omega⟩ rfl dL_law_143 ?_
    refine zkq (G := fun v1 w1 => zG p l e _ s m args below meth c D _ _ _ _ _ _ _ (v1.toList ++ _) w1) rfl ?_
    refine z_iload hC dL_law_146 rfl ?_
    refine z_bipush (v := 6) hC dL_law_148 (by decide) ?_
    refine z_icmp_ge hC 160 dL_law_150 (by decide) (fun c150 => ?_) (fun c150 => (c150 (nI_le (a := 6) (b := hs.length) (by omega) (by omega))).elim)
    refine z_bipush (v := 6) hC dL_law_160 (by decide) ?_
    refine z_icmp_ne hC 169 dL_law_162 (by decide) (fun c162 => (c162 (by rw [push_len, if_neg h6]; rfl)).elim) (fun c162 => ?_)
    refine z_iconst (v := 1) hC dL_law_165 (by decide) ?_
    refine z_goto hC 170 dL_law_166 (by decide) ?_
    refine z_istore_n hC dL_law_170 (by decide) rfl ?_
    refine z_iload_n hC dL_law_171 rfl ?_
    refine z_if_eq hC 236 dL_law_172 (by decide) (fun cn4 => absurd cn4 (by decide)) (fun cn4 => ?_)
    refine z_iload_n hC dL_law_175 rfl ?_
    refine z_iconst (v := 5) hC dL_law_176 (by decide) ?_
    refine z_icmp_le hC 236 dL_law_177 (by decide) (fun c177 => absurd c177 (nI_ge (a := 5) (b := k) hk5 (by omega))) (fun c177 => ?_)
    refine z_iload hC dL_law_180 rfl ?_
    refine z_bipush (v := 6) hC dL_law_182 (by decide) ?_
    refine z_icmp_ge hC 236 dL_law_184 (by decide) (fun c184 => ?_) (fun c184 => (c184 (nI_le (a := 6) (b := hs.length) (by omega) (by omega))).elim)
    exact z_wk (ls_s (ls_s (ls_s (ls_s (ls_s (ls_s (ls_n (ls_n (ls_n (ls_n ls_0)))))))))) (K _ _ σ1 (push σ hs) _ _ _ _ _ hI1 (fun γ h => (push_in h).elim (fun q => q ▸ hI0) (fun q => hγ γ q)) hok (by omega) (by omega))

end LAW