/-! P36: THE LAW'S HELPERS THAT DO SOMETHING, over the whole world -/
theorem Inv_zb {σ : TB} {B : Nat} (h : Inv B σ) : zbit (σ 1) 100 ∧ zbit (σ 2) 10 := by
  obtain ⟨⟨κ, h1⟩, -⟩ := h
  exact Rel_zbit h1
theorem Inv_ok {σ : TB} {B : Nat} (h : Inv B σ) : okS σ := by
  obtain ⟨⟨κ, h1⟩, -⟩ := h
  exact Rel_okS h1
theorem zL_of_zH {l : Launch} {D : va_G} {ct : Nat → ClassId} {y : MethodName} {cc : ByteArray} {n : Nat} {ret : Option FieldType} {hh : List (Nat × Nat × Nat × Nat)} {fr lo mc ms : Nat} {av : List Value} {w : va_W} {po : Option Value → va_W → va_W → Prop} (h : zH l D ct y cc n ret hh fr lo mc ms av w po) : zL l D ct y cc n ret hh fr lo mc ms av w po := by
  intro sz
  refine MetFree.mono (h sz) (fun a U hp => ?_) (fun _ _ _ _ _ hk => hk) (fun _ _ _ _ _ hq => hq)
  obtain ⟨h1, h2, h3, -⟩ := hp
  exact ⟨h1, h2, h3⟩

set_option maxRecDepth 100000 in
set_option maxHeartbeats 1000000 in
theorem w_power (l : Launch) (D : va_G) (ct : Nat → ClassId) (b : Nat) (qs qt qh qx : Nat → Nat) (σ : TB) (hs : List TB) {B : Nat} (hI : Inv B σ) (k : Nat) (hk : k < 10) (v : Int32) : ∀ (ρ : TB) (o z : Int32) (rg : Nat → Option Nat) (og : OG), hOK hs o z rg og → zH l D ct yL_power cL_power 4 (some .int) [(0, 6, 7, 16)] 6 148 16 1633 [.ref b, .int (nI k), .int v] (lwW b qs qt qh qx σ ρ o z rg og ct) (lwP b qs qt qh qx og ct (some (.int (msOnCount (msSetPower σ (nI k) v)))) (msSetPower σ (nI k) v) (push σ hs)) := by
  intro ρ o z rg og hok
  refine zH_of ([some (.ref b), some (.int (nI k)), some (.int v), none]) (by decide +kernel) rfl (Nat.le_of_ble_eq_true rfl) ?_
  intro p e s m args below meth c hC hr
  refine z_aload_n hC dL_power_0 rfl ?_
  refine z_iload_n hC dL_power_1 rfl ?_
  refine z_iload_n hC dL_power_2 rfl ?_
  refine z_callSv (σ2 := msSetPower σ (nI k) v) (r := msOnCount (msSetPower σ (nI k) v)) hC hok rfl (fun o z rg og1 j hj hi hg => c_X4_power l D ct b qs qt qh qx σ o z rg og1 j hj hi hg (Inv_zb hI).1 (Inv_zb hI).2 (nI k) (nodeI hk) v) bw_316 bw_317 bw_318 bw_2 bw_319 2 (by decide +kernel) rfl ⟨Nat.le_of_ble_eq_true rfl, Nat.le_of_ble_eq_true rfl⟩ (Nat.le_of_ble_eq_true rfl) ⟨Nat.le_of_ble_eq_true rfl, Nat.le_of_ble_eq_true rfl⟩ rfl dL_power_3 ?_
  intro o1 z1 rg1 og1 hok1 hx1
  exact z_iretW hC hr dL_power_6 (Nat.le_of_eq (Nat.zero_add _)) (Nat.le_of_eq (Nat.zero_add _)) hok1 hx1

set_option maxRecDepth 100000 in
set_option maxHeartbeats 1000000 in
theorem w_jump (l : Launch) (D : va_G) (ct : Nat → ClassId) (b : Nat) (qs qt qh qx : Nat → Nat) (σ : TB) (hs : List TB) {B : Nat} (hI : Inv B σ) (k : Nat) (hk0 : 0 < k) (hk : k < 10) (x : Int32) (h1 : ¬ x < -100) (h2 : ¬ 100 < x) : ∀ (ρ : TB) (o z : Int32) (rg : Nat → Option Nat) (og : OG), hOK hs o z rg og → zH l D ct yL_jump cL_jump 4 (some .int) [(0, 6, 7, 16), (0, 6, 11, 19)] 6 148 16 1633 [.ref b, .int (nI k), .int x] (lwW b qs qt qh qx σ ρ o z rg og ct) (lwP b qs qt qh qx og ct (some (.int (σ 6 k + x))) (u2 σ 6 k (σ 6 k + x)) (push σ hs)) := by
  intro ρ o z rg og hok
  refine zH_of ([some (.ref b), some (.int (nI k)), some (.int x), none]) (by decide +kernel) rfl (Nat.le_of_ble_eq_true rfl) ?_
  intro p e s m args below meth c hC hr
  refine z_aload_n hC dL_jump_0 rfl ?_
  refine z_iload_n hC dL_jump_1 rfl ?_
  refine z_iload_n hC dL_jump_2 rfl ?_
  refine z_callSv (σ2 := u2 σ 6 k (σ 6 k + x)) (r := σ 6 k + x) hC hok rfl (fun o z rg og1 j hj hi hg => (by have h := c_X4_jump l D ct b qs qt qh qx σ o z rg og1 j hj hi hg (Inv_zb hI).1 (Inv_zb hI).2 (nI k) (meterI hk0 hk) x h1 h2; rw [cl10 hk] at h; exact h)) bw_329 bw_330 bw_331 bw_2 bw_332 2 (by decide +kernel) rfl ⟨Nat.le_of_ble_eq_true rfl, Nat.le_of_ble_eq_true rfl⟩ (Nat.le_of_ble_eq_true rfl) ⟨Nat.le_of_ble_eq_true rfl, Nat.le_of_ble_eq_true rfl⟩ rfl dL_jump_3 ?_
  intro o1 z1 rg1 og1 hok1 hx1
  exact z_iretW hC hr dL_jump_6 (Nat.le_of_eq (Nat.zero_add _)) (Nat.le_of_eq (Nat.zero_add _)) hok1 hx1

set_option maxRecDepth 100000 in
set_option maxHeartbeats 1000000 in
theorem w_setFaults (l : Launch) (D : va_G) (ct : Nat → ClassId) (b : Nat) (qs qt qh qx : Nat → Nat) (σ : TB) (hs : List TB) {B : Nat} (hI : Inv B σ) (k : Nat) (hk0 : 0 < k) (hk : k < 10) (x : Int32) (h1 : ¬ x < 0) (h2 : ¬ 9 < x) : ∀ (ρ : TB) (o z : Int32) (rg : Nat → Option Nat) (og : OG), hOK hs o z rg og → zH l D ct yL_setFaults cL_setFaults 4 (some .int) [(0, 6, 7, 16), (0, 6, 11, 19)] 6 149 16 1633 [.ref b, .int (nI k), .int x] (lwW b qs qt qh qx σ ρ o z rg og ct) (lwP b qs qt qh qx og ct (some (.int (σ 7 k))) (u2 σ 7 k x) (push σ hs)) := by
  intro ρ o z rg og hok
  refine zH_of ([some (.ref b), some (.int (nI k)), some (.int x), none]) (by decide +kernel) rfl (Nat.le_of_ble_eq_true rfl) ?_
  intro p e s m args below meth c hC hr
  refine z_aload_n hC dL_setFaults_0 rfl ?_
  refine z_iload_n hC dL_setFaults_1 rfl ?_
  refine z_iload_n hC dL_setFaults_2 rfl ?_
  refine z_callSv (σ2 := u2 σ 7 k x) (r := σ 7 k) hC hok rfl (fun o z rg og1 j hj hi hg => (by have h := c_X4_setFaults l D ct b qs qt qh qx σ o z rg og1 j hj hi hg (Inv_zb hI).1 (Inv_zb hI).2 (nI k) (meterI hk0 hk) x h1 h2; rw [cl10 hk] at h; exact h)) bw_336 bw_337 bw_338 bw_2 bw_339 2 (by decide +kernel) rfl ⟨Nat.le_of_ble_eq_true rfl, Nat.le_of_ble_eq_true rfl⟩ (Nat.le_of_ble_eq_true rfl) ⟨Nat.le_of_ble_eq_true rfl, Nat.le_of_ble_eq_true rfl⟩ rfl dL_setFaults_3 ?_
  intro o1 z1 rg1 og1 hok1 hx1
  exact z_iretW hC hr dL_setFaults_6 (Nat.le_of_eq (Nat.zero_add _)) (Nat.le_of_eq (Nat.zero_add _)) hok1 hx1

set_option maxRecDepth 100000 in
set_option maxHeartbeats 1000000 in
theorem w_setPatience (l : Launch) (D : va_G) (ct : Nat → ClassId) (b : Nat) (qs qt qh qx : Nat → Nat) (σ : TB) (hs : List TB) {B : Nat} (hI : Inv B σ) (x : Int32) (h1 : ¬ x < 1) (h2 : ¬ 5 < x) : ∀ (ρ : TB) (o z : Int32) (rg : Nat → Option Nat) (og : OG), hOK hs o z rg og → zH l D ct yL_setPatience cL_setPatience 3 (some .int) [(0, 5, 6, 19)] 6 148 16 1633 [.ref b, .int x] (lwW b qs qt qh qx σ ρ o z rg og ct) (lwP b qs qt qh qx og ct (some (.int (σ 0 1))) (u2 σ 0 1 x) (push σ hs)) := by
  intro ρ o z rg og hok
  refine zH_of ([some (.ref b), some (.int x), none]) (by decide +kernel) rfl (Nat.le_of_ble_eq_true rfl) ?_
  intro p e s m args below meth c hC hr
  refine z_aload_n hC dL_setPatience_0 rfl ?_
  refine z_iload_n hC dL_setPatience_1 rfl ?_
  refine z_callSv (σ2 := u2 σ 0 1 x) (r := σ 0 1) hC hok rfl (fun o z rg og1 j hj hi hg => c_X4_setPatience l D ct b qs qt qh qx σ o z rg og1 j hj hi hg (Inv_zb hI).1 (Inv_zb hI).2 x h1 h2) bw_343 bw_344 bw_345 bw_2 bw_346 1 (by decide +kernel) rfl ⟨Nat.le_of_ble_eq_true rfl, Nat.le_of_ble_eq_true rfl⟩ (Nat.le_of_ble_eq_true rfl) ⟨Nat.le_of_ble_eq_true rfl, Nat.le_of_ble_eq_true rfl⟩ rfl dL_setPatience_2 ?_
  intro o1 z1 rg1 og1 hok1 hx1
  exact z_iretW hC hr dL_setPatience_5 (Nat.le_of_eq (Nat.zero_add _)) (Nat.le_of_eq (Nat.zero_add _)) hok1 hx1

set_option maxRecDepth 100000 in
set_option maxHeartbeats 1000000 in
theorem w_run (l : Launch) (D : va_G) (ct : Nat → ClassId) (b : Nat) (qs qt qh qx : Nat → Nat) (σ : TB) (hs : List TB) {B : Nat} (hI : Inv B σ) (k : Nat) (hk0 : 0 < k) (hk : k ≤ 100) : ∀ (ρ : TB) (o z : Int32) (rg : Nat → Option Nat) (og : OG), hOK hs o z rg og → zH l D ct yL_run cL_run 3 (some .int) [(0, 5, 6, 19)] 7 173 16 1633 [.ref b, .int (nI k)] (lwW b qs qt qh qx σ ρ o z rg og ct) (lwP b qs qt qh qx og ct (some (.int (msRunR σ k))) (msRun σ k) (push σ hs)) := by
  intro ρ o z rg og hok
  have h1 : ¬ nI k < 1 := nI_nlt (a := k) (b := 1) (by omega) (by omega)
  have h2 : ¬ 100 < nI k := nI_nlt (a := 100) (b := k) (by omega) (by decide)
  refine zH_of ([some (.ref b), some (.int (nI k)), none]) (by decide +kernel) rfl (Nat.le_of_ble_eq_true rfl) ?_
  intro p e s m args below meth c hC hr
  refine z_aload_n hC dL_run_0 rfl ?_
  refine z_iload_n hC dL_run_1 rfl ?_
  refine z_callSv (σ2 := msRun σ k) (r := msRunR σ k) hC hok rfl (fun o z rg og1 j hj hi hg => (by have h := c_X4_run l D ct b qs qt qh qx σ o z rg og1 j hj hi hg (Inv_zb hI).1 (Inv_zb hI).2 (nI k) h1 h2 (Inv_ok hI); rw [nI_clamp (show k < 2 ^ 31 by omega)] at h; exact h)) bw_381 bw_382 bw_383 bw_2 bw_384 1 (by decide +kernel) rfl ⟨Nat.le_of_ble_eq_true rfl, Nat.le_of_ble_eq_true rfl⟩ (Nat.le_of_ble_eq_true rfl) ⟨Nat.le_of_ble_eq_true rfl, Nat.le_of_ble_eq_true rfl⟩ rfl dL_run_2 ?_
  intro o1 z1 rg1 og1 hok1 hx1
  exact z_iretW hC hr dL_run_5 (Nat.le_of_eq (Nat.zero_add _)) (Nat.le_of_eq (Nat.zero_add _)) hok1 hx1

set_option maxRecDepth 100000 in
set_option maxHeartbeats 1000000 in
theorem w_link (l : Launch) (D : va_G) (ct : Nat → ClassId) (b : Nat) (qs qt qh qx : Nat → Nat) (σ : TB) (hs : List TB) {B : Nat} (hI : Inv B σ) (i k : Nat) (hi10 : i < 10) (hk : k < 10) (hik : i ≠ k) (v : Int32) : ∀ (ρ : TB) (o z : Int32) (rg : Nat → Option Nat) (og : OG), hOK hs o z rg og → zH l D ct yL_link cL_link 5 (some .int) [(0, 7, 8, 16), (0, 7, 13, 19)] 6 149 16 1633 [.ref b, .int (nI i), .int (nI k), .int v] (lwW b qs qt qh qx σ ρ o z rg og ct) (lwP b qs qt qh qx og ct (some (.int (msLinks (msSetLink σ (nI i) (nI k) v)))) (msSetLink σ (nI i) (nI k) v) (push σ hs)) := by
  intro ρ o z rg og hok
  refine zH_of ([some (.ref b), some (.int (nI i)), some (.int (nI k)), some (.int v), none]) (by decide +kernel) rfl (Nat.le_of_ble_eq_true rfl) ?_
  intro p e s m args below meth c hC hr
  refine z_aload_n hC dL_link_0 rfl ?_
  refine z_iload_n hC dL_link_1 rfl ?_
  refine z_iload_n hC dL_link_2 rfl ?_
  refine z_iload_n hC dL_link_3 rfl ?_
  refine z_callSv (σ2 := msSetLink σ (nI i) (nI k) v) (r := msLinks (msSetLink σ (nI i) (nI k) v)) hC hok rfl (fun o z rg og1 j hj hi hg => c_X4_link l D ct b qs qt qh qx σ o z rg og1 j hj hi hg (Inv_zb hI).1 (Inv_zb hI).2 (nI i) (nI k) v (nodeI hi10) (nodeI hk) (fun q => hik ((nI_eq (by omega) (by omega)).mp q))) bw_270 bw_271 bw_272 bw_2 bw_273 3 (by decide +kernel) rfl ⟨Nat.le_of_ble_eq_true rfl, Nat.le_of_ble_eq_true rfl⟩ (Nat.le_of_ble_eq_true rfl) ⟨Nat.le_of_ble_eq_true rfl, Nat.le_of_ble_eq_true rfl⟩ rfl dL_link_4 ?_
  intro o1 z1 rg1 og1 hok1 hx1
  exact z_iretW hC hr dL_link_7 (Nat.le_of_eq (Nat.zero_add _)) (Nat.le_of_eq (Nat.zero_add _)) hok1 hx1

set_option maxRecDepth 100000 in
set_option maxHeartbeats 1000000 in
theorem w_take (l : Launch) (D : va_G) (ct : Nat → ClassId) (b : Nat) (qs qt qh qx : Nat → Nat) (σ : TB) (hs : List TB) {B : Nat} (hI : Inv B σ) (k : Nat) (hk0 : 0 < k) (hk : k < 10) (x : Int32) (h1 : ¬ x < 0) (h2 : ¬ 999 < x) (hct : msCanTake σ (nI k) = true) : ∀ (ρ : TB) (o z : Int32) (rg : Nat → Option Nat) (og : OG), hOK hs o z rg og → zH l D ct yL_take cL_take 4 (some .int) [(0, 6, 7, 16), (0, 6, 11, 19), (0, 6, 15, 40)] 6 148 16 1633 [.ref b, .int (nI k), .int x] (lwW b qs qt qh qx σ ρ o z rg og ct) (lwP b qs qt qh qx og ct (some (.int (msTakeR σ (nI k)))) (msTake σ (nI k) x) (push σ hs)) := by
  intro ρ o z rg og hok
  refine zH_of ([some (.ref b), some (.int (nI k)), some (.int x), none]) (by decide +kernel) rfl (Nat.le_of_ble_eq_true rfl) ?_
  intro p e s m args below meth c hC hr
  refine z_aload_n hC dL_take_0 rfl ?_
  refine z_iload_n hC dL_take_1 rfl ?_
  refine z_iload_n hC dL_take_2 rfl ?_
  refine z_callSv (σ2 := msTake σ (nI k) x) (r := msTakeR σ (nI k)) hC hok rfl (fun o z rg og1 j hj hi hg => c_X4_take l D ct b qs qt qh qx σ o z rg og1 j hj hi hg (Inv_zb hI).1 (Inv_zb hI).2 (nI k) (meterI hk0 hk) x h1 h2 hct (Inv_ok hI)) bw_352 bw_353 bw_354 bw_2 bw_355 2 (by decide +kernel) rfl ⟨Nat.le_of_ble_eq_true rfl, Nat.le_of_ble_eq_true rfl⟩ (Nat.le_of_ble_eq_true rfl) ⟨Nat.le_of_ble_eq_true rfl, Nat.le_of_ble_eq_true rfl⟩ rfl dL_take_3 ?_
  intro o1 z1 rg1 og1 hok1 hx1
  exact z_iretW hC hr dL_take_6 (Nat.le_of_eq (Nat.zero_add _)) (Nat.le_of_eq (Nat.zero_add _)) hok1 hx1

set_option maxRecDepth 100000 in
set_option maxHeartbeats 1000000 in
theorem w_undo (l : Launch) (D : va_G) (ct : Nat → ClassId) (b : Nat) (qs qt qh qx : Nat → Nat) (σ γ : TB) (hs : List TB) {B : Nat} (hI : Inv B γ) : ∀ (ρ : TB) (o z : Int32) (rg : Nat → Option Nat) (og : OG), hOK (γ :: hs) o z rg og → zH l D ct yL_undo cL_undo 2 (some .int) [(0, 4, 5, 40)] 5 124 0 0 [.ref b] (lwW b qs qt qh qx σ ρ o z rg og ct) (lwP b qs qt qh qx og ct (some (.int (nI hs.length))) γ hs) := by
  intro ρ o z rg og hok
  refine zH_of ([some (.ref b), none]) (by decide +kernel) rfl (Nat.le_of_ble_eq_true rfl) ?_
  intro p e s m args below meth c hC hr
  refine z_aload_n hC dL_undo_0 rfl ?_
  refine z_callUn hC hok rfl (fun gq o z rg j hz hj hi hg => c_X4_undo l D ct b qs qt qh qx gq σ γ o z rg j hz hj hi hg (Inv_zb hI).1 (Inv_zb hI).2) bw_426 bw_427 bw_428 bw_2 bw_429 (by decide +kernel) ⟨Nat.le_of_ble_eq_true rfl, Nat.le_of_ble_eq_true rfl⟩ (Nat.le_of_ble_eq_true rfl) ⟨Nat.le_of_ble_eq_true rfl, Nat.le_of_ble_eq_true rfl⟩ dL_undo_1 ?_
  intro o1 z1 rg1 og1 hok1 hx1
  exact z_iretW hC hr dL_undo_4 (Nat.le_of_eq (Nat.zero_add _)) (Nat.le_of_eq (Nat.zero_add _)) hok1 hx1

set_option maxRecDepth 100000 in
set_option maxHeartbeats 1000000 in
theorem w_ifRun (l : Launch) (D : va_G) (ct : Nat → ClassId) (b : Nat) (qs qt qh qx : Nat → Nat) (σ : TB) (hs : List TB) {B : Nat} (hI : Inv B σ) (k : Nat) (hk0 : 0 < k) (hk : k ≤ 100) : ∀ (ρ : TB) (o z : Int32) (rg : Nat → Option Nat) (og : OG), hOK hs o z rg og → zH l D ct yL_ifRun cL_ifRun 3 (some .int) [(0, 5, 6, 19)] 7 173 0 0 [.ref b, .int (nI k)] (lwW b qs qt qh qx σ ρ o z rg og ct) (lwP b qs qt qh qx og ct (some (.int (msRunR σ k))) σ hs) := by
  intro ρ o z rg og hok
  have h1 : ¬ nI k < 1 := nI_nlt (a := k) (b := 1) (by omega) (by omega)
  have h2 : ¬ 100 < nI k := nI_nlt (a := 100) (b := k) (by omega) (by decide)
  have hc := c_X4_ifRun l D ct b qs qt qh qx σ ρ (Inv_zb hI).1 (Inv_zb hI).2 (Inv_ok hI) (nI k) h1 h2
  rw [nI_clamp (show k < 2 ^ 31 by omega)] at hc
  refine zH_of ([some (.ref b), some (.int (nI k)), none]) (by decide +kernel) rfl (Nat.le_of_ble_eq_true rfl) ?_
  intro p e s m args below meth c hC hr
  refine z_aload_n hC dL_ifRun_0 rfl ?_
  refine z_iload_n hC dL_ifRun_1 rfl ?_
  refine z_callTr hC rfl hc bw_442 bw_443 bw_444 bw_2 bw_445 1 (by decide +kernel) rfl ⟨Nat.le_of_ble_eq_true rfl, Nat.le_of_ble_eq_true rfl⟩ (Nat.le_of_ble_eq_true rfl) ⟨Nat.le_of_ble_eq_true rfl, Nat.le_of_ble_eq_true rfl⟩ rfl dL_ifRun_2 ?_
  exact z_iretW hC hr dL_ifRun_5 (Nat.le_of_eq (Nat.zero_add _)) (Nat.le_of_eq (Nat.zero_add _)) hok oxt_rf

theorem hpL : ∀ q ∈ ([(0, 7, 8, 16)] : List (Nat × Nat × Nat × Nat)), q.2.2.2 ≠ 0 ∧ ∃ nm : String, Cond.classLink RL q.2.2.2 nm ∈ BW ∧ (xIAE, nm) ∈ NL := by
  intro q hq
  rcases List.mem_cons.mp hq with rfl | hq
  · exact ⟨by decide, xIOB, bw_68, by simp [NL]⟩
  · exact absurd hq List.not_mem_nil
theorem hpT : ∀ q ∈ ([(0, 6, 7, 16), (0, 6, 11, 19)] : List (Nat × Nat × Nat × Nat)), q.2.2.2 ≠ 0 ∧ ∃ nm : String, Cond.classLink RL q.2.2.2 nm ∈ BW ∧ (xISE, nm) ∈ NL := by
  intro q hq
  rcases List.mem_cons.mp hq with rfl | hq
  · exact ⟨by decide, xIOB, bw_68, by simp [NL]⟩
  rcases List.mem_cons.mp hq with rfl | hq
  · exact ⟨by decide, xIAE, bw_161, by simp [NL]⟩
  · exact absurd hq List.not_mem_nil

set_option maxRecDepth 100000 in
set_option maxHeartbeats 1000000 in
theorem w_linkX (l : Launch) (hlf : l.stackTraces = false) (D : va_G) (ct : Nat → ClassId) (b : Nat) (qs qt qh qx : Nat → Nat) (σ : TB) (hs : List TB) {B : Nat} (hI : Inv B σ) (k : Nat) (hk : k < 10) (v : Int32) : ∀ (ρ : TB) (o z : Int32) (rg : Nat → Option Nat) (og : OG), hOK hs o z rg og → zL l D ct yL_link cL_link 5 (some .int) [(0, 7, 8, 16), (0, 7, 13, 19)] 9 173 1 6 [.ref b, .int (nI k), .int (nI k), .int v] (lwW b qs qt qh qx σ ρ o z rg og ct) (lwP b qs qt qh qx og ct (some (.int (-1000002))) σ hs) := by
  intro ρ o z rg og hok
  refine zL_of ([some (.ref b), some (.int (nI k)), some (.int (nI k)), some (.int v), none]) (by decide +kernel) rfl (Nat.le_of_ble_eq_true rfl) ?_
  intro p e s m args below meth c hC hx hr htab
  refine z_aload_n hC dL_link_0 rfl ?_
  refine z_iload_n hC dL_link_1 rfl ?_
  refine z_iload_n hC dL_link_2 rfl ?_
  refine z_iload_n hC dL_link_3 rfl ?_
  refine z_callVX [0] 0 4 (pre := [(0, 7, 8, 16)]) (suf := []) (s0 := 0) (s1 := 7) (hpc := 13) (kt := 19) hC (x_X4_link_IAE l D ct b qs qt qh qx (nI k) (nI k) v (nodeI hk) (nodeI hk) rfl hlf) hx rfl htab (by decide) (by decide) bw_161 (by simp [EL]) hpL bw_270 bw_271 bw_272 bw_2 bw_273 3 (by decide +kernel) rfl (by decide) rfl rfl rfl ⟨Nat.le_of_ble_eq_true rfl, Nat.le_of_ble_eq_true rfl⟩ (Nat.le_of_ble_eq_true rfl) ⟨Nat.le_of_ble_eq_true rfl, Nat.le_of_ble_eq_true rfl⟩ rfl dL_link_4 ?_
  intro q
  refine zG_w (wput_same _ _ _ rfl) ?_
  refine z_astore hC dL_link_13 (by decide) rfl ?_
  refine z_ldc (v := -1000002) hC bw_162 dL_link_15 ?_
  exact z_iretW hC hr dL_link_17 (Nat.le_of_eq (Nat.zero_add _)) (Nat.le_of_eq (Nat.zero_add _)) hok oxt_rf

set_option maxRecDepth 100000 in
set_option maxHeartbeats 1000000 in
theorem w_takeX (l : Launch) (hlf : l.stackTraces = false) (D : va_G) (ct : Nat → ClassId) (b : Nat) (qs qt qh qx : Nat → Nat) (σ : TB) (hs : List TB) {B : Nat} (hI : Inv B σ) (k : Nat) (hk0 : 0 < k) (hk : k < 10) (x : Int32) (h1 : ¬ x < 0) (h2 : ¬ 999 < x) (hct : msCanTake σ (nI k) = false) : ∀ (ρ : TB) (o z : Int32) (rg : Nat → Option Nat) (og : OG), hOK hs o z rg og → zL l D ct yL_take cL_take 4 (some .int) [(0, 6, 7, 16), (0, 6, 11, 19), (0, 6, 15, 40)] 9 172 1 6 [.ref b, .int (nI k), .int x] (lwW b qs qt qh qx σ ρ o z rg og ct) (lwP b qs qt qh qx og ct (some (.int (-1000003))) σ hs) := by
  intro ρ o z rg og hok
  refine zL_of ([some (.ref b), some (.int (nI k)), some (.int x), none]) (by decide +kernel) rfl (Nat.le_of_ble_eq_true rfl) ?_
  intro p e s m args below meth c hC hx hr htab
  refine z_aload_n hC dL_take_0 rfl ?_
  refine z_iload_n hC dL_take_1 rfl ?_
  refine z_iload_n hC dL_take_2 rfl ?_
  refine z_callVX [0, 1, 2, 3, 4, 5, 6, 7, 8, 9, 10, 11, 12, 13, 14, 15, 16] 0 4 (pre := [(0, 6, 7, 16), (0, 6, 11, 19)]) (suf := []) (s0 := 0) (s1 := 6) (hpc := 15) (kt := 40) hC (x_X4_take_ISE l D ct b qs qt qh qx σ (nI k) x (meterI hk0 hk) h1 h2 hct hlf) hx rfl htab (by decide) (by decide) bw_350 (by simp [EL]) hpT bw_352 bw_353 bw_354 bw_2 bw_355 2 (by decide +kernel) rfl (by decide) rfl rfl rfl ⟨Nat.le_of_ble_eq_true rfl, Nat.le_of_ble_eq_true rfl⟩ (Nat.le_of_ble_eq_true rfl) ⟨Nat.le_of_ble_eq_true rfl, Nat.le_of_ble_eq_true rfl⟩ rfl dL_take_3 ?_
  intro q
  refine zG_w (wput_same _ _ _ rfl) ?_
  refine z_astore_n hC dL_take_15 (by decide) rfl ?_
  refine z_ldc (v := -1000003) hC bw_351 dL_take_16 ?_
  exact z_iretW hC hr dL_take_18 (Nat.le_of_eq (Nat.zero_add _)) (Nat.le_of_eq (Nat.zero_add _)) hok oxt_rf
