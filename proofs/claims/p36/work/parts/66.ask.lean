/-! P36: THE LAW'S HELPERS THAT ASK -/
theorem meterI {k : Nat} (hk0 : 0 < k) (hk : k < 10) : mMeter (nI k) = true := by
  unfold mMeter
  rw [nodeI hk, decide_eq_true (nI_ne0 hk0 (by omega))]
  rfl
theorem cl10 {k : Nat} (hk : k < 10) : (nI k).toNatClampNeg = k := nI_clamp (by omega)
def silV (σ : TB) (k : Nat) : Int32 := if σ 3 k = -1 then -1 else σ 0 0 - σ 5 k
set_option maxRecDepth 100000 in
set_option maxHeartbeats 1000000 in
theorem h_parent (l : Launch) (D : va_G) (ct : Nat → ClassId) (b : Nat) (qs qt qh qx : Nat → Nat) (σ : TB) (k : Nat) (hk : k < 10) : zH l D ct yL_parent cL_parent 3 (some .int) [(0, 5, 6, 16)] 3 61 0 0 [.ref b, .int (nI k)] (cN b qs qt qh qx :: cS qs σ ct) (zd (some (.int (σ 3 k))) (cN b qs qt qh qx :: cS qs σ ct)) := by
  refine zH_of ([some (.ref b), some (.int (nI k)), none]) (by decide +kernel) rfl (Nat.le_of_ble_eq_true rfl) ?_
  intro p e s m args below meth c hC hr
  refine z_aload_n hC dL_parent_0 rfl ?_
  refine z_iload_n hC dL_parent_1 rfl ?_
  refine z_callV [0, 1, 2, 3, 4, 5, 6, 7, 8, 9, 10, 11, 12, 13, 14, 15, 16] 0 4 hC (c_X4_parent l D ct b qs qt qh qx σ (nI k) (nodeI hk)) bw_70 bw_71 bw_72 bw_2 bw_73 1 (by decide +kernel) rfl rfl rfl rfl rfl ⟨Nat.le_of_ble_eq_true rfl, Nat.le_of_ble_eq_true rfl⟩ (Nat.le_of_ble_eq_true rfl) ⟨Nat.le_of_ble_eq_true rfl, Nat.le_of_ble_eq_true rfl⟩ rfl dL_parent_2 ?_
  refine zkq (G := fun v1 w1 => zG p l e _ s m args below meth c D _ _ _ _ _ _ _ (v1.toList ++ _) w1) rfl ?_
  exact z_iretd hC hr dL_parent_5 (Nat.zero_le _) (Nat.zero_le _) (congrArg (σ 3) (cl10 hk)) rfl rfl

set_option maxRecDepth 100000 in
set_option maxHeartbeats 1000000 in
theorem h_depth (l : Launch) (D : va_G) (ct : Nat → ClassId) (b : Nat) (qs qt qh qx : Nat → Nat) (σ : TB) (k : Nat) (hk : k < 10) : zH l D ct yL_depth cL_depth 3 (some .int) [(0, 5, 6, 16)] 3 61 0 0 [.ref b, .int (nI k)] (cN b qs qt qh qx :: cS qs σ ct) (zd (some (.int (σ 4 k))) (cN b qs qt qh qx :: cS qs σ ct)) := by
  refine zH_of ([some (.ref b), some (.int (nI k)), none]) (by decide +kernel) rfl (Nat.le_of_ble_eq_true rfl) ?_
  intro p e s m args below meth c hC hr
  refine z_aload_n hC dL_depth_0 rfl ?_
  refine z_iload_n hC dL_depth_1 rfl ?_
  refine z_callV [0, 1, 2, 3, 4, 5, 6, 7, 8, 9, 10, 11, 12, 13, 14, 15, 16] 0 4 hC (c_X4_depth l D ct b qs qt qh qx σ (nI k) (nodeI hk)) bw_85 bw_86 bw_87 bw_2 bw_88 1 (by decide +kernel) rfl rfl rfl rfl rfl ⟨Nat.le_of_ble_eq_true rfl, Nat.le_of_ble_eq_true rfl⟩ (Nat.le_of_ble_eq_true rfl) ⟨Nat.le_of_ble_eq_true rfl, Nat.le_of_ble_eq_true rfl⟩ rfl dL_depth_2 ?_
  refine zkq (G := fun v1 w1 => zG p l e _ s m args below meth c D _ _ _ _ _ _ _ (v1.toList ++ _) w1) rfl ?_
  exact z_iretd hC hr dL_depth_5 (Nat.zero_le _) (Nat.zero_le _) (congrArg (σ 4) (cl10 hk)) rfl rfl

set_option maxRecDepth 100000 in
set_option maxHeartbeats 1000000 in
theorem h_clock (l : Launch) (D : va_G) (ct : Nat → ClassId) (b : Nat) (qs qt qh qx : Nat → Nat) (σ : TB) (k : Nat) (hk : k < 10) : zH l D ct yL_clock cL_clock 3 (some .int) [(0, 5, 6, 16)] 3 61 0 0 [.ref b, .int (nI k)] (cN b qs qt qh qx :: cS qs σ ct) (zd (some (.int (σ 0 0 + σ 6 k))) (cN b qs qt qh qx :: cS qs σ ct)) := by
  refine zH_of ([some (.ref b), some (.int (nI k)), none]) (by decide +kernel) rfl (Nat.le_of_ble_eq_true rfl) ?_
  intro p e s m args below meth c hC hr
  refine z_aload_n hC dL_clock_0 rfl ?_
  refine z_iload_n hC dL_clock_1 rfl ?_
  refine z_callV [0, 1, 2, 3, 4, 5, 6, 7, 8, 9, 10, 11, 12, 13, 14, 15, 16] 0 4 hC (c_X4_clock l D ct b qs qt qh qx σ (nI k) (nodeI hk)) bw_92 bw_93 bw_94 bw_2 bw_95 1 (by decide +kernel) rfl rfl rfl rfl rfl ⟨Nat.le_of_ble_eq_true rfl, Nat.le_of_ble_eq_true rfl⟩ (Nat.le_of_ble_eq_true rfl) ⟨Nat.le_of_ble_eq_true rfl, Nat.le_of_ble_eq_true rfl⟩ rfl dL_clock_2 ?_
  refine zkq (G := fun v1 w1 => zG p l e _ s m args below meth c D _ _ _ _ _ _ _ (v1.toList ++ _) w1) rfl ?_
  exact z_iretd hC hr dL_clock_5 (Nat.zero_le _) (Nat.zero_le _) (congrArg (fun z => σ 0 0 + σ 6 z) (cl10 hk)) rfl rfl

set_option maxRecDepth 100000 in
set_option maxHeartbeats 1000000 in
theorem h_silence (l : Launch) (D : va_G) (ct : Nat → ClassId) (b : Nat) (qs qt qh qx : Nat → Nat) (σ : TB) (k : Nat) (hk0 : 0 < k) (hk : k < 10) : zH l D ct yL_silence cL_silence 3 (some .int) [(0, 5, 6, 16)] 3 61 0 0 [.ref b, .int (nI k)] (cN b qs qt qh qx :: cS qs σ ct) (zd (some (.int (silV σ k))) (cN b qs qt qh qx :: cS qs σ ct)) := by
  refine zH_of ([some (.ref b), some (.int (nI k)), none]) (by decide +kernel) rfl (Nat.le_of_ble_eq_true rfl) ?_
  intro p e s m args below meth c hC hr
  refine z_aload_n hC dL_silence_0 rfl ?_
  refine z_iload_n hC dL_silence_1 rfl ?_
  refine z_callV [0, 1, 2, 3, 4, 5, 6, 7, 8, 9, 10, 11, 12, 13, 14, 15, 16] 0 4 hC (c_X4_silence l D ct b qs qt qh qx σ (nI k) (meterI hk0 hk)) bw_103 bw_104 bw_105 bw_2 bw_106 1 (by decide +kernel) rfl rfl rfl rfl rfl ⟨Nat.le_of_ble_eq_true rfl, Nat.le_of_ble_eq_true rfl⟩ (Nat.le_of_ble_eq_true rfl) ⟨Nat.le_of_ble_eq_true rfl, Nat.le_of_ble_eq_true rfl⟩ rfl dL_silence_2 ?_
  refine zkq (G := fun v1 w1 => zG p l e _ s m args below meth c D _ _ _ _ _ _ _ (v1.toList ++ _) w1) rfl ?_
  exact z_iretd hC hr dL_silence_5 (Nat.zero_le _) (Nat.zero_le _) (congrArg (fun z => if σ 3 z = -1 then (-1 : Int32) else σ 0 0 - σ 5 z) (cl10 hk)) rfl rfl

set_option maxRecDepth 100000 in
set_option maxHeartbeats 1000000 in
theorem h_faults (l : Launch) (D : va_G) (ct : Nat → ClassId) (b : Nat) (qs qt qh qx : Nat → Nat) (σ : TB) (k : Nat) (hk0 : 0 < k) (hk : k < 10) : zH l D ct yL_faults cL_faults 3 (some .int) [(0, 5, 6, 16)] 3 61 0 0 [.ref b, .int (nI k)] (cN b qs qt qh qx :: cS qs σ ct) (zd (some (.int (σ 7 k))) (cN b qs qt qh qx :: cS qs σ ct)) := by
  refine zH_of ([some (.ref b), some (.int (nI k)), none]) (by decide +kernel) rfl (Nat.le_of_ble_eq_true rfl) ?_
  intro p e s m args below meth c hC hr
  refine z_aload_n hC dL_faults_0 rfl ?_
  refine z_iload_n hC dL_faults_1 rfl ?_
  refine z_callV [0, 1, 2, 3, 4, 5, 6, 7, 8, 9, 10, 11, 12, 13, 14, 15, 16] 0 4 hC (c_X4_faults l D ct b qs qt qh qx σ (nI k) (meterI hk0 hk)) bw_259 bw_260 bw_261 bw_2 bw_262 1 (by decide +kernel) rfl rfl rfl rfl rfl ⟨Nat.le_of_ble_eq_true rfl, Nat.le_of_ble_eq_true rfl⟩ (Nat.le_of_ble_eq_true rfl) ⟨Nat.le_of_ble_eq_true rfl, Nat.le_of_ble_eq_true rfl⟩ rfl dL_faults_2 ?_
  refine zkq (G := fun v1 w1 => zG p l e _ s m args below meth c D _ _ _ _ _ _ _ (v1.toList ++ _) w1) rfl ?_
  exact z_iretd hC hr dL_faults_5 (Nat.zero_le _) (Nat.zero_le _) (congrArg (σ 7) (cl10 hk)) rfl rfl

set_option maxRecDepth 100000 in
set_option maxHeartbeats 1000000 in
theorem h_hops (l : Launch) (D : va_G) (ct : Nat → ClassId) (b : Nat) (qs qt qh qx : Nat → Nat) (σ : TB) (k : Nat) (hk : k < 10) : zH l D ct yL_hops cL_hops 3 (some .int) [(0, 5, 6, 16)] 6 131 0 0 [.ref b, .int (nI k)] (cN b qs qt qh qx :: cS qs σ ct) (zd (some (.int (msHops σ (nI k)))) (cN b qs qt qh qx :: cS qs σ ct)) := by
  refine zH_of ([some (.ref b), some (.int (nI k)), none]) (by decide +kernel) rfl (Nat.le_of_ble_eq_true rfl) ?_
  intro p e s m args below meth c hC hr
  refine z_aload_n hC dL_hops_0 rfl ?_
  refine z_iload_n hC dL_hops_1 rfl ?_
  refine z_callV [0, 1, 2, 3, 4, 5, 6, 7, 8, 9, 10, 11, 12, 13, 14, 15, 16] 0 4 hC (c_X4_hops l D ct b qs qt qh qx σ (nI k) (nodeI hk)) bw_124 bw_125 bw_126 bw_2 bw_127 1 (by decide +kernel) rfl rfl rfl rfl rfl ⟨Nat.le_of_ble_eq_true rfl, Nat.le_of_ble_eq_true rfl⟩ (Nat.le_of_ble_eq_true rfl) ⟨Nat.le_of_ble_eq_true rfl, Nat.le_of_ble_eq_true rfl⟩ rfl dL_hops_2 ?_
  refine zkq (G := fun v1 w1 => zG p l e _ s m args below meth c D _ _ _ _ _ _ _ (v1.toList ++ _) w1) rfl ?_
  exact z_iretd hC hr dL_hops_5 (Nat.zero_le _) (Nat.zero_le _) rfl rfl rfl

set_option maxRecDepth 100000 in
set_option maxHeartbeats 1000000 in
theorem h_stored (l : Launch) (D : va_G) (ct : Nat → ClassId) (b : Nat) (qs qt qh qx : Nat → Nat) (σ : TB) (k : Nat) (hk0 : 0 < k) (hk : k < 10) : zH l D ct yL_stored cL_stored 3 (some .int) [(0, 5, 6, 16)] 3 68 0 0 [.ref b, .int (nI k)] (cN b qs qt qh qx :: cS qs σ ct) (zd (some (.int (mrSize (rd σ) (nI k)))) (cN b qs qt qh qx :: cS qs σ ct)) := by
  refine zH_of ([some (.ref b), some (.int (nI k)), none]) (by decide +kernel) rfl (Nat.le_of_ble_eq_true rfl) ?_
  intro p e s m args below meth c hC hr
  refine z_aload_n hC dL_stored_0 rfl ?_
  refine z_iload_n hC dL_stored_1 rfl ?_
  refine z_callV [0, 1, 2, 3, 4, 5, 6, 7, 8, 9, 10, 11, 12, 13, 14, 15, 16] 0 4 hC (c_X4_stored l D ct b qs qt qh qx σ (nI k) (meterI hk0 hk)) bw_208 bw_209 bw_210 bw_2 bw_211 1 (by decide +kernel) rfl rfl rfl rfl rfl ⟨Nat.le_of_ble_eq_true rfl, Nat.le_of_ble_eq_true rfl⟩ (Nat.le_of_ble_eq_true rfl) ⟨Nat.le_of_ble_eq_true rfl, Nat.le_of_ble_eq_true rfl⟩ rfl dL_stored_2 ?_
  refine zkq (G := fun v1 w1 => zG p l e _ s m args below meth c D _ _ _ _ _ _ _ (v1.toList ++ _) w1) rfl ?_
  exact z_iretd hC hr dL_stored_5 (Nat.zero_le _) (Nat.zero_le _) rfl rfl rfl

set_option maxRecDepth 100000 in
set_option maxHeartbeats 1000000 in
theorem h_storedReading (l : Launch) (D : va_G) (ct : Nat → ClassId) (b : Nat) (qs qt qh qx : Nat → Nat) (σ : TB) (k : Nat) (hk0 : 0 < k) (hk : k < 10) (i p0 : Int32) (hi : ¬ i < 0) (hp1 : ¬ p0 < 0) (hp2 : ¬ 4 < p0) : zH l D ct yL_storedReading cL_storedReading 5 (some .int) [(0, 7, 8, 16), (0, 7, 13, 19)] 5 130 0 0 [.ref b, .int (nI k), .int i, .int p0] (cN b qs qt qh qx :: cS qs σ ct) (zd (some (.int (mrPart (rd σ) (nI k) i p0))) (cN b qs qt qh qx :: cS qs σ ct)) := by
  refine zH_of ([some (.ref b), some (.int (nI k)), some (.int i), some (.int p0), none]) (by decide +kernel) rfl (Nat.le_of_ble_eq_true rfl) ?_
  intro p e s m args below meth c hC hr
  refine z_aload_n hC dL_storedReading_0 rfl ?_
  refine z_iload_n hC dL_storedReading_1 rfl ?_
  refine z_iload_n hC dL_storedReading_2 rfl ?_
  refine z_iload_n hC dL_storedReading_3 rfl ?_
  refine z_callV [0, 1, 2, 3, 4, 5, 6, 7, 8, 9, 10, 11, 12, 13, 14, 15, 16] 0 4 hC (c_X4_storedReading l D ct b qs qt qh qx σ (nI k) i p0 (meterI hk0 hk) hi hp1 hp2) bw_215 bw_216 bw_217 bw_2 bw_218 3 (by decide +kernel) rfl rfl rfl rfl rfl ⟨Nat.le_of_ble_eq_true rfl, Nat.le_of_ble_eq_true rfl⟩ (Nat.le_of_ble_eq_true rfl) ⟨Nat.le_of_ble_eq_true rfl, Nat.le_of_ble_eq_true rfl⟩ rfl dL_storedReading_4 ?_
  refine zkq (G := fun v1 w1 => zG p l e _ s m args below meth c D _ _ _ _ _ _ _ (v1.toList ++ _) w1) rfl ?_
  exact z_iretd hC hr dL_storedReading_7 (Nat.zero_le _) (Nat.zero_le _) rfl rfl rfl

set_option maxRecDepth 100000 in
set_option maxHeartbeats 1000000 in
theorem h_collectedReading (l : Launch) (D : va_G) (ct : Nat → ClassId) (b : Nat) (qs qt qh qx : Nat → Nat) (σ : TB) (i p0 : Int32) (hi : ¬ i < 0) (hp1 : ¬ p0 < 0) (hp2 : ¬ 4 < p0) : zH l D ct yL_collectedReading cL_collectedReading 4 (some .int) [(0, 6, 7, 16), (0, 6, 11, 19)] 5 129 0 0 [.ref b, .int i, .int p0] (cN b qs qt qh qx :: cS qs σ ct) (zd (some (.int (mrPart (rd σ) 0 i p0))) (cN b qs qt qh qx :: cS qs σ ct)) := by
  refine zH_of ([some (.ref b), some (.int i), some (.int p0), none]) (by decide +kernel) rfl (Nat.le_of_ble_eq_true rfl) ?_
  intro p e s m args below meth c hC hr
  refine z_aload_n hC dL_collectedReading_0 rfl ?_
  refine z_iload_n hC dL_collectedReading_1 rfl ?_
  refine z_iload_n hC dL_collectedReading_2 rfl ?_
  refine z_callV [0, 1, 2, 3, 4, 5, 6, 7, 8, 9, 10, 11, 12, 13, 14, 15, 16] 0 4 hC (c_X4_collectedReading l D ct b qs qt qh qx σ i p0 hi hp1 hp2) bw_163 bw_164 bw_165 bw_2 bw_166 2 (by decide +kernel) rfl rfl rfl rfl rfl ⟨Nat.le_of_ble_eq_true rfl, Nat.le_of_ble_eq_true rfl⟩ (Nat.le_of_ble_eq_true rfl) ⟨Nat.le_of_ble_eq_true rfl, Nat.le_of_ble_eq_true rfl⟩ rfl dL_collectedReading_3 ?_
  refine zkq (G := fun v1 w1 => zG p l e _ s m args below meth c D _ _ _ _ _ _ _ (v1.toList ++ _) w1) rfl ?_
  exact z_iretd hC hr dL_collectedReading_6 (Nat.zero_le _) (Nat.zero_le _) rfl rfl rfl

set_option maxRecDepth 100000 in
set_option maxHeartbeats 1000000 in
theorem h_copies (l : Launch) (D : va_G) (ct : Nat → ClassId) (b : Nat) (qs qt qh qx : Nat → Nat) (σ : TB) (k : Nat) (hk0 : 0 < k) (hk : k < 10) (x : Int32) : zH l D ct yL_copies cL_copies 4 (some .int) [(0, 6, 7, 16)] 5 129 0 0 [.ref b, .int (nI k), .int x] (cN b qs qt qh qx :: cS qs σ ct) (zd (some (.int (cop σ (nI k) x))) (cN b qs qt qh qx :: cS qs σ ct)) := by
  refine zH_of ([some (.ref b), some (.int (nI k)), some (.int x), none]) (by decide +kernel) rfl (Nat.le_of_ble_eq_true rfl) ?_
  intro p e s m args below meth c hC hr
  refine z_aload_n hC dL_copies_0 rfl ?_
  refine z_iload_n hC dL_copies_1 rfl ?_
  refine z_iload_n hC dL_copies_2 rfl ?_
  refine z_callV [0, 1, 2, 3, 4, 5, 6, 7, 8, 9, 10, 11, 12, 13, 14, 15, 16] 0 4 hC (c_X4_copies l D ct b qs qt qh qx σ (nI k) x (meterI hk0 hk)) bw_190 bw_191 bw_192 bw_2 bw_193 2 (by decide +kernel) rfl rfl rfl rfl rfl ⟨Nat.le_of_ble_eq_true rfl, Nat.le_of_ble_eq_true rfl⟩ (Nat.le_of_ble_eq_true rfl) ⟨Nat.le_of_ble_eq_true rfl, Nat.le_of_ble_eq_true rfl⟩ rfl dL_copies_3 ?_
  refine zkq (G := fun v1 w1 => zG p l e _ s m args below meth c D _ _ _ _ _ _ _ (v1.toList ++ _) w1) rfl ?_
  exact z_iretd hC hr dL_copies_6 (Nat.zero_le _) (Nat.zero_le _) rfl rfl rfl

set_option maxRecDepth 100000 in
set_option maxHeartbeats 1000000 in
theorem h_count (l : Launch) (D : va_G) (ct : Nat → ClassId) (b : Nat) (qs qt qh qx : Nat → Nat) (σ : TB) (x : Int32) (h1 : ¬ x < 0) (h2 : ¬ 5 < x) : zH l D ct yL_count cL_count 3 (some .int) [(0, 5, 6, 19)] 1 21 0 0 [.ref b, .int x] (cN b qs qt qh qx :: cS qs σ ct) (zd (some (.int (mCount σ x))) (cN b qs qt qh qx :: cS qs σ ct)) := by
  refine zH_of ([some (.ref b), some (.int x), none]) (by decide +kernel) rfl (Nat.le_of_ble_eq_true rfl) ?_
  intro p e s m args below meth c hC hr
  refine z_aload_n hC dL_count_0 rfl ?_
  refine z_iload_n hC dL_count_1 rfl ?_
  refine z_callV [0, 1, 2, 3, 4, 5, 6, 7, 8, 9, 10, 11, 12, 13, 14, 15, 16] 0 4 hC (c_X4_count l D ct b qs qt qh qx σ x h1 h2) bw_237 bw_238 bw_239 bw_2 bw_240 1 (by decide +kernel) rfl rfl rfl rfl rfl ⟨Nat.le_of_ble_eq_true rfl, Nat.le_of_ble_eq_true rfl⟩ (Nat.le_of_ble_eq_true rfl) ⟨Nat.le_of_ble_eq_true rfl, Nat.le_of_ble_eq_true rfl⟩ rfl dL_count_2 ?_
  refine zkq (G := fun v1 w1 => zG p l e _ s m args below meth c D _ _ _ _ _ _ _ (v1.toList ++ _) w1) rfl ?_
  exact z_iretd hC hr dL_count_5 (Nat.zero_le _) (Nat.zero_le _) rfl rfl rfl
