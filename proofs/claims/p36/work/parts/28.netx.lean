set_option maxRecDepth 100000 in
set_option maxHeartbeats 1000000 in
theorem x_X4_parent_IOB (l : Launch) (D : va_G) (ct : Nat → ClassId) (b : Nat) (qs qt qh qx : Nat → Nat) (n : Int32) (hx0 : mNode n = false) (hlf : l.stackTraces = false) : zX l D ct yX4_parent cX4_parent 2 (some .int) 8 150 1 6 [.ref b, .int n] ([cN b qs qt qh qx]) ([cN b qs qt qh qx]) xIOB := by
  refine zX_of ([some (.ref b), some (.int n)]) (by decide +kernel) rfl (Nat.le_of_ble_eq_true rfl) ?_
  intro p e s m args below meth c hC hx hex
  refine z_iload_n hC dX4_parent_0 rfl ?_
  exact z_callSX [] hC (x_X4_checkNode l D ct n hx0 hlf) hx hex bw_74 bw_75 bw_2 bw_76 1 (by decide +kernel) rfl rfl rfl ⟨Nat.le_of_ble_eq_true rfl, Nat.le_of_ble_eq_true rfl⟩ (Nat.le_of_ble_eq_true rfl) ⟨Nat.le_of_ble_eq_true rfl, Nat.le_of_ble_eq_true rfl⟩ ⟨Nat.le_of_ble_eq_true rfl, Nat.le_of_ble_eq_true rfl⟩ rfl dX4_parent_1

set_option maxRecDepth 100000 in
set_option maxHeartbeats 1000000 in
theorem x_X4_depth_IOB (l : Launch) (D : va_G) (ct : Nat → ClassId) (b : Nat) (qs qt qh qx : Nat → Nat) (n : Int32) (hx0 : mNode n = false) (hlf : l.stackTraces = false) : zX l D ct yX4_depth cX4_depth 2 (some .int) 8 150 1 6 [.ref b, .int n] ([cN b qs qt qh qx]) ([cN b qs qt qh qx]) xIOB := by
  refine zX_of ([some (.ref b), some (.int n)]) (by decide +kernel) rfl (Nat.le_of_ble_eq_true rfl) ?_
  intro p e s m args below meth c hC hx hex
  refine z_iload_n hC dX4_depth_0 rfl ?_
  exact z_callSX [] hC (x_X4_checkNode l D ct n hx0 hlf) hx hex bw_74 bw_75 bw_2 bw_76 1 (by decide +kernel) rfl rfl rfl ⟨Nat.le_of_ble_eq_true rfl, Nat.le_of_ble_eq_true rfl⟩ (Nat.le_of_ble_eq_true rfl) ⟨Nat.le_of_ble_eq_true rfl, Nat.le_of_ble_eq_true rfl⟩ ⟨Nat.le_of_ble_eq_true rfl, Nat.le_of_ble_eq_true rfl⟩ rfl dX4_depth_1

set_option maxRecDepth 100000 in
set_option maxHeartbeats 1000000 in
theorem x_X4_clock_IOB (l : Launch) (D : va_G) (ct : Nat → ClassId) (b : Nat) (qs qt qh qx : Nat → Nat) (n : Int32) (hx0 : mNode n = false) (hlf : l.stackTraces = false) : zX l D ct yX4_clock cX4_clock 2 (some .int) 8 150 1 6 [.ref b, .int n] ([cN b qs qt qh qx]) ([cN b qs qt qh qx]) xIOB := by
  refine zX_of ([some (.ref b), some (.int n)]) (by decide +kernel) rfl (Nat.le_of_ble_eq_true rfl) ?_
  intro p e s m args below meth c hC hx hex
  refine z_iload_n hC dX4_clock_0 rfl ?_
  exact z_callSX [] hC (x_X4_checkNode l D ct n hx0 hlf) hx hex bw_74 bw_75 bw_2 bw_76 1 (by decide +kernel) rfl rfl rfl ⟨Nat.le_of_ble_eq_true rfl, Nat.le_of_ble_eq_true rfl⟩ (Nat.le_of_ble_eq_true rfl) ⟨Nat.le_of_ble_eq_true rfl, Nat.le_of_ble_eq_true rfl⟩ ⟨Nat.le_of_ble_eq_true rfl, Nat.le_of_ble_eq_true rfl⟩ rfl dX4_clock_1

set_option maxRecDepth 100000 in
set_option maxHeartbeats 1000000 in
theorem x_X4_hops_IOB (l : Launch) (D : va_G) (ct : Nat → ClassId) (b : Nat) (qs qt qh qx : Nat → Nat) (n : Int32) (hx0 : mNode n = false) (hlf : l.stackTraces = false) : zX l D ct yX4_hops cX4_hops 2 (some .int) 8 150 1 6 [.ref b, .int n] ([cN b qs qt qh qx]) ([cN b qs qt qh qx]) xIOB := by
  refine zX_of ([some (.ref b), some (.int n)]) (by decide +kernel) rfl (Nat.le_of_ble_eq_true rfl) ?_
  intro p e s m args below meth c hC hx hex
  refine z_iload_n hC dX4_hops_0 rfl ?_
  exact z_callSX [] hC (x_X4_checkNode l D ct n hx0 hlf) hx hex bw_74 bw_75 bw_2 bw_76 1 (by decide +kernel) rfl rfl rfl ⟨Nat.le_of_ble_eq_true rfl, Nat.le_of_ble_eq_true rfl⟩ (Nat.le_of_ble_eq_true rfl) ⟨Nat.le_of_ble_eq_true rfl, Nat.le_of_ble_eq_true rfl⟩ ⟨Nat.le_of_ble_eq_true rfl, Nat.le_of_ble_eq_true rfl⟩ rfl dX4_hops_1

set_option maxRecDepth 100000 in
set_option maxHeartbeats 1000000 in
theorem x_X4_silence_IOB (l : Launch) (D : va_G) (ct : Nat → ClassId) (b : Nat) (qs qt qh qx : Nat → Nat) (n : Int32) (hx0 : mMeter n = false) (hlf : l.stackTraces = false) : zX l D ct yX4_silence cX4_silence 2 (some .int) 8 150 1 6 [.ref b, .int n] ([cN b qs qt qh qx]) ([cN b qs qt qh qx]) xIOB := by
  refine zX_of ([some (.ref b), some (.int n)]) (by decide +kernel) rfl (Nat.le_of_ble_eq_true rfl) ?_
  intro p e s m args below meth c hC hx hex
  refine z_iload_n hC dX4_silence_0 rfl ?_
  exact z_callSX [] hC (x_X4_checkMeter l D ct n hx0 hlf) hx hex bw_107 bw_108 bw_2 bw_109 1 (by decide +kernel) rfl rfl rfl ⟨Nat.le_of_ble_eq_true rfl, Nat.le_of_ble_eq_true rfl⟩ (Nat.le_of_ble_eq_true rfl) ⟨Nat.le_of_ble_eq_true rfl, Nat.le_of_ble_eq_true rfl⟩ ⟨Nat.le_of_ble_eq_true rfl, Nat.le_of_ble_eq_true rfl⟩ rfl dX4_silence_1

set_option maxRecDepth 100000 in
set_option maxHeartbeats 1000000 in
theorem x_X4_faults_IOB (l : Launch) (D : va_G) (ct : Nat → ClassId) (b : Nat) (qs qt qh qx : Nat → Nat) (n : Int32) (hx0 : mMeter n = false) (hlf : l.stackTraces = false) : zX l D ct yX4_faults cX4_faults 2 (some .int) 8 150 1 6 [.ref b, .int n] ([cN b qs qt qh qx]) ([cN b qs qt qh qx]) xIOB := by
  refine zX_of ([some (.ref b), some (.int n)]) (by decide +kernel) rfl (Nat.le_of_ble_eq_true rfl) ?_
  intro p e s m args below meth c hC hx hex
  refine z_iload_n hC dX4_faults_0 rfl ?_
  exact z_callSX [] hC (x_X4_checkMeter l D ct n hx0 hlf) hx hex bw_107 bw_108 bw_2 bw_109 1 (by decide +kernel) rfl rfl rfl ⟨Nat.le_of_ble_eq_true rfl, Nat.le_of_ble_eq_true rfl⟩ (Nat.le_of_ble_eq_true rfl) ⟨Nat.le_of_ble_eq_true rfl, Nat.le_of_ble_eq_true rfl⟩ ⟨Nat.le_of_ble_eq_true rfl, Nat.le_of_ble_eq_true rfl⟩ rfl dX4_faults_1

set_option maxRecDepth 100000 in
set_option maxHeartbeats 1000000 in
theorem x_X4_stored_IOB (l : Launch) (D : va_G) (ct : Nat → ClassId) (b : Nat) (qs qt qh qx : Nat → Nat) (n : Int32) (hx0 : mMeter n = false) (hlf : l.stackTraces = false) : zX l D ct yX4_stored cX4_stored 2 (some .int) 8 150 1 6 [.ref b, .int n] ([cN b qs qt qh qx]) ([cN b qs qt qh qx]) xIOB := by
  refine zX_of ([some (.ref b), some (.int n)]) (by decide +kernel) rfl (Nat.le_of_ble_eq_true rfl) ?_
  intro p e s m args below meth c hC hx hex
  refine z_iload_n hC dX4_stored_0 rfl ?_
  exact z_callSX [] hC (x_X4_checkMeter l D ct n hx0 hlf) hx hex bw_107 bw_108 bw_2 bw_109 1 (by decide +kernel) rfl rfl rfl ⟨Nat.le_of_ble_eq_true rfl, Nat.le_of_ble_eq_true rfl⟩ (Nat.le_of_ble_eq_true rfl) ⟨Nat.le_of_ble_eq_true rfl, Nat.le_of_ble_eq_true rfl⟩ ⟨Nat.le_of_ble_eq_true rfl, Nat.le_of_ble_eq_true rfl⟩ rfl dX4_stored_1

set_option maxRecDepth 100000 in
set_option maxHeartbeats 1000000 in
theorem x_X4_power_IOB (l : Launch) (D : va_G) (ct : Nat → ClassId) (b : Nat) (qs qt qh qx : Nat → Nat) (n v : Int32) (hx0 : mNode n = false) (hlf : l.stackTraces = false) : zX l D ct yX4_power cX4_power 3 (some .int) 8 150 1 6 [.ref b, .int n, .int v] ([cN b qs qt qh qx]) ([cN b qs qt qh qx]) xIOB := by
  refine zX_of ([some (.ref b), some (.int n), some (.int v)]) (by decide +kernel) rfl (Nat.le_of_ble_eq_true rfl) ?_
  intro p e s m args below meth c hC hx hex
  refine z_iload_n hC dX4_power_0 rfl ?_
  exact z_callSX [] hC (x_X4_checkNode l D ct n hx0 hlf) hx hex bw_74 bw_75 bw_2 bw_76 1 (by decide +kernel) rfl rfl rfl ⟨Nat.le_of_ble_eq_true rfl, Nat.le_of_ble_eq_true rfl⟩ (Nat.le_of_ble_eq_true rfl) ⟨Nat.le_of_ble_eq_true rfl, Nat.le_of_ble_eq_true rfl⟩ ⟨Nat.le_of_ble_eq_true rfl, Nat.le_of_ble_eq_true rfl⟩ rfl dX4_power_1

set_option maxRecDepth 100000 in
set_option maxHeartbeats 1000000 in
theorem x_X4_jump_IOB (l : Launch) (D : va_G) (ct : Nat → ClassId) (b : Nat) (qs qt qh qx : Nat → Nat) (n v : Int32) (hx0 : mMeter n = false) (hlf : l.stackTraces = false) : zX l D ct yX4_jump cX4_jump 3 (some .int) 8 150 1 6 [.ref b, .int n, .int v] ([cN b qs qt qh qx]) ([cN b qs qt qh qx]) xIOB := by
  refine zX_of ([some (.ref b), some (.int n), some (.int v)]) (by decide +kernel) rfl (Nat.le_of_ble_eq_true rfl) ?_
  intro p e s m args below meth c hC hx hex
  refine z_iload_n hC dX4_jump_0 rfl ?_
  exact z_callSX [] hC (x_X4_checkMeter l D ct n hx0 hlf) hx hex bw_107 bw_108 bw_2 bw_109 1 (by decide +kernel) rfl rfl rfl ⟨Nat.le_of_ble_eq_true rfl, Nat.le_of_ble_eq_true rfl⟩ (Nat.le_of_ble_eq_true rfl) ⟨Nat.le_of_ble_eq_true rfl, Nat.le_of_ble_eq_true rfl⟩ ⟨Nat.le_of_ble_eq_true rfl, Nat.le_of_ble_eq_true rfl⟩ rfl dX4_jump_1

set_option maxRecDepth 100000 in
set_option maxHeartbeats 1000000 in
theorem x_X4_setFaults_IOB (l : Launch) (D : va_G) (ct : Nat → ClassId) (b : Nat) (qs qt qh qx : Nat → Nat) (n v : Int32) (hx0 : mMeter n = false) (hlf : l.stackTraces = false) : zX l D ct yX4_setFaults cX4_setFaults 4 (some .int) 8 150 1 6 [.ref b, .int n, .int v] ([cN b qs qt qh qx]) ([cN b qs qt qh qx]) xIOB := by
  refine zX_of ([some (.ref b), some (.int n), some (.int v), none]) (by decide +kernel) rfl (Nat.le_of_ble_eq_true rfl) ?_
  intro p e s m args below meth c hC hx hex
  refine z_iload_n hC dX4_setFaults_0 rfl ?_
  exact z_callSX [] hC (x_X4_checkMeter l D ct n hx0 hlf) hx hex bw_107 bw_108 bw_2 bw_109 1 (by decide +kernel) rfl rfl rfl ⟨Nat.le_of_ble_eq_true rfl, Nat.le_of_ble_eq_true rfl⟩ (Nat.le_of_ble_eq_true rfl) ⟨Nat.le_of_ble_eq_true rfl, Nat.le_of_ble_eq_true rfl⟩ ⟨Nat.le_of_ble_eq_true rfl, Nat.le_of_ble_eq_true rfl⟩ rfl dX4_setFaults_1

set_option maxRecDepth 100000 in
set_option maxHeartbeats 1000000 in
theorem x_X4_take_IOB (l : Launch) (D : va_G) (ct : Nat → ClassId) (b : Nat) (qs qt qh qx : Nat → Nat) (n v : Int32) (hx0 : mMeter n = false) (hlf : l.stackTraces = false) : zX l D ct yX4_take cX4_take 3 (some .int) 8 150 1 6 [.ref b, .int n, .int v] ([cN b qs qt qh qx]) ([cN b qs qt qh qx]) xIOB := by
  refine zX_of ([some (.ref b), some (.int n), some (.int v)]) (by decide +kernel) rfl (Nat.le_of_ble_eq_true rfl) ?_
  intro p e s m args below meth c hC hx hex
  refine z_iload_n hC dX4_take_0 rfl ?_
  exact z_callSX [] hC (x_X4_checkMeter l D ct n hx0 hlf) hx hex bw_107 bw_108 bw_2 bw_109 1 (by decide +kernel) rfl rfl rfl ⟨Nat.le_of_ble_eq_true rfl, Nat.le_of_ble_eq_true rfl⟩ (Nat.le_of_ble_eq_true rfl) ⟨Nat.le_of_ble_eq_true rfl, Nat.le_of_ble_eq_true rfl⟩ ⟨Nat.le_of_ble_eq_true rfl, Nat.le_of_ble_eq_true rfl⟩ rfl dX4_take_1

set_option maxRecDepth 100000 in
set_option maxHeartbeats 1000000 in
theorem x_X4_copies_IOB (l : Launch) (D : va_G) (ct : Nat → ClassId) (b : Nat) (qs qt qh qx : Nat → Nat) (n v : Int32) (hx0 : mMeter n = false) (hlf : l.stackTraces = false) : zX l D ct yX4_copies cX4_copies 4 (some .int) 8 150 1 6 [.ref b, .int n, .int v] ([cN b qs qt qh qx]) ([cN b qs qt qh qx]) xIOB := by
  refine zX_of ([some (.ref b), some (.int n), some (.int v), none]) (by decide +kernel) rfl (Nat.le_of_ble_eq_true rfl) ?_
  intro p e s m args below meth c hC hx hex
  refine z_iload_n hC dX4_copies_0 rfl ?_
  exact z_callSX [] hC (x_X4_checkMeter l D ct n hx0 hlf) hx hex bw_107 bw_108 bw_2 bw_109 1 (by decide +kernel) rfl rfl rfl ⟨Nat.le_of_ble_eq_true rfl, Nat.le_of_ble_eq_true rfl⟩ (Nat.le_of_ble_eq_true rfl) ⟨Nat.le_of_ble_eq_true rfl, Nat.le_of_ble_eq_true rfl⟩ ⟨Nat.le_of_ble_eq_true rfl, Nat.le_of_ble_eq_true rfl⟩ rfl dX4_copies_1

set_option maxRecDepth 100000 in
set_option maxHeartbeats 1000000 in
theorem x_X4_link_IOB (l : Launch) (D : va_G) (ct : Nat → ClassId) (b : Nat) (qs qt qh qx : Nat → Nat) (a c0 v : Int32) (hx0 : mNode a = false ∨ mNode c0 = false) (hlf : l.stackTraces = false) : zX l D ct yX4_link cX4_link 4 (some .int) 8 150 1 6 [.ref b, .int a, .int c0, .int v] ([cN b qs qt qh qx]) ([cN b qs qt qh qx]) xIOB := by
  refine zX_of ([some (.ref b), some (.int a), some (.int c0), some (.int v)]) (by decide +kernel) rfl (Nat.le_of_ble_eq_true rfl) ?_
  intro p e s m args below meth c hC hx hex
  refine z_iload_n hC dX4_link_0 rfl ?_
  by_cases k1 : mNode a = false
  · exact z_callSX [] hC (x_X4_checkNode l D ct a k1 hlf) hx hex bw_74 bw_75 bw_2 bw_76 1 (by decide +kernel) rfl rfl rfl ⟨Nat.le_of_ble_eq_true rfl, Nat.le_of_ble_eq_true rfl⟩ (Nat.le_of_ble_eq_true rfl) ⟨Nat.le_of_ble_eq_true rfl, Nat.le_of_ble_eq_true rfl⟩ ⟨Nat.le_of_ble_eq_true rfl, Nat.le_of_ble_eq_true rfl⟩ rfl dX4_link_1
  refine z_callS [] hC (c_X4_checkNode l D ct a (by simpa using k1)) bw_74 bw_75 bw_2 bw_76 1 (by decide +kernel) rfl rfl rfl ⟨Nat.le_of_ble_eq_true rfl, Nat.le_of_ble_eq_true rfl⟩ (Nat.le_of_ble_eq_true rfl) ⟨Nat.le_of_ble_eq_true rfl, Nat.le_of_ble_eq_true rfl⟩ rfl dX4_link_1 ?_
  refine zkq (G := fun v1 w1 => zG p l e _ s m args below meth c D _ _ _ _ _ _ _ (v1.toList ++ _) w1) rfl ?_
  refine z_iload_n hC dX4_link_4 rfl ?_
  exact z_callSX [] hC (x_X4_checkNode l D ct c0 (hx0.resolve_left k1) hlf) hx hex bw_74 bw_75 bw_2 bw_76 1 (by decide +kernel) rfl rfl rfl ⟨Nat.le_of_ble_eq_true rfl, Nat.le_of_ble_eq_true rfl⟩ (Nat.le_of_ble_eq_true rfl) ⟨Nat.le_of_ble_eq_true rfl, Nat.le_of_ble_eq_true rfl⟩ ⟨Nat.le_of_ble_eq_true rfl, Nat.le_of_ble_eq_true rfl⟩ rfl dX4_link_5

set_option maxRecDepth 100000 in
set_option maxHeartbeats 1000000 in
theorem x_X4_isConnected_IOB (l : Launch) (D : va_G) (ct : Nat → ClassId) (b : Nat) (qs qt qh qx : Nat → Nat) (a c0 : Int32) (hx0 : mNode a = false ∨ mNode c0 = false) (hlf : l.stackTraces = false) : zX l D ct yX4_isConnected cX4_isConnected 3 (some .boolean) 8 150 1 6 [.ref b, .int a, .int c0] ([cN b qs qt qh qx]) ([cN b qs qt qh qx]) xIOB := by
  refine zX_of ([some (.ref b), some (.int a), some (.int c0)]) (by decide +kernel) rfl (Nat.le_of_ble_eq_true rfl) ?_
  intro p e s m args below meth c hC hx hex
  refine z_iload_n hC dX4_isConnected_0 rfl ?_
  by_cases k1 : mNode a = false
  · exact z_callSX [] hC (x_X4_checkNode l D ct a k1 hlf) hx hex bw_74 bw_75 bw_2 bw_76 1 (by decide +kernel) rfl rfl rfl ⟨Nat.le_of_ble_eq_true rfl, Nat.le_of_ble_eq_true rfl⟩ (Nat.le_of_ble_eq_true rfl) ⟨Nat.le_of_ble_eq_true rfl, Nat.le_of_ble_eq_true rfl⟩ ⟨Nat.le_of_ble_eq_true rfl, Nat.le_of_ble_eq_true rfl⟩ rfl dX4_isConnected_1
  refine z_callS [] hC (c_X4_checkNode l D ct a (by simpa using k1)) bw_74 bw_75 bw_2 bw_76 1 (by decide +kernel) rfl rfl rfl ⟨Nat.le_of_ble_eq_true rfl, Nat.le_of_ble_eq_true rfl⟩ (Nat.le_of_ble_eq_true rfl) ⟨Nat.le_of_ble_eq_true rfl, Nat.le_of_ble_eq_true rfl⟩ rfl dX4_isConnected_1 ?_
  refine zkq (G := fun v1 w1 => zG p l e _ s m args below meth c D _ _ _ _ _ _ _ (v1.toList ++ _) w1) rfl ?_
  refine z_iload_n hC dX4_isConnected_4 rfl ?_
  exact z_callSX [] hC (x_X4_checkNode l D ct c0 (hx0.resolve_left k1) hlf) hx hex bw_74 bw_75 bw_2 bw_76 1 (by decide +kernel) rfl rfl rfl ⟨Nat.le_of_ble_eq_true rfl, Nat.le_of_ble_eq_true rfl⟩ (Nat.le_of_ble_eq_true rfl) ⟨Nat.le_of_ble_eq_true rfl, Nat.le_of_ble_eq_true rfl⟩ ⟨Nat.le_of_ble_eq_true rfl, Nat.le_of_ble_eq_true rfl⟩ rfl dX4_isConnected_5

set_option maxRecDepth 100000 in
set_option maxHeartbeats 1000000 in
theorem x_X4_link_IAE (l : Launch) (D : va_G) (ct : Nat → ClassId) (b : Nat) (qs qt qh qx : Nat → Nat) (a c0 v : Int32) (ha : mNode a = true) (hc : mNode c0 = true) (hac : a = c0) (hlf : l.stackTraces = false) : zX l D ct yX4_link cX4_link 4 (some .int) 8 150 1 6 [.ref b, .int a, .int c0, .int v] ([cN b qs qt qh qx]) ([cN b qs qt qh qx]) xIAE := by
  refine zX_of ([some (.ref b), some (.int a), some (.int c0), some (.int v)]) (by decide +kernel) rfl (Nat.le_of_ble_eq_true rfl) ?_
  intro p e s m args below meth c hC hx hex
  refine z_iload_n hC dX4_link_0 rfl ?_
  refine z_callS [] hC (c_X4_checkNode l D ct a ha) bw_74 bw_75 bw_2 bw_76 1 (by decide +kernel) rfl rfl rfl ⟨Nat.le_of_ble_eq_true rfl, Nat.le_of_ble_eq_true rfl⟩ (Nat.le_of_ble_eq_true rfl) ⟨Nat.le_of_ble_eq_true rfl, Nat.le_of_ble_eq_true rfl⟩ rfl dX4_link_1 ?_
  refine zkq (G := fun v1 w1 => zG p l e _ s m args below meth c D _ _ _ _ _ _ _ (v1.toList ++ _) w1) rfl ?_
  refine z_iload_n hC dX4_link_4 rfl ?_
  refine z_callS [] hC (c_X4_checkNode l D ct c0 hc) bw_74 bw_75 bw_2 bw_76 1 (by decide +kernel) rfl rfl rfl ⟨Nat.le_of_ble_eq_true rfl, Nat.le_of_ble_eq_true rfl⟩ (Nat.le_of_ble_eq_true rfl) ⟨Nat.le_of_ble_eq_true rfl, Nat.le_of_ble_eq_true rfl⟩ rfl dX4_link_5 ?_
  refine zkq (G := fun v1 w1 => zG p l e _ s m args below meth c D _ _ _ _ _ _ _ (v1.toList ++ _) w1) rfl ?_
  refine z_iload_n hC dX4_link_8 rfl ?_
  refine z_iload_n hC dX4_link_9 rfl ?_
  refine z_icmp_ne hC 23 dX4_link_10 (by decide) (fun c10 => absurd hac c10) (fun c10 => ?_)
  exact z_throw (names := xNm) (text := "both nodes are the same") hC hx hex hlf (by decide +kernel) (by decide +kernel) bw_173 bw_174 (List.mem_of_getElem? (i := 6) rfl) (List.mem_of_getElem? (i := 0) rfl) ax_IAE1 ax_IAE2 ax_IAE3 dX4_link_13 dX4_link_16 dX4_link_17 dX4_link_19 dX4_link_22 (Nat.le_of_ble_eq_true rfl) (Nat.le_of_ble_eq_true rfl) (Nat.le_of_ble_eq_true rfl) (Nat.le_of_ble_eq_true rfl) (Nat.le_of_ble_eq_true rfl) (Nat.le_of_ble_eq_true rfl) rfl rfl

set_option maxRecDepth 100000 in
set_option maxHeartbeats 1000000 in
theorem x_X4_jump_IAE (l : Launch) (D : va_G) (ct : Nat → ClassId) (b : Nat) (qs qt qh qx : Nat → Nat) (n v : Int32) (hn : mMeter n = true) (hx0 : v < -100 ∨ 100 < v) (hlf : l.stackTraces = false) : zX l D ct yX4_jump cX4_jump 3 (some .int) 8 150 1 6 [.ref b, .int n, .int v] ([cN b qs qt qh qx]) ([cN b qs qt qh qx]) xIAE := by
  refine zX_of ([some (.ref b), some (.int n), some (.int v)]) (by decide +kernel) rfl (Nat.le_of_ble_eq_true rfl) ?_
  intro p e s m args below meth c hC hx hex
  refine z_iload_n hC dX4_jump_0 rfl ?_
  refine z_callS [] hC (c_X4_checkMeter l D ct n hn) bw_107 bw_108 bw_2 bw_109 1 (by decide +kernel) rfl rfl rfl ⟨Nat.le_of_ble_eq_true rfl, Nat.le_of_ble_eq_true rfl⟩ (Nat.le_of_ble_eq_true rfl) ⟨Nat.le_of_ble_eq_true rfl, Nat.le_of_ble_eq_true rfl⟩ rfl dX4_jump_1 ?_
  refine zkq (G := fun v1 w1 => zG p l e _ s m args below meth c D _ _ _ _ _ _ _ (v1.toList ++ _) w1) rfl ?_
  refine z_iload_n hC dX4_jump_4 rfl ?_
  refine z_bipush (v := (-100)) hC dX4_jump_5 (by decide) ?_
  refine z_bipush (v := 100) hC dX4_jump_7 (by decide) ?_
  exact z_callSX [] hC (x_X4_checkRange l D ct v (-100) 100 hx0 hlf) hx hex bw_170 bw_171 bw_2 bw_172 3 (by decide +kernel) rfl rfl rfl ⟨Nat.le_of_ble_eq_true rfl, Nat.le_of_ble_eq_true rfl⟩ (Nat.le_of_ble_eq_true rfl) ⟨Nat.le_of_ble_eq_true rfl, Nat.le_of_ble_eq_true rfl⟩ ⟨Nat.le_of_ble_eq_true rfl, Nat.le_of_ble_eq_true rfl⟩ rfl dX4_jump_9

set_option maxRecDepth 100000 in
set_option maxHeartbeats 1000000 in
theorem x_X4_setFaults_IAE (l : Launch) (D : va_G) (ct : Nat → ClassId) (b : Nat) (qs qt qh qx : Nat → Nat) (n v : Int32) (hn : mMeter n = true) (hx0 : v < 0 ∨ 9 < v) (hlf : l.stackTraces = false) : zX l D ct yX4_setFaults cX4_setFaults 4 (some .int) 8 150 1 6 [.ref b, .int n, .int v] ([cN b qs qt qh qx]) ([cN b qs qt qh qx]) xIAE := by
  refine zX_of ([some (.ref b), some (.int n), some (.int v), none]) (by decide +kernel) rfl (Nat.le_of_ble_eq_true rfl) ?_
  intro p e s m args below meth c hC hx hex
  refine z_iload_n hC dX4_setFaults_0 rfl ?_
  refine z_callS [] hC (c_X4_checkMeter l D ct n hn) bw_107 bw_108 bw_2 bw_109 1 (by decide +kernel) rfl rfl rfl ⟨Nat.le_of_ble_eq_true rfl, Nat.le_of_ble_eq_true rfl⟩ (Nat.le_of_ble_eq_true rfl) ⟨Nat.le_of_ble_eq_true rfl, Nat.le_of_ble_eq_true rfl⟩ rfl dX4_setFaults_1 ?_
  refine zkq (G := fun v1 w1 => zG p l e _ s m args below meth c D _ _ _ _ _ _ _ (v1.toList ++ _) w1) rfl ?_
  refine z_iload_n hC dX4_setFaults_4 rfl ?_
  refine z_iconst (v := 0) hC dX4_setFaults_5 (by decide) ?_
  refine z_bipush (v := 9) hC dX4_setFaults_6 (by decide) ?_
  exact z_callSX [] hC (x_X4_checkRange l D ct v 0 9 hx0 hlf) hx hex bw_170 bw_171 bw_2 bw_172 3 (by decide +kernel) rfl rfl rfl ⟨Nat.le_of_ble_eq_true rfl, Nat.le_of_ble_eq_true rfl⟩ (Nat.le_of_ble_eq_true rfl) ⟨Nat.le_of_ble_eq_true rfl, Nat.le_of_ble_eq_true rfl⟩ ⟨Nat.le_of_ble_eq_true rfl, Nat.le_of_ble_eq_true rfl⟩ rfl dX4_setFaults_8

set_option maxRecDepth 100000 in
set_option maxHeartbeats 1000000 in
theorem x_X4_setPatience_IAE (l : Launch) (D : va_G) (ct : Nat → ClassId) (b : Nat) (qs qt qh qx : Nat → Nat) (v : Int32) (hx0 : v < 1 ∨ 5 < v) (hlf : l.stackTraces = false) : zX l D ct yX4_setPatience cX4_setPatience 3 (some .int) 8 150 1 6 [.ref b, .int v] ([cN b qs qt qh qx]) ([cN b qs qt qh qx]) xIAE := by
  refine zX_of ([some (.ref b), some (.int v), none]) (by decide +kernel) rfl (Nat.le_of_ble_eq_true rfl) ?_
  intro p e s m args below meth c hC hx hex
  refine z_iload_n hC dX4_setPatience_0 rfl ?_
  refine z_iconst (v := 1) hC dX4_setPatience_1 (by decide) ?_
  refine z_iconst (v := 5) hC dX4_setPatience_2 (by decide) ?_
  exact z_callSX [] hC (x_X4_checkRange l D ct v 1 5 hx0 hlf) hx hex bw_170 bw_171 bw_2 bw_172 3 (by decide +kernel) rfl rfl rfl ⟨Nat.le_of_ble_eq_true rfl, Nat.le_of_ble_eq_true rfl⟩ (Nat.le_of_ble_eq_true rfl) ⟨Nat.le_of_ble_eq_true rfl, Nat.le_of_ble_eq_true rfl⟩ ⟨Nat.le_of_ble_eq_true rfl, Nat.le_of_ble_eq_true rfl⟩ rfl dX4_setPatience_3

set_option maxRecDepth 100000 in
set_option maxHeartbeats 1000000 in
theorem x_X4_take_IAE (l : Launch) (D : va_G) (ct : Nat → ClassId) (b : Nat) (qs qt qh qx : Nat → Nat) (n v : Int32) (hn : mMeter n = true) (hx0 : v < 0 ∨ 999 < v) (hlf : l.stackTraces = false) : zX l D ct yX4_take cX4_take 3 (some .int) 8 150 1 6 [.ref b, .int n, .int v] ([cN b qs qt qh qx]) ([cN b qs qt qh qx]) xIAE := by
  refine zX_of ([some (.ref b), some (.int n), some (.int v)]) (by decide +kernel) rfl (Nat.le_of_ble_eq_true rfl) ?_
  intro p e s m args below meth c hC hx hex
  refine z_iload_n hC dX4_take_0 rfl ?_
  refine z_callS [] hC (c_X4_checkMeter l D ct n hn) bw_107 bw_108 bw_2 bw_109 1 (by decide +kernel) rfl rfl rfl ⟨Nat.le_of_ble_eq_true rfl, Nat.le_of_ble_eq_true rfl⟩ (Nat.le_of_ble_eq_true rfl) ⟨Nat.le_of_ble_eq_true rfl, Nat.le_of_ble_eq_true rfl⟩ rfl dX4_take_1 ?_
  refine zkq (G := fun v1 w1 => zG p l e _ s m args below meth c D _ _ _ _ _ _ _ (v1.toList ++ _) w1) rfl ?_
  refine z_iload_n hC dX4_take_4 rfl ?_
  refine z_iconst (v := 0) hC dX4_take_5 (by decide) ?_
  refine z_sipush (v := 999) hC dX4_take_6 (by decide) ?_
  exact z_callSX [] hC (x_X4_checkRange l D ct v 0 999 hx0 hlf) hx hex bw_170 bw_171 bw_2 bw_172 3 (by decide +kernel) rfl rfl rfl ⟨Nat.le_of_ble_eq_true rfl, Nat.le_of_ble_eq_true rfl⟩ (Nat.le_of_ble_eq_true rfl) ⟨Nat.le_of_ble_eq_true rfl, Nat.le_of_ble_eq_true rfl⟩ ⟨Nat.le_of_ble_eq_true rfl, Nat.le_of_ble_eq_true rfl⟩ rfl dX4_take_9

set_option maxRecDepth 100000 in
set_option maxHeartbeats 1000000 in
theorem x_X4_run_IAE (l : Launch) (D : va_G) (ct : Nat → ClassId) (b : Nat) (qs qt qh qx : Nat → Nat) (v : Int32) (hx0 : v < 1 ∨ 100 < v) (hlf : l.stackTraces = false) : zX l D ct yX4_run cX4_run 2 (some .int) 8 152 1 6 [.ref b, .int v] ([cN b qs qt qh qx]) ([cN b qs qt qh qx]) xIAE := by
  refine zX_of ([some (.ref b), some (.int v)]) (by decide +kernel) rfl (Nat.le_of_ble_eq_true rfl) ?_
  intro p e s m args below meth c hC hx hex
  refine z_iload_n hC dX4_run_0 rfl ?_
  refine z_iconst (v := 1) hC dX4_run_1 (by decide) ?_
  refine z_bipush (v := 100) hC dX4_run_2 (by decide) ?_
  exact z_callSX [] hC (x_X4_checkRange l D ct v 1 100 hx0 hlf) hx hex bw_170 bw_171 bw_2 bw_172 3 (by decide +kernel) rfl rfl rfl ⟨Nat.le_of_ble_eq_true rfl, Nat.le_of_ble_eq_true rfl⟩ (Nat.le_of_ble_eq_true rfl) ⟨Nat.le_of_ble_eq_true rfl, Nat.le_of_ble_eq_true rfl⟩ ⟨Nat.le_of_ble_eq_true rfl, Nat.le_of_ble_eq_true rfl⟩ rfl dX4_run_4

set_option maxRecDepth 100000 in
set_option maxHeartbeats 1000000 in
theorem x_X4_ifRun_IAE (l : Launch) (D : va_G) (ct : Nat → ClassId) (b : Nat) (qs qt qh qx : Nat → Nat) (v : Int32) (hx0 : v < 1 ∨ 100 < v) (hlf : l.stackTraces = false) : zX l D ct yX4_ifRun cX4_ifRun 2 (some .int) 8 152 1 6 [.ref b, .int v] ([cN b qs qt qh qx]) ([cN b qs qt qh qx]) xIAE := by
  refine zX_of ([some (.ref b), some (.int v)]) (by decide +kernel) rfl (Nat.le_of_ble_eq_true rfl) ?_
  intro p e s m args below meth c hC hx hex
  refine z_iload_n hC dX4_ifRun_0 rfl ?_
  refine z_iconst (v := 1) hC dX4_ifRun_1 (by decide) ?_
  refine z_bipush (v := 100) hC dX4_ifRun_2 (by decide) ?_
  exact z_callSX [] hC (x_X4_checkRange l D ct v 1 100 hx0 hlf) hx hex bw_170 bw_171 bw_2 bw_172 3 (by decide +kernel) rfl rfl rfl ⟨Nat.le_of_ble_eq_true rfl, Nat.le_of_ble_eq_true rfl⟩ (Nat.le_of_ble_eq_true rfl) ⟨Nat.le_of_ble_eq_true rfl, Nat.le_of_ble_eq_true rfl⟩ ⟨Nat.le_of_ble_eq_true rfl, Nat.le_of_ble_eq_true rfl⟩ rfl dX4_ifRun_4

set_option maxRecDepth 100000 in
set_option maxHeartbeats 1000000 in
theorem x_X4_take_ISE (l : Launch) (D : va_G) (ct : Nat → ClassId) (b : Nat) (qs qt qh qx : Nat → Nat) (σ : Nat → Nat → Int32) (n v : Int32) (hn : mMeter n = true) (h1 : ¬ v < 0) (h2 : ¬ 999 < v) (hct : msCanTake σ n = false) (hlf : l.stackTraces = false) : zX l D ct yX4_take cX4_take 3 (some .int) 8 150 1 6 [.ref b, .int n, .int v] (cN b qs qt qh qx :: cS qs σ ct) (cN b qs qt qh qx :: cS qs σ ct) xISE := by
  refine zX_of ([some (.ref b), some (.int n), some (.int v)]) (by decide +kernel) rfl (Nat.le_of_ble_eq_true rfl) ?_
  intro p e s m args below meth c hC hx hex
  refine z_iload_n hC dX4_take_0 rfl ?_
  refine z_callS [] hC (c_X4_checkMeter l D ct n hn) bw_107 bw_108 bw_2 bw_109 1 (by decide +kernel) rfl rfl rfl ⟨Nat.le_of_ble_eq_true rfl, Nat.le_of_ble_eq_true rfl⟩ (Nat.le_of_ble_eq_true rfl) ⟨Nat.le_of_ble_eq_true rfl, Nat.le_of_ble_eq_true rfl⟩ rfl dX4_take_1 ?_
  refine zkq (G := fun v1 w1 => zG p l e _ s m args below meth c D _ _ _ _ _ _ _ (v1.toList ++ _) w1) rfl ?_
  refine z_iload_n hC dX4_take_4 rfl ?_
  refine z_iconst (v := 0) hC dX4_take_5 (by decide) ?_
  refine z_sipush (v := 999) hC dX4_take_6 (by decide) ?_
  refine z_callS [] hC (c_X4_checkRange l D ct v 0 999 h1 h2) bw_170 bw_171 bw_2 bw_172 3 (by decide +kernel) rfl rfl rfl ⟨Nat.le_of_ble_eq_true rfl, Nat.le_of_ble_eq_true rfl⟩ (Nat.le_of_ble_eq_true rfl) ⟨Nat.le_of_ble_eq_true rfl, Nat.le_of_ble_eq_true rfl⟩ rfl dX4_take_9 ?_
  refine zkq (G := fun v1 w1 => zG p l e _ s m args below meth c D _ _ _ _ _ _ _ (v1.toList ++ _) w1) rfl ?_
  refine z_aload_n hC dX4_take_12 rfl ?_
  refine z_get 0 0 hC bl_X4 (ci := 4) rfl (by decide) rfl bw_13 rfl rfl dX4_take_13 ?_
  refine z_iload_n hC dX4_take_16 rfl ?_
  refine z_callVN [1, 2, 3, 4, 5, 6, 7, 8, 9, 10, 11, 12, 13, 14, 15, 16] 0 2 hC (c_X2_canTake l D ct qs σ n) nw_35 bw_358 bw_359 bw_12 bw_360 1 (by decide +kernel) rfl rfl rfl rfl rfl ⟨Nat.le_of_ble_eq_true rfl, Nat.le_of_ble_eq_true rfl⟩ (Nat.le_of_ble_eq_true rfl) ⟨Nat.le_of_ble_eq_true rfl, Nat.le_of_ble_eq_true rfl⟩ rfl dX4_take_17 ?_
  refine zkq (G := fun v1 w1 => zG p l e _ s m args below meth c D _ _ _ _ _ _ _ (v1.toList ++ _) w1) rfl ?_
  refine z_if_ne hC 33 dX4_take_20 (by decide) (fun c20 => absurd ((bI_0 _).mpr hct) c20) (fun c20 => ?_)
  exact z_throw (names := xNm) (text := "no room for another reading") hC hx hex hlf (by decide +kernel) (by decide +kernel) bw_356 bw_357 (List.mem_of_getElem? (i := 7) rfl) (List.mem_of_getElem? (i := 1) rfl) ax_ISE1 ax_ISE2 ax_ISE3 dX4_take_23 dX4_take_26 dX4_take_27 dX4_take_29 dX4_take_32 (Nat.le_of_ble_eq_true rfl) (Nat.le_of_ble_eq_true rfl) (Nat.le_of_ble_eq_true rfl) (Nat.le_of_ble_eq_true rfl) (Nat.le_of_ble_eq_true rfl) (Nat.le_of_ble_eq_true rfl) rfl rfl

set_option maxRecDepth 100000 in
set_option maxHeartbeats 1000000 in
theorem x_X4_storedReading_IOB (l : Launch) (D : va_G) (ct : Nat → ClassId) (b : Nat) (qs qt qh qx : Nat → Nat) (n i p0 : Int32) (hx0 : mMeter n = false ∨ i < 0) (hlf : l.stackTraces = false) : zX l D ct yX4_storedReading cX4_storedReading 4 (some .int) 8 150 1 6 [.ref b, .int n, .int i, .int p0] ([cN b qs qt qh qx]) ([cN b qs qt qh qx]) xIOB := by
  refine zX_of ([some (.ref b), some (.int n), some (.int i), some (.int p0)]) (by decide +kernel) rfl (Nat.le_of_ble_eq_true rfl) ?_
  intro p e s m args below meth c hC hx hex
  refine z_iload_n hC dX4_storedReading_0 rfl ?_
  by_cases k1 : mMeter n = false
  · exact z_callSX [] hC (x_X4_checkMeter l D ct n k1 hlf) hx hex bw_107 bw_108 bw_2 bw_109 1 (by decide +kernel) rfl rfl rfl ⟨Nat.le_of_ble_eq_true rfl, Nat.le_of_ble_eq_true rfl⟩ (Nat.le_of_ble_eq_true rfl) ⟨Nat.le_of_ble_eq_true rfl, Nat.le_of_ble_eq_true rfl⟩ ⟨Nat.le_of_ble_eq_true rfl, Nat.le_of_ble_eq_true rfl⟩ rfl dX4_storedReading_1
  refine z_callS [] hC (c_X4_checkMeter l D ct n (by simpa using k1)) bw_107 bw_108 bw_2 bw_109 1 (by decide +kernel) rfl rfl rfl ⟨Nat.le_of_ble_eq_true rfl, Nat.le_of_ble_eq_true rfl⟩ (Nat.le_of_ble_eq_true rfl) ⟨Nat.le_of_ble_eq_true rfl, Nat.le_of_ble_eq_true rfl⟩ rfl dX4_storedReading_1 ?_
  refine zkq (G := fun v1 w1 => zG p l e _ s m args below meth c D _ _ _ _ _ _ _ (v1.toList ++ _) w1) rfl ?_
  refine z_iload_n hC dX4_storedReading_4 rfl ?_
  exact z_callSX [] hC (x_X4_checkIndex l D ct i (hx0.resolve_left k1) hlf) hx hex bw_167 bw_168 bw_2 bw_169 1 (by decide +kernel) rfl rfl rfl ⟨Nat.le_of_ble_eq_true rfl, Nat.le_of_ble_eq_true rfl⟩ (Nat.le_of_ble_eq_true rfl) ⟨Nat.le_of_ble_eq_true rfl, Nat.le_of_ble_eq_true rfl⟩ ⟨Nat.le_of_ble_eq_true rfl, Nat.le_of_ble_eq_true rfl⟩ rfl dX4_storedReading_5

set_option maxRecDepth 100000 in
set_option maxHeartbeats 1000000 in
theorem x_X4_storedReading_IAE (l : Launch) (D : va_G) (ct : Nat → ClassId) (b : Nat) (qs qt qh qx : Nat → Nat) (n i p0 : Int32) (hn : mMeter n = true) (hi : ¬ i < 0) (hx0 : p0 < 0 ∨ 4 < p0) (hlf : l.stackTraces = false) : zX l D ct yX4_storedReading cX4_storedReading 4 (some .int) 8 150 1 6 [.ref b, .int n, .int i, .int p0] ([cN b qs qt qh qx]) ([cN b qs qt qh qx]) xIAE := by
  refine zX_of ([some (.ref b), some (.int n), some (.int i), some (.int p0)]) (by decide +kernel) rfl (Nat.le_of_ble_eq_true rfl) ?_
  intro p e s m args below meth c hC hx hex
  refine z_iload_n hC dX4_storedReading_0 rfl ?_
  refine z_callS [] hC (c_X4_checkMeter l D ct n hn) bw_107 bw_108 bw_2 bw_109 1 (by decide +kernel) rfl rfl rfl ⟨Nat.le_of_ble_eq_true rfl, Nat.le_of_ble_eq_true rfl⟩ (Nat.le_of_ble_eq_true rfl) ⟨Nat.le_of_ble_eq_true rfl, Nat.le_of_ble_eq_true rfl⟩ rfl dX4_storedReading_1 ?_
  refine zkq (G := fun v1 w1 => zG p l e _ s m args below meth c D _ _ _ _ _ _ _ (v1.toList ++ _) w1) rfl ?_
  refine z_iload_n hC dX4_storedReading_4 rfl ?_
  refine z_callS [] hC (c_X4_checkIndex l D ct i hi) bw_167 bw_168 bw_2 bw_169 1 (by decide +kernel) rfl rfl rfl ⟨Nat.le_of_ble_eq_true rfl, Nat.le_of_ble_eq_true rfl⟩ (Nat.le_of_ble_eq_true rfl) ⟨Nat.le_of_ble_eq_true rfl, Nat.le_of_ble_eq_true rfl⟩ rfl dX4_storedReading_5 ?_
  refine zkq (G := fun v1 w1 => zG p l e _ s m args below meth c D _ _ _ _ _ _ _ (v1.toList ++ _) w1) rfl ?_
  refine z_iload_n hC dX4_storedReading_8 rfl ?_
  refine z_iconst (v := 0) hC dX4_storedReading_9 (by decide) ?_
  refine z_iconst (v := 4) hC dX4_storedReading_10 (by decide) ?_
  exact z_callSX [] hC (x_X4_checkRange l D ct p0 0 4 hx0 hlf) hx hex bw_170 bw_171 bw_2 bw_172 3 (by decide +kernel) rfl rfl rfl ⟨Nat.le_of_ble_eq_true rfl, Nat.le_of_ble_eq_true rfl⟩ (Nat.le_of_ble_eq_true rfl) ⟨Nat.le_of_ble_eq_true rfl, Nat.le_of_ble_eq_true rfl⟩ ⟨Nat.le_of_ble_eq_true rfl, Nat.le_of_ble_eq_true rfl⟩ rfl dX4_storedReading_11

set_option maxRecDepth 100000 in
set_option maxHeartbeats 1000000 in
theorem x_X4_collectedReading_IOB (l : Launch) (D : va_G) (ct : Nat → ClassId) (b : Nat) (qs qt qh qx : Nat → Nat) (i p0 : Int32) (hx0 : i < 0) (hlf : l.stackTraces = false) : zX l D ct yX4_collectedReading cX4_collectedReading 3 (some .int) 8 150 1 6 [.ref b, .int i, .int p0] ([cN b qs qt qh qx]) ([cN b qs qt qh qx]) xIOB := by
  refine zX_of ([some (.ref b), some (.int i), some (.int p0)]) (by decide +kernel) rfl (Nat.le_of_ble_eq_true rfl) ?_
  intro p e s m args below meth c hC hx hex
  refine z_iload_n hC dX4_collectedReading_0 rfl ?_
  exact z_callSX [] hC (x_X4_checkIndex l D ct i hx0 hlf) hx hex bw_167 bw_168 bw_2 bw_169 1 (by decide +kernel) rfl rfl rfl ⟨Nat.le_of_ble_eq_true rfl, Nat.le_of_ble_eq_true rfl⟩ (Nat.le_of_ble_eq_true rfl) ⟨Nat.le_of_ble_eq_true rfl, Nat.le_of_ble_eq_true rfl⟩ ⟨Nat.le_of_ble_eq_true rfl, Nat.le_of_ble_eq_true rfl⟩ rfl dX4_collectedReading_1

set_option maxRecDepth 100000 in
set_option maxHeartbeats 1000000 in
theorem x_X4_collectedReading_IAE (l : Launch) (D : va_G) (ct : Nat → ClassId) (b : Nat) (qs qt qh qx : Nat → Nat) (i p0 : Int32) (hi : ¬ i < 0) (hx0 : p0 < 0 ∨ 4 < p0) (hlf : l.stackTraces = false) : zX l D ct yX4_collectedReading cX4_collectedReading 3 (some .int) 8 150 1 6 [.ref b, .int i, .int p0] ([cN b qs qt qh qx]) ([cN b qs qt qh qx]) xIAE := by
  refine zX_of ([some (.ref b), some (.int i), some (.int p0)]) (by decide +kernel) rfl (Nat.le_of_ble_eq_true rfl) ?_
  intro p e s m args below meth c hC hx hex
  refine z_iload_n hC dX4_collectedReading_0 rfl ?_
  refine z_callS [] hC (c_X4_checkIndex l D ct i hi) bw_167 bw_168 bw_2 bw_169 1 (by decide +kernel) rfl rfl rfl ⟨Nat.le_of_ble_eq_true rfl, Nat.le_of_ble_eq_true rfl⟩ (Nat.le_of_ble_eq_true rfl) ⟨Nat.le_of_ble_eq_true rfl, Nat.le_of_ble_eq_true rfl⟩ rfl dX4_collectedReading_1 ?_
  refine zkq (G := fun v1 w1 => zG p l e _ s m args below meth c D _ _ _ _ _ _ _ (v1.toList ++ _) w1) rfl ?_
  refine z_iload_n hC dX4_collectedReading_4 rfl ?_
  refine z_iconst (v := 0) hC dX4_collectedReading_5 (by decide) ?_
  refine z_iconst (v := 4) hC dX4_collectedReading_6 (by decide) ?_
  exact z_callSX [] hC (x_X4_checkRange l D ct p0 0 4 hx0 hlf) hx hex bw_170 bw_171 bw_2 bw_172 3 (by decide +kernel) rfl rfl rfl ⟨Nat.le_of_ble_eq_true rfl, Nat.le_of_ble_eq_true rfl⟩ (Nat.le_of_ble_eq_true rfl) ⟨Nat.le_of_ble_eq_true rfl, Nat.le_of_ble_eq_true rfl⟩ ⟨Nat.le_of_ble_eq_true rfl, Nat.le_of_ble_eq_true rfl⟩ rfl dX4_collectedReading_7

set_option maxRecDepth 100000 in
set_option maxHeartbeats 1000000 in
theorem x_X4_undo_ISE (l : Launch) (D : va_G) (ct : Nat → ClassId) (b : Nat) (qs qt qh qx : Nat → Nat) (o : Int32) (rg : Nat → Option Nat) (hlf : l.stackTraces = false) : zX l D ct yX4_undo cX4_undo 2 (some .int) 8 150 1 6 [.ref b] ([cN b qs qt qh qx] ++ cH qh o 0 rg ct) ([cN b qs qt qh qx] ++ cH qh o 0 rg ct) xISE := by
  refine zX_of ([some (.ref b), none]) (by decide +kernel) rfl (Nat.le_of_ble_eq_true rfl) ?_
  intro p e s m args below meth c hC hx hex
  refine z_aload_n hC dX4_undo_0 rfl ?_
  refine z_get 0 2 hC bl_X4 (ci := 4) rfl (by decide) rfl bw_18 rfl rfl dX4_undo_1 ?_
  refine z_callVN [1, 2] 0 0 hC (c_X0_newest0 l D ct qh o rg) nw_30 bw_430 bw_431 bw_17 bw_432 0 (by decide +kernel) rfl rfl rfl rfl rfl ⟨Nat.le_of_ble_eq_true rfl, Nat.le_of_ble_eq_true rfl⟩ (Nat.le_of_ble_eq_true rfl) ⟨Nat.le_of_ble_eq_true rfl, Nat.le_of_ble_eq_true rfl⟩ rfl dX4_undo_4 ?_
  refine zkq (G := fun v1 w1 => zG p l e _ s m args below meth c D _ _ _ _ _ _ _ (v1.toList ++ _) w1) rfl ?_
  refine z_astore_nN hC dX4_undo_7 (by decide) rfl ?_
  refine z_aload_nN hC dX4_undo_8 rfl ?_
  refine z_ifnonnullN hC dX4_undo_9 ?_
  exact z_throw (names := xNm) (text := "there is no saved state") hC hx hex hlf (by decide +kernel) (by decide +kernel) bw_356 bw_357 (List.mem_of_getElem? (i := 0) rfl) (List.mem_of_getElem? (i := 1) rfl) ax_ISE1 ax_ISE2 ax_ISE3 dX4_undo_12 dX4_undo_15 dX4_undo_16 dX4_undo_18 dX4_undo_21 (Nat.le_of_ble_eq_true rfl) (Nat.le_of_ble_eq_true rfl) (Nat.le_of_ble_eq_true rfl) (Nat.le_of_ble_eq_true rfl) (Nat.le_of_ble_eq_true rfl) (Nat.le_of_ble_eq_true rfl) rfl rfl

set_option maxRecDepth 100000 in
set_option maxHeartbeats 1000000 in
theorem x_X4_count_IAE (l : Launch) (D : va_G) (ct : Nat → ClassId) (b : Nat) (qs qt qh qx : Nat → Nat) (k : Int32) (n0 : ¬ k = 0) (n1 : ¬ k = 1) (n2 : ¬ k = 2) (n3 : ¬ k = 3) (n4 : ¬ k = 4) (n5 : ¬ k = 5) (hlf : l.stackTraces = false) : zX l D ct yX4_count cX4_count 2 (some .int) 8 150 1 6 [.ref b, .int k] ([cN b qs qt qh qx]) ([cN b qs qt qh qx]) xIAE := by
  refine zX_of ([some (.ref b), some (.int k)]) (by decide +kernel) rfl (Nat.le_of_ble_eq_true rfl) ?_
  intro p e s m args below meth c hC hx hex
  refine z_iload_n hC dX4_count_0 rfl ?_
  have s1_0 : ¬ k = 0 := n0
  have s1_1 : ¬ k = 1 := n1
  have s1_2 : ¬ k = 2 := n2
  have s1_3 : ¬ k = 3 := n3
  have s1_4 : ¬ k = 4 := n4
  have s1_5 : ¬ k = 5 := n5
  have t1_0 : (0 : Int32).toInt = 0 := rfl
  have n1_0 := mt i_eq.mpr s1_0
  have t1_1 : (1 : Int32).toInt = 1 := rfl
  have n1_1 := mt i_eq.mpr s1_1
  have t1_2 : (2 : Int32).toInt = 2 := rfl
  have n1_2 := mt i_eq.mpr s1_2
  have t1_3 : (3 : Int32).toInt = 3 := rfl
  have n1_3 := mt i_eq.mpr s1_3
  have t1_4 : (4 : Int32).toInt = 4 := rfl
  have n1_4 := mt i_eq.mpr s1_4
  have t1_5 : (5 : Int32).toInt = 5 := rfl
  have n1_5 := mt i_eq.mpr s1_5
  refine z_tableOut hC 91 dX4_count_1 (by omega) (by decide) ?_
  exact z_throw (names := xNm) (text := "there is no such count") hC hx hex hlf (by decide +kernel) (by decide +kernel) bw_173 bw_174 (List.mem_of_getElem? (i := 1) rfl) (List.mem_of_getElem? (i := 0) rfl) ax_IAE1 ax_IAE2 ax_IAE3 dX4_count_91 dX4_count_94 dX4_count_95 dX4_count_97 dX4_count_100 (Nat.le_of_ble_eq_true rfl) (Nat.le_of_ble_eq_true rfl) (Nat.le_of_ble_eq_true rfl) (Nat.le_of_ble_eq_true rfl) (Nat.le_of_ble_eq_true rfl) (Nat.le_of_ble_eq_true rfl) rfl rfl
