abbrev xNm : List String := ["java/lang/RuntimeException", "java/lang/Exception"]
def mMeter (n : Int32) : Bool := mNode n && decide (¬ n = 0)
theorem meter_node {n : Int32} (h : mMeter n = true) : mNode n = true := by
  unfold mMeter at h
  simp only [Bool.and_eq_true] at h
  exact h.1
theorem meter_0 {n : Int32} (h : mMeter n = true) : ¬ n = 0 := by
  unfold mMeter at h
  simp only [Bool.and_eq_true, decide_eq_true_eq] at h
  exact h.2
theorem meter_no {n : Int32} (h : mMeter n = false) (h1 : mNode n = true) : n = 0 := by
  unfold mMeter at h
  rw [h1] at h
  simpa using h
theorem ax_IAE0 : ∀ w ∈ (vx_atS RX4 41 xIAE xNm).filter goodWord, w ∈ lw_tbl := by decide +kernel
theorem ax_IAE1 : ∀ w ∈ (vx_atS RX4 41 xIAE xNm).filter goodWord, w ∈ BW := fun w h => List.mem_filter.mpr ⟨ax_IAE0 w h, (List.mem_filter.mp h).2⟩
theorem ax_IAE2 : ∀ w ∈ (vx_atS RX4 41 xIAE xNm).filter (fun w => !goodWord w), w ∈ Cond.castable xIAE xIAE :: DL.map Cond.declares := by decide +kernel
theorem ax_IOB0 : ∀ w ∈ (vx_atS RX4 239 xIOB xNm).filter goodWord, w ∈ lw_tbl := by decide +kernel
theorem ax_IOB1 : ∀ w ∈ (vx_atS RX4 239 xIOB xNm).filter goodWord, w ∈ BW := fun w h => List.mem_filter.mpr ⟨ax_IOB0 w h, (List.mem_filter.mp h).2⟩
theorem ax_IOB2 : ∀ w ∈ (vx_atS RX4 239 xIOB xNm).filter (fun w => !goodWord w), w ∈ Cond.castable xIOB xIOB :: DL.map Cond.declares := by decide +kernel
theorem ax_ISE0 : ∀ w ∈ (vx_atS RX4 89 xISE xNm).filter goodWord, w ∈ lw_tbl := by decide +kernel
theorem ax_ISE1 : ∀ w ∈ (vx_atS RX4 89 xISE xNm).filter goodWord, w ∈ BW := fun w h => List.mem_filter.mpr ⟨ax_ISE0 w h, (List.mem_filter.mp h).2⟩
theorem ax_ISE2 : ∀ w ∈ (vx_atS RX4 89 xISE xNm).filter (fun w => !goodWord w), w ∈ Cond.castable xISE xISE :: DL.map Cond.declares := by decide +kernel
theorem ax_IAE3 : ∀ w ∈ Cond.classLink RX4 37 xIAE :: Cond.initialized xIAE :: vx_atS RX4 41 xIAE xNm, vx_ot w = true := by decide +kernel
theorem ax_IOB3 : ∀ w ∈ Cond.classLink RX4 235 xIOB :: Cond.initialized xIOB :: vx_atS RX4 239 xIOB xNm, vx_ot w = true := by decide +kernel
theorem ax_ISE3 : ∀ w ∈ Cond.classLink RX4 85 xISE :: Cond.initialized xISE :: vx_atS RX4 89 xISE xNm, vx_ot w = true := by decide +kernel
set_option maxRecDepth 100000 in
set_option maxHeartbeats 1000000 in
theorem c_X4_checkNode (l : Launch) (D : va_G) (ct : Nat → ClassId) (n : Int32) (hn : mNode n = true) : zT l D ct yX4_checkNode cX4_checkNode 1 none 1 20 0 0 [.int n] (([] : va_W)) (zd none (([] : va_W))) := by
  refine zT_of ([some (.int n)]) (by decide +kernel) rfl (Nat.le_of_ble_eq_true rfl) ?_
  intro p e s m args below meth c hC hr hnm
  refine z_iload_n hC dX4_checkNode_0 rfl ?_
  refine z_callS [] hC (c_X4_isNode l D ct n) bw_79 bw_80 bw_2 bw_81 1 (by decide +kernel) rfl rfl rfl ⟨Nat.le_of_ble_eq_true rfl, Nat.le_of_ble_eq_true rfl⟩ (Nat.le_of_ble_eq_true rfl) ⟨Nat.le_of_ble_eq_true rfl, Nat.le_of_ble_eq_true rfl⟩ rfl dX4_checkNode_1 ?_
  refine zkq (G := fun v1 w1 => zG p l e _ s m args below meth c D _ _ _ _ _ _ _ (v1.toList ++ _) w1) rfl ?_
  refine z_if_ne hC 17 dX4_checkNode_4 (by decide) (fun c4 => ?_) (fun c4 => absurd c4 ((bI_1 _).mpr hn))
  exact z_vretd hC hr dX4_checkNode_17 (Nat.zero_le _) (Nat.zero_le _) (by first | rfl | (simp [c4, *]; done)) rfl

set_option maxRecDepth 100000 in
set_option maxHeartbeats 1000000 in
theorem x_X4_checkNode (l : Launch) (D : va_G) (ct : Nat → ClassId) (n : Int32) (hn : mNode n = false) (hlf : l.stackTraces = false) : zX l D ct yX4_checkNode cX4_checkNode 1 none 6 95 1 6 [.int n] (([] : va_W)) (([] : va_W)) xIOB := by
  refine zX_of ([some (.int n)]) (by decide +kernel) rfl (Nat.le_of_ble_eq_true rfl) ?_
  intro p e s m args below meth c hC hx hex
  refine z_iload_n hC dX4_checkNode_0 rfl ?_
  refine z_callS [] hC (c_X4_isNode l D ct n) bw_79 bw_80 bw_2 bw_81 1 (by decide +kernel) rfl rfl rfl ⟨Nat.le_of_ble_eq_true rfl, Nat.le_of_ble_eq_true rfl⟩ (Nat.le_of_ble_eq_true rfl) ⟨Nat.le_of_ble_eq_true rfl, Nat.le_of_ble_eq_true rfl⟩ rfl dX4_checkNode_1 ?_
  refine zkq (G := fun v1 w1 => zG p l e _ s m args below meth c D _ _ _ _ _ _ _ (v1.toList ++ _) w1) rfl ?_
  refine z_if_ne hC 17 dX4_checkNode_4 (by decide) (fun c4 => absurd ((bI_0 _).mpr hn) c4) (fun c4 => ?_)
  exact z_throw (names := xNm) (text := "there is no such node") hC hx hex hlf (by decide +kernel) (by decide +kernel) bw_77 bw_78 (List.mem_of_getElem? (i := 2) rfl) (List.mem_of_getElem? (i := 2) rfl) ax_IOB1 ax_IOB2 ax_IOB3 dX4_checkNode_7 dX4_checkNode_10 dX4_checkNode_11 dX4_checkNode_13 dX4_checkNode_16 (Nat.le_of_ble_eq_true rfl) (Nat.le_of_ble_eq_true rfl) (Nat.le_of_ble_eq_true rfl) (Nat.le_of_ble_eq_true rfl) (Nat.le_of_ble_eq_true rfl) (Nat.le_of_ble_eq_true rfl) rfl rfl

set_option maxRecDepth 100000 in
set_option maxHeartbeats 1000000 in
theorem c_X4_checkMeter (l : Launch) (D : va_G) (ct : Nat → ClassId) (n : Int32) (hn : mMeter n = true) : zT l D ct yX4_checkMeter cX4_checkMeter 1 none 1 20 0 0 [.int n] (([] : va_W)) (zd none (([] : va_W))) := by
  refine zT_of ([some (.int n)]) (by decide +kernel) rfl (Nat.le_of_ble_eq_true rfl) ?_
  intro p e s m args below meth c hC hr hnm
  refine z_iload_n hC dX4_checkMeter_0 rfl ?_
  refine z_callS [] hC (c_X4_isNode l D ct n) bw_79 bw_80 bw_2 bw_81 1 (by decide +kernel) rfl rfl rfl ⟨Nat.le_of_ble_eq_true rfl, Nat.le_of_ble_eq_true rfl⟩ (Nat.le_of_ble_eq_true rfl) ⟨Nat.le_of_ble_eq_true rfl, Nat.le_of_ble_eq_true rfl⟩ rfl dX4_checkMeter_1 ?_
  refine zkq (G := fun v1 w1 => zG p l e _ s m args below meth c D _ _ _ _ _ _ _ (v1.toList ++ _) w1) rfl ?_
  refine z_if_eq hC 11 dX4_checkMeter_4 (by decide) (fun c4 => absurd c4 ((bI_1 _).mpr (meter_node hn))) (fun c4 => ?_)
  refine z_iload_n hC dX4_checkMeter_7 rfl ?_
  refine z_if_ne hC 21 dX4_checkMeter_8 (by decide) (fun c8 => ?_) (fun c8 => absurd c8 (meter_0 hn))
  exact z_vretd hC hr dX4_checkMeter_21 (Nat.zero_le _) (Nat.zero_le _) (by first | rfl | (simp [c4, c8, *]; done)) rfl

set_option maxRecDepth 100000 in
set_option maxHeartbeats 1000000 in
theorem x_X4_checkMeter (l : Launch) (D : va_G) (ct : Nat → ClassId) (n : Int32) (hn : mMeter n = false) (hlf : l.stackTraces = false) : zX l D ct yX4_checkMeter cX4_checkMeter 1 none 6 95 1 6 [.int n] (([] : va_W)) (([] : va_W)) xIOB := by
  refine zX_of ([some (.int n)]) (by decide +kernel) rfl (Nat.le_of_ble_eq_true rfl) ?_
  intro p e s m args below meth c hC hx hex
  refine z_iload_n hC dX4_checkMeter_0 rfl ?_
  refine z_callS [] hC (c_X4_isNode l D ct n) bw_79 bw_80 bw_2 bw_81 1 (by decide +kernel) rfl rfl rfl ⟨Nat.le_of_ble_eq_true rfl, Nat.le_of_ble_eq_true rfl⟩ (Nat.le_of_ble_eq_true rfl) ⟨Nat.le_of_ble_eq_true rfl, Nat.le_of_ble_eq_true rfl⟩ rfl dX4_checkMeter_1 ?_
  refine zkq (G := fun v1 w1 => zG p l e _ s m args below meth c D _ _ _ _ _ _ _ (v1.toList ++ _) w1) rfl ?_
  refine z_if_eq hC 11 dX4_checkMeter_4 (by decide) (fun c4 => ?_) (fun c4 => ?_)
  · rw [bI_0] at c4
    exact z_throw (names := xNm) (text := "there is no such meter") hC hx hex hlf (by decide +kernel) (by decide +kernel) bw_77 bw_78 (List.mem_of_getElem? (i := 3) rfl) (List.mem_of_getElem? (i := 2) rfl) ax_IOB1 ax_IOB2 ax_IOB3 dX4_checkMeter_11 dX4_checkMeter_14 dX4_checkMeter_15 dX4_checkMeter_17 dX4_checkMeter_20 (Nat.le_of_ble_eq_true rfl) (Nat.le_of_ble_eq_true rfl) (Nat.le_of_ble_eq_true rfl) (Nat.le_of_ble_eq_true rfl) (Nat.le_of_ble_eq_true rfl) (Nat.le_of_ble_eq_true rfl) rfl rfl
  · rw [bI_1] at c4
    refine z_iload_n hC dX4_checkMeter_7 rfl ?_
    refine z_if_ne hC 21 dX4_checkMeter_8 (by decide) (fun c8 => absurd (meter_no hn c4) c8) (fun c8 => ?_)
    exact z_throw (names := xNm) (text := "there is no such meter") hC hx hex hlf (by decide +kernel) (by decide +kernel) bw_77 bw_78 (List.mem_of_getElem? (i := 3) rfl) (List.mem_of_getElem? (i := 2) rfl) ax_IOB1 ax_IOB2 ax_IOB3 dX4_checkMeter_11 dX4_checkMeter_14 dX4_checkMeter_15 dX4_checkMeter_17 dX4_checkMeter_20 (Nat.le_of_ble_eq_true rfl) (Nat.le_of_ble_eq_true rfl) (Nat.le_of_ble_eq_true rfl) (Nat.le_of_ble_eq_true rfl) (Nat.le_of_ble_eq_true rfl) (Nat.le_of_ble_eq_true rfl) rfl rfl

set_option maxRecDepth 100000 in
set_option maxHeartbeats 1000000 in
theorem c_X4_checkIndex (l : Launch) (D : va_G) (ct : Nat → ClassId) (n : Int32) (hn : ¬ n < 0) : zT l D ct yX4_checkIndex cX4_checkIndex 1 none 0 0 0 0 [.int n] (([] : va_W)) (zd none (([] : va_W))) := by
  refine zT_of ([some (.int n)]) (by decide +kernel) rfl (Nat.le_of_ble_eq_true rfl) ?_
  intro p e s m args below meth c hC hr hnm
  refine z_iload_n hC dX4_checkIndex_0 rfl ?_
  refine z_if_ge hC 14 dX4_checkIndex_1 (by decide) (fun c1 => ?_) (fun c1 => absurd (i_nlt.mp hn) c1)
  exact z_vretd hC hr dX4_checkIndex_14 (Nat.zero_le _) (Nat.zero_le _) (by first | rfl | (simp [c1, i_nlt.mpr c1, *]; done)) rfl

set_option maxRecDepth 100000 in
set_option maxHeartbeats 1000000 in
theorem x_X4_checkIndex (l : Launch) (D : va_G) (ct : Nat → ClassId) (n : Int32) (hn : n < 0) (hlf : l.stackTraces = false) : zX l D ct yX4_checkIndex cX4_checkIndex 1 none 6 95 1 6 [.int n] (([] : va_W)) (([] : va_W)) xIOB := by
  refine zX_of ([some (.int n)]) (by decide +kernel) rfl (Nat.le_of_ble_eq_true rfl) ?_
  intro p e s m args below meth c hC hx hex
  refine z_iload_n hC dX4_checkIndex_0 rfl ?_
  refine z_if_ge hC 14 dX4_checkIndex_1 (by decide) (fun c1 => absurd hn (i_nlt.mpr c1)) (fun c1 => ?_)
  exact z_throw (names := xNm) (text := "the index is negative") hC hx hex hlf (by decide +kernel) (by decide +kernel) bw_77 bw_78 (List.mem_of_getElem? (i := 4) rfl) (List.mem_of_getElem? (i := 2) rfl) ax_IOB1 ax_IOB2 ax_IOB3 dX4_checkIndex_4 dX4_checkIndex_7 dX4_checkIndex_8 dX4_checkIndex_10 dX4_checkIndex_13 (Nat.le_of_ble_eq_true rfl) (Nat.le_of_ble_eq_true rfl) (Nat.le_of_ble_eq_true rfl) (Nat.le_of_ble_eq_true rfl) (Nat.le_of_ble_eq_true rfl) (Nat.le_of_ble_eq_true rfl) rfl rfl

set_option maxRecDepth 100000 in
set_option maxHeartbeats 1000000 in
theorem c_X4_checkRange (l : Launch) (D : va_G) (ct : Nat → ClassId) (x lo hi : Int32) (h1 : ¬ x < lo) (h2 : ¬ hi < x) : zT l D ct yX4_checkRange cX4_checkRange 3 none 0 0 0 0 [.int x, .int lo, .int hi] (([] : va_W)) (zd none (([] : va_W))) := by
  refine zT_of ([some (.int x), some (.int lo), some (.int hi)]) (by decide +kernel) rfl (Nat.le_of_ble_eq_true rfl) ?_
  intro p e s m args below meth c hC hr hnm
  refine z_iload_n hC dX4_checkRange_0 rfl ?_
  refine z_iload_n hC dX4_checkRange_1 rfl ?_
  refine z_icmp_lt hC 10 dX4_checkRange_2 (by decide) (fun c2 => absurd c2 h1) (fun c2 => ?_)
  refine z_iload_n hC dX4_checkRange_5 rfl ?_
  refine z_iload_n hC dX4_checkRange_6 rfl ?_
  refine z_icmp_le hC 20 dX4_checkRange_7 (by decide) (fun c7 => ?_) (fun c7 => absurd (i_nlt.mp h2) c7)
  exact z_vretd hC hr dX4_checkRange_20 (Nat.zero_le _) (Nat.zero_le _) (by first | rfl | (simp [c2, c7, i_nlt.mp c2, i_nlt.mpr c7, *]; done)) rfl

set_option maxRecDepth 100000 in
set_option maxHeartbeats 1000000 in
theorem x_X4_checkRange (l : Launch) (D : va_G) (ct : Nat → ClassId) (x lo hi : Int32) (h1 : x < lo ∨ hi < x) (hlf : l.stackTraces = false) : zX l D ct yX4_checkRange cX4_checkRange 3 none 6 95 1 6 [.int x, .int lo, .int hi] (([] : va_W)) (([] : va_W)) xIAE := by
  refine zX_of ([some (.int x), some (.int lo), some (.int hi)]) (by decide +kernel) rfl (Nat.le_of_ble_eq_true rfl) ?_
  intro p e s m args below meth c hC hx hex
  refine z_iload_n hC dX4_checkRange_0 rfl ?_
  refine z_iload_n hC dX4_checkRange_1 rfl ?_
  refine z_icmp_lt hC 10 dX4_checkRange_2 (by decide) (fun c2 => ?_) (fun c2 => ?_)
  · exact z_throw (names := xNm) (text := "the value is out of range") hC hx hex hlf (by decide +kernel) (by decide +kernel) bw_173 bw_174 (List.mem_of_getElem? (i := 5) rfl) (List.mem_of_getElem? (i := 0) rfl) ax_IAE1 ax_IAE2 ax_IAE3 dX4_checkRange_10 dX4_checkRange_13 dX4_checkRange_14 dX4_checkRange_16 dX4_checkRange_19 (Nat.le_of_ble_eq_true rfl) (Nat.le_of_ble_eq_true rfl) (Nat.le_of_ble_eq_true rfl) (Nat.le_of_ble_eq_true rfl) (Nat.le_of_ble_eq_true rfl) (Nat.le_of_ble_eq_true rfl) rfl rfl
  · refine z_iload_n hC dX4_checkRange_5 rfl ?_
    refine z_iload_n hC dX4_checkRange_6 rfl ?_
    refine z_icmp_le hC 20 dX4_checkRange_7 (by decide) (fun c7 => (h1.elim (fun g => absurd g c2) (fun g => absurd g (i_nlt.mpr c7)))) (fun c7 => ?_)
    exact z_throw (names := xNm) (text := "the value is out of range") hC hx hex hlf (by decide +kernel) (by decide +kernel) bw_173 bw_174 (List.mem_of_getElem? (i := 5) rfl) (List.mem_of_getElem? (i := 0) rfl) ax_IAE1 ax_IAE2 ax_IAE3 dX4_checkRange_10 dX4_checkRange_13 dX4_checkRange_14 dX4_checkRange_16 dX4_checkRange_19 (Nat.le_of_ble_eq_true rfl) (Nat.le_of_ble_eq_true rfl) (Nat.le_of_ble_eq_true rfl) (Nat.le_of_ble_eq_true rfl) (Nat.le_of_ble_eq_true rfl) (Nat.le_of_ble_eq_true rfl) rfl rfl
