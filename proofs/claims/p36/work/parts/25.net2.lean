section ZD
variable {p : Program} {l : Launch} {e : Env} {R : Room} {s : State} {m : MethodId} {args : Array Value} {below : List Frame} {meth : Method} {c : Code} {D : va_G} {A : Nat → Prop} {nL : Nat} {Q : State → Prop} {cells slots pc : Nat} {ls : List (Option Value)} {st : List Value} {w : va_W} {own : String} {cc : ByteArray} {ct : Nat → ClassId}
theorem z_ldc2d {ix : Nat} {v : UInt64} (h : zC p s m meth c args own nL cc D ct A) (hk : Cond.constantDouble own ix v ∈ BW) (d : decode cc pc = .ok (.ldc2_w ix, 3)) (k : zG p l e R s m args below meth c D A nL Q cells slots (pc + 3) ls (.double v :: st) w) : zG p l e R s m args below meth c D A nL Q cells slots pc ls st w := fun H locs L hP hD hS hL => lv_ldc2d (z_exec h) (z_code h) (z_own h) (z_hts h _ hk) d (k H locs L hP hD hS hL)
end ZD
theorem z_dretd {p : Program} {l : Launch} {e : Env} {R : Room} {s : State} {m : MethodId} {args : Array Value} {below : List Frame} {meth : Method} {c : Code} {D : va_G} {nL : Nat} {cells slots pc mc ms : Nat} {ls : List (Option Value)} {w w0 w' : va_W} {own : String} {cc : ByteArray} {ct : Nat → ClassId} {v r : UInt64} (h : zC p s m meth c args own nL cc D ct (va_A w0 s.heap.size)) (hr : meth.sig.returnType = some .double) (d : decode cc pc = .ok (.dreturn, 1)) (hc : cells ≤ mc) (hs : slots ≤ ms) (hv : v = r) (hw : w = w') (hadr : w'.map Prod.fst = w0.map Prod.fst) : zG p l e R s m args below meth c D (va_A w0 s.heap.size) nL (MQ below (zQ D ct w0 s.heap.size (zd (some (.double r)) w')) args s mc ms (va_A w0 s.heap.size)) cells slots pc ls [.double v] w := by
  subst hv; subst hw
  exact z_dret h hr d hc hs ⟨rfl, rfl, rfl⟩ (List.append_nil _).symm hadr
def mDiv (x : Int32) : UInt64 := FP.ddiv (FP.i2d x) 4621256167635550208
theorem mDiv_ok : ∀ k : Nat, k < 11 → vf_n64 (FP.ddiv (FP.i2d (nI k)) 4621256167635550208) := by
  unfold vf_n64
  decide +kernel
theorem msJoined_le (σ : Nat → Nat → Int32) : ∃ k : Nat, k < 11 ∧ msJoined σ = nI k := by
  have h : ∀ (k i j : Nat), j + k ≤ 10 → ∃ n : Nat, n ≤ j + k ∧ kfor (fun i (a : Int32) => a + (if σ 3 (nI i).toNatClampNeg = -1 then 0 else 1)) k i (nI j) = nI n := by
    intro k
    induction k with
    | zero => intro i j hj; exact ⟨j, by omega, rfl⟩
    | succ k ih =>
      intro i j hj
      show ∃ n : Nat, n ≤ j + (k + 1) ∧ kfor _ k (i + 1) (nI j + (if σ 3 (nI i).toNatClampNeg = -1 then 0 else 1)) = nI n
      split
      · obtain ⟨n, h1, h2⟩ := ih (i + 1) j (by omega)
        exact ⟨n, by omega, by rw [show nI j + 0 = nI j from by simp]; exact h2⟩
      · obtain ⟨n, h1, h2⟩ := ih (i + 1) (j + 1) (by omega)
        exact ⟨n, by omega, by rw [nI_1]; exact h2⟩
  obtain ⟨n, h1, h2⟩ := h 10 0 0 (by omega)
  exact ⟨n, by omega, h2⟩
theorem cNS_all {x : Nat × va_E} {q : Nat → Nat} {σ τ : Nat → Nat → Int32} {ct : Nat → ClassId} {B : va_W} : wput (x :: (cS q σ ct ++ B)) [1, 2, 3, 4, 5, 6, 7, 8, 9, 10, 11, 12, 13, 14, 15, 16] (cS q τ ct) = x :: (cS q τ ct ++ B) := rfl
theorem cNT_all {x : Nat × va_E} {q : Nat → Nat} {σ τ : Nat → Nat → Int32} {ct : Nat → ClassId} : wput (x :: cT q σ ct) [1, 2] (cT q τ ct) = x :: cT q τ ct := rfl
theorem cNT_f0 {x : Nat × va_E} {q : Nat → Nat} {σ : Nat → Nat → Int32} {ct : Nat → ClassId} {v : Int32} : (x :: cT q σ ct).set 1 (q 0, .inr (3, [Value.ref (q 1), .int (σ 0 0), .int (σ 0 1), .int (σ 0 2), .int (σ 0 3), .int (σ 0 4), .int (σ 0 5)].set 1 (.int v))) = x :: cT q (u2 σ 0 0 v) ct := rfl
theorem cNT_adr {x : Nat × va_E} {q : Nat → Nat} {σ τ : Nat → Nat → Int32} {ct : Nat → ClassId} : (x :: cT q σ ct).map Prod.fst = (x :: cT q τ ct).map Prod.fst := rfl
theorem ofRange {x lo hi : Int32} (h : ¬ (x < lo ∨ hi < x)) : ¬ x < lo ∧ ¬ hi < x := ⟨fun g => h (Or.inl g), fun g => h (Or.inr g)⟩
/-- a new network -/
def zM (a : Nat) (ct : Nat → ClassId) : Option Value → va_W → va_W → Prop := fun v wa wb => v = none ∧ ∃ qs qt qh qx : Nat → Nat, wa ++ wb = cN a qs qt qh qx :: (cS qs msInit ct ++ (cS qt msInit ct ++ (cH qh 0 0 (fun _ => none) ct ++ cT qx (fun _ _ => 0) ct)))
def mCount (σ : Nat → Nat → Int32) (k : Int32) : Int32 := if k = 0 then σ 8 0 else if k = 1 then σ 0 2 else if k = 2 then σ 0 3 else if k = 3 then σ 0 4 else if k = 4 then σ 0 5 else σ 0 6
theorem cnt_out {k : Int32} (h1 : ¬ k < 0) (h2 : ¬ 5 < k) (s0 : ¬ k = 0) (s1 : ¬ k = 1) (s2 : ¬ k = 2) (s3 : ¬ k = 3) (s4 : ¬ k = 4) (s5 : ¬ k = 5) : False := by
  obtain ⟨j, hj, rfl⟩ := vnat 6 (by decide) (M := 6) rfl (i_nlt.mp h1) (by rw [Int32.lt_iff_toInt_lt] at h2 ⊢; have e5 : (5 : Int32).toInt = 5 := rfl; have e6 : (6 : Int32).toInt = 6 := rfl; omega)
  match j, hj with
  | 0, _ => exact s0 rfl
  | 1, _ => exact s1 rfl
  | 2, _ => exact s2 rfl
  | 3, _ => exact s3 rfl
  | 4, _ => exact s4 rfl
  | 5, _ => exact s5 rfl
set_option maxRecDepth 100000 in
set_option maxHeartbeats 1000000 in
theorem c_X4_init (l : Launch) (D : va_G) (ct : Nat → ClassId) (a : Nat) : zT l D ct yX4_init cX4_init 1 none 3 66 36 3362 [.ref a] ([(a, .inr (4, [.null, .null, .null, .null]))]) (zM a ct) := by
  refine zT_of ([some (.ref a)]) (by decide +kernel) rfl (Nat.le_of_ble_eq_true rfl) ?_
  intro p e s m args below meth c hC hr hnm
  refine z_aload_n hC dX4_init_0 rfl ?_
  refine z_objInit hC bw_7 dX4_init_1 (Nat.le_of_ble_eq_true rfl) (Nat.le_of_ble_eq_true rfl) ?_
  refine z_aload_n hC dX4_init_4 rfl ?_
  refine z_new (ci := 2) (fs := [.null, .null, .null, .null, .null, .null, .null, .null, .int 0, .int 0, .int 0, .int 0, .int 0, .int 0, .int 0]) hC bl_X2 tyX2_ok bw_10 bw_11 bw_12 rfl (by intro j hj; match j, hj with | 0, _ => rfl | 1, _ => rfl | 2, _ => rfl | 3, _ => rfl | 4, _ => rfl | 5, _ => rfl | 6, _ => rfl | 7, _ => rfl | 8, _ => rfl | 9, _ => rfl | 10, _ => rfl | 11, _ => rfl | 12, _ => rfl | 13, _ => rfl | 14, _ => rfl) (Nat.le_of_ble_eq_true rfl) (Nat.le_of_ble_eq_true rfl) dX4_init_5 (fun q5 => ?_)
  refine zG_w (w2 := [(a, .inr (4, [.null, .null, .null, .null])), (q5, .inr (2, [.null, .null, .null, .null, .null, .null, .null, .null, .int 0, .int 0, .int 0, .int 0, .int 0, .int 0, .int 0]))]) rfl ?_
  refine z_dup hC dX4_init_8 rfl ?_
  refine z_callIN [1] hC (c_X2_init l D ct q5) nw_0 bw_23 bw_12 bw_24 rfl 0 (by decide +kernel) rfl rfl rfl ⟨Nat.le_of_ble_eq_true rfl, Nat.le_of_ble_eq_true rfl⟩ (Nat.le_of_ble_eq_true rfl) ⟨Nat.le_of_ble_eq_true rfl, Nat.le_of_ble_eq_true rfl⟩ rfl dX4_init_9 ?_
  refine zkn (G := fun v1 w1 => zG p l e _ s m args below meth c D _ _ _ _ _ _ _ (v1.toList ++ _) w1) rfl (fun r9 hr9 => ?_)
  subst hr9
  refine zG_w (w2 := [(a, .inr (4, [.null, .null, .null, .null])), (r9 0, .inr (2, [.ref (r9 1), .ref (r9 2), .ref (r9 3), .ref (r9 4), .ref (r9 5), .ref (r9 6), .ref (r9 7), .ref (r9 8), .int (msInit 0 0), .int (msInit 0 1), .int (msInit 0 2), .int (msInit 0 3), .int (msInit 0 4), .int (msInit 0 5), .int (msInit 0 6)])), (r9 1, .inl (ct 1, 100, .inl (msInit 1))), (r9 2, .inl (ct 1, 10, .inl (msInit 2))), (r9 3, .inl (ct 0, 10, .inl (msInit 3))), (r9 4, .inl (ct 0, 10, .inl (msInit 4))), (r9 5, .inl (ct 0, 10, .inl (msInit 5))), (r9 6, .inl (ct 0, 10, .inl (msInit 6))), (r9 7, .inl (ct 0, 10, .inl (msInit 7))), (r9 8, .inr (1, [.ref (r9 9), .ref (r9 10), .ref (r9 11), .ref (r9 12), .int (msInit 8 0), .ref (r9 13), .ref (r9 14), .ref (r9 15)])), (r9 9, .inl (ct 0, 60, .inl (msInit 9))), (r9 10, .inl (ct 0, 60, .inl (msInit 10))), (r9 11, .inl (ct 0, 60, .inl (msInit 11))), (r9 12, .inl (ct 0, 60, .inl (msInit 12))), (r9 13, .inl (ct 0, 10, .inl (msInit 13))), (r9 14, .inl (ct 0, 600, .inl (msInit 14))), (r9 15, .inl (ct 0, 600, .inl (msInit 15)))]) rfl ?_
  refine z_putF (ci := 4) 0 0 hC bl_X4 tyX4_ok nmX4 rfl (by decide) rfl bw_13 hnm rfl rfl rfl rfl rfl (Nat.le_of_ble_eq_true rfl) dX4_init_12 (w2 := [(a, .inr (4, [.ref (r9 0), .null, .null, .null])), (r9 0, .inr (2, [.ref (r9 1), .ref (r9 2), .ref (r9 3), .ref (r9 4), .ref (r9 5), .ref (r9 6), .ref (r9 7), .ref (r9 8), .int (msInit 0 0), .int (msInit 0 1), .int (msInit 0 2), .int (msInit 0 3), .int (msInit 0 4), .int (msInit 0 5), .int (msInit 0 6)])), (r9 1, .inl (ct 1, 100, .inl (msInit 1))), (r9 2, .inl (ct 1, 10, .inl (msInit 2))), (r9 3, .inl (ct 0, 10, .inl (msInit 3))), (r9 4, .inl (ct 0, 10, .inl (msInit 4))), (r9 5, .inl (ct 0, 10, .inl (msInit 5))), (r9 6, .inl (ct 0, 10, .inl (msInit 6))), (r9 7, .inl (ct 0, 10, .inl (msInit 7))), (r9 8, .inr (1, [.ref (r9 9), .ref (r9 10), .ref (r9 11), .ref (r9 12), .int (msInit 8 0), .ref (r9 13), .ref (r9 14), .ref (r9 15)])), (r9 9, .inl (ct 0, 60, .inl (msInit 9))), (r9 10, .inl (ct 0, 60, .inl (msInit 10))), (r9 11, .inl (ct 0, 60, .inl (msInit 11))), (r9 12, .inl (ct 0, 60, .inl (msInit 12))), (r9 13, .inl (ct 0, 10, .inl (msInit 13))), (r9 14, .inl (ct 0, 600, .inl (msInit 14))), (r9 15, .inl (ct 0, 600, .inl (msInit 15)))]) rfl ?_
  refine z_aload_n hC dX4_init_15 rfl ?_
  refine z_new (ci := 2) (fs := [.null, .null, .null, .null, .null, .null, .null, .null, .int 0, .int 0, .int 0, .int 0, .int 0, .int 0, .int 0]) hC bl_X2 tyX2_ok bw_10 bw_11 bw_12 rfl (by intro j hj; match j, hj with | 0, _ => rfl | 1, _ => rfl | 2, _ => rfl | 3, _ => rfl | 4, _ => rfl | 5, _ => rfl | 6, _ => rfl | 7, _ => rfl | 8, _ => rfl | 9, _ => rfl | 10, _ => rfl | 11, _ => rfl | 12, _ => rfl | 13, _ => rfl | 14, _ => rfl) (Nat.le_of_ble_eq_true rfl) (Nat.le_of_ble_eq_true rfl) dX4_init_16 (fun q16 => ?_)
  refine zG_w (w2 := [(a, .inr (4, [.ref (r9 0), .null, .null, .null])), (r9 0, .inr (2, [.ref (r9 1), .ref (r9 2), .ref (r9 3), .ref (r9 4), .ref (r9 5), .ref (r9 6), .ref (r9 7), .ref (r9 8), .int (msInit 0 0), .int (msInit 0 1), .int (msInit 0 2), .int (msInit 0 3), .int (msInit 0 4), .int (msInit 0 5), .int (msInit 0 6)])), (r9 1, .inl (ct 1, 100, .inl (msInit 1))), (r9 2, .inl (ct 1, 10, .inl (msInit 2))), (r9 3, .inl (ct 0, 10, .inl (msInit 3))), (r9 4, .inl (ct 0, 10, .inl (msInit 4))), (r9 5, .inl (ct 0, 10, .inl (msInit 5))), (r9 6, .inl (ct 0, 10, .inl (msInit 6))), (r9 7, .inl (ct 0, 10, .inl (msInit 7))), (r9 8, .inr (1, [.ref (r9 9), .ref (r9 10), .ref (r9 11), .ref (r9 12), .int (msInit 8 0), .ref (r9 13), .ref (r9 14), .ref (r9 15)])), (r9 9, .inl (ct 0, 60, .inl (msInit 9))), (r9 10, .inl (ct 0, 60, .inl (msInit 10))), (r9 11, .inl (ct 0, 60, .inl (msInit 11))), (r9 12, .inl (ct 0, 60, .inl (msInit 12))), (r9 13, .inl (ct 0, 10, .inl (msInit 13))), (r9 14, .inl (ct 0, 600, .inl (msInit 14))), (r9 15, .inl (ct 0, 600, .inl (msInit 15))), (q16, .inr (2, [.null, .null, .null, .null, .null, .null, .null, .null, .int 0, .int 0, .int 0, .int 0, .int 0, .int 0, .int 0]))]) rfl ?_
  refine z_dup hC dX4_init_19 rfl ?_
  refine z_callIN [17] hC (c_X2_init l D ct q16) nw_0 bw_23 bw_12 bw_24 rfl 0 (by decide +kernel) rfl rfl rfl ⟨Nat.le_of_ble_eq_true rfl, Nat.le_of_ble_eq_true rfl⟩ (Nat.le_of_ble_eq_true rfl) ⟨Nat.le_of_ble_eq_true rfl, Nat.le_of_ble_eq_true rfl⟩ rfl dX4_init_20 ?_
  refine zkn (G := fun v1 w1 => zG p l e _ s m args below meth c D _ _ _ _ _ _ _ (v1.toList ++ _) w1) rfl (fun r20 hr20 => ?_)
  subst hr20
  refine zG_w (w2 := [(a, .inr (4, [.ref (r9 0), .null, .null, .null])), (r9 0, .inr (2, [.ref (r9 1), .ref (r9 2), .ref (r9 3), .ref (r9 4), .ref (r9 5), .ref (r9 6), .ref (r9 7), .ref (r9 8), .int (msInit 0 0), .int (msInit 0 1), .int (msInit 0 2), .int (msInit 0 3), .int (msInit 0 4), .int (msInit 0 5), .int (msInit 0 6)])), (r9 1, .inl (ct 1, 100, .inl (msInit 1))), (r9 2, .inl (ct 1, 10, .inl (msInit 2))), (r9 3, .inl (ct 0, 10, .inl (msInit 3))), (r9 4, .inl (ct 0, 10, .inl (msInit 4))), (r9 5, .inl (ct 0, 10, .inl (msInit 5))), (r9 6, .inl (ct 0, 10, .inl (msInit 6))), (r9 7, .inl (ct 0, 10, .inl (msInit 7))), (r9 8, .inr (1, [.ref (r9 9), .ref (r9 10), .ref (r9 11), .ref (r9 12), .int (msInit 8 0), .ref (r9 13), .ref (r9 14), .ref (r9 15)])), (r9 9, .inl (ct 0, 60, .inl (msInit 9))), (r9 10, .inl (ct 0, 60, .inl (msInit 10))), (r9 11, .inl (ct 0, 60, .inl (msInit 11))), (r9 12, .inl (ct 0, 60, .inl (msInit 12))), (r9 13, .inl (ct 0, 10, .inl (msInit 13))), (r9 14, .inl (ct 0, 600, .inl (msInit 14))), (r9 15, .inl (ct 0, 600, .inl (msInit 15))), (r20 0, .inr (2, [.ref (r20 1), .ref (r20 2), .ref (r20 3), .ref (r20 4), .ref (r20 5), .ref (r20 6), .ref (r20 7), .ref (r20 8), .int (msInit 0 0), .int (msInit 0 1), .int (msInit 0 2), .int (msInit 0 3), .int (msInit 0 4), .int (msInit 0 5), .int (msInit 0 6)])), (r20 1, .inl (ct 1, 100, .inl (msInit 1))), (r20 2, .inl (ct 1, 10, .inl (msInit 2))), (r20 3, .inl (ct 0, 10, .inl (msInit 3))), (r20 4, .inl (ct 0, 10, .inl (msInit 4))), (r20 5, .inl (ct 0, 10, .inl (msInit 5))), (r20 6, .inl (ct 0, 10, .inl (msInit 6))), (r20 7, .inl (ct 0, 10, .inl (msInit 7))), (r20 8, .inr (1, [.ref (r20 9), .ref (r20 10), .ref (r20 11), .ref (r20 12), .int (msInit 8 0), .ref (r20 13), .ref (r20 14), .ref (r20 15)])), (r20 9, .inl (ct 0, 60, .inl (msInit 9))), (r20 10, .inl (ct 0, 60, .inl (msInit 10))), (r20 11, .inl (ct 0, 60, .inl (msInit 11))), (r20 12, .inl (ct 0, 60, .inl (msInit 12))), (r20 13, .inl (ct 0, 10, .inl (msInit 13))), (r20 14, .inl (ct 0, 600, .inl (msInit 14))), (r20 15, .inl (ct 0, 600, .inl (msInit 15)))]) rfl ?_
  refine z_putF (ci := 4) 0 1 hC bl_X4 tyX4_ok nmX4 rfl (by decide) rfl bw_14 hnm rfl rfl rfl rfl rfl (Nat.le_of_ble_eq_true rfl) dX4_init_23 (w2 := [(a, .inr (4, [.ref (r9 0), .ref (r20 0), .null, .null])), (r9 0, .inr (2, [.ref (r9 1), .ref (r9 2), .ref (r9 3), .ref (r9 4), .ref (r9 5), .ref (r9 6), .ref (r9 7), .ref (r9 8), .int (msInit 0 0), .int (msInit 0 1), .int (msInit 0 2), .int (msInit 0 3), .int (msInit 0 4), .int (msInit 0 5), .int (msInit 0 6)])), (r9 1, .inl (ct 1, 100, .inl (msInit 1))), (r9 2, .inl (ct 1, 10, .inl (msInit 2))), (r9 3, .inl (ct 0, 10, .inl (msInit 3))), (r9 4, .inl (ct 0, 10, .inl (msInit 4))), (r9 5, .inl (ct 0, 10, .inl (msInit 5))), (r9 6, .inl (ct 0, 10, .inl (msInit 6))), (r9 7, .inl (ct 0, 10, .inl (msInit 7))), (r9 8, .inr (1, [.ref (r9 9), .ref (r9 10), .ref (r9 11), .ref (r9 12), .int (msInit 8 0), .ref (r9 13), .ref (r9 14), .ref (r9 15)])), (r9 9, .inl (ct 0, 60, .inl (msInit 9))), (r9 10, .inl (ct 0, 60, .inl (msInit 10))), (r9 11, .inl (ct 0, 60, .inl (msInit 11))), (r9 12, .inl (ct 0, 60, .inl (msInit 12))), (r9 13, .inl (ct 0, 10, .inl (msInit 13))), (r9 14, .inl (ct 0, 600, .inl (msInit 14))), (r9 15, .inl (ct 0, 600, .inl (msInit 15))), (r20 0, .inr (2, [.ref (r20 1), .ref (r20 2), .ref (r20 3), .ref (r20 4), .ref (r20 5), .ref (r20 6), .ref (r20 7), .ref (r20 8), .int (msInit 0 0), .int (msInit 0 1), .int (msInit 0 2), .int (msInit 0 3), .int (msInit 0 4), .int (msInit 0 5), .int (msInit 0 6)])), (r20 1, .inl (ct 1, 100, .inl (msInit 1))), (r20 2, .inl (ct 1, 10, .inl (msInit 2))), (r20 3, .inl (ct 0, 10, .inl (msInit 3))), (r20 4, .inl (ct 0, 10, .inl (msInit 4))), (r20 5, .inl (ct 0, 10, .inl (msInit 5))), (r20 6, .inl (ct 0, 10, .inl (msInit 6))), (r20 7, .inl (ct 0, 10, .inl (msInit 7))), (r20 8, .inr (1, [.ref (r20 9), .ref (r20 10), .ref (r20 11), .ref (r20 12), .int (msInit 8 0), .ref (r20 13), .ref (r20 14), .ref (r20 15)])), (r20 9, .inl (ct 0, 60, .inl (msInit 9))), (r20 10, .inl (ct 0, 60, .inl (msInit 10))), (r20 11, .inl (ct 0, 60, .inl (msInit 11))), (r20 12, .inl (ct 0, 60, .inl (msInit 12))), (r20 13, .inl (ct 0, 10, .inl (msInit 13))), (r20 14, .inl (ct 0, 600, .inl (msInit 14))), (r20 15, .inl (ct 0, 600, .inl (msInit 15)))]) rfl ?_
  refine z_aload_n hC dX4_init_26 rfl ?_
  refine z_new (ci := 0) (fs := [.null, .int 0, .int 0]) hC bl_X0 tyX0_ok bw_15 bw_16 bw_17 rfl (by intro j hj; match j, hj with | 0, _ => rfl | 1, _ => rfl | 2, _ => rfl) (Nat.le_of_ble_eq_true rfl) (Nat.le_of_ble_eq_true rfl) dX4_init_27 (fun q27 => ?_)
  refine zG_w (w2 := [(a, .inr (4, [.ref (r9 0), .ref (r20 0), .null, .null])), (r9 0, .inr (2, [.ref (r9 1), .ref (r9 2), .ref (r9 3), .ref (r9 4), .ref (r9 5), .ref (r9 6), .ref (r9 7), .ref (r9 8), .int (msInit 0 0), .int (msInit 0 1), .int (msInit 0 2), .int (msInit 0 3), .int (msInit 0 4), .int (msInit 0 5), .int (msInit 0 6)])), (r9 1, .inl (ct 1, 100, .inl (msInit 1))), (r9 2, .inl (ct 1, 10, .inl (msInit 2))), (r9 3, .inl (ct 0, 10, .inl (msInit 3))), (r9 4, .inl (ct 0, 10, .inl (msInit 4))), (r9 5, .inl (ct 0, 10, .inl (msInit 5))), (r9 6, .inl (ct 0, 10, .inl (msInit 6))), (r9 7, .inl (ct 0, 10, .inl (msInit 7))), (r9 8, .inr (1, [.ref (r9 9), .ref (r9 10), .ref (r9 11), .ref (r9 12), .int (msInit 8 0), .ref (r9 13), .ref (r9 14), .ref (r9 15)])), (r9 9, .inl (ct 0, 60, .inl (msInit 9))), (r9 10, .inl (ct 0, 60, .inl (msInit 10))), (r9 11, .inl (ct 0, 60, .inl (msInit 11))), (r9 12, .inl (ct 0, 60, .inl (msInit 12))), (r9 13, .inl (ct 0, 10, .inl (msInit 13))), (r9 14, .inl (ct 0, 600, .inl (msInit 14))), (r9 15, .inl (ct 0, 600, .inl (msInit 15))), (r20 0, .inr (2, [.ref (r20 1), .ref (r20 2), .ref (r20 3), .ref (r20 4), .ref (r20 5), .ref (r20 6), .ref (r20 7), .ref (r20 8), .int (msInit 0 0), .int (msInit 0 1), .int (msInit 0 2), .int (msInit 0 3), .int (msInit 0 4), .int (msInit 0 5), .int (msInit 0 6)])), (r20 1, .inl (ct 1, 100, .inl (msInit 1))), (r20 2, .inl (ct 1, 10, .inl (msInit 2))), (r20 3, .inl (ct 0, 10, .inl (msInit 3))), (r20 4, .inl (ct 0, 10, .inl (msInit 4))), (r20 5, .inl (ct 0, 10, .inl (msInit 5))), (r20 6, .inl (ct 0, 10, .inl (msInit 6))), (r20 7, .inl (ct 0, 10, .inl (msInit 7))), (r20 8, .inr (1, [.ref (r20 9), .ref (r20 10), .ref (r20 11), .ref (r20 12), .int (msInit 8 0), .ref (r20 13), .ref (r20 14), .ref (r20 15)])), (r20 9, .inl (ct 0, 60, .inl (msInit 9))), (r20 10, .inl (ct 0, 60, .inl (msInit 10))), (r20 11, .inl (ct 0, 60, .inl (msInit 11))), (r20 12, .inl (ct 0, 60, .inl (msInit 12))), (r20 13, .inl (ct 0, 10, .inl (msInit 13))), (r20 14, .inl (ct 0, 600, .inl (msInit 14))), (r20 15, .inl (ct 0, 600, .inl (msInit 15))), (q27, .inr (0, [.null, .int 0, .int 0]))]) rfl ?_
  refine z_dup hC dX4_init_30 rfl ?_
  refine z_callIN [33] hC (c_X0_init l D ct q27) nw_17 bw_50 bw_17 bw_51 rfl 0 (by decide +kernel) rfl rfl rfl ⟨Nat.le_of_ble_eq_true rfl, Nat.le_of_ble_eq_true rfl⟩ (Nat.le_of_ble_eq_true rfl) ⟨Nat.le_of_ble_eq_true rfl, Nat.le_of_ble_eq_true rfl⟩ rfl dX4_init_31 ?_
  refine zkn (G := fun v1 w1 => zG p l e _ s m args below meth c D _ _ _ _ _ _ _ (v1.toList ++ _) w1) rfl (fun r31 hr31 => ?_)
  subst hr31
  refine zG_w (w2 := [(a, .inr (4, [.ref (r9 0), .ref (r20 0), .null, .null])), (r9 0, .inr (2, [.ref (r9 1), .ref (r9 2), .ref (r9 3), .ref (r9 4), .ref (r9 5), .ref (r9 6), .ref (r9 7), .ref (r9 8), .int (msInit 0 0), .int (msInit 0 1), .int (msInit 0 2), .int (msInit 0 3), .int (msInit 0 4), .int (msInit 0 5), .int (msInit 0 6)])), (r9 1, .inl (ct 1, 100, .inl (msInit 1))), (r9 2, .inl (ct 1, 10, .inl (msInit 2))), (r9 3, .inl (ct 0, 10, .inl (msInit 3))), (r9 4, .inl (ct 0, 10, .inl (msInit 4))), (r9 5, .inl (ct 0, 10, .inl (msInit 5))), (r9 6, .inl (ct 0, 10, .inl (msInit 6))), (r9 7, .inl (ct 0, 10, .inl (msInit 7))), (r9 8, .inr (1, [.ref (r9 9), .ref (r9 10), .ref (r9 11), .ref (r9 12), .int (msInit 8 0), .ref (r9 13), .ref (r9 14), .ref (r9 15)])), (r9 9, .inl (ct 0, 60, .inl (msInit 9))), (r9 10, .inl (ct 0, 60, .inl (msInit 10))), (r9 11, .inl (ct 0, 60, .inl (msInit 11))), (r9 12, .inl (ct 0, 60, .inl (msInit 12))), (r9 13, .inl (ct 0, 10, .inl (msInit 13))), (r9 14, .inl (ct 0, 600, .inl (msInit 14))), (r9 15, .inl (ct 0, 600, .inl (msInit 15))), (r20 0, .inr (2, [.ref (r20 1), .ref (r20 2), .ref (r20 3), .ref (r20 4), .ref (r20 5), .ref (r20 6), .ref (r20 7), .ref (r20 8), .int (msInit 0 0), .int (msInit 0 1), .int (msInit 0 2), .int (msInit 0 3), .int (msInit 0 4), .int (msInit 0 5), .int (msInit 0 6)])), (r20 1, .inl (ct 1, 100, .inl (msInit 1))), (r20 2, .inl (ct 1, 10, .inl (msInit 2))), (r20 3, .inl (ct 0, 10, .inl (msInit 3))), (r20 4, .inl (ct 0, 10, .inl (msInit 4))), (r20 5, .inl (ct 0, 10, .inl (msInit 5))), (r20 6, .inl (ct 0, 10, .inl (msInit 6))), (r20 7, .inl (ct 0, 10, .inl (msInit 7))), (r20 8, .inr (1, [.ref (r20 9), .ref (r20 10), .ref (r20 11), .ref (r20 12), .int (msInit 8 0), .ref (r20 13), .ref (r20 14), .ref (r20 15)])), (r20 9, .inl (ct 0, 60, .inl (msInit 9))), (r20 10, .inl (ct 0, 60, .inl (msInit 10))), (r20 11, .inl (ct 0, 60, .inl (msInit 11))), (r20 12, .inl (ct 0, 60, .inl (msInit 12))), (r20 13, .inl (ct 0, 10, .inl (msInit 13))), (r20 14, .inl (ct 0, 600, .inl (msInit 14))), (r20 15, .inl (ct 0, 600, .inl (msInit 15))), (r31 0, .inr (0, [.ref (r31 1), .int 0, .int 0])), (r31 1, .inl (ct 3, 6, .inr (.inr (.inr (.inr (fun _ => none))))))]) rfl ?_
  refine z_putF (ci := 4) 0 2 hC bl_X4 tyX4_ok nmX4 rfl (by decide) rfl bw_18 hnm rfl rfl rfl rfl rfl (Nat.le_of_ble_eq_true rfl) dX4_init_34 (w2 := [(a, .inr (4, [.ref (r9 0), .ref (r20 0), .ref (r31 0), .null])), (r9 0, .inr (2, [.ref (r9 1), .ref (r9 2), .ref (r9 3), .ref (r9 4), .ref (r9 5), .ref (r9 6), .ref (r9 7), .ref (r9 8), .int (msInit 0 0), .int (msInit 0 1), .int (msInit 0 2), .int (msInit 0 3), .int (msInit 0 4), .int (msInit 0 5), .int (msInit 0 6)])), (r9 1, .inl (ct 1, 100, .inl (msInit 1))), (r9 2, .inl (ct 1, 10, .inl (msInit 2))), (r9 3, .inl (ct 0, 10, .inl (msInit 3))), (r9 4, .inl (ct 0, 10, .inl (msInit 4))), (r9 5, .inl (ct 0, 10, .inl (msInit 5))), (r9 6, .inl (ct 0, 10, .inl (msInit 6))), (r9 7, .inl (ct 0, 10, .inl (msInit 7))), (r9 8, .inr (1, [.ref (r9 9), .ref (r9 10), .ref (r9 11), .ref (r9 12), .int (msInit 8 0), .ref (r9 13), .ref (r9 14), .ref (r9 15)])), (r9 9, .inl (ct 0, 60, .inl (msInit 9))), (r9 10, .inl (ct 0, 60, .inl (msInit 10))), (r9 11, .inl (ct 0, 60, .inl (msInit 11))), (r9 12, .inl (ct 0, 60, .inl (msInit 12))), (r9 13, .inl (ct 0, 10, .inl (msInit 13))), (r9 14, .inl (ct 0, 600, .inl (msInit 14))), (r9 15, .inl (ct 0, 600, .inl (msInit 15))), (r20 0, .inr (2, [.ref (r20 1), .ref (r20 2), .ref (r20 3), .ref (r20 4), .ref (r20 5), .ref (r20 6), .ref (r20 7), .ref (r20 8), .int (msInit 0 0), .int (msInit 0 1), .int (msInit 0 2), .int (msInit 0 3), .int (msInit 0 4), .int (msInit 0 5), .int (msInit 0 6)])), (r20 1, .inl (ct 1, 100, .inl (msInit 1))), (r20 2, .inl (ct 1, 10, .inl (msInit 2))), (r20 3, .inl (ct 0, 10, .inl (msInit 3))), (r20 4, .inl (ct 0, 10, .inl (msInit 4))), (r20 5, .inl (ct 0, 10, .inl (msInit 5))), (r20 6, .inl (ct 0, 10, .inl (msInit 6))), (r20 7, .inl (ct 0, 10, .inl (msInit 7))), (r20 8, .inr (1, [.ref (r20 9), .ref (r20 10), .ref (r20 11), .ref (r20 12), .int (msInit 8 0), .ref (r20 13), .ref (r20 14), .ref (r20 15)])), (r20 9, .inl (ct 0, 60, .inl (msInit 9))), (r20 10, .inl (ct 0, 60, .inl (msInit 10))), (r20 11, .inl (ct 0, 60, .inl (msInit 11))), (r20 12, .inl (ct 0, 60, .inl (msInit 12))), (r20 13, .inl (ct 0, 10, .inl (msInit 13))), (r20 14, .inl (ct 0, 600, .inl (msInit 14))), (r20 15, .inl (ct 0, 600, .inl (msInit 15))), (r31 0, .inr (0, [.ref (r31 1), .int 0, .int 0])), (r31 1, .inl (ct 3, 6, .inr (.inr (.inr (.inr (fun _ => none))))))]) rfl ?_
  refine z_aload_n hC dX4_init_37 rfl ?_
  refine z_new (ci := 3) (fs := [.null, .int 0, .int 0, .int 0, .int 0, .int 0, .int 0]) hC bl_X3 tyX3_ok bw_19 bw_20 bw_21 rfl (by intro j hj; match j, hj with | 0, _ => rfl | 1, _ => rfl | 2, _ => rfl | 3, _ => rfl | 4, _ => rfl | 5, _ => rfl | 6, _ => rfl) (Nat.le_of_ble_eq_true rfl) (Nat.le_of_ble_eq_true rfl) dX4_init_38 (fun q38 => ?_)
  refine zG_w (w2 := [(a, .inr (4, [.ref (r9 0), .ref (r20 0), .ref (r31 0), .null])), (r9 0, .inr (2, [.ref (r9 1), .ref (r9 2), .ref (r9 3), .ref (r9 4), .ref (r9 5), .ref (r9 6), .ref (r9 7), .ref (r9 8), .int (msInit 0 0), .int (msInit 0 1), .int (msInit 0 2), .int (msInit 0 3), .int (msInit 0 4), .int (msInit 0 5), .int (msInit 0 6)])), (r9 1, .inl (ct 1, 100, .inl (msInit 1))), (r9 2, .inl (ct 1, 10, .inl (msInit 2))), (r9 3, .inl (ct 0, 10, .inl (msInit 3))), (r9 4, .inl (ct 0, 10, .inl (msInit 4))), (r9 5, .inl (ct 0, 10, .inl (msInit 5))), (r9 6, .inl (ct 0, 10, .inl (msInit 6))), (r9 7, .inl (ct 0, 10, .inl (msInit 7))), (r9 8, .inr (1, [.ref (r9 9), .ref (r9 10), .ref (r9 11), .ref (r9 12), .int (msInit 8 0), .ref (r9 13), .ref (r9 14), .ref (r9 15)])), (r9 9, .inl (ct 0, 60, .inl (msInit 9))), (r9 10, .inl (ct 0, 60, .inl (msInit 10))), (r9 11, .inl (ct 0, 60, .inl (msInit 11))), (r9 12, .inl (ct 0, 60, .inl (msInit 12))), (r9 13, .inl (ct 0, 10, .inl (msInit 13))), (r9 14, .inl (ct 0, 600, .inl (msInit 14))), (r9 15, .inl (ct 0, 600, .inl (msInit 15))), (r20 0, .inr (2, [.ref (r20 1), .ref (r20 2), .ref (r20 3), .ref (r20 4), .ref (r20 5), .ref (r20 6), .ref (r20 7), .ref (r20 8), .int (msInit 0 0), .int (msInit 0 1), .int (msInit 0 2), .int (msInit 0 3), .int (msInit 0 4), .int (msInit 0 5), .int (msInit 0 6)])), (r20 1, .inl (ct 1, 100, .inl (msInit 1))), (r20 2, .inl (ct 1, 10, .inl (msInit 2))), (r20 3, .inl (ct 0, 10, .inl (msInit 3))), (r20 4, .inl (ct 0, 10, .inl (msInit 4))), (r20 5, .inl (ct 0, 10, .inl (msInit 5))), (r20 6, .inl (ct 0, 10, .inl (msInit 6))), (r20 7, .inl (ct 0, 10, .inl (msInit 7))), (r20 8, .inr (1, [.ref (r20 9), .ref (r20 10), .ref (r20 11), .ref (r20 12), .int (msInit 8 0), .ref (r20 13), .ref (r20 14), .ref (r20 15)])), (r20 9, .inl (ct 0, 60, .inl (msInit 9))), (r20 10, .inl (ct 0, 60, .inl (msInit 10))), (r20 11, .inl (ct 0, 60, .inl (msInit 11))), (r20 12, .inl (ct 0, 60, .inl (msInit 12))), (r20 13, .inl (ct 0, 10, .inl (msInit 13))), (r20 14, .inl (ct 0, 600, .inl (msInit 14))), (r20 15, .inl (ct 0, 600, .inl (msInit 15))), (r31 0, .inr (0, [.ref (r31 1), .int 0, .int 0])), (r31 1, .inl (ct 3, 6, .inr (.inr (.inr (.inr (fun _ => none)))))), (q38, .inr (3, [.null, .int 0, .int 0, .int 0, .int 0, .int 0, .int 0]))]) rfl ?_
  refine z_dup hC dX4_init_41 rfl ?_
  refine z_callIN [35] hC (c_X3_init l D ct q38) nw_19 bw_55 bw_21 bw_56 rfl 0 (by decide +kernel) rfl rfl rfl ⟨Nat.le_of_ble_eq_true rfl, Nat.le_of_ble_eq_true rfl⟩ (Nat.le_of_ble_eq_true rfl) ⟨Nat.le_of_ble_eq_true rfl, Nat.le_of_ble_eq_true rfl⟩ rfl dX4_init_42 ?_
  refine zkn (G := fun v1 w1 => zG p l e _ s m args below meth c D _ _ _ _ _ _ _ (v1.toList ++ _) w1) rfl (fun r42 hr42 => ?_)
  subst hr42
  refine zG_w (w2 := [(a, .inr (4, [.ref (r9 0), .ref (r20 0), .ref (r31 0), .null])), (r9 0, .inr (2, [.ref (r9 1), .ref (r9 2), .ref (r9 3), .ref (r9 4), .ref (r9 5), .ref (r9 6), .ref (r9 7), .ref (r9 8), .int (msInit 0 0), .int (msInit 0 1), .int (msInit 0 2), .int (msInit 0 3), .int (msInit 0 4), .int (msInit 0 5), .int (msInit 0 6)])), (r9 1, .inl (ct 1, 100, .inl (msInit 1))), (r9 2, .inl (ct 1, 10, .inl (msInit 2))), (r9 3, .inl (ct 0, 10, .inl (msInit 3))), (r9 4, .inl (ct 0, 10, .inl (msInit 4))), (r9 5, .inl (ct 0, 10, .inl (msInit 5))), (r9 6, .inl (ct 0, 10, .inl (msInit 6))), (r9 7, .inl (ct 0, 10, .inl (msInit 7))), (r9 8, .inr (1, [.ref (r9 9), .ref (r9 10), .ref (r9 11), .ref (r9 12), .int (msInit 8 0), .ref (r9 13), .ref (r9 14), .ref (r9 15)])), (r9 9, .inl (ct 0, 60, .inl (msInit 9))), (r9 10, .inl (ct 0, 60, .inl (msInit 10))), (r9 11, .inl (ct 0, 60, .inl (msInit 11))), (r9 12, .inl (ct 0, 60, .inl (msInit 12))), (r9 13, .inl (ct 0, 10, .inl (msInit 13))), (r9 14, .inl (ct 0, 600, .inl (msInit 14))), (r9 15, .inl (ct 0, 600, .inl (msInit 15))), (r20 0, .inr (2, [.ref (r20 1), .ref (r20 2), .ref (r20 3), .ref (r20 4), .ref (r20 5), .ref (r20 6), .ref (r20 7), .ref (r20 8), .int (msInit 0 0), .int (msInit 0 1), .int (msInit 0 2), .int (msInit 0 3), .int (msInit 0 4), .int (msInit 0 5), .int (msInit 0 6)])), (r20 1, .inl (ct 1, 100, .inl (msInit 1))), (r20 2, .inl (ct 1, 10, .inl (msInit 2))), (r20 3, .inl (ct 0, 10, .inl (msInit 3))), (r20 4, .inl (ct 0, 10, .inl (msInit 4))), (r20 5, .inl (ct 0, 10, .inl (msInit 5))), (r20 6, .inl (ct 0, 10, .inl (msInit 6))), (r20 7, .inl (ct 0, 10, .inl (msInit 7))), (r20 8, .inr (1, [.ref (r20 9), .ref (r20 10), .ref (r20 11), .ref (r20 12), .int (msInit 8 0), .ref (r20 13), .ref (r20 14), .ref (r20 15)])), (r20 9, .inl (ct 0, 60, .inl (msInit 9))), (r20 10, .inl (ct 0, 60, .inl (msInit 10))), (r20 11, .inl (ct 0, 60, .inl (msInit 11))), (r20 12, .inl (ct 0, 60, .inl (msInit 12))), (r20 13, .inl (ct 0, 10, .inl (msInit 13))), (r20 14, .inl (ct 0, 600, .inl (msInit 14))), (r20 15, .inl (ct 0, 600, .inl (msInit 15))), (r31 0, .inr (0, [.ref (r31 1), .int 0, .int 0])), (r31 1, .inl (ct 3, 6, .inr (.inr (.inr (.inr (fun _ => none)))))), (r42 0, .inr (3, [.ref (r42 1), .int 0, .int 0, .int 0, .int 0, .int 0, .int 0])), (r42 1, .inl (ct 2, 80, .inl (fun _ => 0)))]) rfl ?_
  refine z_putF (ci := 4) 0 3 hC bl_X4 tyX4_ok nmX4 rfl (by decide) rfl bw_22 hnm rfl rfl rfl rfl rfl (Nat.le_of_ble_eq_true rfl) dX4_init_45 (w2 := [(a, .inr (4, [.ref (r9 0), .ref (r20 0), .ref (r31 0), .ref (r42 0)])), (r9 0, .inr (2, [.ref (r9 1), .ref (r9 2), .ref (r9 3), .ref (r9 4), .ref (r9 5), .ref (r9 6), .ref (r9 7), .ref (r9 8), .int (msInit 0 0), .int (msInit 0 1), .int (msInit 0 2), .int (msInit 0 3), .int (msInit 0 4), .int (msInit 0 5), .int (msInit 0 6)])), (r9 1, .inl (ct 1, 100, .inl (msInit 1))), (r9 2, .inl (ct 1, 10, .inl (msInit 2))), (r9 3, .inl (ct 0, 10, .inl (msInit 3))), (r9 4, .inl (ct 0, 10, .inl (msInit 4))), (r9 5, .inl (ct 0, 10, .inl (msInit 5))), (r9 6, .inl (ct 0, 10, .inl (msInit 6))), (r9 7, .inl (ct 0, 10, .inl (msInit 7))), (r9 8, .inr (1, [.ref (r9 9), .ref (r9 10), .ref (r9 11), .ref (r9 12), .int (msInit 8 0), .ref (r9 13), .ref (r9 14), .ref (r9 15)])), (r9 9, .inl (ct 0, 60, .inl (msInit 9))), (r9 10, .inl (ct 0, 60, .inl (msInit 10))), (r9 11, .inl (ct 0, 60, .inl (msInit 11))), (r9 12, .inl (ct 0, 60, .inl (msInit 12))), (r9 13, .inl (ct 0, 10, .inl (msInit 13))), (r9 14, .inl (ct 0, 600, .inl (msInit 14))), (r9 15, .inl (ct 0, 600, .inl (msInit 15))), (r20 0, .inr (2, [.ref (r20 1), .ref (r20 2), .ref (r20 3), .ref (r20 4), .ref (r20 5), .ref (r20 6), .ref (r20 7), .ref (r20 8), .int (msInit 0 0), .int (msInit 0 1), .int (msInit 0 2), .int (msInit 0 3), .int (msInit 0 4), .int (msInit 0 5), .int (msInit 0 6)])), (r20 1, .inl (ct 1, 100, .inl (msInit 1))), (r20 2, .inl (ct 1, 10, .inl (msInit 2))), (r20 3, .inl (ct 0, 10, .inl (msInit 3))), (r20 4, .inl (ct 0, 10, .inl (msInit 4))), (r20 5, .inl (ct 0, 10, .inl (msInit 5))), (r20 6, .inl (ct 0, 10, .inl (msInit 6))), (r20 7, .inl (ct 0, 10, .inl (msInit 7))), (r20 8, .inr (1, [.ref (r20 9), .ref (r20 10), .ref (r20 11), .ref (r20 12), .int (msInit 8 0), .ref (r20 13), .ref (r20 14), .ref (r20 15)])), (r20 9, .inl (ct 0, 60, .inl (msInit 9))), (r20 10, .inl (ct 0, 60, .inl (msInit 10))), (r20 11, .inl (ct 0, 60, .inl (msInit 11))), (r20 12, .inl (ct 0, 60, .inl (msInit 12))), (r20 13, .inl (ct 0, 10, .inl (msInit 13))), (r20 14, .inl (ct 0, 600, .inl (msInit 14))), (r20 15, .inl (ct 0, 600, .inl (msInit 15))), (r31 0, .inr (0, [.ref (r31 1), .int 0, .int 0])), (r31 1, .inl (ct 3, 6, .inr (.inr (.inr (.inr (fun _ => none)))))), (r42 0, .inr (3, [.ref (r42 1), .int 0, .int 0, .int 0, .int 0, .int 0, .int 0])), (r42 1, .inl (ct 2, 80, .inl (fun _ => 0)))]) rfl ?_
  exact z_vret hC hr dX4_init_48 (Nat.le_of_ble_eq_true rfl) (Nat.le_of_ble_eq_true rfl) (wa := [(a, .inr (4, [.ref (r9 0), .ref (r20 0), .ref (r31 0), .ref (r42 0)]))]) (wb := [(r9 0, .inr (2, [.ref (r9 1), .ref (r9 2), .ref (r9 3), .ref (r9 4), .ref (r9 5), .ref (r9 6), .ref (r9 7), .ref (r9 8), .int (msInit 0 0), .int (msInit 0 1), .int (msInit 0 2), .int (msInit 0 3), .int (msInit 0 4), .int (msInit 0 5), .int (msInit 0 6)])), (r9 1, .inl (ct 1, 100, .inl (msInit 1))), (r9 2, .inl (ct 1, 10, .inl (msInit 2))), (r9 3, .inl (ct 0, 10, .inl (msInit 3))), (r9 4, .inl (ct 0, 10, .inl (msInit 4))), (r9 5, .inl (ct 0, 10, .inl (msInit 5))), (r9 6, .inl (ct 0, 10, .inl (msInit 6))), (r9 7, .inl (ct 0, 10, .inl (msInit 7))), (r9 8, .inr (1, [.ref (r9 9), .ref (r9 10), .ref (r9 11), .ref (r9 12), .int (msInit 8 0), .ref (r9 13), .ref (r9 14), .ref (r9 15)])), (r9 9, .inl (ct 0, 60, .inl (msInit 9))), (r9 10, .inl (ct 0, 60, .inl (msInit 10))), (r9 11, .inl (ct 0, 60, .inl (msInit 11))), (r9 12, .inl (ct 0, 60, .inl (msInit 12))), (r9 13, .inl (ct 0, 10, .inl (msInit 13))), (r9 14, .inl (ct 0, 600, .inl (msInit 14))), (r9 15, .inl (ct 0, 600, .inl (msInit 15))), (r20 0, .inr (2, [.ref (r20 1), .ref (r20 2), .ref (r20 3), .ref (r20 4), .ref (r20 5), .ref (r20 6), .ref (r20 7), .ref (r20 8), .int (msInit 0 0), .int (msInit 0 1), .int (msInit 0 2), .int (msInit 0 3), .int (msInit 0 4), .int (msInit 0 5), .int (msInit 0 6)])), (r20 1, .inl (ct 1, 100, .inl (msInit 1))), (r20 2, .inl (ct 1, 10, .inl (msInit 2))), (r20 3, .inl (ct 0, 10, .inl (msInit 3))), (r20 4, .inl (ct 0, 10, .inl (msInit 4))), (r20 5, .inl (ct 0, 10, .inl (msInit 5))), (r20 6, .inl (ct 0, 10, .inl (msInit 6))), (r20 7, .inl (ct 0, 10, .inl (msInit 7))), (r20 8, .inr (1, [.ref (r20 9), .ref (r20 10), .ref (r20 11), .ref (r20 12), .int (msInit 8 0), .ref (r20 13), .ref (r20 14), .ref (r20 15)])), (r20 9, .inl (ct 0, 60, .inl (msInit 9))), (r20 10, .inl (ct 0, 60, .inl (msInit 10))), (r20 11, .inl (ct 0, 60, .inl (msInit 11))), (r20 12, .inl (ct 0, 60, .inl (msInit 12))), (r20 13, .inl (ct 0, 10, .inl (msInit 13))), (r20 14, .inl (ct 0, 600, .inl (msInit 14))), (r20 15, .inl (ct 0, 600, .inl (msInit 15))), (r31 0, .inr (0, [.ref (r31 1), .int 0, .int 0])), (r31 1, .inl (ct 3, 6, .inr (.inr (.inr (.inr (fun _ => none)))))), (r42 0, .inr (3, [.ref (r42 1), .int 0, .int 0, .int 0, .int 0, .int 0, .int 0])), (r42 1, .inl (ct 2, 80, .inl (fun _ => 0)))]) ⟨rfl, r9, r20, r31, r42, rfl⟩ rfl rfl

set_option maxRecDepth 100000 in
set_option maxHeartbeats 1000000 in
theorem c_X4_isConnected (l : Launch) (D : va_G) (ct : Nat → ClassId) (b : Nat) (qs qt qh qx : Nat → Nat) (σ : Nat → Nat → Int32) (a c0 : Int32) (ha : mNode a = true) (hc : mNode c0 = true) : zT l D ct yX4_isConnected cX4_isConnected 3 (some .boolean) 3 63 0 0 [.ref b, .int a, .int c0] (cN b qs qt qh qx :: cS qs σ ct) (zd (some (.int (bI (msConn σ a c0)))) (cN b qs qt qh qx :: cS qs σ ct)) := by
  refine zT_of ([some (.ref b), some (.int a), some (.int c0)]) (by decide +kernel) rfl (Nat.le_of_ble_eq_true rfl) ?_
  intro p e s m args below meth c hC hr hnm
  refine z_iload_n hC dX4_isConnected_0 rfl ?_
  refine z_callS [] hC (c_X4_checkNode l D ct a ha) bw_74 bw_75 bw_2 bw_76 1 (by decide +kernel) rfl rfl rfl ⟨Nat.le_of_ble_eq_true rfl, Nat.le_of_ble_eq_true rfl⟩ (Nat.le_of_ble_eq_true rfl) ⟨Nat.le_of_ble_eq_true rfl, Nat.le_of_ble_eq_true rfl⟩ rfl dX4_isConnected_1 ?_
  refine zkq (G := fun v1 w1 => zG p l e _ s m args below meth c D _ _ _ _ _ _ _ (v1.toList ++ _) w1) rfl ?_
  refine z_iload_n hC dX4_isConnected_4 rfl ?_
  refine z_callS [] hC (c_X4_checkNode l D ct c0 hc) bw_74 bw_75 bw_2 bw_76 1 (by decide +kernel) rfl rfl rfl ⟨Nat.le_of_ble_eq_true rfl, Nat.le_of_ble_eq_true rfl⟩ (Nat.le_of_ble_eq_true rfl) ⟨Nat.le_of_ble_eq_true rfl, Nat.le_of_ble_eq_true rfl⟩ rfl dX4_isConnected_5 ?_
  refine zkq (G := fun v1 w1 => zG p l e _ s m args below meth c D _ _ _ _ _ _ _ (v1.toList ++ _) w1) rfl ?_
  refine z_aload_n hC dX4_isConnected_8 rfl ?_
  refine z_get 0 0 hC bl_X4 (ci := 4) rfl (by decide) rfl bw_13 rfl rfl dX4_isConnected_9 ?_
  refine z_iload_n hC dX4_isConnected_12 rfl ?_
  refine z_iload_n hC dX4_isConnected_13 rfl ?_
  refine z_callVN [1, 2, 3, 4, 5, 6, 7, 8, 9, 10, 11, 12, 13, 14, 15, 16] 0 2 hC (c_X2_areConnected l D ct qs σ a c0) nw_48 bw_114 bw_115 bw_12 bw_116 2 (by decide +kernel) rfl rfl rfl rfl rfl ⟨Nat.le_of_ble_eq_true rfl, Nat.le_of_ble_eq_true rfl⟩ (Nat.le_of_ble_eq_true rfl) ⟨Nat.le_of_ble_eq_true rfl, Nat.le_of_ble_eq_true rfl⟩ rfl dX4_isConnected_14 ?_
  refine zkq (G := fun v1 w1 => zG p l e _ s m args below meth c D _ _ _ _ _ _ _ (v1.toList ++ _) w1) rfl ?_
  exact z_zretd hC hr (bI_nar _) dX4_isConnected_17 (Nat.zero_le _) (Nat.zero_le _) (rfl) (by first | rfl | (simp [*]; done)) rfl

set_option maxRecDepth 100000 in
set_option maxHeartbeats 1000000 in
theorem c_X4_parent (l : Launch) (D : va_G) (ct : Nat → ClassId) (b : Nat) (qs qt qh qx : Nat → Nat) (σ : Nat → Nat → Int32) (n : Int32) (hn : mNode n = true) : zT l D ct yX4_parent cX4_parent 2 (some .int) 2 40 0 0 [.ref b, .int n] (cN b qs qt qh qx :: cS qs σ ct) (zd (some (.int (σ 3 n.toNatClampNeg))) (cN b qs qt qh qx :: cS qs σ ct)) := by
  refine zT_of ([some (.ref b), some (.int n)]) (by decide +kernel) rfl (Nat.le_of_ble_eq_true rfl) ?_
  intro p e s m args below meth c hC hr hnm
  refine z_iload_n hC dX4_parent_0 rfl ?_
  refine z_callS [] hC (c_X4_checkNode l D ct n hn) bw_74 bw_75 bw_2 bw_76 1 (by decide +kernel) rfl rfl rfl ⟨Nat.le_of_ble_eq_true rfl, Nat.le_of_ble_eq_true rfl⟩ (Nat.le_of_ble_eq_true rfl) ⟨Nat.le_of_ble_eq_true rfl, Nat.le_of_ble_eq_true rfl⟩ rfl dX4_parent_1 ?_
  refine zkq (G := fun v1 w1 => zG p l e _ s m args below meth c D _ _ _ _ _ _ _ (v1.toList ++ _) w1) rfl ?_
  refine z_aload_n hC dX4_parent_4 rfl ?_
  refine z_get 0 0 hC bl_X4 (ci := 4) rfl (by decide) rfl bw_13 rfl rfl dX4_parent_5 ?_
  refine z_getN 1 2 hC bl_X2 (ci := 2) rfl (by decide) rfl nw_4 rfl rfl dX4_parent_8 ?_
  refine z_iload_n hC dX4_parent_11 rfl ?_
  refine z_iald 4 0 hC rfl rfl (vnode hn) dX4_parent_12 ?_
  exact z_iretd hC hr dX4_parent_13 (Nat.zero_le _) (Nat.zero_le _) (rfl) (by first | rfl | (simp [*]; done)) rfl

set_option maxRecDepth 100000 in
set_option maxHeartbeats 1000000 in
theorem c_X4_depth (l : Launch) (D : va_G) (ct : Nat → ClassId) (b : Nat) (qs qt qh qx : Nat → Nat) (σ : Nat → Nat → Int32) (n : Int32) (hn : mNode n = true) : zT l D ct yX4_depth cX4_depth 2 (some .int) 2 40 0 0 [.ref b, .int n] (cN b qs qt qh qx :: cS qs σ ct) (zd (some (.int (σ 4 n.toNatClampNeg))) (cN b qs qt qh qx :: cS qs σ ct)) := by
  refine zT_of ([some (.ref b), some (.int n)]) (by decide +kernel) rfl (Nat.le_of_ble_eq_true rfl) ?_
  intro p e s m args below meth c hC hr hnm
  refine z_iload_n hC dX4_depth_0 rfl ?_
  refine z_callS [] hC (c_X4_checkNode l D ct n hn) bw_74 bw_75 bw_2 bw_76 1 (by decide +kernel) rfl rfl rfl ⟨Nat.le_of_ble_eq_true rfl, Nat.le_of_ble_eq_true rfl⟩ (Nat.le_of_ble_eq_true rfl) ⟨Nat.le_of_ble_eq_true rfl, Nat.le_of_ble_eq_true rfl⟩ rfl dX4_depth_1 ?_
  refine zkq (G := fun v1 w1 => zG p l e _ s m args below meth c D _ _ _ _ _ _ _ (v1.toList ++ _) w1) rfl ?_
  refine z_aload_n hC dX4_depth_4 rfl ?_
  refine z_get 0 0 hC bl_X4 (ci := 4) rfl (by decide) rfl bw_13 rfl rfl dX4_depth_5 ?_
  refine z_getN 1 3 hC bl_X2 (ci := 2) rfl (by decide) rfl nw_5 rfl rfl dX4_depth_8 ?_
  refine z_iload_n hC dX4_depth_11 rfl ?_
  refine z_iald 5 0 hC rfl rfl (vnode hn) dX4_depth_12 ?_
  exact z_iretd hC hr dX4_depth_13 (Nat.zero_le _) (Nat.zero_le _) (rfl) (by first | rfl | (simp [*]; done)) rfl

set_option maxRecDepth 100000 in
set_option maxHeartbeats 1000000 in
theorem c_X4_clock (l : Launch) (D : va_G) (ct : Nat → ClassId) (b : Nat) (qs qt qh qx : Nat → Nat) (σ : Nat → Nat → Int32) (n : Int32) (hn : mNode n = true) : zT l D ct yX4_clock cX4_clock 2 (some .int) 2 40 0 0 [.ref b, .int n] (cN b qs qt qh qx :: cS qs σ ct) (zd (some (.int (σ 0 0 + σ 6 n.toNatClampNeg))) (cN b qs qt qh qx :: cS qs σ ct)) := by
  refine zT_of ([some (.ref b), some (.int n)]) (by decide +kernel) rfl (Nat.le_of_ble_eq_true rfl) ?_
  intro p e s m args below meth c hC hr hnm
  refine z_iload_n hC dX4_clock_0 rfl ?_
  refine z_callS [] hC (c_X4_checkNode l D ct n hn) bw_74 bw_75 bw_2 bw_76 1 (by decide +kernel) rfl rfl rfl ⟨Nat.le_of_ble_eq_true rfl, Nat.le_of_ble_eq_true rfl⟩ (Nat.le_of_ble_eq_true rfl) ⟨Nat.le_of_ble_eq_true rfl, Nat.le_of_ble_eq_true rfl⟩ rfl dX4_clock_1 ?_
  refine zkq (G := fun v1 w1 => zG p l e _ s m args below meth c D _ _ _ _ _ _ _ (v1.toList ++ _) w1) rfl ?_
  refine z_aload_n hC dX4_clock_4 rfl ?_
  refine z_get 0 0 hC bl_X4 (ci := 4) rfl (by decide) rfl bw_13 rfl rfl dX4_clock_5 ?_
  refine z_getN 1 8 hC bl_X2 (ci := 2) rfl (by decide) rfl nw_10 rfl rfl dX4_clock_8 ?_
  refine z_aload_n hC dX4_clock_11 rfl ?_
  refine z_get 0 0 hC bl_X4 (ci := 4) rfl (by decide) rfl bw_13 rfl rfl dX4_clock_12 ?_
  refine z_getN 1 5 hC bl_X2 (ci := 2) rfl (by decide) rfl nw_7 rfl rfl dX4_clock_15 ?_
  refine z_iload_n hC dX4_clock_18 rfl ?_
  refine z_iald 7 0 hC rfl rfl (vnode hn) dX4_clock_19 ?_
  refine z_iadd hC dX4_clock_20 ?_
  exact z_iretd hC hr dX4_clock_21 (Nat.zero_le _) (Nat.zero_le _) (rfl) (by first | rfl | (simp [*]; done)) rfl

set_option maxRecDepth 100000 in
set_option maxHeartbeats 1000000 in
theorem c_X4_silence (l : Launch) (D : va_G) (ct : Nat → ClassId) (b : Nat) (qs qt qh qx : Nat → Nat) (σ : Nat → Nat → Int32) (n : Int32) (hn : mMeter n = true) : zT l D ct yX4_silence cX4_silence 2 (some .int) 2 40 0 0 [.ref b, .int n] (cN b qs qt qh qx :: cS qs σ ct) (zd (some (.int (if σ 3 n.toNatClampNeg = -1 then -1 else σ 0 0 - σ 5 n.toNatClampNeg))) (cN b qs qt qh qx :: cS qs σ ct)) := by
  refine zT_of ([some (.ref b), some (.int n)]) (by decide +kernel) rfl (Nat.le_of_ble_eq_true rfl) ?_
  intro p e s m args below meth c hC hr hnm
  refine z_iload_n hC dX4_silence_0 rfl ?_
  refine z_callS [] hC (c_X4_checkMeter l D ct n hn) bw_107 bw_108 bw_2 bw_109 1 (by decide +kernel) rfl rfl rfl ⟨Nat.le_of_ble_eq_true rfl, Nat.le_of_ble_eq_true rfl⟩ (Nat.le_of_ble_eq_true rfl) ⟨Nat.le_of_ble_eq_true rfl, Nat.le_of_ble_eq_true rfl⟩ rfl dX4_silence_1 ?_
  refine zkq (G := fun v1 w1 => zG p l e _ s m args below meth c D _ _ _ _ _ _ _ (v1.toList ++ _) w1) rfl ?_
  refine z_aload_n hC dX4_silence_4 rfl ?_
  refine z_get 0 0 hC bl_X4 (ci := 4) rfl (by decide) rfl bw_13 rfl rfl dX4_silence_5 ?_
  refine z_getN 1 2 hC bl_X2 (ci := 2) rfl (by decide) rfl nw_4 rfl rfl dX4_silence_8 ?_
  refine z_iload_n hC dX4_silence_11 rfl ?_
  refine z_iald 4 0 hC rfl rfl (vnode (meter_node hn)) dX4_silence_12 ?_
  refine z_iconst (v := (-1)) hC dX4_silence_13 (by decide) ?_
  refine z_icmp_ne hC 21 dX4_silence_14 (by decide) (fun c14 => ?_) (fun c14 => ?_)
  · refine z_aload_n hC dX4_silence_21 rfl ?_
    refine z_get 0 0 hC bl_X4 (ci := 4) rfl (by decide) rfl bw_13 rfl rfl dX4_silence_22 ?_
    refine z_getN 1 8 hC bl_X2 (ci := 2) rfl (by decide) rfl nw_10 rfl rfl dX4_silence_25 ?_
    refine z_aload_n hC dX4_silence_28 rfl ?_
    refine z_get 0 0 hC bl_X4 (ci := 4) rfl (by decide) rfl bw_13 rfl rfl dX4_silence_29 ?_
    refine z_getN 1 4 hC bl_X2 (ci := 2) rfl (by decide) rfl nw_6 rfl rfl dX4_silence_32 ?_
    refine z_iload_n hC dX4_silence_35 rfl ?_
    refine z_iald 6 0 hC rfl rfl (vnode (meter_node hn)) dX4_silence_36 ?_
    refine z_isub hC dX4_silence_37 ?_
    exact z_iretd hC hr dX4_silence_38 (Nat.zero_le _) (Nat.zero_le _) (by clear hC hr hnm; first | rfl | (simp [c14, *]; done) | (simp_all [c14]; done)) (by first | rfl | (simp [c14, *]; done)) rfl
  · refine z_iconst (v := (-1)) hC dX4_silence_17 (by decide) ?_
    refine z_goto hC 38 dX4_silence_18 (by decide) ?_
    exact z_iretd hC hr dX4_silence_38 (Nat.zero_le _) (Nat.zero_le _) (by clear hC hr hnm; first | rfl | (simp [c14, *]; done) | (simp_all [c14]; done)) (by first | rfl | (simp [c14, *]; done)) rfl

set_option maxRecDepth 100000 in
set_option maxHeartbeats 1000000 in
theorem c_X4_faults (l : Launch) (D : va_G) (ct : Nat → ClassId) (b : Nat) (qs qt qh qx : Nat → Nat) (σ : Nat → Nat → Int32) (n : Int32) (hn : mMeter n = true) : zT l D ct yX4_faults cX4_faults 2 (some .int) 2 40 0 0 [.ref b, .int n] (cN b qs qt qh qx :: cS qs σ ct) (zd (some (.int (σ 7 n.toNatClampNeg))) (cN b qs qt qh qx :: cS qs σ ct)) := by
  refine zT_of ([some (.ref b), some (.int n)]) (by decide +kernel) rfl (Nat.le_of_ble_eq_true rfl) ?_
  intro p e s m args below meth c hC hr hnm
  refine z_iload_n hC dX4_faults_0 rfl ?_
  refine z_callS [] hC (c_X4_checkMeter l D ct n hn) bw_107 bw_108 bw_2 bw_109 1 (by decide +kernel) rfl rfl rfl ⟨Nat.le_of_ble_eq_true rfl, Nat.le_of_ble_eq_true rfl⟩ (Nat.le_of_ble_eq_true rfl) ⟨Nat.le_of_ble_eq_true rfl, Nat.le_of_ble_eq_true rfl⟩ rfl dX4_faults_1 ?_
  refine zkq (G := fun v1 w1 => zG p l e _ s m args below meth c D _ _ _ _ _ _ _ (v1.toList ++ _) w1) rfl ?_
  refine z_aload_n hC dX4_faults_4 rfl ?_
  refine z_get 0 0 hC bl_X4 (ci := 4) rfl (by decide) rfl bw_13 rfl rfl dX4_faults_5 ?_
  refine z_getN 1 6 hC bl_X2 (ci := 2) rfl (by decide) rfl nw_8 rfl rfl dX4_faults_8 ?_
  refine z_iload_n hC dX4_faults_11 rfl ?_
  refine z_iald 8 0 hC rfl rfl (vnode (meter_node hn)) dX4_faults_12 ?_
  exact z_iretd hC hr dX4_faults_13 (Nat.zero_le _) (Nat.zero_le _) (rfl) (by first | rfl | (simp [*]; done)) rfl

set_option maxRecDepth 100000 in
set_option maxHeartbeats 1000000 in
theorem c_X4_hops (l : Launch) (D : va_G) (ct : Nat → ClassId) (b : Nat) (qs qt qh qx : Nat → Nat) (σ : Nat → Nat → Int32) (n : Int32) (hn : mNode n = true) : zT l D ct yX4_hops cX4_hops 2 (some .int) 5 110 0 0 [.ref b, .int n] (cN b qs qt qh qx :: cS qs σ ct) (zd (some (.int (msHops σ n))) (cN b qs qt qh qx :: cS qs σ ct)) := by
  refine zT_of ([some (.ref b), some (.int n)]) (by decide +kernel) rfl (Nat.le_of_ble_eq_true rfl) ?_
  intro p e s m args below meth c hC hr hnm
  refine z_iload_n hC dX4_hops_0 rfl ?_
  refine z_callS [] hC (c_X4_checkNode l D ct n hn) bw_74 bw_75 bw_2 bw_76 1 (by decide +kernel) rfl rfl rfl ⟨Nat.le_of_ble_eq_true rfl, Nat.le_of_ble_eq_true rfl⟩ (Nat.le_of_ble_eq_true rfl) ⟨Nat.le_of_ble_eq_true rfl, Nat.le_of_ble_eq_true rfl⟩ rfl dX4_hops_1 ?_
  refine zkq (G := fun v1 w1 => zG p l e _ s m args below meth c D _ _ _ _ _ _ _ (v1.toList ++ _) w1) rfl ?_
  refine z_aload_n hC dX4_hops_4 rfl ?_
  refine z_get 0 0 hC bl_X4 (ci := 4) rfl (by decide) rfl bw_13 rfl rfl dX4_hops_5 ?_
  refine z_iload_n hC dX4_hops_8 rfl ?_
  refine z_callVN [1, 2, 3, 4, 5, 6, 7, 8, 9, 10, 11, 12, 13, 14, 15, 16] 0 2 hC (c_X2_hopsToCollector l D ct qs σ n) nw_49 bw_128 bw_129 bw_12 bw_130 1 (by decide +kernel) rfl rfl rfl rfl rfl ⟨Nat.le_of_ble_eq_true rfl, Nat.le_of_ble_eq_true rfl⟩ (Nat.le_of_ble_eq_true rfl) ⟨Nat.le_of_ble_eq_true rfl, Nat.le_of_ble_eq_true rfl⟩ rfl dX4_hops_9 ?_
  refine zkq (G := fun v1 w1 => zG p l e _ s m args below meth c D _ _ _ _ _ _ _ (v1.toList ++ _) w1) rfl ?_
  exact z_iretd hC hr dX4_hops_12 (Nat.zero_le _) (Nat.zero_le _) (rfl) (by first | rfl | (simp [*]; done)) rfl

set_option maxRecDepth 100000 in
set_option maxHeartbeats 1000000 in
theorem c_X4_stored (l : Launch) (D : va_G) (ct : Nat → ClassId) (b : Nat) (qs qt qh qx : Nat → Nat) (σ : Nat → Nat → Int32) (n : Int32) (hn : mMeter n = true) : zT l D ct yX4_stored cX4_stored 2 (some .int) 2 47 0 0 [.ref b, .int n] (cN b qs qt qh qx :: cS qs σ ct) (zd (some (.int (mrSize (rd σ) n))) (cN b qs qt qh qx :: cS qs σ ct)) := by
  refine zT_of ([some (.ref b), some (.int n)]) (by decide +kernel) rfl (Nat.le_of_ble_eq_true rfl) ?_
  intro p e s m args below meth c hC hr hnm
  refine z_iload_n hC dX4_stored_0 rfl ?_
  refine z_callS [] hC (c_X4_checkMeter l D ct n hn) bw_107 bw_108 bw_2 bw_109 1 (by decide +kernel) rfl rfl rfl ⟨Nat.le_of_ble_eq_true rfl, Nat.le_of_ble_eq_true rfl⟩ (Nat.le_of_ble_eq_true rfl) ⟨Nat.le_of_ble_eq_true rfl, Nat.le_of_ble_eq_true rfl⟩ rfl dX4_stored_1 ?_
  refine zkq (G := fun v1 w1 => zG p l e _ s m args below meth c D _ _ _ _ _ _ _ (v1.toList ++ _) w1) rfl ?_
  refine z_aload_n hC dX4_stored_4 rfl ?_
  refine z_get 0 0 hC bl_X4 (ci := 4) rfl (by decide) rfl bw_13 rfl rfl dX4_stored_5 ?_
  refine z_getN 1 7 hC bl_X2 (ci := 2) rfl (by decide) rfl nw_9 rfl rfl dX4_stored_8 ?_
  refine z_iload_n hC dX4_stored_11 rfl ?_
  refine z_callVN [9, 10, 11, 12, 13, 14, 15, 16] 0 1 hC (c_X1_sizeOf l D ct (fun i => qs (8 + i)) (rd σ) n) nw_51 bw_151 bw_152 bw_37 bw_153 1 (by decide +kernel) rfl rfl rfl rfl rfl ⟨Nat.le_of_ble_eq_true rfl, Nat.le_of_ble_eq_true rfl⟩ (Nat.le_of_ble_eq_true rfl) ⟨Nat.le_of_ble_eq_true rfl, Nat.le_of_ble_eq_true rfl⟩ rfl dX4_stored_12 ?_
  refine zkq (G := fun v1 w1 => zG p l e _ s m args below meth c D _ _ _ _ _ _ _ (v1.toList ++ _) w1) rfl ?_
  exact z_iretd hC hr dX4_stored_15 (Nat.zero_le _) (Nat.zero_le _) (rfl) (by first | rfl | (simp [*]; done)) rfl

set_option maxRecDepth 100000 in
set_option maxHeartbeats 1000000 in
theorem c_X4_storedReading (l : Launch) (D : va_G) (ct : Nat → ClassId) (b : Nat) (qs qt qh qx : Nat → Nat) (σ : Nat → Nat → Int32) (n i p0 : Int32) (hn : mMeter n = true) (hi : ¬ i < 0) (hp1 : ¬ p0 < 0) (hp2 : ¬ 4 < p0) : zT l D ct yX4_storedReading cX4_storedReading 4 (some .int) 4 107 0 0 [.ref b, .int n, .int i, .int p0] (cN b qs qt qh qx :: cS qs σ ct) (zd (some (.int (mrPart (rd σ) n i p0))) (cN b qs qt qh qx :: cS qs σ ct)) := by
  refine zT_of ([some (.ref b), some (.int n), some (.int i), some (.int p0)]) (by decide +kernel) rfl (Nat.le_of_ble_eq_true rfl) ?_
  intro p e s m args below meth c hC hr hnm
  refine z_iload_n hC dX4_storedReading_0 rfl ?_
  refine z_callS [] hC (c_X4_checkMeter l D ct n hn) bw_107 bw_108 bw_2 bw_109 1 (by decide +kernel) rfl rfl rfl ⟨Nat.le_of_ble_eq_true rfl, Nat.le_of_ble_eq_true rfl⟩ (Nat.le_of_ble_eq_true rfl) ⟨Nat.le_of_ble_eq_true rfl, Nat.le_of_ble_eq_true rfl⟩ rfl dX4_storedReading_1 ?_
  refine zkq (G := fun v1 w1 => zG p l e _ s m args below meth c D _ _ _ _ _ _ _ (v1.toList ++ _) w1) rfl ?_
  refine z_iload_n hC dX4_storedReading_4 rfl ?_
  refine z_callS [] hC (c_X4_checkIndex l D ct i hi) bw_167 bw_168 bw_2 bw_169 1 (by decide +kernel) rfl rfl rfl ⟨Nat.le_of_ble_eq_true rfl, Nat.le_of_ble_eq_true rfl⟩ (Nat.le_of_ble_eq_true rfl) ⟨Nat.le_of_ble_eq_true rfl, Nat.le_of_ble_eq_true rfl⟩ rfl dX4_storedReading_5 ?_
  refine zkq (G := fun v1 w1 => zG p l e _ s m args below meth c D _ _ _ _ _ _ _ (v1.toList ++ _) w1) rfl ?_
  refine z_iload_n hC dX4_storedReading_8 rfl ?_
  refine z_iconst (v := 0) hC dX4_storedReading_9 (by decide) ?_
  refine z_iconst (v := 4) hC dX4_storedReading_10 (by decide) ?_
  refine z_callS [] hC (c_X4_checkRange l D ct p0 0 4 hp1 hp2) bw_170 bw_171 bw_2 bw_172 3 (by decide +kernel) rfl rfl rfl ⟨Nat.le_of_ble_eq_true rfl, Nat.le_of_ble_eq_true rfl⟩ (Nat.le_of_ble_eq_true rfl) ⟨Nat.le_of_ble_eq_true rfl, Nat.le_of_ble_eq_true rfl⟩ rfl dX4_storedReading_11 ?_
  refine zkq (G := fun v1 w1 => zG p l e _ s m args below meth c D _ _ _ _ _ _ _ (v1.toList ++ _) w1) rfl ?_
  refine z_aload_n hC dX4_storedReading_14 rfl ?_
  refine z_get 0 0 hC bl_X4 (ci := 4) rfl (by decide) rfl bw_13 rfl rfl dX4_storedReading_15 ?_
  refine z_getN 1 7 hC bl_X2 (ci := 2) rfl (by decide) rfl nw_9 rfl rfl dX4_storedReading_18 ?_
  refine z_iload_n hC dX4_storedReading_21 rfl ?_
  refine z_iload_n hC dX4_storedReading_22 rfl ?_
  refine z_iload_n hC dX4_storedReading_23 rfl ?_
  refine z_callVN [9, 10, 11, 12, 13, 14, 15, 16] 0 1 hC (c_X1_partOf l D ct (fun i => qs (8 + i)) (rd σ) n i p0) nw_52 bw_175 bw_176 bw_37 bw_177 3 (by decide +kernel) rfl rfl rfl rfl rfl ⟨Nat.le_of_ble_eq_true rfl, Nat.le_of_ble_eq_true rfl⟩ (Nat.le_of_ble_eq_true rfl) ⟨Nat.le_of_ble_eq_true rfl, Nat.le_of_ble_eq_true rfl⟩ rfl dX4_storedReading_24 ?_
  refine zkq (G := fun v1 w1 => zG p l e _ s m args below meth c D _ _ _ _ _ _ _ (v1.toList ++ _) w1) rfl ?_
  exact z_iretd hC hr dX4_storedReading_27 (Nat.zero_le _) (Nat.zero_le _) (rfl) (by first | rfl | (simp [*]; done)) rfl

set_option maxRecDepth 100000 in
set_option maxHeartbeats 1000000 in
theorem c_X4_collected (l : Launch) (D : va_G) (ct : Nat → ClassId) (b : Nat) (qs qt qh qx : Nat → Nat) (σ : Nat → Nat → Int32)  : zT l D ct yX4_collected cX4_collected 1 (some .int) 2 47 0 0 [.ref b] (cN b qs qt qh qx :: cS qs σ ct) (zd (some (.int (mrSize (rd σ) 0))) (cN b qs qt qh qx :: cS qs σ ct)) := by
  refine zT_of ([some (.ref b)]) (by decide +kernel) rfl (Nat.le_of_ble_eq_true rfl) ?_
  intro p e s m args below meth c hC hr hnm
  refine z_aload_n hC dX4_collected_0 rfl ?_
  refine z_get 0 0 hC bl_X4 (ci := 4) rfl (by decide) rfl bw_13 rfl rfl dX4_collected_1 ?_
  refine z_getN 1 7 hC bl_X2 (ci := 2) rfl (by decide) rfl nw_9 rfl rfl dX4_collected_4 ?_
  refine z_iconst (v := 0) hC dX4_collected_7 (by decide) ?_
  refine z_callVN [9, 10, 11, 12, 13, 14, 15, 16] 0 1 hC (c_X1_sizeOf l D ct (fun i => qs (8 + i)) (rd σ) 0) nw_51 bw_151 bw_152 bw_37 bw_153 1 (by decide +kernel) rfl rfl rfl rfl rfl ⟨Nat.le_of_ble_eq_true rfl, Nat.le_of_ble_eq_true rfl⟩ (Nat.le_of_ble_eq_true rfl) ⟨Nat.le_of_ble_eq_true rfl, Nat.le_of_ble_eq_true rfl⟩ rfl dX4_collected_8 ?_
  refine zkq (G := fun v1 w1 => zG p l e _ s m args below meth c D _ _ _ _ _ _ _ (v1.toList ++ _) w1) rfl ?_
  exact z_iretd hC hr dX4_collected_11 (Nat.zero_le _) (Nat.zero_le _) (rfl) (by first | rfl | (simp [*]; done)) rfl

set_option maxRecDepth 100000 in
set_option maxHeartbeats 1000000 in
theorem c_X4_collectedReading (l : Launch) (D : va_G) (ct : Nat → ClassId) (b : Nat) (qs qt qh qx : Nat → Nat) (σ : Nat → Nat → Int32) (i p0 : Int32) (hi : ¬ i < 0) (hp1 : ¬ p0 < 0) (hp2 : ¬ 4 < p0) : zT l D ct yX4_collectedReading cX4_collectedReading 3 (some .int) 4 107 0 0 [.ref b, .int i, .int p0] (cN b qs qt qh qx :: cS qs σ ct) (zd (some (.int (mrPart (rd σ) 0 i p0))) (cN b qs qt qh qx :: cS qs σ ct)) := by
  refine zT_of ([some (.ref b), some (.int i), some (.int p0)]) (by decide +kernel) rfl (Nat.le_of_ble_eq_true rfl) ?_
  intro p e s m args below meth c hC hr hnm
  refine z_iload_n hC dX4_collectedReading_0 rfl ?_
  refine z_callS [] hC (c_X4_checkIndex l D ct i hi) bw_167 bw_168 bw_2 bw_169 1 (by decide +kernel) rfl rfl rfl ⟨Nat.le_of_ble_eq_true rfl, Nat.le_of_ble_eq_true rfl⟩ (Nat.le_of_ble_eq_true rfl) ⟨Nat.le_of_ble_eq_true rfl, Nat.le_of_ble_eq_true rfl⟩ rfl dX4_collectedReading_1 ?_
  refine zkq (G := fun v1 w1 => zG p l e _ s m args below meth c D _ _ _ _ _ _ _ (v1.toList ++ _) w1) rfl ?_
  refine z_iload_n hC dX4_collectedReading_4 rfl ?_
  refine z_iconst (v := 0) hC dX4_collectedReading_5 (by decide) ?_
  refine z_iconst (v := 4) hC dX4_collectedReading_6 (by decide) ?_
  refine z_callS [] hC (c_X4_checkRange l D ct p0 0 4 hp1 hp2) bw_170 bw_171 bw_2 bw_172 3 (by decide +kernel) rfl rfl rfl ⟨Nat.le_of_ble_eq_true rfl, Nat.le_of_ble_eq_true rfl⟩ (Nat.le_of_ble_eq_true rfl) ⟨Nat.le_of_ble_eq_true rfl, Nat.le_of_ble_eq_true rfl⟩ rfl dX4_collectedReading_7 ?_
  refine zkq (G := fun v1 w1 => zG p l e _ s m args below meth c D _ _ _ _ _ _ _ (v1.toList ++ _) w1) rfl ?_
  refine z_aload_n hC dX4_collectedReading_10 rfl ?_
  refine z_get 0 0 hC bl_X4 (ci := 4) rfl (by decide) rfl bw_13 rfl rfl dX4_collectedReading_11 ?_
  refine z_getN 1 7 hC bl_X2 (ci := 2) rfl (by decide) rfl nw_9 rfl rfl dX4_collectedReading_14 ?_
  refine z_iconst (v := 0) hC dX4_collectedReading_17 (by decide) ?_
  refine z_iload_n hC dX4_collectedReading_18 rfl ?_
  refine z_iload_n hC dX4_collectedReading_19 rfl ?_
  refine z_callVN [9, 10, 11, 12, 13, 14, 15, 16] 0 1 hC (c_X1_partOf l D ct (fun i => qs (8 + i)) (rd σ) 0 i p0) nw_52 bw_175 bw_176 bw_37 bw_177 3 (by decide +kernel) rfl rfl rfl rfl rfl ⟨Nat.le_of_ble_eq_true rfl, Nat.le_of_ble_eq_true rfl⟩ (Nat.le_of_ble_eq_true rfl) ⟨Nat.le_of_ble_eq_true rfl, Nat.le_of_ble_eq_true rfl⟩ rfl dX4_collectedReading_20 ?_
  refine zkq (G := fun v1 w1 => zG p l e _ s m args below meth c D _ _ _ _ _ _ _ (v1.toList ++ _) w1) rfl ?_
  exact z_iretd hC hr dX4_collectedReading_23 (Nat.zero_le _) (Nat.zero_le _) (rfl) (by first | rfl | (simp [*]; done)) rfl

set_option maxRecDepth 100000 in
set_option maxHeartbeats 1000000 in
theorem c_X4_copies (l : Launch) (D : va_G) (ct : Nat → ClassId) (b : Nat) (qs qt qh qx : Nat → Nat) (σ : Nat → Nat → Int32) (n k : Int32) (hn : mMeter n = true) : zT l D ct yX4_copies cX4_copies 4 (some .int) 4 106 0 0 [.ref b, .int n, .int k] (cN b qs qt qh qx :: cS qs σ ct) (zd (some (.int (if mrFind (rd σ) n k = -1 then -1 else mrStores (rd σ) (mrFind (rd σ) n k)))) (cN b qs qt qh qx :: cS qs σ ct)) := by
  refine zT_of ([some (.ref b), some (.int n), some (.int k), none]) (by decide +kernel) rfl (Nat.le_of_ble_eq_true rfl) ?_
  intro p e s m args below meth c hC hr hnm
  refine z_iload_n hC dX4_copies_0 rfl ?_
  refine z_callS [] hC (c_X4_checkMeter l D ct n hn) bw_107 bw_108 bw_2 bw_109 1 (by decide +kernel) rfl rfl rfl ⟨Nat.le_of_ble_eq_true rfl, Nat.le_of_ble_eq_true rfl⟩ (Nat.le_of_ble_eq_true rfl) ⟨Nat.le_of_ble_eq_true rfl, Nat.le_of_ble_eq_true rfl⟩ rfl dX4_copies_1 ?_
  refine zkq (G := fun v1 w1 => zG p l e _ s m args below meth c D _ _ _ _ _ _ _ (v1.toList ++ _) w1) rfl ?_
  refine z_aload_n hC dX4_copies_4 rfl ?_
  refine z_get 0 0 hC bl_X4 (ci := 4) rfl (by decide) rfl bw_13 rfl rfl dX4_copies_5 ?_
  refine z_getN 1 7 hC bl_X2 (ci := 2) rfl (by decide) rfl nw_9 rfl rfl dX4_copies_8 ?_
  refine z_iload_n hC dX4_copies_11 rfl ?_
  refine z_iload_n hC dX4_copies_12 rfl ?_
  refine z_callVN [9, 10, 11, 12, 13, 14, 15, 16] 0 1 hC (c_X1_findId l D ct (fun i => qs (8 + i)) (rd σ) n k) nw_53 bw_194 bw_195 bw_37 bw_196 2 (by decide +kernel) rfl rfl rfl rfl rfl ⟨Nat.le_of_ble_eq_true rfl, Nat.le_of_ble_eq_true rfl⟩ (Nat.le_of_ble_eq_true rfl) ⟨Nat.le_of_ble_eq_true rfl, Nat.le_of_ble_eq_true rfl⟩ rfl dX4_copies_13 ?_
  refine zkq (G := fun v1 w1 => zG p l e _ s m args below meth c D _ _ _ _ _ _ _ (v1.toList ++ _) w1) rfl ?_
  refine z_istore_n hC dX4_copies_16 (by decide) rfl ?_
  refine z_iload_n hC dX4_copies_17 rfl ?_
  refine z_iconst (v := (-1)) hC dX4_copies_18 (by decide) ?_
  refine z_icmp_ne hC 26 dX4_copies_19 (by decide) (fun c19 => ?_) (fun c19 => ?_)
  · refine z_aload_n hC dX4_copies_26 rfl ?_
    refine z_get 0 0 hC bl_X4 (ci := 4) rfl (by decide) rfl bw_13 rfl rfl dX4_copies_27 ?_
    refine z_getN 1 7 hC bl_X2 (ci := 2) rfl (by decide) rfl nw_9 rfl rfl dX4_copies_30 ?_
    refine z_iload_n hC dX4_copies_33 rfl ?_
    refine z_callVN [9, 10, 11, 12, 13, 14, 15, 16] 0 1 hC (c_X1_storesWith l D ct (fun i => qs (8 + i)) (rd σ) (mrFind (rd σ) n k)) nw_54 bw_198 bw_199 bw_37 bw_200 1 (by decide +kernel) rfl rfl rfl rfl rfl ⟨Nat.le_of_ble_eq_true rfl, Nat.le_of_ble_eq_true rfl⟩ (Nat.le_of_ble_eq_true rfl) ⟨Nat.le_of_ble_eq_true rfl, Nat.le_of_ble_eq_true rfl⟩ rfl dX4_copies_34 ?_
    refine zkq (G := fun v1 w1 => zG p l e _ s m args below meth c D _ _ _ _ _ _ _ (v1.toList ++ _) w1) rfl ?_
    exact z_iretd hC hr dX4_copies_37 (Nat.zero_le _) (Nat.zero_le _) (by clear hC hr hnm; first | rfl | (simp [c19, *]; done) | (simp_all [c19]; done)) (by first | rfl | (simp [c19, *]; done)) rfl
  · refine z_iconst (v := (-1)) hC dX4_copies_22 (by decide) ?_
    refine z_goto hC 37 dX4_copies_23 (by decide) ?_
    exact z_iretd hC hr dX4_copies_37 (Nat.zero_le _) (Nat.zero_le _) (by clear hC hr hnm; first | rfl | (simp [c19, *]; done) | (simp_all [c19]; done)) (by first | rfl | (simp [c19, *]; done)) rfl

set_option maxRecDepth 100000 in
set_option maxHeartbeats 1000000 in
theorem c_X4_missing (l : Launch) (D : va_G) (ct : Nat → ClassId) (b : Nat) (qs qt qh qx : Nat → Nat) (σ : Nat → Nat → Int32)  : zT l D ct yX4_missing cX4_missing 1 (some .int) 3 67 0 0 [.ref b] (cN b qs qt qh qx :: cS qs σ ct) (zd (some (.int (mrMissing (rd σ)))) (cN b qs qt qh qx :: cS qs σ ct)) := by
  refine zT_of ([some (.ref b)]) (by decide +kernel) rfl (Nat.le_of_ble_eq_true rfl) ?_
  intro p e s m args below meth c hC hr hnm
  refine z_aload_n hC dX4_missing_0 rfl ?_
  refine z_get 0 0 hC bl_X4 (ci := 4) rfl (by decide) rfl bw_13 rfl rfl dX4_missing_1 ?_
  refine z_getN 1 7 hC bl_X2 (ci := 2) rfl (by decide) rfl nw_9 rfl rfl dX4_missing_4 ?_
  refine z_callVN [9, 10, 11, 12, 13, 14, 15, 16] 0 1 hC (c_X1_missingCount l D ct (fun i => qs (8 + i)) (rd σ)) nw_56 bw_231 bw_232 bw_37 bw_233 0 (by decide +kernel) rfl rfl rfl rfl rfl ⟨Nat.le_of_ble_eq_true rfl, Nat.le_of_ble_eq_true rfl⟩ (Nat.le_of_ble_eq_true rfl) ⟨Nat.le_of_ble_eq_true rfl, Nat.le_of_ble_eq_true rfl⟩ rfl dX4_missing_7 ?_
  refine zkq (G := fun v1 w1 => zG p l e _ s m args below meth c D _ _ _ _ _ _ _ (v1.toList ++ _) w1) rfl ?_
  exact z_iretd hC hr dX4_missing_10 (Nat.zero_le _) (Nat.zero_le _) (rfl) (by first | rfl | (simp [*]; done)) rfl

set_option maxRecDepth 100000 in
set_option maxHeartbeats 1000000 in
theorem c_X4_wrongStamps (l : Launch) (D : va_G) (ct : Nat → ClassId) (b : Nat) (qs qt qh qx : Nat → Nat) (σ : Nat → Nat → Int32)  : zT l D ct yX4_wrongStamps cX4_wrongStamps 1 (some .int) 5 129 0 0 [.ref b] (cN b qs qt qh qx :: cS qs σ ct) (zd (some (.int (mrWrong (rd σ)))) (cN b qs qt qh qx :: cS qs σ ct)) := by
  refine zT_of ([some (.ref b)]) (by decide +kernel) rfl (Nat.le_of_ble_eq_true rfl) ?_
  intro p e s m args below meth c hC hr hnm
  refine z_aload_n hC dX4_wrongStamps_0 rfl ?_
  refine z_get 0 0 hC bl_X4 (ci := 4) rfl (by decide) rfl bw_13 rfl rfl dX4_wrongStamps_1 ?_
  refine z_getN 1 7 hC bl_X2 (ci := 2) rfl (by decide) rfl nw_9 rfl rfl dX4_wrongStamps_4 ?_
  refine z_callVN [9, 10, 11, 12, 13, 14, 15, 16] 0 1 hC (c_X1_wrongStampCount l D ct (fun i => qs (8 + i)) (rd σ)) nw_55 bw_223 bw_224 bw_37 bw_225 0 (by decide +kernel) rfl rfl rfl rfl rfl ⟨Nat.le_of_ble_eq_true rfl, Nat.le_of_ble_eq_true rfl⟩ (Nat.le_of_ble_eq_true rfl) ⟨Nat.le_of_ble_eq_true rfl, Nat.le_of_ble_eq_true rfl⟩ rfl dX4_wrongStamps_7 ?_
  refine zkq (G := fun v1 w1 => zG p l e _ s m args below meth c D _ _ _ _ _ _ _ (v1.toList ++ _) w1) rfl ?_
  exact z_iretd hC hr dX4_wrongStamps_10 (Nat.zero_le _) (Nat.zero_le _) (rfl) (by first | rfl | (simp [*]; done)) rfl

set_option maxRecDepth 100000 in
set_option maxHeartbeats 1000000 in
theorem c_X4_time (l : Launch) (D : va_G) (ct : Nat → ClassId) (b : Nat) (qs qt qh qx : Nat → Nat) (σ : Nat → Nat → Int32)  : zT l D ct yX4_time cX4_time 1 (some .int) 0 0 0 0 [.ref b] (cN b qs qt qh qx :: cS qs σ ct) (zd (some (.int (σ 0 0))) (cN b qs qt qh qx :: cS qs σ ct)) := by
  refine zT_of ([some (.ref b)]) (by decide +kernel) rfl (Nat.le_of_ble_eq_true rfl) ?_
  intro p e s m args below meth c hC hr hnm
  refine z_aload_n hC dX4_time_0 rfl ?_
  refine z_get 0 0 hC bl_X4 (ci := 4) rfl (by decide) rfl bw_13 rfl rfl dX4_time_1 ?_
  refine z_getN 1 8 hC bl_X2 (ci := 2) rfl (by decide) rfl nw_10 rfl rfl dX4_time_4 ?_
  exact z_iretd hC hr dX4_time_7 (Nat.zero_le _) (Nat.zero_le _) (rfl) (by first | rfl | (simp [*]; done)) rfl

set_option maxRecDepth 100000 in
set_option maxHeartbeats 1000000 in
theorem c_X4_count (l : Launch) (D : va_G) (ct : Nat → ClassId) (b : Nat) (qs qt qh qx : Nat → Nat) (σ : Nat → Nat → Int32) (k : Int32) (h1 : ¬ k < 0) (h2 : ¬ 5 < k) : zT l D ct yX4_count cX4_count 2 (some .int) 0 0 0 0 [.ref b, .int k] (cN b qs qt qh qx :: cS qs σ ct) (zd (some (.int (mCount σ k))) (cN b qs qt qh qx :: cS qs σ ct)) := by
  refine zT_of ([some (.ref b), some (.int k)]) (by decide +kernel) rfl (Nat.le_of_ble_eq_true rfl) ?_
  intro p e s m args below meth c hC hr hnm
  refine z_iload_n hC dX4_count_0 rfl ?_
  by_cases s1_0 : k = 0
  · refine z_tableIn (off := 39) hC 40 dX4_count_1 (by rw [s1_0]; decide) (by rw [s1_0]; decide) (by rw [s1_0]; rfl) (by decide) ?_
    refine z_aload_n hC dX4_count_40 rfl ?_
    refine z_get 0 0 hC bl_X4 (ci := 4) rfl (by decide) rfl bw_13 rfl rfl dX4_count_41 ?_
    refine z_getN 1 7 hC bl_X2 (ci := 2) rfl (by decide) rfl nw_9 rfl rfl dX4_count_44 ?_
    refine z_getN 9 4 hC bl_X1 (ci := 1) rfl (by decide) rfl nw_3 rfl rfl dX4_count_47 ?_
    exact z_iretd hC hr dX4_count_50 (Nat.zero_le _) (Nat.zero_le _) (by clear hC hr hnm; first | rfl | (simp [mCount, s1_0, *]; done) | (simp_all [mCount, s1_0]; done)) (by first | rfl | (simp [mCount, s1_0, *]; done)) rfl
  by_cases s1_1 : k = 1
  · refine z_tableIn (off := 50) hC 51 dX4_count_1 (by rw [s1_1]; decide) (by rw [s1_1]; decide) (by rw [s1_1]; rfl) (by decide) ?_
    refine z_aload_n hC dX4_count_51 rfl ?_
    refine z_get 0 0 hC bl_X4 (ci := 4) rfl (by decide) rfl bw_13 rfl rfl dX4_count_52 ?_
    refine z_getN 1 10 hC bl_X2 (ci := 2) rfl (by decide) rfl nw_12 rfl rfl dX4_count_55 ?_
    exact z_iretd hC hr dX4_count_58 (Nat.zero_le _) (Nat.zero_le _) (by clear hC hr hnm; first | rfl | (simp [mCount, s1_0, s1_1, *]; done) | (simp_all [mCount, s1_0, s1_1]; done)) (by first | rfl | (simp [mCount, s1_0, s1_1, *]; done)) rfl
  by_cases s1_2 : k = 2
  · refine z_tableIn (off := 58) hC 59 dX4_count_1 (by rw [s1_2]; decide) (by rw [s1_2]; decide) (by rw [s1_2]; rfl) (by decide) ?_
    refine z_aload_n hC dX4_count_59 rfl ?_
    refine z_get 0 0 hC bl_X4 (ci := 4) rfl (by decide) rfl bw_13 rfl rfl dX4_count_60 ?_
    refine z_getN 1 11 hC bl_X2 (ci := 2) rfl (by decide) rfl nw_13 rfl rfl dX4_count_63 ?_
    exact z_iretd hC hr dX4_count_66 (Nat.zero_le _) (Nat.zero_le _) (by clear hC hr hnm; first | rfl | (simp [mCount, s1_0, s1_1, s1_2, *]; done) | (simp_all [mCount, s1_0, s1_1, s1_2]; done)) (by first | rfl | (simp [mCount, s1_0, s1_1, s1_2, *]; done)) rfl
  by_cases s1_3 : k = 3
  · refine z_tableIn (off := 66) hC 67 dX4_count_1 (by rw [s1_3]; decide) (by rw [s1_3]; decide) (by rw [s1_3]; rfl) (by decide) ?_
    refine z_aload_n hC dX4_count_67 rfl ?_
    refine z_get 0 0 hC bl_X4 (ci := 4) rfl (by decide) rfl bw_13 rfl rfl dX4_count_68 ?_
    refine z_getN 1 12 hC bl_X2 (ci := 2) rfl (by decide) rfl nw_14 rfl rfl dX4_count_71 ?_
    exact z_iretd hC hr dX4_count_74 (Nat.zero_le _) (Nat.zero_le _) (by clear hC hr hnm; first | rfl | (simp [mCount, s1_0, s1_1, s1_2, s1_3, *]; done) | (simp_all [mCount, s1_0, s1_1, s1_2, s1_3]; done)) (by first | rfl | (simp [mCount, s1_0, s1_1, s1_2, s1_3, *]; done)) rfl
  by_cases s1_4 : k = 4
  · refine z_tableIn (off := 74) hC 75 dX4_count_1 (by rw [s1_4]; decide) (by rw [s1_4]; decide) (by rw [s1_4]; rfl) (by decide) ?_
    refine z_aload_n hC dX4_count_75 rfl ?_
    refine z_get 0 0 hC bl_X4 (ci := 4) rfl (by decide) rfl bw_13 rfl rfl dX4_count_76 ?_
    refine z_getN 1 13 hC bl_X2 (ci := 2) rfl (by decide) rfl nw_15 rfl rfl dX4_count_79 ?_
    exact z_iretd hC hr dX4_count_82 (Nat.zero_le _) (Nat.zero_le _) (by clear hC hr hnm; first | rfl | (simp [mCount, s1_0, s1_1, s1_2, s1_3, s1_4, *]; done) | (simp_all [mCount, s1_0, s1_1, s1_2, s1_3, s1_4]; done)) (by first | rfl | (simp [mCount, s1_0, s1_1, s1_2, s1_3, s1_4, *]; done)) rfl
  by_cases s1_5 : k = 5
  · refine z_tableIn (off := 82) hC 83 dX4_count_1 (by rw [s1_5]; decide) (by rw [s1_5]; decide) (by rw [s1_5]; rfl) (by decide) ?_
    refine z_aload_n hC dX4_count_83 rfl ?_
    refine z_get 0 0 hC bl_X4 (ci := 4) rfl (by decide) rfl bw_13 rfl rfl dX4_count_84 ?_
    refine z_getN 1 14 hC bl_X2 (ci := 2) rfl (by decide) rfl nw_16 rfl rfl dX4_count_87 ?_
    exact z_iretd hC hr dX4_count_90 (Nat.zero_le _) (Nat.zero_le _) (by clear hC hr hnm; first | rfl | (simp [mCount, s1_0, s1_1, s1_2, s1_3, s1_4, s1_5, *]; done) | (simp_all [mCount, s1_0, s1_1, s1_2, s1_3, s1_4, s1_5]; done)) (by first | rfl | (simp [mCount, s1_0, s1_1, s1_2, s1_3, s1_4, s1_5, *]; done)) rfl
  have t1_0 : (0 : Int32).toInt = 0 := rfl
  have n1_0 := mt i_eq.mpr s1_0
  have t1_1 : (1 : Int32).toInt = 1 := rfl
  have n1_1 := mt i_eq.mpr s1_1
  have t1_2 : (2 : Int32).toInt = 2 := rfl
  have n1_2 := mt i_eq.mpr s1_2
  have t1_3 : (3 : Int32).toInt = 3 := rfl
  have n1_3 := mt i_eq.mpr s1_3
  have t1_4 : (4 : Int32).toInt = 4 := rfl
  have n1_4 := mt i_eq.mpr s1_4
  have t1_5 : (5 : Int32).toInt = 5 := rfl
  have n1_5 := mt i_eq.mpr s1_5
  refine z_tableOut hC 91 dX4_count_1 (by omega) (by decide) ?_
  exact (cnt_out h1 h2 s1_0 s1_1 s1_2 s1_3 s1_4 s1_5).elim

set_option maxRecDepth 100000 in
set_option maxHeartbeats 1000000 in
theorem c_X4_joined (l : Launch) (D : va_G) (ct : Nat → ClassId) (b : Nat) (qs qt qh qx : Nat → Nat) (σ : Nat → Nat → Int32) : zT l D ct yX4_joined cX4_joined 1 (some .double) 1 22 0 0 [.ref b] (cN b qs qt qh qx :: cS qs σ ct) (zd (some (.double (mDiv (msJoined σ)))) (cN b qs qt qh qx :: cS qs σ ct)) := by
  refine zT_of ([some (.ref b)]) (by decide +kernel) rfl (Nat.le_of_ble_eq_true rfl) ?_
  intro p e s m args below meth c hC hr hnm
  refine z_aload_n hC dX4_joined_0 rfl ?_
  refine z_get 0 0 hC bl_X4 (ci := 4) rfl (by decide) rfl bw_13 rfl rfl dX4_joined_1 ?_
  refine z_callVN [1, 2, 3, 4, 5, 6, 7, 8, 9, 10, 11, 12, 13, 14, 15, 16] 0 2 hC (c_X2_joinedCount l D ct qs σ) nw_50 bw_141 bw_142 bw_12 bw_143 0 (by decide +kernel) rfl rfl rfl rfl rfl ⟨Nat.le_of_ble_eq_true rfl, Nat.le_of_ble_eq_true rfl⟩ (Nat.le_of_ble_eq_true rfl) ⟨Nat.le_of_ble_eq_true rfl, Nat.le_of_ble_eq_true rfl⟩ rfl dX4_joined_4 ?_
  refine zkq (G := fun v1 w1 => zG p l e _ s m args below meth c D _ _ _ _ _ _ _ (v1.toList ++ _) w1) rfl ?_
  refine z_i2d hC dX4_joined_7 ?_
  refine z_ldc2d (v := 4621256167635550208) hC bw_140 dX4_joined_8 ?_
  obtain ⟨jk, hjk, ejk⟩ := msJoined_le σ
  refine z_ddiv hC dX4_joined_11 (by rw [ejk]; exact mDiv_ok jk hjk) ?_
  exact z_dretd hC hr dX4_joined_12 (Nat.zero_le _) (Nat.zero_le _) rfl rfl rfl

set_option maxRecDepth 100000 in
set_option maxHeartbeats 1000000 in
theorem c_X4_savedStates (l : Launch) (D : va_G) (ct : Nat → ClassId) (b : Nat) (qs qt qh qx : Nat → Nat) (o z : Int32) (rg : Nat → Option Nat) : zT l D ct yX4_savedStates cX4_savedStates 1 (some .int) 0 0 0 0 [.ref b] (cN b qs qt qh qx :: cH qh o z rg ct) (zd (some (.int z)) (cN b qs qt qh qx :: cH qh o z rg ct)) := by
  refine zT_of ([some (.ref b)]) (by decide +kernel) rfl (Nat.le_of_ble_eq_true rfl) ?_
  intro p e s m args below meth c hC hr hnm
  refine z_aload_n hC dX4_savedStates_0 rfl ?_
  refine z_get 0 2 hC bl_X4 (ci := 4) rfl (by decide) rfl bw_18 rfl rfl dX4_savedStates_1 ?_
  refine z_getN 1 2 hC bl_X0 (ci := 0) rfl (by decide) rfl nw_18 rfl rfl dX4_savedStates_4 ?_
  exact z_iretd hC hr dX4_savedStates_7 (Nat.zero_le _) (Nat.zero_le _) (rfl) (by first | rfl | (simp [*]; done)) rfl
