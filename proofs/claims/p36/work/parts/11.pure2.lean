/-! WHAT THE METHODS OF State ANSWER AND DO: row 0 the numbers (now, patience, sent, duplicates, refused, lost, dropped), 1 linked, 2 on, 3 parents, 4 depths, 5 lastHeard, 6 offsets, 7 faults, from 8 on the rows of its Readings -/
abbrev cS (q : Nat → Nat) (σ : Nat → Nat → Int32) (ct : Nat → ClassId) : va_W := [(q 0, .inr (2, [.ref (q 1), .ref (q 2), .ref (q 3), .ref (q 4), .ref (q 5), .ref (q 6), .ref (q 7), .ref (q 8), .int (σ 0 0), .int (σ 0 1), .int (σ 0 2), .int (σ 0 3), .int (σ 0 4), .int (σ 0 5), .int (σ 0 6)])), (q 1, .inl (ct 1, 100, .inl (σ 1))), (q 2, .inl (ct 1, 10, .inl (σ 2))), (q 3, .inl (ct 0, 10, .inl (σ 3))), (q 4, .inl (ct 0, 10, .inl (σ 4))), (q 5, .inl (ct 0, 10, .inl (σ 5))), (q 6, .inl (ct 0, 10, .inl (σ 6))), (q 7, .inl (ct 0, 10, .inl (σ 7))), (q 8, .inr (1, [.ref (q 9), .ref (q 10), .ref (q 11), .ref (q 12), .int (σ 8 0), .ref (q 13), .ref (q 14), .ref (q 15)])), (q 9, .inl (ct 0, 60, .inl (σ 9))), (q 10, .inl (ct 0, 60, .inl (σ 10))), (q 11, .inl (ct 0, 60, .inl (σ 11))), (q 12, .inl (ct 0, 60, .inl (σ 12))), (q 13, .inl (ct 0, 10, .inl (σ 13))), (q 14, .inl (ct 0, 600, .inl (σ 14))), (q 15, .inl (ct 0, 600, .inl (σ 15)))]
def rd (σ : Nat → Nat → Int32) : Nat → Nat → Int32 := fun r => σ (8 + r)
def wd (σ ρ : Nat → Nat → Int32) : Nat → Nat → Int32 := fun r => if r < 8 then σ r else ρ (r - 8)
theorem wd_lo {σ ρ : Nat → Nat → Int32} {r : Nat} (h : r < 8) : wd σ ρ r = σ r := if_pos h
theorem rd_wd (σ ρ : Nat → Nat → Int32) : rd (wd σ ρ) = ρ := by
  funext r
  unfold rd wd
  rw [if_neg (by omega), show 8 + r - 8 = r by omega]
theorem rd_u2 {σ : Nat → Nat → Int32} {r k : Nat} {x : Int32} (h : r < 8) : rd (u2 σ r k x) = rd σ := by
  funext r1
  unfold rd
  rw [u2_ne (by omega)]
theorem cS_wd {q : Nat → Nat} {σ ρ : Nat → Nat → Int32} {ct : Nat → ClassId} : wput (cS q σ ct) [8, 9, 10, 11, 12, 13, 14, 15] (cR (fun i => q (8 + i)) ρ ct) = cS q (wd σ ρ) ct := rfl
def msOn (σ : Nat → Nat → Int32) (n : Int32) : Bool := mNode n && decide (¬ σ 2 n.toNatClampNeg = 0)
def msConn (σ : Nat → Nat → Int32) (a b : Int32) : Bool := msOn σ a && (msOn σ b && decide (¬ σ 1 (a * 10 + b).toNatClampNeg = 0))
def msSetLink (σ : Nat → Nat → Int32) (a b v : Int32) : Nat → Nat → Int32 := if mNode a = true ∧ mNode b = true then u2 (u2 σ 1 (a * 10 + b).toNatClampNeg (vp_nar .boolean v)) 1 (b * 10 + a).toNatClampNeg (vp_nar .boolean v) else σ
def msLinks (σ : Nat → Nat → Int32) : Int32 := kfor (fun i (a : Int32) => a + (if σ 1 (nI i).toNatClampNeg = 0 then 0 else 1)) 100 0 0 / 2
def msSetPower (σ : Nat → Nat → Int32) (n v : Int32) : Nat → Nat → Int32 := if mNode n = true then u2 σ 2 n.toNatClampNeg (vp_nar .boolean v) else σ
def msOnCount (σ : Nat → Nat → Int32) : Int32 := kfor (fun i (a : Int32) => a + (if σ 2 (nI i).toNatClampNeg = 0 then 0 else 1)) 10 0 0
def msJoined (σ : Nat → Nat → Int32) : Int32 := kfor (fun i (a : Int32) => a + (if σ 3 (nI i).toNatClampNeg = -1 then 0 else 1)) 10 0 0
def msNb1 (σ : Nat → Nat → Int32) (set : Int32) (a b : Nat) (z : Int32) : Int32 := if ¬ set &&& (1 <<< (nI a &&& 31)) = 0 ∧ msConn σ (nI a) (nI b) = true then z ||| (1 <<< (nI b &&& 31)) else z
def msNb (σ : Nat → Nat → Int32) (set : Int32) : Int32 := kfor (fun a (z : Int32) => kfor (msNb1 σ set a) 10 0 z) 10 0 0
def msHop (σ : Nat → Nat → Int32) (node : Int32) : Nat → Nat → Int32 → Int32
  | 0, _, _ => -1
  | k + 1, i, r => if ¬ r &&& (1 <<< (node &&& 31)) = 0 then nI i else msHop σ node k (i + 1) (r ||| msNb σ r)
def msHops (σ : Nat → Nat → Int32) (node : Int32) : Int32 := msHop σ node 10 0 (if σ 2 (0 : Int32).toNatClampNeg = 0 then 0 else 1)
def msCanTake (σ : Nat → Nat → Int32) (m : Int32) : Bool := decide (σ 8 0 < 60) && !(mrFull (rd σ) m)
def msTakeR (σ : Nat → Nat → Int32) (m : Int32) : Int32 := if mNode m = true then mrTakeR (rd σ) m else -1
def msTake (σ : Nat → Nat → Int32) (m v : Int32) : Nat → Nat → Int32 := if mNode m = true then wd σ (mrTake (rd σ) m v (σ 0 0) (σ 0 0 + σ 6 m.toNatClampNeg)) else σ
def msDrop (σ : Nat → Nat → Int32) (m : Int32) : Nat → Nat → Int32 := u2 (u2 (u2 σ 3 m.toNatClampNeg (-1)) 4 m.toNatClampNeg (-1)) 0 6 (σ 0 6 + 1)
def msLose (σ : Nat → Nat → Int32) (n : Int32) : Nat → Nat → Int32 := if ¬ σ 3 n.toNatClampNeg = -1 ∧ 10 * σ 0 1 < σ 0 0 - σ 5 n.toNatClampNeg then msDrop σ n else σ
def msLeads (σ : Nat → Nat → Int32) (n : Int32) : Bool := decide (¬ σ 4 n.toNatClampNeg = -1) && decide (σ 4 n.toNatClampNeg < 9)
def msBetter (σ : Nat → Nat → Int32) (m n : Int32) : Bool := decide (¬ σ 3 n.toNatClampNeg = m) && (decide (σ 3 m.toNatClampNeg = -1) || decide (σ 4 n.toNatClampNeg + 1 < σ 4 m.toNatClampNeg))
def msFollow (σ : Nat → Nat → Int32) (m n : Int32) : Nat → Nat → Int32 := u2 (wd (u2 (u2 (u2 σ 3 m.toNatClampNeg n) 4 m.toNatClampNeg (σ 4 n.toNatClampNeg + 1)) 5 m.toNatClampNeg (σ 0 0)) (mrShift (rd σ) m (σ 6 n.toNatClampNeg - σ 6 m.toNatClampNeg))) 6 m.toNatClampNeg (σ 6 n.toNatClampNeg)
def msHear (σ : Nat → Nat → Int32) (m n : Int32) : Nat → Nat → Int32 := if σ 3 m.toNatClampNeg = n then (if msLeads σ n = true then msFollow σ m n else msDrop σ m) else if msLeads σ n = true ∧ msBetter σ m n = true then msFollow σ m n else σ
def msHear1 (n : Int32) (i : Nat) (σ : Nat → Nat → Int32) : Nat → Nat → Int32 := if ¬ nI i = 0 ∧ msConn σ (nI i) n = true then msHear σ (nI i) n else σ
def msBeHeard (σ : Nat → Nat → Int32) (n : Int32) : Nat → Nat → Int32 := kfor (msHear1 n) 10 0 σ
def msAccR (σ : Nat → Nat → Int32) (n p : Int32) : Bool := mrHolds (rd σ) p (mrId (rd σ) n 0) || (mNode p && !(mrFull (rd σ) p))
def msAcc (σ : Nat → Nat → Int32) (n p : Int32) : Nat → Nat → Int32 := if mrHolds (rd σ) p (mrId (rd σ) n 0) = true then u2 σ 0 3 (σ 0 3 + 1) else if mNode p = true ∧ mrFull (rd σ) p = false then wd σ (mrPut (rd σ) p (mrId (rd σ) n 0) (mrSt (rd σ) n 0 + σ 6 p.toNatClampNeg - σ 6 n.toNatClampNeg)) else σ
def msSend2 (σ : Nat → Nat → Int32) (n : Int32) (b : Bool) : Nat → Nat → Int32 := if b = false then u2 σ 0 4 (σ 0 4 + 1) else if 0 < σ 7 n.toNatClampNeg then u2 (u2 σ 7 n.toNatClampNeg (σ 7 n.toNatClampNeg - 1)) 0 5 (σ 0 5 + 1) else wd σ (mrRemove (rd σ) n)
def msSend (σ : Nat → Nat → Int32) (n : Int32) : Nat → Nat → Int32 := if msConn σ n (σ 3 n.toNatClampNeg) = true ∧ ¬ mrSize (rd σ) n = 0 then msSend2 (msAcc (u2 σ 0 2 (σ 0 2 + 1)) n (σ 3 n.toNatClampNeg)) n (msAccR (u2 σ 0 2 (σ 0 2 + 1)) n (σ 3 n.toNatClampNeg)) else σ
def msNode (σ : Nat → Nat → Int32) : Int32 := mFloor (σ 0 0) 10
def msTurn (σ : Nat → Nat → Int32) : Nat → Nat → Int32 := if σ 2 (msNode σ).toNatClampNeg = 0 then σ else msSend (msBeHeard (msLose σ (msNode σ)) (msNode σ)) (msNode σ)
def msSlot (σ : Nat → Nat → Int32) : Nat → Nat → Int32 := u2 (msTurn σ) 0 0 (msTurn σ 0 0 + 1)
def msRun (σ : Nat → Nat → Int32) (k : Nat) : Nat → Nat → Int32 := kfor (fun _ σ => msSlot σ) k 0 σ
def msRunR (σ : Nat → Nat → Int32) (k : Nat) : Int32 := mrSize (rd (msRun σ k)) 0 - mrSize (rd σ) 0
/-- no size is below 0 -/
def okS (σ : Nat → Nat → Int32) : Prop := ∀ k : Nat, k < 10 → ¬ σ 13 k < 0
theorem okS_size {σ : Nat → Nat → Int32} (h : okS σ) (n : Int32) : ¬ mrSize (rd σ) n < 0 := by
  unfold mrSize
  split
  · rename_i hn
    obtain ⟨k, hk, rfl⟩ := vnat 10 (by decide) rfl hn.1 hn.2
    split
    · decide
    · rw [nI_clamp (by omega)]
      exact h k hk
  · decide
theorem okS_of13 {σ σ2 : Nat → Nat → Int32} (h : okS σ) (e : σ2 13 = σ 13) : okS σ2 := fun k hk => by rw [e]; exact h k hk
theorem vlink {a b : Int32} (ha : mNode a = true) (hb : mNode b = true) : vp_in (a * 10 + b) 100 := by
  obtain ⟨k, hk, rfl⟩ := vnat 10 (by decide) rfl (node_of ha).1 (node_of ha).2
  obtain ⟨j, hj, rfl⟩ := vnat 10 (by decide) rfl (node_of hb).1 (node_of hb).2
  rw [show (10 : Int32) = nI 10 from rfl, pk_mul, nI_add]
  exact vp_in_nI (by omega) (by decide)
theorem v100 {i : Nat} (h : i < 100) : vp_in (nI i) 100 := vp_in_nI h (by decide)
theorem v10 {i : Nat} (h : i < 10) : vp_in (nI i) 10 := vp_in_nI h (by decide)
theorem nodeI {i : Nat} (h : i < 10) : mNode (nI i) = true := node_of2 ⟨nI_pos' (by omega), by rw [show (10 : Int32) = nI 10 from rfl]; exact nI_lt h (by decide)⟩
theorem msOn_node {σ : Nat → Nat → Int32} {n : Int32} (h : msOn σ n = true) : mNode n = true := by
  unfold msOn at h
  simp only [Bool.and_eq_true] at h
  exact h.1
theorem msConn_node {σ : Nat → Nat → Int32} {a b : Int32} (h : msConn σ a b = true) : mNode a = true ∧ mNode b = true := by
  unfold msConn at h
  simp only [Bool.and_eq_true] at h
  exact ⟨msOn_node h.1, msOn_node h.2.1⟩
theorem cS_a1 {q : Nat → Nat} {σ : Nat → Nat → Int32} {ct : Nat → ClassId} {k : Nat} {x : Int32} : (cS q σ ct).set 1 (q 1, .inl (ct 1, 100, .inl (upd (σ 1) k x))) = cS q (u2 σ 1 k x) ct := rfl
theorem cS_a2 {q : Nat → Nat} {σ : Nat → Nat → Int32} {ct : Nat → ClassId} {k : Nat} {x : Int32} : (cS q σ ct).set 2 (q 2, .inl (ct 1, 10, .inl (upd (σ 2) k x))) = cS q (u2 σ 2 k x) ct := rfl
theorem cS_a3 {q : Nat → Nat} {σ : Nat → Nat → Int32} {ct : Nat → ClassId} {k : Nat} {x : Int32} : (cS q σ ct).set 3 (q 3, .inl (ct 0, 10, .inl (upd (σ 3) k x))) = cS q (u2 σ 3 k x) ct := rfl
theorem cS_a4 {q : Nat → Nat} {σ : Nat → Nat → Int32} {ct : Nat → ClassId} {k : Nat} {x : Int32} : (cS q σ ct).set 4 (q 4, .inl (ct 0, 10, .inl (upd (σ 4) k x))) = cS q (u2 σ 4 k x) ct := rfl
theorem cS_a5 {q : Nat → Nat} {σ : Nat → Nat → Int32} {ct : Nat → ClassId} {k : Nat} {x : Int32} : (cS q σ ct).set 5 (q 5, .inl (ct 0, 10, .inl (upd (σ 5) k x))) = cS q (u2 σ 5 k x) ct := rfl
theorem cS_a6 {q : Nat → Nat} {σ : Nat → Nat → Int32} {ct : Nat → ClassId} {k : Nat} {x : Int32} : (cS q σ ct).set 6 (q 6, .inl (ct 0, 10, .inl (upd (σ 6) k x))) = cS q (u2 σ 6 k x) ct := rfl
theorem cS_a7 {q : Nat → Nat} {σ : Nat → Nat → Int32} {ct : Nat → ClassId} {k : Nat} {x : Int32} : (cS q σ ct).set 7 (q 7, .inl (ct 0, 10, .inl (upd (σ 7) k x))) = cS q (u2 σ 7 k x) ct := rfl
theorem cS_a9 {q : Nat → Nat} {σ : Nat → Nat → Int32} {ct : Nat → ClassId} {k : Nat} {x : Int32} : (cS q σ ct).set 9 (q 9, .inl (ct 0, 60, .inl (upd (σ 9) k x))) = cS q (u2 σ 9 k x) ct := rfl
theorem cS_a10 {q : Nat → Nat} {σ : Nat → Nat → Int32} {ct : Nat → ClassId} {k : Nat} {x : Int32} : (cS q σ ct).set 10 (q 10, .inl (ct 0, 60, .inl (upd (σ 10) k x))) = cS q (u2 σ 10 k x) ct := rfl
theorem cS_a11 {q : Nat → Nat} {σ : Nat → Nat → Int32} {ct : Nat → ClassId} {k : Nat} {x : Int32} : (cS q σ ct).set 11 (q 11, .inl (ct 0, 60, .inl (upd (σ 11) k x))) = cS q (u2 σ 11 k x) ct := rfl
theorem cS_a12 {q : Nat → Nat} {σ : Nat → Nat → Int32} {ct : Nat → ClassId} {k : Nat} {x : Int32} : (cS q σ ct).set 12 (q 12, .inl (ct 0, 60, .inl (upd (σ 12) k x))) = cS q (u2 σ 12 k x) ct := rfl
theorem cS_a13 {q : Nat → Nat} {σ : Nat → Nat → Int32} {ct : Nat → ClassId} {k : Nat} {x : Int32} : (cS q σ ct).set 13 (q 13, .inl (ct 0, 10, .inl (upd (σ 13) k x))) = cS q (u2 σ 13 k x) ct := rfl
theorem cS_a14 {q : Nat → Nat} {σ : Nat → Nat → Int32} {ct : Nat → ClassId} {k : Nat} {x : Int32} : (cS q σ ct).set 14 (q 14, .inl (ct 0, 600, .inl (upd (σ 14) k x))) = cS q (u2 σ 14 k x) ct := rfl
theorem cS_a15 {q : Nat → Nat} {σ : Nat → Nat → Int32} {ct : Nat → ClassId} {k : Nat} {x : Int32} : (cS q σ ct).set 15 (q 15, .inl (ct 0, 600, .inl (upd (σ 15) k x))) = cS q (u2 σ 15 k x) ct := rfl
theorem cS_f0 {q : Nat → Nat} {σ : Nat → Nat → Int32} {ct : Nat → ClassId} {x : Int32} : (cS q σ ct).set 0 (q 0, .inr (2, [Value.ref (q 1), .ref (q 2), .ref (q 3), .ref (q 4), .ref (q 5), .ref (q 6), .ref (q 7), .ref (q 8), .int (σ 0 0), .int (σ 0 1), .int (σ 0 2), .int (σ 0 3), .int (σ 0 4), .int (σ 0 5), .int (σ 0 6)].set 8 (.int x))) = cS q (u2 σ 0 0 x) ct := rfl
theorem cS_f1 {q : Nat → Nat} {σ : Nat → Nat → Int32} {ct : Nat → ClassId} {x : Int32} : (cS q σ ct).set 0 (q 0, .inr (2, [Value.ref (q 1), .ref (q 2), .ref (q 3), .ref (q 4), .ref (q 5), .ref (q 6), .ref (q 7), .ref (q 8), .int (σ 0 0), .int (σ 0 1), .int (σ 0 2), .int (σ 0 3), .int (σ 0 4), .int (σ 0 5), .int (σ 0 6)].set 9 (.int x))) = cS q (u2 σ 0 1 x) ct := rfl
theorem cS_f2 {q : Nat → Nat} {σ : Nat → Nat → Int32} {ct : Nat → ClassId} {x : Int32} : (cS q σ ct).set 0 (q 0, .inr (2, [Value.ref (q 1), .ref (q 2), .ref (q 3), .ref (q 4), .ref (q 5), .ref (q 6), .ref (q 7), .ref (q 8), .int (σ 0 0), .int (σ 0 1), .int (σ 0 2), .int (σ 0 3), .int (σ 0 4), .int (σ 0 5), .int (σ 0 6)].set 10 (.int x))) = cS q (u2 σ 0 2 x) ct := rfl
theorem cS_f3 {q : Nat → Nat} {σ : Nat → Nat → Int32} {ct : Nat → ClassId} {x : Int32} : (cS q σ ct).set 0 (q 0, .inr (2, [Value.ref (q 1), .ref (q 2), .ref (q 3), .ref (q 4), .ref (q 5), .ref (q 6), .ref (q 7), .ref (q 8), .int (σ 0 0), .int (σ 0 1), .int (σ 0 2), .int (σ 0 3), .int (σ 0 4), .int (σ 0 5), .int (σ 0 6)].set 11 (.int x))) = cS q (u2 σ 0 3 x) ct := rfl
theorem cS_f4 {q : Nat → Nat} {σ : Nat → Nat → Int32} {ct : Nat → ClassId} {x : Int32} : (cS q σ ct).set 0 (q 0, .inr (2, [Value.ref (q 1), .ref (q 2), .ref (q 3), .ref (q 4), .ref (q 5), .ref (q 6), .ref (q 7), .ref (q 8), .int (σ 0 0), .int (σ 0 1), .int (σ 0 2), .int (σ 0 3), .int (σ 0 4), .int (σ 0 5), .int (σ 0 6)].set 12 (.int x))) = cS q (u2 σ 0 4 x) ct := rfl
theorem cS_f5 {q : Nat → Nat} {σ : Nat → Nat → Int32} {ct : Nat → ClassId} {x : Int32} : (cS q σ ct).set 0 (q 0, .inr (2, [Value.ref (q 1), .ref (q 2), .ref (q 3), .ref (q 4), .ref (q 5), .ref (q 6), .ref (q 7), .ref (q 8), .int (σ 0 0), .int (σ 0 1), .int (σ 0 2), .int (σ 0 3), .int (σ 0 4), .int (σ 0 5), .int (σ 0 6)].set 13 (.int x))) = cS q (u2 σ 0 5 x) ct := rfl
theorem cS_f6 {q : Nat → Nat} {σ : Nat → Nat → Int32} {ct : Nat → ClassId} {x : Int32} : (cS q σ ct).set 0 (q 0, .inr (2, [Value.ref (q 1), .ref (q 2), .ref (q 3), .ref (q 4), .ref (q 5), .ref (q 6), .ref (q 7), .ref (q 8), .int (σ 0 0), .int (σ 0 1), .int (σ 0 2), .int (σ 0 3), .int (σ 0 4), .int (σ 0 5), .int (σ 0 6)].set 14 (.int x))) = cS q (u2 σ 0 6 x) ct := rfl
theorem cS_fst {q : Nat → Nat} {σ : Nat → Nat → Int32} {ct : Nat → ClassId} : (cS q σ ct).map Prod.fst = [q 0, q 1, q 2, q 3, q 4, q 5, q 6, q 7, q 8, q 9, q 10, q 11, q 12, q 13, q 14, q 15] := rfl
theorem cS_adr {q : Nat → Nat} {σ τ : Nat → Nat → Int32} {ct : Nat → ClassId} : (cS q σ ct).map Prod.fst = (cS q τ ct).map Prod.fst := cS_fst.trans cS_fst.symm
theorem cS_all {q : Nat → Nat} {σ τ : Nat → Nat → Int32} {ct : Nat → ClassId} : wput (cS q σ ct) [0, 1, 2, 3, 4, 5, 6, 7, 8, 9, 10, 11, 12, 13, 14, 15] (cS q τ ct) = cS q τ ct := rfl
