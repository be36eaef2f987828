/-! THE LAW'S LOOP -/
theorem and63 (x : Int32) : ∃ v : Nat, v < 64 ∧ x &&& 63 = nI v := by
  refine ⟨(x &&& 63).toBitVec.toNat, ?_, ?_⟩
  · have h : (x &&& 63).toBitVec.toNat = x.toBitVec.toNat &&& 63 := by rw [Int32.toBitVec_and, BitVec.toNat_and]; rfl
    rw [h]
    have := @Nat.and_le_right x.toBitVec.toNat 63
    omega
  · apply Int32.toBitVec_inj.mp
    apply BitVec.eq_of_toNat_eq
    have h1 : (nI (x &&& 63).toBitVec.toNat).toBitVec.toNat = (x &&& 63).toBitVec.toNat % 2 ^ 32 := rfl
    rw [h1, Nat.mod_eq_of_lt (BitVec.isLt _)]
section LAW
variable {p : Program} {l : Launch} {e : Env} {s : State} {m : MethodId} {args : Array Value} {below : List Frame} {meth : Method} {c : Code} {D : va_G} {A : Nat → Prop} {Q : State → Prop} {ct : Nat → ClassId} {b0 b ao i L : Nat} {xs : Nat → Int32} {q qs qt qh qx : Nat → Nat} {n cells slots : Nat} {σ ρ τ κ : TB} {g : Nat → Int64} {o z : Int32} {rg : Nat → Option Nat} {og : Nat → Option ((Nat → Nat) × TB)}
set_option maxRecDepth 100000 in
set_option maxHeartbeats 1000000 in
theorem z_kind (hC : zC p s m meth c args RL 9 cL_law D ct A) (hx : wX A s s.heap) (hX : va_X b0 L xs s s.heap) (hbl : b0 < s.heap.size) (hbA : ¬ A b0) (hL : L ≤ 2048) (hi : i + 3 < L) (hlf : l.stackTraces = false) (hb1 : cells + 17 ≤ 601024) (hb2 : slots + 1640 ≤ 7293034) (hn6 : n < 600) (hI : lawI n σ τ κ o z rg og) (K : zKK p l e s m args below meth c D A Q b0 b ao i q qs qt qh qx ct n cells slots) : zG p l e room_1 s m args below meth c D A 9 Q cells slots 39 [some (.ref b0), some (.ref b), some (.ref (q 0)), some (.ref ao), some (.int (nI i)), none, none, none, none] [.int (xs i &&& 63)] (blk (lwF b ao q qs qt qh qx σ ρ τ κ g o z rg og ct) all13) := by
  obtain ⟨v, hv, ev⟩ := and63 (xs i)
  rw [ev]
  by_cases h : 32 < v
  · refine z_tableOut hC 1777 dL_law_39 (Or.inr (by rw [nI_toInt (by omega)]; omega)) (by decide) ?_
    exact K σ ρ τ κ g o z rg og cells slots (lawI_same hI rfl rfl (fun _ _ => rfl) rfl) (by omega) (by omega)
  · rcases (show v = 0 ∨ v = 1 ∨ v = 2 ∨ v = 3 ∨ v = 4 ∨ v = 5 ∨ v = 6 ∨ v = 7 ∨ v = 8 ∨ v = 9 ∨ v = 10 ∨ v = 11 ∨ v = 12 ∨ v = 13 ∨ v = 14 ∨ v = 15 ∨ v = 16 ∨ v = 17 ∨ v = 18 ∨ v = 19 ∨ v = 20 ∨ v = 21 ∨ v = 22 ∨ v = 23 ∨ v = 24 ∨ v = 25 ∨ v = 26 ∨ v = 27 ∨ v = 28 ∨ v = 29 ∨ v = 30 ∨ v = 31 ∨ v = 32 by omega) with rfl | rfl | rfl | rfl | rfl | rfl | rfl | rfl | rfl | rfl | rfl | rfl | rfl | rfl | rfl | rfl | rfl | rfl | rfl | rfl | rfl | rfl | rfl | rfl | rfl | rfl | rfl | rfl | rfl | rfl | rfl | rfl | rfl
    · exact z_tableIn (off := 145) hC 184 dL_law_39 (by decide) (by decide) rfl (by decide) (st_link hC hx hX hbl hbA hL hi hlf hb1 hb2 hn6 hI K)
    · exact z_tableIn (off := 241) hC 280 dL_law_39 (by decide) (by decide) rfl (by decide) (st_power hC hx hX hbl hbA hL hi hlf hb1 hb2 hn6 hI K)
    · exact z_tableIn (off := 325) hC 364 dL_law_39 (by decide) (by decide) rfl (by decide) (st_jump hC hx hX hbl hbA hL hi hlf hb1 hb2 hn6 hI K)
    · exact z_tableIn (off := 393) hC 432 dL_law_39 (by decide) (by decide) rfl (by decide) (st_setFaults hC hx hX hbl hbA hL hi hlf hb1 hb2 hn6 hI K)
    · exact z_tableIn (off := 461) hC 500 dL_law_39 (by decide) (by decide) rfl (by decide) (st_setPatience hC hx hX hbl hbA hL hi hlf hb1 hb2 hn6 hI K)
    · exact z_tableIn (off := 517) hC 556 dL_law_39 (by decide) (by decide) rfl (by decide) (st_take hC hx hX hbl hbA hL hi hlf hb1 hb2 hn6 hI K)
    · exact z_tableIn (off := 585) hC 624 dL_law_39 (by decide) (by decide) rfl (by decide) (st_run hC hx hX hbl hbA hL hi hlf hb1 hb2 hn6 hI K)
    · exact z_tableIn (off := 641) hC 680 dL_law_39 (by decide) (by decide) rfl (by decide) (st_appendText hC hx hX hbl hbA hL hi hlf hb1 hb2 hn6 hI K)
    · exact z_tableIn (off := 697) hC 736 dL_law_39 (by decide) (by decide) rfl (by decide) (st_clearText hC hx hX hbl hbA hL hi hlf hb1 hb2 hn6 hI K)
    · exact z_tableIn (off := 710) hC 749 dL_law_39 (by decide) (by decide) rfl (by decide) (st_errorPosition hC hx hX hbl hbA hL hi hlf hb1 hb2 hn6 hI K)
    · exact z_tableIn (off := 723) hC 762 dL_law_39 (by decide) (by decide) rfl (by decide) (st_runText hC hx hX hbl hbA hL hi hlf hb1 hb2 hn6 hI K)
    · exact z_tableIn (off := 767) hC 806 dL_law_39 (by decide) (by decide) rfl (by decide) (st_undo hC hx hX hbl hbA hL hi hlf hb1 hb2 hn6 hI K)
    · exact z_tableIn (off := 811) hC 850 dL_law_39 (by decide) (by decide) rfl (by decide) (st_isConnected hC hx hX hbl hbA hL hi hlf hb1 hb2 hn6 hI K)
    · exact z_tableIn (off := 886) hC 925 dL_law_39 (by decide) (by decide) rfl (by decide) (st_parent hC hx hX hbl hbA hL hi hlf hb1 hb2 hn6 hI K)
    · exact z_tableIn (off := 942) hC 981 dL_law_39 (by decide) (by decide) rfl (by decide) (st_depth hC hx hX hbl hbA hL hi hlf hb1 hb2 hn6 hI K)
    · exact z_tableIn (off := 998) hC 1037 dL_law_39 (by decide) (by decide) rfl (by decide) (st_clock hC hx hX hbl hbA hL hi hlf hb1 hb2 hn6 hI K)
    · exact z_tableIn (off := 1054) hC 1093 dL_law_39 (by decide) (by decide) rfl (by decide) (st_silence hC hx hX hbl hbA hL hi hlf hb1 hb2 hn6 hI K)
    · exact z_tableIn (off := 1110) hC 1149 dL_law_39 (by decide) (by decide) rfl (by decide) (st_faults hC hx hX hbl hbA hL hi hlf hb1 hb2 hn6 hI K)
    · exact z_tableIn (off := 1166) hC 1205 dL_law_39 (by decide) (by decide) rfl (by decide) (st_hops hC hx hX hbl hbA hL hi hlf hb1 hb2 hn6 hI K)
    · exact z_tableIn (off := 1222) hC 1261 dL_law_39 (by decide) (by decide) rfl (by decide) (st_stored hC hx hX hbl hbA hL hi hlf hb1 hb2 hn6 hI K)
    · exact z_tableIn (off := 1278) hC 1317 dL_law_39 (by decide) (by decide) rfl (by decide) (st_storedReading hC hx hX hbl hbA hL hi hlf hb1 hb2 hn6 hI K)
    · exact z_tableIn (off := 1358) hC 1397 dL_law_39 (by decide) (by decide) rfl (by decide) (st_collected hC hx hX hbl hbA hL hi hlf hb1 hb2 hn6 hI K)
    · exact z_tableIn (off := 1371) hC 1410 dL_law_39 (by decide) (by decide) rfl (by decide) (st_collectedReading hC hx hX hbl hbA hL hi hlf hb1 hb2 hn6 hI K)
    · exact z_tableIn (off := 1439) hC 1478 dL_law_39 (by decide) (by decide) rfl (by decide) (st_copies hC hx hX hbl hbA hL hi hlf hb1 hb2 hn6 hI K)
    · exact z_tableIn (off := 1507) hC 1546 dL_law_39 (by decide) (by decide) rfl (by decide) (st_missing hC hx hX hbl hbA hL hi hlf hb1 hb2 hn6 hI K)
    · exact z_tableIn (off := 1520) hC 1559 dL_law_39 (by decide) (by decide) rfl (by decide) (st_wrongStamps hC hx hX hbl hbA hL hi hlf hb1 hb2 hn6 hI K)
    · exact z_tableIn (off := 1533) hC 1572 dL_law_39 (by decide) (by decide) rfl (by decide) (st_slotsToCollect hC hx hX hbl hbA hL hi hlf hb1 hb2 hn6 hI K)
    · exact z_tableIn (off := 1546) hC 1585 dL_law_39 (by decide) (by decide) rfl (by decide) (st_ifRun hC hx hX hbl hbA hL hi hlf hb1 hb2 hn6 hI K)
    · exact z_tableIn (off := 1602) hC 1641 dL_law_39 (by decide) (by decide) rfl (by decide) (st_time hC hx hX hbl hbA hL hi hlf hb1 hb2 hn6 hI K)
    · exact z_tableIn (off := 1615) hC 1654 dL_law_39 (by decide) (by decide) rfl (by decide) (st_count hC hx hX hbl hbA hL hi hlf hb1 hb2 hn6 hI K)
    · exact z_tableIn (off := 1671) hC 1710 dL_law_39 (by decide) (by decide) rfl (by decide) (st_joined hC hx hX hbl hbA hL hi hlf hb1 hb2 hn6 hI K)
    · exact z_tableIn (off := 1712) hC 1751 dL_law_39 (by decide) (by decide) rfl (by decide) (st_savedStates hC hx hX hbl hbA hL hi hlf hb1 hb2 hn6 hI K)
    · exact z_tableIn (off := 1725) hC 1764 dL_law_39 (by decide) (by decide) rfl (by decide) (st_textLength hC hx hX hbl hbA hL hi hlf hb1 hb2 hn6 hI K)
theorem len_gt {i L : Nat} (hi : i < 2 ^ 31) (hL : L ≤ 2048) : nI L - 4 < nI i ↔ L < i + 4 := by
  by_cases h : 4 ≤ L
  · rw [show (4 : Int32) = nI 4 from rfl, pk_sub h, nI_ltI (by omega) hi]
    omega
  · have e : ¬ nI i < nI L - 4 ∧ ¬ nI i = nI L - 4 := by
      have h0 : (nI L - 4).toInt < 0 := by
        rcases (show L = 0 ∨ L = 1 ∨ L = 2 ∨ L = 3 by omega) with rfl | rfl | rfl | rfl <;> decide
      refine ⟨fun q => ?_, fun q => ?_⟩
      · rw [Int32.lt_iff_toInt_lt, nI_toInt hi] at q
        omega
      · rw [← q, nI_toInt hi] at h0
        omega
    refine ⟨fun _ => by omega, fun _ => ?_⟩
    have h0 : (nI L - 4).toInt < 0 := by
      rcases (show L = 0 ∨ L = 1 ∨ L = 2 ∨ L = 3 by omega) with rfl | rfl | rfl | rfl <;> decide
    rw [Int32.lt_iff_toInt_lt, nI_toInt hi]
    omega
set_option maxRecDepth 100000 in
set_option maxHeartbeats 1000000 in
theorem z_loop (hC : zC p s m meth c args RL 9 cL_law D ct A) (hx : wX A s s.heap) (hX : va_X b0 L xs s s.heap) (hbl : b0 < s.heap.size) (hbA : ¬ A b0) (hL : L ≤ 2048) (hlf : l.stackTraces = false)
    (kend : ∀ (i : Nat) (w : va_W) (cells slots : Nat), cells ≤ 601024 → slots ≤ 7293034 → zG p l e room_1 s m args below meth c D A 9 Q cells slots 1783 [some (.ref b0), some (.ref b), some (.ref (q 0)), some (.ref ao), some (.int (nI i)), none, none, none, none] [] w) :
    ∀ (k i n cells slots : Nat) (σ ρ τ κ : TB) (g : Nat → Int64) (o z : Int32) (rg : Nat → Option Nat) (og : Nat → Option ((Nat → Nat) × TB)), L ≤ i + 4 * k + 3 → i + 4 * k < 2 ^ 30 → cells + 17 * k ≤ 601024 → slots + 1640 * k ≤ 7293034 → n + k ≤ 600 → lawI n σ τ κ o z rg og →
    zW1 p l e s m args below meth c D A Q b0 b ao i (q 0) cells slots 23 (blk (lwF b ao q qs qt qh qx σ ρ τ κ g o z rg og ct) all13)
  | k, i, n, cells, slots, σ, ρ, τ, κ, g, o, z, rg, og, hk, hi30, hb1, hb2, hn6, hI => by
    refine z_iload hC dL_law_23 rfl ?_
    refine z_aload_n hC dL_law_25 rfl ?_
    refine z_slen hC hX hbl hbA dL_law_26 ?_
    refine z_iconst (v := 4) hC dL_law_27 (by decide) ?_
    refine z_isub hC dL_law_28 ?_
    refine z_icmp_gt hC 1783 dL_law_29 (by decide) (fun _ => kend i _ _ _ (by omega) (by omega)) (fun hlt => ?_)
    have hi : i + 3 < L := by
      have h := (len_gt (i := i) (by omega) hL)
      by_cases d : L < i + 4
      · exact absurd (h.mpr d) hlt
      · omega
    refine z_aload_n hC dL_law_32 rfl ?_
    refine z_iload hC dL_law_33 rfl ?_
    refine z_sld i hC hX hbl hbA hL (by omega) dL_law_35 ?_
    refine z_bipush (v := 63) hC dL_law_36 (by decide) ?_
    refine z_iand hC dL_law_38 ?_
    match k, hk, hi30, hb1, hb2, hn6 with
    | 0, hk, _, _, _, _ => omega
    | k + 1, hk, hi30, hb1, hb2, hn6 =>
      refine z_kind hC hx hX hbl hbA hL hi hlf (by omega) (by omega) (by omega) hI ?_
      intro σ ρ τ κ g o z rg og cells2 slots2 hI2 hc2 hs2
      refine z_iinc (cn := 4) hC dL_law_1777 (by decide) (by decide) rfl rfl ?_
      refine z_goto hC 23 dL_law_1780 (by decide) ?_
      have ei : nI i + 4 = nI (i + 4) := nI_add i 4
      have hz := z_loop hC hx hX hbl hbA hL hlf kend k (i + 4) (n + 1) cells2 slots2 σ ρ τ κ g o z rg og (by omega) (by omega) (by omega) (by omega) (by omega) hI2
      rw [ei]
      exact hz
end LAW
