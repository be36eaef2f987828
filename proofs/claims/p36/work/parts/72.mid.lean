/-! P36: the law's low and at, what holds of a state told for the law's calls -/
def zTA (l : Launch) (D : va_G) (ct : Nat → ClassId) (y : MethodName) (cc : ByteArray) (n : Nat) (ret : Option FieldType) (fr lo : Nat) (av : List Value) (b0 L : Nat) (xs : Nat → Int32) (v : Option Value) : Prop :=
  ∀ sz : Nat, Met l y (.code y cc n ret :: BW) { frames := fr, cells := 0, slots := 0, locals := lo } (va_Pc av (fun U => U.heap.size = sz ∧ wB D ct [] U ∧ va_X b0 L xs U U.heap)) (zQ D ct [] sz (zd v [])) 0 0 (va_A [] sz)
section ZA
variable {p : Program} {l : Launch} {e : Env} {R : Room} {s : State} {m : MethodId} {args : Array Value} {below : List Frame} {meth : Method} {c : Code} {D : va_G} {A : Nat → Prop} {nL : Nat} {Q : State → Prop} {cells slots pc mc ms : Nat} {ls : List (Option Value)} {rest st : List Value} {w wc : va_W} {own : String} {cc cb : ByteArray} {ct : Nat → ClassId} {b0 L : Nat} {xs : Nat → Int32}
theorem zTA_of {y : MethodName} {n fr lo : Nat} {ret : Option FieldType} {av : List Value} {v : Option Value} (ls0 : List (Option Value)) (hy : plainFor y = true) (hls : lvs 0 ls0 = lv_args 0 av) (hn : (lg_sl av).length ≤ n)
    (body : ∀ p e s m args below meth c, zC p s m meth c args y.cls n cc D ct (va_A [] s.heap.size) → va_X b0 L xs s s.heap → meth.sig.returnType = ret →
      zG p l e { frames := fr, cells := 0, slots := 0, locals := lo } s m args below meth c D (va_A [] s.heap.size) n (MQ below (zQ D ct [] s.heap.size (zd v [])) args s 0 0 (va_A [] s.heap.size)) 0 0 0 ls0 [] []) : zTA l D ct y cc n ret fr lo av b0 L xs v := by
  intro sz
  refine zofW (cc := cc) (maxL := n) (ret := ret) hy rfl ?_
  intro p e s m args below meth c s₁ B hml hv
  obtain ⟨rfl, rfl, ⟨hP, hK, hD0, hN⟩, hx⟩ := hv
  have hts := atoms_spec (ws := .code y cc n ret :: BW) B.pre
  have hl := lv_entry av (n := n) hn
  rw [lg_entry_eq]
  rw [← hls] at hl
  exact body p e s m _ below meth c ⟨B.exec, B.bytes, hml, findClass_of_methodNamed B.named, fun w hw => hts w (List.mem_cons_of_mem _ hw), hK, hN, fun q h => Or.inr h, B.notSynchronized⟩ hx B.returns s.heap [] _ hP hD0.self va_S.rf hl
theorem zblindA {sz : Nat} {av : List Value} : FrameBlind (va_Pc av (fun U => U.heap.size = sz ∧ wB D ct wc U ∧ va_X b0 L xs U U.heap)) := fun a U g mk q => by
  obtain ⟨q0, q1, q2, q3⟩ := q
  exact ⟨q0, q1, q2.call, va_X.moved (u := U) (U := U.calling g mk a) (Vm.Alike.refl U.vm) q3⟩
variable {fr lo mL ix : Nat} {y : MethodName} {ret : Option FieldType} {As : List Value}
/-- a static method that reads the script, called -/
theorem z_callA {v : Option Value} (h : zC p s m meth c args own nL cc D ct A) (hM : zTA l D ct y cb mL ret fr lo As b0 L xs v) (hX : va_X b0 L xs s s.heap) (hbA : ¬ A b0)
    (hl : Cond.methodLink own ix y ∈ BW) (hi : Cond.static y ∈ BW) (hini : Cond.initialized y.cls ∈ BW) (hco : Cond.code y cb mL ret ∈ BW)
    (nA : Nat) (hd : y.cls ≠ "java/lang/invoke/MethodHandle" ∧ y.cls ≠ "java/lang/invoke/VarHandle" ∧ (parseMethodDescriptor y.desc).map (fun d => d.parameters.length) = some nA) (hlen : As.length = nA)
    (hR : fr + 1 ≤ R.frames ∧ 8 + (mL + 11) + lo ≤ R.locals) (hrs : (rest.map fun v => v.category).sum ≤ 8) (hf : cells + 0 ≤ R.cells ∧ slots + 0 ≤ R.slots) {st0 : List Value} (hst : st0 = As.reverse ++ rest) (d : decode cc pc = .ok (.invokestatic ix, 3))
    (kk : zG p l e R s m args below meth c D A nL Q (cells + 0) (slots + 0) (pc + 3) ls (v.toList ++ rest) w) : zG p l e R s m args below meth c D A nL Q cells slots pc ls st0 w := by
  intro H locs L1 hP hD hS hL T hT X
  have hts := z_hts h
  have hbl : b0 < s.heap.size := by
    obtain ⟨scr, h1, -⟩ := hX
    exact (Array.getElem?_eq_some_iff.mp h1).1
  have hx2 : va_X b0 L xs s H := hX.kept (hS.2.1 b0 hbl hbA)
  have cb0 : CallB R s args own ix y cb mL ret (.code y cb mL ret :: BW) { frames := fr, cells := 0, slots := 0, locals := lo } 0 0 nA := callB_of nA hts (BW_cons hco) rfl rfl rfl (hts _ hini) (hts _ hl) hd hR
  have hP0 : va_P D vwCl [] H := fun k q hq => by simp at hq
  have hD0 : va_D (fun _ => True) ([] : va_W) := ⟨fun i j p q hp => by simp at hp, fun k q hq => by simp at hq⟩
  obtain ⟨v1, st₀, t, T', L2, g0, X', hL2, e1, e2, ⟨v2, wa, wb, hv, ⟨rfl, rfl, rfl⟩, hadr, hP1, hD1, hz, hk⟩, hst2⟩ := va_runS (Ts := BW) (p := p) (e := e) (below := below) (meth := meth) (locs := locs) ⟨z_exec h, z_code h, h.2.2.1, z_own h, hts⟩ (hM H.size) ⟨cb0, hts _ hi⟩ ⟨zblindA, fun U hU hW => ⟨rfl, by rw [hU], ⟨by rw [hU]; exact hP0, va_K.moved hW.alike (z_K h), hD0, (z_N h).warm hW⟩, by rw [hU]; exact hx2.moved hW.alike⟩⟩ (g := F0 m pc L1 st0) (rest := rest) rfl hlen hL.1 hst (lv_room hrs) d hf T hT X
  cases hv
  rw [g0] at hz hk
  rw [← e1] at hz hk
  have keep : ∀ q : Nat, q < H.size → T'.heap[q]? = H[q]? := fun q hq => hk q hq (fun z => z.elim (fun ⟨k, e, he⟩ => by simp at he) (fun z => by omega))
  have hP2 : va_P D vwCl w T'.heap := fun k q hq => (hP k q hq).kept (keep q.1 (hP k q hq).lt)
  have hS2 : va_S A s.heap T'.heap (locs ++ L2) := ⟨Nat.le_trans hS.1 hz, fun q h1 h2 => by rw [keep q (Nat.lt_of_lt_of_le h1 hS.1)]; exact hS.2.1 q h1 h2, fun q hq => by
    rcases List.mem_append.mp hq with h3 | h3
    · exact hS.2.2 q h3
    · have h4 := hL2 q h3
      refine z_A h _ ?_
      rcases h4 with ⟨k, e, he⟩ | h4
      · simp at he
      · exact Nat.le_trans hS.1 h4⟩
  obtain ⟨t2, a1, b1⟩ := kk T'.heap (locs ++ L2) L1 hP2 hD hS2 hL T' rfl X'
  exact ⟨t2, hst2 t2 a1, b1⟩
end ZA
/-- the script's number at k, or one made of k -/
def atV (L : Nat) (xs : Nat → Int32) (k : Nat) : Int32 := if k < L then xs k else 1063353745 * (nI k + 1) + 472795997
def lowN (v : Int32) (n : Nat) : Nat := (v.toBitVec.toNat % 2 ^ 31) % n
theorem lowN_lt (v : Int32) {n : Nat} (h : 0 < n) : lowN v n < n := Nat.mod_lt _ h
set_option maxRecDepth 100000 in
set_option maxHeartbeats 1000000 in
theorem c_L_low (l : Launch) (D : va_G) (ct : Nat → ClassId) (v : Int32) (n : Nat) (hn0 : 0 < n) (hn : n < 2 ^ 31) : zT l D ct yL_low cL_low 2 (some .int) 0 0 0 0 [.int v, .int (nI n)] [] (zd (some (.int (nI (lowN v n)))) []) := by
  refine zT_of ([some (.int v), some (.int (nI n))]) (by decide +kernel) rfl (Nat.le_of_ble_eq_true rfl) ?_
  intro p e s m args below meth c hC hr hnm
  refine z_iload_n hC dL_low_0 rfl ?_
  refine z_ldc (v := 2147483647) hC bw_266 dL_low_1 ?_
  refine z_iand hC dL_low_3 ?_
  refine z_iload_n hC dL_low_4 rfl ?_
  refine z_irem hC dL_low_5 (nI_ne0 hn0 hn) ?_
  exact z_iretd hC hr dL_low_6 (Nat.zero_le _) (Nat.zero_le _) (by rw [pk_and v 31 (by decide)]; exact pk_rem (Nat.mod_lt _ (by decide)) hn0 hn) rfl rfl
set_option maxRecDepth 100000 in
set_option maxHeartbeats 1000000 in
theorem c_L_at (l : Launch) (D : va_G) (ct : Nat → ClassId) (b0 L : Nat) (xs : Nat → Int32) (k : Nat) (hL : L < 2 ^ 31) (hk : k < 2 ^ 31) : zTA l D ct yL_at cL_at 2 (some .int) 0 0 [.ref b0, .int (nI k)] b0 L xs (some (.int (atV L xs k))) := by
  refine zTA_of ([some (.ref b0), some (.int (nI k))]) (by decide +kernel) rfl (Nat.le_of_ble_eq_true rfl) ?_
  intro p e s m args below meth c hC hX hr
  have hbl : b0 < s.heap.size := by
    obtain ⟨scr, h1, -⟩ := hX
    exact (Array.getElem?_eq_some_iff.mp h1).1
  have hbA : ¬ va_A [] s.heap.size b0 := by
    rintro (⟨k, e, he⟩ | h)
    · simp at he
    · omega
  refine z_iload_n hC dL_at_0 rfl ?_
  refine z_aload_n hC dL_at_1 rfl ?_
  intro H locs L1 hP hD hS hL1
  refine va_slen (z_exec hC) (z_code hC) hX hbl hbA hS dL_at_2 ?_
  refine z_icmp_ge (x := nI k) (y := nI L) hC 12 dL_at_3 (by decide) (fun c3 => ?_) (fun c3 => ?_) H locs L1 hP hD hS hL1
  · refine z_ldc (v := 1063353745) hC bw_244 dL_at_12 ?_
    refine z_iload_n hC dL_at_14 rfl ?_
    refine z_iconst (v := 1) hC dL_at_15 (by decide) ?_
    refine z_iadd hC dL_at_16 ?_
    refine z_imul hC dL_at_17 ?_
    refine z_ldc (v := 472795997) hC bw_245 dL_at_18 ?_
    refine z_iadd hC dL_at_20 ?_
    exact z_iretd hC hr dL_at_21 (Nat.zero_le _) (Nat.zero_le _) (by unfold atV; rw [if_neg (by have := (nI_leI hL hk).mp c3; omega)]) rfl rfl
  · have hlt : k < L := by
      have h5 : ¬ L ≤ k := fun q => c3 ((nI_leI hL hk).mpr q)
      omega
    refine z_aload_n hC dL_at_6 rfl ?_
    refine z_iload_n hC dL_at_7 rfl ?_
    intro H locs L1 hP hD hS hL1
    refine va_sld (z_exec hC) (z_code hC) hX hbl hbA hS (vp_in_nI hlt hL) dL_at_8 ?_
    refine z_goto (p := p) hC 21 dL_at_9 (by decide) ?_ H locs L1 hP hD hS hL1
    exact z_iretd hC hr dL_at_21 (Nat.zero_le _) (Nat.zero_le _) (by unfold atV; rw [if_pos hlt, nI_clamp hk]) rfl rfl
section NN
variable {σ : TB} {B : Nat}
theorem Inv_z (h : Inv B σ) : σ 4 0 = 0 ∧ σ 6 0 = 0 := by
  obtain ⟨-, t, -, j, -⟩ := h
  exact ⟨j.2.1.1, j.2.1.2.1⟩
theorem Inv_t (h : Inv B σ) : ∃ t, t ≤ B ∧ σ 0 0 = nI t := by
  obtain ⟨-, t, ht, j, -⟩ := h
  exact ⟨t, ht, j.1⟩
theorem n_nodes (l : Launch) (D : va_G) (ct : Nat → ClassId) (b : Nat) (qs qt qh qx : Nat → Nat) (σ : TB) {B : Nat} (h : Inv B σ) (hB : B < 2 ^ 30) : zT l D ct yL_nodes cL_nodes 8 (some .boolean) 7 153 0 0 [.ref b] (cN b qs qt qh qx :: cS qs σ ct) (zd (some (.int 1)) (cN b qs qt qh qx :: cS qs σ ct)) :=
  c_L_nodes l D ct b qs qt qh qx σ (fun k hk => Inv_node h hB hk) (Inv_z h) (by obtain ⟨-, t, -, j, -⟩ := h; exact j.2.2.1)
theorem n_print (l : Launch) (D : va_G) (ct : Nat → ClassId) (b : Nat) (qs qt qh qx : Nat → Nat) (σ : TB) {B : Nat} (h : Inv B σ) : zT l D ct yL_print cL_print 5 (some .long) 7 154 0 0 [.ref b] (cN b qs qt qh qx :: cS qs σ ct) (zd (some (.long (prt σ))) (cN b qs qt qh qx :: cS qs σ ct)) :=
  c_L_print l D ct b qs qt qh qx σ (size_0 h).1 (Nat.le_trans (size_0 h).2.1 (size_0 h).2.2.1)
theorem n_readings (l : Launch) (D : va_G) (ct : Nat → ClassId) (b : Nat) (qs qt qh qx : Nat → Nat) (σ : TB) {B : Nat} (h : Inv B σ) (hB : B < 2 ^ 30) : zT l D ct yL_readings cL_readings 9 (some .boolean) 6 154 0 0 [.ref b] (cN b qs qt qh qx :: cS qs σ ct) (zd (some (.int 1)) (cN b qs qt qh qx :: cS qs σ ct)) := by
  obtain ⟨⟨κ, h1⟩, t, ht, ⟨j0, j1, j2, j3, j4, j5, j6⟩, q⟩ := h
  exact c_L_readings l D ct b qs qt qh qx σ κ B t h1 j5 j0 (by omega) j4 q j3
theorem tk_len (n : Nat) (X : List TB) (hn : n < 2 ^ 31) : ¬ nI (List.take n X).length < 0 := nI_pos (by rw [List.length_take]; omega)
theorem lg_self (x : Int64) : lg_cmp x x = 0 := by
  unfold lg_cmp
  rw [if_neg (fun h => by have h2 : x < x := h; rw [Int64.lt_iff_toInt_lt] at h2; omega), if_pos rfl]
theorem m1_le {k : Nat} (h : k < 2 ^ 31) : (-1 : Int32) ≤ nI k := by
  rw [Int32.le_iff_toInt_le, nI_toInt h]
  have : (-1 : Int32).toInt = -1 := by decide
  omega
/-! the states of the law's joins -/
theorem pw_v {n : Nat} (hn : n < 10) : msSetPower σ (nI n) 1 = u2 σ 2 n 1 := by
  unfold msSetPower
  rw [if_pos (nodeI hn), nI_clamp (by omega)]
  rfl
theorem lk_v {m : Nat} (hm : m < 10) : msSetLink σ (nI 0) (nI m) 1 = u2 (u2 σ 1 m 1) 1 (10 * m) 1 := by
  unfold msSetLink
  rw [if_pos ⟨nodeI (by omega), nodeI hm⟩, at10 (by omega) hm, at10 hm (by omega), show 10 * 0 + m = m by omega, show 10 * m + 0 = 10 * m by omega]
  rfl
theorem one0 : ¬ (1 : Int32) = 0 := by decide
theorem j_on1 : ∃ c, 0 < c ∧ c ≤ 10 ∧ msOnCount (msSetPower σ (nI 0) 1) = nI c := by
  rw [pw_v (by omega)]
  exact on_1 (n := 0) (by omega) (by rw [u2_ye rfl rfl]; exact one0)
theorem j_on2 {m : Nat} (hm0 : 0 < m) (hm : m < 10) : ∃ c, 1 < c ∧ c ≤ 10 ∧ msOnCount (msSetPower (msSetPower σ (nI 0) 1) (nI m) 1) = nI c := by
  rw [pw_v hm, pw_v (n := 0) (by omega)]
  exact on_2 hm0 hm (by rw [u2_no (fun _ => by omega), u2_ye rfl rfl]; exact one0) (by rw [u2_ye rfl rfl]; exact one0)
theorem j_lk {m : Nat} (hm0 : 0 < m) (hm : m < 10) : ∃ c, 0 < c ∧ c ≤ 50 ∧ msLinks (msSetLink σ (nI 0) (nI m) 1) = nI c := by
  rw [lk_v hm]
  exact links_2 (x := m) (y := 10 * m) (by omega) (by omega) (by rw [u2_no (fun _ => by omega), u2_ye rfl rfl]; exact one0) (by rw [u2_ye rfl rfl]; exact one0)
theorem j_conn {m : Nat} (hm0 : 0 < m) (hm : m < 10) {σ5 : TB} (h1 : σ5 1 = (msSetLink (msSetPower (msSetPower σ (nI 0) 1) (nI m) 1) (nI 0) (nI m) 1) 1) (h2 : σ5 2 = (msSetLink (msSetPower (msSetPower σ (nI 0) 1) (nI m) 1) (nI 0) (nI m) 1) 2) : msConn σ5 (nI 0) (nI m) = true ∧ msConn σ5 (nI m) (nI 0) = true := by
  rw [conn_of h1 h2, conn_of h1 h2, pw_v hm, pw_v (n := 0) (by omega), lk_v hm]
  unfold msConn msOn
  rw [nodeI hm, nodeI (show 0 < 10 by omega), at10 (by omega) hm, at10 hm (by omega), nI_clamp (by omega), nI_clamp (by omega)]
  have a : ∀ k, (u2 (u2 (u2 (u2 σ 2 0 1) 2 m 1) 1 m 1) 1 (10 * m) 1) 2 k = if k = m then 1 else if k = 0 then 1 else σ 2 k := fun k => by
    rw [u2_no (fun q => by omega), u2_no (fun q => by omega), u2_v, u2_v]
    by_cases c1 : k = m
    · rw [if_pos ⟨rfl, c1⟩, if_pos c1]
    · rw [if_neg (fun q => c1 q.2), if_neg c1]
      by_cases c2 : k = 0
      · rw [if_pos ⟨rfl, c2⟩, if_pos c2]
      · rw [if_neg (fun q => c2 q.2), if_neg c2]
  have e1 : (u2 (u2 (u2 (u2 σ 2 0 1) 2 m 1) 1 m 1) 1 (10 * m) 1) 1 (10 * 0 + m) = 1 := by rw [u2_no (fun _ => by omega), u2_ye rfl (by omega)]
  have e2 : (u2 (u2 (u2 (u2 σ 2 0 1) 2 m 1) 1 m 1) 1 (10 * m) 1) 1 (10 * m + 0) = 1 := u2_ye rfl (by omega)
  rw [a, a, e1, e2]
  have hm2 : ¬ 0 = m := by omega
  simp [hm2]
end NN
