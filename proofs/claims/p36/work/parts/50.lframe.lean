/-! THE LAW'S HELPERS: methods with handlers, worlds put in front, the law's own rows -/
theorem zofWH {l : Launch} {y : MethodName} {ws ws' : List Cond} {rm : Room} {Pc : Array Value → State → Prop} {Qc : Array Value → State → Outcome → State → Prop} {mc ms : Nat} {free : Addr → Prop} {cc : ByteArray} {maxL : Nat} {ret : Option FieldType} {hh : List (Nat × Nat × Nat × Nat)}
    (hy : plainFor y = true) (hw : ws = Cond.codeWith y cc maxL ret hh :: ws')
    (body : ∀ p e s m args below meth c s₁, BodyLoose p l y (headSpec ws rm) cc maxL ret e s m args below meth c s₁ → c.maxLocals = maxL → Pc args s →
      W p l e (headSpec ws rm).room s m args below meth c s.heap [] 0 0 (MQ below Qc args s mc ms free) (entryFrame m args maxL)) : Met l y ws rm Pc Qc mc ms free := by
  refine MetFree.of_bodySF (code := cc) (maxLocals := maxL) (ret := ret) hy ?_ ?_
  · intro args s m h hn
    obtain ⟨m9, meth, c, hn9, h1, h2, h3, h4, -, h5, h6, -⟩ := Cond.codeWith_spec (atoms_spec (ws := ws) h _ (by rw [hw]; exact List.mem_cons_self))
    cases hn.symm.trans hn9
    exact ⟨meth, c, h1, h2, h3, h4, h5, h6⟩
  · intro p e s m args below meth c s₁ B hml hP _
    have hh0 : s₁.heap = s.heap := by rw [B.state]; rfl
    obtain ⟨t, a1, o, b1, b2, b3⟩ := body p e s m args below meth c s₁ B hml hP s₁ hh0 (Stand.of_body B)
    exact ⟨t, o, a1, b1, b2, ⟨b3.1, b3.2⟩⟩
/-- a contract of a method with handlers, which ends -/
def zL (l : Launch) (D : va_G) (ct : Nat → ClassId) (y : MethodName) (cc : ByteArray) (n : Nat) (ret : Option FieldType) (hh : List (Nat × Nat × Nat × Nat)) (fr lo mc ms : Nat) (av : List Value) (w : va_W) (po : Option Value → va_W → va_W → Prop) : Prop :=
  ∀ sz : Nat, Met l y (.codeWith y cc n ret hh :: BW) { frames := fr, cells := mc, slots := ms, locals := lo } (va_Pc av (fun U => U.heap.size = sz ∧ wB D ct w U ∧ wX (va_A w sz) U U.heap)) (zQ D ct w sz po) mc ms (va_A w sz)
theorem rng_nd (n : Nat) : va_nd (List.range n) = true := by
  have key : ∀ l : List Nat, l.Nodup → va_nd l = true := by
    intro l
    induction l with
    | nil => intro _; rfl
    | cons a l ih =>
      intro h
      have h2 := List.nodup_cons.mp h
      show (decide (a ∉ l) && va_nd l) = true
      rw [decide_eq_true h2.1, ih h2.2]
      rfl
  exact key _ List.nodup_range
theorem rng_ps {wc rest : va_W} : (List.range wc.length).map (fun i => (wc ++ rest)[i]?) = wc.map some := by
  apply List.ext_getElem?
  intro k
  rw [List.getElem?_map, List.getElem?_map]
  by_cases h : k < wc.length
  · rw [List.getElem?_range h]
    show some ((wc ++ rest)[k]?) = _
    rw [List.getElem?_append_left h, List.getElem?_eq_getElem h]
    rfl
  · rw [List.getElem?_eq_none_iff.mpr (by simp; omega), List.getElem?_eq_none_iff.mpr (by omega)]
    rfl
theorem fst_len {w1 w2 : va_W} (h : w1.map Prod.fst = w2.map Prod.fst) : w1.length = w2.length := by simpa using congrArg List.length h
section ZLW
variable {p : Program} {l : Launch} {e : Env} {R : Room} {s : State} {m : MethodId} {args : Array Value} {below : List Frame} {meth : Method} {c : Code} {D : va_G} {nL : Nat} {cells slots pc mc ms : Nat} {ls : List (Option Value)} {st : List Value} {w w0 w' : va_W} {own : String} {cc : ByteArray} {ct : Nat → ClassId} {po : Option Value → va_W → va_W → Prop} {Q : State → Prop} {A : Nat → Prop} {hh : List (Nat × Nat × Nat × Nat)}
theorem zL_of {y : MethodName} {n fr lo : Nat} {ret : Option FieldType} {av : List Value} (ls0 : List (Option Value)) (hy : plainFor y = true) (hls : lvs 0 ls0 = lv_args 0 av) (hn : (lg_sl av).length ≤ n)
    (body : ∀ p e s m args below meth c, zC p s m meth c args y.cls n cc D ct (va_A w0 s.heap.size) → wX (va_A w0 s.heap.size) s s.heap → meth.sig.returnType = ret → c.exceptionTable.toList = tableOf hh →
      zG p l e { frames := fr, cells := mc, slots := ms, locals := lo } s m args below meth c D (va_A w0 s.heap.size) n (MQ below (zQ D ct w0 s.heap.size po) args s mc ms (va_A w0 s.heap.size)) 0 0 0 ls0 [] w0) : zL l D ct y cc n ret hh fr lo mc ms av w0 po := by
  intro sz
  refine zofWH (cc := cc) (maxL := n) (ret := ret) hy rfl ?_
  intro p e s m args below meth c s₁ B hml hv
  obtain ⟨rfl, rfl, ⟨hP, hK, hD0, hN⟩, hx⟩ := hv
  have hts := atoms_spec (ws := .codeWith y cc n ret hh :: BW) B.pre
  have htab := vx_table (x := y) B (hts _ List.mem_cons_self)
  have hl := lv_entry av (n := n) hn
  rw [lg_entry_eq]
  rw [← hls] at hl
  exact body p e s m _ below meth c ⟨B.exec, B.bytes, hml, findClass_of_methodNamed B.named, fun w hw => hts w (List.mem_cons_of_mem _ hw), hK, hN, fun q h => Or.inr h, B.notSynchronized⟩ hx B.returns htab s.heap [] _ hP hD0.self va_S.rf hl
theorem z_lconst {n : Fin 2} {v : Int64} (h : zC p s m meth c args own nL cc D ct A) (d : decode cc pc = .ok (.lconst n, 1)) (hv : Int64.ofNat (n : Nat) = v) (k : zG p l e R s m args below meth c D A nL Q cells slots (pc + 1) ls (.long v :: st) w) : zG p l e R s m args below meth c D A nL Q cells slots pc ls st w := fun H locs L hP hD hS hL => lv_lconst (z_exec h) (z_code h) d hv (k H locs L hP hD hS hL)
theorem z_lcmp {x y : Int64} (h : zC p s m meth c args own nL cc D ct A) (d : decode cc pc = .ok (.lcmp, 1)) (k : zG p l e R s m args below meth c D A nL Q cells slots (pc + 1) ls (.int (lg_cmp x y) :: st) w) : zG p l e R s m args below meth c D A nL Q cells slots pc ls (.long y :: .long x :: st) w := fun H locs L hP hD hS hL => W.lcmp (z_exec h) (z_code h) d (k H locs L hP hD hS hL)
theorem z_dcmp {x y : UInt64} {op : CmpOp} (h : zC p s m meth c args own nL cc D ct A) (d : decode cc pc = .ok (.dcmp op, 1)) (k : zG p l e R s m args below meth c D A nL Q cells slots (pc + 1) ls (.int (Op.cmpValue (FP.dcmp x y) op) :: st) w) : zG p l e R s m args below meth c D A nL Q cells slots pc ls (.double y :: .double x :: st) w := fun H locs L hP hD hS hL => lv_dcmp (z_exec h) (z_code h) d (k H locs L hP hD hS hL)
theorem lG_set2 {L : Array Slot} {i : Nat} {v : Value} (hz : okst ls i = true) (h : lv_has L nL ((i, v) :: (lvs 0 ls).filter (fun q => !(q.1 == i) && (!(q.1 == i + 1) && !(q.1 + 1 == i && q.2.category == 2))))) : lv_has L nL (lvs 0 ((ls.set (i + 1) none).set i (some v))) := by
  refine lG_mono h (fun q hq => ?_)
  obtain ⟨k, h1, h2⟩ := lvs_of _ 0 q hq
  rw [Nat.zero_add] at h1
  by_cases hk : k = i
  · subst hk
    have hlt : k < ((ls.set (k + 1) none).set k (some v)).length := (List.getElem?_eq_some_iff.mp h2).1
    rw [List.length_set] at hlt
    rw [List.getElem?_set_self hlt] at h2
    have hv : v = q.2 := by simpa using h2
    have : q = (k, v) := by rw [hv, ← h1]
    rw [this]
    exact List.mem_cons_self
  · rw [List.getElem?_set_ne (Ne.symm hk)] at h2
    by_cases hk1 : k = i + 1
    · subst hk1
      have hlt : i + 1 < (ls.set (i + 1) none).length := (List.getElem?_eq_some_iff.mp h2).1
      rw [List.length_set] at hlt
      rw [List.getElem?_set_self hlt] at h2
      simp at h2
    · rw [List.getElem?_set_ne (Ne.symm hk1)] at h2
      refine List.mem_cons_of_mem _ (List.mem_filter.mpr ⟨?_, ?_⟩)
      · have h3 := lvs_in ls 0 k q.2 h2
        rw [Nat.zero_add, ← h1] at h3
        exact h3
      · have h4 : ¬ (q.1 + 1 = i ∧ q.2.category = 2) := by
          rintro ⟨h5, h6⟩
          rw [h1] at h5
          subst h5
          simp only [okst, h2] at hz
          rw [h6] at hz
          exact absurd hz (by decide)
        rw [h1] at h4 ⊢
        simp only [Bool.and_eq_true, Bool.not_eq_true', beq_eq_false_iff_ne, ne_eq, Bool.and_eq_false_iff]
        refine ⟨hk, hk1, ?_⟩
        by_cases h7 : k + 1 = i
        · exact Or.inr (fun h8 => h4 ⟨h7, h8⟩)
        · exact Or.inl h7
theorem z_dstore {j : Nat} {x : UInt64} (h : zC p s m meth c args own nL cc D ct A) (d : decode cc pc = .ok (.dstore j, 2)) (hn : j + 1 < nL) (hz : okst ls j = true) (k : zG p l e R s m args below meth c D A nL Q cells slots (pc + 2) ((ls.set (j + 1) none).set j (some (.double x))) st w) : zG p l e R s m args below meth c D A nL Q cells slots pc ls (.double x :: st) w := fun H locs L hP hD hS hL => lv_dstore (z_exec h) (z_code h) d hL hn rfl (fun L1 hL1 => k H locs L1 hP hD hS (lG_set2 hz hL1))
variable {wc : va_W} {rest : List Value} {fr lo mL mc2 ms2 ix b : Nat} {y : MethodName} {ret : Option FieldType} {As : List Value} {cb : ByteArray}
/-- behind a call that stands on the statics, too -/
theorem zcallW {st0 : List Value} {free : Addr → Prop} {a : Array Value} (h : zC p s m meth c args own nL cc D ct A) (hx : wX A s s.heap) {ps : List Nat} (hnd : va_nd ps = true) (hps : ps.map (fun i => w[i]?) = wc.map some)
    (hr : ∀ (H : Heap) (locs : List Loc) (L : Array Slot), L.size = nL → va_P D vwCl w H → va_D A w → va_P D vwCl wc H → va_D (fun _ => True) wc → wX (va_A wc H.size) s H → va_Run p l e R s m args below meth c H locs cells slots mc ms (F0 m pc L st0) rest (zQ D ct wc H.size po a) (va_A wc H.size))
    (kk : ∀ (v : Option Value) (wa wb : va_W), po v wa wb → wa.map Prod.fst = wc.map Prod.fst → zG p l e R s m args below meth c D A nL Q (cells + mc) (slots + ms) (pc + 3) ls (v.toList ++ rest) (wput w ps wa ++ wb)) : zG p l e R s m args below meth c D A nL Q cells slots pc ls st0 w := by
  intro H locs L hP hD hS hL T hT X
  have hPc : va_P D vwCl wc H := fun k q hq => by
    have hk : k < ps.length := by
      have h1 : ps.length = wc.length := by simpa using congrArg List.length hps
      rw [h1]; exact (List.getElem?_eq_some_iff.mp hq).1
    have h2 := wc_at hps (List.getElem?_eq_getElem hk)
    rw [hq] at h2
    exact hP _ q h2
  have hFc : ∀ q, va_A wc H.size q → A q := va_free hD hS (z_A h) ps hps
  have hDc : va_D (fun _ => True) wc := (hD.sub ps hnd hps).weaken (fun _ _ _ _ => trivial)
  have hx2 : wX (va_A wc H.size) s H := ⟨(hx.1.kept hS.2.1).narrow hFc, (hx.2.kept hS.2.1).narrow hFc⟩
  obtain ⟨v, st₀, t, T', L2, h0, X', hL2, e1, e2, ⟨v2, wa, wb, hv, hpo, hadr, hP1, hD1, hz, hk⟩, hst⟩ := hr H locs L hL.1 hP hD hPc hDc hx2 T hT X
  cases hv
  rw [h0] at hz hk
  rw [← e1] at hP1 hz hk
  obtain ⟨hP2, hD2⟩ := zjoin hP hD hps hadr hk hFc hP1 hD1
  have hS2 : va_S A s.heap T'.heap (locs ++ L2) := ⟨Nat.le_trans hS.1 hz, fun q h1 h2 => by rw [hk q (Nat.lt_of_lt_of_le h1 hS.1) (fun z => h2 (hFc q z))]; exact hS.2.1 q h1 h2, fun q hq => by
    rcases List.mem_append.mp hq with h3 | h3
    · exact hS.2.2 q h3
    · exact hFc _ (hL2 q h3)⟩
  obtain ⟨t2, a1, b1⟩ := kk v wa wb hpo hadr T'.heap (locs ++ L2) L hP2 hD2 hS2 hL T' rfl X'
  exact ⟨t2, hst t2 a1, b1⟩
/-- a method with handlers, static, called -/
theorem z_callL (ps : List Nat) (h : zC p s m meth c args own nL cc D ct A) (hM : zL l D ct y cb mL ret hh fr lo mc ms As wc po) (hx : wX A s s.heap)
    (hl : Cond.methodLink own ix y ∈ BW) (hi : Cond.static y ∈ BW) (hini : Cond.initialized y.cls ∈ BW) (hco : Cond.codeWith y cb mL ret hh ∈ BW)
    (nA : Nat) (hd : y.cls ≠ "java/lang/invoke/MethodHandle" ∧ y.cls ≠ "java/lang/invoke/VarHandle" ∧ (parseMethodDescriptor y.desc).map (fun d => d.parameters.length) = some nA) (hlen : As.length = nA)
    (hnd : va_nd ps = true) (hps : ps.map (fun i => w[i]?) = wc.map some)
    (hR : fr + 1 ≤ R.frames ∧ 8 + (mL + 11) + lo ≤ R.locals) (hrs : (rest.map fun v => v.category).sum ≤ 8) (hf : cells + mc ≤ R.cells ∧ slots + ms ≤ R.slots) {st0 : List Value} (hst : st0 = As.reverse ++ rest) (d : decode cc pc = .ok (.invokestatic ix, 3))
    (kk : ∀ (v : Option Value) (wa wb : va_W), po v wa wb → wa.map Prod.fst = wc.map Prod.fst → zG p l e R s m args below meth c D A nL Q (cells + mc) (slots + ms) (pc + 3) ls (v.toList ++ rest) (wput w ps wa ++ wb)) : zG p l e R s m args below meth c D A nL Q cells slots pc ls st0 w := by
  refine zcallW (free := fun _ => True) (a := As.toArray) h hx hnd hps (fun H locs L hLs hP hD hPc hDc hx2 => ?_) kk
  have hts := z_hts h
  have hG : GoodIn BW (Cond.codeWith y cb mL ret hh :: BW) := BW_cons hco
  have cw : vx_CSW R s args own ix y cb mL ret hh (Cond.codeWith y cb mL ret hh :: BW) { frames := fr, cells := mc, slots := ms, locals := lo } mc ms nA := by
    refine ⟨⟨rfl, rfl, hR.1, hR.2, pay_in hts hG, List.mem_cons_self⟩, hts _ hco, hts _ hini, ⟨hd.1, hd.2.1⟩, fun sig h1 => ?_, hts _ hl, hts _ hi⟩
    have h2 := hd.2.2
    rw [h1] at h2
    exact (Option.some.inj h2).symm
  exact vx_runSW (Ts := BW) ⟨z_exec h, z_code h, h.2.2.1, z_own h, hts⟩ (hM H.size) cw ⟨zblindX, fun U hU hW => ⟨rfl, zpreX h hPc hDc hx2 hU hW⟩⟩ rfl hlen hLs hst (lv_room hrs) d hf
variable {wc2 : va_W} {E0 : String}
/-- a method that throws, called, and caught here -/
theorem z_callVX (ps : List Nat) (q0 ci : Nat) {fs : List Value} {T : u_T} {N : Nat} {pre suf : List (Nat × Nat × Nat × Nat)} {s0 s1 hpc kt : Nat} (h : zC p s m meth c args own nL cc D ct A) (hM : zX l D ct y cb mL ret fr lo mc ms (.ref b :: As) wc wc2 E0) (hx : wX A s s.heap) (had : wc2.map Prod.fst = wc.map Prod.fst)
    (htab : c.exceptionTable.toList = tableOf (pre ++ (s0, s1, hpc, kt) :: suf)) (hcov : covers ⟨s0, s1, hpc, kt⟩ pc = true) (hkt : kt ≠ 0) (hck : Cond.classLink own kt E0 ∈ BW) (hE : E0 ∈ EL) (hpre : ∀ q ∈ pre, q.2.2.2 ≠ 0 ∧ ∃ nm : String, Cond.classLink own q.2.2.2 nm ∈ BW ∧ (E0, nm) ∈ NL)
    (hl : Cond.methodLink own ix y ∈ BW) (hi : Cond.instanceMethod y ∈ BW) (hse : Cond.selects y.cls y y ∈ BW) (hini : Cond.initialized y.cls ∈ BW) (hco : Cond.code y cb mL ret ∈ BW)
    (nA : Nat) (hd : y.cls ≠ "java/lang/invoke/MethodHandle" ∧ y.cls ≠ "java/lang/invoke/VarHandle" ∧ (parseMethodDescriptor y.desc).map (fun d => d.parameters.length) = some nA) (hlen : As.length = nA)
    (hnd : va_nd ps = true) (hps : ps.map (fun i => w[i]?) = wc.map some) (hc : vwCl[ci]? = some (y.cls, T, N)) (he : wc[q0]? = some (b, .inr (ci, fs)))
    (hR : fr + 1 ≤ R.frames ∧ 8 + (mL + 11) + lo ≤ R.locals) (hrs : (rest.map fun v => v.category).sum ≤ 8) (hf : cells + mc ≤ R.cells ∧ slots + ms ≤ R.slots) {st0 : List Value} (hst : st0 = As.reverse ++ .ref b :: rest) (d : decode cc pc = .ok (.invokevirtual ix, 3))
    (kk : ∀ q : Nat, zG p l e R s m args below meth c D A nL Q (cells + mc) (slots + ms) hpc ls [.ref q] (wput w ps wc2)) : zG p l e R s m args below meth c D A nL Q cells slots pc ls st0 w := by
  intro H locs L hP hD hS hL T0 hT X
  have hPc : va_P D vwCl wc H := fun k q hq => by
    have hk : k < ps.length := by
      have h1 : ps.length = wc.length := by simpa using congrArg List.length hps
      rw [h1]; exact (List.getElem?_eq_some_iff.mp hq).1
    have h2 := wc_at hps (List.getElem?_eq_getElem hk)
    rw [hq] at h2
    exact hP _ q h2
  have hFc : ∀ q, va_A wc H.size q → A q := va_free hD hS (z_A h) ps hps
  have hDc : va_D (fun _ => True) wc := (hD.sub ps hnd hps).weaken (fun _ _ _ _ => trivial)
  have hx2 : wX (va_A wc H.size) s H := ⟨(hx.1.kept hS.2.1).narrow hFc, (hx.2.kept hS.2.1).narrow hFc⟩
  have hts := z_hts h
  have cb0 : CallB R s args own ix y cb mL ret (.code y cb mL ret :: BW) { frames := fr, cells := mc, slots := ms, locals := lo } mc ms nA := callB_of nA hts (BW_cons hco) rfl rfl rfl (hts _ hini) (hts _ hl) hd hR
  have hrun := vx_runV (p := p) (e := e) (below := below) (meth := meth) (locs := locs) (Ts := BW) (C := y.cls) ⟨z_exec h, z_code h, h.2.2.1, z_own h, hts⟩ (hM H.size) ⟨cb0, hts _ hi, hts _ hse⟩ ⟨zblindX, va_recv (z_K h) hPc hc he, fun U hU hW => ⟨rfl, zpreX h hPc hDc hx2 hU hW⟩⟩ (g := F0 m pc L st0) (rest := rest) rfl hlen hL.1 hst (lv_room hrs) d hf
  rcases hrun T0 hT X with ⟨v, st₀, t, T', L2, h0, X', hL2, e1, e2, hf2, -⟩ | ⟨q, st₀, t, T', L2, E, ce, h0, X', hL2, e1, e2, ⟨rfl, hP1, hz, hk⟩, hce, hcv, hcl, hst2⟩
  · exact hf2.elim
  rw [h0] at hz hk
  rw [← e1] at hP1 hz hk hce
  have hD1 : va_D (va_A wc H.size) (wc2 ++ []) := by
    rw [List.append_nil]
    have hDw : va_D (va_A wc H.size) wc := ⟨hDc.1, fun k q hq => Or.inl ⟨k, q.2, hq⟩⟩
    exact va_D_fst had hDw
  obtain ⟨hP2, hD2⟩ := zjoin (wb := []) hP hD hps had hk hFc (by rw [List.append_nil]; exact hP1) hD1
  rw [List.append_nil] at hP2 hD2
  have hS2 : va_S A s.heap T'.heap (locs ++ L2) := ⟨Nat.le_trans hS.1 hz, fun q h1 h2 => by rw [hk q (Nat.lt_of_lt_of_le h1 hS.1) (fun z => h2 (hFc q z))]; exact hS.2.1 q h1 h2, fun q hq => by
    rcases List.mem_append.mp hq with h3 | h3
    · exact hS.2.2 q h3
    · exact hFc _ (hL2 q h3)⟩
  have hcast : (Cond.castable E E).before args s = true := va_Nw.use rfl ((z_N h).2.2.2.2.1 E hE)
  have hcat := vx_catch (p := p) (l := l) (e := e) (R := R) (args := args) (below := below) (meth := meth) (locs := locs ++ L2) (cells := cells + mc) (slots := slots + ms) (Q := Q) (ls := L) (rest := rest) (pc := pc) (z_own h) (tableOf pre) ⟨s0, s1, hpc, kt⟩ (tableOf suf) (by rw [htab]; unfold tableOf; rw [List.map_append, List.map_cons]) (fun z hz => by
      unfold tableOf at hz
      obtain ⟨q1, hq1, rfl⟩ := List.mem_map.mp hz
      obtain ⟨n1, nm, n2, n3⟩ := hpre q1 hq1
      exact Or.inr ⟨n1, nm, hts _ n2, (z_N h).2.2.2.1 _ n3⟩) hcov hkt (hts _ hck) hcast hce hcv hcl (kk q T'.heap (locs ++ L2) L hP2 hD2 hS2 hL)
  obtain ⟨t2, a1, b1⟩ := hcat T' rfl X'
  exact ⟨t2, hst2.trans a1, b1⟩
end ZLW
/-! what p36's law has beside: methods with handlers whose calls don't throw (zH), longs, constants -/
def zH (l : Launch) (D : va_G) (ct : Nat → ClassId) (y : MethodName) (cc : ByteArray) (n : Nat) (ret : Option FieldType) (hh : List (Nat × Nat × Nat × Nat)) (fr lo mc ms : Nat) (av : List Value) (w : va_W) (po : Option Value → va_W → va_W → Prop) : Prop :=
  ∀ sz : Nat, Met l y (.codeWith y cc n ret hh :: BW) { frames := fr, cells := mc, slots := ms, locals := lo } (va_Pc av (fun U => U.heap.size = sz ∧ wB D ct w U)) (zQ D ct w sz po) mc ms (va_A w sz)
/-- a plain method that stands on the statics of new exceptions, too -/
def zTX (l : Launch) (D : va_G) (ct : Nat → ClassId) (y : MethodName) (cc : ByteArray) (n : Nat) (ret : Option FieldType) (fr lo mc ms : Nat) (av : List Value) (w : va_W) (po : Option Value → va_W → va_W → Prop) : Prop :=
  ∀ sz : Nat, Met l y (.code y cc n ret :: BW) { frames := fr, cells := mc, slots := ms, locals := lo } (va_Pc av (fun U => U.heap.size = sz ∧ wB D ct w U ∧ wX (va_A w sz) U U.heap)) (zQ D ct w sz po) mc ms (va_A w sz)
section ZHW
variable {p : Program} {l : Launch} {e : Env} {R : Room} {s : State} {m : MethodId} {args : Array Value} {below : List Frame} {meth : Method} {c : Code} {D : va_G} {nL : Nat} {cells slots pc mc ms : Nat} {ls : List (Option Value)} {st : List Value} {w w0 w' : va_W} {own : String} {cc : ByteArray} {ct : Nat → ClassId} {po : Option Value → va_W → va_W → Prop} {Q : State → Prop} {A : Nat → Prop} {hh : List (Nat × Nat × Nat × Nat)}
theorem zH_of {y : MethodName} {n fr lo : Nat} {ret : Option FieldType} {av : List Value} (ls0 : List (Option Value)) (hy : plainFor y = true) (hls : lvs 0 ls0 = lv_args 0 av) (hn : (lg_sl av).length ≤ n)
    (body : ∀ p e s m args below meth c, zC p s m meth c args y.cls n cc D ct (va_A w0 s.heap.size) → meth.sig.returnType = ret →
      zG p l e { frames := fr, cells := mc, slots := ms, locals := lo } s m args below meth c D (va_A w0 s.heap.size) n (MQ below (zQ D ct w0 s.heap.size po) args s mc ms (va_A w0 s.heap.size)) 0 0 0 ls0 [] w0) : zH l D ct y cc n ret hh fr lo mc ms av w0 po := by
  intro sz
  refine zofWH (cc := cc) (maxL := n) (ret := ret) hy rfl ?_
  intro p e s m args below meth c s₁ B hml hv
  obtain ⟨rfl, rfl, hP, hK, hD0, hN⟩ := hv
  have hts := atoms_spec (ws := .codeWith y cc n ret hh :: BW) B.pre
  have hl := lv_entry av (n := n) hn
  rw [lg_entry_eq]
  rw [← hls] at hl
  exact body p e s m _ below meth c ⟨B.exec, B.bytes, hml, findClass_of_methodNamed B.named, fun w hw => hts w (List.mem_cons_of_mem _ hw), hK, hN, fun q h => Or.inr h, B.notSynchronized⟩ B.returns s.heap [] _ hP hD0.self va_S.rf hl
theorem zTX_of {y : MethodName} {n fr lo : Nat} {ret : Option FieldType} {av : List Value} (ls0 : List (Option Value)) (hy : plainFor y = true) (hls : lvs 0 ls0 = lv_args 0 av) (hn : (lg_sl av).length ≤ n)
    (body : ∀ p e s m args below meth c, zC p s m meth c args y.cls n cc D ct (va_A w0 s.heap.size) → wX (va_A w0 s.heap.size) s s.heap → meth.sig.returnType = ret →
      zG p l e { frames := fr, cells := mc, slots := ms, locals := lo } s m args below meth c D (va_A w0 s.heap.size) n (MQ below (zQ D ct w0 s.heap.size po) args s mc ms (va_A w0 s.heap.size)) 0 0 0 ls0 [] w0) : zTX l D ct y cc n ret fr lo mc ms av w0 po := by
  intro sz
  refine zofW (cc := cc) (maxL := n) (ret := ret) hy rfl ?_
  intro p e s m args below meth c s₁ B hml hv
  obtain ⟨rfl, rfl, ⟨hP, hK, hD0, hN⟩, hx⟩ := hv
  have hts := atoms_spec (ws := .code y cc n ret :: BW) B.pre
  have hl := lv_entry av (n := n) hn
  rw [lg_entry_eq]
  rw [← hls] at hl
  exact body p e s m _ below meth c ⟨B.exec, B.bytes, hml, findClass_of_methodNamed B.named, fun w hw => hts w (List.mem_cons_of_mem _ hw), hK, hN, fun q h => Or.inr h, B.notSynchronized⟩ hx B.returns s.heap [] _ hP hD0.self va_S.rf hl
theorem z_ldc {ix : Nat} {v : Int32} (h : zC p s m meth c args own nL cc D ct A) (hk : Cond.constant own ix v ∈ BW) (d : decode cc pc = .ok (.ldc ix, 2)) (k : zG p l e R s m args below meth c D A nL Q cells slots (pc + 2) ls (.int v :: st) w) : zG p l e R s m args below meth c D A nL Q cells slots pc ls st w := fun H locs L hP hD hS hL => lv_ldc (z_exec h) (z_code h) (z_own h) (z_hts h _ hk) d (k H locs L hP hD hS hL)
theorem z_ldc2 {ix : Nat} {v : Int64} (h : zC p s m meth c args own nL cc D ct A) (hk : Cond.constantLong own ix v ∈ BW) (d : decode cc pc = .ok (.ldc2_w ix, 3)) (k : zG p l e R s m args below meth c D A nL Q cells slots (pc + 3) ls (.long v :: st) w) : zG p l e R s m args below meth c D A nL Q cells slots pc ls st w := fun H locs L hP hD hS hL => lv_ldc2 (z_exec h) (z_code h) (z_own h) (z_hts h _ hk) d (k H locs L hP hD hS hL)
theorem z_ladd {x y : Int64} (h : zC p s m meth c args own nL cc D ct A) (d : decode cc pc = .ok (.ladd, 1)) (k : zG p l e R s m args below meth c D A nL Q cells slots (pc + 1) ls (.long (x + y) :: st) w) : zG p l e R s m args below meth c D A nL Q cells slots pc ls (.long y :: .long x :: st) w := fun H locs L hP hD hS hL => lv_ladd (z_exec h) (z_code h) d (k H locs L hP hD hS hL)
theorem z_lmul {x y : Int64} (h : zC p s m meth c args own nL cc D ct A) (d : decode cc pc = .ok (.lmul, 1)) (k : zG p l e R s m args below meth c D A nL Q cells slots (pc + 1) ls (.long (x * y) :: st) w) : zG p l e R s m args below meth c D A nL Q cells slots pc ls (.long y :: .long x :: st) w := fun H locs L hP hD hS hL => lv_lmul (z_exec h) (z_code h) d (k H locs L hP hD hS hL)
theorem z_lload_n (h : zC p s m meth c args own nL cc D ct A) {j : Fin 4} {x : Int64} (d : decode cc pc = .ok (.lload_n j, 1)) (hl : ls[(j : Nat)]? = some (some (.long x))) (k : zG p l e R s m args below meth c D A nL Q cells slots (pc + 1) ls (.long x :: st) w) : zG p l e R s m args below meth c D A nL Q cells slots pc ls st w := fun H locs L hP hD hS hL => lv_lload_n (z_exec h) (z_code h) d rfl (lG_at hL _ hl) (k H locs L hP hD hS hL)
theorem z_lload (h : zC p s m meth c args own nL cc D ct A) {j : Nat} {x : Int64} (d : decode cc pc = .ok (.lload j, 2)) (hl : ls[j]? = some (some (.long x))) (k : zG p l e R s m args below meth c D A nL Q cells slots (pc + 2) ls (.long x :: st) w) : zG p l e R s m args below meth c D A nL Q cells slots pc ls st w := fun H locs L hP hD hS hL => lv_lload (z_exec h) (z_code h) d (lG_at hL _ hl) (k H locs L hP hD hS hL)
theorem z_lstore_n {j : Fin 4} {x : Int64} (h : zC p s m meth c args own nL cc D ct A) (d : decode cc pc = .ok (.lstore_n j, 1)) (hn : (j : Nat) + 1 < nL) (hz : okst ls (j : Nat) = true) (k : zG p l e R s m args below meth c D A nL Q cells slots (pc + 1) ((ls.set ((j : Nat) + 1) none).set (j : Nat) (some (.long x))) st w) : zG p l e R s m args below meth c D A nL Q cells slots pc ls (.long x :: st) w := fun H locs L hP hD hS hL => lv_lstore_n (z_exec h) (z_code h) d rfl hL hn rfl (fun L1 hL1 => k H locs L1 hP hD hS (lG_set2 hz hL1))
theorem z_lstore {j : Nat} {x : Int64} (h : zC p s m meth c args own nL cc D ct A) (d : decode cc pc = .ok (.lstore j, 2)) (hn : j + 1 < nL) (hz : okst ls j = true) (k : zG p l e R s m args below meth c D A nL Q cells slots (pc + 2) ((ls.set (j + 1) none).set j (some (.long x))) st w) : zG p l e R s m args below meth c D A nL Q cells slots pc ls (.long x :: st) w := fun H locs L hP hD hS hL => lv_lstore (z_exec h) (z_code h) d hL hn rfl (fun L1 hL1 => k H locs L1 hP hD hS (lG_set2 hz hL1))
theorem z_lret {v : Int64} {wa wb : va_W} (h : zC p s m meth c args own nL cc D ct (va_A w0 s.heap.size)) (hr : meth.sig.returnType = some .long) (d : decode cc pc = .ok (.lreturn, 1)) (hc : cells ≤ mc) (hs : slots ≤ ms) (hpo : po (some (.long v)) wa wb) (hw : w = wa ++ wb) (hadr : wa.map Prod.fst = w0.map Prod.fst) : zG p l e R s m args below meth c D (va_A w0 s.heap.size) nL (MQ below (zQ D ct w0 s.heap.size po) args s mc ms (va_A w0 s.heap.size)) cells slots pc ls [.long v] w := fun H locs L hP hD hS hL =>
  W.widen hc hs (W.lret (z_exec h) (z_code h) hr (fun t ht hW => z_end hpo hw hadr hP hD hS ht) hS.2.2 d (z_locks h))
theorem z_lretd {v r : Int64} (h : zC p s m meth c args own nL cc D ct (va_A w0 s.heap.size)) (hr : meth.sig.returnType = some .long) (d : decode cc pc = .ok (.lreturn, 1)) (hc : cells ≤ mc) (hs : slots ≤ ms) (hv : v = r) (hw : w = w') (hadr : w'.map Prod.fst = w0.map Prod.fst) : zG p l e R s m args below meth c D (va_A w0 s.heap.size) nL (MQ below (zQ D ct w0 s.heap.size (zd (some (.long r)) w')) args s mc ms (va_A w0 s.heap.size)) cells slots pc ls [.long v] w := by
  subst hv; subst hw
  exact z_lret h hr d hc hs ⟨rfl, rfl, rfl⟩ (List.append_nil _).symm hadr
variable {wc : va_W} {rest : List Value} {fr lo mL mc2 ms2 ix : Nat} {y : MethodName} {ret : Option FieldType} {As : List Value} {cb : ByteArray}
/-- a method with handlers, static, called, nothing being thrown -/
theorem z_callH (ps : List Nat) (h : zC p s m meth c args own nL cc D ct A) (hM : zH l D ct y cb mL ret hh fr lo mc ms As wc po)
    (hl : Cond.methodLink own ix y ∈ BW) (hi : Cond.static y ∈ BW) (hini : Cond.initialized y.cls ∈ BW) (hco : Cond.codeWith y cb mL ret hh ∈ BW)
    (nA : Nat) (hd : y.cls ≠ "java/lang/invoke/MethodHandle" ∧ y.cls ≠ "java/lang/invoke/VarHandle" ∧ (parseMethodDescriptor y.desc).map (fun d => d.parameters.length) = some nA) (hlen : As.length = nA)
    (hnd : va_nd ps = true) (hps : ps.map (fun i => w[i]?) = wc.map some)
    (hR : fr + 1 ≤ R.frames ∧ 8 + (mL + 11) + lo ≤ R.locals) (hrs : (rest.map fun v => v.category).sum ≤ 8) (hf : cells + mc ≤ R.cells ∧ slots + ms ≤ R.slots) {st0 : List Value} (hst : st0 = As.reverse ++ rest) (d : decode cc pc = .ok (.invokestatic ix, 3))
    (kk : ∀ (v : Option Value) (wa wb : va_W), po v wa wb → wa.map Prod.fst = wc.map Prod.fst → zG p l e R s m args below meth c D A nL Q (cells + mc) (slots + ms) (pc + 3) ls (v.toList ++ rest) (wput w ps wa ++ wb)) : zG p l e R s m args below meth c D A nL Q cells slots pc ls st0 w := by
  refine zcall (free := fun _ => True) (a := As.toArray) h hnd hps (fun H locs L hLs hP hD hPc hDc => ?_) kk
  have hts := z_hts h
  have hG : GoodIn BW (Cond.codeWith y cb mL ret hh :: BW) := BW_cons hco
  have cw : vx_CSW R s args own ix y cb mL ret hh (Cond.codeWith y cb mL ret hh :: BW) { frames := fr, cells := mc, slots := ms, locals := lo } mc ms nA := by
    refine ⟨⟨rfl, rfl, hR.1, hR.2, pay_in hts hG, List.mem_cons_self⟩, hts _ hco, hts _ hini, ⟨hd.1, hd.2.1⟩, fun sig h1 => ?_, hts _ hl, hts _ hi⟩
    have h2 := hd.2.2
    rw [h1] at h2
    exact (Option.some.inj h2).symm
  exact vx_runSW (Ts := BW) ⟨z_exec h, z_code h, h.2.2.1, z_own h, hts⟩ (hM H.size) cw ⟨zblind, fun U hU hW => ⟨rfl, zpre h hPc hDc hU hW⟩⟩ rfl hlen hLs hst (lv_room hrs) d hf
/-- a plain static method that stands on the statics, called -/
theorem z_callTX (ps : List Nat) (h : zC p s m meth c args own nL cc D ct A) (hM : zTX l D ct y cb mL ret fr lo mc ms As wc po) (hx : wX A s s.heap)
    (hl : Cond.methodLink own ix y ∈ BW) (hi : Cond.static y ∈ BW) (hini : Cond.initialized y.cls ∈ BW) (hco : Cond.code y cb mL ret ∈ BW)
    (nA : Nat) (hd : y.cls ≠ "java/lang/invoke/MethodHandle" ∧ y.cls ≠ "java/lang/invoke/VarHandle" ∧ (parseMethodDescriptor y.desc).map (fun d => d.parameters.length) = some nA) (hlen : As.length = nA)
    (hnd : va_nd ps = true) (hps : ps.map (fun i => w[i]?) = wc.map some)
    (hR : fr + 1 ≤ R.frames ∧ 8 + (mL + 11) + lo ≤ R.locals) (hrs : (rest.map fun v => v.category).sum ≤ 8) (hf : cells + mc ≤ R.cells ∧ slots + ms ≤ R.slots) {st0 : List Value} (hst : st0 = As.reverse ++ rest) (d : decode cc pc = .ok (.invokestatic ix, 3))
    (kk : ∀ (v : Option Value) (wa wb : va_W), po v wa wb → wa.map Prod.fst = wc.map Prod.fst → zG p l e R s m args below meth c D A nL Q (cells + mc) (slots + ms) (pc + 3) ls (v.toList ++ rest) (wput w ps wa ++ wb)) : zG p l e R s m args below meth c D A nL Q cells slots pc ls st0 w := by
  refine zcallW (free := fun _ => True) (a := As.toArray) h hx hnd hps (fun H locs L hLs hP hD hPc hDc hx2 => ?_) kk
  have hts := z_hts h
  have cb0 : CallB R s args own ix y cb mL ret (.code y cb mL ret :: BW) { frames := fr, cells := mc, slots := ms, locals := lo } mc ms nA := callB_of nA hts (BW_cons hco) rfl rfl rfl (hts _ hini) (hts _ hl) hd hR
  exact va_runS (Ts := BW) ⟨z_exec h, z_code h, h.2.2.1, z_own h, hts⟩ (hM H.size) ⟨cb0, hts _ hi⟩ ⟨zblindX, fun U hU hW => ⟨rfl, zpreX h hPc hDc hx2 hU hW⟩⟩ rfl hlen hLs hst (lv_room hrs) d hf
end ZHW
/-- fewer cells are spoken of -/
theorem zG_less {p : Program} {l : Launch} {e : Env} {R : Room} {s : State} {m : MethodId} {args : Array Value} {below : List Frame} {meth : Method} {c : Code} {D : va_G} {A : Nat → Prop} {nL : Nat} {Q : State → Prop} {cells slots pc : Nat} {ls : List (Option Value)} {st : List Value} {w1 w2 : va_W} (k : zG p l e R s m args below meth c D A nL Q cells slots pc ls st w1) : zG p l e R s m args below meth c D A nL Q cells slots pc ls st (w1 ++ w2) := fun H locs L hP hD hS hL =>
  k H locs L (va_P_l hP) ⟨fun i j p q hi hj e => hD.1 i j p q (by rw [List.getElem?_append_left (List.getElem?_eq_some_iff.mp hi).1]; exact hi) (by rw [List.getElem?_append_left (List.getElem?_eq_some_iff.mp hj).1]; exact hj) e, fun i q hi => hD.2 i q (by rw [List.getElem?_append_left (List.getElem?_eq_some_iff.mp hi).1]; exact hi)⟩ hS hL
theorem perm_lift {α β : Type} (f : α → β) : ∀ (m : List β) (l : List α), (l.map f).Perm m → ∃ l2 : List α, l2.Perm l ∧ l2.map f = m
  | [], l, h => by
    have h1 := h.length_eq
    have h2 : l = [] := List.length_eq_zero_iff.mp (by simpa using h1)
    subst h2
    exact ⟨[], List.Perm.refl _, rfl⟩
  | b :: m, l, h => by
    have hb : b ∈ l.map f := h.symm.subset List.mem_cons_self
    obtain ⟨a, ha, e⟩ := List.mem_map.mp hb
    obtain ⟨u, v, rfl⟩ := List.append_of_mem ha
    have h1 : ((a :: (u ++ v)).map f).Perm (b :: m) := (List.Perm.map f (List.perm_middle (a := a) (l₁ := u) (l₂ := v)).symm).trans h
    have h2 : ((u ++ v).map f).Perm m := by
      have h3 : (b :: (u ++ v).map f).Perm (b :: m) := by rw [← e]; rw [← e] at h1; exact h1
      exact (List.perm_cons b).mp h3
    obtain ⟨l2, g1, g2⟩ := perm_lift f m (u ++ v) h2
    exact ⟨a :: l2, (List.Perm.cons a g1).trans List.perm_middle.symm, by rw [List.map_cons, g2, e]⟩
/-- a world that holds all addresses of w0: those first, in their order -/
theorem split_adr {w w0 : va_W} {B : List Nat} (h : (w.map Prod.fst).Perm (w0.map Prod.fst ++ B)) : ∃ wa wb : va_W, w.Perm (wa ++ wb) ∧ wa.map Prod.fst = w0.map Prod.fst := by
  obtain ⟨l2, h1, h2⟩ := perm_lift Prod.fst _ w h
  refine ⟨l2.take w0.length, l2.drop w0.length, by rw [List.take_append_drop]; exact h1.symm, ?_⟩
  rw [List.map_take, h2]
  have e : w0.length = (w0.map Prod.fst).length := (List.length_map _).symm
  rw [e, List.take_left]
