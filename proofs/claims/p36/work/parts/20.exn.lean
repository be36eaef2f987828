/-! METHODS THAT THROW: the statics that a new exception reads, contracts that throw (zX), throws, calls of throwers -/
def wX (A : Nat → Prop) (U : State) (H : Heap) : Prop := vx_Zq Bundle.tN "UNASSIGNED_STACK" Bundle.steD A U H ∧ vx_Zq Bundle.tN "SUPPRESSED_SENTINEL" Bundle.listD A U H
theorem wX.call {A : Nat → Prop} {U : State} {g : JFrame} {mk : MethodId} {a : Array Value} (h : wX A U U.heap) : wX A (U.calling g mk a) (U.calling g mk a).heap := ⟨vx_Zq.moved (u := U) (U := U.calling g mk a) (Vm.Alike.refl U.vm) h.1, vx_Zq.moved (u := U) (U := U.calling g mk a) (Vm.Alike.refl U.vm) h.2⟩
def zXC (D : va_G) (w w' : va_W) (sz : Nat) (E0 : String) : String → State → State → Prop := fun E st t => E = E0 ∧ va_P D vwCl w' t.heap ∧ va_F (va_A w sz) st t
def zNo : Array Value → State → Outcome → State → Prop := fun _ _ _ _ => False
def zX (l : Launch) (D : va_G) (ct : Nat → ClassId) (y : MethodName) (cc : ByteArray) (n : Nat) (ret : Option FieldType) (fr lo mc ms : Nat) (av : List Value) (w w' : va_W) (E0 : String) : Prop :=
  ∀ sz : Nat, vx_Met l y (.code y cc n ret :: BW) { frames := fr, cells := mc, slots := ms, locals := lo } (va_Pc av (fun U => U.heap.size = sz ∧ wB D ct w U ∧ wX (va_A w sz) U U.heap)) zNo (zXC D w w' sz E0) mc ms (va_A w sz)
section ZXS
variable {p : Program} {l : Launch} {e : Env} {R : Room} {s : State} {m : MethodId} {args : Array Value} {below : List Frame} {meth : Method} {c : Code} {D : va_G} {nL : Nat} {cells slots pc mc ms : Nat} {ls : List (Option Value)} {st : List Value} {w w0 w' : va_W} {own : String} {cc : ByteArray} {ct : Nat → ClassId} {E0 : String}
theorem zX_of {y : MethodName} {n fr lo : Nat} {ret : Option FieldType} {av : List Value} (ls0 : List (Option Value)) (hy : plainName y.cls = true) (hls : lvs 0 ls0 = lv_args 0 av) (hn : (lg_sl av).length ≤ n)
    (body : ∀ p e s m args below meth c, zC p s m meth c args y.cls n cc D ct (va_A w0 s.heap.size) → wX (va_A w0 s.heap.size) s s.heap → (∀ x ∈ c.exceptionTable.toList, False) →
      zG p l e { frames := fr, cells := mc, slots := ms, locals := lo } s m args below meth c D (va_A w0 s.heap.size) n (vx_MQ below zNo (zXC D w0 w' s.heap.size E0) args s mc ms (va_A w0 s.heap.size)) 0 0 0 ls0 [] w0) : zX l D ct y cc n ret fr lo mc ms av w0 w' E0 := by
  intro sz
  refine vx_ofW (cc := cc) (maxL := n) (ret := ret) hy rfl ?_
  intro p e s m args below meth c s₁ B hml hex hv
  obtain ⟨rfl, rfl, ⟨hP, hK, hD0, hN⟩, hx⟩ := hv
  have hts := atoms_spec (ws := .code y cc n ret :: BW) B.pre
  have hl := lv_entry av (n := n) hn
  rw [lg_entry_eq]
  rw [← hls] at hl
  exact body p e s m _ below meth c ⟨B.exec, B.bytes, hml, findClass_of_methodNamed B.named, fun w hw => hts w (List.mem_cons_of_mem _ hw), hK, hN, fun q h => Or.inr h, B.notSynchronized⟩ hx hex s.heap [] _ hP hD0.self va_S.rf hl
/-- new X(text), thrown, where no handler stands -/
theorem z_throw {cls text : String} {names : List String} {ik is ic : Nat} (h : zC p s m meth c args own nL cc D ct (va_A w0 s.heap.size)) (hx : wX (va_A w0 s.heap.size) s s.heap) (hex : ∀ x ∈ c.exceptionTable.toList, False) (hlf : l.stackTraces = false)
    (hcls : Bundle.fit cls = true) (hnames : ∀ n ∈ names, Bundle.fit n = true) (hk : Cond.classLink own ik cls ∈ BW) (hini : Cond.initialized cls ∈ BW) (hstr : (own, is, text) ∈ SL) (hE : cls ∈ EL)
    (h1 : ∀ w ∈ (vx_atS own ic cls names).filter goodWord, w ∈ BW) (h2 : ∀ w ∈ (vx_atS own ic cls names).filter (fun w => !goodWord w), w ∈ Cond.castable cls cls :: DL.map Cond.declares)
    (hgood : ∀ w ∈ Cond.classLink own ik cls :: Cond.initialized cls :: vx_atS own ic cls names, vx_ot w = true)
    (d0 : decode cc pc = .ok (.new ik, 3)) (d3 : decode cc (pc + 3) = .ok (.dup, 1)) (d4 : decode cc (pc + 4) = .ok (.ldc is, 2)) (d6 : decode cc (pc + 6) = .ok (.invokespecial ic, 3)) (d9 : decode cc (pc + 9) = .ok (.athrow, 1))
    (hRframes : names.length + 3 < R.frames) (hRlocals : (st.map fun v => v.category).sum + (13 * (names.length + 1) + 43) ≤ R.locals) (hRcells : cells + 1 ≤ R.cells) (hRslots : slots + 6 ≤ R.slots) (hc : cells + 1 ≤ mc) (hs : slots + 6 ≤ ms) (hcE : cls = E0) (hw : w = w') :
    zG p l e R s m args below meth c D (va_A w0 s.heap.size) nL (vx_MQ below zNo (zXC D w0 w' s.heap.size E0) args s mc ms (va_A w0 s.heap.size)) cells slots pc ls st w := fun H locs L hP hD hS hL => by
  subst hw
  obtain ⟨sa, hsa⟩ := (z_N h).2.2.1 _ hstr
  refine vx_throwS (names := names) (z_exec h) (z_code h) hlf (z_own h) hcls hnames (z_hts h _ hk) (z_hts h _ hini) hsa ?_ hgood hx.1 hx.2 hS (hL.1.trans h.2.2.1.symm) d0 d3 d4 d6 d9 (fun x hxx => (hex x hxx).elim) hRframes hRlocals hRcells hRslots (z_locks h) ?_ hS.2.2 hc hs
  · refine vx_hat (fun w hw => z_hts h _ (h1 w hw)) h2 (fun w hw => ?_)
    rcases List.mem_cons.mp hw with rfl | hw
    · exact va_Nw.use rfl ((z_N h).2.2.2.2.1 cls hE)
    · obtain ⟨y, hy, rfl⟩ := List.mem_map.mp hw
      exact va_Nw.use rfl ((z_N h).2.2.2.2.2 y hy)
  · intro t hvm hz hk1
    exact ⟨hcE, hP.kept (fun k q hq => hk1 q.1 (hP k q hq).lt), Nat.le_trans hS.1 hz, fun q hq hA => by rw [hk1 q (Nat.lt_of_lt_of_le hq hS.1)]; exact hS.2.1 q hq hA⟩
variable {wc : va_W} {rest : List Value} {A : Nat → Prop} {Q : State → Prop}
/-- behind any call that throws -/
theorem zcallX {st0 : List Value} (h : zC p s m meth c args own nL cc D ct A) {ps : List Nat} (hnd : va_nd ps = true) (hps : ps.map (fun i => w[i]?) = wc.map some) (hx : wX A s s.heap)
    (hr : ∀ (H : Heap) (locs : List Loc) (L : Array Slot), L.size = nL → va_P D vwCl w H → va_D A w → va_P D vwCl wc H → va_D (fun _ => True) wc → wX (va_A wc H.size) s H → vx_Run p l e R s m args below meth c H locs cells slots mc ms (F0 m pc L st0) rest (fun _ _ _ => False) (zXC D wc wc H.size E0) (va_A wc H.size))
    (kx : ∀ (H : Heap) (locs : List Loc) (L : Array Slot) (q : Addr) (ce : Cell), va_P D vwCl w H → va_D A w → va_S A s.heap H locs → lv_has L nL (lvs 0 ls) → H[q]? = some ce → ce.vm = .none → s.vm.findClass E0 = some ce.cls → vx_W p l e R s m args below meth c H locs (cells + mc) (slots + ms) Q (F0 m pc L rest) q) : zG p l e R s m args below meth c D A nL Q cells slots pc ls st0 w := by
  intro H locs L hP hD hS hL T hT X
  have hPc : va_P D vwCl wc H := fun k q hq => by
    have hk : k < ps.length := by
      have h1 : ps.length = wc.length := by simpa using congrArg List.length hps
      rw [h1]; exact (List.getElem?_eq_some_iff.mp hq).1
    have h2 := wc_at hps (List.getElem?_eq_getElem hk)
    rw [hq] at h2
    exact hP _ q h2
  have hFc : ∀ q, va_A wc H.size q → A q := va_free hD hS (z_A h) ps hps
  have hDc : va_D (fun _ => True) wc := (hD.sub ps hnd hps).weaken (fun _ _ _ _ => trivial)
  have hx2 : wX (va_A wc H.size) s H := ⟨(hx.1.kept hS.2.1).narrow hFc, (hx.2.kept hS.2.1).narrow hFc⟩
  rcases hr H locs L hL.1 hP hD hPc hDc hx2 T hT X with ⟨v, st₀, t, T', L2, h0, X', hL2, e1, e2, hf, -⟩ | ⟨q, st₀, t, T', L2, E, ce, h0, X', hL2, e1, e2, ⟨rfl, hP1, hz, hk⟩, hce, hcv, hcl, hst⟩
  · exact hf.elim
  rw [h0] at hz hk
  rw [← e1] at hP1 hz hk hce
  have hS2 : va_S A s.heap T'.heap (locs ++ L2) := ⟨Nat.le_trans hS.1 hz, fun q h1 h2 => by rw [hk q (Nat.lt_of_lt_of_le h1 hS.1) (fun z => h2 (hFc q z))]; exact hS.2.1 q h1 h2, fun q hq => by
    rcases List.mem_append.mp hq with h3 | h3
    · exact hS.2.2 q h3
    · exact hFc _ (hL2 q h3)⟩
  have hP2 : va_P D vwCl w T'.heap := fun k q1 hq1 => by
    by_cases hin : ∃ j : Nat, wc[j]? = some q1
    · obtain ⟨j, hj⟩ := hin
      exact hP1 j q1 hj
    · have hlt := (hP k q1 hq1).lt
      refine (hP k q1 hq1).kept (hk q1.1 hlt (fun z => ?_))
      rcases z with ⟨j, e9, hj⟩ | z
      · have hjl : j < ps.length := by
          have h1 : ps.length = wc.length := by simpa using congrArg List.length hps
          rw [h1]; exact (List.getElem?_eq_some_iff.mp hj).1
        have h3 := wc_at hps (List.getElem?_eq_getElem hjl)
        rw [hj] at h3
        have h4 := hD.1 k (ps[j]) q1 (q1.1, e9) hq1 h3 rfl
        rw [← h4, hq1] at h3
        exact hin ⟨j, by rw [hj, ← h3]⟩
      · omega
  obtain ⟨t2, a1, b1⟩ := kx T'.heap (locs ++ L2) L q ce hP2 hD hS2 hL hce hcv hcl T' rfl X'
  exact ⟨t2, hst.trans a1, b1⟩
theorem zpreX {H : Heap} {U : State} (h : zC p s m meth c args own nL cc D ct A) (hPc : va_P D vwCl wc H) (hDc : va_D (fun _ => True) wc) (hx : wX (va_A wc H.size) s H) (hU : U.heap = H) (hW : s.WarmedH U.vm) : U.heap.size = H.size ∧ wB D ct wc U ∧ wX (va_A wc H.size) U U.heap := by
  refine ⟨by rw [hU], ⟨by rw [hU]; exact hPc, va_K.moved hW.alike (z_K h), hDc, (z_N h).warm hW⟩, ?_⟩
  rw [hU]
  exact ⟨hx.1.moved hW.alike, hx.2.moved hW.alike⟩
theorem zblindX {sz : Nat} {av : List Value} : FrameBlind (va_Pc av (fun U => U.heap.size = sz ∧ wB D ct wc U ∧ wX (va_A wc sz) U U.heap)) := fun a U g mk q => by
  obtain ⟨q0, q1, q2, q3⟩ := q
  exact ⟨q0, q1, q2.call, q3.call⟩
/-- the exception goes on to the caller -/
theorem z_outX (h : zC p s m meth c args own nL cc D ct (va_A w s.heap.size)) (hex : ∀ x ∈ c.exceptionTable.toList, False) (hc : cells ≤ mc) (hs : slots ≤ ms) {H : Heap} {locs : List Loc} {L : Array Slot} {q : Addr} {ce : Cell} (hP : va_P D vwCl w H) (hS : va_S (va_A w s.heap.size) s.heap H locs) (hce : H[q]? = some ce) (hcv : ce.vm = .none) (hcl : s.vm.findClass E0 = some ce.cls) :
    vx_W p l e R s m args below meth c H locs cells slots (vx_MQ below zNo (zXC D w w s.heap.size E0) args s mc ms (va_A w s.heap.size)) (F0 m pc L rest) q :=
  vx_out (fun x hx => (hex x hx).elim) (z_locks h) hce hcv hcl (fun t ht hvm => ⟨rfl, by rw [ht]; exact hP, hS.F ht⟩) hS.2.2 hc hs
variable {cb : ByteArray} {fr lo mL mc2 ms2 ix : Nat} {y : MethodName} {ret : Option FieldType} {As : List Value} {b : Nat}
/-- a static method that throws, called where no handler stands -/
theorem z_callSX (ps : List Nat) (h : zC p s m meth c args own nL cc D ct (va_A w s.heap.size)) (hM : zX l D ct y cb mL ret fr lo mc2 ms2 As wc wc E0) (hx : wX (va_A w s.heap.size) s s.heap) (hex : ∀ x ∈ c.exceptionTable.toList, False)
    (hl : Cond.methodLink own ix y ∈ BW) (hi : Cond.static y ∈ BW) (hini : Cond.initialized y.cls ∈ BW) (hco : Cond.code y cb mL ret ∈ BW)
    (nA : Nat) (hd : y.cls ≠ "java/lang/invoke/MethodHandle" ∧ y.cls ≠ "java/lang/invoke/VarHandle" ∧ (parseMethodDescriptor y.desc).map (fun d => d.parameters.length) = some nA) (hlen : As.length = nA)
    (hnd : va_nd ps = true) (hps : ps.map (fun i => w[i]?) = wc.map some)
    (hR : fr + 1 ≤ R.frames ∧ 8 + (mL + 11) + lo ≤ R.locals) (hrs : (rest.map fun v => v.category).sum ≤ 8) (hf : cells + mc2 ≤ R.cells ∧ slots + ms2 ≤ R.slots) (hf2 : cells + mc2 ≤ mc ∧ slots + ms2 ≤ ms) {st0 : List Value} (hst : st0 = As.reverse ++ rest) (d : decode cc pc = .ok (.invokestatic ix, 3)) :
    zG p l e R s m args below meth c D (va_A w s.heap.size) nL (vx_MQ below zNo (zXC D w w s.heap.size E0) args s mc ms (va_A w s.heap.size)) cells slots pc ls st0 w := by
  refine zcallX (rest := rest) (mc := mc2) (ms := ms2) h hnd hps hx (fun H locs L hLs hP hD hPc hDc hx2 => ?_) (fun H locs L q ce hP hD hS hL hce hcv hcl => z_outX h hex hf2.1 hf2.2 hP hS hce hcv hcl)
  have hts := z_hts h
  have cb0 : CallB R s args own ix y cb mL ret (.code y cb mL ret :: BW) { frames := fr, cells := mc2, slots := ms2, locals := lo } mc2 ms2 nA := callB_of nA hts (BW_cons hco) rfl rfl rfl (hts _ hini) (hts _ hl) hd hR
  exact vx_runS (Ts := BW) ⟨z_exec h, z_code h, h.2.2.1, z_own h, hts⟩ (hM H.size) ⟨cb0, hts _ hi⟩ ⟨zblindX, fun U hU hW => ⟨rfl, zpreX h hPc hDc hx2 hU hW⟩⟩ rfl hlen hLs hst (lv_room hrs) d hf
end ZXS
