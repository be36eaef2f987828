/-! NEW CELLS, COPIES, CONSTRUCTORS, WORLDS IN ANOTHER ORDER -/
section ZA
variable {p : Program} {l : Launch} {e : Env} {R : Room} {s : State} {m : MethodId} {args : Array Value} {below : List Frame} {meth : Method} {c : Code} {D : va_G} {A : Nat → Prop} {nL : Nat} {Q : State → Prop} {cells slots pc : Nat} {ls : List (Option Value)} {st : List Value} {w : va_W} {own : String} {cc : ByteArray} {ct : Nat → ClassId}
theorem zG_perm {w2 : va_W} (hp : w.Perm w2) (k : zG p l e R s m args below meth c D A nL Q cells slots pc ls st w2) : zG p l e R s m args below meth c D A nL Q cells slots pc ls st w := fun H locs L hP hD hS hL => by
  refine k H locs L (fun j q hj => ?_) ?_ hS hL
  · obtain ⟨i, hi⟩ := List.getElem?_of_mem (hp.mem_iff.mpr (List.mem_of_getElem? hj))
    exact hP i q hi
  · have hn : (w.map Prod.fst).Nodup := by
      rw [List.nodup_iff_pairwise_ne, List.pairwise_iff_getElem]
      intro i j hi hj hij he
      rw [List.length_map] at hi hj
      rw [List.getElem_map, List.getElem_map] at he
      have := hD.1 i j w[i] w[j] (List.getElem?_eq_getElem hi) (List.getElem?_eq_getElem hj) he
      omega
    have hn2 : (w2.map Prod.fst).Nodup := (hp.map Prod.fst).nodup_iff.mp hn
    refine ⟨fun i j x y hi hj he => ?_, fun j q hj => ?_⟩
    · obtain ⟨hi1, hi2⟩ := List.getElem?_eq_some_iff.mp hi
      obtain ⟨hj1, hj2⟩ := List.getElem?_eq_some_iff.mp hj
      rw [List.nodup_iff_pairwise_ne, List.pairwise_iff_getElem] at hn2
      rcases Nat.lt_trichotomy i j with h | h | h
      · exact absurd (by rw [List.getElem_map, List.getElem_map, hi2, hj2, he]) (hn2 i j (by simpa using hi1) (by simpa using hj1) h)
      · exact h
      · exact absurd (by rw [List.getElem_map, List.getElem_map, hi2, hj2, he]) (hn2 j i (by simpa using hj1) (by simpa using hi1) h)
    · obtain ⟨i, hi⟩ := List.getElem?_of_mem (hp.mem_iff.mpr (List.mem_of_getElem? hj))
      exact hD.2 i q hi
theorem z_newa {atype : ArrayType} {ty : FieldType} {cT : ClassId} {n : Int32} {a0 : vp_A} (t0 N : Nat) (h : zC p s m meth c args own nL cc D ct A) (harr : Cond.arrayClass (newarray.typeOf atype) ∈ BW) (hty : newarray.typeOf atype = ty) (hnr : ∀ C, ty ≠ .object C) (ht : (zty ct)[t0]? = some (cT, ty))
    (ha : ∀ cA : ClassId, vp_cell cA a0 = arrV cA N (fun _ => defaultValue ty)) (hn : ¬ n < 0) (hN : n.toNatClampNeg = N) (hbytes : N * componentBytes ty ≤ 536870912) (hcells : cells + 1 ≤ R.cells) (hslots : slots + N ≤ R.slots) (d : decode cc pc = .ok (.newarray atype, 2))
    (k : ∀ q : Nat, zG p l e R s m args below meth c D A nL Q (cells + 1) (slots + N) (pc + 2) ls (.ref q :: st) (w ++ [(q, .inl (cT, a0))])) : zG p l e R s m args below meth c D A nL Q cells slots pc ls (.int n :: st) w := fun H locs L hP hD hS hL => by
  refine va_newa (D := D) (z_exec h) (z_code h) (z_hts h _ harr) hty (z_K h) hP hD hS (z_A h) ha hn hN hbytes hcells hslots d (fun q cA H1 hK1 hP1 hD1 hS1 => ?_)
  have e1 := (hK1.2 4 (cA, ty) (by rfl)).2
  have e2 := ((z_K h).2 t0 (cT, ty) ht).2
  have e3 : cA = cT := by
    unfold va_RA at e1 e2
    cases ty with
    | object C => exact absurd rfl (hnr C)
    | _ => exact Option.some.inj (e1.symm.trans e2)
  subst e3
  exact k q H1 locs L hP1 hD1 hS1 hL
theorem z_newq {n : Int32} {ix : Nat} (N : Nat) (h : zC p s m meth c args own nL cc D ct A) (hcl : Cond.classLink own ix "MeterNetwork$State" ∈ BW) (hn : ¬ n < 0) (hN : n.toNatClampNeg = N) (hbytes : N * 4 ≤ 536870912) (hcells : cells + 1 ≤ R.cells) (hslots : slots + N ≤ R.slots) (d : decode cc pc = .ok (.anewarray ix, 3))
    (k : ∀ q : Nat, zG p l e R s m args below meth c D A nL Q (cells + 1) (slots + N) (pc + 3) ls (.ref q :: st) (w ++ [(q, .inl (ct 3, N, .inr (.inr (.inr (.inr (fun _ => none))))))])) : zG p l e R s m args below meth c D A nL Q cells slots pc ls (.int n :: st) w := fun H locs L hP hD hS hL => by
  refine va_newq (D := D) (z_exec h) (z_code h) (z_own h) (z_hts h _ hcl) (z_N h).2.1 (z_K h) hP hD hS (z_A h) hn hN hbytes hcells hslots d (fun q cA H1 hK1 hP1 hD1 hS1 => ?_)
  obtain ⟨kA, comp, -, -, -, e1⟩ := (hK1.2 4 (cA, .object "MeterNetwork$State") (by rfl)).2
  obtain ⟨kA2, comp2, -, -, -, e2⟩ := ((z_K h).2 3 (ct 3, .object "MeterNetwork$State") rfl).2
  have e3 : cA = ct 3 := Option.some.inj (e1.symm.trans e2)
  subst e3
  exact k q H1 locs L hP1 hD1 hS1 hL
theorem z_new {C : String} {T : u_T} {N ci ix : Nat} {ty : Nat → FieldType} {fs : List Value} (h : zC p s m meth c args own nL cc D ct A) (hin : ∀ x ∈ u_ws C T N, x ∈ BW) (hty : ∀ k, k < N → parseFieldDescriptor (T k).2.2.1 = some (ty k)) (hcl : Cond.classLink own ix C ∈ BW) (hinst : Cond.instantiable C N ∈ BW) (hini : Cond.initialized C ∈ BW)
    (hc : vwCl[ci]? = some (C, T, N)) (hfs : ∀ j, j < N → defaultValue (ty j) = vp_V fs j) (hcells : cells + 1 ≤ R.cells) (hslots : slots + N ≤ R.slots) (d : decode cc pc = .ok (.new ix, 3))
    (k : ∀ q : Nat, zG p l e R s m args below meth c D A nL Q (cells + 1) (slots + N) (pc + 3) ls (.ref q :: st) (w ++ [(q, .inr (ci, fs))])) : zG p l e R s m args below meth c D A nL Q cells slots pc ls st w := fun H locs L hP hD hS hL =>
  va_new (D := D) (z_exec h) (z_code h) (z_hts h) hin ty hty (z_own h) (z_hts h _ hcl) (z_hts h _ hinst) (z_hts h _ hini) (z_K h) hP hD hS (z_A h) hc hfs hcells hslots d (fun q H1 hP1 hD1 hS1 => k q H1 locs L hP1 hD1 hS1 hL)
theorem z_putF {ref C : String} {T : u_T} {N ci ix : Nat} {fs : List Value} {a : Nat} {v : Value} {ty0 : Nat → FieldType} (q0 k0 : Nat) (h : zC p s m meth c args own nL cc D ct A) (hin : ∀ x ∈ u_ws C T N, x ∈ BW) (hty : ∀ k, k < N → parseFieldDescriptor (T k).2.2.1 = some (ty0 k)) (hnm : ∀ a, a < N → ∀ b, b < N → a ≠ b → (T a).2.1 ≠ (T b).2.1) (hc : vwCl[ci]? = some (C, T, N)) (hk : k0 < N) (hre : (T k0).1 = ref) (hlk : Cond.fieldLink own ix ref (T k0).2.1 (T k0).2.2.1 ∈ BW)
    (hnmi : meth.name = "<init>") (hoc : (T k0).1 = own) (he : w[q0]? = some (a, .inr (ci, fs))) (hfin : (T k0).2.2.2 = true) (hn : narrow (ty0 k0) v = v) (hfit : fits (ty0 k0) v = true) (hl : k0 < fs.length) (d : decode cc pc = .ok (.putfield ix, 3)) {w2 : va_W} (hw : w.set q0 (a, .inr (ci, fs.set k0 v)) = w2)
    (k : zG p l e R s m args below meth c D A nL Q cells slots (pc + 3) ls st w2) : zG p l e R s m args below meth c D A nL Q cells slots pc ls (v :: .ref a :: st) w := fun H locs L hP hD hS hL => by
  subst hw
  exact va_putF (D := D) (z_exec h) (z_code h) (z_hts h) hin ty0 hty hnm (z_own h) (z_K h) hP hD hS q0 he hc k0 hk (z_hts h _ hlk) (fun x hx => by rw [← hre]; exact hx) hfin hnmi hoc (hty k0 hk) hn hfit hl d (fun H1 locs1 hP1 hD1 hS1 => k H1 locs1 L hP1 hD1 hS1 hL)
def kcp (n : Nat) (f g : Nat → Int32) : Nat → Int32 := fun j => if j < n then f j else g j
theorem kcp_eq (n : Nat) (f g : Nat → Int32) : va_cpy f g 0 0 n = kcp n f g := by
  funext j
  unfold va_cpy kcp
  simp
theorem z_copy {a0 a1 N0 N1 ix : Nat} {cA : ClassId} {ty : FieldType} {f g : Nat → Int32} {n : Int32} (q0 q1 t0 : Nat) (h : zC p s m meth c args own nL cc D ct A) (hl : Cond.methodLink own ix arraycopyName ∈ BW) (hna : Cond.native arraycopyName ∈ BW) (hst : Cond.static arraycopyName ∈ BW) (hini : Cond.initialized "java/lang/System" ∈ BW)
    (ht : (zty ct)[t0]? = some (cA, ty)) (hp : refKind ty = false) (ha0 : w[q0]? = some (a0, .inl (cA, N0, .inl f))) (ha1 : w[q1]? = some (a1, .inl (cA, N1, .inl g))) (hn : ¬ n < 0) (h4 : n.toNatClampNeg ≤ N0) (h5 : n.toNatClampNeg ≤ N1) (hfit : ∀ i, i < n.toNatClampNeg → fits ty (.int (f i)) = true)
    (hf : 1 ≤ R.frames) (hlo : (st.map fun v => v.category).sum + (nativeFrameWords "java/lang/System" "arraycopy" 5 + 11) ≤ R.locals) (d : decode cc pc = .ok (.invokestatic ix, 3))
    (k : zG p l e R s m args below meth c D A nL Q cells slots (pc + 3) ls st (w.set q1 (a1, .inl (cA, N1, .inl (kcp n.toNatClampNeg f g))))) : zG p l e R s m args below meth c D A nL Q cells slots pc ls (.int n :: .int 0 :: .ref a1 :: .int 0 :: .ref a0 :: st) w := fun H locs L hP hD hS hL => by
  have e0 : (0 : Int32).toNatClampNeg = 0 := rfl
  refine va_copyi (D := D) (z_exec h) (z_code h) (h.2.2.1.trans hL.1.symm) (z_own h) (z_hts h _ hl) (z_hts h _ hna) (z_hts h _ hst) (z_hts h _ hini) (z_K h) hP hD hS q0 q1 t0 t0 ha0 ha1 ht ht hp (by decide) (by decide) hn (by rw [e0]; omega) (by rw [e0]; omega) (fun i hi => by rw [e0, Nat.zero_add]; exact hfit i hi) hf hlo d (fun H1 locs1 hP1 hD1 hS1 => ?_)
  rw [e0, kcp_eq] at hP1 hD1
  exact k H1 locs1 L hP1 hD1 hS1 hL
end ZA
/-- a constructor's end: the world of a new object at a -/
def zn (a : Nat) (P : (Nat → Nat) → va_W) : Option Value → va_W → va_W → Prop := fun v wa wb => v = none ∧ ∃ q : Nat → Nat, q 0 = a ∧ wa ++ wb = P q
/-- behind a constructor's call -/
theorem zkn {G : Option Value → va_W → Prop} {a : Nat} {P : (Nat → Nat) → va_W} {w wc : va_W} {ps : List Nat} (hc : wc.length = 1) (k : ∀ q : Nat → Nat, q 0 = a → G none (wput w ps ((P q).take 1) ++ (P q).drop 1)) : ∀ (v1 : Option Value) (wa wb : va_W), zn a P v1 wa wb → wa.map Prod.fst = wc.map Prod.fst → G v1 (wput w ps wa ++ wb) := by
  rintro v1 wa wb ⟨rfl, q, hq, hw⟩ hadr
  have h1 : wa.length = 1 := by rw [← hc]; simpa using congrArg List.length hadr
  have h2 := k q hq
  rw [← hw] at h2
  rw [List.take_append_of_le_length (by omega), List.take_of_length_le (by omega), List.drop_append_of_le_length (by omega), List.drop_of_length_le (by omega), List.nil_append] at h2
  exact h2
section ZI
variable {p : Program} {l : Launch} {e : Env} {R : Room} {s : State} {m : MethodId} {args : Array Value} {below : List Frame} {meth : Method} {c : Code} {D : va_G} {A : Nat → Prop} {nL : Nat} {Q : State → Prop} {cells slots pc mc ms fr lo mL : Nat} {ls : List (Option Value)} {rest : List Value} {w wc : va_W} {own : String} {cc cb : ByteArray} {ct : Nat → ClassId} {po : Option Value → va_W → va_W → Prop} {y : MethodName} {As : List Value} {b ix : Nat} {host : String}
/-- a constructor of a nest mate -/
theorem z_callIN (ps : List Nat) (h : zC p s m meth c args own nL cc D ct A) (hM : zT l D ct y cb mL none fr lo mc ms (.ref b :: As) wc po)
    (hl : Cond.methodLinkNest own ix y host ∈ NW) (hi : Cond.instanceMethod y ∈ BW) (hini : Cond.initialized y.cls ∈ BW) (hco : Cond.code y cb mL none ∈ BW) (hyn : y.name = "<init>")
    (nA : Nat) (hd : y.cls ≠ "java/lang/invoke/MethodHandle" ∧ y.cls ≠ "java/lang/invoke/VarHandle" ∧ (parseMethodDescriptor y.desc).map (fun d => d.parameters.length) = some nA) (hlen : As.length = nA)
    (hnd : va_nd ps = true) (hps : ps.map (fun i => w[i]?) = wc.map some)
    (hR : fr + 1 ≤ R.frames ∧ 8 + (mL + 11) + lo ≤ R.locals) (hrs : (rest.map fun v => v.category).sum ≤ 8) (hf : cells + mc ≤ R.cells ∧ slots + ms ≤ R.slots) {st0 : List Value} (hst : st0 = As.reverse ++ .ref b :: rest) (d : decode cc pc = .ok (.invokespecial ix, 3))
    (kk : ∀ (v : Option Value) (wa wb : va_W), po v wa wb → wa.map Prod.fst = wc.map Prod.fst → zG p l e R s m args below meth c D A nL Q (cells + mc) (slots + ms) (pc + 3) ls (v.toList ++ rest) (wput w ps wa ++ wb)) : zG p l e R s m args below meth c D A nL Q cells slots pc ls st0 w := by
  refine zcall (free := fun _ => True) (a := (Value.ref b :: As).toArray) h hnd hps (fun H locs L hLs hP hD hPc hDc => ?_) kk
  have hts := z_hts h
  have cb0 : va_CN R s args own ix y host cb mL none (.code y cb mL none :: BW) { frames := fr, cells := mc, slots := ms, locals := lo } mc ms nA := va_cnB nA hts (BW_cons hco) rfl rfl rfl ((z_N h).1 _ hl) (hts _ hini) hd hR
  exact va_runIN (Ts := BW) ⟨z_exec h, z_code h, h.2.2.1, z_own h, hts⟩ (hM H.size) ⟨cb0, hyn, hts _ hi⟩ ⟨zblind, fun U hU hW => ⟨rfl, zpre h hPc hDc hU hW⟩⟩ rfl hlen hLs hst (lv_room hrs) d hf
/-- a constructor, from another class -/
theorem z_callI (ps : List Nat) (h : zC p s m meth c args own nL cc D ct A) (hM : zT l D ct y cb mL none fr lo mc ms (.ref b :: As) wc po)
    (hl : Cond.methodLink own ix y ∈ BW) (hi : Cond.instanceMethod y ∈ BW) (hini : Cond.initialized y.cls ∈ BW) (hco : Cond.code y cb mL none ∈ BW) (hyn : y.name = "<init>")
    (nA : Nat) (hd : y.cls ≠ "java/lang/invoke/MethodHandle" ∧ y.cls ≠ "java/lang/invoke/VarHandle" ∧ (parseMethodDescriptor y.desc).map (fun d => d.parameters.length) = some nA) (hlen : As.length = nA)
    (hnd : va_nd ps = true) (hps : ps.map (fun i => w[i]?) = wc.map some)
    (hR : fr + 1 ≤ R.frames ∧ 8 + (mL + 11) + lo ≤ R.locals) (hrs : (rest.map fun v => v.category).sum ≤ 8) (hf : cells + mc ≤ R.cells ∧ slots + ms ≤ R.slots) {st0 : List Value} (hst : st0 = As.reverse ++ .ref b :: rest) (d : decode cc pc = .ok (.invokespecial ix, 3))
    (kk : ∀ (v : Option Value) (wa wb : va_W), po v wa wb → wa.map Prod.fst = wc.map Prod.fst → zG p l e R s m args below meth c D A nL Q (cells + mc) (slots + ms) (pc + 3) ls (v.toList ++ rest) (wput w ps wa ++ wb)) : zG p l e R s m args below meth c D A nL Q cells slots pc ls st0 w := by
  refine zcall (free := fun _ => True) (a := (Value.ref b :: As).toArray) h hnd hps (fun H locs L hLs hP hD hPc hDc => ?_) kk
  have hts := z_hts h
  have cb0 : CallB R s args own ix y cb mL none (.code y cb mL none :: BW) { frames := fr, cells := mc, slots := ms, locals := lo } mc ms nA := callB_of nA hts (BW_cons hco) rfl rfl rfl (hts _ hini) (hts _ hl) hd hR
  exact va_runI (Ts := BW) ⟨z_exec h, z_code h, h.2.2.1, z_own h, hts⟩ (hM H.size) ⟨cb0, hyn, hts _ hi⟩ ⟨zblind, fun U hU hW => ⟨rfl, zpre h hPc hDc hU hW⟩⟩ rfl hlen hLs hst (lv_room hrs) d hf
end ZI
def msInit1 (i : Nat) (σ : Nat → Nat → Int32) : Nat → Nat → Int32 := u2 (u2 (u2 σ 2 (nI i).toNatClampNeg (vp_nar .boolean 1)) 3 (nI i).toNatClampNeg (-1)) 4 (nI i).toNatClampNeg (if nI i = 0 then 0 else -1)
def msZero : Nat → Nat → Int32 := fun _ _ => 0
def msInit : Nat → Nat → Int32 := kfor msInit1 10 0 (u2 msZero 0 1 2)
