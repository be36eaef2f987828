/-! P36: THE WHOLE WORLD of the law, in blocks; the saved states as a list -/
theorem pm4 {A M r : va_W} : (M ++ (A ++ r)).Perm (A ++ (M ++ r)) := by
  rw [← List.append_assoc, ← List.append_assoc]
  exact List.Perm.append_right r List.perm_append_comm
def blk (f : Nat → va_W) : List Nat → va_W
  | [] => []
  | i :: t => f i ++ blk f t
theorem blk_perm {f : Nat → va_W} {is js : List Nat} (h : is.Perm js) : (blk f is).Perm (blk f js) := by
  induction h with
  | nil => exact List.Perm.refl _
  | cons x _ ih => exact List.Perm.append_left (f x) ih
  | swap x y t =>
    show (f y ++ (f x ++ blk f t)).Perm (f x ++ (f y ++ blk f t))
    exact pm4
  | trans _ _ h1 h2 => exact h1.trans h2
theorem blk_app {f : Nat → va_W} : ∀ (is js : List Nat), blk f (is ++ js) = blk f is ++ blk f js
  | [], js => rfl
  | i :: t, js => by
    show f i ++ blk f (t ++ js) = (f i ++ blk f t) ++ blk f js
    rw [blk_app t js, List.append_assoc]
theorem blk_congr {f f2 : Nat → va_W} : ∀ (is : List Nat), (∀ i ∈ is, f2 i = f i) → blk f2 is = blk f is
  | [], _ => rfl
  | i :: t, h => by
    show f2 i ++ blk f2 t = f i ++ blk f t
    rw [h i List.mem_cons_self, blk_congr t (fun j hj => h j (List.mem_cons_of_mem _ hj))]
theorem xor6_neg (x : Int32) : x ^^^ 6 < 0 ↔ x < 0 := by
  rw [neg_msb, neg_msb, Int32.toBitVec_xor, BitVec.msb_xor]
  have h : (6 : Int32).toBitVec.msb = false := by decide
  rw [h]
  simp
theorem mFloor_6 {t : Nat} (ht : t < 2 ^ 31) : mFloor (nI t) 6 = nI (t % 6) := by
  unfold mFloor
  rw [if_neg (fun q => absurd ((xor6_neg _).mp q.1) (nI_pos ht)), show (6 : Int32) = nI 6 from rfl, pk_rem ht (by decide) (by decide)]

abbrev OG := Nat → Option ((Nat → Nat) × TB)
def lwF (b : Nat) (qs qt qh qx : Nat → Nat) (σ ρ : TB) (o z : Int32) (rg : Nat → Option Nat) (og : OG) (ct : Nat → ClassId) : Nat → va_W
  | 0 => [cN b qs qt qh qx]
  | 1 => cS qs σ ct
  | 2 => cS qt ρ ct
  | 3 => cH qh o z rg ct
  | k + 4 => cO (og k) ct
abbrev all10 : List Nat := [0, 1, 2, 3, 4, 5, 6, 7, 8, 9]
def lwW (b : Nat) (qs qt qh qx : Nat → Nat) (σ ρ : TB) (o z : Int32) (rg : Nat → Option Nat) (og : OG) (ct : Nat → ClassId) : va_W := blk (lwF b qs qt qh qx σ ρ o z rg og ct) all10
/-- the saved states, the newest first, as the ring holds them -/
def hOK (hs : List TB) (o z : Int32) (rg : Nat → Option Nat) (og : OG) : Prop :=
  ∃ o' : Nat, o = nI o' ∧ o' < 6 ∧ z = nI hs.length ∧ hs.length ≤ 6 ∧ (∀ j, j < 6 → rg j = ogA (og j)) ∧ ∀ i, i < hs.length → ∃ g, og ((o' + i) % 6) = some g ∧ hs[hs.length - 1 - i]? = some g.2
/-- no saved state's cells are lost -/
def oxt (og og2 : OG) : Prop := ∀ j g, og j = some g → ∃ γ, og2 j = some (g.1, γ)
theorem oxt_rf {og : OG} : oxt og og := fun _ g h => ⟨g.2, h⟩
theorem oxt_tr {og og2 og3 : OG} (h : oxt og og2) (h2 : oxt og2 og3) : oxt og og3 := fun j g hj => by
  obtain ⟨γ, e⟩ := h j g hj
  exact h2 j (g.1, γ) e
def push (σ : TB) (hs : List TB) : List TB := (σ :: hs).take 6
theorem hOK_save {hs : List TB} {o z : Int32} {rg : Nat → Option Nat} {og : OG} (h : hOK hs o z rg og) : ∃ j, j < 6 ∧ mFloor (o + z) 6 = nI j ∧ rg j = ogA (og j) ∧
    ∀ (g' : Nat → Nat) (σ : TB), (∀ g, og j = some g → g' = g.1) → hOK (push σ hs) (mhO o z) (mhZ z) (va_up rg j (some (g' 0))) (fun i => if i = j then some (g', σ) else og i) ∧ oxt og (fun i => if i = j then some (g', σ) else og i) := by
  obtain ⟨o', a1, a2, a3, a4, a6, a7⟩ := h
  obtain ⟨z', ez'⟩ : ∃ x, x = hs.length := ⟨_, rfl⟩
  rw [← ez'] at a3 a4 a7
  have hj : (o' + z') % 6 < 6 := Nat.mod_lt _ (by decide)
  refine ⟨(o' + z') % 6, hj, ?_, a6 _ hj, fun g' σ hg => ?_⟩
  · rw [a1, a3, nI_add, mFloor_6 (by omega)]
  obtain ⟨j, ej⟩ : ∃ x, x = (o' + z') % 6 := ⟨_, rfl⟩
  rw [← ej] at hj hg ⊢
  have hrg : ∀ i, i < 6 → va_up rg j (some (g' 0)) i = ogA (if i = j then some (g', σ) else og i) := fun i hi => by
    unfold va_up
    by_cases c : i = j
    · rw [if_pos c, if_pos c]; rfl
    · rw [if_neg c, if_neg c]; exact a6 i hi
  have hx : oxt og (fun i => if i = j then some (g', σ) else og i) := fun i g hi => by
    by_cases c : i = j
    · exact ⟨σ, by show (if i = j then some (g', σ) else og i) = _; rw [if_pos c, hg g (by rw [← c]; exact hi)]⟩
    · exact ⟨g.2, by show (if i = j then some (g', σ) else og i) = _; rw [if_neg c, hi]⟩
  refine ⟨?_, hx⟩
  by_cases c6 : z' = 6
  · have el : (push σ hs).length = 6 := by unfold push; rw [List.length_take, List.length_cons]; omega
    have eo : mhO o z = nI ((o' + 1) % 6) := by
      unfold mhO
      rw [a3, c6, if_pos (show (6 : Int32) ≤ nI 6 by decide), a1, nI_1, mFloor_6 (by omega)]
    have ez : mhZ z = nI 6 := by unfold mhZ; rw [a3, c6, if_pos (show (6 : Int32) ≤ nI 6 by decide)]
    refine ⟨(o' + 1) % 6, eo, Nat.mod_lt _ (by decide), by rw [el]; exact ez, by omega, hrg, fun i hi => ?_⟩
    rw [el] at hi ⊢
    by_cases ci : i = 5
    · subst ci
      refine ⟨(g', σ), if_pos (by omega), ?_⟩
      rfl
    · obtain ⟨g, g1, g2⟩ := a7 (i + 1) (by omega)
      refine ⟨g, ?_, ?_⟩
      · rw [show ((o' + 1) % 6 + i) % 6 = (o' + (i + 1)) % 6 by omega]
        exact (if_neg (by omega)).trans g1
      · unfold push
        rw [List.getElem?_take, if_pos (by omega), show 6 - 1 - i = (z' - 1 - (i + 1)) + 1 by omega, List.getElem?_cons_succ]
        exact g2
  · have el : (push σ hs).length = z' + 1 := by unfold push; rw [List.length_take, List.length_cons]; omega
    have eo : mhO o z = nI o' := by
      unfold mhO
      rw [a3, show (6 : Int32) = nI 6 from rfl, if_neg (nI_ge (by omega) (by decide))]; exact a1
    have ez : mhZ z = nI (z' + 1) := by
      unfold mhZ
      rw [a3, show (6 : Int32) = nI 6 from rfl, if_neg (nI_ge (by omega) (by decide)), nI_1]
    refine ⟨o', eo, a2, by rw [el]; exact ez, by omega, hrg, fun i hi => ?_⟩
    rw [el] at hi ⊢
    by_cases ci : i = z'
    · subst ci
      refine ⟨(g', σ), if_pos ej.symm, ?_⟩
      rw [show i + 1 - 1 - i = 0 by omega]
      rfl
    · obtain ⟨g, g1, g2⟩ := a7 i (by omega)
      refine ⟨g, (if_neg (by omega)).trans g1, ?_⟩
      unfold push
      rw [List.getElem?_take, if_pos (by omega), show z' + 1 - 1 - i = (z' - 1 - i) + 1 by omega, List.getElem?_cons_succ]
      exact g2
theorem hOK_undo {γ : TB} {hs : List TB} {o z : Int32} {rg : Nat → Option Nat} {og : OG} (h : hOK (γ :: hs) o z rg og) : ∃ (j : Nat) (g : Nat → Nat), ¬ z = 0 ∧ j < 6 ∧ mFloor (o + z - 1) 6 = nI j ∧ og j = some (g, γ) ∧ rg j = some (g 0) ∧ (if z ≤ 0 then z else z - 1) = nI hs.length ∧ hOK hs o (nI hs.length) rg og := by
  obtain ⟨o', a1, a2, a3, a4, a6, a7⟩ := h
  have el : (γ :: hs).length = hs.length + 1 := rfl
  obtain ⟨n, en⟩ : ∃ x, x = hs.length := ⟨_, rfl⟩
  rw [el, ← en] at a3 a4
  rw [← en]
  have hj : (o' + n) % 6 < 6 := Nat.mod_lt _ (by decide)
  obtain ⟨g, g1, g2⟩ := a7 n (by rw [el, ← en]; omega)
  rw [el, ← en, show n + 1 - 1 - n = 0 by omega] at g2
  have eg : γ = g.2 := Option.some.inj g2
  have g3 : og ((o' + n) % 6) = some (g.1, γ) := by rw [g1, eg]
  refine ⟨(o' + n) % 6, g.1, by rw [a3]; exact nI_ne0 (by omega) (by omega), hj, ?_, g3, by rw [a6 _ hj, g3]; rfl, ?_, o', a1, a2, by rw [en], by omega, a6, fun i hi => ?_⟩
  · rw [a1, a3, nI_add, show (1 : Int32) = nI 1 from rfl, pk_sub (by omega), mFloor_6 (by omega), show o' + (n + 1) - 1 = o' + n by omega]
  · rw [a3, if_neg (nI_nle (by omega) (by omega)), nI_pred]
  · obtain ⟨g4, g5, g6⟩ := a7 i (by rw [el]; omega)
    refine ⟨g4, g5, ?_⟩
    rw [el, show hs.length + 1 - 1 - i = (hs.length - 1 - i) + 1 by omega, List.getElem?_cons_succ] at g6
    exact g6
theorem hOK_init : hOK [] 0 0 (fun _ => none) (fun _ => none) := ⟨0, rfl, by omega, rfl, by decide, fun _ _ => rfl, fun i hi => absurd hi (Nat.not_lt_zero _)⟩
theorem blk_adr {f f2 : Nat → va_W} : ∀ (is : List Nat), (∀ i ∈ is, ∃ C, (f2 i).map Prod.fst = (f i).map Prod.fst ++ C) → ∃ B, ((blk f2 is).map Prod.fst).Perm ((blk f is).map Prod.fst ++ B)
  | [], _ => ⟨[], List.Perm.refl _⟩
  | i :: t, h => by
    obtain ⟨C, hC⟩ := h i List.mem_cons_self
    obtain ⟨B, hB⟩ := blk_adr t (fun j hj => h j (List.mem_cons_of_mem _ hj))
    refine ⟨C ++ B, ?_⟩
    show ((f2 i ++ blk f2 t).map Prod.fst).Perm ((f i ++ blk f t).map Prod.fst ++ (C ++ B))
    rw [List.map_append, List.map_append, hC, List.append_assoc, List.append_assoc]
    refine List.Perm.append_left _ ?_
    refine (List.Perm.append_left C hB).trans ?_
    rw [← List.append_assoc, ← List.append_assoc]
    exact List.Perm.append_right B List.perm_append_comm
theorem lwW_adr {b : Nat} {qs qt qh qx : Nat → Nat} {σ ρ σ2 ρ2 : TB} {o z o2 z2 : Int32} {rg rg2 : Nat → Option Nat} {og og2 : OG} {ct : Nat → ClassId} (h : oxt og og2) : ∃ B, ((lwW b qs qt qh qx σ2 ρ2 o2 z2 rg2 og2 ct).map Prod.fst).Perm ((lwW b qs qt qh qx σ ρ o z rg og ct).map Prod.fst ++ B) := by
  refine blk_adr all10 (fun i _ => ?_)
  match i with
  | 0 => exact ⟨[], (List.append_nil _).symm⟩
  | 1 => exact ⟨[], (List.append_nil _).symm⟩
  | 2 => exact ⟨[], (List.append_nil _).symm⟩
  | 3 => exact ⟨[], (List.append_nil _).symm⟩
  | k + 4 =>
    show ∃ C, (cO (og2 k) ct).map Prod.fst = (cO (og k) ct).map Prod.fst ++ C
    cases hk : og k with
    | none => exact ⟨_, (List.nil_append _).symm⟩
    | some g =>
      obtain ⟨γ, e⟩ := h k g hk
      rw [e]
      exact ⟨[], (List.append_nil _).symm⟩
/-- how a method of the law ends: its answer, the state and the saved states then -/
def lwP (b : Nat) (qs qt qh qx : Nat → Nat) (og0 : OG) (ct : Nat → ClassId) (v0 : Option Value) (σ1 : TB) (hs1 : List TB) : Option Value → va_W → va_W → Prop := fun v wa wb =>
  v = v0 ∧ ∃ (ρ : TB) (o z : Int32) (rg : Nat → Option Nat) (og : OG), hOK hs1 o z rg og ∧ oxt og0 og ∧ (wa ++ wb).Perm (lwW b qs qt qh qx σ1 ρ o z rg og ct)
theorem ps_all {w : va_W} : (List.range w.length).map (fun i => w[i]?) = w.map some := by
  have h := rng_ps (wc := w) (rest := [])
  rwa [List.append_nil] at h
section WR
variable {p : Program} {l : Launch} {e : Env} {R : Room} {s : State} {m : MethodId} {args : Array Value} {below : List Frame} {meth : Method} {c : Code} {D : va_G} {A : Nat → Prop} {nL : Nat} {Q : State → Prop} {cells slots pc mc ms fr lo mL ix : Nat} {ls : List (Option Value)} {rest : List Value} {own : String} {cc cb : ByteArray} {ct : Nat → ClassId} {y : MethodName} {ret : Option FieldType} {As : List Value} {hh : List (Nat × Nat × Nat × Nat)}
variable {b : Nat} {qs qt qh qx : Nat → Nat} {σ ρ σ1 ρ0 σ0 : TB} {o z o0 z0 : Int32} {rg rg0 : Nat → Option Nat} {og og0 : OG} {hs hs1 : List TB} {v0 : Option Value} {w0 : va_W}
theorem z_iretW {v : Int32} (h : zC p s m meth c args own nL cc D ct (va_A (lwW b qs qt qh qx σ0 ρ0 o0 z0 rg0 og0 ct) s.heap.size)) (hr : meth.sig.returnType = some .int) (d : decode cc pc = .ok (.ireturn, 1)) (hc : cells ≤ mc) (hsl : slots ≤ ms) (hok : hOK hs o z rg og) (hx : oxt og0 og) :
    zG p l e R s m args below meth c D (va_A (lwW b qs qt qh qx σ0 ρ0 o0 z0 rg0 og0 ct) s.heap.size) nL (MQ below (zQ D ct (lwW b qs qt qh qx σ0 ρ0 o0 z0 rg0 og0 ct) s.heap.size (lwP b qs qt qh qx og0 ct (some (.int v)) σ hs)) args s mc ms (va_A (lwW b qs qt qh qx σ0 ρ0 o0 z0 rg0 og0 ct) s.heap.size)) cells slots pc ls [.int v] (lwW b qs qt qh qx σ ρ o z rg og ct) := by
  obtain ⟨B, hB⟩ := lwW_adr (b := b) (qs := qs) (qt := qt) (qh := qh) (qx := qx) (σ := σ0) (ρ := ρ0) (σ2 := σ) (ρ2 := ρ) (o := o0) (z := z0) (o2 := o) (z2 := z) (rg := rg0) (rg2 := rg) (ct := ct) hx
  obtain ⟨wa, wb, h1, h2⟩ := split_adr hB
  refine zG_perm h1 ?_
  exact z_iret h hr d hc hsl (wa := wa) (wb := wb) ⟨rfl, ρ, o, z, rg, og, hok, hx, h1.symm⟩ rfl h2
theorem z_zretW {v : Int32} {ty : FieldType} (h : zC p s m meth c args own nL cc D ct (va_A (lwW b qs qt qh qx σ0 ρ0 o0 z0 rg0 og0 ct) s.heap.size)) (hr : meth.sig.returnType = some ty) (hn : narrow ty (.int v) = .int v) (d : decode cc pc = .ok (.ireturn, 1)) (hc : cells ≤ mc) (hsl : slots ≤ ms) (hok : hOK hs o z rg og) (hx : oxt og0 og) :
    zG p l e R s m args below meth c D (va_A (lwW b qs qt qh qx σ0 ρ0 o0 z0 rg0 og0 ct) s.heap.size) nL (MQ below (zQ D ct (lwW b qs qt qh qx σ0 ρ0 o0 z0 rg0 og0 ct) s.heap.size (lwP b qs qt qh qx og0 ct (some (.int v)) σ hs)) args s mc ms (va_A (lwW b qs qt qh qx σ0 ρ0 o0 z0 rg0 og0 ct) s.heap.size)) cells slots pc ls [.int v] (lwW b qs qt qh qx σ ρ o z rg og ct) := by
  obtain ⟨B, hB⟩ := lwW_adr (b := b) (qs := qs) (qt := qt) (qh := qh) (qx := qx) (σ := σ0) (ρ := ρ0) (σ2 := σ) (ρ2 := ρ) (o := o0) (z := z0) (o2 := o) (z2 := z) (rg := rg0) (rg2 := rg) (ct := ct) hx
  obtain ⟨wa, wb, h1, h2⟩ := split_adr hB
  refine zG_perm h1 ?_
  exact z_zret h hr hn d hc hsl (wa := wa) (wb := wb) ⟨rfl, ρ, o, z, rg, og, hok, hx, h1.symm⟩ rfl h2
theorem kkW {G : Option Value → va_W → Prop} {w : va_W} (kk : ∀ (ρ2 : TB) (o2 z2 : Int32) (rg2 : Nat → Option Nat) (og2 : OG), hOK hs1 o2 z2 rg2 og2 → oxt og og2 → ∀ w2 : va_W, w2.Perm (lwW b qs qt qh qx σ1 ρ2 o2 z2 rg2 og2 ct) → G v0 w2) :
    ∀ (v : Option Value) (wa wb : va_W), lwP b qs qt qh qx og ct v0 σ1 hs1 v wa wb → wa.map Prod.fst = w.map Prod.fst → G v (wput w (List.range w.length) wa ++ wb) := by
  rintro v wa wb ⟨rfl, ρ2, o2, z2, rg2, og2, h1, h2, h3⟩ had
  rw [wput_all (fst_len had)]
  exact kk ρ2 o2 z2 rg2 og2 h1 h2 _ h3
/-- the law's methods called over the whole world -/
theorem z_callHW (h : zC p s m meth c args own nL cc D ct A) (hok : hOK hs o z rg og) (hM : ∀ (ρ : TB) (o z : Int32) (rg : Nat → Option Nat) (og : OG), hOK hs o z rg og → zH l D ct y cb mL ret hh fr lo mc ms As (lwW b qs qt qh qx σ ρ o z rg og ct) (lwP b qs qt qh qx og ct v0 σ1 hs1))
    (hl : Cond.methodLink own ix y ∈ BW) (hi : Cond.static y ∈ BW) (hini : Cond.initialized y.cls ∈ BW) (hco : Cond.codeWith y cb mL ret hh ∈ BW)
    (nA : Nat) (hd : y.cls ≠ "java/lang/invoke/MethodHandle" ∧ y.cls ≠ "java/lang/invoke/VarHandle" ∧ (parseMethodDescriptor y.desc).map (fun d => d.parameters.length) = some nA) (hlen : As.length = nA)
    (hR : fr + 1 ≤ R.frames ∧ 8 + (mL + 11) + lo ≤ R.locals) (hrs : (rest.map fun v => v.category).sum ≤ 8) (hf : cells + mc ≤ R.cells ∧ slots + ms ≤ R.slots) {st0 : List Value} (hst : st0 = As.reverse ++ rest) (d : decode cc pc = .ok (.invokestatic ix, 3))
    (kk : ∀ (ρ2 : TB) (o2 z2 : Int32) (rg2 : Nat → Option Nat) (og2 : OG), hOK hs1 o2 z2 rg2 og2 → oxt og og2 → zG p l e R s m args below meth c D A nL Q (cells + mc) (slots + ms) (pc + 3) ls (v0.toList ++ rest) (lwW b qs qt qh qx σ1 ρ2 o2 z2 rg2 og2 ct)) : zG p l e R s m args below meth c D A nL Q cells slots pc ls st0 (lwW b qs qt qh qx σ ρ o z rg og ct) :=
  z_callH (List.range (lwW b qs qt qh qx σ ρ o z rg og ct).length) h (hM ρ o z rg og hok) hl hi hini hco nA hd hlen (rng_nd _) ps_all hR hrs hf hst d (kkW (G := fun v w => zG p l e R s m args below meth c D A nL Q (cells + mc) (slots + ms) (pc + 3) ls (v.toList ++ rest) w) (fun ρ2 o2 z2 rg2 og2 h1 h2 w2 h3 => zG_perm h3 (kk ρ2 o2 z2 rg2 og2 h1 h2)))
theorem z_callTW (h : zC p s m meth c args own nL cc D ct A) (hok : hOK hs o z rg og) (hM : ∀ (ρ : TB) (o z : Int32) (rg : Nat → Option Nat) (og : OG), hOK hs o z rg og → zT l D ct y cb mL ret fr lo mc ms As (lwW b qs qt qh qx σ ρ o z rg og ct) (lwP b qs qt qh qx og ct v0 σ1 hs1))
    (hl : Cond.methodLink own ix y ∈ BW) (hi : Cond.static y ∈ BW) (hini : Cond.initialized y.cls ∈ BW) (hco : Cond.code y cb mL ret ∈ BW)
    (nA : Nat) (hd : y.cls ≠ "java/lang/invoke/MethodHandle" ∧ y.cls ≠ "java/lang/invoke/VarHandle" ∧ (parseMethodDescriptor y.desc).map (fun d => d.parameters.length) = some nA) (hlen : As.length = nA)
    (hR : fr + 1 ≤ R.frames ∧ 8 + (mL + 11) + lo ≤ R.locals) (hrs : (rest.map fun v => v.category).sum ≤ 8) (hf : cells + mc ≤ R.cells ∧ slots + ms ≤ R.slots) {st0 : List Value} (hst : st0 = As.reverse ++ rest) (d : decode cc pc = .ok (.invokestatic ix, 3))
    (kk : ∀ (ρ2 : TB) (o2 z2 : Int32) (rg2 : Nat → Option Nat) (og2 : OG), hOK hs1 o2 z2 rg2 og2 → oxt og og2 → zG p l e R s m args below meth c D A nL Q (cells + mc) (slots + ms) (pc + 3) ls (v0.toList ++ rest) (lwW b qs qt qh qx σ1 ρ2 o2 z2 rg2 og2 ct)) : zG p l e R s m args below meth c D A nL Q cells slots pc ls st0 (lwW b qs qt qh qx σ ρ o z rg og ct) :=
  z_callS (List.range (lwW b qs qt qh qx σ ρ o z rg og ct).length) h (hM ρ o z rg og hok) hl hi hini hco nA hd hlen (rng_nd _) ps_all hR hrs hf hst d (kkW (G := fun v w => zG p l e R s m args below meth c D A nL Q (cells + mc) (slots + ms) (pc + 3) ls (v.toList ++ rest) w) (fun ρ2 o2 z2 rg2 og2 h1 h2 w2 h3 => zG_perm h3 (kk ρ2 o2 z2 rg2 og2 h1 h2)))
theorem z_callLW (h : zC p s m meth c args own nL cc D ct A) (hX : wX A s s.heap) (hok : hOK hs o z rg og) (hM : ∀ (ρ : TB) (o z : Int32) (rg : Nat → Option Nat) (og : OG), hOK hs o z rg og → zL l D ct y cb mL ret hh fr lo mc ms As (lwW b qs qt qh qx σ ρ o z rg og ct) (lwP b qs qt qh qx og ct v0 σ1 hs1))
    (hl : Cond.methodLink own ix y ∈ BW) (hi : Cond.static y ∈ BW) (hini : Cond.initialized y.cls ∈ BW) (hco : Cond.codeWith y cb mL ret hh ∈ BW)
    (nA : Nat) (hd : y.cls ≠ "java/lang/invoke/MethodHandle" ∧ y.cls ≠ "java/lang/invoke/VarHandle" ∧ (parseMethodDescriptor y.desc).map (fun d => d.parameters.length) = some nA) (hlen : As.length = nA)
    (hR : fr + 1 ≤ R.frames ∧ 8 + (mL + 11) + lo ≤ R.locals) (hrs : (rest.map fun v => v.category).sum ≤ 8) (hf : cells + mc ≤ R.cells ∧ slots + ms ≤ R.slots) {st0 : List Value} (hst : st0 = As.reverse ++ rest) (d : decode cc pc = .ok (.invokestatic ix, 3))
    (kk : ∀ (ρ2 : TB) (o2 z2 : Int32) (rg2 : Nat → Option Nat) (og2 : OG), hOK hs1 o2 z2 rg2 og2 → oxt og og2 → zG p l e R s m args below meth c D A nL Q (cells + mc) (slots + ms) (pc + 3) ls (v0.toList ++ rest) (lwW b qs qt qh qx σ1 ρ2 o2 z2 rg2 og2 ct)) : zG p l e R s m args below meth c D A nL Q cells slots pc ls st0 (lwW b qs qt qh qx σ ρ o z rg og ct) :=
  z_callL (List.range (lwW b qs qt qh qx σ ρ o z rg og ct).length) h (hM ρ o z rg og hok) hX hl hi hini hco nA hd hlen (rng_nd _) ps_all hR hrs hf hst d (kkW (G := fun v w => zG p l e R s m args below meth c D A nL Q (cells + mc) (slots + ms) (pc + 3) ls (v.toList ++ rest) w) (fun ρ2 o2 z2 rg2 og2 h1 h2 w2 h3 => zG_perm h3 (kk ρ2 o2 z2 rg2 og2 h1 h2)))
theorem z_callTXW (h : zC p s m meth c args own nL cc D ct A) (hX : wX A s s.heap) (hok : hOK hs o z rg og) (hM : ∀ (ρ : TB) (o z : Int32) (rg : Nat → Option Nat) (og : OG), hOK hs o z rg og → zTX l D ct y cb mL ret fr lo mc ms As (lwW b qs qt qh qx σ ρ o z rg og ct) (lwP b qs qt qh qx og ct v0 σ1 hs1))
    (hl : Cond.methodLink own ix y ∈ BW) (hi : Cond.static y ∈ BW) (hini : Cond.initialized y.cls ∈ BW) (hco : Cond.code y cb mL ret ∈ BW)
    (nA : Nat) (hd : y.cls ≠ "java/lang/invoke/MethodHandle" ∧ y.cls ≠ "java/lang/invoke/VarHandle" ∧ (parseMethodDescriptor y.desc).map (fun d => d.parameters.length) = some nA) (hlen : As.length = nA)
    (hR : fr + 1 ≤ R.frames ∧ 8 + (mL + 11) + lo ≤ R.locals) (hrs : (rest.map fun v => v.category).sum ≤ 8) (hf : cells + mc ≤ R.cells ∧ slots + ms ≤ R.slots) {st0 : List Value} (hst : st0 = As.reverse ++ rest) (d : decode cc pc = .ok (.invokestatic ix, 3))
    (kk : ∀ (ρ2 : TB) (o2 z2 : Int32) (rg2 : Nat → Option Nat) (og2 : OG), hOK hs1 o2 z2 rg2 og2 → oxt og og2 → zG p l e R s m args below meth c D A nL Q (cells + mc) (slots + ms) (pc + 3) ls (v0.toList ++ rest) (lwW b qs qt qh qx σ1 ρ2 o2 z2 rg2 og2 ct)) : zG p l e R s m args below meth c D A nL Q cells slots pc ls st0 (lwW b qs qt qh qx σ ρ o z rg og ct) :=
  z_callTX (List.range (lwW b qs qt qh qx σ ρ o z rg og ct).length) h (hM ρ o z rg og hok) hX hl hi hini hco nA hd hlen (rng_nd _) ps_all hR hrs hf hst d (kkW (G := fun v w => zG p l e R s m args below meth c D A nL Q (cells + mc) (slots + ms) (pc + 3) ls (v.toList ++ rest) w) (fun ρ2 o2 z2 rg2 og2 h1 h2 w2 h3 => zG_perm h3 (kk ρ2 o2 z2 rg2 og2 h1 h2)))
end WR
/-- the rest of the ring -/
def rngJ (j : Nat) : List Nat := [4, 5, 6, 7, 8, 9].erase (j + 4)
theorem rngJ_p : ∀ j, j < 6 → List.Perm all10 ([0, 1, 3, j + 4] ++ 2 :: rngJ j) := by decide
theorem rngJ_in : ∀ j, j < 6 → ∀ i ∈ rngJ j, 4 ≤ i ∧ i ≠ j + 4 := by decide
section WS
variable {p : Program} {l : Launch} {e : Env} {R : Room} {s : State} {m : MethodId} {args : Array Value} {below : List Frame} {meth : Method} {c : Code} {D : va_G} {A : Nat → Prop} {nL : Nat} {Q : State → Prop} {cells slots pc mc ms fr lo mL ix : Nat} {ls : List (Option Value)} {rest : List Value} {own : String} {cc cb : ByteArray} {ct : Nat → ClassId} {y : MethodName} {ret : Option FieldType} {As : List Value}
variable {b : Nat} {qs qt qh qx : Nat → Nat} {σ ρ σ2 : TB} {o z r : Int32} {rg : Nat → Option Nat} {og : OG} {hs : List TB}
theorem e_save {j : Nat} : blk (lwF b qs qt qh qx σ ρ o z rg og ct) [0, 1, 3, j + 4] = [cN b qs qt qh qx] ++ (cS qs σ ct ++ (cH qh o z rg ct ++ cO (og j) ct)) := by
  show [_] ++ (cS qs σ ct ++ (cH qh o z rg ct ++ (cO (og j) ct ++ []))) = _
  rw [List.append_nil]
/-- a public method that saves, called on the network -/
theorem z_callSv (h : zC p s m meth c args own nL cc D ct A) (hok : hOK hs o z rg og) (hy : y.cls = RX4)
    (hM : ∀ (o z : Int32) (rg : Nat → Option Nat) (og1 : Option ((Nat → Nat) × TB)) (j : Nat), j < 6 → mFloor (o + z) 6 = nI j → rg j = ogA og1 → zT l D ct y cb mL ret fr lo 16 1633 (.ref b :: As) ([cN b qs qt qh qx] ++ (cS qs σ ct ++ (cH qh o z rg ct ++ cO og1 ct))) (zS (some (.int r)) [cN b qs qt qh qx] qs qh σ2 (mhO o z) (mhZ z) rg j og1 (msCopy (ogB og1) σ) ct))
    (hl : Cond.methodLink own ix y ∈ BW) (hi : Cond.instanceMethod y ∈ BW) (hse : Cond.selects y.cls y y ∈ BW) (hini : Cond.initialized y.cls ∈ BW) (hco : Cond.code y cb mL ret ∈ BW)
    (nA : Nat) (hd : y.cls ≠ "java/lang/invoke/MethodHandle" ∧ y.cls ≠ "java/lang/invoke/VarHandle" ∧ (parseMethodDescriptor y.desc).map (fun d => d.parameters.length) = some nA) (hlen : As.length = nA)
    (hR : fr + 1 ≤ R.frames ∧ 8 + (mL + 11) + lo ≤ R.locals) (hrs : (rest.map fun v => v.category).sum ≤ 8) (hf : cells + 16 ≤ R.cells ∧ slots + 1633 ≤ R.slots) {st0 : List Value} (hst : st0 = As.reverse ++ .ref b :: rest) (d : decode cc pc = .ok (.invokevirtual ix, 3))
    (kk : ∀ (o2 z2 : Int32) (rg2 : Nat → Option Nat) (og2 : OG), hOK (push σ hs) o2 z2 rg2 og2 → oxt og og2 → zG p l e R s m args below meth c D A nL Q (cells + 16) (slots + 1633) (pc + 3) ls (.int r :: rest) (lwW b qs qt qh qx σ2 ρ o2 z2 rg2 og2 ct)) : zG p l e R s m args below meth c D A nL Q cells slots pc ls st0 (lwW b qs qt qh qx σ ρ o z rg og ct) := by
  obtain ⟨j, hj, h1, h2, h3⟩ := hOK_save hok
  refine zG_perm (blk_perm (rngJ_p j hj)) ?_
  rw [blk_app, e_save]
  have hc : vwCl[4]? = some (y.cls, TX4, 4) := by rw [hy]; rfl
  refine z_callV (List.range ([cN b qs qt qh qx] ++ (cS qs σ ct ++ (cH qh o z rg ct ++ cO (og j) ct))).length) 0 4 h (hM o z rg (og j) j hj h1 h2) hl hi hse hini hco nA hd hlen (rng_nd _) rng_ps hc rfl hR hrs hf hst d ?_
  rintro v wa wb ⟨rfl, g', hg, hw⟩ had
  rw [wput_pre (fst_len had)]
  obtain ⟨k1, k2⟩ := h3 g' σ hg
  have pm : ((wa ++ blk (lwF b qs qt qh qx σ ρ o z rg og ct) (2 :: rngJ j)) ++ wb).Perm ((wa ++ wb) ++ blk (lwF b qs qt qh qx σ ρ o z rg og ct) (2 :: rngJ j)) := by
    rw [List.append_assoc, List.append_assoc]
    exact List.Perm.append_left wa List.perm_append_comm
  refine zG_perm pm ?_
  rw [hw]
  have er : blk (lwF b qs qt qh qx σ ρ o z rg og ct) (2 :: rngJ j) = blk (lwF b qs qt qh qx σ2 ρ (mhO o z) (mhZ z) (va_up rg j (some (g' 0))) (fun i => if i = j then some (g', σ) else og i) ct) (2 :: rngJ j) := by
    refine (blk_congr _ (fun x hx => ?_)).symm
    rcases List.mem_cons.mp hx with rfl | hx
    · rfl
    obtain ⟨h4, h5⟩ := rngJ_in j hj x hx
    obtain ⟨k, rfl⟩ : ∃ k, x = k + 4 := ⟨x - 4, by omega⟩
    show cO (if k = j then some (g', σ) else og k) ct = cO (og k) ct
    rw [if_neg (by omega)]
  have es : [cN b qs qt qh qx] ++ (cS qs σ2 ct ++ (cH qh (mhO o z) (mhZ z) (va_up rg j (some (g' 0))) ct ++ cS g' (msCopy (ogB (og j)) σ) ct)) = blk (lwF b qs qt qh qx σ2 ρ (mhO o z) (mhZ z) (va_up rg j (some (g' 0))) (fun i => if i = j then some (g', σ) else og i) ct) [0, 1, 3, j + 4] := by
    rw [e_save, if_pos rfl]
    rfl
  rw [er, es, ← blk_app]
  exact zG_perm (blk_perm (rngJ_p j hj)).symm (kk _ _ _ _ k1 k2)
/-- undo, called on the network -/
theorem z_callUn {γ : TB} (h : zC p s m meth c args own nL cc D ct A) (hok : hOK (γ :: hs) o z rg og) (hy : y.cls = RX4)
    (hM : ∀ (gq : Nat → Nat) (o z : Int32) (rg : Nat → Option Nat) (j : Nat), ¬ z = 0 → j < 6 → mFloor (o + z - 1) 6 = nI j → rg j = some (gq 0) → zT l D ct y cb mL ret fr lo 0 0 [.ref b] ([cN b qs qt qh qx] ++ (cS qs σ ct ++ (cH qh o z rg ct ++ cS gq γ ct))) (zd (some (.int (if z ≤ 0 then z else z - 1))) ([cN b qs qt qh qx] ++ (cS qs (msCopy σ γ) ct ++ (cH qh o (if z ≤ 0 then z else z - 1) rg ct ++ cS gq γ ct)))))
    (hl : Cond.methodLink own ix y ∈ BW) (hi : Cond.instanceMethod y ∈ BW) (hse : Cond.selects y.cls y y ∈ BW) (hini : Cond.initialized y.cls ∈ BW) (hco : Cond.code y cb mL ret ∈ BW)
    (hd : y.cls ≠ "java/lang/invoke/MethodHandle" ∧ y.cls ≠ "java/lang/invoke/VarHandle" ∧ (parseMethodDescriptor y.desc).map (fun d => d.parameters.length) = some 0)
    (hR : fr + 1 ≤ R.frames ∧ 8 + (mL + 11) + lo ≤ R.locals) (hrs : (rest.map fun v => v.category).sum ≤ 8) (hf : cells + 0 ≤ R.cells ∧ slots + 0 ≤ R.slots) (d : decode cc pc = .ok (.invokevirtual ix, 3))
    (kk : ∀ (o2 z2 : Int32) (rg2 : Nat → Option Nat) (og2 : OG), hOK hs o2 z2 rg2 og2 → oxt og og2 → zG p l e R s m args below meth c D A nL Q (cells + 0) (slots + 0) (pc + 3) ls (.int (nI hs.length) :: rest) (lwW b qs qt qh qx γ ρ o2 z2 rg2 og2 ct)) : zG p l e R s m args below meth c D A nL Q cells slots pc ls (.ref b :: rest) (lwW b qs qt qh qx σ ρ o z rg og ct) := by
  obtain ⟨j, g, hz, hj, h1, h2, h3, h4, h5⟩ := hOK_undo hok
  refine zG_perm (blk_perm (rngJ_p j hj)) ?_
  rw [blk_app, e_save, h2]
  have hc : vwCl[4]? = some (y.cls, TX4, 4) := by rw [hy]; rfl
  have e0 : cO (some (g, γ)) ct = cS g γ ct := rfl
  rw [e0]
  refine z_callV (As := []) (List.range ([cN b qs qt qh qx] ++ (cS qs σ ct ++ (cH qh o z rg ct ++ cS g γ ct))).length) 0 4 h (hM g o z rg j hz hj h1 h3) hl hi hse hini hco 0 hd rfl (rng_nd _) rng_ps hc rfl hR hrs hf rfl d ?_
  rintro v wa wb ⟨rfl, rfl, rfl⟩ had
  rw [wput_pre (fst_len had), List.append_nil, h4]
  have er : blk (lwF b qs qt qh qx σ ρ o z rg og ct) (2 :: rngJ j) = blk (lwF b qs qt qh qx γ ρ o (nI hs.length) rg og ct) (2 :: rngJ j) := by
    refine (blk_congr _ (fun x hx => ?_)).symm
    rcases List.mem_cons.mp hx with rfl | hx
    · rfl
    obtain ⟨h6, h7⟩ := rngJ_in j hj x hx
    obtain ⟨k, rfl⟩ : ∃ k, x = k + 4 := ⟨x - 4, by omega⟩
    rfl
  have es : [cN b qs qt qh qx] ++ (cS qs (msCopy σ γ) ct ++ (cH qh o (nI hs.length) rg ct ++ cS g γ ct)) = blk (lwF b qs qt qh qx γ ρ o (nI hs.length) rg og ct) [0, 1, 3, j + 4] := by
    rw [e_save, h2]
    rfl
  rw [er, es, ← blk_app]
  exact zG_perm (blk_perm (rngJ_p j hj)).symm (kk _ _ _ _ h5 oxt_rf)
/-- a method that tries things out, called on the network -/
theorem z_callTr {ρ2 : TB} {v0 : Option Value} (h : zC p s m meth c args own nL cc D ct A) (hy : y.cls = RX4)
    (hM : zT l D ct y cb mL ret fr lo 0 0 (.ref b :: As) ([cN b qs qt qh qx] ++ (cS qs σ ct ++ cS qt ρ ct)) (zd v0 ([cN b qs qt qh qx] ++ (cS qs σ ct ++ cS qt ρ2 ct))))
    (hl : Cond.methodLink own ix y ∈ BW) (hi : Cond.instanceMethod y ∈ BW) (hse : Cond.selects y.cls y y ∈ BW) (hini : Cond.initialized y.cls ∈ BW) (hco : Cond.code y cb mL ret ∈ BW)
    (nA : Nat) (hd : y.cls ≠ "java/lang/invoke/MethodHandle" ∧ y.cls ≠ "java/lang/invoke/VarHandle" ∧ (parseMethodDescriptor y.desc).map (fun d => d.parameters.length) = some nA) (hlen : As.length = nA)
    (hR : fr + 1 ≤ R.frames ∧ 8 + (mL + 11) + lo ≤ R.locals) (hrs : (rest.map fun v => v.category).sum ≤ 8) (hf : cells + 0 ≤ R.cells ∧ slots + 0 ≤ R.slots) {st0 : List Value} (hst : st0 = As.reverse ++ .ref b :: rest) (d : decode cc pc = .ok (.invokevirtual ix, 3))
    (kk : zG p l e R s m args below meth c D A nL Q (cells + 0) (slots + 0) (pc + 3) ls (v0.toList ++ rest) (lwW b qs qt qh qx σ ρ2 o z rg og ct)) : zG p l e R s m args below meth c D A nL Q cells slots pc ls st0 (lwW b qs qt qh qx σ ρ o z rg og ct) := by
  have ew : ∀ ρ : TB, lwW b qs qt qh qx σ ρ o z rg og ct = ([cN b qs qt qh qx] ++ (cS qs σ ct ++ cS qt ρ ct)) ++ blk (lwF b qs qt qh qx σ ρ o z rg og ct) [3, 4, 5, 6, 7, 8, 9] := fun ρ => by
    unfold lwW
    show blk _ ([0, 1, 2] ++ [3, 4, 5, 6, 7, 8, 9]) = _
    rw [blk_app]
    congr 1
  have hc : vwCl[4]? = some (y.cls, TX4, 4) := by rw [hy]; rfl
  rw [ew]
  refine z_callV (List.range ([cN b qs qt qh qx] ++ (cS qs σ ct ++ cS qt ρ ct)).length) 0 4 h hM hl hi hse hini hco nA hd hlen (rng_nd _) rng_ps hc rfl hR hrs hf hst d ?_
  rintro v wa wb ⟨rfl, rfl, rfl⟩ had
  rw [wput_pre (fst_len had), List.append_nil]
  have er : blk (lwF b qs qt qh qx σ ρ o z rg og ct) [3, 4, 5, 6, 7, 8, 9] = blk (lwF b qs qt qh qx σ ρ2 o z rg og ct) [3, 4, 5, 6, 7, 8, 9] := rfl
  rw [er, ← ew]
  exact kk
end WS
