/-! THE FRAME OF ALL CONTRACTS: one list of words (BW), the nest words (NW), the judgement zG (a walk over a world and a list of locals), contracts zT -/
theorem BW_self : GoodIn BW BW := fun w h => ⟨h, good_of_word (BW_good w h)⟩
theorem BW_cons {c : Cond} (h : c ∈ BW) : GoodIn BW (c :: BW) := by
  intro w hw
  rcases List.mem_cons.mp hw with rfl | h2
  · exact ⟨h, good_of_word (BW_good _ h)⟩
  · exact BW_self w h2
/-- the texts of the exceptions, pairs of classes that can't be cast, classes that can -/
def SL : List (String × Nat × String) := [("MeterNetwork", 149, "there is no saved state"), ("MeterNetwork", 225, "there is no such count"), ("MeterNetwork", 237, "there is no such node"), ("MeterNetwork", 240, "there is no such meter"), ("MeterNetwork", 242, "the index is negative"), ("MeterNetwork", 244, "the value is out of range"), ("MeterNetwork", 39, "both nodes are the same"), ("MeterNetwork", 87, "no room for another reading")]
def xIAE : String := "java/lang/IllegalArgumentException"
def xISE : String := "java/lang/IllegalStateException"
def xIOB : String := "java/lang/IndexOutOfBoundsException"
def EL : List String := [xIAE, xISE, xIOB]
def NL : List (String × String) := [(xIAE, xISE), (xIAE, xIOB), (xISE, xIAE), (xISE, xIOB), (xIOB, xIAE), (xIOB, xISE)]
def DL : List MethodName := [⟨"java/lang/RuntimeException", "<init>", "(Ljava/lang/String;)V"⟩, ⟨"java/lang/Exception", "<init>", "(Ljava/lang/String;)V"⟩, ⟨"java/lang/Throwable", "<init>", "(Ljava/lang/String;)V"⟩]
def wN (U : State) : Prop := (∀ w ∈ NW, va_Nw w U) ∧ va_AO "MeterNetwork$State" U ∧ (∀ k ∈ SL, ∃ a, vk_R k.1 k.2.1 k.2.2 a U) ∧ (∀ q ∈ NL, va_Nc q.1 q.2 U) ∧ (∀ E ∈ EL, va_Nw (.castable E E) U) ∧ ∀ y ∈ DL, va_Nw (.declares y) U
theorem wN.warm {s U : State} (hW : s.WarmedH U.vm) (h : wN s) : wN U := by
  refine ⟨fun w hw => ?_, va_AO.moved hW.alike h.2.1, fun k hk => ?_, fun q hq => (h.2.2.2.1 q hq).moved hW.alike, fun E hE => va_Nw.warmC hW (h.2.2.2.2.1 E hE), fun y hy => va_Nw.warmD hW (h.2.2.2.2.2 y hy)⟩
  · rcases NW_ok w hw with ⟨a, i, b, n, d, hh, rfl⟩ | ⟨a, i, x, hh, rfl⟩
    · exact va_Nw.warmF hW (h.1 _ hw)
    · exact va_Nw.warmM hW (h.1 _ hw)
  · obtain ⟨a, ha⟩ := h.2.2.1 k hk
    exact ⟨a, vk_R.warm hW ha⟩
theorem nwTab {w : Cond} (h : nwOk w) : w.onTables = true := by
  rcases h with ⟨a, i, b, n, d, hh, rfl⟩ | ⟨a, i, x, hh, rfl⟩ <;> rfl
theorem wN.call {U : State} {g : JFrame} {mk : MethodId} {a : Array Value} (h : wN U) : wN (U.calling g mk a) := by
  refine ⟨fun w hw => va_Nw.same (u := U) (U := U.calling g mk a) (nwTab (NW_ok w hw)) rfl (h.1 w hw), va_AO.moved (u := U) (U := U.calling g mk a) (Vm.Alike.refl U.vm) h.2.1, fun k hk => ?_, fun q hq => va_Nc.moved (u := U) (U := U.calling g mk a) (Vm.Alike.refl U.vm) (h.2.2.2.1 q hq), fun E hE => va_Nw.same (u := U) (U := U.calling g mk a) rfl rfl (h.2.2.2.2.1 E hE), fun y hy => va_Nw.same (u := U) (U := U.calling g mk a) rfl rfl (h.2.2.2.2.2 y hy)⟩
  obtain ⟨b, hb⟩ := h.2.2.1 k hk
  exact ⟨b, vk_R.same (u := U) (U := U.calling g mk a) rfl hb⟩
/-- the array classes: int, boolean, char, State, long -/
abbrev zty (ct : Nat → ClassId) : List (ClassId × FieldType) := [(ct 0, .int), (ct 1, .boolean), (ct 2, .char), (ct 3, .object "MeterNetwork$State")]
/-- a world in a state -/
def wB (D : va_G) (ct : Nat → ClassId) (w : va_W) (U : State) : Prop := va_P D vwCl w U.heap ∧ va_K D vwCl (zty ct) U ∧ va_D (fun _ => True) w ∧ wN U
theorem wB.call {D : va_G} {ct : Nat → ClassId} {w : va_W} {U : State} {g : JFrame} {mk : MethodId} {a : Array Value} (h : wB D ct w U) : wB D ct w (U.calling g mk a) := ⟨h.1, va_K.moved (u := U) (U := U.calling g mk a) (Vm.Alike.refl U.vm) h.2.1, h.2.2.1, h.2.2.2.call⟩
/-- a method's end: its answer, its cells as they are then, the new ones -/
def zQ (D : va_G) (ct : Nat → ClassId) (w : va_W) (sz : Nat) (po : Option Value → va_W → va_W → Prop) : Array Value → State → Outcome → State → Prop := fun _ st oc t =>
  ∃ (v : Option Value) (wa wb : va_W), oc = .returned v ∧ po v wa wb ∧ wa.map Prod.fst = w.map Prod.fst ∧ va_P D vwCl (wa ++ wb) t.heap ∧ va_D (va_A w sz) (wa ++ wb) ∧ va_F (va_A w sz) st t
/-- a contract -/
def zT (l : Launch) (D : va_G) (ct : Nat → ClassId) (y : MethodName) (cc : ByteArray) (n : Nat) (ret : Option FieldType) (fr lo mc ms : Nat) (av : List Value) (w : va_W) (po : Option Value → va_W → va_W → Prop) : Prop :=
  ∀ sz : Nat, Met l y (.code y cc n ret :: BW) { frames := fr, cells := mc, slots := ms, locals := lo } (va_Pc av (fun U => U.heap.size = sz ∧ wB D ct w U)) (zQ D ct w sz po) mc ms (va_A w sz)
/-- it answers v and leaves w' -/
def zd (v : Option Value) (w' : va_W) : Option Value → va_W → va_W → Prop := fun v1 wa wb => v1 = v ∧ wa = w' ∧ wb = []
/-- the locals as a list of the method's length -/
def lvs : Nat → List (Option Value) → List (Nat × Value)
  | _, [] => []
  | i, none :: t => lvs (i + 1) t
  | i, some v :: t => (i, v) :: lvs (i + 1) t
theorem lvs_in : ∀ (ls : List (Option Value)) (i k : Nat) (v : Value), ls[k]? = some (some v) → (i + k, v) ∈ lvs i ls
  | [], i, k, v, h => by simp at h
  | a :: t, i, 0, v, h => by
    have ha : a = some v := by simpa using h
    subst ha
    exact List.mem_cons_self
  | a :: t, i, k + 1, v, h => by
    have h1 := lvs_in t (i + 1) k v (by simpa using h)
    have e : i + (k + 1) = i + 1 + k := by omega
    rw [e]
    cases a with
    | none => exact h1
    | some u => exact List.mem_cons_of_mem _ h1
theorem lvs_of : ∀ (ls : List (Option Value)) (i : Nat) (q : Nat × Value), q ∈ lvs i ls → ∃ k, q.1 = i + k ∧ ls[k]? = some (some q.2)
  | [], i, q, h => by simp [lvs] at h
  | none :: t, i, q, h => by
    obtain ⟨k, h1, h2⟩ := lvs_of t (i + 1) q h
    exact ⟨k + 1, by omega, by simpa using h2⟩
  | some v :: t, i, q, h => by
    rcases List.mem_cons.mp h with rfl | h
    · exact ⟨0, rfl, rfl⟩
    · obtain ⟨k, h1, h2⟩ := lvs_of t (i + 1) q h
      exact ⟨k + 1, by omega, by simpa using h2⟩
theorem lG_at {L : Array Slot} {nL : Nat} {ls : List (Option Value)} (h : lv_has L nL (lvs 0 ls)) (k : Nat) {v : Value} (hk : ls[k]? = some (some v)) : L[k]? = some (.val v) := by
  have h1 := lvs_in ls 0 k v hk
  rw [Nat.zero_add] at h1
  exact h.2.2 _ h1
def okst (ls : List (Option Value)) : Nat → Bool
  | 0 => true
  | j + 1 => match ls[j]? with
    | some (some u) => u.category != 2
    | _ => true
theorem lG_mono {L : Array Slot} {nL : Nat} {l l' : List (Nat × Value)} (h : lv_has L nL l) (hh : ∀ q ∈ l', q ∈ l) : lv_has L nL l' := ⟨h.1, h.2.1, fun q hq => h.2.2 q (hh q hq)⟩
theorem lG_set {L : Array Slot} {nL i : Nat} {ls : List (Option Value)} {v : Value} (hz : okst ls i = true) (h : lv_has L nL ((i, v) :: (lvs 0 ls).filter (fun q => !(q.1 == i) && !(q.1 + 1 == i && q.2.category == 2)))) : lv_has L nL (lvs 0 (ls.set i (some v))) := by
  refine lG_mono h (fun q hq => ?_)
  obtain ⟨k, h1, h2⟩ := lvs_of _ 0 q hq
  rw [Nat.zero_add] at h1
  by_cases hk : k = i
  · subst hk
    have hlt : k < (ls.set k (some v)).length := (List.getElem?_eq_some_iff.mp h2).1
    rw [List.length_set] at hlt
    rw [List.getElem?_set_self hlt] at h2
    have hv : v = q.2 := by simpa using h2
    have : q = (k, v) := by rw [hv, ← h1]
    rw [this]
    exact List.mem_cons_self
  · rw [List.getElem?_set_ne (Ne.symm hk)] at h2
    refine List.mem_cons_of_mem _ (List.mem_filter.mpr ⟨?_, ?_⟩)
    · have h3 := lvs_in ls 0 k q.2 h2
      rw [Nat.zero_add, ← h1] at h3
      exact h3
    · have h4 : ¬ (q.1 + 1 = i ∧ q.2.category = 2) := by
        rintro ⟨h5, h6⟩
        rw [h1] at h5
        subst h5
        simp only [okst, h2] at hz
        rw [h6] at hz
        exact absurd hz (by decide)
      rw [h1] at h4 ⊢
      simp only [Bool.and_eq_true, Bool.not_eq_true', beq_eq_false_iff_ne, ne_eq, Bool.and_eq_false_iff]
      refine ⟨hk, ?_⟩
      by_cases h7 : k + 1 = i
      · exact Or.inr (fun h8 => h4 ⟨h7, h8⟩)
      · exact Or.inl h7
/-- places of a world written anew -/
def wput : va_W → List Nat → va_W → va_W
  | w, p :: ps, e :: es => wput (w.set p e) ps es
  | w, _, _ => w
theorem wput_at : ∀ (ps : List Nat) (w es : va_W) (k : Nat) (q : Nat × va_E), es.length = ps.length → (wput w ps es)[k]? = some q → (∃ j : Nat, ps[j]? = some k ∧ es[j]? = some q) ∨ (k ∉ ps ∧ w[k]? = some q)
  | [], w, es, k, q, hl, h => by
    have : wput w [] es = w := by cases es <;> rfl
    rw [this] at h
    exact Or.inr ⟨by simp, h⟩
  | p :: ps, w, [], k, q, hl, h => by simp at hl
  | p :: ps, w, e :: es, k, q, hl, h => by
    have h0 : (wput (w.set p e) ps es)[k]? = some q := h
    rcases wput_at ps (w.set p e) es k q (by simpa using hl) h0 with ⟨j, h1, h2⟩ | ⟨h1, h2⟩
    · exact Or.inl ⟨j + 1, by simpa using h1, by simpa using h2⟩
    · by_cases hk : k = p
      · subst hk
        have hlt : k < (w.set k e).length := (List.getElem?_eq_some_iff.mp h2).1
        rw [List.length_set] at hlt
        rw [List.getElem?_set_self hlt] at h2
        exact Or.inl ⟨0, rfl, by simpa using h2⟩
      · rw [List.getElem?_set_ne (Ne.symm hk)] at h2
        exact Or.inr ⟨by simp [hk, h1], h2⟩
theorem va_D_fst {A : Nat → Prop} {w w2 : va_W} (h : w2.map Prod.fst = w.map Prod.fst) (hD : va_D A w) : va_D A w2 := by
  have key : ∀ (k : Nat) (q : Nat × va_E), w2[k]? = some q → ∃ q0, w[k]? = some q0 ∧ q0.1 = q.1 := by
    intro k q hk
    have h1 : (w2.map Prod.fst)[k]? = some q.1 := by rw [List.getElem?_map, hk]; rfl
    rw [h, List.getElem?_map] at h1
    cases hw : w[k]? with
    | none => rw [hw] at h1; cases h1
    | some q0 => rw [hw] at h1; exact ⟨q0, rfl, Option.some.inj h1⟩
  refine ⟨fun i j p q hi hj e => ?_, fun k q hk => ?_⟩
  · obtain ⟨p0, a1, a2⟩ := key i p hi
    obtain ⟨q0, b1, b2⟩ := key j q hj
    exact hD.1 i j p0 q0 a1 b1 (by rw [a2, b2, e])
  · obtain ⟨q0, b1, b2⟩ := key k q hk
    rw [← b2]
    exact hD.2 k q0 b1
theorem wput_len : ∀ (ps : List Nat) (w es : va_W), (wput w ps es).length = w.length
  | [], w, es => by cases es <;> rfl
  | p :: ps, w, [] => rfl
  | p :: ps, w, e :: es => by
    show (wput (w.set p e) ps es).length = w.length
    rw [wput_len ps (w.set p e) es, List.length_set]
theorem wc_at {w wc : va_W} {ps : List Nat} (hp : ps.map (fun i => w[i]?) = wc.map some) {j k : Nat} (h : ps[j]? = some k) : w[k]? = wc[j]? := by
  have h1 : (ps.map (fun i => w[i]?))[j]? = some (w[k]?) := by rw [List.getElem?_map, h]; rfl
  rw [hp, List.getElem?_map] at h1
  cases hw : wc[j]? with
  | none => rw [hw] at h1; cases h1
  | some q => rw [hw] at h1; exact (Option.some.inj h1).symm
theorem wput_fst {ps : List Nat} {w wc es : va_W} (hp : ps.map (fun i => w[i]?) = wc.map some) (he : es.map Prod.fst = wc.map Prod.fst) : (wput w ps es).map Prod.fst = w.map Prod.fst := by
  have hl1 : ps.length = wc.length := by simpa using congrArg List.length hp
  have hl2 : es.length = wc.length := by simpa using congrArg List.length he
  apply List.ext_getElem?
  intro k
  rw [List.getElem?_map, List.getElem?_map]
  cases hk : (wput w ps es)[k]? with
  | none =>
    have h1 := List.getElem?_eq_none_iff.mp hk
    rw [wput_len] at h1
    rw [List.getElem?_eq_none_iff.mpr h1]
  | some q =>
    rcases wput_at ps w es k q (by omega) hk with ⟨j, h1, h2⟩ | ⟨h1, h2⟩
    · have h3 := wc_at hp h1
      have h4 : (es.map Prod.fst)[j]? = some q.1 := by rw [List.getElem?_map, h2]; rfl
      rw [he, List.getElem?_map] at h4
      rw [h3]
      exact h4.symm
    · rw [h2]
theorem va_D_app {A : Nat → Prop} {w1 w2 : va_W} (h1 : va_D A w1) (h2 : va_D A w2) (h : ∀ (i j : Nat) (x y : Nat × va_E), w1[i]? = some x → w2[j]? = some y → x.1 ≠ y.1) : va_D A (w1 ++ w2) := va_D.app h1 h2 (fun i j x y hx hy => h i j x y hx hy)
/-- behind a call: the callee's cells at their places, its new ones at the end -/
theorem zjoin {A0 : Nat → Prop} {D : va_G} {w wc wa wb : va_W} {H H1 : Heap} (hP : va_P D vwCl w H) (hD : va_D A0 w) {ps : List Nat} (hp : ps.map (fun i => w[i]?) = wc.map some) (he : wa.map Prod.fst = wc.map Prod.fst)
    (hk : ∀ q : Nat, q < H.size → ¬ va_A wc H.size q → H1[q]? = H[q]?) (hF : ∀ q, va_A wc H.size q → A0 q) (hP1 : va_P D vwCl (wa ++ wb) H1) (hD1 : va_D (va_A wc H.size) (wa ++ wb)) :
    va_P D vwCl (wput w ps wa ++ wb) H1 ∧ va_D A0 (wput w ps wa ++ wb) := by
  have hl1 : ps.length = wc.length := by simpa using congrArg List.length hp
  have hl2 : wa.length = wc.length := by simpa using congrArg List.length he
  have hDa : va_D A0 (wput w ps wa) := va_D_fst (wput_fst hp he) hD
  have hb : ∀ (k : Nat) (q : Nat × va_E), wb[k]? = some q → (wa ++ wb)[wa.length + k]? = some q := fun k q hq => by
    rw [List.getElem?_append_right (by omega)]
    rw [Nat.add_sub_cancel_left]
    exact hq
  have hnew : ∀ (k : Nat) (q : Nat × va_E), wb[k]? = some q → H.size ≤ q.1 := fun k q hq => by
    rcases hD1.2 _ q (hb k q hq) with ⟨j, e, hj⟩ | h
    · exfalso
      have hjl : j < wc.length := (List.getElem?_eq_some_iff.mp hj).1
      have h4 : (wc.map Prod.fst)[j]? = some q.1 := by rw [List.getElem?_map, hj]; rfl
      rw [← he, List.getElem?_map] at h4
      cases ha : wa[j]? with
      | none => rw [ha] at h4; cases h4
      | some a =>
        rw [ha] at h4
        have h5 : (wa ++ wb)[j]? = some a := by rw [List.getElem?_append_left (by omega)]; exact ha
        have h6 := hD1.1 j (wa.length + k) a q h5 (hb k q hq) (Option.some.inj h4)
        omega
    · exact h
  have hold : ∀ (k : Nat) (q : Nat × va_E), (wput w ps wa)[k]? = some q → va_at D vwCl q H1 := fun k q hq => by
    rcases wput_at ps w wa k q (by omega) hq with ⟨j, h1, h2⟩ | ⟨h1, h2⟩
    · have hjl : j < wa.length := (List.getElem?_eq_some_iff.mp h2).1
      exact hP1 j q (by rw [List.getElem?_append_left hjl]; exact h2)
    · have hlt := (hP k q h2).lt
      refine (hP k q h2).kept (hk q.1 hlt (fun z => ?_))
      rcases z with ⟨j, e, hj⟩ | z
      · have hjl : j < ps.length := by rw [hl1]; exact (List.getElem?_eq_some_iff.mp hj).1
        have h3 := wc_at hp (List.getElem?_eq_getElem hjl)
        rw [hj] at h3
        have h4 := hD.1 k (ps[j]) q (q.1, e) h2 h3 rfl
        exact h1 (by rw [h4]; exact List.getElem_mem hjl)
      · omega
  have hlt : ∀ (k : Nat) (q : Nat × va_E), (wput w ps wa)[k]? = some q → q.1 < H.size := fun k q hq => by
    have h4 : ((wput w ps wa).map Prod.fst)[k]? = some q.1 := by rw [List.getElem?_map, hq]; rfl
    rw [wput_fst hp he, List.getElem?_map] at h4
    cases hw : w[k]? with
    | none => rw [hw] at h4; cases h4
    | some q0 =>
      rw [hw] at h4
      have h5 : q0.1 = q.1 := Option.some.inj h4
      rw [← h5]
      exact (hP k q0 hw).lt
  have hDb : va_D A0 wb := ⟨fun i j p q hi hj e => by
      have h1 := hD1.1 _ _ p q (hb i p hi) (hb j q hj) e
      omega, fun k q hq => hF _ (hD1.2 _ q (hb k q hq))⟩
  refine ⟨va_P.app hold (fun k q hq => hP1 _ q (hb k q hq)), va_D_app hDa hDb (fun i j x y hx hy e => ?_)⟩
  have h1 := hlt i x hx
  have h2 := hnew j y hy
  omega
theorem wput_same : ∀ (ps : List Nat) (w wc : va_W), ps.map (fun i => w[i]?) = wc.map some → wput w ps wc = w
  | [], w, wc, h => by cases wc <;> rfl
  | p :: ps, w, [], h => rfl
  | p :: ps, w, c :: wc, h => by
    simp only [List.map_cons, List.cons.injEq] at h
    have e : w.set p c = w := by
      apply List.ext_getElem?
      intro k
      by_cases hk : k = p
      · subst hk
        rw [List.getElem?_set_self (List.getElem?_eq_some_iff.mp h.1).1]
        exact h.1.symm
      · rw [List.getElem?_set_ne (Ne.symm hk)]
    show wput (w.set p c) ps wc = w
    rw [e]
    exact wput_same ps w wc h.2
/-- what a walk stands on -/
def zC (p : Program) (s : State) (m : MethodId) (meth : Method) (c : Code) (args : Array Value) (own : String) (nL : Nat) (cc : ByteArray) (D : va_G) (ct : Nat → ClassId) (A : Nat → Prop) : Prop :=
  p.tables.exec = Jvm.exec ∧ c.code = cc ∧ c.maxLocals = nL ∧ s.vm.findClass own = some m.cls ∧ (∀ w ∈ BW, w.before args s = true) ∧ va_K D vwCl (zty ct) s ∧ wN s ∧ (∀ q : Nat, s.heap.size ≤ q → A q) ∧ meth.locks = false
/-- a walk: from the pc, the locals, the stack and the world -/
def zG (p : Program) (l : Launch) (e : Env) (R : Room) (s : State) (m : MethodId) (args : Array Value) (below : List Frame) (meth : Method) (c : Code) (D : va_G) (A : Nat → Prop) (nL : Nat) (Q : State → Prop) (cells slots pc : Nat) (ls : List (Option Value)) (st : List Value) (w : va_W) : Prop :=
  ∀ (H : Heap) (locs : List Loc) (L : Array Slot), va_P D vwCl w H → va_D A w → va_S A s.heap H locs → lv_has L nL (lvs 0 ls) → W p l e R s m args below meth c H locs cells slots Q (F0 m pc L st)
section ZG
variable {p : Program} {l : Launch} {e : Env} {R : Room} {s : State} {m : MethodId} {args : Array Value} {below : List Frame} {meth : Method} {c : Code} {D : va_G} {A : Nat → Prop} {nL : Nat} {Q : State → Prop} {cells slots pc : Nat} {ls : List (Option Value)} {st : List Value} {w : va_W} {own : String} {cc : ByteArray} {ct : Nat → ClassId}
theorem z_exec (h : zC p s m meth c args own nL cc D ct A) : p.tables.exec = Jvm.exec := h.1
theorem z_code (h : zC p s m meth c args own nL cc D ct A) : c.code = cc := h.2.1
theorem z_own (h : zC p s m meth c args own nL cc D ct A) : s.vm.findClass own = some m.cls := h.2.2.2.1
theorem z_hts (h : zC p s m meth c args own nL cc D ct A) : ∀ w ∈ BW, w.before args s = true := h.2.2.2.2.1
theorem z_K (h : zC p s m meth c args own nL cc D ct A) : va_K D vwCl (zty ct) s := h.2.2.2.2.2.1
theorem z_N (h : zC p s m meth c args own nL cc D ct A) : wN s := h.2.2.2.2.2.2.1
theorem z_A (h : zC p s m meth c args own nL cc D ct A) : ∀ q : Nat, s.heap.size ≤ q → A q := h.2.2.2.2.2.2.2.1
theorem z_locks (h : zC p s m meth c args own nL cc D ct A) : meth.locks = false := h.2.2.2.2.2.2.2.2
theorem zG_w {w2 : va_W} (hw : w = w2) (k : zG p l e R s m args below meth c D A nL Q cells slots pc ls st w2) : zG p l e R s m args below meth c D A nL Q cells slots pc ls st w := hw ▸ k
theorem zG_s {st2 : List Value} (hw : st = st2) (k : zG p l e R s m args below meth c D A nL Q cells slots pc ls st2 w) : zG p l e R s m args below meth c D A nL Q cells slots pc ls st w := hw ▸ k
/-- fewer locals are spoken of, cells are called by other names -/
theorem zG_to {ls2 : List (Option Value)} {st2 : List Value} {w2 : va_W} {pc2 cells2 slots2 : Nat} (k : zG p l e R s m args below meth c D A nL Q cells2 slots2 pc2 ls2 st2 w2) (hp : pc = pc2) (hc : cells = cells2) (hs : slots = slots2) (hl : ∀ q ∈ lvs 0 ls2, q ∈ lvs 0 ls) (hst : st = st2) (hw : w = w2) : zG p l e R s m args below meth c D A nL Q cells slots pc ls st w := by
  subst hp; subst hc; subst hs; subst hst; subst hw
  exact fun H locs L hP hD hS hL => k H locs L hP hD hS (lG_mono hL hl)
theorem z_iload_n (h : zC p s m meth c args own nL cc D ct A) {j : Fin 4} {x : Int32} (d : decode cc pc = .ok (.iload_n j, 1)) (hl : ls[(j : Nat)]? = some (some (.int x))) (k : zG p l e R s m args below meth c D A nL Q cells slots (pc + 1) ls (.int x :: st) w) : zG p l e R s m args below meth c D A nL Q cells slots pc ls st w := fun H locs L hP hD hS hL => lv_iload_n (z_exec h) (z_code h) d rfl (lG_at hL _ hl) (k H locs L hP hD hS hL)
theorem z_iload (h : zC p s m meth c args own nL cc D ct A) {j : Nat} {x : Int32} (d : decode cc pc = .ok (.iload j, 2)) (hl : ls[j]? = some (some (.int x))) (k : zG p l e R s m args below meth c D A nL Q cells slots (pc + 2) ls (.int x :: st) w) : zG p l e R s m args below meth c D A nL Q cells slots pc ls st w := fun H locs L hP hD hS hL => lv_iload (z_exec h) (z_code h) d (lG_at hL _ hl) (k H locs L hP hD hS hL)
theorem z_aload_n (h : zC p s m meth c args own nL cc D ct A) {j : Fin 4} {x : Nat} (d : decode cc pc = .ok (.aload_n j, 1)) (hl : ls[(j : Nat)]? = some (some (.ref x))) (k : zG p l e R s m args below meth c D A nL Q cells slots (pc + 1) ls (.ref x :: st) w) : zG p l e R s m args below meth c D A nL Q cells slots pc ls st w := fun H locs L hP hD hS hL => lv_aload_n (z_exec h) (z_code h) d rfl (lG_at hL _ hl) (k H locs L hP hD hS hL)
theorem z_aload (h : zC p s m meth c args own nL cc D ct A) {j : Nat} {x : Nat} (d : decode cc pc = .ok (.aload j, 2)) (hl : ls[j]? = some (some (.ref x))) (k : zG p l e R s m args below meth c D A nL Q cells slots (pc + 2) ls (.ref x :: st) w) : zG p l e R s m args below meth c D A nL Q cells slots pc ls st w := fun H locs L hP hD hS hL => lv_aload (z_exec h) (z_code h) d (lG_at hL _ hl) (k H locs L hP hD hS hL)
theorem z_dload (h : zC p s m meth c args own nL cc D ct A) {j : Nat} {x : UInt64} (d : decode cc pc = .ok (.dload j, 2)) (hl : ls[j]? = some (some (.double x))) (k : zG p l e R s m args below meth c D A nL Q cells slots (pc + 2) ls (.double x :: st) w) : zG p l e R s m args below meth c D A nL Q cells slots pc ls st w := fun H locs L hP hD hS hL => lv_dload (z_exec h) (z_code h) d (lG_at hL _ hl) (k H locs L hP hD hS hL)
theorem z_iconst (h : zC p s m meth c args own nL cc D ct A) {n : Int} {v : Int32} (d : decode cc pc = .ok (.iconst n, 1)) (hv : Int32.ofInt n = v) (k : zG p l e R s m args below meth c D A nL Q cells slots (pc + 1) ls (.int v :: st) w) : zG p l e R s m args below meth c D A nL Q cells slots pc ls st w := fun H locs L hP hD hS hL => lv_iconst (z_exec h) (z_code h) d hv (k H locs L hP hD hS hL)
theorem z_bipush (h : zC p s m meth c args own nL cc D ct A) {n : Int} {v : Int32} (d : decode cc pc = .ok (.bipush n, 2)) (hv : (Int8.ofInt n).toInt32 = v) (k : zG p l e R s m args below meth c D A nL Q cells slots (pc + 2) ls (.int v :: st) w) : zG p l e R s m args below meth c D A nL Q cells slots pc ls st w := fun H locs L hP hD hS hL => lv_bipush (z_exec h) (z_code h) d hv (k H locs L hP hD hS hL)
theorem z_sipush (h : zC p s m meth c args own nL cc D ct A) {n : Int} {v : Int32} (d : decode cc pc = .ok (.sipush n, 3)) (hv : (Int16.ofInt n).toInt32 = v) (k : zG p l e R s m args below meth c D A nL Q cells slots (pc + 3) ls (.int v :: st) w) : zG p l e R s m args below meth c D A nL Q cells slots pc ls st w := fun H locs L hP hD hS hL => lv_sipush (z_exec h) (z_code h) d hv (k H locs L hP hD hS hL)
theorem z_iadd (h : zC p s m meth c args own nL cc D ct A) {x y : Int32} (d : decode cc pc = .ok (.iadd, 1))  (k : zG p l e R s m args below meth c D A nL Q cells slots (pc + 1) ls (.int (x + y) :: st) w) : zG p l e R s m args below meth c D A nL Q cells slots pc ls (.int y :: .int x :: st) w := fun H locs L hP hD hS hL => lv_iadd (z_exec h) (z_code h) d  (k H locs L hP hD hS hL)
theorem z_isub (h : zC p s m meth c args own nL cc D ct A) {x y : Int32} (d : decode cc pc = .ok (.isub, 1))  (k : zG p l e R s m args below meth c D A nL Q cells slots (pc + 1) ls (.int (x - y) :: st) w) : zG p l e R s m args below meth c D A nL Q cells slots pc ls (.int y :: .int x :: st) w := fun H locs L hP hD hS hL => lv_isub (z_exec h) (z_code h) d  (k H locs L hP hD hS hL)
theorem z_imul (h : zC p s m meth c args own nL cc D ct A) {x y : Int32} (d : decode cc pc = .ok (.imul, 1))  (k : zG p l e R s m args below meth c D A nL Q cells slots (pc + 1) ls (.int (x * y) :: st) w) : zG p l e R s m args below meth c D A nL Q cells slots pc ls (.int y :: .int x :: st) w := fun H locs L hP hD hS hL => lv_imul (z_exec h) (z_code h) d  (k H locs L hP hD hS hL)
theorem z_iand (h : zC p s m meth c args own nL cc D ct A) {x y : Int32} (d : decode cc pc = .ok (.iand, 1))  (k : zG p l e R s m args below meth c D A nL Q cells slots (pc + 1) ls (.int (x &&& y) :: st) w) : zG p l e R s m args below meth c D A nL Q cells slots pc ls (.int y :: .int x :: st) w := fun H locs L hP hD hS hL => lv_iand (z_exec h) (z_code h) d  (k H locs L hP hD hS hL)
theorem z_ior (h : zC p s m meth c args own nL cc D ct A) {x y : Int32} (d : decode cc pc = .ok (.ior, 1))  (k : zG p l e R s m args below meth c D A nL Q cells slots (pc + 1) ls (.int (x ||| y) :: st) w) : zG p l e R s m args below meth c D A nL Q cells slots pc ls (.int y :: .int x :: st) w := fun H locs L hP hD hS hL => lv_ior (z_exec h) (z_code h) d  (k H locs L hP hD hS hL)
theorem z_ixor (h : zC p s m meth c args own nL cc D ct A) {x y : Int32} (d : decode cc pc = .ok (.ixor, 1))  (k : zG p l e R s m args below meth c D A nL Q cells slots (pc + 1) ls (.int (x ^^^ y) :: st) w) : zG p l e R s m args below meth c D A nL Q cells slots pc ls (.int y :: .int x :: st) w := fun H locs L hP hD hS hL => lv_ixor (z_exec h) (z_code h) d  (k H locs L hP hD hS hL)
theorem z_ishl (h : zC p s m meth c args own nL cc D ct A) {x y : Int32} (d : decode cc pc = .ok (.ishl, 1))  (k : zG p l e R s m args below meth c D A nL Q cells slots (pc + 1) ls (.int (x <<< (y &&& 31)) :: st) w) : zG p l e R s m args below meth c D A nL Q cells slots pc ls (.int y :: .int x :: st) w := fun H locs L hP hD hS hL => lv_ishl (z_exec h) (z_code h) d  (k H locs L hP hD hS hL)
theorem z_ishr (h : zC p s m meth c args own nL cc D ct A) {x y : Int32} (d : decode cc pc = .ok (.ishr, 1))  (k : zG p l e R s m args below meth c D A nL Q cells slots (pc + 1) ls (.int (x >>> (y &&& 31)) :: st) w) : zG p l e R s m args below meth c D A nL Q cells slots pc ls (.int y :: .int x :: st) w := fun H locs L hP hD hS hL => lv_ishr (z_exec h) (z_code h) d  (k H locs L hP hD hS hL)
theorem z_irem (h : zC p s m meth c args own nL cc D ct A) {x y : Int32} (d : decode cc pc = .ok (.irem, 1)) (hne : ¬ y = 0) (k : zG p l e R s m args below meth c D A nL Q cells slots (pc + 1) ls (.int (x - x / y * y) :: st) w) : zG p l e R s m args below meth c D A nL Q cells slots pc ls (.int y :: .int x :: st) w := fun H locs L hP hD hS hL => lv_irem (z_exec h) (z_code h) d hne (k H locs L hP hD hS hL)
theorem z_idiv (h : zC p s m meth c args own nL cc D ct A) {x y : Int32} (d : decode cc pc = .ok (.idiv, 1)) (hne : ¬ y = 0) (k : zG p l e R s m args below meth c D A nL Q cells slots (pc + 1) ls (.int (x / y) :: st) w) : zG p l e R s m args below meth c D A nL Q cells slots pc ls (.int y :: .int x :: st) w := fun H locs L hP hD hS hL => lv_idiv (z_exec h) (z_code h) d hne (k H locs L hP hD hS hL)
theorem z_i2l (h : zC p s m meth c args own nL cc D ct A) {x : Int32} (d : decode cc pc = .ok (.i2l, 1))  (k : zG p l e R s m args below meth c D A nL Q cells slots (pc + 1) ls (.long x.toInt64 :: st) w) : zG p l e R s m args below meth c D A nL Q cells slots pc ls (.int x :: st) w := fun H locs L hP hD hS hL => lv_i2l (z_exec h) (z_code h) d rfl (k H locs L hP hD hS hL)
theorem z_i2d (h : zC p s m meth c args own nL cc D ct A) {x : Int32} (d : decode cc pc = .ok (.i2d, 1))  (k : zG p l e R s m args below meth c D A nL Q cells slots (pc + 1) ls (.double (FP.i2d x) :: st) w) : zG p l e R s m args below meth c D A nL Q cells slots pc ls (.int x :: st) w := fun H locs L hP hD hS hL => lv_i2d (z_exec h) (z_code h) d  (k H locs L hP hD hS hL)
theorem z_i2c (h : zC p s m meth c args own nL cc D ct A) {x : Int32} (d : decode cc pc = .ok (.i2c, 1))  (k : zG p l e R s m args below meth c D A nL Q cells slots (pc + 1) ls (.int ((x.toUInt32 % 65536).toInt32) :: st) w) : zG p l e R s m args below meth c D A nL Q cells slots pc ls (.int x :: st) w := fun H locs L hP hD hS hL => lv_i2c (z_exec h) (z_code h) d rfl (k H locs L hP hD hS hL)
theorem z_ddiv (h : zC p s m meth c args own nL cc D ct A) {x y : UInt64} (d : decode cc pc = .ok (.ddiv, 1)) (hne : vf_n64 (FP.ddiv x y)) (k : zG p l e R s m args below meth c D A nL Q cells slots (pc + 1) ls (.double (FP.ddiv x y) :: st) w) : zG p l e R s m args below meth c D A nL Q cells slots pc ls (.double y :: .double x :: st) w := fun H locs L hP hD hS hL => lv_ddiv (z_exec h) (z_code h) d hne (k H locs L hP hD hS hL)
theorem z_dup (h : zC p s m meth c args own nL cc D ct A) {va : Value} (d : decode cc pc = .ok (.dup, 1)) (hva : va.category = 1) (k : zG p l e R s m args below meth c D A nL Q cells slots (pc + 1) ls (va :: va :: st) w) : zG p l e R s m args below meth c D A nL Q cells slots pc ls (va :: st) w := fun H locs L hP hD hS hL => lv_dup (z_exec h) (z_code h) d hva (k H locs L hP hD hS hL)
theorem z_pop (h : zC p s m meth c args own nL cc D ct A) {va : Value} (d : decode cc pc = .ok (.pop, 1)) (hva : va.category = 1) (k : zG p l e R s m args below meth c D A nL Q cells slots (pc + 1) ls st w) : zG p l e R s m args below meth c D A nL Q cells slots pc ls (va :: st) w := fun H locs L hP hD hS hL => lv_pop (z_exec h) (z_code h) d hva (k H locs L hP hD hS hL)
theorem z_dup2 (h : zC p s m meth c args own nL cc D ct A) {va vb : Value} (d : decode cc pc = .ok (.dup2, 1)) (hva : va.category = 1) (hvb : vb.category = 1) (k : zG p l e R s m args below meth c D A nL Q cells slots (pc + 1) ls (va :: vb :: va :: vb :: st) w) : zG p l e R s m args below meth c D A nL Q cells slots pc ls (va :: vb :: st) w := fun H locs L hP hD hS hL => lv_dup2_11 (z_exec h) (z_code h) d hva hvb (k H locs L hP hD hS hL)
theorem z_istore_n (h : zC p s m meth c args own nL cc D ct A) {j : Fin 4} {x : Int32} (d : decode cc pc = .ok (.istore_n j, 1)) (hn : (j : Nat) < nL) (hz : okst ls (j : Nat) = true) (k : zG p l e R s m args below meth c D A nL Q cells slots (pc + 1) (ls.set (j : Nat) (some (.int x))) st w) : zG p l e R s m args below meth c D A nL Q cells slots pc ls (.int x :: st) w := fun H locs L hP hD hS hL => lv_istore_n (z_exec h) (z_code h) d rfl hL hn rfl (fun L1 hL1 => k H locs L1 hP hD hS (lG_set hz hL1))
theorem z_istore (h : zC p s m meth c args own nL cc D ct A) {j : Nat} {x : Int32} (d : decode cc pc = .ok (.istore j, 2)) (hn : j < nL) (hz : okst ls j = true) (k : zG p l e R s m args below meth c D A nL Q cells slots (pc + 2) (ls.set j (some (.int x))) st w) : zG p l e R s m args below meth c D A nL Q cells slots pc ls (.int x :: st) w := fun H locs L hP hD hS hL => lv_istore (z_exec h) (z_code h) d hL hn rfl (fun L1 hL1 => k H locs L1 hP hD hS (lG_set hz hL1))
theorem z_astore_n (h : zC p s m meth c args own nL cc D ct A) {j : Fin 4} {x : Nat} (d : decode cc pc = .ok (.astore_n j, 1)) (hn : (j : Nat) < nL) (hz : okst ls (j : Nat) = true) (k : zG p l e R s m args below meth c D A nL Q cells slots (pc + 1) (ls.set (j : Nat) (some (.ref x))) st w) : zG p l e R s m args below meth c D A nL Q cells slots pc ls (.ref x :: st) w := fun H locs L hP hD hS hL => lv_astore_n (z_exec h) (z_code h) d rfl hL hn rfl (fun L1 hL1 => k H locs L1 hP hD hS (lG_set hz hL1))
theorem z_astore (h : zC p s m meth c args own nL cc D ct A) {j : Nat} {x : Nat} (d : decode cc pc = .ok (.astore j, 2)) (hn : j < nL) (hz : okst ls j = true) (k : zG p l e R s m args below meth c D A nL Q cells slots (pc + 2) (ls.set j (some (.ref x))) st w) : zG p l e R s m args below meth c D A nL Q cells slots pc ls (.ref x :: st) w := fun H locs L hP hD hS hL => lv_astore (z_exec h) (z_code h) d hL hn rfl (fun L1 hL1 => k H locs L1 hP hD hS (lG_set hz hL1))
theorem z_iinc (h : zC p s m meth c args own nL cc D ct A) {j : Nat} {n : Int} {x cn : Int32} (d : decode cc pc = .ok (.iinc j n, 3)) (hc : Int32.ofInt n = cn) (hn : j < nL) (hz : okst ls j = true) (hl : ls[j]? = some (some (.int x))) (k : zG p l e R s m args below meth c D A nL Q cells slots (pc + 3) (ls.set j (some (.int (x + cn)))) st w) : zG p l e R s m args below meth c D A nL Q cells slots pc ls st w := fun H locs L hP hD hS hL => by
  have hm := lvs_in ls 0 j (.int x) hl
  rw [Nat.zero_add] at hm
  obtain ⟨kk, hkk⟩ := List.getElem?_of_mem hm
  exact lv_iinc (v := x + cn) (z_exec h) (z_code h) d hL hkk (by rw [hc]) hn rfl (fun L1 hL1 => k H locs L1 hP hD hS (lG_set hz hL1))
theorem z_if_eq (h : zC p s m meth c args own nL cc D ct A) {x : Int32} {off : Int} (tgt : Nat) (d : decode cc pc = .ok (.ifCond .eq off, 3)) (ht : (pc : Int) + off = (tgt : Int)) (kt : x = 0 → zG p l e R s m args below meth c D A nL Q cells slots tgt ls st w) (kf : ¬ x = 0 → zG p l e R s m args below meth c D A nL Q cells slots (pc + 3) ls st w) : zG p l e R s m args below meth c D A nL Q cells slots pc ls (.int x :: st) w := fun H locs L hP hD hS hL => lv_if_eq (z_exec h) (z_code h) d ht (fun q => kt q H locs L hP hD hS hL) (fun q => kf q H locs L hP hD hS hL)
theorem z_if_ne (h : zC p s m meth c args own nL cc D ct A) {x : Int32} {off : Int} (tgt : Nat) (d : decode cc pc = .ok (.ifCond .ne off, 3)) (ht : (pc : Int) + off = (tgt : Int)) (kt : ¬ x = 0 → zG p l e R s m args below meth c D A nL Q cells slots tgt ls st w) (kf : x = 0 → zG p l e R s m args below meth c D A nL Q cells slots (pc + 3) ls st w) : zG p l e R s m args below meth c D A nL Q cells slots pc ls (.int x :: st) w := fun H locs L hP hD hS hL => lv_if_ne (z_exec h) (z_code h) d ht (fun q => kt q H locs L hP hD hS hL) (fun q => kf q H locs L hP hD hS hL)
theorem z_if_lt (h : zC p s m meth c args own nL cc D ct A) {x : Int32} {off : Int} (tgt : Nat) (d : decode cc pc = .ok (.ifCond .lt off, 3)) (ht : (pc : Int) + off = (tgt : Int)) (kt : x < 0 → zG p l e R s m args below meth c D A nL Q cells slots tgt ls st w) (kf : ¬ x < 0 → zG p l e R s m args below meth c D A nL Q cells slots (pc + 3) ls st w) : zG p l e R s m args below meth c D A nL Q cells slots pc ls (.int x :: st) w := fun H locs L hP hD hS hL => lv_if_lt (z_exec h) (z_code h) d ht (fun q => kt q H locs L hP hD hS hL) (fun q => kf q H locs L hP hD hS hL)
theorem z_if_ge (h : zC p s m meth c args own nL cc D ct A) {x : Int32} {off : Int} (tgt : Nat) (d : decode cc pc = .ok (.ifCond .ge off, 3)) (ht : (pc : Int) + off = (tgt : Int)) (kt : 0 ≤ x → zG p l e R s m args below meth c D A nL Q cells slots tgt ls st w) (kf : ¬ 0 ≤ x → zG p l e R s m args below meth c D A nL Q cells slots (pc + 3) ls st w) : zG p l e R s m args below meth c D A nL Q cells slots pc ls (.int x :: st) w := fun H locs L hP hD hS hL => lv_if_ge (z_exec h) (z_code h) d ht (fun q => kt q H locs L hP hD hS hL) (fun q => kf q H locs L hP hD hS hL)
theorem z_if_gt (h : zC p s m meth c args own nL cc D ct A) {x : Int32} {off : Int} (tgt : Nat) (d : decode cc pc = .ok (.ifCond .gt off, 3)) (ht : (pc : Int) + off = (tgt : Int)) (kt : 0 < x → zG p l e R s m args below meth c D A nL Q cells slots tgt ls st w) (kf : ¬ 0 < x → zG p l e R s m args below meth c D A nL Q cells slots (pc + 3) ls st w) : zG p l e R s m args below meth c D A nL Q cells slots pc ls (.int x :: st) w := fun H locs L hP hD hS hL => lv_if_gt (z_exec h) (z_code h) d ht (fun q => kt q H locs L hP hD hS hL) (fun q => kf q H locs L hP hD hS hL)
theorem z_if_le (h : zC p s m meth c args own nL cc D ct A) {x : Int32} {off : Int} (tgt : Nat) (d : decode cc pc = .ok (.ifCond .le off, 3)) (ht : (pc : Int) + off = (tgt : Int)) (kt : x ≤ 0 → zG p l e R s m args below meth c D A nL Q cells slots tgt ls st w) (kf : ¬ x ≤ 0 → zG p l e R s m args below meth c D A nL Q cells slots (pc + 3) ls st w) : zG p l e R s m args below meth c D A nL Q cells slots pc ls (.int x :: st) w := fun H locs L hP hD hS hL => lv_if_le (z_exec h) (z_code h) d ht (fun q => kt q H locs L hP hD hS hL) (fun q => kf q H locs L hP hD hS hL)
theorem z_icmp_eq (h : zC p s m meth c args own nL cc D ct A) {x y : Int32} {off : Int} (tgt : Nat) (d : decode cc pc = .ok (.if_icmp .eq off, 3)) (ht : (pc : Int) + off = (tgt : Int)) (kt : x = y → zG p l e R s m args below meth c D A nL Q cells slots tgt ls st w) (kf : ¬ x = y → zG p l e R s m args below meth c D A nL Q cells slots (pc + 3) ls st w) : zG p l e R s m args below meth c D A nL Q cells slots pc ls (.int y :: .int x :: st) w := fun H locs L hP hD hS hL => lv_icmp_eq (z_exec h) (z_code h) d ht (fun q => kt q H locs L hP hD hS hL) (fun q => kf q H locs L hP hD hS hL)
theorem z_icmp_ne (h : zC p s m meth c args own nL cc D ct A) {x y : Int32} {off : Int} (tgt : Nat) (d : decode cc pc = .ok (.if_icmp .ne off, 3)) (ht : (pc : Int) + off = (tgt : Int)) (kt : ¬ x = y → zG p l e R s m args below meth c D A nL Q cells slots tgt ls st w) (kf : x = y → zG p l e R s m args below meth c D A nL Q cells slots (pc + 3) ls st w) : zG p l e R s m args below meth c D A nL Q cells slots pc ls (.int y :: .int x :: st) w := fun H locs L hP hD hS hL => lv_icmp_ne (z_exec h) (z_code h) d ht (fun q => kt q H locs L hP hD hS hL) (fun q => kf q H locs L hP hD hS hL)
theorem z_icmp_lt (h : zC p s m meth c args own nL cc D ct A) {x y : Int32} {off : Int} (tgt : Nat) (d : decode cc pc = .ok (.if_icmp .lt off, 3)) (ht : (pc : Int) + off = (tgt : Int)) (kt : x < y → zG p l e R s m args below meth c D A nL Q cells slots tgt ls st w) (kf : ¬ x < y → zG p l e R s m args below meth c D A nL Q cells slots (pc + 3) ls st w) : zG p l e R s m args below meth c D A nL Q cells slots pc ls (.int y :: .int x :: st) w := fun H locs L hP hD hS hL => lv_icmp_lt (z_exec h) (z_code h) d ht (fun q => kt q H locs L hP hD hS hL) (fun q => kf q H locs L hP hD hS hL)
theorem z_icmp_ge (h : zC p s m meth c args own nL cc D ct A) {x y : Int32} {off : Int} (tgt : Nat) (d : decode cc pc = .ok (.if_icmp .ge off, 3)) (ht : (pc : Int) + off = (tgt : Int)) (kt : y ≤ x → zG p l e R s m args below meth c D A nL Q cells slots tgt ls st w) (kf : ¬ y ≤ x → zG p l e R s m args below meth c D A nL Q cells slots (pc + 3) ls st w) : zG p l e R s m args below meth c D A nL Q cells slots pc ls (.int y :: .int x :: st) w := fun H locs L hP hD hS hL => lv_icmp_ge (z_exec h) (z_code h) d ht (fun q => kt q H locs L hP hD hS hL) (fun q => kf q H locs L hP hD hS hL)
theorem z_icmp_gt (h : zC p s m meth c args own nL cc D ct A) {x y : Int32} {off : Int} (tgt : Nat) (d : decode cc pc = .ok (.if_icmp .gt off, 3)) (ht : (pc : Int) + off = (tgt : Int)) (kt : y < x → zG p l e R s m args below meth c D A nL Q cells slots tgt ls st w) (kf : ¬ y < x → zG p l e R s m args below meth c D A nL Q cells slots (pc + 3) ls st w) : zG p l e R s m args below meth c D A nL Q cells slots pc ls (.int y :: .int x :: st) w := fun H locs L hP hD hS hL => lv_icmp_gt (z_exec h) (z_code h) d ht (fun q => kt q H locs L hP hD hS hL) (fun q => kf q H locs L hP hD hS hL)
theorem z_icmp_le (h : zC p s m meth c args own nL cc D ct A) {x y : Int32} {off : Int} (tgt : Nat) (d : decode cc pc = .ok (.if_icmp .le off, 3)) (ht : (pc : Int) + off = (tgt : Int)) (kt : x ≤ y → zG p l e R s m args below meth c D A nL Q cells slots tgt ls st w) (kf : ¬ x ≤ y → zG p l e R s m args below meth c D A nL Q cells slots (pc + 3) ls st w) : zG p l e R s m args below meth c D A nL Q cells slots pc ls (.int y :: .int x :: st) w := fun H locs L hP hD hS hL => lv_icmp_le (z_exec h) (z_code h) d ht (fun q => kt q H locs L hP hD hS hL) (fun q => kf q H locs L hP hD hS hL)
theorem z_goto (h : zC p s m meth c args own nL cc D ct A) {off : Int} (tgt : Nat) (d : decode cc pc = .ok (.goto off, 3)) (ht : (pc : Int) + off = (tgt : Int)) (k : zG p l e R s m args below meth c D A nL Q cells slots tgt ls st w) : zG p l e R s m args below meth c D A nL Q cells slots pc ls st w := fun H locs L hP hD hS hL => lv_goto (z_exec h) (z_code h) d ht (k H locs L hP hD hS hL)
theorem z_get {ref C : String} {T : u_T} {N ci ix : Nat} {fs : List Value} {a : Nat} {v : Value} (q0 k0 : Nat) (h : zC p s m meth c args own nL cc D ct A) (hin : ∀ x ∈ u_ws C T N, x ∈ BW) (hc : vwCl[ci]? = some (C, T, N)) (hk : k0 < N) (hre : (T k0).1 = ref) (hlk : Cond.fieldLink own ix ref (T k0).2.1 (T k0).2.2.1 ∈ BW) (he : w[q0]? = some (a, .inr (ci, fs))) (hv : fs[k0]? = some v) (d : decode cc pc = .ok (.getfield ix, 3)) (k : zG p l e R s m args below meth c D A nL Q cells slots (pc + 3) ls (v :: st) w) : zG p l e R s m args below meth c D A nL Q cells slots pc ls (.ref a :: st) w := fun H locs L hP hD hS hL => va_get (D := D) (z_exec h) (z_code h) (z_hts h) hin (z_own h) (z_K h) hP q0 he hc k0 hk (z_hts h _ hlk) (fun x hx => by rw [← hre]; exact hx) hv d (k H locs L hP hD hS hL)
theorem z_getN {ref C : String} {T : u_T} {N ci ix : Nat} {fs : List Value} {a : Nat} {v : Value} (q0 k0 : Nat) (h : zC p s m meth c args own nL cc D ct A) (hin : ∀ x ∈ u_ws C T N, x ∈ BW) (hc : vwCl[ci]? = some (C, T, N)) (hk : k0 < N) (hre : (T k0).1 = ref) {host : String} (hlk : Cond.fieldLinkNest own ix ref (T k0).2.1 (T k0).2.2.1 host ∈ NW) (he : w[q0]? = some (a, .inr (ci, fs))) (hv : fs[k0]? = some v) (d : decode cc pc = .ok (.getfield ix, 3)) (k : zG p l e R s m args below meth c D A nL Q cells slots (pc + 3) ls (v :: st) w) : zG p l e R s m args below meth c D A nL Q cells slots pc ls (.ref a :: st) w := fun H locs L hP hD hS hL => va_getN (D := D) (z_exec h) (z_code h) (z_hts h) hin (z_own h) (z_K h) hP q0 he hc k0 hk (va_Nw.use rfl ((z_N h).1 _ hlk)) (fun x hx => by rw [← hre]; exact hx) hv d (k H locs L hP hD hS hL)
theorem z_put {ref C : String} {T : u_T} {N ci ix : Nat} {fs : List Value} {a : Nat} {v : Value} {ty0 : Nat → FieldType} (q0 k0 : Nat) (h : zC p s m meth c args own nL cc D ct A) (hin : ∀ x ∈ u_ws C T N, x ∈ BW) (hty : ∀ k, k < N → parseFieldDescriptor (T k).2.2.1 = some (ty0 k)) (hnm : ∀ a, a < N → ∀ b, b < N → a ≠ b → (T a).2.1 ≠ (T b).2.1) (hc : vwCl[ci]? = some (C, T, N)) (hk : k0 < N) (hre : (T k0).1 = ref) (hlk : Cond.fieldLink own ix ref (T k0).2.1 (T k0).2.2.1 ∈ BW) (he : w[q0]? = some (a, .inr (ci, fs))) (hfin : (T k0).2.2.2 = false) (hn : narrow (ty0 k0) v = v) (hfit : fits (ty0 k0) v = true) (hl : k0 < fs.length) (d : decode cc pc = .ok (.putfield ix, 3)) {w2 : va_W} (hw : w.set q0 (a, .inr (ci, fs.set k0 v)) = w2) (k : zG p l e R s m args below meth c D A nL Q cells slots (pc + 3) ls st w2) : zG p l e R s m args below meth c D A nL Q cells slots pc ls (v :: .ref a :: st) w := fun H locs L hP hD hS hL => va_put (D := D) (z_exec h) (z_code h) (z_hts h) hin ty0 hty hnm (z_own h) (z_K h) hP hD hS q0 he hc k0 hk (z_hts h _ hlk) (fun x hx => by rw [← hre]; exact hx) hfin (hty k0 hk) hn hfit hl d (fun H1 locs1 hP1 hD1 hS1 => k H1 locs1 L (hw ▸ hP1) (hw ▸ hD1) hS1 hL)
theorem z_putN {ref C : String} {T : u_T} {N ci ix : Nat} {fs : List Value} {a : Nat} {v : Value} {ty0 : Nat → FieldType} (q0 k0 : Nat) (h : zC p s m meth c args own nL cc D ct A) (hin : ∀ x ∈ u_ws C T N, x ∈ BW) (hty : ∀ k, k < N → parseFieldDescriptor (T k).2.2.1 = some (ty0 k)) (hnm : ∀ a, a < N → ∀ b, b < N → a ≠ b → (T a).2.1 ≠ (T b).2.1) (hc : vwCl[ci]? = some (C, T, N)) (hk : k0 < N) (hre : (T k0).1 = ref) {host : String} (hlk : Cond.fieldLinkNest own ix ref (T k0).2.1 (T k0).2.2.1 host ∈ NW) (he : w[q0]? = some (a, .inr (ci, fs))) (hfin : (T k0).2.2.2 = false) (hn : narrow (ty0 k0) v = v) (hfit : fits (ty0 k0) v = true) (hl : k0 < fs.length) (d : decode cc pc = .ok (.putfield ix, 3)) {w2 : va_W} (hw : w.set q0 (a, .inr (ci, fs.set k0 v)) = w2) (k : zG p l e R s m args below meth c D A nL Q cells slots (pc + 3) ls st w2) : zG p l e R s m args below meth c D A nL Q cells slots pc ls (v :: .ref a :: st) w := fun H locs L hP hD hS hL => va_putN (D := D) (z_exec h) (z_code h) (z_hts h) hin ty0 hty hnm (z_own h) (z_K h) hP hD hS q0 he hc k0 hk (va_Nw.use rfl ((z_N h).1 _ hlk)) (fun x hx => by rw [← hre]; exact hx) hfin (hty k0 hk) hn hfit hl d (fun H1 locs1 hP1 hD1 hS1 => k H1 locs1 L (hw ▸ hP1) (hw ▸ hD1) hS1 hL)
theorem z_iald {a n : Nat} {cA : ClassId} {f : Nat → Int32} {i : Int32} (q0 t0 : Nat) (h : zC p s m meth c args own nL cc D ct A) (ht : (zty ct)[t0]? = some (cA, .int)) (ha : w[q0]? = some (a, .inl (cA, n, .inl f))) (hin : vp_in i n) (d : decode cc pc = .ok (.iaload, 1)) (k : zG p l e R s m args below meth c D A nL Q cells slots (pc + 1) ls (.int (f i.toNatClampNeg) :: st) w) : zG p l e R s m args below meth c D A nL Q cells slots pc ls (.int i :: .ref a :: st) w := fun H locs L hP hD hS hL => va_iald (D := D) (z_exec h) (z_code h) (z_K h) hP q0 t0 ha ht hin d (k H locs L hP hD hS hL)
theorem z_zald {a n : Nat} {cA : ClassId} {f : Nat → Int32} {i : Int32} (q0 t0 : Nat) (h : zC p s m meth c args own nL cc D ct A) (ht : (zty ct)[t0]? = some (cA, .boolean)) (ha : w[q0]? = some (a, .inl (cA, n, .inl f))) (hin : vp_in i n) (d : decode cc pc = .ok (.baload, 1)) (k : zG p l e R s m args below meth c D A nL Q cells slots (pc + 1) ls (.int (f i.toNatClampNeg) :: st) w) : zG p l e R s m args below meth c D A nL Q cells slots pc ls (.int i :: .ref a :: st) w := fun H locs L hP hD hS hL => va_zald (D := D) (z_exec h) (z_code h) (z_K h) hP q0 t0 ha ht hin d (k H locs L hP hD hS hL)
theorem z_cald {a n : Nat} {cA : ClassId} {f : Nat → Int32} {i : Int32} (q0 t0 : Nat) (h : zC p s m meth c args own nL cc D ct A) (ht : (zty ct)[t0]? = some (cA, .char)) (ha : w[q0]? = some (a, .inl (cA, n, .inl f))) (hin : vp_in i n) (d : decode cc pc = .ok (.caload, 1)) (k : zG p l e R s m args below meth c D A nL Q cells slots (pc + 1) ls (.int (f i.toNatClampNeg) :: st) w) : zG p l e R s m args below meth c D A nL Q cells slots pc ls (.int i :: .ref a :: st) w := fun H locs L hP hD hS hL => va_cald (D := D) (z_exec h) (z_code h) (z_K h) hP q0 t0 ha ht hin d (k H locs L hP hD hS hL)
theorem z_iast {a n : Nat} {cA : ClassId} {f : Nat → Int32} {i x : Int32} (q0 t0 : Nat) (h : zC p s m meth c args own nL cc D ct A) (ht : (zty ct)[t0]? = some (cA, .int)) (ha : w[q0]? = some (a, .inl (cA, n, .inl f))) (hin : vp_in i n) (d : decode cc pc = .ok (.iastore, 1)) {w2 : va_W} (hw : w.set q0 (a, .inl (cA, n, .inl (upd f i.toNatClampNeg x))) = w2) (k : zG p l e R s m args below meth c D A nL Q cells slots (pc + 1) ls st w2) : zG p l e R s m args below meth c D A nL Q cells slots pc ls (.int x :: .int i :: .ref a :: st) w := fun H locs L hP hD hS hL => va_iast (D := D) (z_exec h) (z_code h) (z_K h) hP hD hS q0 t0 ha ht hin d (fun H1 locs1 hP1 hD1 hS1 => k H1 locs1 L (hw ▸ hP1) (hw ▸ hD1) hS1 hL)
theorem z_zast {a n : Nat} {cA : ClassId} {f : Nat → Int32} {i x : Int32} (q0 t0 : Nat) (h : zC p s m meth c args own nL cc D ct A) (ht : (zty ct)[t0]? = some (cA, .boolean)) (ha : w[q0]? = some (a, .inl (cA, n, .inl f))) (hin : vp_in i n) (d : decode cc pc = .ok (.bastore, 1)) {w2 : va_W} (hw : w.set q0 (a, .inl (cA, n, .inl (upd f i.toNatClampNeg (vp_nar .boolean x)))) = w2) (k : zG p l e R s m args below meth c D A nL Q cells slots (pc + 1) ls st w2) : zG p l e R s m args below meth c D A nL Q cells slots pc ls (.int x :: .int i :: .ref a :: st) w := fun H locs L hP hD hS hL => va_zast (D := D) (z_exec h) (z_code h) (z_K h) hP hD hS q0 t0 ha ht hin d (fun H1 locs1 hP1 hD1 hS1 => k H1 locs1 L (hw ▸ hP1) (hw ▸ hD1) hS1 hL)
theorem z_cast {a n : Nat} {cA : ClassId} {f : Nat → Int32} {i x : Int32} (q0 t0 : Nat) (h : zC p s m meth c args own nL cc D ct A) (ht : (zty ct)[t0]? = some (cA, .char)) (ha : w[q0]? = some (a, .inl (cA, n, .inl f))) (hin : vp_in i n) (d : decode cc pc = .ok (.castore, 1)) {w2 : va_W} (hw : w.set q0 (a, .inl (cA, n, .inl (upd f i.toNatClampNeg (vp_nar .char x)))) = w2) (k : zG p l e R s m args below meth c D A nL Q cells slots (pc + 1) ls st w2) : zG p l e R s m args below meth c D A nL Q cells slots pc ls (.int x :: .int i :: .ref a :: st) w := fun H locs L hP hD hS hL => va_cast (D := D) (z_exec h) (z_code h) (z_K h) hP hD hS q0 t0 ha ht hin d (fun H1 locs1 hP1 hD1 hS1 => k H1 locs1 L (hw ▸ hP1) (hw ▸ hD1) hS1 hL)
theorem z_alen {a : Nat} {cA : ClassId} {x : vp_A} {ty : FieldType} (q0 t0 : Nat) (h : zC p s m meth c args own nL cc D ct A) (ht : (zty ct)[t0]? = some (cA, ty)) (ha : w[q0]? = some (a, .inl (cA, x))) (d : decode cc pc = .ok (.arraylength, 1)) (k : zG p l e R s m args below meth c D A nL Q cells slots (pc + 1) ls (.int (Int32.ofNat x.1) :: st) w) : zG p l e R s m args below meth c D A nL Q cells slots pc ls (.ref a :: st) w := fun H locs L hP hD hS hL => va_alen (D := D) (z_exec h) (z_code h) (z_K h) hP q0 t0 ha ht rfl d (k H locs L hP hD hS hL)
theorem z_lookup (h : zC p s m meth c args own nL cc D ct A) {dflt : Int} {ps : Array (Int × Int)} {len : Nat} {x : Int32} {off : Int} (tgt : Nat) (d : decode cc pc = .ok (.lookupswitch dflt ps, len)) (hp : (ps.toList.zip (ps.toList.drop 1)).all (fun (a, next) => a.1 < next.1) = true) (ho : Op.lookupswitch.offset ps.toList dflt x.toInt = off) (ht : (pc : Int) + off = (tgt : Int)) (k : zG p l e R s m args below meth c D A nL Q cells slots tgt ls st w) : zG p l e R s m args below meth c D A nL Q cells slots pc ls (.int x :: st) w := fun H locs L hP hD hS hL => lv_lookup (z_exec h) (z_code h) d hp ho ht (k H locs L hP hD hS hL)
theorem z_tableIn (h : zC p s m meth c args own nL cc D ct A) {dflt lo hi : Int} {offs : Array Int} {len : Nat} {x : Int32} {off : Int} (tgt : Nat) (d : decode cc pc = .ok (.tableswitch dflt lo hi offs, len)) (h1 : ¬ x.toInt < lo) (h2 : ¬ hi < x.toInt) (ho : offs[(x.toInt - lo).toNat]? = some off) (ht : (pc : Int) + off = (tgt : Int)) (k : zG p l e R s m args below meth c D A nL Q cells slots tgt ls st w) : zG p l e R s m args below meth c D A nL Q cells slots pc ls (.int x :: st) w := fun H locs L hP hD hS hL => lv_tableIn (z_exec h) (z_code h) d h1 h2 ho ht (k H locs L hP hD hS hL)
theorem z_tableOut (h : zC p s m meth c args own nL cc D ct A) {dflt lo hi : Int} {offs : Array Int} {len : Nat} {x : Int32} (tgt : Nat) (d : decode cc pc = .ok (.tableswitch dflt lo hi offs, len)) (h1 : x.toInt < lo ∨ hi < x.toInt) (ht : (pc : Int) + dflt = (tgt : Int)) (k : zG p l e R s m args below meth c D A nL Q cells slots tgt ls st w) : zG p l e R s m args below meth c D A nL Q cells slots pc ls (.int x :: st) w := fun H locs L hP hD hS hL => lv_tableOut (z_exec h) (z_code h) d h1 ht (k H locs L hP hD hS hL)
end ZG
section ZR
variable {p : Program} {l : Launch} {e : Env} {R : Room} {s : State} {m : MethodId} {args : Array Value} {below : List Frame} {meth : Method} {c : Code} {D : va_G} {nL : Nat} {cells slots pc mc ms : Nat} {ls : List (Option Value)} {st : List Value} {w w0 wa wb : va_W} {own : String} {cc : ByteArray} {ct : Nat → ClassId} {po : Option Value → va_W → va_W → Prop}
theorem z_end {v : Option Value} {H : Heap} {locs : List Loc} {t : State} (hpo : po v wa wb) (hw : w = wa ++ wb) (hadr : wa.map Prod.fst = w0.map Prod.fst) (hP : va_P D vwCl w H) (hD : va_D (va_A w0 s.heap.size) w) (hS : va_S (va_A w0 s.heap.size) s.heap H locs) (ht : t.heap = H) : zQ D ct w0 s.heap.size po args s (.returned v) t := by
  subst hw
  exact ⟨v, wa, wb, rfl, hpo, hadr, by rw [ht]; exact hP, hD, hS.F ht⟩
theorem z_iret {v : Int32} (h : zC p s m meth c args own nL cc D ct (va_A w0 s.heap.size)) (hr : meth.sig.returnType = some .int) (d : decode cc pc = .ok (.ireturn, 1)) (hc : cells ≤ mc) (hs : slots ≤ ms) (hpo : po (some (.int v)) wa wb) (hw : w = wa ++ wb) (hadr : wa.map Prod.fst = w0.map Prod.fst) : zG p l e R s m args below meth c D (va_A w0 s.heap.size) nL (MQ below (zQ D ct w0 s.heap.size po) args s mc ms (va_A w0 s.heap.size)) cells slots pc ls [.int v] w := fun H locs L hP hD hS hL =>
  W.widen hc hs (W.iret (z_exec h) (z_code h) hr (fun t ht hW => z_end hpo hw hadr hP hD hS ht) hS.2.2 d (z_locks h))
theorem z_zret {v : Int32} {ty : FieldType} (h : zC p s m meth c args own nL cc D ct (va_A w0 s.heap.size)) (hr : meth.sig.returnType = some ty) (hn : narrow ty (.int v) = .int v) (d : decode cc pc = .ok (.ireturn, 1)) (hc : cells ≤ mc) (hs : slots ≤ ms) (hpo : po (some (.int v)) wa wb) (hw : w = wa ++ wb) (hadr : wa.map Prod.fst = w0.map Prod.fst) : zG p l e R s m args below meth c D (va_A w0 s.heap.size) nL (MQ below (zQ D ct w0 s.heap.size po) args s mc ms (va_A w0 s.heap.size)) cells slots pc ls [.int v] w := fun H locs L hP hD hS hL =>
  W.widen hc hs (W.zret (z_exec h) (z_code h) hr hn (fun t ht hW => z_end hpo hw hadr hP hD hS ht) hS.2.2 d (z_locks h))
theorem z_vret (h : zC p s m meth c args own nL cc D ct (va_A w0 s.heap.size)) (hr : meth.sig.returnType = none) (d : decode cc pc = .ok (.return_, 1)) (hc : cells ≤ mc) (hs : slots ≤ ms) (hpo : po none wa wb) (hw : w = wa ++ wb) (hadr : wa.map Prod.fst = w0.map Prod.fst) : zG p l e R s m args below meth c D (va_A w0 s.heap.size) nL (MQ below (zQ D ct w0 s.heap.size po) args s mc ms (va_A w0 s.heap.size)) cells slots pc ls [] w := fun H locs L hP hD hS hL =>
  W.widen hc hs (W.vret (z_exec h) (z_code h) hr (fun t ht hW => z_end hpo hw hadr hP hD hS ht) hS.2.2 d (z_locks h))
theorem z_dret {v : UInt64} (h : zC p s m meth c args own nL cc D ct (va_A w0 s.heap.size)) (hr : meth.sig.returnType = some .double) (d : decode cc pc = .ok (.dreturn, 1)) (hc : cells ≤ mc) (hs : slots ≤ ms) (hpo : po (some (.double v)) wa wb) (hw : w = wa ++ wb) (hadr : wa.map Prod.fst = w0.map Prod.fst) : zG p l e R s m args below meth c D (va_A w0 s.heap.size) nL (MQ below (zQ D ct w0 s.heap.size po) args s mc ms (va_A w0 s.heap.size)) cells slots pc ls [.double v] w := fun H locs L hP hD hS hL =>
  W.widen hc hs (W.dret (z_exec h) (z_code h) hr (fun t ht hW => z_end hpo hw hadr hP hD hS ht) hS.2.2 d (z_locks h))
theorem zofW {y : MethodName} {ws ws' : List Cond} {rm : Room} {Pc : Array Value → State → Prop} {Qc : Array Value → State → Outcome → State → Prop} {mc ms : Nat} {free : Addr → Prop} {cc : ByteArray} {maxL : Nat} {ret : Option FieldType}
    (hy : plainFor y = true) (hw : ws = Cond.code y cc maxL ret :: ws')
    (body : ∀ p e s m args below meth c s₁, BodyLoose p l y (headSpec ws rm) cc maxL ret e s m args below meth c s₁ → c.maxLocals = maxL → Pc args s →
      W p l e (headSpec ws rm).room s m args below meth c s.heap [] 0 0 (MQ below Qc args s mc ms free) (entryFrame m args maxL)) : Met l y ws rm Pc Qc mc ms free := by
  refine MetFree.of_bodySF (code := cc) (maxLocals := maxL) (ret := ret) hy ?_ ?_
  · intro args s m h hn
    obtain ⟨meth, c, h1, h2, h3, h4, h5, h6, -, -⟩ := Cond.code_spec hn (atoms_spec (ws := ws) h _ (by rw [hw]; exact List.mem_cons_self))
    exact ⟨meth, c, h1, h2, h3, h4, h5, h6⟩
  · intro p e s m args below meth c s₁ B hml hP _
    have hh0 : s₁.heap = s.heap := by rw [B.state]; rfl
    obtain ⟨t, a1, o, b1, b2, b3⟩ := body p e s m args below meth c s₁ B hml hP s₁ hh0 (Stand.of_body B)
    exact ⟨t, o, a1, b1, b2, ⟨b3.1, b3.2⟩⟩
/-- a contract out of its walk -/
theorem zT_of {y : MethodName} {n fr lo : Nat} {ret : Option FieldType} {av : List Value} (ls0 : List (Option Value)) (hy : plainFor y = true) (hls : lvs 0 ls0 = lv_args 0 av) (hn : (lg_sl av).length ≤ n)
    (body : ∀ p e s m args below meth c, zC p s m meth c args y.cls n cc D ct (va_A w0 s.heap.size) → meth.sig.returnType = ret → meth.name = y.name →
      zG p l e { frames := fr, cells := mc, slots := ms, locals := lo } s m args below meth c D (va_A w0 s.heap.size) n (MQ below (zQ D ct w0 s.heap.size po) args s mc ms (va_A w0 s.heap.size)) 0 0 0 ls0 [] w0) : zT l D ct y cc n ret fr lo mc ms av w0 po := by
  intro sz
  refine zofW (cc := cc) (maxL := n) (ret := ret) hy rfl ?_
  intro p e s m args below meth c s₁ B hml hv
  obtain ⟨rfl, rfl, hP, hK, hD0, hN⟩ := hv
  have hts := atoms_spec (ws := .code y cc n ret :: BW) B.pre
  have hl := lv_entry av (n := n) hn
  rw [lg_entry_eq]
  rw [← hls] at hl
  exact body p e s m _ below meth c ⟨B.exec, B.bytes, hml, findClass_of_methodNamed B.named, fun w hw => hts w (List.mem_cons_of_mem _ hw), hK, hN, fun q h => Or.inr h, B.notSynchronized⟩ B.returns (name_of_methodNamed B.named B.method).1 s.heap [] _ hP hD0.self va_S.rf hl
end ZR
section ZK
variable {p : Program} {l : Launch} {e : Env} {R : Room} {s : State} {m : MethodId} {args : Array Value} {below : List Frame} {meth : Method} {c : Code} {D : va_G} {A : Nat → Prop} {nL : Nat} {Q : State → Prop} {cells slots pc mc ms fr lo mL : Nat} {ls : List (Option Value)} {rest : List Value} {w wc : va_W} {own : String} {cc cb : ByteArray} {ct : Nat → ClassId} {po : Option Value → va_W → va_W → Prop} {y : MethodName} {ret : Option FieldType} {As : List Value} {b ix : Nat} {host : String}
/-- behind any call -/
theorem zcall {st0 : List Value} {free : Addr → Prop} {a : Array Value} (h : zC p s m meth c args own nL cc D ct A) {ps : List Nat} (hnd : va_nd ps = true) (hps : ps.map (fun i => w[i]?) = wc.map some)
    (hr : ∀ (H : Heap) (locs : List Loc) (L : Array Slot), L.size = nL → va_P D vwCl w H → va_D A w → va_P D vwCl wc H → va_D (fun _ => True) wc → va_Run p l e R s m args below meth c H locs cells slots mc ms (F0 m pc L st0) rest (zQ D ct wc H.size po a) (va_A wc H.size))
    (kk : ∀ (v : Option Value) (wa wb : va_W), po v wa wb → wa.map Prod.fst = wc.map Prod.fst → zG p l e R s m args below meth c D A nL Q (cells + mc) (slots + ms) (pc + 3) ls (v.toList ++ rest) (wput w ps wa ++ wb)) : zG p l e R s m args below meth c D A nL Q cells slots pc ls st0 w := by
  intro H locs L hP hD hS hL T hT X
  have hPc : va_P D vwCl wc H := fun k q hq => by
    have hk : k < ps.length := by
      have h1 : ps.length = wc.length := by simpa using congrArg List.length hps
      rw [h1]; exact (List.getElem?_eq_some_iff.mp hq).1
    have h2 := wc_at hps (List.getElem?_eq_getElem hk)
    rw [hq] at h2
    exact hP _ q h2
  have hFc : ∀ q, va_A wc H.size q → A q := va_free hD hS (z_A h) ps hps
  have hDc : va_D (fun _ => True) wc := (hD.sub ps hnd hps).weaken (fun _ _ _ _ => trivial)
  obtain ⟨v, st₀, t, T', L2, h0, X', hL2, e1, e2, ⟨v2, wa, wb, hv, hpo, hadr, hP1, hD1, hz, hk⟩, hst⟩ := hr H locs L hL.1 hP hD hPc hDc T hT X
  cases hv
  rw [h0] at hz hk
  rw [← e1] at hP1 hz hk
  obtain ⟨hP2, hD2⟩ := zjoin hP hD hps hadr hk hFc hP1 hD1
  have hS2 : va_S A s.heap T'.heap (locs ++ L2) := ⟨Nat.le_trans hS.1 hz, fun q h1 h2 => by rw [hk q (Nat.lt_of_lt_of_le h1 hS.1) (fun z => h2 (hFc q z))]; exact hS.2.1 q h1 h2, fun q hq => by
    rcases List.mem_append.mp hq with h3 | h3
    · exact hS.2.2 q h3
    · exact hFc _ (hL2 q h3)⟩
  obtain ⟨t2, a1, b1⟩ := kk v wa wb hpo hadr T'.heap (locs ++ L2) L hP2 hD2 hS2 hL T' rfl X'
  exact ⟨t2, hst t2 a1, b1⟩
theorem zpre {H : Heap} {U : State} (h : zC p s m meth c args own nL cc D ct A) (hPc : va_P D vwCl wc H) (hDc : va_D (fun _ => True) wc) (hU : U.heap = H) (hW : s.WarmedH U.vm) : U.heap.size = H.size ∧ wB D ct wc U :=
  ⟨by rw [hU], by rw [hU]; exact hPc, va_K.moved hW.alike (z_K h), hDc, (z_N h).warm hW⟩
theorem zblind {sz : Nat} {av : List Value} : FrameBlind (va_Pc av (fun U => U.heap.size = sz ∧ wB D ct wc U)) := fun a U g mk q => by
  obtain ⟨q0, q1, q2⟩ := q
  exact ⟨q0, q1, q2.call⟩
/-- a private or public method of an object, from its own class -/
theorem z_callV (ps : List Nat) (q0 ci : Nat) {fs : List Value} {T : u_T} {N : Nat} (h : zC p s m meth c args own nL cc D ct A) (hM : zT l D ct y cb mL ret fr lo mc ms (.ref b :: As) wc po)
    (hl : Cond.methodLink own ix y ∈ BW) (hi : Cond.instanceMethod y ∈ BW) (hse : Cond.selects y.cls y y ∈ BW) (hini : Cond.initialized y.cls ∈ BW) (hco : Cond.code y cb mL ret ∈ BW)
    (nA : Nat) (hd : y.cls ≠ "java/lang/invoke/MethodHandle" ∧ y.cls ≠ "java/lang/invoke/VarHandle" ∧ (parseMethodDescriptor y.desc).map (fun d => d.parameters.length) = some nA) (hlen : As.length = nA)
    (hnd : va_nd ps = true) (hps : ps.map (fun i => w[i]?) = wc.map some) (hc : vwCl[ci]? = some (y.cls, T, N)) (he : wc[q0]? = some (b, .inr (ci, fs)))
    (hR : fr + 1 ≤ R.frames ∧ 8 + (mL + 11) + lo ≤ R.locals) (hrs : (rest.map fun v => v.category).sum ≤ 8) (hf : cells + mc ≤ R.cells ∧ slots + ms ≤ R.slots) {st0 : List Value} (hst : st0 = As.reverse ++ .ref b :: rest) (d : decode cc pc = .ok (.invokevirtual ix, 3))
    (kk : ∀ (v : Option Value) (wa wb : va_W), po v wa wb → wa.map Prod.fst = wc.map Prod.fst → zG p l e R s m args below meth c D A nL Q (cells + mc) (slots + ms) (pc + 3) ls (v.toList ++ rest) (wput w ps wa ++ wb)) : zG p l e R s m args below meth c D A nL Q cells slots pc ls st0 w := by
  refine zcall (free := fun _ => True) (a := (Value.ref b :: As).toArray) h hnd hps (fun H locs L hLs hP hD hPc hDc => ?_) kk
  have hts := z_hts h
  have cb0 : CallB R s args own ix y cb mL ret (.code y cb mL ret :: BW) { frames := fr, cells := mc, slots := ms, locals := lo } mc ms nA := callB_of nA hts (BW_cons hco) rfl rfl rfl (hts _ hini) (hts _ hl) hd hR
  exact va_runV (Ts := BW) (C := y.cls) ⟨z_exec h, z_code h, h.2.2.1, z_own h, hts⟩ (hM H.size) ⟨cb0, hts _ hi, hts _ hse⟩ ⟨zblind, va_recv (z_K h) hPc hc he, fun U hU hW => ⟨rfl, zpre h hPc hDc hU hW⟩⟩ rfl hlen hLs hst (lv_room hrs) d hf
/-- a method of a nest mate -/
theorem z_callVN (ps : List Nat) (q0 ci : Nat) {fs : List Value} {T : u_T} {N : Nat} (h : zC p s m meth c args own nL cc D ct A) (hM : zT l D ct y cb mL ret fr lo mc ms (.ref b :: As) wc po)
    (hl : Cond.methodLinkNest own ix y host ∈ NW) (hi : Cond.instanceMethod y ∈ BW) (hse : Cond.selects y.cls y y ∈ BW) (hini : Cond.initialized y.cls ∈ BW) (hco : Cond.code y cb mL ret ∈ BW)
    (nA : Nat) (hd : y.cls ≠ "java/lang/invoke/MethodHandle" ∧ y.cls ≠ "java/lang/invoke/VarHandle" ∧ (parseMethodDescriptor y.desc).map (fun d => d.parameters.length) = some nA) (hlen : As.length = nA)
    (hnd : va_nd ps = true) (hps : ps.map (fun i => w[i]?) = wc.map some) (hc : vwCl[ci]? = some (y.cls, T, N)) (he : wc[q0]? = some (b, .inr (ci, fs)))
    (hR : fr + 1 ≤ R.frames ∧ 8 + (mL + 11) + lo ≤ R.locals) (hrs : (rest.map fun v => v.category).sum ≤ 8) (hf : cells + mc ≤ R.cells ∧ slots + ms ≤ R.slots) {st0 : List Value} (hst : st0 = As.reverse ++ .ref b :: rest) (d : decode cc pc = .ok (.invokevirtual ix, 3))
    (kk : ∀ (v : Option Value) (wa wb : va_W), po v wa wb → wa.map Prod.fst = wc.map Prod.fst → zG p l e R s m args below meth c D A nL Q (cells + mc) (slots + ms) (pc + 3) ls (v.toList ++ rest) (wput w ps wa ++ wb)) : zG p l e R s m args below meth c D A nL Q cells slots pc ls st0 w := by
  refine zcall (free := fun _ => True) (a := (Value.ref b :: As).toArray) h hnd hps (fun H locs L hLs hP hD hPc hDc => ?_) kk
  have hts := z_hts h
  have cb0 : va_CN R s args own ix y host cb mL ret (.code y cb mL ret :: BW) { frames := fr, cells := mc, slots := ms, locals := lo } mc ms nA := va_cnB nA hts (BW_cons hco) rfl rfl rfl ((z_N h).1 _ hl) (hts _ hini) hd hR
  exact va_runVN (Ts := BW) (C := y.cls) ⟨z_exec h, z_code h, h.2.2.1, z_own h, hts⟩ (hM H.size) ⟨cb0, hts _ hi, hts _ hse⟩ ⟨zblind, va_recv (z_K h) hPc hc he, fun U hU hW => ⟨rfl, zpre h hPc hDc hU hW⟩⟩ rfl hlen hLs hst (lv_room hrs) d hf
/-- a static method -/
theorem z_callS (ps : List Nat) (h : zC p s m meth c args own nL cc D ct A) (hM : zT l D ct y cb mL ret fr lo mc ms As wc po)
    (hl : Cond.methodLink own ix y ∈ BW) (hi : Cond.static y ∈ BW) (hini : Cond.initialized y.cls ∈ BW) (hco : Cond.code y cb mL ret ∈ BW)
    (nA : Nat) (hd : y.cls ≠ "java/lang/invoke/MethodHandle" ∧ y.cls ≠ "java/lang/invoke/VarHandle" ∧ (parseMethodDescriptor y.desc).map (fun d => d.parameters.length) = some nA) (hlen : As.length = nA)
    (hnd : va_nd ps = true) (hps : ps.map (fun i => w[i]?) = wc.map some)
    (hR : fr + 1 ≤ R.frames ∧ 8 + (mL + 11) + lo ≤ R.locals) (hrs : (rest.map fun v => v.category).sum ≤ 8) (hf : cells + mc ≤ R.cells ∧ slots + ms ≤ R.slots) {st0 : List Value} (hst : st0 = As.reverse ++ rest) (d : decode cc pc = .ok (.invokestatic ix, 3))
    (kk : ∀ (v : Option Value) (wa wb : va_W), po v wa wb → wa.map Prod.fst = wc.map Prod.fst → zG p l e R s m args below meth c D A nL Q (cells + mc) (slots + ms) (pc + 3) ls (v.toList ++ rest) (wput w ps wa ++ wb)) : zG p l e R s m args below meth c D A nL Q cells slots pc ls st0 w := by
  refine zcall (free := fun _ => True) (a := As.toArray) h hnd hps (fun H locs L hLs hP hD hPc hDc => ?_) kk
  have hts := z_hts h
  have cb0 : CallB R s args own ix y cb mL ret (.code y cb mL ret :: BW) { frames := fr, cells := mc, slots := ms, locals := lo } mc ms nA := callB_of nA hts (BW_cons hco) rfl rfl rfl (hts _ hini) (hts _ hl) hd hR
  exact va_runS (Ts := BW) ⟨z_exec h, z_code h, h.2.2.1, z_own h, hts⟩ (hM H.size) ⟨cb0, hts _ hi⟩ ⟨zblind, fun U hU hW => ⟨rfl, zpre h hPc hDc hU hW⟩⟩ rfl hlen hLs hst (lv_room hrs) d hf
theorem z_callSN (ps : List Nat) (h : zC p s m meth c args own nL cc D ct A) (hM : zT l D ct y cb mL ret fr lo mc ms As wc po)
    (hl : Cond.methodLinkNest own ix y host ∈ NW) (hi : Cond.static y ∈ BW) (hini : Cond.initialized y.cls ∈ BW) (hco : Cond.code y cb mL ret ∈ BW)
    (nA : Nat) (hd : y.cls ≠ "java/lang/invoke/MethodHandle" ∧ y.cls ≠ "java/lang/invoke/VarHandle" ∧ (parseMethodDescriptor y.desc).map (fun d => d.parameters.length) = some nA) (hlen : As.length = nA)
    (hnd : va_nd ps = true) (hps : ps.map (fun i => w[i]?) = wc.map some)
    (hR : fr + 1 ≤ R.frames ∧ 8 + (mL + 11) + lo ≤ R.locals) (hrs : (rest.map fun v => v.category).sum ≤ 8) (hf : cells + mc ≤ R.cells ∧ slots + ms ≤ R.slots) {st0 : List Value} (hst : st0 = As.reverse ++ rest) (d : decode cc pc = .ok (.invokestatic ix, 3))
    (kk : ∀ (v : Option Value) (wa wb : va_W), po v wa wb → wa.map Prod.fst = wc.map Prod.fst → zG p l e R s m args below meth c D A nL Q (cells + mc) (slots + ms) (pc + 3) ls (v.toList ++ rest) (wput w ps wa ++ wb)) : zG p l e R s m args below meth c D A nL Q cells slots pc ls st0 w := by
  refine zcall (free := fun _ => True) (a := As.toArray) h hnd hps (fun H locs L hLs hP hD hPc hDc => ?_) kk
  have hts := z_hts h
  have cb0 : va_CN R s args own ix y host cb mL ret (.code y cb mL ret :: BW) { frames := fr, cells := mc, slots := ms, locals := lo } mc ms nA := va_cnB nA hts (BW_cons hco) rfl rfl rfl ((z_N h).1 _ hl) (hts _ hini) hd hR
  exact va_runSN (Ts := BW) ⟨z_exec h, z_code h, h.2.2.1, z_own h, hts⟩ (hM H.size) ⟨cb0, hts _ hi, trivial⟩ ⟨zblind, fun U hU hW => ⟨rfl, zpre h hPc hDc hU hW⟩⟩ rfl hlen hLs hst (lv_room hrs) d hf
end ZK

section ZX
variable {p : Program} {l : Launch} {e : Env} {R : Room} {s : State} {m : MethodId} {args : Array Value} {below : List Frame} {meth : Method} {c : Code} {D : va_G} {A : Nat → Prop} {nL : Nat} {Q : State → Prop} {cells slots pc mc ms : Nat} {ls : List (Option Value)} {st : List Value} {w w0 w' : va_W} {own : String} {cc : ByteArray} {ct : Nat → ClassId}
theorem z_min {x y : Int32} {ix : Nat} (h : zC p s m meth c args own nL cc D ct A) (hl : Cond.methodLink own ix Lib.Math.min.name ∈ BW) (d : decode cc pc = .ok (.invokestatic ix, 3)) (hf : 1 ≤ R.frames) (hlo : (st.map fun v => v.category).sum + 13 ≤ R.locals) (hc : cells ≤ R.cells) (hs : slots ≤ R.slots)
    (k : zG p l e R s m args below meth c D A nL Q cells slots (pc + 3) ls (.int (if y < x then y else x) :: st) w) : zG p l e R s m args below meth c D A nL Q cells slots pc ls (.int y :: .int x :: st) w := fun H locs L hP hD hS hL =>
  va_mmin (z_exec h) (z_code h) (h.2.2.1.trans hL.1.symm) (z_own h) (z_hts h _ hl) (z_hts h _ bw_155) (z_hts h _ bw_156) (z_hts h _ bw_157) hf hlo hc hs d (k H locs L hP hD hS hL)
theorem z_objInit {a ix : Nat} (h : zC p s m meth c args own nL cc D ct A) (hl : Cond.methodLink own ix objectInit ∈ BW) (d : decode cc pc = .ok (.invokespecial ix, 3)) (hf : 1 ≤ R.frames) (hlo : (st.map fun v => v.category).sum + 12 ≤ R.locals)
    (k : zG p l e R s m args below meth c D A nL Q cells slots (pc + 3) ls st w) : zG p l e R s m args below meth c D A nL Q cells slots pc ls (.ref a :: st) w := fun H locs L hP hD hS hL =>
  W.objInit (z_exec h) (z_code h) (z_own h) (z_hts h _ hl) (z_hts h _ bw_8) (z_hts h _ bw_9) rfl (hL.1.trans h.2.2.1.symm) rfl d hf (by simpa [F0, JFrame.monitorRoom] using hlo) (W.eq (g2 := F0 m (pc + 3) L st) rfl (k H locs L hP hD hS hL))
theorem z_iretd {v r : Int32} (h : zC p s m meth c args own nL cc D ct (va_A w0 s.heap.size)) (hr : meth.sig.returnType = some .int) (d : decode cc pc = .ok (.ireturn, 1)) (hc : cells ≤ mc) (hs : slots ≤ ms) (hv : v = r) (hw : w = w') (hadr : w'.map Prod.fst = w0.map Prod.fst) : zG p l e R s m args below meth c D (va_A w0 s.heap.size) nL (MQ below (zQ D ct w0 s.heap.size (zd (some (.int r)) w')) args s mc ms (va_A w0 s.heap.size)) cells slots pc ls [.int v] w := by
  subst hv; subst hw
  exact z_iret h hr d hc hs ⟨rfl, rfl, rfl⟩ (List.append_nil _).symm hadr
theorem z_zretd {v r : Int32} {ty : FieldType} (h : zC p s m meth c args own nL cc D ct (va_A w0 s.heap.size)) (hr : meth.sig.returnType = some ty) (hn : narrow ty (.int v) = .int v) (d : decode cc pc = .ok (.ireturn, 1)) (hc : cells ≤ mc) (hs : slots ≤ ms) (hv : v = r) (hw : w = w') (hadr : w'.map Prod.fst = w0.map Prod.fst) : zG p l e R s m args below meth c D (va_A w0 s.heap.size) nL (MQ below (zQ D ct w0 s.heap.size (zd (some (.int r)) w')) args s mc ms (va_A w0 s.heap.size)) cells slots pc ls [.int v] w := by
  subst hv; subst hw
  exact z_zret h hr hn d hc hs ⟨rfl, rfl, rfl⟩ (List.append_nil _).symm hadr
theorem z_vretd (h : zC p s m meth c args own nL cc D ct (va_A w0 s.heap.size)) (hr : meth.sig.returnType = none) (d : decode cc pc = .ok (.return_, 1)) (hc : cells ≤ mc) (hs : slots ≤ ms) (hw : w = w') (hadr : w'.map Prod.fst = w0.map Prod.fst) : zG p l e R s m args below meth c D (va_A w0 s.heap.size) nL (MQ below (zQ D ct w0 s.heap.size (zd none w')) args s mc ms (va_A w0 s.heap.size)) cells slots pc ls [] w := by
  subst hw
  exact z_vret h hr d hc hs ⟨rfl, rfl, rfl⟩ (List.append_nil _).symm hadr
end ZX
/-- a table of rows: one place of one row written anew -/
def u2 (σ : Nat → Nat → Int32) (r k : Nat) (x : Int32) : Nat → Nat → Int32 := fun r1 => if r1 = r then upd (σ r) k x else σ r1
/-- a bool as the machine has it -/
def bI (b : Bool) : Int32 := if b = true then 1 else 0
theorem bI_nar (b : Bool) : narrow .boolean (.int (bI b)) = .int (bI b) := by cases b <;> rfl
theorem bI_0 (b : Bool) : bI b = 0 ↔ b = false := by cases b <;> decide
theorem bI_1 (b : Bool) : ¬ bI b = 0 ↔ b = true := by cases b <;> decide
/-- the loop that runs k times from i on -/
def kfor {α : Type} (f : Nat → α → α) : Nat → Nat → α → α
  | 0, _, a => a
  | k + 1, i, a => kfor f k (i + 1) (f i a)
/-- behind a call that answers v and leaves w': the world then -/
theorem zkd {G : Option Value → va_W → Prop} {v : Option Value} {w w' wc w2 : va_W} {ps : List Nat} (hw : wput w ps w' = w2) (k : G v w2) : ∀ (v1 : Option Value) (wa wb : va_W), zd v w' v1 wa wb → wa.map Prod.fst = wc.map Prod.fst → G v1 (wput w ps wa ++ wb) := by
  rintro v1 wa wb ⟨rfl, rfl, rfl⟩ -
  rw [List.append_nil, hw]
  exact k
/-- behind a call that answers v and changes nothing -/
theorem zkq {G : Option Value → va_W → Prop} {v : Option Value} {w wc : va_W} {ps : List Nat} (hps : ps.map (fun i => w[i]?) = wc.map some) (k : G v w) : ∀ (v1 : Option Value) (wa wb : va_W), zd v wc v1 wa wb → wa.map Prod.fst = wc.map Prod.fst → G v1 (wput w ps wa ++ wb) := by
  rintro v1 wa wb ⟨rfl, rfl, rfl⟩ -
  rw [List.append_nil, wput_same ps w wa hps]
  exact k
theorem i_lev {x y : Int32} : (x ≤ y) = ¬ y < x := by
  rw [Int32.lt_iff_toInt_lt, Int32.le_iff_toInt_le]
  exact propext ⟨fun h => by omega, fun h => by omega⟩
theorem u2_ne {σ : Nat → Nat → Int32} {r k r1 : Nat} {x : Int32} (h : r1 ≠ r) : u2 σ r k x r1 = σ r1 := by unfold u2; rw [if_neg h]
theorem u2_eq {σ : Nat → Nat → Int32} {r k : Nat} {x : Int32} : u2 σ r k x r = upd (σ r) k x := by unfold u2; rw [if_pos rfl]
def lsub (a b : List (Option Value)) : Prop := ∀ (k : Nat) (v : Value), a[k]? = some (some v) → b[k]? = some (some v)
theorem ls_0 {b : List (Option Value)} : lsub [] b := fun k v h => by simp at h
theorem ls_s {a b : List (Option Value)} {x : Option Value} (h : lsub a b) : lsub (x :: a) (x :: b) := fun k v hk => by
  cases k with
  | zero => exact hk
  | succ k => exact h k v hk
theorem ls_n {a b : List (Option Value)} {x : Option Value} (h : lsub a b) : lsub (none :: a) (x :: b) := fun k v hk => by
  cases k with
  | zero => simp at hk
  | succ k => exact h k v hk
theorem z_wk {p : Program} {l : Launch} {e : Env} {R : Room} {s : State} {m : MethodId} {args : Array Value} {below : List Frame} {meth : Method} {c : Code} {D : va_G} {A : Nat → Prop} {nL : Nat} {Q : State → Prop} {cells slots pc : Nat} {ls ls2 : List (Option Value)} {st : List Value} {w : va_W} (hl : lsub ls2 ls) (k : zG p l e R s m args below meth c D A nL Q cells slots pc ls2 st w) : zG p l e R s m args below meth c D A nL Q cells slots pc ls st w := fun H locs L hP hD hS hL => k H locs L hP hD hS (lG_mono hL (fun q hq => by
  obtain ⟨j, h1, h2⟩ := lvs_of _ 0 q hq
  have h3 := lvs_in ls 0 j q.2 (hl j q.2 h2)
  rw [← h1] at h3
  exact h3))
theorem wput_all : ∀ {w es : va_W} (h : es.length = w.length), wput w (List.range w.length) es = es := by
  intro w es h
  apply List.ext_getElem?
  intro k
  cases hk : (wput w (List.range w.length) es)[k]? with
  | none =>
    have h1 := List.getElem?_eq_none_iff.mp hk
    rw [wput_len] at h1
    rw [List.getElem?_eq_none_iff.mpr (by omega)]
  | some q =>
    rcases wput_at _ w es k q (by simp [h]) hk with ⟨j, h1, h2⟩ | ⟨h1, h2⟩
    · have h3 : j = k := by
        have h4 := List.getElem?_eq_some_iff.mp h1
        obtain ⟨h5, h6⟩ := h4
        simpa using h6
      rw [← h3]
      exact h2.symm
    · exfalso
      have h5 := (List.getElem?_eq_some_iff.mp h2).1
      exact h1 (List.mem_range.mpr h5)
theorem u2_at {σ : Nat → Nat → Int32} {r k : Nat} {x : Int32} : u2 σ r k x r k = x := by rw [u2_eq]; unfold upd; rw [if_pos rfl]
theorem u2_nk {σ : Nat → Nat → Int32} {r k k1 : Nat} {x : Int32} (h : k1 ≠ k) : u2 σ r k x r k1 = σ r k1 := by rw [u2_eq]; unfold upd; rw [if_neg h]
