/-! THE LAW'S WORLD in blocks; one call of the script -/
def blk (f : Nat → va_W) : List Nat → va_W
  | [] => []
  | i :: t => f i ++ blk f t
theorem blk_perm {f : Nat → va_W} {is js : List Nat} (h : is.Perm js) : (blk f is).Perm (blk f js) := by
  induction h with
  | nil => exact List.Perm.refl _
  | cons x _ ih => exact List.Perm.append_left (f x) ih
  | swap x y t =>
    show (f y ++ (f x ++ blk f t)).Perm (f x ++ (f y ++ blk f t))
    exact pm4
  | trans _ _ h1 h2 => exact h1.trans h2
theorem blk_app {f : Nat → va_W} : ∀ (is js : List Nat), blk f (is ++ js) = blk f is ++ blk f js
  | [], js => rfl
  | i :: t, js => by
    show f i ++ blk f (t ++ js) = (f i ++ blk f t) ++ blk f js
    rw [blk_app t js, List.append_assoc]
theorem blk_congr {f f2 : Nat → va_W} : ∀ (is : List Nat), (∀ i ∈ is, f2 i = f i) → blk f2 is = blk f is
  | [], _ => rfl
  | i :: t, h => by
    show f2 i ++ blk f2 t = f i ++ blk f t
    rw [h i List.mem_cons_self, blk_congr t (fun j hj => h j (List.mem_cons_of_mem _ hj))]
def lwF (b ao : Nat) (q qs qt qh qx : Nat → Nat) (σ ρ τ κ : TB) (g : Nat → Int64) (o z : Int32) (rg : Nat → Option Nat) (og : Nat → Option ((Nat → Nat) × TB)) (ct : Nat → ClassId) : Nat → va_W
  | 0 => [cN b qs qt qh qx]
  | 1 => cS qs σ ct
  | 2 => [zo ct ao g]
  | 3 => cM q κ ct
  | 4 => cS qt ρ ct
  | 5 => cH qh o z rg ct
  | 6 => cT qx τ ct
  | k + 7 => cO (og k) ct
abbrev all13 : List Nat := [0, 1, 2, 3, 4, 5, 6, 7, 8, 9, 10, 11, 12]
/-- the rest of the ring -/
def rng (j : Nat) : List Nat := [7, 8, 9, 10, 11, 12].erase (j + 7)
theorem rng_save : ∀ j, j < 6 → List.Perm all13 ([0, 1, 5, j + 7] ++ 2 :: 3 :: (4 :: 6 :: rng j)) := by decide
theorem rng_text : ∀ j, j < 6 → List.Perm all13 ([0, 6, 1, 5, j + 7] ++ 2 :: 3 :: (4 :: rng j)) := by decide
theorem rng_undo : ∀ j, j < 6 → List.Perm all13 ([0, 1, 5, j + 7] ++ 2 :: 3 :: (4 :: 6 :: rng j)) := by decide
theorem rng_in : ∀ j, j < 6 → ∀ i ∈ rng j, 7 ≤ i ∧ i ≠ j + 7 := by decide
abbrev zW1 (p : Program) (l : Launch) (e : Env) (s : State) (m : MethodId) (args : Array Value) (below : List Frame) (meth : Method) (c : Code) (D : va_G) (A : Nat → Prop) (Q : State → Prop) (b0 b ao i q0 : Nat) (cells slots pc : Nat) (w : va_W) : Prop :=
  zG p l e room_1 s m args below meth c D A 9 Q cells slots pc [some (.ref b0), some (.ref b), some (.ref q0), some (.ref ao), some (.int (nI i)), none, none, none, none] [] w
def zKK (p : Program) (l : Launch) (e : Env) (s : State) (m : MethodId) (args : Array Value) (below : List Frame) (meth : Method) (c : Code) (D : va_G) (A : Nat → Prop) (Q : State → Prop) (b0 b ao i : Nat) (q qs qt qh qx : Nat → Nat) (ct : Nat → ClassId) (n cells slots : Nat) : Prop :=
  ∀ (σ ρ τ κ : TB) (g : Nat → Int64) (o z : Int32) (rg : Nat → Option Nat) (og : Nat → Option ((Nat → Nat) × TB)) (cells2 slots2 : Nat), lawI (n + 1) σ τ κ o z rg og → cells2 ≤ cells + 17 → slots2 ≤ slots + 1640 →
    zW1 p l e s m args below meth c D A Q b0 b ao i (q 0) cells2 slots2 1777 (blk (lwF b ao q qs qt qh qx σ ρ τ κ g o z rg og ct) all13)
theorem node_ex {x : Int32} (h : mNode x = true) : ∃ v : Nat, v < 10 ∧ x = nI v := vnat 10 (by decide) rfl (node_of h).1 (node_of h).2
theorem meter_ex {x : Int32} (h : mMeter x = true) : ∃ v : Nat, 0 < v ∧ v < 10 ∧ x = nI v := by
  obtain ⟨v, hv, e⟩ := node_ex (meter_node h)
  refine ⟨v, ?_, hv, e⟩
  rcases Nat.eq_zero_or_pos v with c | c
  · subst c; exact absurd e (meter_0 h)
  · exact c
theorem bfalse {b : Bool} (h : ¬ b = true) : b = false := by
  cases b with
  | true => exact absurd rfl h
  | false => rfl
theorem rng_ex {x : Int32} {lo hi : Nat} (hlo : lo < 2 ^ 31) (hhi : hi < 2 ^ 31) (h1 : ¬ x < nI lo) (h2 : ¬ nI hi < x) : ∃ v : Nat, lo ≤ v ∧ v ≤ hi ∧ x = nI v := by
  have h0 : ¬ x < 0 := fun q => h1 (by rw [Int32.lt_iff_toInt_lt] at q ⊢; rw [nI_toInt hlo]; have : (0 : Int32).toInt = 0 := rfl; omega)
  obtain ⟨v, hv, e⟩ := nI_of h0
  subst e
  rw [nI_ltI hv hlo] at h1
  rw [nI_ltI hhi hv] at h2
  exact ⟨v, by omega, by omega, rfl⟩
theorem mIn_iff {x lo hi : Int32} : mIn x lo hi = true ↔ ¬ x < lo ∧ ¬ hi < x := by
  unfold mIn
  rw [Bool.and_eq_true, decide_eq_true_eq, decide_eq_true_eq, i_nlt, i_nlt]
theorem mIn_no {x lo hi : Int32} (h : mIn x lo hi = false) : x < lo ∨ hi < x := by
  by_cases c : x < lo
  · exact Or.inl c
  · by_cases c2 : hi < x
    · exact Or.inr c2
    · rw [mIn_iff.mpr ⟨c, c2⟩] at h
      exact absurd h (by decide)
theorem zd_int {x : Int32} {w : va_W} : ∀ (v : Option Value) (wa wb : va_W), zd (some (.int x)) w v wa wb → ∃ y : Int32, v = some (.int y) := fun _ _ _ h => ⟨x, h.1⟩
theorem zS_int {x : Int32} {X : va_W} {qs qh : Nat → Nat} {σ2 : TB} {o2 z2 : Int32} {rg : Nat → Option Nat} {j : Nat} {og : Option ((Nat → Nat) × TB)} {γ2 : TB} {ct : Nat → ClassId} : ∀ (v : Option Value) (wa wb : va_W), zS (some (.int x)) X qs qh σ2 o2 z2 rg j og γ2 ct v wa wb → ∃ y : Int32, v = some (.int y) := fun _ _ _ h => ⟨x, h.1⟩
section STP
variable {p : Program} {l : Launch} {e : Env} {s : State} {m : MethodId} {args : Array Value} {below : List Frame} {meth : Method} {c : Code} {D : va_G} {A : Nat → Prop} {Q : State → Prop} {ct : Nat → ClassId} {b0 b ao i : Nat} {q qs qt qh qx : Nat → Nat} {n cells slots : Nat} {σ ρ τ κ κ2 : TB} {g : Nat → Int64} {o z : Int32} {rg : Nat → Option Nat} {og : Nat → Option ((Nat → Nat) × TB)} {f : Nat → va_W} {cl rs : List Nat} {wc R : va_W} {pc : Nat}
theorem z_open (hp : List.Perm all13 (cl ++ 2 :: 3 :: rs)) (hwc : blk f cl = wc) (h2 : f 2 = [zo ct ao g]) (h3 : f 3 = cM q κ ct) (k : zW1 p l e s m args below meth c D A Q b0 b ao i (q 0) cells slots pc ((wc ++ [zo ct ao g]) ++ (cM q κ ct ++ blk f rs))) : zW1 p l e s m args below meth c D A Q b0 b ao i (q 0) cells slots pc (blk f all13) := by
  refine zG_perm (blk_perm hp) ?_
  have e : blk f (cl ++ 2 :: 3 :: rs) = (wc ++ [zo ct ao g]) ++ (cM q κ ct ++ blk f rs) := by
    rw [blk_app]
    show blk f cl ++ (f 2 ++ (f 3 ++ blk f rs)) = _
    rw [hwc, h2, h3, List.append_assoc]
  rw [e]
  exact k
theorem z_close (hp : List.Perm all13 (cl ++ 2 :: 3 :: rs)) (hwc : blk f cl = wc) (h2 : f 2 = [zo ct ao g]) (h3 : f 3 = cM q κ ct) (hR : blk f rs = R) (k : zW1 p l e s m args below meth c D A Q b0 b ao i (q 0) cells slots pc (blk f all13)) : zW1 p l e s m args below meth c D A Q b0 b ao i (q 0) cells slots pc ((wc ++ [zo ct ao g]) ++ (cM q κ ct ++ R)) := by
  have e : blk f (cl ++ 2 :: 3 :: rs) = (wc ++ [zo ct ao g]) ++ (cM q κ ct ++ R) := by
    rw [blk_app]
    show blk f cl ++ (f 2 ++ (f 3 ++ blk f rs)) = _
    rw [hwc, h2, h3, hR, List.append_assoc]
  rw [← e]
  exact zG_perm (blk_perm hp).symm k
/-- behind a call that leaves the class's object -/
theorem k_same (K : zKK p l e s m args below meth c D A Q b0 b ao i q qs qt qh qx ct n cells slots) (hI : lawI (n + 1) σ τ κ2 o z rg og) (hp : List.Perm all13 (cl ++ 2 :: 3 :: rs)) (g2 : Nat → Int64) (hwc : blk (lwF b ao q qs qt qh qx σ ρ τ κ2 g2 o z rg og ct) cl = wc) (hR : blk (lwF b ao q qs qt qh qx σ ρ τ κ2 g2 o z rg og ct) rs = R) {cells2 slots2 : Nat} (h1 : cells2 ≤ cells + 17) (h2 : slots2 ≤ slots + 1640) :
    zW1 p l e s m args below meth c D A Q b0 b ao i (q 0) cells2 slots2 1777 ((wc ++ [zo ct ao g2]) ++ (cM q κ2 ct ++ R)) :=
  z_close hp hwc rfl rfl hR (K σ ρ τ κ2 g2 o z rg og cells2 slots2 hI h1 h2)
theorem e_0 : blk (lwF b ao q qs qt qh qx σ ρ τ κ g o z rg og ct) [0] = [cN b qs qt qh qx] := rfl
theorem e_01 : blk (lwF b ao q qs qt qh qx σ ρ τ κ g o z rg og ct) [0, 1] = cN b qs qt qh qx :: cS qs σ ct := by
  show [_] ++ (cS qs σ ct ++ []) = _
  rw [List.append_nil]
  rfl
theorem e_05 : blk (lwF b ao q qs qt qh qx σ ρ τ κ g o z rg og ct) [0, 5] = cN b qs qt qh qx :: cH qh o z rg ct := rfl
theorem e_05b : blk (lwF b ao q qs qt qh qx σ ρ τ κ g o z rg og ct) [0, 5] = [cN b qs qt qh qx] ++ cH qh o z rg ct := rfl
theorem e_06 : blk (lwF b ao q qs qt qh qx σ ρ τ κ g o z rg og ct) [0, 6] = cN b qs qt qh qx :: cT qx τ ct := rfl
theorem e_014 : blk (lwF b ao q qs qt qh qx σ ρ τ κ g o z rg og ct) [0, 1, 4] = [cN b qs qt qh qx] ++ (cS qs σ ct ++ cS qt ρ ct) := by
  show [_] ++ (cS qs σ ct ++ (cS qt ρ ct ++ [])) = _
  rw [List.append_nil]
theorem e_save {j : Nat} : blk (lwF b ao q qs qt qh qx σ ρ τ κ g o z rg og ct) [0, 1, 5, j + 7] = [cN b qs qt qh qx] ++ (cS qs σ ct ++ (cH qh o z rg ct ++ cO (og j) ct)) := by
  show [_] ++ (cS qs σ ct ++ (cH qh o z rg ct ++ (cO (og j) ct ++ []))) = _
  rw [List.append_nil]
theorem e_text {j : Nat} : blk (lwF b ao q qs qt qh qx σ ρ τ κ g o z rg og ct) [0, 6, 1, 5, j + 7] = (cN b qs qt qh qx :: cT qx τ ct) ++ (cS qs σ ct ++ (cH qh o z rg ct ++ cO (og j) ct)) := by
  show [_] ++ (cT qx τ ct ++ (cS qs σ ct ++ (cH qh o z rg ct ++ (cO (og j) ct ++ [])))) = _
  rw [List.append_nil]
  rfl
theorem r_save {j : Nat} (hj : j < 6) {σ2 κ2 : TB} {g2 : Nat → Int64} {o2 z2 : Int32} {rg2 : Nat → Option Nat} {og2 : Nat → Option ((Nat → Nat) × TB)} (hog : ∀ k, k ≠ j → og2 k = og k) : blk (lwF b ao q qs qt qh qx σ2 ρ τ κ2 g2 o2 z2 rg2 og2 ct) (4 :: 6 :: rng j) = blk (lwF b ao q qs qt qh qx σ ρ τ κ g o z rg og ct) (4 :: 6 :: rng j) := by
  refine blk_congr _ (fun x hx => ?_)
  rcases List.mem_cons.mp hx with rfl | hx
  · rfl
  rcases List.mem_cons.mp hx with rfl | hx
  · rfl
  obtain ⟨h1, h2⟩ := rng_in j hj x hx
  obtain ⟨k, rfl⟩ : ∃ k, x = k + 7 := ⟨x - 7, by omega⟩
  show cO (og2 k) ct = cO (og k) ct
  rw [hog k (by omega)]
theorem r_text {j : Nat} (hj : j < 6) {σ2 τ2 κ2 : TB} {g2 : Nat → Int64} {o2 z2 : Int32} {rg2 : Nat → Option Nat} {og2 : Nat → Option ((Nat → Nat) × TB)} (hog : ∀ k, k ≠ j → og2 k = og k) : blk (lwF b ao q qs qt qh qx σ2 ρ τ2 κ2 g2 o2 z2 rg2 og2 ct) (4 :: rng j) = blk (lwF b ao q qs qt qh qx σ ρ τ κ g o z rg og ct) (4 :: rng j) := by
  refine blk_congr _ (fun x hx => ?_)
  rcases List.mem_cons.mp hx with rfl | hx
  · rfl
  obtain ⟨h1, h2⟩ := rng_in j hj x hx
  obtain ⟨k, rfl⟩ : ∃ k, x = k + 7 := ⟨x - 7, by omega⟩
  show cO (og2 k) ct = cO (og k) ct
  rw [hog k (by omega)]
/-- behind a call that saved -/
theorem k_save {j : Nat} (hj : j < 6) {σ2 γ2 : TB} {w2 : va_W} (K : zKK p l e s m args below meth c D A Q b0 b ao i q qs qt qh qx ct n cells slots) (a2 : Nat → Nat) (hI : lawI (n + 1) σ2 τ κ2 (mhO o z) (mhZ z) (va_up rg j (some (a2 0))) (fun i => if i = j then some (a2, γ2) else og i))
    (hw : w2 = [cN b qs qt qh qx] ++ (cS qs σ2 ct ++ (cH qh (mhO o z) (mhZ z) (va_up rg j (some (a2 0))) ct ++ cS a2 γ2 ct))) (g2 : Nat → Int64) {cells2 slots2 : Nat} (h1 : cells2 ≤ cells + 17) (h2 : slots2 ≤ slots + 1640) :
    zW1 p l e s m args below meth c D A Q b0 b ao i (q 0) cells2 slots2 1777 ((w2 ++ [zo ct ao g2]) ++ (cM q κ2 ct ++ blk (lwF b ao q qs qt qh qx σ ρ τ κ g o z rg og ct) (4 :: 6 :: rng j))) := by
  subst hw
  refine z_close (f := lwF b ao q qs qt qh qx σ2 ρ τ κ2 g2 (mhO o z) (mhZ z) (va_up rg j (some (a2 0))) (fun i => if i = j then some (a2, γ2) else og i) ct) (rng_save j hj) ?_ rfl rfl (r_save hj (fun k hk => if_neg hk)) (K _ _ _ _ _ _ _ _ _ _ _ hI h1 h2)
  rw [e_save, if_pos rfl]
  rfl
theorem k_text {j : Nat} (hj : j < 6) {σ2 τ2 γ2 : TB} {w2 : va_W} (K : zKK p l e s m args below meth c D A Q b0 b ao i q qs qt qh qx ct n cells slots) (a2 : Nat → Nat) (hI : lawI (n + 1) σ2 τ2 κ2 (mhO o z) (mhZ z) (va_up rg j (some (a2 0))) (fun i => if i = j then some (a2, γ2) else og i))
    (hw : w2 = (cN b qs qt qh qx :: cT qx τ2 ct) ++ (cS qs σ2 ct ++ (cH qh (mhO o z) (mhZ z) (va_up rg j (some (a2 0))) ct ++ cS a2 γ2 ct))) (g2 : Nat → Int64) {cells2 slots2 : Nat} (h1 : cells2 ≤ cells + 17) (h2 : slots2 ≤ slots + 1640) :
    zW1 p l e s m args below meth c D A Q b0 b ao i (q 0) cells2 slots2 1777 ((w2 ++ [zo ct ao g2]) ++ (cM q κ2 ct ++ blk (lwF b ao q qs qt qh qx σ ρ τ κ g o z rg og ct) (4 :: rng j))) := by
  subst hw
  refine z_close (f := lwF b ao q qs qt qh qx σ2 ρ τ2 κ2 g2 (mhO o z) (mhZ z) (va_up rg j (some (a2 0))) (fun i => if i = j then some (a2, γ2) else og i) ct) (rng_text j hj) ?_ rfl rfl (r_text hj (fun k hk => if_neg hk)) (K _ _ _ _ _ _ _ _ _ _ _ hI h1 h2)
  rw [e_text, if_pos rfl]
  rfl
end STP
