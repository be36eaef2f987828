/-! THE NETWORK's OWN PICTURE, saving a state in it -/
abbrev cN (b : Nat) (qs qt qh qx : Nat → Nat) : Nat × va_E := (b, .inr (4, [.ref (qs 0), .ref (qt 0), .ref (qh 0), .ref (qx 0)]))
def cO (og : Option ((Nat → Nat) × (Nat → Nat → Int32))) (ct : Nat → ClassId) : va_W := match og with
  | none => []
  | some g => cS g.1 g.2 ct
def ogB (og : Option ((Nat → Nat) × (Nat → Nat → Int32))) : Nat → Nat → Int32 := match og with
  | none => msInit
  | some g => g.2
def ogA (og : Option ((Nat → Nat) × (Nat → Nat → Int32))) : Option Nat := match og with
  | none => none
  | some g => some (g.1 0)
theorem perm_a {X S H G : va_W} : (X ++ (S ++ (H ++ G))).Perm ((H ++ (G ++ S)) ++ X) := List.perm_append_comm.trans (List.Perm.append_right X (List.perm_append_comm.trans (by rw [List.append_assoc])))
theorem perm_b {X S H : va_W} : (X ++ (S ++ (H ++ []))).Perm ((H ++ S) ++ X) := List.perm_append_comm.trans (List.Perm.append_right X (List.perm_append_comm.trans (by rw [List.append_nil])))
theorem perm_c {X S H G : va_W} : ((H ++ S) ++ X ++ G).Perm (X ++ (S ++ (H ++ G))) := by
  have h1 : ((H ++ S) ++ X ++ G).Perm (X ++ (H ++ S) ++ G) := List.Perm.append_right G List.perm_append_comm
  refine h1.trans ?_
  rw [List.append_assoc]
  refine List.Perm.append_left X ?_
  have h2 : (H ++ S ++ G).Perm (S ++ H ++ G) := List.Perm.append_right G List.perm_append_comm
  rw [List.append_assoc S H G] at h2
  exact h2
theorem va_up_same {rg : Nat → Option Nat} {j : Nat} {v : Option Nat} (h : rg j = v) : va_up rg j v = rg := by
  funext k
  unfold va_up
  split
  · rename_i hk
    rw [hk, h]
  · rfl
section ZN
variable {p : Program} {l : Launch} {e : Env} {R : Room} {s : State} {m : MethodId} {args : Array Value} {below : List Frame} {meth : Method} {c : Code} {D : va_G} {A : Nat → Prop} {nL : Nat} {Q : State → Prop} {cells slots pc : Nat} {ls : List (Option Value)} {rest : List Value} {X : va_W} {cc : ByteArray} {ct : Nat → ClassId} {qs qh : Nat → Nat} {σ : Nat → Nat → Int32} {o z : Int32} {rg : Nat → Option Nat}
theorem z_save {og : Option ((Nat → Nat) × (Nat → Nat → Int32))} {j : Nat} (h : zC p s m meth c args RX4 nL cc D ct A) (hj : j < 6) (hi : mFloor (o + z) 6 = nI j) (hg : rg j = ogA og) (hb1 : zbit (σ 1) 100) (hb2 : zbit (σ 2) 10)
    (hR : 4 + 1 ≤ R.frames ∧ 8 + (4 + 11) + 103 ≤ R.locals) (hrs : (rest.map fun v => v.category).sum ≤ 8) (hf : cells + 16 ≤ R.cells ∧ slots + 1633 ≤ R.slots) (d : decode cc pc = .ok (.invokevirtual 44, 3))
    (k : ∀ g' : Nat → Nat, (∀ g, og = some g → g' = g.1) → zG p l e R s m args below meth c D A nL Q (cells + 16) (slots + 1633) (pc + 3) ls rest (X ++ (cS qs σ ct ++ (cH qh (mhO o z) (mhZ z) (va_up rg j (some (g' 0))) ct ++ cS g' (msCopy (ogB og) σ) ct)))) :
    zG p l e R s m args below meth c D A nL Q cells slots pc ls (.ref (qs 0) :: .ref (qh 0) :: rest) (X ++ (cS qs σ ct ++ (cH qh o z rg ct ++ cO og ct))) := by
  cases og with
  | none =>
    refine zG_perm perm_b ?_
    refine z_callVN (List.range 18) 0 0 h (c_X0_save2 l D ct qh qs o z rg σ j hj hi hg hb1 hb2) nw_20 bw_274 bw_275 bw_17 bw_276 1 (by decide +kernel) rfl (by decide) rfl rfl rfl hR hrs hf rfl d ?_
    rintro v wa wb ⟨rfl, gq, rfl, rfl⟩ hadr
    have e1 := wput_pre (wc := cH qh o z rg ct ++ cS qs σ ct) (rest := X) (wa := cH qh (mhO o z) (mhZ z) (va_up rg j (some (gq 0))) ct ++ cS qs σ ct) rfl
    have e2 : List.range 18 = List.range (cH qh o z rg ct ++ cS qs σ ct).length := rfl
    rw [e2, e1]
    exact zG_perm perm_c (k gq (fun g hg => by cases hg))
  | some g =>
    obtain ⟨gq, γ⟩ := g
    refine zG_perm perm_a ?_
    refine z_callVN (List.range 34) 0 0 h (c_X0_save1 l D ct qh gq qs o z rg γ σ j hj hi hg hb1 hb2) nw_20 bw_274 bw_275 bw_17 bw_276 1 (by decide +kernel) rfl (by decide) rfl rfl rfl hR hrs hf rfl d ?_
    rintro v wa wb ⟨rfl, rfl, rfl⟩ hadr
    have e1 := wput_pre (wc := cH qh o z rg ct ++ (cS gq γ ct ++ cS qs σ ct)) (rest := X) (wa := cH qh (mhO o z) (mhZ z) rg ct ++ (cS gq (msCopy γ σ) ct ++ cS qs σ ct)) rfl
    have e2 : List.range 34 = List.range (cH qh o z rg ct ++ (cS gq γ ct ++ cS qs σ ct)).length := rfl
    rw [e2, show cO (some (gq, γ)) ct = cS gq γ ct from rfl, e1, List.append_nil]
    have k2 := k gq (fun g hg => by cases hg; rfl)
    rw [va_up_same (show rg j = some (gq 0) from hg)] at k2
    exact zG_perm perm_a.symm k2
end ZN
/-- the end of a method that saved: its answer, the state, the history then -/
def zS (v : Option Value) (X : va_W) (qs qh : Nat → Nat) (σ2 : Nat → Nat → Int32) (o2 z2 : Int32) (rg : Nat → Option Nat) (j : Nat) (og : Option ((Nat → Nat) × (Nat → Nat → Int32))) (γ2 : Nat → Nat → Int32) (ct : Nat → ClassId) : Option Value → va_W → va_W → Prop := fun v1 wa wb =>
  v1 = v ∧ ∃ g' : Nat → Nat, (∀ g, og = some g → g' = g.1) ∧ wa ++ wb = X ++ (cS qs σ2 ct ++ (cH qh o2 z2 (va_up rg j (some (g' 0))) ct ++ cS g' γ2 ct))
theorem zS_split {X : va_W} {qs qh g' : Nat → Nat} {σ σ2 γ2 : Nat → Nat → Int32} {o z o2 z2 : Int32} {rg : Nat → Option Nat} {j : Nat} {og : Option ((Nat → Nat) × (Nat → Nat → Int32))} {ct : Nat → ClassId} {X0 : va_W} (hX : X.map Prod.fst = X0.map Prod.fst) (hg : ∀ g, og = some g → g' = g.1) :
    ∃ wa wb : va_W, X ++ (cS qs σ2 ct ++ (cH qh o2 z2 (va_up rg j (some (g' 0))) ct ++ cS g' γ2 ct)) = wa ++ wb ∧ wa.map Prod.fst = (X0 ++ (cS qs σ ct ++ (cH qh o z rg ct ++ cO og ct))).map Prod.fst := by
  cases og with
  | none =>
    refine ⟨X ++ (cS qs σ2 ct ++ cH qh o2 z2 (va_up rg j (some (g' 0))) ct), cS g' γ2 ct, by simp only [List.append_assoc], ?_⟩
    simp only [List.map_append]
    rw [hX]
    rfl
  | some g =>
    rw [hg g rfl]
    refine ⟨X ++ (cS qs σ2 ct ++ (cH qh o2 z2 (va_up rg j (some (g.1 0))) ct ++ cS g.1 γ2 ct)), [], (List.append_nil _).symm, ?_⟩
    simp only [List.map_append]
    rw [hX]
    rfl
