section ZH
variable {p : Program} {l : Launch} {e : Env} {R : Room} {s : State} {m : MethodId} {args : Array Value} {below : List Frame} {meth : Method} {c : Code} {D : va_G} {A : Nat → Prop} {nL : Nat} {Q : State → Prop} {cells slots pc : Nat} {ls : List (Option Value)} {st : List Value} {w : va_W} {own : String} {cc : ByteArray} {ct : Nat → ClassId}
theorem z_aload_nN {j : Fin 4} (h : zC p s m meth c args own nL cc D ct A) (d : decode cc pc = .ok (.aload_n j, 1)) (hl : ls[(j : Nat)]? = some (some .null)) (k : zG p l e R s m args below meth c D A nL Q cells slots (pc + 1) ls (.null :: st) w) : zG p l e R s m args below meth c D A nL Q cells slots pc ls st w := fun H locs L hP hD hS hL => lv_aload_nN (z_exec h) (z_code h) d rfl (lG_at hL _ hl) (k H locs L hP hD hS hL)
theorem z_astore_nN {j : Fin 4} (h : zC p s m meth c args own nL cc D ct A) (d : decode cc pc = .ok (.astore_n j, 1)) (hn : (j : Nat) < nL) (hz : okst ls (j : Nat) = true) (k : zG p l e R s m args below meth c D A nL Q cells slots (pc + 1) (ls.set (j : Nat) (some .null)) st w) : zG p l e R s m args below meth c D A nL Q cells slots pc ls (.null :: st) w := fun H locs L hP hD hS hL => lv_astore_nN (z_exec h) (z_code h) d rfl hL hn rfl (fun L1 hL1 => k H locs L1 hP hD hS (lG_set hz hL1))
theorem z_null (h : zC p s m meth c args own nL cc D ct A) (d : decode cc pc = .ok (.aconst_null, 1)) (k : zG p l e R s m args below meth c D A nL Q cells slots (pc + 1) ls (.null :: st) w) : zG p l e R s m args below meth c D A nL Q cells slots pc ls st w := fun H locs L hP hD hS hL => lv_null (z_exec h) (z_code h) d (k H locs L hP hD hS hL)
theorem z_ifnonnull {x : Nat} {off : Int} (h : zC p s m meth c args own nL cc D ct A) (tgt : Nat) (d : decode cc pc = .ok (.ifnonnull off, 3)) (ht : (pc : Int) + off = (tgt : Int)) (k : zG p l e R s m args below meth c D A nL Q cells slots tgt ls st w) : zG p l e R s m args below meth c D A nL Q cells slots pc ls (.ref x :: st) w := fun H locs L hP hD hS hL => lv_ifnonnull (z_exec h) (z_code h) d ht (k H locs L hP hD hS hL)
theorem z_ifnonnullN {off : Int} (h : zC p s m meth c args own nL cc D ct A) (d : decode cc pc = .ok (.ifnonnull off, 3)) (k : zG p l e R s m args below meth c D A nL Q cells slots (pc + 3) ls st w) : zG p l e R s m args below meth c D A nL Q cells slots pc ls (.null :: st) w := fun H locs L hP hD hS hL => lv_ifnonnullN (z_exec h) (z_code h) d (k H locs L hP hD hS hL)
theorem z_aldq {a n : Nat} {cA : ClassId} {f : Nat → Option Nat} {i : Int32} {v : Value} (q0 : Nat) (h : zC p s m meth c args own nL cc D ct A) (ht : (zty ct)[3]? = some (cA, .object "MeterNetwork$State")) (ha : w[q0]? = some (a, .inl (cA, n, .inr (.inr (.inr (.inr f)))))) (hin : vp_in i n) (d : decode cc pc = .ok (.aaload, 1)) (hv : va_rf (f i.toNatClampNeg) = v) (k : zG p l e R s m args below meth c D A nL Q cells slots (pc + 1) ls (v :: st) w) : zG p l e R s m args below meth c D A nL Q cells slots pc ls (.int i :: .ref a :: st) w := fun H locs L hP hD hS hL => by
  subst hv
  exact va_aldq (D := D) (z_exec h) (z_code h) (z_K h) hP q0 3 ha ht hin d (k H locs L hP hD hS hL)
theorem z_astq {a n v : Nat} {cA : ClassId} {f : Nat → Option Nat} {i : Int32} {vs : List Value} (q0 qk : Nat) (h : zC p s m meth c args own nL cc D ct A) (ht : (zty ct)[3]? = some (cA, .object "MeterNetwork$State")) (ha : w[q0]? = some (a, .inl (cA, n, .inr (.inr (.inr (.inr f)))))) (hv : w[qk]? = some (v, .inr (2, vs))) (hin : vp_in i n) (d : decode cc pc = .ok (.aastore, 1)) {w2 : va_W} (hw : w.set q0 (a, .inl (cA, n, .inr (.inr (.inr (.inr (va_up f i.toNatClampNeg (some v))))))) = w2) (k : zG p l e R s m args below meth c D A nL Q cells slots (pc + 1) ls st w2) : zG p l e R s m args below meth c D A nL Q cells slots pc ls (.ref v :: .int i :: .ref a :: st) w := fun H locs L hP hD hS hL => by
  subst hw
  exact va_astq (D := D) (r := (RX2, TX2, 15)) (z_exec h) (z_code h) (z_K h) hP hD hS q0 3 qk 2 ha ht hv rfl hin d (fun H1 locs1 hP1 hD1 hS1 => k H1 locs1 L hP1 hD1 hS1 hL)
theorem z_aret {mc ms : Nat} {w0 wa wb : va_W} {po : Option Value → va_W → va_W → Prop} {v : Value} {rt : FieldType} (h : zC p s m meth c args own nL cc D ct (va_A w0 s.heap.size)) (hr : meth.sig.returnType = some rt) (hrt : (∃ n, rt = .object n) ∨ ∃ t, rt = .array t) (hv : v = .null ∨ ∃ a, v = .ref a) (d : decode cc pc = .ok (.areturn, 1)) (hc : cells ≤ mc) (hs : slots ≤ ms) (hpo : po (some v) wa wb) (hw : w = wa ++ wb) (hadr : wa.map Prod.fst = w0.map Prod.fst) : zG p l e R s m args below meth c D (va_A w0 s.heap.size) nL (MQ below (zQ D ct w0 s.heap.size po) args s mc ms (va_A w0 s.heap.size)) cells slots pc ls [v] w := fun H locs L hP hD hS hL =>
  W.widen hc hs (W.aret (z_exec h) (z_code h) hr hrt hv (fun t ht hW => z_end hpo hw hadr hP hD hS ht) hS.2.2 d (z_locks h))
end ZH
/-- the history: its object, its ring -/
abbrev cH (qh : Nat → Nat) (o z : Int32) (rg : Nat → Option Nat) (ct : Nat → ClassId) : va_W := [(qh 0, .inr (0, [.ref (qh 1), .int o, .int z])), (qh 1, .inl (ct 3, 6, .inr (.inr (.inr (.inr rg)))))]
def mhO (o z : Int32) : Int32 := if 6 ≤ z then mFloor (o + 1) 6 else o
def mhZ (z : Int32) : Int32 := if 6 ≤ z then z else z + 1
theorem wput_pre {wc rest wa : va_W} (h : wa.length = wc.length) : wput (wc ++ rest) (List.range wc.length) wa = wa ++ rest := by
  rw [wput_app _ _ _ _ (fun p hp => List.mem_range.mp hp), wput_all h]
theorem cS_len2 {q q2 : Nat → Nat} {σ τ : Nat → Nat → Int32} {ct : Nat → ClassId} : (cS q σ ct).length = (cS q2 τ ct).length := rfl
theorem cH_len {qh : Nat → Nat} {o z : Int32} {rg : Nat → Option Nat} {ct : Nat → ClassId} {B : va_W} : (cH qh o z rg ct ++ B).map Prod.fst = qh 0 :: qh 1 :: B.map Prod.fst := rfl
theorem cSw_1 {q gq : Nat → Nat} {γ γ2 σ : Nat → Nat → Int32} {qh : Nat → Nat} {o z : Int32} {rg : Nat → Option Nat} {ct : Nat → ClassId} : wput (cH qh o z rg ct ++ (cS gq γ ct ++ cS q σ ct)) [2, 3, 4, 5, 6, 7, 8, 9, 10, 11, 12, 13, 14, 15, 16, 17, 18, 19, 20, 21, 22, 23, 24, 25, 26, 27, 28, 29, 30, 31, 32, 33] (cS gq γ2 ct ++ cS q σ ct) = cH qh o z rg ct ++ (cS gq γ2 ct ++ cS q σ ct) := by
  have e : (cS gq γ ct ++ cS q σ ct).length = 32 := rfl
  have h1 : ∀ (x y : Nat × va_E) (ps : List Nat) (w es : va_W), wput (x :: y :: w) (ps.map (· + 2)) es = x :: y :: wput w ps es := by
    intro x y ps
    induction ps with
    | nil => intro w es; cases es <;> rfl
    | cons p ps ih =>
      intro w es
      cases es with
      | nil => rfl
      | cons e es => exact ih (w.set p e) es
  have h2 := h1 (qh 0, .inr (0, [.ref (qh 1), .int o, .int z])) (qh 1, .inl (ct 3, 6, .inr (.inr (.inr (.inr rg))))) (List.range 32) (cS gq γ ct ++ cS q σ ct) (cS gq γ2 ct ++ cS q σ ct)
  have h3 := wput_all (w := cS gq γ ct ++ cS q σ ct) (es := cS gq γ2 ct ++ cS q σ ct) (by rw [List.length_append, List.length_append]; rfl)
  rw [e] at h3
  rw [h3] at h2
  exact h2
theorem wput_suf : ∀ (ps : List Nat) (A B es : va_W), wput (A ++ B) (ps.map (· + A.length)) es = A ++ wput B ps es
  | [], A, B, es => by cases es <;> rfl
  | p :: ps, A, B, [] => rfl
  | p :: ps, A, B, e :: es => by
    show wput ((A ++ B).set (p + A.length) e) (ps.map (· + A.length)) es = A ++ wput (B.set p e) ps es
    rw [List.set_append_right _ _ (by omega), Nat.add_sub_cancel]
    exact wput_suf ps A (B.set p e) es
theorem cSw_2 {q gq : Nat → Nat} {γ γ2 σ : Nat → Nat → Int32} {qh : Nat → Nat} {o z : Int32} {rg : Nat → Option Nat} {ct : Nat → ClassId} : wput (cH qh o z rg ct ++ (cS q σ ct ++ cS gq γ ct)) [18, 19, 20, 21, 22, 23, 24, 25, 26, 27, 28, 29, 30, 31, 32, 33, 2, 3, 4, 5, 6, 7, 8, 9, 10, 11, 12, 13, 14, 15, 16, 17] (cS gq γ2 ct ++ cS q σ ct) = cH qh o z rg ct ++ (cS q σ ct ++ cS gq γ2 ct) := by
  have h1 := wput_two [18, 19, 20, 21, 22, 23, 24, 25, 26, 27, 28, 29, 30, 31, 32, 33] [2, 3, 4, 5, 6, 7, 8, 9, 10, 11, 12, 13, 14, 15, 16, 17] (cH qh o z rg ct ++ (cS q σ ct ++ cS gq γ ct)) (cS gq γ2 ct) (cS q σ ct) rfl
  have h2 := wput_suf (List.range 16) (cH qh o z rg ct ++ cS q σ ct) (cS gq γ ct) (cS gq γ2 ct)
  have e : (cS gq γ ct).length = 16 := rfl
  have h4 := wput_all (w := cS gq γ ct) (es := cS gq γ2 ct) cS_len2
  rw [e] at h4
  rw [h4, List.append_assoc, List.append_assoc] at h2
  have h5 : (List.range 16).map (· + (cH qh o z rg ct ++ cS q σ ct).length) = [18, 19, 20, 21, 22, 23, 24, 25, 26, 27, 28, 29, 30, 31, 32, 33] := rfl
  rw [h5] at h2
  rw [h2] at h1
  have h3 := wput_same [2, 3, 4, 5, 6, 7, 8, 9, 10, 11, 12, 13, 14, 15, 16, 17] (cH qh o z rg ct ++ (cS q σ ct ++ cS gq γ2 ct)) (cS q σ ct) rfl
  rw [h3] at h1
  exact h1
