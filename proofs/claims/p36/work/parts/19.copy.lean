def cpr (ρ : Nat → Nat → Int32) (r n : Nat) (κ : Nat → Nat → Int32) : Nat → Nat → Int32 := fun r1 => if r1 = r then kcp n (κ r) (ρ r) else ρ r1
def mrCopy (ρ κ : Nat → Nat → Int32) : Nat → Nat → Int32 := cpr (cpr (cpr (u2 (cpr (cpr (cpr (cpr ρ 1 60 κ) 2 60 κ) 3 60 κ) 4 60 κ) 0 0 (κ 0 0)) 5 10 κ) 6 600 κ) 7 600 κ
def zbit (f : Nat → Int32) (N : Nat) : Prop := ∀ i, i < N → fits .boolean (.int (f i)) = true
def msCopy1 (σ τ : Nat → Nat → Int32) : Nat → Nat → Int32 := cpr (cpr (cpr (cpr (cpr (cpr (cpr σ 1 100 τ) 2 10 τ) 3 10 τ) 4 10 τ) 5 10 τ) 6 10 τ) 7 10 τ
def msCopyX (σ τ : Nat → Nat → Int32) : Nat → Nat → Int32 := u2 (u2 (u2 (u2 (u2 (u2 (u2 (wd (msCopy1 σ τ) (mrCopy (rd σ) (rd τ))) 0 0 (τ 0 0)) 0 1 (τ 0 1)) 0 2 (τ 0 2)) 0 3 (τ 0 3)) 0 4 (τ 0 4)) 0 5 (τ 0 5)) 0 6 (τ 0 6)
theorem rd_cpr {σ τ : Nat → Nat → Int32} {r n : Nat} (h : r < 8) : rd (cpr σ r n τ) = rd σ := by
  funext r1
  unfold rd cpr
  rw [if_neg (by omega)]
theorem wput_two : ∀ (ps ps2 : List Nat) (w es es2 : va_W), es.length = ps.length → wput w (ps ++ ps2) (es ++ es2) = wput (wput w ps es) ps2 es2
  | [], ps2, w, [], es2, _ => by cases ps2 <;> rfl
  | [], ps2, w, e :: es, es2, h => by simp at h
  | p :: ps, ps2, w, [], es2, h => by simp at h
  | p :: ps, ps2, w, e :: es, es2, h => wput_two ps ps2 (w.set p e) es es2 (by simpa using h)
theorem wput_app : ∀ (ps : List Nat) (w es B : va_W), (∀ p ∈ ps, p < w.length) → wput (w ++ B) ps es = wput w ps es ++ B
  | [], w, es, B, h => by cases es <;> rfl
  | p :: ps, w, [], B, h => rfl
  | p :: ps, w, e :: es, B, h => by
    show wput ((w ++ B).set p e) ps es = wput (w.set p e) ps es ++ B
    rw [List.set_append_left _ _ (h p List.mem_cons_self)]
    exact wput_app ps (w.set p e) es B (fun p2 hp2 => by rw [List.length_set]; exact h p2 (List.mem_cons_of_mem _ hp2))
theorem cSS_wd {q q2 : Nat → Nat} {σ τ ρ : Nat → Nat → Int32} {ct : Nat → ClassId} : wput (cS q σ ct ++ cS q2 τ ct) [8, 9, 10, 11, 12, 13, 14, 15, 24, 25, 26, 27, 28, 29, 30, 31] (cR (fun i => q (8 + i)) ρ ct ++ cR (fun i => q2 (8 + i)) (rd τ) ct) = cS q (wd σ ρ) ct ++ cS q2 τ ct := by
  have h1 := wput_two [8, 9, 10, 11, 12, 13, 14, 15] [24, 25, 26, 27, 28, 29, 30, 31] (cS q σ ct ++ cS q2 τ ct) (cR (fun i => q (8 + i)) ρ ct) (cR (fun i => q2 (8 + i)) (rd τ) ct) rfl
  have h2 := wput_app [8, 9, 10, 11, 12, 13, 14, 15] (cS q σ ct) (cR (fun i => q (8 + i)) ρ ct) (cS q2 τ ct) (fun p hp => by rw [show (cS q σ ct).length = 16 from rfl]; simp at hp; omega)
  rw [cS_wd] at h2
  rw [h2] at h1
  have h3 := wput_same [24, 25, 26, 27, 28, 29, 30, 31] (cS q (wd σ ρ) ct ++ cS q2 τ ct) (cR (fun i => q2 (8 + i)) (rd τ) ct) rfl
  rw [h3] at h1
  exact h1
theorem cSS_adr {q q2 : Nat → Nat} {σ σ2 τ : Nat → Nat → Int32} {ct : Nat → ClassId} : (cS q σ ct ++ cS q2 τ ct).map Prod.fst = (cS q σ2 ct ++ cS q2 τ ct).map Prod.fst := by rw [List.map_append, List.map_append, cS_adr]
theorem cRR_adr {q q2 : Nat → Nat} {σ σ2 τ : Nat → Nat → Int32} {ct : Nat → ClassId} : (cR q σ ct ++ cR q2 τ ct).map Prod.fst = (cR q σ2 ct ++ cR q2 τ ct).map Prod.fst := by rw [List.map_append, List.map_append, cR_adr]
theorem cSS_f0 {q q2 : Nat → Nat} {σ τ : Nat → Nat → Int32} {ct : Nat → ClassId} {x : Int32} : (cS q σ ct ++ cS q2 τ ct).set 0 (q 0, .inr (2, [Value.ref (q 1), .ref (q 2), .ref (q 3), .ref (q 4), .ref (q 5), .ref (q 6), .ref (q 7), .ref (q 8), .int (σ 0 0), .int (σ 0 1), .int (σ 0 2), .int (σ 0 3), .int (σ 0 4), .int (σ 0 5), .int (σ 0 6)].set 8 (.int x))) = cS q (u2 σ 0 0 x) ct ++ cS q2 τ ct := rfl
theorem cSS_f1 {q q2 : Nat → Nat} {σ τ : Nat → Nat → Int32} {ct : Nat → ClassId} {x : Int32} : (cS q σ ct ++ cS q2 τ ct).set 0 (q 0, .inr (2, [Value.ref (q 1), .ref (q 2), .ref (q 3), .ref (q 4), .ref (q 5), .ref (q 6), .ref (q 7), .ref (q 8), .int (σ 0 0), .int (σ 0 1), .int (σ 0 2), .int (σ 0 3), .int (σ 0 4), .int (σ 0 5), .int (σ 0 6)].set 9 (.int x))) = cS q (u2 σ 0 1 x) ct ++ cS q2 τ ct := rfl
theorem cSS_f2 {q q2 : Nat → Nat} {σ τ : Nat → Nat → Int32} {ct : Nat → ClassId} {x : Int32} : (cS q σ ct ++ cS q2 τ ct).set 0 (q 0, .inr (2, [Value.ref (q 1), .ref (q 2), .ref (q 3), .ref (q 4), .ref (q 5), .ref (q 6), .ref (q 7), .ref (q 8), .int (σ 0 0), .int (σ 0 1), .int (σ 0 2), .int (σ 0 3), .int (σ 0 4), .int (σ 0 5), .int (σ 0 6)].set 10 (.int x))) = cS q (u2 σ 0 2 x) ct ++ cS q2 τ ct := rfl
theorem cSS_f3 {q q2 : Nat → Nat} {σ τ : Nat → Nat → Int32} {ct : Nat → ClassId} {x : Int32} : (cS q σ ct ++ cS q2 τ ct).set 0 (q 0, .inr (2, [Value.ref (q 1), .ref (q 2), .ref (q 3), .ref (q 4), .ref (q 5), .ref (q 6), .ref (q 7), .ref (q 8), .int (σ 0 0), .int (σ 0 1), .int (σ 0 2), .int (σ 0 3), .int (σ 0 4), .int (σ 0 5), .int (σ 0 6)].set 11 (.int x))) = cS q (u2 σ 0 3 x) ct ++ cS q2 τ ct := rfl
theorem cSS_f4 {q q2 : Nat → Nat} {σ τ : Nat → Nat → Int32} {ct : Nat → ClassId} {x : Int32} : (cS q σ ct ++ cS q2 τ ct).set 0 (q 0, .inr (2, [Value.ref (q 1), .ref (q 2), .ref (q 3), .ref (q 4), .ref (q 5), .ref (q 6), .ref (q 7), .ref (q 8), .int (σ 0 0), .int (σ 0 1), .int (σ 0 2), .int (σ 0 3), .int (σ 0 4), .int (σ 0 5), .int (σ 0 6)].set 12 (.int x))) = cS q (u2 σ 0 4 x) ct ++ cS q2 τ ct := rfl
theorem cSS_f5 {q q2 : Nat → Nat} {σ τ : Nat → Nat → Int32} {ct : Nat → ClassId} {x : Int32} : (cS q σ ct ++ cS q2 τ ct).set 0 (q 0, .inr (2, [Value.ref (q 1), .ref (q 2), .ref (q 3), .ref (q 4), .ref (q 5), .ref (q 6), .ref (q 7), .ref (q 8), .int (σ 0 0), .int (σ 0 1), .int (σ 0 2), .int (σ 0 3), .int (σ 0 4), .int (σ 0 5), .int (σ 0 6)].set 13 (.int x))) = cS q (u2 σ 0 5 x) ct ++ cS q2 τ ct := rfl
theorem cSS_f6 {q q2 : Nat → Nat} {σ τ : Nat → Nat → Int32} {ct : Nat → ClassId} {x : Int32} : (cS q σ ct ++ cS q2 τ ct).set 0 (q 0, .inr (2, [Value.ref (q 1), .ref (q 2), .ref (q 3), .ref (q 4), .ref (q 5), .ref (q 6), .ref (q 7), .ref (q 8), .int (σ 0 0), .int (σ 0 1), .int (σ 0 2), .int (σ 0 3), .int (σ 0 4), .int (σ 0 5), .int (σ 0 6)].set 14 (.int x))) = cS q (u2 σ 0 6 x) ct ++ cS q2 τ ct := rfl
theorem cRR_f0 {q q2 : Nat → Nat} {σ τ : Nat → Nat → Int32} {ct : Nat → ClassId} {x : Int32} : (cR q σ ct ++ cR q2 τ ct).set 0 (q 0, .inr (1, [Value.ref (q 1), .ref (q 2), .ref (q 3), .ref (q 4), .int (σ 0 0), .ref (q 5), .ref (q 6), .ref (q 7)].set 4 (.int x))) = cR q (u2 σ 0 0 x) ct ++ cR q2 τ ct := rfl
theorem cRR_c1 {q q2 : Nat → Nat} {σ τ : Nat → Nat → Int32} {ct : Nat → ClassId} : wput (cR q σ ct ++ cR q2 τ ct) [9, 1] [(q2 1, .inl (ct 0, 60, .inl (τ 1))), (q 1, .inl (ct 0, 60, .inl (kcp 60 (τ 1) (σ 1))))] = cR q (cpr σ 1 60 τ) ct ++ cR q2 τ ct := rfl
theorem cRR_c2 {q q2 : Nat → Nat} {σ τ : Nat → Nat → Int32} {ct : Nat → ClassId} : wput (cR q σ ct ++ cR q2 τ ct) [10, 2] [(q2 2, .inl (ct 0, 60, .inl (τ 2))), (q 2, .inl (ct 0, 60, .inl (kcp 60 (τ 2) (σ 2))))] = cR q (cpr σ 2 60 τ) ct ++ cR q2 τ ct := rfl
theorem cRR_c3 {q q2 : Nat → Nat} {σ τ : Nat → Nat → Int32} {ct : Nat → ClassId} : wput (cR q σ ct ++ cR q2 τ ct) [11, 3] [(q2 3, .inl (ct 0, 60, .inl (τ 3))), (q 3, .inl (ct 0, 60, .inl (kcp 60 (τ 3) (σ 3))))] = cR q (cpr σ 3 60 τ) ct ++ cR q2 τ ct := rfl
theorem cRR_c4 {q q2 : Nat → Nat} {σ τ : Nat → Nat → Int32} {ct : Nat → ClassId} : wput (cR q σ ct ++ cR q2 τ ct) [12, 4] [(q2 4, .inl (ct 0, 60, .inl (τ 4))), (q 4, .inl (ct 0, 60, .inl (kcp 60 (τ 4) (σ 4))))] = cR q (cpr σ 4 60 τ) ct ++ cR q2 τ ct := rfl
theorem cRR_c5 {q q2 : Nat → Nat} {σ τ : Nat → Nat → Int32} {ct : Nat → ClassId} : wput (cR q σ ct ++ cR q2 τ ct) [13, 5] [(q2 5, .inl (ct 0, 10, .inl (τ 5))), (q 5, .inl (ct 0, 10, .inl (kcp 10 (τ 5) (σ 5))))] = cR q (cpr σ 5 10 τ) ct ++ cR q2 τ ct := rfl
theorem cRR_c6 {q q2 : Nat → Nat} {σ τ : Nat → Nat → Int32} {ct : Nat → ClassId} : wput (cR q σ ct ++ cR q2 τ ct) [14, 6] [(q2 6, .inl (ct 0, 600, .inl (τ 6))), (q 6, .inl (ct 0, 600, .inl (kcp 600 (τ 6) (σ 6))))] = cR q (cpr σ 6 600 τ) ct ++ cR q2 τ ct := rfl
theorem cRR_c7 {q q2 : Nat → Nat} {σ τ : Nat → Nat → Int32} {ct : Nat → ClassId} : wput (cR q σ ct ++ cR q2 τ ct) [15, 7] [(q2 7, .inl (ct 0, 600, .inl (τ 7))), (q 7, .inl (ct 0, 600, .inl (kcp 600 (τ 7) (σ 7))))] = cR q (cpr σ 7 600 τ) ct ++ cR q2 τ ct := rfl
theorem cSS_c1 {q q2 : Nat → Nat} {σ τ : Nat → Nat → Int32} {ct : Nat → ClassId} : wput (cS q σ ct ++ cS q2 τ ct) [17, 1] [(q2 1, .inl (ct 1, 100, .inl (τ 1))), (q 1, .inl (ct 1, 100, .inl (kcp 100 (τ 1) (σ 1))))] = cS q (cpr σ 1 100 τ) ct ++ cS q2 τ ct := rfl
theorem cSS_c2 {q q2 : Nat → Nat} {σ τ : Nat → Nat → Int32} {ct : Nat → ClassId} : wput (cS q σ ct ++ cS q2 τ ct) [18, 2] [(q2 2, .inl (ct 1, 10, .inl (τ 2))), (q 2, .inl (ct 1, 10, .inl (kcp 10 (τ 2) (σ 2))))] = cS q (cpr σ 2 10 τ) ct ++ cS q2 τ ct := rfl
theorem cSS_c3 {q q2 : Nat → Nat} {σ τ : Nat → Nat → Int32} {ct : Nat → ClassId} : wput (cS q σ ct ++ cS q2 τ ct) [19, 3] [(q2 3, .inl (ct 0, 10, .inl (τ 3))), (q 3, .inl (ct 0, 10, .inl (kcp 10 (τ 3) (σ 3))))] = cS q (cpr σ 3 10 τ) ct ++ cS q2 τ ct := rfl
theorem cSS_c4 {q q2 : Nat → Nat} {σ τ : Nat → Nat → Int32} {ct : Nat → ClassId} : wput (cS q σ ct ++ cS q2 τ ct) [20, 4] [(q2 4, .inl (ct 0, 10, .inl (τ 4))), (q 4, .inl (ct 0, 10, .inl (kcp 10 (τ 4) (σ 4))))] = cS q (cpr σ 4 10 τ) ct ++ cS q2 τ ct := rfl
theorem cSS_c5 {q q2 : Nat → Nat} {σ τ : Nat → Nat → Int32} {ct : Nat → ClassId} : wput (cS q σ ct ++ cS q2 τ ct) [21, 5] [(q2 5, .inl (ct 0, 10, .inl (τ 5))), (q 5, .inl (ct 0, 10, .inl (kcp 10 (τ 5) (σ 5))))] = cS q (cpr σ 5 10 τ) ct ++ cS q2 τ ct := rfl
theorem cSS_c6 {q q2 : Nat → Nat} {σ τ : Nat → Nat → Int32} {ct : Nat → ClassId} : wput (cS q σ ct ++ cS q2 τ ct) [22, 6] [(q2 6, .inl (ct 0, 10, .inl (τ 6))), (q 6, .inl (ct 0, 10, .inl (kcp 10 (τ 6) (σ 6))))] = cS q (cpr σ 6 10 τ) ct ++ cS q2 τ ct := rfl
theorem cSS_c7 {q q2 : Nat → Nat} {σ τ : Nat → Nat → Int32} {ct : Nat → ClassId} : wput (cS q σ ct ++ cS q2 τ ct) [23, 7] [(q2 7, .inl (ct 0, 10, .inl (τ 7))), (q 7, .inl (ct 0, 10, .inl (kcp 10 (τ 7) (σ 7))))] = cS q (cpr σ 7 10 τ) ct ++ cS q2 τ ct := rfl
set_option maxRecDepth 100000 in
set_option maxHeartbeats 1000000 in
theorem c_X4_copyRow (l : Launch) (D : va_G) (ct : Nat → ClassId) (a b N : Nat) (f g : Nat → Int32) (hN : N < 2 ^ 31) : zT l D ct yX4_copyRow cX4_copyRow 2 none 1 40 0 0 [.ref a, .ref b] ([(a, .inl (ct 0, N, .inl f)), (b, .inl (ct 0, N, .inl g))]) (zd none ([(a, .inl (ct 0, N, .inl f)), (b, .inl (ct 0, N, .inl (kcp N f g)))])) := by
  refine zT_of ([some (.ref a), some (.ref b)]) (by decide +kernel) rfl (Nat.le_of_ble_eq_true rfl) ?_
  intro p e s m args below meth c hC hr hnm
  refine z_aload_n hC dX4_copyRow_0 rfl ?_
  refine z_iconst (v := 0) hC dX4_copyRow_1 (by decide) ?_
  refine z_aload_n hC dX4_copyRow_2 rfl ?_
  refine z_iconst (v := 0) hC dX4_copyRow_3 (by decide) ?_
  refine z_aload_n hC dX4_copyRow_4 rfl ?_
  refine z_alen 0 0 hC rfl rfl dX4_copyRow_5 ?_
  refine z_aload_n hC dX4_copyRow_6 rfl ?_
  refine z_alen 1 0 hC rfl rfl dX4_copyRow_7 ?_
  refine z_min hC bw_294 dX4_copyRow_8 (Nat.le_of_ble_eq_true rfl) (Nat.le_of_ble_eq_true rfl) (Nat.zero_le _) (Nat.zero_le _) ?_
  refine zG_s (st2 := [.int (Int32.ofNat N), .int 0, .ref b, .int 0, .ref a]) (by simp) ?_
  refine z_copy 0 1 0 hC bw_295 bw_296 bw_297 bw_298 rfl rfl rfl rfl (nI_pos hN) (Nat.le_of_eq (nI_clamp hN)) (Nat.le_of_eq (nI_clamp hN)) (fun i _ => rfl) (Nat.le_of_ble_eq_true rfl) (Nat.le_of_ble_eq_true rfl) dX4_copyRow_11 ?_
  exact z_vretd hC hr dX4_copyRow_14 (Nat.zero_le _) (Nat.zero_le _) (congrArg (fun z : Nat => ([(a, .inl (ct 0, N, .inl f)), (b, .inl (ct 0, N, .inl (kcp z f g)))] : va_W)) (nI_clamp hN)) rfl

set_option maxRecDepth 100000 in
set_option maxHeartbeats 1000000 in
theorem c_X4_copyRow_ (l : Launch) (D : va_G) (ct : Nat → ClassId) (a b N : Nat) (f g : Nat → Int32) (hN : N < 2 ^ 31) (hb : zbit f N) : zT l D ct yX4_copyRow_ cX4_copyRow_ 2 none 1 40 0 0 [.ref a, .ref b] ([(a, .inl (ct 1, N, .inl f)), (b, .inl (ct 1, N, .inl g))]) (zd none ([(a, .inl (ct 1, N, .inl f)), (b, .inl (ct 1, N, .inl (kcp N f g)))])) := by
  refine zT_of ([some (.ref a), some (.ref b)]) (by decide +kernel) rfl (Nat.le_of_ble_eq_true rfl) ?_
  intro p e s m args below meth c hC hr hnm
  refine z_aload_n hC dX4_copyRow__0 rfl ?_
  refine z_iconst (v := 0) hC dX4_copyRow__1 (by decide) ?_
  refine z_aload_n hC dX4_copyRow__2 rfl ?_
  refine z_iconst (v := 0) hC dX4_copyRow__3 (by decide) ?_
  refine z_aload_n hC dX4_copyRow__4 rfl ?_
  refine z_alen 0 1 hC rfl rfl dX4_copyRow__5 ?_
  refine z_aload_n hC dX4_copyRow__6 rfl ?_
  refine z_alen 1 1 hC rfl rfl dX4_copyRow__7 ?_
  refine z_min hC bw_294 dX4_copyRow__8 (Nat.le_of_ble_eq_true rfl) (Nat.le_of_ble_eq_true rfl) (Nat.zero_le _) (Nat.zero_le _) ?_
  refine zG_s (st2 := [.int (Int32.ofNat N), .int 0, .ref b, .int 0, .ref a]) (by simp) ?_
  refine z_copy 0 1 1 hC bw_295 bw_296 bw_297 bw_298 rfl rfl rfl rfl (nI_pos hN) (Nat.le_of_eq (nI_clamp hN)) (Nat.le_of_eq (nI_clamp hN)) (fun i hi => hb i (Nat.lt_of_lt_of_le hi (Nat.le_of_eq (nI_clamp hN)))) (Nat.le_of_ble_eq_true rfl) (Nat.le_of_ble_eq_true rfl) dX4_copyRow__11 ?_
  exact z_vretd hC hr dX4_copyRow__14 (Nat.zero_le _) (Nat.zero_le _) (congrArg (fun z : Nat => ([(a, .inl (ct 1, N, .inl f)), (b, .inl (ct 1, N, .inl (kcp z f g)))] : va_W)) (nI_clamp hN)) rfl

set_option maxRecDepth 100000 in
set_option maxHeartbeats 1000000 in
theorem c_X1_copyFrom (l : Launch) (D : va_G) (ct : Nat → ClassId) (q q2 : Nat → Nat) (ρ κ : Nat → Nat → Int32) : zT l D ct yX1_copyFrom cX1_copyFrom 2 none 2 61 0 0 [.ref (q 0), .ref (q2 0)] (cR q ρ ct ++ cR q2 κ ct) (zd none (cR q (mrCopy ρ κ) ct ++ cR q2 κ ct)) := by
  refine zT_of ([some (.ref (q 0)), some (.ref (q2 0))]) (by decide +kernel) rfl (Nat.le_of_ble_eq_true rfl) ?_
  intro p e s m args below meth c hC hr hnm
  refine z_aload_n hC dX1_copyFrom_0 rfl ?_
  refine z_get 8 0 hC bl_X1 (ci := 1) rfl (by decide) rfl bw_43 rfl rfl dX1_copyFrom_1 ?_
  refine z_aload_n hC dX1_copyFrom_4 rfl ?_
  refine z_get 0 0 hC bl_X1 (ci := 1) rfl (by decide) rfl bw_43 rfl rfl dX1_copyFrom_5 ?_
  refine z_callSN [9, 1] hC (c_X4_copyRow l D ct (q2 1) (q 1) 60 (κ 1) (ρ 1) (by decide)) nw_26 bw_299 bw_2 bw_300 2 (by decide +kernel) rfl rfl rfl ⟨Nat.le_of_ble_eq_true rfl, Nat.le_of_ble_eq_true rfl⟩ (Nat.le_of_ble_eq_true rfl) ⟨Nat.le_of_ble_eq_true rfl, Nat.le_of_ble_eq_true rfl⟩ rfl dX1_copyFrom_8 ?_
  refine zkd (G := fun v1 w1 => zG p l e _ s m args below meth c D _ _ _ _ _ _ _ (v1.toList ++ _) w1) (w2 := cR q (cpr ρ 1 60 κ) ct ++ cR q2 κ ct) cRR_c1 ?_
  obtain ⟨ρ1, eρ1⟩ : ∃ zz_, zz_ = (cpr ρ 1 60 κ) := ⟨_, rfl⟩
  rw [← eρ1]
  refine z_aload_n hC dX1_copyFrom_11 rfl ?_
  refine z_get 8 1 hC bl_X1 (ci := 1) rfl (by decide) rfl bw_44 rfl rfl dX1_copyFrom_12 ?_
  refine z_aload_n hC dX1_copyFrom_15 rfl ?_
  refine z_get 0 1 hC bl_X1 (ci := 1) rfl (by decide) rfl bw_44 rfl rfl dX1_copyFrom_16 ?_
  refine z_callSN [10, 2] hC (c_X4_copyRow l D ct (q2 2) (q 2) 60 (κ 2) (ρ1 2) (by decide)) nw_26 bw_299 bw_2 bw_300 2 (by decide +kernel) rfl rfl rfl ⟨Nat.le_of_ble_eq_true rfl, Nat.le_of_ble_eq_true rfl⟩ (Nat.le_of_ble_eq_true rfl) ⟨Nat.le_of_ble_eq_true rfl, Nat.le_of_ble_eq_true rfl⟩ rfl dX1_copyFrom_19 ?_
  refine zkd (G := fun v1 w1 => zG p l e _ s m args below meth c D _ _ _ _ _ _ _ (v1.toList ++ _) w1) (w2 := cR q (cpr ρ1 2 60 κ) ct ++ cR q2 κ ct) cRR_c2 ?_
  obtain ⟨ρ2, eρ2⟩ : ∃ zz_, zz_ = (cpr ρ1 2 60 κ) := ⟨_, rfl⟩
  rw [← eρ2]
  refine z_aload_n hC dX1_copyFrom_22 rfl ?_
  refine z_get 8 2 hC bl_X1 (ci := 1) rfl (by decide) rfl bw_45 rfl rfl dX1_copyFrom_23 ?_
  refine z_aload_n hC dX1_copyFrom_26 rfl ?_
  refine z_get 0 2 hC bl_X1 (ci := 1) rfl (by decide) rfl bw_45 rfl rfl dX1_copyFrom_27 ?_
  refine z_callSN [11, 3] hC (c_X4_copyRow l D ct (q2 3) (q 3) 60 (κ 3) (ρ2 3) (by decide)) nw_26 bw_299 bw_2 bw_300 2 (by decide +kernel) rfl rfl rfl ⟨Nat.le_of_ble_eq_true rfl, Nat.le_of_ble_eq_true rfl⟩ (Nat.le_of_ble_eq_true rfl) ⟨Nat.le_of_ble_eq_true rfl, Nat.le_of_ble_eq_true rfl⟩ rfl dX1_copyFrom_30 ?_
  refine zkd (G := fun v1 w1 => zG p l e _ s m args below meth c D _ _ _ _ _ _ _ (v1.toList ++ _) w1) (w2 := cR q (cpr ρ2 3 60 κ) ct ++ cR q2 κ ct) cRR_c3 ?_
  obtain ⟨ρ3, eρ3⟩ : ∃ zz_, zz_ = (cpr ρ2 3 60 κ) := ⟨_, rfl⟩
  rw [← eρ3]
  refine z_aload_n hC dX1_copyFrom_33 rfl ?_
  refine z_get 8 3 hC bl_X1 (ci := 1) rfl (by decide) rfl bw_46 rfl rfl dX1_copyFrom_34 ?_
  refine z_aload_n hC dX1_copyFrom_37 rfl ?_
  refine z_get 0 3 hC bl_X1 (ci := 1) rfl (by decide) rfl bw_46 rfl rfl dX1_copyFrom_38 ?_
  refine z_callSN [12, 4] hC (c_X4_copyRow l D ct (q2 4) (q 4) 60 (κ 4) (ρ3 4) (by decide)) nw_26 bw_299 bw_2 bw_300 2 (by decide +kernel) rfl rfl rfl ⟨Nat.le_of_ble_eq_true rfl, Nat.le_of_ble_eq_true rfl⟩ (Nat.le_of_ble_eq_true rfl) ⟨Nat.le_of_ble_eq_true rfl, Nat.le_of_ble_eq_true rfl⟩ rfl dX1_copyFrom_41 ?_
  refine zkd (G := fun v1 w1 => zG p l e _ s m args below meth c D _ _ _ _ _ _ _ (v1.toList ++ _) w1) (w2 := cR q (cpr ρ3 4 60 κ) ct ++ cR q2 κ ct) cRR_c4 ?_
  obtain ⟨ρ4, eρ4⟩ : ∃ zz_, zz_ = (cpr ρ3 4 60 κ) := ⟨_, rfl⟩
  rw [← eρ4]
  refine z_aload_n hC dX1_copyFrom_44 rfl ?_
  refine z_aload_n hC dX1_copyFrom_45 rfl ?_
  refine z_get 8 4 hC bl_X1 (ci := 1) rfl (by decide) rfl bw_197 rfl rfl dX1_copyFrom_46 ?_
  refine z_put (ci := 1) 0 4 hC bl_X1 tyX1_ok nmX1 rfl (by decide) rfl bw_197 rfl rfl rfl rfl (Nat.lt_of_lt_of_le (by decide) (Nat.le_refl 8)) dX1_copyFrom_49 (w2 := cR q (u2 ρ4 0 0 (κ 0 0)) ct ++ cR q2 κ ct) cRR_f0 ?_
  obtain ⟨ρ5, eρ5⟩ : ∃ zz_, zz_ = u2 ρ4 0 0 (κ 0 0) := ⟨_, rfl⟩
  rw [← eρ5]
  refine z_aload_n hC dX1_copyFrom_52 rfl ?_
  refine z_get 8 5 hC bl_X1 (ci := 1) rfl (by decide) rfl bw_47 rfl rfl dX1_copyFrom_53 ?_
  refine z_aload_n hC dX1_copyFrom_56 rfl ?_
  refine z_get 0 5 hC bl_X1 (ci := 1) rfl (by decide) rfl bw_47 rfl rfl dX1_copyFrom_57 ?_
  refine z_callSN [13, 5] hC (c_X4_copyRow l D ct (q2 5) (q 5) 10 (κ 5) (ρ5 5) (by decide)) nw_26 bw_299 bw_2 bw_300 2 (by decide +kernel) rfl rfl rfl ⟨Nat.le_of_ble_eq_true rfl, Nat.le_of_ble_eq_true rfl⟩ (Nat.le_of_ble_eq_true rfl) ⟨Nat.le_of_ble_eq_true rfl, Nat.le_of_ble_eq_true rfl⟩ rfl dX1_copyFrom_60 ?_
  refine zkd (G := fun v1 w1 => zG p l e _ s m args below meth c D _ _ _ _ _ _ _ (v1.toList ++ _) w1) (w2 := cR q (cpr ρ5 5 10 κ) ct ++ cR q2 κ ct) cRR_c5 ?_
  obtain ⟨ρ6, eρ6⟩ : ∃ zz_, zz_ = (cpr ρ5 5 10 κ) := ⟨_, rfl⟩
  rw [← eρ6]
  refine z_aload_n hC dX1_copyFrom_63 rfl ?_
  refine z_get 8 6 hC bl_X1 (ci := 1) rfl (by decide) rfl bw_48 rfl rfl dX1_copyFrom_64 ?_
  refine z_aload_n hC dX1_copyFrom_67 rfl ?_
  refine z_get 0 6 hC bl_X1 (ci := 1) rfl (by decide) rfl bw_48 rfl rfl dX1_copyFrom_68 ?_
  refine z_callSN [14, 6] hC (c_X4_copyRow l D ct (q2 6) (q 6) 600 (κ 6) (ρ6 6) (by decide)) nw_26 bw_299 bw_2 bw_300 2 (by decide +kernel) rfl rfl rfl ⟨Nat.le_of_ble_eq_true rfl, Nat.le_of_ble_eq_true rfl⟩ (Nat.le_of_ble_eq_true rfl) ⟨Nat.le_of_ble_eq_true rfl, Nat.le_of_ble_eq_true rfl⟩ rfl dX1_copyFrom_71 ?_
  refine zkd (G := fun v1 w1 => zG p l e _ s m args below meth c D _ _ _ _ _ _ _ (v1.toList ++ _) w1) (w2 := cR q (cpr ρ6 6 600 κ) ct ++ cR q2 κ ct) cRR_c6 ?_
  obtain ⟨ρ7, eρ7⟩ : ∃ zz_, zz_ = (cpr ρ6 6 600 κ) := ⟨_, rfl⟩
  rw [← eρ7]
  refine z_aload_n hC dX1_copyFrom_74 rfl ?_
  refine z_get 8 7 hC bl_X1 (ci := 1) rfl (by decide) rfl bw_49 rfl rfl dX1_copyFrom_75 ?_
  refine z_aload_n hC dX1_copyFrom_78 rfl ?_
  refine z_get 0 7 hC bl_X1 (ci := 1) rfl (by decide) rfl bw_49 rfl rfl dX1_copyFrom_79 ?_
  refine z_callSN [15, 7] hC (c_X4_copyRow l D ct (q2 7) (q 7) 600 (κ 7) (ρ7 7) (by decide)) nw_26 bw_299 bw_2 bw_300 2 (by decide +kernel) rfl rfl rfl ⟨Nat.le_of_ble_eq_true rfl, Nat.le_of_ble_eq_true rfl⟩ (Nat.le_of_ble_eq_true rfl) ⟨Nat.le_of_ble_eq_true rfl, Nat.le_of_ble_eq_true rfl⟩ rfl dX1_copyFrom_82 ?_
  refine zkd (G := fun v1 w1 => zG p l e _ s m args below meth c D _ _ _ _ _ _ _ (v1.toList ++ _) w1) (w2 := cR q (cpr ρ7 7 600 κ) ct ++ cR q2 κ ct) cRR_c7 ?_
  obtain ⟨ρ8, eρ8⟩ : ∃ zz_, zz_ = (cpr ρ7 7 600 κ) := ⟨_, rfl⟩
  rw [← eρ8]
  exact z_vretd hC hr dX1_copyFrom_85 (Nat.zero_le _) (Nat.zero_le _) (by subst eρ8; subst eρ7; subst eρ6; subst eρ5; subst eρ4; subst eρ3; subst eρ2; subst eρ1; rfl) cRR_adr

set_option maxRecDepth 100000 in
set_option maxHeartbeats 1000000 in
theorem c_X2_copyFromX (l : Launch) (D : va_G) (ct : Nat → ClassId) (q q2 : Nat → Nat) (σ τ : Nat → Nat → Int32) (hb1 : zbit (τ 1) 100) (hb2 : zbit (τ 2) 10) : zT l D ct yX2_copyFrom cX2_copyFrom 2 none 3 82 0 0 [.ref (q 0), .ref (q2 0)] (cS q σ ct ++ cS q2 τ ct) (zd none (cS q (msCopyX σ τ) ct ++ cS q2 τ ct)) := by
  refine zT_of ([some (.ref (q 0)), some (.ref (q2 0))]) (by decide +kernel) rfl (Nat.le_of_ble_eq_true rfl) ?_
  intro p e s m args below meth c hC hr hnm
  refine z_aload_n hC dX2_copyFrom_0 rfl ?_
  refine z_get 16 0 hC bl_X2 (ci := 2) rfl (by decide) rfl bw_27 rfl rfl dX2_copyFrom_1 ?_
  refine z_aload_n hC dX2_copyFrom_4 rfl ?_
  refine z_get 0 0 hC bl_X2 (ci := 2) rfl (by decide) rfl bw_27 rfl rfl dX2_copyFrom_5 ?_
  refine z_callSN [17, 1] hC (c_X4_copyRow_ l D ct (q2 1) (q 1) 100 (τ 1) (σ 1) (by decide) hb1) nw_23 bw_292 bw_2 bw_293 2 (by decide +kernel) rfl rfl rfl ⟨Nat.le_of_ble_eq_true rfl, Nat.le_of_ble_eq_true rfl⟩ (Nat.le_of_ble_eq_true rfl) ⟨Nat.le_of_ble_eq_true rfl, Nat.le_of_ble_eq_true rfl⟩ rfl dX2_copyFrom_8 ?_
  refine zkd (G := fun v1 w1 => zG p l e _ s m args below meth c D _ _ _ _ _ _ _ (v1.toList ++ _) w1) (w2 := cS q (cpr σ 1 100 τ) ct ++ cS q2 τ ct) cSS_c1 ?_
  obtain ⟨σ1, eσ1⟩ : ∃ zz_, zz_ = (cpr σ 1 100 τ) := ⟨_, rfl⟩
  rw [← eσ1]
  refine z_aload_n hC dX2_copyFrom_11 rfl ?_
  refine z_get 16 1 hC bl_X2 (ci := 2) rfl (by decide) rfl bw_28 rfl rfl dX2_copyFrom_12 ?_
  refine z_aload_n hC dX2_copyFrom_15 rfl ?_
  refine z_get 0 1 hC bl_X2 (ci := 2) rfl (by decide) rfl bw_28 rfl rfl dX2_copyFrom_16 ?_
  refine z_callSN [18, 2] hC (c_X4_copyRow_ l D ct (q2 2) (q 2) 10 (τ 2) (σ1 2) (by decide) hb2) nw_23 bw_292 bw_2 bw_293 2 (by decide +kernel) rfl rfl rfl ⟨Nat.le_of_ble_eq_true rfl, Nat.le_of_ble_eq_true rfl⟩ (Nat.le_of_ble_eq_true rfl) ⟨Nat.le_of_ble_eq_true rfl, Nat.le_of_ble_eq_true rfl⟩ rfl dX2_copyFrom_19 ?_
  refine zkd (G := fun v1 w1 => zG p l e _ s m args below meth c D _ _ _ _ _ _ _ (v1.toList ++ _) w1) (w2 := cS q (cpr σ1 2 10 τ) ct ++ cS q2 τ ct) cSS_c2 ?_
  obtain ⟨σ2, eσ2⟩ : ∃ zz_, zz_ = (cpr σ1 2 10 τ) := ⟨_, rfl⟩
  rw [← eσ2]
  refine z_aload_n hC dX2_copyFrom_22 rfl ?_
  refine z_get 16 2 hC bl_X2 (ci := 2) rfl (by decide) rfl bw_30 rfl rfl dX2_copyFrom_23 ?_
  refine z_aload_n hC dX2_copyFrom_26 rfl ?_
  refine z_get 0 2 hC bl_X2 (ci := 2) rfl (by decide) rfl bw_30 rfl rfl dX2_copyFrom_27 ?_
  refine z_callSN [19, 3] hC (c_X4_copyRow l D ct (q2 3) (q 3) 10 (τ 3) (σ2 3) (by decide)) nw_24 bw_299 bw_2 bw_300 2 (by decide +kernel) rfl rfl rfl ⟨Nat.le_of_ble_eq_true rfl, Nat.le_of_ble_eq_true rfl⟩ (Nat.le_of_ble_eq_true rfl) ⟨Nat.le_of_ble_eq_true rfl, Nat.le_of_ble_eq_true rfl⟩ rfl dX2_copyFrom_30 ?_
  refine zkd (G := fun v1 w1 => zG p l e _ s m args below meth c D _ _ _ _ _ _ _ (v1.toList ++ _) w1) (w2 := cS q (cpr σ2 3 10 τ) ct ++ cS q2 τ ct) cSS_c3 ?_
  obtain ⟨σ3, eσ3⟩ : ∃ zz_, zz_ = (cpr σ2 3 10 τ) := ⟨_, rfl⟩
  rw [← eσ3]
  refine z_aload_n hC dX2_copyFrom_33 rfl ?_
  refine z_get 16 3 hC bl_X2 (ci := 2) rfl (by decide) rfl bw_31 rfl rfl dX2_copyFrom_34 ?_
  refine z_aload_n hC dX2_copyFrom_37 rfl ?_
  refine z_get 0 3 hC bl_X2 (ci := 2) rfl (by decide) rfl bw_31 rfl rfl dX2_copyFrom_38 ?_
  refine z_callSN [20, 4] hC (c_X4_copyRow l D ct (q2 4) (q 4) 10 (τ 4) (σ3 4) (by decide)) nw_24 bw_299 bw_2 bw_300 2 (by decide +kernel) rfl rfl rfl ⟨Nat.le_of_ble_eq_true rfl, Nat.le_of_ble_eq_true rfl⟩ (Nat.le_of_ble_eq_true rfl) ⟨Nat.le_of_ble_eq_true rfl, Nat.le_of_ble_eq_true rfl⟩ rfl dX2_copyFrom_41 ?_
  refine zkd (G := fun v1 w1 => zG p l e _ s m args below meth c D _ _ _ _ _ _ _ (v1.toList ++ _) w1) (w2 := cS q (cpr σ3 4 10 τ) ct ++ cS q2 τ ct) cSS_c4 ?_
  obtain ⟨σ4, eσ4⟩ : ∃ zz_, zz_ = (cpr σ3 4 10 τ) := ⟨_, rfl⟩
  rw [← eσ4]
  refine z_aload_n hC dX2_copyFrom_44 rfl ?_
  refine z_get 16 4 hC bl_X2 (ci := 2) rfl (by decide) rfl bw_32 rfl rfl dX2_copyFrom_45 ?_
  refine z_aload_n hC dX2_copyFrom_48 rfl ?_
  refine z_get 0 4 hC bl_X2 (ci := 2) rfl (by decide) rfl bw_32 rfl rfl dX2_copyFrom_49 ?_
  refine z_callSN [21, 5] hC (c_X4_copyRow l D ct (q2 5) (q 5) 10 (τ 5) (σ4 5) (by decide)) nw_24 bw_299 bw_2 bw_300 2 (by decide +kernel) rfl rfl rfl ⟨Nat.le_of_ble_eq_true rfl, Nat.le_of_ble_eq_true rfl⟩ (Nat.le_of_ble_eq_true rfl) ⟨Nat.le_of_ble_eq_true rfl, Nat.le_of_ble_eq_true rfl⟩ rfl dX2_copyFrom_52 ?_
  refine zkd (G := fun v1 w1 => zG p l e _ s m args below meth c D _ _ _ _ _ _ _ (v1.toList ++ _) w1) (w2 := cS q (cpr σ4 5 10 τ) ct ++ cS q2 τ ct) cSS_c5 ?_
  obtain ⟨σ5, eσ5⟩ : ∃ zz_, zz_ = (cpr σ4 5 10 τ) := ⟨_, rfl⟩
  rw [← eσ5]
  refine z_aload_n hC dX2_copyFrom_55 rfl ?_
  refine z_get 16 5 hC bl_X2 (ci := 2) rfl (by decide) rfl bw_33 rfl rfl dX2_copyFrom_56 ?_
  refine z_aload_n hC dX2_copyFrom_59 rfl ?_
  refine z_get 0 5 hC bl_X2 (ci := 2) rfl (by decide) rfl bw_33 rfl rfl dX2_copyFrom_60 ?_
  refine z_callSN [22, 6] hC (c_X4_copyRow l D ct (q2 6) (q 6) 10 (τ 6) (σ5 6) (by decide)) nw_24 bw_299 bw_2 bw_300 2 (by decide +kernel) rfl rfl rfl ⟨Nat.le_of_ble_eq_true rfl, Nat.le_of_ble_eq_true rfl⟩ (Nat.le_of_ble_eq_true rfl) ⟨Nat.le_of_ble_eq_true rfl, Nat.le_of_ble_eq_true rfl⟩ rfl dX2_copyFrom_63 ?_
  refine zkd (G := fun v1 w1 => zG p l e _ s m args below meth c D _ _ _ _ _ _ _ (v1.toList ++ _) w1) (w2 := cS q (cpr σ5 6 10 τ) ct ++ cS q2 τ ct) cSS_c6 ?_
  obtain ⟨σ6, eσ6⟩ : ∃ zz_, zz_ = (cpr σ5 6 10 τ) := ⟨_, rfl⟩
  rw [← eσ6]
  refine z_aload_n hC dX2_copyFrom_66 rfl ?_
  refine z_get 16 6 hC bl_X2 (ci := 2) rfl (by decide) rfl bw_34 rfl rfl dX2_copyFrom_67 ?_
  refine z_aload_n hC dX2_copyFrom_70 rfl ?_
  refine z_get 0 6 hC bl_X2 (ci := 2) rfl (by decide) rfl bw_34 rfl rfl dX2_copyFrom_71 ?_
  refine z_callSN [23, 7] hC (c_X4_copyRow l D ct (q2 7) (q 7) 10 (τ 7) (σ6 7) (by decide)) nw_24 bw_299 bw_2 bw_300 2 (by decide +kernel) rfl rfl rfl ⟨Nat.le_of_ble_eq_true rfl, Nat.le_of_ble_eq_true rfl⟩ (Nat.le_of_ble_eq_true rfl) ⟨Nat.le_of_ble_eq_true rfl, Nat.le_of_ble_eq_true rfl⟩ rfl dX2_copyFrom_74 ?_
  refine zkd (G := fun v1 w1 => zG p l e _ s m args below meth c D _ _ _ _ _ _ _ (v1.toList ++ _) w1) (w2 := cS q (cpr σ6 7 10 τ) ct ++ cS q2 τ ct) cSS_c7 ?_
  obtain ⟨σ7, eσ7⟩ : ∃ zz_, zz_ = (cpr σ6 7 10 τ) := ⟨_, rfl⟩
  rw [← eσ7]
  refine z_aload_n hC dX2_copyFrom_77 rfl ?_
  refine z_get 0 7 hC bl_X2 (ci := 2) rfl (by decide) rfl bw_38 rfl rfl dX2_copyFrom_78 ?_
  refine z_aload_n hC dX2_copyFrom_81 rfl ?_
  refine z_get 16 7 hC bl_X2 (ci := 2) rfl (by decide) rfl bw_38 rfl rfl dX2_copyFrom_82 ?_
  refine z_callVN [8, 9, 10, 11, 12, 13, 14, 15, 24, 25, 26, 27, 28, 29, 30, 31] 0 1 hC (c_X1_copyFrom l D ct (fun i => q (8 + i)) (fun i => q2 (8 + i)) (rd σ7) (rd τ)) nw_25 bw_301 bw_302 bw_37 bw_303 1 (by decide +kernel) rfl rfl rfl rfl rfl ⟨Nat.le_of_ble_eq_true rfl, Nat.le_of_ble_eq_true rfl⟩ (Nat.le_of_ble_eq_true rfl) ⟨Nat.le_of_ble_eq_true rfl, Nat.le_of_ble_eq_true rfl⟩ rfl dX2_copyFrom_85 ?_
  refine zkd (G := fun v1 w1 => zG p l e _ s m args below meth c D _ _ _ _ _ _ _ (v1.toList ++ _) w1) (w2 := cS q (wd σ7 (mrCopy (rd σ7) (rd τ))) ct ++ cS q2 τ ct) cSS_wd ?_
  obtain ⟨σ8, eσ8⟩ : ∃ zz_, zz_ = (wd σ7 (mrCopy (rd σ7) (rd τ))) := ⟨_, rfl⟩
  rw [← eσ8]
  refine z_aload_n hC dX2_copyFrom_88 rfl ?_
  refine z_aload_n hC dX2_copyFrom_89 rfl ?_
  refine z_get 16 8 hC bl_X2 (ci := 2) rfl (by decide) rfl bw_286 rfl rfl dX2_copyFrom_90 ?_
  refine z_put (ci := 2) 0 8 hC bl_X2 tyX2_ok nmX2 rfl (by decide) rfl bw_286 rfl rfl rfl rfl (Nat.lt_of_lt_of_le (by decide) (Nat.le_refl 15)) dX2_copyFrom_93 (w2 := cS q (u2 σ8 0 0 (τ 0 0)) ct ++ cS q2 τ ct) cSS_f0 ?_
  obtain ⟨σ9, eσ9⟩ : ∃ zz_, zz_ = u2 σ8 0 0 (τ 0 0) := ⟨_, rfl⟩
  rw [← eσ9]
  refine z_aload_n hC dX2_copyFrom_96 rfl ?_
  refine z_aload_n hC dX2_copyFrom_97 rfl ?_
  refine z_get 16 9 hC bl_X2 (ci := 2) rfl (by decide) rfl bw_39 rfl rfl dX2_copyFrom_98 ?_
  refine z_put (ci := 2) 0 9 hC bl_X2 tyX2_ok nmX2 rfl (by decide) rfl bw_39 rfl rfl rfl rfl (Nat.lt_of_lt_of_le (by decide) (Nat.le_refl 15)) dX2_copyFrom_101 (w2 := cS q (u2 σ9 0 1 (τ 0 1)) ct ++ cS q2 τ ct) cSS_f1 ?_
  obtain ⟨σ10, eσ10⟩ : ∃ zz_, zz_ = u2 σ9 0 1 (τ 0 1) := ⟨_, rfl⟩
  rw [← eσ10]
  refine z_aload_n hC dX2_copyFrom_104 rfl ?_
  refine z_aload_n hC dX2_copyFrom_105 rfl ?_
  refine z_get 16 10 hC bl_X2 (ci := 2) rfl (by decide) rfl bw_287 rfl rfl dX2_copyFrom_106 ?_
  refine z_put (ci := 2) 0 10 hC bl_X2 tyX2_ok nmX2 rfl (by decide) rfl bw_287 rfl rfl rfl rfl (Nat.lt_of_lt_of_le (by decide) (Nat.le_refl 15)) dX2_copyFrom_109 (w2 := cS q (u2 σ10 0 2 (τ 0 2)) ct ++ cS q2 τ ct) cSS_f2 ?_
  obtain ⟨σ11, eσ11⟩ : ∃ zz_, zz_ = u2 σ10 0 2 (τ 0 2) := ⟨_, rfl⟩
  rw [← eσ11]
  refine z_aload_n hC dX2_copyFrom_112 rfl ?_
  refine z_aload_n hC dX2_copyFrom_113 rfl ?_
  refine z_get 16 11 hC bl_X2 (ci := 2) rfl (by decide) rfl bw_288 rfl rfl dX2_copyFrom_114 ?_
  refine z_put (ci := 2) 0 11 hC bl_X2 tyX2_ok nmX2 rfl (by decide) rfl bw_288 rfl rfl rfl rfl (Nat.lt_of_lt_of_le (by decide) (Nat.le_refl 15)) dX2_copyFrom_117 (w2 := cS q (u2 σ11 0 3 (τ 0 3)) ct ++ cS q2 τ ct) cSS_f3 ?_
  obtain ⟨σ12, eσ12⟩ : ∃ zz_, zz_ = u2 σ11 0 3 (τ 0 3) := ⟨_, rfl⟩
  rw [← eσ12]
  refine z_aload_n hC dX2_copyFrom_120 rfl ?_
  refine z_aload_n hC dX2_copyFrom_121 rfl ?_
  refine z_get 16 12 hC bl_X2 (ci := 2) rfl (by decide) rfl bw_289 rfl rfl dX2_copyFrom_122 ?_
  refine z_put (ci := 2) 0 12 hC bl_X2 tyX2_ok nmX2 rfl (by decide) rfl bw_289 rfl rfl rfl rfl (Nat.lt_of_lt_of_le (by decide) (Nat.le_refl 15)) dX2_copyFrom_125 (w2 := cS q (u2 σ12 0 4 (τ 0 4)) ct ++ cS q2 τ ct) cSS_f4 ?_
  obtain ⟨σ13, eσ13⟩ : ∃ zz_, zz_ = u2 σ12 0 4 (τ 0 4) := ⟨_, rfl⟩
  rw [← eσ13]
  refine z_aload_n hC dX2_copyFrom_128 rfl ?_
  refine z_aload_n hC dX2_copyFrom_129 rfl ?_
  refine z_get 16 13 hC bl_X2 (ci := 2) rfl (by decide) rfl bw_290 rfl rfl dX2_copyFrom_130 ?_
  refine z_put (ci := 2) 0 13 hC bl_X2 tyX2_ok nmX2 rfl (by decide) rfl bw_290 rfl rfl rfl rfl (Nat.lt_of_lt_of_le (by decide) (Nat.le_refl 15)) dX2_copyFrom_133 (w2 := cS q (u2 σ13 0 5 (τ 0 5)) ct ++ cS q2 τ ct) cSS_f5 ?_
  obtain ⟨σ14, eσ14⟩ : ∃ zz_, zz_ = u2 σ13 0 5 (τ 0 5) := ⟨_, rfl⟩
  rw [← eσ14]
  refine z_aload_n hC dX2_copyFrom_136 rfl ?_
  refine z_aload_n hC dX2_copyFrom_137 rfl ?_
  refine z_get 16 14 hC bl_X2 (ci := 2) rfl (by decide) rfl bw_291 rfl rfl dX2_copyFrom_138 ?_
  refine z_put (ci := 2) 0 14 hC bl_X2 tyX2_ok nmX2 rfl (by decide) rfl bw_291 rfl rfl rfl rfl (Nat.lt_of_lt_of_le (by decide) (Nat.le_refl 15)) dX2_copyFrom_141 (w2 := cS q (u2 σ14 0 6 (τ 0 6)) ct ++ cS q2 τ ct) cSS_f6 ?_
  obtain ⟨σ15, eσ15⟩ : ∃ zz_, zz_ = u2 σ14 0 6 (τ 0 6) := ⟨_, rfl⟩
  rw [← eσ15]
  exact z_vretd hC hr dX2_copyFrom_144 (Nat.zero_le _) (Nat.zero_le _) (by subst eσ15; subst eσ14; subst eσ13; subst eσ12; subst eσ11; subst eσ10; subst eσ9; subst eσ8; subst eσ7; subst eσ6; subst eσ5; subst eσ4; subst eσ3; subst eσ2; subst eσ1; simp [msCopyX, msCopy1, rd_cpr]) cSS_adr

/-- the length of a row of a State -/
def rw_len (r : Nat) : Nat := if r = 0 then 7 else if r = 1 then 100 else if r < 8 then 10 else if r = 8 then 1 else if r < 13 then 60 else if r = 13 then 10 else 600
/-- a copy is as good as what was copied -/
def msCopy (_ τ : Nat → Nat → Int32) : Nat → Nat → Int32 := τ
theorem copyX_v {ρ σ : Nat → Nat → Int32} {r k : Nat} (hr : r < 16) (hk : k < rw_len r) : msCopyX ρ σ r k = σ r k := by
  rcases (show r = 0 ∨ r = 1 ∨ r = 2 ∨ r = 3 ∨ r = 4 ∨ r = 5 ∨ r = 6 ∨ r = 7 ∨ r = 8 ∨ r = 9 ∨ r = 10 ∨ r = 11 ∨ r = 12 ∨ r = 13 ∨ r = 14 ∨ r = 15 by omega) with rfl | rfl | rfl | rfl | rfl | rfl | rfl | rfl | rfl | rfl | rfl | rfl | rfl | rfl | rfl | rfl
  · have hk7 : k < 7 := hk
    rcases (show k = 0 ∨ k = 1 ∨ k = 2 ∨ k = 3 ∨ k = 4 ∨ k = 5 ∨ k = 6 by omega) with rfl | rfl | rfl | rfl | rfl | rfl | rfl <;> rfl
  · exact if_pos (show k < 100 from hk)
  · exact if_pos (show k < 10 from hk)
  · exact if_pos (show k < 10 from hk)
  · exact if_pos (show k < 10 from hk)
  · exact if_pos (show k < 10 from hk)
  · exact if_pos (show k < 10 from hk)
  · exact if_pos (show k < 10 from hk)
  · have hk0 : k = 0 := by have : k < 1 := hk; omega
    subst hk0
    rfl
  · exact if_pos (show k < 60 from hk)
  · exact if_pos (show k < 60 from hk)
  · exact if_pos (show k < 60 from hk)
  · exact if_pos (show k < 60 from hk)
  · exact if_pos (show k < 10 from hk)
  · exact if_pos (show k < 600 from hk)
  · exact if_pos (show k < 600 from hk)
theorem arr_eqv (cA : ClassId) (N : Nat) (f g : Nat → Int32) (h : ∀ k, k < N → f k = g k) : vp_cell cA (N, .inl f) = vp_cell cA (N, .inl g) := by
  show arrV cA N (fun j => .int (f j)) = arrV cA N (fun j => .int (g j))
  unfold arrV
  have e : (Array.ofFn (n := N) fun j => (Value.int (f j.val))) = Array.ofFn (n := N) fun j => (Value.int (g j.val)) := by
    congr 1
    funext j
    rw [h j.val j.isLt]
  rw [e]
/-- the cells of a State hold any table that agrees with theirs where the State has places -/
theorem cS_eqv {D : va_G} {q : Nat → Nat} {σ τ : Nat → Nat → Int32} {ct : Nat → ClassId} {H : Heap} (h : ∀ r k, r < 16 → k < rw_len r → σ r k = τ r k) (hP : va_P D vwCl (cS q σ ct) H) : va_P D vwCl (cS q τ ct) H := by
  have ha : ∀ (k : Nat) (a N : Nat) (cA : ClassId) (f g : Nat → Int32), (cS q σ ct)[k]? = some (a, .inl (cA, N, .inl f)) → (∀ j, j < N → f j = g j) → va_at D vwCl (a, .inl (cA, N, .inl g)) H := fun k a N cA f g hk hfg => by
    have h1 := hP k _ hk
    show H[a]? = some (vp_cell cA (N, .inl g))
    rw [← arr_eqv cA N f g hfg]
    exact h1
  intro k p hk
  match k, hk with
  | 0, hk =>
    cases hk
    have h1 := hP 0 _ rfl
    rw [h 0 0 (by decide) (by decide), h 0 1 (by decide) (by decide), h 0 2 (by decide) (by decide), h 0 3 (by decide) (by decide), h 0 4 (by decide) (by decide), h 0 5 (by decide) (by decide), h 0 6 (by decide) (by decide)] at h1
    exact h1
  | 1, hk => cases hk; exact ha 1 _ _ _ _ _ rfl (fun j hj => h 1 j (by decide) hj)
  | 2, hk => cases hk; exact ha 2 _ _ _ _ _ rfl (fun j hj => h 2 j (by decide) hj)
  | 3, hk => cases hk; exact ha 3 _ _ _ _ _ rfl (fun j hj => h 3 j (by decide) hj)
  | 4, hk => cases hk; exact ha 4 _ _ _ _ _ rfl (fun j hj => h 4 j (by decide) hj)
  | 5, hk => cases hk; exact ha 5 _ _ _ _ _ rfl (fun j hj => h 5 j (by decide) hj)
  | 6, hk => cases hk; exact ha 6 _ _ _ _ _ rfl (fun j hj => h 6 j (by decide) hj)
  | 7, hk => cases hk; exact ha 7 _ _ _ _ _ rfl (fun j hj => h 7 j (by decide) hj)
  | 8, hk =>
    cases hk
    have h1 := hP 8 _ rfl
    rw [h 8 0 (by decide) (by decide)] at h1
    exact h1
  | 9, hk => cases hk; exact ha 9 _ _ _ _ _ rfl (fun j hj => h 9 j (by decide) hj)
  | 10, hk => cases hk; exact ha 10 _ _ _ _ _ rfl (fun j hj => h 10 j (by decide) hj)
  | 11, hk => cases hk; exact ha 11 _ _ _ _ _ rfl (fun j hj => h 11 j (by decide) hj)
  | 12, hk => cases hk; exact ha 12 _ _ _ _ _ rfl (fun j hj => h 12 j (by decide) hj)
  | 13, hk => cases hk; exact ha 13 _ _ _ _ _ rfl (fun j hj => h 13 j (by decide) hj)
  | 14, hk => cases hk; exact ha 14 _ _ _ _ _ rfl (fun j hj => h 14 j (by decide) hj)
  | 15, hk => cases hk; exact ha 15 _ _ _ _ _ rfl (fun j hj => h 15 j (by decide) hj)
  | k + 16, hk => exact absurd hk (by simp)
theorem va_P_l {D : va_G} {cl : List vw_C} {w1 w2 : va_W} {H : Heap} (h : va_P D cl (w1 ++ w2) H) : va_P D cl w1 H := fun k q hk => h k q (by rw [List.getElem?_append_left (List.getElem?_eq_some_iff.mp hk).1]; exact hk)
theorem va_P_r {D : va_G} {cl : List vw_C} {w1 w2 : va_W} {H : Heap} (h : va_P D cl (w1 ++ w2) H) : va_P D cl w2 H := fun k q hk => h (w1.length + k) q (by rw [List.getElem?_append_right (Nat.le_add_right _ _), Nat.add_sub_cancel_left]; exact hk)
/-- a contract's end may be told otherwise, where the cells are the same -/
theorem zT_end {l : Launch} {D : va_G} {ct : Nat → ClassId} {y : MethodName} {cc : ByteArray} {n : Nat} {ret : Option FieldType} {fr lo mc ms : Nat} {av : List Value} {w : va_W} {po po2 : Option Value → va_W → va_W → Prop} (h : zT l D ct y cc n ret fr lo mc ms av w po)
    (hpo : ∀ v wa wb, po v wa wb → ∃ wa2 wb2, po2 v wa2 wb2 ∧ (wa2 ++ wb2).map Prod.fst = (wa ++ wb).map Prod.fst ∧ wa2.map Prod.fst = wa.map Prod.fst ∧ ∀ H, va_P D vwCl (wa ++ wb) H → va_P D vwCl (wa2 ++ wb2) H) : zT l D ct y cc n ret fr lo mc ms av w po2 := by
  intro sz
  refine MetFree.mono (h sz) (fun _ _ hp => hp) (fun _ _ _ _ _ hk => hk) (fun _ _ _ _ _ hq => ?_)
  obtain ⟨⟨v, wa, wb, h1, h2, h3, h4, h5, h6⟩, hL⟩ := hq
  obtain ⟨wa2, wb2, g1, g2, g3, g4⟩ := hpo v wa wb h2
  exact ⟨⟨v, wa2, wb2, h1, g1, g3.trans h3, g4 _ h4, va_D_fst g2 h5, h6⟩, hL⟩
theorem c_X2_copyFrom (l : Launch) (D : va_G) (ct : Nat → ClassId) (q q2 : Nat → Nat) (σ τ : Nat → Nat → Int32) (hb1 : zbit (τ 1) 100) (hb2 : zbit (τ 2) 10) : zT l D ct yX2_copyFrom cX2_copyFrom 2 none 3 82 0 0 [.ref (q 0), .ref (q2 0)] (cS q σ ct ++ cS q2 τ ct) (zd none (cS q (msCopy σ τ) ct ++ cS q2 τ ct)) := by
  refine zT_end (c_X2_copyFromX l D ct q q2 σ τ hb1 hb2) ?_
  rintro v wa wb ⟨rfl, rfl, rfl⟩
  refine ⟨cS q (msCopy σ τ) ct ++ cS q2 τ ct, [], ⟨rfl, rfl, rfl⟩, ?_, ?_, fun H hP => ?_⟩
  · rw [List.append_nil, List.append_nil, List.map_append, List.map_append]; rfl
  · rw [List.map_append, List.map_append]; rfl
  · rw [List.append_nil] at hP ⊢
    exact va_P.app (cS_eqv (fun r k hr hk => copyX_v hr hk) (va_P_l hP)) (va_P_r hP)
