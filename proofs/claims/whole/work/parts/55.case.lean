/-! THE LAW'S CASES, each out of the contracts of the two calls -/
theorem pm1 {X M r wb : va_W} : ((X ++ (M ++ r)) ++ wb).Perm (M ++ ((X ++ r) ++ wb)) := by
  have h1 : (X ++ (M ++ r)).Perm (M ++ (X ++ r)) := by
    rw [← List.append_assoc, ← List.append_assoc]
    exact List.Perm.append_right r List.perm_append_comm
  have h2 := List.Perm.append_right wb h1
  rwa [List.append_assoc M] at h2
theorem pm4 {A M r : va_W} : (M ++ (A ++ r)).Perm (A ++ (M ++ r)) := by
  rw [← List.append_assoc, ← List.append_assoc]
  exact List.Perm.append_right r List.perm_append_comm
theorem pm2 {C Z M r wb : va_W} : (M ++ (((C ++ Z) ++ r) ++ wb)).Perm (((C ++ wb) ++ Z) ++ (M ++ r)) := by
  have h1 : (((C ++ Z) ++ r) ++ wb).Perm (((C ++ wb) ++ Z) ++ r) := by
    rw [List.append_assoc C Z r, List.append_assoc C (Z ++ r) wb, List.append_assoc C wb Z, List.append_assoc C (wb ++ Z) r, List.append_assoc wb Z r]
    exact List.Perm.append_left C List.perm_append_comm
  exact (List.Perm.append_left M h1).trans pm4
theorem wput_pre0 {wc rest wa : va_W} (h : wa.length = wc.length) : wput (wc ++ rest) (List.range wc.length) wa ++ [] = wa ++ rest := by rw [wput_pre h, List.append_nil]
theorem pm3 {A Z M r : va_W} : (A ++ (Z ++ (M ++ r))).Perm (M ++ ((A ++ Z) ++ r)) := by
  rw [← List.append_assoc, ← List.append_assoc, ← List.append_assoc]
  exact List.Perm.append_right r List.perm_append_comm
theorem zo_at2 {ct : Nat → ClassId} {ao : Nat} {g : Nat → Int64} {q : Nat → Nat} {κ : TB} {C r wb : va_W} : (cM q κ ct ++ (((C ++ [zo ct ao g]) ++ r) ++ wb))[4 + C.length]? = some (zo ct ao g) := by
  have e : (cM q κ ct).length = 4 := rfl
  rw [List.getElem?_append_right (by rw [e]; omega), e, Nat.add_sub_cancel_left, List.append_assoc]
  exact zo_at
theorem lg_self (x : Int64) : lg_cmp x x = 0 := by
  unfold lg_cmp
  rw [if_neg (fun h => by have h2 : x < x := h; rw [Int64.lt_iff_toInt_lt] at h2; omega), if_pos rfl]
section LCS
variable {p : Program} {l : Launch} {e : Env} {s : State} {m : MethodId} {args : Array Value} {below : List Frame} {meth : Method} {c : Code} {D : va_G} {A : Nat → Prop} {Q : State → Prop} {cells slots : Nat} {ct : Nat → ClassId} {b0 L : Nat} {xs : Nat → Int32} {i b ao : Nat} {q : Nat → Nat} {κ κ2 : TB} {g : Nat → Int64} {wc rest : va_W}
theorem z_sld {st : List Value} {pc : Nat} {ls : List (Option Value)} {w : va_W} (j : Nat) (h : zC p s m meth c args RL 9 cL_law D ct A) (hX : va_X b0 L xs s s.heap) (hbl : b0 < s.heap.size) (hbA : ¬ A b0) (hL : L ≤ 2048) (hj : j < L) (d : decode cL_law pc = .ok (.iaload, 1)) (k : zG p l e room_1 s m args below meth c D A 9 Q cells slots (pc + 1) ls (.int (xs j) :: st) w) : zG p l e room_1 s m args below meth c D A 9 Q cells slots pc ls (.int (nI j) :: .ref b0 :: st) w := fun H locs L1 hP hD hS hL1 =>
  va_sld (z_exec h) (z_code h) hX hbl hbA hS (vp_in_nI hj (by omega)) d (by rw [nI_clamp (by omega)]; exact k H locs L1 hP hD hS hL1)
theorem z_slen {st : List Value} {pc : Nat} {ls : List (Option Value)} {w : va_W} (h : zC p s m meth c args RL 9 cL_law D ct A) (hX : va_X b0 L xs s s.heap) (hbl : b0 < s.heap.size) (hbA : ¬ A b0) (d : decode cL_law pc = .ok (.arraylength, 1)) (k : zG p l e room_1 s m args below meth c D A 9 Q cells slots (pc + 1) ls (.int (nI L) :: st) w) : zG p l e room_1 s m args below meth c D A 9 Q cells slots pc ls (.ref b0 :: st) w := fun H locs L1 hP hD hS hL1 =>
  va_slen (z_exec h) (z_code h) hX hbl hbA hS d (k H locs L1 hP hD hS hL1)
set_option maxRecDepth 100000 in
set_option maxHeartbeats 1000000 in
theorem lc_link (hC : zC p s m meth c args RL 9 cL_law D ct A) (hx : wX A s s.heap) (hX : va_X b0 L xs s s.heap) (hbl : b0 < s.heap.size) (hbA : ¬ A b0) (hL : L ≤ 2048) (hi : i + 3 < L) {mc ms fr2 lo2 : Nat} {Pk : Int32 → va_W → va_W → (Nat → Int64) → Prop} {bb : Int32}
    (hH : zL l D ct yL_link cL_link 6 (some .int) [(0, 12, 15, 13), (0, 12, 19, 15)] 10 340 mc ms [.ref b, .int (xs (i + 1)), .int (xs (i + 2)), .int (if xs (i + 3) = 0 then 0 else 1), .ref ao] (wc ++ [zo ct ao g]) (zLP ct ao Pk))
    (hM : zT l D ct yX5_link cX5_link 4 (some .int) fr2 lo2 0 0 [.ref (q 0), .int (xs (i + 1)), .int (xs (i + 2)), .int (if xs (i + 3) = 0 then 0 else 1)] (cM q κ ct) (zd (some (.int bb)) (cM q κ2 ct))) (hf2 : fr2 ≤ 10) (hl2 : lo2 ≤ 340)
    (hk : ∀ k wc' wb g', Pk k wc' wb g' → κ2 0 2 = k ∧ (k = 0 → g' 0 = bb.toInt64)) (hb1 : cells + mc ≤ 601024) (hb2 : slots + ms ≤ 7293034)
    (K : ∀ k wc' wb g', Pk k wc' wb g' → zG p l e room_1 s m args below meth c D A 9 Q (cells + mc) (slots + ms) 1777 [some (.ref b0), some (.ref b), some (.ref (q 0)), some (.ref ao), some (.int (nI i)), none, none, none, none] [] (((wc' ++ wb) ++ [zo ct ao g']) ++ (cM q κ2 ct ++ rest))) : zG p l e room_1 s m args below meth c D A 9 Q cells slots 184 [some (.ref b0), some (.ref b), some (.ref (q 0)), some (.ref ao), some (.int (nI i)), none, none, none, none] [] ((wc ++ [zo ct ao g]) ++ (cM q κ ct ++ rest)) := by
  by_cases cz : xs (i + 3) = 0
  · rw [if_pos cz] at hH hM
    refine z_aload_n hC dL_law_184 rfl ?_
    refine z_aload_n hC dL_law_185 rfl ?_
    refine z_iload hC dL_law_186 rfl ?_
    refine z_iconst (v := 1) hC dL_law_188 (by decide) ?_
    refine z_iaddN i 1 hC dL_law_189 ?_
    refine z_sld (i + 1) hC hX hbl hbA hL (by omega) dL_law_190 ?_
    refine z_aload_n hC dL_law_191 rfl ?_
    refine z_iload hC dL_law_192 rfl ?_
    refine z_iconst (v := 2) hC dL_law_194 (by decide) ?_
    refine z_iaddN i 2 hC dL_law_195 ?_
    refine z_sld (i + 2) hC hX hbl hbA hL (by omega) dL_law_196 ?_
    refine z_aload_n hC dL_law_197 rfl ?_
    refine z_iload hC dL_law_198 rfl ?_
    refine z_iconst (v := 3) hC dL_law_200 (by decide) ?_
    refine z_iaddN i 3 hC dL_law_201 ?_
    refine z_sld (i + 3) hC hX hbl hbA hL (by omega) dL_law_202 ?_
    refine z_if_eq hC 210 dL_law_203 (by decide) (fun _ => ?_) (fun cy => absurd cz cy)
    refine z_iconst (v := 0) hC dL_law_210 (by decide) ?_
    refine z_aload_n hC dL_law_211 rfl ?_
    refine z_callL (List.range (wc ++ [zo ct ao g]).length) hC hH hx bw_73 bw_74 bw_75 bw_76 5 (by decide +kernel) rfl (rng_nd _) rng_ps ⟨Nat.le_of_ble_eq_true rfl, Nat.le_of_ble_eq_true rfl⟩ (Nat.le_of_ble_eq_true rfl) ⟨hb1, hb2⟩ rfl dL_law_212 ?_
    rintro v1 wa1 wb ⟨k, wc', g', rfl, rfl, hP⟩ had
    rw [wput_pre (fst_len had)]
    obtain ⟨hk1, hk2⟩ := hk k wc' wb g' hP
    refine z_istore hC dL_law_215 (by decide) rfl ?_
    refine zG_perm pm1 ?_
    refine z_aload_n hC dL_law_217 rfl ?_
    refine z_aload_n hC dL_law_218 rfl ?_
    refine z_iload hC dL_law_219 rfl ?_
    refine z_iconst (v := 1) hC dL_law_221 (by decide) ?_
    refine z_iaddN i 1 hC dL_law_222 ?_
    refine z_sld (i + 1) hC hX hbl hbA hL (by omega) dL_law_223 ?_
    refine z_aload_n hC dL_law_224 rfl ?_
    refine z_iload hC dL_law_225 rfl ?_
    refine z_iconst (v := 2) hC dL_law_227 (by decide) ?_
    refine z_iaddN i 2 hC dL_law_228 ?_
    refine z_sld (i + 2) hC hX hbl hbA hL (by omega) dL_law_229 ?_
    refine z_aload_n hC dL_law_230 rfl ?_
    refine z_iload hC dL_law_231 rfl ?_
    refine z_iconst (v := 3) hC dL_law_233 (by decide) ?_
    refine z_iaddN i 3 hC dL_law_234 ?_
    refine z_sld (i + 3) hC hX hbl hbA hL (by omega) dL_law_235 ?_
    refine z_if_eq hC 243 dL_law_236 (by decide) (fun _ => ?_) (fun cy => absurd cz cy)
    refine z_iconst (v := 0) hC dL_law_243 (by decide) ?_
    refine z_callV (List.range (cM q κ ct).length) 0 5 hC hM bw_133 bw_134 bw_135 bw_5 bw_136 3 (by decide +kernel) rfl (rng_nd _) rng_ps rfl rfl ⟨Nat.succ_le_succ hf2, show 8 + (4 + 11) + lo2 ≤ 398 by omega⟩ (Nat.le_of_ble_eq_true rfl) ⟨hb1, hb2⟩ rfl dL_law_244 ?_
    rintro v2 wa2 wb2 ⟨rfl, rfl, rfl⟩ had2
    rw [wput_pre0 (fst_len had2)]
    refine z_istore hC dL_law_247 (by decide) rfl ?_
    refine z_aload_n hC dL_law_249 rfl ?_
    refine z_callV (List.range (cM q κ2 ct).length) 0 5 hC (c_X5_thrown l D ct q κ2) bw_164 bw_165 bw_166 bw_5 bw_167 0 (by decide +kernel) rfl (rng_nd _) rng_ps rfl rfl ⟨Nat.le_of_ble_eq_true rfl, Nat.le_of_ble_eq_true rfl⟩ (Nat.le_of_ble_eq_true rfl) ⟨hb1, hb2⟩ rfl dL_law_250 ?_
    rintro v3 wa3 wb3 ⟨rfl, rfl, rfl⟩ had3
    rw [wput_pre0 (fst_len had3)]
    refine z_iload hC dL_law_253 rfl ?_
    refine z_icmp_eq hC 260 dL_law_255 (by decide) (fun _ => ?_) (fun hn => absurd hk1 hn)
    refine z_iload hC dL_law_260 rfl ?_
    refine z_if_ne hC 277 dL_law_262 (by decide) (fun hn => ?_) (fun h0 => ?_)
    · refine z_goto hC 1777 dL_law_277 (by decide) ?_
      refine z_wk (ls2 := [some (.ref b0), some (.ref b), some (.ref (q 0)), some (.ref ao), some (.int (nI i)), none, none, none, none]) (ls_s (ls_s (ls_s (ls_s (ls_s (ls_n (ls_n (ls_n (ls_n ls_0))))))))) ?_
      refine zG_perm pm2 ?_
      exact K k wc' wb g' hP
    · refine z_aload_n hC dL_law_265 rfl ?_
      refine z_iconst (v := 0) hC dL_law_266 (by decide) ?_
      refine z_laload (4 + wc'.length) hC zo_at2 dL_law_267 ?_
      refine z_iload hC dL_law_268 rfl ?_
      refine z_i2l hC dL_law_270 ?_
      refine z_lcmp hC dL_law_271 ?_
      refine z_if_eq hC 277 dL_law_272 (by decide) (fun _ => ?_) (fun hn => absurd (by rw [hk2 h0]; exact lg_self _) hn)
      refine z_goto hC 1777 dL_law_277 (by decide) ?_
      refine z_wk (ls2 := [some (.ref b0), some (.ref b), some (.ref (q 0)), some (.ref ao), some (.int (nI i)), none, none, none, none]) (ls_s (ls_s (ls_s (ls_s (ls_s (ls_n (ls_n (ls_n (ls_n ls_0))))))))) ?_
      refine zG_perm pm2 ?_
      exact K k wc' wb g' hP
  · rw [if_neg cz] at hH hM
    refine z_aload_n hC dL_law_184 rfl ?_
    refine z_aload_n hC dL_law_185 rfl ?_
    refine z_iload hC dL_law_186 rfl ?_
    refine z_iconst (v := 1) hC dL_law_188 (by decide) ?_
    refine z_iaddN i 1 hC dL_law_189 ?_
    refine z_sld (i + 1) hC hX hbl hbA hL (by omega) dL_law_190 ?_
    refine z_aload_n hC dL_law_191 rfl ?_
    refine z_iload hC dL_law_192 rfl ?_
    refine z_iconst (v := 2) hC dL_law_194 (by decide) ?_
    refine z_iaddN i 2 hC dL_law_195 ?_
    refine z_sld (i + 2) hC hX hbl hbA hL (by omega) dL_law_196 ?_
    refine z_aload_n hC dL_law_197 rfl ?_
    refine z_iload hC dL_law_198 rfl ?_
    refine z_iconst (v := 3) hC dL_law_200 (by decide) ?_
    refine z_iaddN i 3 hC dL_law_201 ?_
    refine z_sld (i + 3) hC hX hbl hbA hL (by omega) dL_law_202 ?_
    refine z_if_eq hC 210 dL_law_203 (by decide) (fun cy => absurd cy cz) (fun _ => ?_)
    refine z_iconst (v := 1) hC dL_law_206 (by decide) ?_
    refine z_goto hC 211 dL_law_207 (by decide) ?_
    refine z_aload_n hC dL_law_211 rfl ?_
    refine z_callL (List.range (wc ++ [zo ct ao g]).length) hC hH hx bw_73 bw_74 bw_75 bw_76 5 (by decide +kernel) rfl (rng_nd _) rng_ps ⟨Nat.le_of_ble_eq_true rfl, Nat.le_of_ble_eq_true rfl⟩ (Nat.le_of_ble_eq_true rfl) ⟨hb1, hb2⟩ rfl dL_law_212 ?_
    rintro v1 wa1 wb ⟨k, wc', g', rfl, rfl, hP⟩ had
    rw [wput_pre (fst_len had)]
    obtain ⟨hk1, hk2⟩ := hk k wc' wb g' hP
    refine z_istore hC dL_law_215 (by decide) rfl ?_
    refine zG_perm pm1 ?_
    refine z_aload_n hC dL_law_217 rfl ?_
    refine z_aload_n hC dL_law_218 rfl ?_
    refine z_iload hC dL_law_219 rfl ?_
    refine z_iconst (v := 1) hC dL_law_221 (by decide) ?_
    refine z_iaddN i 1 hC dL_law_222 ?_
    refine z_sld (i + 1) hC hX hbl hbA hL (by omega) dL_law_223 ?_
    refine z_aload_n hC dL_law_224 rfl ?_
    refine z_iload hC dL_law_225 rfl ?_
    refine z_iconst (v := 2) hC dL_law_227 (by decide) ?_
    refine z_iaddN i 2 hC dL_law_228 ?_
    refine z_sld (i + 2) hC hX hbl hbA hL (by omega) dL_law_229 ?_
    refine z_aload_n hC dL_law_230 rfl ?_
    refine z_iload hC dL_law_231 rfl ?_
    refine z_iconst (v := 3) hC dL_law_233 (by decide) ?_
    refine z_iaddN i 3 hC dL_law_234 ?_
    refine z_sld (i + 3) hC hX hbl hbA hL (by omega) dL_law_235 ?_
    refine z_if_eq hC 243 dL_law_236 (by decide) (fun cy => absurd cy cz) (fun _ => ?_)
    refine z_iconst (v := 1) hC dL_law_239 (by decide) ?_
    refine z_goto hC 244 dL_law_240 (by decide) ?_
    refine z_callV (List.range (cM q κ ct).length) 0 5 hC hM bw_133 bw_134 bw_135 bw_5 bw_136 3 (by decide +kernel) rfl (rng_nd _) rng_ps rfl rfl ⟨Nat.succ_le_succ hf2, show 8 + (4 + 11) + lo2 ≤ 398 by omega⟩ (Nat.le_of_ble_eq_true rfl) ⟨hb1, hb2⟩ rfl dL_law_244 ?_
    rintro v2 wa2 wb2 ⟨rfl, rfl, rfl⟩ had2
    rw [wput_pre0 (fst_len had2)]
    refine z_istore hC dL_law_247 (by decide) rfl ?_
    refine z_aload_n hC dL_law_249 rfl ?_
    refine z_callV (List.range (cM q κ2 ct).length) 0 5 hC (c_X5_thrown l D ct q κ2) bw_164 bw_165 bw_166 bw_5 bw_167 0 (by decide +kernel) rfl (rng_nd _) rng_ps rfl rfl ⟨Nat.le_of_ble_eq_true rfl, Nat.le_of_ble_eq_true rfl⟩ (Nat.le_of_ble_eq_true rfl) ⟨hb1, hb2⟩ rfl dL_law_250 ?_
    rintro v3 wa3 wb3 ⟨rfl, rfl, rfl⟩ had3
    rw [wput_pre0 (fst_len had3)]
    refine z_iload hC dL_law_253 rfl ?_
    refine z_icmp_eq hC 260 dL_law_255 (by decide) (fun _ => ?_) (fun hn => absurd hk1 hn)
    refine z_iload hC dL_law_260 rfl ?_
    refine z_if_ne hC 277 dL_law_262 (by decide) (fun hn => ?_) (fun h0 => ?_)
    · refine z_goto hC 1777 dL_law_277 (by decide) ?_
      refine z_wk (ls2 := [some (.ref b0), some (.ref b), some (.ref (q 0)), some (.ref ao), some (.int (nI i)), none, none, none, none]) (ls_s (ls_s (ls_s (ls_s (ls_s (ls_n (ls_n (ls_n (ls_n ls_0))))))))) ?_
      refine zG_perm pm2 ?_
      exact K k wc' wb g' hP
    · refine z_aload_n hC dL_law_265 rfl ?_
      refine z_iconst (v := 0) hC dL_law_266 (by decide) ?_
      refine z_laload (4 + wc'.length) hC zo_at2 dL_law_267 ?_
      refine z_iload hC dL_law_268 rfl ?_
      refine z_i2l hC dL_law_270 ?_
      refine z_lcmp hC dL_law_271 ?_
      refine z_if_eq hC 277 dL_law_272 (by decide) (fun _ => ?_) (fun hn => absurd (by rw [hk2 h0]; exact lg_self _) hn)
      refine z_goto hC 1777 dL_law_277 (by decide) ?_
      refine z_wk (ls2 := [some (.ref b0), some (.ref b), some (.ref (q 0)), some (.ref ao), some (.int (nI i)), none, none, none, none]) (ls_s (ls_s (ls_s (ls_s (ls_s (ls_n (ls_n (ls_n (ls_n ls_0))))))))) ?_
      refine zG_perm pm2 ?_
      exact K k wc' wb g' hP

set_option maxRecDepth 100000 in
set_option maxHeartbeats 1000000 in
theorem lc_power (hC : zC p s m meth c args RL 9 cL_law D ct A) (hx : wX A s s.heap) (hX : va_X b0 L xs s s.heap) (hbl : b0 < s.heap.size) (hbA : ¬ A b0) (hL : L ≤ 2048) (hi : i + 3 < L) {mc ms fr2 lo2 : Nat} {Pk : Int32 → va_W → va_W → (Nat → Int64) → Prop} {bb : Int32}
    (hH : zL l D ct yL_power cL_power 5 (some .int) [(0, 10, 13, 13)] 10 340 mc ms [.ref b, .int (xs (i + 1)), .int (if xs (i + 2) = 0 then 0 else 1), .ref ao] (wc ++ [zo ct ao g]) (zLP ct ao Pk))
    (hM : zT l D ct yX5_power cX5_power 3 (some .int) fr2 lo2 0 0 [.ref (q 0), .int (xs (i + 1)), .int (if xs (i + 2) = 0 then 0 else 1)] (cM q κ ct) (zd (some (.int bb)) (cM q κ2 ct))) (hf2 : fr2 ≤ 10) (hl2 : lo2 ≤ 340)
    (hk : ∀ k wc' wb g', Pk k wc' wb g' → κ2 0 2 = k ∧ (k = 0 → g' 0 = bb.toInt64)) (hb1 : cells + mc ≤ 601024) (hb2 : slots + ms ≤ 7293034)
    (K : ∀ k wc' wb g', Pk k wc' wb g' → zG p l e room_1 s m args below meth c D A 9 Q (cells + mc) (slots + ms) 1777 [some (.ref b0), some (.ref b), some (.ref (q 0)), some (.ref ao), some (.int (nI i)), none, none, none, none] [] (((wc' ++ wb) ++ [zo ct ao g']) ++ (cM q κ2 ct ++ rest))) : zG p l e room_1 s m args below meth c D A 9 Q cells slots 280 [some (.ref b0), some (.ref b), some (.ref (q 0)), some (.ref ao), some (.int (nI i)), none, none, none, none] [] ((wc ++ [zo ct ao g]) ++ (cM q κ ct ++ rest)) := by
  by_cases cz : xs (i + 2) = 0
  · rw [if_pos cz] at hH hM
    refine z_aload_n hC dL_law_280 rfl ?_
    refine z_aload_n hC dL_law_281 rfl ?_
    refine z_iload hC dL_law_282 rfl ?_
    refine z_iconst (v := 1) hC dL_law_284 (by decide) ?_
    refine z_iaddN i 1 hC dL_law_285 ?_
    refine z_sld (i + 1) hC hX hbl hbA hL (by omega) dL_law_286 ?_
    refine z_aload_n hC dL_law_287 rfl ?_
    refine z_iload hC dL_law_288 rfl ?_
    refine z_iconst (v := 2) hC dL_law_290 (by decide) ?_
    refine z_iaddN i 2 hC dL_law_291 ?_
    refine z_sld (i + 2) hC hX hbl hbA hL (by omega) dL_law_292 ?_
    refine z_if_eq hC 300 dL_law_293 (by decide) (fun _ => ?_) (fun cy => absurd cz cy)
    refine z_iconst (v := 0) hC dL_law_300 (by decide) ?_
    refine z_aload_n hC dL_law_301 rfl ?_
    refine z_callL (List.range (wc ++ [zo ct ao g]).length) hC hH hx bw_168 bw_169 bw_75 bw_170 4 (by decide +kernel) rfl (rng_nd _) rng_ps ⟨Nat.le_of_ble_eq_true rfl, Nat.le_of_ble_eq_true rfl⟩ (Nat.le_of_ble_eq_true rfl) ⟨hb1, hb2⟩ rfl dL_law_302 ?_
    rintro v1 wa1 wb ⟨k, wc', g', rfl, rfl, hP⟩ had
    rw [wput_pre (fst_len had)]
    obtain ⟨hk1, hk2⟩ := hk k wc' wb g' hP
    refine z_istore hC dL_law_305 (by decide) rfl ?_
    refine zG_perm pm1 ?_
    refine z_aload_n hC dL_law_307 rfl ?_
    refine z_aload_n hC dL_law_308 rfl ?_
    refine z_iload hC dL_law_309 rfl ?_
    refine z_iconst (v := 1) hC dL_law_311 (by decide) ?_
    refine z_iaddN i 1 hC dL_law_312 ?_
    refine z_sld (i + 1) hC hX hbl hbA hL (by omega) dL_law_313 ?_
    refine z_aload_n hC dL_law_314 rfl ?_
    refine z_iload hC dL_law_315 rfl ?_
    refine z_iconst (v := 2) hC dL_law_317 (by decide) ?_
    refine z_iaddN i 2 hC dL_law_318 ?_
    refine z_sld (i + 2) hC hX hbl hbA hL (by omega) dL_law_319 ?_
    refine z_if_eq hC 327 dL_law_320 (by decide) (fun _ => ?_) (fun cy => absurd cz cy)
    refine z_iconst (v := 0) hC dL_law_327 (by decide) ?_
    refine z_callV (List.range (cM q κ ct).length) 0 5 hC hM bw_181 bw_182 bw_183 bw_5 bw_184 2 (by decide +kernel) rfl (rng_nd _) rng_ps rfl rfl ⟨Nat.succ_le_succ hf2, show 8 + (3 + 11) + lo2 ≤ 398 by omega⟩ (Nat.le_of_ble_eq_true rfl) ⟨hb1, hb2⟩ rfl dL_law_328 ?_
    rintro v2 wa2 wb2 ⟨rfl, rfl, rfl⟩ had2
    rw [wput_pre0 (fst_len had2)]
    refine z_istore hC dL_law_331 (by decide) rfl ?_
    refine z_aload_n hC dL_law_333 rfl ?_
    refine z_callV (List.range (cM q κ2 ct).length) 0 5 hC (c_X5_thrown l D ct q κ2) bw_164 bw_165 bw_166 bw_5 bw_167 0 (by decide +kernel) rfl (rng_nd _) rng_ps rfl rfl ⟨Nat.le_of_ble_eq_true rfl, Nat.le_of_ble_eq_true rfl⟩ (Nat.le_of_ble_eq_true rfl) ⟨hb1, hb2⟩ rfl dL_law_334 ?_
    rintro v3 wa3 wb3 ⟨rfl, rfl, rfl⟩ had3
    rw [wput_pre0 (fst_len had3)]
    refine z_iload hC dL_law_337 rfl ?_
    refine z_icmp_eq hC 344 dL_law_339 (by decide) (fun _ => ?_) (fun hn => absurd hk1 hn)
    refine z_iload hC dL_law_344 rfl ?_
    refine z_if_ne hC 361 dL_law_346 (by decide) (fun hn => ?_) (fun h0 => ?_)
    · refine z_goto hC 1777 dL_law_361 (by decide) ?_
      refine z_wk (ls2 := [some (.ref b0), some (.ref b), some (.ref (q 0)), some (.ref ao), some (.int (nI i)), none, none, none, none]) (ls_s (ls_s (ls_s (ls_s (ls_s (ls_n (ls_n (ls_n (ls_n ls_0))))))))) ?_
      refine zG_perm pm2 ?_
      exact K k wc' wb g' hP
    · refine z_aload_n hC dL_law_349 rfl ?_
      refine z_iconst (v := 0) hC dL_law_350 (by decide) ?_
      refine z_laload (4 + wc'.length) hC zo_at2 dL_law_351 ?_
      refine z_iload hC dL_law_352 rfl ?_
      refine z_i2l hC dL_law_354 ?_
      refine z_lcmp hC dL_law_355 ?_
      refine z_if_eq hC 361 dL_law_356 (by decide) (fun _ => ?_) (fun hn => absurd (by rw [hk2 h0]; exact lg_self _) hn)
      refine z_goto hC 1777 dL_law_361 (by decide) ?_
      refine z_wk (ls2 := [some (.ref b0), some (.ref b), some (.ref (q 0)), some (.ref ao), some (.int (nI i)), none, none, none, none]) (ls_s (ls_s (ls_s (ls_s (ls_s (ls_n (ls_n (ls_n (ls_n ls_0))))))))) ?_
      refine zG_perm pm2 ?_
      exact K k wc' wb g' hP
  · rw [if_neg cz] at hH hM
    refine z_aload_n hC dL_law_280 rfl ?_
    refine z_aload_n hC dL_law_281 rfl ?_
    refine z_iload hC dL_law_282 rfl ?_
    refine z_iconst (v := 1) hC dL_law_284 (by decide) ?_
    refine z_iaddN i 1 hC dL_law_285 ?_
    refine z_sld (i + 1) hC hX hbl hbA hL (by omega) dL_law_286 ?_
    refine z_aload_n hC dL_law_287 rfl ?_
    refine z_iload hC dL_law_288 rfl ?_
    refine z_iconst (v := 2) hC dL_law_290 (by decide) ?_
    refine z_iaddN i 2 hC dL_law_291 ?_
    refine z_sld (i + 2) hC hX hbl hbA hL (by omega) dL_law_292 ?_
    refine z_if_eq hC 300 dL_law_293 (by decide) (fun cy => absurd cy cz) (fun _ => ?_)
    refine z_iconst (v := 1) hC dL_law_296 (by decide) ?_
    refine z_goto hC 301 dL_law_297 (by decide) ?_
    refine z_aload_n hC dL_law_301 rfl ?_
    refine z_callL (List.range (wc ++ [zo ct ao g]).length) hC hH hx bw_168 bw_169 bw_75 bw_170 4 (by decide +kernel) rfl (rng_nd _) rng_ps ⟨Nat.le_of_ble_eq_true rfl, Nat.le_of_ble_eq_true rfl⟩ (Nat.le_of_ble_eq_true rfl) ⟨hb1, hb2⟩ rfl dL_law_302 ?_
    rintro v1 wa1 wb ⟨k, wc', g', rfl, rfl, hP⟩ had
    rw [wput_pre (fst_len had)]
    obtain ⟨hk1, hk2⟩ := hk k wc' wb g' hP
    refine z_istore hC dL_law_305 (by decide) rfl ?_
    refine zG_perm pm1 ?_
    refine z_aload_n hC dL_law_307 rfl ?_
    refine z_aload_n hC dL_law_308 rfl ?_
    refine z_iload hC dL_law_309 rfl ?_
    refine z_iconst (v := 1) hC dL_law_311 (by decide) ?_
    refine z_iaddN i 1 hC dL_law_312 ?_
    refine z_sld (i + 1) hC hX hbl hbA hL (by omega) dL_law_313 ?_
    refine z_aload_n hC dL_law_314 rfl ?_
    refine z_iload hC dL_law_315 rfl ?_
    refine z_iconst (v := 2) hC dL_law_317 (by decide) ?_
    refine z_iaddN i 2 hC dL_law_318 ?_
    refine z_sld (i + 2) hC hX hbl hbA hL (by omega) dL_law_319 ?_
    refine z_if_eq hC 327 dL_law_320 (by decide) (fun cy => absurd cy cz) (fun _ => ?_)
    refine z_iconst (v := 1) hC dL_law_323 (by decide) ?_
    refine z_goto hC 328 dL_law_324 (by decide) ?_
    refine z_callV (List.range (cM q κ ct).length) 0 5 hC hM bw_181 bw_182 bw_183 bw_5 bw_184 2 (by decide +kernel) rfl (rng_nd _) rng_ps rfl rfl ⟨Nat.succ_le_succ hf2, show 8 + (3 + 11) + lo2 ≤ 398 by omega⟩ (Nat.le_of_ble_eq_true rfl) ⟨hb1, hb2⟩ rfl dL_law_328 ?_
    rintro v2 wa2 wb2 ⟨rfl, rfl, rfl⟩ had2
    rw [wput_pre0 (fst_len had2)]
    refine z_istore hC dL_law_331 (by decide) rfl ?_
    refine z_aload_n hC dL_law_333 rfl ?_
    refine z_callV (List.range (cM q κ2 ct).length) 0 5 hC (c_X5_thrown l D ct q κ2) bw_164 bw_165 bw_166 bw_5 bw_167 0 (by decide +kernel) rfl (rng_nd _) rng_ps rfl rfl ⟨Nat.le_of_ble_eq_true rfl, Nat.le_of_ble_eq_true rfl⟩ (Nat.le_of_ble_eq_true rfl) ⟨hb1, hb2⟩ rfl dL_law_334 ?_
    rintro v3 wa3 wb3 ⟨rfl, rfl, rfl⟩ had3
    rw [wput_pre0 (fst_len had3)]
    refine z_iload hC dL_law_337 rfl ?_
    refine z_icmp_eq hC 344 dL_law_339 (by decide) (fun _ => ?_) (fun hn => absurd hk1 hn)
    refine z_iload hC dL_law_344 rfl ?_
    refine z_if_ne hC 361 dL_law_346 (by decide) (fun hn => ?_) (fun h0 => ?_)
    · refine z_goto hC 1777 dL_law_361 (by decide) ?_
      refine z_wk (ls2 := [some (.ref b0), some (.ref b), some (.ref (q 0)), some (.ref ao), some (.int (nI i)), none, none, none, none]) (ls_s (ls_s (ls_s (ls_s (ls_s (ls_n (ls_n (ls_n (ls_n ls_0))))))))) ?_
      refine zG_perm pm2 ?_
      exact K k wc' wb g' hP
    · refine z_aload_n hC dL_law_349 rfl ?_
      refine z_iconst (v := 0) hC dL_law_350 (by decide) ?_
      refine z_laload (4 + wc'.length) hC zo_at2 dL_law_351 ?_
      refine z_iload hC dL_law_352 rfl ?_
      refine z_i2l hC dL_law_354 ?_
      refine z_lcmp hC dL_law_355 ?_
      refine z_if_eq hC 361 dL_law_356 (by decide) (fun _ => ?_) (fun hn => absurd (by rw [hk2 h0]; exact lg_self _) hn)
      refine z_goto hC 1777 dL_law_361 (by decide) ?_
      refine z_wk (ls2 := [some (.ref b0), some (.ref b), some (.ref (q 0)), some (.ref ao), some (.int (nI i)), none, none, none, none]) (ls_s (ls_s (ls_s (ls_s (ls_s (ls_n (ls_n (ls_n (ls_n ls_0))))))))) ?_
      refine zG_perm pm2 ?_
      exact K k wc' wb g' hP

set_option maxRecDepth 100000 in
set_option maxHeartbeats 1000000 in
theorem lc_jump (hC : zC p s m meth c args RL 9 cL_law D ct A) (hx : wX A s s.heap) (hX : va_X b0 L xs s s.heap) (hbl : b0 < s.heap.size) (hbA : ¬ A b0) (hL : L ≤ 2048) (hi : i + 3 < L) {mc ms fr2 lo2 : Nat} {Pk : Int32 → va_W → va_W → (Nat → Int64) → Prop} {bb : Int32}
    (hH : zL l D ct yL_jump cL_jump 5 (some .int) [(0, 10, 13, 13), (0, 10, 17, 15)] 10 340 mc ms [.ref b, .int (xs (i + 1)), .int (xs (i + 2)), .ref ao] (wc ++ [zo ct ao g]) (zLP ct ao Pk))
    (hM : zT l D ct yX5_jump cX5_jump 3 (some .int) fr2 lo2 0 0 [.ref (q 0), .int (xs (i + 1)), .int (xs (i + 2))] (cM q κ ct) (zd (some (.int bb)) (cM q κ2 ct))) (hf2 : fr2 ≤ 10) (hl2 : lo2 ≤ 340)
    (hk : ∀ k wc' wb g', Pk k wc' wb g' → κ2 0 2 = k ∧ (k = 0 → g' 0 = bb.toInt64)) (hb1 : cells + mc ≤ 601024) (hb2 : slots + ms ≤ 7293034)
    (K : ∀ k wc' wb g', Pk k wc' wb g' → zG p l e room_1 s m args below meth c D A 9 Q (cells + mc) (slots + ms) 1777 [some (.ref b0), some (.ref b), some (.ref (q 0)), some (.ref ao), some (.int (nI i)), none, none, none, none] [] (((wc' ++ wb) ++ [zo ct ao g']) ++ (cM q κ2 ct ++ rest))) : zG p l e room_1 s m args below meth c D A 9 Q cells slots 364 [some (.ref b0), some (.ref b), some (.ref (q 0)), some (.ref ao), some (.int (nI i)), none, none, none, none] [] ((wc ++ [zo ct ao g]) ++ (cM q κ ct ++ rest)) := by
  refine z_aload_n hC dL_law_364 rfl ?_
  refine z_aload_n hC dL_law_365 rfl ?_
  refine z_iload hC dL_law_366 rfl ?_
  refine z_iconst (v := 1) hC dL_law_368 (by decide) ?_
  refine z_iaddN i 1 hC dL_law_369 ?_
  refine z_sld (i + 1) hC hX hbl hbA hL (by omega) dL_law_370 ?_
  refine z_aload_n hC dL_law_371 rfl ?_
  refine z_iload hC dL_law_372 rfl ?_
  refine z_iconst (v := 2) hC dL_law_374 (by decide) ?_
  refine z_iaddN i 2 hC dL_law_375 ?_
  refine z_sld (i + 2) hC hX hbl hbA hL (by omega) dL_law_376 ?_
  refine z_aload_n hC dL_law_377 rfl ?_
  refine z_callL (List.range (wc ++ [zo ct ao g]).length) hC hH hx bw_189 bw_190 bw_75 bw_191 4 (by decide +kernel) rfl (rng_nd _) rng_ps ⟨Nat.le_of_ble_eq_true rfl, Nat.le_of_ble_eq_true rfl⟩ (Nat.le_of_ble_eq_true rfl) ⟨hb1, hb2⟩ rfl dL_law_378 ?_
  rintro v1 wa1 wb ⟨k, wc', g', rfl, rfl, hP⟩ had
  rw [wput_pre (fst_len had)]
  obtain ⟨hk1, hk2⟩ := hk k wc' wb g' hP
  refine z_istore hC dL_law_381 (by decide) rfl ?_
  refine zG_perm pm1 ?_
  refine z_aload_n hC dL_law_383 rfl ?_
  refine z_aload_n hC dL_law_384 rfl ?_
  refine z_iload hC dL_law_385 rfl ?_
  refine z_iconst (v := 1) hC dL_law_387 (by decide) ?_
  refine z_iaddN i 1 hC dL_law_388 ?_
  refine z_sld (i + 1) hC hX hbl hbA hL (by omega) dL_law_389 ?_
  refine z_aload_n hC dL_law_390 rfl ?_
  refine z_iload hC dL_law_391 rfl ?_
  refine z_iconst (v := 2) hC dL_law_393 (by decide) ?_
  refine z_iaddN i 2 hC dL_law_394 ?_
  refine z_sld (i + 2) hC hX hbl hbA hL (by omega) dL_law_395 ?_
  refine z_callV (List.range (cM q κ ct).length) 0 5 hC hM bw_202 bw_203 bw_204 bw_5 bw_205 2 (by decide +kernel) rfl (rng_nd _) rng_ps rfl rfl ⟨Nat.succ_le_succ hf2, show 8 + (3 + 11) + lo2 ≤ 398 by omega⟩ (Nat.le_of_ble_eq_true rfl) ⟨hb1, hb2⟩ rfl dL_law_396 ?_
  rintro v2 wa2 wb2 ⟨rfl, rfl, rfl⟩ had2
  rw [wput_pre0 (fst_len had2)]
  refine z_istore hC dL_law_399 (by decide) rfl ?_
  refine z_aload_n hC dL_law_401 rfl ?_
  refine z_callV (List.range (cM q κ2 ct).length) 0 5 hC (c_X5_thrown l D ct q κ2) bw_164 bw_165 bw_166 bw_5 bw_167 0 (by decide +kernel) rfl (rng_nd _) rng_ps rfl rfl ⟨Nat.le_of_ble_eq_true rfl, Nat.le_of_ble_eq_true rfl⟩ (Nat.le_of_ble_eq_true rfl) ⟨hb1, hb2⟩ rfl dL_law_402 ?_
  rintro v3 wa3 wb3 ⟨rfl, rfl, rfl⟩ had3
  rw [wput_pre0 (fst_len had3)]
  refine z_iload hC dL_law_405 rfl ?_
  refine z_icmp_eq hC 412 dL_law_407 (by decide) (fun _ => ?_) (fun hn => absurd hk1 hn)
  refine z_iload hC dL_law_412 rfl ?_
  refine z_if_ne hC 429 dL_law_414 (by decide) (fun hn => ?_) (fun h0 => ?_)
  · refine z_goto hC 1777 dL_law_429 (by decide) ?_
    refine z_wk (ls2 := [some (.ref b0), some (.ref b), some (.ref (q 0)), some (.ref ao), some (.int (nI i)), none, none, none, none]) (ls_s (ls_s (ls_s (ls_s (ls_s (ls_n (ls_n (ls_n (ls_n ls_0))))))))) ?_
    refine zG_perm pm2 ?_
    exact K k wc' wb g' hP
  · refine z_aload_n hC dL_law_417 rfl ?_
    refine z_iconst (v := 0) hC dL_law_418 (by decide) ?_
    refine z_laload (4 + wc'.length) hC zo_at2 dL_law_419 ?_
    refine z_iload hC dL_law_420 rfl ?_
    refine z_i2l hC dL_law_422 ?_
    refine z_lcmp hC dL_law_423 ?_
    refine z_if_eq hC 429 dL_law_424 (by decide) (fun _ => ?_) (fun hn => absurd (by rw [hk2 h0]; exact lg_self _) hn)
    refine z_goto hC 1777 dL_law_429 (by decide) ?_
    refine z_wk (ls2 := [some (.ref b0), some (.ref b), some (.ref (q 0)), some (.ref ao), some (.int (nI i)), none, none, none, none]) (ls_s (ls_s (ls_s (ls_s (ls_s (ls_n (ls_n (ls_n (ls_n ls_0))))))))) ?_
    refine zG_perm pm2 ?_
    exact K k wc' wb g' hP

set_option maxRecDepth 100000 in
set_option maxHeartbeats 1000000 in
theorem lc_setFaults (hC : zC p s m meth c args RL 9 cL_law D ct A) (hx : wX A s s.heap) (hX : va_X b0 L xs s s.heap) (hbl : b0 < s.heap.size) (hbA : ¬ A b0) (hL : L ≤ 2048) (hi : i + 3 < L) {mc ms fr2 lo2 : Nat} {Pk : Int32 → va_W → va_W → (Nat → Int64) → Prop} {bb : Int32}
    (hH : zL l D ct yL_setFaults cL_setFaults 5 (some .int) [(0, 10, 13, 13), (0, 10, 17, 15)] 10 340 mc ms [.ref b, .int (xs (i + 1)), .int (xs (i + 2)), .ref ao] (wc ++ [zo ct ao g]) (zLP ct ao Pk))
    (hM : zT l D ct yX5_setFaults cX5_setFaults 3 (some .int) fr2 lo2 0 0 [.ref (q 0), .int (xs (i + 1)), .int (xs (i + 2))] (cM q κ ct) (zd (some (.int bb)) (cM q κ2 ct))) (hf2 : fr2 ≤ 10) (hl2 : lo2 ≤ 340)
    (hk : ∀ k wc' wb g', Pk k wc' wb g' → κ2 0 2 = k ∧ (k = 0 → g' 0 = bb.toInt64)) (hb1 : cells + mc ≤ 601024) (hb2 : slots + ms ≤ 7293034)
    (K : ∀ k wc' wb g', Pk k wc' wb g' → zG p l e room_1 s m args below meth c D A 9 Q (cells + mc) (slots + ms) 1777 [some (.ref b0), some (.ref b), some (.ref (q 0)), some (.ref ao), some (.int (nI i)), none, none, none, none] [] (((wc' ++ wb) ++ [zo ct ao g']) ++ (cM q κ2 ct ++ rest))) : zG p l e room_1 s m args below meth c D A 9 Q cells slots 432 [some (.ref b0), some (.ref b), some (.ref (q 0)), some (.ref ao), some (.int (nI i)), none, none, none, none] [] ((wc ++ [zo ct ao g]) ++ (cM q κ ct ++ rest)) := by
  refine z_aload_n hC dL_law_432 rfl ?_
  refine z_aload_n hC dL_law_433 rfl ?_
  refine z_iload hC dL_law_434 rfl ?_
  refine z_iconst (v := 1) hC dL_law_436 (by decide) ?_
  refine z_iaddN i 1 hC dL_law_437 ?_
  refine z_sld (i + 1) hC hX hbl hbA hL (by omega) dL_law_438 ?_
  refine z_aload_n hC dL_law_439 rfl ?_
  refine z_iload hC dL_law_440 rfl ?_
  refine z_iconst (v := 2) hC dL_law_442 (by decide) ?_
  refine z_iaddN i 2 hC dL_law_443 ?_
  refine z_sld (i + 2) hC hX hbl hbA hL (by omega) dL_law_444 ?_
  refine z_aload_n hC dL_law_445 rfl ?_
  refine z_callL (List.range (wc ++ [zo ct ao g]).length) hC hH hx bw_209 bw_210 bw_75 bw_211 4 (by decide +kernel) rfl (rng_nd _) rng_ps ⟨Nat.le_of_ble_eq_true rfl, Nat.le_of_ble_eq_true rfl⟩ (Nat.le_of_ble_eq_true rfl) ⟨hb1, hb2⟩ rfl dL_law_446 ?_
  rintro v1 wa1 wb ⟨k, wc', g', rfl, rfl, hP⟩ had
  rw [wput_pre (fst_len had)]
  obtain ⟨hk1, hk2⟩ := hk k wc' wb g' hP
  refine z_istore hC dL_law_449 (by decide) rfl ?_
  refine zG_perm pm1 ?_
  refine z_aload_n hC dL_law_451 rfl ?_
  refine z_aload_n hC dL_law_452 rfl ?_
  refine z_iload hC dL_law_453 rfl ?_
  refine z_iconst (v := 1) hC dL_law_455 (by decide) ?_
  refine z_iaddN i 1 hC dL_law_456 ?_
  refine z_sld (i + 1) hC hX hbl hbA hL (by omega) dL_law_457 ?_
  refine z_aload_n hC dL_law_458 rfl ?_
  refine z_iload hC dL_law_459 rfl ?_
  refine z_iconst (v := 2) hC dL_law_461 (by decide) ?_
  refine z_iaddN i 2 hC dL_law_462 ?_
  refine z_sld (i + 2) hC hX hbl hbA hL (by omega) dL_law_463 ?_
  refine z_callV (List.range (cM q κ ct).length) 0 5 hC hM bw_216 bw_217 bw_218 bw_5 bw_219 2 (by decide +kernel) rfl (rng_nd _) rng_ps rfl rfl ⟨Nat.succ_le_succ hf2, show 8 + (3 + 11) + lo2 ≤ 398 by omega⟩ (Nat.le_of_ble_eq_true rfl) ⟨hb1, hb2⟩ rfl dL_law_464 ?_
  rintro v2 wa2 wb2 ⟨rfl, rfl, rfl⟩ had2
  rw [wput_pre0 (fst_len had2)]
  refine z_istore hC dL_law_467 (by decide) rfl ?_
  refine z_aload_n hC dL_law_469 rfl ?_
  refine z_callV (List.range (cM q κ2 ct).length) 0 5 hC (c_X5_thrown l D ct q κ2) bw_164 bw_165 bw_166 bw_5 bw_167 0 (by decide +kernel) rfl (rng_nd _) rng_ps rfl rfl ⟨Nat.le_of_ble_eq_true rfl, Nat.le_of_ble_eq_true rfl⟩ (Nat.le_of_ble_eq_true rfl) ⟨hb1, hb2⟩ rfl dL_law_470 ?_
  rintro v3 wa3 wb3 ⟨rfl, rfl, rfl⟩ had3
  rw [wput_pre0 (fst_len had3)]
  refine z_iload hC dL_law_473 rfl ?_
  refine z_icmp_eq hC 480 dL_law_475 (by decide) (fun _ => ?_) (fun hn => absurd hk1 hn)
  refine z_iload hC dL_law_480 rfl ?_
  refine z_if_ne hC 497 dL_law_482 (by decide) (fun hn => ?_) (fun h0 => ?_)
  · refine z_goto hC 1777 dL_law_497 (by decide) ?_
    refine z_wk (ls2 := [some (.ref b0), some (.ref b), some (.ref (q 0)), some (.ref ao), some (.int (nI i)), none, none, none, none]) (ls_s (ls_s (ls_s (ls_s (ls_s (ls_n (ls_n (ls_n (ls_n ls_0))))))))) ?_
    refine zG_perm pm2 ?_
    exact K k wc' wb g' hP
  · refine z_aload_n hC dL_law_485 rfl ?_
    refine z_iconst (v := 0) hC dL_law_486 (by decide) ?_
    refine z_laload (4 + wc'.length) hC zo_at2 dL_law_487 ?_
    refine z_iload hC dL_law_488 rfl ?_
    refine z_i2l hC dL_law_490 ?_
    refine z_lcmp hC dL_law_491 ?_
    refine z_if_eq hC 497 dL_law_492 (by decide) (fun _ => ?_) (fun hn => absurd (by rw [hk2 h0]; exact lg_self _) hn)
    refine z_goto hC 1777 dL_law_497 (by decide) ?_
    refine z_wk (ls2 := [some (.ref b0), some (.ref b), some (.ref (q 0)), some (.ref ao), some (.int (nI i)), none, none, none, none]) (ls_s (ls_s (ls_s (ls_s (ls_s (ls_n (ls_n (ls_n (ls_n ls_0))))))))) ?_
    refine zG_perm pm2 ?_
    exact K k wc' wb g' hP

set_option maxRecDepth 100000 in
set_option maxHeartbeats 1000000 in
theorem lc_setPatience (hC : zC p s m meth c args RL 9 cL_law D ct A) (hx : wX A s s.heap) (hX : va_X b0 L xs s s.heap) (hbl : b0 < s.heap.size) (hbA : ¬ A b0) (hL : L ≤ 2048) (hi : i + 3 < L) {mc ms fr2 lo2 : Nat} {Pk : Int32 → va_W → va_W → (Nat → Int64) → Prop} {bb : Int32}
    (hH : zL l D ct yL_setPatience cL_setPatience 4 (some .int) [(0, 9, 12, 15)] 10 340 mc ms [.ref b, .int (xs (i + 1)), .ref ao] (wc ++ [zo ct ao g]) (zLP ct ao Pk))
    (hM : zT l D ct yX5_setPatience cX5_setPatience 2 (some .int) fr2 lo2 0 0 [.ref (q 0), .int (xs (i + 1))] (cM q κ ct) (zd (some (.int bb)) (cM q κ2 ct))) (hf2 : fr2 ≤ 10) (hl2 : lo2 ≤ 340)
    (hk : ∀ k wc' wb g', Pk k wc' wb g' → κ2 0 2 = k ∧ (k = 0 → g' 0 = bb.toInt64)) (hb1 : cells + mc ≤ 601024) (hb2 : slots + ms ≤ 7293034)
    (K : ∀ k wc' wb g', Pk k wc' wb g' → zG p l e room_1 s m args below meth c D A 9 Q (cells + mc) (slots + ms) 1777 [some (.ref b0), some (.ref b), some (.ref (q 0)), some (.ref ao), some (.int (nI i)), none, none, none, none] [] (((wc' ++ wb) ++ [zo ct ao g']) ++ (cM q κ2 ct ++ rest))) : zG p l e room_1 s m args below meth c D A 9 Q cells slots 500 [some (.ref b0), some (.ref b), some (.ref (q 0)), some (.ref ao), some (.int (nI i)), none, none, none, none] [] ((wc ++ [zo ct ao g]) ++ (cM q κ ct ++ rest)) := by
  refine z_aload_n hC dL_law_500 rfl ?_
  refine z_aload_n hC dL_law_501 rfl ?_
  refine z_iload hC dL_law_502 rfl ?_
  refine z_iconst (v := 1) hC dL_law_504 (by decide) ?_
  refine z_iaddN i 1 hC dL_law_505 ?_
  refine z_sld (i + 1) hC hX hbl hbA hL (by omega) dL_law_506 ?_
  refine z_aload_n hC dL_law_507 rfl ?_
  refine z_callL (List.range (wc ++ [zo ct ao g]).length) hC hH hx bw_224 bw_225 bw_75 bw_226 3 (by decide +kernel) rfl (rng_nd _) rng_ps ⟨Nat.le_of_ble_eq_true rfl, Nat.le_of_ble_eq_true rfl⟩ (Nat.le_of_ble_eq_true rfl) ⟨hb1, hb2⟩ rfl dL_law_508 ?_
  rintro v1 wa1 wb ⟨k, wc', g', rfl, rfl, hP⟩ had
  rw [wput_pre (fst_len had)]
  obtain ⟨hk1, hk2⟩ := hk k wc' wb g' hP
  refine z_istore hC dL_law_511 (by decide) rfl ?_
  refine zG_perm pm1 ?_
  refine z_aload_n hC dL_law_513 rfl ?_
  refine z_aload_n hC dL_law_514 rfl ?_
  refine z_iload hC dL_law_515 rfl ?_
  refine z_iconst (v := 1) hC dL_law_517 (by decide) ?_
  refine z_iaddN i 1 hC dL_law_518 ?_
  refine z_sld (i + 1) hC hX hbl hbA hL (by omega) dL_law_519 ?_
  refine z_callV (List.range (cM q κ ct).length) 0 5 hC hM bw_231 bw_232 bw_233 bw_5 bw_234 1 (by decide +kernel) rfl (rng_nd _) rng_ps rfl rfl ⟨Nat.succ_le_succ hf2, show 8 + (2 + 11) + lo2 ≤ 398 by omega⟩ (Nat.le_of_ble_eq_true rfl) ⟨hb1, hb2⟩ rfl dL_law_520 ?_
  rintro v2 wa2 wb2 ⟨rfl, rfl, rfl⟩ had2
  rw [wput_pre0 (fst_len had2)]
  refine z_istore hC dL_law_523 (by decide) rfl ?_
  refine z_aload_n hC dL_law_525 rfl ?_
  refine z_callV (List.range (cM q κ2 ct).length) 0 5 hC (c_X5_thrown l D ct q κ2) bw_164 bw_165 bw_166 bw_5 bw_167 0 (by decide +kernel) rfl (rng_nd _) rng_ps rfl rfl ⟨Nat.le_of_ble_eq_true rfl, Nat.le_of_ble_eq_true rfl⟩ (Nat.le_of_ble_eq_true rfl) ⟨hb1, hb2⟩ rfl dL_law_526 ?_
  rintro v3 wa3 wb3 ⟨rfl, rfl, rfl⟩ had3
  rw [wput_pre0 (fst_len had3)]
  refine z_iload hC dL_law_529 rfl ?_
  refine z_icmp_eq hC 536 dL_law_531 (by decide) (fun _ => ?_) (fun hn => absurd hk1 hn)
  refine z_iload hC dL_law_536 rfl ?_
  refine z_if_ne hC 553 dL_law_538 (by decide) (fun hn => ?_) (fun h0 => ?_)
  · refine z_goto hC 1777 dL_law_553 (by decide) ?_
    refine z_wk (ls2 := [some (.ref b0), some (.ref b), some (.ref (q 0)), some (.ref ao), some (.int (nI i)), none, none, none, none]) (ls_s (ls_s (ls_s (ls_s (ls_s (ls_n (ls_n (ls_n (ls_n ls_0))))))))) ?_
    refine zG_perm pm2 ?_
    exact K k wc' wb g' hP
  · refine z_aload_n hC dL_law_541 rfl ?_
    refine z_iconst (v := 0) hC dL_law_542 (by decide) ?_
    refine z_laload (4 + wc'.length) hC zo_at2 dL_law_543 ?_
    refine z_iload hC dL_law_544 rfl ?_
    refine z_i2l hC dL_law_546 ?_
    refine z_lcmp hC dL_law_547 ?_
    refine z_if_eq hC 553 dL_law_548 (by decide) (fun _ => ?_) (fun hn => absurd (by rw [hk2 h0]; exact lg_self _) hn)
    refine z_goto hC 1777 dL_law_553 (by decide) ?_
    refine z_wk (ls2 := [some (.ref b0), some (.ref b), some (.ref (q 0)), some (.ref ao), some (.int (nI i)), none, none, none, none]) (ls_s (ls_s (ls_s (ls_s (ls_s (ls_n (ls_n (ls_n (ls_n ls_0))))))))) ?_
    refine zG_perm pm2 ?_
    exact K k wc' wb g' hP

set_option maxRecDepth 100000 in
set_option maxHeartbeats 1000000 in
theorem lc_take (hC : zC p s m meth c args RL 9 cL_law D ct A) (hx : wX A s s.heap) (hX : va_X b0 L xs s s.heap) (hbl : b0 < s.heap.size) (hbA : ¬ A b0) (hL : L ≤ 2048) (hi : i + 3 < L) {mc ms fr2 lo2 : Nat} {Pk : Int32 → va_W → va_W → (Nat → Int64) → Prop} {bb : Int32}
    (hH : zL l D ct yL_take cL_take 5 (some .int) [(0, 10, 13, 13), (0, 10, 17, 15), (0, 10, 21, 35)] 10 340 mc ms [.ref b, .int (xs (i + 1)), .int (xs (i + 2)), .ref ao] (wc ++ [zo ct ao g]) (zLP ct ao Pk))
    (hM : zT l D ct yX5_take cX5_take 3 (some .int) fr2 lo2 0 0 [.ref (q 0), .int (xs (i + 1)), .int (xs (i + 2))] (cM q κ ct) (zd (some (.int bb)) (cM q κ2 ct))) (hf2 : fr2 ≤ 10) (hl2 : lo2 ≤ 340)
    (hk : ∀ k wc' wb g', Pk k wc' wb g' → κ2 0 2 = k ∧ (k = 0 → g' 0 = bb.toInt64)) (hb1 : cells + mc ≤ 601024) (hb2 : slots + ms ≤ 7293034)
    (K : ∀ k wc' wb g', Pk k wc' wb g' → zG p l e room_1 s m args below meth c D A 9 Q (cells + mc) (slots + ms) 1777 [some (.ref b0), some (.ref b), some (.ref (q 0)), some (.ref ao), some (.int (nI i)), none, none, none, none] [] (((wc' ++ wb) ++ [zo ct ao g']) ++ (cM q κ2 ct ++ rest))) : zG p l e room_1 s m args below meth c D A 9 Q cells slots 556 [some (.ref b0), some (.ref b), some (.ref (q 0)), some (.ref ao), some (.int (nI i)), none, none, none, none] [] ((wc ++ [zo ct ao g]) ++ (cM q κ ct ++ rest)) := by
  refine z_aload_n hC dL_law_556 rfl ?_
  refine z_aload_n hC dL_law_557 rfl ?_
  refine z_iload hC dL_law_558 rfl ?_
  refine z_iconst (v := 1) hC dL_law_560 (by decide) ?_
  refine z_iaddN i 1 hC dL_law_561 ?_
  refine z_sld (i + 1) hC hX hbl hbA hL (by omega) dL_law_562 ?_
  refine z_aload_n hC dL_law_563 rfl ?_
  refine z_iload hC dL_law_564 rfl ?_
  refine z_iconst (v := 2) hC dL_law_566 (by decide) ?_
  refine z_iaddN i 2 hC dL_law_567 ?_
  refine z_sld (i + 2) hC hX hbl hbA hL (by omega) dL_law_568 ?_
  refine z_aload_n hC dL_law_569 rfl ?_
  refine z_callL (List.range (wc ++ [zo ct ao g]).length) hC hH hx bw_235 bw_236 bw_75 bw_237 4 (by decide +kernel) rfl (rng_nd _) rng_ps ⟨Nat.le_of_ble_eq_true rfl, Nat.le_of_ble_eq_true rfl⟩ (Nat.le_of_ble_eq_true rfl) ⟨hb1, hb2⟩ rfl dL_law_570 ?_
  rintro v1 wa1 wb ⟨k, wc', g', rfl, rfl, hP⟩ had
  rw [wput_pre (fst_len had)]
  obtain ⟨hk1, hk2⟩ := hk k wc' wb g' hP
  refine z_istore hC dL_law_573 (by decide) rfl ?_
  refine zG_perm pm1 ?_
  refine z_aload_n hC dL_law_575 rfl ?_
  refine z_aload_n hC dL_law_576 rfl ?_
  refine z_iload hC dL_law_577 rfl ?_
  refine z_iconst (v := 1) hC dL_law_579 (by decide) ?_
  refine z_iaddN i 1 hC dL_law_580 ?_
  refine z_sld (i + 1) hC hX hbl hbA hL (by omega) dL_law_581 ?_
  refine z_aload_n hC dL_law_582 rfl ?_
  refine z_iload hC dL_law_583 rfl ?_
  refine z_iconst (v := 2) hC dL_law_585 (by decide) ?_
  refine z_iaddN i 2 hC dL_law_586 ?_
  refine z_sld (i + 2) hC hX hbl hbA hL (by omega) dL_law_587 ?_
  refine z_callV (List.range (cM q κ ct).length) 0 5 hC hM bw_270 bw_271 bw_272 bw_5 bw_273 2 (by decide +kernel) rfl (rng_nd _) rng_ps rfl rfl ⟨Nat.succ_le_succ hf2, show 8 + (3 + 11) + lo2 ≤ 398 by omega⟩ (Nat.le_of_ble_eq_true rfl) ⟨hb1, hb2⟩ rfl dL_law_588 ?_
  rintro v2 wa2 wb2 ⟨rfl, rfl, rfl⟩ had2
  rw [wput_pre0 (fst_len had2)]
  refine z_istore hC dL_law_591 (by decide) rfl ?_
  refine z_aload_n hC dL_law_593 rfl ?_
  refine z_callV (List.range (cM q κ2 ct).length) 0 5 hC (c_X5_thrown l D ct q κ2) bw_164 bw_165 bw_166 bw_5 bw_167 0 (by decide +kernel) rfl (rng_nd _) rng_ps rfl rfl ⟨Nat.le_of_ble_eq_true rfl, Nat.le_of_ble_eq_true rfl⟩ (Nat.le_of_ble_eq_true rfl) ⟨hb1, hb2⟩ rfl dL_law_594 ?_
  rintro v3 wa3 wb3 ⟨rfl, rfl, rfl⟩ had3
  rw [wput_pre0 (fst_len had3)]
  refine z_iload hC dL_law_597 rfl ?_
  refine z_icmp_eq hC 604 dL_law_599 (by decide) (fun _ => ?_) (fun hn => absurd hk1 hn)
  refine z_iload hC dL_law_604 rfl ?_
  refine z_if_ne hC 621 dL_law_606 (by decide) (fun hn => ?_) (fun h0 => ?_)
  · refine z_goto hC 1777 dL_law_621 (by decide) ?_
    refine z_wk (ls2 := [some (.ref b0), some (.ref b), some (.ref (q 0)), some (.ref ao), some (.int (nI i)), none, none, none, none]) (ls_s (ls_s (ls_s (ls_s (ls_s (ls_n (ls_n (ls_n (ls_n ls_0))))))))) ?_
    refine zG_perm pm2 ?_
    exact K k wc' wb g' hP
  · refine z_aload_n hC dL_law_609 rfl ?_
    refine z_iconst (v := 0) hC dL_law_610 (by decide) ?_
    refine z_laload (4 + wc'.length) hC zo_at2 dL_law_611 ?_
    refine z_iload hC dL_law_612 rfl ?_
    refine z_i2l hC dL_law_614 ?_
    refine z_lcmp hC dL_law_615 ?_
    refine z_if_eq hC 621 dL_law_616 (by decide) (fun _ => ?_) (fun hn => absurd (by rw [hk2 h0]; exact lg_self _) hn)
    refine z_goto hC 1777 dL_law_621 (by decide) ?_
    refine z_wk (ls2 := [some (.ref b0), some (.ref b), some (.ref (q 0)), some (.ref ao), some (.int (nI i)), none, none, none, none]) (ls_s (ls_s (ls_s (ls_s (ls_s (ls_n (ls_n (ls_n (ls_n ls_0))))))))) ?_
    refine zG_perm pm2 ?_
    exact K k wc' wb g' hP

set_option maxRecDepth 100000 in
set_option maxHeartbeats 1000000 in
theorem lc_run (hC : zC p s m meth c args RL 9 cL_law D ct A) (hx : wX A s s.heap) (hX : va_X b0 L xs s s.heap) (hbl : b0 < s.heap.size) (hbA : ¬ A b0) (hL : L ≤ 2048) (hi : i + 3 < L) {mc ms fr2 lo2 : Nat} {Pk : Int32 → va_W → va_W → (Nat → Int64) → Prop} {bb : Int32}
    (hH : zL l D ct yL_run cL_run 4 (some .int) [(0, 9, 12, 15)] 10 340 mc ms [.ref b, .int (xs (i + 1)), .ref ao] (wc ++ [zo ct ao g]) (zLP ct ao Pk))
    (hM : zT l D ct yX5_run cX5_run 2 (some .int) fr2 lo2 0 0 [.ref (q 0), .int (xs (i + 1))] (cM q κ ct) (zd (some (.int bb)) (cM q κ2 ct))) (hf2 : fr2 ≤ 10) (hl2 : lo2 ≤ 340)
    (hk : ∀ k wc' wb g', Pk k wc' wb g' → κ2 0 2 = k ∧ (k = 0 → g' 0 = bb.toInt64)) (hb1 : cells + mc ≤ 601024) (hb2 : slots + ms ≤ 7293034)
    (K : ∀ k wc' wb g', Pk k wc' wb g' → zG p l e room_1 s m args below meth c D A 9 Q (cells + mc) (slots + ms) 1777 [some (.ref b0), some (.ref b), some (.ref (q 0)), some (.ref ao), some (.int (nI i)), none, none, none, none] [] (((wc' ++ wb) ++ [zo ct ao g']) ++ (cM q κ2 ct ++ rest))) : zG p l e room_1 s m args below meth c D A 9 Q cells slots 624 [some (.ref b0), some (.ref b), some (.ref (q 0)), some (.ref ao), some (.int (nI i)), none, none, none, none] [] ((wc ++ [zo ct ao g]) ++ (cM q κ ct ++ rest)) := by
  refine z_aload_n hC dL_law_624 rfl ?_
  refine z_aload_n hC dL_law_625 rfl ?_
  refine z_iload hC dL_law_626 rfl ?_
  refine z_iconst (v := 1) hC dL_law_628 (by decide) ?_
  refine z_iaddN i 1 hC dL_law_629 ?_
  refine z_sld (i + 1) hC hX hbl hbA hL (by omega) dL_law_630 ?_
  refine z_aload_n hC dL_law_631 rfl ?_
  refine z_callL (List.range (wc ++ [zo ct ao g]).length) hC hH hx bw_285 bw_286 bw_75 bw_287 3 (by decide +kernel) rfl (rng_nd _) rng_ps ⟨Nat.le_of_ble_eq_true rfl, Nat.le_of_ble_eq_true rfl⟩ (Nat.le_of_ble_eq_true rfl) ⟨hb1, hb2⟩ rfl dL_law_632 ?_
  rintro v1 wa1 wb ⟨k, wc', g', rfl, rfl, hP⟩ had
  rw [wput_pre (fst_len had)]
  obtain ⟨hk1, hk2⟩ := hk k wc' wb g' hP
  refine z_istore hC dL_law_635 (by decide) rfl ?_
  refine zG_perm pm1 ?_
  refine z_aload_n hC dL_law_637 rfl ?_
  refine z_aload_n hC dL_law_638 rfl ?_
  refine z_iload hC dL_law_639 rfl ?_
  refine z_iconst (v := 1) hC dL_law_641 (by decide) ?_
  refine z_iaddN i 1 hC dL_law_642 ?_
  refine z_sld (i + 1) hC hX hbl hbA hL (by omega) dL_law_643 ?_
  refine z_callV (List.range (cM q κ ct).length) 0 5 hC hM bw_347 bw_348 bw_349 bw_5 bw_350 1 (by decide +kernel) rfl (rng_nd _) rng_ps rfl rfl ⟨Nat.succ_le_succ hf2, show 8 + (2 + 11) + lo2 ≤ 398 by omega⟩ (Nat.le_of_ble_eq_true rfl) ⟨hb1, hb2⟩ rfl dL_law_644 ?_
  rintro v2 wa2 wb2 ⟨rfl, rfl, rfl⟩ had2
  rw [wput_pre0 (fst_len had2)]
  refine z_istore hC dL_law_647 (by decide) rfl ?_
  refine z_aload_n hC dL_law_649 rfl ?_
  refine z_callV (List.range (cM q κ2 ct).length) 0 5 hC (c_X5_thrown l D ct q κ2) bw_164 bw_165 bw_166 bw_5 bw_167 0 (by decide +kernel) rfl (rng_nd _) rng_ps rfl rfl ⟨Nat.le_of_ble_eq_true rfl, Nat.le_of_ble_eq_true rfl⟩ (Nat.le_of_ble_eq_true rfl) ⟨hb1, hb2⟩ rfl dL_law_650 ?_
  rintro v3 wa3 wb3 ⟨rfl, rfl, rfl⟩ had3
  rw [wput_pre0 (fst_len had3)]
  refine z_iload hC dL_law_653 rfl ?_
  refine z_icmp_eq hC 660 dL_law_655 (by decide) (fun _ => ?_) (fun hn => absurd hk1 hn)
  refine z_iload hC dL_law_660 rfl ?_
  refine z_if_ne hC 677 dL_law_662 (by decide) (fun hn => ?_) (fun h0 => ?_)
  · refine z_goto hC 1777 dL_law_677 (by decide) ?_
    refine z_wk (ls2 := [some (.ref b0), some (.ref b), some (.ref (q 0)), some (.ref ao), some (.int (nI i)), none, none, none, none]) (ls_s (ls_s (ls_s (ls_s (ls_s (ls_n (ls_n (ls_n (ls_n ls_0))))))))) ?_
    refine zG_perm pm2 ?_
    exact K k wc' wb g' hP
  · refine z_aload_n hC dL_law_665 rfl ?_
    refine z_iconst (v := 0) hC dL_law_666 (by decide) ?_
    refine z_laload (4 + wc'.length) hC zo_at2 dL_law_667 ?_
    refine z_iload hC dL_law_668 rfl ?_
    refine z_i2l hC dL_law_670 ?_
    refine z_lcmp hC dL_law_671 ?_
    refine z_if_eq hC 677 dL_law_672 (by decide) (fun _ => ?_) (fun hn => absurd (by rw [hk2 h0]; exact lg_self _) hn)
    refine z_goto hC 1777 dL_law_677 (by decide) ?_
    refine z_wk (ls2 := [some (.ref b0), some (.ref b), some (.ref (q 0)), some (.ref ao), some (.int (nI i)), none, none, none, none]) (ls_s (ls_s (ls_s (ls_s (ls_s (ls_n (ls_n (ls_n (ls_n ls_0))))))))) ?_
    refine zG_perm pm2 ?_
    exact K k wc' wb g' hP

set_option maxRecDepth 100000 in
set_option maxHeartbeats 1000000 in
theorem lc_appendText (hC : zC p s m meth c args RL 9 cL_law D ct A) (hx : wX A s s.heap) (hX : va_X b0 L xs s s.heap) (hbl : b0 < s.heap.size) (hbA : ¬ A b0) (hL : L ≤ 2048) (hi : i + 3 < L) {mc ms fr2 lo2 : Nat} {Pk : Int32 → va_W → va_W → (Nat → Int64) → Prop} {bb : Int32}
    (hH : zL l D ct yL_appendText cL_appendText 4 (some .int) [(0, 9, 12, 15), (0, 9, 15, 35)] 10 340 mc ms [.ref b, .int (xs (i + 1)), .ref ao] (wc ++ [zo ct ao g]) (zLP ct ao Pk))
    (hM : zT l D ct yX5_appendText cX5_appendText 2 (some .int) fr2 lo2 0 0 [.ref (q 0), .int (xs (i + 1))] (cM q κ ct) (zd (some (.int bb)) (cM q κ2 ct))) (hf2 : fr2 ≤ 10) (hl2 : lo2 ≤ 340)
    (hk : ∀ k wc' wb g', Pk k wc' wb g' → κ2 0 2 = k ∧ (k = 0 → g' 0 = bb.toInt64)) (hb1 : cells + mc ≤ 601024) (hb2 : slots + ms ≤ 7293034)
    (K : ∀ k wc' wb g', Pk k wc' wb g' → zG p l e room_1 s m args below meth c D A 9 Q (cells + mc) (slots + ms) 1777 [some (.ref b0), some (.ref b), some (.ref (q 0)), some (.ref ao), some (.int (nI i)), none, none, none, none] [] (((wc' ++ wb) ++ [zo ct ao g']) ++ (cM q κ2 ct ++ rest))) : zG p l e room_1 s m args below meth c D A 9 Q cells slots 680 [some (.ref b0), some (.ref b), some (.ref (q 0)), some (.ref ao), some (.int (nI i)), none, none, none, none] [] ((wc ++ [zo ct ao g]) ++ (cM q κ ct ++ rest)) := by
  refine z_aload_n hC dL_law_680 rfl ?_
  refine z_aload_n hC dL_law_681 rfl ?_
  refine z_iload hC dL_law_682 rfl ?_
  refine z_iconst (v := 1) hC dL_law_684 (by decide) ?_
  refine z_iaddN i 1 hC dL_law_685 ?_
  refine z_sld (i + 1) hC hX hbl hbA hL (by omega) dL_law_686 ?_
  refine z_aload_n hC dL_law_687 rfl ?_
  refine z_callL (List.range (wc ++ [zo ct ao g]).length) hC hH hx bw_414 bw_415 bw_75 bw_416 3 (by decide +kernel) rfl (rng_nd _) rng_ps ⟨Nat.le_of_ble_eq_true rfl, Nat.le_of_ble_eq_true rfl⟩ (Nat.le_of_ble_eq_true rfl) ⟨hb1, hb2⟩ rfl dL_law_688 ?_
  rintro v1 wa1 wb ⟨k, wc', g', rfl, rfl, hP⟩ had
  rw [wput_pre (fst_len had)]
  obtain ⟨hk1, hk2⟩ := hk k wc' wb g' hP
  refine z_istore hC dL_law_691 (by decide) rfl ?_
  refine zG_perm pm1 ?_
  refine z_aload_n hC dL_law_693 rfl ?_
  refine z_aload_n hC dL_law_694 rfl ?_
  refine z_iload hC dL_law_695 rfl ?_
  refine z_iconst (v := 1) hC dL_law_697 (by decide) ?_
  refine z_iaddN i 1 hC dL_law_698 ?_
  refine z_sld (i + 1) hC hX hbl hbA hL (by omega) dL_law_699 ?_
  refine z_callV (List.range (cM q κ ct).length) 0 5 hC hM bw_428 bw_429 bw_430 bw_5 bw_431 1 (by decide +kernel) rfl (rng_nd _) rng_ps rfl rfl ⟨Nat.succ_le_succ hf2, show 8 + (2 + 11) + lo2 ≤ 398 by omega⟩ (Nat.le_of_ble_eq_true rfl) ⟨hb1, hb2⟩ rfl dL_law_700 ?_
  rintro v2 wa2 wb2 ⟨rfl, rfl, rfl⟩ had2
  rw [wput_pre0 (fst_len had2)]
  refine z_istore hC dL_law_703 (by decide) rfl ?_
  refine z_aload_n hC dL_law_705 rfl ?_
  refine z_callV (List.range (cM q κ2 ct).length) 0 5 hC (c_X5_thrown l D ct q κ2) bw_164 bw_165 bw_166 bw_5 bw_167 0 (by decide +kernel) rfl (rng_nd _) rng_ps rfl rfl ⟨Nat.le_of_ble_eq_true rfl, Nat.le_of_ble_eq_true rfl⟩ (Nat.le_of_ble_eq_true rfl) ⟨hb1, hb2⟩ rfl dL_law_706 ?_
  rintro v3 wa3 wb3 ⟨rfl, rfl, rfl⟩ had3
  rw [wput_pre0 (fst_len had3)]
  refine z_iload hC dL_law_709 rfl ?_
  refine z_icmp_eq hC 716 dL_law_711 (by decide) (fun _ => ?_) (fun hn => absurd hk1 hn)
  refine z_iload hC dL_law_716 rfl ?_
  refine z_if_ne hC 733 dL_law_718 (by decide) (fun hn => ?_) (fun h0 => ?_)
  · refine z_goto hC 1777 dL_law_733 (by decide) ?_
    refine z_wk (ls2 := [some (.ref b0), some (.ref b), some (.ref (q 0)), some (.ref ao), some (.int (nI i)), none, none, none, none]) (ls_s (ls_s (ls_s (ls_s (ls_s (ls_n (ls_n (ls_n (ls_n ls_0))))))))) ?_
    refine zG_perm pm2 ?_
    exact K k wc' wb g' hP
  · refine z_aload_n hC dL_law_721 rfl ?_
    refine z_iconst (v := 0) hC dL_law_722 (by decide) ?_
    refine z_laload (4 + wc'.length) hC zo_at2 dL_law_723 ?_
    refine z_iload hC dL_law_724 rfl ?_
    refine z_i2l hC dL_law_726 ?_
    refine z_lcmp hC dL_law_727 ?_
    refine z_if_eq hC 733 dL_law_728 (by decide) (fun _ => ?_) (fun hn => absurd (by rw [hk2 h0]; exact lg_self _) hn)
    refine z_goto hC 1777 dL_law_733 (by decide) ?_
    refine z_wk (ls2 := [some (.ref b0), some (.ref b), some (.ref (q 0)), some (.ref ao), some (.int (nI i)), none, none, none, none]) (ls_s (ls_s (ls_s (ls_s (ls_s (ls_n (ls_n (ls_n (ls_n ls_0))))))))) ?_
    refine zG_perm pm2 ?_
    exact K k wc' wb g' hP

set_option maxRecDepth 100000 in
set_option maxHeartbeats 1000000 in
theorem ld_clearText (hC : zC p s m meth c args RL 9 cL_law D ct A) {wc2 : va_W} {fs : List Value} {fr1 lo1 fr2 lo2 : Nat} {v : Int32} (hc1 : zT l D ct yX4_clearText cX4_clearText 2 (some .int) fr1 lo1 0 0 [.ref b] wc (zd (some (.int v)) wc2)) (hf1 : fr1 ≤ 10) (hl1 : lo1 ≤ 340) (he : wc[0]? = some (b, .inr (4, fs))) (hM : zT l D ct yX5_clearText cX5_clearText 2 (some .int) fr2 lo2 0 0 [.ref (q 0)] (cM q κ ct) (zd (some (.int v)) (cM q κ2 ct))) (hf2 : fr2 ≤ 10) (hl2 : lo2 ≤ 340) (hb1 : cells ≤ 601024) (hb2 : slots ≤ 7293034)
    (K : zG p l e room_1 s m args below meth c D A 9 Q cells slots 1777 [some (.ref b0), some (.ref b), some (.ref (q 0)), some (.ref ao), some (.int (nI i)), none, none, none, none] [] ((wc2 ++ [zo ct ao g]) ++ (cM q κ2 ct ++ rest))) : zG p l e room_1 s m args below meth c D A 9 Q cells slots 736 [some (.ref b0), some (.ref b), some (.ref (q 0)), some (.ref ao), some (.int (nI i)), none, none, none, none] [] ((wc ++ [zo ct ao g]) ++ (cM q κ ct ++ rest)) := by
  refine zG_w (w2 := wc ++ ([zo ct ao g] ++ (cM q κ ct ++ rest))) (List.append_assoc _ _ _) ?_
  refine z_aload_n hC dL_law_736 rfl ?_
  refine z_callV (List.range wc.length) 0 4 hC hc1 bw_433 bw_434 bw_435 bw_2 bw_436 0 (by decide +kernel) rfl (rng_nd _) rng_ps rfl he ⟨Nat.succ_le_succ hf1, show 8 + (2 + 11) + lo1 ≤ 398 by omega⟩ (Nat.le_of_ble_eq_true rfl) ⟨hb1, hb2⟩ rfl dL_law_737 ?_
  rintro v1 wa1 wb1 ⟨rfl, rfl, rfl⟩ had1
  rw [wput_pre0 (fst_len had1)]
  refine zG_perm pm3 ?_
  refine z_aload_n hC dL_law_740 rfl ?_
  refine z_callV (List.range (cM q κ ct).length) 0 5 hC hM bw_437 bw_438 bw_439 bw_5 bw_440 0 (by decide +kernel) rfl (rng_nd _) rng_ps rfl rfl ⟨Nat.succ_le_succ hf2, show 8 + (2 + 11) + lo2 ≤ 398 by omega⟩ (Nat.le_of_ble_eq_true rfl) ⟨hb1, hb2⟩ rfl dL_law_741 ?_
  rintro v2 wa2 wb2 ⟨rfl, rfl, rfl⟩ had2
  rw [wput_pre0 (fst_len had2)]
  refine z_icmp_eq hC 1777 dL_law_744 (by decide) (fun _ => ?_) (fun hn => absurd rfl hn)
  refine zG_perm pm4 ?_
  exact K

set_option maxRecDepth 100000 in
set_option maxHeartbeats 1000000 in
theorem ld_errorPosition (hC : zC p s m meth c args RL 9 cL_law D ct A) {wc2 : va_W} {fs : List Value} {fr1 lo1 fr2 lo2 : Nat} {v : Int32} (hc1 : zT l D ct yX4_errorPosition cX4_errorPosition 1 (some .int) fr1 lo1 0 0 [.ref b] wc (zd (some (.int v)) wc2)) (hf1 : fr1 ≤ 10) (hl1 : lo1 ≤ 340) (he : wc[0]? = some (b, .inr (4, fs))) (hM : zT l D ct yX5_errorPosition cX5_errorPosition 1 (some .int) fr2 lo2 0 0 [.ref (q 0)] (cM q κ ct) (zd (some (.int v)) (cM q κ2 ct))) (hf2 : fr2 ≤ 10) (hl2 : lo2 ≤ 340) (hb1 : cells ≤ 601024) (hb2 : slots ≤ 7293034)
    (K : zG p l e room_1 s m args below meth c D A 9 Q cells slots 1777 [some (.ref b0), some (.ref b), some (.ref (q 0)), some (.ref ao), some (.int (nI i)), none, none, none, none] [] ((wc2 ++ [zo ct ao g]) ++ (cM q κ2 ct ++ rest))) : zG p l e room_1 s m args below meth c D A 9 Q cells slots 749 [some (.ref b0), some (.ref b), some (.ref (q 0)), some (.ref ao), some (.int (nI i)), none, none, none, none] [] ((wc ++ [zo ct ao g]) ++ (cM q κ ct ++ rest)) := by
  refine zG_w (w2 := wc ++ ([zo ct ao g] ++ (cM q κ ct ++ rest))) (List.append_assoc _ _ _) ?_
  refine z_aload_n hC dL_law_749 rfl ?_
  refine z_callV (List.range wc.length) 0 4 hC hc1 bw_441 bw_442 bw_443 bw_2 bw_444 0 (by decide +kernel) rfl (rng_nd _) rng_ps rfl he ⟨Nat.succ_le_succ hf1, show 8 + (1 + 11) + lo1 ≤ 398 by omega⟩ (Nat.le_of_ble_eq_true rfl) ⟨hb1, hb2⟩ rfl dL_law_750 ?_
  rintro v1 wa1 wb1 ⟨rfl, rfl, rfl⟩ had1
  rw [wput_pre0 (fst_len had1)]
  refine zG_perm pm3 ?_
  refine z_aload_n hC dL_law_753 rfl ?_
  refine z_callV (List.range (cM q κ ct).length) 0 5 hC hM bw_481 bw_482 bw_483 bw_5 bw_484 0 (by decide +kernel) rfl (rng_nd _) rng_ps rfl rfl ⟨Nat.succ_le_succ hf2, show 8 + (1 + 11) + lo2 ≤ 398 by omega⟩ (Nat.le_of_ble_eq_true rfl) ⟨hb1, hb2⟩ rfl dL_law_754 ?_
  rintro v2 wa2 wb2 ⟨rfl, rfl, rfl⟩ had2
  rw [wput_pre0 (fst_len had2)]
  refine z_icmp_eq hC 1777 dL_law_757 (by decide) (fun _ => ?_) (fun hn => absurd rfl hn)
  refine zG_perm pm4 ?_
  exact K

set_option maxRecDepth 100000 in
set_option maxHeartbeats 1000000 in
theorem lc_runText (hC : zC p s m meth c args RL 9 cL_law D ct A) (hx : wX A s s.heap) (hX : va_X b0 L xs s s.heap) (hbl : b0 < s.heap.size) (hbA : ¬ A b0) (hL : L ≤ 2048) (hi : i + 3 < L) {mc ms fr2 lo2 : Nat} {Pk : Int32 → va_W → va_W → (Nat → Int64) → Prop} {bb : Int32}
    (hH : zL l D ct yL_runText cL_runText 3 (some .int) [(0, 8, 11, 35)] 10 340 mc ms [.ref b, .ref ao] (wc ++ [zo ct ao g]) (zLP ct ao Pk))
    (hM : zT l D ct yX5_runText cX5_runText 4 (some .int) fr2 lo2 0 0 [.ref (q 0)] (cM q κ ct) (zd (some (.int bb)) (cM q κ2 ct))) (hf2 : fr2 ≤ 10) (hl2 : lo2 ≤ 340)
    (hk : ∀ k wc' wb g', Pk k wc' wb g' → κ2 0 2 = k ∧ (k = 0 → g' 0 = bb.toInt64)) (hb1 : cells + mc ≤ 601024) (hb2 : slots + ms ≤ 7293034)
    (K : ∀ k wc' wb g', Pk k wc' wb g' → zG p l e room_1 s m args below meth c D A 9 Q (cells + mc) (slots + ms) 1777 [some (.ref b0), some (.ref b), some (.ref (q 0)), some (.ref ao), some (.int (nI i)), none, none, none, none] [] (((wc' ++ wb) ++ [zo ct ao g']) ++ (cM q κ2 ct ++ rest))) : zG p l e room_1 s m args below meth c D A 9 Q cells slots 762 [some (.ref b0), some (.ref b), some (.ref (q 0)), some (.ref ao), some (.int (nI i)), none, none, none, none] [] ((wc ++ [zo ct ao g]) ++ (cM q κ ct ++ rest)) := by
  refine z_aload_n hC dL_law_762 rfl ?_
  refine z_aload_n hC dL_law_763 rfl ?_
  refine z_callL (List.range (wc ++ [zo ct ao g]).length) hC hH hx bw_516 bw_517 bw_75 bw_518 2 (by decide +kernel) rfl (rng_nd _) rng_ps ⟨Nat.le_of_ble_eq_true rfl, Nat.le_of_ble_eq_true rfl⟩ (Nat.le_of_ble_eq_true rfl) ⟨hb1, hb2⟩ rfl dL_law_764 ?_
  rintro v1 wa1 wb ⟨k, wc', g', rfl, rfl, hP⟩ had
  rw [wput_pre (fst_len had)]
  obtain ⟨hk1, hk2⟩ := hk k wc' wb g' hP
  refine z_istore hC dL_law_767 (by decide) rfl ?_
  refine zG_perm pm1 ?_
  refine z_aload_n hC dL_law_769 rfl ?_
  refine z_callV (List.range (cM q κ ct).length) 0 5 hC hM bw_527 bw_528 bw_529 bw_5 bw_530 0 (by decide +kernel) rfl (rng_nd _) rng_ps rfl rfl ⟨Nat.succ_le_succ hf2, show 8 + (4 + 11) + lo2 ≤ 398 by omega⟩ (Nat.le_of_ble_eq_true rfl) ⟨hb1, hb2⟩ rfl dL_law_770 ?_
  rintro v2 wa2 wb2 ⟨rfl, rfl, rfl⟩ had2
  rw [wput_pre0 (fst_len had2)]
  refine z_istore hC dL_law_773 (by decide) rfl ?_
  refine z_aload_n hC dL_law_775 rfl ?_
  refine z_callV (List.range (cM q κ2 ct).length) 0 5 hC (c_X5_thrown l D ct q κ2) bw_164 bw_165 bw_166 bw_5 bw_167 0 (by decide +kernel) rfl (rng_nd _) rng_ps rfl rfl ⟨Nat.le_of_ble_eq_true rfl, Nat.le_of_ble_eq_true rfl⟩ (Nat.le_of_ble_eq_true rfl) ⟨hb1, hb2⟩ rfl dL_law_776 ?_
  rintro v3 wa3 wb3 ⟨rfl, rfl, rfl⟩ had3
  rw [wput_pre0 (fst_len had3)]
  refine z_iload hC dL_law_779 rfl ?_
  refine z_icmp_eq hC 786 dL_law_781 (by decide) (fun _ => ?_) (fun hn => absurd hk1 hn)
  refine z_iload hC dL_law_786 rfl ?_
  refine z_if_ne hC 803 dL_law_788 (by decide) (fun hn => ?_) (fun h0 => ?_)
  · refine z_goto hC 1777 dL_law_803 (by decide) ?_
    refine z_wk (ls2 := [some (.ref b0), some (.ref b), some (.ref (q 0)), some (.ref ao), some (.int (nI i)), none, none, none, none]) (ls_s (ls_s (ls_s (ls_s (ls_s (ls_n (ls_n (ls_n (ls_n ls_0))))))))) ?_
    refine zG_perm pm2 ?_
    exact K k wc' wb g' hP
  · refine z_aload_n hC dL_law_791 rfl ?_
    refine z_iconst (v := 0) hC dL_law_792 (by decide) ?_
    refine z_laload (4 + wc'.length) hC zo_at2 dL_law_793 ?_
    refine z_iload hC dL_law_794 rfl ?_
    refine z_i2l hC dL_law_796 ?_
    refine z_lcmp hC dL_law_797 ?_
    refine z_if_eq hC 803 dL_law_798 (by decide) (fun _ => ?_) (fun hn => absurd (by rw [hk2 h0]; exact lg_self _) hn)
    refine z_goto hC 1777 dL_law_803 (by decide) ?_
    refine z_wk (ls2 := [some (.ref b0), some (.ref b), some (.ref (q 0)), some (.ref ao), some (.int (nI i)), none, none, none, none]) (ls_s (ls_s (ls_s (ls_s (ls_s (ls_n (ls_n (ls_n (ls_n ls_0))))))))) ?_
    refine zG_perm pm2 ?_
    exact K k wc' wb g' hP

set_option maxRecDepth 100000 in
set_option maxHeartbeats 1000000 in
theorem lc_undo (hC : zC p s m meth c args RL 9 cL_law D ct A) (hx : wX A s s.heap) (hX : va_X b0 L xs s s.heap) (hbl : b0 < s.heap.size) (hbA : ¬ A b0) (hL : L ≤ 2048) (hi : i + 3 < L) {mc ms fr2 lo2 : Nat} {Pk : Int32 → va_W → va_W → (Nat → Int64) → Prop} {bb : Int32}
    (hH : zL l D ct yL_undo cL_undo 3 (some .int) [(0, 8, 11, 35)] 10 340 mc ms [.ref b, .ref ao] (wc ++ [zo ct ao g]) (zLP ct ao Pk))
    (hM : zT l D ct yX5_undo cX5_undo 1 (some .int) fr2 lo2 0 0 [.ref (q 0)] (cM q κ ct) (zd (some (.int bb)) (cM q κ2 ct))) (hf2 : fr2 ≤ 10) (hl2 : lo2 ≤ 340)
    (hk : ∀ k wc' wb g', Pk k wc' wb g' → κ2 0 2 = k ∧ (k = 0 → g' 0 = bb.toInt64)) (hb1 : cells + mc ≤ 601024) (hb2 : slots + ms ≤ 7293034)
    (K : ∀ k wc' wb g', Pk k wc' wb g' → zG p l e room_1 s m args below meth c D A 9 Q (cells + mc) (slots + ms) 1777 [some (.ref b0), some (.ref b), some (.ref (q 0)), some (.ref ao), some (.int (nI i)), none, none, none, none] [] (((wc' ++ wb) ++ [zo ct ao g']) ++ (cM q κ2 ct ++ rest))) : zG p l e room_1 s m args below meth c D A 9 Q cells slots 806 [some (.ref b0), some (.ref b), some (.ref (q 0)), some (.ref ao), some (.int (nI i)), none, none, none, none] [] ((wc ++ [zo ct ao g]) ++ (cM q κ ct ++ rest)) := by
  refine z_aload_n hC dL_law_806 rfl ?_
  refine z_aload_n hC dL_law_807 rfl ?_
  refine z_callL (List.range (wc ++ [zo ct ao g]).length) hC hH hx bw_535 bw_536 bw_75 bw_537 2 (by decide +kernel) rfl (rng_nd _) rng_ps ⟨Nat.le_of_ble_eq_true rfl, Nat.le_of_ble_eq_true rfl⟩ (Nat.le_of_ble_eq_true rfl) ⟨hb1, hb2⟩ rfl dL_law_808 ?_
  rintro v1 wa1 wb ⟨k, wc', g', rfl, rfl, hP⟩ had
  rw [wput_pre (fst_len had)]
  obtain ⟨hk1, hk2⟩ := hk k wc' wb g' hP
  refine z_istore hC dL_law_811 (by decide) rfl ?_
  refine zG_perm pm1 ?_
  refine z_aload_n hC dL_law_813 rfl ?_
  refine z_callV (List.range (cM q κ ct).length) 0 5 hC hM bw_548 bw_549 bw_550 bw_5 bw_551 0 (by decide +kernel) rfl (rng_nd _) rng_ps rfl rfl ⟨Nat.succ_le_succ hf2, show 8 + (1 + 11) + lo2 ≤ 398 by omega⟩ (Nat.le_of_ble_eq_true rfl) ⟨hb1, hb2⟩ rfl dL_law_814 ?_
  rintro v2 wa2 wb2 ⟨rfl, rfl, rfl⟩ had2
  rw [wput_pre0 (fst_len had2)]
  refine z_istore hC dL_law_817 (by decide) rfl ?_
  refine z_aload_n hC dL_law_819 rfl ?_
  refine z_callV (List.range (cM q κ2 ct).length) 0 5 hC (c_X5_thrown l D ct q κ2) bw_164 bw_165 bw_166 bw_5 bw_167 0 (by decide +kernel) rfl (rng_nd _) rng_ps rfl rfl ⟨Nat.le_of_ble_eq_true rfl, Nat.le_of_ble_eq_true rfl⟩ (Nat.le_of_ble_eq_true rfl) ⟨hb1, hb2⟩ rfl dL_law_820 ?_
  rintro v3 wa3 wb3 ⟨rfl, rfl, rfl⟩ had3
  rw [wput_pre0 (fst_len had3)]
  refine z_iload hC dL_law_823 rfl ?_
  refine z_icmp_eq hC 830 dL_law_825 (by decide) (fun _ => ?_) (fun hn => absurd hk1 hn)
  refine z_iload hC dL_law_830 rfl ?_
  refine z_if_ne hC 847 dL_law_832 (by decide) (fun hn => ?_) (fun h0 => ?_)
  · refine z_goto hC 1777 dL_law_847 (by decide) ?_
    refine z_wk (ls2 := [some (.ref b0), some (.ref b), some (.ref (q 0)), some (.ref ao), some (.int (nI i)), none, none, none, none]) (ls_s (ls_s (ls_s (ls_s (ls_s (ls_n (ls_n (ls_n (ls_n ls_0))))))))) ?_
    refine zG_perm pm2 ?_
    exact K k wc' wb g' hP
  · refine z_aload_n hC dL_law_835 rfl ?_
    refine z_iconst (v := 0) hC dL_law_836 (by decide) ?_
    refine z_laload (4 + wc'.length) hC zo_at2 dL_law_837 ?_
    refine z_iload hC dL_law_838 rfl ?_
    refine z_i2l hC dL_law_840 ?_
    refine z_lcmp hC dL_law_841 ?_
    refine z_if_eq hC 847 dL_law_842 (by decide) (fun _ => ?_) (fun hn => absurd (by rw [hk2 h0]; exact lg_self _) hn)
    refine z_goto hC 1777 dL_law_847 (by decide) ?_
    refine z_wk (ls2 := [some (.ref b0), some (.ref b), some (.ref (q 0)), some (.ref ao), some (.int (nI i)), none, none, none, none]) (ls_s (ls_s (ls_s (ls_s (ls_s (ls_n (ls_n (ls_n (ls_n ls_0))))))))) ?_
    refine zG_perm pm2 ?_
    exact K k wc' wb g' hP

set_option maxRecDepth 100000 in
set_option maxHeartbeats 1000000 in
theorem lc_isConnected (hC : zC p s m meth c args RL 9 cL_law D ct A) (hx : wX A s s.heap) (hX : va_X b0 L xs s s.heap) (hbl : b0 < s.heap.size) (hbA : ¬ A b0) (hL : L ≤ 2048) (hi : i + 3 < L) {mc ms fr2 lo2 : Nat} {Pk : Int32 → va_W → va_W → (Nat → Int64) → Prop} {bb : Int32}
    (hH : zL l D ct yL_isConnected cL_isConnected 5 (some .int) [(0, 17, 20, 13)] 10 340 mc ms [.ref b, .int (xs (i + 1)), .int (xs (i + 2)), .ref ao] (wc ++ [zo ct ao g]) (zLP ct ao Pk))
    (hM : zT l D ct yX5_isConnected cX5_isConnected 3 (some .boolean) fr2 lo2 0 0 [.ref (q 0), .int (xs (i + 1)), .int (xs (i + 2))] (cM q κ ct) (zd (some (.int bb)) (cM q κ2 ct))) (hf2 : fr2 ≤ 10) (hl2 : lo2 ≤ 340)
    (hk : ∀ k wc' wb g', Pk k wc' wb g' → κ2 0 2 = k ∧ (k = 0 → g' 0 = (if bb = 0 then 0 else 1))) (hb1 : cells + mc ≤ 601024) (hb2 : slots + ms ≤ 7293034)
    (K : ∀ k wc' wb g', Pk k wc' wb g' → zG p l e room_1 s m args below meth c D A 9 Q (cells + mc) (slots + ms) 1777 [some (.ref b0), some (.ref b), some (.ref (q 0)), some (.ref ao), some (.int (nI i)), none, none, none, none] [] (((wc' ++ wb) ++ [zo ct ao g']) ++ (cM q κ2 ct ++ rest))) : zG p l e room_1 s m args below meth c D A 9 Q cells slots 850 [some (.ref b0), some (.ref b), some (.ref (q 0)), some (.ref ao), some (.int (nI i)), none, none, none, none] [] ((wc ++ [zo ct ao g]) ++ (cM q κ ct ++ rest)) := by
  refine z_aload_n hC dL_law_850 rfl ?_
  refine z_aload_n hC dL_law_851 rfl ?_
  refine z_iload hC dL_law_852 rfl ?_
  refine z_iconst (v := 1) hC dL_law_854 (by decide) ?_
  refine z_iaddN i 1 hC dL_law_855 ?_
  refine z_sld (i + 1) hC hX hbl hbA hL (by omega) dL_law_856 ?_
  refine z_aload_n hC dL_law_857 rfl ?_
  refine z_iload hC dL_law_858 rfl ?_
  refine z_iconst (v := 2) hC dL_law_860 (by decide) ?_
  refine z_iaddN i 2 hC dL_law_861 ?_
  refine z_sld (i + 2) hC hX hbl hbA hL (by omega) dL_law_862 ?_
  refine z_aload_n hC dL_law_863 rfl ?_
  refine z_callL (List.range (wc ++ [zo ct ao g]).length) hC hH hx bw_552 bw_553 bw_75 bw_554 4 (by decide +kernel) rfl (rng_nd _) rng_ps ⟨Nat.le_of_ble_eq_true rfl, Nat.le_of_ble_eq_true rfl⟩ (Nat.le_of_ble_eq_true rfl) ⟨hb1, hb2⟩ rfl dL_law_864 ?_
  rintro v1 wa1 wb ⟨k, wc', g', rfl, rfl, hP⟩ had
  rw [wput_pre (fst_len had)]
  obtain ⟨hk1, hk2⟩ := hk k wc' wb g' hP
  refine z_istore hC dL_law_867 (by decide) rfl ?_
  refine zG_perm pm1 ?_
  refine z_aload_n hC dL_law_869 rfl ?_
  refine z_aload_n hC dL_law_870 rfl ?_
  refine z_iload hC dL_law_871 rfl ?_
  refine z_iconst (v := 1) hC dL_law_873 (by decide) ?_
  refine z_iaddN i 1 hC dL_law_874 ?_
  refine z_sld (i + 1) hC hX hbl hbA hL (by omega) dL_law_875 ?_
  refine z_aload_n hC dL_law_876 rfl ?_
  refine z_iload hC dL_law_877 rfl ?_
  refine z_iconst (v := 2) hC dL_law_879 (by decide) ?_
  refine z_iaddN i 2 hC dL_law_880 ?_
  refine z_sld (i + 2) hC hX hbl hbA hL (by omega) dL_law_881 ?_
  refine z_callV (List.range (cM q κ ct).length) 0 5 hC hM bw_559 bw_560 bw_561 bw_5 bw_562 2 (by decide +kernel) rfl (rng_nd _) rng_ps rfl rfl ⟨Nat.succ_le_succ hf2, show 8 + (3 + 11) + lo2 ≤ 398 by omega⟩ (Nat.le_of_ble_eq_true rfl) ⟨hb1, hb2⟩ rfl dL_law_882 ?_
  rintro v2 wa2 wb2 ⟨rfl, rfl, rfl⟩ had2
  rw [wput_pre0 (fst_len had2)]
  refine z_istore hC dL_law_885 (by decide) rfl ?_
  refine z_aload_n hC dL_law_887 rfl ?_
  refine z_callV (List.range (cM q κ2 ct).length) 0 5 hC (c_X5_thrown l D ct q κ2) bw_164 bw_165 bw_166 bw_5 bw_167 0 (by decide +kernel) rfl (rng_nd _) rng_ps rfl rfl ⟨Nat.le_of_ble_eq_true rfl, Nat.le_of_ble_eq_true rfl⟩ (Nat.le_of_ble_eq_true rfl) ⟨hb1, hb2⟩ rfl dL_law_888 ?_
  rintro v3 wa3 wb3 ⟨rfl, rfl, rfl⟩ had3
  rw [wput_pre0 (fst_len had3)]
  refine z_iload hC dL_law_891 rfl ?_
  refine z_icmp_eq hC 898 dL_law_893 (by decide) (fun _ => ?_) (fun hn => absurd hk1 hn)
  refine z_iload hC dL_law_898 rfl ?_
  refine z_if_ne hC 922 dL_law_900 (by decide) (fun hn => ?_) (fun h0 => ?_)
  · refine z_goto hC 1777 dL_law_922 (by decide) ?_
    refine z_wk (ls2 := [some (.ref b0), some (.ref b), some (.ref (q 0)), some (.ref ao), some (.int (nI i)), none, none, none, none]) (ls_s (ls_s (ls_s (ls_s (ls_s (ls_n (ls_n (ls_n (ls_n ls_0))))))))) ?_
    refine zG_perm pm2 ?_
    exact K k wc' wb g' hP
  · refine z_aload_n hC dL_law_903 rfl ?_
    refine z_iconst (v := 0) hC dL_law_904 (by decide) ?_
    refine z_laload (4 + wc'.length) hC zo_at2 dL_law_905 ?_
    refine z_iload hC dL_law_906 rfl ?_
    refine z_if_eq hC 915 dL_law_908 (by decide) (fun cb => ?_) (fun cb => ?_)
    · refine z_lconst (v := 0) hC dL_law_915 rfl ?_
      refine z_lcmp hC dL_law_916 ?_
      refine z_if_eq hC 922 dL_law_917 (by decide) (fun _ => ?_) (fun hn => absurd (by rw [hk2 h0, if_pos cb]; exact lg_self _) hn)
      refine z_goto hC 1777 dL_law_922 (by decide) ?_
      refine z_wk (ls2 := [some (.ref b0), some (.ref b), some (.ref (q 0)), some (.ref ao), some (.int (nI i)), none, none, none, none]) (ls_s (ls_s (ls_s (ls_s (ls_s (ls_n (ls_n (ls_n (ls_n ls_0))))))))) ?_
      refine zG_perm pm2 ?_
      exact K k wc' wb g' hP
    · refine z_lconst (v := 1) hC dL_law_911 rfl ?_
      refine z_goto hC 916 dL_law_912 (by decide) ?_
      refine z_lcmp hC dL_law_916 ?_
      refine z_if_eq hC 922 dL_law_917 (by decide) (fun _ => ?_) (fun hn => absurd (by rw [hk2 h0, if_neg cb]; exact lg_self _) hn)
      refine z_goto hC 1777 dL_law_922 (by decide) ?_
      refine z_wk (ls2 := [some (.ref b0), some (.ref b), some (.ref (q 0)), some (.ref ao), some (.int (nI i)), none, none, none, none]) (ls_s (ls_s (ls_s (ls_s (ls_s (ls_n (ls_n (ls_n (ls_n ls_0))))))))) ?_
      refine zG_perm pm2 ?_
      exact K k wc' wb g' hP

set_option maxRecDepth 100000 in
set_option maxHeartbeats 1000000 in
theorem lc_parent (hC : zC p s m meth c args RL 9 cL_law D ct A) (hx : wX A s s.heap) (hX : va_X b0 L xs s s.heap) (hbl : b0 < s.heap.size) (hbA : ¬ A b0) (hL : L ≤ 2048) (hi : i + 3 < L) {mc ms fr2 lo2 : Nat} {Pk : Int32 → va_W → va_W → (Nat → Int64) → Prop} {bb : Int32}
    (hH : zL l D ct yL_parent cL_parent 4 (some .int) [(0, 9, 12, 13)] 10 340 mc ms [.ref b, .int (xs (i + 1)), .ref ao] (wc ++ [zo ct ao g]) (zLP ct ao Pk))
    (hM : zT l D ct yX5_parent cX5_parent 2 (some .int) fr2 lo2 0 0 [.ref (q 0), .int (xs (i + 1))] (cM q κ ct) (zd (some (.int bb)) (cM q κ2 ct))) (hf2 : fr2 ≤ 10) (hl2 : lo2 ≤ 340)
    (hk : ∀ k wc' wb g', Pk k wc' wb g' → κ2 0 2 = k ∧ (k = 0 → g' 0 = bb.toInt64)) (hb1 : cells + mc ≤ 601024) (hb2 : slots + ms ≤ 7293034)
    (K : ∀ k wc' wb g', Pk k wc' wb g' → zG p l e room_1 s m args below meth c D A 9 Q (cells + mc) (slots + ms) 1777 [some (.ref b0), some (.ref b), some (.ref (q 0)), some (.ref ao), some (.int (nI i)), none, none, none, none] [] (((wc' ++ wb) ++ [zo ct ao g']) ++ (cM q κ2 ct ++ rest))) : zG p l e room_1 s m args below meth c D A 9 Q cells slots 925 [some (.ref b0), some (.ref b), some (.ref (q 0)), some (.ref ao), some (.int (nI i)), none, none, none, none] [] ((wc ++ [zo ct ao g]) ++ (cM q κ ct ++ rest)) := by
  refine z_aload_n hC dL_law_925 rfl ?_
  refine z_aload_n hC dL_law_926 rfl ?_
  refine z_iload hC dL_law_927 rfl ?_
  refine z_iconst (v := 1) hC dL_law_929 (by decide) ?_
  refine z_iaddN i 1 hC dL_law_930 ?_
  refine z_sld (i + 1) hC hX hbl hbA hL (by omega) dL_law_931 ?_
  refine z_aload_n hC dL_law_932 rfl ?_
  refine z_callL (List.range (wc ++ [zo ct ao g]).length) hC hH hx bw_563 bw_564 bw_75 bw_565 3 (by decide +kernel) rfl (rng_nd _) rng_ps ⟨Nat.le_of_ble_eq_true rfl, Nat.le_of_ble_eq_true rfl⟩ (Nat.le_of_ble_eq_true rfl) ⟨hb1, hb2⟩ rfl dL_law_933 ?_
  rintro v1 wa1 wb ⟨k, wc', g', rfl, rfl, hP⟩ had
  rw [wput_pre (fst_len had)]
  obtain ⟨hk1, hk2⟩ := hk k wc' wb g' hP
  refine z_istore hC dL_law_936 (by decide) rfl ?_
  refine zG_perm pm1 ?_
  refine z_aload_n hC dL_law_938 rfl ?_
  refine z_aload_n hC dL_law_939 rfl ?_
  refine z_iload hC dL_law_940 rfl ?_
  refine z_iconst (v := 1) hC dL_law_942 (by decide) ?_
  refine z_iaddN i 1 hC dL_law_943 ?_
  refine z_sld (i + 1) hC hX hbl hbA hL (by omega) dL_law_944 ?_
  refine z_callV (List.range (cM q κ ct).length) 0 5 hC hM bw_570 bw_571 bw_572 bw_5 bw_573 1 (by decide +kernel) rfl (rng_nd _) rng_ps rfl rfl ⟨Nat.succ_le_succ hf2, show 8 + (2 + 11) + lo2 ≤ 398 by omega⟩ (Nat.le_of_ble_eq_true rfl) ⟨hb1, hb2⟩ rfl dL_law_945 ?_
  rintro v2 wa2 wb2 ⟨rfl, rfl, rfl⟩ had2
  rw [wput_pre0 (fst_len had2)]
  refine z_istore hC dL_law_948 (by decide) rfl ?_
  refine z_aload_n hC dL_law_950 rfl ?_
  refine z_callV (List.range (cM q κ2 ct).length) 0 5 hC (c_X5_thrown l D ct q κ2) bw_164 bw_165 bw_166 bw_5 bw_167 0 (by decide +kernel) rfl (rng_nd _) rng_ps rfl rfl ⟨Nat.le_of_ble_eq_true rfl, Nat.le_of_ble_eq_true rfl⟩ (Nat.le_of_ble_eq_true rfl) ⟨hb1, hb2⟩ rfl dL_law_951 ?_
  rintro v3 wa3 wb3 ⟨rfl, rfl, rfl⟩ had3
  rw [wput_pre0 (fst_len had3)]
  refine z_iload hC dL_law_954 rfl ?_
  refine z_icmp_eq hC 961 dL_law_956 (by decide) (fun _ => ?_) (fun hn => absurd hk1 hn)
  refine z_iload hC dL_law_961 rfl ?_
  refine z_if_ne hC 978 dL_law_963 (by decide) (fun hn => ?_) (fun h0 => ?_)
  · refine z_goto hC 1777 dL_law_978 (by decide) ?_
    refine z_wk (ls2 := [some (.ref b0), some (.ref b), some (.ref (q 0)), some (.ref ao), some (.int (nI i)), none, none, none, none]) (ls_s (ls_s (ls_s (ls_s (ls_s (ls_n (ls_n (ls_n (ls_n ls_0))))))))) ?_
    refine zG_perm pm2 ?_
    exact K k wc' wb g' hP
  · refine z_aload_n hC dL_law_966 rfl ?_
    refine z_iconst (v := 0) hC dL_law_967 (by decide) ?_
    refine z_laload (4 + wc'.length) hC zo_at2 dL_law_968 ?_
    refine z_iload hC dL_law_969 rfl ?_
    refine z_i2l hC dL_law_971 ?_
    refine z_lcmp hC dL_law_972 ?_
    refine z_if_eq hC 978 dL_law_973 (by decide) (fun _ => ?_) (fun hn => absurd (by rw [hk2 h0]; exact lg_self _) hn)
    refine z_goto hC 1777 dL_law_978 (by decide) ?_
    refine z_wk (ls2 := [some (.ref b0), some (.ref b), some (.ref (q 0)), some (.ref ao), some (.int (nI i)), none, none, none, none]) (ls_s (ls_s (ls_s (ls_s (ls_s (ls_n (ls_n (ls_n (ls_n ls_0))))))))) ?_
    refine zG_perm pm2 ?_
    exact K k wc' wb g' hP

set_option maxRecDepth 100000 in
set_option maxHeartbeats 1000000 in
theorem lc_depth (hC : zC p s m meth c args RL 9 cL_law D ct A) (hx : wX A s s.heap) (hX : va_X b0 L xs s s.heap) (hbl : b0 < s.heap.size) (hbA : ¬ A b0) (hL : L ≤ 2048) (hi : i + 3 < L) {mc ms fr2 lo2 : Nat} {Pk : Int32 → va_W → va_W → (Nat → Int64) → Prop} {bb : Int32}
    (hH : zL l D ct yL_depth cL_depth 4 (some .int) [(0, 9, 12, 13)] 10 340 mc ms [.ref b, .int (xs (i + 1)), .ref ao] (wc ++ [zo ct ao g]) (zLP ct ao Pk))
    (hM : zT l D ct yX5_depth cX5_depth 2 (some .int) fr2 lo2 0 0 [.ref (q 0), .int (xs (i + 1))] (cM q κ ct) (zd (some (.int bb)) (cM q κ2 ct))) (hf2 : fr2 ≤ 10) (hl2 : lo2 ≤ 340)
    (hk : ∀ k wc' wb g', Pk k wc' wb g' → κ2 0 2 = k ∧ (k = 0 → g' 0 = bb.toInt64)) (hb1 : cells + mc ≤ 601024) (hb2 : slots + ms ≤ 7293034)
    (K : ∀ k wc' wb g', Pk k wc' wb g' → zG p l e room_1 s m args below meth c D A 9 Q (cells + mc) (slots + ms) 1777 [some (.ref b0), some (.ref b), some (.ref (q 0)), some (.ref ao), some (.int (nI i)), none, none, none, none] [] (((wc' ++ wb) ++ [zo ct ao g']) ++ (cM q κ2 ct ++ rest))) : zG p l e room_1 s m args below meth c D A 9 Q cells slots 981 [some (.ref b0), some (.ref b), some (.ref (q 0)), some (.ref ao), some (.int (nI i)), none, none, none, none] [] ((wc ++ [zo ct ao g]) ++ (cM q κ ct ++ rest)) := by
  refine z_aload_n hC dL_law_981 rfl ?_
  refine z_aload_n hC dL_law_982 rfl ?_
  refine z_iload hC dL_law_983 rfl ?_
  refine z_iconst (v := 1) hC dL_law_985 (by decide) ?_
  refine z_iaddN i 1 hC dL_law_986 ?_
  refine z_sld (i + 1) hC hX hbl hbA hL (by omega) dL_law_987 ?_
  refine z_aload_n hC dL_law_988 rfl ?_
  refine z_callL (List.range (wc ++ [zo ct ao g]).length) hC hH hx bw_574 bw_575 bw_75 bw_576 3 (by decide +kernel) rfl (rng_nd _) rng_ps ⟨Nat.le_of_ble_eq_true rfl, Nat.le_of_ble_eq_true rfl⟩ (Nat.le_of_ble_eq_true rfl) ⟨hb1, hb2⟩ rfl dL_law_989 ?_
  rintro v1 wa1 wb ⟨k, wc', g', rfl, rfl, hP⟩ had
  rw [wput_pre (fst_len had)]
  obtain ⟨hk1, hk2⟩ := hk k wc' wb g' hP
  refine z_istore hC dL_law_992 (by decide) rfl ?_
  refine zG_perm pm1 ?_
  refine z_aload_n hC dL_law_994 rfl ?_
  refine z_aload_n hC dL_law_995 rfl ?_
  refine z_iload hC dL_law_996 rfl ?_
  refine z_iconst (v := 1) hC dL_law_998 (by decide) ?_
  refine z_iaddN i 1 hC dL_law_999 ?_
  refine z_sld (i + 1) hC hX hbl hbA hL (by omega) dL_law_1000 ?_
  refine z_callV (List.range (cM q κ ct).length) 0 5 hC hM bw_581 bw_582 bw_583 bw_5 bw_584 1 (by decide +kernel) rfl (rng_nd _) rng_ps rfl rfl ⟨Nat.succ_le_succ hf2, show 8 + (2 + 11) + lo2 ≤ 398 by omega⟩ (Nat.le_of_ble_eq_true rfl) ⟨hb1, hb2⟩ rfl dL_law_1001 ?_
  rintro v2 wa2 wb2 ⟨rfl, rfl, rfl⟩ had2
  rw [wput_pre0 (fst_len had2)]
  refine z_istore hC dL_law_1004 (by decide) rfl ?_
  refine z_aload_n hC dL_law_1006 rfl ?_
  refine z_callV (List.range (cM q κ2 ct).length) 0 5 hC (c_X5_thrown l D ct q κ2) bw_164 bw_165 bw_166 bw_5 bw_167 0 (by decide +kernel) rfl (rng_nd _) rng_ps rfl rfl ⟨Nat.le_of_ble_eq_true rfl, Nat.le_of_ble_eq_true rfl⟩ (Nat.le_of_ble_eq_true rfl) ⟨hb1, hb2⟩ rfl dL_law_1007 ?_
  rintro v3 wa3 wb3 ⟨rfl, rfl, rfl⟩ had3
  rw [wput_pre0 (fst_len had3)]
  refine z_iload hC dL_law_1010 rfl ?_
  refine z_icmp_eq hC 1017 dL_law_1012 (by decide) (fun _ => ?_) (fun hn => absurd hk1 hn)
  refine z_iload hC dL_law_1017 rfl ?_
  refine z_if_ne hC 1034 dL_law_1019 (by decide) (fun hn => ?_) (fun h0 => ?_)
  · refine z_goto hC 1777 dL_law_1034 (by decide) ?_
    refine z_wk (ls2 := [some (.ref b0), some (.ref b), some (.ref (q 0)), some (.ref ao), some (.int (nI i)), none, none, none, none]) (ls_s (ls_s (ls_s (ls_s (ls_s (ls_n (ls_n (ls_n (ls_n ls_0))))))))) ?_
    refine zG_perm pm2 ?_
    exact K k wc' wb g' hP
  · refine z_aload_n hC dL_law_1022 rfl ?_
    refine z_iconst (v := 0) hC dL_law_1023 (by decide) ?_
    refine z_laload (4 + wc'.length) hC zo_at2 dL_law_1024 ?_
    refine z_iload hC dL_law_1025 rfl ?_
    refine z_i2l hC dL_law_1027 ?_
    refine z_lcmp hC dL_law_1028 ?_
    refine z_if_eq hC 1034 dL_law_1029 (by decide) (fun _ => ?_) (fun hn => absurd (by rw [hk2 h0]; exact lg_self _) hn)
    refine z_goto hC 1777 dL_law_1034 (by decide) ?_
    refine z_wk (ls2 := [some (.ref b0), some (.ref b), some (.ref (q 0)), some (.ref ao), some (.int (nI i)), none, none, none, none]) (ls_s (ls_s (ls_s (ls_s (ls_s (ls_n (ls_n (ls_n (ls_n ls_0))))))))) ?_
    refine zG_perm pm2 ?_
    exact K k wc' wb g' hP

set_option maxRecDepth 100000 in
set_option maxHeartbeats 1000000 in
theorem lc_clock (hC : zC p s m meth c args RL 9 cL_law D ct A) (hx : wX A s s.heap) (hX : va_X b0 L xs s s.heap) (hbl : b0 < s.heap.size) (hbA : ¬ A b0) (hL : L ≤ 2048) (hi : i + 3 < L) {mc ms fr2 lo2 : Nat} {Pk : Int32 → va_W → va_W → (Nat → Int64) → Prop} {bb : Int32}
    (hH : zL l D ct yL_clock cL_clock 4 (some .int) [(0, 9, 12, 13)] 10 340 mc ms [.ref b, .int (xs (i + 1)), .ref ao] (wc ++ [zo ct ao g]) (zLP ct ao Pk))
    (hM : zT l D ct yX5_clock cX5_clock 2 (some .int) fr2 lo2 0 0 [.ref (q 0), .int (xs (i + 1))] (cM q κ ct) (zd (some (.int bb)) (cM q κ2 ct))) (hf2 : fr2 ≤ 10) (hl2 : lo2 ≤ 340)
    (hk : ∀ k wc' wb g', Pk k wc' wb g' → κ2 0 2 = k ∧ (k = 0 → g' 0 = bb.toInt64)) (hb1 : cells + mc ≤ 601024) (hb2 : slots + ms ≤ 7293034)
    (K : ∀ k wc' wb g', Pk k wc' wb g' → zG p l e room_1 s m args below meth c D A 9 Q (cells + mc) (slots + ms) 1777 [some (.ref b0), some (.ref b), some (.ref (q 0)), some (.ref ao), some (.int (nI i)), none, none, none, none] [] (((wc' ++ wb) ++ [zo ct ao g']) ++ (cM q κ2 ct ++ rest))) : zG p l e room_1 s m args below meth c D A 9 Q cells slots 1037 [some (.ref b0), some (.ref b), some (.ref (q 0)), some (.ref ao), some (.int (nI i)), none, none, none, none] [] ((wc ++ [zo ct ao g]) ++ (cM q κ ct ++ rest)) := by
  refine z_aload_n hC dL_law_1037 rfl ?_
  refine z_aload_n hC dL_law_1038 rfl ?_
  refine z_iload hC dL_law_1039 rfl ?_
  refine z_iconst (v := 1) hC dL_law_1041 (by decide) ?_
  refine z_iaddN i 1 hC dL_law_1042 ?_
  refine z_sld (i + 1) hC hX hbl hbA hL (by omega) dL_law_1043 ?_
  refine z_aload_n hC dL_law_1044 rfl ?_
  refine z_callL (List.range (wc ++ [zo ct ao g]).length) hC hH hx bw_585 bw_586 bw_75 bw_587 3 (by decide +kernel) rfl (rng_nd _) rng_ps ⟨Nat.le_of_ble_eq_true rfl, Nat.le_of_ble_eq_true rfl⟩ (Nat.le_of_ble_eq_true rfl) ⟨hb1, hb2⟩ rfl dL_law_1045 ?_
  rintro v1 wa1 wb ⟨k, wc', g', rfl, rfl, hP⟩ had
  rw [wput_pre (fst_len had)]
  obtain ⟨hk1, hk2⟩ := hk k wc' wb g' hP
  refine z_istore hC dL_law_1048 (by decide) rfl ?_
  refine zG_perm pm1 ?_
  refine z_aload_n hC dL_law_1050 rfl ?_
  refine z_aload_n hC dL_law_1051 rfl ?_
  refine z_iload hC dL_law_1052 rfl ?_
  refine z_iconst (v := 1) hC dL_law_1054 (by decide) ?_
  refine z_iaddN i 1 hC dL_law_1055 ?_
  refine z_sld (i + 1) hC hX hbl hbA hL (by omega) dL_law_1056 ?_
  refine z_callV (List.range (cM q κ ct).length) 0 5 hC hM bw_592 bw_593 bw_594 bw_5 bw_595 1 (by decide +kernel) rfl (rng_nd _) rng_ps rfl rfl ⟨Nat.succ_le_succ hf2, show 8 + (2 + 11) + lo2 ≤ 398 by omega⟩ (Nat.le_of_ble_eq_true rfl) ⟨hb1, hb2⟩ rfl dL_law_1057 ?_
  rintro v2 wa2 wb2 ⟨rfl, rfl, rfl⟩ had2
  rw [wput_pre0 (fst_len had2)]
  refine z_istore hC dL_law_1060 (by decide) rfl ?_
  refine z_aload_n hC dL_law_1062 rfl ?_
  refine z_callV (List.range (cM q κ2 ct).length) 0 5 hC (c_X5_thrown l D ct q κ2) bw_164 bw_165 bw_166 bw_5 bw_167 0 (by decide +kernel) rfl (rng_nd _) rng_ps rfl rfl ⟨Nat.le_of_ble_eq_true rfl, Nat.le_of_ble_eq_true rfl⟩ (Nat.le_of_ble_eq_true rfl) ⟨hb1, hb2⟩ rfl dL_law_1063 ?_
  rintro v3 wa3 wb3 ⟨rfl, rfl, rfl⟩ had3
  rw [wput_pre0 (fst_len had3)]
  refine z_iload hC dL_law_1066 rfl ?_
  refine z_icmp_eq hC 1073 dL_law_1068 (by decide) (fun _ => ?_) (fun hn => absurd hk1 hn)
  refine z_iload hC dL_law_1073 rfl ?_
  refine z_if_ne hC 1090 dL_law_1075 (by decide) (fun hn => ?_) (fun h0 => ?_)
  · refine z_goto hC 1777 dL_law_1090 (by decide) ?_
    refine z_wk (ls2 := [some (.ref b0), some (.ref b), some (.ref (q 0)), some (.ref ao), some (.int (nI i)), none, none, none, none]) (ls_s (ls_s (ls_s (ls_s (ls_s (ls_n (ls_n (ls_n (ls_n ls_0))))))))) ?_
    refine zG_perm pm2 ?_
    exact K k wc' wb g' hP
  · refine z_aload_n hC dL_law_1078 rfl ?_
    refine z_iconst (v := 0) hC dL_law_1079 (by decide) ?_
    refine z_laload (4 + wc'.length) hC zo_at2 dL_law_1080 ?_
    refine z_iload hC dL_law_1081 rfl ?_
    refine z_i2l hC dL_law_1083 ?_
    refine z_lcmp hC dL_law_1084 ?_
    refine z_if_eq hC 1090 dL_law_1085 (by decide) (fun _ => ?_) (fun hn => absurd (by rw [hk2 h0]; exact lg_self _) hn)
    refine z_goto hC 1777 dL_law_1090 (by decide) ?_
    refine z_wk (ls2 := [some (.ref b0), some (.ref b), some (.ref (q 0)), some (.ref ao), some (.int (nI i)), none, none, none, none]) (ls_s (ls_s (ls_s (ls_s (ls_s (ls_n (ls_n (ls_n (ls_n ls_0))))))))) ?_
    refine zG_perm pm2 ?_
    exact K k wc' wb g' hP

set_option maxRecDepth 100000 in
set_option maxHeartbeats 1000000 in
theorem lc_silence (hC : zC p s m meth c args RL 9 cL_law D ct A) (hx : wX A s s.heap) (hX : va_X b0 L xs s s.heap) (hbl : b0 < s.heap.size) (hbA : ¬ A b0) (hL : L ≤ 2048) (hi : i + 3 < L) {mc ms fr2 lo2 : Nat} {Pk : Int32 → va_W → va_W → (Nat → Int64) → Prop} {bb : Int32}
    (hH : zL l D ct yL_silence cL_silence 4 (some .int) [(0, 9, 12, 13)] 10 340 mc ms [.ref b, .int (xs (i + 1)), .ref ao] (wc ++ [zo ct ao g]) (zLP ct ao Pk))
    (hM : zT l D ct yX5_silence cX5_silence 2 (some .int) fr2 lo2 0 0 [.ref (q 0), .int (xs (i + 1))] (cM q κ ct) (zd (some (.int bb)) (cM q κ2 ct))) (hf2 : fr2 ≤ 10) (hl2 : lo2 ≤ 340)
    (hk : ∀ k wc' wb g', Pk k wc' wb g' → κ2 0 2 = k ∧ (k = 0 → g' 0 = bb.toInt64)) (hb1 : cells + mc ≤ 601024) (hb2 : slots + ms ≤ 7293034)
    (K : ∀ k wc' wb g', Pk k wc' wb g' → zG p l e room_1 s m args below meth c D A 9 Q (cells + mc) (slots + ms) 1777 [some (.ref b0), some (.ref b), some (.ref (q 0)), some (.ref ao), some (.int (nI i)), none, none, none, none] [] (((wc' ++ wb) ++ [zo ct ao g']) ++ (cM q κ2 ct ++ rest))) : zG p l e room_1 s m args below meth c D A 9 Q cells slots 1093 [some (.ref b0), some (.ref b), some (.ref (q 0)), some (.ref ao), some (.int (nI i)), none, none, none, none] [] ((wc ++ [zo ct ao g]) ++ (cM q κ ct ++ rest)) := by
  refine z_aload_n hC dL_law_1093 rfl ?_
  refine z_aload_n hC dL_law_1094 rfl ?_
  refine z_iload hC dL_law_1095 rfl ?_
  refine z_iconst (v := 1) hC dL_law_1097 (by decide) ?_
  refine z_iaddN i 1 hC dL_law_1098 ?_
  refine z_sld (i + 1) hC hX hbl hbA hL (by omega) dL_law_1099 ?_
  refine z_aload_n hC dL_law_1100 rfl ?_
  refine z_callL (List.range (wc ++ [zo ct ao g]).length) hC hH hx bw_596 bw_597 bw_75 bw_598 3 (by decide +kernel) rfl (rng_nd _) rng_ps ⟨Nat.le_of_ble_eq_true rfl, Nat.le_of_ble_eq_true rfl⟩ (Nat.le_of_ble_eq_true rfl) ⟨hb1, hb2⟩ rfl dL_law_1101 ?_
  rintro v1 wa1 wb ⟨k, wc', g', rfl, rfl, hP⟩ had
  rw [wput_pre (fst_len had)]
  obtain ⟨hk1, hk2⟩ := hk k wc' wb g' hP
  refine z_istore hC dL_law_1104 (by decide) rfl ?_
  refine zG_perm pm1 ?_
  refine z_aload_n hC dL_law_1106 rfl ?_
  refine z_aload_n hC dL_law_1107 rfl ?_
  refine z_iload hC dL_law_1108 rfl ?_
  refine z_iconst (v := 1) hC dL_law_1110 (by decide) ?_
  refine z_iaddN i 1 hC dL_law_1111 ?_
  refine z_sld (i + 1) hC hX hbl hbA hL (by omega) dL_law_1112 ?_
  refine z_callV (List.range (cM q κ ct).length) 0 5 hC hM bw_603 bw_604 bw_605 bw_5 bw_606 1 (by decide +kernel) rfl (rng_nd _) rng_ps rfl rfl ⟨Nat.succ_le_succ hf2, show 8 + (2 + 11) + lo2 ≤ 398 by omega⟩ (Nat.le_of_ble_eq_true rfl) ⟨hb1, hb2⟩ rfl dL_law_1113 ?_
  rintro v2 wa2 wb2 ⟨rfl, rfl, rfl⟩ had2
  rw [wput_pre0 (fst_len had2)]
  refine z_istore hC dL_law_1116 (by decide) rfl ?_
  refine z_aload_n hC dL_law_1118 rfl ?_
  refine z_callV (List.range (cM q κ2 ct).length) 0 5 hC (c_X5_thrown l D ct q κ2) bw_164 bw_165 bw_166 bw_5 bw_167 0 (by decide +kernel) rfl (rng_nd _) rng_ps rfl rfl ⟨Nat.le_of_ble_eq_true rfl, Nat.le_of_ble_eq_true rfl⟩ (Nat.le_of_ble_eq_true rfl) ⟨hb1, hb2⟩ rfl dL_law_1119 ?_
  rintro v3 wa3 wb3 ⟨rfl, rfl, rfl⟩ had3
  rw [wput_pre0 (fst_len had3)]
  refine z_iload hC dL_law_1122 rfl ?_
  refine z_icmp_eq hC 1129 dL_law_1124 (by decide) (fun _ => ?_) (fun hn => absurd hk1 hn)
  refine z_iload hC dL_law_1129 rfl ?_
  refine z_if_ne hC 1146 dL_law_1131 (by decide) (fun hn => ?_) (fun h0 => ?_)
  · refine z_goto hC 1777 dL_law_1146 (by decide) ?_
    refine z_wk (ls2 := [some (.ref b0), some (.ref b), some (.ref (q 0)), some (.ref ao), some (.int (nI i)), none, none, none, none]) (ls_s (ls_s (ls_s (ls_s (ls_s (ls_n (ls_n (ls_n (ls_n ls_0))))))))) ?_
    refine zG_perm pm2 ?_
    exact K k wc' wb g' hP
  · refine z_aload_n hC dL_law_1134 rfl ?_
    refine z_iconst (v := 0) hC dL_law_1135 (by decide) ?_
    refine z_laload (4 + wc'.length) hC zo_at2 dL_law_1136 ?_
    refine z_iload hC dL_law_1137 rfl ?_
    refine z_i2l hC dL_law_1139 ?_
    refine z_lcmp hC dL_law_1140 ?_
    refine z_if_eq hC 1146 dL_law_1141 (by decide) (fun _ => ?_) (fun hn => absurd (by rw [hk2 h0]; exact lg_self _) hn)
    refine z_goto hC 1777 dL_law_1146 (by decide) ?_
    refine z_wk (ls2 := [some (.ref b0), some (.ref b), some (.ref (q 0)), some (.ref ao), some (.int (nI i)), none, none, none, none]) (ls_s (ls_s (ls_s (ls_s (ls_s (ls_n (ls_n (ls_n (ls_n ls_0))))))))) ?_
    refine zG_perm pm2 ?_
    exact K k wc' wb g' hP

set_option maxRecDepth 100000 in
set_option maxHeartbeats 1000000 in
theorem lc_faults (hC : zC p s m meth c args RL 9 cL_law D ct A) (hx : wX A s s.heap) (hX : va_X b0 L xs s s.heap) (hbl : b0 < s.heap.size) (hbA : ¬ A b0) (hL : L ≤ 2048) (hi : i + 3 < L) {mc ms fr2 lo2 : Nat} {Pk : Int32 → va_W → va_W → (Nat → Int64) → Prop} {bb : Int32}
    (hH : zL l D ct yL_faults cL_faults 4 (some .int) [(0, 9, 12, 13)] 10 340 mc ms [.ref b, .int (xs (i + 1)), .ref ao] (wc ++ [zo ct ao g]) (zLP ct ao Pk))
    (hM : zT l D ct yX5_faults cX5_faults 2 (some .int) fr2 lo2 0 0 [.ref (q 0), .int (xs (i + 1))] (cM q κ ct) (zd (some (.int bb)) (cM q κ2 ct))) (hf2 : fr2 ≤ 10) (hl2 : lo2 ≤ 340)
    (hk : ∀ k wc' wb g', Pk k wc' wb g' → κ2 0 2 = k ∧ (k = 0 → g' 0 = bb.toInt64)) (hb1 : cells + mc ≤ 601024) (hb2 : slots + ms ≤ 7293034)
    (K : ∀ k wc' wb g', Pk k wc' wb g' → zG p l e room_1 s m args below meth c D A 9 Q (cells + mc) (slots + ms) 1777 [some (.ref b0), some (.ref b), some (.ref (q 0)), some (.ref ao), some (.int (nI i)), none, none, none, none] [] (((wc' ++ wb) ++ [zo ct ao g']) ++ (cM q κ2 ct ++ rest))) : zG p l e room_1 s m args below meth c D A 9 Q cells slots 1149 [some (.ref b0), some (.ref b), some (.ref (q 0)), some (.ref ao), some (.int (nI i)), none, none, none, none] [] ((wc ++ [zo ct ao g]) ++ (cM q κ ct ++ rest)) := by
  refine z_aload_n hC dL_law_1149 rfl ?_
  refine z_aload_n hC dL_law_1150 rfl ?_
  refine z_iload hC dL_law_1151 rfl ?_
  refine z_iconst (v := 1) hC dL_law_1153 (by decide) ?_
  refine z_iaddN i 1 hC dL_law_1154 ?_
  refine z_sld (i + 1) hC hX hbl hbA hL (by omega) dL_law_1155 ?_
  refine z_aload_n hC dL_law_1156 rfl ?_
  refine z_callL (List.range (wc ++ [zo ct ao g]).length) hC hH hx bw_607 bw_608 bw_75 bw_609 3 (by decide +kernel) rfl (rng_nd _) rng_ps ⟨Nat.le_of_ble_eq_true rfl, Nat.le_of_ble_eq_true rfl⟩ (Nat.le_of_ble_eq_true rfl) ⟨hb1, hb2⟩ rfl dL_law_1157 ?_
  rintro v1 wa1 wb ⟨k, wc', g', rfl, rfl, hP⟩ had
  rw [wput_pre (fst_len had)]
  obtain ⟨hk1, hk2⟩ := hk k wc' wb g' hP
  refine z_istore hC dL_law_1160 (by decide) rfl ?_
  refine zG_perm pm1 ?_
  refine z_aload_n hC dL_law_1162 rfl ?_
  refine z_aload_n hC dL_law_1163 rfl ?_
  refine z_iload hC dL_law_1164 rfl ?_
  refine z_iconst (v := 1) hC dL_law_1166 (by decide) ?_
  refine z_iaddN i 1 hC dL_law_1167 ?_
  refine z_sld (i + 1) hC hX hbl hbA hL (by omega) dL_law_1168 ?_
  refine z_callV (List.range (cM q κ ct).length) 0 5 hC hM bw_614 bw_615 bw_616 bw_5 bw_617 1 (by decide +kernel) rfl (rng_nd _) rng_ps rfl rfl ⟨Nat.succ_le_succ hf2, show 8 + (2 + 11) + lo2 ≤ 398 by omega⟩ (Nat.le_of_ble_eq_true rfl) ⟨hb1, hb2⟩ rfl dL_law_1169 ?_
  rintro v2 wa2 wb2 ⟨rfl, rfl, rfl⟩ had2
  rw [wput_pre0 (fst_len had2)]
  refine z_istore hC dL_law_1172 (by decide) rfl ?_
  refine z_aload_n hC dL_law_1174 rfl ?_
  refine z_callV (List.range (cM q κ2 ct).length) 0 5 hC (c_X5_thrown l D ct q κ2) bw_164 bw_165 bw_166 bw_5 bw_167 0 (by decide +kernel) rfl (rng_nd _) rng_ps rfl rfl ⟨Nat.le_of_ble_eq_true rfl, Nat.le_of_ble_eq_true rfl⟩ (Nat.le_of_ble_eq_true rfl) ⟨hb1, hb2⟩ rfl dL_law_1175 ?_
  rintro v3 wa3 wb3 ⟨rfl, rfl, rfl⟩ had3
  rw [wput_pre0 (fst_len had3)]
  refine z_iload hC dL_law_1178 rfl ?_
  refine z_icmp_eq hC 1185 dL_law_1180 (by decide) (fun _ => ?_) (fun hn => absurd hk1 hn)
  refine z_iload hC dL_law_1185 rfl ?_
  refine z_if_ne hC 1202 dL_law_1187 (by decide) (fun hn => ?_) (fun h0 => ?_)
  · refine z_goto hC 1777 dL_law_1202 (by decide) ?_
    refine z_wk (ls2 := [some (.ref b0), some (.ref b), some (.ref (q 0)), some (.ref ao), some (.int (nI i)), none, none, none, none]) (ls_s (ls_s (ls_s (ls_s (ls_s (ls_n (ls_n (ls_n (ls_n ls_0))))))))) ?_
    refine zG_perm pm2 ?_
    exact K k wc' wb g' hP
  · refine z_aload_n hC dL_law_1190 rfl ?_
    refine z_iconst (v := 0) hC dL_law_1191 (by decide) ?_
    refine z_laload (4 + wc'.length) hC zo_at2 dL_law_1192 ?_
    refine z_iload hC dL_law_1193 rfl ?_
    refine z_i2l hC dL_law_1195 ?_
    refine z_lcmp hC dL_law_1196 ?_
    refine z_if_eq hC 1202 dL_law_1197 (by decide) (fun _ => ?_) (fun hn => absurd (by rw [hk2 h0]; exact lg_self _) hn)
    refine z_goto hC 1777 dL_law_1202 (by decide) ?_
    refine z_wk (ls2 := [some (.ref b0), some (.ref b), some (.ref (q 0)), some (.ref ao), some (.int (nI i)), none, none, none, none]) (ls_s (ls_s (ls_s (ls_s (ls_s (ls_n (ls_n (ls_n (ls_n ls_0))))))))) ?_
    refine zG_perm pm2 ?_
    exact K k wc' wb g' hP

set_option maxRecDepth 100000 in
set_option maxHeartbeats 1000000 in
theorem lc_hops (hC : zC p s m meth c args RL 9 cL_law D ct A) (hx : wX A s s.heap) (hX : va_X b0 L xs s s.heap) (hbl : b0 < s.heap.size) (hbA : ¬ A b0) (hL : L ≤ 2048) (hi : i + 3 < L) {mc ms fr2 lo2 : Nat} {Pk : Int32 → va_W → va_W → (Nat → Int64) → Prop} {bb : Int32}
    (hH : zL l D ct yL_hops cL_hops 4 (some .int) [(0, 9, 12, 13)] 10 340 mc ms [.ref b, .int (xs (i + 1)), .ref ao] (wc ++ [zo ct ao g]) (zLP ct ao Pk))
    (hM : zT l D ct yX5_hops cX5_hops 5 (some .int) fr2 lo2 0 0 [.ref (q 0), .int (xs (i + 1))] (cM q κ ct) (zd (some (.int bb)) (cM q κ2 ct))) (hf2 : fr2 ≤ 10) (hl2 : lo2 ≤ 340)
    (hk : ∀ k wc' wb g', Pk k wc' wb g' → κ2 0 2 = k ∧ (k = 0 → g' 0 = bb.toInt64)) (hb1 : cells + mc ≤ 601024) (hb2 : slots + ms ≤ 7293034)
    (K : ∀ k wc' wb g', Pk k wc' wb g' → zG p l e room_1 s m args below meth c D A 9 Q (cells + mc) (slots + ms) 1777 [some (.ref b0), some (.ref b), some (.ref (q 0)), some (.ref ao), some (.int (nI i)), none, none, none, none] [] (((wc' ++ wb) ++ [zo ct ao g']) ++ (cM q κ2 ct ++ rest))) : zG p l e room_1 s m args below meth c D A 9 Q cells slots 1205 [some (.ref b0), some (.ref b), some (.ref (q 0)), some (.ref ao), some (.int (nI i)), none, none, none, none] [] ((wc ++ [zo ct ao g]) ++ (cM q κ ct ++ rest)) := by
  refine z_aload_n hC dL_law_1205 rfl ?_
  refine z_aload_n hC dL_law_1206 rfl ?_
  refine z_iload hC dL_law_1207 rfl ?_
  refine z_iconst (v := 1) hC dL_law_1209 (by decide) ?_
  refine z_iaddN i 1 hC dL_law_1210 ?_
  refine z_sld (i + 1) hC hX hbl hbA hL (by omega) dL_law_1211 ?_
  refine z_aload_n hC dL_law_1212 rfl ?_
  refine z_callL (List.range (wc ++ [zo ct ao g]).length) hC hH hx bw_618 bw_619 bw_75 bw_620 3 (by decide +kernel) rfl (rng_nd _) rng_ps ⟨Nat.le_of_ble_eq_true rfl, Nat.le_of_ble_eq_true rfl⟩ (Nat.le_of_ble_eq_true rfl) ⟨hb1, hb2⟩ rfl dL_law_1213 ?_
  rintro v1 wa1 wb ⟨k, wc', g', rfl, rfl, hP⟩ had
  rw [wput_pre (fst_len had)]
  obtain ⟨hk1, hk2⟩ := hk k wc' wb g' hP
  refine z_istore hC dL_law_1216 (by decide) rfl ?_
  refine zG_perm pm1 ?_
  refine z_aload_n hC dL_law_1218 rfl ?_
  refine z_aload_n hC dL_law_1219 rfl ?_
  refine z_iload hC dL_law_1220 rfl ?_
  refine z_iconst (v := 1) hC dL_law_1222 (by decide) ?_
  refine z_iaddN i 1 hC dL_law_1223 ?_
  refine z_sld (i + 1) hC hX hbl hbA hL (by omega) dL_law_1224 ?_
  refine z_callV (List.range (cM q κ ct).length) 0 5 hC hM bw_632 bw_633 bw_634 bw_5 bw_635 1 (by decide +kernel) rfl (rng_nd _) rng_ps rfl rfl ⟨Nat.succ_le_succ hf2, show 8 + (5 + 11) + lo2 ≤ 398 by omega⟩ (Nat.le_of_ble_eq_true rfl) ⟨hb1, hb2⟩ rfl dL_law_1225 ?_
  rintro v2 wa2 wb2 ⟨rfl, rfl, rfl⟩ had2
  rw [wput_pre0 (fst_len had2)]
  refine z_istore hC dL_law_1228 (by decide) rfl ?_
  refine z_aload_n hC dL_law_1230 rfl ?_
  refine z_callV (List.range (cM q κ2 ct).length) 0 5 hC (c_X5_thrown l D ct q κ2) bw_164 bw_165 bw_166 bw_5 bw_167 0 (by decide +kernel) rfl (rng_nd _) rng_ps rfl rfl ⟨Nat.le_of_ble_eq_true rfl, Nat.le_of_ble_eq_true rfl⟩ (Nat.le_of_ble_eq_true rfl) ⟨hb1, hb2⟩ rfl dL_law_1231 ?_
  rintro v3 wa3 wb3 ⟨rfl, rfl, rfl⟩ had3
  rw [wput_pre0 (fst_len had3)]
  refine z_iload hC dL_law_1234 rfl ?_
  refine z_icmp_eq hC 1241 dL_law_1236 (by decide) (fun _ => ?_) (fun hn => absurd hk1 hn)
  refine z_iload hC dL_law_1241 rfl ?_
  refine z_if_ne hC 1258 dL_law_1243 (by decide) (fun hn => ?_) (fun h0 => ?_)
  · refine z_goto hC 1777 dL_law_1258 (by decide) ?_
    refine z_wk (ls2 := [some (.ref b0), some (.ref b), some (.ref (q 0)), some (.ref ao), some (.int (nI i)), none, none, none, none]) (ls_s (ls_s (ls_s (ls_s (ls_s (ls_n (ls_n (ls_n (ls_n ls_0))))))))) ?_
    refine zG_perm pm2 ?_
    exact K k wc' wb g' hP
  · refine z_aload_n hC dL_law_1246 rfl ?_
    refine z_iconst (v := 0) hC dL_law_1247 (by decide) ?_
    refine z_laload (4 + wc'.length) hC zo_at2 dL_law_1248 ?_
    refine z_iload hC dL_law_1249 rfl ?_
    refine z_i2l hC dL_law_1251 ?_
    refine z_lcmp hC dL_law_1252 ?_
    refine z_if_eq hC 1258 dL_law_1253 (by decide) (fun _ => ?_) (fun hn => absurd (by rw [hk2 h0]; exact lg_self _) hn)
    refine z_goto hC 1777 dL_law_1258 (by decide) ?_
    refine z_wk (ls2 := [some (.ref b0), some (.ref b), some (.ref (q 0)), some (.ref ao), some (.int (nI i)), none, none, none, none]) (ls_s (ls_s (ls_s (ls_s (ls_s (ls_n (ls_n (ls_n (ls_n ls_0))))))))) ?_
    refine zG_perm pm2 ?_
    exact K k wc' wb g' hP

set_option maxRecDepth 100000 in
set_option maxHeartbeats 1000000 in
theorem lc_stored (hC : zC p s m meth c args RL 9 cL_law D ct A) (hx : wX A s s.heap) (hX : va_X b0 L xs s s.heap) (hbl : b0 < s.heap.size) (hbA : ¬ A b0) (hL : L ≤ 2048) (hi : i + 3 < L) {mc ms fr2 lo2 : Nat} {Pk : Int32 → va_W → va_W → (Nat → Int64) → Prop} {bb : Int32}
    (hH : zL l D ct yL_stored cL_stored 4 (some .int) [(0, 9, 12, 13)] 10 340 mc ms [.ref b, .int (xs (i + 1)), .ref ao] (wc ++ [zo ct ao g]) (zLP ct ao Pk))
    (hM : zT l D ct yX5_stored cX5_stored 2 (some .int) fr2 lo2 0 0 [.ref (q 0), .int (xs (i + 1))] (cM q κ ct) (zd (some (.int bb)) (cM q κ2 ct))) (hf2 : fr2 ≤ 10) (hl2 : lo2 ≤ 340)
    (hk : ∀ k wc' wb g', Pk k wc' wb g' → κ2 0 2 = k ∧ (k = 0 → g' 0 = bb.toInt64)) (hb1 : cells + mc ≤ 601024) (hb2 : slots + ms ≤ 7293034)
    (K : ∀ k wc' wb g', Pk k wc' wb g' → zG p l e room_1 s m args below meth c D A 9 Q (cells + mc) (slots + ms) 1777 [some (.ref b0), some (.ref b), some (.ref (q 0)), some (.ref ao), some (.int (nI i)), none, none, none, none] [] (((wc' ++ wb) ++ [zo ct ao g']) ++ (cM q κ2 ct ++ rest))) : zG p l e room_1 s m args below meth c D A 9 Q cells slots 1261 [some (.ref b0), some (.ref b), some (.ref (q 0)), some (.ref ao), some (.int (nI i)), none, none, none, none] [] ((wc ++ [zo ct ao g]) ++ (cM q κ ct ++ rest)) := by
  refine z_aload_n hC dL_law_1261 rfl ?_
  refine z_aload_n hC dL_law_1262 rfl ?_
  refine z_iload hC dL_law_1263 rfl ?_
  refine z_iconst (v := 1) hC dL_law_1265 (by decide) ?_
  refine z_iaddN i 1 hC dL_law_1266 ?_
  refine z_sld (i + 1) hC hX hbl hbA hL (by omega) dL_law_1267 ?_
  refine z_aload_n hC dL_law_1268 rfl ?_
  refine z_callL (List.range (wc ++ [zo ct ao g]).length) hC hH hx bw_636 bw_637 bw_75 bw_638 3 (by decide +kernel) rfl (rng_nd _) rng_ps ⟨Nat.le_of_ble_eq_true rfl, Nat.le_of_ble_eq_true rfl⟩ (Nat.le_of_ble_eq_true rfl) ⟨hb1, hb2⟩ rfl dL_law_1269 ?_
  rintro v1 wa1 wb ⟨k, wc', g', rfl, rfl, hP⟩ had
  rw [wput_pre (fst_len had)]
  obtain ⟨hk1, hk2⟩ := hk k wc' wb g' hP
  refine z_istore hC dL_law_1272 (by decide) rfl ?_
  refine zG_perm pm1 ?_
  refine z_aload_n hC dL_law_1274 rfl ?_
  refine z_aload_n hC dL_law_1275 rfl ?_
  refine z_iload hC dL_law_1276 rfl ?_
  refine z_iconst (v := 1) hC dL_law_1278 (by decide) ?_
  refine z_iaddN i 1 hC dL_law_1279 ?_
  refine z_sld (i + 1) hC hX hbl hbA hL (by omega) dL_law_1280 ?_
  refine z_callV (List.range (cM q κ ct).length) 0 5 hC hM bw_643 bw_644 bw_645 bw_5 bw_646 1 (by decide +kernel) rfl (rng_nd _) rng_ps rfl rfl ⟨Nat.succ_le_succ hf2, show 8 + (2 + 11) + lo2 ≤ 398 by omega⟩ (Nat.le_of_ble_eq_true rfl) ⟨hb1, hb2⟩ rfl dL_law_1281 ?_
  rintro v2 wa2 wb2 ⟨rfl, rfl, rfl⟩ had2
  rw [wput_pre0 (fst_len had2)]
  refine z_istore hC dL_law_1284 (by decide) rfl ?_
  refine z_aload_n hC dL_law_1286 rfl ?_
  refine z_callV (List.range (cM q κ2 ct).length) 0 5 hC (c_X5_thrown l D ct q κ2) bw_164 bw_165 bw_166 bw_5 bw_167 0 (by decide +kernel) rfl (rng_nd _) rng_ps rfl rfl ⟨Nat.le_of_ble_eq_true rfl, Nat.le_of_ble_eq_true rfl⟩ (Nat.le_of_ble_eq_true rfl) ⟨hb1, hb2⟩ rfl dL_law_1287 ?_
  rintro v3 wa3 wb3 ⟨rfl, rfl, rfl⟩ had3
  rw [wput_pre0 (fst_len had3)]
  refine z_iload hC dL_law_1290 rfl ?_
  refine z_icmp_eq hC 1297 dL_law_1292 (by decide) (fun _ => ?_) (fun hn => absurd hk1 hn)
  refine z_iload hC dL_law_1297 rfl ?_
  refine z_if_ne hC 1314 dL_law_1299 (by decide) (fun hn => ?_) (fun h0 => ?_)
  · refine z_goto hC 1777 dL_law_1314 (by decide) ?_
    refine z_wk (ls2 := [some (.ref b0), some (.ref b), some (.ref (q 0)), some (.ref ao), some (.int (nI i)), none, none, none, none]) (ls_s (ls_s (ls_s (ls_s (ls_s (ls_n (ls_n (ls_n (ls_n ls_0))))))))) ?_
    refine zG_perm pm2 ?_
    exact K k wc' wb g' hP
  · refine z_aload_n hC dL_law_1302 rfl ?_
    refine z_iconst (v := 0) hC dL_law_1303 (by decide) ?_
    refine z_laload (4 + wc'.length) hC zo_at2 dL_law_1304 ?_
    refine z_iload hC dL_law_1305 rfl ?_
    refine z_i2l hC dL_law_1307 ?_
    refine z_lcmp hC dL_law_1308 ?_
    refine z_if_eq hC 1314 dL_law_1309 (by decide) (fun _ => ?_) (fun hn => absurd (by rw [hk2 h0]; exact lg_self _) hn)
    refine z_goto hC 1777 dL_law_1314 (by decide) ?_
    refine z_wk (ls2 := [some (.ref b0), some (.ref b), some (.ref (q 0)), some (.ref ao), some (.int (nI i)), none, none, none, none]) (ls_s (ls_s (ls_s (ls_s (ls_s (ls_n (ls_n (ls_n (ls_n ls_0))))))))) ?_
    refine zG_perm pm2 ?_
    exact K k wc' wb g' hP

set_option maxRecDepth 100000 in
set_option maxHeartbeats 1000000 in
theorem lc_storedReading (hC : zC p s m meth c args RL 9 cL_law D ct A) (hx : wX A s s.heap) (hX : va_X b0 L xs s s.heap) (hbl : b0 < s.heap.size) (hbA : ¬ A b0) (hL : L ≤ 2048) (hi : i + 3 < L) {mc ms fr2 lo2 : Nat} {Pk : Int32 → va_W → va_W → (Nat → Int64) → Prop} {bb : Int32}
    (hH : zL l D ct yL_storedReading cL_storedReading 6 (some .int) [(0, 12, 15, 13), (0, 12, 19, 15)] 10 340 mc ms [.ref b, .int (xs (i + 1)), .int (xs (i + 2)), .int (xs (i + 3)), .ref ao] (wc ++ [zo ct ao g]) (zLP ct ao Pk))
    (hM : zT l D ct yX5_storedReading cX5_storedReading 4 (some .int) fr2 lo2 0 0 [.ref (q 0), .int (xs (i + 1)), .int (xs (i + 2)), .int (xs (i + 3))] (cM q κ ct) (zd (some (.int bb)) (cM q κ2 ct))) (hf2 : fr2 ≤ 10) (hl2 : lo2 ≤ 340)
    (hk : ∀ k wc' wb g', Pk k wc' wb g' → κ2 0 2 = k ∧ (k = 0 → g' 0 = bb.toInt64)) (hb1 : cells + mc ≤ 601024) (hb2 : slots + ms ≤ 7293034)
    (K : ∀ k wc' wb g', Pk k wc' wb g' → zG p l e room_1 s m args below meth c D A 9 Q (cells + mc) (slots + ms) 1777 [some (.ref b0), some (.ref b), some (.ref (q 0)), some (.ref ao), some (.int (nI i)), none, none, none, none] [] (((wc' ++ wb) ++ [zo ct ao g']) ++ (cM q κ2 ct ++ rest))) : zG p l e room_1 s m args below meth c D A 9 Q cells slots 1317 [some (.ref b0), some (.ref b), some (.ref (q 0)), some (.ref ao), some (.int (nI i)), none, none, none, none] [] ((wc ++ [zo ct ao g]) ++ (cM q κ ct ++ rest)) := by
  refine z_aload_n hC dL_law_1317 rfl ?_
  refine z_aload_n hC dL_law_1318 rfl ?_
  refine z_iload hC dL_law_1319 rfl ?_
  refine z_iconst (v := 1) hC dL_law_1321 (by decide) ?_
  refine z_iaddN i 1 hC dL_law_1322 ?_
  refine z_sld (i + 1) hC hX hbl hbA hL (by omega) dL_law_1323 ?_
  refine z_aload_n hC dL_law_1324 rfl ?_
  refine z_iload hC dL_law_1325 rfl ?_
  refine z_iconst (v := 2) hC dL_law_1327 (by decide) ?_
  refine z_iaddN i 2 hC dL_law_1328 ?_
  refine z_sld (i + 2) hC hX hbl hbA hL (by omega) dL_law_1329 ?_
  refine z_aload_n hC dL_law_1330 rfl ?_
  refine z_iload hC dL_law_1331 rfl ?_
  refine z_iconst (v := 3) hC dL_law_1333 (by decide) ?_
  refine z_iaddN i 3 hC dL_law_1334 ?_
  refine z_sld (i + 3) hC hX hbl hbA hL (by omega) dL_law_1335 ?_
  refine z_aload_n hC dL_law_1336 rfl ?_
  refine z_callL (List.range (wc ++ [zo ct ao g]).length) hC hH hx bw_647 bw_648 bw_75 bw_649 5 (by decide +kernel) rfl (rng_nd _) rng_ps ⟨Nat.le_of_ble_eq_true rfl, Nat.le_of_ble_eq_true rfl⟩ (Nat.le_of_ble_eq_true rfl) ⟨hb1, hb2⟩ rfl dL_law_1337 ?_
  rintro v1 wa1 wb ⟨k, wc', g', rfl, rfl, hP⟩ had
  rw [wput_pre (fst_len had)]
  obtain ⟨hk1, hk2⟩ := hk k wc' wb g' hP
  refine z_istore hC dL_law_1340 (by decide) rfl ?_
  refine zG_perm pm1 ?_
  refine z_aload_n hC dL_law_1342 rfl ?_
  refine z_aload_n hC dL_law_1343 rfl ?_
  refine z_iload hC dL_law_1344 rfl ?_
  refine z_iconst (v := 1) hC dL_law_1346 (by decide) ?_
  refine z_iaddN i 1 hC dL_law_1347 ?_
  refine z_sld (i + 1) hC hX hbl hbA hL (by omega) dL_law_1348 ?_
  refine z_aload_n hC dL_law_1349 rfl ?_
  refine z_iload hC dL_law_1350 rfl ?_
  refine z_iconst (v := 2) hC dL_law_1352 (by decide) ?_
  refine z_iaddN i 2 hC dL_law_1353 ?_
  refine z_sld (i + 2) hC hX hbl hbA hL (by omega) dL_law_1354 ?_
  refine z_aload_n hC dL_law_1355 rfl ?_
  refine z_iload hC dL_law_1356 rfl ?_
  refine z_iconst (v := 3) hC dL_law_1358 (by decide) ?_
  refine z_iaddN i 3 hC dL_law_1359 ?_
  refine z_sld (i + 3) hC hX hbl hbA hL (by omega) dL_law_1360 ?_
  refine z_callV (List.range (cM q κ ct).length) 0 5 hC hM bw_662 bw_663 bw_664 bw_5 bw_665 3 (by decide +kernel) rfl (rng_nd _) rng_ps rfl rfl ⟨Nat.succ_le_succ hf2, show 8 + (4 + 11) + lo2 ≤ 398 by omega⟩ (Nat.le_of_ble_eq_true rfl) ⟨hb1, hb2⟩ rfl dL_law_1361 ?_
  rintro v2 wa2 wb2 ⟨rfl, rfl, rfl⟩ had2
  rw [wput_pre0 (fst_len had2)]
  refine z_istore hC dL_law_1364 (by decide) rfl ?_
  refine z_aload_n hC dL_law_1366 rfl ?_
  refine z_callV (List.range (cM q κ2 ct).length) 0 5 hC (c_X5_thrown l D ct q κ2) bw_164 bw_165 bw_166 bw_5 bw_167 0 (by decide +kernel) rfl (rng_nd _) rng_ps rfl rfl ⟨Nat.le_of_ble_eq_true rfl, Nat.le_of_ble_eq_true rfl⟩ (Nat.le_of_ble_eq_true rfl) ⟨hb1, hb2⟩ rfl dL_law_1367 ?_
  rintro v3 wa3 wb3 ⟨rfl, rfl, rfl⟩ had3
  rw [wput_pre0 (fst_len had3)]
  refine z_iload hC dL_law_1370 rfl ?_
  refine z_icmp_eq hC 1377 dL_law_1372 (by decide) (fun _ => ?_) (fun hn => absurd hk1 hn)
  refine z_iload hC dL_law_1377 rfl ?_
  refine z_if_ne hC 1394 dL_law_1379 (by decide) (fun hn => ?_) (fun h0 => ?_)
  · refine z_goto hC 1777 dL_law_1394 (by decide) ?_
    refine z_wk (ls2 := [some (.ref b0), some (.ref b), some (.ref (q 0)), some (.ref ao), some (.int (nI i)), none, none, none, none]) (ls_s (ls_s (ls_s (ls_s (ls_s (ls_n (ls_n (ls_n (ls_n ls_0))))))))) ?_
    refine zG_perm pm2 ?_
    exact K k wc' wb g' hP
  · refine z_aload_n hC dL_law_1382 rfl ?_
    refine z_iconst (v := 0) hC dL_law_1383 (by decide) ?_
    refine z_laload (4 + wc'.length) hC zo_at2 dL_law_1384 ?_
    refine z_iload hC dL_law_1385 rfl ?_
    refine z_i2l hC dL_law_1387 ?_
    refine z_lcmp hC dL_law_1388 ?_
    refine z_if_eq hC 1394 dL_law_1389 (by decide) (fun _ => ?_) (fun hn => absurd (by rw [hk2 h0]; exact lg_self _) hn)
    refine z_goto hC 1777 dL_law_1394 (by decide) ?_
    refine z_wk (ls2 := [some (.ref b0), some (.ref b), some (.ref (q 0)), some (.ref ao), some (.int (nI i)), none, none, none, none]) (ls_s (ls_s (ls_s (ls_s (ls_s (ls_n (ls_n (ls_n (ls_n ls_0))))))))) ?_
    refine zG_perm pm2 ?_
    exact K k wc' wb g' hP

set_option maxRecDepth 100000 in
set_option maxHeartbeats 1000000 in
theorem ld_collected (hC : zC p s m meth c args RL 9 cL_law D ct A) {wc2 : va_W} {fs : List Value} {fr1 lo1 fr2 lo2 : Nat} {v : Int32} (hc1 : zT l D ct yX4_collected cX4_collected 1 (some .int) fr1 lo1 0 0 [.ref b] wc (zd (some (.int v)) wc2)) (hf1 : fr1 ≤ 10) (hl1 : lo1 ≤ 340) (he : wc[0]? = some (b, .inr (4, fs))) (hM : zT l D ct yX5_collected cX5_collected 1 (some .int) fr2 lo2 0 0 [.ref (q 0)] (cM q κ ct) (zd (some (.int v)) (cM q κ2 ct))) (hf2 : fr2 ≤ 10) (hl2 : lo2 ≤ 340) (hb1 : cells ≤ 601024) (hb2 : slots ≤ 7293034)
    (K : zG p l e room_1 s m args below meth c D A 9 Q cells slots 1777 [some (.ref b0), some (.ref b), some (.ref (q 0)), some (.ref ao), some (.int (nI i)), none, none, none, none] [] ((wc2 ++ [zo ct ao g]) ++ (cM q κ2 ct ++ rest))) : zG p l e room_1 s m args below meth c D A 9 Q cells slots 1397 [some (.ref b0), some (.ref b), some (.ref (q 0)), some (.ref ao), some (.int (nI i)), none, none, none, none] [] ((wc ++ [zo ct ao g]) ++ (cM q κ ct ++ rest)) := by
  refine zG_w (w2 := wc ++ ([zo ct ao g] ++ (cM q κ ct ++ rest))) (List.append_assoc _ _ _) ?_
  refine z_aload_n hC dL_law_1397 rfl ?_
  refine z_callV (List.range wc.length) 0 4 hC hc1 bw_666 bw_667 bw_668 bw_2 bw_669 0 (by decide +kernel) rfl (rng_nd _) rng_ps rfl he ⟨Nat.succ_le_succ hf1, show 8 + (1 + 11) + lo1 ≤ 398 by omega⟩ (Nat.le_of_ble_eq_true rfl) ⟨hb1, hb2⟩ rfl dL_law_1398 ?_
  rintro v1 wa1 wb1 ⟨rfl, rfl, rfl⟩ had1
  rw [wput_pre0 (fst_len had1)]
  refine zG_perm pm3 ?_
  refine z_aload_n hC dL_law_1401 rfl ?_
  refine z_callV (List.range (cM q κ ct).length) 0 5 hC hM bw_670 bw_671 bw_672 bw_5 bw_673 0 (by decide +kernel) rfl (rng_nd _) rng_ps rfl rfl ⟨Nat.succ_le_succ hf2, show 8 + (1 + 11) + lo2 ≤ 398 by omega⟩ (Nat.le_of_ble_eq_true rfl) ⟨hb1, hb2⟩ rfl dL_law_1402 ?_
  rintro v2 wa2 wb2 ⟨rfl, rfl, rfl⟩ had2
  rw [wput_pre0 (fst_len had2)]
  refine z_icmp_eq hC 1777 dL_law_1405 (by decide) (fun _ => ?_) (fun hn => absurd rfl hn)
  refine zG_perm pm4 ?_
  exact K

set_option maxRecDepth 100000 in
set_option maxHeartbeats 1000000 in
theorem lc_collectedReading (hC : zC p s m meth c args RL 9 cL_law D ct A) (hx : wX A s s.heap) (hX : va_X b0 L xs s s.heap) (hbl : b0 < s.heap.size) (hbA : ¬ A b0) (hL : L ≤ 2048) (hi : i + 3 < L) {mc ms fr2 lo2 : Nat} {Pk : Int32 → va_W → va_W → (Nat → Int64) → Prop} {bb : Int32}
    (hH : zL l D ct yL_collectedReading cL_collectedReading 5 (some .int) [(0, 10, 13, 13), (0, 10, 17, 15)] 10 340 mc ms [.ref b, .int (xs (i + 1)), .int (xs (i + 2)), .ref ao] (wc ++ [zo ct ao g]) (zLP ct ao Pk))
    (hM : zT l D ct yX5_collectedReading cX5_collectedReading 3 (some .int) fr2 lo2 0 0 [.ref (q 0), .int (xs (i + 1)), .int (xs (i + 2))] (cM q κ ct) (zd (some (.int bb)) (cM q κ2 ct))) (hf2 : fr2 ≤ 10) (hl2 : lo2 ≤ 340)
    (hk : ∀ k wc' wb g', Pk k wc' wb g' → κ2 0 2 = k ∧ (k = 0 → g' 0 = bb.toInt64)) (hb1 : cells + mc ≤ 601024) (hb2 : slots + ms ≤ 7293034)
    (K : ∀ k wc' wb g', Pk k wc' wb g' → zG p l e room_1 s m args below meth c D A 9 Q (cells + mc) (slots + ms) 1777 [some (.ref b0), some (.ref b), some (.ref (q 0)), some (.ref ao), some (.int (nI i)), none, none, none, none] [] (((wc' ++ wb) ++ [zo ct ao g']) ++ (cM q κ2 ct ++ rest))) : zG p l e room_1 s m args below meth c D A 9 Q cells slots 1410 [some (.ref b0), some (.ref b), some (.ref (q 0)), some (.ref ao), some (.int (nI i)), none, none, none, none] [] ((wc ++ [zo ct ao g]) ++ (cM q κ ct ++ rest)) := by
  refine z_aload_n hC dL_law_1410 rfl ?_
  refine z_aload_n hC dL_law_1411 rfl ?_
  refine z_iload hC dL_law_1412 rfl ?_
  refine z_iconst (v := 1) hC dL_law_1414 (by decide) ?_
  refine z_iaddN i 1 hC dL_law_1415 ?_
  refine z_sld (i + 1) hC hX hbl hbA hL (by omega) dL_law_1416 ?_
  refine z_aload_n hC dL_law_1417 rfl ?_
  refine z_iload hC dL_law_1418 rfl ?_
  refine z_iconst (v := 2) hC dL_law_1420 (by decide) ?_
  refine z_iaddN i 2 hC dL_law_1421 ?_
  refine z_sld (i + 2) hC hX hbl hbA hL (by omega) dL_law_1422 ?_
  refine z_aload_n hC dL_law_1423 rfl ?_
  refine z_callL (List.range (wc ++ [zo ct ao g]).length) hC hH hx bw_674 bw_675 bw_75 bw_676 4 (by decide +kernel) rfl (rng_nd _) rng_ps ⟨Nat.le_of_ble_eq_true rfl, Nat.le_of_ble_eq_true rfl⟩ (Nat.le_of_ble_eq_true rfl) ⟨hb1, hb2⟩ rfl dL_law_1424 ?_
  rintro v1 wa1 wb ⟨k, wc', g', rfl, rfl, hP⟩ had
  rw [wput_pre (fst_len had)]
  obtain ⟨hk1, hk2⟩ := hk k wc' wb g' hP
  refine z_istore hC dL_law_1427 (by decide) rfl ?_
  refine zG_perm pm1 ?_
  refine z_aload_n hC dL_law_1429 rfl ?_
  refine z_aload_n hC dL_law_1430 rfl ?_
  refine z_iload hC dL_law_1431 rfl ?_
  refine z_iconst (v := 1) hC dL_law_1433 (by decide) ?_
  refine z_iaddN i 1 hC dL_law_1434 ?_
  refine z_sld (i + 1) hC hX hbl hbA hL (by omega) dL_law_1435 ?_
  refine z_aload_n hC dL_law_1436 rfl ?_
  refine z_iload hC dL_law_1437 rfl ?_
  refine z_iconst (v := 2) hC dL_law_1439 (by decide) ?_
  refine z_iaddN i 2 hC dL_law_1440 ?_
  refine z_sld (i + 2) hC hX hbl hbA hL (by omega) dL_law_1441 ?_
  refine z_callV (List.range (cM q κ ct).length) 0 5 hC hM bw_681 bw_682 bw_683 bw_5 bw_684 2 (by decide +kernel) rfl (rng_nd _) rng_ps rfl rfl ⟨Nat.succ_le_succ hf2, show 8 + (3 + 11) + lo2 ≤ 398 by omega⟩ (Nat.le_of_ble_eq_true rfl) ⟨hb1, hb2⟩ rfl dL_law_1442 ?_
  rintro v2 wa2 wb2 ⟨rfl, rfl, rfl⟩ had2
  rw [wput_pre0 (fst_len had2)]
  refine z_istore hC dL_law_1445 (by decide) rfl ?_
  refine z_aload_n hC dL_law_1447 rfl ?_
  refine z_callV (List.range (cM q κ2 ct).length) 0 5 hC (c_X5_thrown l D ct q κ2) bw_164 bw_165 bw_166 bw_5 bw_167 0 (by decide +kernel) rfl (rng_nd _) rng_ps rfl rfl ⟨Nat.le_of_ble_eq_true rfl, Nat.le_of_ble_eq_true rfl⟩ (Nat.le_of_ble_eq_true rfl) ⟨hb1, hb2⟩ rfl dL_law_1448 ?_
  rintro v3 wa3 wb3 ⟨rfl, rfl, rfl⟩ had3
  rw [wput_pre0 (fst_len had3)]
  refine z_iload hC dL_law_1451 rfl ?_
  refine z_icmp_eq hC 1458 dL_law_1453 (by decide) (fun _ => ?_) (fun hn => absurd hk1 hn)
  refine z_iload hC dL_law_1458 rfl ?_
  refine z_if_ne hC 1475 dL_law_1460 (by decide) (fun hn => ?_) (fun h0 => ?_)
  · refine z_goto hC 1777 dL_law_1475 (by decide) ?_
    refine z_wk (ls2 := [some (.ref b0), some (.ref b), some (.ref (q 0)), some (.ref ao), some (.int (nI i)), none, none, none, none]) (ls_s (ls_s (ls_s (ls_s (ls_s (ls_n (ls_n (ls_n (ls_n ls_0))))))))) ?_
    refine zG_perm pm2 ?_
    exact K k wc' wb g' hP
  · refine z_aload_n hC dL_law_1463 rfl ?_
    refine z_iconst (v := 0) hC dL_law_1464 (by decide) ?_
    refine z_laload (4 + wc'.length) hC zo_at2 dL_law_1465 ?_
    refine z_iload hC dL_law_1466 rfl ?_
    refine z_i2l hC dL_law_1468 ?_
    refine z_lcmp hC dL_law_1469 ?_
    refine z_if_eq hC 1475 dL_law_1470 (by decide) (fun _ => ?_) (fun hn => absurd (by rw [hk2 h0]; exact lg_self _) hn)
    refine z_goto hC 1777 dL_law_1475 (by decide) ?_
    refine z_wk (ls2 := [some (.ref b0), some (.ref b), some (.ref (q 0)), some (.ref ao), some (.int (nI i)), none, none, none, none]) (ls_s (ls_s (ls_s (ls_s (ls_s (ls_n (ls_n (ls_n (ls_n ls_0))))))))) ?_
    refine zG_perm pm2 ?_
    exact K k wc' wb g' hP

set_option maxRecDepth 100000 in
set_option maxHeartbeats 1000000 in
theorem lc_copies (hC : zC p s m meth c args RL 9 cL_law D ct A) (hx : wX A s s.heap) (hX : va_X b0 L xs s s.heap) (hbl : b0 < s.heap.size) (hbA : ¬ A b0) (hL : L ≤ 2048) (hi : i + 3 < L) {mc ms fr2 lo2 : Nat} {Pk : Int32 → va_W → va_W → (Nat → Int64) → Prop} {bb : Int32}
    (hH : zL l D ct yL_copies cL_copies 5 (some .int) [(0, 10, 13, 13)] 10 340 mc ms [.ref b, .int (xs (i + 1)), .int (xs (i + 2)), .ref ao] (wc ++ [zo ct ao g]) (zLP ct ao Pk))
    (hM : zT l D ct yX5_copies cX5_copies 7 (some .int) fr2 lo2 0 0 [.ref (q 0), .int (xs (i + 1)), .int (xs (i + 2))] (cM q κ ct) (zd (some (.int bb)) (cM q κ2 ct))) (hf2 : fr2 ≤ 10) (hl2 : lo2 ≤ 340)
    (hk : ∀ k wc' wb g', Pk k wc' wb g' → κ2 0 2 = k ∧ (k = 0 → g' 0 = bb.toInt64)) (hb1 : cells + mc ≤ 601024) (hb2 : slots + ms ≤ 7293034)
    (K : ∀ k wc' wb g', Pk k wc' wb g' → zG p l e room_1 s m args below meth c D A 9 Q (cells + mc) (slots + ms) 1777 [some (.ref b0), some (.ref b), some (.ref (q 0)), some (.ref ao), some (.int (nI i)), none, none, none, none] [] (((wc' ++ wb) ++ [zo ct ao g']) ++ (cM q κ2 ct ++ rest))) : zG p l e room_1 s m args below meth c D A 9 Q cells slots 1478 [some (.ref b0), some (.ref b), some (.ref (q 0)), some (.ref ao), some (.int (nI i)), none, none, none, none] [] ((wc ++ [zo ct ao g]) ++ (cM q κ ct ++ rest)) := by
  refine z_aload_n hC dL_law_1478 rfl ?_
  refine z_aload_n hC dL_law_1479 rfl ?_
  refine z_iload hC dL_law_1480 rfl ?_
  refine z_iconst (v := 1) hC dL_law_1482 (by decide) ?_
  refine z_iaddN i 1 hC dL_law_1483 ?_
  refine z_sld (i + 1) hC hX hbl hbA hL (by omega) dL_law_1484 ?_
  refine z_aload_n hC dL_law_1485 rfl ?_
  refine z_iload hC dL_law_1486 rfl ?_
  refine z_iconst (v := 2) hC dL_law_1488 (by decide) ?_
  refine z_iaddN i 2 hC dL_law_1489 ?_
  refine z_sld (i + 2) hC hX hbl hbA hL (by omega) dL_law_1490 ?_
  refine z_aload_n hC dL_law_1491 rfl ?_
  refine z_callL (List.range (wc ++ [zo ct ao g]).length) hC hH hx bw_685 bw_686 bw_75 bw_687 4 (by decide +kernel) rfl (rng_nd _) rng_ps ⟨Nat.le_of_ble_eq_true rfl, Nat.le_of_ble_eq_true rfl⟩ (Nat.le_of_ble_eq_true rfl) ⟨hb1, hb2⟩ rfl dL_law_1492 ?_
  rintro v1 wa1 wb ⟨k, wc', g', rfl, rfl, hP⟩ had
  rw [wput_pre (fst_len had)]
  obtain ⟨hk1, hk2⟩ := hk k wc' wb g' hP
  refine z_istore hC dL_law_1495 (by decide) rfl ?_
  refine zG_perm pm1 ?_
  refine z_aload_n hC dL_law_1497 rfl ?_
  refine z_aload_n hC dL_law_1498 rfl ?_
  refine z_iload hC dL_law_1499 rfl ?_
  refine z_iconst (v := 1) hC dL_law_1501 (by decide) ?_
  refine z_iaddN i 1 hC dL_law_1502 ?_
  refine z_sld (i + 1) hC hX hbl hbA hL (by omega) dL_law_1503 ?_
  refine z_aload_n hC dL_law_1504 rfl ?_
  refine z_iload hC dL_law_1505 rfl ?_
  refine z_iconst (v := 2) hC dL_law_1507 (by decide) ?_
  refine z_iaddN i 2 hC dL_law_1508 ?_
  refine z_sld (i + 2) hC hX hbl hbA hL (by omega) dL_law_1509 ?_
  refine z_callV (List.range (cM q κ ct).length) 0 5 hC hM bw_699 bw_700 bw_701 bw_5 bw_702 2 (by decide +kernel) rfl (rng_nd _) rng_ps rfl rfl ⟨Nat.succ_le_succ hf2, show 8 + (7 + 11) + lo2 ≤ 398 by omega⟩ (Nat.le_of_ble_eq_true rfl) ⟨hb1, hb2⟩ rfl dL_law_1510 ?_
  rintro v2 wa2 wb2 ⟨rfl, rfl, rfl⟩ had2
  rw [wput_pre0 (fst_len had2)]
  refine z_istore hC dL_law_1513 (by decide) rfl ?_
  refine z_aload_n hC dL_law_1515 rfl ?_
  refine z_callV (List.range (cM q κ2 ct).length) 0 5 hC (c_X5_thrown l D ct q κ2) bw_164 bw_165 bw_166 bw_5 bw_167 0 (by decide +kernel) rfl (rng_nd _) rng_ps rfl rfl ⟨Nat.le_of_ble_eq_true rfl, Nat.le_of_ble_eq_true rfl⟩ (Nat.le_of_ble_eq_true rfl) ⟨hb1, hb2⟩ rfl dL_law_1516 ?_
  rintro v3 wa3 wb3 ⟨rfl, rfl, rfl⟩ had3
  rw [wput_pre0 (fst_len had3)]
  refine z_iload hC dL_law_1519 rfl ?_
  refine z_icmp_eq hC 1526 dL_law_1521 (by decide) (fun _ => ?_) (fun hn => absurd hk1 hn)
  refine z_iload hC dL_law_1526 rfl ?_
  refine z_if_ne hC 1543 dL_law_1528 (by decide) (fun hn => ?_) (fun h0 => ?_)
  · refine z_goto hC 1777 dL_law_1543 (by decide) ?_
    refine z_wk (ls2 := [some (.ref b0), some (.ref b), some (.ref (q 0)), some (.ref ao), some (.int (nI i)), none, none, none, none]) (ls_s (ls_s (ls_s (ls_s (ls_s (ls_n (ls_n (ls_n (ls_n ls_0))))))))) ?_
    refine zG_perm pm2 ?_
    exact K k wc' wb g' hP
  · refine z_aload_n hC dL_law_1531 rfl ?_
    refine z_iconst (v := 0) hC dL_law_1532 (by decide) ?_
    refine z_laload (4 + wc'.length) hC zo_at2 dL_law_1533 ?_
    refine z_iload hC dL_law_1534 rfl ?_
    refine z_i2l hC dL_law_1536 ?_
    refine z_lcmp hC dL_law_1537 ?_
    refine z_if_eq hC 1543 dL_law_1538 (by decide) (fun _ => ?_) (fun hn => absurd (by rw [hk2 h0]; exact lg_self _) hn)
    refine z_goto hC 1777 dL_law_1543 (by decide) ?_
    refine z_wk (ls2 := [some (.ref b0), some (.ref b), some (.ref (q 0)), some (.ref ao), some (.int (nI i)), none, none, none, none]) (ls_s (ls_s (ls_s (ls_s (ls_s (ls_n (ls_n (ls_n (ls_n ls_0))))))))) ?_
    refine zG_perm pm2 ?_
    exact K k wc' wb g' hP

set_option maxRecDepth 100000 in
set_option maxHeartbeats 1000000 in
theorem ld_missing (hC : zC p s m meth c args RL 9 cL_law D ct A) {wc2 : va_W} {fs : List Value} {fr1 lo1 fr2 lo2 : Nat} {v : Int32} (hc1 : zT l D ct yX4_missing cX4_missing 1 (some .int) fr1 lo1 0 0 [.ref b] wc (zd (some (.int v)) wc2)) (hf1 : fr1 ≤ 10) (hl1 : lo1 ≤ 340) (he : wc[0]? = some (b, .inr (4, fs))) (hM : zT l D ct yX5_missing cX5_missing 1 (some .int) fr2 lo2 0 0 [.ref (q 0)] (cM q κ ct) (zd (some (.int v)) (cM q κ2 ct))) (hf2 : fr2 ≤ 10) (hl2 : lo2 ≤ 340) (hb1 : cells ≤ 601024) (hb2 : slots ≤ 7293034)
    (K : zG p l e room_1 s m args below meth c D A 9 Q cells slots 1777 [some (.ref b0), some (.ref b), some (.ref (q 0)), some (.ref ao), some (.int (nI i)), none, none, none, none] [] ((wc2 ++ [zo ct ao g]) ++ (cM q κ2 ct ++ rest))) : zG p l e room_1 s m args below meth c D A 9 Q cells slots 1546 [some (.ref b0), some (.ref b), some (.ref (q 0)), some (.ref ao), some (.int (nI i)), none, none, none, none] [] ((wc ++ [zo ct ao g]) ++ (cM q κ ct ++ rest)) := by
  refine zG_w (w2 := wc ++ ([zo ct ao g] ++ (cM q κ ct ++ rest))) (List.append_assoc _ _ _) ?_
  refine z_aload_n hC dL_law_1546 rfl ?_
  refine z_callV (List.range wc.length) 0 4 hC hc1 bw_703 bw_704 bw_705 bw_2 bw_706 0 (by decide +kernel) rfl (rng_nd _) rng_ps rfl he ⟨Nat.succ_le_succ hf1, show 8 + (1 + 11) + lo1 ≤ 398 by omega⟩ (Nat.le_of_ble_eq_true rfl) ⟨hb1, hb2⟩ rfl dL_law_1547 ?_
  rintro v1 wa1 wb1 ⟨rfl, rfl, rfl⟩ had1
  rw [wput_pre0 (fst_len had1)]
  refine zG_perm pm3 ?_
  refine z_aload_n hC dL_law_1550 rfl ?_
  refine z_callV (List.range (cM q κ ct).length) 0 5 hC hM bw_710 bw_711 bw_712 bw_5 bw_713 0 (by decide +kernel) rfl (rng_nd _) rng_ps rfl rfl ⟨Nat.succ_le_succ hf2, show 8 + (1 + 11) + lo2 ≤ 398 by omega⟩ (Nat.le_of_ble_eq_true rfl) ⟨hb1, hb2⟩ rfl dL_law_1551 ?_
  rintro v2 wa2 wb2 ⟨rfl, rfl, rfl⟩ had2
  rw [wput_pre0 (fst_len had2)]
  refine z_icmp_eq hC 1777 dL_law_1554 (by decide) (fun _ => ?_) (fun hn => absurd rfl hn)
  refine zG_perm pm4 ?_
  exact K

set_option maxRecDepth 100000 in
set_option maxHeartbeats 1000000 in
theorem ld_wrongStamps (hC : zC p s m meth c args RL 9 cL_law D ct A) {wc2 : va_W} {fs : List Value} {fr1 lo1 fr2 lo2 : Nat} {v : Int32} (hc1 : zT l D ct yX4_wrongStamps cX4_wrongStamps 1 (some .int) fr1 lo1 0 0 [.ref b] wc (zd (some (.int v)) wc2)) (hf1 : fr1 ≤ 10) (hl1 : lo1 ≤ 340) (he : wc[0]? = some (b, .inr (4, fs))) (hM : zT l D ct yX5_wrongStamps cX5_wrongStamps 3 (some .int) fr2 lo2 0 0 [.ref (q 0)] (cM q κ ct) (zd (some (.int v)) (cM q κ2 ct))) (hf2 : fr2 ≤ 10) (hl2 : lo2 ≤ 340) (hb1 : cells ≤ 601024) (hb2 : slots ≤ 7293034)
    (K : zG p l e room_1 s m args below meth c D A 9 Q cells slots 1777 [some (.ref b0), some (.ref b), some (.ref (q 0)), some (.ref ao), some (.int (nI i)), none, none, none, none] [] ((wc2 ++ [zo ct ao g]) ++ (cM q κ2 ct ++ rest))) : zG p l e room_1 s m args below meth c D A 9 Q cells slots 1559 [some (.ref b0), some (.ref b), some (.ref (q 0)), some (.ref ao), some (.int (nI i)), none, none, none, none] [] ((wc ++ [zo ct ao g]) ++ (cM q κ ct ++ rest)) := by
  refine zG_w (w2 := wc ++ ([zo ct ao g] ++ (cM q κ ct ++ rest))) (List.append_assoc _ _ _) ?_
  refine z_aload_n hC dL_law_1559 rfl ?_
  refine z_callV (List.range wc.length) 0 4 hC hc1 bw_714 bw_715 bw_716 bw_2 bw_717 0 (by decide +kernel) rfl (rng_nd _) rng_ps rfl he ⟨Nat.succ_le_succ hf1, show 8 + (1 + 11) + lo1 ≤ 398 by omega⟩ (Nat.le_of_ble_eq_true rfl) ⟨hb1, hb2⟩ rfl dL_law_1560 ?_
  rintro v1 wa1 wb1 ⟨rfl, rfl, rfl⟩ had1
  rw [wput_pre0 (fst_len had1)]
  refine zG_perm pm3 ?_
  refine z_aload_n hC dL_law_1563 rfl ?_
  refine z_callV (List.range (cM q κ ct).length) 0 5 hC hM bw_722 bw_723 bw_724 bw_5 bw_725 0 (by decide +kernel) rfl (rng_nd _) rng_ps rfl rfl ⟨Nat.succ_le_succ hf2, show 8 + (3 + 11) + lo2 ≤ 398 by omega⟩ (Nat.le_of_ble_eq_true rfl) ⟨hb1, hb2⟩ rfl dL_law_1564 ?_
  rintro v2 wa2 wb2 ⟨rfl, rfl, rfl⟩ had2
  rw [wput_pre0 (fst_len had2)]
  refine z_icmp_eq hC 1777 dL_law_1567 (by decide) (fun _ => ?_) (fun hn => absurd rfl hn)
  refine zG_perm pm4 ?_
  exact K

set_option maxRecDepth 100000 in
set_option maxHeartbeats 1000000 in
theorem ld_slotsToCollect (hC : zC p s m meth c args RL 9 cL_law D ct A) {wc2 : va_W} {fs : List Value} {fr1 lo1 fr2 lo2 : Nat} {v : Int32} (hc1 : zT l D ct yX4_slotsToCollect cX4_slotsToCollect 2 (some .int) fr1 lo1 0 0 [.ref b] wc (zd (some (.int v)) wc2)) (hf1 : fr1 ≤ 10) (hl1 : lo1 ≤ 340) (he : wc[0]? = some (b, .inr (4, fs))) (hM : zT l D ct yX5_slotsToCollect cX5_slotsToCollect 3 (some .int) fr2 lo2 0 0 [.ref (q 0)] (cM q κ ct) (zd (some (.int v)) (cM q κ2 ct))) (hf2 : fr2 ≤ 10) (hl2 : lo2 ≤ 340) (hb1 : cells ≤ 601024) (hb2 : slots ≤ 7293034)
    (K : zG p l e room_1 s m args below meth c D A 9 Q cells slots 1777 [some (.ref b0), some (.ref b), some (.ref (q 0)), some (.ref ao), some (.int (nI i)), none, none, none, none] [] ((wc2 ++ [zo ct ao g]) ++ (cM q κ2 ct ++ rest))) : zG p l e room_1 s m args below meth c D A 9 Q cells slots 1572 [some (.ref b0), some (.ref b), some (.ref (q 0)), some (.ref ao), some (.int (nI i)), none, none, none, none] [] ((wc ++ [zo ct ao g]) ++ (cM q κ ct ++ rest)) := by
  refine zG_w (w2 := wc ++ ([zo ct ao g] ++ (cM q κ ct ++ rest))) (List.append_assoc _ _ _) ?_
  refine z_aload_n hC dL_law_1572 rfl ?_
  refine z_callV (List.range wc.length) 0 4 hC hc1 bw_726 bw_727 bw_728 bw_2 bw_729 0 (by decide +kernel) rfl (rng_nd _) rng_ps rfl he ⟨Nat.succ_le_succ hf1, show 8 + (2 + 11) + lo1 ≤ 398 by omega⟩ (Nat.le_of_ble_eq_true rfl) ⟨hb1, hb2⟩ rfl dL_law_1573 ?_
  rintro v1 wa1 wb1 ⟨rfl, rfl, rfl⟩ had1
  rw [wput_pre0 (fst_len had1)]
  refine zG_perm pm3 ?_
  refine z_aload_n hC dL_law_1576 rfl ?_
  refine z_callV (List.range (cM q κ ct).length) 0 5 hC hM bw_730 bw_731 bw_732 bw_5 bw_733 0 (by decide +kernel) rfl (rng_nd _) rng_ps rfl rfl ⟨Nat.succ_le_succ hf2, show 8 + (3 + 11) + lo2 ≤ 398 by omega⟩ (Nat.le_of_ble_eq_true rfl) ⟨hb1, hb2⟩ rfl dL_law_1577 ?_
  rintro v2 wa2 wb2 ⟨rfl, rfl, rfl⟩ had2
  rw [wput_pre0 (fst_len had2)]
  refine z_icmp_eq hC 1777 dL_law_1580 (by decide) (fun _ => ?_) (fun hn => absurd rfl hn)
  refine zG_perm pm4 ?_
  exact K

set_option maxRecDepth 100000 in
set_option maxHeartbeats 1000000 in
theorem lc_ifRun (hC : zC p s m meth c args RL 9 cL_law D ct A) (hx : wX A s s.heap) (hX : va_X b0 L xs s s.heap) (hbl : b0 < s.heap.size) (hbA : ¬ A b0) (hL : L ≤ 2048) (hi : i + 3 < L) {mc ms fr2 lo2 : Nat} {Pk : Int32 → va_W → va_W → (Nat → Int64) → Prop} {bb : Int32}
    (hH : zL l D ct yL_ifRun cL_ifRun 4 (some .int) [(0, 9, 12, 15)] 10 340 mc ms [.ref b, .int (xs (i + 1)), .ref ao] (wc ++ [zo ct ao g]) (zLP ct ao Pk))
    (hM : zT l D ct yX5_ifRun cX5_ifRun 2 (some .int) fr2 lo2 0 0 [.ref (q 0), .int (xs (i + 1))] (cM q κ ct) (zd (some (.int bb)) (cM q κ2 ct))) (hf2 : fr2 ≤ 10) (hl2 : lo2 ≤ 340)
    (hk : ∀ k wc' wb g', Pk k wc' wb g' → κ2 0 2 = k ∧ (k = 0 → g' 0 = bb.toInt64)) (hb1 : cells + mc ≤ 601024) (hb2 : slots + ms ≤ 7293034)
    (K : ∀ k wc' wb g', Pk k wc' wb g' → zG p l e room_1 s m args below meth c D A 9 Q (cells + mc) (slots + ms) 1777 [some (.ref b0), some (.ref b), some (.ref (q 0)), some (.ref ao), some (.int (nI i)), none, none, none, none] [] (((wc' ++ wb) ++ [zo ct ao g']) ++ (cM q κ2 ct ++ rest))) : zG p l e room_1 s m args below meth c D A 9 Q cells slots 1585 [some (.ref b0), some (.ref b), some (.ref (q 0)), some (.ref ao), some (.int (nI i)), none, none, none, none] [] ((wc ++ [zo ct ao g]) ++ (cM q κ ct ++ rest)) := by
  refine z_aload_n hC dL_law_1585 rfl ?_
  refine z_aload_n hC dL_law_1586 rfl ?_
  refine z_iload hC dL_law_1587 rfl ?_
  refine z_iconst (v := 1) hC dL_law_1589 (by decide) ?_
  refine z_iaddN i 1 hC dL_law_1590 ?_
  refine z_sld (i + 1) hC hX hbl hbA hL (by omega) dL_law_1591 ?_
  refine z_aload_n hC dL_law_1592 rfl ?_
  refine z_callL (List.range (wc ++ [zo ct ao g]).length) hC hH hx bw_734 bw_735 bw_75 bw_736 3 (by decide +kernel) rfl (rng_nd _) rng_ps ⟨Nat.le_of_ble_eq_true rfl, Nat.le_of_ble_eq_true rfl⟩ (Nat.le_of_ble_eq_true rfl) ⟨hb1, hb2⟩ rfl dL_law_1593 ?_
  rintro v1 wa1 wb ⟨k, wc', g', rfl, rfl, hP⟩ had
  rw [wput_pre (fst_len had)]
  obtain ⟨hk1, hk2⟩ := hk k wc' wb g' hP
  refine z_istore hC dL_law_1596 (by decide) rfl ?_
  refine zG_perm pm1 ?_
  refine z_aload_n hC dL_law_1598 rfl ?_
  refine z_aload_n hC dL_law_1599 rfl ?_
  refine z_iload hC dL_law_1600 rfl ?_
  refine z_iconst (v := 1) hC dL_law_1602 (by decide) ?_
  refine z_iaddN i 1 hC dL_law_1603 ?_
  refine z_sld (i + 1) hC hX hbl hbA hL (by omega) dL_law_1604 ?_
  refine z_callV (List.range (cM q κ ct).length) 0 5 hC hM bw_741 bw_742 bw_743 bw_5 bw_744 1 (by decide +kernel) rfl (rng_nd _) rng_ps rfl rfl ⟨Nat.succ_le_succ hf2, show 8 + (2 + 11) + lo2 ≤ 398 by omega⟩ (Nat.le_of_ble_eq_true rfl) ⟨hb1, hb2⟩ rfl dL_law_1605 ?_
  rintro v2 wa2 wb2 ⟨rfl, rfl, rfl⟩ had2
  rw [wput_pre0 (fst_len had2)]
  refine z_istore hC dL_law_1608 (by decide) rfl ?_
  refine z_aload_n hC dL_law_1610 rfl ?_
  refine z_callV (List.range (cM q κ2 ct).length) 0 5 hC (c_X5_thrown l D ct q κ2) bw_164 bw_165 bw_166 bw_5 bw_167 0 (by decide +kernel) rfl (rng_nd _) rng_ps rfl rfl ⟨Nat.le_of_ble_eq_true rfl, Nat.le_of_ble_eq_true rfl⟩ (Nat.le_of_ble_eq_true rfl) ⟨hb1, hb2⟩ rfl dL_law_1611 ?_
  rintro v3 wa3 wb3 ⟨rfl, rfl, rfl⟩ had3
  rw [wput_pre0 (fst_len had3)]
  refine z_iload hC dL_law_1614 rfl ?_
  refine z_icmp_eq hC 1621 dL_law_1616 (by decide) (fun _ => ?_) (fun hn => absurd hk1 hn)
  refine z_iload hC dL_law_1621 rfl ?_
  refine z_if_ne hC 1638 dL_law_1623 (by decide) (fun hn => ?_) (fun h0 => ?_)
  · refine z_goto hC 1777 dL_law_1638 (by decide) ?_
    refine z_wk (ls2 := [some (.ref b0), some (.ref b), some (.ref (q 0)), some (.ref ao), some (.int (nI i)), none, none, none, none]) (ls_s (ls_s (ls_s (ls_s (ls_s (ls_n (ls_n (ls_n (ls_n ls_0))))))))) ?_
    refine zG_perm pm2 ?_
    exact K k wc' wb g' hP
  · refine z_aload_n hC dL_law_1626 rfl ?_
    refine z_iconst (v := 0) hC dL_law_1627 (by decide) ?_
    refine z_laload (4 + wc'.length) hC zo_at2 dL_law_1628 ?_
    refine z_iload hC dL_law_1629 rfl ?_
    refine z_i2l hC dL_law_1631 ?_
    refine z_lcmp hC dL_law_1632 ?_
    refine z_if_eq hC 1638 dL_law_1633 (by decide) (fun _ => ?_) (fun hn => absurd (by rw [hk2 h0]; exact lg_self _) hn)
    refine z_goto hC 1777 dL_law_1638 (by decide) ?_
    refine z_wk (ls2 := [some (.ref b0), some (.ref b), some (.ref (q 0)), some (.ref ao), some (.int (nI i)), none, none, none, none]) (ls_s (ls_s (ls_s (ls_s (ls_s (ls_n (ls_n (ls_n (ls_n ls_0))))))))) ?_
    refine zG_perm pm2 ?_
    exact K k wc' wb g' hP

set_option maxRecDepth 100000 in
set_option maxHeartbeats 1000000 in
theorem ld_time (hC : zC p s m meth c args RL 9 cL_law D ct A) {wc2 : va_W} {fs : List Value} {fr1 lo1 fr2 lo2 : Nat} {v : Int32} (hc1 : zT l D ct yX4_time cX4_time 1 (some .int) fr1 lo1 0 0 [.ref b] wc (zd (some (.int v)) wc2)) (hf1 : fr1 ≤ 10) (hl1 : lo1 ≤ 340) (he : wc[0]? = some (b, .inr (4, fs))) (hM : zT l D ct yX5_time cX5_time 1 (some .int) fr2 lo2 0 0 [.ref (q 0)] (cM q κ ct) (zd (some (.int v)) (cM q κ2 ct))) (hf2 : fr2 ≤ 10) (hl2 : lo2 ≤ 340) (hb1 : cells ≤ 601024) (hb2 : slots ≤ 7293034)
    (K : zG p l e room_1 s m args below meth c D A 9 Q cells slots 1777 [some (.ref b0), some (.ref b), some (.ref (q 0)), some (.ref ao), some (.int (nI i)), none, none, none, none] [] ((wc2 ++ [zo ct ao g]) ++ (cM q κ2 ct ++ rest))) : zG p l e room_1 s m args below meth c D A 9 Q cells slots 1641 [some (.ref b0), some (.ref b), some (.ref (q 0)), some (.ref ao), some (.int (nI i)), none, none, none, none] [] ((wc ++ [zo ct ao g]) ++ (cM q κ ct ++ rest)) := by
  refine zG_w (w2 := wc ++ ([zo ct ao g] ++ (cM q κ ct ++ rest))) (List.append_assoc _ _ _) ?_
  refine z_aload_n hC dL_law_1641 rfl ?_
  refine z_callV (List.range wc.length) 0 4 hC hc1 bw_745 bw_746 bw_747 bw_2 bw_748 0 (by decide +kernel) rfl (rng_nd _) rng_ps rfl he ⟨Nat.succ_le_succ hf1, show 8 + (1 + 11) + lo1 ≤ 398 by omega⟩ (Nat.le_of_ble_eq_true rfl) ⟨hb1, hb2⟩ rfl dL_law_1642 ?_
  rintro v1 wa1 wb1 ⟨rfl, rfl, rfl⟩ had1
  rw [wput_pre0 (fst_len had1)]
  refine zG_perm pm3 ?_
  refine z_aload_n hC dL_law_1645 rfl ?_
  refine z_callV (List.range (cM q κ ct).length) 0 5 hC hM bw_749 bw_750 bw_751 bw_5 bw_752 0 (by decide +kernel) rfl (rng_nd _) rng_ps rfl rfl ⟨Nat.succ_le_succ hf2, show 8 + (1 + 11) + lo2 ≤ 398 by omega⟩ (Nat.le_of_ble_eq_true rfl) ⟨hb1, hb2⟩ rfl dL_law_1646 ?_
  rintro v2 wa2 wb2 ⟨rfl, rfl, rfl⟩ had2
  rw [wput_pre0 (fst_len had2)]
  refine z_icmp_eq hC 1777 dL_law_1649 (by decide) (fun _ => ?_) (fun hn => absurd rfl hn)
  refine zG_perm pm4 ?_
  exact K

set_option maxRecDepth 100000 in
set_option maxHeartbeats 1000000 in
theorem lc_count (hC : zC p s m meth c args RL 9 cL_law D ct A) (hx : wX A s s.heap) (hX : va_X b0 L xs s s.heap) (hbl : b0 < s.heap.size) (hbA : ¬ A b0) (hL : L ≤ 2048) (hi : i + 3 < L) {mc ms fr2 lo2 : Nat} {Pk : Int32 → va_W → va_W → (Nat → Int64) → Prop} {bb : Int32}
    (hH : zL l D ct yL_count cL_count 4 (some .int) [(0, 9, 12, 15)] 10 340 mc ms [.ref b, .int (xs (i + 1)), .ref ao] (wc ++ [zo ct ao g]) (zLP ct ao Pk))
    (hM : zT l D ct yX5_count cX5_count 2 (some .int) fr2 lo2 0 0 [.ref (q 0), .int (xs (i + 1))] (cM q κ ct) (zd (some (.int bb)) (cM q κ2 ct))) (hf2 : fr2 ≤ 10) (hl2 : lo2 ≤ 340)
    (hk : ∀ k wc' wb g', Pk k wc' wb g' → κ2 0 2 = k ∧ (k = 0 → g' 0 = bb.toInt64)) (hb1 : cells + mc ≤ 601024) (hb2 : slots + ms ≤ 7293034)
    (K : ∀ k wc' wb g', Pk k wc' wb g' → zG p l e room_1 s m args below meth c D A 9 Q (cells + mc) (slots + ms) 1777 [some (.ref b0), some (.ref b), some (.ref (q 0)), some (.ref ao), some (.int (nI i)), none, none, none, none] [] (((wc' ++ wb) ++ [zo ct ao g']) ++ (cM q κ2 ct ++ rest))) : zG p l e room_1 s m args below meth c D A 9 Q cells slots 1654 [some (.ref b0), some (.ref b), some (.ref (q 0)), some (.ref ao), some (.int (nI i)), none, none, none, none] [] ((wc ++ [zo ct ao g]) ++ (cM q κ ct ++ rest)) := by
  refine z_aload_n hC dL_law_1654 rfl ?_
  refine z_aload_n hC dL_law_1655 rfl ?_
  refine z_iload hC dL_law_1656 rfl ?_
  refine z_iconst (v := 1) hC dL_law_1658 (by decide) ?_
  refine z_iaddN i 1 hC dL_law_1659 ?_
  refine z_sld (i + 1) hC hX hbl hbA hL (by omega) dL_law_1660 ?_
  refine z_aload_n hC dL_law_1661 rfl ?_
  refine z_callL (List.range (wc ++ [zo ct ao g]).length) hC hH hx bw_753 bw_754 bw_75 bw_755 3 (by decide +kernel) rfl (rng_nd _) rng_ps ⟨Nat.le_of_ble_eq_true rfl, Nat.le_of_ble_eq_true rfl⟩ (Nat.le_of_ble_eq_true rfl) ⟨hb1, hb2⟩ rfl dL_law_1662 ?_
  rintro v1 wa1 wb ⟨k, wc', g', rfl, rfl, hP⟩ had
  rw [wput_pre (fst_len had)]
  obtain ⟨hk1, hk2⟩ := hk k wc' wb g' hP
  refine z_istore hC dL_law_1665 (by decide) rfl ?_
  refine zG_perm pm1 ?_
  refine z_aload_n hC dL_law_1667 rfl ?_
  refine z_aload_n hC dL_law_1668 rfl ?_
  refine z_iload hC dL_law_1669 rfl ?_
  refine z_iconst (v := 1) hC dL_law_1671 (by decide) ?_
  refine z_iaddN i 1 hC dL_law_1672 ?_
  refine z_sld (i + 1) hC hX hbl hbA hL (by omega) dL_law_1673 ?_
  refine z_callV (List.range (cM q κ ct).length) 0 5 hC hM bw_760 bw_761 bw_762 bw_5 bw_763 1 (by decide +kernel) rfl (rng_nd _) rng_ps rfl rfl ⟨Nat.succ_le_succ hf2, show 8 + (2 + 11) + lo2 ≤ 398 by omega⟩ (Nat.le_of_ble_eq_true rfl) ⟨hb1, hb2⟩ rfl dL_law_1674 ?_
  rintro v2 wa2 wb2 ⟨rfl, rfl, rfl⟩ had2
  rw [wput_pre0 (fst_len had2)]
  refine z_istore hC dL_law_1677 (by decide) rfl ?_
  refine z_aload_n hC dL_law_1679 rfl ?_
  refine z_callV (List.range (cM q κ2 ct).length) 0 5 hC (c_X5_thrown l D ct q κ2) bw_164 bw_165 bw_166 bw_5 bw_167 0 (by decide +kernel) rfl (rng_nd _) rng_ps rfl rfl ⟨Nat.le_of_ble_eq_true rfl, Nat.le_of_ble_eq_true rfl⟩ (Nat.le_of_ble_eq_true rfl) ⟨hb1, hb2⟩ rfl dL_law_1680 ?_
  rintro v3 wa3 wb3 ⟨rfl, rfl, rfl⟩ had3
  rw [wput_pre0 (fst_len had3)]
  refine z_iload hC dL_law_1683 rfl ?_
  refine z_icmp_eq hC 1690 dL_law_1685 (by decide) (fun _ => ?_) (fun hn => absurd hk1 hn)
  refine z_iload hC dL_law_1690 rfl ?_
  refine z_if_ne hC 1707 dL_law_1692 (by decide) (fun hn => ?_) (fun h0 => ?_)
  · refine z_goto hC 1777 dL_law_1707 (by decide) ?_
    refine z_wk (ls2 := [some (.ref b0), some (.ref b), some (.ref (q 0)), some (.ref ao), some (.int (nI i)), none, none, none, none]) (ls_s (ls_s (ls_s (ls_s (ls_s (ls_n (ls_n (ls_n (ls_n ls_0))))))))) ?_
    refine zG_perm pm2 ?_
    exact K k wc' wb g' hP
  · refine z_aload_n hC dL_law_1695 rfl ?_
    refine z_iconst (v := 0) hC dL_law_1696 (by decide) ?_
    refine z_laload (4 + wc'.length) hC zo_at2 dL_law_1697 ?_
    refine z_iload hC dL_law_1698 rfl ?_
    refine z_i2l hC dL_law_1700 ?_
    refine z_lcmp hC dL_law_1701 ?_
    refine z_if_eq hC 1707 dL_law_1702 (by decide) (fun _ => ?_) (fun hn => absurd (by rw [hk2 h0]; exact lg_self _) hn)
    refine z_goto hC 1777 dL_law_1707 (by decide) ?_
    refine z_wk (ls2 := [some (.ref b0), some (.ref b), some (.ref (q 0)), some (.ref ao), some (.int (nI i)), none, none, none, none]) (ls_s (ls_s (ls_s (ls_s (ls_s (ls_n (ls_n (ls_n (ls_n ls_0))))))))) ?_
    refine zG_perm pm2 ?_
    exact K k wc' wb g' hP

set_option maxRecDepth 100000 in
set_option maxHeartbeats 1000000 in
theorem ld_joined (hC : zC p s m meth c args RL 9 cL_law D ct A) {wc2 : va_W} {fs : List Value} {fr1 lo1 fr2 lo2 : Nat} {v : UInt64} (hv : Op.cmpValue (FP.dcmp v v) .l = 0) (hc1 : zT l D ct yX4_joined cX4_joined 1 (some .double) fr1 lo1 0 0 [.ref b] wc (zd (some (.double v)) wc2)) (hf1 : fr1 ≤ 10) (hl1 : lo1 ≤ 340) (he : wc[0]? = some (b, .inr (4, fs))) (hM : zT l D ct yX5_joined cX5_joined 3 (some .double) fr2 lo2 0 0 [.ref (q 0)] (cM q κ ct) (zd (some (.double v)) (cM q κ2 ct))) (hf2 : fr2 ≤ 10) (hl2 : lo2 ≤ 340) (hb1 : cells ≤ 601024) (hb2 : slots ≤ 7293034)
    (K : zG p l e room_1 s m args below meth c D A 9 Q cells slots 1777 [some (.ref b0), some (.ref b), some (.ref (q 0)), some (.ref ao), some (.int (nI i)), none, none, none, none] [] ((wc2 ++ [zo ct ao g]) ++ (cM q κ2 ct ++ rest))) : zG p l e room_1 s m args below meth c D A 9 Q cells slots 1710 [some (.ref b0), some (.ref b), some (.ref (q 0)), some (.ref ao), some (.int (nI i)), none, none, none, none] [] ((wc ++ [zo ct ao g]) ++ (cM q κ ct ++ rest)) := by
  refine zG_w (w2 := wc ++ ([zo ct ao g] ++ (cM q κ ct ++ rest))) (List.append_assoc _ _ _) ?_
  refine z_aload_n hC dL_law_1710 rfl ?_
  refine z_callV (List.range wc.length) 0 4 hC hc1 bw_764 bw_765 bw_766 bw_2 bw_767 0 (by decide +kernel) rfl (rng_nd _) rng_ps rfl he ⟨Nat.succ_le_succ hf1, show 8 + (1 + 11) + lo1 ≤ 398 by omega⟩ (Nat.le_of_ble_eq_true rfl) ⟨hb1, hb2⟩ rfl dL_law_1711 ?_
  rintro v1 wa1 wb1 ⟨rfl, rfl, rfl⟩ had1
  rw [wput_pre0 (fst_len had1)]
  refine z_dstore hC dL_law_1714 (by decide) rfl ?_
  refine zG_perm pm3 ?_
  refine z_aload_n hC dL_law_1716 rfl ?_
  refine z_callV (List.range (cM q κ ct).length) 0 5 hC hM bw_772 bw_773 bw_774 bw_5 bw_775 0 (by decide +kernel) rfl (rng_nd _) rng_ps rfl rfl ⟨Nat.succ_le_succ hf2, show 8 + (3 + 11) + lo2 ≤ 398 by omega⟩ (Nat.le_of_ble_eq_true rfl) ⟨hb1, hb2⟩ rfl dL_law_1717 ?_
  rintro v2 wa2 wb2 ⟨rfl, rfl, rfl⟩ had2
  rw [wput_pre0 (fst_len had2)]
  refine z_dstore hC dL_law_1720 (by decide) rfl ?_
  refine z_dload hC dL_law_1722 rfl ?_
  refine z_dload hC dL_law_1724 rfl ?_
  refine z_dcmp hC dL_law_1726 ?_
  refine z_if_eq hC 1748 dL_law_1727 (by decide) (fun _ => ?_) (fun hn => absurd hv hn)
  refine z_goto hC 1777 dL_law_1748 (by decide) ?_
  refine z_wk (ls2 := [some (.ref b0), some (.ref b), some (.ref (q 0)), some (.ref ao), some (.int (nI i)), none, none, none, none]) (ls_s (ls_s (ls_s (ls_s (ls_s (ls_n (ls_n (ls_n (ls_n ls_0))))))))) ?_
  refine zG_perm pm4 ?_
  exact K

set_option maxRecDepth 100000 in
set_option maxHeartbeats 1000000 in
theorem ld_savedStates (hC : zC p s m meth c args RL 9 cL_law D ct A) {wc2 : va_W} {fs : List Value} {fr1 lo1 fr2 lo2 : Nat} {v : Int32} (hc1 : zT l D ct yX4_savedStates cX4_savedStates 1 (some .int) fr1 lo1 0 0 [.ref b] wc (zd (some (.int v)) wc2)) (hf1 : fr1 ≤ 10) (hl1 : lo1 ≤ 340) (he : wc[0]? = some (b, .inr (4, fs))) (hM : zT l D ct yX5_savedStates cX5_savedStates 1 (some .int) fr2 lo2 0 0 [.ref (q 0)] (cM q κ ct) (zd (some (.int v)) (cM q κ2 ct))) (hf2 : fr2 ≤ 10) (hl2 : lo2 ≤ 340) (hb1 : cells ≤ 601024) (hb2 : slots ≤ 7293034)
    (K : zG p l e room_1 s m args below meth c D A 9 Q cells slots 1777 [some (.ref b0), some (.ref b), some (.ref (q 0)), some (.ref ao), some (.int (nI i)), none, none, none, none] [] ((wc2 ++ [zo ct ao g]) ++ (cM q κ2 ct ++ rest))) : zG p l e room_1 s m args below meth c D A 9 Q cells slots 1751 [some (.ref b0), some (.ref b), some (.ref (q 0)), some (.ref ao), some (.int (nI i)), none, none, none, none] [] ((wc ++ [zo ct ao g]) ++ (cM q κ ct ++ rest)) := by
  refine zG_w (w2 := wc ++ ([zo ct ao g] ++ (cM q κ ct ++ rest))) (List.append_assoc _ _ _) ?_
  refine z_aload_n hC dL_law_1751 rfl ?_
  refine z_callV (List.range wc.length) 0 4 hC hc1 bw_777 bw_778 bw_779 bw_2 bw_780 0 (by decide +kernel) rfl (rng_nd _) rng_ps rfl he ⟨Nat.succ_le_succ hf1, show 8 + (1 + 11) + lo1 ≤ 398 by omega⟩ (Nat.le_of_ble_eq_true rfl) ⟨hb1, hb2⟩ rfl dL_law_1752 ?_
  rintro v1 wa1 wb1 ⟨rfl, rfl, rfl⟩ had1
  rw [wput_pre0 (fst_len had1)]
  refine zG_perm pm3 ?_
  refine z_aload_n hC dL_law_1755 rfl ?_
  refine z_callV (List.range (cM q κ ct).length) 0 5 hC hM bw_781 bw_782 bw_783 bw_5 bw_784 0 (by decide +kernel) rfl (rng_nd _) rng_ps rfl rfl ⟨Nat.succ_le_succ hf2, show 8 + (1 + 11) + lo2 ≤ 398 by omega⟩ (Nat.le_of_ble_eq_true rfl) ⟨hb1, hb2⟩ rfl dL_law_1756 ?_
  rintro v2 wa2 wb2 ⟨rfl, rfl, rfl⟩ had2
  rw [wput_pre0 (fst_len had2)]
  refine z_icmp_eq hC 1777 dL_law_1759 (by decide) (fun _ => ?_) (fun hn => absurd rfl hn)
  refine zG_perm pm4 ?_
  exact K

set_option maxRecDepth 100000 in
set_option maxHeartbeats 1000000 in
theorem ld_textLength (hC : zC p s m meth c args RL 9 cL_law D ct A) {wc2 : va_W} {fs : List Value} {fr1 lo1 fr2 lo2 : Nat} {v : Int32} (hc1 : zT l D ct yX4_textLength cX4_textLength 1 (some .int) fr1 lo1 0 0 [.ref b] wc (zd (some (.int v)) wc2)) (hf1 : fr1 ≤ 10) (hl1 : lo1 ≤ 340) (he : wc[0]? = some (b, .inr (4, fs))) (hM : zT l D ct yX5_textLength cX5_textLength 1 (some .int) fr2 lo2 0 0 [.ref (q 0)] (cM q κ ct) (zd (some (.int v)) (cM q κ2 ct))) (hf2 : fr2 ≤ 10) (hl2 : lo2 ≤ 340) (hb1 : cells ≤ 601024) (hb2 : slots ≤ 7293034)
    (K : zG p l e room_1 s m args below meth c D A 9 Q cells slots 1777 [some (.ref b0), some (.ref b), some (.ref (q 0)), some (.ref ao), some (.int (nI i)), none, none, none, none] [] ((wc2 ++ [zo ct ao g]) ++ (cM q κ2 ct ++ rest))) : zG p l e room_1 s m args below meth c D A 9 Q cells slots 1764 [some (.ref b0), some (.ref b), some (.ref (q 0)), some (.ref ao), some (.int (nI i)), none, none, none, none] [] ((wc ++ [zo ct ao g]) ++ (cM q κ ct ++ rest)) := by
  refine zG_w (w2 := wc ++ ([zo ct ao g] ++ (cM q κ ct ++ rest))) (List.append_assoc _ _ _) ?_
  refine z_aload_n hC dL_law_1764 rfl ?_
  refine z_callV (List.range wc.length) 0 4 hC hc1 bw_785 bw_786 bw_787 bw_2 bw_788 0 (by decide +kernel) rfl (rng_nd _) rng_ps rfl he ⟨Nat.succ_le_succ hf1, show 8 + (1 + 11) + lo1 ≤ 398 by omega⟩ (Nat.le_of_ble_eq_true rfl) ⟨hb1, hb2⟩ rfl dL_law_1765 ?_
  rintro v1 wa1 wb1 ⟨rfl, rfl, rfl⟩ had1
  rw [wput_pre0 (fst_len had1)]
  refine zG_perm pm3 ?_
  refine z_aload_n hC dL_law_1768 rfl ?_
  refine z_callV (List.range (cM q κ ct).length) 0 5 hC hM bw_789 bw_790 bw_791 bw_5 bw_792 0 (by decide +kernel) rfl (rng_nd _) rng_ps rfl rfl ⟨Nat.succ_le_succ hf2, show 8 + (1 + 11) + lo2 ≤ 398 by omega⟩ (Nat.le_of_ble_eq_true rfl) ⟨hb1, hb2⟩ rfl dL_law_1769 ?_
  rintro v2 wa2 wb2 ⟨rfl, rfl, rfl⟩ had2
  rw [wput_pre0 (fst_len had2)]
  refine z_icmp_eq hC 1777 dL_law_1772 (by decide) (fun _ => ?_) (fun hn => absurd rfl hn)
  refine zG_perm pm4 ?_
  exact K
end LCS
