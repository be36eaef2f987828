/-! P36: THE LAW'S loop -/
section LAW2
variable {p : Program} {l : Launch} {e : Env} {s : State} {m : MethodId} {args : Array Value} {below : List Frame} {meth : Method} {c : Code} {D : va_G} {A : Nat → Prop} {Q : State → Prop} {ct : Nat → ClassId} {b0 b L k : Nat} {xs : Nat → Int32} {qs qt qh qx : Nat → Nat} {x y : Int32}
theorem LZ_le {Bd c1 c2 s1 s2 pc : Nat} {ls : List (Option Value)} (h1 : c1 ≤ c2) (h2 : s1 ≤ s2) (K : LZ p l e s m args below meth c D A Q b qs qt qh qx ct Bd c2 s2 pc ls) : LZ p l e s m args below meth c D A Q b qs qt qh qx ct Bd c1 s1 pc ls :=
  fun cells slots σ hs ρ o z rg og hI hγ hok hc hs_ => K cells slots σ hs ρ o z rg og hI hγ hok (by omega) (by omega)
theorem links_pos (σ : TB) : (-1000000 : Int32) < msLinks σ := by
  obtain ⟨n, n1, n2⟩ := links_n σ
  rw [n2, Int32.lt_iff_toInt_lt, nI_toInt (by omega)]
  have : (-1000000 : Int32).toInt = -1000000 := by decide
  omega

set_option maxRecDepth 100000 in
set_option maxHeartbeats 1000000 in
theorem law_turn (hC : zC p s m meth c args RL 10 cL_law D ct A) (hk : k < 46) (hX : wX A s s.heap) (hlf : l.stackTraces = false) (hXs : va_X b0 L xs s s.heap) (hbA : ¬ A b0) (hL : L < 2 ^ 31) {B Bn cm cn sm_ sn : Nat} (hB : B + 100 ≤ Bn) (hcm : cm + 144 ≤ cn) (hsm : sm_ + 14697 ≤ sn) (hBn : Bn < 100000) (hcn : cn < 100000) (hsn : sn < 1000000) (K : LZ p l e s m args below meth c D A Q b qs qt qh qx ct Bn cn sn 30 [some (.ref b0), some (.ref b), some (.int 1), some (.int (nI (k + 1))), none, none, none, none, none, none]) : LZ p l e s m args below meth c D A Q b qs qt qh qx ct B cm sm_ 30 [some (.ref b0), some (.ref b), some (.int 1), some (.int (nI k)), none, none, none, none, none, none] := by
  intro cells slots σ hs ρ o z rg og hI hγ hok hcl hsl
  obtain rfl := (hOK_len hok).1
  have hlen := (hOK_len hok).2
  have hγn : ∀ γ ∈ hs, Inv Bn γ := fun γ q => Inv_mono (hγ γ q) (by omega)
  have K309 := law_309 hC hk (x := (atV L xs (2 * k))) (y := (atV L xs (2 * k + 1))) K
  have K284 := law_284 hC hk hBn (cm := cn - 96) (sm_ := sn - 9798) (by omega) (by omega) (LZ_le (by omega) (by omega) K309)
  have K260 := law_260 hC hk hBn (cm := cn - 112) (sm_ := sn - 11431) (by omega) (by omega) (LZ_le (by omega) (by omega) K284)
  have K236 := law_236 hC hk hBn (by omega) (by omega) K260
  refine z_iload_n hC dL_law_30 rfl ?_
  refine z_bipush (v := 46) hC dL_law_31 (by decide) ?_
  refine z_icmp_ge hC 321 dL_law_33 (by decide) (fun c33 => absurd c33 (nI_ge (a := k) (b := 46) hk (by decide))) (fun c33 => ?_)
  refine z_iload_n hC dL_law_36 rfl ?_
  refine z_if_eq hC 321 dL_law_37 (by decide) (fun cn1 => absurd cn1 (by decide)) (fun cn1 => ?_)
  refine z_aload_n hC dL_law_40 rfl ?_
  refine z_iconst (v := 2) hC dL_law_41 (by decide) ?_
  refine z_iload_n hC dL_law_42 rfl ?_
  refine z_imul hC dL_law_43 ?_
  rw [show (2 * (nI k)) = (nI (2 * k)) from pk_mul 2 k]
  refine z_callA hC (c_L_at l D ct b0 L xs (2 * k) hL (by omega)) hXs hbA bw_241 bw_242 bw_62 bw_243 2 (by decide +kernel) rfl ⟨Nat.le_of_ble_eq_true rfl, Nat.le_of_ble_eq_true rfl⟩ (Nat.le_of_ble_eq_true rfl) ⟨by show _ ≤ 600130; omega, by show _ ≤ 7301080; omega⟩ rfl dL_law_44 ?_
  refine z_istore hC dL_law_47 (by decide) rfl ?_
  refine z_aload_n hC dL_law_49 rfl ?_
  refine z_iconst (v := 2) hC dL_law_50 (by decide) ?_
  refine z_iload_n hC dL_law_51 rfl ?_
  refine z_imul hC dL_law_52 ?_
  refine z_iconst (v := 1) hC dL_law_53 (by decide) ?_
  rw [show (2 : Int32) * nI k = nI (2 * k) from pk_mul 2 k]
  refine z_iadd hC dL_law_54 ?_
  rw [show ((nI (2 * k)) + 1) = (nI (2 * k + 1)) from nI_1 _]
  refine z_callA hC (c_L_at l D ct b0 L xs (2 * k + 1) hL (by omega)) hXs hbA bw_241 bw_242 bw_62 bw_243 2 (by decide +kernel) rfl ⟨Nat.le_of_ble_eq_true rfl, Nat.le_of_ble_eq_true rfl⟩ (Nat.le_of_ble_eq_true rfl) ⟨by show _ ≤ 600130; omega, by show _ ≤ 7301080; omega⟩ rfl dL_law_55 ?_
  refine z_istore hC dL_law_58 (by decide) rfl ?_
  refine z_aload_n hC dL_law_60 rfl ?_
  refine z_callV [0, 33, 34] 0 4 hC (c_X4_savedStates l D ct b qs qt qh qx o (nI hs.length) rg) bw_246 bw_247 bw_248 bw_2 bw_249 0 (by decide +kernel) rfl rfl rfl rfl rfl ⟨Nat.le_of_ble_eq_true rfl, Nat.le_of_ble_eq_true rfl⟩ (Nat.le_of_ble_eq_true rfl) ⟨by show _ ≤ 600130; omega, by show _ ≤ 7301080; omega⟩ rfl dL_law_61 ?_
  refine zkq (G := fun v1 w1 => zG p l e _ s m args below meth c D _ _ _ _ _ _ _ (v1.toList ++ _) w1) rfl ?_
  refine z_istore hC dL_law_64 (by decide) rfl ?_
  refine z_aload_n hC dL_law_66 rfl ?_
  refine z_callS [0, 1, 2, 3, 4, 5, 6, 7, 8, 9, 10, 11, 12, 13, 14, 15, 16] hC (n_print l D ct b qs qt qh qx σ hI) bw_250 bw_251 bw_62 bw_252 1 (by decide +kernel) rfl rfl rfl ⟨Nat.le_of_ble_eq_true rfl, Nat.le_of_ble_eq_true rfl⟩ (Nat.le_of_ble_eq_true rfl) ⟨by show _ ≤ 600130; omega, by show _ ≤ 7301080; omega⟩ rfl dL_law_67 ?_
  refine zkq (G := fun v1 w1 => zG p l e _ s m args below meth c D _ _ _ _ _ _ _ (v1.toList ++ _) w1) rfl ?_
  refine z_lstore hC dL_law_70 (by decide) rfl ?_
  refine z_iload_n hC dL_law_72 rfl ?_
  refine z_bipush (v := 6) hC dL_law_73 (by decide) ?_
  by_cases hk6 : k < 6
  · have hlw := lowN_lt (atV L xs (2 * k)) (n := k + 1) (by omega)
    have hI1 : Inv Bn (msSetLink σ (nI (lowN (atV L xs (2 * k)) (k + 1))) (nI (k + 1)) 1) := Inv_mono (Inv_link hI (a := lowN (atV L xs (2 * k)) (k + 1)) (c := k + 1) (by omega) (by omega) (by omega) (Or.inr rfl)) (by omega)
    refine z_icmp_ge hC 97 dL_law_75 (by decide) (fun c75 => absurd c75 (nI_ge (a := k) (b := 6) hk6 (by decide))) (fun c75 => ?_)
    refine z_aload_n hC dL_law_78 rfl ?_
    refine z_iload hC dL_law_79 rfl ?_
    refine z_iload_n hC dL_law_81 rfl ?_
    refine z_iconst (v := 1) hC dL_law_82 (by decide) ?_
    refine z_iadd hC dL_law_83 ?_
    rw [show ((nI k) + 1) = (nI (k + 1)) from nI_1 _]
    refine z_callS [] hC (c_L_low l D ct (atV L xs (2 * k)) (k + 1) (by omega) (by omega)) bw_263 bw_264 bw_62 bw_265 2 (by decide +kernel) rfl rfl rfl ⟨Nat.le_of_ble_eq_true rfl, Nat.le_of_ble_eq_true rfl⟩ (Nat.le_of_ble_eq_true rfl) ⟨by show _ ≤ 600130; omega, by show _ ≤ 7301080; omega⟩ rfl dL_law_84 ?_
    refine zkq (G := fun v1 w1 => zG p l e _ s m args below meth c D _ _ _ _ _ _ _ (v1.toList ++ _) w1) rfl ?_
    refine z_iload_n hC dL_law_87 rfl ?_
    refine z_iconst (v := 1) hC dL_law_88 (by decide) ?_
    refine z_iadd hC dL_law_89 ?_
    rw [show ((nI k) + 1) = (nI (k + 1)) from nI_1 _]
    refine z_iconst (v := 1) hC dL_law_90 (by decide) ?_
    refine z_callHW hC hok (w_link l D ct b qs qt qh qx σ hs hI (lowN (atV L xs (2 * k)) (k + 1)) (k + 1) (by omega) (by omega) (by omega) 1) bw_267 bw_268 bw_62 bw_269 4 (by decide +kernel) rfl ⟨Nat.le_of_ble_eq_true rfl, Nat.le_of_ble_eq_true rfl⟩ (Nat.le_of_ble_eq_true rfl) ⟨by show _ ≤ 600130; omega, by show _ ≤ 7301080; omega⟩ rfl dL_law_91 ?_
    intro ρ2 o2 z2 rg2 og2 hok2 hy2
    refine z_goto hC 105 dL_law_94 (by decide) ?_
    exact law_105a hC hk hBn (cm := cn - 112) (sm_ := sn - 11431) (by omega) (by omega) (LZ_le (by omega) (by omega) K236) (Inv_mono hI (by omega)) hI1 hγn hok2 (links_pos _) hlen (by omega) (by omega) (by omega)
  · obtain ⟨iA, iT, iF⟩ := Inv_act hI (by omega) (atV L xs (2 * k)) (atV L xs (2 * k + 1))
    have hIa : Inv Bn (aO σ (atV L xs (2 * k)) (atV L xs (2 * k + 1))).2.1 := Inv_mono iA (by omega)
    refine z_icmp_ge hC 97 dL_law_75 (by decide) (fun c75 => ?_) (fun c75 => (c75 (nI_le (a := 6) (b := k) (by omega) (by omega))).elim)
    refine z_aload_n hC dL_law_97 rfl ?_
    refine z_iload hC dL_law_98 rfl ?_
    refine z_iload hC dL_law_100 rfl ?_
    refine z_callTXW hC hX hok (c_L_act l hlf D ct b qs qt qh qx σ hs hI (atV L xs (2 * k)) (atV L xs (2 * k + 1))) bw_310 bw_311 bw_62 bw_312 3 (by decide +kernel) rfl ⟨Nat.le_of_ble_eq_true rfl, Nat.le_of_ble_eq_true rfl⟩ (Nat.le_of_ble_eq_true rfl) ⟨by show _ ≤ 600130; omega, by show _ ≤ 7301080; omega⟩ rfl dL_law_102 ?_
    intro ρ3 o3 z3 rg3 og3 hok3 hy3
    cases hth : (aO σ (atV L xs (2 * k)) (atV L xs (2 * k + 1))).2.2 with
    | true =>
      rw [hth] at hok3
      rw [(iT hth).2]
      exact law_105x hC hk hBn (cm := cn - 112) (sm_ := sn - 11431) (by omega) (by omega) (LZ_le (by omega) (by omega) K236) (Inv_mono hI (by omega)) hγn hok3 (by omega) (by omega) (iT hth).1
    | false =>
      rw [hth] at hok3
      exact law_105b hC hk hBn (cm := cn - 128) (sm_ := sn - 13064) (by omega) (by omega) (LZ_le (by omega) (by omega) K236) (Inv_mono hI (by omega)) hIa hγn hok3 (iF hth) hX hlf hlen (by omega) (by omega) (by omega) rfl hIa (by rw [hth]; exact fun γ q => (push_in q).elim (fun q => q ▸ Inv_mono hI (by omega)) (fun q => hγn γ q))

theorem law_loop (hC : zC p s m meth c args RL 10 cL_law D ct A) (hX : wX A s s.heap) (hlf : l.stackTraces = false) (hXs : va_X b0 L xs s s.heap) (hbA : ¬ A b0) (hL : L < 2 ^ 31) {c0 s0 : Nat} (hc0 : c0 ≤ 50000) (hs0 : s0 ≤ 100000) (K : LZ p l e s m args below meth c D A Q b qs qt qh qx ct 4600 (c0 + 144 * 46) (s0 + 14697 * 46) 30 [some (.ref b0), some (.ref b), some (.int 1), some (.int (nI 46)), none, none, none, none, none, none]) :
    ∀ n k : Nat, n + k = 46 → LZ p l e s m args below meth c D A Q b qs qt qh qx ct (100 * k) (c0 + 144 * k) (s0 + 14697 * k) 30 [some (.ref b0), some (.ref b), some (.int 1), some (.int (nI k)), none, none, none, none, none, none]
  | 0, k, h => by
    obtain rfl : k = 46 := by omega
    exact K
  | n + 1, k, h => law_turn hC (by omega) hX hlf hXs hbA hL (by omega) (by omega) (by omega) (Bn := 100 * (k + 1)) (cn := c0 + 144 * (k + 1)) (sn := s0 + 14697 * (k + 1)) (by omega) (by omega) (by omega) (law_loop hC hX hlf hXs hbA hL hc0 hs0 K n (k + 1) (by omega))
end LAW2
