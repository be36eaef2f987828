/-! THE RELATION is kept: dropping, following, hearing -/
theorem mdInc_def {κ : TB} {i : Nat} : mdInc κ i = u2 κ 1 i (κ 1 i + 1) := rfl
theorem wd_rd {σ : TB} : wd σ (rd σ) = σ := by
  funext r
  unfold wd rd
  split
  · rfl
  · rw [show 8 + (r - 8) = r by omega]
theorem wd_u2 {σ ρ : TB} {r k : Nat} {x : Int32} : wd σ (u2 ρ r k x) = u2 (wd σ ρ) (8 + r) k x := by
  funext r1 k1
  rw [u2_v]
  unfold wd
  by_cases h : r1 < 8
  · rw [if_pos h, if_pos h, if_neg (fun q => by omega)]
  · rw [if_neg h, if_neg h, u2_v]
    by_cases h2 : r1 = 8 + r ∧ k1 = k
    · rw [if_pos h2, if_pos ⟨by omega, h2.2⟩]
    · rw [if_neg h2, if_neg (fun q => h2 ⟨by omega, q.2⟩)]
theorem u2_comm {σ : TB} {r k r2 k2 : Nat} {x y : Int32} (h : r ≠ r2) : u2 (u2 σ r k x) r2 k2 y = u2 (u2 σ r2 k2 y) r k x := by
  funext r1 k1
  rw [u2_v, u2_v, u2_v, u2_v]
  by_cases c1 : r1 = r2 ∧ k1 = k2
  · rw [if_pos c1, if_neg (fun q => h (q.1.symm.trans c1.1)), if_pos c1]
  · rw [if_neg c1]
    by_cases c2 : r1 = r ∧ k1 = k
    · rw [if_pos c2, if_pos c2]
    · rw [if_neg c2, if_neg c2, if_neg c1]
def shc (m : Nat) (a : Int32) (i : Nat) (σ : TB) : TB := u2 σ 15 (60 * m + i) (σ 15 (60 * m + i) + a)
theorem mrAt_n {n i : Nat} (hn : n < 10) (hi : i < 60) : mrAt (nI n) (nI i) = 60 * n + i := by
  unfold mrAt
  rw [show (60 : Int32) = nI 60 from rfl, pk_mul, nI_add, nI_clamp (by omega), Nat.mul_comm]
theorem wd_shl {σ : TB} {m : Nat} {a : Int32} (hm : m < 10) : ∀ (k i : Nat) (ρ : TB), i + k ≤ 60 → wd σ (kfor (mrShift1 (nI m) a) k i ρ) = kfor (shc m a) k i (wd σ ρ)
  | 0, _, _, _ => rfl
  | k + 1, i, ρ, h => by
    show wd σ (kfor _ k (i + 1) (mrShift1 (nI m) a i ρ)) = kfor _ k (i + 1) (shc m a i (wd σ ρ))
    rw [wd_shl hm k (i + 1) _ (by omega)]
    congr 1
    unfold mrShift1 shc
    rw [mrAt_n hm (by omega), wd_u2]
    rw [show (15 : Nat) = 8 + 7 from rfl, wd_hi]
theorem u2_shl {m c : Nat} {a v : Int32} {r : Nat} (hr : 15 ≠ r) : ∀ (k i : Nat) (σ : TB), u2 (kfor (shc m a) k i σ) r c v = kfor (shc m a) k i (u2 σ r c v)
  | 0, _, _ => rfl
  | k + 1, i, σ => by
    show u2 (kfor _ k (i + 1) (shc m a i σ)) r c v = kfor _ k (i + 1) (shc m a i (u2 σ r c v))
    rw [u2_shl hr k (i + 1)]
    congr 1
    unfold shc
    rw [u2_comm hr, u2_ne hr]
section RR
variable {σ κ : TB} {b B : Nat}
theorem Rel_inc (h : Rel σ κ b B) (c : Nat) (h1 : 11 ≤ c) (h2 : c < 19) (h3 : c ≠ 13) (h4 : c ≠ 12) : Rel (u2 σ 0 (nk c) (σ 0 (nk c) + 1)) (mdInc κ (b + c)) b B := by
  have := Rel_num h c h1 h2 h3 h4 (σ 0 (nk c) + 1)
  rw [mdInc_def, h.1.1 c h1 h2 h3]
  exact this
theorem Rel_drop (h : Rel σ κ b B) {m : Nat} (hm : m < 10) : Rel (msDrop σ (nI m)) (mdDrop κ b m) b B := by
  unfold msDrop mdDrop
  rw [nI_clamp (by omega)]
  have h1 := Rel_node h 1 (by omega) m hm (-1) (fun _ => Or.inl rfl)
  have h2 := Rel_node h1 2 (by omega) m hm (-1) (fun e => absurd e (by decide))
  exact Rel_inc h2 18 (by omega) (by omega) (by omega) (by omega)
theorem Rel_K (h : Rel σ κ b B) {n : Nat} (hn0 : 0 < n) (hn : n < 10) : κ 1 (b + 20 + 7 * n + 6) = σ 13 n := by
  have := (h.2.2.2.2.1 n hn).1
  rwa [show b + pz n = b + 20 + 7 * n + 6 by unfold pz; rw [if_neg (by omega)]; omega] at this
theorem Rel_mdK (h : Rel σ κ b B) {n : Nat} (hn0 : 0 < n) (hn : n < 10) : mdK κ b n = sK σ n := by
  unfold mdK
  rw [Rel_K h hn0 hn]
  rfl
theorem Rel_mdK0 (h : Rel σ κ b B) : mdK κ b 0 = 0 := by
  unfold mdK
  rw [show κ 1 (b + 20 + 7 * 0 + 6) = 0 from h.1.2.2]
  rfl
theorem Rel_okA (h : Rel σ κ b B) : okA κ b := fun n hn => by
  by_cases h0 : n = 0
  · subst h0
    refine ⟨?_, ?_⟩
    · rw [Rel_mdK0 h]; exact h.1.2.2
    · rw [Rel_mdK0 h]; omega
  · have g := h.2.2.2.2.2.2.1 n hn
    refine ⟨?_, ?_⟩
    · rw [Rel_mdK h (by omega) hn, Rel_K h (by omega) hn]; exact g.1
    · rw [Rel_mdK h (by omega) hn]
      have := g.2.1
      unfold lm at this
      rwa [if_neg h0] at this
theorem Rel_mdC (h : Rel σ κ b B) : mdC κ b = sK σ 0 := by
  unfold mdC
  rw [show κ 1 (b + 19) = σ 13 0 from (h.2.2.2.2.1 0 (by omega)).1]
  rfl
theorem Rel_okC (h : Rel σ κ b B) : okC κ b := by
  have g := h.2.2.2.2.2.2.1 0 (by omega)
  refine ⟨?_, ?_⟩
  · rw [Rel_mdC h, show κ 1 (b + 19) = σ 13 0 from (h.2.2.2.2.1 0 (by omega)).1]; exact g.1
  · rw [Rel_mdC h]; exact g.2.1
theorem mrSize_n (h : iK σ) {n : Nat} (hn : n < 10) : mrSize (rd σ) (nI n) = nI (sK σ n) := by
  have g := h n hn
  have hl := lm_le n
  unfold mrSize
  rw [if_pos ⟨nI_pos' (by omega), by rw [show (10 : Int32) = nI 10 from rfl]; exact nI_lt hn (by decide)⟩, nI_clamp (by omega)]
  have e : rd σ 5 n = nI (sK σ n) := g.1
  rw [e, show (60 : Int32) = nI 60 from rfl, if_neg (nI_nlt (by omega) (by omega))]
theorem Rel_shl {m : Nat} {a : Int32} (hm0 : 0 < m) (hm : m < 10) : ∀ (k i : Nat) (σ κ : TB), Rel σ κ b B → i + k ≤ sK σ m → Rel (kfor (shc m a) k i σ) (kfor (mdShift1 b m a) k i κ) b B
  | 0, _, _, _, h, _ => h
  | k + 1, i, σ, κ, h, hi => by
    refine Rel_shl hm0 hm k (i + 1) _ _ ?_ (by show i + 1 + k ≤ sK σ m; omega)
    have hil : i < sK σ m := by omega
    have hl : i < lm m := Nat.lt_of_lt_of_le hil (h.2.2.2.2.2.2.1 m hm).2.1
    obtain ⟨id, -, -, -, -, -, -, e7⟩ := (h.2.2.2.2.1 m hm).2 i hil
    have e : b + 90 + 5 * (6 * m + i) + 4 = b + pl m i + 4 := by unfold pl; rw [if_neg (by omega)]; omega
    unfold shc mdShift1
    rw [e, e7]
    exact Rel_stamp h hm hl _
theorem i_asc {x y : Int32} : x + (y - x) = y := by rw [Int32.add_comm, Int32.sub_add_cancel]
theorem Rel_follow (h : Rel σ κ b B) {m n : Nat} (hm0 : 0 < m) (hm : m < 10) (hn : n < 10) : Rel (msFollow σ (nI m) (nI n)) (mdFollow κ b m n) b B := by
  have iKh := h.2.2.2.2.2.2.1
  have hsz := mrSize_n iKh hm
  have hl := iKh m hm
  have hl60 := lm_le m
  unfold msFollow mdFollow
  rw [nI_clamp (by omega), nI_clamp (by omega)]
  have h1 := Rel_node h 1 (by omega) m hm (nI n) (fun _ => Or.inr ⟨hm0, n, hn, rfl⟩)
  obtain ⟨κ1, eκ1⟩ : ∃ z, z = mdF1 κ b m n := ⟨_, rfl⟩
  rw [← eκ1]
  have h1 : Rel (u2 σ 3 m (nI n)) κ1 b B := by rw [eκ1]; exact h1
  have h2 := Rel_node h1 2 (by omega) m hm (σ 4 n + 1) (fun e => absurd e (by decide))
  obtain ⟨κ2, eκ2⟩ : ∃ z, z = mdF2 κ1 b m n := ⟨_, rfl⟩
  rw [← eκ2]
  have h2 : Rel (u2 (u2 σ 3 m (nI n)) 4 m (σ 4 n + 1)) κ2 b B := by
    rw [eκ2]
    unfold mdF2
    rw [h1.2.1 n 2 hn (by omega)]
    exact h2
  have h3 := Rel_node h2 3 (by omega) m hm (σ 0 0) (fun e => absurd e (by decide))
  obtain ⟨κ3, eκ3⟩ : ∃ z, z = mdF3 κ2 b m := ⟨_, rfl⟩
  rw [← eκ3]
  have h3 : Rel (u2 (u2 (u2 σ 3 m (nI n)) 4 m (σ 4 n + 1)) 5 m (σ 0 0)) κ3 b B := by
    rw [eκ3]
    unfold mdF3
    rw [h2.1.1 12 (by omega) (by omega) (by omega)]
    exact h3
  have h4 := Rel_node h3 0 (by omega) m hm (σ 6 n) (fun e => absurd e (by decide))
  unfold mdClock
  rw [show κ3 1 (b + 20 + 7 * n + 0) = σ 6 n from h3.2.1 n 0 hn (by omega), show κ3 1 (b + 20 + 7 * m + 0) = σ 6 m from h3.2.1 m 0 hm (by omega), i_asc, Rel_mdK h3 hm0 hm]
  have e1 : mrShift (rd σ) (nI m) (σ 6 n - σ 6 m) = kfor (mrShift1 (nI m) (σ 6 n - σ 6 m)) (sK σ m) 0 (rd (u2 (u2 (u2 σ 3 m (nI n)) 4 m (σ 4 n + 1)) 5 m (σ 0 0))) := by
    unfold mrShift
    rw [hsz, nI_clamp (by omega), rd_u2 (by omega), rd_u2 (by omega), rd_u2 (by omega)]
  rw [e1, wd_shl hm _ _ _ (by omega), wd_rd, u2_shl (by omega)]
  exact Rel_shl hm0 hm _ _ _ _ h4 (by show 0 + sK σ m ≤ sK σ m; omega)
theorem Rel_hear (h : Rel σ κ b B) {m n : Nat} (hm0 : 0 < m) (hm : m < 10) (hn : n < 10) : Rel (msHear σ (nI m) (nI n)) (mdHear κ b m n) b B := by
  have e1 : κ 1 (b + 20 + 7 * m + 1) = σ 3 m := h.2.1 m 1 hm (by omega)
  have e2 : κ 1 (b + 20 + 7 * n + 1) = σ 3 n := h.2.1 n 1 hn (by omega)
  have e3 : κ 1 (b + 20 + 7 * m + 2) = σ 4 m := h.2.1 m 2 hm (by omega)
  have e4 : κ 1 (b + 20 + 7 * n + 2) = σ 4 n := h.2.1 n 2 hn (by omega)
  have eL : mdLeads κ b n = msLeads σ (nI n) := by unfold mdLeads msLeads; rw [nI_clamp (by omega), e4]
  have eB : msBetter σ (nI m) (nI n) = true ↔ (¬ σ 3 n = nI m ∧ (σ 3 m = -1 ∨ σ 4 n + 1 < σ 4 m)) := by
    unfold msBetter
    rw [nI_clamp (by omega), nI_clamp (by omega)]
    simp only [Bool.and_eq_true, Bool.or_eq_true, decide_eq_true_eq]
  unfold msHear mdHear
  rw [e1, e2, e3, e4, eL, nI_clamp (by omega)]
  by_cases c1 : σ 3 m = nI n
  · rw [if_pos c1, if_pos c1]
    by_cases c2 : msLeads σ (nI n) = true
    · rw [if_pos c2, if_pos c2]; exact Rel_follow h hm0 hm hn
    · rw [if_neg c2, if_neg c2]; exact Rel_drop h hm
  · rw [if_neg c1, if_neg c1]
    by_cases c2 : msLeads σ (nI n) = true ∧ msBetter σ (nI m) (nI n) = true
    · rw [if_pos c2, if_pos ⟨c2.1, (eB.mp c2.2)⟩]; exact Rel_follow h hm0 hm hn
    · rw [if_neg c2, if_neg (fun q => c2 ⟨q.1, eB.mpr q.2⟩)]; exact h
theorem bt_01 (x : Int32) (j : Nat) : bt x j = 0 ∨ bt x j = 1 := by
  obtain ⟨k, hk, e⟩ := pk_andE (x >>> (nI j &&& 31)) (m := 1) 1 rfl
  unfold bt
  rw [e]
  rcases (show k = 0 ∨ k = 1 by omega) with rfl | rfl
  · exact Or.inl rfl
  · exact Or.inr rfl
theorem bt_dec (x : Int32) (j : Nat) : decide (¬ bt x j = 0) = decide (bt x j = 1) := by
  rcases bt_01 x j with h | h <;> rw [h] <;> decide
theorem Rel_on (h : Rel σ κ b B) {n : Nat} (hn : n < 10) : msOn σ (nI n) = mdOn κ b n := by
  unfold msOn mdOn
  rw [nodeI hn, nI_clamp (by omega), h.2.2.2.1.2 n hn, Bool.true_and]
  exact bt_dec _ _
theorem Rel_on2 (h : Rel σ κ b B) {n : Nat} (hn : n < 10) : (σ 2 n = 0) ↔ mdOn κ b n = false := by
  rw [h.2.2.2.1.2 n hn]
  unfold mdOn
  rcases bt_01 (κ 1 (b + 10)) n with e | e
  · rw [e]
    unfold bt at e
    rw [e]
    decide
  · rw [e]
    unfold bt at e
    rw [e]
    decide
theorem at10 {a c : Nat} (ha : a < 10) (hc : c < 10) : (nI a * 10 + nI c).toNatClampNeg = 10 * a + c := by
  rw [show (10 : Int32) = nI 10 from rfl, pk_mul, nI_add, nI_clamp (by omega), Nat.mul_comm]
theorem Rel_conn (h : Rel σ κ b B) {a c : Nat} (ha : a < 10) (hc : c < 10) : msConn σ (nI a) (nI c) = mdConn κ b a c := by
  unfold msConn mdConn
  rw [Rel_on h ha, Rel_on h hc, at10 ha hc, h.2.2.2.1.1 a c ha hc, bt_dec]
  unfold bt
  cases mdOn κ b a <;> cases mdOn κ b c <;> simp
theorem Rel_heardL {n : Nat} (hn : n < 10) : ∀ (k i : Nat) (σ κ : TB), 0 < i → i + k ≤ 10 → Rel σ κ b B → Rel (kfor (msHear1 (nI n)) k i σ) (kfor (mdHear1 b n) k i κ) b B
  | 0, _, _, _, _, _, h => h
  | k + 1, i, σ, κ, h0, hi, h => by
    refine Rel_heardL hn k (i + 1) _ _ (by omega) (by omega) ?_
    unfold msHear1 mdHear1
    rw [Rel_conn h (by omega) hn]
    by_cases c : mdConn κ b i n = true
    · rw [if_pos ⟨nI_ne0 h0 (by omega), c⟩, if_pos c]
      exact Rel_hear h h0 (by omega) hn
    · rw [if_neg (fun q => c q.2), if_neg c]
      exact h
theorem Rel_heard (h : Rel σ κ b B) {n : Nat} (hn : n < 10) : Rel (msBeHeard σ (nI n)) (mdHeard κ b n) b B := by
  have e : msHear1 (nI n) 0 σ = σ := by unfold msHear1; rw [if_neg (fun q => q.1 rfl)]
  have e2 : msBeHeard σ (nI n) = kfor (msHear1 (nI n)) 9 1 σ := by
    show kfor (msHear1 (nI n)) 9 1 (msHear1 (nI n) 0 σ) = _
    rw [e]
  rw [e2]
  exact Rel_heardL hn 9 1 _ _ (by omega) (by omega) h
theorem Rel_lose (h : Rel σ κ b B) {n : Nat} (hn : n < 10) : Rel (msLose σ (nI n)) (mdLose κ b n) b B := by
  have e1 : κ 1 (b + 20 + 7 * n + 1) = σ 3 n := h.2.1 n 1 hn (by omega)
  have e2 : κ 1 (b + 20 + 7 * n + 3) = σ 5 n := h.2.1 n 3 hn (by omega)
  have e3 : κ 1 (b + 11) = σ 0 1 := h.1.1 11 (by omega) (by omega) (by omega)
  have e4 : κ 1 (b + 12) = σ 0 0 := h.1.1 12 (by omega) (by omega) (by omega)
  unfold msLose mdLose
  rw [e1, e2, e3, e4, nI_clamp (by omega)]
  split
  · exact Rel_drop h hn
  · exact h
end RR
