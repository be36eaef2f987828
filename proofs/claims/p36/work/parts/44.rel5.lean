/-! THE RELATION: bits, links, switches, taking, copies, and the rest of the row that stays -/
theorem sl_n : ∀ n, n < 32 → ((nI n &&& 31).toBitVec.smod 32).toNat = n := by decide +kernel
theorem sh_n : ∀ l, l < 32 → ((1 : Int32) <<< (nI l &&& 31)).toBitVec = BitVec.twoPow 32 l := by decide +kernel
theorem bt_eq (x : Int32) {j : Nat} (hj : j < 32) : bt x j = if x.toBitVec.getLsbD j = true then 1 else 0 := by
  apply Int32.toBitVec_inj.mp
  unfold bt
  rw [Int32.toBitVec_and, Int32.toBitVec_shiftRight]
  apply BitVec.eq_of_getLsbD_eq
  intro i hi
  rw [BitVec.getLsbD_and, BitVec.sshiftRight', sl_n j hj, BitVec.getLsbD_sshiftRight]
  have e1 : (1 : Int32).toBitVec = 1#32 := rfl
  have e0 : (0 : Int32).toBitVec = 0#32 := rfl
  by_cases h0 : i = 0
  · subst h0
    rw [e1, Nat.add_zero, if_pos hj]
    cases hb : x.toBitVec.getLsbD j
    · rw [if_neg (by decide), e0]; rfl
    · rw [if_pos rfl, e1]; rfl
  · have h1 : (1#32).getLsbD i = false := by
      rw [BitVec.getLsbD_one]
      simp [h0]
    rw [e1, h1, Bool.and_false]
    split
    · rw [e1, h1]
    · rw [e0, BitVec.getLsbD_zero]
theorem bt_set (x v : Int32) {i j : Nat} (hi : i < 32) (hj : j < 32) : bt (mdBit x j v) i = if i = j then (if v = 0 then 0 else 1) else bt x i := by
  rw [bt_eq _ hi, bt_eq _ hi]
  unfold mdBit
  by_cases hv : v = 0
  · rw [if_pos hv, if_pos hv]
    have e : (x &&& ((1 <<< (nI j &&& 31)) ^^^ (-1))).toBitVec.getLsbD i = (x.toBitVec.getLsbD i && !decide (i = j)) := by
      rw [Int32.toBitVec_and, Int32.toBitVec_xor, sh_n j hj, show (-1 : Int32).toBitVec = BitVec.allOnes 32 from rfl, BitVec.getLsbD_and, BitVec.getLsbD_xor, BitVec.getLsbD_allOnes, BitVec.getLsbD_twoPow, decide_eq_true hj, decide_eq_true hi]
      by_cases c : j = i
      · subst c; simp
      · rw [decide_eq_false c, decide_eq_false (fun q => c q.symm)]; simp
    rw [e]
    by_cases c : i = j
    · rw [if_pos c, decide_eq_true c]; simp
    · rw [if_neg c, decide_eq_false c]; simp
  · rw [if_neg hv, if_neg hv]
    have e : (x ||| (1 <<< (nI j &&& 31))).toBitVec.getLsbD i = (x.toBitVec.getLsbD i || decide (i = j)) := by
      rw [Int32.toBitVec_or, sh_n j hj, BitVec.getLsbD_or, BitVec.getLsbD_twoPow, decide_eq_true hj]
      by_cases c : j = i
      · subst c; simp
      · rw [decide_eq_false c, decide_eq_false (fun q => c q.symm)]; simp
    rw [e]
    by_cases c : i = j
    · rw [if_pos c, decide_eq_true c]; simp
    · rw [if_neg c, decide_eq_false c]; simp
/-- what is written of the row by a method lies in the block b -/
def fr (b : Nat) (κ κ2 : TB) : Prop := ∀ c, (c < b ∨ b + 690 ≤ c) → κ2 1 c = κ 1 c
section FR
variable {κ κ1 κ2 : TB} {b : Nat}
theorem fr_rf : fr b κ κ := fun _ _ => rfl
theorem fr_tr (h : fr b κ κ1) (h2 : fr b κ1 κ2) : fr b κ κ2 := fun c hc => (h2 c hc).trans (h c hc)
theorem fr_u2 {i : Nat} {x : Int32} (h : b ≤ i) (h2 : i < b + 690) : fr b κ (u2 κ 1 i x) := fun c hc => u2_no (fun _ => by omega)
theorem fr_inc {i : Nat} (h : b ≤ i) (h2 : i < b + 690) : fr b κ (mdInc κ i) := fr_u2 h h2
theorem fr_kfor {f : Nat → TB → TB} (K : Nat) (hf : ∀ j ξ, j < K → fr b ξ (f j ξ)) : ∀ (k i : Nat) (κ : TB), i + k ≤ K → fr b κ (kfor f k i κ)
  | 0, _, _, _ => fr_rf
  | k + 1, i, κ, h => fr_tr (hf i κ (by omega)) (fr_kfor K hf k (i + 1) _ (by omega))
theorem fr_drop {m : Nat} (hm : m < 10) : fr b κ (mdDrop κ b m) := fr_tr (fr_tr (fr_u2 (by omega) (by omega)) (fr_u2 (by omega) (by omega))) (fr_inc (by omega) (by omega))
theorem fr_clock {m n : Nat} (hm : m < 10) (hK : mdK κ b m ≤ 6) : fr b κ (mdClock κ b m n) :=
  fr_tr (fr_u2 (by omega) (by omega)) (fr_kfor 6 (fun j ξ hj => fr_u2 (by omega) (by omega)) _ 0 _ (by omega))
theorem fr_follow {m n : Nat} (hm : m < 10) (hK : mdK κ b m ≤ 6) : fr b κ (mdFollow κ b m n) := by
  unfold mdFollow
  refine fr_tr (fr_tr (fr_tr (fr_u2 (by omega) (by omega)) (fr_u2 (by omega) (by omega))) (fr_u2 (by omega) (by omega))) (fr_clock hm ?_)
  have e : mdK (mdF3 (mdF2 (mdF1 κ b m n) b m n) b m) b m = mdK κ b m := by
    unfold mdF3 mdF2 mdF1
    rw [mdK_u2 (by omega), mdK_u2 (by omega), mdK_u2 (by omega)]
  exact Nat.le_trans (Nat.le_of_eq e) hK
theorem fr_hear {m n : Nat} (hm : m < 10) (hK : mdK κ b m ≤ 6) : fr b κ (mdHear κ b m n) := by
  unfold mdHear
  split
  · split
    · exact fr_follow hm hK
    · exact fr_drop hm
  · split
    · exact fr_follow hm hK
    · exact fr_rf
theorem fr_heardL {n : Nat} : ∀ (k i : Nat) (κ : TB), i + k ≤ 10 → okA κ b → fr b κ (kfor (mdHear1 b n) k i κ)
  | 0, _, _, _, _ => fr_rf
  | k + 1, i, κ, h, hA => by
    refine fr_tr ?_ (fr_heardL k (i + 1) _ (by omega) (okA_hear1 (by omega) hA))
    unfold mdHear1
    split
    · exact fr_hear (by omega) (hA i (by omega)).2
    · exact fr_rf
theorem fr_lose {n : Nat} (hn : n < 10) : fr b κ (mdLose κ b n) := by
  unfold mdLose
  split
  · exact fr_drop hn
  · exact fr_rf
theorem fr_write {i j : Nat} {v : Int32} (h : b ≤ j) (h2 : j + 5 ≤ b + 690) : fr b κ (mdWrite κ i j v) := fun c hc => mdWrite_ne (by omega)
theorem fr_hand {i n : Nat} {v : Int32} (hn : n < 10) (hC : n = 0 → mdColl κ b i = false → mdC κ b < 60) (hK : mdK κ b n ≤ 6) : fr b κ (mdHand κ b i n v) := by
  unfold mdHand
  split
  · rename_i h0
    split
    · exact fr_inc (by omega) (by omega)
    · rename_i h1
      have := hC h0 (by cases hb : mdColl κ b i with | true => exact absurd hb h1 | false => rfl)
      exact fr_tr (fr_write (by omega) (by omega)) (fr_inc (by omega) (by omega))
  · split
    · exact fr_inc (by omega) (by omega)
    · split
      · exact fr_inc (by omega) (by omega)
      · exact fr_tr (fr_write (by omega) (by omega)) (fr_inc (by omega) (by omega))
theorem fr_remove {m : Nat} (hm : m < 10) (hK : mdK κ b m ≤ 6) : fr b κ (mdRemove κ b m) := by
  unfold mdRemove
  refine fr_tr (κ1 := u2 κ 1 (b + 20 + 7 * m + 6) (nI (mdK κ b m - 1))) (fr_u2 (by omega) (by omega)) (fun c hc => ?_)
  rw [rml, if_neg (by omega)]
theorem fr_sendA {m : Nat} (hm : m < 10) (hA : okA κ b) (hS : okSend κ b m) : fr b κ (mdSendA κ b m) := by
  unfold mdSendA
  by_cases c : κ 1 (b + 20 + 7 * m + 1) = -1
  · rw [if_pos c]; exact fr_rf
  · rw [if_neg c]
    obtain ⟨-, hp, h3, h4⟩ := hS.resolve_left c
    unfold mdSend
    by_cases c2 : mdK κ b m = 0 ∨ mdConn κ b m (mdP κ b m) = false
    · rw [if_pos c2]; exact fr_rf
    · rw [if_neg c2]
      have hK : 0 < mdK κ b m := Nat.pos_of_ne_zero (fun q => c2 (Or.inl q))
      have f1 : fr b κ (mdInc κ (b + 14)) := fr_inc (by omega) (by omega)
      have e1 : mdK (mdInc κ (b + 14)) b (mdP κ b m) = mdK κ b (mdP κ b m) := mdK_u2 (by omega)
      have f2 := fr_tr f1 (fr_hand (κ := mdInc κ (b + 14)) (i := b + 90 + 5 * (6 * m + 0)) (v := mdInc κ (b + 14) 1 (b + 20 + 7 * mdP κ b m + 0) - mdInc κ (b + 14) 1 (b + 20 + 7 * m + 0)) hp (h3 hK) (by rw [e1]; exact (hA _ hp).2))
      unfold mdSend2
      by_cases c3 : mdHandR (mdInc κ (b + 14)) b (b + 90 + 5 * (6 * m + 0)) (mdP κ b m) = false
      · rw [if_pos c3]; exact f2
      · rw [if_neg c3]
        have c4 : mdHandR (mdInc κ (b + 14)) b (b + 90 + 5 * (6 * m + 0)) (mdP κ b m) = true := by
          cases hb : mdHandR (mdInc κ (b + 14)) b (b + 90 + 5 * (6 * m + 0)) (mdP κ b m) with
          | true => rfl
          | false => exact absurd hb c3
        split
        · exact fr_tr (fr_tr f2 (fr_u2 (by omega) (by omega))) (fr_inc (by omega) (by omega))
        · exact fr_tr f2 (fr_remove hm (h4 hK c4).1.2)
theorem okA_heardL {n : Nat} : ∀ (k i : Nat) (κ : TB), i + k ≤ 10 → okA κ b → okA (kfor (mdHear1 b n) k i κ) b
  | 0, _, _, _, h => h
  | k + 1, i, κ, h, hA => okA_heardL k (i + 1) _ (by omega) (okA_hear1 (by omega) hA)
theorem fr_slot (h : okSlot κ b) : fr b κ (mdSlot κ b) := by
  obtain ⟨h1, h2, h3, h4⟩ := h
  have ht : mdT κ b % 10 < 10 := Nat.mod_lt _ (by decide)
  unfold mdSlot
  refine fr_tr ?_ (fr_inc (by omega) (by omega))
  unfold mdTurn
  have hA1 : okA (mdLose κ b (mdT κ b % 10)) b := by
    unfold mdLose
    split
    · exact okA_drop h1
    · exact h1
  have f1 : fr b κ (mdHeard (mdLose κ b (mdT κ b % 10)) b (mdT κ b % 10)) := fr_tr (fr_lose ht) (fr_heardL 9 1 _ (by omega) hA1)
  split
  · rename_i c
    split
    · rename_i c2
      exact fr_tr f1 (fr_sendA ht (okA_heardL 9 1 _ (by omega) hA1) (h4 c c2))
    · exact f1
  · exact fr_rf
theorem fr_runL {σ : TB} {B : Nat} : ∀ (k i : Nat) (σ κ : TB) (B : Nat), Rel σ κ b B → B + k < 2 ^ 30 → fr b κ (kfor (fun _ κ => mdSlot κ b) k i κ)
  | 0, _, _, _, _, _, _ => fr_rf
  | k + 1, i, σ, κ, B, h, hB => fr_tr (fr_slot (Rel_okSlot h (by omega))) (fr_runL (σ := σ) (B := B) k (i + 1) _ _ (B + 1) (Rel_slot h (by omega)) (by omega))
theorem fr_run {σ : TB} {B k : Nat} (h : Rel σ κ b B) (hB : B + k < 2 ^ 30) : fr b κ (mdRun κ b k) := fr_runL (σ := σ) (B := B) k 0 _ _ B h hB
/-- a Relation in another block stays -/
theorem Rel_fr {σ : TB} {b2 B : Nat} (h : Rel σ κ b2 B) (hf : fr b κ κ2) (hb : b2 + 690 ≤ b ∨ b + 690 ≤ b2) : Rel σ κ2 b2 B := Rel_congr h (fun _ _ _ _ => rfl) (fun c hc => hf _ (by omega))
theorem Rel_r1 {σ : TB} {B : Nat} (h : Rel σ κ b B) (e : κ2 1 = κ 1) : Rel σ κ2 b B := Rel_congr h (fun _ _ _ _ => rfl) (fun c _ => by rw [e])
theorem layl {i j : Nat} (hd : i ≠ j) : ∀ (k c0 : Nat) (κ : TB), c0 + k ≤ 690 → ∀ c, kfor (mdLay1 i j) k c0 κ 1 c = if 690 * j + c0 ≤ c ∧ c < 690 * j + c0 + k then κ 1 (690 * i + (c - 690 * j)) else κ 1 c
  | 0, c0, κ, _, c => by rw [if_neg (fun q => by omega)]; rfl
  | k + 1, c0, κ, h, c => by
    show kfor (mdLay1 i j) k (c0 + 1) (mdLay1 i j c0 κ) 1 c = _
    have e2 : ∀ c, mdLay1 i j c0 κ 1 c = if c = 690 * j + c0 then κ 1 (690 * i + c0) else κ 1 c := fun c => by
      unfold mdLay1
      rw [u2_v]
      by_cases d : c = 690 * j + c0
      · rw [if_pos ⟨rfl, d⟩, if_pos d]
      · rw [if_neg (fun q => d q.2), if_neg d]
    rw [layl hd k (c0 + 1) _ (by omega) c, e2, e2]
    by_cases d1 : 690 * j + (c0 + 1) ≤ c ∧ c < 690 * j + (c0 + 1) + k
    · rw [if_pos d1, if_neg (by omega), if_pos (by omega)]
    · rw [if_neg d1]
      by_cases d2 : c = 690 * j + c0
      · rw [if_pos d2, if_pos (by omega), show c - 690 * j = c0 by omega]
      · rw [if_neg d2, if_neg (by omega)]
theorem mdLay_v {i j : Nat} (hd : i ≠ j) (c : Nat) : mdLay κ i j 1 c = if 690 * j ≤ c ∧ c < 690 * j + 690 then κ 1 (690 * i + (c - 690 * j)) else κ 1 c := layl hd 690 0 κ (by omega) c
theorem fr_lay {i j : Nat} (hd : i ≠ j) : fr (690 * j) κ (mdLay κ i j) := fun c hc => by rw [mdLay_v hd, if_neg (by omega)]
theorem Rel_lay {σ : TB} {i j B : Nat} (hd : i ≠ j) (h : Rel σ κ (690 * i) B) : Rel σ (mdLay κ i j) (690 * j) B :=
  Rel_congr h (fun _ _ _ _ => rfl) (fun c hc => by rw [mdLay_v hd, if_pos (by omega), show 690 * i + (690 * j + c - 690 * j) = 690 * i + c by omega])
theorem copy_v {ρ σ : TB} {r k : Nat} (hr : r < 16) (hk : k < rw_len r) : msCopy ρ σ r k = σ r k := rfl
theorem Rel_copy {ρ σ : TB} {B : Nat} (h : Rel σ κ b B) : Rel (msCopy ρ σ) κ b B := Rel_congr h (fun _ _ hr hk => copy_v hr hk) (fun _ _ => rfl)
end FR
