/-! P36: READINGS: what the lists tell, how many there are, how many are missing -/
section RD
variable {σ κ : TB} {B t : Nat}
/-- the reading at a place of a list -/
theorem part_at (h : Rel σ κ 0 B) {n i : Nat} (hn : n < 10) (hi : i < sK σ n) : ∃ id, id < sT σ ∧ σ 14 (60 * n + i) = nI id ∧ mrPart (rd σ) (nI n) (nI i) 0 = σ 9 id ∧ mrPart (rd σ) (nI n) (nI i) 1 = σ 10 id ∧ mrPart (rd σ) (nI n) (nI i) 3 = σ 12 id := by
  have iKh := h.2.2.2.2.2.2.1
  have hT := h.2.2.2.2.2.1.2.2
  obtain ⟨id, f1, f2, -⟩ := (h.2.2.2.2.1 n hn).2 i hi
  refine ⟨id, f1, f2, ?_⟩
  have e := (mrSt_n iKh hn hi).1
  rw [f2] at e
  have c : ¬ (nI id < 0 ∨ 60 ≤ nI id) := by
    rintro (q | q)
    · exact nI_pos (by omega) q
    · exact nI_lt60 (by omega) q
  unfold mrPart
  rw [e, if_neg c, if_neg c, if_neg c, nI_clamp (by omega)]
  exact ⟨rfl, rfl, rfl⟩
theorem part_id (h : Rel σ κ 0 B) {n i id : Nat} (hn : n < 10) (hi : i < sK σ n) (hid : id < sT σ) (e : σ 14 (60 * n + i) = nI id) : mrPart (rd σ) (nI n) (nI i) 0 = σ 9 id ∧ mrPart (rd σ) (nI n) (nI i) 1 = σ 10 id ∧ mrPart (rd σ) (nI n) (nI i) 3 = σ 12 id := by
  obtain ⟨id2, f1, f2, f3⟩ := part_at h hn hi
  have hT := h.2.2.2.2.2.1.2.2
  rw [e] at f2
  have := (nI_eq (by omega) (by omega)).mp f2
  rw [this]; exact f3
/-- two places of one list hold two readings -/
theorem part_ne (h : Rel σ κ 0 B) {n i j : Nat} (hn : n < 10) (hij : i < j) (hj : j < sK σ n) (h0 : mrPart (rd σ) (nI n) (nI i) 0 = mrPart (rd σ) (nI n) (nI j) 0) (h1 : mrPart (rd σ) (nI n) (nI i) 1 = mrPart (rd σ) (nI n) (nI j) 1) : False := by
  obtain ⟨a, a1, a2, a3, a4, -⟩ := part_at h hn (show i < sK σ n by omega)
  obtain ⟨b, b1, b2, b3, b4, -⟩ := part_at h hn hj
  have e := id_inj h.2.2.2.2.2.1.2.2 h.2.2.2.2.2.2.2.1 a1 b1 (by rw [← a3, ← b3, h0]) (by rw [← a4, ← b4, h1])
  rw [e] at a2
  exact (h.2.2.2.2.2.2.1 n hn).2.2 i j hij hj (a2.trans b2.symm)
theorem kcnt {p : Nat → Bool} : ∀ (k i a : Nat), ∃ c, c ≤ k ∧ kfor (fun i (a : Int32) => a + (if p i = true then 1 else 0)) k i (nI a) = nI (a + c) ∧ ((∃ j, i ≤ j ∧ j < i + k ∧ p j = true) → 0 < c)
  | 0, i, a => ⟨0, Nat.le_refl _, rfl, fun ⟨j, h1, h2, _⟩ => by omega⟩
  | k + 1, i, a => by
    by_cases c : p i = true
    · obtain ⟨d, d1, d2, -⟩ := kcnt (p := p) k (i + 1) (a + 1)
      refine ⟨d + 1, by omega, ?_, fun _ => by omega⟩
      rw [kfor_s, if_pos c, nI_1, d2, show a + 1 + d = a + (d + 1) by omega]
    · obtain ⟨d, d1, d2, d3⟩ := kcnt (p := p) k (i + 1) a
      refine ⟨d, by omega, ?_, fun ⟨j, h1, h2, h3⟩ => d3 ⟨j, ?_, by omega, h3⟩⟩
      · rw [kfor_s, if_neg c, Int32.add_zero, d2]
      · by_cases e : j = i
        · subst e; exact absurd h3 c
        · omega
theorem stores_n (iKh : iK σ) (id : Nat) : ∃ c, c ≤ 10 ∧ mrStores (rd σ) (nI id) = nI c ∧ ((∃ n i, 0 < n ∧ n < 10 ∧ i < sK σ n ∧ σ 14 (60 * n + i) = nI id) → 0 < c) := by
  obtain ⟨c, c1, c2, c3⟩ := kcnt (p := fun i => decide (¬ nI i = 0 ∧ mrHolds (rd σ) (nI i) (nI id) = true)) 10 0 0
  refine ⟨c, c1, ?_, fun ⟨n, i, n0, n1, n2, n3⟩ => c3 ⟨n, by omega, by omega, decide_eq_true ⟨nI_ne0 n0 (by omega), (holds_iff iKh n1).mpr ⟨i, n2, n3⟩⟩⟩⟩
  rw [Nat.zero_add] at c2
  rw [← c2]
  unfold mrStores
  refine kfor_ext 10 0 0 _ (fun d z _ => ?_)
  show z + _ = z + _
  congr 1
  by_cases q : ¬ nI (0 + d) = 0 ∧ mrHolds (rd σ) (nI (0 + d)) (nI id) = true
  · rw [if_pos q, if_pos (decide_eq_true q)]
  · rw [if_neg q, if_neg (fun z => q (of_decide_eq_true z))]
def cop (σ : TB) (m x : Int32) : Int32 := if mrFind (rd σ) m x = -1 then -1 else mrStores (rd σ) (mrFind (rd σ) m x)
theorem cop_id (h : Rel σ κ 0 B) {id : Nat} (hid : id < sT σ) {m x : Int32} (h9 : σ 9 id = m) (h10 : σ 10 id = x) : ∃ c, c ≤ 10 ∧ cop σ m x = nI c ∧ ((∃ n i, 0 < n ∧ n < 10 ∧ i < sK σ n ∧ σ 14 (60 * n + i) = nI id) → 0 < c) := by
  obtain ⟨c, c1, c2, c3⟩ := stores_n h.2.2.2.2.2.2.1 id
  obtain ⟨m0, m1, m2, m3, m4⟩ := h.2.2.2.2.2.2.2.1 id hid
  have hT := h.2.2.2.2.2.1.2.2
  refine ⟨c, c1, ?_, c3⟩
  unfold cop
  have e : mrFind (rd σ) m x = nI id := by
    rw [← h9, m3]
    exact Rel_find h hid m3 h10
  rw [e, if_neg (nI_ne (by omega)), c2]
theorem cop_no (h : Rel σ κ 0 B) {m j : Nat} (hm : m < 10) (hj : cnt (σ 9) m (sT σ) ≤ j) (hj2 : j < 2 ^ 31) : cop σ (nI m) (nI j) = -1 := by
  have hT := h.2.2.2.2.2.1.2.2
  unfold cop
  rw [if_pos]
  refine Rel_find0 h (fun id hid h9 h10 => ?_)
  obtain ⟨m0, m1, m2, m3, m4⟩ := h.2.2.2.2.2.2.2.1 id hid
  have e : m = m0 := (nI_eq (by omega) (by omega)).mp (h9.symm.trans m3)
  subst e
  have l := cnt_lt hid h9
  have l2 := cnt_le (f := σ 9) (m := m) (k := sT σ)
  rw [m4] at h10
  have := (nI_eq (by omega) (by omega)).mp h10
  omega
/-- the reading with the number j of m -/
theorem num_ex (h : Rel σ κ 0 B) {m j : Nat} (hm : m < 10) (hj : j < cnt (σ 9) m (sT σ)) : ∃ id, id < sT σ ∧ σ 9 id = nI m ∧ σ 10 id = nI j ∧ cnt (σ 9) m id = j := by
  obtain ⟨id, i1, i2, i3⟩ := cnt_ex (sT σ) hj
  obtain ⟨m0, m1, m2, m3, m4⟩ := h.2.2.2.2.2.2.2.1 id i1
  have e : m = m0 := (nI_eq (by omega) (by omega)).mp (i2.symm.trans m3)
  subst e
  exact ⟨id, i1, i2, by rw [m4, i3], i3⟩
def cq (σ : TB) (m j i : Nat) : Bool := decide (mrPart (rd σ) 0 (nI i) 0 = nI m) && decide (mrPart (rd σ) 0 (nI i) 1 = nI j)
def inC (σ : TB) (m j : Nat) : Bool := kfor (fun i r => r || cq σ m j i) (sK σ 0) 0 false
theorem inC_id (h : Rel σ κ 0 B) {m j id : Nat} (hm : m < 10) (hid : id < sT σ) (h9 : σ 9 id = nI m) (h10 : σ 10 id = nI j) : inC σ m j = true ↔ ∃ i, i < sK σ 0 ∧ σ 14 i = nI id := by
  unfold inC
  rw [kor_iff]
  constructor
  · rintro (q | ⟨i, -, i2, i3⟩)
    · exact absurd q Bool.false_ne_true
    · unfold cq at i3
      rw [Bool.and_eq_true, decide_eq_true_eq, decide_eq_true_eq] at i3
      have hi : i < sK σ 0 := by omega
      obtain ⟨a, a1, a2, a3, a4, -⟩ := part_at h (show 0 < 10 by omega) hi
      have e := id_inj h.2.2.2.2.2.1.2.2 h.2.2.2.2.2.2.2.1 a1 hid (by rw [← a3, h9]; exact i3.1) (by rw [← a4, h10]; exact i3.2)
      subst e
      rw [show 60 * 0 + i = i by omega] at a2
      exact ⟨i, hi, a2⟩
  · rintro ⟨i, i1, i2⟩
    refine Or.inr ⟨i, by omega, by omega, ?_⟩
    obtain ⟨p0, p1, -⟩ := part_id h (show 0 < 10 by omega) i1 hid (by rw [show 60 * 0 + i = i by omega]; exact i2)
    unfold cq
    rw [Bool.and_eq_true, decide_eq_true_eq, decide_eq_true_eq]
    exact ⟨p0.trans h9, p1.trans h10⟩
end RD
/-! sums -/
def sm (f : Nat → Nat) : Nat → Nat
  | 0 => 0
  | k + 1 => sm f k + f (k + 1)
def su (f : Nat → Nat) : Nat → Nat
  | 0 => 0
  | k + 1 => su f k + f k
theorem sm_add (f g : Nat → Nat) : ∀ k, sm (fun m => f m + g m) k = sm f k + sm g k
  | 0 => rfl
  | k + 1 => by
    show sm (fun m => f m + g m) k + (f (k + 1) + g (k + 1)) = sm f k + f (k + 1) + (sm g k + g (k + 1))
    rw [sm_add f g k]; omega
theorem sm_ext {f g : Nat → Nat} : ∀ k, (∀ m, 0 < m → m ≤ k → f m = g m) → sm f k = sm g k
  | 0, _ => rfl
  | k + 1, h => by
    show sm f k + f (k + 1) = sm g k + g (k + 1)
    rw [sm_ext k (fun m h1 h2 => h m h1 (by omega)), h (k + 1) (by omega) (Nat.le_refl _)]
theorem sm_one (m0 x : Nat) : ∀ k, sm (fun m => if m0 = m then x else 0) k = if 0 < m0 ∧ m0 ≤ k then x else 0
  | 0 => by rw [if_neg (fun q => by omega)]; rfl
  | k + 1 => by
    show sm (fun m => if m0 = m then x else 0) k + (if m0 = k + 1 then x else 0) = _
    rw [sm_one m0 x k]
    by_cases c : m0 = k + 1
    · rw [if_neg (fun q => by omega), if_pos c, if_pos ⟨by omega, by omega⟩, Nat.zero_add]
    · rw [if_neg c, Nat.add_zero]
      by_cases d : 0 < m0 ∧ m0 ≤ k
      · rw [if_pos d, if_pos ⟨d.1, by omega⟩]
      · rw [if_neg d, if_neg (fun q => d ⟨q.1, by omega⟩)]
theorem sm_0 : ∀ k, sm (fun _ => 0) k = 0
  | 0 => rfl
  | k + 1 => by show sm (fun _ => 0) k + 0 = 0; rw [sm_0 k]
theorem su_ext {f g : Nat → Nat} : ∀ k, (∀ m, m < k → f m = g m) → su f k = su g k
  | 0, _ => rfl
  | k + 1, h => by
    show su f k + f k = su g k + g k
    rw [su_ext k (fun m h1 => h m (by omega)), h k (by omega)]
theorem su_add (f g : Nat → Nat) : ∀ k, su (fun m => f m + g m) k = su f k + su g k
  | 0 => rfl
  | k + 1 => by
    show su (fun m => f m + g m) k + (f k + g k) = su f k + f k + (su g k + g k)
    rw [su_add f g k]; omega
theorem su_one (m0 : Nat) : ∀ k, su (fun m => if m0 = m then 1 else 0) k = if m0 < k then 1 else 0
  | 0 => by rw [if_neg (by omega)]; rfl
  | k + 1 => by
    show su (fun m => if m0 = m then 1 else 0) k + (if m0 = k then 1 else 0) = _
    rw [su_one m0 k]
    by_cases c : m0 = k
    · rw [if_neg (by omega), if_pos c, if_pos (by omega)]
    · rw [if_neg c, Nat.add_zero]
      by_cases d : m0 < k
      · rw [if_pos d, if_pos (by omega)]
      · rw [if_neg d, if_neg (by omega)]
theorem su_1 : ∀ k, su (fun _ => 1) k = k
  | 0 => rfl
  | k + 1 => by show su (fun _ => 1) k + 1 = k + 1; rw [su_1 k]
theorem su_0 : ∀ k, su (fun _ => 0) k = 0
  | 0 => rfl
  | k + 1 => by show su (fun _ => 0) k + 0 = 0; rw [su_0 k]
/-- as many as a list of different ones is long -/
theorem su_inj {L : Nat → Nat} {T : Nat} : ∀ (c : Nat), (∀ i, i < c → L i < T) → (∀ i j, i < j → j < c → L i ≠ L j) → su (fun id => if kany (fun i => decide (L i = id)) c 0 = true then 1 else 0) T = c
  | 0, _, _ => by
    exact (su_ext (g := fun _ => 0) T (fun m _ => if_neg (fun q => absurd (show false = true from q) (by decide)))).trans (su_0 T)
  | c + 1, h1, h2 => by
    have ih := su_inj c (fun i hi => h1 i (by omega)) (fun i j a b => h2 i j a (by omega))
    have e : ∀ id, (if kany (fun i => decide (L i = id)) (c + 1) 0 = true then 1 else 0) = (if kany (fun i => decide (L i = id)) c 0 = true then 1 else 0) + (if L c = id then 1 else 0) := fun id => by
      by_cases a : ∃ j, 0 ≤ j ∧ j < 0 + c ∧ decide (L j = id) = true
      · obtain ⟨j, j1, j2, j3⟩ := a
        have n : ¬ L c = id := fun q => h2 j c (by omega) (by omega) ((of_decide_eq_true j3).trans q.symm)
        rw [if_pos ((kany_iff (c + 1) 0).mpr ⟨j, j1, by omega, j3⟩), if_pos ((kany_iff c 0).mpr ⟨j, j1, j2, j3⟩), if_neg n]
      · rw [if_neg (show ¬ kany (fun i => decide (L i = id)) c 0 = true from fun q => a ((kany_iff c 0).mp q))]
        by_cases d : L c = id
        · rw [if_pos d, if_pos ((kany_iff (c + 1) 0).mpr ⟨c, by omega, by omega, decide_eq_true d⟩)]
        · rw [if_neg d, if_neg]
          intro q
          obtain ⟨j, j1, j2, j3⟩ := (kany_iff (c + 1) 0).mp q
          by_cases z : j = c
          · rw [z] at j3; exact d (of_decide_eq_true j3)
          · exact a ⟨j, j1, by omega, j3⟩
    rw [su_ext T (fun m _ => e m), su_add, ih, su_one, if_pos (h1 c (by omega))]
section RM
variable {σ κ : TB} {B t : Nat}
theorem all_T (h : Rel σ κ 0 B) : ∀ T, T ≤ sT σ → sm (fun m => cnt (σ 9) m T) 9 = T
  | 0, _ => sm_0 9
  | T + 1, hT => by
    obtain ⟨m0, m1, m2, m3, -⟩ := h.2.2.2.2.2.2.2.1 T (by omega)
    have e : ∀ m, 0 < m → m ≤ 9 → cnt (σ 9) m (T + 1) = cnt (σ 9) m T + (if m0 = m then 1 else 0) := fun m _ hm => by
      show cnt (σ 9) m T + _ = _
      rw [m3]
      by_cases c : m0 = m
      · rw [if_pos (by rw [c]), if_pos c]
      · rw [if_neg (fun q => c ((nI_eq (by omega) (by omega)).mp q)), if_neg c]
    rw [sm_ext 9 e, sm_add, all_T h T (by omega), sm_one, if_pos ⟨m1, by omega⟩]
def colB (σ : TB) (id : Nat) : Bool := kany (fun i => decide (σ 14 i = nI id)) (sK σ 0) 0
def mm (σ : TB) (m : Nat) : Nat → Nat
  | 0 => 0
  | j + 1 => mm σ m j + (if inC σ m j = true then 0 else 1)
theorem colB_iff (id : Nat) : colB σ id = true ↔ ∃ i, i < sK σ 0 ∧ σ 14 i = nI id := by
  unfold colB
  rw [kany_iff]
  constructor
  · rintro ⟨j, -, h2, h3⟩; exact ⟨j, by omega, of_decide_eq_true h3⟩
  · rintro ⟨j, h2, h3⟩; exact ⟨j, by omega, by omega, decide_eq_true h3⟩
theorem miss_T (h : Rel σ κ 0 B) : ∀ T, T ≤ sT σ → sm (fun m => mm σ m (cnt (σ 9) m T)) 9 = su (fun id => if colB σ id = true then 0 else 1) T
  | 0, _ => sm_0 9
  | T + 1, hT => by
    obtain ⟨m0, m1, m2, m3, m4⟩ := h.2.2.2.2.2.2.2.1 T (by omega)
    have e : ∀ m, 0 < m → m ≤ 9 → mm σ m (cnt (σ 9) m (T + 1)) = mm σ m (cnt (σ 9) m T) + (if m0 = m then (if colB σ T = true then 0 else 1) else 0) := fun m _ hm => by
      have e1 : cnt (σ 9) m (T + 1) = cnt (σ 9) m T + (if σ 9 T = nI m then 1 else 0) := rfl
      rw [e1, m3]
      by_cases c : m0 = m
      · subst c
        rw [if_pos rfl, if_pos rfl]
        show mm σ m0 (cnt (σ 9) m0 T) + (if inC σ m0 (cnt (σ 9) m0 T) = true then 0 else 1) = _
        congr 1
        have e2 := inC_id h m2 (show T < sT σ by omega) m3 m4
        by_cases d : colB σ T = true
        · rw [if_pos d, if_pos (e2.mpr ((colB_iff T).mp d))]
        · rw [if_neg d, if_neg (fun q => d ((colB_iff T).mpr (e2.mp q)))]
      · rw [if_neg (fun q => c ((nI_eq (by omega) (by omega)).mp q)), if_neg c]
        rfl
    rw [sm_ext 9 e, sm_add, miss_T h T (by omega), sm_one, if_pos ⟨m1, by omega⟩]
    rfl
theorem coll_n (h : Rel σ κ 0 B) : su (fun id => if colB σ id = true then 1 else 0) (sT σ) = sK σ 0 := by
  have hT := h.2.2.2.2.2.1.2.2
  have iKh := h.2.2.2.2.2.2.1
  have key : ∀ i, i < sK σ 0 → ∃ id, id < sT σ ∧ σ 14 i = nI id := fun i hi => by
    obtain ⟨id, h1, h2, -⟩ := (h.2.2.2.2.1 0 (by omega)).2 i hi
    rw [show 60 * 0 + i = i by omega] at h2
    exact ⟨id, h1, h2⟩
  have hL : ∀ i, i < sK σ 0 → (σ 14 i).toNatClampNeg < sT σ ∧ σ 14 i = nI (σ 14 i).toNatClampNeg := fun i hi => by
    obtain ⟨id, h1, h2⟩ := key i hi
    rw [h2, nI_clamp (by omega)]
    exact ⟨h1, rfl⟩
  have e := su_inj (L := fun i => (σ 14 i).toNatClampNeg) (T := sT σ) (sK σ 0) (fun i hi => (hL i hi).1) (fun i j hij hj q => by
    refine (iKh 0 (by omega)).2.2 i j hij hj ?_
    rw [show 60 * 0 + i = i by omega, show 60 * 0 + j = j by omega, (hL i (by omega)).2, (hL j hj).2]
    exact congrArg nI q)
  rw [← e]
  refine su_ext _ (fun id hid => ?_)
  have q : colB σ id = true ↔ kany (fun i => decide ((σ 14 i).toNatClampNeg = id)) (sK σ 0) 0 = true := by
    rw [colB_iff, kany_iff]
    constructor
    · rintro ⟨i, i1, i2⟩
      exact ⟨i, by omega, by omega, decide_eq_true (by rw [i2, nI_clamp (by omega)])⟩
    · rintro ⟨i, -, i2, i3⟩
      exact ⟨i, by omega, by rw [(hL i (by omega)).2, of_decide_eq_true i3]⟩
  by_cases d : colB σ id = true
  · rw [if_pos d, if_pos (q.mp d)]
  · rw [if_neg d, if_neg (fun z => d (q.mpr z))]
theorem miss_n (h : Rel σ κ 0 B) : sK σ 0 ≤ sT σ ∧ sm (fun m => mm σ m (cnt (σ 9) m (sT σ))) 9 = sT σ - sK σ 0 := by
  have e1 := coll_n h
  have e2 := miss_T h (sT σ) (Nat.le_refl _)
  have e3 := su_add (fun id => if colB σ id = true then 1 else 0) (fun id => if colB σ id = true then 0 else 1) (sT σ)
  rw [su_ext (g := fun _ => 1) (sT σ) (fun m _ => by by_cases c : colB σ m = true <;> simp [c]), su_1, e1, ← e2] at e3
  omega
theorem mrMissing_n (h : Rel σ κ 0 B) : mrMissing (rd σ) = nI (sT σ - sK σ 0) := by
  unfold mrMissing
  have e : rd σ 0 0 = nI (sT σ) := h.2.2.2.2.2.1.2.1
  rw [e, show (0 : Int32) = nI 0 from rfl, mrSize_n h.2.2.2.2.2.2.1 (by omega), pk_sub (miss_n h).1]
/-- whoever isn't collected is in a store -/
theorem cop_pos (h : Rel σ κ 0 B) (hV : jV σ) {m j : Nat} (hm : m < 10) (hj : j < cnt (σ 9) m (sT σ)) (hc : ¬ inC σ m j = true) : ∃ c, 0 < c ∧ c ≤ 10 ∧ cop σ (nI m) (nI j) = nI c := by
  obtain ⟨id, i1, i2, i3, -⟩ := num_ex h hm hj
  obtain ⟨c, c1, c2, c3⟩ := cop_id h i1 i2 i3
  obtain ⟨n, i, n1, n2, n3⟩ := hV id i1
  refine ⟨c, c3 ⟨n, i, ?_, n1, n2, n3⟩, c1, c2⟩
  rcases Nat.eq_zero_or_pos n with q | q
  · subst q
    rw [show 60 * 0 + i = i by omega] at n3
    exact absurd ((inC_id h hm i1 i2 i3).mpr ⟨i, n2, n3⟩) hc
  · exact q
theorem cop_nn (h : Rel σ κ 0 B) {m j : Nat} (hm : m < 10) (hj : j < cnt (σ 9) m (sT σ)) : ∃ c, c ≤ 10 ∧ cop σ (nI m) (nI j) = nI c := by
  obtain ⟨id, i1, i2, i3, -⟩ := num_ex h hm hj
  obtain ⟨c, c1, c2, -⟩ := cop_id h i1 i2 i3
  exact ⟨c, c1, c2⟩
end RM
