/-! sets of the numbers 0 to 63 in a long -/
def bsN (p : Int → Bool) : Nat → Nat
  | 0 => 0
  | n + 1 => bsN p n + (if p (n : Int) = true then 2 ^ n else 0)
theorem bsN_lt (p : Int → Bool) : ∀ n : Nat, bsN p n < 2 ^ n
  | 0 => by show (0 : Nat) < 2 ^ 0; decide
  | n + 1 => by
    have h := bsN_lt p n
    simp only [bsN, Nat.pow_succ]
    by_cases c : p (n : Int) = true
    · rw [if_pos c]; omega
    · rw [if_neg c]; omega
theorem bsN_bit (p : Int → Bool) : ∀ n i : Nat, (bsN p n).testBit i = (decide (i < n) && p (i : Int))
  | 0, i => by simp [bsN]
  | n + 1, i => by
    have hl := bsN_lt p n
    have ih := bsN_bit p n i
    have e : bsN p (n + 1) = 2 ^ n * (if p (n : Int) = true then 1 else 0) + bsN p n := by
      simp only [bsN]
      by_cases c : p (n : Int) = true
      · rw [if_pos c, if_pos c]; omega
      · rw [if_neg c, if_neg c]; omega
    rw [e, Nat.testBit_two_pow_mul_add _ hl]
    by_cases h : i < n
    · rw [if_pos h, ih]; simp [h, Nat.lt_succ_of_lt h]
    · rw [if_neg h]
      by_cases h2 : i = n
      · subst h2
        by_cases c : p (i : Int) = true
        · simp [c]
        · simp [c]
      · have h3 : ¬ i < n + 1 := by omega
        have h4 : i - n ≠ 0 := by omega
        by_cases c : p (n : Int) = true
        · simp [c, h3]; exact Nat.testBit_lt_two_pow (Nat.one_lt_two_pow h4)
        · simp [c, h3]
def bs0 (p : Int → Bool) : Int64 := lN (bsN p 64)
theorem bs0_bit (p : Int → Bool) {i : Nat} (h : i < 64) : (bs0 p).toBitVec.getLsbD i = p (i : Int) := by
  show (BitVec.ofNat 64 (bsN p 64)).getLsbD i = _
  rw [BitVec.getLsbD_ofNat, bsN_bit]
  simp [h]
theorem bs_ex (p : Int → Bool) : ∃ v : Int64, ∀ i : Nat, i < 64 → v.toBitVec.getLsbD i = p (i : Int) := ⟨bs0 p, fun _ h => bs0_bit p h⟩
/-- the set of those that have the property -/
noncomputable def bs (p : Int → Bool) : Int64 := Classical.choose (bs_ex p)
theorem bs_bit (p : Int → Bool) {i : Nat} (h : i < 64) : (bs p).toBitVec.getLsbD i = p (i : Int) := Classical.choose_spec (bs_ex p) i h
theorem bs_ext {v w : Int64} (h : ∀ i : Nat, i < 64 → v.toBitVec.getLsbD i = w.toBitVec.getLsbD i) : v = w := Int64.toBitVec_inj.mp (BitVec.eq_of_getLsbD_eq (fun i hi => h i hi))
theorem bs_lN (p : Int → Bool) : bs p = lN (bsN p 64) := bs_ext (fun i hi => by rw [bs_bit _ hi]; exact (bs0_bit p hi).symm)
theorem bs_congr {p q : Int → Bool} (h : ∀ x : Int, 0 ≤ x → x < 64 → p x = q x) : bs p = bs q := bs_ext (fun i hi => by rw [bs_bit _ hi, bs_bit _ hi]; exact h i (by omega) (by omega))
theorem bs_inj {p q : Int → Bool} (h : bs p = bs q) {x : Int} (h0 : 0 ≤ x) (h1 : x < 64) : p x = q x := by
  have e : (bs p).toBitVec.getLsbD x.toNat = (bs q).toBitVec.getLsbD x.toNat := by rw [h]
  rw [bs_bit _ (by omega), bs_bit _ (by omega), show ((x.toNat : Nat) : Int) = x by omega] at e
  exact e
theorem bs_and (p q : Int → Bool) : bs p &&& bs q = bs (fun x => p x && q x) := bs_ext (fun i hi => by rw [Int64.toBitVec_and, BitVec.getLsbD_and, bs_bit _ hi, bs_bit _ hi, bs_bit _ hi])
theorem bs_or (p q : Int → Bool) : bs p ||| bs q = bs (fun x => p x || q x) := bs_ext (fun i hi => by rw [Int64.toBitVec_or, BitVec.getLsbD_or, bs_bit _ hi, bs_bit _ hi, bs_bit _ hi])
theorem bs_not (p : Int → Bool) : bs p ^^^ (-1) = bs (fun x => !p x) := bs_ext (fun i hi => by
  rw [Int64.toBitVec_xor, BitVec.getLsbD_xor, bs_bit _ hi, bs_bit _ hi]
  show (p (i : Int) ^^ (BitVec.allOnes 64).getLsbD i) = _
  rw [BitVec.getLsbD_allOnes]
  simp [hi])
theorem zL_pow : ∀ k : Nat, k < 64 → zL 1 <<< ((zI (k : Int)).toInt64 &&& 63) = lN (2 ^ k) := by decide +kernel
theorem bs_one {x : Int} (h : 0 ≤ x ∧ x < 64) : zL 1 <<< ((zI x).toInt64 &&& 63) = bs (fun y => decide (y = x)) := by
  obtain ⟨k, rfl⟩ : ∃ k : Nat, x = (k : Int) := ⟨x.toNat, by omega⟩
  rw [zL_pow k (by omega)]
  apply bs_ext
  intro i hi
  rw [bs_bit _ hi]
  show (BitVec.ofNat 64 (2 ^ k)).getLsbD i = _
  rw [BitVec.getLsbD_ofNat, Nat.testBit_two_pow]
  by_cases c : k = i
  · subst c; simp; omega
  · have : ¬ (i : Int) = (k : Int) := by omega
    simp [c, this]
theorem bs_00 : lN (bsN (fun _ => false) 64) = zL 0 := by decide +kernel
theorem bs_0 : bs (fun _ => false) = zL 0 := (bs_lN _).trans bs_00
theorem bs_eq0 {p : Int → Bool} : bs p = zL 0 ↔ ∀ x : Int, 0 ≤ x → x < 64 → p x = false := by
  rw [← bs_0]
  exact ⟨fun h x h0 h1 => bs_inj h h0 h1, fun h => bs_congr (fun x h0 h1 => h x h0 h1)⟩
theorem zL_lN (n : Nat) : zL (n : Int) = lN n := Int64.ofInt_eq_ofNat
/-! the lowest number of a set -/
theorem bsN_pre {p q : Int → Bool} {m : Nat} (h0 : ∀ x : Nat, x < m → p x = false ∧ q x = true) : ∀ n : Nat, n ≤ m → bsN p n = 0 ∧ bsN q n + 1 = 2 ^ n
  | 0, _ => ⟨rfl, rfl⟩
  | n + 1, h => by
    obtain ⟨a, b⟩ := bsN_pre h0 n (by omega)
    obtain ⟨c, d⟩ := h0 n (by omega)
    simp only [bsN, c, d, Nat.pow_succ]
    simp only [Bool.false_eq_true, if_false, if_true]
    omega
theorem bsN_pred {p q : Int → Bool} {m : Nat} (h0 : ∀ x : Nat, x < m → p x = false ∧ q x = true) (hm : p m = true ∧ q m = false) (h1 : ∀ x : Nat, m < x → q x = p x) : ∀ k : Nat, bsN q (m + 1 + k) + 1 = bsN p (m + 1 + k)
  | 0 => by
    obtain ⟨a, b⟩ := bsN_pre h0 m (Nat.le_refl _)
    rw [Nat.add_zero]
    simp only [bsN, hm.1, hm.2]
    simp only [Bool.false_eq_true, if_false, if_true]
    omega
  | k + 1 => by
    have ih := bsN_pred h0 hm h1 k
    rw [show m + 1 + (k + 1) = (m + 1 + k) + 1 by omega]
    simp only [bsN, h1 (m + 1 + k) (by omega)]
    omega
/-- m is the lowest number of p -/
def Low (p : Int → Bool) (m : Int) : Prop := (0 ≤ m ∧ m < 64) ∧ p m = true ∧ ∀ x : Int, 0 ≤ x → x < m → p x = false
theorem bs_dec {p : Int → Bool} {m : Int} (h : Low p m) : bs p - zL 1 = bs (fun x => if x < m then true else if x = m then false else p x) := by
  obtain ⟨hm, h1, h2⟩ := h
  have h9 := bsN_pred (p := p) (q := fun x => if x < m then true else if x = m then false else p x) (m := m.toNat) (fun x hx => ⟨h2 x (by omega) (by omega), by rw [if_pos (by omega)]⟩) ⟨by rw [show ((m.toNat : Nat) : Int) = m by omega]; exact h1, by rw [if_neg (by omega), if_pos (by omega)]⟩ (fun x hx => by rw [if_neg (by omega), if_neg (by omega)]) (63 - m.toNat)
  rw [show m.toNat + 1 + (63 - m.toNat) = 64 by omega] at h9
  have e1 : zL 1 = lN 1 := zL_lN 1
  rw [e1, bs_lN, bs_lN, lN_sub (by omega), ← h9, Nat.add_sub_cancel]
theorem bs_clr {p : Int → Bool} {m : Int} (h : Low p m) : bs p &&& (bs p - zL 1) = bs (fun x => p x && decide (x ≠ m)) := by
  rw [bs_dec h, bs_and]
  apply bs_congr
  intro x h0 h1
  obtain ⟨hm, h2, h3⟩ := h
  by_cases a : x < m
  · rw [if_pos a, h3 x h0 a]; rfl
  · rw [if_neg a]
    by_cases b : x = m
    · rw [if_pos b]; simp [b]
    · rw [if_neg b]; simp [b]
theorem bv_neg (w : BitVec 64) : -w = (w - 1#64) ^^^ BitVec.allOnes 64 := by
  rw [BitVec.xor_allOnes, BitVec.not_sub_one_eq_not_add_one, BitVec.neg_eq_not_add]
theorem zL1_bv : (zL 1).toBitVec = 1#64 := by decide
theorem m1_bv : (-1 : Int64).toBitVec = BitVec.allOnes 64 := by decide
theorem i64_neg (v : Int64) : -v = (v - zL 1) ^^^ (-1) := by
  apply Int64.toBitVec_inj.mp
  rw [Int64.toBitVec_neg, Int64.toBitVec_xor, Int64.toBitVec_sub, zL1_bv, m1_bv]
  exact bv_neg _
theorem bs_neg (p : Int → Bool) {m : Int} (h : Low p m) : -(bs p) = bs (fun x => if x < m then false else if x = m then true else !p x) := by
  have e := i64_neg (bs p)
  rw [e, bs_dec h, bs_not]
  apply bs_congr
  intro x h0 h1
  by_cases a : x < m
  · rw [if_pos a, if_pos a]; rfl
  · rw [if_neg a, if_neg a]
    by_cases b : x = m
    · rw [if_pos b, if_pos b]; rfl
    · rw [if_neg b, if_neg b]
theorem bs_low {p : Int → Bool} {m : Int} (h : Low p m) : (bs p &&& -(bs p)) - zL 1 = bs (fun x => decide (x < m)) := by
  have e : bs p &&& -(bs p) = bs (fun x => decide (x = m)) := by
    rw [bs_neg p h, bs_and]
    apply bs_congr
    intro x h0 h1
    obtain ⟨hm, h2, h3⟩ := h
    by_cases a : x < m
    · have : ¬ x = m := by omega
      rw [if_pos a]; simp [this]
    · rw [if_neg a]
      by_cases b : x = m
      · rw [if_pos b]; simp [b, h2]
      · rw [if_neg b]; simp [b]
  have h9 : Low (fun x => decide (x = m)) m := ⟨h.1, by simp, fun x h0 h1 => by simp; omega⟩
  rw [e, bs_dec h9]
  apply bs_congr
  intro x h0 h1
  by_cases a : x < m
  · rw [if_pos a]; simp [a]
  · rw [if_neg a]
    by_cases b : x = m
    · rw [if_pos b]; simp [b]
    · rw [if_neg b]; simp [a, b]
theorem Low.ex {p : Int → Bool} : ∀ n : Nat, n ≤ 64 → (∃ x : Int, 0 ≤ x ∧ x < n ∧ p x = true) → ∃ m : Int, Low p m ∧ m < n
  | 0, _, h => by obtain ⟨x, a, b, _⟩ := h; omega
  | n + 1, hn, h => by
    by_cases c : ∃ x : Int, 0 ≤ x ∧ x < n ∧ p x = true
    · obtain ⟨m, a, b⟩ := Low.ex n (by omega) c
      exact ⟨m, a, by omega⟩
    · obtain ⟨x, a, b, d⟩ := h
      have e : x = n := by
        by_cases q : x < n
        · exact absurd ⟨x, a, q, d⟩ c
        · omega
      refine ⟨x, ⟨by omega, d, fun y h0 h1 => ?_⟩, by omega⟩
      by_cases q : p y = true
      · exact absurd ⟨y, h0, by omega, q⟩ c
      · simpa using q
theorem Low.of {p : Int → Bool} (h : bs p ≠ zL 0) : ∃ m : Int, Low p m := by
  by_cases c : ∃ x : Int, 0 ≤ x ∧ x < (64 : Nat) ∧ p x = true
  · obtain ⟨m, a, _⟩ := Low.ex 64 (Nat.le_refl _) c
    exact ⟨m, a⟩
  · refine absurd (bs_eq0.mpr (fun x h0 h1 => ?_)) h
    by_cases q : p x = true
    · exact absurd ⟨x, h0, by omega, q⟩ c
    · simpa using q
/-! how many -/
def ctN (p : Int → Bool) : Nat → Nat
  | 0 => 0
  | n + 1 => ctN p n + (if p (n : Int) = true then 1 else 0)
theorem ctN_congr {p q : Int → Bool} : ∀ n : Nat, (∀ x : Int, 0 ≤ x → x < n → p x = q x) → ctN p n = ctN q n
  | 0, _ => rfl
  | n + 1, h => by simp only [ctN, ctN_congr n (fun x h0 h1 => h x h0 (by omega)), h (n : Int) (by omega) (by omega)]
theorem ctN_low {p : Int → Bool} {m : Nat} (h : ∀ x : Int, p x = decide (x < (m : Int))) : ∀ n : Nat, ctN p n = if n ≤ m then n else m
  | 0 => by simp [ctN]
  | n + 1 => by
    have ih := ctN_low h n
    simp only [ctN, ih, h (n : Int)]
    by_cases c : (n : Int) < (m : Int)
    · rw [decide_eq_true c, if_pos rfl, if_pos (show n ≤ m by omega), if_pos (show n + 1 ≤ m by omega)]
    · rw [decide_eq_false c, if_neg (show ¬ false = true by decide), if_neg (show ¬ n + 1 ≤ m by omega)]
      by_cases b : n ≤ m
      · rw [if_pos b]; omega
      · rw [if_neg b, Nat.add_zero]
