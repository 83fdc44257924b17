/-! the solutions: a solution of the rule r is named by (r, x, y), its first two numbers -/
abbrev Ky : Type := Int × Int × Int
/-- the third number of an equation's solution -/
def zE (d : Int → Int) (r x y : Int) : Int := Int.tdiv (d (6 + 6 * r) * x + d (7 + 6 * r) * y - d (9 + 6 * r)) (d (8 + 6 * r))
def okE (d : Int → Int) (r x y : Int) : Bool := decide (Int.tmod (d (6 + 6 * r) * x + d (7 + 6 * r) * y - d (9 + 6 * r)) (d (8 + 6 * r)) = 0 ∧ (1 ≤ zE d r x y ∧ zE d r x y ≤ d 0) ∧ ¬ (d (10 + 6 * r) = 1 ∧ (x = y ∨ x = zE d r x y ∨ y = zE d r x y)))
def okP (d : Int → Int) (r x y : Int) : Bool := decide (x < y ∧ x + (y - x) * (d (5 + 6 * r) - 1) ≤ d 0)
def okK (d : Int → Int) (r x y : Int) : Bool := if d (5 + 6 * r) = 0 then okE d r x y else okP d r x y
/-- the solutions of the rule r that begin with x, their second number at most m; that begin with at most m; those of the rules below m -/
def kY (d : Int → Int) (r x : Int) : Nat → List Ky
  | 0 => []
  | m + 1 => kY d r x m ++ (if okK d r x ((m : Int) + 1) = true then [(r, x, (m : Int) + 1)] else [])
def kX (d : Int → Int) (r : Int) : Nat → List Ky
  | 0 => []
  | m + 1 => kX d r m ++ kY d r ((m : Int) + 1) (d 0).toNat
def kR (d : Int → Int) : Nat → List Ky
  | 0 => []
  | m + 1 => kR d m ++ kX d (m : Int) (d 0).toNat
def KL (d : Int → Int) : List Ky := kR d (d 2).toNat
/-- how many numbers a solution has; its k-th -/
def kl (d : Int → Int) (q : Ky) : Int := if d (5 + 6 * q.1) = 0 then 3 else d (5 + 6 * q.1)
def km (d : Int → Int) (q : Ky) (k : Int) : Int := if d (5 + 6 * q.1) = 0 then (if k = 0 then q.2.1 else if k = 1 then q.2.2 else zE d q.1 q.2.1 q.2.2) else q.2.1 + (q.2.2 - q.2.1) * k
/-- a solution as such: its rule is there, its numbers too -/
def KOk (d : Int → Int) (q : Ky) : Prop := (0 ≤ q.1 ∧ q.1 < d 2) ∧ (1 ≤ q.2.1 ∧ q.2.1 ≤ d 0) ∧ (1 ≤ q.2.2 ∧ q.2.2 ≤ d 0) ∧ okK d q.1 q.2.1 q.2.2 = true
theorem kY_mem {d : Int → Int} {r x : Int} {q : Ky} : ∀ {m : Nat}, q ∈ kY d r x m → q.1 = r ∧ q.2.1 = x ∧ 1 ≤ q.2.2 ∧ q.2.2 ≤ m ∧ okK d r x q.2.2 = true
  | 0, h => by cases h
  | m + 1, h => by
    rcases List.mem_append.mp h with h | h
    · obtain ⟨a, b, c, e, f⟩ := kY_mem h
      exact ⟨a, b, c, by omega, f⟩
    · by_cases hk : okK d r x ((m : Int) + 1) = true
      · rw [if_pos hk] at h
        obtain rfl := List.mem_singleton.mp h
        exact ⟨rfl, rfl, by show (1 : Int) ≤ (m : Int) + 1; omega, by show (m : Int) + 1 ≤ ((m + 1 : Nat) : Int); omega, hk⟩
      · rw [if_neg hk] at h; cases h
theorem kX_mem {d : Int → Int} {r : Int} {q : Ky} : ∀ {m : Nat}, q ∈ kX d r m → q.1 = r ∧ 1 ≤ q.2.1 ∧ q.2.1 ≤ m ∧ 1 ≤ q.2.2 ∧ q.2.2 ≤ (d 0).toNat ∧ okK d r q.2.1 q.2.2 = true
  | 0, h => by cases h
  | m + 1, h => by
    rcases List.mem_append.mp h with h | h
    · obtain ⟨a, b, c, e, f, g⟩ := kX_mem h
      exact ⟨a, b, by omega, e, f, g⟩
    · obtain ⟨a, b, c, e, f⟩ := kY_mem h
      exact ⟨a, by omega, by omega, c, e, by rw [b]; exact f⟩
theorem kR_mem {d : Int → Int} {q : Ky} : ∀ {m : Nat}, q ∈ kR d m → 0 ≤ q.1 ∧ q.1 < m ∧ 1 ≤ q.2.1 ∧ q.2.1 ≤ (d 0).toNat ∧ 1 ≤ q.2.2 ∧ q.2.2 ≤ (d 0).toNat ∧ okK d q.1 q.2.1 q.2.2 = true
  | 0, h => by cases h
  | m + 1, h => by
    rcases List.mem_append.mp h with h | h
    · obtain ⟨a, b, c⟩ := kR_mem h
      exact ⟨a, by omega, c⟩
    · obtain ⟨a, b, c, e, f, g⟩ := kX_mem h
      exact ⟨by omega, by omega, b, c, e, f, by rw [a]; exact g⟩
theorem KL_ok {d : Int → Int} {T : List Int} (hD : DW d T) {q : Ky} (h : q ∈ KL d) : KOk d q := by
  obtain ⟨a, b, c, e, f, g, i⟩ := kR_mem h
  have := hD.n
  have := hD.nr
  exact ⟨⟨a, by omega⟩, ⟨c, by omega⟩, ⟨f, by omega⟩, i⟩
theorem KL_at {d : Int → Int} {T : List Int} (hD : DW d T) {s : Nat} {q : Ky} (h : (KL d)[s]? = some q) : KOk d q := KL_ok hD (List.mem_of_getElem? h)
theorem kl_rng {d : Int → Int} {T : List Int} (hD : DW d T) {q : Ky} (h : KOk d q) : 3 ≤ kl d q ∧ kl d q ≤ 6 := by
  have h1 := hD.rule h.1.1 h.1.2
  unfold kl
  rcases h1 with h1 | h1
  · rw [if_pos h1.1]; omega
  · rw [if_neg (by omega)]; exact h1
theorem okE_iff {d : Int → Int} {r x y : Int} : okE d r x y = true ↔ Int.tmod (d (6 + 6 * r) * x + d (7 + 6 * r) * y - d (9 + 6 * r)) (d (8 + 6 * r)) = 0 ∧ (1 ≤ zE d r x y ∧ zE d r x y ≤ d 0) ∧ ¬ (d (10 + 6 * r) = 1 ∧ (x = y ∨ x = zE d r x y ∨ y = zE d r x y)) := decide_eq_true_iff
theorem okP_iff {d : Int → Int} {r x y : Int} : okP d r x y = true ↔ x < y ∧ x + (y - x) * (d (5 + 6 * r) - 1) ≤ d 0 := decide_eq_true_iff
theorem km_rng {d : Int → Int} {T : List Int} (hD : DW d T) {q : Ky} (h : KOk d q) {k : Int} (h0 : 0 ≤ k) (h1 : k < kl d q) : 1 ≤ km d q k ∧ km d q k ≤ d 0 := by
  obtain ⟨hr, hx, hy, ho⟩ := h
  unfold kl at h1
  unfold km
  unfold okK at ho
  by_cases e : d (5 + 6 * q.1) = 0
  · rw [if_pos e] at h1 ho ⊢
    have hz := (okE_iff.mp ho).2.1
    by_cases k0 : k = 0
    · rw [if_pos k0]; exact hx
    · rw [if_neg k0]
      by_cases k1 : k = 1
      · rw [if_pos k1]; exact hy
      · rw [if_neg k1]; exact hz
  · rw [if_neg e] at h1 ho ⊢
    obtain ⟨h2, h3⟩ := okP_iff.mp ho
    have h4 : (q.2.2 - q.2.1) * k ≤ (q.2.2 - q.2.1) * (d (5 + 6 * q.1) - 1) := Int.mul_le_mul_of_nonneg_left (by omega) (by omega)
    have h5 : 0 ≤ (q.2.2 - q.2.1) * k := Int.mul_nonneg (by omega) h0
    omega
/-- the numbers of one solution have one colour: c (e x is the colour of x and 1) -/
def allN (d e : Int → Int) (q : Ky) (c : Int) : Nat → Bool
  | 0 => true
  | m + 1 => allN d e q c m && decide (e (km d q m) = c + 1)
theorem allN_iff {d e : Int → Int} {q : Ky} {c : Int} : ∀ {m : Nat}, allN d e q c m = true ↔ ∀ k : Int, 0 ≤ k → k < m → e (km d q k) = c + 1
  | 0 => by simp only [allN]; exact ⟨fun _ k a b => by omega, fun _ => trivial⟩
  | m + 1 => by
    simp only [allN, Bool.and_eq_true, decide_eq_true_eq, allN_iff (m := m)]
    constructor
    · rintro ⟨a, b⟩ k h0 h1
      by_cases q : k = (m : Int)
      · subst q; exact b
      · exact a k h0 (by omega)
    · intro h
      exact ⟨fun k h0 h1 => h k h0 (by omega), h m (by omega) (by omega)⟩
/-- the colour of a conflict; -1 if the solution is none -/
def cAll (d e : Int → Int) (q : Ky) : Int := if allN d e q (e (km d q 0) - 1) (kl d q).toNat = true then e (km d q 0) - 1 else -1
theorem cAll_eq {d e : Int → Int} {q : Ky} (hl : 1 ≤ kl d q) {c : Int} (hc : 0 ≤ c) : cAll d e q = c ↔ ∀ k : Int, 0 ≤ k → k < kl d q → e (km d q k) = c + 1 := by
  unfold cAll
  by_cases h : allN d e q (e (km d q 0) - 1) (kl d q).toNat = true
  · rw [if_pos h]
    have h9 := allN_iff.mp h
    constructor
    · intro h2 k h0 h1
      have := h9 k h0 (by omega)
      omega
    · intro h2
      have := h2 0 (by omega) (by omega)
      omega
  · rw [if_neg h]
    constructor
    · intro h2; omega
    · intro h2
      exfalso
      apply h
      have h3 := h2 0 (by omega) (by omega)
      exact allN_iff.mpr (fun k h0 h1 => by
        have := h2 k h0 (by omega)
        omega)
theorem cAll_none {d e : Int → Int} {q : Ky} (h : ¬ allN d e q (e (km d q 0) - 1) (kl d q).toNat = true) : cAll d e q = -1 := if_neg h
theorem cAll_rng {d e : Int → Int} {q : Ky} {K : Int} (h : 0 ≤ e (km d q 0) ∧ e (km d q 0) ≤ K) (hK : 0 ≤ K) : -1 ≤ cAll d e q ∧ cAll d e q < K ∨ cAll d e q = -1 := by
  unfold cAll
  by_cases h9 : allN d e q (e (km d q 0) - 1) (kl d q).toNat = true
  · rw [if_pos h9]; omega
  · rw [if_neg h9]; exact Or.inr rfl
/-- whether the solution contains the number x -/
def hasN (d : Int → Int) (q : Ky) (x : Int) : Nat → Bool
  | 0 => false
  | m + 1 => hasN d q x m || decide (km d q m = x)
def has (d : Int → Int) (q : Ky) (x : Int) : Bool := hasN d q x (kl d q).toNat
theorem hasN_iff {d : Int → Int} {q : Ky} {x : Int} : ∀ {m : Nat}, hasN d q x m = true ↔ ∃ k : Int, 0 ≤ k ∧ k < m ∧ km d q k = x
  | 0 => by simp only [hasN]; constructor <;> intro h; · cases h
            obtain ⟨k, a, b, _⟩ := h; omega
  | m + 1 => by
    simp only [hasN, Bool.or_eq_true, decide_eq_true_eq, hasN_iff (m := m)]
    constructor
    · rintro (⟨k, a, b, e⟩ | e)
      · exact ⟨k, a, by omega, e⟩
      · exact ⟨m, by omega, by omega, e⟩
    · rintro ⟨k, a, b, e⟩
      by_cases q : k = (m : Int)
      · subst q; exact Or.inr e
      · exact Or.inl ⟨k, a, by omega, e⟩
theorem has_iff {d : Int → Int} {q : Ky} {x : Int} : has d q x = true ↔ ∃ k : Int, 0 ≤ k ∧ k < kl d q ∧ km d q k = x := by
  unfold has
  rw [hasN_iff]
  constructor
  · rintro ⟨k, a, b, e⟩; exact ⟨k, a, by omega, e⟩
  · rintro ⟨k, a, b, e⟩; exact ⟨k, a, by omega, e⟩
/-- the sum of f over a list -/
def sumL {α : Type} (f : α → Int) : List α → Int
  | [] => 0
  | a :: l => f a + sumL f l
theorem sumL_app {α : Type} {f : α → Int} : ∀ (l r : List α), sumL f (l ++ r) = sumL f l + sumL f r
  | [], r => by simp [sumL]
  | a :: l, r => by simp only [List.cons_append, sumL, sumL_app l r]; omega
theorem sumL_congr {α : Type} {f g : α → Int} : ∀ {l : List α}, (∀ a, a ∈ l → f a = g a) → sumL f l = sumL g l
  | [], _ => rfl
  | a :: l, h => by simp only [sumL, h a List.mem_cons_self, sumL_congr (fun b hb => h b (List.mem_cons_of_mem _ hb))]
theorem sumL_take {α : Type} {f : α → Int} {l : List α} {s : Nat} {a : α} (h : l[s]? = some a) : sumL f (l.take (s + 1)) = sumL f (l.take s) + f a := by
  rw [List.take_add_one, sumL_app, h]
  simp [sumL]
theorem sumL_le {α : Type} {f g : α → Int} : ∀ {l : List α}, (∀ a, a ∈ l → f a ≤ g a) → sumL f l ≤ sumL g l
  | [], _ => Int.le_refl _
  | a :: l, h => by
    have h1 := h a List.mem_cons_self
    have h2 := sumL_le (l := l) (f := f) (g := g) (fun b hb => h b (List.mem_cons_of_mem _ hb))
    simp only [sumL]; omega
theorem sumL_nonneg {α : Type} {f : α → Int} : ∀ {l : List α}, (∀ a, a ∈ l → 0 ≤ f a) → 0 ≤ sumL f l
  | [], _ => Int.le_refl _
  | a :: l, h => by
    have h1 := h a List.mem_cons_self
    have h2 := sumL_nonneg (l := l) (f := f) (fun b hb => h b (List.mem_cons_of_mem _ hb))
    simp only [sumL]; omega
theorem sumL_const {α : Type} {c : Int} : ∀ {l : List α}, sumL (fun _ => c) l = c * l.length
  | [] => by simp [sumL]
  | a :: l => by simp only [sumL, sumL_const (l := l), List.length_cons, Int.natCast_succ, Int.mul_add, Int.mul_one]; omega
