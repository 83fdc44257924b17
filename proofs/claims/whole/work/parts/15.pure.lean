/-! the mathematical value: d is the setup and its colouring, laid in one row: 0 n, 1 k, 2 rules, 3 whether there is a weight, 4 the weight's length, 5 + 6 r the rule r (length or 0, a, b, c, d, distinct), 29 + x the colour of x and 1, 70 + x whether x is fixed, 111 on the weight; T: the weight's tokens -/
def RuleOk (d : Int → Int) (r : Int) : Prop := (d (5 + 6 * r) = 0 ∧ (1 ≤ d (6 + 6 * r) ∧ d (6 + 6 * r) ≤ 9) ∧ (1 ≤ d (7 + 6 * r) ∧ d (7 + 6 * r) ≤ 9) ∧ (1 ≤ d (8 + 6 * r) ∧ d (8 + 6 * r) ≤ 9) ∧ (-99 ≤ d (9 + 6 * r) ∧ d (9 + 6 * r) ≤ 99) ∧ (0 ≤ d (10 + 6 * r) ∧ d (10 + 6 * r) ≤ 1)) ∨ (3 ≤ d (5 + 6 * r) ∧ d (5 + 6 * r) ≤ 6)
/-- the tokens T stand in the row from the place i on -/
def CodeAt (d : Int → Int) : Int → List Int → Prop
  | i, [] => i = d 4
  | i, t :: T => (0 ≤ t ∧ t ≤ 9999 ∧ d (111 + i) = 0 ∧ d (112 + i) = t ∧ CodeAt d (i + 2) T) ∨ (-7 ≤ t ∧ t ≤ -5 ∧ d (111 + i) = 1 ∧ d (112 + i) = -5 - t ∧ CodeAt d (i + 2) T) ∨ (-4 ≤ t ∧ t ≤ -1 ∧ d (111 + i) = 1 - t ∧ CodeAt d (i + 1) T)
/-- h operands wait, the tokens follow: never too few, never more than eleven, one at the end -/
def HeightOk : Int → List Int → Prop
  | h, [] => h = 1
  | h, t :: T => if t ≤ -1 ∧ -4 ≤ t then 2 ≤ h ∧ HeightOk (h - 1) T else h ≤ 10 ∧ HeightOk (h + 1) T
def WeightOk (d : Int → Int) (T : List Int) : Prop := (d 3 = 0 ∧ T = []) ∨ (d 3 = 1 ∧ T ≠ [] ∧ CodeAt d 0 T ∧ HeightOk 0 T)
def DW (d : Int → Int) (T : List Int) : Prop := (0 ≤ d 0 ∧ d 0 ≤ 40) ∧ (0 ≤ d 1 ∧ d 1 ≤ 4) ∧ (0 ≤ d 2 ∧ d 2 ≤ 4) ∧ (0 ≤ d 4 ∧ d 4 ≤ 1000) ∧ (∀ r : Int, 0 ≤ r → r < d 2 → RuleOk d r) ∧ (∀ x : Int, 1 ≤ x → x ≤ 40 → 0 ≤ d (29 + x) ∧ d (29 + x) ≤ d 1) ∧ (∀ x : Int, 1 ≤ x → x ≤ 40 → 0 ≤ d (70 + x) ∧ d (70 + x) ≤ 1) ∧ WeightOk d T
theorem DW.n {d : Int → Int} {T : List Int} (h : DW d T) : 0 ≤ d 0 ∧ d 0 ≤ 40 := h.1
theorem DW.k {d : Int → Int} {T : List Int} (h : DW d T) : 0 ≤ d 1 ∧ d 1 ≤ 4 := h.2.1
theorem DW.nr {d : Int → Int} {T : List Int} (h : DW d T) : 0 ≤ d 2 ∧ d 2 ≤ 4 := h.2.2.1
theorem DW.nc {d : Int → Int} {T : List Int} (h : DW d T) : 0 ≤ d 4 ∧ d 4 ≤ 1000 := h.2.2.2.1
theorem DW.rule {d : Int → Int} {T : List Int} (h : DW d T) {r : Int} (h0 : 0 ≤ r) (h1 : r < d 2) : RuleOk d r := h.2.2.2.2.1 r h0 h1
theorem DW.col {d : Int → Int} {T : List Int} (h : DW d T) {x : Int} (h0 : 1 ≤ x) (h1 : x ≤ 40) : 0 ≤ d (29 + x) ∧ d (29 + x) ≤ d 1 := h.2.2.2.2.2.1 x h0 h1
theorem DW.fix {d : Int → Int} {T : List Int} (h : DW d T) {x : Int} (h0 : 1 ≤ x) (h1 : x ≤ 40) : 0 ≤ d (70 + x) ∧ d (70 + x) ≤ 1 := h.2.2.2.2.2.2.1 x h0 h1
theorem DW.wt {d : Int → Int} {T : List Int} (h : DW d T) : WeightOk d T := h.2.2.2.2.2.2.2
theorem CodeAt.congr {d e : Int → Int} (h4 : e 4 = d 4) (hc : ∀ i : Int, 111 ≤ i → e i = d i) : ∀ (T : List Int) (i : Int), 0 ≤ i → CodeAt d i T → CodeAt e i T
  | [], i, _, h => by
    show i = e 4
    rw [h4]; exact h
  | t :: T, i, h0, h => by
    rcases h with ⟨a, b, c, f, g⟩ | ⟨a, b, c, f, g⟩ | ⟨a, b, c, g⟩
    · exact Or.inl ⟨a, b, by rw [hc _ (by omega)]; exact c, by rw [hc _ (by omega)]; exact f, CodeAt.congr h4 hc T _ (by omega) g⟩
    · exact Or.inr (Or.inl ⟨a, b, by rw [hc _ (by omega)]; exact c, by rw [hc _ (by omega)]; exact f, CodeAt.congr h4 hc T _ (by omega) g⟩)
    · exact Or.inr (Or.inr ⟨a, b, by rw [hc _ (by omega)]; exact c, CodeAt.congr h4 hc T _ (by omega) g⟩)
theorem RuleOk.congr {d e : Int → Int} {r : Int} (h0 : 0 ≤ r) (h1 : r < 4) (hc : ∀ i : Int, 0 ≤ i → i < 29 → e i = d i) (h : RuleOk d r) : RuleOk e r := by
  unfold RuleOk at h ⊢
  rw [hc (5 + 6 * r) (by omega) (by omega), hc (6 + 6 * r) (by omega) (by omega), hc (7 + 6 * r) (by omega) (by omega), hc (8 + 6 * r) (by omega) (by omega), hc (9 + 6 * r) (by omega) (by omega), hc (10 + 6 * r) (by omega) (by omega)]
  exact h
/-- another colouring of the same setup -/
theorem DW.recol {d e : Int → Int} {T : List Int} (h : DW d T) (hr : ∀ i : Int, 0 ≤ i → i < 29 → e i = d i) (hc : ∀ i : Int, 111 ≤ i → e i = d i) (h1 : ∀ x : Int, 1 ≤ x → x ≤ 40 → 0 ≤ e (29 + x) ∧ e (29 + x) ≤ d 1) (h2 : ∀ x : Int, 1 ≤ x → x ≤ 40 → 0 ≤ e (70 + x) ∧ e (70 + x) ≤ 1) : DW e T := by
  have e0 := hr 0 (by omega) (by omega)
  have e1 := hr 1 (by omega) (by omega)
  have e2 := hr 2 (by omega) (by omega)
  have e3 := hr 3 (by omega) (by omega)
  have e4 := hr 4 (by omega) (by omega)
  refine ⟨by rw [e0]; exact h.n, by rw [e1]; exact h.k, by rw [e2]; exact h.nr, by rw [e4]; exact h.nc, fun r h0 h9 => ?_, by rw [e1]; exact h1, h2, ?_⟩
  · rw [e2] at h9
    have := h.nr
    exact (h.rule h0 h9).congr h0 (by omega) hr
  · rcases h.wt with ⟨a, b⟩ | ⟨a, b, c, f⟩
    · exact Or.inl ⟨by rw [e3]; exact a, b⟩
    · exact Or.inr ⟨by rw [e3]; exact a, b, c.congr e4 hc _ _ (by omega), f⟩
theorem DW.setcol {d : Int → Int} {T : List Int} (h : DW d T) {x v : Int} (hx : 1 ≤ x ∧ x ≤ 40) (hv : 0 ≤ v ∧ v ≤ d 1) : DW (uZ d (29 + x) v) T := by
  refine h.recol (fun i _ _ => uZ_n (by omega)) (fun i _ => uZ_n (by omega)) (fun y h0 h1 => ?_) (fun y h0 h1 => ?_)
  · by_cases e : y = x
    · subst e; rw [uZ_s]; exact hv
    · rw [uZ_n (by omega)]; exact h.col h0 h1
  · rw [uZ_n (by omega)]; exact h.fix h0 h1
theorem DW.setfix {d : Int → Int} {T : List Int} (h : DW d T) {x v : Int} (hx : 1 ≤ x ∧ x ≤ 40) (hv : 0 ≤ v ∧ v ≤ 1) : DW (uZ d (70 + x) v) T := by
  refine h.recol (fun i _ _ => uZ_n (by omega)) (fun i _ => uZ_n (by omega)) (fun y h0 h1 => ?_) (fun y h0 h1 => ?_)
  · rw [uZ_n (by omega)]; exact h.col h0 h1
  · by_cases e : y = x
    · subst e; rw [uZ_s]; exact hv
    · rw [uZ_n (by omega)]; exact h.fix h0 h1
/-- whether one of the numbers 1 to m has the colour c -/
def usedN (d : Int → Int) (c : Int) : Nat → Bool
  | 0 => false
  | m + 1 => usedN d c m || decide (d (29 + ((m : Int) + 1)) = c + 1)
def used (d : Int → Int) (c : Int) : Bool := usedN d c (d 0).toNat
theorem usedN_iff {d : Int → Int} {c : Int} : ∀ m : Nat, usedN d c m = true ↔ ∃ x : Int, 1 ≤ x ∧ x ≤ m ∧ d (29 + x) = c + 1
  | 0 => by simp only [usedN]; constructor <;> intro h; · cases h
            obtain ⟨x, a, b, _⟩ := h; omega
  | m + 1 => by
    simp only [usedN, Bool.or_eq_true, decide_eq_true_eq, usedN_iff m]
    constructor
    · rintro (⟨x, a, b, e⟩ | e)
      · exact ⟨x, a, by omega, e⟩
      · exact ⟨(m : Int) + 1, by omega, by omega, e⟩
    · rintro ⟨x, a, b, e⟩
      by_cases q : x = (m : Int) + 1
      · subst q; exact Or.inr e
      · exact Or.inl ⟨x, a, by omega, e⟩
theorem used_iff {d : Int → Int} {c : Int} : used d c = true ↔ ∃ x : Int, 1 ≤ x ∧ x ≤ d 0 ∧ d (29 + x) = c + 1 := by
  unfold used
  rw [usedN_iff]
  constructor
  · rintro ⟨x, a, b, e⟩; exact ⟨x, a, by omega, e⟩
  · rintro ⟨x, a, b, e⟩; exact ⟨x, a, by omega, e⟩
/-- whether all colours below m are used -/
def lowN (d : Int → Int) : Nat → Bool
  | 0 => true
  | m + 1 => lowN d m && used d m
/-- the next colour from c on that the search tries; d 1 if there is none (f: enough steps) -/
def nxtN (d : Int → Int) : Nat → Int → Int
  | 0, c => c
  | f + 1, c => if c < d 1 then (if used d c then c else if lowN d c.toNat then c else nxtN d f (c + 1)) else c
def nxt (d : Int → Int) (c : Int) : Int := nxtN d (d 1 - c).toNat c
theorem nxt_end {d : Int → Int} {c : Int} (h : d 1 ≤ c) : nxt d c = c := by
  unfold nxt
  rw [show (d 1 - c).toNat = 0 by omega]
  rfl
theorem nxt_used {d : Int → Int} {c : Int} (h : c < d 1) (hu : used d c = true) : nxt d c = c := by
  unfold nxt
  rw [show (d 1 - c).toNat = (d 1 - c - 1).toNat + 1 by omega]
  simp [nxtN, h, hu]
theorem nxt_low {d : Int → Int} {c : Int} (h : c < d 1) (hl : lowN d c.toNat = true) : nxt d c = c := by
  unfold nxt
  rw [show (d 1 - c).toNat = (d 1 - c - 1).toNat + 1 by omega]
  by_cases hu : used d c = true <;> simp [nxtN, h, hu, hl]
theorem nxt_go {d : Int → Int} {c : Int} (h : c < d 1) (hu : used d c = false) (hl : lowN d c.toNat = false) : nxt d c = nxt d (c + 1) := by
  unfold nxt
  rw [show (d 1 - c).toNat = (d 1 - (c + 1)).toNat + 1 by omega]
  simp [nxtN, h, hu, hl]
theorem nxt_rng {d : Int → Int} : ∀ (m : Nat) (c : Int), d 1 - c ≤ m → c ≤ d 1 → c ≤ nxt d c ∧ nxt d c ≤ d 1
  | 0, c, h, h1 => by rw [nxt_end (by omega)]; omega
  | m + 1, c, h, h1 => by
    by_cases hc : c < d 1
    · by_cases hu : used d c = true
      · rw [nxt_used hc hu]; omega
      · by_cases hl : lowN d c.toNat = true
        · rw [nxt_low hc hl]; omega
        · rw [nxt_go hc (by simpa using hu) (by simpa using hl)]
          have := nxt_rng (d := d) m (c + 1) (by omega) (by omega)
          omega
    · rw [nxt_end (by omega)]; omega
