/-! counting the members of a list that have a property, and sums over them -/
def cntT {α : Type} (P : α → Bool) (l : List α) (s : Nat) : Int := sumL (fun a => if P a = true then 1 else 0) (l.take s)
theorem cntT_0 {α : Type} {P : α → Bool} {l : List α} : cntT P l 0 = 0 := by simp [cntT, sumL]
theorem cntT_s {α : Type} {P : α → Bool} {l : List α} {s : Nat} {a : α} (h : l[s]? = some a) : cntT P l (s + 1) = cntT P l s + (if P a = true then 1 else 0) := sumL_take h
theorem cntT_nonneg {α : Type} {P : α → Bool} {l : List α} {s : Nat} : 0 ≤ cntT P l s := sumL_nonneg (fun a _ => by by_cases h : P a = true <;> simp [h])
theorem cntT_mono {α : Type} {P : α → Bool} {l : List α} : ∀ (k s : Nat), cntT P l s ≤ cntT P l (s + k)
  | 0, s => Int.le_refl _
  | k + 1, s => by
    have h1 := cntT_mono (P := P) (l := l) k s
    by_cases h : s + k < l.length
    · have h2 := cntT_s (P := P) (List.getElem?_eq_getElem h)
      have h3 : (0 : Int) ≤ (if P l[s + k] = true then 1 else 0) := by by_cases h9 : P l[s + k] = true <;> simp [h9]
      rw [show s + (k + 1) = (s + k) + 1 by omega]
      omega
    · have h2 : l.take (s + (k + 1)) = l.take (s + k) := by rw [List.take_of_length_le (by omega), List.take_of_length_le (by omega)]
      unfold cntT at h1 ⊢
      rw [h2]
      exact h1
theorem cntT_le {α : Type} {P : α → Bool} {l : List α} {s t : Nat} (h : s ≤ t) : cntT P l s ≤ cntT P l t := by
  have := cntT_mono (P := P) (l := l) (t - s) s
  rwa [show s + (t - s) = t by omega] at this
/-- the next member that has the property -/
theorem cnt_next {α : Type} {P : α → Bool} {l : List α} : ∀ (k s : Nat), s + k = l.length → cntT P l s < cntT P l l.length → ∃ (t : Nat) (a : α), s ≤ t ∧ l[t]? = some a ∧ P a = true ∧ cntT P l t = cntT P l s ∧ ∀ F : α → Int, sumL (fun a => if P a = true then F a else 0) (l.take t) = sumL (fun a => if P a = true then F a else 0) (l.take s)
  | 0, s, h, h1 => by
    exfalso
    rw [show s = l.length by omega] at h1
    omega
  | k + 1, s, h, h1 => by
    have hs : s < l.length := by omega
    have ha : l[s]? = some l[s] := List.getElem?_eq_getElem hs
    by_cases hp : P l[s] = true
    · exact ⟨s, l[s], Nat.le_refl _, ha, hp, rfl, fun _ => rfl⟩
    · have h2 : cntT P l (s + 1) = cntT P l s := by rw [cntT_s ha, if_neg hp]; omega
      obtain ⟨t, a, b1, b2, b3, b4, b5⟩ := cnt_next (P := P) (l := l) k (s + 1) (by omega) (by omega)
      exact ⟨t, a, by omega, b2, b3, by omega, fun F => by rw [b5 F, sumL_take ha, if_neg hp]; omega⟩
theorem cnt_end {α : Type} {P : α → Bool} {l : List α} : ∀ (k s : Nat), s + k = l.length → cntT P l s = cntT P l l.length → ∀ F : α → Int, sumL (fun a => if P a = true then F a else 0) (l.take s) = sumL (fun a => if P a = true then F a else 0) l
  | 0, s, h, _, F => by rw [List.take_of_length_le (by omega)]
  | k + 1, s, h, h1, F => by
    have hs : s < l.length := by omega
    have ha : l[s]? = some l[s] := List.getElem?_eq_getElem hs
    have h3 := cntT_s (P := P) ha
    have h4 := cntT_le (P := P) (l := l) (show s + 1 ≤ l.length by omega)
    by_cases hp : P l[s] = true
    · rw [if_pos hp] at h3; omega
    · rw [if_neg hp] at h3
      have h5 := cnt_end (P := P) (l := l) k (s + 1) (by omega) (by omega) F
      rw [sumL_take ha, if_neg hp] at h5
      omega
/-- how many of the first s solutions contain x; where the row of x begins -/
def rk (d : Int → Int) (x : Int) (s : Nat) : Int := cntT (fun q => has d q x) (KL d) s
def fbN (d : Int → Int) : Nat → Int
  | 0 => 0
  | m + 1 => fbN d m + rk d ((m : Int) + 1) (KL d).length
def fb (d : Int → Int) (x : Int) : Int := fbN d (x - 1).toNat
theorem fb_1 {d : Int → Int} : fb d 1 = 0 := rfl
theorem fb_s {d : Int → Int} {x : Int} (h : 1 ≤ x) : fb d (x + 1) = fb d x + rk d x (KL d).length := by
  unfold fb
  rw [show (x + 1 - 1).toNat = (x - 1).toNat + 1 by omega]
  show fbN d (x - 1).toNat + rk d (((x - 1).toNat : Int) + 1) _ = _
  rw [show (((x - 1).toNat : Int) + 1) = x by omega]
theorem fbN_nonneg {d : Int → Int} : ∀ m, 0 ≤ fbN d m
  | 0 => Int.le_refl _
  | m + 1 => by
    have h1 := fbN_nonneg (d := d) m
    have h2 : 0 ≤ rk d ((m : Int) + 1) (KL d).length := cntT_nonneg
    show 0 ≤ fbN d m + _
    omega
theorem fb_nonneg {d : Int → Int} {x : Int} : 0 ≤ fb d x := fbN_nonneg _
/-- what the rows of the solutions hold -/
def LW (d me le ru so fo wn : Int → Int) (laid : Int) : Prop := laid = (KL d).length ∧ (∀ (s : Nat) (q : Ky), (KL d)[s]? = some q → ru s = q.1 ∧ le s = kl d q ∧ ∀ k : Int, 0 ≤ k → k < kl d q → me (6 * (s : Int) + k) = km d q k) ∧ (∀ r : Int, 0 ≤ r → r < d 2 → so r = (kX d r (d 0).toNat).length) ∧ (∀ x : Int, 1 ≤ x → x ≤ d 0 + 1 → fo x = fb d x) ∧ (∀ (x : Int) (s : Nat) (q : Ky), 1 ≤ x → x ≤ d 0 → (KL d)[s]? = some q → has d q x = true → wn (fb d x + rk d x s) = s)
theorem kY_len {d : Int → Int} {r x : Int} : ∀ m : Nat, (kY d r x m).length ≤ m
  | 0 => Nat.le_refl _
  | m + 1 => by
    have := kY_len (d := d) (r := r) (x := x) m
    simp only [kY, List.length_append]
    by_cases h : okK d r x ((m : Int) + 1) = true <;> simp [h] <;> omega
theorem kX_len {d : Int → Int} {r : Int} (hn : (d 0).toNat ≤ 40) : ∀ m : Nat, (kX d r m).length ≤ 40 * m
  | 0 => Nat.le_refl _
  | m + 1 => by
    have h1 := kX_len (r := r) hn m
    have h2 := kY_len (d := d) (r := r) (x := (m : Int) + 1) (d 0).toNat
    simp only [kX, List.length_append]
    omega
theorem kR_len {d : Int → Int} (hn : (d 0).toNat ≤ 40) : ∀ m : Nat, (kR d m).length ≤ 1600 * m
  | 0 => Nat.le_refl _
  | m + 1 => by
    have h1 := kR_len hn m
    have h2 := kX_len (r := (m : Int)) hn (d 0).toNat
    simp only [kR, List.length_append]
    omega
theorem KL_len {d : Int → Int} {T : List Int} (hD : DW d T) : (KL d).length ≤ 6400 := by
  have h1 := hD.n
  have h2 := hD.nr
  have h3 := kR_len (d := d) (by omega) (d 2).toNat
  unfold KL
  omega
theorem sumL_swap {α β : Type} {f : α → β → Int} : ∀ (l : List α) (r : List β), sumL (fun a => sumL (fun b => f a b) r) l = sumL (fun b => sumL (fun a => f a b) l) r
  | [], r => by
    simp only [sumL]
    exact (by rw [sumL_const]; simp : sumL (fun _ : β => (0 : Int)) r = 0).symm
  | a :: l, r => by
    simp only [sumL, sumL_swap l r]
    have : ∀ (r : List β) (g h : β → Int), sumL (fun b => g b + h b) r = sumL g r + sumL h r := by
      intro r g h
      induction r with
      | nil => rfl
      | cons b r ih => simp only [sumL, ih]; omega
    rw [this]
/-- the numbers 1 to m -/
def upto : Nat → List Int
  | 0 => []
  | m + 1 => upto m ++ [(m : Int) + 1]
theorem fbN_sum {d : Int → Int} : ∀ m : Nat, fbN d m = sumL (fun x => rk d x (KL d).length) (upto m)
  | 0 => rfl
  | m + 1 => by
    simp only [fbN, upto, sumL_app, fbN_sum m, sumL]
    omega
theorem hasN_sum {d : Int → Int} {q : Ky} : ∀ (k m : Nat), sumL (fun x => if hasN d q x k = true then 1 else 0) (upto m) ≤ k
  | 0, m => by simp only [hasN, Bool.false_eq_true, if_false]; rw [sumL_const]; simp
  | k + 1, m => by
    have h1 := hasN_sum (d := d) (q := q) k m
    have h2 : sumL (fun x => if hasN d q x (k + 1) = true then 1 else 0) (upto m) ≤ sumL (fun x => (if hasN d q x k = true then 1 else 0) + (if km d q k = x then 1 else 0)) (upto m) := sumL_le (fun x _ => by
      simp only [hasN, Bool.or_eq_true, decide_eq_true_eq]
      by_cases a : hasN d q x k = true <;> by_cases b : km d q k = x <;> simp [a, b])
    have h3 : ∀ (r : List Int) (g h : Int → Int), sumL (fun b => g b + h b) r = sumL g r + sumL h r := by
      intro r g h
      induction r with
      | nil => rfl
      | cons b r ih => simp only [sumL, ih]; omega
    have h4 : ∀ (m : Nat) (v : Int), sumL (fun x => if v = x then (1 : Int) else 0) (upto m) ≤ (if v ≤ m then 1 else 0) := by
      intro m v
      induction m with
      | zero =>
        simp only [upto, sumL]
        by_cases c : v ≤ ((0 : Nat) : Int)
        · rw [if_pos c]; decide
        · rw [if_neg c]; decide
      | succ m ih =>
        simp only [upto, sumL_app, sumL]
        by_cases c : v = (m : Int) + 1
        · rw [if_pos c]
          rw [if_neg (by omega)] at ih
          rw [if_pos (by omega)]
          omega
        · rw [if_neg c]
          by_cases c2 : v ≤ (m : Int)
          · rw [if_pos c2] at ih
            rw [if_pos (by omega)]
            omega
          · rw [if_neg c2] at ih
            by_cases c3 : v ≤ ((m + 1 : Nat) : Int)
            · rw [if_pos c3]; omega
            · rw [if_neg c3]; omega
    have h5 := h4 m (km d q k)
    rw [h3] at h2
    have h6 : (if km d q k ≤ (m : Int) then (1 : Int) else 0) ≤ 1 := by by_cases c : km d q k ≤ (m : Int) <;> simp [c]
    omega
theorem fbN_le {d : Int → Int} {T : List Int} (hD : DW d T) (m : Nat) : fbN d m ≤ sumL (fun q => kl d q) (KL d) := by
  rw [fbN_sum]
  have e : sumL (fun x => rk d x (KL d).length) (upto m) = sumL (fun q => sumL (fun x => if has d q x = true then 1 else 0) (upto m)) (KL d) := by
    rw [sumL_swap]
    exact sumL_congr (fun x _ => by unfold rk cntT; rw [List.take_length])
  rw [e]
  exact sumL_le (fun q hq => by
    have h1 := hasN_sum (d := d) (q := q) (kl d q).toNat m
    have h2 := kl_rng hD (KL_ok hD hq)
    unfold has
    omega)
/-! an equation has at most 40 solutions for a first number, a progression at most 19: their numbers together -/
theorem kY_s {d : Int → Int} {r x : Int} (m : Nat) : kY d r x (m + 1) = kY d r x m ++ (if okK d r x ((m : Int) + 1) = true then [(r, x, (m : Int) + 1)] else []) := rfl
theorem kY_none {d : Int → Int} {r x : Int} {m : Nat} : ∀ k : Nat, (∀ y : Int, (m : Int) < y → okK d r x y = false) → kY d r x (m + k) = kY d r x m
  | 0, _ => rfl
  | k + 1, h => by
    rw [show m + (k + 1) = (m + k) + 1 from rfl, kY_s, h (((m + k : Nat) : Int) + 1) (by omega), kY_none k h]
    simp
theorem kY_first {d : Int → Int} {r x : Int} : ∀ m : Nat, (∀ y : Int, y ≤ (m : Int) → okK d r x y = false) → kY d r x m = []
  | 0, _ => rfl
  | m + 1, h => by
    show kY d r x m ++ _ = _
    rw [h _ (by omega), kY_first m (fun y hy => h y (by omega))]
    simp
theorem kY_len2 {d : Int → Int} {r x : Int} {a : Nat} (h : ∀ y : Int, y ≤ (a : Int) → okK d r x y = false) : ∀ k : Nat, (kY d r x (a + k)).length ≤ k
  | 0 => by rw [Nat.add_zero, kY_first a h]; exact Nat.le_refl _
  | k + 1 => by
    have := kY_len2 h k
    rw [show a + (k + 1) = (a + k) + 1 from rfl, kY_s, List.length_append]
    by_cases h9 : okK d r x (((a + k : Nat) : Int) + 1) = true
    · rw [if_pos h9]; simp only [List.length_cons, List.length_nil]; omega
    · rw [if_neg h9]; simp only [List.length_nil]; omega
theorem kYP_len {d : Int → Int} {r x : Int} (hL : 3 ≤ d (5 + 6 * r) ∧ d (5 + 6 * r) ≤ 6) (hn : 0 ≤ d 0 ∧ d 0 ≤ 40) (hx : 1 ≤ x) (m : Nat) : (kY d r x m).length ≤ 19 := by
  have h0 : ∀ y : Int, okK d r x y = true → x < y ∧ y ≤ x + 19 := by
    intro y h
    unfold okK at h
    rw [if_neg (by omega)] at h
    obtain ⟨h1, h2⟩ := okP_iff.mp h
    refine ⟨h1, ?_⟩
    have h3 : (y - x) * 2 ≤ (y - x) * (d (5 + 6 * r) - 1) := Int.mul_le_mul_of_nonneg_left (by omega) (by omega)
    omega
  have hb : ∀ y : Int, y ≤ ((x.toNat : Nat) : Int) → okK d r x y = false := fun y hy => by
    by_cases h : okK d r x y = true
    · have := h0 y h; omega
    · simpa using h
  have hu : ∀ y : Int, ((x.toNat + 19 : Nat) : Int) < y → okK d r x y = false := fun y hy => by
    by_cases h : okK d r x y = true
    · have := h0 y h; omega
    · simpa using h
  by_cases c1 : m ≤ x.toNat
  · rw [kY_first m (fun y hy => hb y (by omega))]; simp
  · by_cases c2 : m ≤ x.toNat + 19
    · have := kY_len2 hb (m - x.toNat)
      rw [show x.toNat + (m - x.toNat) = m by omega] at this
      omega
    · have h1 := kY_none (d := d) (r := r) (x := x) (m := x.toNat + 19) (m - (x.toNat + 19)) hu
      rw [show x.toNat + 19 + (m - (x.toNat + 19)) = m by omega] at h1
      rw [h1]
      exact kY_len2 hb 19
theorem kXP_len {d : Int → Int} {r : Int} (hL : 3 ≤ d (5 + 6 * r) ∧ d (5 + 6 * r) ≤ 6) (hn : 0 ≤ d 0 ∧ d 0 ≤ 40) : ∀ m : Nat, (kX d r m).length ≤ 19 * m
  | 0 => Nat.le_refl _
  | m + 1 => by
    have h1 := kXP_len hL hn m
    have h2 := kYP_len hL hn (x := (m : Int) + 1) (by omega) (d 0).toNat
    simp only [kX, List.length_append]
    omega
theorem kX_sum {d : Int → Int} {T : List Int} (hD : DW d T) {r : Int} (h0 : 0 ≤ r) (h1 : r < d 2) : sumL (fun q => kl d q) (kX d r (d 0).toNat) ≤ 4800 := by
  have hn := hD.n
  rcases hD.rule h0 h1 with h | h
  · have e : sumL (fun q => kl d q) (kX d r (d 0).toNat) = sumL (fun _ => 3) (kX d r (d 0).toNat) := sumL_congr (fun q hq => by
      unfold kl
      rw [(kX_mem hq).1, if_pos h.1])
    have := kX_len (r := r) (show (d 0).toNat ≤ 40 by omega) (d 0).toNat
    rw [e, sumL_const]
    omega
  · have e : sumL (fun q => kl d q) (kX d r (d 0).toNat) ≤ sumL (fun _ => 6) (kX d r (d 0).toNat) := sumL_le (fun q hq => by
      unfold kl
      rw [(kX_mem hq).1, if_neg (by omega)]
      exact h.2)
    have := kXP_len h hn (d 0).toNat
    rw [sumL_const] at e
    omega
theorem kR_sum {d : Int → Int} {T : List Int} (hD : DW d T) : ∀ m : Nat, (m : Int) ≤ d 2 → sumL (fun q => kl d q) (kR d m) ≤ 4800 * m
  | 0, _ => Int.le_refl _
  | m + 1, h => by
    have h1 := kR_sum hD m (by omega)
    have h2 := kX_sum hD (r := (m : Int)) (by omega) (by omega)
    simp only [kR, sumL_app]
    omega
theorem KL_sum {d : Int → Int} {T : List Int} (hD : DW d T) : sumL (fun q => kl d q) (KL d) ≤ 19200 := by
  have h1 := hD.nr
  have h2 := kR_sum hD (d 2).toNat (by omega)
  unfold KL
  omega
theorem fb_le {d : Int → Int} {T : List Int} (hD : DW d T) (x : Int) : fb d x ≤ 19200 := Int.le_trans (fbN_le hD _) (KL_sum hD)
