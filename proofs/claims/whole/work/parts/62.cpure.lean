theorem GoodIn.apl {a b c : List Cond} (h : GoodIn a c) : GoodIn (a ++ b) c := fun w hw => ⟨List.mem_append_left _ (h w hw).1, (h w hw).2⟩
theorem Eqx.up {ws u v : va_W} {X : Nat → Prop} {q : Nat} {x : Nat × va_E} (h : Eqx ws u X) (k : Up1 u v q x) (hq : ws.length ≤ q) : Eqx ws v X := ⟨by rw [k.2.1]; exact h.1, fun j hj hX => (k.2.2 j (by omega)).trans (h.2 j hj hX)⟩
/-! a colouring as masks: e x is the colour of x and 1, f x whether x is fixed; n numbers -/
def mkp (n : Int) (e : Int → Int) (c : Int) : Int → Bool := fun x => decide (1 ≤ x ∧ x ≤ n ∧ e x = c + 1)
noncomputable def mk (n : Int) (e : Int → Int) (c : Int) : Int64 := bs (mkp n e c)
noncomputable def fmk (n : Int) (f : Int → Int) : Int64 := bs (fun x => decide (1 ≤ x ∧ x ≤ n ∧ f x = 1))
/-- whether it is fixed -/
def fx (d : Int → Int) : Int → Int := fun x => d (70 + x)
theorem mkp_iff {n : Int} {e : Int → Int} {c x : Int} : mkp n e c x = true ↔ 1 ≤ x ∧ x ≤ n ∧ e x = c + 1 := decide_eq_true_iff
theorem bs_test {p : Int → Bool} {x : Int} (hx : 0 ≤ x ∧ x < 64) : bs p &&& bs (fun y => decide (y = x)) = zL 0 ↔ p x = false := by
  rw [bs_and, bs_eq0]
  constructor
  · intro h
    have := h x hx.1 hx.2
    simpa using this
  · intro h y h0 h1
    by_cases c : y = x
    · subst c; simp [h]
    · simp [c]
theorem mk_test {n : Int} {e : Int → Int} {c x : Int} (hn : n ≤ 40) (hx : 1 ≤ x ∧ x ≤ n) : mk n e c &&& bs (fun y => decide (y = x)) = zL 0 ↔ e x ≠ c + 1 := by
  unfold mk
  rw [bs_test (by omega)]
  constructor
  · intro h h2
    rw [mkp_iff.mpr ⟨hx.1, hx.2, h2⟩] at h
    exact absurd h (by decide)
  · intro h
    by_cases c2 : mkp n e c x = true
    · exact absurd (mkp_iff.mp c2).2.2 h
    · simpa using c2
theorem fmk_test {n : Int} {f : Int → Int} {x : Int} (hn : n ≤ 40) (hx : 1 ≤ x ∧ x ≤ n) : fmk n f &&& bs (fun y => decide (y = x)) = zL 0 ↔ f x ≠ 1 := by
  unfold fmk
  rw [bs_test (by omega)]
  simp only [decide_eq_false_iff_not]
  constructor
  · intro h h2; exact h ⟨hx.1, hx.2, h2⟩
  · intro h h2; exact h h2.2.2
theorem mk_congr {n : Int} {e e2 : Int → Int} {c : Int} (h : ∀ x : Int, 1 ≤ x → x ≤ n → (e x = c + 1 ↔ e2 x = c + 1)) : mk n e c = mk n e2 c := by
  apply bs_congr
  intro x _ _
  unfold mkp
  apply decide_eq_decide.mpr
  constructor
  · rintro ⟨a, b, d⟩; exact ⟨a, b, (h x a b).mp d⟩
  · rintro ⟨a, b, d⟩; exact ⟨a, b, (h x a b).mpr d⟩
theorem mk_congr2 {n : Int} {e e2 : Int → Int} {c c2 : Int} (h : ∀ x : Int, 1 ≤ x → x ≤ n → (e x = c + 1 ↔ e2 x = c2 + 1)) : mk n e c = mk n e2 c2 := by
  apply bs_congr
  intro x _ _
  unfold mkp
  apply decide_eq_decide.mpr
  constructor
  · rintro ⟨a, b, d⟩; exact ⟨a, b, (h x a b).mp d⟩
  · rintro ⟨a, b, d⟩; exact ⟨a, b, (h x a b).mpr d⟩
theorem fmk_congr {n : Int} {e e2 : Int → Int} (h : ∀ x : Int, 1 ≤ x → x ≤ n → (e x = 1 ↔ e2 x = 1)) : fmk n e = fmk n e2 := by
  apply bs_congr
  intro x _ _
  apply decide_eq_decide.mpr
  constructor
  · rintro ⟨a, b, d⟩; exact ⟨a, b, (h x a b).mp d⟩
  · rintro ⟨a, b, d⟩; exact ⟨a, b, (h x a b).mpr d⟩
theorem mk_zero {n : Int} {e : Int → Int} {c : Int} (h : ∀ x : Int, 1 ≤ x → x ≤ n → e x ≠ c + 1) : mk n e c = zL 0 := bs_eq0.mpr (fun x _ _ => by
  by_cases q : mkp n e c x = true
  · have := mkp_iff.mp q
    exact absurd this.2.2 (h x this.1 this.2.1)
  · simpa using q)
theorem fmk_zero {n : Int} {f : Int → Int} (h : ∀ x : Int, 1 ≤ x → x ≤ n → f x ≠ 1) : fmk n f = zL 0 := bs_eq0.mpr (fun x _ _ => by
  simp only [decide_eq_false_iff_not]
  rintro ⟨a, b, c⟩
  exact h x a b c)
theorem mk_0 {n c : Int} (h : 0 ≤ c) : mk n (fun _ => 0) c = zL 0 := mk_zero (fun _ _ _ => by omega)
theorem fmk_0 {n : Int} : fmk n (fun _ => 0) = zL 0 := fmk_zero (fun _ _ _ => by omega)
/-- a number loses its colour -/
theorem mk_clr {n : Int} {e : Int → Int} {c x : Int} (h : 0 ≤ c) : mk n e c &&& (bs (fun y => decide (y = x)) ^^^ (-1)) = mk n (uZ e x 0) c := by
  unfold mk
  rw [bs_not, bs_and]
  apply bs_congr
  intro y _ _
  unfold mkp uZ
  by_cases q : y = x
  · subst q
    simp
    intro _ _ hh
    omega
  · simp [q]
theorem mk_set {n : Int} {e : Int → Int} {c x : Int} (hx : 1 ≤ x ∧ x ≤ n) : mk n (uZ e x 0) c ||| bs (fun y => decide (y = x)) = mk n (uZ e x (c + 1)) c := by
  unfold mk
  rw [bs_or]
  apply bs_congr
  intro y _ _
  unfold mkp uZ
  by_cases q : y = x
  · subst q
    simp
    exact hx
  · simp [q]
theorem mk_other {n : Int} {e : Int → Int} {c v x : Int} (h : 0 ≤ c) (hv : v ≠ c + 1) : mk n (uZ e x 0) c = mk n (uZ e x v) c := mk_congr (fun y _ _ => by
  unfold uZ
  by_cases q : y = x
  · rw [if_pos q, if_pos q]; omega
  · rw [if_neg q, if_neg q])
theorem fmk_clr {n : Int} {f : Int → Int} {x : Int} : fmk n f &&& (bs (fun y => decide (y = x)) ^^^ (-1)) = fmk n (uZ f x 0) := by
  unfold fmk
  rw [bs_not, bs_and]
  apply bs_congr
  intro y _ _
  unfold uZ
  by_cases q : y = x
  · subst q; simp
  · simp [q]
theorem fmk_set {n : Int} {f : Int → Int} {x : Int} (hx : 1 ≤ x ∧ x ≤ n) : fmk n (uZ f x 0) ||| bs (fun y => decide (y = x)) = fmk n (uZ f x 1) := by
  unfold fmk
  rw [bs_or]
  apply bs_congr
  intro y _ _
  unfold uZ
  by_cases q : y = x
  · subst q; simp; exact hx
  · simp [q]
/-- two colours exchanged -/
def swE (e : Int → Int) (o1 o2 : Int) : Int → Int := fun x => if e x = o1 + 1 then o2 + 1 else if e x = o2 + 1 then o1 + 1 else e x
theorem mk_sw1 {n : Int} {e : Int → Int} {o1 o2 : Int} : mk n (swE e o1 o2) o1 = mk n e o2 := mk_congr2 (fun x _ _ => by
  unfold swE
  by_cases a : e x = o1 + 1
  · rw [if_pos a, a]; exact ⟨fun h => by omega, fun h => by omega⟩
  · rw [if_neg a]
    by_cases b : e x = o2 + 1
    · rw [if_pos b]; exact ⟨fun _ => b, fun _ => rfl⟩
    · rw [if_neg b]; exact ⟨fun h => absurd h a, fun h => absurd h b⟩)
theorem mk_sw2 {n : Int} {e : Int → Int} {o1 o2 : Int} : mk n (swE e o1 o2) o2 = mk n e o1 := mk_congr2 (fun x _ _ => by
  unfold swE
  by_cases a : e x = o1 + 1
  · rw [if_pos a]; exact ⟨fun _ => a, fun _ => rfl⟩
  · rw [if_neg a]
    by_cases b : e x = o2 + 1
    · rw [if_pos b, b]; exact ⟨fun h => by omega, fun h => by omega⟩
    · rw [if_neg b]; exact ⟨fun h => absurd h b, fun h => absurd h a⟩)
theorem mk_sw3 {n : Int} {e : Int → Int} {o1 o2 c : Int} (h1 : c ≠ o1) (h2 : c ≠ o2) : mk n (swE e o1 o2) c = mk n e c := mk_congr (fun x _ _ => by
  unfold swE
  by_cases a : e x = o1 + 1
  · rw [if_pos a]; exact ⟨fun h => by omega, fun h => by omega⟩
  · rw [if_neg a]
    by_cases b : e x = o2 + 1
    · rw [if_pos b]; exact ⟨fun h => by omega, fun h => by omega⟩
    · rw [if_neg b])
/-- a set within a colour -/
theorem bs_sub {p q : Int → Bool} : bs p &&& (bs q ^^^ (-1)) = zL 0 ↔ ∀ x : Int, 0 ≤ x → x < 64 → p x = true → q x = true := by
  rw [bs_not, bs_and, bs_eq0]
  constructor
  · intro h x h0 h1 h2
    have := h x h0 h1
    rw [h2] at this
    simpa using this
  · intro h x h0 h1
    by_cases c : p x = true
    · simp [c, h x h0 h1 c]
    · simp [c]
theorem has_rng {d : Int → Int} {T : List Int} (hD : DW d T) {q : Ky} (hq : KOk d q) {x : Int} (h : has d q x = true) : 1 ≤ x ∧ x ≤ d 0 := by
  obtain ⟨k, a, b, rfl⟩ := has_iff.mp h
  exact km_rng hD hq a b
theorem sub_all {d e : Int → Int} {T : List Int} (hD : DW d T) {q : Ky} (hq : KOk d q) {c : Int} : bs (fun x => has d q x) &&& (mk (d 0) e c ^^^ (-1)) = zL 0 ↔ ∀ k : Int, 0 ≤ k → k < kl d q → e (km d q k) = c + 1 := by
  have hn := hD.n
  unfold mk
  rw [bs_sub]
  constructor
  · intro h k h0 h1
    have hr := km_rng hD hq h0 h1
    exact (mkp_iff.mp (h _ (by omega) (by omega) (has_iff.mpr ⟨k, h0, h1, rfl⟩))).2.2
  · intro h x _ _ hx
    have hr := has_rng hD hq hx
    obtain ⟨k, a, b, rfl⟩ := has_iff.mp hx
    exact mkp_iff.mpr ⟨hr.1, hr.2, h k a b⟩
theorem cAll_no {d e : Int → Int} {T : List Int} (hD : DW d T) {q : Ky} (hq : KOk d q) (he : ∀ x : Int, 1 ≤ x → x ≤ d 0 → 0 ≤ e x ∧ e x ≤ 4) (h : ∀ c : Int, 0 ≤ c → c < 4 → ¬ ∀ k : Int, 0 ≤ k → k < kl d q → e (km d q k) = c + 1) : cAll d e q = -1 := by
  have hl := kl_rng hD hq
  have hr := km_rng hD hq (k := 0) (by omega) (by omega)
  have h0 := he _ hr.1 hr.2
  unfold cAll
  by_cases a : allN d e q (e (km d q 0) - 1) (kl d q).toNat = true
  · rw [if_pos a]
    by_cases z : e (km d q 0) = 0
    · omega
    · refine absurd (fun k k0 k1 => ?_) (h (e (km d q 0) - 1) (by omega) (by omega))
      exact allN_iff.mp a k k0 (by omega)
  · rw [if_neg a]
/-- the solutions with a number, but for it -/
theorem rest_all {d e : Int → Int} {T : List Int} (hD : DW d T) {q : Ky} (hq : KOk d q) {c x : Int} (hx : has d q x = true) (hc : 0 ≤ c) : bs (fun y => has d q y && decide (y ≠ x)) &&& (mk (d 0) e c ^^^ (-1)) = zL 0 ↔ cAll d (uZ e x (c + 1)) q ≠ -1 := by
  have hn := hD.n
  have hl := kl_rng hD hq
  unfold mk
  rw [bs_sub]
  constructor
  · intro h
    rw [(cAll_eq (by omega) hc).mpr (fun k h0 h1 => ?_)]
    · omega
    · have hr := km_rng hD hq h0 h1
      by_cases a : km d q k = x
      · rw [a, uZ_s]
      · rw [uZ_n a]
        exact (mkp_iff.mp (h _ (by omega) (by omega) (by rw [has_iff.mpr ⟨k, h0, h1, rfl⟩]; simp [a]))).2.2
  · intro h y _ _ hy
    rw [Bool.and_eq_true, decide_eq_true_eq] at hy
    have hr := has_rng hD hq hy.1
    obtain ⟨k, a, b, rfl⟩ := has_iff.mp hy.1
    obtain ⟨k2, a2, b2, e2⟩ := has_iff.mp hx
    unfold cAll at h
    by_cases z : allN d (uZ e x (c + 1)) q (uZ e x (c + 1) (km d q 0) - 1) (kl d q).toNat = true
    · have h9 := allN_iff.mp z
      have g1 := h9 k a (by omega)
      have g2 := h9 k2 a2 (by omega)
      rw [e2, uZ_s] at g2
      rw [uZ_n hy.2] at g1
      exact mkp_iff.mpr ⟨hr.1, hr.2, by omega⟩
    · rw [if_neg z] at h
      exact absurd rfl h
theorem rest_c {d e : Int → Int} {T : List Int} (hD : DW d T) {q : Ky} (hq : KOk d q) {c x : Int} (hx : has d q x = true) (hc : 0 ≤ c) (h : cAll d (uZ e x (c + 1)) q ≠ -1) : cAll d (uZ e x (c + 1)) q = c := by
  have hl := kl_rng hD hq
  unfold cAll at h ⊢
  by_cases z : allN d (uZ e x (c + 1)) q (uZ e x (c + 1) (km d q 0) - 1) (kl d q).toNat = true
  · rw [if_pos z]
    obtain ⟨k2, a2, b2, e2⟩ := has_iff.mp hx
    have g2 := allN_iff.mp z k2 a2 (by omega)
    rw [e2, uZ_s] at g2
    omega
  · rw [if_neg z] at h
    exact absurd rfl h
theorem mk_used {d : Int → Int} {T : List Int} (hD : DW d T) {c : Int} : mk (d 0) (cl d) c = zL 0 ↔ used d c = false := by
  have hn := hD.n
  constructor
  · intro h
    by_cases u : used d c = true
    · obtain ⟨x, a, b, e⟩ := used_iff.mp u
      have := bs_eq0.mp h x (by omega) (by omega)
      rw [mkp_iff.mpr ⟨a, b, e⟩] at this
      exact absurd this (by decide)
    · simpa using u
  · intro h
    refine mk_zero (fun x a b e => ?_)
    rw [used_iff.mpr ⟨x, a, b, e⟩] at h
    exact absurd h (by decide)
/-- the table of the solutions -/
def TW (d : Int → Int) (T : List Int) (se : Int → Int64) (wr rt wt : Int → Int) (re : Int → Int64) (rs : Int → Int) (sz : Int) : Prop := sz = (KL d).length ∧ (∀ (s : Nat) (q : Ky), (KL d)[s]? = some q → se s = bs (fun x => has d q x) ∧ wr s = 41 * q.1 + big d q) ∧ (∀ r : Int, 0 ≤ r → r < d 2 → rt (r + 1) - rt r = (kX d r (d 0).toNat).length ∧ (0 ≤ rt r ∧ rt r ≤ 6400) ∧ (0 ≤ rt (r + 1) ∧ rt (r + 1) ≤ 6400)) ∧ (∀ r g c : Int, 0 ≤ r → r < d 2 → 1 ≤ g → g ≤ d 0 → 0 ≤ c → c < d 1 → wt ((41 * r + g) * 4 + c) = wgt T r g c) ∧ (∀ x : Int, 1 ≤ x → x ≤ d 0 + 1 → rs x = fb d x) ∧ (∀ (x : Int) (s : Nat) (q : Ky), 1 ≤ x → x ≤ d 0 → (KL d)[s]? = some q → has d q x = true → re (fb d x + rk d x s) = bs (fun y => has d q y && decide (y ≠ x)))
