/-- the machine's state of the parser is the pure one -/
def PR (t : Int → Int) (L : Int) (I : Nat → Int) (g : Int → Int) (S : PSt) : Prop := (I 3 = L ∧ 0 ≤ L ∧ L ≤ 600) ∧ (0 ≤ I 4 ∧ I 4 ≤ L) ∧ (-10 ≤ I 5 ∧ I 5 ≤ 0) ∧ (I 5 = S.1 ∧ I 6 = S.2.1) ∧ (I 5 = 0 → sk t L (I 4) = S.2.2.1 ∧ g = S.2.2.2)
theorem PR.hL {t : Int → Int} {L : Int} {I : Nat → Int} {g : Int → Int} {S : PSt} (h : PR t L I g S) : 0 ≤ I 3 ∧ I 3 ≤ 600 := by have := h.1; omega
theorem PR.hp {t : Int → Int} {L : Int} {I : Nat → Int} {g : Int → Int} {S : PSt} (h : PR t L I g S) : 0 ≤ I 4 ∧ I 4 ≤ I 3 := by have := h.1; have := h.2.1; omega
theorem PR.cg {t : Int → Int} {L : Int} {I I2 : Nat → Int} {g : Int → Int} {S : PSt} (h : PR t L I g S) (e3 : I2 3 = I 3) (e4 : I2 4 = I 4) (e5 : I2 5 = I 5) (e6 : I2 6 = I 6) : PR t L I2 g S := by
  unfold PR; rw [e3, e4, e5, e6]; exact h
theorem PR.ps {t : Int → Int} {L : Int} {I : Nat → Int} {g : Int → Int} {S : PSt} (h : PR t L I g S) (h0 : S.1 = 0) : sk t L (I 4) = S.2.2.1 := (h.2.2.2.2 (by have := h.2.2.2.1.1; omega)).1
theorem PR.g {t : Int → Int} {L : Int} {I : Nat → Int} {g : Int → Int} {S : PSt} (h : PR t L I g S) (h0 : S.1 = 0) : g = S.2.2.2 := (h.2.2.2.2 (by have := h.2.2.2.1.1; omega)).2
/-- after a look at the next byte -/
theorem PR.mv {t : Int → Int} {L : Int} {I I2 : Nat → Int} {g : Int → Int} {S : PSt} (h : PR t L I g S) (e4 : I2 4 = sk t (I 3) (I 4)) (gk : ∀ k : Nat, k ≠ 4 → I2 k = I k) : PR t L I2 g S := by
  have hs := sk_rng (t := t) (L := L) (p := I 4) (by have := h.2.1; omega)
  rw [h.1.1] at e4
  refine ⟨by rw [gk 3 (by decide)]; exact h.1, by have := h.2.1; omega, by rw [gk 5 (by decide)]; exact h.2.2.1, by rw [gk 5 (by decide), gk 6 (by decide)]; exact h.2.2.2.1, fun h5 => ?_⟩
  rw [gk 5 (by decide)] at h5
  have h6 := h.2.2.2.2 h5
  rw [e4, sk_sk (by have := h.2.1; omega)]
  exact h6
theorem PR.by {t : Int → Int} {L : Int} {I : Nat → Int} {g : Int → Int} {S : PSt} (h : PR t L I g S) (h0 : S.1 = 0) {z : Int} (e : z = byA t (I 3) (sk t (I 3) (I 4))) : z = byA t L S.2.2.1 := by rw [e, h.1.1, h.ps h0]
/-- a byte is taken: the place stood at it -/
theorem PR.step {t : Int → Int} {L : Int} {I I2 : Nat → Int} {g : Int → Int} {S : PSt} (h : PR t L I g S) (h0 : S.1 = 0) (h4 : I 4 = S.2.2.1) (hlt : S.2.2.1 < L) (e3 : I2 3 = I 3) (e4 : I2 4 = I 4 + 1) (e5 : I2 5 = I 5) (e6 : I2 6 = I 6) : PR t L I2 g (0, S.2.1, sk t L (S.2.2.1 + 1), S.2.2.2) := by
  have h5 := h.2.2.2.1
  refine ⟨by rw [e3]; exact h.1, by have := h.2.1; omega, by omega, ⟨by show I2 5 = 0; omega, by show I2 6 = S.2.1; omega⟩, fun _ => ⟨by rw [e4, h4], h.g h0⟩⟩
theorem PR.err {t : Int → Int} {L : Int} {I I2 : Nat → Int} {g g2 : Int → Int} {S : PSt} {c o q : Int} (h : PR t L I g S) (e3 : I2 3 = I 3) (e4 : 0 ≤ I2 4 ∧ I2 4 ≤ L) (e5 : I2 5 = c) (e6 : I2 6 = o) (hc : -10 ≤ c ∧ c < 0) : PR t L I2 g (c, o, q, g2) :=
  ⟨by rw [e3]; exact h.1, e4, by omega, ⟨e5, e6⟩, fun h5 => absurd h5 (by omega)⟩
theorem PR.exp {t : Int → Int} {L c : Int} {I I2 : Nat → Int} {g : Int → Int} {S : PSt} (h : PR t L I g S) (hc : 0 ≤ c)
    (e : (I 5 ≠ 0 ∧ I2 4 = I 4 ∧ I2 5 = I 5 ∧ I2 6 = I 6 ∨ I 5 = 0 ∧ byA t (I 3) (sk t (I 3) (I 4)) = c ∧ I2 4 = sk t (I 3) (I 4) + 1 ∧ I2 5 = 0 ∧ I2 6 = I 6 ∨ I 5 = 0 ∧ byA t (I 3) (sk t (I 3) (I 4)) ≠ c ∧ I2 4 = sk t (I 3) (I 4) ∧ I2 5 = -2 ∧ I2 6 = sk t (I 3) (I 4)))
    (gk : ∀ k : Nat, k ≠ 4 → k ≠ 5 → k ≠ 6 → I2 k = I k) : PR t L I2 g (pexp t L c S) := by
  have e3 := gk 3 (by decide) (by decide) (by decide)
  have h5 := h.2.2.2.1
  have h4 := h.2.1
  have hs := sk_rng (t := t) (L := L) (p := I 4) (by omega)
  unfold pexp
  rcases e with ⟨n0, a, b, d⟩ | ⟨n0, n1, a, b, d⟩ | ⟨n0, n1, a, b, d⟩
  · rw [if_pos (by omega)]; exact h.cg e3 a b d
  · have hb := h.ps (by omega)
    rw [h.1.1] at n1 a
    rw [hb] at n1 a
    have hlt := byA_in (t := t) (L := L) (p := S.2.2.1) (by omega)
    rw [if_neg (by omega), if_pos n1]
    exact ⟨by rw [e3]; exact h.1, by omega, by omega, ⟨b, by show I2 6 = S.2.1; omega⟩, fun _ => ⟨by rw [a], h.g (by omega)⟩⟩
  · have hb := h.ps (by omega)
    rw [h.1.1] at n1 a d
    rw [hb] at n1 a d
    rw [if_neg (by omega), if_neg n1]
    exact h.err e3 (by omega) b d (by omega)
theorem PR.num {t : Int → Int} {L lo hi z : Int} {I I2 : Nat → Int} {g : Int → Int} {S : PSt} (h : PR t L I g S)
    (e : (I 5 ≠ 0 ∧ z = 0 ∧ I2 4 = I 4 ∧ I2 5 = I 5 ∧ I2 6 = I 6 ∨ I 5 = 0 ∧ ¬ (48 ≤ byA t (I 3) (sk t (I 3) (I 4)) ∧ byA t (I 3) (sk t (I 3) (I 4)) ≤ 57) ∧ z = 0 ∧ I2 4 = sk t (I 3) (I 4) ∧ I2 5 = -2 ∧ I2 6 = sk t (I 3) (I 4) ∨ I 5 = 0 ∧ (48 ≤ byA t (I 3) (sk t (I 3) (I 4)) ∧ byA t (I 3) (sk t (I 3) (I 4)) ≤ 57) ∧ z = (nm t (I 3) 0 (sk t (I 3) (I 4))).1 ∧ I2 4 = (nm t (I 3) 0 (sk t (I 3) (I 4))).2 ∧ (lo ≤ z ∧ z ≤ hi ∧ I2 5 = 0 ∧ I2 6 = I 6 ∨ (z < lo ∨ hi < z) ∧ I2 5 = -3 ∧ I2 6 = sk t (I 3) (I 4))))
    (gk : ∀ k : Nat, k ≠ 4 → k ≠ 5 → k ≠ 6 → I2 k = I k) : PR t L I2 g (pnum t L lo hi S) ∧ ((pnum t L lo hi S).1 = 0 → z = pval t L S) := by
  have e3 := gk 3 (by decide) (by decide) (by decide)
  have h5 := h.2.2.2.1
  have h4 := h.2.1
  have hs := sk_rng (t := t) (L := L) (p := I 4) (by omega)
  unfold pnum pval
  rcases e with ⟨n0, hz, a, b, d⟩ | ⟨n0, n1, hz, a, b, d⟩ | ⟨n0, n1, hz, a, bd⟩
  · rw [if_pos (by omega)]; exact ⟨h.cg e3 a b d, fun h9 => absurd h9 (by omega)⟩
  · have hb := h.ps (by omega)
    rw [h.1.1] at n1 a d
    rw [hb] at n1 a d
    rw [if_neg (by omega), if_pos n1]
    exact ⟨h.err e3 (by omega) b d (by omega), fun h9 => absurd h9 (by show (-2 : Int) ≠ 0; decide)⟩
  · have hb := h.ps (by omega)
    rw [h.1.1] at n1 a hz bd
    rw [hb] at n1 a hz bd hs
    have hnr := nm_rng (t := t) (L := L) (v := 0) (p := S.2.2.1) hs.2 (by omega)
    rw [if_neg (by omega), if_neg (by omega)]
    rcases bd with ⟨a1, a2, b, d⟩ | ⟨a1, b, d⟩
    · rw [if_pos (by omega)]
      exact ⟨⟨by rw [e3]; exact h.1, by omega, by omega, ⟨b, by show I2 6 = S.2.1; omega⟩, fun _ => ⟨by rw [a], h.g (by omega)⟩⟩, fun _ => hz⟩
    · rw [if_neg (by omega)]
      exact ⟨h.err e3 (by omega) b d (by omega), fun h9 => absurd h9 (by show (-3 : Int) ≠ 0; decide)⟩
theorem PR.tk {t : Int → Int} {L z : Int} {i : Nat} {I I2 : Nat → Int} {g : Int → Int} {S : PSt} (h : PR t L I g S) (h0 : S.1 = 0) (hi : i < 9)
    (e : (I 5 ≠ 0 ∧ z = 0 ∧ I2 4 = I 4 ∨ I 5 = 0 ∧ isW t (I 3) (sk t (I 3) (I 4)) (ST i) = true ∧ z = 1 ∧ I2 4 = sk t (I 3) (I 4) + (lenST.getD i 0 : Nat) ∨ I 5 = 0 ∧ isW t (I 3) (sk t (I 3) (I 4)) (ST i) = false ∧ z = 0 ∧ I2 4 = sk t (I 3) (I 4)))
    (gk : ∀ k : Nat, k ≠ 4 → I2 k = I k) : (z = 1 ∧ isW t L S.2.2.1 (ST i) = true ∧ PR t L I2 g (padv t L i S)) ∨ (z = 0 ∧ isW t L S.2.2.1 (ST i) = false ∧ PR t L I2 g S) := by
  have e3 := gk 3 (by decide)
  have e5 := gk 5 (by decide)
  have e6 := gk 6 (by decide)
  have h5 := h.2.2.2.1
  have h4 := h.2.1
  have hs := sk_rng (t := t) (L := L) (p := I 4) (by omega)
  have hb := h.ps h0
  rcases e with ⟨n0, _⟩ | ⟨n0, n1, hz, a⟩ | ⟨n0, n1, hz, a⟩
  · exact absurd n0 (by omega)
  · have a0 := a
    rw [h.1.1] at n1 a
    rw [hb] at n1 a hs
    have hle := isW_le hi n1
    exact Or.inl ⟨hz, n1, ⟨by rw [e3]; exact h.1, by omega, by rw [e5]; exact h.2.2.1, by rw [e5, e6]; exact h5, fun _ => ⟨by rw [a]; rfl, h.g h0⟩⟩⟩
  · have a0 := a
    rw [h.1.1] at n1
    rw [hb] at n1
    exact Or.inr ⟨hz, n1, h.mv a0 gk⟩
theorem PR.emit {t : Int → Int} {L v : Int} {I : Nat → Int} {g g2 : Int → Int} {S : PSt} (h : PR t L I g S) (e : I 5 ≠ 0 ∧ g2 = g ∨ I 5 = 0 ∧ g2 = emi g v) : PR t L I g2 (pemit v S) := by
  have h5 := h.2.2.2.1
  unfold pemit
  rcases e with ⟨n0, rfl⟩ | ⟨n0, rfl⟩
  · rw [if_pos (by omega)]; exact h
  · rw [if_neg (by omega)]
    have h6 := h.2.2.2.2 n0
    exact ⟨h.1, h.2.1, h.2.2.1, ⟨n0, h5.2⟩, fun _ => ⟨h6.1, by show emi g v = emi S.2.2.2 v; rw [h6.2]⟩⟩
theorem pemit_cg {a b : Int} {S : PSt} (h : S.1 = 0 → a = b) : pemit a S = pemit b S := by
  unfold pemit
  by_cases c : S.1 ≠ 0
  · rw [if_pos c, if_pos c]
  · rw [h (by omega)]
theorem pemit_1 {a : Int} {S : PSt} (h : (pemit a S).1 = 0) : S.1 = 0 := by
  unfold pemit at h
  by_cases c : S.1 ≠ 0
  · rw [if_pos c] at h; exact h
  · omega
theorem PL.e4 {t : Int → Int} {L m a c : Int} {S R : PSt} {I : Nat → Int} {g : Int → Int} (hP : PL L m a S R) (h : PR t L I g R) (hb : S.1 = 0 → 2 * S.2.2.2 4 + c ≤ 3 * S.2.2.1) (hm : m - c ≤ 190) : I 5 = 0 → 0 ≤ g 4 ∧ g 4 ≤ 999 := by
  intro h5
  have h6 := h.2.2.2.2 h5
  have h7 : R.1 = 0 := by have := h.2.2.2.1; omega
  have h8 := hP.2 h7
  have h9 := hP.1.2 h7
  have h1 := hb h8.1
  have h2 := h.1
  rw [h6.2]
  omega
/-- the place at a byte that is there -/
theorem PR.at4 {t : Int → Int} {L : Int} {I I2 : Nat → Int} {g : Int → Int} {S : PSt} (h : PR t L I g S) (h0 : S.1 = 0) (e4 : I2 4 = sk t (I 3) (I 4)) : I2 4 = S.2.2.1 := by rw [e4, h.1.1, h.ps h0]
theorem pT_sp {t : Int → Int} {L : Int} {f : Nat} {dl : Int} {S : PSt} : ∃ k : Nat, pP t L f 1 dl S = pP t L k 2 dl (pP t L k 0 dl S) ∧ (f = k + 1 ∨ f = 0) := by
  cases f with
  | zero => exact ⟨0, rfl, Or.inr rfl⟩
  | succ k => exact ⟨k, rfl, Or.inl rfl⟩
theorem pS_sp {t : Int → Int} {L : Int} {f : Nat} {dl : Int} {S : PSt} : ∃ k : Nat, pP t L f 3 dl S = pP t L k 4 dl (pP t L k 1 dl S) ∧ (f = k + 1 ∨ f = 0) := by
  cases f with
  | zero => exact ⟨0, rfl, Or.inr rfl⟩
  | succ k => exact ⟨k, rfl, Or.inl rfl⟩
/-- what a factor, a term and a sum promise -/
def PQ (cy : Nat → ClassId) (ws0 : va_W) (b aM : Nat) (I : Nat → Int) (ad : Nat → Nat) (bu : Int → Int) (L : Int) (S : PSt) (u : va_W) : Prop := ∃ (I2 : Nat → Int) (dr2 : Int → Int), u[b]? = some (aM, mO I2 ad) ∧ u[b + 3]? = some (ad 9, aI cy 1111 dr2) ∧ (PR bu L I2 dr2 S ∧ ∀ k : Nat, k ≠ 4 → k ≠ 5 → k ≠ 6 → I2 k = I k) ∧ Eqx ws0 u (fun j => j = b ∨ j = b + 3)
def PCon (l : Launch) (G : va_G) (cy : Nat → ClassId) (y : MethodName) (wds : List Cond) (rm : Room) (md n : Nat) : Prop := ∀ {ws0 : va_W} {b aM : Nat} {I : Nat → Int} {ad : Nat → Nat} {bu dr : Int → Int} {L : Int} {S : PSt} {f : Nat} (_ : ws0[b]? = some (aM, mO I ad)) (_ : ws0[b + 1]? = some (ad 1, aI cy 600 bu)) (_ : ws0[b + 3]? = some (ad 9, aI cy 1111 dr)) (_ : TXok bu) (_ : PR bu L I dr S) (_ : PG L S) (_ : 0 ≤ I 13 ∧ I 13 + n = 5) (_ : n = 0 → S.1 ≠ 0) (_ : S.1 = 0 → 2 * S.2.2.2 4 + 1 ≤ 3 * S.2.2.1) (_ : S.1 = 0 → 6 * (L - S.2.2.1) + pw md < f), MVs l y wds rm G cy [.ref aM] ws0 (PQ cy ws0 b aM I ad bu L (pP bu L f md (I 13) S))
abbrev rmF (n : Nat) : Room := { frames := 20 + 4 * n, cells := 0, slots := 0, locals := 400 + 100 * n }
abbrev rmT (n : Nat) : Room := { frames := 21 + 4 * n, cells := 0, slots := 0, locals := 430 + 100 * n }
abbrev rmS (n : Nat) : Room := { frames := 22 + 4 * n, cells := 0, slots := 0, locals := 460 + 100 * n }
theorem pexp_bad {t : Int → Int} {L c : Int} {S : PSt} (h : S.1 ≠ 0) : pexp t L c S = S := if_pos h
