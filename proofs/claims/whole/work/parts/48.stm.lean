/-! the statements of a text, purely -/
def pset (k v : Int) (S : PSt) : PSt := if S.1 ≠ 0 then S else (0, S.2.1, S.2.2.1, uZ S.2.2.2 k v)
def prep (c o : Int) (S : PSt) : PSt := if S.1 ≠ 0 then S else (c, o, S.2.2.1, S.2.2.2)
def pnumA (t : Int → Int) (L k lo hi : Int) (S : PSt) : PSt := pset k (pval t L S) (pnum t L lo hi S)
def pminS (t : Int → Int) (L : Int) (S : PSt) : PSt := if S.1 = 0 ∧ byA t L S.2.2.1 = 45 then (0, S.2.1, sk t L (S.2.2.1 + 1), S.2.2.2) else S
def pminB (t : Int → Int) (L : Int) (S : PSt) (v : Int) : Int := if S.1 = 0 ∧ byA t L S.2.2.1 = 45 then -v else v
def pwrd (t : Int → Int) (L : Int) (i : Nat) (S : PSt) : PSt := if S.1 = 0 ∧ isW t L S.2.2.1 (ST i) = true then padv t L i S else S
def pwb (t : Int → Int) (L : Int) (i : Nat) (S : PSt) : Int := if S.1 = 0 ∧ isW t L S.2.2.1 (ST i) = true then 1 else 0
/-- the three factors of an equation -/
def pE (t : Int → Int) (L b : Int) : Nat → PSt → PSt
  | 0, S => S
  | j + 1, S => pnumA t L (b + 1 + j) 1 9 (pE t L b j S)
def pEqB (t : Int → Int) (L b : Int) (A : PSt) : PSt := pset (b + 4) (pminB t L A (pval t L (pminS t L A))) (pnum t L 0 99 (pminS t L A))
def pEqC (t : Int → Int) (L b : Int) (C : PSt) : PSt := pset (b + 5) (pwb t L 3 C) (pwrd t L 3 C)
def pinc (S : PSt) : PSt := pset 2 (S.2.2.2 2 + 1) S
def pR1 (st : Int) (S : PSt) : PSt := if S.1 = 0 ∧ S.2.2.2 2 = 4 then prep (-4) st S else S
def pRule (t : Int → Int) (L st eq : Int) (S : PSt) : PSt := if (pR1 st S).1 ≠ 0 then pR1 st S else
  if eq = 1 then pinc (pEqC t L (5 + 6 * S.2.2.2 2) (pEqB t L (5 + 6 * S.2.2.2 2) (pE t L (5 + 6 * S.2.2.2 2) 3 S))) else pinc (pnumA t L (5 + 6 * S.2.2.2 2) 3 6 S)
def pC1 (t : Int → Int) (L : Int) (S : PSt) : PSt := pnum t L 1 (S.2.2.2 0) S
def pC2 (t : Int → Int) (L : Int) (S : PSt) : PSt := pnum t L 0 (S.2.2.2 1 - 1) (pC1 t L S)
def pC3 (t : Int → Int) (L : Int) (S : PSt) : PSt := pset (29 + pval t L S) (pval t L (pC1 t L S) + 1) (pC2 t L S)
def pCol (t : Int → Int) (L : Int) (S : PSt) : PSt := pset (70 + pval t L S) (pwb t L 4 (pC3 t L S)) (pwrd t L 4 (pC3 t L S))
def pW1 (st : Int) (S : PSt) : PSt := if S.1 = 0 ∧ S.2.2.2 3 = 1 then prep (-2) st S else S
def pWt (t : Int → Int) (L st : Int) (S : PSt) : PSt := pP t L 4000 3 0 (pset 3 1 (pW1 st S))
def pWh (t : Int → Int) (L p : Int) : Nat := if isW t L p (ST 5) = true then 0 else if isW t L p (ST 6) = true then 1 else if isW t L p (ST 2) = true then 2 else if isW t L p (ST 7) = true then 3 else 4
def pStB (t : Int → Int) (L : Int) (S : PSt) : PSt := match pWh t L S.2.2.1 with
  | 0 => pRule t L S.2.2.1 1 (padv t L 5 S)
  | 1 => pRule t L S.2.2.1 0 (padv t L 6 S)
  | 2 => pCol t L (padv t L 2 S)
  | 3 => pWt t L S.2.2.1 (padv t L 7 S)
  | _ => prep (-2) S.2.2.1 S
def pStm (t : Int → Int) (L : Int) (S : PSt) : PSt := pexp t L 59 (pStB t L S)
def pSts (t : Int → Int) (L : Int) : Nat → PSt → PSt
  | 0, S => S
  | f + 1, S => if S.1 = 0 ∧ byA t L S.2.2.1 ≠ -1 then pSts t L f (pStm t L S) else S
def pH0 (t : Int → Int) (L : Int) : PSt := if isW t L (sk t L 0) (ST 8) = true then padv t L 8 (0, -1, sk t L 0, fun _ => 0) else (-2, sk t L 0, sk t L 0, fun _ => 0)
def pHd (t : Int → Int) (L : Int) : PSt := pexp t L 59 (pnumA t L 1 1 4 (pnumA t L 0 1 40 (pH0 t L)))
def pLoad (t : Int → Int) (L : Int) : PSt := pSts t L 700 (pHd t L)
/-! the machine keeps step -/
theorem PR.set {t : Int → Int} {L k v w : Int} {I : Nat → Int} {g : Int → Int} {S : PSt} (h : PR t L I g S) (hv : S.1 = 0 → v = w) : PR t L I (uZ g k v) (pset k w S) := by
  unfold pset
  by_cases c : S.1 ≠ 0
  · rw [if_pos c]
    exact ⟨h.1, h.2.1, h.2.2.1, h.2.2.2.1, fun h5 => absurd h.2.2.2.1.1 (by omega)⟩
  · rw [if_neg c, hv (by omega), ← h.g (by omega)]
    exact ⟨h.1, h.2.1, h.2.2.1, ⟨by have := h.2.2.2.1.1; show I 5 = 0; omega, h.2.2.2.1.2⟩, fun _ => ⟨h.ps (by omega), rfl⟩⟩
theorem PR.rep {t : Int → Int} {L kd o : Int} {I I2 : Nat → Int} {g : Int → Int} {S : PSt} (h : PR t L I g S) (hk : -10 ≤ kd ∧ kd < 0) (e : I 5 = 0 ∧ I2 5 = kd ∧ I2 6 = o ∨ I 5 ≠ 0 ∧ I2 5 = I 5 ∧ I2 6 = I 6) (gk : ∀ k : Nat, k ≠ 5 → k ≠ 6 → I2 k = I k) : PR t L I2 g (prep kd o S) := by
  have e3 := gk 3 (by decide) (by decide)
  have e4 := gk 4 (by decide) (by decide)
  have h5 := h.2.2.2.1
  unfold prep
  rcases e with ⟨n0, a, b⟩ | ⟨n0, a, b⟩
  · rw [if_neg (by omega)]; exact h.err e3 (by rw [e4]; exact h.2.1) a b hk
  · rw [if_pos (by omega)]; exact h.cg e3 e4 a b
/-- a word is looked for -/
theorem PR.wrd {t : Int → Int} {L z : Int} {i : Nat} {I I2 : Nat → Int} {g : Int → Int} {S : PSt} (h : PR t L I g S) (hi : i < 9)
    (e : (I 5 ≠ 0 ∧ z = 0 ∧ I2 4 = I 4 ∨ I 5 = 0 ∧ isW t (I 3) (sk t (I 3) (I 4)) (ST i) = true ∧ z = 1 ∧ I2 4 = sk t (I 3) (I 4) + (lenST.getD i 0 : Nat) ∨ I 5 = 0 ∧ isW t (I 3) (sk t (I 3) (I 4)) (ST i) = false ∧ z = 0 ∧ I2 4 = sk t (I 3) (I 4)))
    (gk : ∀ k : Nat, k ≠ 4 → I2 k = I k) : z = pwb t L i S ∧ PR t L I2 g (pwrd t L i S) := by
  unfold pwb pwrd
  by_cases c : S.1 = 0
  · rcases h.tk c hi e gk with ⟨a, b, d⟩ | ⟨a, b, d⟩
    · rw [if_pos ⟨c, b⟩, if_pos ⟨c, b⟩]; exact ⟨a, d⟩
    · rw [if_neg (fun q => by rw [b] at q; exact absurd q.2 (by decide)), if_neg (fun q => by rw [b] at q; exact absurd q.2 (by decide))]; exact ⟨a, d⟩
  · have h5 := h.2.2.2.1
    rw [if_neg (fun q => c q.1), if_neg (fun q => c q.1)]
    rcases e with ⟨n0, a, b⟩ | ⟨n0, _⟩ | ⟨n0, _⟩
    · exact ⟨a, h.cg (gk 3 (by decide)) b (gk 5 (by decide)) (gk 6 (by decide))⟩
    · exact absurd n0 (by omega)
    · exact absurd n0 (by omega)
theorem pR1_4 {st : Int} {S : PSt} (h0 : S.1 = 0) (h : S.2.2.2 2 = 4) : pR1 st S = (-4, st, S.2.2.1, S.2.2.2) := (if_pos ⟨h0, h⟩).trans (if_neg (by omega))
theorem pR1_n {st : Int} {S : PSt} (h : S.2.2.2 2 ≠ 4) : pR1 st S = S := if_neg (fun q => h q.2)
theorem pRule_4 {t : Int → Int} {L st eq : Int} {S : PSt} (h0 : S.1 = 0) (h : S.2.2.2 2 = 4) : pRule t L st eq S = (-4, st, S.2.2.1, S.2.2.2) := by
  unfold pRule; rw [pR1_4 h0 h]; exact if_pos (by show (-4 : Int) ≠ 0; decide)
theorem pRule_e {t : Int → Int} {L st eq : Int} {S : PSt} (h0 : S.1 = 0) (h : S.2.2.2 2 ≠ 4) (he : eq = 1) : pRule t L st eq S = pinc (pEqC t L (5 + 6 * S.2.2.2 2) (pEqB t L (5 + 6 * S.2.2.2 2) (pE t L (5 + 6 * S.2.2.2 2) 3 S))) := by
  unfold pRule; rw [pR1_n h]; exact (if_neg (by omega)).trans (if_pos he)
theorem pRule_p {t : Int → Int} {L st eq : Int} {S : PSt} (h0 : S.1 = 0) (h : S.2.2.2 2 ≠ 4) (he : eq ≠ 1) : pRule t L st eq S = pinc (pnumA t L (5 + 6 * S.2.2.2 2) 3 6 S) := by
  unfold pRule; rw [pR1_n h]; exact (if_neg (by omega)).trans (if_neg he)
theorem pwb_rng {t : Int → Int} {L : Int} {i : Nat} {S : PSt} : 0 ≤ pwb t L i S ∧ pwb t L i S ≤ 1 := by
  unfold pwb
  by_cases c : S.1 = 0 ∧ isW t L S.2.2.1 (ST i) = true
  · rw [if_pos c]; decide
  · rw [if_neg c]; decide
