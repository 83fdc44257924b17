/-! reading a text: t its bytes (0 to 255), L its length -/
def byA (t : Int → Int) (L p : Int) : Int := if p < L then t p else -1
def TXok (t : Int → Int) : Prop := ∀ i : Int, 0 ≤ t i ∧ t i ≤ 255
theorem byA_rng {t : Int → Int} (h : TXok t) {L p : Int} : -1 ≤ byA t L p ∧ byA t L p ≤ 255 := by
  unfold byA
  by_cases c : p < L
  · rw [if_pos c]; have := h p; omega
  · rw [if_neg c]; omega
theorem byA_in {t : Int → Int} {L p : Int} (h : byA t L p ≠ -1) : p < L := by
  unfold byA at h
  by_cases c : p < L
  · exact c
  · rw [if_neg c] at h; exact absurd rfl h
/-- the first place from p on that holds no space -/
def skN (t : Int → Int) (L : Int) : Nat → Int → Int
  | 0, p => p
  | f + 1, p => if byA t L p = 32 then skN t L f (p + 1) else p
def sk (t : Int → Int) (L p : Int) : Int := skN t L (L - p).toNat p
theorem sk_stop {t : Int → Int} {L p : Int} (h : byA t L p ≠ 32) : sk t L p = p := by
  unfold sk
  cases hh : (L - p).toNat with
  | zero => rfl
  | succ f => exact if_neg h
theorem sk_step {t : Int → Int} {L p : Int} (h : byA t L p = 32) : sk t L p = sk t L (p + 1) := by
  have hp : p < L := byA_in (t := t) (by omega)
  unfold sk
  rw [show (L - p).toNat = (L - (p + 1)).toNat + 1 by omega]
  exact if_pos h
theorem sk_all {t : Int → Int} {L : Int} : ∀ (m : Nat) (p : Int), (L - p).toNat ≤ m → p ≤ L → (p ≤ sk t L p ∧ sk t L p ≤ L) ∧ byA t L (sk t L p) ≠ 32
  | 0, p, h, h1 => by
    have e : byA t L p = -1 := if_neg (by omega)
    rw [sk_stop (by omega)]
    exact ⟨by omega, by omega⟩
  | m + 1, p, h, h1 => by
    by_cases c : byA t L p = 32
    · have hp : p < L := byA_in (t := t) (by omega)
      have ih := sk_all (t := t) (L := L) m (p + 1) (by omega) (by omega)
      rw [sk_step c]
      exact ⟨by omega, ih.2⟩
    · rw [sk_stop c]
      exact ⟨by omega, c⟩
theorem sk_rng {t : Int → Int} {L p : Int} (h : p ≤ L) : p ≤ sk t L p ∧ sk t L p ≤ L := (sk_all _ p (Nat.le_refl _) h).1
theorem sk_not {t : Int → Int} {L p : Int} (h : p ≤ L) : byA t L (sk t L p) ≠ 32 := (sk_all _ p (Nat.le_refl _) h).2
theorem sk_sk {t : Int → Int} {L p : Int} (h : p ≤ L) : sk t L (sk t L p) = sk t L p := sk_stop (sk_not h)
/-- whether the word cs stands at p -/
def isW (t : Int → Int) (L p : Int) (cs : List Int) : Bool := decide ((∀ k : Nat, k < cs.length → byA t L (p + k) = cs.getD k 0) ∧ ¬ (97 ≤ byA t L (p + cs.length) ∧ byA t L (p + cs.length) ≤ 122))
theorem isW_iff {t : Int → Int} {L p : Int} {cs : List Int} : isW t L p cs = true ↔ (∀ k : Nat, k < cs.length → byA t L (p + k) = cs.getD k 0) ∧ ¬ (97 ≤ byA t L (p + cs.length) ∧ byA t L (p + cs.length) ≤ 122) := decide_eq_true_iff
def dig (c : Int) : Prop := 48 ≤ c ∧ c ≤ 57
/-- a run of digits: its value, cut at a million, and its end -/
def mn6 (v : Int) : Int := if 1000000 < v then 1000000 else v
def numF (t : Int → Int) (L : Int) : Nat → Int → Int → Int × Int
  | 0, v, p => (v, p)
  | f + 1, v, p => if 48 ≤ byA t L p ∧ byA t L p ≤ 57 then numF t L f (mn6 (10 * v + byA t L p - 48)) (p + 1) else (v, p)
def nm (t : Int → Int) (L v p : Int) : Int × Int := numF t L (L - p).toNat v p
theorem nm_stop {t : Int → Int} {L v p : Int} (h : ¬ (48 ≤ byA t L p ∧ byA t L p ≤ 57)) : nm t L v p = (v, p) := by
  unfold nm
  cases hh : (L - p).toNat with
  | zero => rfl
  | succ f => exact if_neg h
theorem nm_step {t : Int → Int} {L v p : Int} (h : 48 ≤ byA t L p ∧ byA t L p ≤ 57) : nm t L v p = nm t L (mn6 (10 * v + byA t L p - 48)) (p + 1) := by
  have hp : p < L := byA_in (t := t) (by omega)
  unfold nm
  rw [show (L - p).toNat = (L - (p + 1)).toNat + 1 by omega]
  exact if_pos h
theorem mn6_rng {v : Int} (h : 0 ≤ v) : 0 ≤ mn6 v ∧ mn6 v ≤ 1000000 := by
  unfold mn6
  by_cases c : 1000000 < v
  · rw [if_pos c]; omega
  · rw [if_neg c]; omega
theorem nm_all {t : Int → Int} {L : Int} : ∀ (m : Nat) (v p : Int), (L - p).toNat ≤ m → p ≤ L → (0 ≤ v ∧ v ≤ 1000000) → (p ≤ (nm t L v p).2 ∧ (nm t L v p).2 ≤ L) ∧ (0 ≤ (nm t L v p).1 ∧ (nm t L v p).1 ≤ 1000000) ∧ ¬ (48 ≤ byA t L (nm t L v p).2 ∧ byA t L (nm t L v p).2 ≤ 57)
  | 0, v, p, h, h1, hv => by
    have e : byA t L p = -1 := if_neg (by omega)
    rw [nm_stop (by omega)]
    exact ⟨by show p ≤ p ∧ p ≤ L; omega, hv, by show ¬ (48 ≤ byA t L p ∧ _); omega⟩
  | m + 1, v, p, h, h1, hv => by
    by_cases c : 48 ≤ byA t L p ∧ byA t L p ≤ 57
    · have hp : p < L := byA_in (t := t) (by omega)
      have ih := nm_all (t := t) (L := L) m (mn6 (10 * v + byA t L p - 48)) (p + 1) (by omega) (by omega) (mn6_rng (by omega))
      rw [nm_step c]
      exact ⟨by omega, ih.2⟩
    · rw [nm_stop c]
      exact ⟨by show p ≤ p ∧ p ≤ L; omega, hv, c⟩
theorem nm_rng {t : Int → Int} {L v p : Int} (h : p ≤ L) (hv : 0 ≤ v ∧ v ≤ 1000000) : (p ≤ (nm t L v p).2 ∧ (nm t L v p).2 ≤ L) ∧ (0 ≤ (nm t L v p).1 ∧ (nm t L v p).1 ≤ 1000000) ∧ ¬ (48 ≤ byA t L (nm t L v p).2 ∧ byA t L (nm t L v p).2 ≤ 57) := nm_all _ v p (Nat.le_refl _) h hv
