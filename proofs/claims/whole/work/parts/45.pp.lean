/-! the parser's state: the error or 0, its offset, the place of the next token, the row that is read -/
abbrev PSt : Type := Int × Int × Int × (Int → Int)
def pexp (t : Int → Int) (L c : Int) (S : PSt) : PSt := if S.1 ≠ 0 then S else if byA t L S.2.2.1 = c then (0, S.2.1, sk t L (S.2.2.1 + 1), S.2.2.2) else (-2, S.2.2.1, S.2.2.1, S.2.2.2)
def pval (t : Int → Int) (L : Int) (S : PSt) : Int := (nm t L 0 S.2.2.1).1
def pnum (t : Int → Int) (L lo hi : Int) (S : PSt) : PSt := if S.1 ≠ 0 then S else if ¬ (48 ≤ byA t L S.2.2.1 ∧ byA t L S.2.2.1 ≤ 57) then (-2, S.2.2.1, S.2.2.1, S.2.2.2) else if lo ≤ pval t L S ∧ pval t L S ≤ hi then (0, S.2.1, sk t L (nm t L 0 S.2.2.1).2, S.2.2.2) else (-3, S.2.2.1, S.2.2.1, S.2.2.2)
/-- behind the word i -/
def padv (t : Int → Int) (L : Int) (i : Nat) (S : PSt) : PSt := (S.1, S.2.1, sk t L (S.2.2.1 + (lenST.getD i 0 : Nat)), S.2.2.2)
def pemit (v : Int) (S : PSt) : PSt := if S.1 ≠ 0 then S else (0, S.2.1, S.2.2.1, emi S.2.2.2 v)
/-- 0 a factor, 1 a term, 2 what follows in a term, 3 a sum, 4 what follows in a sum -/
def pP (t : Int → Int) (L : Int) : Nat → Nat → Int → PSt → PSt
  | 0, _, _, S => S
  | f + 1, 0, dl, S => if S.1 ≠ 0 then S else
      if byA t L S.2.2.1 = 40 then (if dl = 4 then (-5, S.2.2.1, S.2.2.1, S.2.2.2) else pexp t L 41 (pP t L f 3 (dl + 1) (0, S.2.1, sk t L (S.2.2.1 + 1), S.2.2.2)))
      else if 48 ≤ byA t L S.2.2.1 ∧ byA t L S.2.2.1 ≤ 57 then pemit (pval t L S) (pemit 0 (pnum t L 0 9999 S))
      else if isW t L S.2.2.1 (ST 0) = true then pemit 0 (pemit 1 (padv t L 0 S))
      else if isW t L S.2.2.1 (ST 1) = true then pemit 1 (pemit 1 (padv t L 1 S))
      else if isW t L S.2.2.1 (ST 2) = true then pemit 2 (pemit 1 (padv t L 2 S))
      else (-2, S.2.2.1, S.2.2.1, S.2.2.2)
  | f + 1, 1, dl, S => pP t L f 2 dl (pP t L f 0 dl S)
  | f + 1, 2, dl, S => if S.1 ≠ 0 then S else
      if byA t L S.2.2.1 = 42 then pP t L f 2 dl (pemit 4 (pP t L f 0 dl (0, S.2.1, sk t L (S.2.2.1 + 1), S.2.2.2)))
      else if byA t L S.2.2.1 = 47 then pP t L f 2 dl (pemit 5 (pP t L f 0 dl (0, S.2.1, sk t L (S.2.2.1 + 1), S.2.2.2)))
      else S
  | f + 1, 3, dl, S => pP t L f 4 dl (pP t L f 1 dl S)
  | f + 1, _, dl, S => if S.1 ≠ 0 then S else
      if byA t L S.2.2.1 = 43 then pP t L f 4 dl (pemit 2 (pP t L f 1 dl (0, S.2.1, sk t L (S.2.2.1 + 1), S.2.2.2)))
      else if byA t L S.2.2.1 = 45 then pP t L f 4 dl (pemit 3 (pP t L f 1 dl (0, S.2.1, sk t L (S.2.2.1 + 1), S.2.2.2)))
      else S
/-- a good state of the parser, and how it may go on: m less of the budget (three a byte, two a place of the weight) -/
def PG (L : Int) (S : PSt) : Prop := (-10 ≤ S.1 ∧ S.1 ≤ 0) ∧ (S.1 = 0 → (0 ≤ S.2.2.1 ∧ S.2.2.1 ≤ L) ∧ 0 ≤ S.2.2.2 4)
def PL (L m adv : Int) (S R : PSt) : Prop := PG L R ∧ (R.1 = 0 → S.1 = 0 ∧ S.2.2.1 + adv ≤ R.2.2.1 ∧ 3 * S.2.2.1 - 2 * S.2.2.2 4 - m ≤ 3 * R.2.2.1 - 2 * R.2.2.2 4)
theorem PL.tr {L m k a c : Int} {S R Q : PSt} (h : PL L m a S R) (g : PL L k c R Q) : PL L (m + k) (a + c) S Q := by
  refine ⟨g.1, fun hq => ?_⟩
  obtain ⟨h1, h2, h3⟩ := g.2 hq
  obtain ⟨h4, h5, h6⟩ := h.2 h1
  exact ⟨h4, by omega, by omega⟩
theorem PL.wk {L m k a c : Int} {S R : PSt} (h : PL L m a S R) (hm : m ≤ k) (ha : c ≤ a) : PL L k c S R := by
  refine ⟨h.1, fun hq => ?_⟩
  obtain ⟨h4, h5, h6⟩ := h.2 hq
  exact ⟨h4, by omega, by omega⟩
theorem PL.rf {L : Int} {S : PSt} (h : PG L S) : PL L 0 0 S S := ⟨h, fun h => ⟨h, by omega, by omega⟩⟩
theorem PL.bad {L m a : Int} {S R : PSt} (h : PG L R) (hb : R.1 ≠ 0) : PL L m a S R := ⟨h, fun h => absurd h hb⟩
theorem PL.err {L m a : Int} {S : PSt} {c o q : Int} {g : Int → Int} (hc : -10 ≤ c ∧ c < 0) : PL L m a S (c, o, q, g) := PL.bad ⟨by show -10 ≤ c ∧ c ≤ 0; omega, fun h => absurd h (by show c ≠ 0; omega)⟩ (by show c ≠ 0; omega)
theorem emi4 {g : Int → Int} {v : Int} : emi g v 4 = g 4 + 1 := uZ_s
theorem pemit_PL {L : Int} {S : PSt} (h : PG L S) (v : Int) : PL L 2 0 S (pemit v S) := by
  unfold pemit
  by_cases c : S.1 ≠ 0
  · rw [if_pos c]; exact PL.bad h c
  · rw [if_neg c]
    have h0 : S.1 = 0 := by omega
    have h1 := h.2 h0
    refine ⟨⟨by show -10 ≤ (0 : Int) ∧ (0 : Int) ≤ 0; omega, fun _ => ⟨h1.1, ?_⟩⟩, fun _ => ⟨h0, ?_, ?_⟩⟩
    · show 0 ≤ emi S.2.2.2 v 4; rw [emi4]; omega
    · show S.2.2.1 + 0 ≤ S.2.2.1; omega
    · show _ ≤ 3 * S.2.2.1 - 2 * emi S.2.2.2 v 4; rw [emi4]; omega
/-- a byte that is taken -/
theorem byte_PL {t : Int → Int} {L : Int} {S : PSt} (h : PG L S) (h0 : S.1 = 0) {c : Int} (hc : byA t L S.2.2.1 = c) (hn : c ≠ -1) : PL L (-3) 1 S (0, S.2.1, sk t L (S.2.2.1 + 1), S.2.2.2) := by
  have h1 := h.2 h0
  have h2 : S.2.2.1 < L := byA_in (t := t) (by omega)
  have h3 := sk_rng (t := t) (L := L) (p := S.2.2.1 + 1) (by omega)
  refine ⟨⟨by show -10 ≤ (0 : Int) ∧ (0 : Int) ≤ 0; omega, fun _ => ⟨by show 0 ≤ sk t L _ ∧ sk t L _ ≤ L; omega, h1.2⟩⟩, fun _ => ⟨h0, ?_, ?_⟩⟩
  · show S.2.2.1 + 1 ≤ sk t L _; omega
  · show _ ≤ 3 * sk t L (S.2.2.1 + 1) - 2 * S.2.2.2 4; omega
theorem pexp_PL {t : Int → Int} {L c : Int} {S : PSt} (h : PG L S) (hc : c ≠ -1) : PL L (-3) 1 S (pexp t L c S) := by
  unfold pexp
  by_cases c1 : S.1 ≠ 0
  · rw [if_pos c1]; exact PL.bad h c1
  · rw [if_neg c1]
    by_cases c2 : byA t L S.2.2.1 = c
    · rw [if_pos c2]; exact byte_PL h (by omega) c2 hc
    · rw [if_neg c2]; exact PL.err (by omega)
theorem pnum_PL {t : Int → Int} {L lo hi : Int} {S : PSt} (h : PG L S) : PL L (-3) 1 S (pnum t L lo hi S) := by
  unfold pnum
  by_cases c1 : S.1 ≠ 0
  · rw [if_pos c1]; exact PL.bad h c1
  · rw [if_neg c1]
    by_cases c2 : 48 ≤ byA t L S.2.2.1 ∧ byA t L S.2.2.1 ≤ 57
    · rw [if_neg (by omega)]
      by_cases c3 : lo ≤ pval t L S ∧ pval t L S ≤ hi
      · rw [if_pos c3]
        have h0 : S.1 = 0 := by omega
        have h1 := h.2 h0
        have h2 : S.2.2.1 < L := byA_in (t := t) (by omega)
        have h4 := nm_step (v := 0) c2
        have h5 := nm_rng (t := t) (L := L) (v := mn6 (10 * 0 + byA t L S.2.2.1 - 48)) (p := S.2.2.1 + 1) (by omega) (mn6_rng (by omega))
        rw [← h4] at h5
        have h3 := sk_rng (t := t) (L := L) (p := (nm t L 0 S.2.2.1).2) (by omega)
        refine ⟨⟨by show -10 ≤ (0 : Int) ∧ (0 : Int) ≤ 0; omega, fun _ => ⟨by show 0 ≤ sk t L _ ∧ sk t L _ ≤ L; omega, h1.2⟩⟩, fun _ => ⟨h0, ?_, ?_⟩⟩
        · show S.2.2.1 + 1 ≤ sk t L _; omega
        · show _ ≤ 3 * sk t L _ - 2 * S.2.2.2 4; omega
      · rw [if_neg c3]; exact PL.err (by omega)
    · rw [if_pos c2]; exact PL.err (by omega)
theorem isW_le {t : Int → Int} {L p : Int} {i : Nat} (hi : i < 9) (h : isW t L p (ST i) = true) : p + (lenST.getD i 0 : Nat) ≤ L := by
  obtain ⟨h1, _⟩ := isW_iff.mp h
  have h2 := lenST_rng i hi
  have h3 := ST_byt i hi
  have h4 := h1 (lenST.getD i 0 - 1) (by omega)
  have h5 := (h3.2 (lenST.getD i 0 - 1) (by omega)).2
  have h6 := byA_in (t := t) (L := L) (p := p + ((lenST.getD i 0 - 1 : Nat) : Int)) (by omega)
  omega
theorem padv_PL {t : Int → Int} {L : Int} {S : PSt} (h : PG L S) (h0 : S.1 = 0) {i : Nat} (hi : i < 9) (hw : isW t L S.2.2.1 (ST i) = true) : PL L (-12) 4 S (padv t L i S) := by
  have h1 := h.2 h0
  have h2 := isW_le hi hw
  have h4 := lenST_rng i hi
  have h3 := sk_rng (t := t) (L := L) (p := S.2.2.1 + (lenST.getD i 0 : Nat)) (by omega)
  refine ⟨⟨h.1, fun _ => ⟨by show 0 ≤ sk t L _ ∧ sk t L _ ≤ L; omega, h1.2⟩⟩, fun _ => ⟨h0, ?_, ?_⟩⟩
  · show S.2.2.1 + 4 ≤ sk t L _; omega
  · show _ ≤ 3 * sk t L _ - 2 * S.2.2.2 4; omega
theorem pP_bad {t : Int → Int} {L : Int} : ∀ (f m : Nat) (dl : Int) (S : PSt), S.1 ≠ 0 → pP t L f m dl S = S
  | 0, _, _, _, _ => rfl
  | f + 1, 0, dl, S, h => if_pos h
  | f + 1, 1, dl, S, h => by
    show pP t L f 2 dl (pP t L f 0 dl S) = S
    rw [pP_bad f 0 dl S h, pP_bad f 2 dl S h]
  | f + 1, 2, dl, S, h => if_pos h
  | f + 1, 3, dl, S, h => by
    show pP t L f 4 dl (pP t L f 1 dl S) = S
    rw [pP_bad f 1 dl S h, pP_bad f 4 dl S h]
  | f + 1, m + 4, dl, S, h => if_pos h
theorem pF_par {t : Int → Int} {L : Int} {f : Nat} {dl : Int} {S : PSt} (h0 : S.1 = 0) (hc : byA t L S.2.2.1 = 40) (hd : dl ≠ 4) : pP t L (f + 1) 0 dl S = pexp t L 41 (pP t L f 3 (dl + 1) (0, S.2.1, sk t L (S.2.2.1 + 1), S.2.2.2)) :=
  (if_neg (by omega)).trans ((if_pos hc).trans (if_neg hd))
theorem pF_deep {t : Int → Int} {L : Int} {f : Nat} {dl : Int} {S : PSt} (h0 : S.1 = 0) (hc : byA t L S.2.2.1 = 40) (hd : dl = 4) : pP t L (f + 1) 0 dl S = (-5, S.2.2.1, S.2.2.1, S.2.2.2) :=
  (if_neg (by omega)).trans ((if_pos hc).trans (if_pos hd))
theorem pF_dig {t : Int → Int} {L : Int} {f : Nat} {dl : Int} {S : PSt} (h0 : S.1 = 0) (hc : 48 ≤ byA t L S.2.2.1 ∧ byA t L S.2.2.1 ≤ 57) : pP t L (f + 1) 0 dl S = pemit (pval t L S) (pemit 0 (pnum t L 0 9999 S)) :=
  (if_neg (by omega)).trans ((if_neg (by omega)).trans (if_pos hc))
theorem pF_w0 {t : Int → Int} {L : Int} {f : Nat} {dl : Int} {S : PSt} (h0 : S.1 = 0) (h1 : byA t L S.2.2.1 ≠ 40) (h2 : ¬ (48 ≤ byA t L S.2.2.1 ∧ byA t L S.2.2.1 ≤ 57)) (h3 : isW t L S.2.2.1 (ST 0) = true) : pP t L (f + 1) 0 dl S = pemit 0 (pemit 1 (padv t L 0 S)) :=
  (if_neg (by omega)).trans ((if_neg h1).trans ((if_neg h2).trans (if_pos h3)))
theorem pF_w1 {t : Int → Int} {L : Int} {f : Nat} {dl : Int} {S : PSt} (h0 : S.1 = 0) (h1 : byA t L S.2.2.1 ≠ 40) (h2 : ¬ (48 ≤ byA t L S.2.2.1 ∧ byA t L S.2.2.1 ≤ 57)) (h3 : isW t L S.2.2.1 (ST 0) = false) (h4 : isW t L S.2.2.1 (ST 1) = true) : pP t L (f + 1) 0 dl S = pemit 1 (pemit 1 (padv t L 1 S)) :=
  (if_neg (by omega)).trans ((if_neg h1).trans ((if_neg h2).trans ((if_neg (by rw [h3]; decide)).trans (if_pos h4))))
theorem pF_w2 {t : Int → Int} {L : Int} {f : Nat} {dl : Int} {S : PSt} (h0 : S.1 = 0) (h1 : byA t L S.2.2.1 ≠ 40) (h2 : ¬ (48 ≤ byA t L S.2.2.1 ∧ byA t L S.2.2.1 ≤ 57)) (h3 : isW t L S.2.2.1 (ST 0) = false) (h4 : isW t L S.2.2.1 (ST 1) = false) (h5 : isW t L S.2.2.1 (ST 2) = true) : pP t L (f + 1) 0 dl S = pemit 2 (pemit 1 (padv t L 2 S)) :=
  (if_neg (by omega)).trans ((if_neg h1).trans ((if_neg h2).trans ((if_neg (by rw [h3]; decide)).trans ((if_neg (by rw [h4]; decide)).trans (if_pos h5)))))
theorem pF_non {t : Int → Int} {L : Int} {f : Nat} {dl : Int} {S : PSt} (h0 : S.1 = 0) (h1 : byA t L S.2.2.1 ≠ 40) (h2 : ¬ (48 ≤ byA t L S.2.2.1 ∧ byA t L S.2.2.1 ≤ 57)) (h3 : isW t L S.2.2.1 (ST 0) = false) (h4 : isW t L S.2.2.1 (ST 1) = false) (h5 : isW t L S.2.2.1 (ST 2) = false) : pP t L (f + 1) 0 dl S = (-2, S.2.2.1, S.2.2.1, S.2.2.2) :=
  (if_neg (by omega)).trans ((if_neg h1).trans ((if_neg h2).trans ((if_neg (by rw [h3]; decide)).trans ((if_neg (by rw [h4]; decide)).trans (if_neg (by rw [h5]; decide))))))
theorem pT_a {t : Int → Int} {L : Int} {f : Nat} {dl : Int} {S : PSt} (h0 : S.1 = 0) (hc : byA t L S.2.2.1 = 42) : pP t L (f + 1) 2 dl S = pP t L f 2 dl (pemit 4 (pP t L f 0 dl (0, S.2.1, sk t L (S.2.2.1 + 1), S.2.2.2))) :=
  (if_neg (by omega)).trans (if_pos hc)
theorem pT_b {t : Int → Int} {L : Int} {f : Nat} {dl : Int} {S : PSt} (h0 : S.1 = 0) (hc : byA t L S.2.2.1 = 47) : pP t L (f + 1) 2 dl S = pP t L f 2 dl (pemit 5 (pP t L f 0 dl (0, S.2.1, sk t L (S.2.2.1 + 1), S.2.2.2))) :=
  (if_neg (by omega)).trans ((if_neg (by omega)).trans (if_pos hc))
theorem pT_n {t : Int → Int} {L : Int} {f : Nat} {dl : Int} {S : PSt} (h0 : S.1 = 0) (h1 : byA t L S.2.2.1 ≠ 42) (h2 : byA t L S.2.2.1 ≠ 47) : pP t L (f + 1) 2 dl S = S :=
  (if_neg (by omega)).trans ((if_neg h1).trans (if_neg h2))
theorem pS_a {t : Int → Int} {L : Int} {f : Nat} {dl : Int} {S : PSt} (h0 : S.1 = 0) (hc : byA t L S.2.2.1 = 43) : pP t L (f + 1) 4 dl S = pP t L f 4 dl (pemit 2 (pP t L f 1 dl (0, S.2.1, sk t L (S.2.2.1 + 1), S.2.2.2))) :=
  (if_neg (by omega)).trans (if_pos hc)
theorem pS_b {t : Int → Int} {L : Int} {f : Nat} {dl : Int} {S : PSt} (h0 : S.1 = 0) (hc : byA t L S.2.2.1 = 45) : pP t L (f + 1) 4 dl S = pP t L f 4 dl (pemit 3 (pP t L f 1 dl (0, S.2.1, sk t L (S.2.2.1 + 1), S.2.2.2))) :=
  (if_neg (by omega)).trans ((if_neg (by omega)).trans (if_pos hc))
theorem pS_n {t : Int → Int} {L : Int} {f : Nat} {dl : Int} {S : PSt} (h0 : S.1 = 0) (h1 : byA t L S.2.2.1 ≠ 43) (h2 : byA t L S.2.2.1 ≠ 45) : pP t L (f + 1) 4 dl S = S :=
  (if_neg (by omega)).trans ((if_neg h1).trans (if_neg h2))
def pw : Nat → Int | 0 => 1 | 1 => 3 | 2 => 2 | 3 => 5 | _ => 4
def pc : Nat → Int | 0 => 1 | 1 => 1 | 2 => 0 | 3 => 1 | _ => 0
/-- a factor, a term and a sum cost one of the budget at most, and go on by a byte at least; what follows costs nothing -/
theorem pP_PL {t : Int → Int} {L : Int} : ∀ (f m : Nat) (dl : Int) (S : PSt), PG L S → (S.1 = 0 → 6 * (L - S.2.2.1) + pw m < f) → m ≤ 4 → PL L (pc m) (pc m) S (pP t L f m dl S)
  | 0, m, dl, S, h, hf, hm => by
    by_cases h0 : S.1 = 0
    · exfalso
      have h1 := hf h0
      have h2 := (h.2 h0).1
      have h3 : 0 < pw m := by
        rcases m with _ | _ | _ | _ | _ <;> simp [pw]
      simp at h1; omega
    · exact PL.bad h h0
  | f + 1, 0, dl, S, h, hf, hm => by
    by_cases h0 : S.1 = 0
    · have hf := hf h0
      simp [pw] at hf
      by_cases c1 : byA t L S.2.2.1 = 40
      · by_cases hd : dl = 4
        · rw [pF_deep h0 c1 hd]; exact PL.err (by omega)
        · rw [pF_par h0 c1 hd]
          have hb := byte_PL (t := t) h h0 c1 (by decide)
          have h1 := hb.2 rfl
          have hs := pP_PL (t := t) f 3 (dl + 1) _ hb.1 (fun _ => by show 6 * (L - sk t L (S.2.2.1 + 1)) + _ < _; have h7 := h1.2.1; dsimp only at h7; simp [pw]; omega) (by decide)
          exact ((hb.tr hs).tr (pexp_PL hs.1 (by decide))).wk (by simp [pc]) (by simp [pc])
      · by_cases c2 : 48 ≤ byA t L S.2.2.1 ∧ byA t L S.2.2.1 ≤ 57
        · rw [pF_dig h0 c2]
          have hn := pnum_PL (t := t) (lo := 0) (hi := 9999) h
          have h1 := pemit_PL hn.1 0
          have h2 := pemit_PL h1.1 (pval t L S)
          exact ((hn.tr h1).tr h2).wk (by simp [pc]) (by simp [pc])
        · by_cases c3 : isW t L S.2.2.1 (ST 0) = true
          · rw [pF_w0 h0 c1 c2 c3]
            have hn := padv_PL h h0 (by decide) c3
            have h1 := pemit_PL hn.1 1
            have h2 := pemit_PL h1.1 0
            exact ((hn.tr h1).tr h2).wk (by simp [pc]) (by simp [pc])
          · by_cases c4 : isW t L S.2.2.1 (ST 1) = true
            · rw [pF_w1 h0 c1 c2 (by simpa using c3) c4]
              have hn := padv_PL h h0 (by decide) c4
              have h1 := pemit_PL hn.1 1
              have h2 := pemit_PL h1.1 1
              exact ((hn.tr h1).tr h2).wk (by simp [pc]) (by simp [pc])
            · by_cases c5 : isW t L S.2.2.1 (ST 2) = true
              · rw [pF_w2 h0 c1 c2 (by simpa using c3) (by simpa using c4) c5]
                have hn := padv_PL h h0 (by decide) c5
                have h1 := pemit_PL hn.1 1
                have h2 := pemit_PL h1.1 2
                exact ((hn.tr h1).tr h2).wk (by simp [pc]) (by simp [pc])
              · rw [pF_non h0 c1 c2 (by simpa using c3) (by simpa using c4) (by simpa using c5)]; exact PL.err (by omega)
    · rw [pP_bad _ _ _ _ h0]; exact PL.bad h h0
  | f + 1, 1, dl, S, h, hf, hm => by
    have h1 := pP_PL (t := t) f 0 dl S h (fun h0 => by have := hf h0; simp [pw] at this ⊢; omega) (by decide)
    have h2 := pP_PL (t := t) f 2 dl _ h1.1 (fun hz => by
      have h8 := h1.2 hz
      have h9 := hf h8.1
      have h7 := h8.2.1
      simp [pc] at h7
      simp [pw] at h9 ⊢; omega) (by decide)
    exact (h1.tr h2).wk (by simp [pc]) (by simp [pc])
  | f + 1, 2, dl, S, h, hf, hm => by
    by_cases h0 : S.1 = 0
    · have hf := hf h0
      simp [pw] at hf
      by_cases c1 : byA t L S.2.2.1 = 42
      · skip
        have hb := byte_PL (t := t) h h0 c1 (by decide)
        have h1 := hb.2 rfl
        have hs := pP_PL (t := t) f 0 dl _ hb.1 (fun _ => by show 6 * (L - sk t L (S.2.2.1 + 1)) + _ < _; have h7 := h1.2.1; dsimp only at h7; simp [pw]; omega) (by decide)
        have he := pemit_PL hs.1 4
        have hr := pP_PL (t := t) f 2 dl _ he.1 (fun hz => by
          have h8 := (((hb.tr hs).tr he).2 hz).2.1
          simp [pc] at h8
          simp [pw]; omega) (by decide)
        rw [pT_a h0 c1]
        exact (((hb.tr hs).tr he).tr hr).wk (by simp [pc]) (by simp [pc])
      · by_cases c2 : byA t L S.2.2.1 = 47
        · skip
          have hb := byte_PL (t := t) h h0 c2 (by decide)
          have h1 := hb.2 rfl
          have hs := pP_PL (t := t) f 0 dl _ hb.1 (fun _ => by show 6 * (L - sk t L (S.2.2.1 + 1)) + _ < _; have h7 := h1.2.1; dsimp only at h7; simp [pw]; omega) (by decide)
          have he := pemit_PL hs.1 5
          have hr := pP_PL (t := t) f 2 dl _ he.1 (fun hz => by
            have h8 := (((hb.tr hs).tr he).2 hz).2.1
            simp [pc] at h8
            simp [pw]; omega) (by decide)
          rw [pT_b h0 c2]
          exact (((hb.tr hs).tr he).tr hr).wk (by simp [pc]) (by simp [pc])
        · rw [pT_n h0 c1 c2]
          exact (PL.rf h).wk (by simp [pc]) (by simp [pc])
    · rw [pP_bad _ _ _ _ h0]; exact PL.bad h h0
  | f + 1, 3, dl, S, h, hf, hm => by
    have h1 := pP_PL (t := t) f 1 dl S h (fun h0 => by have := hf h0; simp [pw] at this ⊢; omega) (by decide)
    have h2 := pP_PL (t := t) f 4 dl _ h1.1 (fun hz => by
      have h8 := h1.2 hz
      have h9 := hf h8.1
      have h7 := h8.2.1
      simp [pc] at h7
      simp [pw] at h9 ⊢; omega) (by decide)
    exact (h1.tr h2).wk (by simp [pc]) (by simp [pc])
  | f + 1, 4, dl, S, h, hf, hm => by
    by_cases h0 : S.1 = 0
    · have hf := hf h0
      simp [pw] at hf
      by_cases c1 : byA t L S.2.2.1 = 43
      · skip
        have hb := byte_PL (t := t) h h0 c1 (by decide)
        have h1 := hb.2 rfl
        have hs := pP_PL (t := t) f 1 dl _ hb.1 (fun _ => by show 6 * (L - sk t L (S.2.2.1 + 1)) + _ < _; have h7 := h1.2.1; dsimp only at h7; simp [pw]; omega) (by decide)
        have he := pemit_PL hs.1 2
        have hr := pP_PL (t := t) f 4 dl _ he.1 (fun hz => by
          have h8 := (((hb.tr hs).tr he).2 hz).2.1
          simp [pc] at h8
          simp [pw]; omega) (by decide)
        rw [pS_a h0 c1]
        exact (((hb.tr hs).tr he).tr hr).wk (by simp [pc]) (by simp [pc])
      · by_cases c2 : byA t L S.2.2.1 = 45
        · skip
          have hb := byte_PL (t := t) h h0 c2 (by decide)
          have h1 := hb.2 rfl
          have hs := pP_PL (t := t) f 1 dl _ hb.1 (fun _ => by show 6 * (L - sk t L (S.2.2.1 + 1)) + _ < _; have h7 := h1.2.1; dsimp only at h7; simp [pw]; omega) (by decide)
          have he := pemit_PL hs.1 3
          have hr := pP_PL (t := t) f 4 dl _ he.1 (fun hz => by
            have h8 := (((hb.tr hs).tr he).2 hz).2.1
            simp [pc] at h8
            simp [pw]; omega) (by decide)
          rw [pS_b h0 c2]
          exact (((hb.tr hs).tr he).tr hr).wk (by simp [pc]) (by simp [pc])
        · rw [pS_n h0 c1 c2]
          exact (PL.rf h).wk (by simp [pc]) (by simp [pc])
    · rw [pP_bad _ _ _ _ h0]; exact PL.bad h h0
  | f + 1, m + 5, dl, S, h, hf, hm => absurd hm (by omega)
termination_by f => f
