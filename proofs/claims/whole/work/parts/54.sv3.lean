theorem RV.wtS {t : Int → Int} {L st : Int} {S : PSt} (hV : SV L S) (h0 : S.1 = 0) (h7 : isW t L S.2.2.1 (ST 7) = true) (hL : L ≤ 600) (hR : (pWt t L st (padv t L 7 S)).1 = 0) : RV (pWt t L st (padv t L 7 S)).2.2.2 ∧ (pWt t L st (padv t L 7 S)).2.2.2 3 = 1 := by
  have hw := pW_ok (st := st) hV h0 h7 hL
  have hr := (hV.2 h0).2.r
  have r1 := pP_0 hR
  have r2 := pset_0 r1
  have c3 : S.2.2.2 3 ≠ 1 := by
    intro c
    rw [pW1_4 (S := padv t L 7 S) h0 c, prep_g (S := padv t L 7 S) h0] at r2
    exact absurd r2 (by show (-2 : Int) ≠ 0; decide)
  have eS : pW1 st (padv t L 7 S) = padv t L 7 S := pW1_n (S := padv t L 7 S) c3
  unfold pWt at hR ⊢
  rw [eS] at hw hR r1 ⊢
  have erow : (pset 3 1 (padv t L 7 S)).2.2.2 = uZ S.2.2.2 3 1 := by rw [pset_g (S := padv t L 7 S) h0]; rfl
  have e4 : (pset 3 1 (padv t L 7 S)).2.2.2 4 = 0 := by rw [erow, uZ_n (by decide)]; omega
  have hp := pP_PL (t := t) 4000 3 0 _ hw.1 hw.2.2 (by decide)
  obtain ⟨T, t1, t2, t3⟩ := pP_T (t := t) 4000 3 0 _ hw.1 r1 (hw.2.2 r1) (by decide) (by decide) hR
  have hp2 := hp.2 hR
  have hp1 := hp.1.2 hR
  have hb := hw.2.1 r1
  simp [pc] at hp2
  have k : ∀ j : Int, j ≠ 3 → j ≠ 4 → j < 111 → (pP t L 4000 3 0 (pset 3 1 (padv t L 7 S))).2.2.2 j = S.2.2.2 j := fun j j3 j4 j5 => by rw [t1.2 j j4 (by omega), erow, uZ_n j3]
  have k3 : (pP t L 4000 3 0 (pset 3 1 (padv t L 7 S))).2.2.2 3 = 1 := by rw [t1.2 3 (by decide) (by omega), erow, uZ_s]
  have hc := t1.1
  rw [e4] at hc
  have hh := t2 0 (by decide) (by simp [pK])
  exact ⟨RV.wt (T := T) (hV.2 h0).2 k3 ⟨hp1.2, by omega⟩ k ⟨t3 rfl, CE.code T 0 hc, HtTo.ok T 0 (by simpa [pI] using hh)⟩, k3⟩
/-- a statement keeps a text's row well -/
theorem SV.stm {t : Int → Int} {L : Int} {S : PSt} (hV : SV L S) (h0 : S.1 = 0) (hL : L ≤ 600) : SV L (pStm t L S) ∧ ((pStm t L S).1 = 0 → S.2.2.1 + 1 ≤ (pStm t L S).2.2.1 ∧ (pWh t L S.2.2.1 = 3 ∧ (pStm t L S).2.2.2 3 = 1 ∨ pWh t L S.2.2.1 ≠ 3 ∧ (pStm t L S).2.2.2 3 = S.2.2.2 3)) := by
  have hP := PL.stm (t := t) hV h0 hL
  have hg := (hV.2 h0).2
  have key : (pStm t L S).1 = 0 → RV (pStm t L S).2.2.2 ∧ (pWh t L S.2.2.1 = 3 ∧ (pStm t L S).2.2.2 3 = 1 ∨ pWh t L S.2.2.1 ≠ 3 ∧ (pStm t L S).2.2.2 3 = S.2.2.2 3) := by
    intro hR
    have hx := pexp_0 hR
    have hR := hx.1
    rw [show (pStm t L S).2.2.2 = (pStB t L S).2.2.2 from hx.2]
    clear hx hP
    unfold pStB at hR ⊢
    by_cases w5 : isW t L S.2.2.1 (ST 5) = true
    · rw [show pWh t L S.2.2.1 = 0 from if_pos w5] at hR ⊢
      have := RV.ruleS (S := padv t L 5 S) hg h0 hR
      exact ⟨this.1, Or.inr ⟨by decide, this.2⟩⟩
    · by_cases w6 : isW t L S.2.2.1 (ST 6) = true
      · rw [show pWh t L S.2.2.1 = 1 from (if_neg w5).trans (if_pos w6)] at hR ⊢
        have := RV.ruleS (S := padv t L 6 S) hg h0 hR
        exact ⟨this.1, Or.inr ⟨by decide, this.2⟩⟩
      · by_cases w2 : isW t L S.2.2.1 (ST 2) = true
        · rw [show pWh t L S.2.2.1 = 2 from (if_neg w5).trans ((if_neg w6).trans (if_pos w2))] at hR ⊢
          have := RV.colS (S := padv t L 2 S) hg hR
          exact ⟨this.1, Or.inr ⟨by decide, this.2⟩⟩
        · by_cases w7 : isW t L S.2.2.1 (ST 7) = true
          · rw [show pWh t L S.2.2.1 = 3 from (if_neg w5).trans ((if_neg w6).trans ((if_neg w2).trans (if_pos w7)))] at hR ⊢
            have := RV.wtS hV h0 w7 hL hR
            exact ⟨this.1, Or.inl ⟨rfl, this.2⟩⟩
          · rw [show pWh t L S.2.2.1 = 4 from (if_neg w5).trans ((if_neg w6).trans ((if_neg w2).trans (if_neg w7)))] at hR
            have hR : (prep (-2) S.2.2.1 S).1 = 0 := hR
            rw [prep_g h0] at hR
            exact absurd hR (by show (-2 : Int) ≠ 0; decide)
  exact ⟨⟨hP.1.1, fun hR => ⟨(hP.1.2 hR).1, (key hR).1⟩⟩, fun hR => ⟨(hP.2 hR).2.1, (key hR).2⟩⟩
/-- the head of a text -/
theorem SV.hd {t : Int → Int} {L : Int} (hL : 0 ≤ L ∧ L ≤ 600) : SV L (pHd t L) ∧ ((pHd t L).1 = 0 → (pHd t L).2.2.2 3 = 0) := by
  have hs := sk_rng (t := t) (L := L) (p := 0) hL.1
  have hG : PG L ((0, -1, sk t L 0, fun _ => 0) : PSt) := ⟨by show -10 ≤ (0 : Int) ∧ (0 : Int) ≤ 0; decide, fun _ => ⟨hs, Int.le_refl _⟩⟩
  have h1 : PL L 0 0 ((0, -1, sk t L 0, fun _ => 0) : PSt) (if isW t L (sk t L 0) (ST 8) = true then padv t L 8 (0, -1, sk t L 0, fun _ => 0) else (-2, sk t L 0, sk t L 0, fun _ => 0)) := by
    by_cases c : isW t L (sk t L 0) (ST 8) = true
    · rw [if_pos c]; exact (padv_PL hG rfl (i := 8) (by decide) c).wk (by omega) (by omega)
    · rw [if_neg c]; exact PL.err (by decide)
  have hrow : (if isW t L (sk t L 0) (ST 8) = true then padv t L 8 (0, -1, sk t L 0, fun _ => 0) else ((-2, sk t L 0, sk t L 0, fun _ => 0) : PSt)).2.2.2 = fun _ => 0 := by
    by_cases c : isW t L (sk t L 0) (ST 8) = true
    · rw [if_pos c]; rfl
    · rw [if_neg c]
  unfold pHd pH0
  generalize (if isW t L (sk t L 0) (ST 8) = true then padv t L 8 (0, -1, sk t L 0, fun _ => 0) else ((-2, sk t L 0, sk t L 0, fun _ => 0) : PSt)) = A at h1 hrow
  have h2 := PL.numA (t := t) (lo := 1) (hi := 40) h1.1 (k := 0) (by decide)
  have h3 := PL.numA (t := t) (lo := 1) (hi := 4) h2.1 (k := 1) (by decide)
  have h4 := pexp_PL (t := t) (c := 59) h3.1 (by decide)
  have key : (pexp t L 59 (pnumA t L 1 1 4 (pnumA t L 0 1 40 A))).1 = 0 → RV (pexp t L 59 (pnumA t L 1 1 4 (pnumA t L 0 1 40 A))).2.2.2 ∧ (pexp t L 59 (pnumA t L 1 1 4 (pnumA t L 0 1 40 A))).2.2.2 3 = 0 := by
    intro hR
    have hx := pexp_0 hR
    obtain ⟨r1, x1, e1⟩ := pnumA_g hx.1
    obtain ⟨r2, x2, e2⟩ := pnumA_g r1
    rw [hx.2, e1, e2, hrow]
    generalize pval t L (pnumA t L 0 1 40 A) = v1 at x1
    generalize pval t L A = v0 at x2
    have k : ∀ j : Int, j ≠ 0 → j ≠ 1 → uZ (uZ (fun _ => (0 : Int)) 0 v0) 1 v1 j = 0 := fun j j0 j1 => by rw [uZ_n j1, uZ_n j0]
    have k0 : uZ (uZ (fun _ => (0 : Int)) 0 v0) 1 v1 0 = v0 := by rw [uZ_n (by decide), uZ_s]
    have k1 : uZ (uZ (fun _ => (0 : Int)) 0 v0) 1 v1 1 = v1 := uZ_s
    have k2 := k 2 (by decide) (by decide)
    have k3 := k 3 (by decide) (by decide)
    have k4 := k 4 (by decide) (by decide)
    refine ⟨⟨by omega, by omega, fun _ => k4, ⟨[], by omega, by omega, by omega, by omega, fun r r0 r1 => absurd r1 (by omega), fun x x0 x1 => ?_, fun x x0 x1 => ?_, Or.inl ⟨k3, rfl⟩⟩, fun i i0 i1 => k i (by omega) (by omega)⟩, k3⟩
    · rw [k _ (by omega) (by omega)]; omega
    · rw [k _ (by omega) (by omega)]; omega
  exact ⟨⟨h4.1.1, fun hR => ⟨(h4.1.2 hR).1, (key hR).1⟩⟩, fun hR => (key hR).2⟩
/-- all statements: with fuel enough the last state is bad or at the text's end -/
theorem pSts_step {t : Int → Int} {L : Int} {f : Nat} {S : PSt} (h0 : S.1 = 0) (hb : byA t L S.2.2.1 ≠ -1) : pSts t L (f + 1) S = pSts t L f (pStm t L S) := if_pos ⟨h0, hb⟩
theorem pSts_end {t : Int → Int} {L : Int} {f : Nat} {S : PSt} (h : S.1 ≠ 0 ∨ byA t L S.2.2.1 = -1) : pSts t L f S = S := by
  cases f with
  | zero => rfl
  | succ f => exact if_neg (fun q => by rcases h with h | h; exact h q.1; exact q.2 h)
theorem SV.sts {t : Int → Int} {L : Int} (hL : L ≤ 600) : ∀ (f : Nat) (S : PSt), SV L S → SV L (pSts t L f S)
  | 0, _, h => h
  | f + 1, S, h => by
    by_cases c : S.1 = 0 ∧ byA t L S.2.2.1 ≠ -1
    · rw [pSts_step c.1 c.2]; exact SV.sts hL f _ (SV.stm h c.1 hL).1
    · rw [show pSts t L (f + 1) S = S from if_neg c]; exact h
theorem SV.load {t : Int → Int} {L : Int} (hL : 0 ≤ L ∧ L ≤ 600) : SV L (pLoad t L) := SV.sts hL.2 _ _ (SV.hd hL).1
