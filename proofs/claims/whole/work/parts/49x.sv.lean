theorem pnum_ok {t : Int → Int} {L lo hi : Int} {S : PSt} (h : (pnum t L lo hi S).1 = 0) : S.1 = 0 ∧ lo ≤ pval t L S ∧ pval t L S ≤ hi := by
  unfold pnum at h
  by_cases c1 : S.1 ≠ 0
  · rw [if_pos c1] at h; exact absurd h c1
  · rw [if_neg c1] at h
    by_cases c2 : ¬ (48 ≤ byA t L S.2.2.1 ∧ byA t L S.2.2.1 ≤ 57)
    · rw [if_pos c2] at h; exact absurd h (by show (-2 : Int) ≠ 0; decide)
    · rw [if_neg c2] at h
      by_cases c3 : lo ≤ pval t L S ∧ pval t L S ≤ hi
      · exact ⟨by omega, c3⟩
      · rw [if_neg c3] at h; exact absurd h (by show (-3 : Int) ≠ 0; decide)
theorem pnum_row {t : Int → Int} {L lo hi : Int} {S : PSt} : (pnum t L lo hi S).2.2.2 = S.2.2.2 := by
  unfold pnum
  by_cases c1 : S.1 ≠ 0
  · rw [if_pos c1]
  · rw [if_neg c1]
    by_cases c2 : ¬ (48 ≤ byA t L S.2.2.1 ∧ byA t L S.2.2.1 ≤ 57)
    · rw [if_pos c2]
    · rw [if_neg c2]
      by_cases c3 : lo ≤ pval t L S ∧ pval t L S ≤ hi
      · rw [if_pos c3]
      · rw [if_neg c3]
theorem pset_bad {k v : Int} {S : PSt} (h : S.1 ≠ 0) : pset k v S = S := if_pos h
theorem pset_0 {k v : Int} {S : PSt} (h : (pset k v S).1 = 0) : S.1 = 0 := by
  by_cases c : S.1 ≠ 0
  · rw [pset_bad c] at h; exact h
  · omega
theorem pset_g {k v : Int} {S : PSt} (h : S.1 = 0) : pset k v S = (0, S.2.1, S.2.2.1, uZ S.2.2.2 k v) := if_neg (by omega)
theorem pwrd_bad {t : Int → Int} {L : Int} {i : Nat} {S : PSt} (h : S.1 ≠ 0) : pwrd t L i S = S := if_neg (fun q => h q.1)
theorem pwrd_0 {t : Int → Int} {L : Int} {i : Nat} {S : PSt} (h : (pwrd t L i S).1 = 0) : S.1 = 0 := by
  by_cases c : S.1 ≠ 0
  · rw [pwrd_bad c] at h; exact h
  · omega
theorem pwrd_row {t : Int → Int} {L : Int} {i : Nat} {S : PSt} : (pwrd t L i S).2.2.2 = S.2.2.2 := by
  unfold pwrd
  by_cases c : S.1 = 0 ∧ isW t L S.2.2.1 (ST i) = true
  · rw [if_pos c]; rfl
  · rw [if_neg c]
theorem pCol_bad {t : Int → Int} {L : Int} {S : PSt} (h : (pC2 t L S).1 ≠ 0) : pCol t L S = pC2 t L S := by
  unfold pCol pC3
  rw [pset_bad (S := pC2 t L S) h, pwrd_bad h, pset_bad h]
/-- what the row of a text holds while it is good -/
def RV (g : Int → Int) : Prop := 1 ≤ g 0 ∧ 1 ≤ g 1 ∧ (g 3 = 0 → g 4 = 0) ∧ (∃ T : List Int, DW g T) ∧ ∀ i : Int, 5 + 6 * g 2 ≤ i → i < 29 → g i = 0
def SV (L : Int) (S : PSt) : Prop := (-10 ≤ S.1 ∧ S.1 ≤ 0) ∧ (S.1 = 0 → (0 ≤ S.2.2.1 ∧ S.2.2.1 ≤ L) ∧ RV S.2.2.2)
theorem RV.r {g : Int → Int} (h : RV g) : (1 ≤ g 0 ∧ g 0 ≤ 40) ∧ (1 ≤ g 1 ∧ g 1 ≤ 4) ∧ (0 ≤ g 2 ∧ g 2 ≤ 4) ∧ (0 ≤ g 4 ∧ g 4 ≤ 1000) ∧ (g 3 = 0 ∧ g 4 = 0 ∨ g 3 = 1) := by
  obtain ⟨h0, h1, h3, ⟨T, hD⟩, _⟩ := h
  have a := hD.n
  have b := hD.k
  have c := hD.nr
  have d := hD.nc
  rcases hD.wt with w | w
  · have := h3 w.1; exact ⟨by omega, by omega, c, d, Or.inl ⟨w.1, this⟩⟩
  · exact ⟨by omega, by omega, c, d, Or.inr w.1⟩
theorem SV.pg {L : Int} {S : PSt} (h : SV L S) : PG L S := ⟨h.1, fun h0 => ⟨(h.2 h0).1, (h.2 h0).2.r.2.2.2.1.1⟩⟩
theorem pW1_4 {st : Int} {S : PSt} (h0 : S.1 = 0) (h : S.2.2.2 3 = 1) : pW1 st S = prep (-2) st S := if_pos ⟨h0, h⟩
theorem pW1_n {st : Int} {S : PSt} (h : S.2.2.2 3 ≠ 1) : pW1 st S = S := if_neg (fun q => h q.2)
theorem prep_g {c o : Int} {S : PSt} (h : S.1 = 0) : prep c o S = (c, o, S.2.2.1, S.2.2.2) := if_neg (by omega)
/-- the weight may begin -/
theorem pW_ok {t : Int → Int} {L st : Int} {S : PSt} (hV : SV L S) (h0 : S.1 = 0) (h7 : isW t L S.2.2.1 (ST 7) = true) (hL : L ≤ 600) : PG L (pset 3 1 (pW1 st (padv t L 7 S))) ∧ ((pset 3 1 (pW1 st (padv t L 7 S))).1 = 0 → 2 * (pset 3 1 (pW1 st (padv t L 7 S))).2.2.2 4 + 1 ≤ 3 * (pset 3 1 (pW1 st (padv t L 7 S))).2.2.1) ∧ ((pset 3 1 (pW1 st (padv t L 7 S))).1 = 0 → 6 * (L - (pset 3 1 (pW1 st (padv t L 7 S))).2.2.1) + pw 3 < (4000 : Nat)) := by
  have hr := (hV.2 h0).2.r
  have hp := padv_PL hV.pg h0 (i := 7) (by decide) h7
  have h1 : (padv t L 7 S).1 = 0 := h0
  have hq := hp.2 h1
  have hg := hp.1.2 h1
  have hrow : (padv t L 7 S).2.2.2 = S.2.2.2 := rfl
  have hpos := (hV.2 h0).1
  by_cases c : S.2.2.2 3 = 1
  · rw [pW1_4 h1 c, prep_g h1, pset_bad (by show (-2 : Int) ≠ 0; decide)]
    exact ⟨⟨by show -10 ≤ (-2 : Int) ∧ (-2 : Int) ≤ 0; decide, fun h => absurd h (by show (-2 : Int) ≠ 0; decide)⟩, fun h => absurd h (by show (-2 : Int) ≠ 0; decide), fun h => absurd h (by show (-2 : Int) ≠ 0; decide)⟩
  · rw [pW1_n (S := padv t L 7 S) c, pset_g h1]
    have e4 : uZ (padv t L 7 S).2.2.2 3 1 4 = 0 := by rw [uZ_n (by decide), hrow]; omega
    refine ⟨⟨by show -10 ≤ (0 : Int) ∧ (0 : Int) ≤ 0; decide, fun _ => ⟨hg.1, by show 0 ≤ uZ (padv t L 7 S).2.2.2 3 1 4; omega⟩⟩, fun _ => ?_, fun _ => ?_⟩
    · show 2 * uZ (padv t L 7 S).2.2.2 3 1 4 + 1 ≤ 3 * (padv t L 7 S).2.2.1; omega
    · show 6 * (L - (padv t L 7 S).2.2.1) + 5 < _; omega
