theorem pnumA_g {t : Int → Int} {L k lo hi : Int} {S : PSt} (h : (pnumA t L k lo hi S).1 = 0) : S.1 = 0 ∧ (lo ≤ pval t L S ∧ pval t L S ≤ hi) ∧ (pnumA t L k lo hi S).2.2.2 = uZ S.2.2.2 k (pval t L S) := by
  have h1 := pset_0 h
  have h2 := pnum_ok h1
  refine ⟨h2.1, h2.2, ?_⟩
  unfold pnumA
  rw [pset_g h1]
  show uZ (pnum t L lo hi S).2.2.2 k _ = _
  rw [pnum_row]
theorem pminS_row {t : Int → Int} {L : Int} {S : PSt} : (pminS t L S).2.2.2 = S.2.2.2 := by
  unfold pminS
  by_cases c : S.1 = 0 ∧ byA t L S.2.2.1 = 45
  · rw [if_pos c]
  · rw [if_neg c]
theorem pminS_0 {t : Int → Int} {L : Int} {S : PSt} (h : (pminS t L S).1 = 0) : S.1 = 0 := by
  unfold pminS at h
  by_cases c : S.1 = 0 ∧ byA t L S.2.2.1 = 45
  · exact c.1
  · rw [if_neg c] at h; exact h
theorem pminB_rng {t : Int → Int} {L v : Int} {S : PSt} (h : 0 ≤ v ∧ v ≤ 99) : -99 ≤ pminB t L S v ∧ pminB t L S v ≤ 99 := by
  unfold pminB
  by_cases c : S.1 = 0 ∧ byA t L S.2.2.1 = 45
  · rw [if_pos c]; omega
  · rw [if_neg c]; omega
theorem RV.ruleS {t : Int → Int} {L st eq : Int} {S : PSt} (h : RV S.2.2.2) (h0 : S.1 = 0) (hR : (pRule t L st eq S).1 = 0) : RV (pRule t L st eq S).2.2.2 ∧ (pRule t L st eq S).2.2.2 3 = S.2.2.2 3 := by
  have hq := h.r
  by_cases c : S.2.2.2 2 = 4
  · rw [pRule_4 h0 c] at hR; exact absurd hR (by show (-4 : Int) ≠ 0; decide)
  · have hz := h.2.2.2.2
    by_cases he : eq = 1
    · rw [pRule_e h0 c he] at hR ⊢
      generalize hb : 5 + 6 * S.2.2.2 2 = b at hR ⊢
      have r1 := pset_0 hR
      have r2 := pset_0 r1
      have r3 := pwrd_0 r2
      have r4 := pset_0 r3
      have r5 := pnum_ok r4
      have r6 := pminS_0 r5.1
      obtain ⟨r7, x3, e3⟩ := pnumA_g r6
      obtain ⟨r8, x2, e2⟩ := pnumA_g r7
      obtain ⟨r9, x1, e1⟩ := pnumA_g r8
      have hv := pwb_rng (t := t) (L := L) (i := 3) (S := pEqB t L b (pE t L b 3 S))
      have hw := pminB_rng (t := t) (L := L) (S := pE t L b 3 S) r5.2
      have q1 : (pE t L b 1 S).2.2.2 = uZ S.2.2.2 (b + 1 + 0) (pval t L S) := e1
      have q2 : (pE t L b 2 S).2.2.2 = uZ (pE t L b 1 S).2.2.2 (b + 1 + 1) (pval t L (pE t L b 1 S)) := e2
      have q3 : (pE t L b 3 S).2.2.2 = uZ (pE t L b 2 S).2.2.2 (b + 1 + 2) (pval t L (pE t L b 2 S)) := e3
      have q4 : (pEqB t L b (pE t L b 3 S)).2.2.2 = uZ (pE t L b 3 S).2.2.2 (b + 4) (pminB t L (pE t L b 3 S) (pval t L (pminS t L (pE t L b 3 S)))) := by
        unfold pEqB
        rw [pset_g r4]
        show uZ (pnum t L 0 99 (pminS t L (pE t L b 3 S))).2.2.2 _ _ = _
        rw [pnum_row, pminS_row]
      have q5 : (pEqC t L b (pEqB t L b (pE t L b 3 S))).2.2.2 = uZ (pEqB t L b (pE t L b 3 S)).2.2.2 (b + 5) (pwb t L 3 (pEqB t L b (pE t L b 3 S))) := by
        unfold pEqC
        rw [pset_g r2]
        show uZ (pwrd t L 3 (pEqB t L b (pE t L b 3 S))).2.2.2 _ _ = _
        rw [pwrd_row]
      have q6 : (pinc (pEqC t L b (pEqB t L b (pE t L b 3 S)))).2.2.2 = uZ (pEqC t L b (pEqB t L b (pE t L b 3 S))).2.2.2 2 ((pEqC t L b (pEqB t L b (pE t L b 3 S))).2.2.2 2 + 1) := by
        unfold pinc
        rw [pset_g r1]
      have x1' : 1 ≤ pval t L S ∧ pval t L S ≤ 9 := x1
      have x2' : 1 ≤ pval t L (pE t L b 1 S) ∧ pval t L (pE t L b 1 S) ≤ 9 := x2
      have x3' : 1 ≤ pval t L (pE t L b 2 S) ∧ pval t L (pE t L b 2 S) ≤ 9 := x3
      have hz0 := hz b (by omega) (by omega)
      clear hR r1 r2 r3 r4 r5 r6 r7 r8 r9 e1 e2 e3 x1 x2 x3
      generalize (pinc (pEqC t L b (pEqB t L b (pE t L b 3 S)))).2.2.2 = e at q6 ⊢
      generalize (pEqC t L b (pEqB t L b (pE t L b 3 S))).2.2.2 = g5 at q5 q6
      generalize pwb t L 3 (pEqB t L b (pE t L b 3 S)) = v5 at q5 hv
      generalize (pEqB t L b (pE t L b 3 S)).2.2.2 = g4 at q4 q5
      generalize pminB t L (pE t L b 3 S) (pval t L (pminS t L (pE t L b 3 S))) = v4 at q4 hw
      generalize (pE t L b 3 S).2.2.2 = g3 at q3 q4
      generalize pval t L (pE t L b 2 S) = v3 at q3 x3'
      generalize (pE t L b 2 S).2.2.2 = g2 at q2 q3
      generalize pval t L (pE t L b 1 S) = v2 at q2 x2'
      generalize (pE t L b 1 S).2.2.2 = g1 at q1 q2
      generalize pval t L S = v1 at q1 x1'
      have k1 : ∀ j : Int, j ≠ b + 1 → g1 j = S.2.2.2 j := fun j hj => by rw [q1, uZ_n (by omega)]
      have k2 : ∀ j : Int, j ≠ b + 2 → g2 j = g1 j := fun j hj => by rw [q2, uZ_n (by omega)]
      have k3 : ∀ j : Int, j ≠ b + 3 → g3 j = g2 j := fun j hj => by rw [q3, uZ_n (by omega)]
      have k4 : ∀ j : Int, j ≠ b + 4 → g4 j = g3 j := fun j hj => by rw [q4, uZ_n (by omega)]
      have k5 : ∀ j : Int, j ≠ b + 5 → g5 j = g4 j := fun j hj => by rw [q5, uZ_n (by omega)]
      have k6 : ∀ j : Int, j ≠ 2 → e j = g5 j := fun j hj => by rw [q6, uZ_n (by omega)]
      have s1 : g1 (b + 1) = v1 := by rw [q1, show b + 1 + 0 = b + 1 by omega, uZ_s]
      have s2 : g2 (b + 2) = v2 := by rw [q2, show b + 1 + 1 = b + 2 by omega, uZ_s]
      have s3 : g3 (b + 3) = v3 := by rw [q3, show b + 1 + 2 = b + 3 by omega, uZ_s]
      have s4 : g4 (b + 4) = v4 := by rw [q4, uZ_s]
      have s5 : g5 (b + 5) = v5 := by rw [q5, uZ_s]
      have s6 : e 2 = g5 2 + 1 := by rw [q6, uZ_s]
      have ka : ∀ j : Int, j ≠ 2 → (j < b + 1 ∨ b + 5 < j) → e j = S.2.2.2 j := fun j h2 hj => by rw [k6 j h2, k5 j (by omega), k4 j (by omega), k3 j (by omega), k2 j (by omega), k1 j (by omega)]
      have e2 : e 2 = S.2.2.2 2 + 1 := by rw [s6, k5 2 (by omega), k4 2 (by omega), k3 2 (by omega), k2 2 (by omega), k1 2 (by omega)]
      refine ⟨RV.rule h (by omega) e2 (fun j j2 hj => ka j j2 (by omega)) (Or.inl ⟨?_, ?_, ?_, ?_, ?_, ?_⟩), ka 3 (by decide) (by omega)⟩
      · rw [hb, ka b (by omega) (by omega)]; exact hz0
      · rw [show 6 + 6 * S.2.2.2 2 = b + 1 by omega, k6 _ (by omega), k5 _ (by omega), k4 _ (by omega), k3 _ (by omega), k2 _ (by omega), s1]; exact x1'
      · rw [show 7 + 6 * S.2.2.2 2 = b + 2 by omega, k6 _ (by omega), k5 _ (by omega), k4 _ (by omega), k3 _ (by omega), s2]; exact x2'
      · rw [show 8 + 6 * S.2.2.2 2 = b + 3 by omega, k6 _ (by omega), k5 _ (by omega), k4 _ (by omega), s3]; exact x3'
      · rw [show 9 + 6 * S.2.2.2 2 = b + 4 by omega, k6 _ (by omega), k5 _ (by omega), s4]; exact hw
      · rw [show 10 + 6 * S.2.2.2 2 = b + 5 by omega, k6 _ (by omega), s5]; exact hv
    · rw [pRule_p h0 c he] at hR ⊢
      have r1 := pset_0 hR
      obtain ⟨r2, x1, e1⟩ := pnumA_g r1
      have q2 : (pinc (pnumA t L (5 + 6 * S.2.2.2 2) 3 6 S)).2.2.2 = uZ (pnumA t L (5 + 6 * S.2.2.2 2) 3 6 S).2.2.2 2 ((pnumA t L (5 + 6 * S.2.2.2 2) 3 6 S).2.2.2 2 + 1) := by
        unfold pinc
        rw [pset_g r1]
      rw [e1] at q2
      have ka : ∀ j : Int, j ≠ 2 → j ≠ 5 + 6 * S.2.2.2 2 → (pinc (pnumA t L (5 + 6 * S.2.2.2 2) 3 6 S)).2.2.2 j = S.2.2.2 j := fun j j2 j3 => by rw [q2, uZ_n j2, uZ_n j3]
      refine ⟨RV.rule h (by omega) (by rw [q2, uZ_s, uZ_n (by omega)]) (fun j j2 hj => ka j j2 (by omega)) (Or.inr ?_), ka 3 (by decide) (by omega)⟩
      rw [q2, uZ_n (by omega), uZ_s]
      exact x1
theorem RV.colS {t : Int → Int} {L : Int} {S : PSt} (h : RV S.2.2.2) (hR : (pCol t L S).1 = 0) : RV (pCol t L S).2.2.2 ∧ (pCol t L S).2.2.2 3 = S.2.2.2 3 := by
  have hq := h.r
  have r1 := pset_0 hR
  have r2 := pwrd_0 r1
  have r3 := pset_0 r2
  have r4 := pnum_ok (S := pC1 t L S) r3
  have r5 := pnum_ok r4.1
  have q1 : (pC2 t L S).2.2.2 = S.2.2.2 := by unfold pC2 pC1; rw [pnum_row, pnum_row]
  have q2 : (pC3 t L S).2.2.2 = uZ S.2.2.2 (29 + pval t L S) (pval t L (pC1 t L S) + 1) := by
    unfold pC3
    rw [pset_g r3]
    show uZ (pC2 t L S).2.2.2 _ _ = _
    rw [q1]
  have q3 : (pCol t L S).2.2.2 = uZ (uZ S.2.2.2 (29 + pval t L S) (pval t L (pC1 t L S) + 1)) (70 + pval t L S) (pwb t L 4 (pC3 t L S)) := by
    unfold pCol
    rw [pset_g r1]
    show uZ (pwrd t L 4 (pC3 t L S)).2.2.2 _ _ = _
    rw [pwrd_row, q2]
  have hv := pwb_rng (t := t) (L := L) (i := 4) (S := pC3 t L S)
  rw [q3]
  refine ⟨RV.col (x := pval t L S) h r5.2 (fun j j1 j2 => by rw [uZ_n j2, uZ_n j1]) ?_ (by rw [uZ_s]; exact hv), by rw [uZ_n (by omega), uZ_n (by omega)]⟩
  rw [uZ_n (by omega), uZ_s]; omega
