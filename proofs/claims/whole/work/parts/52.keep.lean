theorem PL.set {L k v : Int} {S : PSt} (h : PG L S) (hk : k ≠ 4) : PL L 0 0 S (pset k v S) := by
  by_cases c : S.1 ≠ 0
  · rw [pset_bad c]; exact PL.bad h c
  · have h0 : S.1 = 0 := by omega
    rw [pset_g h0]
    have h1 := h.2 h0
    have e4 : uZ S.2.2.2 k v 4 = S.2.2.2 4 := uZ_n (by omega)
    refine ⟨⟨by show -10 ≤ (0 : Int) ∧ (0 : Int) ≤ 0; decide, fun _ => ⟨h1.1, by show 0 ≤ uZ S.2.2.2 k v 4; omega⟩⟩, fun _ => ⟨h0, by show S.2.2.1 + 0 ≤ S.2.2.1; omega, by show _ ≤ 3 * S.2.2.1 - 2 * uZ S.2.2.2 k v 4; omega⟩⟩
theorem PL.wrd {t : Int → Int} {L : Int} {i : Nat} {S : PSt} (h : PG L S) (hi : i < 9) : PL L 0 0 S (pwrd t L i S) := by
  unfold pwrd
  by_cases c : S.1 = 0 ∧ isW t L S.2.2.1 (ST i) = true
  · rw [if_pos c]; exact (padv_PL h c.1 hi c.2).wk (by omega) (by omega)
  · rw [if_neg c]
    exact ⟨h, fun h0 => ⟨h0, by omega, by omega⟩⟩
theorem PL.min {t : Int → Int} {L : Int} {S : PSt} (h : PG L S) : PL L 0 0 S (pminS t L S) := by
  unfold pminS
  by_cases c : S.1 = 0 ∧ byA t L S.2.2.1 = 45
  · rw [if_pos c]; exact (byte_PL h c.1 c.2 (by decide)).wk (by omega) (by omega)
  · rw [if_neg c]
    exact ⟨h, fun h0 => ⟨h0, by omega, by omega⟩⟩
theorem PL.numA {t : Int → Int} {L k lo hi : Int} {S : PSt} (h : PG L S) (hk : k ≠ 4) : PL L 0 0 S (pnumA t L k lo hi S) := by
  have h1 := pnum_PL (t := t) (lo := lo) (hi := hi) h
  exact (h1.tr (PL.set h1.1 hk)).wk (by omega) (by omega)
theorem PL.e {t : Int → Int} {L b : Int} {S : PSt} (h : PG L S) (hb : 4 ≤ b) : ∀ j : Nat, PL L 0 0 S (pE t L b j S)
  | 0 => ⟨h, fun h0 => ⟨h0, by show S.2.2.1 + 0 ≤ S.2.2.1; omega, by show _ ≤ 3 * S.2.2.1 - 2 * S.2.2.2 4; omega⟩⟩
  | j + 1 => by
    have h1 := PL.e (t := t) h hb j
    exact (h1.tr (PL.numA (t := t) (lo := 1) (hi := 9) h1.1 (k := b + 1 + j) (by omega))).wk (by omega) (by omega)
theorem PL.rule {t : Int → Int} {L st eq : Int} {S : PSt} (h : PG L S) (h0 : S.1 = 0) (h2 : 0 ≤ S.2.2.2 2 ∧ S.2.2.2 2 ≤ 4) : PL L 0 0 S (pRule t L st eq S) := by
  by_cases c : S.2.2.2 2 = 4
  · rw [pRule_4 h0 c]; exact PL.err (by decide)
  · by_cases he : eq = 1
    · rw [pRule_e h0 c he]
      have h1 := PL.e (t := t) (b := 5 + 6 * S.2.2.2 2) h (by omega) 3
      have h3 := PL.min (t := t) h1.1
      have h4 := pnum_PL (t := t) (lo := 0) (hi := 99) h3.1
      have h5 : PL L (0 + 0 + -3 + 0) (0 + 0 + 1 + 0) S (pEqB t L (5 + 6 * S.2.2.2 2) (pE t L (5 + 6 * S.2.2.2 2) 3 S)) := ((h1.tr h3).tr h4).tr (PL.set h4.1 (by omega))
      have h6 := PL.wrd (t := t) (i := 3) h5.1 (by decide)
      have h7 : PL L (0 + 0) (0 + 0) (pEqB t L (5 + 6 * S.2.2.2 2) (pE t L (5 + 6 * S.2.2.2 2) 3 S)) (pEqC t L (5 + 6 * S.2.2.2 2) (pEqB t L (5 + 6 * S.2.2.2 2) (pE t L (5 + 6 * S.2.2.2 2) 3 S))) := h6.tr (PL.set h6.1 (by omega))
      exact ((h5.tr h7).tr (PL.set h7.1 (by decide))).wk (by omega) (by omega)
    · rw [pRule_p h0 c he]
      have h1 := PL.numA (t := t) (lo := 3) (hi := 6) h (k := 5 + 6 * S.2.2.2 2) (by omega)
      exact (h1.tr (PL.set h1.1 (by decide))).wk (by omega) (by omega)
theorem PL.col {t : Int → Int} {L : Int} {S : PSt} (h : PG L S) : PL L 0 0 S (pCol t L S) := by
  by_cases hb : (pC2 t L S).1 ≠ 0
  · rw [pCol_bad hb]
    have h1 := pnum_PL (t := t) (lo := 1) (hi := S.2.2.2 0) h
    have h2 := pnum_PL (t := t) (lo := 0) (hi := S.2.2.2 1 - 1) h1.1
    exact (h1.tr h2).wk (by omega) (by omega)
  · have g2 := pnum_ok (S := pC1 t L S) (show (pC2 t L S).1 = 0 by omega)
    have g1 := pnum_ok g2.1
    have h1 : PL L (-3) 1 S (pC1 t L S) := pnum_PL h
    have h2 : PL L (-3) 1 (pC1 t L S) (pC2 t L S) := pnum_PL h1.1
    have h3 : PL L 0 0 (pC2 t L S) (pC3 t L S) := PL.set h2.1 (by omega)
    have h4 := PL.wrd (t := t) (i := 4) h3.1 (by decide)
    exact ((((h1.tr h2).tr h3).tr h4).tr (PL.set h4.1 (by omega))).wk (by omega) (by omega)
theorem PL.wt {t : Int → Int} {L st : Int} {S : PSt} (hV : SV L S) (h0 : S.1 = 0) (h7 : isW t L S.2.2.1 (ST 7) = true) (hL : L ≤ 600) : PL L 0 4 S (pWt t L st (padv t L 7 S)) := by
  have hw := pW_ok (st := st) hV h0 h7 hL
  have hp := padv_PL hV.pg h0 (i := 7) (by decide) h7
  have h1 : PL L 0 0 (padv t L 7 S) (pW1 st (padv t L 7 S)) := by
    by_cases c : S.2.2.2 3 = 1
    · rw [pW1_4 (S := padv t L 7 S) h0 c, prep_g (S := padv t L 7 S) h0]; exact PL.err (by decide)
    · rw [pW1_n (S := padv t L 7 S) c]; exact ⟨hp.1, fun h0 => ⟨h0, by omega, by omega⟩⟩
  have h2 := PL.set (k := 3) (v := 1) h1.1 (by decide)
  have h3 := pP_PL (t := t) 4000 3 0 _ h2.1 hw.2.2 (by decide)
  exact (((hp.tr h1).tr h2).tr h3).wk (by simp [pc]) (by simp [pc])
/-- a statement goes on, or fails -/
theorem PL.stB {t : Int → Int} {L : Int} {S : PSt} (hV : SV L S) (h0 : S.1 = 0) (hL : L ≤ 600) : PL L 0 0 S (pStB t L S) := by
  have hr := (hV.2 h0).2.r
  unfold pStB
  by_cases w5 : isW t L S.2.2.1 (ST 5) = true
  · rw [show pWh t L S.2.2.1 = 0 from if_pos w5]
    have hp := padv_PL hV.pg h0 (i := 5) (by decide) w5
    exact (hp.tr (PL.rule (t := t) (st := S.2.2.1) (eq := 1) hp.1 h0 hr.2.2.1)).wk (by omega) (by omega)
  · by_cases w6 : isW t L S.2.2.1 (ST 6) = true
    · rw [show pWh t L S.2.2.1 = 1 from (if_neg w5).trans (if_pos w6)]
      have hp := padv_PL hV.pg h0 (i := 6) (by decide) w6
      exact (hp.tr (PL.rule (t := t) (st := S.2.2.1) (eq := 0) hp.1 h0 hr.2.2.1)).wk (by omega) (by omega)
    · by_cases w2 : isW t L S.2.2.1 (ST 2) = true
      · rw [show pWh t L S.2.2.1 = 2 from (if_neg w5).trans ((if_neg w6).trans (if_pos w2))]
        have hp := padv_PL hV.pg h0 (i := 2) (by decide) w2
        exact (hp.tr (PL.col (t := t) hp.1)).wk (by omega) (by omega)
      · by_cases w7 : isW t L S.2.2.1 (ST 7) = true
        · rw [show pWh t L S.2.2.1 = 3 from (if_neg w5).trans ((if_neg w6).trans ((if_neg w2).trans (if_pos w7)))]
          exact (PL.wt hV h0 w7 hL).wk (by omega) (by omega)
        · rw [show pWh t L S.2.2.1 = 4 from (if_neg w5).trans ((if_neg w6).trans ((if_neg w2).trans (if_neg w7)))]
          show PL L 0 0 S (prep (-2) S.2.2.1 S)
          rw [prep_g h0]; exact PL.err (by decide)
theorem PL.stm {t : Int → Int} {L : Int} {S : PSt} (hV : SV L S) (h0 : S.1 = 0) (hL : L ≤ 600) : PL L (-3) 1 S (pStm t L S) := by
  have h1 := PL.stB (t := t) hV h0 hL
  exact (h1.tr (pexp_PL (t := t) (c := 59) h1.1 (by decide))).wk (by omega) (by omega)
/-! the row stays well -/
theorem RV.rule {g e : Int → Int} (h : RV g) (h2 : g 2 ≤ 3) (e2 : e 2 = g 2 + 1) (hk : ∀ j : Int, j ≠ 2 → (j < 5 + 6 * g 2 ∨ 10 + 6 * g 2 < j) → e j = g j) (hr : RuleOk e (g 2)) : RV e := by
  have hq := h.r
  obtain ⟨h0, h1, h3, ⟨T, hD⟩, hz⟩ := h
  have k0 := hk 0 (by decide) (by omega)
  have k1 := hk 1 (by decide) (by omega)
  have k3 := hk 3 (by decide) (by omega)
  have k4 := hk 4 (by decide) (by omega)
  refine ⟨by omega, by omega, by omega, ⟨T, by omega, by omega, by omega, by omega, fun r r0 r1 => ?_, fun x x0 x1 => ?_, fun x x0 x1 => ?_, ?_⟩, fun i i0 i1 => ?_⟩
  · by_cases c : r = g 2
    · rw [c]; exact hr
    · have hro := hD.rule r0 (by omega)
      unfold RuleOk at hro ⊢
      rw [hk (5 + 6 * r) (by omega) (by omega), hk (6 + 6 * r) (by omega) (by omega), hk (7 + 6 * r) (by omega) (by omega), hk (8 + 6 * r) (by omega) (by omega), hk (9 + 6 * r) (by omega) (by omega), hk (10 + 6 * r) (by omega) (by omega)]
      exact hro
  · rw [hk (29 + x) (by omega) (by omega), k1]; exact hD.col x0 x1
  · rw [hk (70 + x) (by omega) (by omega)]; exact hD.fix x0 x1
  · rcases hD.wt with w | w
    · exact Or.inl ⟨by omega, w.2⟩
    · exact Or.inr ⟨by omega, w.2.1, CodeAt.congr k4 (fun i hi => hk i (by omega) (by omega)) T 0 (by decide) w.2.2.1, w.2.2.2⟩
  · rw [hk i (by omega) (by omega)]; exact hz i (by omega) i1
theorem RV.col {g e : Int → Int} {x : Int} (h : RV g) (hx : 1 ≤ x ∧ x ≤ g 0) (hk : ∀ j : Int, j ≠ 29 + x → j ≠ 70 + x → e j = g j) (hc : 0 ≤ e (29 + x) ∧ e (29 + x) ≤ g 1) (hf : 0 ≤ e (70 + x) ∧ e (70 + x) ≤ 1) : RV e := by
  have hq := h.r
  obtain ⟨h0, h1, h3, ⟨T, hD⟩, hz⟩ := h
  have k0 := hk 0 (by omega) (by omega)
  have k1 := hk 1 (by omega) (by omega)
  have k2 := hk 2 (by omega) (by omega)
  have k3 := hk 3 (by omega) (by omega)
  have k4 := hk 4 (by omega) (by omega)
  refine ⟨by omega, by omega, by omega, ⟨T, by omega, by omega, by omega, by omega, fun r r0 r1 => ?_, fun y y0 y1 => ?_, fun y y0 y1 => ?_, ?_⟩, fun i i0 i1 => ?_⟩
  · have hro := hD.rule r0 (by omega)
    unfold RuleOk at hro ⊢
    rw [hk (5 + 6 * r) (by omega) (by omega), hk (6 + 6 * r) (by omega) (by omega), hk (7 + 6 * r) (by omega) (by omega), hk (8 + 6 * r) (by omega) (by omega), hk (9 + 6 * r) (by omega) (by omega), hk (10 + 6 * r) (by omega) (by omega)]
    exact hro
  · by_cases c : y = x
    · rw [c, k1]; exact hc
    · rw [hk (29 + y) (by omega) (by omega), k1]; exact hD.col y0 y1
  · by_cases c : y = x
    · rw [c]; exact hf
    · rw [hk (70 + y) (by omega) (by omega)]; exact hD.fix y0 y1
  · rcases hD.wt with w | w
    · exact Or.inl ⟨by omega, w.2⟩
    · exact Or.inr ⟨by omega, w.2.1, CodeAt.congr k4 (fun i hi => hk i (by omega) (by omega)) T 0 (by decide) w.2.2.1, w.2.2.2⟩
  · rw [hk i (by omega) (by omega)]; exact hz i (by omega) i1
theorem RV.wt {g e : Int → Int} {T : List Int} (h : RV g) (e3 : e 3 = 1) (e4 : 0 ≤ e 4 ∧ e 4 ≤ 1000) (hk : ∀ j : Int, j ≠ 3 → j ≠ 4 → j < 111 → e j = g j) (hT : T ≠ [] ∧ CodeAt e 0 T ∧ HeightOk 0 T) : RV e := by
  have hq := h.r
  obtain ⟨h0, h1, h3, ⟨U, hD⟩, hz⟩ := h
  have k0 := hk 0 (by omega) (by omega) (by omega)
  have k1 := hk 1 (by omega) (by omega) (by omega)
  have k2 := hk 2 (by omega) (by omega) (by omega)
  refine ⟨by omega, by omega, by omega, ⟨T, by omega, by omega, by omega, e4, fun r r0 r1 => ?_, fun y y0 y1 => ?_, fun y y0 y1 => ?_, Or.inr ⟨e3, hT⟩⟩, fun i i0 i1 => ?_⟩
  · have hro := hD.rule r0 (by omega)
    unfold RuleOk at hro ⊢
    rw [hk (5 + 6 * r) (by omega) (by omega) (by omega), hk (6 + 6 * r) (by omega) (by omega) (by omega), hk (7 + 6 * r) (by omega) (by omega) (by omega), hk (8 + 6 * r) (by omega) (by omega) (by omega), hk (9 + 6 * r) (by omega) (by omega) (by omega), hk (10 + 6 * r) (by omega) (by omega) (by omega)]
    exact hro
  · rw [hk (29 + y) (by omega) (by omega) (by omega), k1]; exact hD.col y0 y1
  · rw [hk (70 + y) (by omega) (by omega) (by omega)]; exact hD.fix y0 y1
  · rw [hk i (by omega) (by omega) (by omega)]; exact hz i (by omega) i1
