/-! the weight's tokens, as the parser lays them -/
def CE (g : Int → Int) : Int → List Int → Int → Prop
  | i, [], q => i = q
  | i, t :: T, q => (0 ≤ t ∧ t ≤ 9999 ∧ g (111 + i) = 0 ∧ g (112 + i) = t ∧ CE g (i + 2) T q) ∨ (-7 ≤ t ∧ t ≤ -5 ∧ g (111 + i) = 1 ∧ g (112 + i) = -5 - t ∧ CE g (i + 2) T q) ∨ (-4 ≤ t ∧ t ≤ -1 ∧ g (111 + i) = 1 - t ∧ CE g (i + 1) T q)
theorem CE.code {g : Int → Int} : ∀ (T : List Int) (i : Int), CE g i T (g 4) → CodeAt g i T
  | [], _, h => h
  | t :: T, i, h => by
    rcases h with ⟨a, b, c, d, e⟩ | ⟨a, b, c, d, e⟩ | ⟨a, b, c, e⟩
    · exact Or.inl ⟨a, b, c, d, CE.code T _ e⟩
    · exact Or.inr (Or.inl ⟨a, b, c, d, CE.code T _ e⟩)
    · exact Or.inr (Or.inr ⟨a, b, c, CE.code T _ e⟩)
theorem CE.le {g : Int → Int} : ∀ (T : List Int) (i q : Int), CE g i T q → i ≤ q
  | [], _, _, h => by have h : _ = _ := h; omega
  | t :: T, i, q, h => by
    rcases h with ⟨_, _, _, _, e⟩ | ⟨_, _, _, _, e⟩ | ⟨_, _, _, e⟩
    · have := CE.le T _ _ e; omega
    · have := CE.le T _ _ e; omega
    · have := CE.le T _ _ e; omega
theorem CE.app {g : Int → Int} {U : List Int} {q r : Int} (k : CE g q U r) : ∀ (T : List Int) (i : Int), CE g i T q → CE g i (T ++ U) r
  | [], _, h => by have h : _ = q := h; subst h; exact k
  | t :: T, i, h => by
    rcases h with ⟨a, b, c, d, e⟩ | ⟨a, b, c, d, e⟩ | ⟨a, b, c, e⟩
    · exact Or.inl ⟨a, b, c, d, CE.app k T _ e⟩
    · exact Or.inr (Or.inl ⟨a, b, c, d, CE.app k T _ e⟩)
    · exact Or.inr (Or.inr ⟨a, b, c, CE.app k T _ e⟩)
theorem CE.cg {g e : Int → Int} : ∀ (T : List Int) (i q : Int), (∀ j : Int, 111 + i ≤ j → j < 111 + q → e j = g j) → CE g i T q → CE e i T q
  | [], _, _, _, h => h
  | t :: T, i, q, hc, h => by
    rcases h with ⟨a, b, c, d, k⟩ | ⟨a, b, c, d, k⟩ | ⟨a, b, c, k⟩
    · have := CE.le T _ _ k
      exact Or.inl ⟨a, b, (hc _ (by omega) (by omega)).trans c, (hc _ (by omega) (by omega)).trans d, CE.cg T _ _ (fun j h1 h2 => hc j (by omega) h2) k⟩
    · have := CE.le T _ _ k
      exact Or.inr (Or.inl ⟨a, b, (hc _ (by omega) (by omega)).trans c, (hc _ (by omega) (by omega)).trans d, CE.cg T _ _ (fun j h1 h2 => hc j (by omega) h2) k⟩)
    · have := CE.le T _ _ k
      exact Or.inr (Or.inr ⟨a, b, (hc _ (by omega) (by omega)).trans c, CE.cg T _ _ (fun j h1 h2 => hc j (by omega) h2) k⟩)
def HtTo : Int → List Int → Int → Prop
  | h, [], k => h = k
  | h, t :: T, k => if t ≤ -1 ∧ -4 ≤ t then 2 ≤ h ∧ HtTo (h - 1) T k else h ≤ 10 ∧ HtTo (h + 1) T k
theorem HtTo.ok : ∀ (T : List Int) (h : Int), HtTo h T 1 → HeightOk h T
  | [], _, h => h
  | t :: T, h, k => by
    unfold HtTo at k
    unfold HeightOk
    by_cases c : t ≤ -1 ∧ -4 ≤ t
    · rw [if_pos c] at k ⊢; exact ⟨k.1, HtTo.ok T _ k.2⟩
    · rw [if_neg c] at k ⊢; exact ⟨k.1, HtTo.ok T _ k.2⟩
theorem HtTo.app {U : List Int} {q r : Int} (k : HtTo q U r) : ∀ (T : List Int) (h : Int), HtTo h T q → HtTo h (T ++ U) r
  | [], _, h => by have h : _ = q := h; subst h; exact k
  | t :: T, h, a => by
    unfold HtTo at a
    show HtTo h (t :: (T ++ U)) r
    unfold HtTo
    by_cases c : t ≤ -1 ∧ -4 ≤ t
    · rw [if_pos c] at a ⊢; exact ⟨a.1, HtTo.app k T _ a.2⟩
    · rw [if_neg c] at a ⊢; exact ⟨a.1, HtTo.app k T _ a.2⟩
/-- how much room the operands want -/
def pK : Nat → Int | 0 => 1 | 1 => 2 | 2 => 2 | _ => 3
def pI : Nat → Int | 2 => 1 | 4 => 1 | _ => 0
/-- from the row of S to that of R the tokens T are laid -/
def LC (S R : PSt) (T : List Int) : Prop := CE R.2.2.2 (S.2.2.2 4) T (R.2.2.2 4) ∧ ∀ j : Int, j ≠ 4 → j < 111 + S.2.2.2 4 → R.2.2.2 j = S.2.2.2 j
def HQ (m : Nat) (dl : Int) (T : List Int) : Prop := ∀ h : Int, 0 ≤ h → h + pK m + 2 * (4 - dl) ≤ 11 → HtTo (h + pI m) T (h + 1)
theorem emi_n {g : Int → Int} {v j : Int} (h4 : j ≠ 4) (h : j < 111 + g 4) : emi g v j = g j := by
  unfold emi; rw [uZ_n h4, uZ_n (by omega)]
theorem emi_s {g : Int → Int} {v : Int} (h : 0 ≤ g 4) : emi g v (111 + g 4) = v := by
  unfold emi; rw [uZ_n (by omega), uZ_s]
theorem pemit_g {v : Int} {S : PSt} (h : S.1 = 0) : pemit v S = (0, S.2.1, S.2.2.1, emi S.2.2.2 v) := if_neg (by omega)
theorem LC.rf {S R : PSt} (h : R.2.2.2 = S.2.2.2) : LC S R [] := ⟨by rw [h]; rfl, fun j _ _ => by rw [h]⟩
theorem LC.lf {S Q R : PSt} {T : List Int} (h : LC Q R T) (e : Q.2.2.2 = S.2.2.2) : LC S R T := by unfold LC at h ⊢; rw [← e]; exact h
theorem LC.rt {S Q R : PSt} {T : List Int} (h : LC S Q T) (e : R.2.2.2 = Q.2.2.2) : LC S R T := by unfold LC at h ⊢; rw [e]; exact h
theorem LC.seq {S R Q : PSt} {T U : List Int} (h4 : 0 ≤ S.2.2.2 4) (h : LC S R T) (g : LC R Q U) : LC S Q (T ++ U) := by
  have l1 := CE.le T _ _ h.1
  exact ⟨CE.app g.1 T _ (CE.cg T _ _ (fun j h1 h2 => g.2 j (by omega) h2) h.1), fun j j4 hj => (g.2 j j4 (by omega)).trans (h.2 j j4 hj)⟩
/-- two places: an operand -/
theorem LC.two {S R : PSt} {a v t : Int} (h4 : 0 ≤ S.2.2.2 4) (hR : R.2.2.2 = emi (emi S.2.2.2 a) v) (ha : a = 0 ∧ (0 ≤ t ∧ t ≤ 9999) ∧ v = t ∨ a = 1 ∧ (-7 ≤ t ∧ t ≤ -5) ∧ v = -5 - t) : LC S R [t] := by
  have e4 : (emi S.2.2.2 a) 4 = S.2.2.2 4 + 1 := emi4
  have e1 : R.2.2.2 (111 + S.2.2.2 4) = a := by rw [hR, emi_n (by omega) (by omega), emi_s h4]
  have e2 : R.2.2.2 (112 + S.2.2.2 4) = v := by
    rw [hR, show 112 + S.2.2.2 4 = 111 + (emi S.2.2.2 a) 4 by omega]; exact emi_s (by omega)
  have e3 : R.2.2.2 4 = S.2.2.2 4 + 2 := by rw [hR, emi4, e4]; omega
  refine ⟨?_, fun j j4 hj => ?_⟩
  · rcases ha with ⟨a0, a1, a2⟩ | ⟨a0, a1, a2⟩
    · exact Or.inl ⟨a1.1, a1.2, by omega, by omega, by show S.2.2.2 4 + 2 = R.2.2.2 4; omega⟩
    · exact Or.inr (Or.inl ⟨a1.1, a1.2, by omega, by omega, by show S.2.2.2 4 + 2 = R.2.2.2 4; omega⟩)
  · rw [hR, emi_n j4 (by omega), emi_n j4 hj]
theorem LC.one {S R : PSt} {v t : Int} (h4 : 0 ≤ S.2.2.2 4) (hR : R.2.2.2 = emi S.2.2.2 v) (ha : (-4 ≤ t ∧ t ≤ -1) ∧ v = 1 - t) : LC S R [t] := by
  have e1 : R.2.2.2 (111 + S.2.2.2 4) = v := by rw [hR, emi_s h4]
  have e3 : R.2.2.2 4 = S.2.2.2 4 + 1 := by rw [hR, emi4]
  exact ⟨Or.inr (Or.inr ⟨ha.1.1, ha.1.2, by omega, by show S.2.2.2 4 + 1 = R.2.2.2 4; omega⟩), fun j j4 hj => by rw [hR, emi_n j4 hj]⟩
theorem HQ.two {dl t : Int} (hd : dl ≤ 4) (ht : ¬ (t ≤ -1 ∧ -4 ≤ t)) : HQ 0 dl [t] := by
  intro h h0 hk
  simp [pK, pI] at hk ⊢
  unfold HtTo
  rw [if_neg ht]
  exact ⟨by omega, rfl⟩
theorem HtTo.op {h t : Int} (ht : t ≤ -1 ∧ -4 ≤ t) (h0 : 0 ≤ h) : HtTo (h + 2) [t] (h + 1) := by
  unfold HtTo
  rw [if_pos ht]
  exact ⟨by omega, by show h + 2 - 1 = h + 1; omega⟩
theorem pexp_0 {t : Int → Int} {L c : Int} {S : PSt} (h : (pexp t L c S).1 = 0) : S.1 = 0 ∧ (pexp t L c S).2.2.2 = S.2.2.2 := by
  unfold pexp at h ⊢
  by_cases c1 : S.1 ≠ 0
  · rw [if_pos c1] at h; exact absurd h c1
  · rw [if_neg c1] at h ⊢
    by_cases c2 : byA t L S.2.2.1 = c
    · rw [if_pos c2]; exact ⟨by omega, rfl⟩
    · rw [if_neg c2] at h; exact absurd h (by show (-2 : Int) ≠ 0; decide)
theorem pP_0 {t : Int → Int} {L : Int} {f m : Nat} {dl : Int} {S : PSt} (h : (pP t L f m dl S).1 = 0) : S.1 = 0 := by
  by_cases c : S.1 = 0
  · exact c
  · rw [pP_bad _ _ _ _ c] at h; exact h
/-- what a factor, a term, a sum lay -/
theorem pP_T {t : Int → Int} {L : Int} : ∀ (f m : Nat) (dl : Int) (S : PSt), PG L S → S.1 = 0 → 6 * (L - S.2.2.1) + pw m < f → m ≤ 4 → 0 ≤ dl ∧ dl ≤ 4 → (pP t L f m dl S).1 = 0 → ∃ T : List Int, LC S (pP t L f m dl S) T ∧ HQ m dl T ∧ (pI m = 0 → T ≠ [])
  | 0, m, dl, S, h, h0, hf, hm, hd, hR => by
    exfalso
    have h2 := (h.2 h0).1
    have h3 : 0 < pw m := by
      rcases m with _ | _ | _ | _ | _ <;> simp [pw]
    simp at hf; omega
  | f + 1, 0, dl, S, h, h0, hf, hm, hd, hR => by
    have hg := (h.2 h0).2
    simp [pw] at hf
    by_cases c1 : byA t L S.2.2.1 = 40
    · by_cases hd4 : dl = 4
      · rw [pF_deep h0 c1 hd4] at hR; exact absurd hR (by show (-5 : Int) ≠ 0; decide)
      · rw [pF_par h0 c1 hd4] at hR ⊢
        have hb := byte_PL (t := t) h h0 c1 (by decide)
        have h1 := hb.2 rfl
        have hf1 : 6 * (L - sk t L (S.2.2.1 + 1)) + pw 3 < f := by have h7 := h1.2.1; dsimp only at h7; simp [pw]; omega
        have hx := pexp_0 hR
        obtain ⟨T1, a1, a2, a3⟩ := pP_T f 3 (dl + 1) _ hb.1 rfl hf1 (by decide) (by omega) hx.1
        refine ⟨T1, (a1.lf rfl).rt hx.2, fun q q0 hk => ?_, fun _ => a3 rfl⟩
        simp [pK] at hk
        have u := a2 q q0 (by simp [pK]; omega)
        simpa [pI] using u
    · by_cases c2 : 48 ≤ byA t L S.2.2.1 ∧ byA t L S.2.2.1 ≤ 57
      · rw [pF_dig h0 c2] at hR ⊢
        have r1 := pemit_1 hR
        have r2 := pemit_1 r1
        have hv := pnum_ok r2
        exact ⟨[pval t L S], LC.two hg (by rw [pemit_g r1, pemit_g r2, pnum_row]) (Or.inl ⟨rfl, hv.2, rfl⟩), HQ.two hd.2 (by omega), fun _ => by simp⟩
      · by_cases c3 : isW t L S.2.2.1 (ST 0) = true
        · rw [pF_w0 h0 c1 c2 c3]
          exact ⟨[-5], LC.two hg (by rw [pemit_g (S := pemit 1 (padv t L 0 S)) (by rw [pemit_g (S := padv t L 0 S) h0]), pemit_g (S := padv t L 0 S) h0]; rfl) (Or.inr ⟨rfl, by decide, rfl⟩), HQ.two hd.2 (by decide), fun _ => by simp⟩
        · by_cases c4 : isW t L S.2.2.1 (ST 1) = true
          · rw [pF_w1 h0 c1 c2 (by simpa using c3) c4]
            exact ⟨[-6], LC.two hg (by rw [pemit_g (S := pemit 1 (padv t L 1 S)) (by rw [pemit_g (S := padv t L 1 S) h0]), pemit_g (S := padv t L 1 S) h0]; rfl) (Or.inr ⟨rfl, by decide, rfl⟩), HQ.two hd.2 (by decide), fun _ => by simp⟩
          · by_cases c5 : isW t L S.2.2.1 (ST 2) = true
            · rw [pF_w2 h0 c1 c2 (by simpa using c3) (by simpa using c4) c5]
              exact ⟨[-7], LC.two hg (by rw [pemit_g (S := pemit 1 (padv t L 2 S)) (by rw [pemit_g (S := padv t L 2 S) h0]), pemit_g (S := padv t L 2 S) h0]; rfl) (Or.inr ⟨rfl, by decide, rfl⟩), HQ.two hd.2 (by decide), fun _ => by simp⟩
            · rw [pF_non h0 c1 c2 (by simpa using c3) (by simpa using c4) (by simpa using c5)] at hR
              exact absurd hR (by show (-2 : Int) ≠ 0; decide)
  | f + 1, 1, dl, S, h, h0, hf, hm, hd, hR => by
    have hg := (h.2 h0).2
    simp [pw] at hf
    have hR : (pP t L f 2 dl (pP t L f 0 dl S)).1 = 0 := hR
    have hf1 : 6 * (L - S.2.2.1) + pw 0 < f := by simp [pw]; omega
    have hs := pP_PL (t := t) f 0 dl S h (fun _ => hf1) (by decide)
    have r2 := pP_0 hR
    have hpos := (hs.2 r2).2.1
    simp [pc] at hpos
    obtain ⟨T1, a1, a2, a3⟩ := pP_T f 0 dl S h h0 hf1 (by decide) hd r2
    obtain ⟨T2, b1, b2, b3⟩ := pP_T f 2 dl _ hs.1 r2 (by simp [pw]; omega) (by decide) hd hR
    refine ⟨T1 ++ T2, LC.seq hg a1 b1, fun q q0 hk => ?_, fun _ => by have := a3 rfl; simp [this]⟩
    simp [pK, pI] at hk ⊢
    have u1 := a2 q q0 (by simp [pK]; omega)
    have u2 := b2 q q0 (by simp [pK]; omega)
    simp [pI] at u1 u2
    exact HtTo.app u2 T1 _ u1
  | f + 1, 2, dl, S, h, h0, hf, hm, hd, hR => by
    have hg := (h.2 h0).2
    simp [pw] at hf
    by_cases c1 : byA t L S.2.2.1 = 42
    · skip
      · rw [pT_a h0 c1] at hR ⊢
        have hb := byte_PL (t := t) h h0 c1 (by decide)
        have h1 := hb.2 rfl
        have hf1 : 6 * (L - sk t L (S.2.2.1 + 1)) + pw 0 < f := by have h7 := h1.2.1; dsimp only at h7; simp [pw]; omega
        have hs := pP_PL (t := t) f 0 dl _ hb.1 (fun _ => hf1) (by decide)
        have he := pemit_PL hs.1 4
        have r3 := pP_0 hR
        have r2 := pemit_1 r3
        have hpos := (((hb.tr hs).tr he).2 r3).2.1
        simp [pc] at hpos
        obtain ⟨T1, a1, a2, a3⟩ := pP_T f 0 dl _ hb.1 rfl hf1 (by decide) hd r2
        obtain ⟨T2, b1, b2, b3⟩ := pP_T f 2 dl _ he.1 r3 (by simp [pw]; omega) (by decide) hd hR
        have g1 := (hs.1.2 r2).2
        have c1 : LC (pP t L f 0 dl (0, S.2.1, sk t L (S.2.2.1 + 1), S.2.2.2)) (pemit 4 (pP t L f 0 dl (0, S.2.1, sk t L (S.2.2.1 + 1), S.2.2.2))) [-3] := LC.one g1 (by rw [pemit_g r2]) (by decide)
        refine ⟨T1 ++ ([-3] ++ T2), LC.seq hg (a1.lf rfl) (LC.seq g1 c1 b1), fun q q0 hk => ?_, fun hh => absurd hh (by decide)⟩
        simp [pK, pI] at hk ⊢
        have u1 := a2 (q + 1) (by omega) (by simp [pK]; omega)
        have u2 := b2 q q0 (by simp [pK]; omega)
        simp [pI] at u1 u2
        have u3 := HtTo.op (t := -3) (by decide) q0
        rw [show q + 1 + 1 = q + 2 by omega] at u1
        exact HtTo.app (HtTo.app u2 [-3] _ u3) T1 _ u1
    · by_cases c2 : byA t L S.2.2.1 = 47
      · skip
        · rw [pT_b h0 c2] at hR ⊢
          have hb := byte_PL (t := t) h h0 c2 (by decide)
          have h1 := hb.2 rfl
          have hf1 : 6 * (L - sk t L (S.2.2.1 + 1)) + pw 0 < f := by have h7 := h1.2.1; dsimp only at h7; simp [pw]; omega
          have hs := pP_PL (t := t) f 0 dl _ hb.1 (fun _ => hf1) (by decide)
          have he := pemit_PL hs.1 5
          have r3 := pP_0 hR
          have r2 := pemit_1 r3
          have hpos := (((hb.tr hs).tr he).2 r3).2.1
          simp [pc] at hpos
          obtain ⟨T1, a1, a2, a3⟩ := pP_T f 0 dl _ hb.1 rfl hf1 (by decide) hd r2
          obtain ⟨T2, b1, b2, b3⟩ := pP_T f 2 dl _ he.1 r3 (by simp [pw]; omega) (by decide) hd hR
          have g1 := (hs.1.2 r2).2
          have c1 : LC (pP t L f 0 dl (0, S.2.1, sk t L (S.2.2.1 + 1), S.2.2.2)) (pemit 5 (pP t L f 0 dl (0, S.2.1, sk t L (S.2.2.1 + 1), S.2.2.2))) [-4] := LC.one g1 (by rw [pemit_g r2]) (by decide)
          refine ⟨T1 ++ ([-4] ++ T2), LC.seq hg (a1.lf rfl) (LC.seq g1 c1 b1), fun q q0 hk => ?_, fun hh => absurd hh (by decide)⟩
          simp [pK, pI] at hk ⊢
          have u1 := a2 (q + 1) (by omega) (by simp [pK]; omega)
          have u2 := b2 q q0 (by simp [pK]; omega)
          simp [pI] at u1 u2
          have u3 := HtTo.op (t := -4) (by decide) q0
          rw [show q + 1 + 1 = q + 2 by omega] at u1
          exact HtTo.app (HtTo.app u2 [-4] _ u3) T1 _ u1
      · rw [pT_n h0 c1 c2]
        exact ⟨[], LC.rf rfl, fun q q0 hk => rfl, fun hh => absurd hh (by decide)⟩
  | f + 1, 3, dl, S, h, h0, hf, hm, hd, hR => by
    have hg := (h.2 h0).2
    simp [pw] at hf
    have hR : (pP t L f 4 dl (pP t L f 1 dl S)).1 = 0 := hR
    have hf1 : 6 * (L - S.2.2.1) + pw 1 < f := by simp [pw]; omega
    have hs := pP_PL (t := t) f 1 dl S h (fun _ => hf1) (by decide)
    have r2 := pP_0 hR
    have hpos := (hs.2 r2).2.1
    simp [pc] at hpos
    obtain ⟨T1, a1, a2, a3⟩ := pP_T f 1 dl S h h0 hf1 (by decide) hd r2
    obtain ⟨T2, b1, b2, b3⟩ := pP_T f 4 dl _ hs.1 r2 (by simp [pw]; omega) (by decide) hd hR
    refine ⟨T1 ++ T2, LC.seq hg a1 b1, fun q q0 hk => ?_, fun _ => by have := a3 rfl; simp [this]⟩
    simp [pK, pI] at hk ⊢
    have u1 := a2 q q0 (by simp [pK]; omega)
    have u2 := b2 q q0 (by simp [pK]; omega)
    simp [pI] at u1 u2
    exact HtTo.app u2 T1 _ u1
  | f + 1, 4, dl, S, h, h0, hf, hm, hd, hR => by
    have hg := (h.2 h0).2
    simp [pw] at hf
    by_cases c1 : byA t L S.2.2.1 = 43
    · skip
      · rw [pS_a h0 c1] at hR ⊢
        have hb := byte_PL (t := t) h h0 c1 (by decide)
        have h1 := hb.2 rfl
        have hf1 : 6 * (L - sk t L (S.2.2.1 + 1)) + pw 1 < f := by have h7 := h1.2.1; dsimp only at h7; simp [pw]; omega
        have hs := pP_PL (t := t) f 1 dl _ hb.1 (fun _ => hf1) (by decide)
        have he := pemit_PL hs.1 2
        have r3 := pP_0 hR
        have r2 := pemit_1 r3
        have hpos := (((hb.tr hs).tr he).2 r3).2.1
        simp [pc] at hpos
        obtain ⟨T1, a1, a2, a3⟩ := pP_T f 1 dl _ hb.1 rfl hf1 (by decide) hd r2
        obtain ⟨T2, b1, b2, b3⟩ := pP_T f 4 dl _ he.1 r3 (by simp [pw]; omega) (by decide) hd hR
        have g1 := (hs.1.2 r2).2
        have c1 : LC (pP t L f 1 dl (0, S.2.1, sk t L (S.2.2.1 + 1), S.2.2.2)) (pemit 2 (pP t L f 1 dl (0, S.2.1, sk t L (S.2.2.1 + 1), S.2.2.2))) [-1] := LC.one g1 (by rw [pemit_g r2]) (by decide)
        refine ⟨T1 ++ ([-1] ++ T2), LC.seq hg (a1.lf rfl) (LC.seq g1 c1 b1), fun q q0 hk => ?_, fun hh => absurd hh (by decide)⟩
        simp [pK, pI] at hk ⊢
        have u1 := a2 (q + 1) (by omega) (by simp [pK]; omega)
        have u2 := b2 q q0 (by simp [pK]; omega)
        simp [pI] at u1 u2
        have u3 := HtTo.op (t := -1) (by decide) q0
        rw [show q + 1 + 1 = q + 2 by omega] at u1
        exact HtTo.app (HtTo.app u2 [-1] _ u3) T1 _ u1
    · by_cases c2 : byA t L S.2.2.1 = 45
      · skip
        · rw [pS_b h0 c2] at hR ⊢
          have hb := byte_PL (t := t) h h0 c2 (by decide)
          have h1 := hb.2 rfl
          have hf1 : 6 * (L - sk t L (S.2.2.1 + 1)) + pw 1 < f := by have h7 := h1.2.1; dsimp only at h7; simp [pw]; omega
          have hs := pP_PL (t := t) f 1 dl _ hb.1 (fun _ => hf1) (by decide)
          have he := pemit_PL hs.1 3
          have r3 := pP_0 hR
          have r2 := pemit_1 r3
          have hpos := (((hb.tr hs).tr he).2 r3).2.1
          simp [pc] at hpos
          obtain ⟨T1, a1, a2, a3⟩ := pP_T f 1 dl _ hb.1 rfl hf1 (by decide) hd r2
          obtain ⟨T2, b1, b2, b3⟩ := pP_T f 4 dl _ he.1 r3 (by simp [pw]; omega) (by decide) hd hR
          have g1 := (hs.1.2 r2).2
          have c1 : LC (pP t L f 1 dl (0, S.2.1, sk t L (S.2.2.1 + 1), S.2.2.2)) (pemit 3 (pP t L f 1 dl (0, S.2.1, sk t L (S.2.2.1 + 1), S.2.2.2))) [-2] := LC.one g1 (by rw [pemit_g r2]) (by decide)
          refine ⟨T1 ++ ([-2] ++ T2), LC.seq hg (a1.lf rfl) (LC.seq g1 c1 b1), fun q q0 hk => ?_, fun hh => absurd hh (by decide)⟩
          simp [pK, pI] at hk ⊢
          have u1 := a2 (q + 1) (by omega) (by simp [pK]; omega)
          have u2 := b2 q q0 (by simp [pK]; omega)
          simp [pI] at u1 u2
          have u3 := HtTo.op (t := -2) (by decide) q0
          rw [show q + 1 + 1 = q + 2 by omega] at u1
          exact HtTo.app (HtTo.app u2 [-2] _ u3) T1 _ u1
      · rw [pS_n h0 c1 c2]
        exact ⟨[], LC.rf rfl, fun q q0 hk => rfl, fun hh => absurd hh (by decide)⟩
  | f + 1, m + 5, dl, S, h, h0, hf, hm, hd, hR => absurd hm (by omega)
termination_by f => f
