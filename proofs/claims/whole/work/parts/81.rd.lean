/-- the tokens of a weight as the class holds them: n of them *-/
def PT (pg : Int → Int) (n : Int) (g : Int → Int) : Prop := 0 ≤ g 4 ∧ ∃ T : List Int, (T.length : Int) = n ∧ CE g 0 T (g 4) ∧ ∀ k : Nat, k < T.length → pg k = T.getD k 0
theorem PT.app {pg : Int → Int} {n t : Int} {S R : PSt} (h : PT pg n S.2.2.2) (hc : LC S R [t]) (h4 : 0 ≤ R.2.2.2 4) : PT (uZ pg n t) (n + 1) R.2.2.2 := by
  obtain ⟨h0, T, hl, hT, hk⟩ := h
  have l1 := CE.le T _ _ hT
  refine ⟨h4, T ++ [t], by simp; omega, CE.app hc.1 T _ (CE.cg T _ _ (fun j h1 h2 => hc.2 j (by omega) h2) hT), fun k hk2 => ?_⟩
  simp at hk2
  by_cases q : k < T.length
  · rw [uZ_n (by omega), hk k q, List.getD_eq_getElem?_getD, List.getD_eq_getElem?_getD, List.getElem?_append_left q]
  · have e : k = T.length := by omega
    subst e
    rw [← hl, uZ_s, List.getD_eq_getElem?_getD, List.getElem?_append_right (Nat.le_refl _)]
    simp
theorem PT.two {pg g : Int → Int} {n t a v : Int} (h : PT pg n g) (ha : a = 0 ∧ (0 ≤ t ∧ t ≤ 9999) ∧ v = t ∨ a = 1 ∧ (-7 ≤ t ∧ t ≤ -5) ∧ v = -5 - t) : PT (uZ pg n t) (n + 1) (emi (emi g a) v) := by
  have h0 := h.1
  have e1 : emi (emi g a) v 4 = g 4 + 1 + 1 := by rw [emi4, emi4]
  exact PT.app (S := (0, 0, 0, g)) (R := (0, 0, 0, emi (emi g a) v)) h (LC.two (S := (0, 0, 0, g)) (R := (0, 0, 0, emi (emi g a) v)) h0 rfl ha) (by show 0 ≤ emi (emi g a) v 4; omega)
theorem PT.one {pg g : Int → Int} {n t v : Int} (h : PT pg n g) (ha : (-4 ≤ t ∧ t ≤ -1) ∧ v = 1 - t) : PT (uZ pg n t) (n + 1) (emi g v) := by
  have h0 := h.1
  have e1 : emi g v 4 = g 4 + 1 := emi4
  exact PT.app (S := (0, 0, 0, g)) (R := (0, 0, 0, emi g v)) h (LC.one (S := (0, 0, 0, g)) (R := (0, 0, 0, emi g v)) h0 rfl ha) (by show 0 ≤ emi g v 4; omega)
theorem pnum_bad1 {t : Int → Int} {L lo hi : Int} {S : PSt} (h0 : S.1 = 0) (h : ¬ (48 ≤ byA t L S.2.2.1 ∧ byA t L S.2.2.1 ≤ 57)) : pnum t L lo hi S = (-2, S.2.2.1, S.2.2.1, S.2.2.2) := (if_neg (by omega)).trans (if_pos h)
theorem pnum_bad2 {t : Int → Int} {L lo hi : Int} {S : PSt} (h0 : S.1 = 0) (h : 48 ≤ byA t L S.2.2.1 ∧ byA t L S.2.2.1 ≤ 57) (h2 : ¬ (lo ≤ pval t L S ∧ pval t L S ≤ hi)) : pnum t L lo hi S = (-3, S.2.2.1, S.2.2.1, S.2.2.2) := (if_neg (by omega)).trans ((if_neg (by omega)).trans (if_neg h2))
theorem pnum_good {t : Int → Int} {L lo hi : Int} {S : PSt} (h0 : S.1 = 0) (h : 48 ≤ byA t L S.2.2.1 ∧ byA t L S.2.2.1 ≤ 57) (h2 : lo ≤ pval t L S ∧ pval t L S ≤ hi) : pnum t L lo hi S = (0, S.2.1, sk t L (nm t L 0 S.2.2.1).2, S.2.2.2) := (if_neg (by omega)).trans ((if_neg (by omega)).trans (if_pos h2))
theorem pexp_y {t : Int → Int} {L c : Int} {S : PSt} (h0 : S.1 = 0) (h : byA t L S.2.2.1 = c) : pexp t L c S = (0, S.2.1, sk t L (S.2.2.1 + 1), S.2.2.2) := (if_neg (by omega)).trans (if_pos h)
theorem pexp_n {t : Int → Int} {L c : Int} {S : PSt} (h0 : S.1 = 0) (h : byA t L S.2.2.1 ≠ c) : pexp t L c S = (-2, S.2.2.1, S.2.2.1, S.2.2.2) := (if_neg (by omega)).trans (if_neg h)
theorem tk_sE {t : Int → Int} {L p c : Int} (hc : 33 ≤ c ∧ c ≤ 47 ∨ c = 59) (h : byA t L p = c) : tkE t L p = p + 1 := (tk_sgn (by omega) (by omega) (by omega)).2.2
theorem tk_wE {t : Int → Int} {L p : Int} {i : Nat} (hi : i < 9) (hp : p ≤ L) (h : isW t L p (ST i) = true) : tkE t L p = p + (lenST.getD i 0 : Nat) := by
  have := ((isW_tk hi hp).mp h).2.1
  omega
theorem hd_X7_fail : yX7_fail.cls = RX7 ∧ yX7_fail.cls ≠ "java/lang/invoke/MethodHandle" ∧ yX7_fail.cls ≠ "java/lang/invoke/VarHandle" ∧ (parseMethodDescriptor yX7_fail.desc).map (fun d => d.parameters.length) = some 1 := by decide +kernel
theorem fl_X7_fail_9 : Cond.fieldLink RX7 9 (TX7 0).1 (TX7 0).2.1 (TX7 0).2.2.1 ∈ wsX7_fail := List.mem_of_getElem? (i := 1) rfl
theorem inn_X7_fail_7 : ∀ w ∈ wsX70, w ∈ wsX7_fail := fun _ h => List.mem_cons_of_mem _ (List.mem_append_left _ (List.mem_append_right _ h))
theorem fl_X7_fail_28 : Cond.fieldLink RX7 28 (TX7 3).1 (TX7 3).2.1 (TX7 3).2.2.1 ∈ wsX7_fail := List.mem_of_getElem? (i := 2) rfl
theorem fl_X7_fail_175 : Cond.fieldLink RX7 175 (TX9 1).1 (TX9 1).2.1 (TX9 1).2.2.1 ∈ wsX7_fail := List.mem_of_getElem? (i := 3) rfl
theorem inn_X7_fail_9 : ∀ w ∈ wsX90, w ∈ wsX7_fail := fun _ h => List.mem_cons_of_mem _ (List.mem_append_right _ h)
theorem fl_X7_fail_15 : Cond.fieldLink RX7 15 (TX7 1).1 (TX7 1).2.1 (TX7 1).2.2.1 ∈ wsX7_fail := List.mem_of_getElem? (i := 4) rfl
abbrev rm_X7_fail : Room := { frames := 0, cells := 0, slots := 0, locals := 0 }
set_option maxHeartbeats 1200000 in
set_option maxRecDepth 100000 in
theorem k_X7_fail (l : Launch) {G : va_G} {cy : Nat → ClassId} {ws0 : va_W} {qr ard arc atk arl apg ain : Nat} {nm9 cs9 rt9 n9 : Int} {bm : Int → Int} {L p5 ec9 ep9 : Int} (c9 : Int) (h_rd : ws0[qr]? = some (ard, .inr (7, [.int (zI ec9), .int (zI ep9), .ref arc, .ref atk, .int (zI nm9), .int (zI cs9), .ref arl, .int (zI rt9), .ref apg, .int (zI n9)]))) (h_tk : ws0[qr + 3]? = some (atk, .inr (9, [.int (zI (tkK bm L p5)), .int (zI p5), .int (zI (tkV bm L p5)), .ref ain, .int (zI L), .int (zI (tkE bm L p5))])))  : MI l yX7_fail wsX7_fail rm_X7_fail G cy [.ref ard, .int (zI c9)] ws0 (fun z u => z = 0 ∧ u[qr]? = some (ard, .inr (7, [.int (zI c9), .int (zI p5), .ref arc, .ref atk, .int (zI nm9), .int (zI cs9), .ref arl, .int (zI rt9), .ref apg, .int (zI n9)])) ∧ Eqx ws0 u (fun j => j = qr)) := by
  refine MI.of (own := RX7) (cc := cX7_fail) (nL := 2) (ret := (some .boolean)) (by decide) rfl rfl (Nat.le_of_ble_eq_true rfl) ?_
  intro p e s m below meth c A ls E h hl
  have hl : lv_has ls 2 [(0, .ref ard), (1, .int (zI c9))] := hl
  have hE : Eqx ws0 ws0 (fun j => j = qr) := Eqx.rf
  refine r_aload_n E 0 hl rfl dX7_fail_0 ?_
  refine r_iload_n E 1 hl rfl dX7_fail_1 ?_
  refine r_put E h h_rd rfl inn_X7_fail_7 0 (by decide) fl_X7_fail_9 tyX7 tyX7_ok nmX7 rfl rfl rfl (Nat.le_of_ble_eq_true rfl) dX7_fail_2 (fun ws H locs h hu => ?_)
  have h_rd : ws[qr]? = some (ard, .inr (7, [.int (zI c9), .int (zI ep9), .ref arc, .ref atk, .int (zI nm9), .int (zI cs9), .ref arl, .int (zI rt9), .ref apg, .int (zI n9)])) := hu.1
  have h_tk := hu.keep h_tk (by omega)
  have hE := hE.tr (hu.eqx (by first | omega | (dsimp only <;> omega)))
  refine r_aload_n E 0 hl rfl dX7_fail_5 ?_
  refine r_aload_n E 0 hl rfl dX7_fail_6 ?_
  refine r_get (v := .ref atk) E h h_rd rfl inn_X7_fail_7 3 (by decide) fl_X7_fail_28 rfl dX7_fail_7 ?_
  refine r_get (v := .int (zI p5)) E h h_tk rfl inn_X7_fail_9 1 (by decide) fl_X7_fail_175 rfl dX7_fail_10 ?_
  refine r_put E h h_rd rfl inn_X7_fail_7 1 (by decide) fl_X7_fail_15 tyX7 tyX7_ok nmX7 rfl rfl rfl (Nat.le_of_ble_eq_true rfl) dX7_fail_13 (fun ws H locs h hu => ?_)
  have h_rd : ws[qr]? = some (ard, .inr (7, [.int (zI c9), .int (zI p5), .ref arc, .ref atk, .int (zI nm9), .int (zI cs9), .ref arl, .int (zI rt9), .ref apg, .int (zI n9)])) := hu.1
  have h_tk := hu.keep h_tk (by omega)
  have hE := hE.tr (hu.eqx (by first | omega | (dsimp only <;> omega)))
  refine r_iconst E dX7_fail_16 ?_
  exact r_zret E h (by omega) ⟨rfl, h_rd, hE⟩ dX7_fail_17
theorem hd_X7_skipIf : yX7_skipIf.cls = RX7 ∧ yX7_skipIf.cls ≠ "java/lang/invoke/MethodHandle" ∧ yX7_skipIf.cls ≠ "java/lang/invoke/VarHandle" ∧ (parseMethodDescriptor yX7_skipIf.desc).map (fun d => d.parameters.length) = some 1 := by decide +kernel
theorem fl_X7_skipIf_28 : Cond.fieldLink RX7 28 (TX7 3).1 (TX7 3).2.1 (TX7 3).2.2.1 ∈ wsX7_skipIf := List.mem_of_getElem? (i := 1) rfl
theorem inn_X7_skipIf_7 : ∀ w ∈ wsX70, w ∈ wsX7_skipIf := fun _ h => List.mem_cons_of_mem _ (List.mem_append_left _ (List.mem_append_right _ h))
abbrev rm_X7_skipIf : Room := { frames := 2, cells := 0, slots := 0, locals := 43 }
set_option maxHeartbeats 1200000 in
set_option maxRecDepth 100000 in
theorem k_X7_skipIf (l : Launch) {G : va_G} {cy : Nat → ClassId} {ws0 : va_W} {qr qi ard arc atk arl apg ain : Nat} {nm9 cs9 rt9 n9 : Int}{bu bm : Int → Int} {L : Int} {p5 ec9 ep9 : Int} (f9 : Int) (h_rd : ws0[qr]? = some (ard, .inr (7, [.int (zI ec9), .int (zI ep9), .ref arc, .ref atk, .int (zI nm9), .int (zI cs9), .ref arl, .int (zI rt9), .ref apg, .int (zI n9)]))) (h_tk : ws0[qr + 3]? = some (atk, .inr (9, [.int (zI (tkK bm L p5)), .int (zI p5), .int (zI (tkV bm L p5)), .ref ain, .int (zI L), .int (zI (tkE bm L p5))]))) (h_in : ws0[qi]? = some (ain, aB cy 600 bu)) (htx : TXok bm) (hbm : ∀ i : Int, bu i = sg (bm i)) (hL : 0 ≤ L ∧ L ≤ 600) (hqi : qi < qr ∨ qr + 7 ≤ qi) (hpL : 0 ≤ p5 ∧ p5 ≤ L) (hf9 : f9 = 0 ∨ f9 = 1) : MI l yX7_skipIf wsX7_skipIf rm_X7_skipIf G cy [.ref ard, .int (zI f9)] ws0 (fun z u => ∃ p2 : Int, z = f9 ∧ (f9 = 1 ∧ p2 = sk bm L (tkE bm L p5) ∨ f9 = 0 ∧ p2 = p5) ∧ u[qr + 3]? = some (atk, .inr (9, [.int (zI (tkK bm L p2)), .int (zI p2), .int (zI (tkV bm L p2)), .ref ain, .int (zI L), .int (zI (tkE bm L p2))])) ∧ Eqx ws0 u (fun j => j = qr + 3)) := by
  refine MI.of (own := RX7) (cc := cX7_skipIf) (nL := 2) (ret := (some .boolean)) (by decide) rfl rfl (Nat.le_of_ble_eq_true rfl) ?_
  intro p e s m below meth c A ls E h hl
  have hl : lv_has ls 2 [(0, .ref ard), (1, .int (zI f9))] := hl
  have hE : Eqx ws0 ws0 (fun j => j = qr + 3) := Eqx.rf
  have htr := tk_rng htx hpL.2
  refine r_iload_n E 1 hl rfl dX7_skipIf_0 ?_
  refine r_if_eq E 11 dX7_skipIf_1 (by decide) (by omega) (fun c_1 => ?_) (fun c_1 => ?_)
  · skip
    refine r_iload_n E 1 hl rfl dX7_skipIf_11 ?_
    exact r_zret E h (by omega) ⟨_, rfl, Or.inr ⟨by omega, rfl⟩, h_tk, hE⟩ dX7_skipIf_12
  · skip
    refine r_aload_n E 0 hl rfl dX7_skipIf_4 ?_
    refine r_get (v := .ref atk) E h h_rd rfl inn_X7_skipIf_7 3 (by decide) fl_X7_skipIf_28 rfl dX7_skipIf_5 ?_
    refine r_callVV E h (As := []) (rest := []) (k_X9_advance l h_tk h_in htx hbm hL (by omega) (by omega)) h_tk rfl gX7_skipIf_X9_advance rfl hd_X9_advance (by decide) ⟨by decide, by decide⟩ hl.1 rfl (Nat.le_of_ble_eq_true rfl) dX7_skipIf_8 rfl (fun ws H locs hp h => ?_)
    obtain ⟨h_tk, hf⟩ := hp
    have h_rd := hf.at h_rd (by first | omega | (dsimp only <;> omega))
    have h_in := hf.at h_in (by first | omega | (dsimp only <;> omega))
    have hE := hE.tr (hf.wk (fun j hj => by first | omega | (dsimp only at hj ⊢ <;> omega)))
    refine r_iload_n E 1 hl rfl dX7_skipIf_11 ?_
    exact r_zret E h (by omega) ⟨_, rfl, Or.inl ⟨by omega, rfl⟩, h_tk, hE⟩ dX7_skipIf_12
theorem hd_X7_takeSign : yX7_takeSign.cls = RX7 ∧ yX7_takeSign.cls ≠ "java/lang/invoke/MethodHandle" ∧ yX7_takeSign.cls ≠ "java/lang/invoke/VarHandle" ∧ (parseMethodDescriptor yX7_takeSign.desc).map (fun d => d.parameters.length) = some 1 := by decide +kernel
theorem fl_X7_takeSign_28 : Cond.fieldLink RX7 28 (TX7 3).1 (TX7 3).2.1 (TX7 3).2.2.1 ∈ wsX7_takeSign := List.mem_of_getElem? (i := 1) rfl
theorem inn_X7_takeSign_7 : ∀ w ∈ wsX70, w ∈ wsX7_takeSign := fun _ h => List.mem_cons_of_mem _ (List.mem_append_left _ (List.mem_append_right _ h))
abbrev rm_X7_takeSign : Room := { frames := 2, cells := 0, slots := 0, locals := 43 }
set_option maxHeartbeats 1200000 in
set_option maxRecDepth 100000 in
theorem k_X7_takeSign (l : Launch) {G : va_G} {cy : Nat → ClassId} {ws0 : va_W} {qr qi ard arc atk arl apg ain : Nat} {nm9 cs9 rt9 n9 : Int}{bu bm : Int → Int} {L : Int} {S : PSt} (c9 : Int) (h_rd : ws0[qr]? = some (ard, .inr (7, [.int (zI S.1), .int (zI S.2.1), .ref arc, .ref atk, .int (zI nm9), .int (zI cs9), .ref arl, .int (zI rt9), .ref apg, .int (zI n9)]))) (h_tk : ws0[qr + 3]? = some (atk, .inr (9, [.int (zI (tkK bm L S.2.2.1)), .int (zI S.2.2.1), .int (zI (tkV bm L S.2.2.1)), .ref ain, .int (zI L), .int (zI (tkE bm L S.2.2.1))]))) (h_in : ws0[qi]? = some (ain, aB cy 600 bu)) (htx : TXok bm) (hbm : ∀ i : Int, bu i = sg (bm i)) (hL : 0 ≤ L ∧ L ≤ 600) (hqi : qi < qr ∨ qr + 7 ≤ qi) (h0 : S.1 = 0) (hG : PG L S) (hc9 : 33 ≤ c9 ∧ c9 ≤ 47 ∨ c9 = 59) : MI l yX7_takeSign wsX7_takeSign rm_X7_takeSign G cy [.ref ard, .int (zI c9)] ws0 (fun z u => ∃ p2 : Int, (z = 1 ∧ (pexp bm L c9 S).1 = 0 ∧ p2 = (pexp bm L c9 S).2.2.1 ∨ z = 0 ∧ (pexp bm L c9 S).1 ≠ 0) ∧ u[qr]? = some (ard, .inr (7, [.int (zI ((pexp bm L c9 S).1)), .int (zI ((pexp bm L c9 S).2.1)), .ref arc, .ref atk, .int (zI nm9), .int (zI cs9), .ref arl, .int (zI rt9), .ref apg, .int (zI n9)])) ∧ u[qr + 3]? = some (atk, .inr (9, [.int (zI (tkK bm L p2)), .int (zI p2), .int (zI (tkV bm L p2)), .ref ain, .int (zI L), .int (zI (tkE bm L p2))])) ∧ Eqx ws0 u (fun j => j = qr ∨ j = qr + 3)) := by
  refine MI.of (own := RX7) (cc := cX7_takeSign) (nL := 2) (ret := (some .boolean)) (by decide) rfl rfl (Nat.le_of_ble_eq_true rfl) ?_
  intro p e s m below meth c A ls E h hl
  have hl : lv_has ls 2 [(0, .ref ard), (1, .int (zI c9))] := hl
  have hE : Eqx ws0 ws0 (fun j => j = qr ∨ j = qr + 3) := Eqx.rf
  have hgp := (hG.2 h0).1
  have htr := tk_rng htx hgp.2
  refine r_aload_n E 0 hl rfl dX7_takeSign_0 ?_
  refine r_get (v := .ref atk) E h h_rd rfl inn_X7_takeSign_7 3 (by decide) fl_X7_takeSign_28 rfl dX7_takeSign_1 ?_
  refine r_iload_n E 1 hl rfl dX7_takeSign_4 ?_
  refine r_callVI E h (As := [.int (zI c9)]) (rest := []) (k_X9_isSign l c9 h_tk htx (by omega) (by omega)) h_tk rfl gX7_takeSign_X9_isSign rfl hd_X9_isSign (by decide) ⟨by decide, by decide⟩ hl.1 rfl (Nat.le_of_ble_eq_true rfl) dX7_takeSign_5 rfl (fun z_5 ws H locs hp h => ?_)
  obtain ⟨e_z_5, rfl⟩ := hp
  refine r_if_ne E 18 dX7_takeSign_8 (by decide) (by omega) (fun c_8 => ?_) (fun c_8 => ?_)
  · skip
    refine r_aload_n E 0 hl rfl dX7_takeSign_18 ?_
    refine r_get (v := .ref atk) E h h_rd rfl inn_X7_takeSign_7 3 (by decide) fl_X7_takeSign_28 rfl dX7_takeSign_19 ?_
    refine r_callVV E h (As := []) (rest := []) (k_X9_advance l h_tk h_in htx hbm hL (by omega) (by omega)) h_tk rfl gX7_takeSign_X9_advance rfl hd_X9_advance (by decide) ⟨by decide, by decide⟩ hl.1 rfl (Nat.le_of_ble_eq_true rfl) dX7_takeSign_22 rfl (fun ws H locs hp h => ?_)
    obtain ⟨h_tk, hf⟩ := hp
    have h_rd := hf.at h_rd (by first | omega | (dsimp only <;> omega))
    have h_in := hf.at h_in (by first | omega | (dsimp only <;> omega))
    have hE := hE.tr (hf.wk (fun j hj => by first | omega | (dsimp only at hj ⊢ <;> omega)))
    refine r_iconst E dX7_takeSign_25 ?_
    exact r_zret E h (by omega) ⟨_, Or.inl ⟨rfl, by rw [pexp_y h0 (by omega)], by rw [pexp_y h0 (by omega), tk_sE (by omega) (by omega : byA bm L S.2.2.1 = c9)]⟩, by rw [pexp_y h0 (by omega)]; rw [h0] at h_rd; exact h_rd, h_tk, hE⟩ dX7_takeSign_26
  · skip
    refine r_aload_n E 0 hl rfl dX7_takeSign_11 ?_
    refine r_bipush E dX7_takeSign_12 (by decide) ?_
    refine r_callVI E h (As := [.int (zI (-2))]) (rest := []) (k_X7_fail l (-2) h_rd h_tk) h_rd rfl gX7_takeSign_X7_fail rfl hd_X7_fail (by decide) ⟨by decide, by decide⟩ hl.1 rfl (Nat.le_of_ble_eq_true rfl) dX7_takeSign_14 rfl (fun z_14 ws H locs hp h => ?_)
    obtain ⟨rfl, h_rd, hf⟩ := hp
    have h_tk := hf.at h_tk (by first | omega | (dsimp only <;> omega))
    have h_in := hf.at h_in (by first | omega | (dsimp only <;> omega))
    have hE := hE.tr (hf.wk (fun j hj => by first | omega | (dsimp only at hj ⊢ <;> omega)))
    exact r_zret E h (by omega) ⟨S.2.2.1, Or.inr ⟨rfl, by rw [pexp_n h0 (by omega)]; show (-2 : Int) ≠ 0; decide⟩, by rw [pexp_n h0 (by omega)]; exact h_rd, h_tk, hE⟩ dX7_takeSign_17
theorem hd_X7_takeNumber : yX7_takeNumber.cls = RX7 ∧ yX7_takeNumber.cls ≠ "java/lang/invoke/MethodHandle" ∧ yX7_takeNumber.cls ≠ "java/lang/invoke/VarHandle" ∧ (parseMethodDescriptor yX7_takeNumber.desc).map (fun d => d.parameters.length) = some 2 := by decide +kernel
theorem fl_X7_takeNumber_28 : Cond.fieldLink RX7 28 (TX7 3).1 (TX7 3).2.1 (TX7 3).2.2.1 ∈ wsX7_takeNumber := List.mem_of_getElem? (i := 1) rfl
theorem inn_X7_takeNumber_7 : ∀ w ∈ wsX70, w ∈ wsX7_takeNumber := fun _ h => List.mem_cons_of_mem _ (List.mem_append_left _ (List.mem_append_right _ h))
theorem fl_X7_takeNumber_65 : Cond.fieldLink RX7 65 (TX9 0).1 (TX9 0).2.1 (TX9 0).2.2.1 ∈ wsX7_takeNumber := List.mem_of_getElem? (i := 2) rfl
theorem inn_X7_takeNumber_9 : ∀ w ∈ wsX90, w ∈ wsX7_takeNumber := fun _ h => List.mem_cons_of_mem _ (List.mem_append_right _ h)
theorem fl_X7_takeNumber_172 : Cond.fieldLink RX7 172 (TX9 2).1 (TX9 2).2.1 (TX9 2).2.2.1 ∈ wsX7_takeNumber := List.mem_of_getElem? (i := 3) rfl
abbrev rm_X7_takeNumber : Room := { frames := 2, cells := 0, slots := 0, locals := 43 }
set_option maxHeartbeats 1200000 in
set_option maxRecDepth 100000 in
theorem k_X7_takeNumber (l : Launch) {G : va_G} {cy : Nat → ClassId} {ws0 : va_W} {qr qi ard arc atk arl apg ain : Nat} {nm9 cs9 rt9 n9 : Int}{bu bm : Int → Int} {L : Int} {S : PSt} (lo hi : Int) (h_rd : ws0[qr]? = some (ard, .inr (7, [.int (zI S.1), .int (zI S.2.1), .ref arc, .ref atk, .int (zI nm9), .int (zI cs9), .ref arl, .int (zI rt9), .ref apg, .int (zI n9)]))) (h_tk : ws0[qr + 3]? = some (atk, .inr (9, [.int (zI (tkK bm L S.2.2.1)), .int (zI S.2.2.1), .int (zI (tkV bm L S.2.2.1)), .ref ain, .int (zI L), .int (zI (tkE bm L S.2.2.1))]))) (h_in : ws0[qi]? = some (ain, aB cy 600 bu)) (htx : TXok bm) (hbm : ∀ i : Int, bu i = sg (bm i)) (hL : 0 ≤ L ∧ L ≤ 600) (hqi : qi < qr ∨ qr + 7 ≤ qi) (h0 : S.1 = 0) (hG : PG L S) (hlo : 0 ≤ lo ∧ lo ≤ 100 ∧ -100 ≤ hi ∧ hi ≤ 10000) : MI l yX7_takeNumber wsX7_takeNumber rm_X7_takeNumber G cy [.ref ard, .int (zI lo), .int (zI hi)] ws0 (fun z u => ∃ p2 : Int, (z = pval bm L S ∧ (lo ≤ z ∧ z ≤ hi) ∧ (pnum bm L lo hi S).1 = 0 ∧ p2 = (pnum bm L lo hi S).2.2.1 ∨ z = -1 ∧ (pnum bm L lo hi S).1 ≠ 0) ∧ u[qr]? = some (ard, .inr (7, [.int (zI ((pnum bm L lo hi S).1)), .int (zI ((pnum bm L lo hi S).2.1)), .ref arc, .ref atk, .int (zI nm9), .int (zI cs9), .ref arl, .int (zI rt9), .ref apg, .int (zI n9)])) ∧ u[qr + 3]? = some (atk, .inr (9, [.int (zI (tkK bm L p2)), .int (zI p2), .int (zI (tkV bm L p2)), .ref ain, .int (zI L), .int (zI (tkE bm L p2))])) ∧ Eqx ws0 u (fun j => j = qr ∨ j = qr + 3)) := by
  refine MI.of (own := RX7) (cc := cX7_takeNumber) (nL := 4) (ret := (some .int)) (by decide) rfl rfl (Nat.le_of_ble_eq_true rfl) ?_
  intro p e s m below meth c A ls E h hl
  have hl : lv_has ls 4 [(0, .ref ard), (1, .int (zI lo)), (2, .int (zI hi))] := hl
  have hE : Eqx ws0 ws0 (fun j => j = qr ∨ j = qr + 3) := Eqx.rf
  have hgp := (hG.2 h0).1
  have htr := tk_rng htx hgp.2
  refine r_aload_n E 0 hl rfl dX7_takeNumber_0 ?_
  refine r_get (v := .ref atk) E h h_rd rfl inn_X7_takeNumber_7 3 (by decide) fl_X7_takeNumber_28 rfl dX7_takeNumber_1 ?_
  refine r_get (v := .int (zI (tkK bm L S.2.2.1))) E h h_tk rfl inn_X7_takeNumber_9 0 (by decide) fl_X7_takeNumber_65 rfl dX7_takeNumber_4 ?_
  refine r_iconst E dX7_takeNumber_7 ?_
  refine r_icmp_eq E 20 dX7_takeNumber_8 (by decide) (by omega) (fun c_8 => ?_) (fun c_8 => ?_)
  · skip
    have hd9 := tk_1.mp c_8
    have hv9 : tkV bm L S.2.2.1 = pval bm L S := (tk_num hd9).2.1
    refine r_aload_n E 0 hl rfl dX7_takeNumber_20 ?_
    refine r_get (v := .ref atk) E h h_rd rfl inn_X7_takeNumber_7 3 (by decide) fl_X7_takeNumber_28 rfl dX7_takeNumber_21 ?_
    refine r_get (v := .int (zI (tkV bm L S.2.2.1))) E h h_tk rfl inn_X7_takeNumber_9 2 (by decide) fl_X7_takeNumber_172 rfl dX7_takeNumber_24 ?_
    refine r_istore_n (lv' := [(3, .int (zI (tkV bm L S.2.2.1))), (0, .ref ard), (1, .int (zI lo)), (2, .int (zI hi))]) E hl dX7_takeNumber_27 rfl (by decide) rfl (fun ls hl => ?_)
    refine r_iload_n E 0 hl rfl dX7_takeNumber_28 ?_
    refine r_iload_n E 2 hl rfl dX7_takeNumber_29 ?_
    refine r_icmp_lt E 38 dX7_takeNumber_30 (by decide) (by omega) (fun c_30 => ?_) (fun c_30 => ?_)
    · skip
      refine r_aload_n E 1 hl rfl dX7_takeNumber_38 ?_
      refine r_bipush E dX7_takeNumber_39 (by decide) ?_
      refine r_callVI E h (As := [.int (zI (-3))]) (rest := []) (k_X7_fail l (-3) h_rd h_tk) h_rd rfl gX7_takeNumber_X7_fail rfl hd_X7_fail (by decide) ⟨by decide, by decide⟩ hl.1 rfl (Nat.le_of_ble_eq_true rfl) dX7_takeNumber_41 rfl (fun z_41 ws H locs hp h => ?_)
      obtain ⟨rfl, h_rd, hf⟩ := hp
      have h_tk := hf.at h_tk (by first | omega | (dsimp only <;> omega))
      have h_in := hf.at h_in (by first | omega | (dsimp only <;> omega))
      have hE := hE.tr (hf.wk (fun j hj => by first | omega | (dsimp only at hj ⊢ <;> omega)))
      refine r_pop E dX7_takeNumber_44 rfl ?_
      refine r_iconst E dX7_takeNumber_45 ?_
      exact r_iret E h ⟨S.2.2.1, Or.inr ⟨rfl, by rw [pnum_bad2 h0 hd9 (by omega)]; show (-3 : Int) ≠ 0; decide⟩, by rw [pnum_bad2 h0 hd9 (by omega)]; exact h_rd, h_tk, hE⟩ dX7_takeNumber_46
    · skip
      refine r_iload_n E 0 hl rfl dX7_takeNumber_33 ?_
      refine r_iload_n E 3 hl rfl dX7_takeNumber_34 ?_
      refine r_icmp_le E 47 dX7_takeNumber_35 (by decide) (by omega) (fun c_35 => ?_) (fun c_35 => ?_)
      · skip
        refine r_aload_n E 1 hl rfl dX7_takeNumber_47 ?_
        refine r_get (v := .ref atk) E h h_rd rfl inn_X7_takeNumber_7 3 (by decide) fl_X7_takeNumber_28 rfl dX7_takeNumber_48 ?_
        refine r_callVV E h (As := []) (rest := []) (k_X9_advance l h_tk h_in htx hbm hL (by omega) (by omega)) h_tk rfl gX7_takeNumber_X9_advance rfl hd_X9_advance (by decide) ⟨by decide, by decide⟩ hl.1 rfl (Nat.le_of_ble_eq_true rfl) dX7_takeNumber_51 rfl (fun ws H locs hp h => ?_)
        obtain ⟨h_tk, hf⟩ := hp
        have h_rd := hf.at h_rd (by first | omega | (dsimp only <;> omega))
        have h_in := hf.at h_in (by first | omega | (dsimp only <;> omega))
        have hE := hE.tr (hf.wk (fun j hj => by first | omega | (dsimp only at hj ⊢ <;> omega)))
        refine r_iload_n E 0 hl rfl dX7_takeNumber_54 ?_
        exact r_iret E h ⟨_, Or.inl ⟨hv9, by omega, by rw [pnum_good h0 hd9 (by omega)], by rw [pnum_good h0 hd9 (by omega), (tk_num hd9).2.2]⟩, by rw [pnum_good h0 hd9 (by omega)]; rw [h0] at h_rd; exact h_rd, h_tk, hE⟩ dX7_takeNumber_55
      · skip
        refine r_aload_n E 1 hl rfl dX7_takeNumber_38 ?_
        refine r_bipush E dX7_takeNumber_39 (by decide) ?_
        refine r_callVI E h (As := [.int (zI (-3))]) (rest := []) (k_X7_fail l (-3) h_rd h_tk) h_rd rfl gX7_takeNumber_X7_fail rfl hd_X7_fail (by decide) ⟨by decide, by decide⟩ hl.1 rfl (Nat.le_of_ble_eq_true rfl) dX7_takeNumber_41 rfl (fun z_41 ws H locs hp h => ?_)
        obtain ⟨rfl, h_rd, hf⟩ := hp
        have h_tk := hf.at h_tk (by first | omega | (dsimp only <;> omega))
        have h_in := hf.at h_in (by first | omega | (dsimp only <;> omega))
        have hE := hE.tr (hf.wk (fun j hj => by first | omega | (dsimp only at hj ⊢ <;> omega)))
        refine r_pop E dX7_takeNumber_44 rfl ?_
        refine r_iconst E dX7_takeNumber_45 ?_
        exact r_iret E h ⟨S.2.2.1, Or.inr ⟨rfl, by rw [pnum_bad2 h0 hd9 (by omega)]; show (-3 : Int) ≠ 0; decide⟩, by rw [pnum_bad2 h0 hd9 (by omega)]; exact h_rd, h_tk, hE⟩ dX7_takeNumber_46
  · skip
    refine r_aload_n E 0 hl rfl dX7_takeNumber_11 ?_
    refine r_bipush E dX7_takeNumber_12 (by decide) ?_
    refine r_callVI E h (As := [.int (zI (-2))]) (rest := []) (k_X7_fail l (-2) h_rd h_tk) h_rd rfl gX7_takeNumber_X7_fail rfl hd_X7_fail (by decide) ⟨by decide, by decide⟩ hl.1 rfl (Nat.le_of_ble_eq_true rfl) dX7_takeNumber_14 rfl (fun z_14 ws H locs hp h => ?_)
    obtain ⟨rfl, h_rd, hf⟩ := hp
    have h_tk := hf.at h_tk (by first | omega | (dsimp only <;> omega))
    have h_in := hf.at h_in (by first | omega | (dsimp only <;> omega))
    have hE := hE.tr (hf.wk (fun j hj => by first | omega | (dsimp only at hj ⊢ <;> omega)))
    refine r_pop E dX7_takeNumber_17 rfl ?_
    refine r_iconst E dX7_takeNumber_18 ?_
    exact r_iret E h ⟨S.2.2.1, Or.inr ⟨rfl, by rw [pnum_bad1 h0 (fun q => c_8 (tk_1.mpr q))]; show (-2 : Int) ≠ 0; decide⟩, by rw [pnum_bad1 h0 (fun q => c_8 (tk_1.mpr q))]; exact h_rd, h_tk, hE⟩ dX7_takeNumber_19
theorem hd_X7_put : yX7_put.cls = RX7 ∧ yX7_put.cls ≠ "java/lang/invoke/MethodHandle" ∧ yX7_put.cls ≠ "java/lang/invoke/VarHandle" ∧ (parseMethodDescriptor yX7_put.desc).map (fun d => d.parameters.length) = some 1 := by decide +kernel
theorem fl_X7_put_51 : Cond.fieldLink RX7 51 (TX7 9).1 (TX7 9).2.1 (TX7 9).2.2.1 ∈ wsX7_put := List.mem_of_getElem? (i := 1) rfl
theorem inn_X7_put_7 : ∀ w ∈ wsX70, w ∈ wsX7_put := fun _ h => List.mem_cons_of_mem _ (List.mem_append_right _ h)
theorem fl_X7_put_47 : Cond.fieldLink RX7 47 (TX7 8).1 (TX7 8).2.1 (TX7 8).2.2.1 ∈ wsX7_put := List.mem_of_getElem? (i := 2) rfl
abbrev rm_X7_put : Room := { frames := 0, cells := 0, slots := 0, locals := 0 }
set_option maxHeartbeats 1200000 in
set_option maxRecDepth 100000 in
theorem k_X7_put (l : Launch) {G : va_G} {cy : Nat → ClassId} {ws0 : va_W} {qr ard arc atk arl apg : Nat} {nm9 cs9 rt9 n9 : Int} {ec9 ep9 : Int} {pgf : Int → Int} (t9 : Int) (h_rd : ws0[qr]? = some (ard, .inr (7, [.int (zI ec9), .int (zI ep9), .ref arc, .ref atk, .int (zI nm9), .int (zI cs9), .ref arl, .int (zI rt9), .ref apg, .int (zI n9)]))) (h_pg : ws0[qr + 6]? = some (apg, aI cy 600 pgf)) (hn9 : 0 ≤ n9 ∧ n9 < 600) : MI l yX7_put wsX7_put rm_X7_put G cy [.ref ard, .int (zI t9)] ws0 (fun z u => z = 1 ∧ u[qr]? = some (ard, .inr (7, [.int (zI ec9), .int (zI ep9), .ref arc, .ref atk, .int (zI nm9), .int (zI cs9), .ref arl, .int (zI rt9), .ref apg, .int (zI (n9 + 1))])) ∧ u[qr + 6]? = some (apg, aI cy 600 (uZ pgf n9 t9)) ∧ Eqx ws0 u (fun j => j = qr ∨ j = qr + 6)) := by
  refine MI.of (own := RX7) (cc := cX7_put) (nL := 2) (ret := (some .boolean)) (by decide) rfl rfl (Nat.le_of_ble_eq_true rfl) ?_
  intro p e s m below meth c A ls E h hl
  have hl : lv_has ls 2 [(0, .ref ard), (1, .int (zI t9))] := hl
  have hE : Eqx ws0 ws0 (fun j => j = qr ∨ j = qr + 6) := Eqx.rf
  refine r_aload_n E 0 hl rfl dX7_put_0 ?_
  refine r_get (v := .int (zI n9)) E h h_rd rfl inn_X7_put_7 9 (by decide) fl_X7_put_51 rfl dX7_put_1 ?_
  refine r_aload_n E 0 hl rfl dX7_put_4 ?_
  refine r_get (v := .ref apg) E h h_rd rfl inn_X7_put_7 8 (by decide) fl_X7_put_47 rfl dX7_put_5 ?_
  refine r_alen E h rfl h_pg (v := 600) rfl dX7_put_8 ?_
  refine r_icmp_lt E 14 dX7_put_9 (by decide) (by omega) (fun c_9 => ?_) (fun c_9 => ?_)
  · skip
    refine r_aload_n E 0 hl rfl dX7_put_14 ?_
    refine r_get (v := .ref apg) E h h_rd rfl inn_X7_put_7 8 (by decide) fl_X7_put_47 rfl dX7_put_15 ?_
    refine r_aload_n E 0 hl rfl dX7_put_18 ?_
    refine r_get (v := .int (zI n9)) E h h_rd rfl inn_X7_put_7 9 (by decide) fl_X7_put_51 rfl dX7_put_19 ?_
    refine r_iload_n E 1 hl rfl dX7_put_22 ?_
    refine r_iast E h h_pg (by omega) (by decide) dX7_put_23 (fun ws H locs h hu => ?_)
    have h_rd := hu.keep h_rd (by omega)
    have h_pg : ws[qr + 6]? = some (apg, aI cy 600 (uZ pgf n9 t9)) := hu.1
    have hE := hE.tr (hu.eqx (by first | omega | (dsimp only <;> omega)))
    refine r_aload_n E 0 hl rfl dX7_put_24 ?_
    refine r_dup E dX7_put_25 rfl ?_
    refine r_get (v := .int (zI n9)) E h h_rd rfl inn_X7_put_7 9 (by decide) fl_X7_put_51 rfl dX7_put_26 ?_
    refine r_iconst E dX7_put_29 ?_
    refine r_iadd E dX7_put_30 ?_
    refine r_put E h h_rd rfl inn_X7_put_7 9 (by decide) fl_X7_put_51 tyX7 tyX7_ok nmX7 rfl rfl rfl (Nat.le_of_ble_eq_true rfl) dX7_put_31 (fun ws H locs h hu => ?_)
    have h_rd : ws[qr]? = some (ard, .inr (7, [.int (zI ec9), .int (zI ep9), .ref arc, .ref atk, .int (zI nm9), .int (zI cs9), .ref arl, .int (zI rt9), .ref apg, .int (zI (n9 + 1))])) := hu.1
    have h_pg := hu.keep h_pg (by omega)
    have hE := hE.tr (hu.eqx (by first | omega | (dsimp only <;> omega)))
    refine r_iconst E dX7_put_34 ?_
    exact r_zret E h (by omega) ⟨rfl, h_rd, h_pg, hE⟩ dX7_put_35
  · skip
    exfalso; omega
