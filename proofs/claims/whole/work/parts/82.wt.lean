/-- a name of a weight, purely -/
def pName (t : Int → Int) (L : Int) (S : PSt) : PSt :=
  if isW t L S.2.2.1 (ST 0) = true then pemit 0 (pemit 1 (padv t L 0 S))
  else if isW t L S.2.2.1 (ST 1) = true then pemit 1 (pemit 1 (padv t L 1 S))
  else if isW t L S.2.2.1 (ST 2) = true then pemit 2 (pemit 1 (padv t L 2 S))
  else (-2, S.2.2.1, S.2.2.1, S.2.2.2)
theorem pF_name {t : Int → Int} {L : Int} {f : Nat} {dl : Int} {S : PSt} (h0 : S.1 = 0) (h1 : byA t L S.2.2.1 ≠ 40) (h2 : ¬ (48 ≤ byA t L S.2.2.1 ∧ byA t L S.2.2.1 ≤ 57)) : pP t L (f + 1) 0 dl S = pName t L S := (if_neg (by omega)).trans ((if_neg h1).trans (if_neg h2))
theorem pName_0 {t : Int → Int} {L : Int} {S : PSt} (h0 : isW t L S.2.2.1 (ST 0) = true) : pName t L S = pemit 0 (pemit 1 (padv t L 0 S)) := if_pos h0
theorem pName_1 {t : Int → Int} {L : Int} {S : PSt} (h0 : isW t L S.2.2.1 (ST 0) = false) (h1 : isW t L S.2.2.1 (ST 1) = true) : pName t L S = pemit 1 (pemit 1 (padv t L 1 S)) := (if_neg (by rw [h0]; decide)).trans (if_pos h1)
theorem pName_2 {t : Int → Int} {L : Int} {S : PSt} (h0 : isW t L S.2.2.1 (ST 0) = false) (h1 : isW t L S.2.2.1 (ST 1) = false) (h2 : isW t L S.2.2.1 (ST 2) = true) : pName t L S = pemit 2 (pemit 1 (padv t L 2 S)) := (if_neg (by rw [h0]; decide)).trans ((if_neg (by rw [h1]; decide)).trans (if_pos h2))
theorem pName_n {t : Int → Int} {L : Int} {S : PSt} (h0 : isW t L S.2.2.1 (ST 0) = false) (h1 : isW t L S.2.2.1 (ST 1) = false) (h2 : isW t L S.2.2.1 (ST 2) = false) : pName t L S = (-2, S.2.2.1, S.2.2.1, S.2.2.2) := (if_neg (by rw [h0]; decide)).trans ((if_neg (by rw [h1]; decide)).trans (if_neg (by rw [h2]; decide)))
theorem pemit_bad {v : Int} {S : PSt} (h : S.1 ≠ 0) : pemit v S = S := if_pos h
/-- what a factor, a term and a sum of the class promise -/
def WQ (cy : Nat → ClassId) (ws0 : va_W) (qr ard arc atk arl apg ain : Nat) (nm9 cs9 rt9 : Int) (bm : Int → Int) (L k9 : Int) (R : PSt) (z : Int) (u : va_W) : Prop := ∃ (p2 n2 : Int) (g2 : Int → Int), (z = 1 ∧ R.1 = 0 ∧ p2 = R.2.2.1 ∧ (0 ≤ n2 ∧ n2 + k9 ≤ p2) ∧ PT g2 n2 R.2.2.2 ∨ z = 0 ∧ R.1 ≠ 0) ∧ u[qr]? = some (ard, .inr (7, [.int (zI R.1), .int (zI R.2.1), .ref arc, .ref atk, .int (zI nm9), .int (zI cs9), .ref arl, .int (zI rt9), .ref apg, .int (zI n2)])) ∧ u[qr + 3]? = some (atk, .inr (9, [.int (zI (tkK bm L p2)), .int (zI p2), .int (zI (tkV bm L p2)), .ref ain, .int (zI L), .int (zI (tkE bm L p2))])) ∧ u[qr + 6]? = some (apg, aI cy 600 g2) ∧ Eqx ws0 u (fun j => j = qr ∨ j = qr + 3 ∨ j = qr + 6)
def PCon7 (l : Launch) (G : va_G) (cy : Nat → ClassId) (y : MethodName) (wds : List Cond) (rm : Room) (md n : Nat) : Prop := ∀ {ws0 : va_W} {qr qi ard arc atk arl apg ain : Nat} {nm9 cs9 rt9 n9 : Int} {bu bm pgf : Int → Int} {L k9 : Int} {S : PSt} {f : Nat} {dl : Int} (_ : ws0[qr]? = some (ard, .inr (7, [.int (zI S.1), .int (zI S.2.1), .ref arc, .ref atk, .int (zI nm9), .int (zI cs9), .ref arl, .int (zI rt9), .ref apg, .int (zI n9)]))) (_ : ws0[qr + 3]? = some (atk, .inr (9, [.int (zI (tkK bm L S.2.2.1)), .int (zI S.2.2.1), .int (zI (tkV bm L S.2.2.1)), .ref ain, .int (zI L), .int (zI (tkE bm L S.2.2.1))]))) (_ : ws0[qi]? = some (ain, aB cy 600 bu)) (_ : ws0[qr + 6]? = some (apg, aI cy 600 pgf)) (_ : TXok bm) (_ : ∀ i : Int, bu i = sg (bm i)) (_ : 0 ≤ L ∧ L ≤ 600) (_ : qi < qr ∨ qr + 7 ≤ qi) (_ : S.1 = 0) (_ : PG L S) (_ : 0 ≤ n9 ∧ n9 + k9 ≤ S.2.2.1 ∧ 0 ≤ k9) (_ : PT pgf n9 S.2.2.2) (_ : 0 ≤ dl ∧ dl + n = 4) (_ : 6 * (L - S.2.2.1) + pw md < f), MIk l y wds rm G cy [.ref ard, .int (zI dl)] ws0 (WQ cy ws0 qr ard arc atk arl apg ain nm9 cs9 rt9 bm L k9 (pP bm L f md dl S))
abbrev rmF7 (n : Nat) : Room := { frames := 10 + 4 * n, cells := 0, slots := 0, locals := 300 + 100 * n }
abbrev rmT7 (n : Nat) : Room := { frames := 11 + 4 * n, cells := 0, slots := 0, locals := 330 + 100 * n }
abbrev rmS7 (n : Nat) : Room := { frames := 12 + 4 * n, cells := 0, slots := 0, locals := 360 + 100 * n }
theorem hd_X7_readFactor : yX7_readFactor.cls = RX7 ∧ yX7_readFactor.cls ≠ "java/lang/invoke/MethodHandle" ∧ yX7_readFactor.cls ≠ "java/lang/invoke/VarHandle" ∧ (parseMethodDescriptor yX7_readFactor.desc).map (fun d => d.parameters.length) = some 1 := by decide +kernel
theorem hd_X7_readTerm : yX7_readTerm.cls = RX7 ∧ yX7_readTerm.cls ≠ "java/lang/invoke/MethodHandle" ∧ yX7_readTerm.cls ≠ "java/lang/invoke/VarHandle" ∧ (parseMethodDescriptor yX7_readTerm.desc).map (fun d => d.parameters.length) = some 1 := by decide +kernel
theorem hd_X7_readSum : yX7_readSum.cls = RX7 ∧ yX7_readSum.cls ≠ "java/lang/invoke/MethodHandle" ∧ yX7_readSum.cls ≠ "java/lang/invoke/VarHandle" ∧ (parseMethodDescriptor yX7_readSum.desc).map (fun d => d.parameters.length) = some 1 := by decide +kernel
theorem hd_X7_readName : yX7_readName.cls = RX7 ∧ yX7_readName.cls ≠ "java/lang/invoke/MethodHandle" ∧ yX7_readName.cls ≠ "java/lang/invoke/VarHandle" ∧ (parseMethodDescriptor yX7_readName.desc).map (fun d => d.parameters.length) = some 0 := by decide +kernel
theorem fl_X7_readName_28 : Cond.fieldLink RX7 28 (TX7 3).1 (TX7 3).2.1 (TX7 3).2.2.1 ∈ wsX7_readName := List.mem_of_getElem? (i := 1) rfl
theorem inn_X7_readName_7 : ∀ w ∈ wsX70, w ∈ wsX7_readName := fun _ h => List.mem_cons_of_mem _ (List.mem_append_left _ (List.mem_append_right _ h))
abbrev rm_X7_readName : Room := { frames := 5, cells := 0, slots := 0, locals := 107 }
set_option maxHeartbeats 1200000 in
set_option maxRecDepth 100000 in
theorem k_X7_readName (l : Launch) {G : va_G} {cy : Nat → ClassId} {ws0 : va_W} {qr qi ard arc atk arl apg ain : Nat} {nm9 cs9 rt9 n9 : Int}{bu bm : Int → Int} {L : Int} {pgf : Int → Int} {k9 : Int} {S : PSt} (h_rd : ws0[qr]? = some (ard, .inr (7, [.int (zI S.1), .int (zI S.2.1), .ref arc, .ref atk, .int (zI nm9), .int (zI cs9), .ref arl, .int (zI rt9), .ref apg, .int (zI n9)]))) (h_tk : ws0[qr + 3]? = some (atk, .inr (9, [.int (zI (tkK bm L S.2.2.1)), .int (zI S.2.2.1), .int (zI (tkV bm L S.2.2.1)), .ref ain, .int (zI L), .int (zI (tkE bm L S.2.2.1))]))) (h_in : ws0[qi]? = some (ain, aB cy 600 bu)) (h_pg : ws0[qr + 6]? = some (apg, aI cy 600 pgf)) (htx : TXok bm) (hbm : ∀ i : Int, bu i = sg (bm i)) (hL : 0 ≤ L ∧ L ≤ 600) (hqi : qi < qr ∨ qr + 7 ≤ qi) (h0 : S.1 = 0) (hG : PG L S) (hpl : 0 ≤ n9 ∧ n9 + k9 ≤ S.2.2.1 ∧ 0 ≤ k9) (hPT : PT pgf n9 S.2.2.2) : MIk l yX7_readName wsX7_readName rm_X7_readName G cy [.ref ard] ws0 (WQ cy ws0 qr ard arc atk arl apg ain nm9 cs9 rt9 bm L k9 (pName bm L S)) := by
  refine MIk.of (own := RX7) (cc := cX7_readName) (nL := 2) (ret := (some .boolean)) (by decide) rfl rfl (Nat.le_of_ble_eq_true rfl) ?_
  intro p e s m below meth c A ls hX E h hl
  have hl : lv_has ls 2 [(0, .ref ard)] := hl
  have hE : Eqx ws0 ws0 (fun j => j = qr ∨ j = qr + 3 ∨ j = qr + 6) := Eqx.rf
  have hgp := (hG.2 h0).1
  have htr := tk_rng htx hgp.2
  refine r_aload_n E 0 hl rfl dX7_readName_0 ?_
  refine r_get (v := .ref atk) E h h_rd rfl inn_X7_readName_7 3 (by decide) fl_X7_readName_28 rfl dX7_readName_1 ?_
  refine r_ldcS E hX.1 (i := 0) (tx := "rule") (by decide +kernel) dX7_readName_4 ?_
  refine r_callVkI E hX h (As := [.ref (cy (100 + 0))]) (rest := []) (k_X9_isWord l 0 h_tk h_in htx hbm hL (by omega) (by decide)) h_tk rfl gX7_readName_X9_isWord rfl hd_X9_isWord (by decide) ⟨by decide, by decide⟩ hl.1 rfl (Nat.le_of_ble_eq_true rfl) dX7_readName_6 rfl (fun z_6 ws H locs hp h => ?_)
  obtain ⟨e_z_6, rfl⟩ := hp
  refine r_if_eq E 18 dX7_readName_9 (by decide) (by omega) (fun c_9 => ?_) (fun c_9 => ?_)
  · skip
    have w0 : isW bm L S.2.2.1 (ST 0) = false := by
      rcases e_z_6 with q | q
      · exact absurd q.1 (by omega)
      · exact q.2
    refine r_aload_n E 0 hl rfl dX7_readName_18 ?_
    refine r_get (v := .ref atk) E h h_rd rfl inn_X7_readName_7 3 (by decide) fl_X7_readName_28 rfl dX7_readName_19 ?_
    refine r_ldcS E hX.1 (i := 1) (tx := "largest") (by decide +kernel) dX7_readName_22 ?_
    refine r_callVkI E hX h (As := [.ref (cy (100 + 1))]) (rest := []) (k_X9_isWord l 1 h_tk h_in htx hbm hL (by omega) (by decide)) h_tk rfl gX7_readName_X9_isWord rfl hd_X9_isWord (by decide) ⟨by decide, by decide⟩ hl.1 rfl (Nat.le_of_ble_eq_true rfl) dX7_readName_24 rfl (fun z_24 ws H locs hp h => ?_)
    obtain ⟨e_z_24, rfl⟩ := hp
    refine r_if_eq E 36 dX7_readName_27 (by decide) (by omega) (fun c_27 => ?_) (fun c_27 => ?_)
    · skip
      have w1 : isW bm L S.2.2.1 (ST 1) = false := by
        rcases e_z_24 with q | q
        · exact absurd q.1 (by omega)
        · exact q.2
      refine r_aload_n E 0 hl rfl dX7_readName_36 ?_
      refine r_get (v := .ref atk) E h h_rd rfl inn_X7_readName_7 3 (by decide) fl_X7_readName_28 rfl dX7_readName_37 ?_
      refine r_ldcS E hX.1 (i := 2) (tx := "colour") (by decide +kernel) dX7_readName_40 ?_
      refine r_callVkI E hX h (As := [.ref (cy (100 + 2))]) (rest := []) (k_X9_isWord l 2 h_tk h_in htx hbm hL (by omega) (by decide)) h_tk rfl gX7_readName_X9_isWord rfl hd_X9_isWord (by decide) ⟨by decide, by decide⟩ hl.1 rfl (Nat.le_of_ble_eq_true rfl) dX7_readName_42 rfl (fun z_42 ws H locs hp h => ?_)
      obtain ⟨e_z_42, rfl⟩ := hp
      refine r_if_eq E 54 dX7_readName_45 (by decide) (by omega) (fun c_45 => ?_) (fun c_45 => ?_)
      · skip
        have w2 : isW bm L S.2.2.1 (ST 2) = false := by
          rcases e_z_42 with q | q
          · exact absurd q.1 (by omega)
          · exact q.2
        refine r_aload_n E 0 hl rfl dX7_readName_54 ?_
        refine r_bipush E dX7_readName_55 (by decide) ?_
        refine r_callVI E h (As := [.int (zI (-2))]) (rest := []) (k_X7_fail l (-2) h_rd h_tk) h_rd rfl gX7_readName_X7_fail rfl hd_X7_fail (by decide) ⟨by decide, by decide⟩ hl.1 rfl (Nat.le_of_ble_eq_true rfl) dX7_readName_57 rfl (fun z_57 ws H locs hp h => ?_)
        obtain ⟨rfl, h_rd, hf⟩ := hp
        have h_tk := hf.at h_tk (by first | omega | (dsimp only <;> omega))
        have h_in := hf.at h_in (by first | omega | (dsimp only <;> omega))
        have h_pg := hf.at h_pg (by first | omega | (dsimp only <;> omega))
        have hE := hE.tr (hf.wk (fun j hj => by first | omega | (dsimp only at hj ⊢ <;> omega)))
        exact r_zret E h (by omega) ⟨_, _, _, Or.inr ⟨rfl, by rw [pName_n w0 w1 w2]; show (-2 : Int) ≠ 0; decide⟩, by rw [pName_n w0 w1 w2]; exact h_rd, h_tk, h_pg, hE⟩ dX7_readName_60
      · skip
        have w2 : isW bm L S.2.2.1 (ST 2) = true := by
          rcases e_z_42 with q | q
          · exact q.2
          · exact absurd q.1 (by omega)
        refine r_bipush E dX7_readName_48 (by decide) ?_
        refine r_istore_n (lv' := [(1, .int (zI (-7))), (0, .ref ard)]) E hl dX7_readName_50 rfl (by decide) rfl (fun ls hl => ?_)
        refine r_goto E 61 dX7_readName_51 (by decide) ?_
        have he2 := tk_wE (i := 2) (by decide) hgp.2 w2
        have hle := isW_le (t := bm) (L := L) (p := S.2.2.1) (i := 2) (by decide) w2
        have hlr := lenST_rng 2 (by decide)
        have hsk := sk_rng (t := bm) (L := L) (p := S.2.2.1 + (lenST.getD 2 0 : Nat)) (isW_le (by decide) w2)
        refine r_aload_n E 1 hl rfl dX7_readName_61 ?_
        refine r_get (v := .ref atk) E h h_rd rfl inn_X7_readName_7 3 (by decide) fl_X7_readName_28 rfl dX7_readName_62 ?_
        refine r_callVV E h (As := []) (rest := []) (k_X9_advance l h_tk h_in htx hbm hL (by omega) (by omega)) h_tk rfl gX7_readName_X9_advance rfl hd_X9_advance (by decide) ⟨by decide, by decide⟩ hl.1 rfl (Nat.le_of_ble_eq_true rfl) dX7_readName_65 rfl (fun ws H locs hp h => ?_)
        obtain ⟨h_tk, hf⟩ := hp
        have h_rd := hf.at h_rd (by first | omega | (dsimp only <;> omega))
        have h_in := hf.at h_in (by first | omega | (dsimp only <;> omega))
        have h_pg := hf.at h_pg (by first | omega | (dsimp only <;> omega))
        have hE := hE.tr (hf.wk (fun j hj => by first | omega | (dsimp only at hj ⊢ <;> omega)))
        refine r_aload_n E 1 hl rfl dX7_readName_68 ?_
        refine r_iload_n E 0 hl rfl dX7_readName_69 ?_
        refine r_callVI E h (As := [.int (zI (-7))]) (rest := []) (k_X7_put l (-7) h_rd h_pg (by omega)) h_rd rfl gX7_readName_X7_put rfl hd_X7_put (by decide) ⟨by decide, by decide⟩ hl.1 rfl (Nat.le_of_ble_eq_true rfl) dX7_readName_70 rfl (fun z_70 ws H locs hp h => ?_)
        obtain ⟨rfl, h_rd, h_pg, hf⟩ := hp
        have h_tk := hf.at h_tk (by first | omega | (dsimp only <;> omega))
        have h_in := hf.at h_in (by first | omega | (dsimp only <;> omega))
        have hE := hE.tr (hf.wk (fun j hj => by first | omega | (dsimp only at hj ⊢ <;> omega)))
        exact r_zret E h (by omega) (by
  have hR : pName bm L S = (0, S.2.1, sk bm L (S.2.2.1 + (lenST.getD 2 0 : Nat)), emi (emi S.2.2.2 1) 2) := by
    rw [pName_2 w0 w1 w2]
    have e1 : pemit 1 (padv bm L 2 S) = (0, S.2.1, sk bm L (S.2.2.1 + (lenST.getD 2 0 : Nat)), emi S.2.2.2 1) := pemit_g h0
    rw [e1]
    exact pemit_g rfl
  rw [hR]
  rw [h0] at h_rd
  rw [he2] at h_tk
  exact ⟨_, _, _, Or.inl ⟨rfl, rfl, rfl, by show 0 ≤ n9 + 1 ∧ n9 + 1 + k9 ≤ sk bm L (S.2.2.1 + (lenST.getD 2 0 : Nat)); omega, PT.two hPT (Or.inr ⟨rfl, by decide, by decide⟩)⟩, h_rd, h_tk, h_pg, hE⟩) dX7_readName_73
    · skip
      have w1 : isW bm L S.2.2.1 (ST 1) = true := by
        rcases e_z_24 with q | q
        · exact q.2
        · exact absurd q.1 (by omega)
      refine r_bipush E dX7_readName_30 (by decide) ?_
      refine r_istore_n (lv' := [(1, .int (zI (-6))), (0, .ref ard)]) E hl dX7_readName_32 rfl (by decide) rfl (fun ls hl => ?_)
      refine r_goto E 61 dX7_readName_33 (by decide) ?_
      have he1 := tk_wE (i := 1) (by decide) hgp.2 w1
      have hle := isW_le (t := bm) (L := L) (p := S.2.2.1) (i := 1) (by decide) w1
      have hlr := lenST_rng 1 (by decide)
      have hsk := sk_rng (t := bm) (L := L) (p := S.2.2.1 + (lenST.getD 1 0 : Nat)) (isW_le (by decide) w1)
      refine r_aload_n E 1 hl rfl dX7_readName_61 ?_
      refine r_get (v := .ref atk) E h h_rd rfl inn_X7_readName_7 3 (by decide) fl_X7_readName_28 rfl dX7_readName_62 ?_
      refine r_callVV E h (As := []) (rest := []) (k_X9_advance l h_tk h_in htx hbm hL (by omega) (by omega)) h_tk rfl gX7_readName_X9_advance rfl hd_X9_advance (by decide) ⟨by decide, by decide⟩ hl.1 rfl (Nat.le_of_ble_eq_true rfl) dX7_readName_65 rfl (fun ws H locs hp h => ?_)
      obtain ⟨h_tk, hf⟩ := hp
      have h_rd := hf.at h_rd (by first | omega | (dsimp only <;> omega))
      have h_in := hf.at h_in (by first | omega | (dsimp only <;> omega))
      have h_pg := hf.at h_pg (by first | omega | (dsimp only <;> omega))
      have hE := hE.tr (hf.wk (fun j hj => by first | omega | (dsimp only at hj ⊢ <;> omega)))
      refine r_aload_n E 1 hl rfl dX7_readName_68 ?_
      refine r_iload_n E 0 hl rfl dX7_readName_69 ?_
      refine r_callVI E h (As := [.int (zI (-6))]) (rest := []) (k_X7_put l (-6) h_rd h_pg (by omega)) h_rd rfl gX7_readName_X7_put rfl hd_X7_put (by decide) ⟨by decide, by decide⟩ hl.1 rfl (Nat.le_of_ble_eq_true rfl) dX7_readName_70 rfl (fun z_70 ws H locs hp h => ?_)
      obtain ⟨rfl, h_rd, h_pg, hf⟩ := hp
      have h_tk := hf.at h_tk (by first | omega | (dsimp only <;> omega))
      have h_in := hf.at h_in (by first | omega | (dsimp only <;> omega))
      have hE := hE.tr (hf.wk (fun j hj => by first | omega | (dsimp only at hj ⊢ <;> omega)))
      exact r_zret E h (by omega) (by
  have hR : pName bm L S = (0, S.2.1, sk bm L (S.2.2.1 + (lenST.getD 1 0 : Nat)), emi (emi S.2.2.2 1) 1) := by
    rw [pName_1 w0 w1]
    have e1 : pemit 1 (padv bm L 1 S) = (0, S.2.1, sk bm L (S.2.2.1 + (lenST.getD 1 0 : Nat)), emi S.2.2.2 1) := pemit_g h0
    rw [e1]
    exact pemit_g rfl
  rw [hR]
  rw [h0] at h_rd
  rw [he1] at h_tk
  exact ⟨_, _, _, Or.inl ⟨rfl, rfl, rfl, by show 0 ≤ n9 + 1 ∧ n9 + 1 + k9 ≤ sk bm L (S.2.2.1 + (lenST.getD 1 0 : Nat)); omega, PT.two hPT (Or.inr ⟨rfl, by decide, by decide⟩)⟩, h_rd, h_tk, h_pg, hE⟩) dX7_readName_73
  · skip
    have w0 : isW bm L S.2.2.1 (ST 0) = true := by
      rcases e_z_6 with q | q
      · exact q.2
      · exact absurd q.1 (by omega)
    refine r_bipush E dX7_readName_12 (by decide) ?_
    refine r_istore_n (lv' := [(1, .int (zI (-5))), (0, .ref ard)]) E hl dX7_readName_14 rfl (by decide) rfl (fun ls hl => ?_)
    refine r_goto E 61 dX7_readName_15 (by decide) ?_
    have he0 := tk_wE (i := 0) (by decide) hgp.2 w0
    have hle := isW_le (t := bm) (L := L) (p := S.2.2.1) (i := 0) (by decide) w0
    have hlr := lenST_rng 0 (by decide)
    have hsk := sk_rng (t := bm) (L := L) (p := S.2.2.1 + (lenST.getD 0 0 : Nat)) (isW_le (by decide) w0)
    refine r_aload_n E 1 hl rfl dX7_readName_61 ?_
    refine r_get (v := .ref atk) E h h_rd rfl inn_X7_readName_7 3 (by decide) fl_X7_readName_28 rfl dX7_readName_62 ?_
    refine r_callVV E h (As := []) (rest := []) (k_X9_advance l h_tk h_in htx hbm hL (by omega) (by omega)) h_tk rfl gX7_readName_X9_advance rfl hd_X9_advance (by decide) ⟨by decide, by decide⟩ hl.1 rfl (Nat.le_of_ble_eq_true rfl) dX7_readName_65 rfl (fun ws H locs hp h => ?_)
    obtain ⟨h_tk, hf⟩ := hp
    have h_rd := hf.at h_rd (by first | omega | (dsimp only <;> omega))
    have h_in := hf.at h_in (by first | omega | (dsimp only <;> omega))
    have h_pg := hf.at h_pg (by first | omega | (dsimp only <;> omega))
    have hE := hE.tr (hf.wk (fun j hj => by first | omega | (dsimp only at hj ⊢ <;> omega)))
    refine r_aload_n E 1 hl rfl dX7_readName_68 ?_
    refine r_iload_n E 0 hl rfl dX7_readName_69 ?_
    refine r_callVI E h (As := [.int (zI (-5))]) (rest := []) (k_X7_put l (-5) h_rd h_pg (by omega)) h_rd rfl gX7_readName_X7_put rfl hd_X7_put (by decide) ⟨by decide, by decide⟩ hl.1 rfl (Nat.le_of_ble_eq_true rfl) dX7_readName_70 rfl (fun z_70 ws H locs hp h => ?_)
    obtain ⟨rfl, h_rd, h_pg, hf⟩ := hp
    have h_tk := hf.at h_tk (by first | omega | (dsimp only <;> omega))
    have h_in := hf.at h_in (by first | omega | (dsimp only <;> omega))
    have hE := hE.tr (hf.wk (fun j hj => by first | omega | (dsimp only at hj ⊢ <;> omega)))
    exact r_zret E h (by omega) (by
  have hR : pName bm L S = (0, S.2.1, sk bm L (S.2.2.1 + (lenST.getD 0 0 : Nat)), emi (emi S.2.2.2 1) 0) := by
    rw [pName_0 w0]
    have e1 : pemit 1 (padv bm L 0 S) = (0, S.2.1, sk bm L (S.2.2.1 + (lenST.getD 0 0 : Nat)), emi S.2.2.2 1) := pemit_g h0
    rw [e1]
    exact pemit_g rfl
  rw [hR]
  rw [h0] at h_rd
  rw [he0] at h_tk
  exact ⟨_, _, _, Or.inl ⟨rfl, rfl, rfl, by show 0 ≤ n9 + 1 ∧ n9 + 1 + k9 ≤ sk bm L (S.2.2.1 + (lenST.getD 0 0 : Nat)); omega, PT.two hPT (Or.inr ⟨rfl, by decide, by decide⟩)⟩, h_rd, h_tk, h_pg, hE⟩) dX7_readName_73
theorem fl_X7_readFactor_28 : Cond.fieldLink RX7 28 (TX7 3).1 (TX7 3).2.1 (TX7 3).2.2.1 ∈ wsX7_readFactor := List.mem_of_getElem? (i := 1) rfl
theorem inn_X7_readFactor_7 : ∀ w ∈ wsX70, w ∈ wsX7_readFactor := fun _ h => List.mem_cons_of_mem _ (List.mem_append_left _ (List.mem_append_right _ h))
theorem fl_X7_readFactor_65 : Cond.fieldLink RX7 65 (TX9 0).1 (TX9 0).2.1 (TX9 0).2.2.1 ∈ wsX7_readFactor := List.mem_of_getElem? (i := 2) rfl
theorem inn_X7_readFactor_9 : ∀ w ∈ wsX90, w ∈ wsX7_readFactor := fun _ h => List.mem_cons_of_mem _ (List.mem_append_right _ h)
set_option maxHeartbeats 1200000 in
set_option maxRecDepth 100000 in
theorem k_X7_readFactor (l : Launch) {G : va_G} {cy : Nat → ClassId} {ws0 : va_W} {qr qi ard arc atk arl apg ain : Nat} {nm9 cs9 rt9 n9 : Int}{bu bm : Int → Int} {L : Int} {pgf : Int → Int} {k9 : Int} {S : PSt} {f : Nat} {dl : Int} (n : Nat) (h_rd : ws0[qr]? = some (ard, .inr (7, [.int (zI S.1), .int (zI S.2.1), .ref arc, .ref atk, .int (zI nm9), .int (zI cs9), .ref arl, .int (zI rt9), .ref apg, .int (zI n9)]))) (h_tk : ws0[qr + 3]? = some (atk, .inr (9, [.int (zI (tkK bm L S.2.2.1)), .int (zI S.2.2.1), .int (zI (tkV bm L S.2.2.1)), .ref ain, .int (zI L), .int (zI (tkE bm L S.2.2.1))]))) (h_in : ws0[qi]? = some (ain, aB cy 600 bu)) (h_pg : ws0[qr + 6]? = some (apg, aI cy 600 pgf)) (hS : ∀ k : Nat, n = k + 1 → PCon7 l G cy yX7_readSum wsX7_readSum (rmS7 k) 3 k) (htx : TXok bm) (hbm : ∀ i : Int, bu i = sg (bm i)) (hL : 0 ≤ L ∧ L ≤ 600) (hqi : qi < qr ∨ qr + 7 ≤ qi) (h0 : S.1 = 0) (hG : PG L S) (hpl : 0 ≤ n9 ∧ n9 + k9 ≤ S.2.2.1 ∧ 0 ≤ k9) (hPT : PT pgf n9 S.2.2.2) (hdl : 0 ≤ dl ∧ dl + n = 4) (hF : 6 * (L - S.2.2.1) + 1 < f) : MIk l yX7_readFactor wsX7_readFactor (rmF7 n) G cy [.ref ard, .int (zI dl)] ws0 (WQ cy ws0 qr ard arc atk arl apg ain nm9 cs9 rt9 bm L k9 (pP bm L f 0 dl S)) := by
  refine MIk.of (own := RX7) (cc := cX7_readFactor) (nL := 3) (ret := (some .boolean)) (by decide) rfl rfl (Nat.le_of_ble_eq_true rfl) ?_
  intro p e s m below meth c A ls hX E h hl
  have hl : lv_has ls 3 [(0, .ref ard), (1, .int (zI dl))] := hl
  have hE : Eqx ws0 ws0 (fun j => j = qr ∨ j = qr + 3 ∨ j = qr + 6) := Eqx.rf
  have h0s := h0
  have hgp := (hG.2 h0).1
  have htr := tk_rng htx hgp.2
  obtain ⟨f9, rfl⟩ : ∃ k, f = k + 1 := ⟨f - 1, by omega⟩
  skip
  refine r_aload_n E 0 hl rfl dX7_readFactor_0 ?_
  refine r_get (v := .ref atk) E h h_rd rfl inn_X7_readFactor_7 3 (by decide) fl_X7_readFactor_28 rfl dX7_readFactor_1 ?_
  refine r_bipush E dX7_readFactor_4 (by decide) ?_
  refine r_callVI E h (As := [.int (zI 40)]) (rest := []) (k_X9_isSign l 40 h_tk htx (by omega) (by omega)) h_tk rfl gX7_readFactor_X9_isSign rfl hd_X9_isSign (by first | decide | (constructor <;> dsimp only <;> omega)) ⟨Nat.le_of_ble_eq_true rfl, Nat.le_of_ble_eq_true rfl⟩ hl.1 rfl (Nat.le_of_ble_eq_true rfl) dX7_readFactor_6 rfl (fun z_6 ws H locs hp h => ?_)
  obtain ⟨e_z_6, rfl⟩ := hp
  refine r_if_eq E 56 dX7_readFactor_9 (by decide) (by omega) (fun c_9 => ?_) (fun c_9 => ?_)
  · skip
    have hb40 : byA bm L S.2.2.1 ≠ 40 := by omega
    refine r_aload_n E 0 hl rfl dX7_readFactor_56 ?_
    refine r_get (v := .ref atk) E h h_rd rfl inn_X7_readFactor_7 3 (by decide) fl_X7_readFactor_28 rfl dX7_readFactor_57 ?_
    refine r_get (v := .int (zI (tkK bm L S.2.2.1))) E h h_tk rfl inn_X7_readFactor_9 0 (by decide) fl_X7_readFactor_65 rfl dX7_readFactor_60 ?_
    refine r_iconst E dX7_readFactor_63 ?_
    refine r_icmp_ne E 95 dX7_readFactor_64 (by decide) (by omega) (fun c_64 => ?_) (fun c_64 => ?_)
    · skip
      have hd9 : ¬ (48 ≤ byA bm L S.2.2.1 ∧ byA bm L S.2.2.1 ≤ 57) := fun q => c_64 (tk_1.mpr q)
      refine r_aload_n E 0 hl rfl dX7_readFactor_95 ?_
      refine r_callVkI E hX h (As := []) (rest := []) (k_X7_readName (S := S) (k9 := k9) l h_rd h_tk h_in h_pg htx hbm hL hqi h0 hG hpl hPT) h_rd rfl gX7_readFactor_X7_readName rfl hd_X7_readName (by first | decide | (constructor <;> dsimp only <;> omega)) ⟨Nat.le_of_ble_eq_true rfl, Nat.le_of_ble_eq_true rfl⟩ hl.1 rfl (Nat.le_of_ble_eq_true rfl) dX7_readFactor_96 rfl (fun z_96 ws H locs hp h => ?_)
      obtain ⟨p_96, n_96, g_96, e_96, h_rd, h_tk, h_pg, hf⟩ := hp
      have h_in := hf.at h_in (by first | omega | (dsimp only <;> omega))
      have hE := hE.tr (hf.wk (fun j hj => by first | omega | (dsimp only at hj ⊢ <;> omega)))
      exact r_zret E h (by omega) (by
  rw [pF_name h0 (by omega) hd9]
  exact ⟨p_96, n_96, g_96, e_96, h_rd, h_tk, h_pg, hE⟩) dX7_readFactor_99
    · skip
      have hd9 := tk_1.mp c_64
      have h0s := h0
      refine r_aload_n E 0 hl rfl dX7_readFactor_67 ?_
      refine r_iconst E dX7_readFactor_68 ?_
      refine r_sipush E dX7_readFactor_69 (by decide) ?_
      refine r_callVI E h (As := [.int (zI 0), .int (zI 9999)]) (rest := []) (k_X7_takeNumber (S := S) l 0 9999 h_rd h_tk h_in htx hbm hL hqi h0 hG (by omega)) h_rd rfl gX7_readFactor_X7_takeNumber rfl hd_X7_takeNumber (by first | decide | (constructor <;> dsimp only <;> omega)) ⟨Nat.le_of_ble_eq_true rfl, Nat.le_of_ble_eq_true rfl⟩ hl.1 rfl (Nat.le_of_ble_eq_true rfl) dX7_readFactor_72 rfl (fun z_72 ws H locs hp h => ?_)
      obtain ⟨p_72, e_72, h_rd, h_tk, hf⟩ := hp
      have h_in := hf.at h_in (by first | omega | (dsimp only <;> omega))
      have h_pg := hf.at h_pg (by first | omega | (dsimp only <;> omega))
      have hE := hE.tr (hf.wk (fun j hj => by first | omega | (dsimp only at hj ⊢ <;> omega)))
      refine r_istore_n (lv' := [(2, .int (zI z_72)), (0, .ref ard), (1, .int (zI dl))]) E hl dX7_readFactor_75 rfl (by decide) rfl (fun ls hl => ?_)
      refine r_iload_n E 0 hl rfl dX7_readFactor_76 ?_
      refine r_iconst E dX7_readFactor_77 ?_
      refine r_icmp_eq E 93 dX7_readFactor_78 (by decide) (by omega) (fun c_78 => ?_) (fun c_78 => ?_)
      · skip
        have hb : (pnum bm L 0 9999 S).1 ≠ 0 := by omega
        refine r_iconst E dX7_readFactor_93 ?_
        exact r_zret E h (by omega) ⟨_, _, _, Or.inr ⟨rfl, by rw [pF_dig h0s hd9, pemit_bad (by rw [pemit_bad hb]; exact hb), pemit_bad hb]; exact hb⟩, by rw [pF_dig h0s hd9, pemit_bad (by rw [pemit_bad hb]; exact hb), pemit_bad hb]; exact h_rd, h_tk, h_pg, hE⟩ dX7_readFactor_94
      · skip
        skip
        have h0 : (pnum bm L 0 9999 (S)).1 = 0 := by omega
        have ep_72 : p_72 = (pnum bm L 0 9999 (S)).2.2.1 := by omega
        rw [ep_72] at h_tk
        have hnp := (pnum_PL (t := bm) (lo := 0) (hi := 9999) hG).2 h0
        have hnp2 := ((pnum_PL (t := bm) (lo := 0) (hi := 9999) hG).1.2 h0).1
        have hzv : z_72 = pval bm L S := by omega
        have hPTv : PT (uZ pgf n9 z_72) (n9 + 1) (emi (emi S.2.2.2 0) (pval bm L S)) := PT.two hPT (Or.inl ⟨rfl, by omega, by omega⟩)
        refine r_aload_n E 1 hl rfl dX7_readFactor_81 ?_
        refine r_iload_n E 0 hl rfl dX7_readFactor_82 ?_
        refine r_callVI E h (As := [.int (zI z_72)]) (rest := []) (k_X7_put l z_72 h_rd h_pg (by omega)) h_rd rfl gX7_readFactor_X7_put rfl hd_X7_put (by first | decide | (constructor <;> dsimp only <;> omega)) ⟨Nat.le_of_ble_eq_true rfl, Nat.le_of_ble_eq_true rfl⟩ hl.1 rfl (Nat.le_of_ble_eq_true rfl) dX7_readFactor_83 rfl (fun z_83 ws H locs hp h => ?_)
        obtain ⟨rfl, h_rd, h_pg, hf⟩ := hp
        have h_tk := hf.at h_tk (by first | omega | (dsimp only <;> omega))
        have h_in := hf.at h_in (by first | omega | (dsimp only <;> omega))
        have hE := hE.tr (hf.wk (fun j hj => by first | omega | (dsimp only at hj ⊢ <;> omega)))
        refine r_if_eq E 93 dX7_readFactor_86 (by decide) (by omega) (fun c_86 => ?_) (fun c_86 => ?_)
        · skip
          exfalso; omega
        · skip
          refine r_iconst E dX7_readFactor_89 ?_
          refine r_goto E 94 dX7_readFactor_90 (by decide) ?_
          exact r_zret E h (by omega) (by
  have hR : pP bm L (f9 + 1) 0 dl S = (0, S.2.1, (pnum bm L 0 9999 S).2.2.1, emi (emi S.2.2.2 0) (pval bm L S)) := by
    have hrow := pnum_row (t := bm) (L := L) (lo := 0) (hi := 9999) (S := S)
    have hoff : (pnum bm L 0 9999 S).2.1 = S.2.1 := by rw [pnum_good h0s hd9 (pnum_ok h0).2]
    rw [pF_dig h0s hd9, pemit_g h0, pemit_g rfl]
    show (0, (pnum bm L 0 9999 S).2.1, (pnum bm L 0 9999 S).2.2.1, emi (emi (pnum bm L 0 9999 S).2.2.2 0) (pval bm L S)) = _
    rw [hrow, hoff]
  rw [hR]
  have hoff : (pnum bm L 0 9999 S).2.1 = S.2.1 := by rw [pnum_good h0s hd9 (pnum_ok h0).2]
  rw [h0, hoff] at h_rd
  exact ⟨_, _, _, Or.inl ⟨rfl, rfl, rfl, by show 0 ≤ n9 + 1 ∧ n9 + 1 + k9 ≤ (pnum bm L 0 9999 S).2.2.1; omega, hPTv⟩, h_rd, h_tk, h_pg, hE⟩) dX7_readFactor_94
  · skip
    have hb40 : byA bm L S.2.2.1 = 40 := by omega
    have hlt : S.2.2.1 < L := byA_in (t := bm) (by omega)
    refine r_iload_n E 1 hl rfl dX7_readFactor_12 ?_
    refine r_iconst E dX7_readFactor_13 ?_
    refine r_icmp_lt E 24 dX7_readFactor_14 (by decide) (by omega) (fun c_14 => ?_) (fun c_14 => ?_)
    · skip
      obtain ⟨n, rfl⟩ : ∃ k, n = k + 1 := ⟨n - 1, by omega⟩
      refine r_aload_n E 0 hl rfl dX7_readFactor_24 ?_
      refine r_get (v := .ref atk) E h h_rd rfl inn_X7_readFactor_7 3 (by decide) fl_X7_readFactor_28 rfl dX7_readFactor_25 ?_
      refine r_callVV E h (As := []) (rest := []) (k_X9_advance l h_tk h_in htx hbm hL (by omega) (by omega)) h_tk rfl gX7_readFactor_X9_advance rfl hd_X9_advance (by first | decide | (constructor <;> dsimp only <;> omega)) ⟨Nat.le_of_ble_eq_true rfl, Nat.le_of_ble_eq_true rfl⟩ hl.1 rfl (Nat.le_of_ble_eq_true rfl) dX7_readFactor_28 rfl (fun ws H locs hp h => ?_)
      obtain ⟨h_tk, hf⟩ := hp
      have h_rd := hf.at h_rd (by first | omega | (dsimp only <;> omega))
      have h_in := hf.at h_in (by first | omega | (dsimp only <;> omega))
      have h_pg := hf.at h_pg (by first | omega | (dsimp only <;> omega))
      have hE := hE.tr (hf.wk (fun j hj => by first | omega | (dsimp only at hj ⊢ <;> omega)))
      rw [tk_sE (Or.inl (by decide)) hb40] at h_tk
      have h_tk : ws[qr + 3]? = some (atk, .inr (9, [.int (zI (tkK bm L ((((0, S.2.1, sk bm L (S.2.2.1 + 1), S.2.2.2) : PSt)).2.2.1))), .int (zI ((((0, S.2.1, sk bm L (S.2.2.1 + 1), S.2.2.2) : PSt)).2.2.1)), .int (zI (tkV bm L ((((0, S.2.1, sk bm L (S.2.2.1 + 1), S.2.2.2) : PSt)).2.2.1))), .ref ain, .int (zI L), .int (zI (tkE bm L ((((0, S.2.1, sk bm L (S.2.2.1 + 1), S.2.2.2) : PSt)).2.2.1)))])) := h_tk
      rw [h0] at h_rd
      have h_rd : ws[qr]? = some (ard, .inr (7, [.int (zI ((((0, S.2.1, sk bm L (S.2.2.1 + 1), S.2.2.2) : PSt)).1)), .int (zI ((((0, S.2.1, sk bm L (S.2.2.1 + 1), S.2.2.2) : PSt)).2.1)), .ref arc, .ref atk, .int (zI nm9), .int (zI cs9), .ref arl, .int (zI rt9), .ref apg, .int (zI n9)])) := h_rd
      have hby := byte_PL (t := bm) hG h0 hb40 (by decide)
      have hb1 := hby.2 rfl
      have hs1 := pP_PL (t := bm) f9 3 (dl + 1) _ hby.1 (fun _ => by have h7 := hb1.2.1; dsimp only at h7; show 6 * (L - sk bm L (S.2.2.1 + 1)) + 5 < _; omega) (by decide)
      refine r_aload_n E 0 hl rfl dX7_readFactor_31 ?_
      refine r_iload_n E 1 hl rfl dX7_readFactor_32 ?_
      refine r_iconst E dX7_readFactor_33 ?_
      refine r_iadd E dX7_readFactor_34 ?_
      refine r_callVkI E hX h (As := [.int (zI (dl + 1))]) (rest := []) (hS n rfl (k9 := k9) (f := f9) h_rd h_tk h_in h_pg htx hbm hL hqi rfl hby.1 (by have h7 := hb1.2.1; dsimp only at h7 ⊢; omega) hPT (by omega) (by have h7 := hb1.2.1; dsimp only at h7; show 6 * (L - sk bm L (S.2.2.1 + 1)) + 5 < _; omega)) h_rd rfl gX7_readFactor_X7_readSum rfl hd_X7_readSum (by first | decide | (constructor <;> dsimp only <;> omega)) ⟨Nat.le_of_ble_eq_true rfl, Nat.le_of_ble_eq_true rfl⟩ hl.1 rfl (Nat.le_of_ble_eq_true rfl) dX7_readFactor_35 rfl (fun z_35 ws H locs hp h => ?_)
      obtain ⟨p_35, n_35, g_35, e_35, h_rd, h_tk, h_pg, hf⟩ := hp
      have h_in := hf.at h_in (by first | omega | (dsimp only <;> omega))
      have hE := hE.tr (hf.wk (fun j hj => by first | omega | (dsimp only at hj ⊢ <;> omega)))
      refine r_if_eq E 54 dX7_readFactor_38 (by decide) (by omega) (fun c_38 => ?_) (fun c_38 => ?_)
      · skip
        have hb : (pP bm L f9 3 (dl + 1) ((0, S.2.1, sk bm L (S.2.2.1 + 1), S.2.2.2) : PSt)).1 ≠ 0 := by
          rcases e_35 with q | q
          · exact absurd q.1 (by omega)
          · exact q.2
        refine r_iconst E dX7_readFactor_54 ?_
        exact r_zret E h (by omega) ⟨_, _, _, Or.inr ⟨rfl, by rw [pF_par h0s hb40 (by omega), pexp_bad hb]; exact hb⟩, by rw [pF_par h0s hb40 (by omega), pexp_bad hb]; exact h_rd, h_tk, h_pg, hE⟩ dX7_readFactor_55
      · skip
        obtain ⟨-, h0, ep_35, hn_35, hPT⟩ : z_35 = 1 ∧ (pP bm L f9 3 (dl + 1) ((0, S.2.1, sk bm L (S.2.2.1 + 1), S.2.2.2) : PSt)).1 = 0 ∧ p_35 = (pP bm L f9 3 (dl + 1) ((0, S.2.1, sk bm L (S.2.2.1 + 1), S.2.2.2) : PSt)).2.2.1 ∧ (0 ≤ n_35 ∧ n_35 + k9 ≤ p_35) ∧ PT g_35 n_35 (pP bm L f9 3 (dl + 1) ((0, S.2.1, sk bm L (S.2.2.1 + 1), S.2.2.2) : PSt)).2.2.2 := by
          rcases e_35 with q | q
          · exact q
          · exact absurd q.1 (by omega)
        clear e_35
        rw [ep_35] at h_tk
        have hG := hs1.1
        have hgp := (hG.2 h0).1
        have htr := tk_rng htx hgp.2
        refine r_aload_n E 0 hl rfl dX7_readFactor_41 ?_
        refine r_bipush E dX7_readFactor_42 (by decide) ?_
        refine r_callVI E h (As := [.int (zI 41)]) (rest := []) (k_X7_takeSign (S := pP bm L f9 3 (dl + 1) ((0, S.2.1, sk bm L (S.2.2.1 + 1), S.2.2.2) : PSt)) l 41 h_rd h_tk h_in htx hbm hL hqi h0 hG (by omega)) h_rd rfl gX7_readFactor_X7_takeSign rfl hd_X7_takeSign (by first | decide | (constructor <;> dsimp only <;> omega)) ⟨Nat.le_of_ble_eq_true rfl, Nat.le_of_ble_eq_true rfl⟩ hl.1 rfl (Nat.le_of_ble_eq_true rfl) dX7_readFactor_44 rfl (fun z_44 ws H locs hp h => ?_)
        obtain ⟨p_44, e_44, h_rd, h_tk, hf⟩ := hp
        have h_in := hf.at h_in (by first | omega | (dsimp only <;> omega))
        have h_pg := hf.at h_pg (by first | omega | (dsimp only <;> omega))
        have hE := hE.tr (hf.wk (fun j hj => by first | omega | (dsimp only at hj ⊢ <;> omega)))
        refine r_if_eq E 54 dX7_readFactor_47 (by decide) (by omega) (fun c_47 => ?_) (fun c_47 => ?_)
        · skip
          refine r_iconst E dX7_readFactor_54 ?_
          exact r_zret E h (by omega) ⟨_, _, _, Or.inr ⟨rfl, by rw [pF_par h0s hb40 (by omega)]; omega⟩, by rw [pF_par h0s hb40 (by omega)]; exact h_rd, h_tk, h_pg, hE⟩ dX7_readFactor_55
        · skip
          have h0 : (pexp bm L 41 (pP bm L f9 3 (dl + 1) ((0, S.2.1, sk bm L (S.2.2.1 + 1), S.2.2.2) : PSt))).1 = 0 := by omega
          have ep_44 : p_44 = (pexp bm L 41 (pP bm L f9 3 (dl + 1) ((0, S.2.1, sk bm L (S.2.2.1 + 1), S.2.2.2) : PSt))).2.2.1 := by omega
          rw [ep_44] at h_tk
          have hpe := (pexp_PL (t := bm) (c := 41) hs1.1 (by decide)).2 h0
          refine r_iconst E dX7_readFactor_50 ?_
          refine r_goto E 55 dX7_readFactor_51 (by decide) ?_
          exact r_zret E h (by omega) ⟨(pexp bm L 41 (pP bm L f9 3 (dl + 1) ((0, S.2.1, sk bm L (S.2.2.1 + 1), S.2.2.2) : PSt))).2.2.1, n_35, g_35, Or.inl ⟨rfl, by rw [pF_par h0s hb40 (by omega)]; exact h0, by rw [pF_par h0s hb40 (by omega)], by omega, by rw [pF_par h0s hb40 (by omega), (pexp_0 h0).2]; exact hPT⟩, by rw [pF_par h0s hb40 (by omega)]; exact h_rd, h_tk, h_pg, hE⟩ dX7_readFactor_55
    · skip
      refine r_aload_n E 0 hl rfl dX7_readFactor_17 ?_
      refine r_bipush E dX7_readFactor_18 (by decide) ?_
      refine r_callVI E h (As := [.int (zI (-5))]) (rest := []) (k_X7_fail l (-5) h_rd h_tk) h_rd rfl gX7_readFactor_X7_fail rfl hd_X7_fail (by first | decide | (constructor <;> dsimp only <;> omega)) ⟨Nat.le_of_ble_eq_true rfl, Nat.le_of_ble_eq_true rfl⟩ hl.1 rfl (Nat.le_of_ble_eq_true rfl) dX7_readFactor_20 rfl (fun z_20 ws H locs hp h => ?_)
      obtain ⟨rfl, h_rd, hf⟩ := hp
      have h_tk := hf.at h_tk (by first | omega | (dsimp only <;> omega))
      have h_in := hf.at h_in (by first | omega | (dsimp only <;> omega))
      have h_pg := hf.at h_pg (by first | omega | (dsimp only <;> omega))
      have hE := hE.tr (hf.wk (fun j hj => by first | omega | (dsimp only at hj ⊢ <;> omega)))
      exact r_zret E h (by omega) ⟨_, _, _, Or.inr ⟨rfl, by rw [pF_deep h0 hb40 (by omega)]; show (-5 : Int) ≠ 0; decide⟩, by rw [pF_deep h0 hb40 (by omega)]; exact h_rd, h_tk, h_pg, hE⟩ dX7_readFactor_23
theorem fl_X7_readTerm_28 : Cond.fieldLink RX7 28 (TX7 3).1 (TX7 3).2.1 (TX7 3).2.2.1 ∈ wsX7_readTerm := List.mem_of_getElem? (i := 1) rfl
theorem inn_X7_readTerm_7 : ∀ w ∈ wsX70, w ∈ wsX7_readTerm := fun _ h => List.mem_cons_of_mem _ (List.mem_append_left _ (List.mem_append_right _ h))
set_option maxHeartbeats 1200000 in
set_option maxRecDepth 100000 in
theorem k_X7_readTerm (l : Launch) {G : va_G} {cy : Nat → ClassId} {ws0 : va_W} {qr qi ard arc atk arl apg ain : Nat} {nm9 cs9 rt9 n9 : Int}{bu bm : Int → Int} {L : Int} {pgf : Int → Int} {k9 : Int} {S : PSt} {f : Nat} {dl : Int} (n : Nat) (h_rd : ws0[qr]? = some (ard, .inr (7, [.int (zI S.1), .int (zI S.2.1), .ref arc, .ref atk, .int (zI nm9), .int (zI cs9), .ref arl, .int (zI rt9), .ref apg, .int (zI n9)]))) (h_tk : ws0[qr + 3]? = some (atk, .inr (9, [.int (zI (tkK bm L S.2.2.1)), .int (zI S.2.2.1), .int (zI (tkV bm L S.2.2.1)), .ref ain, .int (zI L), .int (zI (tkE bm L S.2.2.1))]))) (h_in : ws0[qi]? = some (ain, aB cy 600 bu)) (h_pg : ws0[qr + 6]? = some (apg, aI cy 600 pgf)) (hS : PCon7 l G cy yX7_readFactor wsX7_readFactor (rmF7 n) 0 n) (htx : TXok bm) (hbm : ∀ i : Int, bu i = sg (bm i)) (hL : 0 ≤ L ∧ L ≤ 600) (hqi : qi < qr ∨ qr + 7 ≤ qi) (h0 : S.1 = 0) (hG : PG L S) (hpl : 0 ≤ n9 ∧ n9 + k9 ≤ S.2.2.1 ∧ 0 ≤ k9) (hPT : PT pgf n9 S.2.2.2) (hdl : 0 ≤ dl ∧ dl + n = 4) (hF : 6 * (L - S.2.2.1) + 3 < f) : MIk l yX7_readTerm wsX7_readTerm (rmT7 n) G cy [.ref ard, .int (zI dl)] ws0 (WQ cy ws0 qr ard arc atk arl apg ain nm9 cs9 rt9 bm L k9 (pP bm L f 1 dl S)) := by
  refine MIk.of (own := RX7) (cc := cX7_readTerm) (nL := 5) (ret := (some .boolean)) (by decide) rfl rfl (Nat.le_of_ble_eq_true rfl) ?_
  intro p e s m below meth c A ls hX E h hl
  have hl : lv_has ls 5 [(0, .ref ard), (1, .int (zI dl))] := hl
  have hE : Eqx ws0 ws0 (fun j => j = qr ∨ j = qr + 3 ∨ j = qr + 6) := Eqx.rf
  have hgp := (hG.2 h0).1
  skip
  obtain ⟨f9, hf8, hf9⟩ := pT_sp (t := bm) (L := L) (f := f) (dl := dl) (S := S)
  refine r_aload_n E 0 hl rfl dX7_readTerm_0 ?_
  refine r_iload_n E 1 hl rfl dX7_readTerm_1 ?_
  refine r_callVkI E hX h (As := [.int (zI dl)]) (rest := []) (hS (k9 := k9) (f := f9) h_rd h_tk h_in h_pg htx hbm hL hqi h0 hG hpl hPT hdl (by have := hf9; simp only [pw]; omega)) h_rd rfl gX7_readTerm_X7_readFactor rfl hd_X7_readFactor (by first | decide | (constructor <;> dsimp only <;> omega)) ⟨Nat.le_of_ble_eq_true rfl, Nat.le_of_ble_eq_true rfl⟩ hl.1 rfl (Nat.le_of_ble_eq_true rfl) dX7_readTerm_2 rfl (fun z_2 ws H locs hp h => ?_)
  obtain ⟨p_2, n_2, g_2, e_2, h_rd, h_tk, h_pg, hf⟩ := hp
  have h_in := hf.at h_in (by first | omega | (dsimp only <;> omega))
  have hE := hE.tr (hf.wk (fun j hj => by first | omega | (dsimp only at hj ⊢ <;> omega)))
  have hs1 := pP_PL (t := bm) f9 0 dl S hG (fun h0 => by have := hf9; show 6 * (L - S.2.2.1) + 1 < _; omega) (by decide)
  refine r_istore_n (lv' := [(2, .int (zI z_2)), (0, .ref ard), (1, .int (zI dl))]) E hl dX7_readTerm_5 rfl (by decide) rfl (fun ls hl => ?_)
  refine r_iconst E dX7_readTerm_6 ?_
  refine r_istore_n (lv' := [(3, .int (zI 0)), (2, .int (zI z_2)), (0, .ref ard), (1, .int (zI dl))]) E hl dX7_readTerm_7 rfl (by decide) rfl (fun ls hl => ?_)
  refine r_loop (fun n H locs ls => ∃ (ws : va_W) (f2 : Nat) (S2 : PSt) (x9 : Int) (i9 : Int) (n3 : Int) (p3 : Int) (g3 : Int → Int), n = ((f2 : Int)).toNat ∧ (x9 = 1 ∧ S2.1 = 0 ∧ p3 = S2.2.2.1 ∧ (0 ≤ n3 ∧ n3 + k9 ≤ p3) ∧ PT g3 n3 S2.2.2.2 ∨ x9 = 0 ∧ S2.1 ≠ 0) ∧ (PG L S2) ∧ (pP bm L f2 2 dl S2 = pP bm L f 1 dl S) ∧ (S2.1 = 0 → 6 * (L - S2.2.2.1) + 2 < f2) ∧ (0 ≤ i9 ∧ (S2.1 = 0 → i9 ≤ S2.2.2.1)) ∧ Hp G ws A s.heap H locs ∧ (ws[qr]? = some (ard, .inr (7, [.int (zI S2.1), .int (zI S2.2.1), .ref arc, .ref atk, .int (zI nm9), .int (zI cs9), .ref arl, .int (zI rt9), .ref apg, .int (zI n3)]))) ∧ (ws[qr + 3]? = some (atk, .inr (9, [.int (zI (tkK bm L p3)), .int (zI p3), .int (zI (tkV bm L p3)), .ref ain, .int (zI L), .int (zI (tkE bm L p3))]))) ∧ (ws[qi]? = some (ain, aB cy 600 bu)) ∧ (ws[qr + 6]? = some (apg, aI cy 600 g3)) ∧ Eqx ws0 ws (fun j => j = qr ∨ j = qr + 3 ∨ j = qr + 6) ∧ lv_has ls 5 [(0, .ref ard), (1, .int (zI dl)), (2, .int (zI x9)), (3, .int (zI i9))]) _ ⟨ws, f9, (pP bm L f9 0 dl S), z_2, 0, n_2, p_2, g_2, rfl, e_2, hs1.1, hf8.symm, (fun hh => by have h1 := hs1.2 hh; have h2 := h1.2.1; simp [pc] at h2; omega), ⟨by omega, fun hh => by have h1 := (hs1.1.2 hh).1; omega⟩, h, h_rd, h_tk, h_in, h_pg, hE, lv_sub hl [2, 3, 1, 0] rfl⟩ ?_
  rintro n H locs ls ⟨ws, f2, S2, x9, i9, n3, p3, g3, hn, hg, hG2, hfin, hf2, hi9, h, h_rd, h_tk, h_in, h_pg, hE, hl⟩ ih_8
  refine r_iload_n E 2 hl rfl dX7_readTerm_8 ?_
  refine r_if_eq E 100 dX7_readTerm_9 (by decide) (by omega) (fun c_9 => ?_) (fun c_9 => ?_)
  · skip
    have hb2 : S2.1 ≠ 0 := by
      rcases hg with q | q
      · exact absurd q.1 (by omega)
      · exact q.2
    refine r_iload_n E 2 hl rfl dX7_readTerm_100 ?_
    exact r_zret E h (by omega) (by
  rw [show pP bm L f 1 dl S = S2 from hfin.symm.trans (pP_bad _ _ _ _ hb2)]
  exact ⟨_, _, _, Or.inr ⟨by omega, hb2⟩, h_rd, h_tk, h_pg, hE⟩) dX7_readTerm_101
  · skip
    obtain ⟨hx9, h0, ep3, hn3, hPT⟩ : x9 = 1 ∧ S2.1 = 0 ∧ p3 = S2.2.2.1 ∧ (0 ≤ n3 ∧ n3 + k9 ≤ p3) ∧ PT g3 n3 S2.2.2.2 := by
      rcases hg with q | q
      · exact q
      · exact absurd q.1 (by omega)
    clear hg
    rw [ep3] at h_tk
    have hgp2 := (hG2.2 h0).1
    have htr := tk_rng htx hgp2.2
    have hF2 := hf2 h0
    obtain ⟨f8, rfl⟩ : ∃ k, f2 = k + 1 := ⟨f2 - 1, by omega⟩
    have h0s := h0
    refine r_aload_n E 0 hl rfl dX7_readTerm_12 ?_
    refine r_get (v := .ref atk) E h h_rd rfl inn_X7_readTerm_7 3 (by decide) fl_X7_readTerm_28 rfl dX7_readTerm_13 ?_
    refine r_bipush E dX7_readTerm_16 (by decide) ?_
    refine r_callVI E h (As := [.int (zI 42)]) (rest := []) (k_X9_isSign l 42 h_tk htx (by omega) (by omega)) h_tk rfl gX7_readTerm_X9_isSign rfl hd_X9_isSign (by first | decide | (constructor <;> dsimp only <;> omega)) ⟨Nat.le_of_ble_eq_true rfl, Nat.le_of_ble_eq_true rfl⟩ hl.1 rfl (Nat.le_of_ble_eq_true rfl) dX7_readTerm_18 rfl (fun z_18 ws H locs hp h => ?_)
    obtain ⟨e_z_18, rfl⟩ := hp
    refine r_if_ne E 36 dX7_readTerm_21 (by decide) (by omega) (fun c_21 => ?_) (fun c_21 => ?_)
    · skip
      have hbo : byA bm L S2.2.2.1 = 42 := by omega
      have hlt : S2.2.2.1 < L := byA_in (t := bm) (by omega)
      have hi8 := hi9.2 h0
      refine r_iload_n E 3 hl rfl dX7_readTerm_36 ?_
      refine r_sipush E dX7_readTerm_37 (by decide) ?_
      refine r_icmp_ge E 100 dX7_readTerm_40 (by decide) (by omega) (fun c_40 => ?_) (fun c_40 => ?_)
      · skip
        exfalso; omega
      · skip
        refine r_aload_n E 0 hl rfl dX7_readTerm_43 ?_
        refine r_get (v := .ref atk) E h h_rd rfl inn_X7_readTerm_7 3 (by decide) fl_X7_readTerm_28 rfl dX7_readTerm_44 ?_
        refine r_bipush E dX7_readTerm_47 (by decide) ?_
        refine r_callVI E h (As := [.int (zI 42)]) (rest := []) (k_X9_isSign l 42 h_tk htx (by omega) (by omega)) h_tk rfl gX7_readTerm_X9_isSign rfl hd_X9_isSign (by first | decide | (constructor <;> dsimp only <;> omega)) ⟨Nat.le_of_ble_eq_true rfl, Nat.le_of_ble_eq_true rfl⟩ hl.1 rfl (Nat.le_of_ble_eq_true rfl) dX7_readTerm_49 rfl (fun z_49 ws H locs hp h => ?_)
        obtain ⟨e_z_49, rfl⟩ := hp
        refine r_if_eq E 60 dX7_readTerm_52 (by decide) (by omega) (fun c_52 => ?_) (fun c_52 => ?_)
        · skip
          exfalso; omega
        · skip
          refine r_bipush E dX7_readTerm_55 (by decide) ?_
          refine r_goto E 62 dX7_readTerm_57 (by decide) ?_
          refine r_istore (lv' := [(4, .int (zI (-3))), (0, .ref ard), (1, .int (zI dl)), (2, .int (zI x9)), (3, .int (zI i9))]) E hl dX7_readTerm_62 (by decide) rfl (fun ls hl => ?_)
          refine r_aload_n E 1 hl rfl dX7_readTerm_64 ?_
          refine r_get (v := .ref atk) E h h_rd rfl inn_X7_readTerm_7 3 (by decide) fl_X7_readTerm_28 rfl dX7_readTerm_65 ?_
          refine r_callVV E h (As := []) (rest := []) (k_X9_advance l h_tk h_in htx hbm hL (by omega) (by omega)) h_tk rfl gX7_readTerm_X9_advance rfl hd_X9_advance (by first | decide | (constructor <;> dsimp only <;> omega)) ⟨Nat.le_of_ble_eq_true rfl, Nat.le_of_ble_eq_true rfl⟩ hl.1 rfl (Nat.le_of_ble_eq_true rfl) dX7_readTerm_68 rfl (fun ws H locs hp h => ?_)
          obtain ⟨h_tk, hf⟩ := hp
          have h_rd := hf.at h_rd (by first | omega | (dsimp only <;> omega))
          have h_in := hf.at h_in (by first | omega | (dsimp only <;> omega))
          have h_pg := hf.at h_pg (by first | omega | (dsimp only <;> omega))
          have hE := hE.tr (hf.wk (fun j hj => by first | omega | (dsimp only at hj ⊢ <;> omega)))
          rw [tk_sE (Or.inl (by decide)) hbo] at h_tk
          have h_tk : ws[qr + 3]? = some (atk, .inr (9, [.int (zI (tkK bm L ((((0, S2.2.1, sk bm L (S2.2.2.1 + 1), S2.2.2.2) : PSt)).2.2.1))), .int (zI ((((0, S2.2.1, sk bm L (S2.2.2.1 + 1), S2.2.2.2) : PSt)).2.2.1)), .int (zI (tkV bm L ((((0, S2.2.1, sk bm L (S2.2.2.1 + 1), S2.2.2.2) : PSt)).2.2.1))), .ref ain, .int (zI L), .int (zI (tkE bm L ((((0, S2.2.1, sk bm L (S2.2.2.1 + 1), S2.2.2.2) : PSt)).2.2.1)))])) := h_tk
          rw [h0] at h_rd
          have h_rd : ws[qr]? = some (ard, .inr (7, [.int (zI ((((0, S2.2.1, sk bm L (S2.2.2.1 + 1), S2.2.2.2) : PSt)).1)), .int (zI ((((0, S2.2.1, sk bm L (S2.2.2.1 + 1), S2.2.2.2) : PSt)).2.1)), .ref arc, .ref atk, .int (zI nm9), .int (zI cs9), .ref arl, .int (zI rt9), .ref apg, .int (zI n3)])) := h_rd
          have hby := byte_PL (t := bm) hG2 h0 hbo (by decide)
          have hb1 := hby.2 rfl
          have hb2 := hb1.2.1
          dsimp only at hb2
          have hs := pP_PL (t := bm) f8 0 dl _ hby.1 (fun _ => by show 6 * (L - sk bm L (S2.2.2.1 + 1)) + 1 < _; omega) (by decide)
          refine r_aload_n E 1 hl rfl dX7_readTerm_71 ?_
          refine r_iload_n E 2 hl rfl dX7_readTerm_72 ?_
          refine r_callVkI E hX h (As := [.int (zI dl)]) (rest := []) (hS (k9 := k9 + 1) (f := f8) h_rd h_tk h_in h_pg htx hbm hL hqi rfl hby.1 (by show 0 ≤ n3 ∧ n3 + (k9 + 1) ≤ sk bm L (S2.2.2.1 + 1) ∧ _; omega) hPT hdl (by show 6 * (L - sk bm L (S2.2.2.1 + 1)) + 1 < _; omega)) h_rd rfl gX7_readTerm_X7_readFactor rfl hd_X7_readFactor (by first | decide | (constructor <;> dsimp only <;> omega)) ⟨Nat.le_of_ble_eq_true rfl, Nat.le_of_ble_eq_true rfl⟩ hl.1 rfl (Nat.le_of_ble_eq_true rfl) dX7_readTerm_73 rfl (fun z_73 ws H locs hp h => ?_)
          obtain ⟨p_73, n_73, g_73, e_73, h_rd, h_tk, h_pg, hf⟩ := hp
          have h_in := hf.at h_in (by first | omega | (dsimp only <;> omega))
          have hE := hE.tr (hf.wk (fun j hj => by first | omega | (dsimp only at hj ⊢ <;> omega)))
          refine r_if_eq E 92 dX7_readTerm_76 (by decide) (by omega) (fun c_76 => ?_) (fun c_76 => ?_)
          · skip
            have hb : (pP bm L f8 0 dl ((0, S2.2.1, sk bm L (S2.2.2.1 + 1), S2.2.2.2) : PSt)).1 ≠ 0 := by
              rcases e_73 with q | q
              · exact absurd q.1 (by omega)
              · exact q.2
            have hem := pemit_bad (v := 4) hb
            have hP := (hby.tr hs).tr (pemit_PL hs.1 4)
            refine r_iconst E dX7_readTerm_92 ?_
            have h_rd : ws[qr]? = some (ard, .inr (7, [.int (zI ((pemit 4 (pP bm L f8 0 dl ((0, S2.2.1, sk bm L (S2.2.2.1 + 1), S2.2.2.2) : PSt))).1)), .int (zI ((pemit 4 (pP bm L f8 0 dl ((0, S2.2.1, sk bm L (S2.2.2.1 + 1), S2.2.2.2) : PSt))).2.1)), .ref arc, .ref atk, .int (zI nm9), .int (zI cs9), .ref arl, .int (zI rt9), .ref apg, .int (zI n_73)])) := by rw [hem]; exact h_rd
            refine r_istore_n (lv' := [(2, .int (zI 0)), (4, .int (zI (-3))), (0, .ref ard), (1, .int (zI dl)), (3, .int (zI i9))]) E hl dX7_readTerm_93 rfl (by decide) rfl (fun ls hl => ?_)
            refine r_iinc (lv' := [(3, .int (zI (i9 + 1))), (2, .int (zI 0)), (4, .int (zI (-3))), (0, .ref ard), (1, .int (zI dl))]) E 4 hl rfl dX7_readTerm_94 (by decide) rfl (fun ls hl => ?_)
            refine r_goto E 8 dX7_readTerm_97 (by decide) ?_
            exact ih_8 _ H locs ls (by omega) ⟨ws, f8, (pemit 4 (pP bm L f8 0 dl ((0, S2.2.1, sk bm L (S2.2.2.1 + 1), S2.2.2.2) : PSt))), 0, (i9 + 1), n_73, p_73, g_73, rfl, (Or.inr ⟨rfl, by rw [hem]; exact hb⟩), hP.1, (by rw [← hfin, pT_a h0s hbo]), (fun hh => by have h1 := (hP.2 hh).2.1; simp [pc] at h1; omega), ⟨by omega, fun hh => by have h1 := (hP.2 hh).2.1; simp [pc] at h1; omega⟩, h, h_rd, h_tk, h_in, h_pg, hE, lv_sub hl [3, 4, 1, 0] rfl⟩
          · skip
            obtain ⟨-, h0, ep_73, hn_73, hPT⟩ : z_73 = 1 ∧ (pP bm L f8 0 dl ((0, S2.2.1, sk bm L (S2.2.2.1 + 1), S2.2.2.2) : PSt)).1 = 0 ∧ p_73 = (pP bm L f8 0 dl ((0, S2.2.1, sk bm L (S2.2.2.1 + 1), S2.2.2.2) : PSt)).2.2.1 ∧ (0 ≤ n_73 ∧ n_73 + (k9 + 1) ≤ p_73) ∧ PT g_73 n_73 (pP bm L f8 0 dl ((0, S2.2.1, sk bm L (S2.2.2.1 + 1), S2.2.2.2) : PSt)).2.2.2 := by
              rcases e_73 with q | q
              · exact q
              · exact absurd q.1 (by omega)
            clear e_73
            rw [ep_73] at h_tk
            have hR3 := (hs.1.2 h0).1
            have hsq := (hs.2 h0).2.1
            have hem := pemit_g (v := 4) h0
            have hP := (hby.tr hs).tr (pemit_PL hs.1 4)
            have hPT2 : PT (uZ g_73 n_73 (-3)) (n_73 + 1) (emi (pP bm L f8 0 dl ((0, S2.2.1, sk bm L (S2.2.2.1 + 1), S2.2.2.2) : PSt)).2.2.2 4) := PT.one hPT ⟨by decide, by decide⟩
            refine r_aload_n E 1 hl rfl dX7_readTerm_79 ?_
            refine r_iload E 0 hl rfl dX7_readTerm_80 ?_
            refine r_callVI E h (As := [.int (zI (-3))]) (rest := []) (k_X7_put l (-3) h_rd h_pg (by omega)) h_rd rfl gX7_readTerm_X7_put rfl hd_X7_put (by first | decide | (constructor <;> dsimp only <;> omega)) ⟨Nat.le_of_ble_eq_true rfl, Nat.le_of_ble_eq_true rfl⟩ hl.1 rfl (Nat.le_of_ble_eq_true rfl) dX7_readTerm_82 rfl (fun z_82 ws H locs hp h => ?_)
            obtain ⟨rfl, h_rd, h_pg, hf⟩ := hp
            have h_tk := hf.at h_tk (by first | omega | (dsimp only <;> omega))
            have h_in := hf.at h_in (by first | omega | (dsimp only <;> omega))
            have hE := hE.tr (hf.wk (fun j hj => by first | omega | (dsimp only at hj ⊢ <;> omega)))
            refine r_if_eq E 92 dX7_readTerm_85 (by decide) (by omega) (fun c_85 => ?_) (fun c_85 => ?_)
            · skip
              exfalso; omega
            · skip
              refine r_iconst E dX7_readTerm_88 ?_
              refine r_goto E 93 dX7_readTerm_89 (by decide) ?_
              have h_rd : ws[qr]? = some (ard, .inr (7, [.int (zI ((pemit 4 (pP bm L f8 0 dl ((0, S2.2.1, sk bm L (S2.2.2.1 + 1), S2.2.2.2) : PSt))).1)), .int (zI ((pemit 4 (pP bm L f8 0 dl ((0, S2.2.1, sk bm L (S2.2.2.1 + 1), S2.2.2.2) : PSt))).2.1)), .ref arc, .ref atk, .int (zI nm9), .int (zI cs9), .ref arl, .int (zI rt9), .ref apg, .int (zI (n_73 + 1))])) := by rw [hem]; rw [h0] at h_rd; exact h_rd
              refine r_istore_n (lv' := [(2, .int (zI 1)), (4, .int (zI (-3))), (0, .ref ard), (1, .int (zI dl)), (3, .int (zI i9))]) E hl dX7_readTerm_93 rfl (by decide) rfl (fun ls hl => ?_)
              refine r_iinc (lv' := [(3, .int (zI (i9 + 1))), (2, .int (zI 1)), (4, .int (zI (-3))), (0, .ref ard), (1, .int (zI dl))]) E 4 hl rfl dX7_readTerm_94 (by decide) rfl (fun ls hl => ?_)
              refine r_goto E 8 dX7_readTerm_97 (by decide) ?_
              exact ih_8 _ H locs ls (by omega) ⟨ws, f8, (pemit 4 (pP bm L f8 0 dl ((0, S2.2.1, sk bm L (S2.2.2.1 + 1), S2.2.2.2) : PSt))), 1, (i9 + 1), (n_73 + 1), ((pP bm L f8 0 dl ((0, S2.2.1, sk bm L (S2.2.2.1 + 1), S2.2.2.2) : PSt)).2.2.1), (uZ g_73 n_73 (-3)), rfl, (Or.inl ⟨rfl, by rw [hem], by rw [hem], by omega, by rw [hem]; exact hPT2⟩), hP.1, (by rw [← hfin, pT_a h0s hbo]), (fun hh => by have h1 := (hP.2 hh).2.1; simp [pc] at h1; omega), ⟨by omega, fun hh => by have h1 := (hP.2 hh).2.1; simp [pc] at h1; omega⟩, h, h_rd, h_tk, h_in, h_pg, hE, lv_sub hl [3, 4, 1, 0] rfl⟩
    · skip
      refine r_aload_n E 0 hl rfl dX7_readTerm_24 ?_
      refine r_get (v := .ref atk) E h h_rd rfl inn_X7_readTerm_7 3 (by decide) fl_X7_readTerm_28 rfl dX7_readTerm_25 ?_
      refine r_bipush E dX7_readTerm_28 (by decide) ?_
      refine r_callVI E h (As := [.int (zI 47)]) (rest := []) (k_X9_isSign l 47 h_tk htx (by omega) (by omega)) h_tk rfl gX7_readTerm_X9_isSign rfl hd_X9_isSign (by first | decide | (constructor <;> dsimp only <;> omega)) ⟨Nat.le_of_ble_eq_true rfl, Nat.le_of_ble_eq_true rfl⟩ hl.1 rfl (Nat.le_of_ble_eq_true rfl) dX7_readTerm_30 rfl (fun z_30 ws H locs hp h => ?_)
      obtain ⟨e_z_30, rfl⟩ := hp
      refine r_if_eq E 100 dX7_readTerm_33 (by decide) (by omega) (fun c_33 => ?_) (fun c_33 => ?_)
      · skip
        refine r_iload_n E 2 hl rfl dX7_readTerm_100 ?_
        exact r_zret E h (by omega) (by
  rw [show pP bm L f 1 dl S = S2 from hfin.symm.trans (pT_n h0 (by omega) (by omega))]
  exact ⟨_, _, _, Or.inl ⟨by omega, h0, rfl, by omega, hPT⟩, h_rd, h_tk, h_pg, hE⟩) dX7_readTerm_101
      · skip
        skip
        have hbo : byA bm L S2.2.2.1 = 47 := by omega
        have hlt : S2.2.2.1 < L := byA_in (t := bm) (by omega)
        have hi8 := hi9.2 h0
        refine r_iload_n E 3 hl rfl dX7_readTerm_36 ?_
        refine r_sipush E dX7_readTerm_37 (by decide) ?_
        refine r_icmp_ge E 100 dX7_readTerm_40 (by decide) (by omega) (fun c_40 => ?_) (fun c_40 => ?_)
        · skip
          exfalso; omega
        · skip
          refine r_aload_n E 0 hl rfl dX7_readTerm_43 ?_
          refine r_get (v := .ref atk) E h h_rd rfl inn_X7_readTerm_7 3 (by decide) fl_X7_readTerm_28 rfl dX7_readTerm_44 ?_
          refine r_bipush E dX7_readTerm_47 (by decide) ?_
          refine r_callVI E h (As := [.int (zI 42)]) (rest := []) (k_X9_isSign l 42 h_tk htx (by omega) (by omega)) h_tk rfl gX7_readTerm_X9_isSign rfl hd_X9_isSign (by first | decide | (constructor <;> dsimp only <;> omega)) ⟨Nat.le_of_ble_eq_true rfl, Nat.le_of_ble_eq_true rfl⟩ hl.1 rfl (Nat.le_of_ble_eq_true rfl) dX7_readTerm_49 rfl (fun z_49 ws H locs hp h => ?_)
          obtain ⟨e_z_49, rfl⟩ := hp
          refine r_if_eq E 60 dX7_readTerm_52 (by decide) (by omega) (fun c_52 => ?_) (fun c_52 => ?_)
          · skip
            refine r_bipush E dX7_readTerm_60 (by decide) ?_
            refine r_istore (lv' := [(4, .int (zI (-4))), (0, .ref ard), (1, .int (zI dl)), (2, .int (zI x9)), (3, .int (zI i9))]) E hl dX7_readTerm_62 (by decide) rfl (fun ls hl => ?_)
            refine r_aload_n E 1 hl rfl dX7_readTerm_64 ?_
            refine r_get (v := .ref atk) E h h_rd rfl inn_X7_readTerm_7 3 (by decide) fl_X7_readTerm_28 rfl dX7_readTerm_65 ?_
            refine r_callVV E h (As := []) (rest := []) (k_X9_advance l h_tk h_in htx hbm hL (by omega) (by omega)) h_tk rfl gX7_readTerm_X9_advance rfl hd_X9_advance (by first | decide | (constructor <;> dsimp only <;> omega)) ⟨Nat.le_of_ble_eq_true rfl, Nat.le_of_ble_eq_true rfl⟩ hl.1 rfl (Nat.le_of_ble_eq_true rfl) dX7_readTerm_68 rfl (fun ws H locs hp h => ?_)
            obtain ⟨h_tk, hf⟩ := hp
            have h_rd := hf.at h_rd (by first | omega | (dsimp only <;> omega))
            have h_in := hf.at h_in (by first | omega | (dsimp only <;> omega))
            have h_pg := hf.at h_pg (by first | omega | (dsimp only <;> omega))
            have hE := hE.tr (hf.wk (fun j hj => by first | omega | (dsimp only at hj ⊢ <;> omega)))
            rw [tk_sE (Or.inl (by decide)) hbo] at h_tk
            have h_tk : ws[qr + 3]? = some (atk, .inr (9, [.int (zI (tkK bm L ((((0, S2.2.1, sk bm L (S2.2.2.1 + 1), S2.2.2.2) : PSt)).2.2.1))), .int (zI ((((0, S2.2.1, sk bm L (S2.2.2.1 + 1), S2.2.2.2) : PSt)).2.2.1)), .int (zI (tkV bm L ((((0, S2.2.1, sk bm L (S2.2.2.1 + 1), S2.2.2.2) : PSt)).2.2.1))), .ref ain, .int (zI L), .int (zI (tkE bm L ((((0, S2.2.1, sk bm L (S2.2.2.1 + 1), S2.2.2.2) : PSt)).2.2.1)))])) := h_tk
            rw [h0] at h_rd
            have h_rd : ws[qr]? = some (ard, .inr (7, [.int (zI ((((0, S2.2.1, sk bm L (S2.2.2.1 + 1), S2.2.2.2) : PSt)).1)), .int (zI ((((0, S2.2.1, sk bm L (S2.2.2.1 + 1), S2.2.2.2) : PSt)).2.1)), .ref arc, .ref atk, .int (zI nm9), .int (zI cs9), .ref arl, .int (zI rt9), .ref apg, .int (zI n3)])) := h_rd
            have hby := byte_PL (t := bm) hG2 h0 hbo (by decide)
            have hb1 := hby.2 rfl
            have hb2 := hb1.2.1
            dsimp only at hb2
            have hs := pP_PL (t := bm) f8 0 dl _ hby.1 (fun _ => by show 6 * (L - sk bm L (S2.2.2.1 + 1)) + 1 < _; omega) (by decide)
            refine r_aload_n E 1 hl rfl dX7_readTerm_71 ?_
            refine r_iload_n E 2 hl rfl dX7_readTerm_72 ?_
            refine r_callVkI E hX h (As := [.int (zI dl)]) (rest := []) (hS (k9 := k9 + 1) (f := f8) h_rd h_tk h_in h_pg htx hbm hL hqi rfl hby.1 (by show 0 ≤ n3 ∧ n3 + (k9 + 1) ≤ sk bm L (S2.2.2.1 + 1) ∧ _; omega) hPT hdl (by show 6 * (L - sk bm L (S2.2.2.1 + 1)) + 1 < _; omega)) h_rd rfl gX7_readTerm_X7_readFactor rfl hd_X7_readFactor (by first | decide | (constructor <;> dsimp only <;> omega)) ⟨Nat.le_of_ble_eq_true rfl, Nat.le_of_ble_eq_true rfl⟩ hl.1 rfl (Nat.le_of_ble_eq_true rfl) dX7_readTerm_73 rfl (fun z_73 ws H locs hp h => ?_)
            obtain ⟨p_73, n_73, g_73, e_73, h_rd, h_tk, h_pg, hf⟩ := hp
            have h_in := hf.at h_in (by first | omega | (dsimp only <;> omega))
            have hE := hE.tr (hf.wk (fun j hj => by first | omega | (dsimp only at hj ⊢ <;> omega)))
            refine r_if_eq E 92 dX7_readTerm_76 (by decide) (by omega) (fun c_76 => ?_) (fun c_76 => ?_)
            · skip
              have hb : (pP bm L f8 0 dl ((0, S2.2.1, sk bm L (S2.2.2.1 + 1), S2.2.2.2) : PSt)).1 ≠ 0 := by
                rcases e_73 with q | q
                · exact absurd q.1 (by omega)
                · exact q.2
              have hem := pemit_bad (v := 5) hb
              have hP := (hby.tr hs).tr (pemit_PL hs.1 5)
              refine r_iconst E dX7_readTerm_92 ?_
              have h_rd : ws[qr]? = some (ard, .inr (7, [.int (zI ((pemit 5 (pP bm L f8 0 dl ((0, S2.2.1, sk bm L (S2.2.2.1 + 1), S2.2.2.2) : PSt))).1)), .int (zI ((pemit 5 (pP bm L f8 0 dl ((0, S2.2.1, sk bm L (S2.2.2.1 + 1), S2.2.2.2) : PSt))).2.1)), .ref arc, .ref atk, .int (zI nm9), .int (zI cs9), .ref arl, .int (zI rt9), .ref apg, .int (zI n_73)])) := by rw [hem]; exact h_rd
              refine r_istore_n (lv' := [(2, .int (zI 0)), (4, .int (zI (-4))), (0, .ref ard), (1, .int (zI dl)), (3, .int (zI i9))]) E hl dX7_readTerm_93 rfl (by decide) rfl (fun ls hl => ?_)
              refine r_iinc (lv' := [(3, .int (zI (i9 + 1))), (2, .int (zI 0)), (4, .int (zI (-4))), (0, .ref ard), (1, .int (zI dl))]) E 4 hl rfl dX7_readTerm_94 (by decide) rfl (fun ls hl => ?_)
              refine r_goto E 8 dX7_readTerm_97 (by decide) ?_
              exact ih_8 _ H locs ls (by omega) ⟨ws, f8, (pemit 5 (pP bm L f8 0 dl ((0, S2.2.1, sk bm L (S2.2.2.1 + 1), S2.2.2.2) : PSt))), 0, (i9 + 1), n_73, p_73, g_73, rfl, (Or.inr ⟨rfl, by rw [hem]; exact hb⟩), hP.1, (by rw [← hfin, pT_b h0s hbo]), (fun hh => by have h1 := (hP.2 hh).2.1; simp [pc] at h1; omega), ⟨by omega, fun hh => by have h1 := (hP.2 hh).2.1; simp [pc] at h1; omega⟩, h, h_rd, h_tk, h_in, h_pg, hE, lv_sub hl [3, 4, 1, 0] rfl⟩
            · skip
              obtain ⟨-, h0, ep_73, hn_73, hPT⟩ : z_73 = 1 ∧ (pP bm L f8 0 dl ((0, S2.2.1, sk bm L (S2.2.2.1 + 1), S2.2.2.2) : PSt)).1 = 0 ∧ p_73 = (pP bm L f8 0 dl ((0, S2.2.1, sk bm L (S2.2.2.1 + 1), S2.2.2.2) : PSt)).2.2.1 ∧ (0 ≤ n_73 ∧ n_73 + (k9 + 1) ≤ p_73) ∧ PT g_73 n_73 (pP bm L f8 0 dl ((0, S2.2.1, sk bm L (S2.2.2.1 + 1), S2.2.2.2) : PSt)).2.2.2 := by
                rcases e_73 with q | q
                · exact q
                · exact absurd q.1 (by omega)
              clear e_73
              rw [ep_73] at h_tk
              have hR3 := (hs.1.2 h0).1
              have hsq := (hs.2 h0).2.1
              have hem := pemit_g (v := 5) h0
              have hP := (hby.tr hs).tr (pemit_PL hs.1 5)
              have hPT2 : PT (uZ g_73 n_73 (-4)) (n_73 + 1) (emi (pP bm L f8 0 dl ((0, S2.2.1, sk bm L (S2.2.2.1 + 1), S2.2.2.2) : PSt)).2.2.2 5) := PT.one hPT ⟨by decide, by decide⟩
              refine r_aload_n E 1 hl rfl dX7_readTerm_79 ?_
              refine r_iload E 0 hl rfl dX7_readTerm_80 ?_
              refine r_callVI E h (As := [.int (zI (-4))]) (rest := []) (k_X7_put l (-4) h_rd h_pg (by omega)) h_rd rfl gX7_readTerm_X7_put rfl hd_X7_put (by first | decide | (constructor <;> dsimp only <;> omega)) ⟨Nat.le_of_ble_eq_true rfl, Nat.le_of_ble_eq_true rfl⟩ hl.1 rfl (Nat.le_of_ble_eq_true rfl) dX7_readTerm_82 rfl (fun z_82 ws H locs hp h => ?_)
              obtain ⟨rfl, h_rd, h_pg, hf⟩ := hp
              have h_tk := hf.at h_tk (by first | omega | (dsimp only <;> omega))
              have h_in := hf.at h_in (by first | omega | (dsimp only <;> omega))
              have hE := hE.tr (hf.wk (fun j hj => by first | omega | (dsimp only at hj ⊢ <;> omega)))
              refine r_if_eq E 92 dX7_readTerm_85 (by decide) (by omega) (fun c_85 => ?_) (fun c_85 => ?_)
              · skip
                exfalso; omega
              · skip
                refine r_iconst E dX7_readTerm_88 ?_
                refine r_goto E 93 dX7_readTerm_89 (by decide) ?_
                have h_rd : ws[qr]? = some (ard, .inr (7, [.int (zI ((pemit 5 (pP bm L f8 0 dl ((0, S2.2.1, sk bm L (S2.2.2.1 + 1), S2.2.2.2) : PSt))).1)), .int (zI ((pemit 5 (pP bm L f8 0 dl ((0, S2.2.1, sk bm L (S2.2.2.1 + 1), S2.2.2.2) : PSt))).2.1)), .ref arc, .ref atk, .int (zI nm9), .int (zI cs9), .ref arl, .int (zI rt9), .ref apg, .int (zI (n_73 + 1))])) := by rw [hem]; rw [h0] at h_rd; exact h_rd
                refine r_istore_n (lv' := [(2, .int (zI 1)), (4, .int (zI (-4))), (0, .ref ard), (1, .int (zI dl)), (3, .int (zI i9))]) E hl dX7_readTerm_93 rfl (by decide) rfl (fun ls hl => ?_)
                refine r_iinc (lv' := [(3, .int (zI (i9 + 1))), (2, .int (zI 1)), (4, .int (zI (-4))), (0, .ref ard), (1, .int (zI dl))]) E 4 hl rfl dX7_readTerm_94 (by decide) rfl (fun ls hl => ?_)
                refine r_goto E 8 dX7_readTerm_97 (by decide) ?_
                exact ih_8 _ H locs ls (by omega) ⟨ws, f8, (pemit 5 (pP bm L f8 0 dl ((0, S2.2.1, sk bm L (S2.2.2.1 + 1), S2.2.2.2) : PSt))), 1, (i9 + 1), (n_73 + 1), ((pP bm L f8 0 dl ((0, S2.2.1, sk bm L (S2.2.2.1 + 1), S2.2.2.2) : PSt)).2.2.1), (uZ g_73 n_73 (-4)), rfl, (Or.inl ⟨rfl, by rw [hem], by rw [hem], by omega, by rw [hem]; exact hPT2⟩), hP.1, (by rw [← hfin, pT_b h0s hbo]), (fun hh => by have h1 := (hP.2 hh).2.1; simp [pc] at h1; omega), ⟨by omega, fun hh => by have h1 := (hP.2 hh).2.1; simp [pc] at h1; omega⟩, h, h_rd, h_tk, h_in, h_pg, hE, lv_sub hl [3, 4, 1, 0] rfl⟩
          · skip
            exfalso; omega
theorem fl_X7_readSum_28 : Cond.fieldLink RX7 28 (TX7 3).1 (TX7 3).2.1 (TX7 3).2.2.1 ∈ wsX7_readSum := List.mem_of_getElem? (i := 1) rfl
theorem inn_X7_readSum_7 : ∀ w ∈ wsX70, w ∈ wsX7_readSum := fun _ h => List.mem_cons_of_mem _ (List.mem_append_left _ (List.mem_append_right _ h))
set_option maxHeartbeats 1200000 in
set_option maxRecDepth 100000 in
theorem k_X7_readSum (l : Launch) {G : va_G} {cy : Nat → ClassId} {ws0 : va_W} {qr qi ard arc atk arl apg ain : Nat} {nm9 cs9 rt9 n9 : Int}{bu bm : Int → Int} {L : Int} {pgf : Int → Int} {k9 : Int} {S : PSt} {f : Nat} {dl : Int} (n : Nat) (h_rd : ws0[qr]? = some (ard, .inr (7, [.int (zI S.1), .int (zI S.2.1), .ref arc, .ref atk, .int (zI nm9), .int (zI cs9), .ref arl, .int (zI rt9), .ref apg, .int (zI n9)]))) (h_tk : ws0[qr + 3]? = some (atk, .inr (9, [.int (zI (tkK bm L S.2.2.1)), .int (zI S.2.2.1), .int (zI (tkV bm L S.2.2.1)), .ref ain, .int (zI L), .int (zI (tkE bm L S.2.2.1))]))) (h_in : ws0[qi]? = some (ain, aB cy 600 bu)) (h_pg : ws0[qr + 6]? = some (apg, aI cy 600 pgf)) (hS : PCon7 l G cy yX7_readTerm wsX7_readTerm (rmT7 n) 1 n) (htx : TXok bm) (hbm : ∀ i : Int, bu i = sg (bm i)) (hL : 0 ≤ L ∧ L ≤ 600) (hqi : qi < qr ∨ qr + 7 ≤ qi) (h0 : S.1 = 0) (hG : PG L S) (hpl : 0 ≤ n9 ∧ n9 + k9 ≤ S.2.2.1 ∧ 0 ≤ k9) (hPT : PT pgf n9 S.2.2.2) (hdl : 0 ≤ dl ∧ dl + n = 4) (hF : 6 * (L - S.2.2.1) + 5 < f) : MIk l yX7_readSum wsX7_readSum (rmS7 n) G cy [.ref ard, .int (zI dl)] ws0 (WQ cy ws0 qr ard arc atk arl apg ain nm9 cs9 rt9 bm L k9 (pP bm L f 3 dl S)) := by
  refine MIk.of (own := RX7) (cc := cX7_readSum) (nL := 5) (ret := (some .boolean)) (by decide) rfl rfl (Nat.le_of_ble_eq_true rfl) ?_
  intro p e s m below meth c A ls hX E h hl
  have hl : lv_has ls 5 [(0, .ref ard), (1, .int (zI dl))] := hl
  have hE : Eqx ws0 ws0 (fun j => j = qr ∨ j = qr + 3 ∨ j = qr + 6) := Eqx.rf
  have hgp := (hG.2 h0).1
  skip
  obtain ⟨f9, hf8, hf9⟩ := pS_sp (t := bm) (L := L) (f := f) (dl := dl) (S := S)
  refine r_aload_n E 0 hl rfl dX7_readSum_0 ?_
  refine r_iload_n E 1 hl rfl dX7_readSum_1 ?_
  refine r_callVkI E hX h (As := [.int (zI dl)]) (rest := []) (hS (k9 := k9) (f := f9) h_rd h_tk h_in h_pg htx hbm hL hqi h0 hG hpl hPT hdl (by have := hf9; simp only [pw]; omega)) h_rd rfl gX7_readSum_X7_readTerm rfl hd_X7_readTerm (by first | decide | (constructor <;> dsimp only <;> omega)) ⟨Nat.le_of_ble_eq_true rfl, Nat.le_of_ble_eq_true rfl⟩ hl.1 rfl (Nat.le_of_ble_eq_true rfl) dX7_readSum_2 rfl (fun z_2 ws H locs hp h => ?_)
  obtain ⟨p_2, n_2, g_2, e_2, h_rd, h_tk, h_pg, hf⟩ := hp
  have h_in := hf.at h_in (by first | omega | (dsimp only <;> omega))
  have hE := hE.tr (hf.wk (fun j hj => by first | omega | (dsimp only at hj ⊢ <;> omega)))
  have hs1 := pP_PL (t := bm) f9 1 dl S hG (fun h0 => by have := hf9; show 6 * (L - S.2.2.1) + 3 < _; omega) (by decide)
  refine r_istore_n (lv' := [(2, .int (zI z_2)), (0, .ref ard), (1, .int (zI dl))]) E hl dX7_readSum_5 rfl (by decide) rfl (fun ls hl => ?_)
  refine r_iconst E dX7_readSum_6 ?_
  refine r_istore_n (lv' := [(3, .int (zI 0)), (2, .int (zI z_2)), (0, .ref ard), (1, .int (zI dl))]) E hl dX7_readSum_7 rfl (by decide) rfl (fun ls hl => ?_)
  refine r_loop (fun n H locs ls => ∃ (ws : va_W) (f2 : Nat) (S2 : PSt) (x9 : Int) (i9 : Int) (n3 : Int) (p3 : Int) (g3 : Int → Int), n = ((f2 : Int)).toNat ∧ (x9 = 1 ∧ S2.1 = 0 ∧ p3 = S2.2.2.1 ∧ (0 ≤ n3 ∧ n3 + k9 ≤ p3) ∧ PT g3 n3 S2.2.2.2 ∨ x9 = 0 ∧ S2.1 ≠ 0) ∧ (PG L S2) ∧ (pP bm L f2 4 dl S2 = pP bm L f 3 dl S) ∧ (S2.1 = 0 → 6 * (L - S2.2.2.1) + 4 < f2) ∧ (0 ≤ i9 ∧ (S2.1 = 0 → i9 ≤ S2.2.2.1)) ∧ Hp G ws A s.heap H locs ∧ (ws[qr]? = some (ard, .inr (7, [.int (zI S2.1), .int (zI S2.2.1), .ref arc, .ref atk, .int (zI nm9), .int (zI cs9), .ref arl, .int (zI rt9), .ref apg, .int (zI n3)]))) ∧ (ws[qr + 3]? = some (atk, .inr (9, [.int (zI (tkK bm L p3)), .int (zI p3), .int (zI (tkV bm L p3)), .ref ain, .int (zI L), .int (zI (tkE bm L p3))]))) ∧ (ws[qi]? = some (ain, aB cy 600 bu)) ∧ (ws[qr + 6]? = some (apg, aI cy 600 g3)) ∧ Eqx ws0 ws (fun j => j = qr ∨ j = qr + 3 ∨ j = qr + 6) ∧ lv_has ls 5 [(0, .ref ard), (1, .int (zI dl)), (2, .int (zI x9)), (3, .int (zI i9))]) _ ⟨ws, f9, (pP bm L f9 1 dl S), z_2, 0, n_2, p_2, g_2, rfl, e_2, hs1.1, hf8.symm, (fun hh => by have h1 := hs1.2 hh; have h2 := h1.2.1; simp [pc] at h2; omega), ⟨by omega, fun hh => by have h1 := (hs1.1.2 hh).1; omega⟩, h, h_rd, h_tk, h_in, h_pg, hE, lv_sub hl [2, 3, 1, 0] rfl⟩ ?_
  rintro n H locs ls ⟨ws, f2, S2, x9, i9, n3, p3, g3, hn, hg, hG2, hfin, hf2, hi9, h, h_rd, h_tk, h_in, h_pg, hE, hl⟩ ih_8
  refine r_iload_n E 2 hl rfl dX7_readSum_8 ?_
  refine r_if_eq E 99 dX7_readSum_9 (by decide) (by omega) (fun c_9 => ?_) (fun c_9 => ?_)
  · skip
    have hb2 : S2.1 ≠ 0 := by
      rcases hg with q | q
      · exact absurd q.1 (by omega)
      · exact q.2
    refine r_iload_n E 2 hl rfl dX7_readSum_99 ?_
    exact r_zret E h (by omega) (by
  rw [show pP bm L f 3 dl S = S2 from hfin.symm.trans (pP_bad _ _ _ _ hb2)]
  exact ⟨_, _, _, Or.inr ⟨by omega, hb2⟩, h_rd, h_tk, h_pg, hE⟩) dX7_readSum_100
  · skip
    obtain ⟨hx9, h0, ep3, hn3, hPT⟩ : x9 = 1 ∧ S2.1 = 0 ∧ p3 = S2.2.2.1 ∧ (0 ≤ n3 ∧ n3 + k9 ≤ p3) ∧ PT g3 n3 S2.2.2.2 := by
      rcases hg with q | q
      · exact q
      · exact absurd q.1 (by omega)
    clear hg
    rw [ep3] at h_tk
    have hgp2 := (hG2.2 h0).1
    have htr := tk_rng htx hgp2.2
    have hF2 := hf2 h0
    obtain ⟨f8, rfl⟩ : ∃ k, f2 = k + 1 := ⟨f2 - 1, by omega⟩
    have h0s := h0
    refine r_aload_n E 0 hl rfl dX7_readSum_12 ?_
    refine r_get (v := .ref atk) E h h_rd rfl inn_X7_readSum_7 3 (by decide) fl_X7_readSum_28 rfl dX7_readSum_13 ?_
    refine r_bipush E dX7_readSum_16 (by decide) ?_
    refine r_callVI E h (As := [.int (zI 43)]) (rest := []) (k_X9_isSign l 43 h_tk htx (by omega) (by omega)) h_tk rfl gX7_readSum_X9_isSign rfl hd_X9_isSign (by first | decide | (constructor <;> dsimp only <;> omega)) ⟨Nat.le_of_ble_eq_true rfl, Nat.le_of_ble_eq_true rfl⟩ hl.1 rfl (Nat.le_of_ble_eq_true rfl) dX7_readSum_18 rfl (fun z_18 ws H locs hp h => ?_)
    obtain ⟨e_z_18, rfl⟩ := hp
    refine r_if_ne E 36 dX7_readSum_21 (by decide) (by omega) (fun c_21 => ?_) (fun c_21 => ?_)
    · skip
      have hbo : byA bm L S2.2.2.1 = 43 := by omega
      have hlt : S2.2.2.1 < L := byA_in (t := bm) (by omega)
      have hi8 := hi9.2 h0
      refine r_iload_n E 3 hl rfl dX7_readSum_36 ?_
      refine r_sipush E dX7_readSum_37 (by decide) ?_
      refine r_icmp_ge E 99 dX7_readSum_40 (by decide) (by omega) (fun c_40 => ?_) (fun c_40 => ?_)
      · skip
        exfalso; omega
      · skip
        refine r_aload_n E 0 hl rfl dX7_readSum_43 ?_
        refine r_get (v := .ref atk) E h h_rd rfl inn_X7_readSum_7 3 (by decide) fl_X7_readSum_28 rfl dX7_readSum_44 ?_
        refine r_bipush E dX7_readSum_47 (by decide) ?_
        refine r_callVI E h (As := [.int (zI 43)]) (rest := []) (k_X9_isSign l 43 h_tk htx (by omega) (by omega)) h_tk rfl gX7_readSum_X9_isSign rfl hd_X9_isSign (by first | decide | (constructor <;> dsimp only <;> omega)) ⟨Nat.le_of_ble_eq_true rfl, Nat.le_of_ble_eq_true rfl⟩ hl.1 rfl (Nat.le_of_ble_eq_true rfl) dX7_readSum_49 rfl (fun z_49 ws H locs hp h => ?_)
        obtain ⟨e_z_49, rfl⟩ := hp
        refine r_if_eq E 59 dX7_readSum_52 (by decide) (by omega) (fun c_52 => ?_) (fun c_52 => ?_)
        · skip
          exfalso; omega
        · skip
          refine r_iconst E dX7_readSum_55 ?_
          refine r_goto E 61 dX7_readSum_56 (by decide) ?_
          refine r_istore (lv' := [(4, .int (zI (-1))), (0, .ref ard), (1, .int (zI dl)), (2, .int (zI x9)), (3, .int (zI i9))]) E hl dX7_readSum_61 (by decide) rfl (fun ls hl => ?_)
          refine r_aload_n E 1 hl rfl dX7_readSum_63 ?_
          refine r_get (v := .ref atk) E h h_rd rfl inn_X7_readSum_7 3 (by decide) fl_X7_readSum_28 rfl dX7_readSum_64 ?_
          refine r_callVV E h (As := []) (rest := []) (k_X9_advance l h_tk h_in htx hbm hL (by omega) (by omega)) h_tk rfl gX7_readSum_X9_advance rfl hd_X9_advance (by first | decide | (constructor <;> dsimp only <;> omega)) ⟨Nat.le_of_ble_eq_true rfl, Nat.le_of_ble_eq_true rfl⟩ hl.1 rfl (Nat.le_of_ble_eq_true rfl) dX7_readSum_67 rfl (fun ws H locs hp h => ?_)
          obtain ⟨h_tk, hf⟩ := hp
          have h_rd := hf.at h_rd (by first | omega | (dsimp only <;> omega))
          have h_in := hf.at h_in (by first | omega | (dsimp only <;> omega))
          have h_pg := hf.at h_pg (by first | omega | (dsimp only <;> omega))
          have hE := hE.tr (hf.wk (fun j hj => by first | omega | (dsimp only at hj ⊢ <;> omega)))
          rw [tk_sE (Or.inl (by decide)) hbo] at h_tk
          have h_tk : ws[qr + 3]? = some (atk, .inr (9, [.int (zI (tkK bm L ((((0, S2.2.1, sk bm L (S2.2.2.1 + 1), S2.2.2.2) : PSt)).2.2.1))), .int (zI ((((0, S2.2.1, sk bm L (S2.2.2.1 + 1), S2.2.2.2) : PSt)).2.2.1)), .int (zI (tkV bm L ((((0, S2.2.1, sk bm L (S2.2.2.1 + 1), S2.2.2.2) : PSt)).2.2.1))), .ref ain, .int (zI L), .int (zI (tkE bm L ((((0, S2.2.1, sk bm L (S2.2.2.1 + 1), S2.2.2.2) : PSt)).2.2.1)))])) := h_tk
          rw [h0] at h_rd
          have h_rd : ws[qr]? = some (ard, .inr (7, [.int (zI ((((0, S2.2.1, sk bm L (S2.2.2.1 + 1), S2.2.2.2) : PSt)).1)), .int (zI ((((0, S2.2.1, sk bm L (S2.2.2.1 + 1), S2.2.2.2) : PSt)).2.1)), .ref arc, .ref atk, .int (zI nm9), .int (zI cs9), .ref arl, .int (zI rt9), .ref apg, .int (zI n3)])) := h_rd
          have hby := byte_PL (t := bm) hG2 h0 hbo (by decide)
          have hb1 := hby.2 rfl
          have hb2 := hb1.2.1
          dsimp only at hb2
          have hs := pP_PL (t := bm) f8 1 dl _ hby.1 (fun _ => by show 6 * (L - sk bm L (S2.2.2.1 + 1)) + 3 < _; omega) (by decide)
          refine r_aload_n E 1 hl rfl dX7_readSum_70 ?_
          refine r_iload_n E 2 hl rfl dX7_readSum_71 ?_
          refine r_callVkI E hX h (As := [.int (zI dl)]) (rest := []) (hS (k9 := k9 + 1) (f := f8) h_rd h_tk h_in h_pg htx hbm hL hqi rfl hby.1 (by show 0 ≤ n3 ∧ n3 + (k9 + 1) ≤ sk bm L (S2.2.2.1 + 1) ∧ _; omega) hPT hdl (by show 6 * (L - sk bm L (S2.2.2.1 + 1)) + 3 < _; omega)) h_rd rfl gX7_readSum_X7_readTerm rfl hd_X7_readTerm (by first | decide | (constructor <;> dsimp only <;> omega)) ⟨Nat.le_of_ble_eq_true rfl, Nat.le_of_ble_eq_true rfl⟩ hl.1 rfl (Nat.le_of_ble_eq_true rfl) dX7_readSum_72 rfl (fun z_72 ws H locs hp h => ?_)
          obtain ⟨p_72, n_72, g_72, e_72, h_rd, h_tk, h_pg, hf⟩ := hp
          have h_in := hf.at h_in (by first | omega | (dsimp only <;> omega))
          have hE := hE.tr (hf.wk (fun j hj => by first | omega | (dsimp only at hj ⊢ <;> omega)))
          refine r_if_eq E 91 dX7_readSum_75 (by decide) (by omega) (fun c_75 => ?_) (fun c_75 => ?_)
          · skip
            have hb : (pP bm L f8 1 dl ((0, S2.2.1, sk bm L (S2.2.2.1 + 1), S2.2.2.2) : PSt)).1 ≠ 0 := by
              rcases e_72 with q | q
              · exact absurd q.1 (by omega)
              · exact q.2
            have hem := pemit_bad (v := 2) hb
            have hP := (hby.tr hs).tr (pemit_PL hs.1 2)
            refine r_iconst E dX7_readSum_91 ?_
            have h_rd : ws[qr]? = some (ard, .inr (7, [.int (zI ((pemit 2 (pP bm L f8 1 dl ((0, S2.2.1, sk bm L (S2.2.2.1 + 1), S2.2.2.2) : PSt))).1)), .int (zI ((pemit 2 (pP bm L f8 1 dl ((0, S2.2.1, sk bm L (S2.2.2.1 + 1), S2.2.2.2) : PSt))).2.1)), .ref arc, .ref atk, .int (zI nm9), .int (zI cs9), .ref arl, .int (zI rt9), .ref apg, .int (zI n_72)])) := by rw [hem]; exact h_rd
            refine r_istore_n (lv' := [(2, .int (zI 0)), (4, .int (zI (-1))), (0, .ref ard), (1, .int (zI dl)), (3, .int (zI i9))]) E hl dX7_readSum_92 rfl (by decide) rfl (fun ls hl => ?_)
            refine r_iinc (lv' := [(3, .int (zI (i9 + 1))), (2, .int (zI 0)), (4, .int (zI (-1))), (0, .ref ard), (1, .int (zI dl))]) E 4 hl rfl dX7_readSum_93 (by decide) rfl (fun ls hl => ?_)
            refine r_goto E 8 dX7_readSum_96 (by decide) ?_
            exact ih_8 _ H locs ls (by omega) ⟨ws, f8, (pemit 2 (pP bm L f8 1 dl ((0, S2.2.1, sk bm L (S2.2.2.1 + 1), S2.2.2.2) : PSt))), 0, (i9 + 1), n_72, p_72, g_72, rfl, (Or.inr ⟨rfl, by rw [hem]; exact hb⟩), hP.1, (by rw [← hfin, pS_a h0s hbo]), (fun hh => by have h1 := (hP.2 hh).2.1; simp [pc] at h1; omega), ⟨by omega, fun hh => by have h1 := (hP.2 hh).2.1; simp [pc] at h1; omega⟩, h, h_rd, h_tk, h_in, h_pg, hE, lv_sub hl [3, 4, 1, 0] rfl⟩
          · skip
            obtain ⟨-, h0, ep_72, hn_72, hPT⟩ : z_72 = 1 ∧ (pP bm L f8 1 dl ((0, S2.2.1, sk bm L (S2.2.2.1 + 1), S2.2.2.2) : PSt)).1 = 0 ∧ p_72 = (pP bm L f8 1 dl ((0, S2.2.1, sk bm L (S2.2.2.1 + 1), S2.2.2.2) : PSt)).2.2.1 ∧ (0 ≤ n_72 ∧ n_72 + (k9 + 1) ≤ p_72) ∧ PT g_72 n_72 (pP bm L f8 1 dl ((0, S2.2.1, sk bm L (S2.2.2.1 + 1), S2.2.2.2) : PSt)).2.2.2 := by
              rcases e_72 with q | q
              · exact q
              · exact absurd q.1 (by omega)
            clear e_72
            rw [ep_72] at h_tk
            have hR3 := (hs.1.2 h0).1
            have hsq := (hs.2 h0).2.1
            have hem := pemit_g (v := 2) h0
            have hP := (hby.tr hs).tr (pemit_PL hs.1 2)
            have hPT2 : PT (uZ g_72 n_72 (-1)) (n_72 + 1) (emi (pP bm L f8 1 dl ((0, S2.2.1, sk bm L (S2.2.2.1 + 1), S2.2.2.2) : PSt)).2.2.2 2) := PT.one hPT ⟨by decide, by decide⟩
            refine r_aload_n E 1 hl rfl dX7_readSum_78 ?_
            refine r_iload E 0 hl rfl dX7_readSum_79 ?_
            refine r_callVI E h (As := [.int (zI (-1))]) (rest := []) (k_X7_put l (-1) h_rd h_pg (by omega)) h_rd rfl gX7_readSum_X7_put rfl hd_X7_put (by first | decide | (constructor <;> dsimp only <;> omega)) ⟨Nat.le_of_ble_eq_true rfl, Nat.le_of_ble_eq_true rfl⟩ hl.1 rfl (Nat.le_of_ble_eq_true rfl) dX7_readSum_81 rfl (fun z_81 ws H locs hp h => ?_)
            obtain ⟨rfl, h_rd, h_pg, hf⟩ := hp
            have h_tk := hf.at h_tk (by first | omega | (dsimp only <;> omega))
            have h_in := hf.at h_in (by first | omega | (dsimp only <;> omega))
            have hE := hE.tr (hf.wk (fun j hj => by first | omega | (dsimp only at hj ⊢ <;> omega)))
            refine r_if_eq E 91 dX7_readSum_84 (by decide) (by omega) (fun c_84 => ?_) (fun c_84 => ?_)
            · skip
              exfalso; omega
            · skip
              refine r_iconst E dX7_readSum_87 ?_
              refine r_goto E 92 dX7_readSum_88 (by decide) ?_
              have h_rd : ws[qr]? = some (ard, .inr (7, [.int (zI ((pemit 2 (pP bm L f8 1 dl ((0, S2.2.1, sk bm L (S2.2.2.1 + 1), S2.2.2.2) : PSt))).1)), .int (zI ((pemit 2 (pP bm L f8 1 dl ((0, S2.2.1, sk bm L (S2.2.2.1 + 1), S2.2.2.2) : PSt))).2.1)), .ref arc, .ref atk, .int (zI nm9), .int (zI cs9), .ref arl, .int (zI rt9), .ref apg, .int (zI (n_72 + 1))])) := by rw [hem]; rw [h0] at h_rd; exact h_rd
              refine r_istore_n (lv' := [(2, .int (zI 1)), (4, .int (zI (-1))), (0, .ref ard), (1, .int (zI dl)), (3, .int (zI i9))]) E hl dX7_readSum_92 rfl (by decide) rfl (fun ls hl => ?_)
              refine r_iinc (lv' := [(3, .int (zI (i9 + 1))), (2, .int (zI 1)), (4, .int (zI (-1))), (0, .ref ard), (1, .int (zI dl))]) E 4 hl rfl dX7_readSum_93 (by decide) rfl (fun ls hl => ?_)
              refine r_goto E 8 dX7_readSum_96 (by decide) ?_
              exact ih_8 _ H locs ls (by omega) ⟨ws, f8, (pemit 2 (pP bm L f8 1 dl ((0, S2.2.1, sk bm L (S2.2.2.1 + 1), S2.2.2.2) : PSt))), 1, (i9 + 1), (n_72 + 1), ((pP bm L f8 1 dl ((0, S2.2.1, sk bm L (S2.2.2.1 + 1), S2.2.2.2) : PSt)).2.2.1), (uZ g_72 n_72 (-1)), rfl, (Or.inl ⟨rfl, by rw [hem], by rw [hem], by omega, by rw [hem]; exact hPT2⟩), hP.1, (by rw [← hfin, pS_a h0s hbo]), (fun hh => by have h1 := (hP.2 hh).2.1; simp [pc] at h1; omega), ⟨by omega, fun hh => by have h1 := (hP.2 hh).2.1; simp [pc] at h1; omega⟩, h, h_rd, h_tk, h_in, h_pg, hE, lv_sub hl [3, 4, 1, 0] rfl⟩
    · skip
      refine r_aload_n E 0 hl rfl dX7_readSum_24 ?_
      refine r_get (v := .ref atk) E h h_rd rfl inn_X7_readSum_7 3 (by decide) fl_X7_readSum_28 rfl dX7_readSum_25 ?_
      refine r_bipush E dX7_readSum_28 (by decide) ?_
      refine r_callVI E h (As := [.int (zI 45)]) (rest := []) (k_X9_isSign l 45 h_tk htx (by omega) (by omega)) h_tk rfl gX7_readSum_X9_isSign rfl hd_X9_isSign (by first | decide | (constructor <;> dsimp only <;> omega)) ⟨Nat.le_of_ble_eq_true rfl, Nat.le_of_ble_eq_true rfl⟩ hl.1 rfl (Nat.le_of_ble_eq_true rfl) dX7_readSum_30 rfl (fun z_30 ws H locs hp h => ?_)
      obtain ⟨e_z_30, rfl⟩ := hp
      refine r_if_eq E 99 dX7_readSum_33 (by decide) (by omega) (fun c_33 => ?_) (fun c_33 => ?_)
      · skip
        refine r_iload_n E 2 hl rfl dX7_readSum_99 ?_
        exact r_zret E h (by omega) (by
  rw [show pP bm L f 3 dl S = S2 from hfin.symm.trans (pS_n h0 (by omega) (by omega))]
  exact ⟨_, _, _, Or.inl ⟨by omega, h0, rfl, by omega, hPT⟩, h_rd, h_tk, h_pg, hE⟩) dX7_readSum_100
      · skip
        skip
        have hbo : byA bm L S2.2.2.1 = 45 := by omega
        have hlt : S2.2.2.1 < L := byA_in (t := bm) (by omega)
        have hi8 := hi9.2 h0
        refine r_iload_n E 3 hl rfl dX7_readSum_36 ?_
        refine r_sipush E dX7_readSum_37 (by decide) ?_
        refine r_icmp_ge E 99 dX7_readSum_40 (by decide) (by omega) (fun c_40 => ?_) (fun c_40 => ?_)
        · skip
          exfalso; omega
        · skip
          refine r_aload_n E 0 hl rfl dX7_readSum_43 ?_
          refine r_get (v := .ref atk) E h h_rd rfl inn_X7_readSum_7 3 (by decide) fl_X7_readSum_28 rfl dX7_readSum_44 ?_
          refine r_bipush E dX7_readSum_47 (by decide) ?_
          refine r_callVI E h (As := [.int (zI 43)]) (rest := []) (k_X9_isSign l 43 h_tk htx (by omega) (by omega)) h_tk rfl gX7_readSum_X9_isSign rfl hd_X9_isSign (by first | decide | (constructor <;> dsimp only <;> omega)) ⟨Nat.le_of_ble_eq_true rfl, Nat.le_of_ble_eq_true rfl⟩ hl.1 rfl (Nat.le_of_ble_eq_true rfl) dX7_readSum_49 rfl (fun z_49 ws H locs hp h => ?_)
          obtain ⟨e_z_49, rfl⟩ := hp
          refine r_if_eq E 59 dX7_readSum_52 (by decide) (by omega) (fun c_52 => ?_) (fun c_52 => ?_)
          · skip
            refine r_bipush E dX7_readSum_59 (by decide) ?_
            refine r_istore (lv' := [(4, .int (zI (-2))), (0, .ref ard), (1, .int (zI dl)), (2, .int (zI x9)), (3, .int (zI i9))]) E hl dX7_readSum_61 (by decide) rfl (fun ls hl => ?_)
            refine r_aload_n E 1 hl rfl dX7_readSum_63 ?_
            refine r_get (v := .ref atk) E h h_rd rfl inn_X7_readSum_7 3 (by decide) fl_X7_readSum_28 rfl dX7_readSum_64 ?_
            refine r_callVV E h (As := []) (rest := []) (k_X9_advance l h_tk h_in htx hbm hL (by omega) (by omega)) h_tk rfl gX7_readSum_X9_advance rfl hd_X9_advance (by first | decide | (constructor <;> dsimp only <;> omega)) ⟨Nat.le_of_ble_eq_true rfl, Nat.le_of_ble_eq_true rfl⟩ hl.1 rfl (Nat.le_of_ble_eq_true rfl) dX7_readSum_67 rfl (fun ws H locs hp h => ?_)
            obtain ⟨h_tk, hf⟩ := hp
            have h_rd := hf.at h_rd (by first | omega | (dsimp only <;> omega))
            have h_in := hf.at h_in (by first | omega | (dsimp only <;> omega))
            have h_pg := hf.at h_pg (by first | omega | (dsimp only <;> omega))
            have hE := hE.tr (hf.wk (fun j hj => by first | omega | (dsimp only at hj ⊢ <;> omega)))
            rw [tk_sE (Or.inl (by decide)) hbo] at h_tk
            have h_tk : ws[qr + 3]? = some (atk, .inr (9, [.int (zI (tkK bm L ((((0, S2.2.1, sk bm L (S2.2.2.1 + 1), S2.2.2.2) : PSt)).2.2.1))), .int (zI ((((0, S2.2.1, sk bm L (S2.2.2.1 + 1), S2.2.2.2) : PSt)).2.2.1)), .int (zI (tkV bm L ((((0, S2.2.1, sk bm L (S2.2.2.1 + 1), S2.2.2.2) : PSt)).2.2.1))), .ref ain, .int (zI L), .int (zI (tkE bm L ((((0, S2.2.1, sk bm L (S2.2.2.1 + 1), S2.2.2.2) : PSt)).2.2.1)))])) := h_tk
            rw [h0] at h_rd
            have h_rd : ws[qr]? = some (ard, .inr (7, [.int (zI ((((0, S2.2.1, sk bm L (S2.2.2.1 + 1), S2.2.2.2) : PSt)).1)), .int (zI ((((0, S2.2.1, sk bm L (S2.2.2.1 + 1), S2.2.2.2) : PSt)).2.1)), .ref arc, .ref atk, .int (zI nm9), .int (zI cs9), .ref arl, .int (zI rt9), .ref apg, .int (zI n3)])) := h_rd
            have hby := byte_PL (t := bm) hG2 h0 hbo (by decide)
            have hb1 := hby.2 rfl
            have hb2 := hb1.2.1
            dsimp only at hb2
            have hs := pP_PL (t := bm) f8 1 dl _ hby.1 (fun _ => by show 6 * (L - sk bm L (S2.2.2.1 + 1)) + 3 < _; omega) (by decide)
            refine r_aload_n E 1 hl rfl dX7_readSum_70 ?_
            refine r_iload_n E 2 hl rfl dX7_readSum_71 ?_
            refine r_callVkI E hX h (As := [.int (zI dl)]) (rest := []) (hS (k9 := k9 + 1) (f := f8) h_rd h_tk h_in h_pg htx hbm hL hqi rfl hby.1 (by show 0 ≤ n3 ∧ n3 + (k9 + 1) ≤ sk bm L (S2.2.2.1 + 1) ∧ _; omega) hPT hdl (by show 6 * (L - sk bm L (S2.2.2.1 + 1)) + 3 < _; omega)) h_rd rfl gX7_readSum_X7_readTerm rfl hd_X7_readTerm (by first | decide | (constructor <;> dsimp only <;> omega)) ⟨Nat.le_of_ble_eq_true rfl, Nat.le_of_ble_eq_true rfl⟩ hl.1 rfl (Nat.le_of_ble_eq_true rfl) dX7_readSum_72 rfl (fun z_72 ws H locs hp h => ?_)
            obtain ⟨p_72, n_72, g_72, e_72, h_rd, h_tk, h_pg, hf⟩ := hp
            have h_in := hf.at h_in (by first | omega | (dsimp only <;> omega))
            have hE := hE.tr (hf.wk (fun j hj => by first | omega | (dsimp only at hj ⊢ <;> omega)))
            refine r_if_eq E 91 dX7_readSum_75 (by decide) (by omega) (fun c_75 => ?_) (fun c_75 => ?_)
            · skip
              have hb : (pP bm L f8 1 dl ((0, S2.2.1, sk bm L (S2.2.2.1 + 1), S2.2.2.2) : PSt)).1 ≠ 0 := by
                rcases e_72 with q | q
                · exact absurd q.1 (by omega)
                · exact q.2
              have hem := pemit_bad (v := 3) hb
              have hP := (hby.tr hs).tr (pemit_PL hs.1 3)
              refine r_iconst E dX7_readSum_91 ?_
              have h_rd : ws[qr]? = some (ard, .inr (7, [.int (zI ((pemit 3 (pP bm L f8 1 dl ((0, S2.2.1, sk bm L (S2.2.2.1 + 1), S2.2.2.2) : PSt))).1)), .int (zI ((pemit 3 (pP bm L f8 1 dl ((0, S2.2.1, sk bm L (S2.2.2.1 + 1), S2.2.2.2) : PSt))).2.1)), .ref arc, .ref atk, .int (zI nm9), .int (zI cs9), .ref arl, .int (zI rt9), .ref apg, .int (zI n_72)])) := by rw [hem]; exact h_rd
              refine r_istore_n (lv' := [(2, .int (zI 0)), (4, .int (zI (-2))), (0, .ref ard), (1, .int (zI dl)), (3, .int (zI i9))]) E hl dX7_readSum_92 rfl (by decide) rfl (fun ls hl => ?_)
              refine r_iinc (lv' := [(3, .int (zI (i9 + 1))), (2, .int (zI 0)), (4, .int (zI (-2))), (0, .ref ard), (1, .int (zI dl))]) E 4 hl rfl dX7_readSum_93 (by decide) rfl (fun ls hl => ?_)
              refine r_goto E 8 dX7_readSum_96 (by decide) ?_
              exact ih_8 _ H locs ls (by omega) ⟨ws, f8, (pemit 3 (pP bm L f8 1 dl ((0, S2.2.1, sk bm L (S2.2.2.1 + 1), S2.2.2.2) : PSt))), 0, (i9 + 1), n_72, p_72, g_72, rfl, (Or.inr ⟨rfl, by rw [hem]; exact hb⟩), hP.1, (by rw [← hfin, pS_b h0s hbo]), (fun hh => by have h1 := (hP.2 hh).2.1; simp [pc] at h1; omega), ⟨by omega, fun hh => by have h1 := (hP.2 hh).2.1; simp [pc] at h1; omega⟩, h, h_rd, h_tk, h_in, h_pg, hE, lv_sub hl [3, 4, 1, 0] rfl⟩
            · skip
              obtain ⟨-, h0, ep_72, hn_72, hPT⟩ : z_72 = 1 ∧ (pP bm L f8 1 dl ((0, S2.2.1, sk bm L (S2.2.2.1 + 1), S2.2.2.2) : PSt)).1 = 0 ∧ p_72 = (pP bm L f8 1 dl ((0, S2.2.1, sk bm L (S2.2.2.1 + 1), S2.2.2.2) : PSt)).2.2.1 ∧ (0 ≤ n_72 ∧ n_72 + (k9 + 1) ≤ p_72) ∧ PT g_72 n_72 (pP bm L f8 1 dl ((0, S2.2.1, sk bm L (S2.2.2.1 + 1), S2.2.2.2) : PSt)).2.2.2 := by
                rcases e_72 with q | q
                · exact q
                · exact absurd q.1 (by omega)
              clear e_72
              rw [ep_72] at h_tk
              have hR3 := (hs.1.2 h0).1
              have hsq := (hs.2 h0).2.1
              have hem := pemit_g (v := 3) h0
              have hP := (hby.tr hs).tr (pemit_PL hs.1 3)
              have hPT2 : PT (uZ g_72 n_72 (-2)) (n_72 + 1) (emi (pP bm L f8 1 dl ((0, S2.2.1, sk bm L (S2.2.2.1 + 1), S2.2.2.2) : PSt)).2.2.2 3) := PT.one hPT ⟨by decide, by decide⟩
              refine r_aload_n E 1 hl rfl dX7_readSum_78 ?_
              refine r_iload E 0 hl rfl dX7_readSum_79 ?_
              refine r_callVI E h (As := [.int (zI (-2))]) (rest := []) (k_X7_put l (-2) h_rd h_pg (by omega)) h_rd rfl gX7_readSum_X7_put rfl hd_X7_put (by first | decide | (constructor <;> dsimp only <;> omega)) ⟨Nat.le_of_ble_eq_true rfl, Nat.le_of_ble_eq_true rfl⟩ hl.1 rfl (Nat.le_of_ble_eq_true rfl) dX7_readSum_81 rfl (fun z_81 ws H locs hp h => ?_)
              obtain ⟨rfl, h_rd, h_pg, hf⟩ := hp
              have h_tk := hf.at h_tk (by first | omega | (dsimp only <;> omega))
              have h_in := hf.at h_in (by first | omega | (dsimp only <;> omega))
              have hE := hE.tr (hf.wk (fun j hj => by first | omega | (dsimp only at hj ⊢ <;> omega)))
              refine r_if_eq E 91 dX7_readSum_84 (by decide) (by omega) (fun c_84 => ?_) (fun c_84 => ?_)
              · skip
                exfalso; omega
              · skip
                refine r_iconst E dX7_readSum_87 ?_
                refine r_goto E 92 dX7_readSum_88 (by decide) ?_
                have h_rd : ws[qr]? = some (ard, .inr (7, [.int (zI ((pemit 3 (pP bm L f8 1 dl ((0, S2.2.1, sk bm L (S2.2.2.1 + 1), S2.2.2.2) : PSt))).1)), .int (zI ((pemit 3 (pP bm L f8 1 dl ((0, S2.2.1, sk bm L (S2.2.2.1 + 1), S2.2.2.2) : PSt))).2.1)), .ref arc, .ref atk, .int (zI nm9), .int (zI cs9), .ref arl, .int (zI rt9), .ref apg, .int (zI (n_72 + 1))])) := by rw [hem]; rw [h0] at h_rd; exact h_rd
                refine r_istore_n (lv' := [(2, .int (zI 1)), (4, .int (zI (-2))), (0, .ref ard), (1, .int (zI dl)), (3, .int (zI i9))]) E hl dX7_readSum_92 rfl (by decide) rfl (fun ls hl => ?_)
                refine r_iinc (lv' := [(3, .int (zI (i9 + 1))), (2, .int (zI 1)), (4, .int (zI (-2))), (0, .ref ard), (1, .int (zI dl))]) E 4 hl rfl dX7_readSum_93 (by decide) rfl (fun ls hl => ?_)
                refine r_goto E 8 dX7_readSum_96 (by decide) ?_
                exact ih_8 _ H locs ls (by omega) ⟨ws, f8, (pemit 3 (pP bm L f8 1 dl ((0, S2.2.1, sk bm L (S2.2.2.1 + 1), S2.2.2.2) : PSt))), 1, (i9 + 1), (n_72 + 1), ((pP bm L f8 1 dl ((0, S2.2.1, sk bm L (S2.2.2.1 + 1), S2.2.2.2) : PSt)).2.2.1), (uZ g_72 n_72 (-2)), rfl, (Or.inl ⟨rfl, by rw [hem], by rw [hem], by omega, by rw [hem]; exact hPT2⟩), hP.1, (by rw [← hfin, pS_b h0s hbo]), (fun hh => by have h1 := (hP.2 hh).2.1; simp [pc] at h1; omega), ⟨by omega, fun hh => by have h1 := (hP.2 hh).2.1; simp [pc] at h1; omega⟩, h, h_rd, h_tk, h_in, h_pg, hE, lv_sub hl [3, 4, 1, 0] rfl⟩
          · skip
            exfalso; omega
