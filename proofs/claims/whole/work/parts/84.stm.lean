/-- a fact that omega need not look at -/
def Hid (p : Prop) : Prop := p
theorem hid_in {p : Prop} (h : p) : Hid p := h
theorem hid_out {p : Prop} (h : Hid p) : p := h
theorem pStB_0 {t : Int → Int} {L : Int} {S : PSt} (h5 : isW t L S.2.2.1 (ST 5) = true) : pStB t L S = pRule t L S.2.2.1 1 (padv t L 5 S) := by
  unfold pStB pWh; rw [if_pos h5]; rfl
theorem pStB_1 {t : Int → Int} {L : Int} {S : PSt} (h5 : isW t L S.2.2.1 (ST 5) = false) (h6 : isW t L S.2.2.1 (ST 6) = true) : pStB t L S = pRule t L S.2.2.1 0 (padv t L 6 S) := by
  unfold pStB pWh; rw [if_neg (by rw [h5]; decide), if_pos h6]; rfl
theorem pStB_2 {t : Int → Int} {L : Int} {S : PSt} (h5 : isW t L S.2.2.1 (ST 5) = false) (h6 : isW t L S.2.2.1 (ST 6) = false) (h2 : isW t L S.2.2.1 (ST 2) = true) : pStB t L S = pCol t L (padv t L 2 S) := by
  unfold pStB pWh; rw [if_neg (by rw [h5]; decide), if_neg (by rw [h6]; decide), if_pos h2]; rfl
theorem pStB_3 {t : Int → Int} {L : Int} {S : PSt} (h5 : isW t L S.2.2.1 (ST 5) = false) (h6 : isW t L S.2.2.1 (ST 6) = false) (h2 : isW t L S.2.2.1 (ST 2) = false) (h7 : isW t L S.2.2.1 (ST 7) = true) : pStB t L S = pWt t L S.2.2.1 (padv t L 7 S) := by
  unfold pStB pWh; rw [if_neg (by rw [h5]; decide), if_neg (by rw [h6]; decide), if_neg (by rw [h2]; decide), if_pos h7]; rfl
theorem pStB_4 {t : Int → Int} {L : Int} {S : PSt} (h5 : isW t L S.2.2.1 (ST 5) = false) (h6 : isW t L S.2.2.1 (ST 6) = false) (h2 : isW t L S.2.2.1 (ST 2) = false) (h7 : isW t L S.2.2.1 (ST 7) = false) : pStB t L S = prep (-2) S.2.2.1 S := by
  unfold pStB pWh; rw [if_neg (by rw [h5]; decide), if_neg (by rw [h6]; decide), if_neg (by rw [h2]; decide), if_neg (by rw [h7]; decide)]; rfl
theorem pWt_4 {t : Int → Int} {L st : Int} {S : PSt} (h0 : S.1 = 0) (h3 : S.2.2.2 3 = 1) : pWt t L st S = (-2, st, S.2.2.1, S.2.2.2) := by
  unfold pWt
  rw [pW1_4 h0 h3, prep_g h0, pset_bad (by show (-2 : Int) ≠ 0; decide), pP_bad _ _ _ _ (by show (-2 : Int) ≠ 0; decide)]
theorem pWt_n {t : Int → Int} {L st : Int} {S : PSt} (h0 : S.1 = 0) (h3 : S.2.2.2 3 ≠ 1) : pWt t L st S = pP t L 4000 3 0 (0, S.2.1, S.2.2.1, uZ S.2.2.2 3 1) := by
  unfold pWt
  rw [pW1_n h3, pset_g h0]
theorem pexp_c {t : Int → Int} {L c : Int} {S : PSt} (h : (pexp t L c S).1 = 0) : byA t L S.2.2.1 = c := by
  by_cases q : byA t L S.2.2.1 = c
  · exact q
  · rw [pexp_n (pexp_0 h).1 q] at h
    exact absurd h (by show ¬ (-2 : Int) = 0; decide)
theorem PT.cg {pg g e : Int → Int} {n : Int} (h : PT pg n g) (h4 : e 4 = g 4) (hk : ∀ j : Int, 111 ≤ j → e j = g j) : PT pg n e := by
  obtain ⟨h0, T, a, b, c⟩ := h
  exact ⟨by omega, T, a, by rw [h4]; exact CE.cg T _ _ (fun j h1 _ => hk j (by omega)) b, c⟩
theorem msk_cg {g e : Int → Int} (h0 : e 0 = g 0) (hk : ∀ j : Int, 29 ≤ j → j < 111 → e j = g j) (hn : g 0 ≤ 40) : fmk (e 0) (fx e) = fmk (g 0) (fx g) ∧ mk (e 0) (cl e) = mk (g 0) (cl g) := by
  rw [h0]
  refine ⟨fmk_congr (fun x a b => by show e (70 + x) = 1 ↔ g (70 + x) = 1; rw [hk _ (by omega) (by omega)]), funext fun c => mk_congr (fun x a b => by show e (29 + x) = c + 1 ↔ g (29 + x) = c + 1; rw [hk _ (by omega) (by omega)])⟩
/-- what the reader holds when all is well -/
def GR (u : va_W) (B0 : Nat) (g : Int → Int) (F : Int64) (P : Int → Int64) (nm cs rt n : Int) (rl : Int → Option Nat) (pg : Int → Int) : Prop := nm = g 0 ∧ cs = g 1 ∧ rt = g 2 ∧ F = fmk (g 0) (fx g) ∧ P = mk (g 0) (cl g) ∧ RUL u B0 rl rt g ∧ PT pg n g ∧ (g 3 = 0 ∧ n = 0 ∨ g 3 = 1 ∧ 0 < n ∧ n < 600)
theorem GR.keep {ws u : va_W} {B0 : Nat} {g : Int → Int} {F : Int64} {P : Int → Int64} {nm cs rt n : Int} {rl : Int → Option Nat} {pg : Int → Int} {X : Nat → Prop} (h : GR ws B0 g F P nm cs rt n rl pg) (hE : Eqx ws u X) (hX : ∀ j, B0 ≤ j → ¬ X j) : GR u B0 g F P nm cs rt n rl pg :=
  ⟨h.1, h.2.1, h.2.2.1, h.2.2.2.1, h.2.2.2.2.1, h.2.2.2.2.2.1.keep hE hX, h.2.2.2.2.2.2⟩
theorem hd_X7_readColour : yX7_readColour.cls = RX7 ∧ yX7_readColour.cls ≠ "java/lang/invoke/MethodHandle" ∧ yX7_readColour.cls ≠ "java/lang/invoke/VarHandle" ∧ (parseMethodDescriptor yX7_readColour.desc).map (fun d => d.parameters.length) = some 0 := by decide +kernel
theorem fl_X7_readColour_28 : Cond.fieldLink RX7 28 (TX7 3).1 (TX7 3).2.1 (TX7 3).2.2.1 ∈ wsX7_readColour := List.mem_of_getElem? (i := 1) rfl
theorem inn_X7_readColour_7 : ∀ w ∈ wsX70, w ∈ wsX7_readColour := fun _ h => List.mem_cons_of_mem _ (List.mem_append_left _ (List.mem_append_left _ (List.mem_append_right _ h)))
theorem fl_X7_readColour_32 : Cond.fieldLink RX7 32 (TX7 4).1 (TX7 4).2.1 (TX7 4).2.2.1 ∈ wsX7_readColour := List.mem_of_getElem? (i := 2) rfl
theorem fl_X7_readColour_35 : Cond.fieldLink RX7 35 (TX7 5).1 (TX7 5).2.1 (TX7 5).2.2.1 ∈ wsX7_readColour := List.mem_of_getElem? (i := 3) rfl
theorem fl_X7_readColour_21 : Cond.fieldLink RX7 21 (TX7 2).1 (TX7 2).2.1 (TX7 2).2.2.1 ∈ wsX7_readColour := List.mem_of_getElem? (i := 4) rfl
abbrev rm_X7_readColour : Room := { frames := 5, cells := 0, slots := 0, locals := 107 }
set_option maxHeartbeats 1200000 in
set_option maxRecDepth 100000 in
theorem k_X7_readColour (l : Launch) {G : va_G} {cy : Nat → ClassId} {ws0 : va_W} {qr qi ard arc atk arl apg ain : Nat} {rt9 n9 : Int}{bu bm : Int → Int} {L : Int}{arp9 : Nat} {S : PSt} (h_rd : ws0[qr]? = some (ard, .inr (7, [.int (zI S.1), .int (zI S.2.1), .ref arc, .ref atk, .int (zI (S.2.2.2 0)), .int (zI (S.2.2.2 1)), .ref arl, .int (zI rt9), .ref apg, .int (zI n9)]))) (h_tk : ws0[qr + 3]? = some (atk, .inr (9, [.int (zI (tkK bm L S.2.2.1)), .int (zI S.2.2.1), .int (zI (tkV bm L S.2.2.1)), .ref ain, .int (zI L), .int (zI (tkE bm L S.2.2.1))]))) (h_in : ws0[qi]? = some (ain, aB cy 600 bu)) (h_rc : ws0[qr + 1]? = some (arc, .inr (0, [.ref arp9, .long (fmk (S.2.2.2 0) (fx S.2.2.2))]))) (h_rcp : ws0[qr + 2]? = some (arp9, aL cy 4 (mk (S.2.2.2 0) (cl S.2.2.2)))) (htx : TXok bm) (hbm : ∀ i : Int, bu i = sg (bm i)) (hL : 0 ≤ L ∧ L ≤ 600) (hqi : qi < qr ∨ qr + 7 ≤ qi) (h0 : S.1 = 0) (hG : PG L S) (hV : RV S.2.2.2) (hw : isW bm L S.2.2.1 (ST 2) = true) : MIk l yX7_readColour wsX7_readColour rm_X7_readColour G cy [.ref ard] ws0 (fun z u => ∃ (p2 : Int) (F2 : Int64) (P2 : Int → Int64), (z = 1 ∧ (pCol bm L (padv bm L 2 S)).1 = 0 ∧ p2 = (pCol bm L (padv bm L 2 S)).2.2.1 ∧ (F2 = fmk ((pCol bm L (padv bm L 2 S)).2.2.2 0) (fx (pCol bm L (padv bm L 2 S)).2.2.2) ∧ P2 = mk ((pCol bm L (padv bm L 2 S)).2.2.2 0) (cl (pCol bm L (padv bm L 2 S)).2.2.2)) ∧ (∃ x a b : Int, (1 ≤ x ∧ x ≤ 40) ∧ (pCol bm L (padv bm L 2 S)).2.2.2 = uZ (uZ S.2.2.2 (29 + x) a) (70 + x) b) ∨ z = 0 ∧ (pCol bm L (padv bm L 2 S)).1 ≠ 0) ∧ u[qr]? = some (ard, .inr (7, [.int (zI ((pCol bm L (padv bm L 2 S)).1)), .int (zI ((pCol bm L (padv bm L 2 S)).2.1)), .ref arc, .ref atk, .int (zI (S.2.2.2 0)), .int (zI (S.2.2.2 1)), .ref arl, .int (zI rt9), .ref apg, .int (zI n9)])) ∧ u[qr + 1]? = some (arc, .inr (0, [.ref arp9, .long F2])) ∧ u[qr + 2]? = some (arp9, aL cy 4 P2) ∧ u[qr + 3]? = some (atk, .inr (9, [.int (zI (tkK bm L p2)), .int (zI p2), .int (zI (tkV bm L p2)), .ref ain, .int (zI L), .int (zI (tkE bm L p2))])) ∧ Eqx ws0 u (fun j => j = qr ∨ j = qr + 1 ∨ j = qr + 2 ∨ j = qr + 3)) := by
  refine MIk.of (own := RX7) (cc := cX7_readColour) (nL := 3) (ret := (some .boolean)) (by decide) rfl rfl (Nat.le_of_ble_eq_true rfl) ?_
  intro p e s m below meth c A ls hX E h hl
  have hl : lv_has ls 3 [(0, .ref ard)] := hl
  have hE : Eqx ws0 ws0 (fun j => j = qr ∨ j = qr + 1 ∨ j = qr + 2 ∨ j = qr + 3) := Eqx.rf
  have hgp := (hG.2 h0).1
  have htr := tk_rng htx hgp.2
  have hvr := hV.r
  refine r_aload_n E 0 hl rfl dX7_readColour_0 ?_
  refine r_get (v := .ref atk) E h h_rd rfl inn_X7_readColour_7 3 (by decide) fl_X7_readColour_28 rfl dX7_readColour_1 ?_
  refine r_callVV E h (As := []) (rest := []) (k_X9_advance l h_tk h_in htx hbm hL (by omega) (by omega)) h_tk rfl gX7_readColour_X9_advance rfl hd_X9_advance (by decide) ⟨by decide, by decide⟩ hl.1 rfl (Nat.le_of_ble_eq_true rfl) dX7_readColour_4 rfl (fun ws H locs hp h => ?_)
  obtain ⟨h_tk, hf⟩ := hp
  have h_rd := hf.at h_rd (by first | omega | (dsimp only <;> omega))
  have h_in := hf.at h_in (by first | omega | (dsimp only <;> omega))
  have h_rc := hf.at h_rc (by first | omega | (dsimp only <;> omega))
  have h_rcp := hf.at h_rcp (by first | omega | (dsimp only <;> omega))
  have hE := hE.tr (hf.wk (fun j hj => by first | omega | (dsimp only at hj ⊢ <;> omega)))
  rw [tk_wE (by decide) hgp.2 hw] at h_tk
  have h_tk : ws[qr + 3]? = some (atk, .inr (9, [.int (zI (tkK bm L ((padv bm L 2 S).2.2.1))), .int (zI ((padv bm L 2 S).2.2.1)), .int (zI (tkV bm L ((padv bm L 2 S).2.2.1))), .ref ain, .int (zI L), .int (zI (tkE bm L ((padv bm L 2 S).2.2.1)))])) := h_tk
  have h_rd : ws[qr]? = some (ard, .inr (7, [.int (zI ((padv bm L 2 S).1)), .int (zI ((padv bm L 2 S).2.1)), .ref arc, .ref atk, .int (zI (S.2.2.2 0)), .int (zI (S.2.2.2 1)), .ref arl, .int (zI rt9), .ref apg, .int (zI n9)])) := h_rd
  have h0s := h0
  have hGs := hG
  have h0 : (padv bm L 2 S).1 = 0 := h0
  have hG := (padv_PL hG h0s (by decide) hw).1
  have hgp := (hG.2 h0).1
  have htr := tk_rng htx hgp.2
  refine r_aload_n E 0 hl rfl dX7_readColour_7 ?_
  refine r_iconst E dX7_readColour_8 ?_
  refine r_aload_n E 0 hl rfl dX7_readColour_9 ?_
  refine r_get (v := .int (zI (S.2.2.2 0))) E h h_rd rfl inn_X7_readColour_7 4 (by decide) fl_X7_readColour_32 rfl dX7_readColour_10 ?_
  refine r_callVI E h (As := [.int (zI 1), .int (zI (S.2.2.2 0))]) (rest := []) (k_X7_takeNumber (S := padv bm L 2 S) l 1 (S.2.2.2 0) h_rd h_tk h_in htx hbm hL hqi h0 hG (by omega)) h_rd rfl gX7_readColour_X7_takeNumber rfl hd_X7_takeNumber (by decide) ⟨by decide, by decide⟩ hl.1 rfl (Nat.le_of_ble_eq_true rfl) dX7_readColour_13 rfl (fun z_13 ws H locs hp h => ?_)
  obtain ⟨p_13, e_13, h_rd, h_tk, hf⟩ := hp
  have h_in := hf.at h_in (by first | omega | (dsimp only <;> omega))
  have h_rc := hf.at h_rc (by first | omega | (dsimp only <;> omega))
  have h_rcp := hf.at h_rcp (by first | omega | (dsimp only <;> omega))
  have hE := hE.tr (hf.wk (fun j hj => by first | omega | (dsimp only at hj ⊢ <;> omega)))
  refine r_istore_n (lv' := [(1, .int (zI z_13)), (0, .ref ard)]) E hl dX7_readColour_16 rfl (by decide) rfl (fun ls hl => ?_)
  refine r_iload_n E 0 hl rfl dX7_readColour_17 ?_
  refine r_iconst E dX7_readColour_18 ?_
  refine r_icmp_ne E 24 dX7_readColour_19 (by decide) (by omega) (fun c_19 => ?_) (fun c_19 => ?_)
  · skip
    have h0 : (pnum bm L 1 (S.2.2.2 0) (padv bm L 2 S)).1 = 0 := by omega
    have ep_13 : p_13 = (pnum bm L 1 (S.2.2.2 0) (padv bm L 2 S)).2.2.1 := by omega
    rw [ep_13] at h_tk
    have hzx : z_13 = pval bm L (padv bm L 2 S) := by omega
    have hG : PG L (pnum bm L 1 (S.2.2.2 0) (padv bm L 2 S)) := (pnum_PL (t := bm) (lo := 1) (hi := S.2.2.2 0) hG).1
    have hgp := (hG.2 h0).1
    have htr := tk_rng htx hgp.2
    refine r_aload_n E 1 hl rfl dX7_readColour_24 ?_
    refine r_iconst E dX7_readColour_25 ?_
    refine r_aload_n E 1 hl rfl dX7_readColour_26 ?_
    refine r_get (v := .int (zI (S.2.2.2 1))) E h h_rd rfl inn_X7_readColour_7 5 (by decide) fl_X7_readColour_35 rfl dX7_readColour_27 ?_
    refine r_iconst E dX7_readColour_30 ?_
    refine r_isub E dX7_readColour_31 ?_
    refine r_callVI E h (As := [.int (zI 0), .int (zI ((S.2.2.2 1) - 1))]) (rest := []) (k_X7_takeNumber (S := pnum bm L 1 (S.2.2.2 0) (padv bm L 2 S)) l 0 ((S.2.2.2 1) - 1) h_rd h_tk h_in htx hbm hL hqi h0 hG (by omega)) h_rd rfl gX7_readColour_X7_takeNumber rfl hd_X7_takeNumber (by decide) ⟨by decide, by decide⟩ hl.1 rfl (Nat.le_of_ble_eq_true rfl) dX7_readColour_32 rfl (fun z_32 ws H locs hp h => ?_)
    obtain ⟨p_32, e_32, h_rd, h_tk, hf⟩ := hp
    have h_in := hf.at h_in (by first | omega | (dsimp only <;> omega))
    have h_rc := hf.at h_rc (by first | omega | (dsimp only <;> omega))
    have h_rcp := hf.at h_rcp (by first | omega | (dsimp only <;> omega))
    have hE := hE.tr (hf.wk (fun j hj => by first | omega | (dsimp only at hj ⊢ <;> omega)))
    refine r_istore_n (lv' := [(2, .int (zI z_32)), (1, .int (zI z_13)), (0, .ref ard)]) E hl dX7_readColour_35 rfl (by decide) rfl (fun ls hl => ?_)
    refine r_iload_n E 0 hl rfl dX7_readColour_36 ?_
    refine r_iconst E dX7_readColour_37 ?_
    refine r_icmp_ne E 43 dX7_readColour_38 (by decide) (by omega) (fun c_38 => ?_) (fun c_38 => ?_)
    · skip
      have hT2 : (pnum bm L 0 (S.2.2.2 1 - 1) (pnum bm L 1 (S.2.2.2 0) (padv bm L 2 S))).1 = 0 := by omega
      have ep_32 : p_32 = (pnum bm L 0 (S.2.2.2 1 - 1) (pnum bm L 1 (S.2.2.2 0) (padv bm L 2 S))).2.2.1 := by omega
      rw [ep_32] at h_tk
      have hzc : z_32 = pval bm L (pnum bm L 1 (S.2.2.2 0) (padv bm L 2 S)) := by omega
      have hG : PG L (pC3 bm L (padv bm L 2 S)) := (PL.set (k := 29 + pval bm L (padv bm L 2 S)) (v := pval bm L (pnum bm L 1 (S.2.2.2 0) (padv bm L 2 S)) + 1) (pnum_PL (t := bm) (lo := 0) (hi := S.2.2.2 1 - 1) hG).1 (by omega)).1
      have h0 : (pC3 bm L (padv bm L 2 S)).1 = 0 := (pset_1 hT2).trans hT2
      have hrow3 : (pC3 bm L (padv bm L 2 S)).2.2.2 = uZ S.2.2.2 (29 + pval bm L (padv bm L 2 S)) (pval bm L (pnum bm L 1 (S.2.2.2 0) (padv bm L 2 S)) + 1) := (pset_4 hT2).trans (by rw [pnum_row, pnum_row]; rfl)
      have h_rd : ws[qr]? = some (ard, .inr (7, [.int (zI ((pC3 bm L (padv bm L 2 S)).1)), .int (zI ((pC3 bm L (padv bm L 2 S)).2.1)), .ref arc, .ref atk, .int (zI (S.2.2.2 0)), .int (zI (S.2.2.2 1)), .ref arl, .int (zI rt9), .ref apg, .int (zI n9)])) := by rw [show (pC3 bm L (padv bm L 2 S)).1 = (pnum bm L 0 (S.2.2.2 1 - 1) (pnum bm L 1 (S.2.2.2 0) (padv bm L 2 S))).1 from pset_1 hT2, show (pC3 bm L (padv bm L 2 S)).2.1 = (pnum bm L 0 (S.2.2.2 1 - 1) (pnum bm L 1 (S.2.2.2 0) (padv bm L 2 S))).2.1 from pset_2]; exact h_rd
      have h_tk : ws[qr + 3]? = some (atk, .inr (9, [.int (zI (tkK bm L ((pC3 bm L (padv bm L 2 S)).2.2.1))), .int (zI ((pC3 bm L (padv bm L 2 S)).2.2.1)), .int (zI (tkV bm L ((pC3 bm L (padv bm L 2 S)).2.2.1))), .ref ain, .int (zI L), .int (zI (tkE bm L ((pC3 bm L (padv bm L 2 S)).2.2.1)))])) := by rw [show (pC3 bm L (padv bm L 2 S)).2.2.1 = (pnum bm L 0 (S.2.2.2 1 - 1) (pnum bm L 1 (S.2.2.2 0) (padv bm L 2 S))).2.2.1 from pset_3]; exact h_tk
      have hgp := (hG.2 h0).1
      have htr := tk_rng htx hgp.2
      refine r_aload_n E 2 hl rfl dX7_readColour_43 ?_
      refine r_get (v := .ref arc) E h h_rd rfl inn_X7_readColour_7 2 (by decide) fl_X7_readColour_21 rfl dX7_readColour_44 ?_
      refine r_iload_n E 1 hl rfl dX7_readColour_47 ?_
      refine r_iload_n E 0 hl rfl dX7_readColour_48 ?_
      refine r_callVV E h (As := [.int (zI z_13), .int (zI z_32)]) (rest := []) (k_X0_paint l z_13 z_32 h_rc h_rcp (by omega) (by omega) (by omega)) h_rc rfl gX7_readColour_X0_paint rfl hd_X0_paint (by decide) ⟨by decide, by decide⟩ hl.1 rfl (Nat.le_of_ble_eq_true rfl) dX7_readColour_49 rfl (fun ws H locs hp h => ?_)
      obtain ⟨h_rcp, hf⟩ := hp
      have h_rd := hf.at h_rd (by first | omega | (dsimp only <;> omega))
      have h_tk := hf.at h_tk (by first | omega | (dsimp only <;> omega))
      have h_in := hf.at h_in (by first | omega | (dsimp only <;> omega))
      have h_rc := hf.at h_rc (by first | omega | (dsimp only <;> omega))
      have hE := hE.tr (hf.wk (fun j hj => by first | omega | (dsimp only at hj ⊢ <;> omega)))
      refine r_aload_n E 2 hl rfl dX7_readColour_52 ?_
      refine r_get (v := .ref arc) E h h_rd rfl inn_X7_readColour_7 2 (by decide) fl_X7_readColour_21 rfl dX7_readColour_53 ?_
      refine r_iload_n E 1 hl rfl dX7_readColour_56 ?_
      refine r_aload_n E 2 hl rfl dX7_readColour_57 ?_
      refine r_aload_n E 2 hl rfl dX7_readColour_58 ?_
      refine r_get (v := .ref atk) E h h_rd rfl inn_X7_readColour_7 3 (by decide) fl_X7_readColour_28 rfl dX7_readColour_59 ?_
      refine r_ldcS E hX.1 (i := 4) (tx := "fixed") (by decide +kernel) dX7_readColour_62 ?_
      refine r_callVkI E hX h (As := [.ref (cy (100 + 4))]) (rest := [.ref ard, .int (zI z_13), .ref arc]) (k_X9_isWord l 4 h_tk h_in htx hbm hL (by omega) (by decide)) h_tk rfl gX7_readColour_X9_isWord rfl hd_X9_isWord (by decide) ⟨by decide, by decide⟩ hl.1 rfl (Nat.le_of_ble_eq_true rfl) dX7_readColour_64 rfl (fun z_64 ws H locs hp h => ?_)
      obtain ⟨e_z_64, rfl⟩ := hp
      refine r_callVI E h (As := [.int (zI z_64)]) (rest := [.int (zI z_13), .ref arc]) (k_X7_skipIf l z_64 h_rd h_tk h_in htx hbm hL hqi (by omega) (by omega)) h_rd rfl gX7_readColour_X7_skipIf rfl hd_X7_skipIf (by decide) ⟨by decide, by decide⟩ hl.1 rfl (Nat.le_of_ble_eq_true rfl) dX7_readColour_67 rfl (fun z_67 ws H locs hp h => ?_)
      obtain ⟨p_67, e_67z, e_67, h_tk, hf⟩ := hp
      have h_rd := hf.at h_rd (by first | omega | (dsimp only <;> omega))
      have h_in := hf.at h_in (by first | omega | (dsimp only <;> omega))
      have h_rc := hf.at h_rc (by first | omega | (dsimp only <;> omega))
      have h_rcp := hf.at h_rcp (by first | omega | (dsimp only <;> omega))
      have hE := hE.tr (hf.wk (fun j hj => by first | omega | (dsimp only at hj ⊢ <;> omega)))
      have hwd : (((pwrd bm L 4 (pC3 bm L (padv bm L 2 S))).1 = (pC3 bm L (padv bm L 2 S)).1 ∧ (pwrd bm L 4 (pC3 bm L (padv bm L 2 S))).2.1 = (pC3 bm L (padv bm L 2 S)).2.1 ∧ (pwrd bm L 4 (pC3 bm L (padv bm L 2 S))).2.2.1 = p_67 ∧ (pwrd bm L 4 (pC3 bm L (padv bm L 2 S))).2.2.2 = (pC3 bm L (padv bm L 2 S)).2.2.2) ∧ z_67 = pwb bm L 4 (pC3 bm L (padv bm L 2 S)) ∧ (z_67 = 0 ∨ z_67 = 1)) := by
        rcases e_z_64 with ⟨q1, q2⟩ | ⟨q1, q2⟩
        · obtain ⟨q3, q4⟩ := pwrd_y h0 q2
          rcases e_67 with ⟨q5, q6⟩ | ⟨q5, q6⟩
          · rw [q3, q4, q6, tk_wE (by decide) hgp.2 q2]
            exact ⟨⟨rfl, rfl, rfl, rfl⟩, by omega, by omega⟩
          · exact absurd q5 (by omega)
        · obtain ⟨q3, q4⟩ := pwrd_n q2
          rcases e_67 with ⟨q5, q6⟩ | ⟨q5, q6⟩
          · exact absurd q5 (by omega)
          · rw [q3, q4, q6]
            exact ⟨⟨rfl, rfl, rfl, rfl⟩, by omega, by omega⟩
      clear e_67
      obtain ⟨⟨w1, w2, w3, w4⟩, hwb, hw01⟩ := hwd
      rw [← w3] at h_tk
      have hWD : (pwrd bm L 4 (pC3 bm L (padv bm L 2 S))).1 = 0 := w1.trans h0
      have hCC : (pCol bm L (padv bm L 2 S)).1 = 0 := (pset_1 hWD).trans hWD
      have hrowC : (pCol bm L (padv bm L 2 S)).2.2.2 = uZ (uZ S.2.2.2 (29 + z_13) (z_32 + 1)) (70 + z_13) z_67 := by
        refine (pset_4 hWD).trans ?_
        rw [w4, hrow3, ← hwb, ← hzx, ← hzc]
      have h_rd : ws[qr]? = some (ard, .inr (7, [.int (zI ((pCol bm L (padv bm L 2 S)).1)), .int (zI ((pCol bm L (padv bm L 2 S)).2.1)), .ref arc, .ref atk, .int (zI (S.2.2.2 0)), .int (zI (S.2.2.2 1)), .ref arl, .int (zI rt9), .ref apg, .int (zI n9)])) := by rw [show (pCol bm L (padv bm L 2 S)).1 = (pC3 bm L (padv bm L 2 S)).1 from (pset_1 hWD).trans w1, show (pCol bm L (padv bm L 2 S)).2.1 = (pC3 bm L (padv bm L 2 S)).2.1 from pset_2.trans w2]; exact h_rd
      have h_tk : ws[qr + 3]? = some (atk, .inr (9, [.int (zI (tkK bm L ((pCol bm L (padv bm L 2 S)).2.2.1))), .int (zI ((pCol bm L (padv bm L 2 S)).2.2.1)), .int (zI (tkV bm L ((pCol bm L (padv bm L 2 S)).2.2.1))), .ref ain, .int (zI L), .int (zI (tkE bm L ((pCol bm L (padv bm L 2 S)).2.2.1)))])) := by rw [show (pCol bm L (padv bm L 2 S)).2.2.1 = (pwrd bm L 4 (pC3 bm L (padv bm L 2 S))).2.2.1 from pset_3]; exact h_tk
      refine r_callVV E h (As := [.int (zI z_13), .int (zI z_67)]) (rest := []) (k_X0_fix l z_13 z_67 h_rc h_rcp (by omega) (by omega) (by omega)) h_rc rfl gX7_readColour_X0_fix rfl hd_X0_fix (by decide) ⟨by decide, by decide⟩ hl.1 rfl (Nat.le_of_ble_eq_true rfl) dX7_readColour_70 rfl (fun ws H locs hp h => ?_)
      obtain ⟨h_rc, hf⟩ := hp
      have h_rd := hf.at h_rd (by first | omega | (dsimp only <;> omega))
      have h_tk := hf.at h_tk (by first | omega | (dsimp only <;> omega))
      have h_in := hf.at h_in (by first | omega | (dsimp only <;> omega))
      have h_rcp := hf.at h_rcp (by first | omega | (dsimp only <;> omega))
      have hE := hE.tr (hf.wk (fun j hj => by first | omega | (dsimp only at hj ⊢ <;> omega)))
      refine r_iconst E dX7_readColour_73 ?_
      exact r_zret E h (by omega) (by
  have e0 : (pCol bm L (padv bm L 2 S)).2.2.2 0 = S.2.2.2 0 := by rw [hrowC, uZ_n (by omega), uZ_n (by omega)]
  refine ⟨_, _, _, Or.inl ⟨rfl, hCC, rfl, ⟨?_, ?_⟩, z_13, _, _, by omega, hrowC⟩, h_rd, h_rc, h_rcp, h_tk, hE⟩
  · rw [e0]
    exact fmk_congr (fun x x1 x2 => by
      show uZ (fx S.2.2.2) z_13 z_67 x = 1 ↔ (pCol bm L (padv bm L 2 S)).2.2.2 (70 + x) = 1
      rw [hrowC]
      by_cases q : x = z_13
      · rw [q, uZ_s, uZ_s]
      · rw [uZ_n q, uZ_n (by omega), uZ_n (by omega)]; exact Iff.rfl)
  · rw [e0]
    exact funext fun c => mk_congr (fun x x1 x2 => by
      show uZ (cl S.2.2.2) z_13 (z_32 + 1) x = c + 1 ↔ (pCol bm L (padv bm L 2 S)).2.2.2 (29 + x) = c + 1
      rw [hrowC]
      by_cases q : x = z_13
      · rw [q, uZ_s, uZ_n (by omega), uZ_s]
      · rw [uZ_n q, uZ_n (by omega), uZ_n (by omega)]; exact Iff.rfl)) dX7_readColour_74
    · skip
      refine r_iconst E dX7_readColour_41 ?_
      exact r_zret E h (by omega) (by
  have hb : (pnum bm L 0 (S.2.2.2 1 - 1) (pnum bm L 1 (S.2.2.2 0) (padv bm L 2 S))).1 ≠ 0 := by omega
  rw [(show pCol bm L (padv bm L 2 S) = pnum bm L 0 (S.2.2.2 1 - 1) (pnum bm L 1 (S.2.2.2 0) (padv bm L 2 S)) from by
    rw [pCol_bad (by show (pnum bm L 0 (S.2.2.2 1 - 1) (pnum bm L 1 (S.2.2.2 0) (padv bm L 2 S))).1 ≠ 0; exact hb)]
    rfl)]
  exact ⟨_, _, _, Or.inr ⟨rfl, hb⟩, h_rd, h_rc, h_rcp, h_tk, hE⟩) dX7_readColour_42
  · skip
    refine r_iconst E dX7_readColour_22 ?_
    exact r_zret E h (by omega) (by
  have hb : (pnum bm L 1 (S.2.2.2 0) (padv bm L 2 S)).1 ≠ 0 := by omega
  rw [(show pCol bm L (padv bm L 2 S) = pnum bm L 1 (S.2.2.2 0) (padv bm L 2 S) from by
    rw [pCol_bad (by show (pnum bm L 0 (S.2.2.2 1 - 1) (pnum bm L 1 (S.2.2.2 0) (padv bm L 2 S))).1 ≠ 0; rw [pnum_b hb]; exact hb)]
    exact pnum_b hb)]
  exact ⟨_, _, _, Or.inr ⟨rfl, hb⟩, h_rd, h_rc, h_rcp, h_tk, hE⟩) dX7_readColour_23
def SQ (cy : Nat → ClassId) (ws0 : va_W) (qr ard arc arp9 atk arl apg ain : Nat) (bm : Int → Int) (L : Int) (B0 : Nat) (R : PSt) (z : Int) (u : va_W) : Prop := ∃ (p2 nm2 cs2 rt2 n2 : Int) (F2 : Int64) (P2 : Int → Int64) (rl2 : Int → Option Nat) (pg2 : Int → Int), (z = 1 ∧ (R).1 = 0 ∧ p2 = (R).2.2.1 ∧ GR u B0 (R).2.2.2 F2 P2 nm2 cs2 rt2 n2 rl2 pg2 ∨ z = 0 ∧ (R).1 ≠ 0) ∧ u[qr]? = some (ard, .inr (7, [.int (zI ((R).1)), .int (zI ((R).2.1)), .ref arc, .ref atk, .int (zI nm2), .int (zI cs2), .ref arl, .int (zI rt2), .ref apg, .int (zI n2)])) ∧ u[qr + 1]? = some (arc, .inr (0, [.ref arp9, .long F2])) ∧ u[qr + 2]? = some (arp9, aL cy 4 P2) ∧ u[qr + 3]? = some (atk, .inr (9, [.int (zI (tkK bm L p2)), .int (zI p2), .int (zI (tkV bm L p2)), .ref ain, .int (zI L), .int (zI (tkE bm L p2))])) ∧ u[qr + 5]? = some (arl, aR cy 4 4 rl2) ∧ u[qr + 6]? = some (apg, aI cy 600 pg2) ∧ Eqx ws0 u (fun j => qr ≤ j ∧ j < qr + 7)
theorem hd_X7_readStatement : yX7_readStatement.cls = RX7 ∧ yX7_readStatement.cls ≠ "java/lang/invoke/MethodHandle" ∧ yX7_readStatement.cls ≠ "java/lang/invoke/VarHandle" ∧ (parseMethodDescriptor yX7_readStatement.desc).map (fun d => d.parameters.length) = some 0 := by decide +kernel
theorem fl_X7_readStatement_28 : Cond.fieldLink RX7 28 (TX7 3).1 (TX7 3).2.1 (TX7 3).2.2.1 ∈ wsX7_readStatement := List.mem_of_getElem? (i := 1) rfl
theorem inn_X7_readStatement_7 : ∀ w ∈ wsX70, w ∈ wsX7_readStatement := fun _ h => List.mem_cons_of_mem _ (List.mem_append_left _ (List.mem_append_left _ (List.mem_append_left _ (List.mem_append_right _ h))))
theorem fl_X7_readStatement_51 : Cond.fieldLink RX7 51 (TX7 9).1 (TX7 9).2.1 (TX7 9).2.2.1 ∈ wsX7_readStatement := List.mem_of_getElem? (i := 2) rfl
abbrev rm_X7_readStatement : Room := { frames := 30, cells := 1, slots := 6, locals := 800 }
set_option maxHeartbeats 1200000 in
set_option maxRecDepth 100000 in
theorem k_X7_readStatement (l : Launch) {G : va_G} {cy : Nat → ClassId} {ws0 : va_W} {qr qi ard arc atk arl apg ain : Nat} {n9 : Int}{bu bm : Int → Int} {L : Int}{arp9 : Nat} {rlf : Int → Option Nat} {pgf : Int → Int} {S : PSt} {B0 : Nat} (h_rd : ws0[qr]? = some (ard, .inr (7, [.int (zI S.1), .int (zI S.2.1), .ref arc, .ref atk, .int (zI (S.2.2.2 0)), .int (zI (S.2.2.2 1)), .ref arl, .int (zI (S.2.2.2 2)), .ref apg, .int (zI n9)]))) (h_rc : ws0[qr + 1]? = some (arc, .inr (0, [.ref arp9, .long (fmk (S.2.2.2 0) (fx S.2.2.2))]))) (h_rcp : ws0[qr + 2]? = some (arp9, aL cy 4 (mk (S.2.2.2 0) (cl S.2.2.2)))) (h_tk : ws0[qr + 3]? = some (atk, .inr (9, [.int (zI (tkK bm L S.2.2.1)), .int (zI S.2.2.1), .int (zI (tkV bm L S.2.2.1)), .ref ain, .int (zI L), .int (zI (tkE bm L S.2.2.1))]))) (h_in : ws0[qi]? = some (ain, aB cy 600 bu)) (h_rl : ws0[qr + 5]? = some (arl, aR cy 4 4 rlf)) (h_pg : ws0[qr + 6]? = some (apg, aI cy 600 pgf)) (htx : TXok bm) (hbm : ∀ i : Int, bu i = sg (bm i)) (hL : 0 ≤ L ∧ L ≤ 600) (hqi : qi < qr ∨ qr + 7 ≤ qi) (h0 : S.1 = 0) (hG : PG L S) (hV : RV S.2.2.2) (hRU : RUL ws0 B0 rlf (S.2.2.2 2) S.2.2.2) (hPT : PT pgf n9 S.2.2.2) (hn3 : S.2.2.2 3 = 0 ∧ n9 = 0 ∨ S.2.2.2 3 = 1 ∧ 0 < n9 ∧ n9 < 600) (hB0 : qr + 7 ≤ B0 ∧ qi < B0 ∧ B0 ≤ ws0.length) : MIk l yX7_readStatement wsX7_readStatement rm_X7_readStatement G cy [.ref ard] ws0 (SQ cy ws0 qr ard arc arp9 atk arl apg ain bm L B0 (pStm bm L S)) := by
  refine MIk.of (own := RX7) (cc := cX7_readStatement) (nL := 2) (ret := (some .boolean)) (by decide) rfl rfl (Nat.le_of_ble_eq_true rfl) ?_
  intro p e s m below meth c A ls hX E h hl
  have hl : lv_has ls 2 [(0, .ref ard)] := hl
  have hE : Eqx ws0 ws0 (fun j => qr ≤ j ∧ j < qr + 7) := Eqx.rf
  have h0s := h0
  have hgp := (hG.2 h0).1
  have htr := tk_rng htx hgp.2
  have hvr := hV.r
  refine r_aload_n E 0 hl rfl dX7_readStatement_0 ?_
  refine r_get (v := .ref atk) E h h_rd rfl inn_X7_readStatement_7 3 (by decide) fl_X7_readStatement_28 rfl dX7_readStatement_1 ?_
  refine r_ldcS E hX.1 (i := 5) (tx := "equation") (by decide +kernel) dX7_readStatement_4 ?_
  refine r_callVkI E hX h (As := [.ref (cy (100 + 5))]) (rest := []) (k_X9_isWord l 5 h_tk h_in htx hbm hL (by omega) (by decide)) h_tk rfl gX7_readStatement_X9_isWord rfl hd_X9_isWord (by decide) ⟨by decide, by decide⟩ hl.1 rfl (Nat.le_of_ble_eq_true rfl) dX7_readStatement_6 rfl (fun z_6 ws H locs hp h => ?_)
  obtain ⟨e_z_6, rfl⟩ := hp
  refine r_if_eq E 20 dX7_readStatement_9 (by decide) (by omega) (fun c_9 => ?_) (fun c_9 => ?_)
  · skip
    have w5 : isW bm L S.2.2.1 (ST 5) = false := by
      rcases e_z_6 with q | q
      · exact absurd q.1 (by omega)
      · exact q.2
    refine r_aload_n E 0 hl rfl dX7_readStatement_20 ?_
    refine r_get (v := .ref atk) E h h_rd rfl inn_X7_readStatement_7 3 (by decide) fl_X7_readStatement_28 rfl dX7_readStatement_21 ?_
    refine r_ldcS E hX.1 (i := 6) (tx := "progression") (by decide +kernel) dX7_readStatement_24 ?_
    refine r_callVkI E hX h (As := [.ref (cy (100 + 6))]) (rest := []) (k_X9_isWord l 6 h_tk h_in htx hbm hL (by omega) (by decide)) h_tk rfl gX7_readStatement_X9_isWord rfl hd_X9_isWord (by decide) ⟨by decide, by decide⟩ hl.1 rfl (Nat.le_of_ble_eq_true rfl) dX7_readStatement_26 rfl (fun z_26 ws H locs hp h => ?_)
    obtain ⟨e_z_26, rfl⟩ := hp
    refine r_if_eq E 40 dX7_readStatement_29 (by decide) (by omega) (fun c_29 => ?_) (fun c_29 => ?_)
    · skip
      have w6 : isW bm L S.2.2.1 (ST 6) = false := by
        rcases e_z_26 with q | q
        · exact absurd q.1 (by omega)
        · exact q.2
      refine r_aload_n E 0 hl rfl dX7_readStatement_40 ?_
      refine r_get (v := .ref atk) E h h_rd rfl inn_X7_readStatement_7 3 (by decide) fl_X7_readStatement_28 rfl dX7_readStatement_41 ?_
      refine r_ldcS E hX.1 (i := 2) (tx := "colour") (by decide +kernel) dX7_readStatement_44 ?_
      refine r_callVkI E hX h (As := [.ref (cy (100 + 2))]) (rest := []) (k_X9_isWord l 2 h_tk h_in htx hbm hL (by omega) (by decide)) h_tk rfl gX7_readStatement_X9_isWord rfl hd_X9_isWord (by decide) ⟨by decide, by decide⟩ hl.1 rfl (Nat.le_of_ble_eq_true rfl) dX7_readStatement_46 rfl (fun z_46 ws H locs hp h => ?_)
      obtain ⟨e_z_46, rfl⟩ := hp
      refine r_if_eq E 60 dX7_readStatement_49 (by decide) (by omega) (fun c_49 => ?_) (fun c_49 => ?_)
      · skip
        have w2 : isW bm L S.2.2.1 (ST 2) = false := by
          rcases e_z_46 with q | q
          · exact absurd q.1 (by omega)
          · exact q.2
        refine r_aload_n E 0 hl rfl dX7_readStatement_60 ?_
        refine r_get (v := .ref atk) E h h_rd rfl inn_X7_readStatement_7 3 (by decide) fl_X7_readStatement_28 rfl dX7_readStatement_61 ?_
        refine r_ldcS E hX.1 (i := 7) (tx := "weight") (by decide +kernel) dX7_readStatement_64 ?_
        refine r_callVkI E hX h (As := [.ref (cy (100 + 7))]) (rest := []) (k_X9_isWord l 7 h_tk h_in htx hbm hL (by omega) (by decide)) h_tk rfl gX7_readStatement_X9_isWord rfl hd_X9_isWord (by decide) ⟨by decide, by decide⟩ hl.1 rfl (Nat.le_of_ble_eq_true rfl) dX7_readStatement_66 rfl (fun z_66 ws H locs hp h => ?_)
        obtain ⟨e_z_66, rfl⟩ := hp
        refine r_if_eq E 95 dX7_readStatement_69 (by decide) (by omega) (fun c_69 => ?_) (fun c_69 => ?_)
        · skip
          have w7 : isW bm L S.2.2.1 (ST 7) = false := by
            rcases e_z_66 with q | q
            · exact absurd q.1 (by omega)
            · exact q.2
          skip
          refine r_aload_n E 0 hl rfl dX7_readStatement_95 ?_
          refine r_bipush E dX7_readStatement_96 (by decide) ?_
          refine r_callVI E h (As := [.int (zI (-2))]) (rest := []) (k_X7_fail l (-2) h_rd h_tk) h_rd rfl gX7_readStatement_X7_fail rfl hd_X7_fail (by decide) ⟨by decide, by decide⟩ hl.1 rfl (Nat.le_of_ble_eq_true rfl) dX7_readStatement_98 rfl (fun z_98 ws H locs hp h => ?_)
          obtain ⟨rfl, h_rd, hf⟩ := hp
          have h_rc := hf.at h_rc (by first | omega | (dsimp only <;> omega))
          have h_rcp := hf.at h_rcp (by first | omega | (dsimp only <;> omega))
          have h_tk := hf.at h_tk (by first | omega | (dsimp only <;> omega))
          have h_in := hf.at h_in (by first | omega | (dsimp only <;> omega))
          have h_rl := hf.at h_rl (by first | omega | (dsimp only <;> omega))
          have h_pg := hf.at h_pg (by first | omega | (dsimp only <;> omega))
          have hE := hE.tr (hf.wk (fun j hj => by first | omega | (dsimp only at hj ⊢ <;> omega)))
          refine r_istore_n (lv' := [(1, .int (zI 0)), (0, .ref ard)]) E hl dX7_readStatement_101 rfl (by decide) rfl (fun ls hl => ?_)
          refine r_iload_n E 0 hl rfl dX7_readStatement_102 ?_
          refine r_if_eq E 119 dX7_readStatement_103 (by decide) (by omega) (fun c_103 => ?_) (fun c_103 => ?_)
          · skip
            refine r_iconst E dX7_readStatement_119 ?_
            refine W.widen (k := 1) (n := 6) (by decide) (by decide) ?_
            exact r_zret E h (by omega) (by
  have hb : (((-2, S.2.2.1, S.2.2.1, S.2.2.2) : PSt)).1 ≠ 0 := by show (-2 : Int) ≠ 0; decide
  rw [show pStm bm L S = pexp bm L 59 (((-2, S.2.2.1, S.2.2.1, S.2.2.2) : PSt)) from congrArg (pexp bm L 59) ((pStB_4 w5 w6 w2 w7).trans (prep_g h0)), pexp_bad hb]
  exact ⟨_, _, _, _, _, _, _, _, _, Or.inr ⟨rfl, hb⟩, h_rd, h_rc, h_rcp, h_tk, h_rl, h_pg, hE⟩) dX7_readStatement_120
          · skip
            exfalso; omega
        · skip
          have w7 : isW bm L S.2.2.1 (ST 7) = true := by
            rcases e_z_66 with q | q
            · exact q.2
            · exact absurd q.1 (by omega)
          refine r_aload_n E 0 hl rfl dX7_readStatement_72 ?_
          refine r_get (v := .int (zI n9)) E h h_rd rfl inn_X7_readStatement_7 9 (by decide) fl_X7_readStatement_51 rfl dX7_readStatement_73 ?_
          refine r_if_ne E 95 dX7_readStatement_76 (by decide) (by omega) (fun c_76 => ?_) (fun c_76 => ?_)
          · skip
            skip
            refine r_aload_n E 0 hl rfl dX7_readStatement_95 ?_
            refine r_bipush E dX7_readStatement_96 (by decide) ?_
            refine r_callVI E h (As := [.int (zI (-2))]) (rest := []) (k_X7_fail l (-2) h_rd h_tk) h_rd rfl gX7_readStatement_X7_fail rfl hd_X7_fail (by decide) ⟨by decide, by decide⟩ hl.1 rfl (Nat.le_of_ble_eq_true rfl) dX7_readStatement_98 rfl (fun z_98 ws H locs hp h => ?_)
            obtain ⟨rfl, h_rd, hf⟩ := hp
            have h_rc := hf.at h_rc (by first | omega | (dsimp only <;> omega))
            have h_rcp := hf.at h_rcp (by first | omega | (dsimp only <;> omega))
            have h_tk := hf.at h_tk (by first | omega | (dsimp only <;> omega))
            have h_in := hf.at h_in (by first | omega | (dsimp only <;> omega))
            have h_rl := hf.at h_rl (by first | omega | (dsimp only <;> omega))
            have h_pg := hf.at h_pg (by first | omega | (dsimp only <;> omega))
            have hE := hE.tr (hf.wk (fun j hj => by first | omega | (dsimp only at hj ⊢ <;> omega)))
            refine r_istore_n (lv' := [(1, .int (zI 0)), (0, .ref ard)]) E hl dX7_readStatement_101 rfl (by decide) rfl (fun ls hl => ?_)
            refine r_iload_n E 0 hl rfl dX7_readStatement_102 ?_
            refine r_if_eq E 119 dX7_readStatement_103 (by decide) (by omega) (fun c_103 => ?_) (fun c_103 => ?_)
            · skip
              refine r_iconst E dX7_readStatement_119 ?_
              refine W.widen (k := 1) (n := 6) (by decide) (by decide) ?_
              exact r_zret E h (by omega) (by
  have hb : (((-2, S.2.2.1, (padv bm L 7 S).2.2.1, S.2.2.2) : PSt)).1 ≠ 0 := by show (-2 : Int) ≠ 0; decide
  rw [show pStm bm L S = pexp bm L 59 (((-2, S.2.2.1, (padv bm L 7 S).2.2.1, S.2.2.2) : PSt)) from congrArg (pexp bm L 59) ((pStB_3 w5 w6 w2 w7).trans (pWt_4 (S := padv bm L 7 S) h0 (by show S.2.2.2 3 = 1; omega))), pexp_bad hb]
  exact ⟨_, _, _, _, _, _, _, _, _, Or.inr ⟨rfl, hb⟩, h_rd, h_rc, h_rcp, h_tk, h_rl, h_pg, hE⟩) dX7_readStatement_120
            · skip
              exfalso; omega
          · skip
            refine r_aload_n E 0 hl rfl dX7_readStatement_79 ?_
            refine r_get (v := .ref atk) E h h_rd rfl inn_X7_readStatement_7 3 (by decide) fl_X7_readStatement_28 rfl dX7_readStatement_80 ?_
            refine r_callVV E h (As := []) (rest := []) (k_X9_advance l h_tk h_in htx hbm hL (by omega) (by omega)) h_tk rfl gX7_readStatement_X9_advance rfl hd_X9_advance (by decide) ⟨by decide, by decide⟩ hl.1 rfl (Nat.le_of_ble_eq_true rfl) dX7_readStatement_83 rfl (fun ws H locs hp h => ?_)
            obtain ⟨h_tk, hf⟩ := hp
            have h_rd := hf.at h_rd (by first | omega | (dsimp only <;> omega))
            have h_rc := hf.at h_rc (by first | omega | (dsimp only <;> omega))
            have h_rcp := hf.at h_rcp (by first | omega | (dsimp only <;> omega))
            have h_in := hf.at h_in (by first | omega | (dsimp only <;> omega))
            have h_rl := hf.at h_rl (by first | omega | (dsimp only <;> omega))
            have h_pg := hf.at h_pg (by first | omega | (dsimp only <;> omega))
            have hE := hE.tr (hf.wk (fun j hj => by first | omega | (dsimp only at hj ⊢ <;> omega)))
            rw [tk_wE (by decide) hgp.2 w7] at h_tk
            have h_tk : ws[qr + 3]? = some (atk, .inr (9, [.int (zI (tkK bm L ((((0, S.2.1, (padv bm L 7 S).2.2.1, uZ S.2.2.2 3 1) : PSt)).2.2.1))), .int (zI ((((0, S.2.1, (padv bm L 7 S).2.2.1, uZ S.2.2.2 3 1) : PSt)).2.2.1)), .int (zI (tkV bm L ((((0, S.2.1, (padv bm L 7 S).2.2.1, uZ S.2.2.2 3 1) : PSt)).2.2.1))), .ref ain, .int (zI L), .int (zI (tkE bm L ((((0, S.2.1, (padv bm L 7 S).2.2.1, uZ S.2.2.2 3 1) : PSt)).2.2.1)))])) := h_tk
            have h0s := h0
            rw [h0] at h_rd
            have h_rd : ws[qr]? = some (ard, .inr (7, [.int (zI ((((0, S.2.1, (padv bm L 7 S).2.2.1, uZ S.2.2.2 3 1) : PSt)).1)), .int (zI ((((0, S.2.1, (padv bm L 7 S).2.2.1, uZ S.2.2.2 3 1) : PSt)).2.1)), .ref arc, .ref atk, .int (zI (S.2.2.2 0)), .int (zI (S.2.2.2 1)), .ref arl, .int (zI (S.2.2.2 2)), .ref apg, .int (zI n9)])) := h_rd
            have hg7 := (padv_PL hG h0 (by decide) w7).1.2 h0
            have hGw : PG L ((0, S.2.1, (padv bm L 7 S).2.2.1, uZ S.2.2.2 3 1) : PSt) := ⟨by show -10 ≤ (0 : Int) ∧ (0 : Int) ≤ 0; omega, fun _ => ⟨hg7.1, by show 0 ≤ uZ S.2.2.2 3 1 4; rw [uZ_n (by omega)]; exact hg7.2⟩⟩
            have h30 : S.2.2.2 3 = 0 ∧ n9 = 0 := by omega
            have hPTw : PT pgf n9 (uZ S.2.2.2 3 1) := hPT.cg (uZ_n (by omega)) (fun j q => uZ_n (by omega))
            have hgl := hg7.1
            refine r_aload_n E 0 hl rfl dX7_readStatement_86 ?_
            refine r_iconst E dX7_readStatement_87 ?_
            refine r_callVkI E hX h (As := [.int (zI 0)]) (rest := []) ((pc7_all l G cy 4).2.2 (S := ((0, S.2.1, (padv bm L 7 S).2.2.1, uZ S.2.2.2 3 1) : PSt)) (k9 := 0) (f := 4000) h_rd h_tk h_in h_pg htx hbm hL hqi rfl hGw (by show 0 ≤ n9 ∧ n9 + 0 ≤ (padv bm L 7 S).2.2.1 ∧ _; omega) hPTw (by decide) (by show 6 * (L - (padv bm L 7 S).2.2.1) + 5 < _; omega)) h_rd rfl gX7_readStatement_X7_readSum rfl hd_X7_readSum (by decide) ⟨by decide, by decide⟩ hl.1 rfl (Nat.le_of_ble_eq_true rfl) dX7_readStatement_88 rfl (fun z_88 ws H locs hp h => ?_)
            obtain ⟨p_88, n_88, g_88, e_88, h_rd, h_tk, h_pg, hf⟩ := hp
            have hz_88 : z_88 = 0 ∨ z_88 = 1 := by rcases e_88 with q | q <;> first | exact Or.inr q.1 | exact Or.inl q.1
            replace e_88 := hid_in e_88
            have h_rc := hf.at h_rc (by first | omega | (dsimp only <;> omega))
            have h_rcp := hf.at h_rcp (by first | omega | (dsimp only <;> omega))
            have h_in := hf.at h_in (by first | omega | (dsimp only <;> omega))
            have h_rl := hf.at h_rl (by first | omega | (dsimp only <;> omega))
            have hE := hE.tr (hf.wk (fun j hj => by first | omega | (dsimp only at hj ⊢ <;> omega)))
            refine r_istore_n (lv' := [(1, .int (zI z_88)), (0, .ref ard)]) E hl dX7_readStatement_91 rfl (by decide) rfl (fun ls hl => ?_)
            refine r_goto E 102 dX7_readStatement_92 (by decide) ?_
            refine r_iload_n E 0 hl rfl dX7_readStatement_102 ?_
            refine r_if_eq E 119 dX7_readStatement_103 (by decide) (by omega) (fun c_103 => ?_) (fun c_103 => ?_)
            · skip
              refine r_iconst E dX7_readStatement_119 ?_
              refine W.widen (k := 1) (n := 6) (by decide) (by decide) ?_
              exact r_zret E h (by omega) (by
  have hb : (pP bm L 4000 3 0 ((0, S.2.1, (padv bm L 7 S).2.2.1, uZ S.2.2.2 3 1) : PSt)).1 ≠ 0 := by
    rcases hid_out e_88 with q | q
    · exact absurd q.1 (by omega)
    · exact q.2
  rw [show pStm bm L S = pexp bm L 59 (pP bm L 4000 3 0 ((0, S.2.1, (padv bm L 7 S).2.2.1, uZ S.2.2.2 3 1) : PSt)) from congrArg (pexp bm L 59) ((pStB_3 w5 w6 w2 w7).trans (pWt_n (S := padv bm L 7 S) h0s (by show S.2.2.2 3 ≠ 1; omega))), pexp_bad hb]
  exact ⟨_, _, _, _, _, _, _, _, _, Or.inr ⟨rfl, hb⟩, h_rd, h_rc, h_rcp, h_tk, h_rl, h_pg, hE⟩) dX7_readStatement_120
            · skip
              rcases hid_out e_88 with ⟨q0, h0, ep9, hn9, hPT9⟩ | q
              rotate_left
              · exact absurd q.1 (by omega)
              rw [ep9] at h_tk
              have hRUk := hRU.keep hE (fun j q1 q2 => by first | omega | (dsimp only at q2; omega))
              have hG : PG L (pP bm L 4000 3 0 ((0, S.2.1, (padv bm L 7 S).2.2.1, uZ S.2.2.2 3 1) : PSt)) := (pP_PL (t := bm) 4000 3 0 _ hGw (fun _ => by show 6 * (L - (padv bm L 7 S).2.2.1) + 5 < _; omega) (by decide)).1
              have hgp := (hG.2 h0).1
              have htr := tk_rng htx hgp.2
              refine r_aload_n E 1 hl rfl dX7_readStatement_106 ?_
              refine r_bipush E dX7_readStatement_107 (by decide) ?_
              refine r_callVI E h (As := [.int (zI 59)]) (rest := []) (k_X7_takeSign (S := pP bm L 4000 3 0 ((0, S.2.1, (padv bm L 7 S).2.2.1, uZ S.2.2.2 3 1) : PSt)) l 59 h_rd h_tk h_in htx hbm hL hqi h0 hG (by omega)) h_rd rfl gX7_readStatement_X7_takeSign rfl hd_X7_takeSign (by decide) ⟨by decide, by decide⟩ hl.1 rfl (Nat.le_of_ble_eq_true rfl) dX7_readStatement_109 rfl (fun z_109 ws H locs hp h => ?_)
              obtain ⟨p_109, e_109, h_rd, h_tk, hf⟩ := hp
              have h_rc := hf.at h_rc (by first | omega | (dsimp only <;> omega))
              have h_rcp := hf.at h_rcp (by first | omega | (dsimp only <;> omega))
              have h_in := hf.at h_in (by first | omega | (dsimp only <;> omega))
              have h_rl := hf.at h_rl (by first | omega | (dsimp only <;> omega))
              have h_pg := hf.at h_pg (by first | omega | (dsimp only <;> omega))
              have hf2 := hf
              have hE := hE.tr (hf.wk (fun j hj => by first | omega | (dsimp only at hj ⊢ <;> omega)))
              refine r_if_eq E 119 dX7_readStatement_112 (by decide) (by omega) (fun c_112 => ?_) (fun c_112 => ?_)
              · skip
                refine r_iconst E dX7_readStatement_119 ?_
                refine W.widen (k := 1) (n := 6) (by decide) (by decide) ?_
                exact r_zret E h (by omega) (by
  have hb1 : (pexp bm L 59 (pP bm L 4000 3 0 ((0, S.2.1, (padv bm L 7 S).2.2.1, uZ S.2.2.2 3 1) : PSt))).1 ≠ 0 := by omega
  rw [show pStm bm L S = pexp bm L 59 (pP bm L 4000 3 0 ((0, S.2.1, (padv bm L 7 S).2.2.1, uZ S.2.2.2 3 1) : PSt)) from congrArg (pexp bm L 59) ((pStB_3 w5 w6 w2 w7).trans (pWt_n (S := padv bm L 7 S) h0s (by show S.2.2.2 3 ≠ 1; omega)))]
  exact ⟨_, _, _, _, _, _, _, _, _, Or.inr ⟨rfl, hb1⟩, h_rd, h_rc, h_rcp, h_tk, h_rl, h_pg, hE⟩) dX7_readStatement_120
              · skip
                refine r_iconst E dX7_readStatement_115 ?_
                refine r_goto E 120 dX7_readStatement_116 (by decide) ?_
                refine W.widen (k := 1) (n := 6) (by decide) (by decide) ?_
                exact r_zret E h (by omega) (by
  have h1 : (pexp bm L 59 (pP bm L 4000 3 0 ((0, S.2.1, (padv bm L 7 S).2.2.1, uZ S.2.2.2 3 1) : PSt))).1 = 0 := by omega
  have ep1 : p_109 = (pexp bm L 59 (pP bm L 4000 3 0 ((0, S.2.1, (padv bm L 7 S).2.2.1, uZ S.2.2.2 3 1) : PSt))).2.2.1 := by omega
  have hst : pStm bm L S = pexp bm L 59 (pP bm L 4000 3 0 ((0, S.2.1, (padv bm L 7 S).2.2.1, uZ S.2.2.2 3 1) : PSt)) := congrArg (pexp bm L 59) ((pStB_3 w5 w6 w2 w7).trans (pWt_n (S := padv bm L 7 S) h0s (by show S.2.2.2 3 ≠ 1; omega)))
  rw [hst]
  rw [ep1] at h_tk
  refine ⟨_, _, _, _, _, _, _, _, _, Or.inl ⟨rfl, h1, rfl, ?_⟩, h_rd, h_rc, h_rcp, h_tk, h_rl, h_pg, hE⟩
  exact (by
    have hrow := (pexp_0 h1).2
    rw [hrow]
    obtain ⟨T9, hLC, _, hne⟩ := pP_T (t := bm) 4000 3 0 _ hGw rfl (by show 6 * (L - (padv bm L 7 S).2.2.1) + 5 < _; omega) (by decide) (by decide) h0
    have h4z : (uZ S.2.2.2 3 1) 4 = 0 := by rw [uZ_n (by omega)]; exact hV.2.2.1 h30.1
    have hfr : ∀ j : Int, j ≠ 3 → j ≠ 4 → j < 111 → (pP bm L 4000 3 0 ((0, S.2.1, (padv bm L 7 S).2.2.1, uZ S.2.2.2 3 1) : PSt)).2.2.2 j = S.2.2.2 j := fun j a b c => by
      rw [hLC.2 j b (by show j < 111 + (uZ S.2.2.2 3 1) 4; omega)]
      exact uZ_n a
    have h31 : (pP bm L 4000 3 0 ((0, S.2.1, (padv bm L 7 S).2.2.1, uZ S.2.2.2 3 1) : PSt)).2.2.2 3 = 1 := by
      rw [hLC.2 3 (by omega) (by show (3 : Int) < 111 + (uZ S.2.2.2 3 1) 4; omega)]
      show uZ S.2.2.2 3 1 3 = 1
      exact uZ_s
    have hm := msk_cg (g := S.2.2.2) (e := (pP bm L 4000 3 0 ((0, S.2.1, (padv bm L 7 S).2.2.1, uZ S.2.2.2 3 1) : PSt)).2.2.2) (hfr 0 (by omega) (by omega) (by omega)) (fun j a b => hfr j (by omega) (by omega) (by omega)) (by omega)
    have hnp : 0 < n_88 := by
      obtain ⟨_, T8, y1, y2, _⟩ := hPT9
      have h8 : CE (pP bm L 4000 3 0 ((0, S.2.1, (padv bm L 7 S).2.2.1, uZ S.2.2.2 3 1) : PSt)).2.2.2 0 T9 ((pP bm L 4000 3 0 ((0, S.2.1, (padv bm L 7 S).2.2.1, uZ S.2.2.2 3 1) : PSt)).2.2.2 4) := by
        have := hLC.1
        rw [show (((0, S.2.1, (padv bm L 7 S).2.2.1, uZ S.2.2.2 3 1) : PSt)).2.2.2 4 = 0 from h4z] at this
        exact this
      have e8 := CE.uniq T8 T9 _ _ y2 h8
      have h9 : T9.length ≠ 0 := fun q => hne rfl (List.length_eq_zero_iff.mp q)
      rw [e8] at y1
      omega
    exact ⟨(hfr 0 (by omega) (by omega) (by omega)).symm, (hfr 1 (by omega) (by omega) (by omega)).symm, (hfr 2 (by omega) (by omega) (by omega)).symm, hm.1.symm, hm.2.symm, (hRUk.cg (fun j a b => hfr j (by omega) (by omega) (by omega))).keep hf2 (fun j q1 q2 => by first | omega | (dsimp only at q2; omega)), hPT9, Or.inr ⟨h31, hnp, by have hby := pexp_c h1; have hlt := byA_in (t := bm) (L := L) (p := (pP bm L 4000 3 0 ((0, S.2.1, (padv bm L 7 S).2.2.1, uZ S.2.2.2 3 1) : PSt)).2.2.1) (by omega); omega⟩⟩)) dX7_readStatement_120
      · skip
        have w2 : isW bm L S.2.2.1 (ST 2) = true := by
          rcases e_z_46 with q | q
          · exact q.2
          · exact absurd q.1 (by omega)
        refine r_aload_n E 0 hl rfl dX7_readStatement_52 ?_
        refine r_callVkI E hX h (As := []) (rest := []) (k_X7_readColour (S := S) l h_rd h_tk h_in h_rc h_rcp htx hbm hL hqi h0 hG hV w2) h_rd rfl gX7_readStatement_X7_readColour rfl hd_X7_readColour (by decide) ⟨by decide, by decide⟩ hl.1 rfl (Nat.le_of_ble_eq_true rfl) dX7_readStatement_53 rfl (fun z_53 ws H locs hp h => ?_)
        obtain ⟨p_53, F_53, P_53, e_53, h_rd, h_rc, h_rcp, h_tk, hf⟩ := hp
        have hz_53 : z_53 = 0 ∨ z_53 = 1 := by rcases e_53 with q | q <;> first | exact Or.inr q.1 | exact Or.inl q.1
        replace e_53 := hid_in e_53
        have h_in := hf.at h_in (by first | omega | (dsimp only <;> omega))
        have h_rl := hf.at h_rl (by first | omega | (dsimp only <;> omega))
        have h_pg := hf.at h_pg (by first | omega | (dsimp only <;> omega))
        have hE := hE.tr (hf.wk (fun j hj => by first | omega | (dsimp only at hj ⊢ <;> omega)))
        refine r_istore_n (lv' := [(1, .int (zI z_53)), (0, .ref ard)]) E hl dX7_readStatement_56 rfl (by decide) rfl (fun ls hl => ?_)
        refine r_goto E 102 dX7_readStatement_57 (by decide) ?_
        refine r_iload_n E 0 hl rfl dX7_readStatement_102 ?_
        refine r_if_eq E 119 dX7_readStatement_103 (by decide) (by omega) (fun c_103 => ?_) (fun c_103 => ?_)
        · skip
          refine r_iconst E dX7_readStatement_119 ?_
          refine W.widen (k := 1) (n := 6) (by decide) (by decide) ?_
          exact r_zret E h (by omega) (by
  have hb : (pCol bm L (padv bm L 2 S)).1 ≠ 0 := by
    rcases hid_out e_53 with q | q
    · exact absurd q.1 (by omega)
    · exact q.2
  rw [show pStm bm L S = pexp bm L 59 (pCol bm L (padv bm L 2 S)) from congrArg (pexp bm L 59) (pStB_2 w5 w6 w2), pexp_bad hb]
  exact ⟨_, _, _, _, _, _, _, _, _, Or.inr ⟨rfl, hb⟩, h_rd, h_rc, h_rcp, h_tk, h_rl, h_pg, hE⟩) dX7_readStatement_120
        · skip
          rcases hid_out e_53 with ⟨q0, h0, ep9, ⟨hF9, hP9⟩, hcx⟩ | q
          rotate_left
          · exact absurd q.1 (by omega)
          rw [ep9] at h_tk
          have hRUk := hRU.keep hE (fun j q1 q2 => by first | omega | (dsimp only at q2; omega))
          have hG : PG L (pCol bm L (padv bm L 2 S)) := (PL.col (padv_PL hG h0s (by decide) w2).1).1
          have hgp := (hG.2 h0).1
          have htr := tk_rng htx hgp.2
          refine r_aload_n E 1 hl rfl dX7_readStatement_106 ?_
          refine r_bipush E dX7_readStatement_107 (by decide) ?_
          refine r_callVI E h (As := [.int (zI 59)]) (rest := []) (k_X7_takeSign (S := pCol bm L (padv bm L 2 S)) l 59 h_rd h_tk h_in htx hbm hL hqi h0 hG (by omega)) h_rd rfl gX7_readStatement_X7_takeSign rfl hd_X7_takeSign (by decide) ⟨by decide, by decide⟩ hl.1 rfl (Nat.le_of_ble_eq_true rfl) dX7_readStatement_109 rfl (fun z_109 ws H locs hp h => ?_)
          obtain ⟨p_109, e_109, h_rd, h_tk, hf⟩ := hp
          have h_rc := hf.at h_rc (by first | omega | (dsimp only <;> omega))
          have h_rcp := hf.at h_rcp (by first | omega | (dsimp only <;> omega))
          have h_in := hf.at h_in (by first | omega | (dsimp only <;> omega))
          have h_rl := hf.at h_rl (by first | omega | (dsimp only <;> omega))
          have h_pg := hf.at h_pg (by first | omega | (dsimp only <;> omega))
          have hf2 := hf
          have hE := hE.tr (hf.wk (fun j hj => by first | omega | (dsimp only at hj ⊢ <;> omega)))
          refine r_if_eq E 119 dX7_readStatement_112 (by decide) (by omega) (fun c_112 => ?_) (fun c_112 => ?_)
          · skip
            refine r_iconst E dX7_readStatement_119 ?_
            refine W.widen (k := 1) (n := 6) (by decide) (by decide) ?_
            exact r_zret E h (by omega) (by
  have hb1 : (pexp bm L 59 (pCol bm L (padv bm L 2 S))).1 ≠ 0 := by omega
  rw [show pStm bm L S = pexp bm L 59 (pCol bm L (padv bm L 2 S)) from congrArg (pexp bm L 59) (pStB_2 w5 w6 w2)]
  exact ⟨_, _, _, _, _, _, _, _, _, Or.inr ⟨rfl, hb1⟩, h_rd, h_rc, h_rcp, h_tk, h_rl, h_pg, hE⟩) dX7_readStatement_120
          · skip
            refine r_iconst E dX7_readStatement_115 ?_
            refine r_goto E 120 dX7_readStatement_116 (by decide) ?_
            refine W.widen (k := 1) (n := 6) (by decide) (by decide) ?_
            exact r_zret E h (by omega) (by
  have h1 : (pexp bm L 59 (pCol bm L (padv bm L 2 S))).1 = 0 := by omega
  have ep1 : p_109 = (pexp bm L 59 (pCol bm L (padv bm L 2 S))).2.2.1 := by omega
  have hst : pStm bm L S = pexp bm L 59 (pCol bm L (padv bm L 2 S)) := congrArg (pexp bm L 59) (pStB_2 w5 w6 w2)
  rw [hst]
  rw [ep1] at h_tk
  refine ⟨_, _, _, _, _, _, _, _, _, Or.inl ⟨rfl, h1, rfl, ?_⟩, h_rd, h_rc, h_rcp, h_tk, h_rl, h_pg, hE⟩
  exact (by
    obtain ⟨x, a9, b9, hx9, hrw⟩ := hcx
    have hfr : ∀ j : Int, j < 29 ∨ 111 ≤ j → (pCol bm L (padv bm L 2 S)).2.2.2 j = S.2.2.2 j := fun j a => by rw [hrw, uZ_n (by omega), uZ_n (by omega)]
    have hrow := (pexp_0 h1).2
    rw [hrow]
    exact ⟨(hfr 0 (by omega)).symm, (hfr 1 (by omega)).symm, (hfr 2 (by omega)).symm, hF9, hP9, (hRUk.cg (fun j a b => hfr j (by omega))).keep hf2 (fun j q1 q2 => by first | omega | (dsimp only at q2; omega)), hPT.cg (hfr 4 (by omega)) (fun j a => hfr j (by omega)), by rw [hfr 3 (by omega)]; exact hn3⟩)) dX7_readStatement_120
    · skip
      have w6 : isW bm L S.2.2.1 (ST 6) = true := by
        rcases e_z_26 with q | q
        · exact q.2
        · exact absurd q.1 (by omega)
      refine r_aload_n E 0 hl rfl dX7_readStatement_32 ?_
      refine r_callVI E h (As := []) (rest := []) (k_X7_readProgression (S := S) (B0 := B0) l h_rd h_tk h_in h_rl htx hbm hL hqi h0 hG hV rfl w6 rfl ⟨by omega, by omega, hB0.2.2⟩) h_rd rfl gX7_readStatement_X7_readProgression rfl hd_X7_readProgression (by decide) ⟨by decide, by decide⟩ hl.1 rfl (Nat.le_of_ble_eq_true rfl) dX7_readStatement_33 rfl (fun z_33 ws H locs hp h => ?_)
      obtain ⟨p_33, rt_33, rl_33, e_33, h_rd, h_tk, h_rl, hf⟩ := hp
      have hz_33 : z_33 = 0 ∨ z_33 = 1 := by rcases e_33 with q | q <;> first | exact Or.inr q.1 | exact Or.inl q.1
      replace e_33 := hid_in e_33
      have h_rc := hf.at h_rc (by first | omega | (dsimp only <;> omega))
      have h_rcp := hf.at h_rcp (by first | omega | (dsimp only <;> omega))
      have h_in := hf.at h_in (by first | omega | (dsimp only <;> omega))
      have h_pg := hf.at h_pg (by first | omega | (dsimp only <;> omega))
      have hE := hE.tr (hf.wk (fun j hj => by first | omega | (dsimp only at hj ⊢ <;> omega)))
      refine r_istore_n (lv' := [(1, .int (zI z_33)), (0, .ref ard)]) E hl dX7_readStatement_36 rfl (by decide) rfl (fun ls hl => ?_)
      refine r_goto E 102 dX7_readStatement_37 (by decide) ?_
      refine r_iload_n E 0 hl rfl dX7_readStatement_102 ?_
      refine r_if_eq E 119 dX7_readStatement_103 (by decide) (by omega) (fun c_103 => ?_) (fun c_103 => ?_)
      · skip
        refine r_iconst E dX7_readStatement_119 ?_
        refine W.widen (k := 1) (n := 6) (by decide) (by decide) ?_
        exact r_zret E h (by omega) (by
  have hb : (pRule bm L S.2.2.1 0 (padv bm L 6 S)).1 ≠ 0 := by
    rcases hid_out e_33 with q | q
    · exact absurd q.1 (by omega)
    · exact q.2
  rw [show pStm bm L S = pexp bm L 59 (pRule bm L S.2.2.1 0 (padv bm L 6 S)) from congrArg (pexp bm L 59) (pStB_1 w5 w6), pexp_bad hb]
  exact ⟨_, _, _, _, _, _, _, _, _, Or.inr ⟨rfl, hb⟩, h_rd, h_rc, h_rcp, h_tk, h_rl, h_pg, hE⟩) dX7_readStatement_120
      · skip
        rcases hid_out e_33 with ⟨q0, h0, ep9, hrt9, hfr, hru⟩ | q
        rotate_left
        · exact absurd q.1 (by omega)
        rw [ep9] at h_tk
        have hRUk := hRU.keep hE (fun j q1 q2 => by first | omega | (dsimp only at q2; omega))
        have hG : PG L (pRule bm L S.2.2.1 0 (padv bm L 6 S)) := (PL.rule (S := padv bm L 6 S) (padv_PL hG h0s (by decide) w6).1 h0s ⟨hvr.2.2.1.1, hvr.2.2.1.2⟩).1
        have hgp := (hG.2 h0).1
        have htr := tk_rng htx hgp.2
        refine r_aload_n E 1 hl rfl dX7_readStatement_106 ?_
        refine r_bipush E dX7_readStatement_107 (by decide) ?_
        refine r_callVI E h (As := [.int (zI 59)]) (rest := []) (k_X7_takeSign (S := pRule bm L S.2.2.1 0 (padv bm L 6 S)) l 59 h_rd h_tk h_in htx hbm hL hqi h0 hG (by omega)) h_rd rfl gX7_readStatement_X7_takeSign rfl hd_X7_takeSign (by decide) ⟨by decide, by decide⟩ hl.1 rfl (Nat.le_of_ble_eq_true rfl) dX7_readStatement_109 rfl (fun z_109 ws H locs hp h => ?_)
        obtain ⟨p_109, e_109, h_rd, h_tk, hf⟩ := hp
        have h_rc := hf.at h_rc (by first | omega | (dsimp only <;> omega))
        have h_rcp := hf.at h_rcp (by first | omega | (dsimp only <;> omega))
        have h_in := hf.at h_in (by first | omega | (dsimp only <;> omega))
        have h_rl := hf.at h_rl (by first | omega | (dsimp only <;> omega))
        have h_pg := hf.at h_pg (by first | omega | (dsimp only <;> omega))
        have hf2 := hf
        have hE := hE.tr (hf.wk (fun j hj => by first | omega | (dsimp only at hj ⊢ <;> omega)))
        refine r_if_eq E 119 dX7_readStatement_112 (by decide) (by omega) (fun c_112 => ?_) (fun c_112 => ?_)
        · skip
          refine r_iconst E dX7_readStatement_119 ?_
          refine W.widen (k := 1) (n := 6) (by decide) (by decide) ?_
          exact r_zret E h (by omega) (by
  have hb1 : (pexp bm L 59 (pRule bm L S.2.2.1 0 (padv bm L 6 S))).1 ≠ 0 := by omega
  rw [show pStm bm L S = pexp bm L 59 (pRule bm L S.2.2.1 0 (padv bm L 6 S)) from congrArg (pexp bm L 59) (pStB_1 w5 w6)]
  exact ⟨_, _, _, _, _, _, _, _, _, Or.inr ⟨rfl, hb1⟩, h_rd, h_rc, h_rcp, h_tk, h_rl, h_pg, hE⟩) dX7_readStatement_120
        · skip
          refine r_iconst E dX7_readStatement_115 ?_
          refine r_goto E 120 dX7_readStatement_116 (by decide) ?_
          refine W.widen (k := 1) (n := 6) (by decide) (by decide) ?_
          exact r_zret E h (by omega) (by
  have h1 : (pexp bm L 59 (pRule bm L S.2.2.1 0 (padv bm L 6 S))).1 = 0 := by omega
  have ep1 : p_109 = (pexp bm L 59 (pRule bm L S.2.2.1 0 (padv bm L 6 S))).2.2.1 := by omega
  have hst : pStm bm L S = pexp bm L 59 (pRule bm L S.2.2.1 0 (padv bm L 6 S)) := congrArg (pexp bm L 59) (pStB_1 w5 w6)
  rw [hst]
  rw [ep1] at h_tk
  refine ⟨_, _, _, _, _, _, _, _, _, Or.inl ⟨rfl, h1, rfl, ?_⟩, h_rd, h_rc, h_rcp, h_tk, h_rl, h_pg, hE⟩
  exact (by
    obtain ⟨ra, qq, x1, x2, x3⟩ := hru
    have hrow := (pexp_0 h1).2
    rw [hrow]
    have hvR := (RV.ruleS (S := padv bm L 6 S) (st := S.2.2.1) (eq := 0) hV h0s h0).1.r
    have hm := msk_cg (g := S.2.2.2) (e := (pRule bm L S.2.2.1 0 (padv bm L 6 S)).2.2.2) (hfr.2 0 (by omega) (by omega)) (fun j a b => hfr.2 j (by omega) (by omega)) (by omega)
    refine ⟨(hfr.2 0 (by omega) (by omega)).symm, (hfr.2 1 (by omega) (by omega)).symm, by omega, hm.1.symm, hm.2.symm, ?_, hPT.cg (hfr.2 4 (by omega) (by omega)) (fun j a => hfr.2 j (by omega) (by omega)), by rw [hfr.2 3 (by omega) (by omega)]; exact hn3⟩
    rw [x1, hrt9]
    exact (((hRUk.cg (fun j a b => hfr.2 j (by omega) (by omega))).snoc (by omega) x2 x3).keep hf2 (fun j q1 q2 => by first | omega | (dsimp only at q2; omega))))) dX7_readStatement_120
  · skip
    have w5 : isW bm L S.2.2.1 (ST 5) = true := by
      rcases e_z_6 with q | q
      · exact q.2
      · exact absurd q.1 (by omega)
    refine r_aload_n E 0 hl rfl dX7_readStatement_12 ?_
    refine r_callVkI E hX h (As := []) (rest := []) (k_X7_readEquation (S := S) (B0 := B0) l h_rd h_tk h_in h_rl htx hbm hL hqi h0 hG hV rfl w5 rfl ⟨by omega, by omega, hB0.2.2⟩) h_rd rfl gX7_readStatement_X7_readEquation rfl hd_X7_readEquation (by decide) ⟨by decide, by decide⟩ hl.1 rfl (Nat.le_of_ble_eq_true rfl) dX7_readStatement_13 rfl (fun z_13 ws H locs hp h => ?_)
    obtain ⟨p_13, rt_13, rl_13, e_13, h_rd, h_tk, h_rl, hf⟩ := hp
    have hz_13 : z_13 = 0 ∨ z_13 = 1 := by rcases e_13 with q | q <;> first | exact Or.inr q.1 | exact Or.inl q.1
    replace e_13 := hid_in e_13
    have h_rc := hf.at h_rc (by first | omega | (dsimp only <;> omega))
    have h_rcp := hf.at h_rcp (by first | omega | (dsimp only <;> omega))
    have h_in := hf.at h_in (by first | omega | (dsimp only <;> omega))
    have h_pg := hf.at h_pg (by first | omega | (dsimp only <;> omega))
    have hE := hE.tr (hf.wk (fun j hj => by first | omega | (dsimp only at hj ⊢ <;> omega)))
    refine r_istore_n (lv' := [(1, .int (zI z_13)), (0, .ref ard)]) E hl dX7_readStatement_16 rfl (by decide) rfl (fun ls hl => ?_)
    refine r_goto E 102 dX7_readStatement_17 (by decide) ?_
    refine r_iload_n E 0 hl rfl dX7_readStatement_102 ?_
    refine r_if_eq E 119 dX7_readStatement_103 (by decide) (by omega) (fun c_103 => ?_) (fun c_103 => ?_)
    · skip
      refine r_iconst E dX7_readStatement_119 ?_
      refine W.widen (k := 1) (n := 6) (by decide) (by decide) ?_
      exact r_zret E h (by omega) (by
  have hb : (pRule bm L S.2.2.1 1 (padv bm L 5 S)).1 ≠ 0 := by
    rcases hid_out e_13 with q | q
    · exact absurd q.1 (by omega)
    · exact q.2
  rw [show pStm bm L S = pexp bm L 59 (pRule bm L S.2.2.1 1 (padv bm L 5 S)) from congrArg (pexp bm L 59) (pStB_0 w5), pexp_bad hb]
  exact ⟨_, _, _, _, _, _, _, _, _, Or.inr ⟨rfl, hb⟩, h_rd, h_rc, h_rcp, h_tk, h_rl, h_pg, hE⟩) dX7_readStatement_120
    · skip
      rcases hid_out e_13 with ⟨q0, h0, ep9, hrt9, hfr, hru⟩ | q
      rotate_left
      · exact absurd q.1 (by omega)
      rw [ep9] at h_tk
      have hRUk := hRU.keep hE (fun j q1 q2 => by first | omega | (dsimp only at q2; omega))
      have hG : PG L (pRule bm L S.2.2.1 1 (padv bm L 5 S)) := (PL.rule (S := padv bm L 5 S) (padv_PL hG h0s (by decide) w5).1 h0s ⟨hvr.2.2.1.1, hvr.2.2.1.2⟩).1
      have hgp := (hG.2 h0).1
      have htr := tk_rng htx hgp.2
      refine r_aload_n E 1 hl rfl dX7_readStatement_106 ?_
      refine r_bipush E dX7_readStatement_107 (by decide) ?_
      refine r_callVI E h (As := [.int (zI 59)]) (rest := []) (k_X7_takeSign (S := pRule bm L S.2.2.1 1 (padv bm L 5 S)) l 59 h_rd h_tk h_in htx hbm hL hqi h0 hG (by omega)) h_rd rfl gX7_readStatement_X7_takeSign rfl hd_X7_takeSign (by decide) ⟨by decide, by decide⟩ hl.1 rfl (Nat.le_of_ble_eq_true rfl) dX7_readStatement_109 rfl (fun z_109 ws H locs hp h => ?_)
      obtain ⟨p_109, e_109, h_rd, h_tk, hf⟩ := hp
      have h_rc := hf.at h_rc (by first | omega | (dsimp only <;> omega))
      have h_rcp := hf.at h_rcp (by first | omega | (dsimp only <;> omega))
      have h_in := hf.at h_in (by first | omega | (dsimp only <;> omega))
      have h_rl := hf.at h_rl (by first | omega | (dsimp only <;> omega))
      have h_pg := hf.at h_pg (by first | omega | (dsimp only <;> omega))
      have hf2 := hf
      have hE := hE.tr (hf.wk (fun j hj => by first | omega | (dsimp only at hj ⊢ <;> omega)))
      refine r_if_eq E 119 dX7_readStatement_112 (by decide) (by omega) (fun c_112 => ?_) (fun c_112 => ?_)
      · skip
        refine r_iconst E dX7_readStatement_119 ?_
        refine W.widen (k := 1) (n := 6) (by decide) (by decide) ?_
        exact r_zret E h (by omega) (by
  have hb1 : (pexp bm L 59 (pRule bm L S.2.2.1 1 (padv bm L 5 S))).1 ≠ 0 := by omega
  rw [show pStm bm L S = pexp bm L 59 (pRule bm L S.2.2.1 1 (padv bm L 5 S)) from congrArg (pexp bm L 59) (pStB_0 w5)]
  exact ⟨_, _, _, _, _, _, _, _, _, Or.inr ⟨rfl, hb1⟩, h_rd, h_rc, h_rcp, h_tk, h_rl, h_pg, hE⟩) dX7_readStatement_120
      · skip
        refine r_iconst E dX7_readStatement_115 ?_
        refine r_goto E 120 dX7_readStatement_116 (by decide) ?_
        refine W.widen (k := 1) (n := 6) (by decide) (by decide) ?_
        exact r_zret E h (by omega) (by
  have h1 : (pexp bm L 59 (pRule bm L S.2.2.1 1 (padv bm L 5 S))).1 = 0 := by omega
  have ep1 : p_109 = (pexp bm L 59 (pRule bm L S.2.2.1 1 (padv bm L 5 S))).2.2.1 := by omega
  have hst : pStm bm L S = pexp bm L 59 (pRule bm L S.2.2.1 1 (padv bm L 5 S)) := congrArg (pexp bm L 59) (pStB_0 w5)
  rw [hst]
  rw [ep1] at h_tk
  refine ⟨_, _, _, _, _, _, _, _, _, Or.inl ⟨rfl, h1, rfl, ?_⟩, h_rd, h_rc, h_rcp, h_tk, h_rl, h_pg, hE⟩
  exact (by
    obtain ⟨ra, qq, x1, x2, x3⟩ := hru
    have hrow := (pexp_0 h1).2
    rw [hrow]
    have hvR := (RV.ruleS (S := padv bm L 5 S) (st := S.2.2.1) (eq := 1) hV h0s h0).1.r
    have hm := msk_cg (g := S.2.2.2) (e := (pRule bm L S.2.2.1 1 (padv bm L 5 S)).2.2.2) (hfr.2 0 (by omega) (by omega)) (fun j a b => hfr.2 j (by omega) (by omega)) (by omega)
    refine ⟨(hfr.2 0 (by omega) (by omega)).symm, (hfr.2 1 (by omega) (by omega)).symm, by omega, hm.1.symm, hm.2.symm, ?_, hPT.cg (hfr.2 4 (by omega) (by omega)) (fun j a => hfr.2 j (by omega) (by omega)), by rw [hfr.2 3 (by omega) (by omega)]; exact hn3⟩
    rw [x1, hrt9]
    exact (((hRUk.cg (fun j a b => hfr.2 j (by omega) (by omega))).snoc (by omega) x2 x3).keep hf2 (fun j q1 q2 => by first | omega | (dsimp only at q2; omega))))) dX7_readStatement_120
