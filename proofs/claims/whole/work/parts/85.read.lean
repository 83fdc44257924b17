section ZLC
variable {p : Program} {l : Launch} {e : Env} {R : Room} {s : State} {m : MethodId} {args : Array Value} {below : List Frame} {meth : Method} {c : Code} {Q : State → Prop}
/-- a loop that makes cells: k rounds so far -/
theorem r_loopC {cells slots pc : Nat} {st : List Value} (I : Nat → Nat → Heap → List Loc → Array Slot → Prop) (f g : Nat → Nat) (n k : Nat) {H : Heap} {locs : List Loc} {ls : Array Slot} (hf : cells ≤ f k ∧ slots ≤ g k) (h0 : I n k H locs ls) (step : ∀ (n k : Nat) (H : Heap) (locs : List Loc) (ls : Array Slot), I n k H locs ls → (∀ (c9 s9 n' k' : Nat) (H' : Heap) (locs' : List Loc) (ls' : Array Slot), n' < n → c9 ≤ f k' → s9 ≤ g k' → I n' k' H' locs' ls' → W p l e R s m args below meth c H' locs' c9 s9 Q (F0 m pc ls' st)) → W p l e R s m args below meth c H locs (f k) (g k) Q (F0 m pc ls st)) : W p l e R s m args below meth c H locs cells slots Q (F0 m pc ls st) := by
  induction n using Nat.strongRecOn generalizing cells slots k H locs ls with
  | _ n ih => exact W.widen hf.1 hf.2 (step n k H locs ls h0 (fun c9 s9 n' k' H' locs' ls' hn h1 h2 h3 => ih n' hn k' ⟨h1, h2⟩ h3))
end ZLC
theorem pH0_y {t : Int → Int} {L : Int} (h : isW t L (sk t L 0) (ST 8) = true) : pH0 t L = padv t L 8 (0, -1, sk t L 0, fun _ => 0) := if_pos h
theorem pH0_n {t : Int → Int} {L : Int} (h : isW t L (sk t L 0) (ST 8) = false) : pH0 t L = (-2, sk t L 0, sk t L 0, fun _ => 0) := if_neg (by rw [h]; decide)
theorem pexp_f {t : Int → Int} {L c : Int} {S : PSt} (h : S.1 ≠ 0) : pexp t L c S = S := if_pos h
theorem hd_X7_readHead : yX7_readHead.cls = RX7 ∧ yX7_readHead.cls ≠ "java/lang/invoke/MethodHandle" ∧ yX7_readHead.cls ≠ "java/lang/invoke/VarHandle" ∧ (parseMethodDescriptor yX7_readHead.desc).map (fun d => d.parameters.length) = some 0 := by decide +kernel
theorem fl_X7_readHead_28 : Cond.fieldLink RX7 28 (TX7 3).1 (TX7 3).2.1 (TX7 3).2.2.1 ∈ wsX7_readHead := List.mem_of_getElem? (i := 1) rfl
theorem inn_X7_readHead_7 : ∀ w ∈ wsX70, w ∈ wsX7_readHead := fun _ h => List.mem_cons_of_mem _ (List.mem_append_left _ (List.mem_append_right _ h))
theorem fl_X7_readHead_32 : Cond.fieldLink RX7 32 (TX7 4).1 (TX7 4).2.1 (TX7 4).2.2.1 ∈ wsX7_readHead := List.mem_of_getElem? (i := 2) rfl
theorem fl_X7_readHead_35 : Cond.fieldLink RX7 35 (TX7 5).1 (TX7 5).2.1 (TX7 5).2.2.1 ∈ wsX7_readHead := List.mem_of_getElem? (i := 3) rfl
abbrev rm_X7_readHead : Room := { frames := 5, cells := 0, slots := 0, locals := 107 }
set_option maxHeartbeats 1200000 in
set_option maxRecDepth 100000 in
theorem k_X7_readHead (l : Launch) {G : va_G} {cy : Nat → ClassId} {ws0 : va_W} {qr qi ard arc atk arl apg ain : Nat} {nm9 cs9 rt9 n9 : Int}{bu bm : Int → Int} {L : Int} (h_rd : ws0[qr]? = some (ard, .inr (7, [.int (zI 0), .int (zI (-1)), .ref arc, .ref atk, .int (zI nm9), .int (zI cs9), .ref arl, .int (zI rt9), .ref apg, .int (zI n9)]))) (h_tk : ws0[qr + 3]? = some (atk, .inr (9, [.int (zI (tkK bm L (sk bm L 0))), .int (zI (sk bm L 0)), .int (zI (tkV bm L (sk bm L 0))), .ref ain, .int (zI L), .int (zI (tkE bm L (sk bm L 0)))]))) (h_in : ws0[qi]? = some (ain, aB cy 600 bu)) (htx : TXok bm) (hbm : ∀ i : Int, bu i = sg (bm i)) (hL : 0 ≤ L ∧ L ≤ 600) (hqi : qi < qr ∨ qr + 7 ≤ qi) : MIk l yX7_readHead wsX7_readHead rm_X7_readHead G cy [.ref ard] ws0 (fun z u => ∃ (p2 nm2 cs2 : Int), (z = 1 ∧ (pHd bm L).1 = 0 ∧ p2 = (pHd bm L).2.2.1 ∧ nm2 = (pHd bm L).2.2.2 0 ∧ cs2 = (pHd bm L).2.2.2 1 ∧ (∀ j : Int, 2 ≤ j → (pHd bm L).2.2.2 j = 0) ∨ z = 0 ∧ (pHd bm L).1 ≠ 0) ∧ u[qr]? = some (ard, .inr (7, [.int (zI ((pHd bm L).1)), .int (zI ((pHd bm L).2.1)), .ref arc, .ref atk, .int (zI nm2), .int (zI cs2), .ref arl, .int (zI rt9), .ref apg, .int (zI n9)])) ∧ u[qr + 3]? = some (atk, .inr (9, [.int (zI (tkK bm L p2)), .int (zI p2), .int (zI (tkV bm L p2)), .ref ain, .int (zI L), .int (zI (tkE bm L p2))])) ∧ Eqx ws0 u (fun j => j = qr ∨ j = qr + 3)) := by
  refine MIk.of (own := RX7) (cc := cX7_readHead) (nL := 1) (ret := (some .boolean)) (by decide) rfl rfl (Nat.le_of_ble_eq_true rfl) ?_
  intro p e s m below meth c A ls hX E h hl
  have hl : lv_has ls 1 [(0, .ref ard)] := hl
  have hE : Eqx ws0 ws0 (fun j => j = qr ∨ j = qr + 3) := Eqx.rf
  have hsk := sk_rng (t := bm) (L := L) (p := 0) hL.1
  have htr := tk_rng htx hsk.2
  refine r_aload_n E 0 hl rfl dX7_readHead_0 ?_
  refine r_get (v := .ref atk) E h h_rd rfl inn_X7_readHead_7 3 (by decide) fl_X7_readHead_28 rfl dX7_readHead_1 ?_
  refine r_ldcS E hX.1 (i := 8) (tx := "numbers") (by decide +kernel) dX7_readHead_4 ?_
  refine r_callVkI E hX h (As := [.ref (cy (100 + 8))]) (rest := []) (k_X9_isWord l 8 h_tk h_in htx hbm hL (by omega) (by decide)) h_tk rfl gX7_readHead_X9_isWord rfl hd_X9_isWord (by decide) ⟨by decide, by decide⟩ hl.1 rfl (Nat.le_of_ble_eq_true rfl) dX7_readHead_6 rfl (fun z_6 ws H locs hp h => ?_)
  obtain ⟨e_z_6, rfl⟩ := hp
  refine r_if_ne E 19 dX7_readHead_9 (by decide) (by omega) (fun c_9 => ?_) (fun c_9 => ?_)
  · skip
    have w8 : isW bm L (sk bm L 0) (ST 8) = true := by
      rcases e_z_6 with q | q
      · exact q.2
      · exact absurd q.1 (by omega)
    refine r_aload_n E 0 hl rfl dX7_readHead_19 ?_
    refine r_get (v := .ref atk) E h h_rd rfl inn_X7_readHead_7 3 (by decide) fl_X7_readHead_28 rfl dX7_readHead_20 ?_
    refine r_callVV E h (As := []) (rest := []) (k_X9_advance l h_tk h_in htx hbm hL (by omega) (by omega)) h_tk rfl gX7_readHead_X9_advance rfl hd_X9_advance (by decide) ⟨by decide, by decide⟩ hl.1 rfl (Nat.le_of_ble_eq_true rfl) dX7_readHead_23 rfl (fun ws H locs hp h => ?_)
    obtain ⟨h_tk, hf⟩ := hp
    have h_rd := hf.at h_rd (by first | omega | (dsimp only <;> omega))
    have h_in := hf.at h_in (by first | omega | (dsimp only <;> omega))
    have hE := hE.tr (hf.wk (fun j hj => by first | omega | (dsimp only at hj ⊢ <;> omega)))
    rw [tk_wE (by decide) hsk.2 w8] at h_tk
    have h_tk : ws[qr + 3]? = some (atk, .inr (9, [.int (zI (tkK bm L ((padv bm L 8 ((0, -1, sk bm L 0, fun _ => 0) : PSt)).2.2.1))), .int (zI ((padv bm L 8 ((0, -1, sk bm L 0, fun _ => 0) : PSt)).2.2.1)), .int (zI (tkV bm L ((padv bm L 8 ((0, -1, sk bm L 0, fun _ => 0) : PSt)).2.2.1))), .ref ain, .int (zI L), .int (zI (tkE bm L ((padv bm L 8 ((0, -1, sk bm L 0, fun _ => 0) : PSt)).2.2.1)))])) := h_tk
    have h_rd : ws[qr]? = some (ard, .inr (7, [.int (zI ((padv bm L 8 ((0, -1, sk bm L 0, fun _ => 0) : PSt)).1)), .int (zI ((padv bm L 8 ((0, -1, sk bm L 0, fun _ => 0) : PSt)).2.1)), .ref arc, .ref atk, .int (zI nm9), .int (zI cs9), .ref arl, .int (zI rt9), .ref apg, .int (zI n9)])) := h_rd
    have h0 : (padv bm L 8 ((0, -1, sk bm L 0, fun _ => 0) : PSt)).1 = 0 := rfl
    have hG0 : PG L ((0, -1, sk bm L 0, fun _ => 0) : PSt) := ⟨by show -10 ≤ (0 : Int) ∧ (0 : Int) ≤ 0; omega, fun _ => ⟨by show 0 ≤ sk bm L 0 ∧ sk bm L 0 ≤ L; omega, by show (0 : Int) ≤ 0; omega⟩⟩
    have hG := (padv_PL (t := bm) hG0 rfl (by decide) w8).1
    have hgp := (hG.2 h0).1
    have htr := tk_rng htx hgp.2
    refine r_aload_n E 0 hl rfl dX7_readHead_26 ?_
    refine r_aload_n E 0 hl rfl dX7_readHead_27 ?_
    refine r_iconst E dX7_readHead_28 ?_
    refine r_bipush E dX7_readHead_29 (by decide) ?_
    refine r_callVI E h (As := [.int (zI 1), .int (zI 40)]) (rest := [.ref ard]) (k_X7_takeNumber (S := padv bm L 8 ((0, -1, sk bm L 0, fun _ => 0) : PSt)) l 1 40 h_rd h_tk h_in htx hbm hL hqi h0 hG (by omega)) h_rd rfl gX7_readHead_X7_takeNumber rfl hd_X7_takeNumber (by decide) ⟨by decide, by decide⟩ hl.1 rfl (Nat.le_of_ble_eq_true rfl) dX7_readHead_31 rfl (fun z_31 ws H locs hp h => ?_)
    obtain ⟨p_31, e_31, h_rd, h_tk, hf⟩ := hp
    have h_in := hf.at h_in (by first | omega | (dsimp only <;> omega))
    have hE := hE.tr (hf.wk (fun j hj => by first | omega | (dsimp only at hj ⊢ <;> omega)))
    refine r_put E h h_rd rfl inn_X7_readHead_7 4 (by decide) fl_X7_readHead_32 tyX7 tyX7_ok nmX7 rfl rfl rfl (Nat.le_of_ble_eq_true rfl) dX7_readHead_34 (fun ws H locs h hu => ?_)
    have h_rd : ws[qr]? = some (ard, .inr (7, [.int (zI ((pnum bm L 1 40 (padv bm L 8 ((0, -1, sk bm L 0, fun _ => 0) : PSt))).1)), .int (zI ((pnum bm L 1 40 (padv bm L 8 ((0, -1, sk bm L 0, fun _ => 0) : PSt))).2.1)), .ref arc, .ref atk, .int (zI z_31), .int (zI cs9), .ref arl, .int (zI rt9), .ref apg, .int (zI n9)])) := hu.1
    have h_tk := hu.keep h_tk (by omega)
    have h_in := hu.keep h_in (by omega)
    have hE := hE.tr (hu.eqx (by first | omega | (dsimp only <;> omega)))
    refine r_aload_n E 0 hl rfl dX7_readHead_37 ?_
    refine r_get (v := .int (zI z_31)) E h h_rd rfl inn_X7_readHead_7 4 (by decide) fl_X7_readHead_32 rfl dX7_readHead_38 ?_
    refine r_iconst E dX7_readHead_41 ?_
    refine r_icmp_ne E 47 dX7_readHead_42 (by decide) (by omega) (fun c_42 => ?_) (fun c_42 => ?_)
    · skip
      have hT1 : (pnum bm L 1 40 (padv bm L 8 ((0, -1, sk bm L 0, fun _ => 0) : PSt))).1 = 0 := by omega
      have ep_31 : p_31 = (pnum bm L 1 40 (padv bm L 8 ((0, -1, sk bm L 0, fun _ => 0) : PSt))).2.2.1 := by omega
      rw [ep_31] at h_tk
      have hz1 : z_31 = pval bm L (padv bm L 8 ((0, -1, sk bm L 0, fun _ => 0) : PSt)) := by omega
      have hG : PG L (pnumA bm L 0 1 40 (padv bm L 8 ((0, -1, sk bm L 0, fun _ => 0) : PSt))) := (PL.set (k := 0) (v := pval bm L (padv bm L 8 ((0, -1, sk bm L 0, fun _ => 0) : PSt))) (pnum_PL (t := bm) (lo := 1) (hi := 40) hG).1 (by decide)).1
      have h0 : (pnumA bm L 0 1 40 (padv bm L 8 ((0, -1, sk bm L 0, fun _ => 0) : PSt))).1 = 0 := (pset_1 hT1).trans hT1
      have hr1 : (pnumA bm L 0 1 40 (padv bm L 8 ((0, -1, sk bm L 0, fun _ => 0) : PSt))).2.2.2 = uZ (fun _ => 0) 0 z_31 := (pset_4 hT1).trans (by rw [pnum_row, ← hz1]; rfl)
      have h_rd : ws[qr]? = some (ard, .inr (7, [.int (zI ((pnumA bm L 0 1 40 (padv bm L 8 ((0, -1, sk bm L 0, fun _ => 0) : PSt))).1)), .int (zI ((pnumA bm L 0 1 40 (padv bm L 8 ((0, -1, sk bm L 0, fun _ => 0) : PSt))).2.1)), .ref arc, .ref atk, .int (zI z_31), .int (zI cs9), .ref arl, .int (zI rt9), .ref apg, .int (zI n9)])) := by rw [show (pnumA bm L 0 1 40 (padv bm L 8 ((0, -1, sk bm L 0, fun _ => 0) : PSt))).1 = (pnum bm L 1 40 (padv bm L 8 ((0, -1, sk bm L 0, fun _ => 0) : PSt))).1 from pset_1 hT1, show (pnumA bm L 0 1 40 (padv bm L 8 ((0, -1, sk bm L 0, fun _ => 0) : PSt))).2.1 = (pnum bm L 1 40 (padv bm L 8 ((0, -1, sk bm L 0, fun _ => 0) : PSt))).2.1 from pset_2]; exact h_rd
      have h_tk : ws[qr + 3]? = some (atk, .inr (9, [.int (zI (tkK bm L ((pnumA bm L 0 1 40 (padv bm L 8 ((0, -1, sk bm L 0, fun _ => 0) : PSt))).2.2.1))), .int (zI ((pnumA bm L 0 1 40 (padv bm L 8 ((0, -1, sk bm L 0, fun _ => 0) : PSt))).2.2.1)), .int (zI (tkV bm L ((pnumA bm L 0 1 40 (padv bm L 8 ((0, -1, sk bm L 0, fun _ => 0) : PSt))).2.2.1))), .ref ain, .int (zI L), .int (zI (tkE bm L ((pnumA bm L 0 1 40 (padv bm L 8 ((0, -1, sk bm L 0, fun _ => 0) : PSt))).2.2.1)))])) := by rw [show (pnumA bm L 0 1 40 (padv bm L 8 ((0, -1, sk bm L 0, fun _ => 0) : PSt))).2.2.1 = (pnum bm L 1 40 (padv bm L 8 ((0, -1, sk bm L 0, fun _ => 0) : PSt))).2.2.1 from pset_3]; exact h_tk
      have hgp := (hG.2 h0).1
      have htr := tk_rng htx hgp.2
      refine r_aload_n E 0 hl rfl dX7_readHead_47 ?_
      refine r_aload_n E 0 hl rfl dX7_readHead_48 ?_
      refine r_iconst E dX7_readHead_49 ?_
      refine r_iconst E dX7_readHead_50 ?_
      refine r_callVI E h (As := [.int (zI 1), .int (zI 4)]) (rest := [.ref ard]) (k_X7_takeNumber (S := pnumA bm L 0 1 40 (padv bm L 8 ((0, -1, sk bm L 0, fun _ => 0) : PSt))) l 1 4 h_rd h_tk h_in htx hbm hL hqi h0 hG (by omega)) h_rd rfl gX7_readHead_X7_takeNumber rfl hd_X7_takeNumber (by decide) ⟨by decide, by decide⟩ hl.1 rfl (Nat.le_of_ble_eq_true rfl) dX7_readHead_51 rfl (fun z_51 ws H locs hp h => ?_)
      obtain ⟨p_51, e_51, h_rd, h_tk, hf⟩ := hp
      have h_in := hf.at h_in (by first | omega | (dsimp only <;> omega))
      have hE := hE.tr (hf.wk (fun j hj => by first | omega | (dsimp only at hj ⊢ <;> omega)))
      refine r_put E h h_rd rfl inn_X7_readHead_7 5 (by decide) fl_X7_readHead_35 tyX7 tyX7_ok nmX7 rfl rfl rfl (Nat.le_of_ble_eq_true rfl) dX7_readHead_54 (fun ws H locs h hu => ?_)
      have h_rd : ws[qr]? = some (ard, .inr (7, [.int (zI ((pnum bm L 1 4 (pnumA bm L 0 1 40 (padv bm L 8 ((0, -1, sk bm L 0, fun _ => 0) : PSt)))).1)), .int (zI ((pnum bm L 1 4 (pnumA bm L 0 1 40 (padv bm L 8 ((0, -1, sk bm L 0, fun _ => 0) : PSt)))).2.1)), .ref arc, .ref atk, .int (zI z_31), .int (zI z_51), .ref arl, .int (zI rt9), .ref apg, .int (zI n9)])) := hu.1
      have h_tk := hu.keep h_tk (by omega)
      have h_in := hu.keep h_in (by omega)
      have hE := hE.tr (hu.eqx (by first | omega | (dsimp only <;> omega)))
      refine r_aload_n E 0 hl rfl dX7_readHead_57 ?_
      refine r_get (v := .int (zI z_51)) E h h_rd rfl inn_X7_readHead_7 5 (by decide) fl_X7_readHead_35 rfl dX7_readHead_58 ?_
      refine r_iconst E dX7_readHead_61 ?_
      refine r_icmp_eq E 78 dX7_readHead_62 (by decide) (by omega) (fun c_62 => ?_) (fun c_62 => ?_)
      · skip
        refine r_iconst E dX7_readHead_78 ?_
        exact r_zret E h (by omega) (by
  have e9 : pHd bm L = pexp bm L 59 (pnumA bm L 1 1 4 (pnumA bm L 0 1 40 (padv bm L 8 ((0, -1, sk bm L 0, fun _ => 0) : PSt)))) := by unfold pHd; rw [pH0_y w8]
  have hb : (pnum bm L 1 4 (pnumA bm L 0 1 40 (padv bm L 8 ((0, -1, sk bm L 0, fun _ => 0) : PSt)))).1 ≠ 0 := by omega
  rw [e9, show pnumA bm L 1 1 4 (pnumA bm L 0 1 40 (padv bm L 8 ((0, -1, sk bm L 0, fun _ => 0) : PSt))) = pnum bm L 1 4 (pnumA bm L 0 1 40 (padv bm L 8 ((0, -1, sk bm L 0, fun _ => 0) : PSt))) from pset_bad hb, pexp_f hb]
  exact ⟨_, _, _, Or.inr ⟨rfl, hb⟩, h_rd, h_tk, hE⟩) dX7_readHead_79
      · skip
        have hT2 : (pnum bm L 1 4 (pnumA bm L 0 1 40 (padv bm L 8 ((0, -1, sk bm L 0, fun _ => 0) : PSt)))).1 = 0 := by omega
        have ep_51 : p_51 = (pnum bm L 1 4 (pnumA bm L 0 1 40 (padv bm L 8 ((0, -1, sk bm L 0, fun _ => 0) : PSt)))).2.2.1 := by omega
        rw [ep_51] at h_tk
        have hz2 : z_51 = pval bm L (pnumA bm L 0 1 40 (padv bm L 8 ((0, -1, sk bm L 0, fun _ => 0) : PSt))) := by omega
        have hG : PG L (pnumA bm L 1 1 4 (pnumA bm L 0 1 40 (padv bm L 8 ((0, -1, sk bm L 0, fun _ => 0) : PSt)))) := (PL.set (k := 1) (v := pval bm L (pnumA bm L 0 1 40 (padv bm L 8 ((0, -1, sk bm L 0, fun _ => 0) : PSt)))) (pnum_PL (t := bm) (lo := 1) (hi := 4) hG).1 (by decide)).1
        have h0 : (pnumA bm L 1 1 4 (pnumA bm L 0 1 40 (padv bm L 8 ((0, -1, sk bm L 0, fun _ => 0) : PSt)))).1 = 0 := (pset_1 hT2).trans hT2
        have hr2 : (pnumA bm L 1 1 4 (pnumA bm L 0 1 40 (padv bm L 8 ((0, -1, sk bm L 0, fun _ => 0) : PSt)))).2.2.2 = uZ (uZ (fun _ => 0) 0 z_31) 1 z_51 := (pset_4 hT2).trans (by rw [pnum_row, ← hz2, hr1])
        have h_rd : ws[qr]? = some (ard, .inr (7, [.int (zI ((pnumA bm L 1 1 4 (pnumA bm L 0 1 40 (padv bm L 8 ((0, -1, sk bm L 0, fun _ => 0) : PSt)))).1)), .int (zI ((pnumA bm L 1 1 4 (pnumA bm L 0 1 40 (padv bm L 8 ((0, -1, sk bm L 0, fun _ => 0) : PSt)))).2.1)), .ref arc, .ref atk, .int (zI z_31), .int (zI z_51), .ref arl, .int (zI rt9), .ref apg, .int (zI n9)])) := by rw [show (pnumA bm L 1 1 4 (pnumA bm L 0 1 40 (padv bm L 8 ((0, -1, sk bm L 0, fun _ => 0) : PSt)))).1 = (pnum bm L 1 4 (pnumA bm L 0 1 40 (padv bm L 8 ((0, -1, sk bm L 0, fun _ => 0) : PSt)))).1 from pset_1 hT2, show (pnumA bm L 1 1 4 (pnumA bm L 0 1 40 (padv bm L 8 ((0, -1, sk bm L 0, fun _ => 0) : PSt)))).2.1 = (pnum bm L 1 4 (pnumA bm L 0 1 40 (padv bm L 8 ((0, -1, sk bm L 0, fun _ => 0) : PSt)))).2.1 from pset_2]; exact h_rd
        have h_tk : ws[qr + 3]? = some (atk, .inr (9, [.int (zI (tkK bm L ((pnumA bm L 1 1 4 (pnumA bm L 0 1 40 (padv bm L 8 ((0, -1, sk bm L 0, fun _ => 0) : PSt)))).2.2.1))), .int (zI ((pnumA bm L 1 1 4 (pnumA bm L 0 1 40 (padv bm L 8 ((0, -1, sk bm L 0, fun _ => 0) : PSt)))).2.2.1)), .int (zI (tkV bm L ((pnumA bm L 1 1 4 (pnumA bm L 0 1 40 (padv bm L 8 ((0, -1, sk bm L 0, fun _ => 0) : PSt)))).2.2.1))), .ref ain, .int (zI L), .int (zI (tkE bm L ((pnumA bm L 1 1 4 (pnumA bm L 0 1 40 (padv bm L 8 ((0, -1, sk bm L 0, fun _ => 0) : PSt)))).2.2.1)))])) := by rw [show (pnumA bm L 1 1 4 (pnumA bm L 0 1 40 (padv bm L 8 ((0, -1, sk bm L 0, fun _ => 0) : PSt)))).2.2.1 = (pnum bm L 1 4 (pnumA bm L 0 1 40 (padv bm L 8 ((0, -1, sk bm L 0, fun _ => 0) : PSt)))).2.2.1 from pset_3]; exact h_tk
        have hgp := (hG.2 h0).1
        have htr := tk_rng htx hgp.2
        refine r_aload_n E 0 hl rfl dX7_readHead_65 ?_
        refine r_bipush E dX7_readHead_66 (by decide) ?_
        refine r_callVI E h (As := [.int (zI 59)]) (rest := []) (k_X7_takeSign (S := pnumA bm L 1 1 4 (pnumA bm L 0 1 40 (padv bm L 8 ((0, -1, sk bm L 0, fun _ => 0) : PSt)))) l 59 h_rd h_tk h_in htx hbm hL hqi h0 hG (by omega)) h_rd rfl gX7_readHead_X7_takeSign rfl hd_X7_takeSign (by decide) ⟨by decide, by decide⟩ hl.1 rfl (Nat.le_of_ble_eq_true rfl) dX7_readHead_68 rfl (fun z_68 ws H locs hp h => ?_)
        obtain ⟨p_68, e_68, h_rd, h_tk, hf⟩ := hp
        have h_in := hf.at h_in (by first | omega | (dsimp only <;> omega))
        have hE := hE.tr (hf.wk (fun j hj => by first | omega | (dsimp only at hj ⊢ <;> omega)))
        refine r_if_eq E 78 dX7_readHead_71 (by decide) (by omega) (fun c_71 => ?_) (fun c_71 => ?_)
        · skip
          refine r_iconst E dX7_readHead_78 ?_
          exact r_zret E h (by omega) (by
  have e9 : pHd bm L = pexp bm L 59 (pnumA bm L 1 1 4 (pnumA bm L 0 1 40 (padv bm L 8 ((0, -1, sk bm L 0, fun _ => 0) : PSt)))) := by unfold pHd; rw [pH0_y w8]
  have hb : (pexp bm L 59 (pnumA bm L 1 1 4 (pnumA bm L 0 1 40 (padv bm L 8 ((0, -1, sk bm L 0, fun _ => 0) : PSt))))).1 ≠ 0 := by omega
  rw [e9]
  exact ⟨_, _, _, Or.inr ⟨rfl, hb⟩, h_rd, h_tk, hE⟩) dX7_readHead_79
        · skip
          refine r_iconst E dX7_readHead_74 ?_
          refine r_goto E 79 dX7_readHead_75 (by decide) ?_
          exact r_zret E h (by omega) (by
  have e9 : pHd bm L = pexp bm L 59 (pnumA bm L 1 1 4 (pnumA bm L 0 1 40 (padv bm L 8 ((0, -1, sk bm L 0, fun _ => 0) : PSt)))) := by unfold pHd; rw [pH0_y w8]
  have h1 : (pexp bm L 59 (pnumA bm L 1 1 4 (pnumA bm L 0 1 40 (padv bm L 8 ((0, -1, sk bm L 0, fun _ => 0) : PSt))))).1 = 0 := by omega
  have ep1 : p_68 = (pexp bm L 59 (pnumA bm L 1 1 4 (pnumA bm L 0 1 40 (padv bm L 8 ((0, -1, sk bm L 0, fun _ => 0) : PSt))))).2.2.1 := by omega
  have hrow := (pexp_0 h1).2
  rw [e9]
  rw [ep1] at h_tk
  refine ⟨_, _, _, Or.inl ⟨rfl, h1, rfl, ?_, ?_, fun j hj => ?_⟩, h_rd, h_tk, hE⟩
  · rw [hrow, hr2, uZ_n (by omega), uZ_s]
  · rw [hrow, hr2, uZ_s]
  · rw [hrow, hr2, uZ_n (by omega), uZ_n (by omega)]) dX7_readHead_79
    · skip
      refine r_iconst E dX7_readHead_45 ?_
      exact r_zret E h (by omega) (by
  have e9 : pHd bm L = pexp bm L 59 (pnumA bm L 1 1 4 (pnumA bm L 0 1 40 (padv bm L 8 ((0, -1, sk bm L 0, fun _ => 0) : PSt)))) := by unfold pHd; rw [pH0_y w8]
  have hb : (pnum bm L 1 40 (padv bm L 8 ((0, -1, sk bm L 0, fun _ => 0) : PSt))).1 ≠ 0 := by omega
  rw [e9, show pnumA bm L 0 1 40 (padv bm L 8 ((0, -1, sk bm L 0, fun _ => 0) : PSt)) = pnum bm L 1 40 (padv bm L 8 ((0, -1, sk bm L 0, fun _ => 0) : PSt)) from pset_bad hb, pnumA_b hb, pexp_f hb]
  exact ⟨_, _, _, Or.inr ⟨rfl, hb⟩, h_rd, h_tk, hE⟩) dX7_readHead_46
  · skip
    have w8 : isW bm L (sk bm L 0) (ST 8) = false := by
      rcases e_z_6 with q | q
      · exact absurd q.1 (by omega)
      · exact q.2
    refine r_aload_n E 0 hl rfl dX7_readHead_12 ?_
    refine r_bipush E dX7_readHead_13 (by decide) ?_
    refine r_callVI E h (As := [.int (zI (-2))]) (rest := []) (k_X7_fail l (-2) h_rd h_tk) h_rd rfl gX7_readHead_X7_fail rfl hd_X7_fail (by decide) ⟨by decide, by decide⟩ hl.1 rfl (Nat.le_of_ble_eq_true rfl) dX7_readHead_15 rfl (fun z_15 ws H locs hp h => ?_)
    obtain ⟨rfl, h_rd, hf⟩ := hp
    have h_tk := hf.at h_tk (by first | omega | (dsimp only <;> omega))
    have h_in := hf.at h_in (by first | omega | (dsimp only <;> omega))
    have hE := hE.tr (hf.wk (fun j hj => by first | omega | (dsimp only at hj ⊢ <;> omega)))
    exact r_zret E h (by omega) (by
  have e9 : pHd bm L = (-2, sk bm L 0, sk bm L 0, fun _ => 0) := by
    have hb : ((-2, sk bm L 0, sk bm L 0, fun _ => 0) : PSt).1 ≠ 0 := by show (-2 : Int) ≠ 0; decide
    unfold pHd
    rw [pH0_n w8, pnumA_b hb, pnumA_b hb, pexp_f hb]
  rw [e9]
  exact ⟨_, _, _, Or.inr ⟨rfl, by show (-2 : Int) ≠ 0; decide⟩, h_rd, h_tk, hE⟩) dX7_readHead_18
theorem hd_X7_read : yX7_read.cls = RX7 ∧ yX7_read.cls ≠ "java/lang/invoke/MethodHandle" ∧ yX7_read.cls ≠ "java/lang/invoke/VarHandle" ∧ (parseMethodDescriptor yX7_read.desc).map (fun d => d.parameters.length) = some 2 := by decide +kernel
theorem fl_X7_read_9 : Cond.fieldLink RX7 9 (TX7 0).1 (TX7 0).2.1 (TX7 0).2.2.1 ∈ wsX7_read := List.mem_of_getElem? (i := 1) rfl
theorem inn_X7_read_7 : ∀ w ∈ wsX70, w ∈ wsX7_read := fun _ h => List.mem_cons_of_mem _ (List.mem_append_left _ (List.mem_append_left _ (List.mem_append_left _ (List.mem_append_right _ h))))
theorem fl_X7_read_15 : Cond.fieldLink RX7 15 (TX7 1).1 (TX7 1).2.1 (TX7 1).2.2.1 ∈ wsX7_read := List.mem_of_getElem? (i := 2) rfl
theorem fl_X7_read_21 : Cond.fieldLink RX7 21 (TX7 2).1 (TX7 2).2.1 (TX7 2).2.2.1 ∈ wsX7_read := List.mem_of_getElem? (i := 3) rfl
theorem fl_X7_read_44 : Cond.fieldLink RX7 44 (TX7 7).1 (TX7 7).2.1 (TX7 7).2.2.1 ∈ wsX7_read := List.mem_of_getElem? (i := 4) rfl
theorem fl_X7_read_51 : Cond.fieldLink RX7 51 (TX7 9).1 (TX7 9).2.1 (TX7 9).2.2.1 ∈ wsX7_read := List.mem_of_getElem? (i := 5) rfl
theorem fl_X7_read_28 : Cond.fieldLink RX7 28 (TX7 3).1 (TX7 3).2.1 (TX7 3).2.2.1 ∈ wsX7_read := List.mem_of_getElem? (i := 6) rfl
theorem fl_X7_read_65 : Cond.fieldLink RX7 65 (TX9 0).1 (TX9 0).2.1 (TX9 0).2.2.1 ∈ wsX7_read := List.mem_of_getElem? (i := 7) rfl
theorem inn_X7_read_9 : ∀ w ∈ wsX90, w ∈ wsX7_read := fun _ h => List.mem_cons_of_mem _ (List.mem_append_left _ (List.mem_append_left _ (List.mem_append_right _ h)))
abbrev rm_X7_read : Room := { frames := 31, cells := 620, slots := 3720, locals := 821 }
set_option maxHeartbeats 1200000 in
set_option maxRecDepth 100000 in
theorem k_X7_read (l : Launch) {G : va_G} {cy : Nat → ClassId} {ws0 : va_W} {qr qi ard arc atk arl apg ain : Nat} {nm9 cs9 rt9 n9 : Int}{bu bm : Int → Int} {L : Int}{arp9 : Nat} {rlf : Int → Option Nat} {pgf : Int → Int} {ec9 ep9 k0 s0 v0 l0 e0 : Int} {aol : Nat} {F9 : Int64} {P9 : Int → Int64} {B0 : Nat} (h_rd : ws0[qr]? = some (ard, .inr (7, [.int (zI ec9), .int (zI ep9), .ref arc, .ref atk, .int (zI nm9), .int (zI cs9), .ref arl, .int (zI rt9), .ref apg, .int (zI n9)]))) (h_rc : ws0[qr + 1]? = some (arc, .inr (0, [.ref arp9, .long F9]))) (h_rcp : ws0[qr + 2]? = some (arp9, aL cy 4 P9)) (h_tk : ws0[qr + 3]? = some (atk, .inr (9, [.int (zI k0), .int (zI s0), .int (zI v0), .ref aol, .int (zI l0), .int (zI e0)]))) (h_in : ws0[qi]? = some (ain, aB cy 600 bu)) (h_rl : ws0[qr + 5]? = some (arl, aR cy 4 4 rlf)) (h_pg : ws0[qr + 6]? = some (apg, aI cy 600 pgf)) (htx : TXok bm) (hbm : ∀ i : Int, bu i = sg (bm i)) (hL : 0 ≤ L ∧ L ≤ 600) (hqi : qi < qr ∨ qr + 7 ≤ qi) (hB0 : qr + 7 ≤ B0 ∧ qi < B0 ∧ B0 ≤ ws0.length) : MIk l yX7_read wsX7_read rm_X7_read G cy [.ref ard, .ref ain, .int (zI L)] ws0 (SQ cy ws0 qr ard arc arp9 atk arl apg ain bm L B0 (pLoad bm L)) := by
  refine MIk.of (own := RX7) (cc := cX7_read) (nL := 5) (ret := (some .boolean)) (by decide) rfl rfl (Nat.le_of_ble_eq_true rfl) ?_
  intro p e s m below meth c A ls hX E h hl
  have hl : lv_has ls 5 [(0, .ref ard), (1, .ref ain), (2, .int (zI L))] := hl
  have hE : Eqx ws0 ws0 (fun j => qr ≤ j ∧ j < qr + 7) := Eqx.rf
  refine r_aload_n E 0 hl rfl dX7_read_0 ?_
  refine r_iconst E dX7_read_1 ?_
  refine r_put E h h_rd rfl inn_X7_read_7 0 (by decide) fl_X7_read_9 tyX7 tyX7_ok nmX7 rfl rfl rfl (Nat.le_of_ble_eq_true rfl) dX7_read_2 (fun ws H locs h hu => ?_)
  have h_rd : ws[qr]? = some (ard, .inr (7, [.int (zI 0), .int (zI ep9), .ref arc, .ref atk, .int (zI nm9), .int (zI cs9), .ref arl, .int (zI rt9), .ref apg, .int (zI n9)])) := hu.1
  have h_rc := hu.keep h_rc (by omega)
  have h_rcp := hu.keep h_rcp (by omega)
  have h_tk := hu.keep h_tk (by omega)
  have h_in := hu.keep h_in (by omega)
  have h_rl := hu.keep h_rl (by omega)
  have h_pg := hu.keep h_pg (by omega)
  have hE := hE.tr (hu.eqx (by first | omega | (dsimp only <;> omega)))
  refine r_aload_n E 0 hl rfl dX7_read_5 ?_
  refine r_iconst E dX7_read_6 ?_
  refine r_put E h h_rd rfl inn_X7_read_7 1 (by decide) fl_X7_read_15 tyX7 tyX7_ok nmX7 rfl rfl rfl (Nat.le_of_ble_eq_true rfl) dX7_read_7 (fun ws H locs h hu => ?_)
  have h_rd : ws[qr]? = some (ard, .inr (7, [.int (zI 0), .int (zI (-1)), .ref arc, .ref atk, .int (zI nm9), .int (zI cs9), .ref arl, .int (zI rt9), .ref apg, .int (zI n9)])) := hu.1
  have h_rc := hu.keep h_rc (by omega)
  have h_rcp := hu.keep h_rcp (by omega)
  have h_tk := hu.keep h_tk (by omega)
  have h_in := hu.keep h_in (by omega)
  have h_rl := hu.keep h_rl (by omega)
  have h_pg := hu.keep h_pg (by omega)
  have hE := hE.tr (hu.eqx (by first | omega | (dsimp only <;> omega)))
  refine r_aload_n E 0 hl rfl dX7_read_10 ?_
  refine r_get (v := .ref arc) E h h_rd rfl inn_X7_read_7 2 (by decide) fl_X7_read_21 rfl dX7_read_11 ?_
  refine r_callVV E h (As := []) (rest := []) (k_X0_clear l ((pHd bm L).2.2.2 0) h_rc h_rcp) h_rc rfl gX7_read_X0_clear rfl hd_X0_clear (by decide) ⟨by decide, by decide⟩ hl.1 rfl (Nat.le_of_ble_eq_true rfl) dX7_read_14 rfl (fun ws H locs hp h => ?_)
  obtain ⟨h_rc, h_rcp, hf⟩ := hp
  have h_rd := hf.at h_rd (by first | omega | (dsimp only <;> omega))
  have h_tk := hf.at h_tk (by first | omega | (dsimp only <;> omega))
  have h_in := hf.at h_in (by first | omega | (dsimp only <;> omega))
  have h_rl := hf.at h_rl (by first | omega | (dsimp only <;> omega))
  have h_pg := hf.at h_pg (by first | omega | (dsimp only <;> omega))
  have hE := hE.tr (hf.wk (fun j hj => by first | omega | (dsimp only at hj ⊢ <;> omega)))
  refine r_aload_n E 0 hl rfl dX7_read_17 ?_
  refine r_iconst E dX7_read_18 ?_
  refine r_put E h h_rd rfl inn_X7_read_7 7 (by decide) fl_X7_read_44 tyX7 tyX7_ok nmX7 rfl rfl rfl (Nat.le_of_ble_eq_true rfl) dX7_read_19 (fun ws H locs h hu => ?_)
  have h_rd : ws[qr]? = some (ard, .inr (7, [.int (zI 0), .int (zI (-1)), .ref arc, .ref atk, .int (zI nm9), .int (zI cs9), .ref arl, .int (zI 0), .ref apg, .int (zI n9)])) := hu.1
  have h_rc := hu.keep h_rc (by omega)
  have h_rcp := hu.keep h_rcp (by omega)
  have h_tk := hu.keep h_tk (by omega)
  have h_in := hu.keep h_in (by omega)
  have h_rl := hu.keep h_rl (by omega)
  have h_pg := hu.keep h_pg (by omega)
  have hE := hE.tr (hu.eqx (by first | omega | (dsimp only <;> omega)))
  refine r_aload_n E 0 hl rfl dX7_read_22 ?_
  refine r_iconst E dX7_read_23 ?_
  refine r_put E h h_rd rfl inn_X7_read_7 9 (by decide) fl_X7_read_51 tyX7 tyX7_ok nmX7 rfl rfl rfl (Nat.le_of_ble_eq_true rfl) dX7_read_24 (fun ws H locs h hu => ?_)
  have h_rd : ws[qr]? = some (ard, .inr (7, [.int (zI 0), .int (zI (-1)), .ref arc, .ref atk, .int (zI nm9), .int (zI cs9), .ref arl, .int (zI 0), .ref apg, .int (zI 0)])) := hu.1
  have h_rc := hu.keep h_rc (by omega)
  have h_rcp := hu.keep h_rcp (by omega)
  have h_tk := hu.keep h_tk (by omega)
  have h_in := hu.keep h_in (by omega)
  have h_rl := hu.keep h_rl (by omega)
  have h_pg := hu.keep h_pg (by omega)
  have hE := hE.tr (hu.eqx (by first | omega | (dsimp only <;> omega)))
  refine r_aload_n E 0 hl rfl dX7_read_27 ?_
  refine r_get (v := .ref atk) E h h_rd rfl inn_X7_read_7 3 (by decide) fl_X7_read_28 rfl dX7_read_28 ?_
  refine r_aload_n E 1 hl rfl dX7_read_31 ?_
  refine r_iload_n E 2 hl rfl dX7_read_32 ?_
  refine r_callVV E h (As := [.ref ain, .int (zI L)]) (rest := []) (k_X9_begin l h_tk h_in htx hbm hL (by omega)) h_tk rfl gX7_read_X9_begin rfl hd_X9_begin (by decide) ⟨by decide, by decide⟩ hl.1 rfl (Nat.le_of_ble_eq_true rfl) dX7_read_33 rfl (fun ws H locs hp h => ?_)
  obtain ⟨h_tk, hf⟩ := hp
  have h_rd := hf.at h_rd (by first | omega | (dsimp only <;> omega))
  have h_rc := hf.at h_rc (by first | omega | (dsimp only <;> omega))
  have h_rcp := hf.at h_rcp (by first | omega | (dsimp only <;> omega))
  have h_in := hf.at h_in (by first | omega | (dsimp only <;> omega))
  have h_rl := hf.at h_rl (by first | omega | (dsimp only <;> omega))
  have h_pg := hf.at h_pg (by first | omega | (dsimp only <;> omega))
  have hE := hE.tr (hf.wk (fun j hj => by first | omega | (dsimp only at hj ⊢ <;> omega)))
  refine r_aload_n E 0 hl rfl dX7_read_36 ?_
  refine r_callVkI E hX h (As := []) (rest := []) (k_X7_readHead l h_rd h_tk h_in htx hbm hL hqi) h_rd rfl gX7_read_X7_readHead rfl hd_X7_readHead (by decide) ⟨by decide, by decide⟩ hl.1 rfl (Nat.le_of_ble_eq_true rfl) dX7_read_37 rfl (fun z_37 ws H locs hp h => ?_)
  obtain ⟨p_37, nm_37, cs_37, e_37, h_rd, h_tk, hf⟩ := hp
  have h_rc := hf.at h_rc (by first | omega | (dsimp only <;> omega))
  have h_rcp := hf.at h_rcp (by first | omega | (dsimp only <;> omega))
  have h_in := hf.at h_in (by first | omega | (dsimp only <;> omega))
  have h_rl := hf.at h_rl (by first | omega | (dsimp only <;> omega))
  have h_pg := hf.at h_pg (by first | omega | (dsimp only <;> omega))
  have hE := hE.tr (hf.wk (fun j hj => by first | omega | (dsimp only at hj ⊢ <;> omega)))
  refine r_istore_n (lv' := [(3, .int (zI z_37)), (0, .ref ard), (1, .ref ain), (2, .int (zI L))]) E hl dX7_read_40 rfl (by decide) rfl (fun ls hl => ?_)
  have hsv := SV.hd (t := bm) hL
  have hg : z_37 = 1 ∧ (pHd bm L).1 = 0 ∧ p_37 = (pHd bm L).2.2.1 ∧ GR ws B0 (pHd bm L).2.2.2 (fmk ((pHd bm L).2.2.2 0) (fun _ => 0)) (mk ((pHd bm L).2.2.2 0) (fun _ => 0)) nm_37 cs_37 0 0 rlf pgf ∨ z_37 = 0 ∧ (pHd bm L).1 ≠ 0 := by
    rcases e_37 with ⟨q1, q2, q3, q4, q5, q6⟩ | q
    · refine Or.inl ⟨q1, q2, q3, q4, q5, (q6 2 (by omega)).symm, ?_, ?_, fun r hr => absurd hr (by omega), ⟨by rw [q6 4 (by omega)]; exact Int.le_refl 0, [], rfl, by rw [q6 4 (by omega)]; rfl, fun k hk => absurd hk (by simp)⟩, Or.inl ⟨q6 3 (by omega), rfl⟩⟩
      · exact fmk_congr (fun x a b => by show (0 : Int) = 1 ↔ (pHd bm L).2.2.2 (70 + x) = 1; rw [q6 _ (by omega)])
      · exact funext fun c => mk_congr (fun x a b => by show (0 : Int) = c + 1 ↔ (pHd bm L).2.2.2 (29 + x) = c + 1; rw [q6 _ (by omega)])
    · exact Or.inr q
  clear e_37
  refine r_iconst E dX7_read_41 ?_
  refine r_istore (lv' := [(4, .int (zI 0)), (3, .int (zI z_37)), (0, .ref ard), (1, .ref ain), (2, .int (zI L))]) E hl dX7_read_42 (by decide) rfl (fun ls hl => ?_)
  refine r_loopC (fun n k9 H locs ls => ∃ (ws : va_W) (f2 : Nat) (S2 : PSt) (x9 : Int) (i9 : Int) (p3 : Int) (nm3 : Int) (cs3 : Int) (rt3 : Int) (n3 : Int) (F3 : Int64) (P3 : Int → Int64) (rl3 : Int → Option Nat) (pg3 : Int → Int), n = ((f2 : Int)).toNat ∧ (x9 = 1 ∧ S2.1 = 0 ∧ p3 = S2.2.2.1 ∧ GR ws B0 S2.2.2.2 F3 P3 nm3 cs3 rt3 n3 rl3 pg3 ∨ x9 = 0 ∧ S2.1 ≠ 0) ∧ (SV L S2) ∧ (pSts bm L f2 S2 = pLoad bm L) ∧ (S2.1 = 0 → L - S2.2.2.1 < f2) ∧ (0 ≤ i9 ∧ (S2.1 = 0 → i9 ≤ S2.2.2.1)) ∧ (B0 ≤ ws.length) ∧ ((k9 : Int) = i9) ∧ (i9 ≤ 600) ∧ Hp G ws A s.heap H locs ∧ (ws[qr]? = some (ard, .inr (7, [.int (zI S2.1), .int (zI S2.2.1), .ref arc, .ref atk, .int (zI nm3), .int (zI cs3), .ref arl, .int (zI rt3), .ref apg, .int (zI n3)]))) ∧ (ws[qr + 1]? = some (arc, .inr (0, [.ref arp9, .long F3]))) ∧ (ws[qr + 2]? = some (arp9, aL cy 4 P3)) ∧ (ws[qr + 3]? = some (atk, .inr (9, [.int (zI (tkK bm L p3)), .int (zI p3), .int (zI (tkV bm L p3)), .ref ain, .int (zI L), .int (zI (tkE bm L p3))]))) ∧ (ws[qi]? = some (ain, aB cy 600 bu)) ∧ (ws[qr + 5]? = some (arl, aR cy 4 4 rl3)) ∧ (ws[qr + 6]? = some (apg, aI cy 600 pg3)) ∧ Eqx ws0 ws (fun j => qr ≤ j ∧ j < qr + 7) ∧ lv_has ls 5 [(0, .ref ard), (3, .int (zI x9)), (4, .int (zI i9))]) (fun k => k) (fun k => 6 * k) _ 0 ⟨by decide, by decide⟩ ⟨ws, 700, (pHd bm L), z_37, 0, p_37, nm_37, cs_37, 0, 0, (fmk ((pHd bm L).2.2.2 0) (fun _ => 0)), (mk ((pHd bm L).2.2.2 0) (fun _ => 0)), rlf, pgf, rfl, hg, hsv.1, rfl, (fun hh => by have := (hsv.1.2 hh).1; omega), ⟨by omega, fun hh => (hsv.1.2 hh).1.1⟩, (Nat.le_trans hB0.2.2 hE.1), rfl, (by omega), h, h_rd, h_rc, h_rcp, h_tk, h_in, h_rl, h_pg, hE, lv_sub hl [2, 1, 0] rfl⟩ ?_
  rintro n k9 H locs ls ⟨ws, f2, S2, x9, i9, p3, nm3, cs3, rt3, n3, F3, P3, rl3, pg3, hn, hg, hsv2, hfin, hf2, hi9, hlB, hk9, hi7, h, h_rd, h_rc, h_rcp, h_tk, h_in, h_rl, h_pg, hE, hl⟩ ih_44
  refine r_iload_n E 1 hl rfl dX7_read_44 ?_
  refine r_if_eq E 77 dX7_read_45 (by decide) (by omega) (fun c_45 => ?_) (fun c_45 => ?_)
  · skip
    have hb2 : S2.1 ≠ 0 := by
      rcases hg with q | q
      · exact absurd q.1 (by omega)
      · exact q.2
    refine r_iload_n E 1 hl rfl dX7_read_77 ?_
    refine W.widen (k := 620) (n := 3720) (by show k9 ≤ 620; omega) (by show 6 * k9 ≤ 3720; omega) ?_
    exact r_zret E h (by omega) (by
  rw [show pLoad bm L = S2 from hfin.symm.trans (pSts_end (Or.inl hb2))]
  exact ⟨_, _, _, _, _, _, _, _, _, Or.inr ⟨by omega, hb2⟩, h_rd, h_rc, h_rcp, h_tk, h_rl, h_pg, hE⟩) dX7_read_78
  · skip
    have hg2 := hg
    rcases hg with ⟨q0, h0, ep3, r1, r2, r3, r4, r5, hRU, hPT, hn3⟩ | q
    rotate_left
    · exact absurd q.1 (by omega)
    rw [ep3] at h_tk
    have hSV := hsv2.2 h0
    have hgp := hSV.1
    have htr := tk_rng htx hgp.2
    have hG := hsv2.pg
    have h_rd : ws[qr]? = some (ard, .inr (7, [.int (zI S2.1), .int (zI S2.2.1), .ref arc, .ref atk, .int (zI (S2.2.2.2 0)), .int (zI (S2.2.2.2 1)), .ref arl, .int (zI (S2.2.2.2 2)), .ref apg, .int (zI n3)])) := by rw [← r1, ← r2, ← r3]; exact h_rd
    have h_rc : ws[qr + 1]? = some (arc, .inr (0, [.ref arp9, .long (fmk (S2.2.2.2 0) (fx S2.2.2.2))])) := by rw [← r4]; exact h_rc
    have h_rcp : ws[qr + 2]? = some (arp9, aL cy 4 (mk (S2.2.2.2 0) (cl S2.2.2.2))) := by rw [← r5]; exact h_rcp
    rw [r3] at hRU
    refine r_aload_n E 0 hl rfl dX7_read_48 ?_
    refine r_get (v := .ref atk) E h h_rd rfl inn_X7_read_7 3 (by decide) fl_X7_read_28 rfl dX7_read_49 ?_
    refine r_get (v := .int (zI (tkK bm L S2.2.2.1))) E h h_tk rfl inn_X7_read_9 0 (by decide) fl_X7_read_65 rfl dX7_read_52 ?_
    refine r_if_eq E 77 dX7_read_55 (by decide) (by omega) (fun c_55 => ?_) (fun c_55 => ?_)
    · skip
      have hend := tk_0.mp c_55
      refine r_iload_n E 1 hl rfl dX7_read_77 ?_
      refine W.widen (k := 620) (n := 3720) (by show k9 ≤ 620; omega) (by show 6 * k9 ≤ 3720; omega) ?_
      exact r_zret E h (by omega) (by
  rw [show pLoad bm L = S2 from hfin.symm.trans (pSts_end (Or.inr hend))]
  exact ⟨_, _, _, _, _, _, _, _, _, Or.inl ⟨by omega, h0, rfl, rfl, rfl, rfl, rfl, rfl, hRU, hPT, hn3⟩, h_rd, h_rc, h_rcp, h_tk, h_rl, h_pg, hE⟩) dX7_read_78
    · skip
      have hne : byA bm L S2.2.2.1 ≠ -1 := fun q => c_55 (tk_0.mpr q)
      have hlt : S2.2.2.1 < L := byA_in (t := bm) hne
      have hF2 := hf2 h0
      obtain ⟨f8, rfl⟩ : ∃ k, f2 = k + 1 := ⟨f2 - 1, by omega⟩
      have hi8 := hi9.2 h0
      have hst := SV.stm (t := bm) hsv2 h0 hL.2
      refine r_iload E 2 hl rfl dX7_read_58 ?_
      refine r_sipush E dX7_read_60 (by decide) ?_
      refine r_icmp_ge E 77 dX7_read_63 (by decide) (by omega) (fun c_63 => ?_) (fun c_63 => ?_)
      · skip
        exfalso; omega
      · skip
        refine r_aload_n E 0 hl rfl dX7_read_66 ?_
        refine r_callVkI E hX h (As := []) (rest := []) (k_X7_readStatement (S := S2) (B0 := B0) l h_rd h_rc h_rcp h_tk h_in h_rl h_pg htx hbm hL hqi h0 hG hSV.2 hRU hPT hn3 ⟨by omega, by omega, hlB⟩) h_rd rfl gX7_read_X7_readStatement rfl hd_X7_readStatement (by decide) ⟨by show k9 + 1 ≤ 620; omega, by show 6 * k9 + 6 ≤ 3720; omega⟩ hl.1 rfl (Nat.le_of_ble_eq_true rfl) dX7_read_67 rfl (fun z_67 ws H locs hp h => ?_)
        obtain ⟨p_67, nm_67, cs_67, rt_67, n_67, F_67, P_67, rl_67, pg_67, e_67, h_rd, h_rc, h_rcp, h_tk, h_rl, h_pg, hf⟩ := hp
        have h_in := hf.at h_in (by first | omega | (dsimp only <;> omega))
        have hE := hE.tr (hf.wk (fun j hj => by first | omega | (dsimp only at hj ⊢ <;> omega)))
        refine r_istore_n (lv' := [(3, .int (zI z_67)), (0, .ref ard), (4, .int (zI i9))]) E hl dX7_read_70 rfl (by decide) rfl (fun ls hl => ?_)
        refine r_iinc (lv' := [(4, .int (zI (i9 + 1))), (3, .int (zI z_67)), (0, .ref ard)]) E 2 hl rfl dX7_read_71 (by decide) rfl (fun ls hl => ?_)
        refine r_goto E 44 dX7_read_74 (by decide) ?_
        exact ih_44 _ _ _ (k9 + 1) H locs ls (by omega) (Nat.le_refl _) (Nat.le_refl _) ⟨ws, f8, (pStm bm L S2), z_67, (i9 + 1), p_67, nm_67, cs_67, rt_67, n_67, F_67, P_67, rl_67, pg_67, rfl, e_67, hst.1, (by rw [← hfin]; exact (pSts_step h0 hne).symm), (fun hh => by have h1 := hst.2 hh; have h2 := h1.1; omega), ⟨by omega, fun hh => by have h1 := (hst.2 hh).1; omega⟩, (Nat.le_trans hB0.2.2 hE.1), (by omega), (by omega), h, h_rd, h_rc, h_rcp, h_tk, h_in, h_rl, h_pg, hE, lv_sub hl [2, 1, 0] rfl⟩
