theorem opL_get {e : Int → Int} {m : Nat} {j : Nat} : (j < (opL e m).length → (opL e (m + 1)).getD j 0 = (opL e m).getD j 0) := fun h => by
  show (opL e m ++ (if e ((m : Int) + 1) = 0 then [(m : Int) + 1] else [])).getD j 0 = _
  rw [List.getD_eq_getElem?_getD, List.getD_eq_getElem?_getD, List.getElem?_append_left h]
theorem opL_new {e : Int → Int} {m : Nat} (h : e ((m : Int) + 1) = 0) : (opL e (m + 1)).length = (opL e m).length + 1 ∧ (opL e (m + 1)).getD (opL e m).length 0 = (m : Int) + 1 := by
  have hh : opL e (m + 1) = opL e m ++ [(m : Int) + 1] := by
    show opL e m ++ (if e ((m : Int) + 1) = 0 then [(m : Int) + 1] else []) = _
    rw [if_pos h]
  rw [hh]
  refine ⟨by simp, ?_⟩
  rw [List.getD_eq_getElem?_getD, List.getElem?_append_right (Nat.le_refl _)]
  simp
theorem opL_same {e : Int → Int} {m : Nat} (h : e ((m : Int) + 1) ≠ 0) : opL e (m + 1) = opL e m := by
  show opL e m ++ (if e ((m : Int) + 1) = 0 then [(m : Int) + 1] else []) = _
  rw [if_neg h, List.append_nil]
/-- a place of the search loses its colour -/
def unc (e op : Int → Int) (pl : Int) : Int → Int := if pl < 0 then e else uZ e (op pl) 0
/-- what the search does when it goes back -/
theorem sr_bk {d : Int → Int} {T : List Int} {ol : List Int} {most : Int} {op db : Int → Int} {pl fr9 tr : Int} {dp : Nat} (hD : DW db T) (hol : ∀ j : Nat, j < ol.length → 1 ≤ ol.getD j 0 ∧ ol.getD j 0 ≤ 40) (hop : ∀ j : Nat, j < ol.length → op (j : Int) = ol.getD j 0) (h0 : 0 ≤ pl) (h1 : pl < ol.length) (ht : tr ≤ most) (hn : nxt db fr9 = db 1) :
    ∃ (db2 : Int → Int) (fr2 : Int), unc (cl db) op (pl - 1) = cl db2 ∧ DW db2 T ∧ (∀ i : Int, i < 30 → db2 i = db i) ∧ (∀ i : Int, 69 < i → db2 i = db i) ∧ (0 ≤ fr2 ∧ fr2 ≤ db 1) ∧ (0 ≤ pl - 1 → sr d ol most pl.toNat fr9 tr dp db = sr d ol most (pl - 1).toNat fr2 tr dp db2 ∧ fr2 = db (29 + ol.getD (pl - 1).toNat 0)) ∧ (pl - 1 = -1 → sr d ol most pl.toNat fr9 tr dp db = (-1, dp, db2)) ∧ (∀ j : Nat, (j : Int) < pl - 1 → db2 (29 + ol.getD j 0) = db (29 + ol.getD j 0) ∨ ol.getD j 0 = ol.getD (pl - 1).toNat 0) := by
  have hk := hD.k
  by_cases c : pl = 0
  · subst c
    refine ⟨db, 0, if_pos (by omega), hD, fun _ _ => rfl, fun _ _ => rfl, by omega, fun hh => absurd hh (by omega), fun _ => ?_, fun j hj => Or.inl rfl⟩
    exact sr_fail (by omega) hn
  · have h9 := hol (pl - 1).toNat (by omega)
    have hc := hD.col h9.1 h9.2
    have ho := hop (pl - 1).toNat (by omega)
    rw [show (((pl - 1).toNat : Nat) : Int) = pl - 1 by omega] at ho
    refine ⟨uZ db (29 + ol.getD (pl - 1).toNat 0) 0, db (29 + ol.getD (pl - 1).toNat 0), ?_, hD.setcol h9 (by omega), fun i hi => uZ_n (by omega), fun i hi => uZ_n (by omega), by omega, fun _ => ⟨?_, rfl⟩, fun hh => absurd hh (by omega), fun j hj => ?_⟩
    · unfold unc
      rw [if_neg (by omega), cl_set, ho]
    · have := sr_back (d := d) (ol := ol) (most := most) (at9 := pl.toNat) (from9 := fr9) (tr := tr) (dp := dp) (da := db) ht (by omega) (by omega) hn
      rw [show pl.toNat - 1 = (pl - 1).toNat by omega] at this
      exact this
    · by_cases q : ol.getD j 0 = ol.getD (pl - 1).toNat 0
      · exact Or.inr q
      · exact Or.inl (uZ_n (by omega))
theorem hd_X5_listOpen : yX5_listOpen.cls = RX5 ∧ yX5_listOpen.cls ≠ "java/lang/invoke/MethodHandle" ∧ yX5_listOpen.cls ≠ "java/lang/invoke/VarHandle" ∧ (parseMethodDescriptor yX5_listOpen.desc).map (fun d => d.parameters.length) = some 1 := by decide +kernel
theorem fl_X5_listOpen_28 : Cond.fieldLink RX5 28 (TX5 4).1 (TX5 4).2.1 (TX5 4).2.2.1 ∈ wsX5_listOpen := List.mem_of_getElem? (i := 1) rfl
theorem inn_X5_listOpen_5 : ∀ w ∈ wsX50, w ∈ wsX5_listOpen := fun _ h => List.mem_cons_of_mem _ (List.mem_append_left _ (List.mem_append_right _ h))
theorem fl_X5_listOpen_21 : Cond.fieldLink RX5 21 (TX5 2).1 (TX5 2).2.1 (TX5 2).2.2.1 ∈ wsX5_listOpen := List.mem_of_getElem? (i := 2) rfl
theorem fl_X5_listOpen_12 : Cond.fieldLink RX5 12 (TX5 0).1 (TX5 0).2.1 (TX5 0).2.2.1 ∈ wsX5_listOpen := List.mem_of_getElem? (i := 3) rfl
theorem fl_X5_listOpen_25 : Cond.fieldLink RX5 25 (TX5 3).1 (TX5 3).2.1 (TX5 3).2.2.1 ∈ wsX5_listOpen := List.mem_of_getElem? (i := 4) rfl
abbrev rm_X5_listOpen : Room := { frames := 1, cells := 0, slots := 0, locals := 22 }
set_option maxHeartbeats 1200000 in
set_option maxRecDepth 100000 in
theorem k_X5_listOpen (l : Launch) {G : va_G} {cy : Nat → ClassId} {ws0 : va_W} {q5 asr asc ascp asb aop atr : Nat} {op tr : Int → Int} {tot dee : Int} {f : Int → Int} {nn : Int} {ce : Int → Int} (to : Int) (h_sr : ws0[q5]? = some (asr, .inr (5, [.ref asc, .ref asb, .ref aop, .ref atr, .int (zI tot), .int (zI dee)]))) (h_sc : ws0[q5 + 1]? = some (asc, .inr (0, [.ref ascp, .long (fmk nn f)]))) (h_scp : ws0[q5 + 1 + 1]? = some (ascp, aL cy 4 (mk nn ce))) (h_op : ws0[q5 + 5]? = some (aop, aI cy 40 op)) (h_tr : ws0[q5 + 6]? = some (atr, aI cy 40 tr)) (hnn : 0 ≤ nn ∧ nn ≤ 40) (hto : 0 ≤ to ∧ to ≤ nn) (he : ∀ x : Int, 1 ≤ x → x ≤ nn → 0 ≤ ce x ∧ ce x ≤ 4) : MV l yX5_listOpen wsX5_listOpen rm_X5_listOpen G cy [.ref asr, .int (zI to)] ws0 (fun u => ∃ op2 tr2 : Int → Int, u[q5]? = some (asr, .inr (5, [.ref asc, .ref asb, .ref aop, .ref atr, .int (zI (((opL ce to.toNat).length : Int))), .int (zI dee)])) ∧ u[q5 + 5]? = some (aop, aI cy 40 op2) ∧ u[q5 + 6]? = some (atr, aI cy 40 tr2) ∧ (∀ j : Nat, j < (opL ce to.toNat).length → op2 (j : Int) = (opL ce to.toNat).getD j 0 ∧ tr2 (j : Int) = -1) ∧ Eqx ws0 u (fun j => j = q5 ∨ j = q5 + 5 ∨ j = q5 + 6)) := by
  refine MV.of (own := RX5) (cc := cX5_listOpen) (nL := 3) (ret := none) (by decide) rfl rfl (Nat.le_of_ble_eq_true rfl) ?_
  intro p e s m below meth c A ls hin E h hl
  have hl : lv_has ls 3 [(0, .ref asr), (1, .int (zI to))] := hl
  have hE : Eqx ws0 ws0 (fun j => j = q5 ∨ j = q5 + 5 ∨ j = q5 + 6) := Eqx.rf
  refine r_aload_n E 0 hl rfl dX5_listOpen_0 ?_
  refine r_iconst E dX5_listOpen_1 ?_
  refine r_put E h h_sr rfl inn_X5_listOpen_5 4 (by decide) fl_X5_listOpen_28 tyX5 tyX5_ok nmX5 rfl rfl rfl (Nat.le_of_ble_eq_true rfl) dX5_listOpen_2 (fun ws H locs h hu => ?_)
  have h_sr : ws[q5]? = some (asr, .inr (5, [.ref asc, .ref asb, .ref aop, .ref atr, .int (zI 0), .int (zI dee)])) := hu.1
  have h_sc := hu.keep h_sc (by omega)
  have h_scp := hu.keep h_scp (by omega)
  have h_op := hu.keep h_op (by omega)
  have h_tr := hu.keep h_tr (by omega)
  have hE := hE.tr (hu.eqx (by first | omega | (dsimp only <;> omega)))
  refine r_iconst E dX5_listOpen_5 ?_
  refine r_istore_n (lv' := [(2, .int (zI 1)), (0, .ref asr), (1, .int (zI to))]) E hl dX5_listOpen_6 rfl (by decide) rfl (fun ls hl => ?_)
  refine r_loop (fun n H locs ls => ∃ (ws : va_W) (x : Int) (op2 : Int → Int) (tr2 : Int → Int), n = (41 - x).toNat ∧ (1 ≤ x ∧ x ≤ to + 1) ∧ (∀ j : Nat, j < (opL ce (x - 1).toNat).length → op2 (j : Int) = (opL ce (x - 1).toNat).getD j 0 ∧ tr2 (j : Int) = -1) ∧ Hp G ws A s.heap H locs ∧ (ws[q5]? = some (asr, .inr (5, [.ref asc, .ref asb, .ref aop, .ref atr, .int (zI (((opL ce (x - 1).toNat).length : Int))), .int (zI dee)]))) ∧ (ws[q5 + 1]? = some (asc, .inr (0, [.ref ascp, .long (fmk nn f)]))) ∧ (ws[q5 + 1 + 1]? = some (ascp, aL cy 4 (mk nn ce))) ∧ (ws[q5 + 5]? = some (aop, aI cy 40 op2)) ∧ (ws[q5 + 6]? = some (atr, aI cy 40 tr2)) ∧ Eqx ws0 ws (fun j => j = q5 ∨ j = q5 + 5 ∨ j = q5 + 6) ∧ lv_has ls 3 [(0, .ref asr), (1, .int (zI to)), (2, .int (zI x))]) _ ⟨ws, 1, op, tr, rfl, (by omega), (fun j hj => absurd hj (by simp [opL])), h, h_sr, h_sc, h_scp, h_op, h_tr, hE, lv_sub hl [1, 2, 0] rfl⟩ ?_
  rintro n H locs ls ⟨ws, x, op2, tr2, hn, i1, i2, h, h_sr, h_sc, h_scp, h_op, h_tr, hE, hl⟩ ih_7
  refine r_iload_n E 2 hl rfl dX5_listOpen_7 ?_
  refine r_iload_n E 1 hl rfl dX5_listOpen_8 ?_
  refine r_icmp_gt E 72 dX5_listOpen_9 (by decide) (by omega) (fun c_9 => ?_) (fun c_9 => ?_)
  · skip
    exact r_vret E h ⟨op2, tr2, by rw [show to.toNat = (x - 1).toNat by omega]; exact h_sr, h_op, h_tr, by rw [show to.toNat = (x - 1).toNat by omega]; exact i2, hE⟩ dX5_listOpen_72
  · skip
    have hex := he x (by omega) (by omega)
    have hol := opL_len (e := ce) (x - 1).toNat
    have hx9 : (((x - 1).toNat : Nat) : Int) + 1 = x := by omega
    have hx8 : (x + 1 - 1).toNat = (x - 1).toNat + 1 := by omega
    refine r_aload_n E 0 hl rfl dX5_listOpen_12 ?_
    refine r_get (v := .int (zI (((opL ce (x - 1).toNat).length : Int)))) E h h_sr rfl inn_X5_listOpen_5 4 (by decide) fl_X5_listOpen_28 rfl dX5_listOpen_13 ?_
    refine r_aload_n E 0 hl rfl dX5_listOpen_16 ?_
    refine r_get (v := .ref aop) E h h_sr rfl inn_X5_listOpen_5 2 (by decide) fl_X5_listOpen_21 rfl dX5_listOpen_17 ?_
    refine r_alen E h rfl h_op (v := 40) rfl dX5_listOpen_20 ?_
    refine r_icmp_ge E 72 dX5_listOpen_21 (by decide) (by omega) (fun c_21 => ?_) (fun c_21 => ?_)
    · skip
      exfalso; omega
    · skip
      refine r_aload_n E 0 hl rfl dX5_listOpen_24 ?_
      refine r_get (v := .ref asc) E h h_sr rfl inn_X5_listOpen_5 0 (by decide) fl_X5_listOpen_12 rfl dX5_listOpen_25 ?_
      refine r_iload_n E 2 hl rfl dX5_listOpen_28 ?_
      refine r_callVI E h (As := [.int (zI x)]) (rest := []) (k_X0_colourOf l x h_sc h_scp hnn (by omega) (he x (by omega) (by omega))) h_sc rfl gX5_listOpen_X0_colourOf rfl hd_X0_colourOf (by decide) ⟨by decide, by decide⟩ hl.1 rfl (Nat.le_of_ble_eq_true rfl) dX5_listOpen_29 rfl (fun z_29 ws H locs hp h => ?_)
      obtain ⟨rfl, rfl⟩ := hp
      refine r_iconst E dX5_listOpen_32 ?_
      refine r_icmp_ne E 66 dX5_listOpen_33 (by decide) (by omega) (fun c_33 => ?_) (fun c_33 => ?_)
      · skip
        have hs9 := opL_same (e := ce) (m := (x - 1).toNat) (by rw [hx9]; omega)
        rw [show ((opL ce (x - 1).toNat).length : Int) = ((opL ce (x + 1 - 1).toNat).length : Int) by rw [hx8, hs9]] at h_sr
        refine r_iinc (lv' := [(2, .int (zI (x + 1))), (0, .ref asr), (1, .int (zI to))]) E 2 hl rfl dX5_listOpen_66 (by decide) rfl (fun ls hl => ?_)
        refine r_goto E 7 dX5_listOpen_69 (by decide) ?_
        exact ih_7 _ H locs ls (by omega) ⟨ws, (x + 1), op2, tr2, rfl, (by omega), (by rw [hx8, hs9]; exact i2), h, h_sr, h_sc, h_scp, h_op, h_tr, hE, lv_sub hl [1, 2, 0] rfl⟩
      · skip
        have hs9 := opL_new (e := ce) (m := (x - 1).toNat) (by rw [hx9]; omega)
        have hs8 := @opL_get ce (x - 1).toNat
        refine r_aload_n E 0 hl rfl dX5_listOpen_36 ?_
        refine r_get (v := .ref aop) E h h_sr rfl inn_X5_listOpen_5 2 (by decide) fl_X5_listOpen_21 rfl dX5_listOpen_37 ?_
        refine r_aload_n E 0 hl rfl dX5_listOpen_40 ?_
        refine r_get (v := .int (zI (((opL ce (x - 1).toNat).length : Int)))) E h h_sr rfl inn_X5_listOpen_5 4 (by decide) fl_X5_listOpen_28 rfl dX5_listOpen_41 ?_
        refine r_iload_n E 2 hl rfl dX5_listOpen_44 ?_
        refine r_iast E h h_op (by omega) (by decide) dX5_listOpen_45 (fun ws H locs h hu => ?_)
        have h_sr := hu.keep h_sr (by omega)
        have h_sc := hu.keep h_sc (by omega)
        have h_scp := hu.keep h_scp (by omega)
        have h_op : ws[q5 + 5]? = some (aop, aI cy 40 (uZ op2 (((opL ce (x - 1).toNat).length : Int)) x)) := hu.1
        have h_tr := hu.keep h_tr (by omega)
        have hE := hE.tr (hu.eqx (by first | omega | (dsimp only <;> omega)))
        refine r_aload_n E 0 hl rfl dX5_listOpen_46 ?_
        refine r_get (v := .ref atr) E h h_sr rfl inn_X5_listOpen_5 3 (by decide) fl_X5_listOpen_25 rfl dX5_listOpen_47 ?_
        refine r_aload_n E 0 hl rfl dX5_listOpen_50 ?_
        refine r_get (v := .int (zI (((opL ce (x - 1).toNat).length : Int)))) E h h_sr rfl inn_X5_listOpen_5 4 (by decide) fl_X5_listOpen_28 rfl dX5_listOpen_51 ?_
        refine r_iconst E dX5_listOpen_54 ?_
        refine r_iast E h h_tr (by omega) (by decide) dX5_listOpen_55 (fun ws H locs h hu => ?_)
        have h_sr := hu.keep h_sr (by omega)
        have h_sc := hu.keep h_sc (by omega)
        have h_scp := hu.keep h_scp (by omega)
        have h_op := hu.keep h_op (by omega)
        have h_tr : ws[q5 + 6]? = some (atr, aI cy 40 (uZ tr2 (((opL ce (x - 1).toNat).length : Int)) (-1))) := hu.1
        have hE := hE.tr (hu.eqx (by first | omega | (dsimp only <;> omega)))
        refine r_aload_n E 0 hl rfl dX5_listOpen_56 ?_
        refine r_dup E dX5_listOpen_57 rfl ?_
        refine r_get (v := .int (zI (((opL ce (x - 1).toNat).length : Int)))) E h h_sr rfl inn_X5_listOpen_5 4 (by decide) fl_X5_listOpen_28 rfl dX5_listOpen_58 ?_
        refine r_iconst E dX5_listOpen_61 ?_
        refine r_iadd E dX5_listOpen_62 ?_
        refine r_put E h h_sr rfl inn_X5_listOpen_5 4 (by decide) fl_X5_listOpen_28 tyX5 tyX5_ok nmX5 rfl rfl rfl (Nat.le_of_ble_eq_true rfl) dX5_listOpen_63 (fun ws H locs h hu => ?_)
        have h_sr : ws[q5]? = some (asr, .inr (5, [.ref asc, .ref asb, .ref aop, .ref atr, .int (zI ((((opL ce (x - 1).toNat).length : Int)) + 1)), .int (zI dee)])) := hu.1
        have h_sc := hu.keep h_sc (by omega)
        have h_scp := hu.keep h_scp (by omega)
        have h_op := hu.keep h_op (by omega)
        have h_tr := hu.keep h_tr (by omega)
        have hE := hE.tr (hu.eqx (by first | omega | (dsimp only <;> omega)))
        rw [show (((opL ce (x - 1).toNat).length : Int) + 1) = ((opL ce (x + 1 - 1).toNat).length : Int) by rw [hx8, hs9.1]; omega] at h_sr
        refine r_iinc (lv' := [(2, .int (zI (x + 1))), (0, .ref asr), (1, .int (zI to))]) E 2 hl rfl dX5_listOpen_66 (by decide) rfl (fun ls hl => ?_)
        refine r_goto E 7 dX5_listOpen_69 (by decide) ?_
        exact ih_7 _ H locs ls (by omega) ⟨ws, (x + 1), (uZ op2 (((opL ce (x - 1).toNat).length : Int)) x), (uZ tr2 (((opL ce (x - 1).toNat).length : Int)) (-1)), rfl, (by omega), (by
      intro j hj
      rw [hx8] at hj ⊢
      rw [hs9.1] at hj
      by_cases e9 : j = (opL ce (x - 1).toNat).length
      · subst e9
        rw [uZ_s, uZ_s, hs9.2]; exact ⟨by omega, rfl⟩
      · rw [uZ_n (by omega), uZ_n (by omega), hs8 (by omega)]; exact i2 j (by omega)), h, h_sr, h_sc, h_scp, h_op, h_tr, hE, lv_sub hl [1, 2, 0] rfl⟩
theorem hd_X5_uncolour : yX5_uncolour.cls = RX5 ∧ yX5_uncolour.cls ≠ "java/lang/invoke/MethodHandle" ∧ yX5_uncolour.cls ≠ "java/lang/invoke/VarHandle" ∧ (parseMethodDescriptor yX5_uncolour.desc).map (fun d => d.parameters.length) = some 1 := by decide +kernel
theorem fl_X5_uncolour_21 : Cond.fieldLink RX5 21 (TX5 2).1 (TX5 2).2.1 (TX5 2).2.2.1 ∈ wsX5_uncolour := List.mem_of_getElem? (i := 1) rfl
theorem inn_X5_uncolour_5 : ∀ w ∈ wsX50, w ∈ wsX5_uncolour := fun _ h => List.mem_cons_of_mem _ (List.mem_append_left _ (List.mem_append_right _ h))
theorem fl_X5_uncolour_12 : Cond.fieldLink RX5 12 (TX5 0).1 (TX5 0).2.1 (TX5 0).2.2.1 ∈ wsX5_uncolour := List.mem_of_getElem? (i := 2) rfl
abbrev rm_X5_uncolour : Room := { frames := 1, cells := 0, slots := 0, locals := 23 }
set_option maxHeartbeats 1200000 in
set_option maxRecDepth 100000 in
theorem k_X5_uncolour (l : Launch) {G : va_G} {cy : Nat → ClassId} {ws0 : va_W} {q5 asr asc ascp asb aop atr : Nat} {op tr : Int → Int} {tot dee : Int} {f : Int → Int} {nn : Int} {ce : Int → Int} (pl : Int) (h_sr : ws0[q5]? = some (asr, .inr (5, [.ref asc, .ref asb, .ref aop, .ref atr, .int (zI tot), .int (zI dee)]))) (h_sc : ws0[q5 + 1]? = some (asc, .inr (0, [.ref ascp, .long (fmk nn f)]))) (h_scp : ws0[q5 + 1 + 1]? = some (ascp, aL cy 4 (mk nn ce))) (h_op : ws0[q5 + 5]? = some (aop, aI cy 40 op)) (h_tr : ws0[q5 + 6]? = some (atr, aI cy 40 tr)) (hnn : 0 ≤ nn ∧ nn ≤ 40) (hp : -1 ≤ pl ∧ pl < 40) (hv : 0 ≤ pl → 1 ≤ op pl ∧ op pl ≤ nn) : MV l yX5_uncolour wsX5_uncolour rm_X5_uncolour G cy [.ref asr, .int (zI pl)] ws0 (fun u => u[q5 + 2]? = some (ascp, aL cy 4 (mk nn (unc ce op pl))) ∧ Eqx ws0 u (fun j => j = q5 + 2)) := by
  refine MV.of (own := RX5) (cc := cX5_uncolour) (nL := 2) (ret := none) (by decide) rfl rfl (Nat.le_of_ble_eq_true rfl) ?_
  intro p e s m below meth c A ls hin E h hl
  have hl : lv_has ls 2 [(0, .ref asr), (1, .int (zI pl))] := hl
  have hE : Eqx ws0 ws0 (fun j => j = q5 + 2) := Eqx.rf
  refine r_iload_n E 1 hl rfl dX5_uncolour_0 ?_
  refine r_if_lt E 27 dX5_uncolour_1 (by decide) (by omega) (fun c_1 => ?_) (fun c_1 => ?_)
  · skip
    exact r_vret E h ⟨by unfold unc; rw [if_pos (by omega)]; exact h_scp, hE⟩ dX5_uncolour_27
  · skip
    have hv9 := hv c_1
    refine r_iload_n E 1 hl rfl dX5_uncolour_4 ?_
    refine r_aload_n E 0 hl rfl dX5_uncolour_5 ?_
    refine r_get (v := .ref aop) E h h_sr rfl inn_X5_uncolour_5 2 (by decide) fl_X5_uncolour_21 rfl dX5_uncolour_6 ?_
    refine r_alen E h rfl h_op (v := 40) rfl dX5_uncolour_9 ?_
    refine r_icmp_ge E 27 dX5_uncolour_10 (by decide) (by omega) (fun c_10 => ?_) (fun c_10 => ?_)
    · skip
      exfalso; omega
    · skip
      refine r_aload_n E 0 hl rfl dX5_uncolour_13 ?_
      refine r_get (v := .ref asc) E h h_sr rfl inn_X5_uncolour_5 0 (by decide) fl_X5_uncolour_12 rfl dX5_uncolour_14 ?_
      refine r_aload_n E 0 hl rfl dX5_uncolour_17 ?_
      refine r_get (v := .ref aop) E h h_sr rfl inn_X5_uncolour_5 2 (by decide) fl_X5_uncolour_21 rfl dX5_uncolour_18 ?_
      refine r_iload_n E 1 hl rfl dX5_uncolour_21 ?_
      refine r_iald E h h_op (by omega) (by decide) dX5_uncolour_22 ?_
      refine r_iconst E dX5_uncolour_23 ?_
      refine r_callVV E h (As := [.int (zI (op pl)), .int (zI (-1))]) (rest := []) (k_X0_paint l (op pl) (-1) h_sc h_scp (by omega) (by omega) (by omega)) h_sc rfl gX5_uncolour_X0_paint rfl hd_X0_paint (by decide) ⟨by decide, by decide⟩ hl.1 rfl (Nat.le_of_ble_eq_true rfl) dX5_uncolour_24 rfl (fun ws H locs hp h => ?_)
      obtain ⟨h_scp, hf⟩ := hp
      have h_sr := hf.at h_sr (by first | omega | (dsimp only <;> omega))
      have h_sc := hf.at h_sc (by first | omega | (dsimp only <;> omega))
      have h_op := hf.at h_op (by first | omega | (dsimp only <;> omega))
      have h_tr := hf.at h_tr (by first | omega | (dsimp only <;> omega))
      have hE := hE.tr (hf.wk (fun j hj => by first | omega | (dsimp only at hj ⊢ <;> omega)))
      exact r_vret E h ⟨by unfold unc; rw [if_neg (by omega)]; exact h_scp, hE⟩ dX5_uncolour_27
theorem hd_X5_nextColour : yX5_nextColour.cls = RX5 ∧ yX5_nextColour.cls ≠ "java/lang/invoke/MethodHandle" ∧ yX5_nextColour.cls ≠ "java/lang/invoke/VarHandle" ∧ (parseMethodDescriptor yX5_nextColour.desc).map (fun d => d.parameters.length) = some 2 := by decide +kernel
theorem fl_X5_nextColour_12 : Cond.fieldLink RX5 12 (TX5 0).1 (TX5 0).2.1 (TX5 0).2.2.1 ∈ wsX5_nextColour := List.mem_of_getElem? (i := 1) rfl
theorem inn_X5_nextColour_5 : ∀ w ∈ wsX50, w ∈ wsX5_nextColour := fun _ h => List.mem_cons_of_mem _ (List.mem_append_left _ (List.mem_append_right _ h))
abbrev rm_X5_nextColour : Room := { frames := 1, cells := 0, slots := 0, locals := 21 }
set_option maxHeartbeats 1200000 in
set_option maxRecDepth 100000 in
theorem k_X5_nextColour (l : Launch) {G : va_G} {cy : Nat → ClassId} {ws0 : va_W} {q5 asr asc ascp asb aop atr : Nat}  {tot dee : Int} {f : Int → Int} {nn : Int} {da : Int → Int} {T : List Int} (a9 k9 : Int) (h_sr : ws0[q5]? = some (asr, .inr (5, [.ref asc, .ref asb, .ref aop, .ref atr, .int (zI tot), .int (zI dee)]))) (h_sc : ws0[q5 + 1]? = some (asc, .inr (0, [.ref ascp, .long (fmk nn f)]))) (h_scp : ws0[q5 + 1 + 1]? = some (ascp, aL cy 4 (mk nn (cl da)))) (hA : DW da T) (hnn : nn = da 0) (hk9 : k9 = da 1) (ha : -1 ≤ a9 ∧ a9 < da 1) : MI l yX5_nextColour wsX5_nextColour rm_X5_nextColour G cy [.ref asr, .int (zI a9), .int (zI k9)] ws0 (fun z u => (nxt da (a9 + 1) = da 1 ∧ z = -1 ∨ nxt da (a9 + 1) = z ∧ 0 ≤ z ∧ z < da 1) ∧ ws0 = u) := by
  refine MI.of (own := RX5) (cc := cX5_nextColour) (nL := 6) (ret := (some .int)) (by decide) rfl rfl (Nat.le_of_ble_eq_true rfl) ?_
  intro p e s m below meth c A ls E h hl
  have hl : lv_has ls 6 [(0, .ref asr), (1, .int (zI a9)), (2, .int (zI k9))] := hl
  have hkk := hA.k
  have hmu : ∀ c : Int, mk nn (cl da) c = zL 0 ↔ used da c = false := fun c => by rw [hnn]; exact mk_used hA
  refine r_iconst E dX5_nextColour_0 ?_
  refine r_istore_n (lv' := [(3, .int (zI 0)), (0, .ref asr), (1, .int (zI a9)), (2, .int (zI k9))]) E hl dX5_nextColour_1 rfl (by decide) rfl (fun ls hl => ?_)
  refine r_iconst E dX5_nextColour_2 ?_
  refine r_istore (lv' := [(4, .int (zI 0)), (3, .int (zI 0)), (0, .ref asr), (1, .int (zI a9)), (2, .int (zI k9))]) E hl dX5_nextColour_3 (by decide) rfl (fun ls hl => ?_)
  refine r_loop (fun n H locs ls => ∃ (u : Int) (c : Int), n = (da 1 - c).toNat ∧ (0 ≤ c ∧ c ≤ da 1) ∧ (u = 1 ∧ lowN da c.toNat = false ∨ u = 0 ∧ lowN da c.toNat = true) ∧ (c ≤ a9 + 1 ∨ nxt da (a9 + 1) = nxt da c) ∧ Hp G ws0 A s.heap H locs ∧ lv_has ls 6 [(0, .ref asr), (1, .int (zI a9)), (2, .int (zI k9)), (3, .int (zI u)), (4, .int (zI c))]) _ ⟨0, 0, rfl, (by omega), (Or.inr ⟨rfl, rfl⟩), (by omega), h, lv_sub hl [2, 3, 4, 1, 0] rfl⟩ ?_
  rintro n H locs ls ⟨u, c, hn, i1, i2, i3, h, hl⟩ ih_5
  refine r_iload E 4 hl rfl dX5_nextColour_5 ?_
  refine r_iload_n E 2 hl rfl dX5_nextColour_7 ?_
  refine r_icmp_ge E 71 dX5_nextColour_8 (by decide) (by omega) (fun c_8 => ?_) (fun c_8 => ?_)
  · skip
    refine r_iconst E dX5_nextColour_71 ?_
    exact r_iret E h ⟨by
  refine Or.inl ⟨?_, rfl⟩
  rcases i3 with q | q
  · rw [show a9 + 1 = da 1 by omega]; exact nxt_end (Int.le_refl _)
  · rw [q, nxt_end (by omega)]; omega, rfl⟩ dX5_nextColour_72
  · skip
    have hlo : lowN da (c + 1).toNat = (lowN da c.toNat && used da c) := by rw [show (c + 1).toNat = c.toNat + 1 by omega]; show (lowN da c.toNat && used da (c.toNat : Int)) = _; rw [show (c.toNat : Int) = c by omega]
    refine r_aload_n E 0 hl rfl dX5_nextColour_11 ?_
    refine r_get (v := .ref asc) E h h_sr rfl inn_X5_nextColour_5 0 (by decide) fl_X5_nextColour_12 rfl dX5_nextColour_12 ?_
    refine r_iload E 4 hl rfl dX5_nextColour_15 ?_
    refine r_callVL E h (As := [.int (zI c)]) (rest := []) (k_X0_numbersWith l c h_sc h_scp (by omega)) h_sc rfl gX5_nextColour_X0_numbersWith rfl hd_X0_numbersWith (by decide) ⟨by decide, by decide⟩ hl.1 rfl (Nat.le_of_ble_eq_true rfl) dX5_nextColour_17 rfl (fun z_17 ws H locs hp h => ?_)
    obtain ⟨rfl, rfl⟩ := hp
    refine r_lconst (v := zL 0) E dX5_nextColour_20 (by decide) ?_
    refine r_lcmpX E dX5_nextColour_21 (fun z_21 zb_21 ze_21 => ?_)
    refine r_cut (α := Int) (fun x_22 H locs ls => (x_22 = 0 ∧ ¬ z_21 = 0 ∨ x_22 = 1 ∧ z_21 = 0) ∧ Hp G ws0 A s.heap H locs ∧ lv_has ls 6 [(0, .ref asr), (1, .int (zI a9)), (2, .int (zI k9)), (3, .int (zI u)), (4, .int (zI c))]) 30 (fun x_22 => [.int (zI x_22)]) ?_ ?_
    · rintro x_22 H locs ls ⟨b_22, h, hl⟩
      have hu9 : x_22 = 1 ∧ used da c = false ∨ x_22 = 0 ∧ used da c = true := by
        rcases b_22 with ⟨b1, b2⟩ | ⟨b1, b2⟩
        · refine Or.inr ⟨b1, ?_⟩
          by_cases q : used da c = true
          · exact q
          · exact absurd (ze_21.mpr ((hmu c).mpr (by simpa using q))) b2
        · exact Or.inl ⟨b1, (hmu c).mp (ze_21.mp b2)⟩
      refine r_istore (lv' := [(5, .int (zI x_22)), (0, .ref asr), (1, .int (zI a9)), (2, .int (zI k9)), (3, .int (zI u)), (4, .int (zI c))]) E hl dX5_nextColour_30 (by decide) rfl (fun ls hl => ?_)
      refine r_iload E 5 hl rfl dX5_nextColour_32 ?_
      refine r_iload_n E 2 hl rfl dX5_nextColour_34 ?_
      refine r_icmp_le E 50 dX5_nextColour_35 (by decide) (by omega) (fun c_35 => ?_) (fun c_35 => ?_)
      · skip
        refine r_iload_n E 4 hl rfl dX5_nextColour_50 ?_
        refine r_if_ne E 59 dX5_nextColour_51 (by decide) (by omega) (fun c_51 => ?_) (fun c_51 => ?_)
        · skip
          refine r_iconst E dX5_nextColour_59 ?_
          refine r_goto E 64 dX5_nextColour_60 (by decide) ?_
          refine r_istore_n (lv' := [(3, .int (zI 1)), (5, .int (zI x_22)), (0, .ref asr), (1, .int (zI a9)), (2, .int (zI k9)), (4, .int (zI c))]) E hl dX5_nextColour_64 rfl (by decide) rfl (fun ls hl => ?_)
          refine r_iinc (lv' := [(4, .int (zI (c + 1))), (3, .int (zI 1)), (5, .int (zI x_22)), (0, .ref asr), (1, .int (zI a9)), (2, .int (zI k9))]) E 5 hl rfl dX5_nextColour_65 (by decide) rfl (fun ls hl => ?_)
          refine r_goto E 5 dX5_nextColour_68 (by decide) ?_
          exact ih_5 _ H locs ls (by omega) ⟨1, (c + 1), rfl, (by omega), (by
      rw [hlo]
      rcases i2 with ⟨f1, f2⟩ | ⟨f1, f2⟩ <;> rcases hu9 with ⟨g1, g2⟩ | ⟨g1, g2⟩ <;> simp [f2, g2] <;> omega), (by first | exact Or.inl (by omega) | (refine Or.inr ?_; rw [i4]; exact nxt_go (by omega) (hu9.elim (fun q => q.2) (fun q => absurd q.1 (by omega))) (i2.elim (fun q => q.2) (fun q => absurd q.1 (by omega))))), h, lv_sub hl [3, 4, 5, 1, 0] rfl⟩
        · skip
          refine r_iload E 0 hl rfl dX5_nextColour_54 ?_
          refine r_if_eq E 63 dX5_nextColour_56 (by decide) (by omega) (fun c_56 => ?_) (fun c_56 => ?_)
          · skip
            refine r_iconst E dX5_nextColour_63 ?_
            refine r_istore_n (lv' := [(3, .int (zI 0)), (5, .int (zI x_22)), (0, .ref asr), (1, .int (zI a9)), (2, .int (zI k9)), (4, .int (zI c))]) E hl dX5_nextColour_64 rfl (by decide) rfl (fun ls hl => ?_)
            refine r_iinc (lv' := [(4, .int (zI (c + 1))), (3, .int (zI 0)), (5, .int (zI x_22)), (0, .ref asr), (1, .int (zI a9)), (2, .int (zI k9))]) E 5 hl rfl dX5_nextColour_65 (by decide) rfl (fun ls hl => ?_)
            refine r_goto E 5 dX5_nextColour_68 (by decide) ?_
            exact ih_5 _ H locs ls (by omega) ⟨0, (c + 1), rfl, (by omega), (by
      rw [hlo]
      rcases i2 with ⟨f1, f2⟩ | ⟨f1, f2⟩ <;> rcases hu9 with ⟨g1, g2⟩ | ⟨g1, g2⟩ <;> simp [f2, g2] <;> omega), (by first | exact Or.inl (by omega) | (refine Or.inr ?_; rw [i4]; exact nxt_go (by omega) (hu9.elim (fun q => q.2) (fun q => absurd q.1 (by omega))) (i2.elim (fun q => q.2) (fun q => absurd q.1 (by omega))))), h, lv_sub hl [3, 4, 5, 1, 0] rfl⟩
          · skip
            refine r_iconst E dX5_nextColour_59 ?_
            refine r_goto E 64 dX5_nextColour_60 (by decide) ?_
            refine r_istore_n (lv' := [(3, .int (zI 1)), (5, .int (zI x_22)), (0, .ref asr), (1, .int (zI a9)), (2, .int (zI k9)), (4, .int (zI c))]) E hl dX5_nextColour_64 rfl (by decide) rfl (fun ls hl => ?_)
            refine r_iinc (lv' := [(4, .int (zI (c + 1))), (3, .int (zI 1)), (5, .int (zI x_22)), (0, .ref asr), (1, .int (zI a9)), (2, .int (zI k9))]) E 5 hl rfl dX5_nextColour_65 (by decide) rfl (fun ls hl => ?_)
            refine r_goto E 5 dX5_nextColour_68 (by decide) ?_
            exact ih_5 _ H locs ls (by omega) ⟨1, (c + 1), rfl, (by omega), (by
      rw [hlo]
      rcases i2 with ⟨f1, f2⟩ | ⟨f1, f2⟩ <;> rcases hu9 with ⟨g1, g2⟩ | ⟨g1, g2⟩ <;> simp [f2, g2] <;> omega), (by first | exact Or.inl (by omega) | (refine Or.inr ?_; rw [i4]; exact nxt_go (by omega) (hu9.elim (fun q => q.2) (fun q => absurd q.1 (by omega))) (i2.elim (fun q => q.2) (fun q => absurd q.1 (by omega))))), h, lv_sub hl [3, 4, 5, 1, 0] rfl⟩
      · skip
        have i4 : nxt da (a9 + 1) = nxt da c := by
          rcases i3 with q | q
          · rw [show a9 + 1 = c by omega]
          · exact q
        refine r_iload E 0 hl rfl dX5_nextColour_38 ?_
        refine r_if_eq E 47 dX5_nextColour_40 (by decide) (by omega) (fun c_40 => ?_) (fun c_40 => ?_)
        · skip
          refine r_iload E 5 hl rfl dX5_nextColour_47 ?_
          exact r_iret E h ⟨by
  refine Or.inr ⟨?_, by omega, by omega⟩
  rw [i4]
  first
  | exact nxt_used (by omega) (hu9.elim (fun q => absurd q.1 (by omega)) (fun q => q.2))
  | exact nxt_low (by omega) (i2.elim (fun q => absurd q.1 (by omega)) (fun q => q.2)), rfl⟩ dX5_nextColour_49
        · skip
          refine r_iload_n E 4 hl rfl dX5_nextColour_43 ?_
          refine r_if_ne E 50 dX5_nextColour_44 (by decide) (by omega) (fun c_44 => ?_) (fun c_44 => ?_)
          · skip
            refine r_iload_n E 4 hl rfl dX5_nextColour_50 ?_
            refine r_if_ne E 59 dX5_nextColour_51 (by decide) (by omega) (fun c_51 => ?_) (fun c_51 => ?_)
            · skip
              refine r_iconst E dX5_nextColour_59 ?_
              refine r_goto E 64 dX5_nextColour_60 (by decide) ?_
              refine r_istore_n (lv' := [(3, .int (zI 1)), (5, .int (zI x_22)), (0, .ref asr), (1, .int (zI a9)), (2, .int (zI k9)), (4, .int (zI c))]) E hl dX5_nextColour_64 rfl (by decide) rfl (fun ls hl => ?_)
              refine r_iinc (lv' := [(4, .int (zI (c + 1))), (3, .int (zI 1)), (5, .int (zI x_22)), (0, .ref asr), (1, .int (zI a9)), (2, .int (zI k9))]) E 5 hl rfl dX5_nextColour_65 (by decide) rfl (fun ls hl => ?_)
              refine r_goto E 5 dX5_nextColour_68 (by decide) ?_
              exact ih_5 _ H locs ls (by omega) ⟨1, (c + 1), rfl, (by omega), (by
      rw [hlo]
      rcases i2 with ⟨f1, f2⟩ | ⟨f1, f2⟩ <;> rcases hu9 with ⟨g1, g2⟩ | ⟨g1, g2⟩ <;> simp [f2, g2] <;> omega), (by first | exact Or.inl (by omega) | (refine Or.inr ?_; rw [i4]; exact nxt_go (by omega) (hu9.elim (fun q => q.2) (fun q => absurd q.1 (by omega))) (i2.elim (fun q => q.2) (fun q => absurd q.1 (by omega))))), h, lv_sub hl [3, 4, 5, 1, 0] rfl⟩
            · skip
              refine r_iload E 0 hl rfl dX5_nextColour_54 ?_
              refine r_if_eq E 63 dX5_nextColour_56 (by decide) (by omega) (fun c_56 => ?_) (fun c_56 => ?_)
              · skip
                refine r_iconst E dX5_nextColour_63 ?_
                refine r_istore_n (lv' := [(3, .int (zI 0)), (5, .int (zI x_22)), (0, .ref asr), (1, .int (zI a9)), (2, .int (zI k9)), (4, .int (zI c))]) E hl dX5_nextColour_64 rfl (by decide) rfl (fun ls hl => ?_)
                refine r_iinc (lv' := [(4, .int (zI (c + 1))), (3, .int (zI 0)), (5, .int (zI x_22)), (0, .ref asr), (1, .int (zI a9)), (2, .int (zI k9))]) E 5 hl rfl dX5_nextColour_65 (by decide) rfl (fun ls hl => ?_)
                refine r_goto E 5 dX5_nextColour_68 (by decide) ?_
                exact ih_5 _ H locs ls (by omega) ⟨0, (c + 1), rfl, (by omega), (by
      rw [hlo]
      rcases i2 with ⟨f1, f2⟩ | ⟨f1, f2⟩ <;> rcases hu9 with ⟨g1, g2⟩ | ⟨g1, g2⟩ <;> simp [f2, g2] <;> omega), (by first | exact Or.inl (by omega) | (refine Or.inr ?_; rw [i4]; exact nxt_go (by omega) (hu9.elim (fun q => q.2) (fun q => absurd q.1 (by omega))) (i2.elim (fun q => q.2) (fun q => absurd q.1 (by omega))))), h, lv_sub hl [3, 4, 5, 1, 0] rfl⟩
              · skip
                refine r_iconst E dX5_nextColour_59 ?_
                refine r_goto E 64 dX5_nextColour_60 (by decide) ?_
                refine r_istore_n (lv' := [(3, .int (zI 1)), (5, .int (zI x_22)), (0, .ref asr), (1, .int (zI a9)), (2, .int (zI k9)), (4, .int (zI c))]) E hl dX5_nextColour_64 rfl (by decide) rfl (fun ls hl => ?_)
                refine r_iinc (lv' := [(4, .int (zI (c + 1))), (3, .int (zI 1)), (5, .int (zI x_22)), (0, .ref asr), (1, .int (zI a9)), (2, .int (zI k9))]) E 5 hl rfl dX5_nextColour_65 (by decide) rfl (fun ls hl => ?_)
                refine r_goto E 5 dX5_nextColour_68 (by decide) ?_
                exact ih_5 _ H locs ls (by omega) ⟨1, (c + 1), rfl, (by omega), (by
      rw [hlo]
      rcases i2 with ⟨f1, f2⟩ | ⟨f1, f2⟩ <;> rcases hu9 with ⟨g1, g2⟩ | ⟨g1, g2⟩ <;> simp [f2, g2] <;> omega), (by first | exact Or.inl (by omega) | (refine Or.inr ?_; rw [i4]; exact nxt_go (by omega) (hu9.elim (fun q => q.2) (fun q => absurd q.1 (by omega))) (i2.elim (fun q => q.2) (fun q => absurd q.1 (by omega))))), h, lv_sub hl [3, 4, 5, 1, 0] rfl⟩
          · skip
            refine r_iload E 5 hl rfl dX5_nextColour_47 ?_
            exact r_iret E h ⟨by
  refine Or.inr ⟨?_, by omega, by omega⟩
  rw [i4]
  first
  | exact nxt_used (by omega) (hu9.elim (fun q => absurd q.1 (by omega)) (fun q => q.2))
  | exact nxt_low (by omega) (i2.elim (fun q => absurd q.1 (by omega)) (fun q => q.2)), rfl⟩ dX5_nextColour_49
    · intro kb_22
      refine r_if_ne E 29 dX5_nextColour_22 (by decide) (by omega) (fun c_22 => ?_) (fun c_22 => ?_)
      · refine r_iconst E dX5_nextColour_29 ?_
        exact kb_22 _ _ _ ls ⟨Or.inl ⟨rfl, c_22⟩, h, hl⟩
      · refine r_iconst E dX5_nextColour_25 ?_
        refine r_goto E 30 dX5_nextColour_26 (by decide) ?_
        exact kb_22 _ _ _ ls ⟨Or.inr ⟨rfl, c_22⟩, h, hl⟩
theorem hd_X5_run : yX5_run.cls = RX5 ∧ yX5_run.cls ≠ "java/lang/invoke/MethodHandle" ∧ yX5_run.cls ≠ "java/lang/invoke/VarHandle" ∧ (parseMethodDescriptor yX5_run.desc).map (fun d => d.parameters.length) = some 5 := by decide +kernel
theorem fl_X5_run_12 : Cond.fieldLink RX5 12 (TX5 0).1 (TX5 0).2.1 (TX5 0).2.2.1 ∈ wsX5_run := List.mem_of_getElem? (i := 1) rfl
theorem inn_X5_run_5 : ∀ w ∈ wsX50, w ∈ wsX5_run := fun _ h => List.mem_cons_of_mem _ (List.mem_append_left _ (List.mem_append_left _ (List.mem_append_right _ h)))
theorem fl_X5_run_32 : Cond.fieldLink RX5 32 (TX5 5).1 (TX5 5).2.1 (TX5 5).2.2.1 ∈ wsX5_run := List.mem_of_getElem? (i := 2) rfl
theorem fl_X5_run_28 : Cond.fieldLink RX5 28 (TX5 4).1 (TX5 4).2.1 (TX5 4).2.2.1 ∈ wsX5_run := List.mem_of_getElem? (i := 3) rfl
theorem fl_X5_run_21 : Cond.fieldLink RX5 21 (TX5 2).1 (TX5 2).2.1 (TX5 2).2.2.1 ∈ wsX5_run := List.mem_of_getElem? (i := 4) rfl
theorem fl_X5_run_25 : Cond.fieldLink RX5 25 (TX5 3).1 (TX5 3).2.1 (TX5 3).2.2.1 ∈ wsX5_run := List.mem_of_getElem? (i := 5) rfl
abbrev rm_X5_run : Room := { frames := 2, cells := 0, slots := 0, locals := 93 }
set_option maxHeartbeats 1200000 in
set_option maxRecDepth 100000 in
theorem k_X5_run (l : Launch) {G : va_G} {cy : Nat → ClassId} {ws0 : va_W} {q5 asr asc ascp asb aop atr : Nat} {op tr : Int → Int} {tot dee : Int} {f : Int → Int} {q a ase awr art awt are ars : Nat} {se re : Int → Int64} {wr rt wt rs : Int → Int} {sz riw : Int} {qf af afp : Nat} {F0 : Int64} {P0 : Int → Int64} {d da : Int → Int} {T : List Int} (to k9 most : Int) (h_sr : ws0[q5]? = some (asr, .inr (5, [.ref asc, .ref asb, .ref aop, .ref atr, .int (zI tot), .int (zI dee)]))) (h_sc : ws0[q5 + 1]? = some (asc, .inr (0, [.ref ascp, .long F0]))) (h_scp : ws0[q5 + 2]? = some (ascp, aL cy 4 P0)) (h_op : ws0[q5 + 5]? = some (aop, aI cy 40 op)) (h_tr : ws0[q5 + 6]? = some (atr, aI cy 40 tr)) (h_tb : ws0[q]? = some (a, .inr (8, [.ref ase, .ref awr, .int (zI sz), .ref art, .int (zI riw), .ref awt, .ref are, .ref ars]))) (h_re : ws0[q + 5]? = some (are, aL cy 19200 re)) (h_rs : ws0[q + 6]? = some (ars, aI cy 42 rs)) (h_fr : ws0[qf]? = some (af, .inr (0, [.ref afp, .long (fmk (d 0) f)]))) (h_frp : ws0[qf + 1]? = some (afp, aL cy 4 (mk (d 0) (cl da)))) (hqf : qf + 2 ≤ q5 ∨ q5 + 7 ≤ qf ∨ qf = q5 + 3) (hqt : q + 7 ≤ q5 ∨ q5 + 7 ≤ q) (hD : DW d T) (hT : TW d T se wr rt wt re rs sz) (hA : DW da T) (hd0 : da 0 = d 0) (hd1 : da 1 = d 1) (hto : 0 ≤ to ∧ to ≤ d 0) (hk9 : k9 = d 1) (hmost : 1 ≤ most ∧ most ≤ 3000) : MI l yX5_run wsX5_run rm_X5_run G cy [.ref asr, .ref a, .ref af, .int (zI to), .int (zI k9), .int (zI most)] ws0 (fun z u => z = (sr d (opL (cl da) to.toNat) most 0 0 0 0 da).1 ∧ ∃ op2 tr2 : Int → Int, u[q5]? = some (asr, .inr (5, [.ref asc, .ref asb, .ref aop, .ref atr, .int (zI (((opL (cl da) to.toNat).length : Int))), .int (zI (((sr d (opL (cl da) to.toNat) most 0 0 0 0 da).2.1 : Int)))])) ∧ u[q5 + 1]? = some (asc, .inr (0, [.ref ascp, .long (fmk (d 0) f)])) ∧ u[q5 + 2]? = some (ascp, aL cy 4 (mk (d 0) (cl (sr d (opL (cl da) to.toNat) most 0 0 0 0 da).2.2))) ∧ u[q5 + 5]? = some (aop, aI cy 40 op2) ∧ u[q5 + 6]? = some (atr, aI cy 40 tr2) ∧ Eqx ws0 u (fun j => j = q5 ∨ j = q5 + 1 ∨ j = q5 + 2 ∨ j = q5 + 5 ∨ j = q5 + 6)) := by
  refine MI.of (own := RX5) (cc := cX5_run) (nL := 10) (ret := (some .int)) (by decide) rfl rfl (Nat.le_of_ble_eq_true rfl) ?_
  intro p e s m below meth c A ls E h hl
  have hl : lv_has ls 10 [(0, .ref asr), (1, .ref a), (2, .ref af), (3, .int (zI to)), (4, .int (zI k9)), (5, .int (zI most))] := hl
  have hE : Eqx ws0 ws0 (fun j => j = q5 ∨ j = q5 + 1 ∨ j = q5 + 2 ∨ j = q5 + 5 ∨ j = q5 + 6) := Eqx.rf
  have hn9 := hD.n
  have hkk := hD.k
  have hole := opL_len (e := cl da) to.toNat
  have holr : ∀ j : Nat, j < (opL (cl da) to.toNat).length → 1 ≤ (opL (cl da) to.toNat).getD j 0 ∧ (opL (cl da) to.toNat).getD j 0 ≤ to.toNat := fun j hj => opL_rng hj
  have holA := opL_asc (e := cl da) to.toNat
  refine r_aload_n E 0 hl rfl dX5_run_0 ?_
  refine r_get (v := .ref asc) E h h_sr rfl inn_X5_run_5 0 (by decide) fl_X5_run_12 rfl dX5_run_1 ?_
  refine r_aload_n E 2 hl rfl dX5_run_4 ?_
  refine r_callVV E h (As := [.ref af]) (rest := []) (k_X0_copyFrom l h_sc h_scp h_fr h_frp (by omega)) h_sc rfl gX5_run_X0_copyFrom rfl hd_X0_copyFrom (by decide) ⟨by decide, by decide⟩ hl.1 rfl (Nat.le_of_ble_eq_true rfl) dX5_run_5 rfl (fun ws H locs hp h => ?_)
  obtain ⟨h_sc, h_scp, hf⟩ := hp
  have h_sr := hf.at h_sr (by first | omega | (dsimp only <;> omega))
  have h_op := hf.at h_op (by first | omega | (dsimp only <;> omega))
  have h_tr := hf.at h_tr (by first | omega | (dsimp only <;> omega))
  have h_tb := hf.at h_tb (by first | omega | (dsimp only <;> omega))
  have h_re := hf.at h_re (by first | omega | (dsimp only <;> omega))
  have h_rs := hf.at h_rs (by first | omega | (dsimp only <;> omega))
  have h_fr := hf.at h_fr (by first | omega | (dsimp only <;> omega))
  have h_frp := hf.at h_frp (by first | omega | (dsimp only <;> omega))
  have hE := hE.tr (hf.wk (fun j hj => by first | omega | (dsimp only at hj ⊢ <;> omega)))
  refine r_aload_n E 0 hl rfl dX5_run_8 ?_
  refine r_iload_n E 3 hl rfl dX5_run_9 ?_
  refine r_callVV E h (As := [.int (zI to)]) (rest := []) (k_X5_listOpen l to h_sr h_sc h_scp h_op h_tr (by omega) (by omega) (fun x a b => hA.c4 x a (by omega))) h_sr rfl gX5_run_X5_listOpen rfl hd_X5_listOpen (by decide) ⟨by decide, by decide⟩ hl.1 rfl (Nat.le_of_ble_eq_true rfl) dX5_run_10 rfl (fun ws H locs hp h => ?_)
  obtain ⟨op_10, tr_10, h_sr, h_op, h_tr, e_10, hf⟩ := hp
  have h_sc := hf.at h_sc (by first | omega | (dsimp only <;> omega))
  have h_scp := hf.at h_scp (by first | omega | (dsimp only <;> omega))
  have h_tb := hf.at h_tb (by first | omega | (dsimp only <;> omega))
  have h_re := hf.at h_re (by first | omega | (dsimp only <;> omega))
  have h_rs := hf.at h_rs (by first | omega | (dsimp only <;> omega))
  have h_fr := hf.at h_fr (by first | omega | (dsimp only <;> omega))
  have h_frp := hf.at h_frp (by first | omega | (dsimp only <;> omega))
  have hE := hE.tr (hf.wk (fun j hj => by first | omega | (dsimp only at hj ⊢ <;> omega)))
  obtain ⟨S0, hS0⟩ : ∃ S9, S9 = sr d (opL (cl da) to.toNat) most 0 0 0 0 da := ⟨_, rfl⟩
  obtain ⟨ol, hol⟩ : ∃ ol, ol = opL (cl da) to.toNat := ⟨_, rfl⟩
  rw [← hol] at hole holr e_10 h_sr holA hS0
  skip
  skip
  refine r_aload_n E 0 hl rfl dX5_run_13 ?_
  refine r_iconst E dX5_run_14 ?_
  refine r_put E h h_sr rfl inn_X5_run_5 5 (by decide) fl_X5_run_32 tyX5 tyX5_ok nmX5 rfl rfl rfl (Nat.le_of_ble_eq_true rfl) dX5_run_15 (fun ws H locs h hu => ?_)
  have h_sr : ws[q5]? = some (asr, .inr (5, [.ref asc, .ref asb, .ref aop, .ref atr, .int (zI ((ol.length : Int))), .int (zI 0)])) := hu.1
  have h_sc := hu.keep h_sc (by omega)
  have h_scp := hu.keep h_scp (by omega)
  have h_op := hu.keep h_op (by omega)
  have h_tr := hu.keep h_tr (by omega)
  have h_tb := hu.keep h_tb (by omega)
  have h_re := hu.keep h_re (by omega)
  have h_rs := hu.keep h_rs (by omega)
  have h_fr := hu.keep h_fr (by omega)
  have h_frp := hu.keep h_frp (by omega)
  have hE := hE.tr (hu.eqx (by first | omega | (dsimp only <;> omega)))
  refine r_iconst E dX5_run_18 ?_
  refine r_istore (lv' := [(6, .int (zI 0)), (0, .ref asr), (1, .ref a), (2, .ref af), (3, .int (zI to)), (4, .int (zI k9)), (5, .int (zI most))]) E hl dX5_run_19 (by decide) rfl (fun ls hl => ?_)
  refine r_iconst E dX5_run_21 ?_
  refine r_istore (lv' := [(7, .int (zI 0)), (6, .int (zI 0)), (0, .ref asr), (1, .ref a), (2, .ref af), (3, .int (zI to)), (4, .int (zI k9)), (5, .int (zI most))]) E hl dX5_run_22 (by decide) rfl (fun ls hl => ?_)
  refine r_iconst E dX5_run_24 ?_
  refine r_istore (lv' := [(8, .int (zI 0)), (7, .int (zI 0)), (6, .int (zI 0)), (0, .ref asr), (1, .ref a), (2, .ref af), (3, .int (zI to)), (4, .int (zI k9)), (5, .int (zI most))]) E hl dX5_run_25 (by decide) rfl (fun ls hl => ?_)
  refine r_loop (fun n H locs ls => ∃ (ws : va_W) (pl : Int) (tr9 : Int) (st9 : Int) (dp : Nat) (db : Int → Int) (fr9 : Int) (tr2 : Int → Int), n = (6003 - st9).toNat ∧ (-1 ≤ pl ∧ pl ≤ ol.length) ∧ (0 ≤ tr9 ∧ tr9 ≤ most) ∧ (st9 + pl ≤ 2 * tr9 ∧ 0 ≤ st9) ∧ (DW db T ∧ (∀ i : Int, i < 30 → db i = da i) ∧ (∀ i : Int, 69 < i → db i = da i)) ∧ (0 ≤ pl → sr d ol most pl.toNat fr9 tr9 dp db = S0) ∧ (pl = -1 → S0 = (-1, dp, db)) ∧ (0 ≤ fr9 ∧ fr9 ≤ d 1) ∧ (∀ j : Nat, (j : Int) < pl → j < ol.length → tr2 (j : Int) = db (29 + ol.getD j 0) - 1) ∧ (0 ≤ pl → pl < ol.length → tr2 pl = fr9 - 1) ∧ (∀ j : Nat, pl < (j : Int) → j < ol.length → tr2 (j : Int) = -1) ∧ (dp ≤ ol.length) ∧ Hp G ws A s.heap H locs ∧ (ws[q5]? = some (asr, .inr (5, [.ref asc, .ref asb, .ref aop, .ref atr, .int (zI ((ol.length : Int))), .int (zI ((dp : Int)))]))) ∧ (ws[q5 + 1]? = some (asc, .inr (0, [.ref ascp, .long (fmk (d 0) f)]))) ∧ (ws[q5 + 2]? = some (ascp, aL cy 4 (mk (d 0) (cl db)))) ∧ (ws[q5 + 5]? = some (aop, aI cy 40 op_10)) ∧ (ws[q5 + 6]? = some (atr, aI cy 40 tr2)) ∧ (ws[q]? = some (a, .inr (8, [.ref ase, .ref awr, .int (zI sz), .ref art, .int (zI riw), .ref awt, .ref are, .ref ars]))) ∧ (ws[q + 5]? = some (are, aL cy 19200 re)) ∧ (ws[q + 6]? = some (ars, aI cy 42 rs)) ∧ (ws[qf]? = some (af, .inr (0, [.ref afp, .long (fmk (d 0) f)]))) ∧ (ws[qf + 1]? = some (afp, aL cy 4 (mk (d 0) (cl da)))) ∧ Eqx ws0 ws (fun j => j = q5 ∨ j = q5 + 1 ∨ j = q5 + 2 ∨ j = q5 + 5 ∨ j = q5 + 6) ∧ lv_has ls 10 [(0, .ref asr), (1, .ref a), (3, .int (zI to)), (4, .int (zI k9)), (5, .int (zI most)), (6, .int (zI pl)), (7, .int (zI tr9)), (8, .int (zI st9))]) _ ⟨ws, 0, 0, 0, 0, da, 0, tr_10, rfl, (by omega), (by omega), (by omega), ⟨hA, fun _ _ => rfl, fun _ _ => rfl⟩, (fun _ => hS0.symm), (fun hh => absurd hh (by omega)), (by omega), (fun j hj => absurd hj (by omega)), (fun _ hh => by have := (e_10 0 (by omega)).2; rw [show ((0 : Nat) : Int) = 0 from rfl] at this; omega), (fun j _ hj => (e_10 j hj).2), (Nat.zero_le _), h, h_sr, h_sc, h_scp, h_op, h_tr, h_tb, h_re, h_rs, h_fr, h_frp, hE, lv_sub hl [3, 4, 6, 7, 8, 2, 1, 0] rfl⟩ ?_
  rintro n H locs ls ⟨ws, pl, tr9, st9, dp, db, fr9, tr2, hn, i1, i2, i3, i4, i5, i6, i7, i8, i9, i10, i11, h, h_sr, h_sc, h_scp, h_op, h_tr, h_tb, h_re, h_rs, h_fr, h_frp, hE, hl⟩ ih_27
  refine r_iload E 7 hl rfl dX5_run_27 ?_
  refine r_sipush E dX5_run_29 (by decide) ?_
  refine r_icmp_ge E 188 dX5_run_32 (by decide) (by omega) (fun c_32 => ?_) (fun c_32 => ?_)
  · skip
    exfalso; omega
  · skip
    obtain ⟨i4a, i4b, i4c⟩ := i4
    have hdb0 := i4b 0 (by omega)
    have hdb1 := i4b 1 (by omega)
    refine r_iload E 5 hl rfl dX5_run_35 ?_
    refine r_if_ge E 42 dX5_run_37 (by decide) (by omega) (fun c_37 => ?_) (fun c_37 => ?_)
    · skip
      refine r_iload E 5 hl rfl dX5_run_42 ?_
      refine r_aload_n E 0 hl rfl dX5_run_44 ?_
      refine r_get (v := .int (zI ((ol.length : Int)))) E h h_sr rfl inn_X5_run_5 4 (by decide) fl_X5_run_28 rfl dX5_run_45 ?_
      refine r_icmp_ge E 61 dX5_run_48 (by decide) (by omega) (fun c_48 => ?_) (fun c_48 => ?_)
      · skip
        refine r_iload E 6 hl rfl dX5_run_61 ?_
        exact r_iret E h ⟨by rw [← hol, ← hS0, ← i5 (by omega), sr_end (by omega)], op_10, tr2, by rw [← hol, ← hS0, ← i5 (by omega), sr_end (by omega)]; exact h_sr, h_sc, by rw [← hol, ← hS0, ← i5 (by omega), sr_end (by omega)]; exact h_scp, h_op, h_tr, hE⟩ dX5_run_63
      · skip
        refine r_iload E 5 hl rfl dX5_run_51 ?_
        refine r_aload_n E 0 hl rfl dX5_run_53 ?_
        refine r_get (v := .ref aop) E h h_sr rfl inn_X5_run_5 2 (by decide) fl_X5_run_21 rfl dX5_run_54 ?_
        refine r_alen E h rfl h_op (v := 40) rfl dX5_run_57 ?_
        refine r_icmp_lt E 64 dX5_run_58 (by decide) (by omega) (fun c_58 => ?_) (fun c_58 => ?_)
        · skip
          have hpl0 : 0 ≤ pl := by omega
          have hpl1 : pl < ol.length := by omega
          have i5h := i5 hpl0
          have hopl := (e_10 pl.toNat (by omega)).1
          rw [show ((pl.toNat : Nat) : Int) = pl by omega] at hopl
          have holp := holr pl.toNat (by omega)
          refine r_aload_n E 0 hl rfl dX5_run_64 ?_
          refine r_aload_n E 0 hl rfl dX5_run_65 ?_
          refine r_get (v := .ref atr) E h h_sr rfl inn_X5_run_5 3 (by decide) fl_X5_run_25 rfl dX5_run_66 ?_
          refine r_iload E 5 hl rfl dX5_run_69 ?_
          refine r_iald E h h_tr (by omega) (by decide) dX5_run_71 ?_
          rw [show tr2 pl = fr9 - 1 from (i9 hpl0 hpl1)]
          refine r_iload E 3 hl rfl dX5_run_72 ?_
          refine r_callVI E h (As := [.int (zI (fr9 - 1)), .int (zI k9)]) (rest := []) (k_X5_nextColour l (fr9 - 1) k9 h_sr h_sc h_scp i4a (by omega) (by omega) (by omega)) h_sr rfl gX5_run_X5_nextColour rfl hd_X5_nextColour (by decide) ⟨by decide, by decide⟩ hl.1 rfl (Nat.le_of_ble_eq_true rfl) dX5_run_74 rfl (fun z_74 ws H locs hp h => ?_)
          obtain ⟨e_z_74, rfl⟩ := hp
          refine r_istore (lv' := [(9, .int (zI z_74)), (0, .ref asr), (1, .ref a), (3, .int (zI to)), (4, .int (zI k9)), (5, .int (zI most)), (6, .int (zI pl)), (7, .int (zI tr9)), (8, .int (zI st9))]) E hl dX5_run_77 (by decide) rfl (fun ls hl => ?_)
          refine r_iload E 0 hl rfl dX5_run_79 ?_
          refine r_iconst E dX5_run_81 ?_
          rw [show fr9 - 1 + 1 = fr9 by omega] at e_z_74
          refine r_icmp_ne E 105 dX5_run_82 (by decide) (by omega) (fun c_82 => ?_) (fun c_82 => ?_)
          · skip
            refine r_iload E 7 hl rfl dX5_run_105 ?_
            refine r_iload E 5 hl rfl dX5_run_107 ?_
            refine r_icmp_lt E 115 dX5_run_109 (by decide) (by omega) (fun c_109 => ?_) (fun c_109 => ?_)
            · skip
              have hnx : nxt db fr9 = z_74 ∧ 0 ≤ z_74 ∧ z_74 < db 1 := by omega
              refine r_iinc (lv' := [(7, .int (zI (tr9 + 1))), (9, .int (zI z_74)), (0, .ref asr), (1, .ref a), (3, .int (zI to)), (4, .int (zI k9)), (5, .int (zI most)), (6, .int (zI pl)), (8, .int (zI st9))]) E 7 hl rfl dX5_run_115 (by decide) rfl (fun ls hl => ?_)
              refine r_aload_n E 2 hl rfl dX5_run_118 ?_
              refine r_get (v := .ref atr) E h h_sr rfl inn_X5_run_5 3 (by decide) fl_X5_run_25 rfl dX5_run_119 ?_
              refine r_iload E 7 hl rfl dX5_run_122 ?_
              refine r_iload E 1 hl rfl dX5_run_124 ?_
              refine r_iast E h h_tr (by omega) (by decide) dX5_run_126 (fun ws H locs h hu => ?_)
              have h_sr := hu.keep h_sr (by omega)
              have h_sc := hu.keep h_sc (by omega)
              have h_scp := hu.keep h_scp (by omega)
              have h_op := hu.keep h_op (by omega)
              have h_tr : ws[q5 + 6]? = some (atr, aI cy 40 (uZ tr2 pl z_74)) := hu.1
              have h_tb := hu.keep h_tb (by omega)
              have h_re := hu.keep h_re (by omega)
              have h_rs := hu.keep h_rs (by omega)
              have h_fr := hu.keep h_fr (by omega)
              have h_frp := hu.keep h_frp (by omega)
              have hE := hE.tr (hu.eqx (by first | omega | (dsimp only <;> omega)))
              refine r_aload_n E 3 hl rfl dX5_run_127 ?_
              refine r_aload_n E 2 hl rfl dX5_run_128 ?_
              refine r_get (v := .ref aop) E h h_sr rfl inn_X5_run_5 2 (by decide) fl_X5_run_21 rfl dX5_run_129 ?_
              refine r_iload E 7 hl rfl dX5_run_132 ?_
              refine r_iald E h h_op (by omega) (by decide) dX5_run_134 ?_
              rw [show op_10 pl = ol.getD pl.toNat 0 from hopl]
              refine r_aload_n E 2 hl rfl dX5_run_135 ?_
              refine r_get (v := .ref asc) E h h_sr rfl inn_X5_run_5 0 (by decide) fl_X5_run_12 rfl dX5_run_136 ?_
              refine r_iload E 1 hl rfl dX5_run_139 ?_
              refine r_callVL E h (As := [.int (zI z_74)]) (rest := [.int (zI (ol.getD pl.toNat 0)), .ref a]) (k_X0_numbersWith l z_74 h_sc h_scp (by omega)) h_sc rfl gX5_run_X0_numbersWith rfl hd_X0_numbersWith (by decide) ⟨by decide, by decide⟩ hl.1 rfl (Nat.le_of_ble_eq_true rfl) dX5_run_141 rfl (fun z_141 ws H locs hp h => ?_)
              obtain ⟨rfl, rfl⟩ := hp
              refine r_callVI E h (As := [.int (zI (ol.getD pl.toNat 0)), .long (mk (d 0) (cl db) z_74)]) (rest := []) (k_X8_allows l (ol.getD pl.toNat 0) z_74 h_tb h_re h_rs hD hT (by omega) (by omega)) h_tb rfl gX5_run_X8_allows rfl hd_X8_allows (by decide) ⟨by decide, by decide⟩ hl.1 rfl (Nat.le_of_ble_eq_true rfl) dX5_run_144 rfl (fun z_144 ws H locs hp h => ?_)
              obtain ⟨e_z_144, rfl⟩ := hp
              refine r_if_eq E 182 dX5_run_147 (by decide) (by omega) (fun c_147 => ?_) (fun c_147 => ?_)
              · skip
                have hal : alw d (cl db) (ol.getD pl.toNat 0) z_74 = false := by
                  rcases e_z_144 with q | q
                  · omega
                  · exact q.2
                have hsr := sr_no (d := d) (ol := ol) (most := most) (at9 := pl.toNat) (from9 := fr9) (tr := tr9) (dp := dp) (da := db) (by omega) (by omega) (by omega) (by rw [hnx.1]; exact hal)
                rw [hnx.1] at hsr
                skip
                refine r_iinc (lv' := [(8, .int (zI (st9 + 1))), (7, .int (zI (tr9 + 1))), (9, .int (zI z_74)), (0, .ref asr), (1, .ref a), (3, .int (zI to)), (4, .int (zI k9)), (5, .int (zI most)), (6, .int (zI pl))]) E 8 hl rfl dX5_run_182 (by decide) rfl (fun ls hl => ?_)
                refine r_goto E 27 dX5_run_185 (by decide) ?_
                exact ih_27 _ H locs ls (by omega) ⟨ws, pl, (tr9 + 1), (st9 + 1), dp, db, ((z_74 + 1)), (uZ tr2 pl z_74), rfl, (by omega), (by omega), (by omega), ⟨i4a, i4b, i4c⟩, (fun _ => by rw [← hsr]; exact i5h), (fun hh => absurd hh (by omega)), (by omega), (fun j hj hj2 => by rw [uZ_n (by omega)]; exact i8 j hj hj2), (fun _ _ => by rw [uZ_s]; omega), (fun j hj hj2 => by rw [uZ_n (by omega)]; exact i10 j hj hj2), i11, h, h_sr, h_sc, h_scp, h_op, h_tr, h_tb, h_re, h_rs, h_fr, h_frp, hE, lv_sub hl [3, 4, 5, 6, 7, 8, 1, 0] rfl⟩
              · skip
                have hal : alw d (cl db) (ol.getD pl.toNat 0) z_74 = true := by
                  rcases e_z_144 with q | q
                  · exact q.2
                  · omega
                have hsr := sr_ok (d := d) (ol := ol) (most := most) (at9 := pl.toNat) (from9 := fr9) (tr := tr9) (dp := dp) (da := db) (by omega) (by omega) (by omega) (by rw [hnx.1]; exact hal)
                rw [hnx.1] at hsr
                refine r_aload_n E 2 hl rfl dX5_run_150 ?_
                refine r_get (v := .ref asc) E h h_sr rfl inn_X5_run_5 0 (by decide) fl_X5_run_12 rfl dX5_run_151 ?_
                refine r_aload_n E 2 hl rfl dX5_run_154 ?_
                refine r_get (v := .ref aop) E h h_sr rfl inn_X5_run_5 2 (by decide) fl_X5_run_21 rfl dX5_run_155 ?_
                refine r_iload E 7 hl rfl dX5_run_158 ?_
                refine r_iald E h h_op (by omega) (by decide) dX5_run_160 ?_
                rw [show op_10 pl = ol.getD pl.toNat 0 from hopl]
                refine r_iload E 1 hl rfl dX5_run_161 ?_
                refine r_callVV E h (As := [.int (zI (ol.getD pl.toNat 0)), .int (zI z_74)]) (rest := []) (k_X0_paint l (ol.getD pl.toNat 0) z_74 h_sc h_scp (by omega) (by omega) (by omega)) h_sc rfl gX5_run_X0_paint rfl hd_X0_paint (by decide) ⟨by decide, by decide⟩ hl.1 rfl (Nat.le_of_ble_eq_true rfl) dX5_run_163 rfl (fun ws H locs hp h => ?_)
                obtain ⟨h_scp, hf⟩ := hp
                have h_sr := hf.at h_sr (by first | omega | (dsimp only <;> omega))
                have h_sc := hf.at h_sc (by first | omega | (dsimp only <;> omega))
                have h_op := hf.at h_op (by first | omega | (dsimp only <;> omega))
                have h_tr := hf.at h_tr (by first | omega | (dsimp only <;> omega))
                have h_tb := hf.at h_tb (by first | omega | (dsimp only <;> omega))
                have h_re := hf.at h_re (by first | omega | (dsimp only <;> omega))
                have h_rs := hf.at h_rs (by first | omega | (dsimp only <;> omega))
                have h_fr := hf.at h_fr (by first | omega | (dsimp only <;> omega))
                have h_frp := hf.at h_frp (by first | omega | (dsimp only <;> omega))
                have hE := hE.tr (hf.wk (fun j hj => by first | omega | (dsimp only at hj ⊢ <;> omega)))
                have hcls : uZ (cl db) (ol.getD pl.toNat 0) (z_74 + 1) = cl (uZ db (29 + ol.getD pl.toNat 0) (z_74 + 1)) := cl_set.symm
                rw [hcls] at h_scp
                skip
                refine r_iinc (lv' := [(6, .int (zI (pl + 1))), (7, .int (zI (tr9 + 1))), (9, .int (zI z_74)), (0, .ref asr), (1, .ref a), (3, .int (zI to)), (4, .int (zI k9)), (5, .int (zI most)), (8, .int (zI st9))]) E 7 hl rfl dX5_run_166 (by decide) rfl (fun ls hl => ?_)
                refine r_aload_n E 3 hl rfl dX5_run_169 ?_
                refine r_aload_n E 3 hl rfl dX5_run_170 ?_
                refine r_get (v := .int (zI ((dp : Int)))) E h h_sr rfl inn_X5_run_5 5 (by decide) fl_X5_run_32 rfl dX5_run_171 ?_
                refine r_iload E 0 hl rfl dX5_run_174 ?_
                refine r_mmax E (List.mem_of_getElem? (i := 6) rfl) (List.mem_of_getElem? (i := 7) rfl) (List.mem_of_getElem? (i := 8) rfl) (List.mem_of_getElem? (i := 9) rfl) hl.1 ⟨by decide, Nat.le_of_ble_eq_true rfl⟩ ⟨by decide, by decide⟩ (by omega) dX5_run_176 (fun z_176 e_176 => ?_)
                refine r_put E h h_sr rfl inn_X5_run_5 5 (by decide) fl_X5_run_32 tyX5 tyX5_ok nmX5 rfl rfl rfl (Nat.le_of_ble_eq_true rfl) dX5_run_179 (fun ws H locs h hu => ?_)
                have h_sr : ws[q5]? = some (asr, .inr (5, [.ref asc, .ref asb, .ref aop, .ref atr, .int (zI ((ol.length : Int))), .int (zI z_176)])) := hu.1
                have h_sc := hu.keep h_sc (by omega)
                have h_scp := hu.keep h_scp (by omega)
                have h_op := hu.keep h_op (by omega)
                have h_tr := hu.keep h_tr (by omega)
                have h_tb := hu.keep h_tb (by omega)
                have h_re := hu.keep h_re (by omega)
                have h_rs := hu.keep h_rs (by omega)
                have h_fr := hu.keep h_fr (by omega)
                have h_frp := hu.keep h_frp (by omega)
                have hE := hE.tr (hu.eqx (by first | omega | (dsimp only <;> omega)))
                have hdp : z_176 = ((if dp ≤ pl.toNat then pl.toNat + 1 else dp : Nat) : Int) := by
                  by_cases q : dp ≤ pl.toNat
                  · rw [if_pos q]; omega
                  · rw [if_neg q]; omega
                rw [hdp] at h_sr
                refine r_iinc (lv' := [(8, .int (zI (st9 + 1))), (6, .int (zI (pl + 1))), (7, .int (zI (tr9 + 1))), (9, .int (zI z_74)), (0, .ref asr), (1, .ref a), (3, .int (zI to)), (4, .int (zI k9)), (5, .int (zI most))]) E 8 hl rfl dX5_run_182 (by decide) rfl (fun ls hl => ?_)
                refine r_goto E 27 dX5_run_185 (by decide) ?_
                exact ih_27 _ H locs ls (by omega) ⟨ws, (pl + 1), (tr9 + 1), (st9 + 1), ((if dp ≤ pl.toNat then pl.toNat + 1 else dp)), ((uZ db (29 + ol.getD pl.toNat 0) (z_74 + 1))), 0, (uZ tr2 pl z_74), rfl, (by omega), (by omega), (by omega), ⟨i4a.setcol (by omega) (by omega), fun i hi => (uZ_n (by omega)).trans (i4b i hi), fun i hi => (uZ_n (by omega)).trans (i4c i hi)⟩, (fun _ => by rw [show (pl + 1).toNat = pl.toNat + 1 by omega, ← hsr]; exact i5h), (fun hh => absurd hh (by omega)), (by omega), (fun j hj hj2 => by
      by_cases q : (j : Int) = pl
      · rw [show j = pl.toNat by omega, show ((pl.toNat : Nat) : Int) = pl by omega, uZ_s, uZ_s]; omega
      · rw [uZ_n (by omega), i8 j (by omega) hj2]
        have := holA j pl.toNat _ _ (by omega) (getD_at hj2) (getD_at (by omega))
        rw [uZ_n (by omega)]), (fun h8 h9 => by rw [uZ_n (by omega)]; have := i10 (pl + 1).toNat (by omega) (by omega); rw [show (((pl + 1).toNat : Nat) : Int) = pl + 1 by omega] at this; omega), (fun j hj hj2 => by rw [uZ_n (by omega)]; exact i10 j (by omega) hj2), (by split <;> omega), h, h_sr, h_sc, h_scp, h_op, h_tr, h_tb, h_re, h_rs, h_fr, h_frp, hE, lv_sub hl [4, 5, 6, 7, 8, 1, 2, 0] rfl⟩
            · skip
              refine r_bipush E dX5_run_112 (by decide) ?_
              exact r_iret E h ⟨by rw [← hol, ← hS0, ← i5h, show tr9 = most by omega, sr_stop (by omega) (by omega)], op_10, tr2, by rw [← hol, ← hS0, ← i5h, show tr9 = most by omega, sr_stop (by omega) (by omega)]; exact h_sr, h_sc, by rw [← hol, ← hS0, ← i5h, show tr9 = most by omega, sr_stop (by omega) (by omega)]; exact h_scp, h_op, h_tr, hE⟩ dX5_run_114
          · skip
            refine r_aload_n E 1 hl rfl dX5_run_85 ?_
            refine r_get (v := .ref atr) E h h_sr rfl inn_X5_run_5 3 (by decide) fl_X5_run_25 rfl dX5_run_86 ?_
            refine r_iload E 6 hl rfl dX5_run_89 ?_
            refine r_iconst E dX5_run_91 ?_
            refine r_iast E h h_tr (by omega) (by decide) dX5_run_92 (fun ws H locs h hu => ?_)
            have h_sr := hu.keep h_sr (by omega)
            have h_sc := hu.keep h_sc (by omega)
            have h_scp := hu.keep h_scp (by omega)
            have h_op := hu.keep h_op (by omega)
            have h_tr : ws[q5 + 6]? = some (atr, aI cy 40 (uZ tr2 pl (-1))) := hu.1
            have h_tb := hu.keep h_tb (by omega)
            have h_re := hu.keep h_re (by omega)
            have h_rs := hu.keep h_rs (by omega)
            have h_fr := hu.keep h_fr (by omega)
            have h_frp := hu.keep h_frp (by omega)
            have hE := hE.tr (hu.eqx (by first | omega | (dsimp only <;> omega)))
            refine r_iinc (lv' := [(6, .int (zI (pl + (-1)))), (9, .int (zI z_74)), (0, .ref asr), (1, .ref a), (3, .int (zI to)), (4, .int (zI k9)), (5, .int (zI most)), (7, .int (zI tr9)), (8, .int (zI st9))]) E 6 hl rfl dX5_run_93 (by decide) rfl (fun ls hl => ?_)
            refine r_aload_n E 2 hl rfl dX5_run_96 ?_
            refine r_iload E 0 hl rfl dX5_run_97 ?_
            refine r_callVV E h (As := [.int (zI (pl + (-1)))]) (rest := []) (k_X5_uncolour l (pl + (-1)) h_sr h_sc h_scp h_op h_tr (by omega) (by omega) (fun hh => by have := holr (pl - 1).toNat (by omega); have h2 := (e_10 (pl - 1).toNat (by omega)).1; rw [show (((pl - 1).toNat : Nat) : Int) = pl + -1 by omega] at h2; rw [h2]; omega)) h_sr rfl gX5_run_X5_uncolour rfl hd_X5_uncolour (by decide) ⟨by decide, by decide⟩ hl.1 rfl (Nat.le_of_ble_eq_true rfl) dX5_run_99 rfl (fun ws H locs hp h => ?_)
            obtain ⟨h_scp, hf⟩ := hp
            have h_sr := hf.at h_sr (by first | omega | (dsimp only <;> omega))
            have h_sc := hf.at h_sc (by first | omega | (dsimp only <;> omega))
            have h_op := hf.at h_op (by first | omega | (dsimp only <;> omega))
            have h_tr := hf.at h_tr (by first | omega | (dsimp only <;> omega))
            have h_tb := hf.at h_tb (by first | omega | (dsimp only <;> omega))
            have h_re := hf.at h_re (by first | omega | (dsimp only <;> omega))
            have h_rs := hf.at h_rs (by first | omega | (dsimp only <;> omega))
            have h_fr := hf.at h_fr (by first | omega | (dsimp only <;> omega))
            have h_frp := hf.at h_frp (by first | omega | (dsimp only <;> omega))
            have hE := hE.tr (hf.wk (fun j hj => by first | omega | (dsimp only at hj ⊢ <;> omega)))
            have hnx : nxt db fr9 = db 1 := by omega
            obtain ⟨db2, fr2, m1, m2, m3, m4, m5, m6, m7, m8⟩ := sr_bk (d := d) (ol := ol) (most := most) (op := op_10) (db := db) (pl := pl) (fr9 := fr9) (tr := tr9) (dp := dp) i4a (fun j hj => by have := holr j hj; omega) (fun j hj => (e_10 j hj).1) hpl0 hpl1 i2.2 hnx
            rw [show pl + -1 = pl - 1 by omega, m1] at h_scp
            skip
            refine r_goto E 182 dX5_run_102 (by decide) ?_
            skip
            refine r_iinc (lv' := [(8, .int (zI (st9 + 1))), (6, .int (zI (pl + (-1)))), (9, .int (zI z_74)), (0, .ref asr), (1, .ref a), (3, .int (zI to)), (4, .int (zI k9)), (5, .int (zI most)), (7, .int (zI tr9))]) E 8 hl rfl dX5_run_182 (by decide) rfl (fun ls hl => ?_)
            refine r_goto E 27 dX5_run_185 (by decide) ?_
            exact ih_27 _ H locs ls (by omega) ⟨ws, (pl + (-1)), tr9, (st9 + 1), dp, db2, fr2, (uZ tr2 pl (-1)), rfl, (by omega), (by omega), (by omega), ⟨m2, fun i hi => (m3 i hi).trans (i4b i hi), fun i hi => (m4 i hi).trans (i4c i hi)⟩, (fun hh => by rw [show pl + -1 = pl - 1 by omega, ← (m6 (by omega)).1]; exact i5h), (fun hh => by rw [← i5h]; exact m7 (by omega)), (by omega), (fun j hj hj2 => by
      rw [uZ_n (by omega), i8 j (by omega) hj2]
      rcases m8 j (by omega) with q | q
      · rw [q]
      · have := holA j (pl - 1).toNat _ _ (by omega) (getD_at hj2) (getD_at (by omega)); omega), (fun h8 h9 => by
      rw [uZ_n (by omega), (m6 (by omega)).2]
      have := i8 (pl - 1).toNat (by omega) (by omega)
      rwa [show (((pl - 1).toNat : Nat) : Int) = pl + -1 by omega] at this), (fun j hj hj2 => by
      by_cases q : (j : Int) = pl
      · rw [q, uZ_s]
      · rw [uZ_n q]; exact i10 j (by omega) hj2), i11, h, h_sr, h_sc, h_scp, h_op, h_tr, h_tb, h_re, h_rs, h_fr, h_frp, hE, lv_sub hl [3, 4, 5, 6, 7, 1, 8, 0] rfl⟩
        · skip
          exfalso; omega
    · skip
      refine r_iconst E dX5_run_40 ?_
      exact r_iret E h ⟨by rw [← hol, ← hS0, i6 (by omega)], op_10, tr2, by rw [← hol, ← hS0, i6 (by omega)]; exact h_sr, h_sc, by rw [← hol, ← hS0, i6 (by omega)]; exact h_scp, h_op, h_tr, hE⟩ dX5_run_41
