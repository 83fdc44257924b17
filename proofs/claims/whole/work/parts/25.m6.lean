theorem hd_X11_findStep : yX11_findStep.cls = RX11 ∧ yX11_findStep.cls ≠ "java/lang/invoke/MethodHandle" ∧ yX11_findStep.cls ≠ "java/lang/invoke/VarHandle" ∧ (parseMethodDescriptor yX11_findStep.desc).map (fun d => d.parameters.length) = some 0 := by decide +kernel
theorem fl_X11_findStep_17 : Cond.fieldLink RX11 17 (TX11 8).1 (TX11 8).2.1 (TX11 8).2.2.1 ∈ wsX11_findStep := List.mem_of_getElem? (i := 2) rfl
theorem inn_X11_findStep_11 : ∀ w ∈ wsX110, w ∈ wsX11_findStep := fun _ h => List.mem_cons_of_mem _ (List.mem_append_right _ h)
theorem fl_X11_findStep_255 : Cond.fieldLink RX11 255 (TX11 26).1 (TX11 26).2.1 (TX11 26).2.2.1 ∈ wsX11_findStep := List.mem_of_getElem? (i := 3) rfl
theorem fl_X11_findStep_258 : Cond.fieldLink RX11 258 (TX11 27).1 (TX11 27).2.1 (TX11 27).2.2.1 ∈ wsX11_findStep := List.mem_of_getElem? (i := 4) rfl
abbrev rm_X11_findStep : Room := { frames := 4, cells := 0, slots := 0, locals := 97 }
set_option maxHeartbeats 4000000 in
set_option maxRecDepth 100000 in
theorem k_X11_findStep (l : Launch) {G : va_G} {cy : Nat → ClassId} {ws0 : va_W} {b aM : Nat} {I : Nat → Int} {ad : Nat → Nat} {da : Int → Int} {me : Int → Int} {le : Int → Int} {ru : Int → Int} {fo : Int → Int} {wn : Int → Int} {st : Int → Int64} {d : Int → Int} {T : List Int} {so : Int → Int} (h_mo : ws0[b]? = some (aM, mO I ad)) (h_da : ws0[b + 2]? = some (ad 8, aI cy 1111 da)) (h_me : ws0[b + 14]? = some (ad 15, aI cy 38400 me)) (h_le : ws0[b + 15]? = some (ad 16, aI cy 6400 le)) (h_ru : ws0[b + 16]? = some (ad 17, aI cy 6400 ru)) (h_fo : ws0[b + 18]? = some (ad 20, aI cy 42 fo)) (h_wn : ws0[b + 19]? = some (ad 21, aI cy 38400 wn)) (h_st : ws0[b + 20]? = some (ad 22, aL cy 1000 st)) (hD : DW d T) (hA : DW da T) (hL : LW d me le ru so fo wn (I 19)) (hd0 : da 0 = d 0) (hd1 : da 1 = d 1) : MI l yX11_findStep wsX11_findStep rm_X11_findStep G cy [.ref aM] ws0 (fun z u => z = (bst d T da).1 ∧ ∃ (I2 : Nat → Int) (st2 : Int → Int64), u[b]? = some (aM, mO I2 ad) ∧ u[b + 2]? = some (ad 8, aI cy 1111 da) ∧ u[b + 20]? = some (ad 22, aL cy 1000 st2) ∧ ((-1000000 < (bst d T da).1 → I2 26 = (bst d T da).2.1 ∧ I2 27 = (bst d T da).2.2) ∧ ∀ k : Nat, k ≠ 26 → k ≠ 27 → I2 k = I k) ∧ Eqx ws0 u (fun j => j = b ∨ j = b + 2 ∨ j = b + 20)) := by
  refine MI.of (own := RX11) (cc := cX11_findStep) (nL := 6) (ret := (some .int)) (by decide) rfl rfl (Nat.le_of_ble_eq_true rfl) ?_
  intro p e s m below meth c A ls E h hl
  have hl : lv_has ls 6 [(0, .ref aM)] := hl
  have hE : Eqx ws0 ws0 (fun j => j = b ∨ j = b + 2 ∨ j = b + 20) := Eqx.rf
  have hn9 := hD.n
  have hk9 := hD.k
  refine r_ldc E (v := (-1000000)) (List.mem_of_getElem? (i := 1) rfl) (n := -1000000) (by decide) dX11_findStep_0 ?_
  refine r_istore_n (lv' := [(1, .int (zI (-1000000))), (0, .ref aM)]) E hl dX11_findStep_2 rfl (by decide) rfl (fun ls hl => ?_)
  refine r_iconst E dX11_findStep_3 ?_
  refine r_istore_n (lv' := [(2, .int (zI 1)), (1, .int (zI (-1000000))), (0, .ref aM)]) E hl dX11_findStep_4 rfl (by decide) rfl (fun ls hl => ?_)
  refine r_loop (fun n H locs ls => ∃ (ws : va_W) (best : Int) (x : Int) (I2 : Nat → Int) (st3 : Int → Int64), n = (41 - x).toNat ∧ (1 ≤ x ∧ x ≤ da 0 + 1) ∧ (best = (bstX d T da (x - 1).toNat).1) ∧ (-1000000 < (bstX d T da (x - 1).toNat).1 → I2 26 = (bstX d T da (x - 1).toNat).2.1 ∧ I2 27 = (bstX d T da (x - 1).toNat).2.2) ∧ (∀ k : Nat, k ≠ 26 → k ≠ 27 → I2 k = I k) ∧ Hp G ws A s.heap H locs ∧ (ws[b]? = some (aM, mO I2 ad)) ∧ (ws[b + 2]? = some (ad 8, aI cy 1111 da)) ∧ (ws[b + 14]? = some (ad 15, aI cy 38400 me)) ∧ (ws[b + 15]? = some (ad 16, aI cy 6400 le)) ∧ (ws[b + 16]? = some (ad 17, aI cy 6400 ru)) ∧ (ws[b + 18]? = some (ad 20, aI cy 42 fo)) ∧ (ws[b + 19]? = some (ad 21, aI cy 38400 wn)) ∧ (ws[b + 20]? = some (ad 22, aL cy 1000 st3)) ∧ Eqx ws0 ws (fun j => j = b ∨ j = b + 2 ∨ j = b + 20) ∧ lv_has ls 6 [(0, .ref aM), (1, .int (zI best)), (2, .int (zI x))]) _ ⟨ws0, (-1000000), 1, I, st, rfl, (by omega), rfl, (fun h9 => absurd h9 (by show ¬ (-1000000 : Int) < (-1000000 : Int); decide)), (fun k _ _ => rfl), h, h_mo, h_da, h_me, h_le, h_ru, h_fo, h_wn, h_st, hE, lv_sub hl [2, 1, 0] rfl⟩ ?_
  rintro n H locs ls ⟨ws, best, x, I2, st3, hn, i1, i2, i3, i7, h, h_mo, h_da, h_me, h_le, h_ru, h_fo, h_wn, h_st, hE, hl⟩ ih_5
  refine r_iload_n E 2 hl rfl dX11_findStep_5 ?_
  refine r_aload_n E 0 hl rfl dX11_findStep_6 ?_
  refine r_get (v := .ref (ad 8)) E h h_mo rfl inn_X11_findStep_11 8 (by decide) fl_X11_findStep_17 rfl dX11_findStep_7 ?_
  refine r_iconst E dX11_findStep_10 ?_
  refine r_iald E h h_da (by omega) (by decide) dX11_findStep_11 ?_
  refine r_icmp_gt E 124 dX11_findStep_12 (by decide) (by omega) (fun c_12 => ?_) (fun c_12 => ?_)
  · skip
    refine r_iload_n E 1 hl rfl dX11_findStep_124 ?_
    exact r_iret E h ⟨by rw [i2, show (x - 1).toNat = (da 0).toNat by omega]; rfl, I2, st3, h_mo, h_da, h_st, ⟨by have := i3; rw [show (x - 1).toNat = (da 0).toNat by omega] at this; exact this, i7⟩, hE⟩ dX11_findStep_125
  · skip
    have hcx := hA.col (x := x) (by omega) (by omega)
    have hfx := hA.fix (x := x) (by omega) (by omega)
    obtain ⟨S9, eS9⟩ : ∃ S, S = bstX d T da (x - 1).toNat := ⟨_, rfl⟩
    have ebx : bstX d T da (x + 1 - 1).toNat = if da (29 + x) = 0 ∨ da (70 + x) = 1 then S9 else bstC d T da x (wgtX d T (cl da) x (da (29 + x) - 1)) (da 1).toNat S9 := by
      rw [show (x + 1 - 1).toNat = (x - 1).toNat + 1 by omega, eS9]
      show (if da (29 + (((x - 1).toNat : Int) + 1)) = 0 ∨ da (70 + (((x - 1).toNat : Int) + 1)) = 1 then _ else _) = _
      rw [show (((x - 1).toNat : Int) + 1) = x by omega]
    rw [← eS9] at i2 i3
    have hS9 := bstX_rng (da := da) hD (x - 1).toNat
    rw [← eS9] at hS9
    refine r_aload_n E 0 hl rfl dX11_findStep_15 ?_
    refine r_iload_n E 2 hl rfl dX11_findStep_16 ?_
    refine r_callVI E h (As := [.int (zI x)]) (rest := []) (k_X11_colourOf l x h_mo h_da (by omega)) h_mo rfl gX11_findStep_X11_colourOf rfl hd_X11_colourOf (by decide) ⟨by decide, by decide⟩ hl.1 rfl (Nat.le_of_ble_eq_true rfl) dX11_findStep_17 rfl (fun z_17 ws H locs hp h => ?_)
    obtain ⟨rfl, rfl⟩ := hp
    refine r_iconst E dX11_findStep_20 ?_
    refine r_icmp_eq E 118 dX11_findStep_21 (by decide) (by omega) (fun c_21 => ?_) (fun c_21 => ?_)
    · skip
      have hN : best = (bstX d T da (x + 1 - 1).toNat).1 ∧ (-1000000 < (bstX d T da (x + 1 - 1).toNat).1 → I2 26 = (bstX d T da (x + 1 - 1).toNat).2.1 ∧ I2 27 = (bstX d T da (x + 1 - 1).toNat).2.2) := by
        rw [ebx, if_pos (by omega)]
        exact ⟨i2, i3⟩
      refine r_iinc (lv' := [(2, .int (zI (x + 1))), (0, .ref aM), (1, .int (zI best))]) E 2 hl rfl dX11_findStep_118 (by decide) rfl (fun ls hl => ?_)
      refine r_goto E 5 dX11_findStep_121 (by decide) ?_
      exact ih_5 _ H locs ls (by omega) ⟨ws, best, (x + 1), I2, st3, rfl, (by omega), hN.1, hN.2, i7, h, h_mo, h_da, h_me, h_le, h_ru, h_fo, h_wn, h_st, hE, lv_sub hl [1, 2, 0] rfl⟩
    · skip
      refine r_aload_n E 0 hl rfl dX11_findStep_24 ?_
      refine r_get (v := .ref (ad 8)) E h h_mo rfl inn_X11_findStep_11 8 (by decide) fl_X11_findStep_17 rfl dX11_findStep_25 ?_
      refine r_bipush E dX11_findStep_28 (by decide) ?_
      refine r_iload_n E 2 hl rfl dX11_findStep_30 ?_
      refine r_iadd E dX11_findStep_31 ?_
      refine r_iald E h h_da (by omega) (by decide) dX11_findStep_32 ?_
      refine r_iconst E dX11_findStep_33 ?_
      refine r_icmp_ne E 40 dX11_findStep_34 (by decide) (by omega) (fun c_34 => ?_) (fun c_34 => ?_)
      · skip
        refine r_aload_n E 0 hl rfl dX11_findStep_40 ?_
        refine r_iload_n E 2 hl rfl dX11_findStep_41 ?_
        refine r_aload_n E 0 hl rfl dX11_findStep_42 ?_
        refine r_iload_n E 2 hl rfl dX11_findStep_43 ?_
        refine r_callVI E h (As := [.int (zI x)]) (rest := [.int (zI x), .ref aM]) (k_X11_colourOf l x h_mo h_da (by omega)) h_mo rfl gX11_findStep_X11_colourOf rfl hd_X11_colourOf (by decide) ⟨by decide, by decide⟩ hl.1 rfl (Nat.le_of_ble_eq_true rfl) dX11_findStep_44 rfl (fun z_44 ws H locs hp h => ?_)
        obtain ⟨rfl, rfl⟩ := hp
        refine r_callVI E h (As := [.int (zI x), .int (zI (da (29 + x) - 1))]) (rest := []) (k_X11_weightWith l x (da (29 + x) - 1) h_mo h_da h_me h_le h_ru h_fo h_wn h_st hD hA (by rw [i7 19 (by decide) (by decide)]; exact hL) (by omega) (by omega)) h_mo rfl gX11_findStep_X11_weightWith rfl hd_X11_weightWith (by decide) ⟨by decide, by decide⟩ hl.1 rfl (Nat.le_of_ble_eq_true rfl) dX11_findStep_47 rfl (fun z_47 ws H locs hp h => ?_)
        obtain ⟨rfl, st_47, h_da, h_st, hf⟩ := hp
        have h_mo := hf.at h_mo (by first | omega | (dsimp only <;> omega))
        have h_me := hf.at h_me (by first | omega | (dsimp only <;> omega))
        have h_le := hf.at h_le (by first | omega | (dsimp only <;> omega))
        have h_ru := hf.at h_ru (by first | omega | (dsimp only <;> omega))
        have h_fo := hf.at h_fo (by first | omega | (dsimp only <;> omega))
        have h_wn := hf.at h_wn (by first | omega | (dsimp only <;> omega))
        have hE := hE.tr (hf.wk (fun j hj => by first | omega | (dsimp only at hj ⊢ <;> omega)))
        refine r_istore_n (lv' := [(3, .int (zI (wgtX d T (cl da) x (da (29 + x) - 1)))), (0, .ref aM), (1, .int (zI best)), (2, .int (zI x))]) E hl dX11_findStep_50 rfl (by decide) rfl (fun ls hl => ?_)
        have hnow := wgtX_rng (e := cl da) (x := x) (c := da (29 + x) - 1) hD
        refine r_iconst E dX11_findStep_51 ?_
        refine r_istore (lv' := [(4, .int (zI 0)), (3, .int (zI (wgtX d T (cl da) x (da (29 + x) - 1)))), (0, .ref aM), (1, .int (zI best)), (2, .int (zI x))]) E hl dX11_findStep_52 (by decide) rfl (fun ls hl => ?_)
        refine r_loop (fun n H locs ls => ∃ (ws : va_W) (best2 : Int) (c8 : Int) (I3 : Nat → Int) (st4 : Int → Int64), n = (da 1 - c8).toNat ∧ (0 ≤ c8 ∧ c8 ≤ da 1) ∧ (best2 = (bstC d T da x (wgtX d T (cl da) x (da (29 + x) - 1)) c8.toNat S9).1) ∧ (-1000000 < (bstC d T da x (wgtX d T (cl da) x (da (29 + x) - 1)) c8.toNat S9).1 → I3 26 = (bstC d T da x (wgtX d T (cl da) x (da (29 + x) - 1)) c8.toNat S9).2.1 ∧ I3 27 = (bstC d T da x (wgtX d T (cl da) x (da (29 + x) - 1)) c8.toNat S9).2.2) ∧ (∀ k : Nat, k ≠ 26 → k ≠ 27 → I3 k = I k) ∧ Hp G ws A s.heap H locs ∧ (ws[b]? = some (aM, mO I3 ad)) ∧ (ws[b + 2]? = some (ad 8, aI cy 1111 da)) ∧ (ws[b + 14]? = some (ad 15, aI cy 38400 me)) ∧ (ws[b + 15]? = some (ad 16, aI cy 6400 le)) ∧ (ws[b + 16]? = some (ad 17, aI cy 6400 ru)) ∧ (ws[b + 18]? = some (ad 20, aI cy 42 fo)) ∧ (ws[b + 19]? = some (ad 21, aI cy 38400 wn)) ∧ (ws[b + 20]? = some (ad 22, aL cy 1000 st4)) ∧ Eqx ws0 ws (fun j => j = b ∨ j = b + 2 ∨ j = b + 20) ∧ lv_has ls 6 [(0, .ref aM), (1, .int (zI best2)), (2, .int (zI x)), (3, .int (zI (wgtX d T (cl da) x (da (29 + x) - 1)))), (4, .int (zI c8))]) _ ⟨ws, best, 0, I2, st_47, rfl, (by omega), i2, i3, i7, h, h_mo, h_da, h_me, h_le, h_ru, h_fo, h_wn, h_st, hE, lv_sub hl [2, 3, 4, 1, 0] rfl⟩ ?_
        rintro n H locs ls ⟨ws, best2, c8, I3, st4, hn, j1, j2, j3, i7, h, h_mo, h_da, h_me, h_le, h_ru, h_fo, h_wn, h_st, hE, hl⟩ ih_54
        refine r_iload E 4 hl rfl dX11_findStep_54 ?_
        refine r_aload_n E 0 hl rfl dX11_findStep_56 ?_
        refine r_get (v := .ref (ad 8)) E h h_mo rfl inn_X11_findStep_11 8 (by decide) fl_X11_findStep_17 rfl dX11_findStep_57 ?_
        refine r_iconst E dX11_findStep_60 ?_
        refine r_iald E h h_da (by omega) (by decide) dX11_findStep_61 ?_
        refine r_icmp_ge E 118 dX11_findStep_62 (by decide) (by omega) (fun c_62 => ?_) (fun c_62 => ?_)
        · skip
          have hN : best2 = (bstX d T da (x + 1 - 1).toNat).1 ∧ (-1000000 < (bstX d T da (x + 1 - 1).toNat).1 → I3 26 = (bstX d T da (x + 1 - 1).toNat).2.1 ∧ I3 27 = (bstX d T da (x + 1 - 1).toNat).2.2) := by
            rw [ebx, if_neg (by omega), show (da 1).toNat = c8.toNat by omega]
            exact ⟨j2, j3⟩
          refine r_iinc (lv' := [(2, .int (zI (x + 1))), (0, .ref aM), (1, .int (zI best2)), (3, .int (zI (wgtX d T (cl da) x (da (29 + x) - 1)))), (4, .int (zI c8))]) E 2 hl rfl dX11_findStep_118 (by decide) rfl (fun ls hl => ?_)
          refine r_goto E 5 dX11_findStep_121 (by decide) ?_
          exact ih_5 _ H locs ls (by omega) ⟨ws, best2, (x + 1), I3, st4, rfl, (by omega), hN.1, hN.2, i7, h, h_mo, h_da, h_me, h_le, h_ru, h_fo, h_wn, h_st, hE, lv_sub hl [1, 2, 0] rfl⟩
        · skip
          have hgw := wgtX_rng (e := cl da) (x := x) (c := c8) hD
          have hbr := bstC_rng (da := da) (x := x) hD hnow c8.toNat S9 (by omega)
          have ebc : bstC d T da x (wgtX d T (cl da) x (da (29 + x) - 1)) (c8 + 1).toNat S9 = if c8 = da (29 + x) - 1 then bstC d T da x (wgtX d T (cl da) x (da (29 + x) - 1)) c8.toNat S9 else if wgtX d T (cl da) x (da (29 + x) - 1) - wgtX d T (cl da) x c8 ≤ (bstC d T da x (wgtX d T (cl da) x (da (29 + x) - 1)) c8.toNat S9).1 then bstC d T da x (wgtX d T (cl da) x (da (29 + x) - 1)) c8.toNat S9 else (wgtX d T (cl da) x (da (29 + x) - 1) - wgtX d T (cl da) x c8, x, c8) := by
            rw [show (c8 + 1).toNat = c8.toNat + 1 by omega]
            show (if (c8.toNat : Int) = da (29 + x) - 1 then _ else if wgtX d T (cl da) x (da (29 + x) - 1) - wgtX d T (cl da) x (c8.toNat : Int) ≤ _ then _ else (wgtX d T (cl da) x (da (29 + x) - 1) - wgtX d T (cl da) x (c8.toNat : Int), x, (c8.toNat : Int))) = _
            rw [show (c8.toNat : Int) = c8 by omega]
          refine r_iload E 4 hl rfl dX11_findStep_65 ?_
          refine r_aload_n E 0 hl rfl dX11_findStep_67 ?_
          refine r_iload_n E 2 hl rfl dX11_findStep_68 ?_
          refine r_callVI E h (As := [.int (zI x)]) (rest := [.int (zI c8)]) (k_X11_colourOf l x h_mo h_da (by omega)) h_mo rfl gX11_findStep_X11_colourOf rfl hd_X11_colourOf (by decide) ⟨by decide, by decide⟩ hl.1 rfl (Nat.le_of_ble_eq_true rfl) dX11_findStep_69 rfl (fun z_69 ws H locs hp h => ?_)
          obtain ⟨rfl, rfl⟩ := hp
          refine r_icmp_ne E 78 dX11_findStep_72 (by decide) (by omega) (fun c_72 => ?_) (fun c_72 => ?_)
          · skip
            refine r_iload_n E 3 hl rfl dX11_findStep_78 ?_
            refine r_aload_n E 0 hl rfl dX11_findStep_79 ?_
            refine r_iload_n E 2 hl rfl dX11_findStep_80 ?_
            refine r_iload E 4 hl rfl dX11_findStep_81 ?_
            refine r_callVI E h (As := [.int (zI x), .int (zI c8)]) (rest := [.int (zI (wgtX d T (cl da) x (da (29 + x) - 1)))]) (k_X11_weightWith l x c8 h_mo h_da h_me h_le h_ru h_fo h_wn h_st hD hA (by rw [i7 19 (by decide) (by decide)]; exact hL) (by omega) (by omega)) h_mo rfl gX11_findStep_X11_weightWith rfl hd_X11_weightWith (by decide) ⟨by decide, by decide⟩ hl.1 rfl (Nat.le_of_ble_eq_true rfl) dX11_findStep_83 rfl (fun z_83 ws H locs hp h => ?_)
            obtain ⟨rfl, st_83, h_da, h_st, hf⟩ := hp
            have h_mo := hf.at h_mo (by first | omega | (dsimp only <;> omega))
            have h_me := hf.at h_me (by first | omega | (dsimp only <;> omega))
            have h_le := hf.at h_le (by first | omega | (dsimp only <;> omega))
            have h_ru := hf.at h_ru (by first | omega | (dsimp only <;> omega))
            have h_fo := hf.at h_fo (by first | omega | (dsimp only <;> omega))
            have h_wn := hf.at h_wn (by first | omega | (dsimp only <;> omega))
            have hE := hE.tr (hf.wk (fun j hj => by first | omega | (dsimp only at hj ⊢ <;> omega)))
            refine r_isub E dX11_findStep_86 ?_
            refine r_istore (lv' := [(5, .int (zI ((wgtX d T (cl da) x (da (29 + x) - 1)) - (wgtX d T (cl da) x c8)))), (0, .ref aM), (1, .int (zI best2)), (2, .int (zI x)), (3, .int (zI (wgtX d T (cl da) x (da (29 + x) - 1)))), (4, .int (zI c8))]) E hl dX11_findStep_87 (by decide) rfl (fun ls hl => ?_)
            refine r_iload E 0 hl rfl dX11_findStep_89 ?_
            refine r_iload_n E 2 hl rfl dX11_findStep_91 ?_
            refine r_icmp_gt E 98 dX11_findStep_92 (by decide) (by omega) (fun c_92 => ?_) (fun c_92 => ?_)
            · skip
              refine r_iload E 0 hl rfl dX11_findStep_98 ?_
              refine r_istore_n (lv' := [(1, .int (zI ((wgtX d T (cl da) x (da (29 + x) - 1)) - (wgtX d T (cl da) x c8)))), (5, .int (zI ((wgtX d T (cl da) x (da (29 + x) - 1)) - (wgtX d T (cl da) x c8)))), (0, .ref aM), (2, .int (zI x)), (3, .int (zI (wgtX d T (cl da) x (da (29 + x) - 1)))), (4, .int (zI c8))]) E hl dX11_findStep_100 rfl (by decide) rfl (fun ls hl => ?_)
              refine r_aload_n E 2 hl rfl dX11_findStep_101 ?_
              refine r_iload_n E 3 hl rfl dX11_findStep_102 ?_
              refine r_put E h h_mo rfl inn_X11_findStep_11 26 (by decide) fl_X11_findStep_255 tyX11 tyX11_ok nmX11 rfl rfl rfl (Nat.le_of_ble_eq_true rfl) dX11_findStep_103 (fun ws H locs h hu => ?_)
              have h_mo : ws[b]? = some (aM, mO (va_up I3 26 x) ad) := hu.1
              have h_da := hu.keep h_da (by omega)
              have h_me := hu.keep h_me (by omega)
              have h_le := hu.keep h_le (by omega)
              have h_ru := hu.keep h_ru (by omega)
              have h_fo := hu.keep h_fo (by omega)
              have h_wn := hu.keep h_wn (by omega)
              have h_st := hu.keep h_st (by omega)
              have hE := hE.tr (hu.eqx (by first | omega | (dsimp only <;> omega)))
              refine r_aload_n E 2 hl rfl dX11_findStep_106 ?_
              refine r_iload E 5 hl rfl dX11_findStep_107 ?_
              refine r_put E h h_mo rfl inn_X11_findStep_11 27 (by decide) fl_X11_findStep_258 tyX11 tyX11_ok nmX11 rfl rfl rfl (Nat.le_of_ble_eq_true rfl) dX11_findStep_109 (fun ws H locs h hu => ?_)
              have h_mo : ws[b]? = some (aM, mO (va_up (va_up I3 26 x) 27 c8) ad) := hu.1
              have h_da := hu.keep h_da (by omega)
              have h_me := hu.keep h_me (by omega)
              have h_le := hu.keep h_le (by omega)
              have h_ru := hu.keep h_ru (by omega)
              have h_fo := hu.keep h_fo (by omega)
              have h_wn := hu.keep h_wn (by omega)
              have h_st := hu.keep h_st (by omega)
              have hE := hE.tr (hu.eqx (by first | omega | (dsimp only <;> omega)))
              have hN : (wgtX d T (cl da) x (da (29 + x) - 1)) - (wgtX d T (cl da) x c8) = (bstC d T da x (wgtX d T (cl da) x (da (29 + x) - 1)) (c8 + 1).toNat S9).1 ∧ (-1000000 < (bstC d T da x (wgtX d T (cl da) x (da (29 + x) - 1)) (c8 + 1).toNat S9).1 → (va_up (va_up I3 26 x) 27 c8) 26 = (bstC d T da x (wgtX d T (cl da) x (da (29 + x) - 1)) (c8 + 1).toNat S9).2.1 ∧ (va_up (va_up I3 26 x) 27 c8) 27 = (bstC d T da x (wgtX d T (cl da) x (da (29 + x) - 1)) (c8 + 1).toNat S9).2.2) ∧ ∀ k : Nat, k ≠ 26 → k ≠ 27 → (va_up (va_up I3 26 x) 27 c8) k = I k := by
                rw [ebc]
                rw [if_neg (by omega), if_neg (by omega)]
                exact ⟨rfl, fun _ => ⟨by simp [va_up], by simp [va_up]⟩, fun k h1 h2 => by simp [va_up, h1, h2, i7 k h1 h2]⟩
              refine r_iinc (lv' := [(4, .int (zI (c8 + 1))), (1, .int (zI ((wgtX d T (cl da) x (da (29 + x) - 1)) - (wgtX d T (cl da) x c8)))), (5, .int (zI ((wgtX d T (cl da) x (da (29 + x) - 1)) - (wgtX d T (cl da) x c8)))), (0, .ref aM), (2, .int (zI x)), (3, .int (zI (wgtX d T (cl da) x (da (29 + x) - 1))))]) E 5 hl rfl dX11_findStep_112 (by decide) rfl (fun ls hl => ?_)
              refine r_goto E 54 dX11_findStep_115 (by decide) ?_
              exact ih_54 _ H locs ls (by omega) ⟨ws, ((wgtX d T (cl da) x (da (29 + x) - 1)) - (wgtX d T (cl da) x c8)), (c8 + 1), (va_up (va_up I3 26 x) 27 c8), st_83, rfl, (by omega), hN.1, hN.2.1, hN.2.2, h, h_mo, h_da, h_me, h_le, h_ru, h_fo, h_wn, h_st, hE, lv_sub hl [3, 1, 4, 5, 0] rfl⟩
            · skip
              refine r_goto E 112 dX11_findStep_95 (by decide) ?_
              have hN : best2 = (bstC d T da x (wgtX d T (cl da) x (da (29 + x) - 1)) (c8 + 1).toNat S9).1 ∧ (-1000000 < (bstC d T da x (wgtX d T (cl da) x (da (29 + x) - 1)) (c8 + 1).toNat S9).1 → I3 26 = (bstC d T da x (wgtX d T (cl da) x (da (29 + x) - 1)) (c8 + 1).toNat S9).2.1 ∧ I3 27 = (bstC d T da x (wgtX d T (cl da) x (da (29 + x) - 1)) (c8 + 1).toNat S9).2.2) ∧ ∀ k : Nat, k ≠ 26 → k ≠ 27 → I3 k = I k := by
                rw [ebc]
                first | rw [if_pos (by omega)] | rw [if_neg (by omega), if_pos (by omega)]
                exact ⟨j2, j3, i7⟩
              refine r_iinc (lv' := [(4, .int (zI (c8 + 1))), (5, .int (zI ((wgtX d T (cl da) x (da (29 + x) - 1)) - (wgtX d T (cl da) x c8)))), (0, .ref aM), (1, .int (zI best2)), (2, .int (zI x)), (3, .int (zI (wgtX d T (cl da) x (da (29 + x) - 1))))]) E 5 hl rfl dX11_findStep_112 (by decide) rfl (fun ls hl => ?_)
              refine r_goto E 54 dX11_findStep_115 (by decide) ?_
              exact ih_54 _ H locs ls (by omega) ⟨ws, best2, (c8 + 1), I3, st_83, rfl, (by omega), hN.1, hN.2.1, hN.2.2, h, h_mo, h_da, h_me, h_le, h_ru, h_fo, h_wn, h_st, hE, lv_sub hl [2, 3, 4, 5, 0] rfl⟩
          · skip
            refine r_goto E 112 dX11_findStep_75 (by decide) ?_
            have hN : best2 = (bstC d T da x (wgtX d T (cl da) x (da (29 + x) - 1)) (c8 + 1).toNat S9).1 ∧ (-1000000 < (bstC d T da x (wgtX d T (cl da) x (da (29 + x) - 1)) (c8 + 1).toNat S9).1 → I3 26 = (bstC d T da x (wgtX d T (cl da) x (da (29 + x) - 1)) (c8 + 1).toNat S9).2.1 ∧ I3 27 = (bstC d T da x (wgtX d T (cl da) x (da (29 + x) - 1)) (c8 + 1).toNat S9).2.2) ∧ ∀ k : Nat, k ≠ 26 → k ≠ 27 → I3 k = I k := by
              rw [ebc]
              first | rw [if_pos (by omega)] | rw [if_neg (by omega), if_pos (by omega)]
              exact ⟨j2, j3, i7⟩
            refine r_iinc (lv' := [(4, .int (zI (c8 + 1))), (0, .ref aM), (1, .int (zI best2)), (2, .int (zI x)), (3, .int (zI (wgtX d T (cl da) x (da (29 + x) - 1))))]) E 4 hl rfl dX11_findStep_112 (by decide) rfl (fun ls hl => ?_)
            refine r_goto E 54 dX11_findStep_115 (by decide) ?_
            exact ih_54 _ H locs ls (by omega) ⟨ws, best2, (c8 + 1), I3, st4, rfl, (by omega), hN.1, hN.2.1, hN.2.2, h, h_mo, h_da, h_me, h_le, h_ru, h_fo, h_wn, h_st, hE, lv_sub hl [1, 2, 3, 4, 0] rfl⟩
      · skip
        refine r_goto E 118 dX11_findStep_37 (by decide) ?_
        have hN : best = (bstX d T da (x + 1 - 1).toNat).1 ∧ (-1000000 < (bstX d T da (x + 1 - 1).toNat).1 → I2 26 = (bstX d T da (x + 1 - 1).toNat).2.1 ∧ I2 27 = (bstX d T da (x + 1 - 1).toNat).2.2) := by
          rw [ebx, if_pos (by omega)]
          exact ⟨i2, i3⟩
        refine r_iinc (lv' := [(2, .int (zI (x + 1))), (0, .ref aM), (1, .int (zI best))]) E 2 hl rfl dX11_findStep_118 (by decide) rfl (fun ls hl => ?_)
        refine r_goto E 5 dX11_findStep_121 (by decide) ?_
        exact ih_5 _ H locs ls (by omega) ⟨ws, best, (x + 1), I2, st3, rfl, (by omega), hN.1, hN.2, i7, h, h_mo, h_da, h_me, h_le, h_ru, h_fo, h_wn, h_st, hE, lv_sub hl [1, 2, 0] rfl⟩
