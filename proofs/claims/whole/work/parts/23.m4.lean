theorem hd_X11_weightWith : yX11_weightWith.cls = RX11 ∧ yX11_weightWith.cls ≠ "java/lang/invoke/MethodHandle" ∧ yX11_weightWith.cls ≠ "java/lang/invoke/VarHandle" ∧ (parseMethodDescriptor yX11_weightWith.desc).map (fun d => d.parameters.length) = some 2 := by decide +kernel
theorem fl_X11_weightWith_17 : Cond.fieldLink RX11 17 (TX11 8).1 (TX11 8).2.1 (TX11 8).2.2.1 ∈ wsX11_weightWith := List.mem_of_getElem? (i := 1) rfl
theorem inn_X11_weightWith_11 : ∀ w ∈ wsX110, w ∈ wsX11_weightWith := fun _ h => List.mem_cons_of_mem _ (List.mem_append_right _ h)
theorem fl_X11_weightWith_44 : Cond.fieldLink RX11 44 (TX11 20).1 (TX11 20).2.1 (TX11 20).2.2.1 ∈ wsX11_weightWith := List.mem_of_getElem? (i := 2) rfl
theorem fl_X11_weightWith_47 : Cond.fieldLink RX11 47 (TX11 21).1 (TX11 21).2.1 (TX11 21).2.2.1 ∈ wsX11_weightWith := List.mem_of_getElem? (i := 3) rfl
abbrev rm_X11_weightWith : Room := { frames := 3, cells := 0, slots := 0, locals := 72 }
set_option maxHeartbeats 4000000 in
set_option maxRecDepth 100000 in
theorem k_X11_weightWith (l : Launch) {G : va_G} {cy : Nat → ClassId} {ws0 : va_W} {b aM : Nat} {I : Nat → Int} {ad : Nat → Nat} {da : Int → Int} {me : Int → Int} {le : Int → Int} {ru : Int → Int} {fo : Int → Int} {wn : Int → Int} {st : Int → Int64} {d : Int → Int} {T : List Int} {so : Int → Int} (x c9 : Int) (h_mo : ws0[b]? = some (aM, mO I ad)) (h_da : ws0[b + 2]? = some (ad 8, aI cy 1111 da)) (h_me : ws0[b + 14]? = some (ad 15, aI cy 38400 me)) (h_le : ws0[b + 15]? = some (ad 16, aI cy 6400 le)) (h_ru : ws0[b + 16]? = some (ad 17, aI cy 6400 ru)) (h_fo : ws0[b + 18]? = some (ad 20, aI cy 42 fo)) (h_wn : ws0[b + 19]? = some (ad 21, aI cy 38400 wn)) (h_st : ws0[b + 20]? = some (ad 22, aL cy 1000 st)) (hD : DW d T) (hA : DW da T) (hL : LW d me le ru so fo wn (I 19)) (hx : 1 ≤ x ∧ x ≤ d 0) (hc9 : 0 ≤ c9 ∧ c9 < da 1) : MI l yX11_weightWith wsX11_weightWith rm_X11_weightWith G cy [.ref aM, .int (zI x), .int (zI c9)] ws0 (fun z u => z = wgtX d T (cl da) x c9 ∧ ∃ st2 : Int → Int64, u[b + 2]? = some (ad 8, aI cy 1111 da) ∧ u[b + 20]? = some (ad 22, aL cy 1000 st2) ∧ Eqx ws0 u (fun j => j = b + 2 ∨ j = b + 20)) := by
  refine MI.of (own := RX11) (cc := cX11_weightWith) (nL := 6) (ret := (some .int)) (by decide) rfl rfl (Nat.le_of_ble_eq_true rfl) ?_
  intro p e s m below meth c A ls E h hl
  have hl : lv_has ls 6 [(0, .ref aM), (1, .int (zI x)), (2, .int (zI c9))] := hl
  have hE : Eqx ws0 ws0 (fun j => j = b + 2 ∨ j = b + 20) := Eqx.rf
  have hn9 := hD.n
  have hk9 := hA.k
  have hfb := fb_le hD (x + 1)
  have hfb0 := fb_nonneg (d := d) (x := x)
  have hrk0 := fb_s (d := d) (x := x) (by omega)
  have hcol := hA.col (x := x) (by omega) (by omega)
  have h_da0 := h_da
  have hlen := KL_len hD
  have hrkn : 0 ≤ rk d x (KL d).length := cntT_nonneg
  have hA9 := hA.setcol (x := x) (v := c9 + 1) (by omega) (by omega)
  refine r_aload_n E 0 hl rfl dX11_weightWith_0 ?_
  refine r_get (v := .ref (ad 8)) E h h_mo rfl inn_X11_weightWith_11 8 (by decide) fl_X11_weightWith_17 rfl dX11_weightWith_1 ?_
  refine r_bipush E dX11_weightWith_4 (by decide) ?_
  refine r_iload_n E 1 hl rfl dX11_weightWith_6 ?_
  refine r_iadd E dX11_weightWith_7 ?_
  refine r_iald E h h_da (by omega) (by decide) dX11_weightWith_8 ?_
  refine r_istore_n (lv' := [(3, .int (zI (da (29 + x)))), (0, .ref aM), (1, .int (zI x)), (2, .int (zI c9))]) E hl dX11_weightWith_9 rfl (by decide) rfl (fun ls hl => ?_)
  refine r_iconst E dX11_weightWith_10 ?_
  refine r_istore (lv' := [(4, .int (zI 0)), (3, .int (zI (da (29 + x)))), (0, .ref aM), (1, .int (zI x)), (2, .int (zI c9))]) E hl dX11_weightWith_11 (by decide) rfl (fun ls hl => ?_)
  refine r_aload_n E 2 hl rfl dX11_weightWith_13 ?_
  refine r_get (v := .ref (ad 8)) E h h_mo rfl inn_X11_weightWith_11 8 (by decide) fl_X11_weightWith_17 rfl dX11_weightWith_14 ?_
  refine r_bipush E dX11_weightWith_17 (by decide) ?_
  refine r_iload_n E 3 hl rfl dX11_weightWith_19 ?_
  refine r_iadd E dX11_weightWith_20 ?_
  refine r_iload_n E 4 hl rfl dX11_weightWith_21 ?_
  refine r_iconst E dX11_weightWith_22 ?_
  refine r_iadd E dX11_weightWith_23 ?_
  refine r_iast E h h_da (by omega) (by decide) dX11_weightWith_24 (fun ws H locs h hu => ?_)
  have h_mo := hu.keep h_mo (by omega)
  have h_da : ws[b + 2]? = some (ad 8, aI cy 1111 (uZ da (29 + x) (c9 + 1))) := hu.1
  have h_me := hu.keep h_me (by omega)
  have h_le := hu.keep h_le (by omega)
  have h_ru := hu.keep h_ru (by omega)
  have h_fo := hu.keep h_fo (by omega)
  have h_wn := hu.keep h_wn (by omega)
  have h_st := hu.keep h_st (by omega)
  have hE := hE.tr (hu.eqx (by first | omega | (dsimp only <;> omega)))
  refine r_aload_n E 2 hl rfl dX11_weightWith_25 ?_
  refine r_get (v := .ref (ad 20)) E h h_mo rfl inn_X11_weightWith_11 20 (by decide) fl_X11_weightWith_44 rfl dX11_weightWith_26 ?_
  refine r_iload_n E 3 hl rfl dX11_weightWith_29 ?_
  refine r_iald E h h_fo (by omega) (by decide) dX11_weightWith_30 ?_
  rw [show fo x = fb d x from (hL.2.2.2.1 x (by omega) (by omega))]
  refine r_istore (lv' := [(5, .int (zI (fb d x))), (4, .int (zI 0)), (3, .int (zI (da (29 + x)))), (0, .ref aM), (1, .int (zI x)), (2, .int (zI c9))]) E hl dX11_weightWith_31 (by decide) rfl (fun ls hl => ?_)
  refine r_loop (fun n H locs ls => ∃ (ws : va_W) (a9 : Int) (i : Int) (s9 : Nat) (st3 : Int → Int64), n = (20000 - i).toNat ∧ (s9 ≤ (KL d).length ∧ 0 ≤ i) ∧ (i = fb d x + rk d x s9) ∧ (a9 = sumL (fun q => if has d q x = true then (if cAll d (cl (uZ da (29 + x) (c9 + 1))) q = -1 then 0 else wK d T q c9) else 0) ((KL d).take s9)) ∧ (rk d x s9 ≤ rk d x (KL d).length) ∧ Hp G ws A s.heap H locs ∧ (ws[b]? = some (aM, mO I ad)) ∧ (ws[b + 2]? = some (ad 8, aI cy 1111 (uZ da (29 + x) (c9 + 1)))) ∧ (ws[b + 14]? = some (ad 15, aI cy 38400 me)) ∧ (ws[b + 15]? = some (ad 16, aI cy 6400 le)) ∧ (ws[b + 16]? = some (ad 17, aI cy 6400 ru)) ∧ (ws[b + 18]? = some (ad 20, aI cy 42 fo)) ∧ (ws[b + 19]? = some (ad 21, aI cy 38400 wn)) ∧ (ws[b + 20]? = some (ad 22, aL cy 1000 st3)) ∧ Eqx ws0 ws (fun j => j = b + 2 ∨ j = b + 20) ∧ lv_has ls 6 [(0, .ref aM), (1, .int (zI x)), (2, .int (zI c9)), (3, .int (zI (da (29 + x)))), (4, .int (zI a9)), (5, .int (zI i))]) _ ⟨ws, 0, (fb d x), 0, st, rfl, ⟨Nat.zero_le _, by omega⟩, (by show fb d x = fb d x + cntT _ _ 0; rw [cntT_0]; omega), rfl, (cntT_le (Nat.zero_le _)), h, h_mo, h_da, h_me, h_le, h_ru, h_fo, h_wn, h_st, hE, lv_sub hl [3, 4, 5, 2, 1, 0] rfl⟩ ?_
  rintro n H locs ls ⟨ws, a9, i, s9, st3, hn, i1, i2, i3, i4, h, h_mo, h_da, h_me, h_le, h_ru, h_fo, h_wn, h_st, hE, hl⟩ ih_33
  refine r_iload E 5 hl rfl dX11_weightWith_33 ?_
  refine r_aload_n E 0 hl rfl dX11_weightWith_35 ?_
  refine r_get (v := .ref (ad 20)) E h h_mo rfl inn_X11_weightWith_11 20 (by decide) fl_X11_weightWith_44 rfl dX11_weightWith_36 ?_
  refine r_iload_n E 1 hl rfl dX11_weightWith_39 ?_
  refine r_iconst E dX11_weightWith_40 ?_
  refine r_iadd E dX11_weightWith_41 ?_
  refine r_iald E h h_fo (by omega) (by decide) dX11_weightWith_42 ?_
  rw [show fo (x + 1) = fb d x + rk d x (KL d).length from (by rw [hL.2.2.2.1 (x + 1) (by omega) (by omega), fb_s (by omega)])]
  refine r_icmp_ge E 84 dX11_weightWith_43 (by decide) (by omega) (fun c_43 => ?_) (fun c_43 => ?_)
  · skip
    refine r_aload_n E 0 hl rfl dX11_weightWith_84 ?_
    refine r_get (v := .ref (ad 8)) E h h_mo rfl inn_X11_weightWith_11 8 (by decide) fl_X11_weightWith_17 rfl dX11_weightWith_85 ?_
    refine r_bipush E dX11_weightWith_88 (by decide) ?_
    refine r_iload_n E 1 hl rfl dX11_weightWith_90 ?_
    refine r_iadd E dX11_weightWith_91 ?_
    refine r_iload_n E 3 hl rfl dX11_weightWith_92 ?_
    refine r_iast E h h_da (by omega) (by decide) dX11_weightWith_93 (fun ws H locs h hu => ?_)
    have h_mo := hu.keep h_mo (by omega)
    have h_da : ws[b + 2]? = some (ad 8, aI cy 1111 (uZ (uZ da (29 + x) (c9 + 1)) (29 + x) (da (29 + x)))) := hu.1
    have h_me := hu.keep h_me (by omega)
    have h_le := hu.keep h_le (by omega)
    have h_ru := hu.keep h_ru (by omega)
    have h_fo := hu.keep h_fo (by omega)
    have h_wn := hu.keep h_wn (by omega)
    have h_st := hu.keep h_st (by omega)
    have hE := hE.tr (hu.eqx (by first | omega | (dsimp only <;> omega)))
    refine r_iload E 4 hl rfl dX11_weightWith_94 ?_
    rw [uZ_back] at h_da
    exact r_iret E h ⟨by
  unfold wgtX
  rw [← cl_set, i3]
  exact cnt_end (P := fun q => has d q x) (l := KL d) ((KL d).length - s9) s9 (by omega) (by show rk d x s9 = rk d x _; omega) (fun q => if cAll d (cl (uZ da (29 + x) (c9 + 1))) q = -1 then 0 else wK d T q c9), st3, h_da, h_st, hE⟩ dX11_weightWith_96
  · skip
    obtain ⟨t9, q9, b1, b2, b3, b4, b5⟩ := cnt_next (P := fun q => has d q x) (l := KL d) ((KL d).length - s9) s9 (by omega) (by show rk d x s9 < rk d x _; omega)
    have b6 : rk d x t9 = rk d x s9 := b4
    have hq9 := KL_at hD b2
    have hl9 := hL.2.1 _ q9 b2
    have ht9 := lt_of_get b2
    have b7 := cntT_s (P := fun q => has d q x) b2
    rw [if_pos b3] at b7
    have b8 : rk d x (t9 + 1) = rk d x t9 + 1 := b7
    have b9 := hL.2.2.2.2 x t9 q9 (by omega) (by omega) b2 b3
    have hcb := cAll_b hD hA9 hq9
    have e9 := sumL_take (f := fun q => if has d q x = true then (if cAll d (cl (uZ da (29 + x) (c9 + 1))) q = -1 then 0 else wK d T q c9) else 0) b2
    rw [b5 (fun q => if cAll d (cl (uZ da (29 + x) (c9 + 1))) q = -1 then 0 else wK d T q c9), if_pos b3] at e9
    refine r_aload_n E 0 hl rfl dX11_weightWith_46 ?_
    refine r_aload_n E 0 hl rfl dX11_weightWith_47 ?_
    refine r_get (v := .ref (ad 21)) E h h_mo rfl inn_X11_weightWith_11 21 (by decide) fl_X11_weightWith_47 rfl dX11_weightWith_48 ?_
    refine r_iload E 5 hl rfl dX11_weightWith_51 ?_
    refine r_iald E h h_wn (by omega) (by decide) dX11_weightWith_53 ?_
    rw [show wn i = (t9 : Int) from (by rw [i2, ← b6]; exact b9)]
    refine r_callVI E h (As := [.int (zI ((t9 : Int)))]) (rest := []) (k_X11_colourAll l ((t9 : Int)) q9 h_mo h_da h_me h_le hD (DW.c4 hA9) (by omega) hq9 hl9.2.1 hl9.2.2) h_mo rfl gX11_weightWith_X11_colourAll rfl hd_X11_colourAll (by decide) ⟨by decide, by decide⟩ hl.1 rfl (Nat.le_of_ble_eq_true rfl) dX11_weightWith_54 rfl (fun z_54 ws H locs hp h => ?_)
    obtain ⟨rfl, rfl⟩ := hp
    refine r_iconst E dX11_weightWith_57 ?_
    refine r_icmp_eq E 78 dX11_weightWith_58 (by decide) (by omega) (fun c_58 => ?_) (fun c_58 => ?_)
    · skip
      rw [if_pos c_58] at e9
      refine r_iinc (lv' := [(5, .int (zI (i + 1))), (0, .ref aM), (1, .int (zI x)), (2, .int (zI c9)), (3, .int (zI (da (29 + x)))), (4, .int (zI a9))]) E 5 hl rfl dX11_weightWith_78 (by decide) rfl (fun ls hl => ?_)
      refine r_goto E 33 dX11_weightWith_81 (by decide) ?_
      exact ih_33 _ H locs ls (by omega) ⟨ws, a9, (i + 1), (t9 + 1), st3, rfl, ⟨by omega, by omega⟩, (by omega), (by rw [e9]; omega), (cntT_le (by omega)), h, h_mo, h_da, h_me, h_le, h_ru, h_fo, h_wn, h_st, hE, lv_sub hl [1, 2, 3, 4, 5, 0] rfl⟩
    · skip
      rw [if_neg c_58] at e9
      refine r_iload E 4 hl rfl dX11_weightWith_61 ?_
      refine r_aload_n E 0 hl rfl dX11_weightWith_63 ?_
      refine r_aload_n E 0 hl rfl dX11_weightWith_64 ?_
      refine r_get (v := .ref (ad 21)) E h h_mo rfl inn_X11_weightWith_11 21 (by decide) fl_X11_weightWith_47 rfl dX11_weightWith_65 ?_
      refine r_iload E 5 hl rfl dX11_weightWith_68 ?_
      refine r_iald E h h_wn (by omega) (by decide) dX11_weightWith_70 ?_
      rw [show wn i = (t9 : Int) from (by rw [i2, ← b6]; exact b9)]
      refine r_iload_n E 2 hl rfl dX11_weightWith_71 ?_
      refine r_callVI E h (As := [.int (zI ((t9 : Int))), .int (zI c9)]) (rest := [.int (zI a9)]) (k_X11_weightOf l ((t9 : Int)) c9 q9 h_mo h_da h_me h_le h_ru h_st hD hA9 (by omega) hq9 hl9.1 hl9.2.1 hl9.2.2 (by omega)) h_mo rfl gX11_weightWith_X11_weightOf rfl hd_X11_weightOf (by decide) ⟨by decide, by decide⟩ hl.1 rfl (Nat.le_of_ble_eq_true rfl) dX11_weightWith_72 rfl (fun z_72 ws H locs hp h => ?_)
      obtain ⟨e_72, st_72, h_st, hf⟩ := hp
      have h_mo := hf.at h_mo (by first | omega | (dsimp only <;> omega))
      have h_da := hf.at h_da (by first | omega | (dsimp only <;> omega))
      have h_me := hf.at h_me (by first | omega | (dsimp only <;> omega))
      have h_le := hf.at h_le (by first | omega | (dsimp only <;> omega))
      have h_ru := hf.at h_ru (by first | omega | (dsimp only <;> omega))
      have h_fo := hf.at h_fo (by first | omega | (dsimp only <;> omega))
      have h_wn := hf.at h_wn (by first | omega | (dsimp only <;> omega))
      have hE := hE.tr (hf.wk (fun j hj => by first | omega | (dsimp only at hj ⊢ <;> omega)))
      refine r_iadd E dX11_weightWith_75 ?_
      refine r_istore (lv' := [(4, .int (zI (a9 + z_72))), (0, .ref aM), (1, .int (zI x)), (2, .int (zI c9)), (3, .int (zI (da (29 + x)))), (5, .int (zI i))]) E hl dX11_weightWith_76 (by decide) rfl (fun ls hl => ?_)
      refine r_iinc (lv' := [(5, .int (zI (i + 1))), (4, .int (zI (a9 + z_72))), (0, .ref aM), (1, .int (zI x)), (2, .int (zI c9)), (3, .int (zI (da (29 + x))))]) E 5 hl rfl dX11_weightWith_78 (by decide) rfl (fun ls hl => ?_)
      refine r_goto E 33 dX11_weightWith_81 (by decide) ?_
      exact ih_33 _ H locs ls (by omega) ⟨ws, (a9 + z_72), (i + 1), (t9 + 1), st_72, rfl, ⟨by omega, by omega⟩, (by omega), (by rw [e9]; omega), (cntT_le (by omega)), h, h_mo, h_da, h_me, h_le, h_ru, h_fo, h_wn, h_st, hE, lv_sub hl [2, 3, 4, 5, 1, 0] rfl⟩
theorem hd_X11_countAll : yX11_countAll.cls = RX11 ∧ yX11_countAll.cls ≠ "java/lang/invoke/MethodHandle" ∧ yX11_countAll.cls ≠ "java/lang/invoke/VarHandle" ∧ (parseMethodDescriptor yX11_countAll.desc).map (fun d => d.parameters.length) = some 0 := by decide +kernel
theorem fl_X11_countAll_189 : Cond.fieldLink RX11 189 (TX11 19).1 (TX11 19).2.1 (TX11 19).2.2.1 ∈ wsX11_countAll := List.mem_of_getElem? (i := 1) rfl
theorem inn_X11_countAll_11 : ∀ w ∈ wsX110, w ∈ wsX11_countAll := fun _ h => List.mem_cons_of_mem _ (List.mem_append_right _ h)
abbrev rm_X11_countAll : Room := { frames := 2, cells := 0, slots := 0, locals := 44 }
set_option maxHeartbeats 4000000 in
set_option maxRecDepth 100000 in
theorem k_X11_countAll (l : Launch) {G : va_G} {cy : Nat → ClassId} {ws0 : va_W} {b aM : Nat} {I : Nat → Int} {ad : Nat → Nat} {da : Int → Int} {me : Int → Int} {le : Int → Int} {d : Int → Int} {T : List Int} {ru so fo wn : Int → Int} (h_mo : ws0[b]? = some (aM, mO I ad)) (h_da : ws0[b + 2]? = some (ad 8, aI cy 1111 da)) (h_me : ws0[b + 14]? = some (ad 15, aI cy 38400 me)) (h_le : ws0[b + 15]? = some (ad 16, aI cy 6400 le)) (hD : DW d T) (hA : DW da T) (hL : LW d me le ru so fo wn (I 19)) : MI l yX11_countAll wsX11_countAll rm_X11_countAll G cy [.ref aM] ws0 (fun z u => z = cnfA d (cl da) ∧ ws0 = u) := by
  refine MI.of (own := RX11) (cc := cX11_countAll) (nL := 3) (ret := (some .int)) (by decide) rfl rfl (Nat.le_of_ble_eq_true rfl) ?_
  intro p e s m below meth c A ls E h hl
  have hl : lv_has ls 3 [(0, .ref aM)] := hl
  have hlen := KL_len hD
  have hlaid := hL.1
  refine r_iconst E dX11_countAll_0 ?_
  refine r_istore_n (lv' := [(1, .int (zI 0)), (0, .ref aM)]) E hl dX11_countAll_1 rfl (by decide) rfl (fun ls hl => ?_)
  refine r_iconst E dX11_countAll_2 ?_
  refine r_istore_n (lv' := [(2, .int (zI 0)), (1, .int (zI 0)), (0, .ref aM)]) E hl dX11_countAll_3 rfl (by decide) rfl (fun ls hl => ?_)
  refine r_loop (fun n H locs ls => ∃ (a9 : Int) (k : Int), n = (6400 - k).toNat ∧ (0 ≤ k ∧ k ≤ (KL d).length) ∧ (a9 = sumL (fun q => is1 d (cl da) q) ((KL d).take k.toNat)) ∧ Hp G ws0 A s.heap H locs ∧ lv_has ls 3 [(0, .ref aM), (1, .int (zI a9)), (2, .int (zI k))]) _ ⟨0, 0, rfl, (by omega), rfl, h, lv_sub hl [2, 1, 0] rfl⟩ ?_
  rintro n H locs ls ⟨a9, k, hn, i1, i3, h, hl⟩ ih_4
  refine r_iload_n E 2 hl rfl dX11_countAll_4 ?_
  refine r_aload_n E 0 hl rfl dX11_countAll_5 ?_
  refine r_get (v := .int (zI (I 19))) E h h_mo rfl inn_X11_countAll_11 19 (by decide) fl_X11_countAll_189 rfl dX11_countAll_6 ?_
  refine r_icmp_ge E 35 dX11_countAll_9 (by decide) (by omega) (fun c_9 => ?_) (fun c_9 => ?_)
  · skip
    refine r_iload_n E 1 hl rfl dX11_countAll_35 ?_
    exact r_iret E h ⟨by rw [i3]; unfold cnfA; rw [List.take_of_length_le (by omega)], rfl⟩ dX11_countAll_36
  · skip
    obtain ⟨q9, hk9⟩ : ∃ q, (KL d)[Int.toNat k]? = some q := ⟨_, List.getElem?_eq_getElem (by have := hL.1; omega)⟩
    have hq9 := KL_at hD hk9
    have hl9 := hL.2.1 _ q9 hk9
    rw [show (((Int.toNat k) : Nat) : Int) = k by omega] at hl9
    have hcb := cAll_b hD hA hq9
    have e9 := sumL_take (f := fun q => is1 d (cl da) q) hk9
    rw [show k.toNat + 1 = (k + 1).toNat by omega] at e9
    refine r_iload_n E 1 hl rfl dX11_countAll_12 ?_
    refine r_aload_n E 0 hl rfl dX11_countAll_13 ?_
    refine r_iload_n E 2 hl rfl dX11_countAll_14 ?_
    refine r_callVI E h (As := [.int (zI k)]) (rest := [.int (zI a9)]) (k_X11_colourAll l k q9 h_mo h_da h_me h_le hD (DW.c4 hA) (by have := KL_len hD; omega) hq9 hl9.2.1 hl9.2.2) h_mo rfl gX11_countAll_X11_colourAll rfl hd_X11_colourAll (by decide) ⟨by decide, by decide⟩ hl.1 rfl (Nat.le_of_ble_eq_true rfl) dX11_countAll_15 rfl (fun z_15 ws H locs hp h => ?_)
    obtain ⟨rfl, rfl⟩ := hp
    refine r_iconst E dX11_countAll_18 ?_
    refine r_icmp_ne E 26 dX11_countAll_19 (by decide) (by omega) (fun c_19 => ?_) (fun c_19 => ?_)
    · skip
      have e8 : is1 d (cl da) q9 = 1 := if_neg c_19
      refine r_iconst E dX11_countAll_26 ?_
      refine r_iadd E dX11_countAll_27 ?_
      refine r_istore_n (lv' := [(1, .int (zI (a9 + 1))), (0, .ref aM), (2, .int (zI k))]) E hl dX11_countAll_28 rfl (by decide) rfl (fun ls hl => ?_)
      refine r_iinc (lv' := [(2, .int (zI (k + 1))), (1, .int (zI (a9 + 1))), (0, .ref aM)]) E 2 hl rfl dX11_countAll_29 (by decide) rfl (fun ls hl => ?_)
      refine r_goto E 4 dX11_countAll_32 (by decide) ?_
      exact ih_4 _ H locs ls (by omega) ⟨(a9 + 1), (k + 1), rfl, (by omega), (by rw [e9]; omega), h, lv_sub hl [2, 1, 0] rfl⟩
    · skip
      have e8 : is1 d (cl da) q9 = 0 := if_pos c_19
      refine r_iconst E dX11_countAll_22 ?_
      refine r_goto E 27 dX11_countAll_23 (by decide) ?_
      refine r_iadd E dX11_countAll_27 ?_
      refine r_istore_n (lv' := [(1, .int (zI (a9 + 0))), (0, .ref aM), (2, .int (zI k))]) E hl dX11_countAll_28 rfl (by decide) rfl (fun ls hl => ?_)
      refine r_iinc (lv' := [(2, .int (zI (k + 1))), (1, .int (zI (a9 + 0))), (0, .ref aM)]) E 2 hl rfl dX11_countAll_29 (by decide) rfl (fun ls hl => ?_)
      refine r_goto E 4 dX11_countAll_32 (by decide) ?_
      exact ih_4 _ H locs ls (by omega) ⟨(a9 + 0), (k + 1), rfl, (by omega), (by rw [e9]; omega), h, lv_sub hl [2, 1, 0] rfl⟩
theorem hd_X11_weightAll : yX11_weightAll.cls = RX11 ∧ yX11_weightAll.cls ≠ "java/lang/invoke/MethodHandle" ∧ yX11_weightAll.cls ≠ "java/lang/invoke/VarHandle" ∧ (parseMethodDescriptor yX11_weightAll.desc).map (fun d => d.parameters.length) = some 0 := by decide +kernel
theorem fl_X11_weightAll_189 : Cond.fieldLink RX11 189 (TX11 19).1 (TX11 19).2.1 (TX11 19).2.2.1 ∈ wsX11_weightAll := List.mem_of_getElem? (i := 1) rfl
theorem inn_X11_weightAll_11 : ∀ w ∈ wsX110, w ∈ wsX11_weightAll := fun _ h => List.mem_cons_of_mem _ (List.mem_append_right _ h)
abbrev rm_X11_weightAll : Room := { frames := 3, cells := 0, slots := 0, locals := 72 }
set_option maxHeartbeats 4000000 in
set_option maxRecDepth 100000 in
theorem k_X11_weightAll (l : Launch) {G : va_G} {cy : Nat → ClassId} {ws0 : va_W} {b aM : Nat} {I : Nat → Int} {ad : Nat → Nat} {da : Int → Int} {me : Int → Int} {le : Int → Int} {ru : Int → Int} {st : Int → Int64} {d : Int → Int} {T : List Int} {so fo wn : Int → Int} (h_mo : ws0[b]? = some (aM, mO I ad)) (h_da : ws0[b + 2]? = some (ad 8, aI cy 1111 da)) (h_me : ws0[b + 14]? = some (ad 15, aI cy 38400 me)) (h_le : ws0[b + 15]? = some (ad 16, aI cy 6400 le)) (h_ru : ws0[b + 16]? = some (ad 17, aI cy 6400 ru)) (h_st : ws0[b + 20]? = some (ad 22, aL cy 1000 st)) (hD : DW d T) (hA : DW da T) (hL : LW d me le ru so fo wn (I 19)) : MI l yX11_weightAll wsX11_weightAll rm_X11_weightAll G cy [.ref aM] ws0 (fun z u => z = wgtA d T (cl da) ∧ ∃ st2 : Int → Int64, u[b + 20]? = some (ad 22, aL cy 1000 st2) ∧ Eqx ws0 u (fun j => j = b + 20)) := by
  refine MI.of (own := RX11) (cc := cX11_weightAll) (nL := 3) (ret := (some .int)) (by decide) rfl rfl (Nat.le_of_ble_eq_true rfl) ?_
  intro p e s m below meth c A ls E h hl
  have hl : lv_has ls 3 [(0, .ref aM)] := hl
  have hE : Eqx ws0 ws0 (fun j => j = b + 20) := Eqx.rf
  have hlen := KL_len hD
  have hlaid := hL.1
  refine r_iconst E dX11_weightAll_0 ?_
  refine r_istore_n (lv' := [(1, .int (zI 0)), (0, .ref aM)]) E hl dX11_weightAll_1 rfl (by decide) rfl (fun ls hl => ?_)
  refine r_iconst E dX11_weightAll_2 ?_
  refine r_istore_n (lv' := [(2, .int (zI 0)), (1, .int (zI 0)), (0, .ref aM)]) E hl dX11_weightAll_3 rfl (by decide) rfl (fun ls hl => ?_)
  refine r_loop (fun n H locs ls => ∃ (ws : va_W) (a9 : Int) (k : Int) (st3 : Int → Int64), n = (6400 - k).toNat ∧ (0 ≤ k ∧ k ≤ (KL d).length) ∧ (a9 = sumL (fun q => w1 d T (cl da) q) ((KL d).take k.toNat)) ∧ Hp G ws A s.heap H locs ∧ (ws[b]? = some (aM, mO I ad)) ∧ (ws[b + 2]? = some (ad 8, aI cy 1111 da)) ∧ (ws[b + 14]? = some (ad 15, aI cy 38400 me)) ∧ (ws[b + 15]? = some (ad 16, aI cy 6400 le)) ∧ (ws[b + 16]? = some (ad 17, aI cy 6400 ru)) ∧ (ws[b + 20]? = some (ad 22, aL cy 1000 st3)) ∧ Eqx ws0 ws (fun j => j = b + 20) ∧ lv_has ls 3 [(0, .ref aM), (1, .int (zI a9)), (2, .int (zI k))]) _ ⟨ws0, 0, 0, st, rfl, (by omega), rfl, h, h_mo, h_da, h_me, h_le, h_ru, h_st, hE, lv_sub hl [2, 1, 0] rfl⟩ ?_
  rintro n H locs ls ⟨ws, a9, k, st3, hn, i1, i3, h, h_mo, h_da, h_me, h_le, h_ru, h_st, hE, hl⟩ ih_4
  refine r_iload_n E 2 hl rfl dX11_weightAll_4 ?_
  refine r_aload_n E 0 hl rfl dX11_weightAll_5 ?_
  refine r_get (v := .int (zI (I 19))) E h h_mo rfl inn_X11_weightAll_11 19 (by decide) fl_X11_weightAll_189 rfl dX11_weightAll_6 ?_
  refine r_icmp_ge E 40 dX11_weightAll_9 (by decide) (by omega) (fun c_9 => ?_) (fun c_9 => ?_)
  · skip
    refine r_iload_n E 1 hl rfl dX11_weightAll_40 ?_
    exact r_iret E h ⟨by rw [i3]; unfold wgtA; rw [List.take_of_length_le (by omega)], st3, h_st, hE⟩ dX11_weightAll_41
  · skip
    obtain ⟨q9, hk9⟩ : ∃ q, (KL d)[Int.toNat k]? = some q := ⟨_, List.getElem?_eq_getElem (by have := hL.1; omega)⟩
    have hq9 := KL_at hD hk9
    have hl9 := hL.2.1 _ q9 hk9
    rw [show (((Int.toNat k) : Nat) : Int) = k by omega] at hl9
    have hcb := cAll_b hD hA hq9
    have e9 := sumL_take (f := fun q => w1 d T (cl da) q) hk9
    rw [show k.toNat + 1 = (k + 1).toNat by omega] at e9
    refine r_aload_n E 0 hl rfl dX11_weightAll_12 ?_
    refine r_iload_n E 2 hl rfl dX11_weightAll_13 ?_
    refine r_callVI E h (As := [.int (zI k)]) (rest := []) (k_X11_colourAll l k q9 h_mo h_da h_me h_le hD (DW.c4 hA) (by have := KL_len hD; omega) hq9 hl9.2.1 hl9.2.2) h_mo rfl gX11_weightAll_X11_colourAll rfl hd_X11_colourAll (by decide) ⟨by decide, by decide⟩ hl.1 rfl (Nat.le_of_ble_eq_true rfl) dX11_weightAll_14 rfl (fun z_14 ws H locs hp h => ?_)
    obtain ⟨rfl, rfl⟩ := hp
    refine r_iconst E dX11_weightAll_17 ?_
    refine r_icmp_eq E 34 dX11_weightAll_18 (by decide) (by omega) (fun c_18 => ?_) (fun c_18 => ?_)
    · skip
      have e8 : w1 d T (cl da) q9 = 0 := if_pos c_18
      refine r_iinc (lv' := [(2, .int (zI (k + 1))), (0, .ref aM), (1, .int (zI a9))]) E 2 hl rfl dX11_weightAll_34 (by decide) rfl (fun ls hl => ?_)
      refine r_goto E 4 dX11_weightAll_37 (by decide) ?_
      exact ih_4 _ H locs ls (by omega) ⟨ws, a9, (k + 1), st3, rfl, (by omega), (by rw [e9]; omega), h, h_mo, h_da, h_me, h_le, h_ru, h_st, hE, lv_sub hl [1, 2, 0] rfl⟩
    · skip
      have e8 : w1 d T (cl da) q9 = wK d T q9 (cAll d (cl da) q9) := if_neg c_18
      refine r_iload_n E 1 hl rfl dX11_weightAll_21 ?_
      refine r_aload_n E 0 hl rfl dX11_weightAll_22 ?_
      refine r_iload_n E 2 hl rfl dX11_weightAll_23 ?_
      refine r_aload_n E 0 hl rfl dX11_weightAll_24 ?_
      refine r_iload_n E 2 hl rfl dX11_weightAll_25 ?_
      refine r_callVI E h (As := [.int (zI k)]) (rest := [.int (zI k), .ref aM, .int (zI a9)]) (k_X11_colourAll l k q9 h_mo h_da h_me h_le hD (DW.c4 hA) (by have := KL_len hD; omega) hq9 hl9.2.1 hl9.2.2) h_mo rfl gX11_weightAll_X11_colourAll rfl hd_X11_colourAll (by decide) ⟨by decide, by decide⟩ hl.1 rfl (Nat.le_of_ble_eq_true rfl) dX11_weightAll_26 rfl (fun z_26 ws H locs hp h => ?_)
      obtain ⟨rfl, rfl⟩ := hp
      refine r_callVI E h (As := [.int (zI k), .int (zI (cAll d (cl da) q9))]) (rest := [.int (zI a9)]) (k_X11_weightOf l k (cAll d (cl da) q9) q9 h_mo h_da h_me h_le h_ru h_st hD hA (by omega) hq9 hl9.1 hl9.2.1 hl9.2.2 (by omega)) h_mo rfl gX11_weightAll_X11_weightOf rfl hd_X11_weightOf (by decide) ⟨by decide, by decide⟩ hl.1 rfl (Nat.le_of_ble_eq_true rfl) dX11_weightAll_29 rfl (fun z_29 ws H locs hp h => ?_)
      obtain ⟨e_29, st_29, h_st, hf⟩ := hp
      have h_mo := hf.at h_mo (by first | omega | (dsimp only <;> omega))
      have h_da := hf.at h_da (by first | omega | (dsimp only <;> omega))
      have h_me := hf.at h_me (by first | omega | (dsimp only <;> omega))
      have h_le := hf.at h_le (by first | omega | (dsimp only <;> omega))
      have h_ru := hf.at h_ru (by first | omega | (dsimp only <;> omega))
      have hE := hE.tr (hf.wk (fun j hj => by first | omega | (dsimp only at hj ⊢ <;> omega)))
      refine r_iadd E dX11_weightAll_32 ?_
      refine r_istore_n (lv' := [(1, .int (zI (a9 + z_29))), (0, .ref aM), (2, .int (zI k))]) E hl dX11_weightAll_33 rfl (by decide) rfl (fun ls hl => ?_)
      refine r_iinc (lv' := [(2, .int (zI (k + 1))), (1, .int (zI (a9 + z_29))), (0, .ref aM)]) E 2 hl rfl dX11_weightAll_34 (by decide) rfl (fun ls hl => ?_)
      refine r_goto E 4 dX11_weightAll_37 (by decide) ?_
      exact ih_4 _ H locs ls (by omega) ⟨ws, (a9 + z_29), (k + 1), st_29, rfl, (by omega), (by rw [e9]; omega), h, h_mo, h_da, h_me, h_le, h_ru, h_st, hE, lv_sub hl [2, 1, 0] rfl⟩
theorem hd_X11_noNumber : yX11_noNumber.cls = RX11 ∧ yX11_noNumber.cls ≠ "java/lang/invoke/MethodHandle" ∧ yX11_noNumber.cls ≠ "java/lang/invoke/VarHandle" ∧ (parseMethodDescriptor yX11_noNumber.desc).map (fun d => d.parameters.length) = some 1 := by decide +kernel
theorem fl_X11_noNumber_17 : Cond.fieldLink RX11 17 (TX11 8).1 (TX11 8).2.1 (TX11 8).2.2.1 ∈ wsX11_noNumber := List.mem_of_getElem? (i := 1) rfl
theorem inn_X11_noNumber_11 : ∀ w ∈ wsX110, w ∈ wsX11_noNumber := fun _ h => List.mem_cons_of_mem _ (List.mem_append_right _ h)
abbrev rm_X11_noNumber : Room := { frames := 1, cells := 0, slots := 0, locals := 22 }
set_option maxHeartbeats 4000000 in
set_option maxRecDepth 100000 in
theorem k_X11_noNumber (l : Launch) {G : va_G} {cy : Nat → ClassId} {ws0 : va_W} {b aM : Nat} {I : Nat → Int} {ad : Nat → Nat} {da : Int → Int} (x : Int) (h_mo : ws0[b]? = some (aM, mO I ad)) (h_da : ws0[b + 2]? = some (ad 8, aI cy 1111 da)) (hx : (-2147483648 ≤ x ∧ x ≤ 2147483647)) (hn0 : 0 ≤ da 0 ∧ da 0 ≤ 40) (hI : I 0 = 0) : MI l yX11_noNumber wsX11_noNumber rm_X11_noNumber G cy [.ref aM, .int (zI x)] ws0 (fun z u => ∃ t : Int, ((1 ≤ x ∧ x ≤ da 0) ∧ z = 0 ∧ t = 0 ∨ (x < 1 ∨ da 0 < x) ∧ z = 1 ∧ t = 1) ∧ u[b]? = some (aM, mO (va_up I 0 t) ad) ∧ Eqx ws0 u (fun j => j = b)) := by
  refine MI.of (own := RX11) (cc := cX11_noNumber) (nL := 2) (ret := (some .boolean)) (by decide) rfl rfl (Nat.le_of_ble_eq_true rfl) ?_
  intro p e s m below meth c A ls E h hl
  have hl : lv_has ls 2 [(0, .ref aM), (1, .int (zI x))] := hl
  have hE : Eqx ws0 ws0 (fun j => j = b) := Eqx.rf
  refine r_aload_n E 0 hl rfl dX11_noNumber_0 ?_
  refine r_iload_n E 1 hl rfl dX11_noNumber_1 ?_
  refine r_iconst E dX11_noNumber_2 ?_
  refine r_aload_n E 0 hl rfl dX11_noNumber_3 ?_
  refine r_get (v := .ref (ad 8)) E h h_mo rfl inn_X11_noNumber_11 8 (by decide) fl_X11_noNumber_17 rfl dX11_noNumber_4 ?_
  refine r_iconst E dX11_noNumber_7 ?_
  refine r_iald E h h_da (by omega) (by decide) dX11_noNumber_8 ?_
  refine r_callSI E h (As := [.int (zI x), .int (zI 1), .int (zI (da 0))]) (rest := [.ref aM]) (k_X11_in l x 1 (da 0) (by omega)) gX11_noNumber_X11_in rfl hd_X11_in (by decide) ⟨by decide, by decide⟩ hl.1 rfl (Nat.le_of_ble_eq_true rfl) dX11_noNumber_9 rfl (fun z_9 ws H locs hp h => ?_)
  obtain ⟨e_z_9, rfl⟩ := hp
  refine r_if_ne E 19 dX11_noNumber_12 (by decide) (by omega) (fun c_12 => ?_) (fun c_12 => ?_)
  · skip
    refine r_iconst E dX11_noNumber_19 ?_
    refine r_iconst E dX11_noNumber_20 ?_
    refine r_callVI E h (As := [.int (zI 0), .int (zI 1)]) (rest := []) (k_X11_fails l 0 1 h_mo (by omega) (by omega) hI) h_mo rfl gX11_noNumber_X11_fails rfl hd_X11_fails (by decide) ⟨by decide, by decide⟩ hl.1 rfl (Nat.le_of_ble_eq_true rfl) dX11_noNumber_21 rfl (fun z_21 ws H locs hp h => ?_)
    obtain ⟨t_21, e_21, h_mo, hf⟩ := hp
    have h_da := hf.at h_da (by first | omega | (dsimp only <;> omega))
    have hE := hE.tr (hf.wk (fun j hj => by first | omega | (dsimp only at hj ⊢ <;> omega)))
    exact r_zret E h (by omega) ⟨t_21, by omega, h_mo, hE⟩ dX11_noNumber_24
  · skip
    refine r_iconst E dX11_noNumber_15 ?_
    refine r_goto E 20 dX11_noNumber_16 (by decide) ?_
    refine r_iconst E dX11_noNumber_20 ?_
    refine r_callVI E h (As := [.int (zI 1), .int (zI 1)]) (rest := []) (k_X11_fails l 1 1 h_mo (by omega) (by omega) hI) h_mo rfl gX11_noNumber_X11_fails rfl hd_X11_fails (by decide) ⟨by decide, by decide⟩ hl.1 rfl (Nat.le_of_ble_eq_true rfl) dX11_noNumber_21 rfl (fun z_21 ws H locs hp h => ?_)
    obtain ⟨t_21, e_21, h_mo, hf⟩ := hp
    have h_da := hf.at h_da (by first | omega | (dsimp only <;> omega))
    have hE := hE.tr (hf.wk (fun j hj => by first | omega | (dsimp only at hj ⊢ <;> omega)))
    exact r_zret E h (by omega) ⟨t_21, by omega, h_mo, hE⟩ dX11_noNumber_24
theorem hd_X11_noColour : yX11_noColour.cls = RX11 ∧ yX11_noColour.cls ≠ "java/lang/invoke/MethodHandle" ∧ yX11_noColour.cls ≠ "java/lang/invoke/VarHandle" ∧ (parseMethodDescriptor yX11_noColour.desc).map (fun d => d.parameters.length) = some 2 := by decide +kernel
theorem fl_X11_noColour_17 : Cond.fieldLink RX11 17 (TX11 8).1 (TX11 8).2.1 (TX11 8).2.2.1 ∈ wsX11_noColour := List.mem_of_getElem? (i := 1) rfl
theorem inn_X11_noColour_11 : ∀ w ∈ wsX110, w ∈ wsX11_noColour := fun _ h => List.mem_cons_of_mem _ (List.mem_append_right _ h)
abbrev rm_X11_noColour : Room := { frames := 1, cells := 0, slots := 0, locals := 22 }
set_option maxHeartbeats 4000000 in
set_option maxRecDepth 100000 in
theorem k_X11_noColour (l : Launch) {G : va_G} {cy : Nat → ClassId} {ws0 : va_W} {b aM : Nat} {I : Nat → Int} {ad : Nat → Nat} {da : Int → Int} (c9 lo : Int) (h_mo : ws0[b]? = some (aM, mO I ad)) (h_da : ws0[b + 2]? = some (ad 8, aI cy 1111 da)) (hx : (-2147483648 ≤ c9 ∧ c9 ≤ 2147483647) ∧ (-2147483648 ≤ lo ∧ lo ≤ 2147483647)) (hn0 : 0 ≤ da 1 ∧ da 1 ≤ 4) (hI : I 0 = 0) : MI l yX11_noColour wsX11_noColour rm_X11_noColour G cy [.ref aM, .int (zI c9), .int (zI lo)] ws0 (fun z u => ∃ t : Int, ((lo ≤ c9 ∧ c9 < da 1) ∧ z = 0 ∧ t = 0 ∨ (c9 < lo ∨ da 1 ≤ c9) ∧ z = 1 ∧ t = 1) ∧ u[b]? = some (aM, mO (va_up I 0 t) ad) ∧ Eqx ws0 u (fun j => j = b)) := by
  refine MI.of (own := RX11) (cc := cX11_noColour) (nL := 3) (ret := (some .boolean)) (by decide) rfl rfl (Nat.le_of_ble_eq_true rfl) ?_
  intro p e s m below meth c A ls E h hl
  have hl : lv_has ls 3 [(0, .ref aM), (1, .int (zI c9)), (2, .int (zI lo))] := hl
  have hE : Eqx ws0 ws0 (fun j => j = b) := Eqx.rf
  refine r_aload_n E 0 hl rfl dX11_noColour_0 ?_
  refine r_iload_n E 1 hl rfl dX11_noColour_1 ?_
  refine r_iload_n E 2 hl rfl dX11_noColour_2 ?_
  refine r_aload_n E 0 hl rfl dX11_noColour_3 ?_
  refine r_get (v := .ref (ad 8)) E h h_mo rfl inn_X11_noColour_11 8 (by decide) fl_X11_noColour_17 rfl dX11_noColour_4 ?_
  refine r_iconst E dX11_noColour_7 ?_
  refine r_iald E h h_da (by omega) (by decide) dX11_noColour_8 ?_
  refine r_iconst E dX11_noColour_9 ?_
  refine r_isub E dX11_noColour_10 ?_
  refine r_callSI E h (As := [.int (zI c9), .int (zI lo), .int (zI ((da 1) - 1))]) (rest := [.ref aM]) (k_X11_in l c9 lo ((da 1) - 1) (by omega)) gX11_noColour_X11_in rfl hd_X11_in (by decide) ⟨by decide, by decide⟩ hl.1 rfl (Nat.le_of_ble_eq_true rfl) dX11_noColour_11 rfl (fun z_11 ws H locs hp h => ?_)
  obtain ⟨e_z_11, rfl⟩ := hp
  refine r_if_ne E 21 dX11_noColour_14 (by decide) (by omega) (fun c_14 => ?_) (fun c_14 => ?_)
  · skip
    refine r_iconst E dX11_noColour_21 ?_
    refine r_iconst E dX11_noColour_22 ?_
    refine r_callVI E h (As := [.int (zI 0), .int (zI 1)]) (rest := []) (k_X11_fails l 0 1 h_mo (by omega) (by omega) hI) h_mo rfl gX11_noColour_X11_fails rfl hd_X11_fails (by decide) ⟨by decide, by decide⟩ hl.1 rfl (Nat.le_of_ble_eq_true rfl) dX11_noColour_23 rfl (fun z_23 ws H locs hp h => ?_)
    obtain ⟨t_23, e_23, h_mo, hf⟩ := hp
    have h_da := hf.at h_da (by first | omega | (dsimp only <;> omega))
    have hE := hE.tr (hf.wk (fun j hj => by first | omega | (dsimp only at hj ⊢ <;> omega)))
    exact r_zret E h (by omega) ⟨t_23, by omega, h_mo, hE⟩ dX11_noColour_26
  · skip
    refine r_iconst E dX11_noColour_17 ?_
    refine r_goto E 22 dX11_noColour_18 (by decide) ?_
    refine r_iconst E dX11_noColour_22 ?_
    refine r_callVI E h (As := [.int (zI 1), .int (zI 1)]) (rest := []) (k_X11_fails l 1 1 h_mo (by omega) (by omega) hI) h_mo rfl gX11_noColour_X11_fails rfl hd_X11_fails (by decide) ⟨by decide, by decide⟩ hl.1 rfl (Nat.le_of_ble_eq_true rfl) dX11_noColour_23 rfl (fun z_23 ws H locs hp h => ?_)
    obtain ⟨t_23, e_23, h_mo, hf⟩ := hp
    have h_da := hf.at h_da (by first | omega | (dsimp only <;> omega))
    have hE := hE.tr (hf.wk (fun j hj => by first | omega | (dsimp only at hj ⊢ <;> omega)))
    exact r_zret E h (by omega) ⟨t_23, by omega, h_mo, hE⟩ dX11_noColour_26
