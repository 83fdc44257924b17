theorem lt_of_get {α : Type} {l : List α} {i : Nat} {a : α} (h : l[i]? = some a) : i < l.length := (List.getElem?_eq_some_iff.mp h).1
theorem hd_X11_isAllowed : yX11_isAllowed.cls = RX11 ∧ yX11_isAllowed.cls ≠ "java/lang/invoke/MethodHandle" ∧ yX11_isAllowed.cls ≠ "java/lang/invoke/VarHandle" ∧ (parseMethodDescriptor yX11_isAllowed.desc).map (fun d => d.parameters.length) = some 2 := by decide +kernel
theorem fl_X11_isAllowed_17 : Cond.fieldLink RX11 17 (TX11 8).1 (TX11 8).2.1 (TX11 8).2.2.1 ∈ wsX11_isAllowed := List.mem_of_getElem? (i := 1) rfl
theorem inn_X11_isAllowed_11 : ∀ w ∈ wsX110, w ∈ wsX11_isAllowed := fun _ h => List.mem_cons_of_mem _ (List.mem_append_right _ h)
theorem fl_X11_isAllowed_44 : Cond.fieldLink RX11 44 (TX11 20).1 (TX11 20).2.1 (TX11 20).2.2.1 ∈ wsX11_isAllowed := List.mem_of_getElem? (i := 2) rfl
theorem fl_X11_isAllowed_47 : Cond.fieldLink RX11 47 (TX11 21).1 (TX11 21).2.1 (TX11 21).2.2.1 ∈ wsX11_isAllowed := List.mem_of_getElem? (i := 3) rfl
abbrev rm_X11_isAllowed : Room := { frames := 2, cells := 0, slots := 0, locals := 44 }
set_option maxHeartbeats 4000000 in
set_option maxRecDepth 100000 in
theorem k_X11_isAllowed (l : Launch) {G : va_G} {cy : Nat → ClassId} {ws0 : va_W} {b aM : Nat} {I : Nat → Int} {ad : Nat → Nat} {da : Int → Int} {me : Int → Int} {le : Int → Int} {fo : Int → Int} {wn : Int → Int} {d : Int → Int} {T : List Int} {ru so : Int → Int} (x c9 : Int) (h_mo : ws0[b]? = some (aM, mO I ad)) (h_da : ws0[b + 2]? = some (ad 8, aI cy 1111 da)) (h_me : ws0[b + 14]? = some (ad 15, aI cy 38400 me)) (h_le : ws0[b + 15]? = some (ad 16, aI cy 6400 le)) (h_fo : ws0[b + 18]? = some (ad 20, aI cy 42 fo)) (h_wn : ws0[b + 19]? = some (ad 21, aI cy 38400 wn)) (hD : DW d T) (hA : DW da T) (hL : LW d me le ru so fo wn (I 19)) (hx : 1 ≤ x ∧ x ≤ d 0) (hc9 : 0 ≤ c9 ∧ c9 < da 1) : MI l yX11_isAllowed wsX11_isAllowed rm_X11_isAllowed G cy [.ref aM, .int (zI x), .int (zI c9)] ws0 (fun z u => (z = 1 ∧ alw d (cl da) x c9 = true ∨ z = 0 ∧ alw d (cl da) x c9 = false) ∧ ws0 = u) := by
  refine MI.of (own := RX11) (cc := cX11_isAllowed) (nL := 6) (ret := (some .boolean)) (by decide) rfl rfl (Nat.le_of_ble_eq_true rfl) ?_
  intro p e s m below meth c A ls E h hl
  have hl : lv_has ls 6 [(0, .ref aM), (1, .int (zI x)), (2, .int (zI c9))] := hl
  have hn9 := hD.n
  have hk9 := hA.k
  have hfb := fb_le hD (x + 1)
  have hfb0 := fb_nonneg (d := d) (x := x)
  have hrk0 := fb_s (d := d) (x := x) (by omega)
  have hcol := hA.col (x := x) (by omega) (by omega)
  have h_da0 := h_da
  have h_mo0 := h_mo
  have hlen := KL_len hD
  have hrkn : 0 ≤ rk d x (KL d).length := cntT_nonneg
  have hA9 := hA.setcol (x := x) (v := c9 + 1) (by omega) (by omega)
  have hnn : ∀ q : Ky, q ∈ KL d → 0 ≤ (if has d q x = true then is1 d (cl (uZ da (29 + x) (c9 + 1))) q else 0) := fun q _ => by
    by_cases a : has d q x = true
    · rw [if_pos a]; exact is1_rng.1
    · rw [if_neg a]; exact Int.le_refl _
  refine r_aload_n E 0 hl rfl dX11_isAllowed_0 ?_
  refine r_get (v := .ref (ad 8)) E h h_mo rfl inn_X11_isAllowed_11 8 (by decide) fl_X11_isAllowed_17 rfl dX11_isAllowed_1 ?_
  refine r_bipush E dX11_isAllowed_4 (by decide) ?_
  refine r_iload_n E 1 hl rfl dX11_isAllowed_6 ?_
  refine r_iadd E dX11_isAllowed_7 ?_
  refine r_iald E h h_da (by omega) (by decide) dX11_isAllowed_8 ?_
  refine r_istore_n (lv' := [(3, .int (zI (da (29 + x)))), (0, .ref aM), (1, .int (zI x)), (2, .int (zI c9))]) E hl dX11_isAllowed_9 rfl (by decide) rfl (fun ls hl => ?_)
  refine r_aload_n E 1 hl rfl dX11_isAllowed_10 ?_
  refine r_get (v := .ref (ad 8)) E h h_mo rfl inn_X11_isAllowed_11 8 (by decide) fl_X11_isAllowed_17 rfl dX11_isAllowed_11 ?_
  refine r_bipush E dX11_isAllowed_14 (by decide) ?_
  refine r_iload_n E 2 hl rfl dX11_isAllowed_16 ?_
  refine r_iadd E dX11_isAllowed_17 ?_
  refine r_iload_n E 3 hl rfl dX11_isAllowed_18 ?_
  refine r_iconst E dX11_isAllowed_19 ?_
  refine r_iadd E dX11_isAllowed_20 ?_
  refine r_iast E h h_da (by omega) (by decide) dX11_isAllowed_21 (fun ws H locs h hu => ?_)
  have h_mo := hu.keep h_mo (by omega)
  have h_da : ws[b + 2]? = some (ad 8, aI cy 1111 (uZ da (29 + x) (c9 + 1))) := hu.1
  have h_me := hu.keep h_me (by omega)
  have h_le := hu.keep h_le (by omega)
  have h_fo := hu.keep h_fo (by omega)
  have h_wn := hu.keep h_wn (by omega)
  have hu0 := hu
  refine r_iconst E dX11_isAllowed_22 ?_
  refine r_istore (lv' := [(4, .int (zI 1)), (3, .int (zI (da (29 + x)))), (0, .ref aM), (1, .int (zI x)), (2, .int (zI c9))]) E hl dX11_isAllowed_23 (by decide) rfl (fun ls hl => ?_)
  refine r_aload_n E 2 hl rfl dX11_isAllowed_25 ?_
  refine r_get (v := .ref (ad 20)) E h h_mo rfl inn_X11_isAllowed_11 20 (by decide) fl_X11_isAllowed_44 rfl dX11_isAllowed_26 ?_
  refine r_iload_n E 3 hl rfl dX11_isAllowed_29 ?_
  refine r_iald E h h_fo (by omega) (by decide) dX11_isAllowed_30 ?_
  rw [show fo x = fb d x from (hL.2.2.2.1 x (by omega) (by omega))]
  refine r_istore (lv' := [(5, .int (zI (fb d x))), (4, .int (zI 1)), (3, .int (zI (da (29 + x)))), (0, .ref aM), (1, .int (zI x)), (2, .int (zI c9))]) E hl dX11_isAllowed_31 (by decide) rfl (fun ls hl => ?_)
  refine r_loop (fun n H locs ls => ∃ (f : Int) (i : Int) (s9 : Nat), n = (20000 - i).toNat ∧ (s9 ≤ (KL d).length ∧ 0 ≤ i) ∧ (i = fb d x + rk d x s9) ∧ (f = 1 ∧ sumL (fun q => if has d q x = true then is1 d (cl (uZ da (29 + x) (c9 + 1))) q else 0) ((KL d).take s9) = 0 ∨ f = 0 ∧ 0 < sumL (fun q => if has d q x = true then is1 d (cl (uZ da (29 + x) (c9 + 1))) q else 0) ((KL d).take s9)) ∧ (rk d x s9 ≤ rk d x (KL d).length) ∧ Hp G ws A s.heap H locs ∧ lv_has ls 6 [(0, .ref aM), (1, .int (zI x)), (2, .int (zI c9)), (3, .int (zI (da (29 + x)))), (4, .int (zI f)), (5, .int (zI i))]) _ ⟨1, (fb d x), 0, rfl, ⟨Nat.zero_le _, by omega⟩, (by show fb d x = fb d x + cntT _ _ 0; rw [cntT_0]; omega), (Or.inl ⟨rfl, rfl⟩), (cntT_le (Nat.zero_le _)), h, lv_sub hl [3, 4, 5, 2, 1, 0] rfl⟩ ?_
  rintro n H locs ls ⟨f, i, s9, hn, i1, i2, i3, i4, h, hl⟩ ih_33
  refine r_iload E 5 hl rfl dX11_isAllowed_33 ?_
  refine r_aload_n E 0 hl rfl dX11_isAllowed_35 ?_
  refine r_get (v := .ref (ad 20)) E h h_mo rfl inn_X11_isAllowed_11 20 (by decide) fl_X11_isAllowed_44 rfl dX11_isAllowed_36 ?_
  refine r_iload_n E 1 hl rfl dX11_isAllowed_39 ?_
  refine r_iconst E dX11_isAllowed_40 ?_
  refine r_iadd E dX11_isAllowed_41 ?_
  refine r_iald E h h_fo (by omega) (by decide) dX11_isAllowed_42 ?_
  rw [show fo (x + 1) = fb d x + rk d x (KL d).length from (by rw [hL.2.2.2.1 (x + 1) (by omega) (by omega), fb_s (by omega)])]
  refine r_icmp_ge E 79 dX11_isAllowed_43 (by decide) (by omega) (fun c_43 => ?_) (fun c_43 => ?_)
  · skip
    have hmo := sumT_le (s := s9) hnn
    refine r_aload_n E 0 hl rfl dX11_isAllowed_79 ?_
    refine r_get (v := .ref (ad 8)) E h h_mo rfl inn_X11_isAllowed_11 8 (by decide) fl_X11_isAllowed_17 rfl dX11_isAllowed_80 ?_
    refine r_bipush E dX11_isAllowed_83 (by decide) ?_
    refine r_iload_n E 1 hl rfl dX11_isAllowed_85 ?_
    refine r_iadd E dX11_isAllowed_86 ?_
    refine r_iload_n E 3 hl rfl dX11_isAllowed_87 ?_
    refine r_iast E h h_da (by omega) (by decide) dX11_isAllowed_88 (fun ws H locs h hu => ?_)
    have h_mo := hu.keep h_mo (by omega)
    have h_da : ws[b + 2]? = some (ad 8, aI cy 1111 (uZ (uZ da (29 + x) (c9 + 1)) (29 + x) (da (29 + x)))) := hu.1
    have h_me := hu.keep h_me (by omega)
    have h_le := hu.keep h_le (by omega)
    have h_fo := hu.keep h_fo (by omega)
    have h_wn := hu.keep h_wn (by omega)
    rw [uZ_back] at hu
    obtain rfl := hu0.back hu h_da0
    have h_mo := h_mo0
    skip
    refine r_iload E 4 hl rfl dX11_isAllowed_89 ?_
    exact r_zret E h (by omega) ⟨by
  unfold alw cnfX
  rw [← cl_set]
  rcases i3 with ⟨f1, f2⟩ | ⟨f1, f2⟩
  · first | (exfalso; omega) | (refine Or.inl ⟨f1, decide_eq_true ?_⟩; rw [← cnt_end (P := fun q => has d q x) (l := KL d) ((KL d).length - s9) s9 (by omega) (by show rk d x s9 = rk d x _; omega) (fun q => is1 d (cl (uZ da (29 + x) (c9 + 1))) q)]; exact f2)
  · exact Or.inr ⟨f1, decide_eq_false (by omega)⟩, rfl⟩ dX11_isAllowed_91
  · skip
    refine r_iload E 4 hl rfl dX11_isAllowed_46 ?_
    refine r_if_eq E 79 dX11_isAllowed_48 (by decide) (by omega) (fun c_48 => ?_) (fun c_48 => ?_)
    · skip
      have hmo := sumT_le (s := s9) hnn
      refine r_aload_n E 0 hl rfl dX11_isAllowed_79 ?_
      refine r_get (v := .ref (ad 8)) E h h_mo rfl inn_X11_isAllowed_11 8 (by decide) fl_X11_isAllowed_17 rfl dX11_isAllowed_80 ?_
      refine r_bipush E dX11_isAllowed_83 (by decide) ?_
      refine r_iload_n E 1 hl rfl dX11_isAllowed_85 ?_
      refine r_iadd E dX11_isAllowed_86 ?_
      refine r_iload_n E 3 hl rfl dX11_isAllowed_87 ?_
      refine r_iast E h h_da (by omega) (by decide) dX11_isAllowed_88 (fun ws H locs h hu => ?_)
      have h_mo := hu.keep h_mo (by omega)
      have h_da : ws[b + 2]? = some (ad 8, aI cy 1111 (uZ (uZ da (29 + x) (c9 + 1)) (29 + x) (da (29 + x)))) := hu.1
      have h_me := hu.keep h_me (by omega)
      have h_le := hu.keep h_le (by omega)
      have h_fo := hu.keep h_fo (by omega)
      have h_wn := hu.keep h_wn (by omega)
      rw [uZ_back] at hu
      obtain rfl := hu0.back hu h_da0
      have h_mo := h_mo0
      skip
      refine r_iload E 4 hl rfl dX11_isAllowed_89 ?_
      exact r_zret E h (by omega) ⟨by
  unfold alw cnfX
  rw [← cl_set]
  rcases i3 with ⟨f1, f2⟩ | ⟨f1, f2⟩
  · first | (exfalso; omega) | (refine Or.inl ⟨f1, decide_eq_true ?_⟩; rw [← cnt_end (P := fun q => has d q x) (l := KL d) ((KL d).length - s9) s9 (by omega) (by show rk d x s9 = rk d x _; omega) (fun q => is1 d (cl (uZ da (29 + x) (c9 + 1))) q)]; exact f2)
  · exact Or.inr ⟨f1, decide_eq_false (by omega)⟩, rfl⟩ dX11_isAllowed_91
    · skip
      obtain ⟨t9, q9, b1, b2, b3, b4, b5⟩ := cnt_next (P := fun q => has d q x) (l := KL d) ((KL d).length - s9) s9 (by omega) (by show rk d x s9 < rk d x _; omega)
      have b6 : rk d x t9 = rk d x s9 := b4
      have hq9 := KL_at hD b2
      have hl9 := hL.2.1 _ q9 b2
      have ht9 := lt_of_get b2
      have b7 := cntT_s (P := fun q => has d q x) b2
      rw [if_pos b3] at b7
      have b8 : rk d x (t9 + 1) = rk d x t9 + 1 := b7
      have b9 := hL.2.2.2.2 x t9 q9 (by omega) (by omega) b2 b3
      have hcb := cAll_b hD hA9 hq9
      have e9 := sumL_take (f := fun q => if has d q x = true then is1 d (cl (uZ da (29 + x) (c9 + 1))) q else 0) b2
      rw [b5 (fun q => is1 d (cl (uZ da (29 + x) (c9 + 1))) q), if_pos b3] at e9
      have hi1 := is1_rng (d := d) (e := cl (uZ da (29 + x) (c9 + 1))) (q := q9)
      refine r_aload_n E 0 hl rfl dX11_isAllowed_51 ?_
      refine r_aload_n E 0 hl rfl dX11_isAllowed_52 ?_
      refine r_get (v := .ref (ad 21)) E h h_mo rfl inn_X11_isAllowed_11 21 (by decide) fl_X11_isAllowed_47 rfl dX11_isAllowed_53 ?_
      refine r_iload E 5 hl rfl dX11_isAllowed_56 ?_
      refine r_iald E h h_wn (by omega) (by decide) dX11_isAllowed_58 ?_
      rw [show wn i = (t9 : Int) from (by rw [i2, ← b6]; exact b9)]
      refine r_callVI E h (As := [.int (zI ((t9 : Int)))]) (rest := []) (k_X11_colourAll l ((t9 : Int)) q9 h_mo h_da h_me h_le hD (DW.c4 hA9) (by omega) hq9 hl9.2.1 hl9.2.2) h_mo rfl gX11_isAllowed_X11_colourAll rfl hd_X11_colourAll (by decide) ⟨by decide, by decide⟩ hl.1 rfl (Nat.le_of_ble_eq_true rfl) dX11_isAllowed_59 rfl (fun z_59 ws H locs hp h => ?_)
      obtain ⟨rfl, rfl⟩ := hp
      refine r_iconst E dX11_isAllowed_62 ?_
      refine r_icmp_ne E 70 dX11_isAllowed_63 (by decide) (by omega) (fun c_63 => ?_) (fun c_63 => ?_)
      · skip
        have e8 : is1 d (cl (uZ da (29 + x) (c9 + 1))) q9 = 1 := if_neg c_63
        refine r_iconst E dX11_isAllowed_70 ?_
        refine r_istore (lv' := [(4, .int (zI 0)), (0, .ref aM), (1, .int (zI x)), (2, .int (zI c9)), (3, .int (zI (da (29 + x)))), (5, .int (zI i))]) E hl dX11_isAllowed_71 (by decide) rfl (fun ls hl => ?_)
        refine r_iinc (lv' := [(5, .int (zI (i + 1))), (4, .int (zI 0)), (0, .ref aM), (1, .int (zI x)), (2, .int (zI c9)), (3, .int (zI (da (29 + x))))]) E 5 hl rfl dX11_isAllowed_73 (by decide) rfl (fun ls hl => ?_)
        refine r_goto E 33 dX11_isAllowed_76 (by decide) ?_
        exact ih_33 _ H locs ls (by omega) ⟨0, (i + 1), (t9 + 1), rfl, ⟨by omega, by omega⟩, (by omega), (by rw [e9]; omega), (cntT_le (by omega)), h, lv_sub hl [2, 3, 4, 5, 1, 0] rfl⟩
      · skip
        have e8 : is1 d (cl (uZ da (29 + x) (c9 + 1))) q9 = 0 := if_pos c_63
        refine r_iconst E dX11_isAllowed_66 ?_
        refine r_goto E 71 dX11_isAllowed_67 (by decide) ?_
        refine r_istore (lv' := [(4, .int (zI 1)), (0, .ref aM), (1, .int (zI x)), (2, .int (zI c9)), (3, .int (zI (da (29 + x)))), (5, .int (zI i))]) E hl dX11_isAllowed_71 (by decide) rfl (fun ls hl => ?_)
        refine r_iinc (lv' := [(5, .int (zI (i + 1))), (4, .int (zI 1)), (0, .ref aM), (1, .int (zI x)), (2, .int (zI c9)), (3, .int (zI (da (29 + x))))]) E 5 hl rfl dX11_isAllowed_73 (by decide) rfl (fun ls hl => ?_)
        refine r_goto E 33 dX11_isAllowed_76 (by decide) ?_
        exact ih_33 _ H locs ls (by omega) ⟨1, (i + 1), (t9 + 1), rfl, ⟨by omega, by omega⟩, (by omega), (by rw [e9]; omega), (cntT_le (by omega)), h, lv_sub hl [2, 3, 4, 5, 1, 0] rfl⟩
