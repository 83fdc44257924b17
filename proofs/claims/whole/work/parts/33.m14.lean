theorem hd_X11_append : yX11_append.cls = RX11 ∧ yX11_append.cls ≠ "java/lang/invoke/MethodHandle" ∧ yX11_append.cls ≠ "java/lang/invoke/VarHandle" ∧ (parseMethodDescriptor yX11_append.desc).map (fun d => d.parameters.length) = some 5 := by decide +kernel
theorem fl_X11_append_57 : Cond.fieldLink RX11 57 (TX11 0).1 (TX11 0).2.1 (TX11 0).2.2.1 ∈ wsX11_append := List.mem_of_getElem? (i := 1) rfl
theorem inn_X11_append_11 : ∀ w ∈ wsX110, w ∈ wsX11_append := fun _ h => List.mem_cons_of_mem _ (List.mem_append_right _ h)
theorem fl_X11_append_60 : Cond.fieldLink RX11 60 (TX11 2).1 (TX11 2).2.1 (TX11 2).2.2.1 ∈ wsX11_append := List.mem_of_getElem? (i := 2) rfl
theorem fl_X11_append_9 : Cond.fieldLink RX11 9 (TX11 1).1 (TX11 1).2.1 (TX11 1).2.2.1 ∈ wsX11_append := List.mem_of_getElem? (i := 3) rfl
abbrev rm_X11_append : Room := { frames := 0, cells := 0, slots := 0, locals := 0 }
set_option maxHeartbeats 4000000 in
set_option maxRecDepth 100000 in
theorem k_X11_append (l : Launch) {G : va_G} {cy : Nat → ClassId} {ws0 : va_W} {b aM : Nat} {I : Nat → Int} {ad : Nat → Nat} {bu : Int → Int} (w0 w1 w2 w3 w4 : Int) (h_mo : ws0[b]? = some (aM, mO I ad)) (h_bu : ws0[b + 1]? = some (ad 1, aI cy 600 bu)) (hw : (-2147483648 ≤ w0 ∧ w0 ≤ 2147483647) ∧ (-2147483648 ≤ w1 ∧ w1 ≤ 2147483647) ∧ (-2147483648 ≤ w2 ∧ w2 ≤ 2147483647) ∧ (-2147483648 ≤ w3 ∧ w3 ≤ 2147483647) ∧ (-2147483648 ≤ w4 ∧ w4 ≤ 2147483647)) (hbl : 0 ≤ I 2 ∧ I 2 ≤ 600) : MI l yX11_append wsX11_append rm_X11_append G cy [.ref aM, .int (zI w0), .int (zI w1), .int (zI w2), .int (zI w3), .int (zI w4)] ws0 (fun z u => ∃ (I2 : Nat → Int) (bu2 : Int → Int), (I 2 + 20 ≤ 600 ∧ z = I 2 + 20 ∧ I2 2 = I 2 + 20 ∧ bu2 = apB bu (I 2) w0 w1 w2 w3 w4 ∨ 600 < I 2 + 20 ∧ z = -1 ∧ I2 2 = I 2 ∧ bu2 = bu) ∧ u[b]? = some (aM, mO I2 ad) ∧ u[b + 1]? = some (ad 1, aI cy 600 bu2) ∧ (I2 0 = 0 ∧ ∀ k : Nat, k ≠ 0 → k ≠ 2 → I2 k = I k) ∧ Eqx ws0 u (fun j => j = b ∨ j = b + 1)) := by
  refine MI.of (own := RX11) (cc := cX11_append) (nL := 8) (ret := (some .int)) (by decide) rfl rfl (Nat.le_of_ble_eq_true rfl) ?_
  intro p e s m below meth c A ls E h hl
  have hl : lv_has ls 8 [(0, .ref aM), (1, .int (zI w0)), (2, .int (zI w1)), (3, .int (zI w2)), (4, .int (zI w3)), (5, .int (zI w4))] := hl
  have hE : Eqx ws0 ws0 (fun j => j = b ∨ j = b + 1) := Eqx.rf
  refine r_aload_n E 0 hl rfl dX11_append_0 ?_
  refine r_iconst E dX11_append_1 ?_
  refine r_put E h h_mo rfl inn_X11_append_11 0 (by decide) fl_X11_append_57 tyX11 tyX11_ok nmX11 rfl rfl rfl (Nat.le_of_ble_eq_true rfl) dX11_append_2 (fun ws H locs h hu => ?_)
  have h_mo : ws[b]? = some (aM, mO (va_up I 0 0) ad) := hu.1
  have h_bu := hu.keep h_bu (by omega)
  have hE := hE.tr (hu.eqx (by first | omega | (dsimp only <;> omega)))
  refine r_aload_n E 0 hl rfl dX11_append_5 ?_
  refine r_get (v := .int (zI (I 2))) E h h_mo rfl inn_X11_append_11 2 (by decide) fl_X11_append_60 rfl dX11_append_6 ?_
  refine r_bipush E dX11_append_9 (by decide) ?_
  refine r_iadd E dX11_append_11 ?_
  refine r_sipush E dX11_append_12 (by decide) ?_
  refine r_icmp_le E 20 dX11_append_15 (by decide) (by omega) (fun c_15 => ?_) (fun c_15 => ?_)
  · skip
    refine r_iconst E dX11_append_20 ?_
    refine r_istore (lv' := [(6, .int (zI 0)), (0, .ref aM), (1, .int (zI w0)), (2, .int (zI w1)), (3, .int (zI w2)), (4, .int (zI w3)), (5, .int (zI w4))]) E hl dX11_append_21 (by decide) rfl (fun ls hl => ?_)
    refine r_loop (fun n H locs ls => ∃ (ws : va_W) (k : Int) (I3 : Nat → Int) (bu3 : Int → Int), n = (20 - k).toNat ∧ (0 ≤ k ∧ k ≤ 20) ∧ (I3 2 = I 2 + k) ∧ (I3 0 = 0 ∧ ∀ j : Nat, j ≠ 0 → j ≠ 2 → I3 j = I j) ∧ (∀ j : Int, bu3 j = if I 2 ≤ j ∧ j < I 2 + k then byt (wsel w0 w1 w2 w3 w4 (j - I 2)) (j - I 2) else bu j) ∧ Hp G ws A s.heap H locs ∧ (ws[b]? = some (aM, mO I3 ad)) ∧ (ws[b + 1]? = some (ad 1, aI cy 600 bu3)) ∧ Eqx ws0 ws (fun j => j = b ∨ j = b + 1) ∧ lv_has ls 8 [(0, .ref aM), (1, .int (zI w0)), (2, .int (zI w1)), (3, .int (zI w2)), (4, .int (zI w3)), (5, .int (zI w4)), (6, .int (zI k))]) _ ⟨ws, 0, (va_up I 0 0), bu, rfl, (by omega), (by simp [va_up]), ⟨rfl, fun j h0 h1 => by simp [va_up, h0]⟩, (fun j => (if_neg (by omega)).symm), h, h_mo, h_bu, hE, lv_sub hl [1, 2, 3, 4, 5, 6, 0] rfl⟩ ?_
    rintro n H locs ls ⟨ws, k, I3, bu3, hn, i1, i2, i3, i4, h, h_mo, h_bu, hE, hl⟩ ih_23
    refine r_iload E 6 hl rfl dX11_append_23 ?_
    refine r_bipush E dX11_append_25 (by decide) ?_
    refine r_icmp_ge E 120 dX11_append_27 (by decide) (by omega) (fun c_27 => ?_) (fun c_27 => ?_)
    · skip
      refine r_aload_n E 0 hl rfl dX11_append_120 ?_
      refine r_get (v := .int (zI (I3 2))) E h h_mo rfl inn_X11_append_11 2 (by decide) fl_X11_append_60 rfl dX11_append_121 ?_
      rw [show I3 2 = (I 2 + k) from i2]
      exact r_iret E h ⟨I3, bu3, Or.inl ⟨by omega, by omega, by omega, by
      funext j
      rw [i4 j]
      unfold apB
      rw [show k = 20 by omega]⟩, h_mo, h_bu, i3, hE⟩ dX11_append_124
    · skip
      refine r_cut (α := Int) (fun x8 H locs ls => (x8 = wsel w0 w1 w2 w3 w4 k) ∧ Hp G ws A s.heap H locs ∧ lv_has ls 8 [(0, .ref aM), (1, .int (zI w0)), (2, .int (zI w1)), (3, .int (zI w2)), (4, .int (zI w3)), (5, .int (zI w4)), (6, .int (zI k))]) 76 (fun x8 => [.int (zI x8)]) ?_ ?_
      · rintro x8 H locs ls ⟨f1, h, hl⟩
        have hwb : (-2147483648 ≤ wsel w0 w1 w2 w3 w4 k ∧ wsel w0 w1 w2 w3 w4 k ≤ 2147483647) := by
          unfold wsel
          by_cases c1 : k < 4
          · rw [if_pos c1]; omega
          · rw [if_neg c1]
            by_cases c2 : k < 8
            · rw [if_pos c2]; omega
            · rw [if_neg c2]
              by_cases c3 : k < 12
              · rw [if_pos c3]; omega
              · rw [if_neg c3]
                by_cases c4 : k < 16
                · rw [if_pos c4]; omega
                · rw [if_neg c4]; omega
        have htm : Int.tmod k 4 = k % 4 := Int.tmod_eq_emod_of_nonneg (by omega)
        refine r_istore (lv' := [(7, .int (zI x8)), (0, .ref aM), (1, .int (zI w0)), (2, .int (zI w1)), (3, .int (zI w2)), (4, .int (zI w3)), (5, .int (zI w4)), (6, .int (zI k))]) E hl dX11_append_76 (by decide) rfl (fun ls hl => ?_)
        refine r_aload_n E 1 hl rfl dX11_append_78 ?_
        refine r_get (v := .ref (ad 1)) E h h_mo rfl inn_X11_append_11 1 (by decide) fl_X11_append_9 rfl dX11_append_79 ?_
        refine r_aload_n E 1 hl rfl dX11_append_82 ?_
        refine r_get (v := .int (zI (I3 2))) E h h_mo rfl inn_X11_append_11 2 (by decide) fl_X11_append_60 rfl dX11_append_83 ?_
        rw [show I3 2 = (I 2 + k) from i2]
        refine r_iload E 0 hl rfl dX11_append_86 ?_
        refine r_bipush E dX11_append_88 (by decide) ?_
        refine r_bipush E dX11_append_90 (by decide) ?_
        refine r_iload E 7 hl rfl dX11_append_92 ?_
        refine r_iconst E dX11_append_94 ?_
        refine r_irem E dX11_append_95 (by omega) (by omega) ?_
        rw [htm]
        refine r_imul E dX11_append_96 ?_
        refine r_isub E dX11_append_97 ?_
        refine r_ishr E dX11_append_98 rfl (z := sh8 x8 (24 - (8 * (k % 4)))) (zI_sar (by omega) (by omega)) ?_
        refine r_sipush E dX11_append_99 (by decide) ?_
        refine r_iand E dX11_append_102 (z := (sh8 x8 (24 - (8 * (k % 4)))) % 256) (zI_and255 _) ?_
        refine r_iast E h h_bu (by omega) (by decide) dX11_append_103 (fun ws H locs h hu => ?_)
        have h_mo := hu.keep h_mo (by omega)
        have h_bu : ws[b + 1]? = some (ad 1, aI cy 600 (uZ bu3 ((I 2 + k)) ((sh8 x8 (24 - (8 * (k % 4)))) % 256))) := hu.1
        have hE := hE.tr (hu.eqx (by first | omega | (dsimp only <;> omega)))
        refine r_aload_n E 1 hl rfl dX11_append_104 ?_
        refine r_dup E dX11_append_105 rfl ?_
        refine r_get (v := .int (zI (I3 2))) E h h_mo rfl inn_X11_append_11 2 (by decide) fl_X11_append_60 rfl dX11_append_106 ?_
        rw [show I3 2 = (I 2 + k) from i2]
        refine r_iconst E dX11_append_109 ?_
        refine r_iadd E dX11_append_110 ?_
        refine r_put E h h_mo rfl inn_X11_append_11 2 (by decide) fl_X11_append_60 tyX11 tyX11_ok nmX11 rfl rfl rfl (Nat.le_of_ble_eq_true rfl) dX11_append_111 (fun ws H locs h hu => ?_)
        have h_mo : ws[b]? = some (aM, mO (va_up I3 2 (((I 2 + k)) + 1)) ad) := hu.1
        have h_bu := hu.keep h_bu (by omega)
        have hE := hE.tr (hu.eqx (by first | omega | (dsimp only <;> omega)))
        refine r_iinc (lv' := [(6, .int (zI (k + 1))), (7, .int (zI x8)), (0, .ref aM), (1, .int (zI w0)), (2, .int (zI w1)), (3, .int (zI w2)), (4, .int (zI w3)), (5, .int (zI w4))]) E 7 hl rfl dX11_append_114 (by decide) rfl (fun ls hl => ?_)
        refine r_goto E 23 dX11_append_117 (by decide) ?_
        exact ih_23 _ H locs ls (by omega) ⟨ws, (k + 1), (va_up I3 2 (((I 2 + k)) + 1)), (uZ bu3 ((I 2 + k)) ((sh8 x8 (24 - (8 * (k % 4)))) % 256)), rfl, (by omega), (by simp [va_up]; omega), ⟨by simp [va_up]; exact i3.1, fun j h0 h1 => by simp [va_up, h1]; exact i3.2 j h0 h1⟩, (fun j => by
      by_cases e : j = I 2 + k
      · subst e; rw [uZ_s, if_pos (by omega), show I 2 + k - I 2 = k by omega, f1]; rfl
      · rw [uZ_n e, i4 j]
        by_cases c : I 2 ≤ j ∧ j < I 2 + k
        · rw [if_pos c, if_pos (by omega)]
        · rw [if_neg c, if_neg (by omega)]), h, h_mo, h_bu, hE, lv_sub hl [2, 3, 4, 5, 6, 7, 0] rfl⟩
      · intro kc_76
        refine r_iload E 6 hl rfl dX11_append_30 ?_
        refine r_iconst E dX11_append_32 ?_
        refine r_icmp_ge E 40 dX11_append_33 (by decide) (by omega) (fun c_33 => ?_) (fun c_33 => ?_)
        · skip
          refine r_iload E 6 hl rfl dX11_append_40 ?_
          refine r_bipush E dX11_append_42 (by decide) ?_
          refine r_icmp_ge E 51 dX11_append_44 (by decide) (by omega) (fun c_44 => ?_) (fun c_44 => ?_)
          · skip
            refine r_iload E 6 hl rfl dX11_append_51 ?_
            refine r_bipush E dX11_append_53 (by decide) ?_
            refine r_icmp_ge E 62 dX11_append_55 (by decide) (by omega) (fun c_55 => ?_) (fun c_55 => ?_)
            · skip
              refine r_iload E 6 hl rfl dX11_append_62 ?_
              refine r_bipush E dX11_append_64 (by decide) ?_
              refine r_icmp_ge E 74 dX11_append_66 (by decide) (by omega) (fun c_66 => ?_) (fun c_66 => ?_)
              · skip
                refine r_iload E 5 hl rfl dX11_append_74 ?_
                exact kc_76 w4 H locs ls ⟨(by unfold wsel; first | (rw [if_pos (by omega)]; done) | (rw [if_neg (by omega), if_pos (by omega)]; done) | (rw [if_neg (by omega), if_neg (by omega), if_pos (by omega)]; done) | (rw [if_neg (by omega), if_neg (by omega), if_neg (by omega), if_pos (by omega)]; done) | (rw [if_neg (by omega), if_neg (by omega), if_neg (by omega), if_neg (by omega)])), h, lv_sub hl [0, 1, 2, 3, 4, 5, 6] rfl⟩
              · skip
                refine r_iload E 4 hl rfl dX11_append_69 ?_
                refine r_goto E 76 dX11_append_71 (by decide) ?_
                exact kc_76 w3 H locs ls ⟨(by unfold wsel; first | (rw [if_pos (by omega)]; done) | (rw [if_neg (by omega), if_pos (by omega)]; done) | (rw [if_neg (by omega), if_neg (by omega), if_pos (by omega)]; done) | (rw [if_neg (by omega), if_neg (by omega), if_neg (by omega), if_pos (by omega)]; done) | (rw [if_neg (by omega), if_neg (by omega), if_neg (by omega), if_neg (by omega)])), h, lv_sub hl [0, 1, 2, 3, 4, 5, 6] rfl⟩
            · skip
              refine r_iload_n E 3 hl rfl dX11_append_58 ?_
              refine r_goto E 76 dX11_append_59 (by decide) ?_
              exact kc_76 w2 H locs ls ⟨(by unfold wsel; first | (rw [if_pos (by omega)]; done) | (rw [if_neg (by omega), if_pos (by omega)]; done) | (rw [if_neg (by omega), if_neg (by omega), if_pos (by omega)]; done) | (rw [if_neg (by omega), if_neg (by omega), if_neg (by omega), if_pos (by omega)]; done) | (rw [if_neg (by omega), if_neg (by omega), if_neg (by omega), if_neg (by omega)])), h, lv_sub hl [0, 1, 2, 3, 4, 5, 6] rfl⟩
          · skip
            refine r_iload_n E 2 hl rfl dX11_append_47 ?_
            refine r_goto E 76 dX11_append_48 (by decide) ?_
            exact kc_76 w1 H locs ls ⟨(by unfold wsel; first | (rw [if_pos (by omega)]; done) | (rw [if_neg (by omega), if_pos (by omega)]; done) | (rw [if_neg (by omega), if_neg (by omega), if_pos (by omega)]; done) | (rw [if_neg (by omega), if_neg (by omega), if_neg (by omega), if_pos (by omega)]; done) | (rw [if_neg (by omega), if_neg (by omega), if_neg (by omega), if_neg (by omega)])), h, lv_sub hl [0, 1, 2, 3, 4, 5, 6] rfl⟩
        · skip
          refine r_iload_n E 1 hl rfl dX11_append_36 ?_
          refine r_goto E 76 dX11_append_37 (by decide) ?_
          exact kc_76 w0 H locs ls ⟨(by unfold wsel; first | (rw [if_pos (by omega)]; done) | (rw [if_neg (by omega), if_pos (by omega)]; done) | (rw [if_neg (by omega), if_neg (by omega), if_pos (by omega)]; done) | (rw [if_neg (by omega), if_neg (by omega), if_neg (by omega), if_pos (by omega)]; done) | (rw [if_neg (by omega), if_neg (by omega), if_neg (by omega), if_neg (by omega)])), h, lv_sub hl [0, 1, 2, 3, 4, 5, 6] rfl⟩
  · skip
    refine r_iconst E dX11_append_18 ?_
    exact r_iret E h ⟨va_up I 0 0, bu, Or.inr ⟨by omega, rfl, rfl, rfl⟩, h_mo, h_bu, ⟨rfl, fun k h0 h1 => by simp [va_up, h0]⟩, hE⟩ dX11_append_19
