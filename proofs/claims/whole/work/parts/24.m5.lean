theorem getD_app_l {l r : List Int} {i : Nat} (h : i < l.length) : (l ++ r).getD i 0 = l.getD i 0 := by rw [List.getD_eq_getElem?_getD, List.getD_eq_getElem?_getD, List.getElem?_append_left h]
theorem getD_app_x {l : List Int} {x : Int} : (l ++ [x]).getD l.length 0 = x := by rw [List.getD_eq_getElem?_getD]; simp
theorem hd_X11_search : yX11_search.cls = RX11 ∧ yX11_search.cls ≠ "java/lang/invoke/MethodHandle" ∧ yX11_search.cls ≠ "java/lang/invoke/VarHandle" ∧ (parseMethodDescriptor yX11_search.desc).map (fun d => d.parameters.length) = some 2 := by decide +kernel
theorem fl_X11_search_239 : Cond.fieldLink RX11 239 (TX11 23).1 (TX11 23).2.1 (TX11 23).2.2.1 ∈ wsX11_search := List.mem_of_getElem? (i := 2) rfl
theorem inn_X11_search_11 : ∀ w ∈ wsX110, w ∈ wsX11_search := fun _ h => List.mem_cons_of_mem _ (List.mem_append_right _ h)
theorem fl_X11_search_242 : Cond.fieldLink RX11 242 (TX11 24).1 (TX11 24).2.1 (TX11 24).2.2.1 ∈ wsX11_search := List.mem_of_getElem? (i := 3) rfl
theorem fl_X11_search_54 : Cond.fieldLink RX11 54 (TX11 25).1 (TX11 25).2.1 (TX11 25).2.2.1 ∈ wsX11_search := List.mem_of_getElem? (i := 1) rfl
theorem fl_X11_search_17 : Cond.fieldLink RX11 17 (TX11 8).1 (TX11 8).2.1 (TX11 8).2.2.1 ∈ wsX11_search := List.mem_of_getElem? (i := 4) rfl
abbrev rm_X11_search : Room := { frames := 3, cells := 0, slots := 0, locals := 69 }
set_option maxHeartbeats 4000000 in
set_option maxRecDepth 100000 in
theorem k_X11_search (l : Launch) {G : va_G} {cy : Nat → ClassId} {ws0 : va_W} {b aM : Nat} {I : Nat → Int} {ad : Nat → Nat} {da : Int → Int} {me : Int → Int} {le : Int → Int} {fo : Int → Int} {wn : Int → Int} {op : Int → Int} {d : Int → Int} {T : List Int} {ru so : Int → Int} (to9 mo9 : Int) (h_mo : ws0[b]? = some (aM, mO I ad)) (h_da : ws0[b + 2]? = some (ad 8, aI cy 1111 da)) (h_me : ws0[b + 14]? = some (ad 15, aI cy 38400 me)) (h_le : ws0[b + 15]? = some (ad 16, aI cy 6400 le)) (h_fo : ws0[b + 18]? = some (ad 20, aI cy 42 fo)) (h_wn : ws0[b + 19]? = some (ad 21, aI cy 38400 wn)) (h_op : ws0[b + 21]? = some (ad 25, aI cy 40 op)) (hD : DW d T) (hA : DW da T) (hL : LW d me le ru so fo wn (I 19)) (hto : 0 ≤ to9 ∧ to9 ≤ d 0) (hmo : 1 ≤ mo9 ∧ mo9 ≤ 3000) (hd1 : da 1 = d 1) : MI l yX11_search wsX11_search rm_X11_search G cy [.ref aM, .int (zI to9), .int (zI mo9)] ws0 (fun z u => z = (sr d (opL (cl da) to9.toNat) mo9 0 0 0 0 da).1 ∧ ∃ (I2 : Nat → Int) (op2 : Int → Int), u[b]? = some (aM, mO I2 ad) ∧ u[b + 2]? = some (ad 8, aI cy 1111 (sr d (opL (cl da) to9.toNat) mo9 0 0 0 0 da).2.2) ∧ u[b + 21]? = some (ad 25, aI cy 40 op2) ∧ (I2 24 = farF (opL (cl da) to9.toNat) to9 (sr d (opL (cl da) to9.toNat) mo9 0 0 0 0 da).2.1 ∧ ∀ k : Nat, k ≠ 23 → k ≠ 24 → I2 k = I k) ∧ Eqx ws0 u (fun j => j = b ∨ j = b + 2 ∨ j = b + 21)) := by
  refine MI.of (own := RX11) (cc := cX11_search) (nL := 7) (ret := (some .int)) (by decide) rfl rfl (Nat.le_of_ble_eq_true rfl) ?_
  intro p e s m below meth c A ls E h hl
  have hl : lv_has ls 7 [(0, .ref aM), (1, .int (zI to9)), (2, .int (zI mo9))] := hl
  have hE : Eqx ws0 ws0 (fun j => j = b ∨ j = b + 2 ∨ j = b + 21) := Eqx.rf
  have hn9 := hD.n
  have hk9 := hD.k
  obtain ⟨ol, eol⟩ : ∃ l, l = opL (cl da) to9.toNat := ⟨_, rfl⟩
  have holl : ol.length ≤ 40 := by rw [eol]; exact Nat.le_trans (opL_len _) (by omega)
  have holr : ∀ j : Nat, j < ol.length → 1 ≤ ol.getD j 0 ∧ ol.getD j 0 ≤ to9 := fun j hj => by
    subst eol
    have := opL_rng hj
    omega
  have hasc : Asc ol := by rw [eol]; exact opL_asc _
  have hmem : ∀ x : Int, x ∈ ol → x ≤ to9 := fun x hx => by
    rw [eol] at hx
    have := (opL_mem.mp hx).2.1
    omega
  rw [← eol]
  refine r_iconst E dX11_search_0 ?_
  refine r_istore_n (lv' := [(3, .int (zI 0)), (0, .ref aM), (1, .int (zI to9)), (2, .int (zI mo9))]) E hl dX11_search_1 rfl (by decide) rfl (fun ls hl => ?_)
  refine r_iconst E dX11_search_2 ?_
  refine r_istore (lv' := [(4, .int (zI 0)), (3, .int (zI 0)), (0, .ref aM), (1, .int (zI to9)), (2, .int (zI mo9))]) E hl dX11_search_3 (by decide) rfl (fun ls hl => ?_)
  refine r_iconst E dX11_search_5 ?_
  refine r_istore (lv' := [(5, .int (zI 0)), (4, .int (zI 0)), (3, .int (zI 0)), (0, .ref aM), (1, .int (zI to9)), (2, .int (zI mo9))]) E hl dX11_search_6 (by decide) rfl (fun ls hl => ?_)
  refine r_iconst E dX11_search_8 ?_
  refine r_istore (lv' := [(6, .int (zI 1)), (5, .int (zI 0)), (4, .int (zI 0)), (3, .int (zI 0)), (0, .ref aM), (1, .int (zI to9)), (2, .int (zI mo9))]) E hl dX11_search_9 (by decide) rfl (fun ls hl => ?_)
  refine r_loop (fun n H locs ls => ∃ (ws : va_W) (n9 : Int) (x : Int) (op2 : Int → Int), n = (41 - x).toNat ∧ (1 ≤ x ∧ x ≤ to9 + 1) ∧ (n9 = ((opL (cl da) (x - 1).toNat).length : Int)) ∧ (∀ j : Int, 0 ≤ j → j < n9 → op2 j = (opL (cl da) (x - 1).toNat).getD j.toNat 0) ∧ Hp G ws A s.heap H locs ∧ (ws[b]? = some (aM, mO I ad)) ∧ (ws[b + 2]? = some (ad 8, aI cy 1111 da)) ∧ (ws[b + 14]? = some (ad 15, aI cy 38400 me)) ∧ (ws[b + 15]? = some (ad 16, aI cy 6400 le)) ∧ (ws[b + 18]? = some (ad 20, aI cy 42 fo)) ∧ (ws[b + 19]? = some (ad 21, aI cy 38400 wn)) ∧ (ws[b + 21]? = some (ad 25, aI cy 40 op2)) ∧ Eqx ws0 ws (fun j => j = b ∨ j = b + 2 ∨ j = b + 21) ∧ lv_has ls 7 [(0, .ref aM), (1, .int (zI to9)), (2, .int (zI mo9)), (3, .int (zI n9)), (4, .int (zI 0)), (5, .int (zI 0)), (6, .int (zI x))]) _ ⟨ws0, 0, 1, op, rfl, (by omega), rfl, (fun j h0 h1 => absurd h1 (by omega)), h, h_mo, h_da, h_me, h_le, h_fo, h_wn, h_op, hE, lv_sub hl [4, 5, 6, 3, 2, 1, 0] rfl⟩ ?_
  rintro n H locs ls ⟨ws, n9, x, op2, hn, i1, i2, i3, h, h_mo, h_da, h_me, h_le, h_fo, h_wn, h_op, hE, hl⟩ ih_11
  refine r_iload E 6 hl rfl dX11_search_11 ?_
  refine r_iload_n E 1 hl rfl dX11_search_13 ?_
  refine r_icmp_gt E 47 dX11_search_14 (by decide) (by omega) (fun c_14 => ?_) (fun c_14 => ?_)
  · skip
    have ex9 : (x - 1).toNat = to9.toNat := by omega
    rw [ex9, ← eol] at i2 i3
    have h3op : ∀ j : Int, 0 ≤ j → j < ol.length → op2 j = ol.getD j.toNat 0 := fun j h0 h1 => i3 j h0 (by omega)
    refine r_aload_n E 0 hl rfl dX11_search_47 ?_
    refine r_iconst E dX11_search_48 ?_
    refine r_put E h h_mo rfl inn_X11_search_11 23 (by decide) fl_X11_search_239 tyX11 tyX11_ok nmX11 rfl rfl rfl (Nat.le_of_ble_eq_true rfl) dX11_search_49 (fun ws H locs h hu => ?_)
    have h_mo : ws[b]? = some (aM, mO (va_up I 23 0) ad) := hu.1
    have h_da := hu.keep h_da (by omega)
    have h_me := hu.keep h_me (by omega)
    have h_le := hu.keep h_le (by omega)
    have h_fo := hu.keep h_fo (by omega)
    have h_wn := hu.keep h_wn (by omega)
    have h_op := hu.keep h_op (by omega)
    have hE := hE.tr (hu.eqx (by first | omega | (dsimp only <;> omega)))
    refine r_cut (α := Int) (fun x8 H locs ls => (x8 = farF ol to9 0) ∧ Hp G ws A s.heap H locs ∧ lv_has ls 7 [(0, .ref aM), (1, .int (zI to9)), (2, .int (zI mo9)), (3, .int (zI n9)), (4, .int (zI 0)), (5, .int (zI 0))]) 69 (fun x8 => [.int (zI x8), .ref aM]) ?_ ?_
    · rintro x8 H locs ls ⟨f1, h, hl⟩
      refine r_put E h h_mo rfl inn_X11_search_11 24 (by decide) fl_X11_search_242 tyX11 tyX11_ok nmX11 rfl rfl rfl (Nat.le_of_ble_eq_true rfl) dX11_search_69 (fun ws H locs h hu => ?_)
      have h_mo : ws[b]? = some (aM, mO (va_up (va_up I 23 0) 24 x8) ad) := hu.1
      have h_da := hu.keep h_da (by omega)
      have h_me := hu.keep h_me (by omega)
      have h_le := hu.keep h_le (by omega)
      have h_fo := hu.keep h_fo (by omega)
      have h_wn := hu.keep h_wn (by omega)
      have h_op := hu.keep h_op (by omega)
      have hE := hE.tr (hu.eqx (by first | omega | (dsimp only <;> omega)))
      refine r_loop (fun n H locs ls => ∃ (ws : va_W) (at9 : Int) (col : Int) (I2 : Nat → Int) (da2 : Int → Int) (tr9 : Int) (dp : Nat), n = (2 * (mo9 - tr9) + at9).toNat ∧ ((0 ≤ at9 ∧ at9 ≤ ol.length) ∧ (0 ≤ tr9 ∧ tr9 ≤ mo9)) ∧ ((0 ≤ col ∧ col ≤ da2 1) ∧ da2 1 = d 1) ∧ (sr d ol mo9 at9.toNat col tr9 dp da2 = sr d ol mo9 0 0 0 0 da) ∧ (DW da2 T) ∧ (∀ k : Nat, k ≠ 23 → k ≠ 24 → I2 k = I k) ∧ (I2 23 = tr9) ∧ (I2 24 = farF ol to9 dp) ∧ Hp G ws A s.heap H locs ∧ (ws[b]? = some (aM, mO I2 ad)) ∧ (ws[b + 2]? = some (ad 8, aI cy 1111 da2)) ∧ (ws[b + 14]? = some (ad 15, aI cy 38400 me)) ∧ (ws[b + 15]? = some (ad 16, aI cy 6400 le)) ∧ (ws[b + 18]? = some (ad 20, aI cy 42 fo)) ∧ (ws[b + 19]? = some (ad 21, aI cy 38400 wn)) ∧ (ws[b + 21]? = some (ad 25, aI cy 40 op2)) ∧ Eqx ws0 ws (fun j => j = b ∨ j = b + 2 ∨ j = b + 21) ∧ lv_has ls 7 [(0, .ref aM), (1, .int (zI to9)), (2, .int (zI mo9)), (3, .int (zI n9)), (4, .int (zI at9)), (5, .int (zI col))]) _ ⟨ws, 0, 0, (va_up (va_up I 23 0) 24 x8), da, 0, 0, rfl, (by omega), (by omega), rfl, hA, (fun k h1 h2 => by simp [va_up, h1, h2]), (by simp [va_up]), (by simp [va_up]; exact f1), h, h_mo, h_da, h_me, h_le, h_fo, h_wn, h_op, hE, lv_sub hl [0, 1, 2, 3, 4, 5] rfl⟩ ?_
      rintro n H locs ls ⟨ws, at9, col, I2, da2, tr9, dp, hn, i1, i2, i3, i4, i7, i8, i9, h, h_mo, h_da, h_me, h_le, h_fo, h_wn, h_op, hE, hl⟩ ih_72
      refine r_iload E 4 hl rfl dX11_search_72 ?_
      refine r_iload_n E 3 hl rfl dX11_search_74 ?_
      refine r_icmp_ge E 243 dX11_search_75 (by decide) (by omega) (fun c_75 => ?_) (fun c_75 => ?_)
      · skip
        refine r_aload_n E 0 hl rfl dX11_search_243 ?_
        refine r_get (v := .int (zI (I2 23))) E h h_mo rfl inn_X11_search_11 23 (by decide) fl_X11_search_239 rfl dX11_search_244 ?_
        rw [show I2 23 = tr9 from i8]
        exact r_iret E h ⟨by rw [← i3, sr_end (by omega)], I2, op2, h_mo, by rw [← i3, sr_end (by omega)]; exact h_da, h_op, ⟨by rw [← i3, sr_end (by omega)]; exact i9, i7⟩, hE⟩ dX11_search_247
      · skip
        have hat : at9.toNat < ol.length := by omega
        have hx9 := holr at9.toNat hat
        refine r_aload_n E 0 hl rfl dX11_search_78 ?_
        refine r_get (v := .ref (ad 25)) E h h_mo rfl inn_X11_search_11 25 (by decide) fl_X11_search_54 rfl dX11_search_79 ?_
        refine r_iload E 4 hl rfl dX11_search_82 ?_
        refine r_iald E h h_op (by omega) (by decide) dX11_search_84 ?_
        rw [show op2 at9 = ol.getD at9.toNat 0 from (h3op at9 (by omega) (by omega))]
        refine r_istore (lv' := [(6, .int (zI (ol.getD at9.toNat 0))), (0, .ref aM), (1, .int (zI to9)), (2, .int (zI mo9)), (3, .int (zI n9)), (4, .int (zI at9)), (5, .int (zI col))]) E hl dX11_search_85 (by decide) rfl (fun ls hl => ?_)
        refine r_aload_n E 1 hl rfl dX11_search_87 ?_
        refine r_iload E 0 hl rfl dX11_search_88 ?_
        refine r_iload E 6 hl rfl dX11_search_90 ?_
        refine r_callVI E h (As := [.int (zI (ol.getD at9.toNat 0)), .int (zI col)]) (rest := []) (k_X11_nextColour l (ol.getD at9.toNat 0) col h_mo h_da (by have := i4.n; omega) (DW.c4 i4) (by have := i4.k; omega) (by omega)) h_mo rfl gX11_search_X11_nextColour rfl hd_X11_nextColour (by decide) ⟨by decide, by decide⟩ hl.1 rfl (Nat.le_of_ble_eq_true rfl) dX11_search_92 rfl (fun z_92 ws H locs hp h => ?_)
        obtain ⟨e_z_92, rfl⟩ := hp
        obtain rfl := e_z_92
        refine r_istore (lv' := [(5, .int (zI (nxt da2 col))), (6, .int (zI (ol.getD at9.toNat 0))), (0, .ref aM), (1, .int (zI to9)), (2, .int (zI mo9)), (3, .int (zI n9)), (4, .int (zI at9))]) E hl dX11_search_95 (by decide) rfl (fun ls hl => ?_)
        have hnr := nxt_rng (d := da2) (da2 1 - col).toNat col (by omega) (by omega)
        refine r_iload E 0 hl rfl dX11_search_97 ?_
        refine r_aload_n E 2 hl rfl dX11_search_99 ?_
        refine r_get (v := .ref (ad 8)) E h h_mo rfl inn_X11_search_11 8 (by decide) fl_X11_search_17 rfl dX11_search_100 ?_
        refine r_iconst E dX11_search_103 ?_
        refine r_iald E h h_da (by omega) (by decide) dX11_search_104 ?_
        refine r_icmp_ne E 152 dX11_search_105 (by decide) (by omega) (fun c_105 => ?_) (fun c_105 => ?_)
        · skip
          refine r_aload_n E 2 hl rfl dX11_search_152 ?_
          refine r_get (v := .int (zI (I2 23))) E h h_mo rfl inn_X11_search_11 23 (by decide) fl_X11_search_239 rfl dX11_search_153 ?_
          rw [show I2 23 = tr9 from i8]
          refine r_iload_n E 4 hl rfl dX11_search_156 ?_
          refine r_icmp_ne E 163 dX11_search_157 (by decide) (by omega) (fun c_157 => ?_) (fun c_157 => ?_)
          · skip
            have hlt9 : tr9 < mo9 := by omega
            refine r_aload_n E 2 hl rfl dX11_search_163 ?_
            refine r_dup E dX11_search_164 rfl ?_
            refine r_get (v := .int (zI (I2 23))) E h h_mo rfl inn_X11_search_11 23 (by decide) fl_X11_search_239 rfl dX11_search_165 ?_
            rw [show I2 23 = tr9 from i8]
            refine r_iconst E dX11_search_168 ?_
            refine r_iadd E dX11_search_169 ?_
            refine r_put E h h_mo rfl inn_X11_search_11 23 (by decide) fl_X11_search_239 tyX11 tyX11_ok nmX11 rfl rfl rfl (Nat.le_of_ble_eq_true rfl) dX11_search_170 (fun ws H locs h hu => ?_)
            have h_mo : ws[b]? = some (aM, mO (va_up I2 23 (tr9 + 1)) ad) := hu.1
            have h_da := hu.keep h_da (by omega)
            have h_me := hu.keep h_me (by omega)
            have h_le := hu.keep h_le (by omega)
            have h_fo := hu.keep h_fo (by omega)
            have h_wn := hu.keep h_wn (by omega)
            have h_op := hu.keep h_op (by omega)
            have hE := hE.tr (hu.eqx (by first | omega | (dsimp only <;> omega)))
            refine r_aload_n E 2 hl rfl dX11_search_173 ?_
            refine r_iload E 1 hl rfl dX11_search_174 ?_
            refine r_iload E 0 hl rfl dX11_search_176 ?_
            refine r_callVI E h (As := [.int (zI (ol.getD at9.toNat 0)), .int (zI (nxt da2 col))]) (rest := []) (k_X11_isAllowed l (ol.getD at9.toNat 0) (nxt da2 col) h_mo h_da h_me h_le h_fo h_wn hD i4 (by rw [show (va_up I2 23 (tr9 + 1)) 19 = I 19 from by simp [va_up]; exact i7 19 (by decide) (by decide)]; exact hL) (by omega) (by omega)) h_mo rfl gX11_search_X11_isAllowed rfl hd_X11_isAllowed (by decide) ⟨by decide, by decide⟩ hl.1 rfl (Nat.le_of_ble_eq_true rfl) dX11_search_178 rfl (fun z_178 ws H locs hp h => ?_)
            obtain ⟨e_z_178, rfl⟩ := hp
            refine r_if_ne E 190 dX11_search_181 (by decide) (by omega) (fun c_181 => ?_) (fun c_181 => ?_)
            · skip
              have hb8 := sr_ok (d := d) (most := mo9) (from9 := col) (tr := tr9) (dp := dp) (da := da2) hlt9 hat (by omega) (e_z_178.elim (fun hh => hh.2) (fun hh => absurd hh.1 (by omega)))
              rw [i3] at hb8
              have hat1 : (at9 + 1).toNat = at9.toNat + 1 := by omega
              refine r_aload_n E 2 hl rfl dX11_search_190 ?_
              refine r_get (v := .ref (ad 8)) E h h_mo rfl inn_X11_search_11 8 (by decide) fl_X11_search_17 rfl dX11_search_191 ?_
              refine r_bipush E dX11_search_194 (by decide) ?_
              refine r_iload E 1 hl rfl dX11_search_196 ?_
              refine r_iadd E dX11_search_198 ?_
              refine r_iload E 0 hl rfl dX11_search_199 ?_
              refine r_iconst E dX11_search_201 ?_
              refine r_iadd E dX11_search_202 ?_
              refine r_iast E h h_da (by omega) (by decide) dX11_search_203 (fun ws H locs h hu => ?_)
              have h_mo := hu.keep h_mo (by omega)
              have h_da : ws[b + 2]? = some (ad 8, aI cy 1111 (uZ da2 (29 + (ol.getD at9.toNat 0)) ((nxt da2 col) + 1))) := hu.1
              have h_me := hu.keep h_me (by omega)
              have h_le := hu.keep h_le (by omega)
              have h_fo := hu.keep h_fo (by omega)
              have h_wn := hu.keep h_wn (by omega)
              have h_op := hu.keep h_op (by omega)
              have hE := hE.tr (hu.eqx (by first | omega | (dsimp only <;> omega)))
              refine r_iinc (lv' := [(4, .int (zI (at9 + 1))), (5, .int (zI (nxt da2 col))), (6, .int (zI (ol.getD at9.toNat 0))), (0, .ref aM), (1, .int (zI to9)), (2, .int (zI mo9)), (3, .int (zI n9))]) E 6 hl rfl dX11_search_204 (by decide) rfl (fun ls hl => ?_)
              refine r_iconst E dX11_search_207 ?_
              refine r_istore (lv' := [(5, .int (zI 0)), (4, .int (zI (at9 + 1))), (6, .int (zI (ol.getD at9.toNat 0))), (0, .ref aM), (1, .int (zI to9)), (2, .int (zI mo9)), (3, .int (zI n9))]) E hl dX11_search_208 (by decide) rfl (fun ls hl => ?_)
              refine r_aload_n E 3 hl rfl dX11_search_210 ?_
              refine r_aload_n E 3 hl rfl dX11_search_211 ?_
              refine r_get (v := .int (zI (I2 24))) E h h_mo rfl inn_X11_search_11 24 (by decide) fl_X11_search_242 rfl dX11_search_212 ?_
              rw [show I2 24 = farF ol to9 dp from i9]
              refine r_iload E 1 hl rfl dX11_search_215 ?_
              refine r_iload_n E 6 hl rfl dX11_search_217 ?_
              refine r_icmp_ne E 225 dX11_search_218 (by decide) (by omega) (fun c_218 => ?_) (fun c_218 => ?_)
              · skip
                have hfv : ol.getD (at9.toNat + 1) 0 - 1 = farF ol to9 (at9.toNat + 1) := by unfold farF; rw [if_pos (by omega)]
                have hx7 := holr (at9.toNat + 1) (by omega)
                refine r_aload_n E 3 hl rfl dX11_search_225 ?_
                refine r_get (v := .ref (ad 25)) E h h_mo rfl inn_X11_search_11 25 (by decide) fl_X11_search_54 rfl dX11_search_226 ?_
                refine r_iload E 1 hl rfl dX11_search_229 ?_
                refine r_iald E h h_op (by omega) (by decide) dX11_search_231 ?_
                rw [show op2 (at9 + 1) = ol.getD (at9.toNat + 1) 0 from (by rw [h3op (at9 + 1) (by omega) (by omega), hat1])]
                refine r_iconst E dX11_search_232 ?_
                refine r_isub E dX11_search_233 ?_
                have hfr : -1 ≤ farF ol to9 dp ∧ farF ol to9 dp ≤ 40 := by
                  unfold farF
                  by_cases hc : dp < ol.length
                  · rw [if_pos hc]; have := holr dp hc; omega
                  · rw [if_neg hc]; omega
                refine r_callSI E h (As := [.int (zI (farF ol to9 dp)), .int (zI ((ol.getD (at9.toNat + 1) 0) - 1))]) (rest := [.ref aM]) (k_X11_max l (farF ol to9 dp) ((ol.getD (at9.toNat + 1) 0) - 1) (by omega)) gX11_search_X11_max rfl hd_X11_max (by decide) ⟨by decide, by decide⟩ hl.1 rfl (Nat.le_of_ble_eq_true rfl) dX11_search_234 rfl (fun z_234 ws H locs hp h => ?_)
                obtain ⟨e_z_234, rfl⟩ := hp
                have hfz := farF_next hasc hmem (dp := dp) hat hfv e_z_234
                refine r_put E h h_mo rfl inn_X11_search_11 24 (by decide) fl_X11_search_242 tyX11 tyX11_ok nmX11 rfl rfl rfl (Nat.le_of_ble_eq_true rfl) dX11_search_237 (fun ws H locs h hu => ?_)
                have h_mo : ws[b]? = some (aM, mO (va_up (va_up I2 23 (tr9 + 1)) 24 z_234) ad) := hu.1
                have h_da := hu.keep h_da (by omega)
                have h_me := hu.keep h_me (by omega)
                have h_le := hu.keep h_le (by omega)
                have h_fo := hu.keep h_fo (by omega)
                have h_wn := hu.keep h_wn (by omega)
                have h_op := hu.keep h_op (by omega)
                have hE := hE.tr (hu.eqx (by first | omega | (dsimp only <;> omega)))
                refine r_goto E 72 dX11_search_240 (by decide) ?_
                exact ih_72 _ H locs ls (by omega) ⟨ws, (at9 + 1), 0, (va_up (va_up I2 23 (tr9 + 1)) 24 z_234), (uZ da2 (29 + (ol.getD at9.toNat 0)) ((nxt da2 col) + 1)), ((tr9 + 1)), ((if dp ≤ at9.toNat then at9.toNat + 1 else dp)), rfl, (by omega), ⟨by rw [uZ_n (by omega)]; omega, by rw [uZ_n (by omega)]; exact i2.2⟩, (by rw [hat1]; exact hb8.symm), (i4.setcol (by omega) (by omega)), (fun k h1 h2 => by simp [va_up, h1, h2, i7 k h1 h2]), (by simp [va_up]), (by simp [va_up]; exact hfz), h, h_mo, h_da, h_me, h_le, h_fo, h_wn, h_op, hE, lv_sub hl [3, 4, 5, 6, 1, 0] rfl⟩
              · skip
                have hfv : to9 = farF ol to9 (at9.toNat + 1) := by unfold farF; rw [if_neg (by omega)]
                refine r_iload_n E 4 hl rfl dX11_search_221 ?_
                refine r_goto E 234 dX11_search_222 (by decide) ?_
                have hfr : -1 ≤ farF ol to9 dp ∧ farF ol to9 dp ≤ 40 := by
                  unfold farF
                  by_cases hc : dp < ol.length
                  · rw [if_pos hc]; have := holr dp hc; omega
                  · rw [if_neg hc]; omega
                refine r_callSI E h (As := [.int (zI (farF ol to9 dp)), .int (zI to9)]) (rest := [.ref aM]) (k_X11_max l (farF ol to9 dp) to9 (by omega)) gX11_search_X11_max rfl hd_X11_max (by decide) ⟨by decide, by decide⟩ hl.1 rfl (Nat.le_of_ble_eq_true rfl) dX11_search_234 rfl (fun z_234 ws H locs hp h => ?_)
                obtain ⟨e_z_234, rfl⟩ := hp
                have hfz := farF_next hasc hmem (dp := dp) hat hfv e_z_234
                refine r_put E h h_mo rfl inn_X11_search_11 24 (by decide) fl_X11_search_242 tyX11 tyX11_ok nmX11 rfl rfl rfl (Nat.le_of_ble_eq_true rfl) dX11_search_237 (fun ws H locs h hu => ?_)
                have h_mo : ws[b]? = some (aM, mO (va_up (va_up I2 23 (tr9 + 1)) 24 z_234) ad) := hu.1
                have h_da := hu.keep h_da (by omega)
                have h_me := hu.keep h_me (by omega)
                have h_le := hu.keep h_le (by omega)
                have h_fo := hu.keep h_fo (by omega)
                have h_wn := hu.keep h_wn (by omega)
                have h_op := hu.keep h_op (by omega)
                have hE := hE.tr (hu.eqx (by first | omega | (dsimp only <;> omega)))
                refine r_goto E 72 dX11_search_240 (by decide) ?_
                exact ih_72 _ H locs ls (by omega) ⟨ws, (at9 + 1), 0, (va_up (va_up I2 23 (tr9 + 1)) 24 z_234), (uZ da2 (29 + (ol.getD at9.toNat 0)) ((nxt da2 col) + 1)), ((tr9 + 1)), ((if dp ≤ at9.toNat then at9.toNat + 1 else dp)), rfl, (by omega), ⟨by rw [uZ_n (by omega)]; omega, by rw [uZ_n (by omega)]; exact i2.2⟩, (by rw [hat1]; exact hb8.symm), (i4.setcol (by omega) (by omega)), (fun k h1 h2 => by simp [va_up, h1, h2, i7 k h1 h2]), (by simp [va_up]), (by simp [va_up]; exact hfz), h, h_mo, h_da, h_me, h_le, h_fo, h_wn, h_op, hE, lv_sub hl [3, 4, 5, 6, 1, 0] rfl⟩
            · skip
              have hb8 := sr_no (d := d) (most := mo9) (from9 := col) (tr := tr9) (dp := dp) (da := da2) hlt9 hat (by omega) (e_z_178.elim (fun hh => absurd hh.1 (by omega)) (fun hh => hh.2))
              rw [i3] at hb8
              refine r_iinc (lv' := [(5, .int (zI (nxt da2 col + 1))), (6, .int (zI (ol.getD at9.toNat 0))), (0, .ref aM), (1, .int (zI to9)), (2, .int (zI mo9)), (3, .int (zI n9)), (4, .int (zI at9))]) E 0 hl rfl dX11_search_184 (by decide) rfl (fun ls hl => ?_)
              refine r_goto E 72 dX11_search_187 (by decide) ?_
              exact ih_72 _ H locs ls (by omega) ⟨ws, at9, (nxt da2 col + 1), (va_up I2 23 (tr9 + 1)), da2, ((tr9 + 1)), dp, rfl, (by omega), ⟨by omega, i2.2⟩, hb8.symm, i4, (fun k h1 h2 => by simp [va_up, h1, h2, i7 k h1 h2]), (by simp [va_up]), (by simp [va_up]; exact i9), h, h_mo, h_da, h_me, h_le, h_fo, h_wn, h_op, hE, lv_sub hl [2, 3, 4, 5, 6, 0] rfl⟩
          · skip
            refine r_bipush E dX11_search_160 (by decide) ?_
            exact r_iret E h ⟨by rw [← i3, show tr9 = mo9 by omega, sr_stop hat (by omega)], I2, op2, h_mo, by rw [← i3, show tr9 = mo9 by omega, sr_stop hat (by omega)]; exact h_da, h_op, ⟨by rw [← i3, show tr9 = mo9 by omega, sr_stop hat (by omega)]; exact i9, i7⟩, hE⟩ dX11_search_162
        · skip
          refine r_iload E 6 hl rfl dX11_search_108 ?_
          refine r_if_ne E 115 dX11_search_110 (by decide) (by omega) (fun c_110 => ?_) (fun c_110 => ?_)
          · skip
            have hat1 : (at9 + -1).toNat = at9.toNat - 1 := by omega
            have hx8 := holr (at9.toNat - 1) (by omega)
            have hb8 := sr_back (d := d) (most := mo9) (from9 := col) (tr := tr9) (dp := dp) (da := da2) (by omega) hat (by omega) (by omega)
            rw [i3] at hb8
            have hcl := i4.col (x := ol.getD (at9.toNat - 1) 0) (by omega) (by omega)
            refine r_iinc (lv' := [(4, .int (zI (at9 + (-1)))), (5, .int (zI (nxt da2 col))), (6, .int (zI (ol.getD at9.toNat 0))), (0, .ref aM), (1, .int (zI to9)), (2, .int (zI mo9)), (3, .int (zI n9))]) E 6 hl rfl dX11_search_115 (by decide) rfl (fun ls hl => ?_)
            refine r_aload_n E 3 hl rfl dX11_search_118 ?_
            refine r_aload_n E 3 hl rfl dX11_search_119 ?_
            refine r_get (v := .ref (ad 25)) E h h_mo rfl inn_X11_search_11 25 (by decide) fl_X11_search_54 rfl dX11_search_120 ?_
            refine r_iload E 0 hl rfl dX11_search_123 ?_
            refine r_iald E h h_op (by omega) (by decide) dX11_search_125 ?_
            rw [show op2 (at9 + (-1)) = ol.getD (at9.toNat - 1) 0 from (by rw [h3op (at9 + -1) (by omega) (by omega), hat1])]
            refine r_callVI E h (As := [.int (zI (ol.getD (at9.toNat - 1) 0))]) (rest := []) (k_X11_colourOf l (ol.getD (at9.toNat - 1) 0) h_mo h_da (by omega)) h_mo rfl gX11_search_X11_colourOf rfl hd_X11_colourOf (by decide) ⟨by decide, by decide⟩ hl.1 rfl (Nat.le_of_ble_eq_true rfl) dX11_search_126 rfl (fun z_126 ws H locs hp h => ?_)
            obtain ⟨rfl, rfl⟩ := hp
            refine r_iconst E dX11_search_129 ?_
            refine r_iadd E dX11_search_130 ?_
            refine r_istore (lv' := [(5, .int (zI ((da2 (29 + (ol.getD (at9.toNat - 1) 0)) - 1) + 1))), (4, .int (zI (at9 + (-1)))), (6, .int (zI (ol.getD at9.toNat 0))), (0, .ref aM), (1, .int (zI to9)), (2, .int (zI mo9)), (3, .int (zI n9))]) E hl dX11_search_131 (by decide) rfl (fun ls hl => ?_)
            refine r_aload_n E 3 hl rfl dX11_search_133 ?_
            refine r_get (v := .ref (ad 8)) E h h_mo rfl inn_X11_search_11 8 (by decide) fl_X11_search_17 rfl dX11_search_134 ?_
            refine r_bipush E dX11_search_137 (by decide) ?_
            refine r_aload_n E 3 hl rfl dX11_search_139 ?_
            refine r_get (v := .ref (ad 25)) E h h_mo rfl inn_X11_search_11 25 (by decide) fl_X11_search_54 rfl dX11_search_140 ?_
            refine r_iload E 1 hl rfl dX11_search_143 ?_
            refine r_iald E h h_op (by omega) (by decide) dX11_search_145 ?_
            rw [show op2 (at9 + (-1)) = ol.getD (at9.toNat - 1) 0 from (by rw [h3op (at9 + -1) (by omega) (by omega), hat1])]
            refine r_iadd E dX11_search_146 ?_
            refine r_iconst E dX11_search_147 ?_
            refine r_iast E h h_da (by omega) (by decide) dX11_search_148 (fun ws H locs h hu => ?_)
            have h_mo := hu.keep h_mo (by omega)
            have h_da : ws[b + 2]? = some (ad 8, aI cy 1111 (uZ da2 (29 + (ol.getD (at9.toNat - 1) 0)) 0)) := hu.1
            have h_me := hu.keep h_me (by omega)
            have h_le := hu.keep h_le (by omega)
            have h_fo := hu.keep h_fo (by omega)
            have h_wn := hu.keep h_wn (by omega)
            have h_op := hu.keep h_op (by omega)
            have hE := hE.tr (hu.eqx (by first | omega | (dsimp only <;> omega)))
            refine r_goto E 72 dX11_search_149 (by decide) ?_
            exact ih_72 _ H locs ls (by omega) ⟨ws, (at9 + (-1)), ((da2 (29 + (ol.getD (at9.toNat - 1) 0)) - 1) + 1), I2, (uZ da2 (29 + (ol.getD (at9.toNat - 1) 0)) 0), tr9, dp, rfl, (by omega), ⟨by rw [uZ_n (by omega)]; omega, by rw [uZ_n (by omega)]; exact i2.2⟩, (by rw [hat1, show da2 (29 + ol.getD (at9.toNat - 1) 0) - 1 + 1 = da2 (29 + ol.getD (at9.toNat - 1) 0) by omega]; exact hb8.symm), (i4.setcol (by omega) (by have := i4.k; omega)), i7, i8, i9, h, h_mo, h_da, h_me, h_le, h_fo, h_wn, h_op, hE, lv_sub hl [3, 4, 5, 6, 1, 0] rfl⟩
          · skip
            refine r_iconst E dX11_search_113 ?_
            exact r_iret E h ⟨by rw [← i3, show at9.toNat = 0 by omega, sr_fail (by omega) (by omega)], I2, op2, h_mo, by rw [← i3, show at9.toNat = 0 by omega, sr_fail (by omega) (by omega)]; exact h_da, h_op, ⟨by rw [← i3, show at9.toNat = 0 by omega, sr_fail (by omega) (by omega)]; exact i9, i7⟩, hE⟩ dX11_search_114
    · intro kc_69
      refine r_aload_n E 0 hl rfl dX11_search_52 ?_
      refine r_iload_n E 3 hl rfl dX11_search_53 ?_
      refine r_if_ne E 61 dX11_search_54 (by decide) (by omega) (fun c_54 => ?_) (fun c_54 => ?_)
      · skip
        refine r_aload_n E 0 hl rfl dX11_search_61 ?_
        refine r_get (v := .ref (ad 25)) E h h_mo rfl inn_X11_search_11 25 (by decide) fl_X11_search_54 rfl dX11_search_62 ?_
        refine r_iconst E dX11_search_65 ?_
        refine r_iald E h h_op (by omega) (by decide) dX11_search_66 ?_
        rw [show op2 0 = ol.getD 0 0 from (i3 0 (by omega) (by omega))]
        refine r_iconst E dX11_search_67 ?_
        refine r_isub E dX11_search_68 ?_
        exact kc_69 ((ol.getD 0 0) - 1) H locs ls ⟨(by unfold farF; rw [if_pos (by omega)]), h, lv_sub hl [0, 1, 2, 3, 4, 5] rfl⟩
      · skip
        refine r_iload_n E 1 hl rfl dX11_search_57 ?_
        refine r_goto E 69 dX11_search_58 (by decide) ?_
        exact kc_69 to9 H locs ls ⟨(by unfold farF; rw [if_neg (by omega)]), h, lv_sub hl [0, 1, 2, 3, 4, 5] rfl⟩
  · skip
    have hcx := hA.c4 x (by omega) (by omega)
    have eop : opL (cl da) (x + 1 - 1).toNat = opL (cl da) (x - 1).toNat ++ (if da (29 + x) = 0 then [x] else []) := by
      rw [show (x + 1 - 1).toNat = (x - 1).toNat + 1 by omega]
      show opL (cl da) (x - 1).toNat ++ (if cl da (((x - 1).toNat : Int) + 1) = 0 then [((x - 1).toNat : Int) + 1] else []) = _
      rw [show (((x - 1).toNat : Int) + 1) = x by omega]
      rfl
    have hle9 := opL_len (e := cl da) (x - 1).toNat
    refine r_aload_n E 0 hl rfl dX11_search_17 ?_
    refine r_iload E 6 hl rfl dX11_search_18 ?_
    refine r_callVI E h (As := [.int (zI x)]) (rest := []) (k_X11_colourOf l x h_mo h_da (by omega)) h_mo rfl gX11_search_X11_colourOf rfl hd_X11_colourOf (by decide) ⟨by decide, by decide⟩ hl.1 rfl (Nat.le_of_ble_eq_true rfl) dX11_search_20 rfl (fun z_20 ws H locs hp h => ?_)
    obtain ⟨rfl, rfl⟩ := hp
    refine r_iconst E dX11_search_23 ?_
    refine r_icmp_eq E 30 dX11_search_24 (by decide) (by omega) (fun c_24 => ?_) (fun c_24 => ?_)
    · skip
      refine r_aload_n E 0 hl rfl dX11_search_30 ?_
      refine r_get (v := .ref (ad 25)) E h h_mo rfl inn_X11_search_11 25 (by decide) fl_X11_search_54 rfl dX11_search_31 ?_
      refine r_iload_n E 3 hl rfl dX11_search_34 ?_
      refine r_iload E 6 hl rfl dX11_search_35 ?_
      refine r_iast E h h_op (by omega) (by decide) dX11_search_37 (fun ws H locs h hu => ?_)
      have h_mo := hu.keep h_mo (by omega)
      have h_da := hu.keep h_da (by omega)
      have h_me := hu.keep h_me (by omega)
      have h_le := hu.keep h_le (by omega)
      have h_fo := hu.keep h_fo (by omega)
      have h_wn := hu.keep h_wn (by omega)
      have h_op : ws[b + 21]? = some (ad 25, aI cy 40 (uZ op2 n9 x)) := hu.1
      have hE := hE.tr (hu.eqx (by first | omega | (dsimp only <;> omega)))
      refine r_iinc (lv' := [(3, .int (zI (n9 + 1))), (0, .ref aM), (1, .int (zI to9)), (2, .int (zI mo9)), (4, .int (zI 0)), (5, .int (zI 0)), (6, .int (zI x))]) E 3 hl rfl dX11_search_38 (by decide) rfl (fun ls hl => ?_)
      have hN : n9 + 1 = ((opL (cl da) (x + 1 - 1).toNat).length : Int) ∧ ∀ j : Int, 0 ≤ j → j < n9 + 1 → (uZ op2 n9 x) j = (opL (cl da) (x + 1 - 1).toNat).getD j.toNat 0 := by
        rw [eop, if_pos (by omega)]
        refine ⟨by simp only [List.length_append, List.length_cons, List.length_nil]; omega, fun j h0 h1 => ?_⟩
        by_cases e9 : j = n9
        · rw [e9, uZ_s, show n9.toNat = (opL (cl da) (x - 1).toNat).length by omega, getD_app_x]
        · rw [uZ_n e9, getD_app_l (by omega)]
          exact i3 j h0 (by omega)
      refine r_iinc (lv' := [(6, .int (zI (x + 1))), (3, .int (zI (n9 + 1))), (0, .ref aM), (1, .int (zI to9)), (2, .int (zI mo9)), (4, .int (zI 0)), (5, .int (zI 0))]) E 6 hl rfl dX11_search_41 (by decide) rfl (fun ls hl => ?_)
      refine r_goto E 11 dX11_search_44 (by decide) ?_
      exact ih_11 _ H locs ls (by omega) ⟨ws, (n9 + 1), (x + 1), (uZ op2 n9 x), rfl, (by omega), hN.1, hN.2, h, h_mo, h_da, h_me, h_le, h_fo, h_wn, h_op, hE, lv_sub hl [2, 3, 4, 1, 5, 6, 0] rfl⟩
    · skip
      refine r_goto E 41 dX11_search_27 (by decide) ?_
      have hN : n9 = ((opL (cl da) (x + 1 - 1).toNat).length : Int) ∧ ∀ j : Int, 0 ≤ j → j < n9 → op2 j = (opL (cl da) (x + 1 - 1).toNat).getD j.toNat 0 := by
        rw [eop, if_neg (by omega), List.append_nil]
        exact ⟨i2, i3⟩
      refine r_iinc (lv' := [(6, .int (zI (x + 1))), (0, .ref aM), (1, .int (zI to9)), (2, .int (zI mo9)), (3, .int (zI n9)), (4, .int (zI 0)), (5, .int (zI 0))]) E 6 hl rfl dX11_search_41 (by decide) rfl (fun ls hl => ?_)
      refine r_goto E 11 dX11_search_44 (by decide) ?_
      exact ih_11 _ H locs ls (by omega) ⟨ws, n9, (x + 1), op2, rfl, (by omega), hN.1, hN.2, h, h_mo, h_da, h_me, h_le, h_fo, h_wn, h_op, hE, lv_sub hl [1, 2, 3, 4, 5, 6, 0] rfl⟩
