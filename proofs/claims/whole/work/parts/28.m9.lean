theorem srch_rng {d : Int → Int} {ol : List Int} {most : Int} : ∀ (f at9 : Nat) (from9 tr : Int) (dp : Nat) (da : Int → Int), (0 ≤ tr ∧ tr ≤ most) → -2 ≤ (srch d ol most f at9 from9 tr dp da).1 ∧ (srch d ol most f at9 from9 tr dp da).1 ≤ most
  | 0, at9, from9, tr, dp, da, h => by show -2 ≤ (-2 : Int) ∧ (-2 : Int) ≤ most; omega
  | f + 1, at9, from9, tr, dp, da, h => by
    simp only [srch]
    by_cases a : at9 < ol.length
    · rw [if_pos a]
      by_cases b : nxt da from9 = da 1
      · rw [if_pos b]
        by_cases c : at9 = 0
        · rw [if_pos c]; show -2 ≤ (-1 : Int) ∧ (-1 : Int) ≤ most; omega
        · rw [if_neg c]; exact srch_rng f _ _ _ _ _ h
      · rw [if_neg b]
        by_cases c : tr = most
        · rw [if_pos c]; show -2 ≤ (-2 : Int) ∧ (-2 : Int) ≤ most; omega
        · rw [if_neg c]
          by_cases e : alw d (cl da) (ol.getD at9 0) (nxt da from9) = true
          · rw [if_pos e]; exact srch_rng f _ _ _ _ _ (by omega)
          · rw [if_neg e]; exact srch_rng f _ _ _ _ _ (by omega)
    · rw [if_neg a]; show -2 ≤ tr ∧ tr ≤ most; omega
theorem hd_X11_noSearch : yX11_noSearch.cls = RX11 ∧ yX11_noSearch.cls ≠ "java/lang/invoke/MethodHandle" ∧ yX11_noSearch.cls ≠ "java/lang/invoke/VarHandle" ∧ (parseMethodDescriptor yX11_noSearch.desc).map (fun d => d.parameters.length) = some 2 := by decide +kernel
abbrev rm_X11_noSearch : Room := { frames := 2, cells := 0, slots := 0, locals := 43 }
set_option maxHeartbeats 4000000 in
set_option maxRecDepth 100000 in
theorem k_X11_noSearch (l : Launch) {G : va_G} {cy : Nat → ClassId} {ws0 : va_W} {b aM : Nat} {I : Nat → Int} {ad : Nat → Nat} {da : Int → Int} (x y : Int) (h_mo : ws0[b]? = some (aM, mO I ad)) (h_da : ws0[b + 2]? = some (ad 8, aI cy 1111 da)) (hx : (-2147483648 ≤ x ∧ x ≤ 2147483647) ∧ (-2147483648 ≤ y ∧ y ≤ 2147483647)) (hn0 : 0 ≤ da 0 ∧ da 0 ≤ 40) (hI : I 0 = 0) : MI l yX11_noSearch wsX11_noSearch rm_X11_noSearch G cy [.ref aM, .int (zI x), .int (zI y)] ws0 (fun z u => ∃ t : Int, ((1 ≤ x ∧ x ≤ da 0) ∧ (1 ≤ y ∧ y ≤ 3000) ∧ z = 0 ∧ t = 0 ∨ (x < 1 ∨ da 0 < x) ∧ z = 1 ∧ t = 1 ∨ (1 ≤ x ∧ x ≤ da 0) ∧ (y < 1 ∨ 3000 < y) ∧ z = 1 ∧ t = 2) ∧ u[b]? = some (aM, mO (va_up I 0 t) ad) ∧ Eqx ws0 u (fun j => j = b)) := by
  refine MI.of (own := RX11) (cc := cX11_noSearch) (nL := 3) (ret := (some .boolean)) (by decide) rfl rfl (Nat.le_of_ble_eq_true rfl) ?_
  intro p e s m below meth c A ls E h hl
  have hl : lv_has ls 3 [(0, .ref aM), (1, .int (zI x)), (2, .int (zI y))] := hl
  have hE : Eqx ws0 ws0 (fun j => j = b) := Eqx.rf
  refine r_aload_n E 0 hl rfl dX11_noSearch_0 ?_
  refine r_iload_n E 1 hl rfl dX11_noSearch_1 ?_
  refine r_callVI E h (As := [.int (zI x)]) (rest := []) (k_X11_noNumber l x h_mo h_da (by omega) hn0 hI) h_mo rfl gX11_noSearch_X11_noNumber rfl hd_X11_noNumber (by decide) ⟨by decide, by decide⟩ hl.1 rfl (Nat.le_of_ble_eq_true rfl) dX11_noSearch_2 rfl (fun z_2 ws H locs hp h => ?_)
  obtain ⟨t_2, e_2, h_mo, hf⟩ := hp
  have h_da := hf.at h_da (by first | omega | (dsimp only <;> omega))
  have hE := hE.tr (hf.wk (fun j hj => by first | omega | (dsimp only at hj ⊢ <;> omega)))
  refine r_if_ne E 32 dX11_noSearch_5 (by decide) (by omega) (fun c_5 => ?_) (fun c_5 => ?_)
  · skip
    refine r_iconst E dX11_noSearch_32 ?_
    refine r_goto E 37 dX11_noSearch_33 (by decide) ?_
    exact r_zret E h (by omega) ⟨t_2, by omega, h_mo, hE⟩ dX11_noSearch_37
  · skip
    refine r_aload_n E 0 hl rfl dX11_noSearch_8 ?_
    refine r_iload_n E 2 hl rfl dX11_noSearch_9 ?_
    refine r_iconst E dX11_noSearch_10 ?_
    refine r_sipush E dX11_noSearch_11 (by decide) ?_
    refine r_callSI E h (As := [.int (zI y), .int (zI 1), .int (zI 3000)]) (rest := [.ref aM]) (k_X11_in l y 1 3000 (by omega)) gX11_noSearch_X11_in rfl hd_X11_in (by decide) ⟨by decide, by decide⟩ hl.1 rfl (Nat.le_of_ble_eq_true rfl) dX11_noSearch_14 rfl (fun z_14 ws H locs hp h => ?_)
    obtain ⟨e_z_14, rfl⟩ := hp
    refine r_cut (α := Int) (fun x_17 H locs ls => (x_17 = 0 ∧ ¬ z_14 = 0 ∨ x_17 = 1 ∧ z_14 = 0) ∧ Hp G ws A s.heap H locs ∧ lv_has ls 3 [(0, .ref aM), (1, .int (zI x)), (2, .int (zI y))]) 25 (fun x_17 => [.int (zI x_17), .ref aM]) ?_ ?_
    · rintro x_17 H locs ls ⟨b_17, h, hl⟩
      refine r_iconst E dX11_noSearch_25 ?_
      refine r_callVI E h (As := [.int (zI x_17), .int (zI 2)]) (rest := []) (k_X11_fails l x_17 2 h_mo (by omega) (by omega) (by first | rfl | (simp [va_up]; done) | (simp [va_up]; omega))) h_mo rfl gX11_noSearch_X11_fails rfl hd_X11_fails (by decide) ⟨by decide, by decide⟩ hl.1 rfl (Nat.le_of_ble_eq_true rfl) dX11_noSearch_26 rfl (fun z_26 ws H locs hp h => ?_)
      obtain ⟨t_26, e_26, h_mo, hf⟩ := hp
      have h_da := hf.at h_da (by first | omega | (dsimp only <;> omega))
      have hE := hE.tr (hf.wk (fun j hj => by first | omega | (dsimp only at hj ⊢ <;> omega)))
      refine r_if_eq E 36 dX11_noSearch_29 (by decide) (by omega) (fun c_29 => ?_) (fun c_29 => ?_)
      · skip
        rw [bx_uu] at h_mo
        refine r_iconst E dX11_noSearch_36 ?_
        exact r_zret E h (by omega) ⟨t_26, by omega, h_mo, hE⟩ dX11_noSearch_37
      · skip
        refine r_iconst E dX11_noSearch_32 ?_
        refine r_goto E 37 dX11_noSearch_33 (by decide) ?_
        exact r_zret E h (by omega) ⟨t_26, by omega, (by rw [bx_uu] at h_mo; exact h_mo), hE⟩ dX11_noSearch_37
    · intro kb_17
      refine r_if_ne E 24 dX11_noSearch_17 (by decide) (by omega) (fun c_17 => ?_) (fun c_17 => ?_)
      · refine r_iconst E dX11_noSearch_24 ?_
        exact kb_17 _ H locs ls ⟨Or.inl ⟨rfl, c_17⟩, h, hl⟩
      · refine r_iconst E dX11_noSearch_20 ?_
        refine r_goto E 25 dX11_noSearch_21 (by decide) ?_
        exact kb_17 _ H locs ls ⟨Or.inr ⟨rfl, c_17⟩, h, hl⟩
theorem hd_X11_canExtend : yX11_canExtend.cls = RX11 ∧ yX11_canExtend.cls ≠ "java/lang/invoke/MethodHandle" ∧ yX11_canExtend.cls ≠ "java/lang/invoke/VarHandle" ∧ (parseMethodDescriptor yX11_canExtend.desc).map (fun d => d.parameters.length) = some 2 := by decide +kernel
theorem fl_X11_canExtend_57 : Cond.fieldLink RX11 57 (TX11 0).1 (TX11 0).2.1 (TX11 0).2.2.1 ∈ wsX11_canExtend := List.mem_of_getElem? (i := 1) rfl
theorem inn_X11_canExtend_11 : ∀ w ∈ wsX110, w ∈ wsX11_canExtend := fun _ h => List.mem_cons_of_mem _ (List.mem_append_right _ h)
theorem fl_X11_canExtend_17 : Cond.fieldLink RX11 17 (TX11 8).1 (TX11 8).2.1 (TX11 8).2.2.1 ∈ wsX11_canExtend := List.mem_of_getElem? (i := 2) rfl
theorem fl_X11_canExtend_23 : Cond.fieldLink RX11 23 (TX11 10).1 (TX11 10).2.1 (TX11 10).2.2.1 ∈ wsX11_canExtend := List.mem_of_getElem? (i := 3) rfl
abbrev rm_X11_canExtend : Room := { frames := 4, cells := 0, slots := 0, locals := 95 }
set_option maxHeartbeats 4000000 in
set_option maxRecDepth 100000 in
theorem k_X11_canExtend (l : Launch) {G : va_G} {cy : Nat → ClassId} {ws0 : va_W} {b aM : Nat} {I : Nat → Int} {ad : Nat → Nat} {ke : Int → Int} {st : Int → Int64} {op : Int → Int} {me : Int → Int} {le : Int → Int} {fo : Int → Int} {wn : Int → Int} {d : Int → Int} {T : List Int} {ru so : Int → Int} (x y : Int) (h_mo : ws0[b]? = some (aM, mO I ad)) (h_da : ws0[b + 2]? = some (ad 8, aI cy 1111 d)) (h_ke : ws0[b + 4]? = some (ad 10, aI cy 1111 ke)) (h_st : ws0[b + 20]? = some (ad 22, aL cy 1000 st)) (h_op : ws0[b + 21]? = some (ad 25, aI cy 40 op)) (h_me : ws0[b + 14]? = some (ad 15, aI cy 38400 me)) (h_le : ws0[b + 15]? = some (ad 16, aI cy 6400 le)) (h_fo : ws0[b + 18]? = some (ad 20, aI cy 42 fo)) (h_wn : ws0[b + 19]? = some (ad 21, aI cy 38400 wn)) (hD : DW d T) (hL : LW d me le ru so fo wn (I 19)) (hx : (-2147483648 ≤ x ∧ x ≤ 2147483647) ∧ (-2147483648 ≤ y ∧ y ≤ 2147483647)) : MI l yX11_canExtend wsX11_canExtend rm_X11_canExtend G cy [.ref aM, .int (zI x), .int (zI y)] ws0 (fun z u => ∃ t : Int, ((1 ≤ x ∧ x ≤ d 0) ∧ (1 ≤ y ∧ y ≤ 3000) ∧ t = 0 ∧ z = (SR d x y).1 ∨ (x < 1 ∨ d 0 < x) ∧ t = 1 ∨ (1 ≤ x ∧ x ≤ d 0) ∧ (y < 1 ∨ 3000 < y) ∧ t = 2) ∧ MRO cy b aM ad I d ws0 u t) := by
  refine MI.of (own := RX11) (cc := cX11_canExtend) (nL := 4) (ret := (some .int)) (by decide) rfl rfl (Nat.le_of_ble_eq_true rfl) ?_
  intro p e s m below meth c A ls E h hl
  have hl : lv_has ls 4 [(0, .ref aM), (1, .int (zI x)), (2, .int (zI y))] := hl
  have hE : Eqx ws0 ws0 (fun j => j = b ∨ j = b + 2 ∨ j = b + 4 ∨ j = b + 20 ∨ j = b + 21) := Eqx.rf
  have hn9 := hD.n
  have hk9 := hD.k
  have hr9 := hD.nr
  refine r_aload_n E 0 hl rfl dX11_canExtend_0 ?_
  refine r_iconst E dX11_canExtend_1 ?_
  refine r_put E h h_mo rfl inn_X11_canExtend_11 0 (by decide) fl_X11_canExtend_57 tyX11 tyX11_ok nmX11 rfl rfl rfl (Nat.le_of_ble_eq_true rfl) dX11_canExtend_2 (fun ws H locs h hu => ?_)
  have h_mo : ws[b]? = some (aM, mO (va_up I 0 0) ad) := hu.1
  have h_da := hu.keep h_da (by omega)
  have h_ke := hu.keep h_ke (by omega)
  have h_st := hu.keep h_st (by omega)
  have h_op := hu.keep h_op (by omega)
  have h_me := hu.keep h_me (by omega)
  have h_le := hu.keep h_le (by omega)
  have h_fo := hu.keep h_fo (by omega)
  have h_wn := hu.keep h_wn (by omega)
  have hE := hE.tr (hu.eqx (by first | omega | (dsimp only <;> omega)))
  refine r_aload_n E 0 hl rfl dX11_canExtend_5 ?_
  refine r_iload_n E 1 hl rfl dX11_canExtend_6 ?_
  refine r_iload_n E 2 hl rfl dX11_canExtend_7 ?_
  refine r_callVI E h (As := [.int (zI x), .int (zI y)]) (rest := []) (k_X11_noSearch l x y h_mo h_da (by omega) (by have := hD.n; omega) (by first | rfl | (simp [va_up]; done))) h_mo rfl gX11_canExtend_X11_noSearch rfl hd_X11_noSearch (by decide) ⟨by decide, by decide⟩ hl.1 rfl (Nat.le_of_ble_eq_true rfl) dX11_canExtend_8 rfl (fun z_8 ws H locs hp h => ?_)
  obtain ⟨t_8, e_8, h_mo, hf⟩ := hp
  have h_da := hf.at h_da (by first | omega | (dsimp only <;> omega))
  have h_ke := hf.at h_ke (by first | omega | (dsimp only <;> omega))
  have h_st := hf.at h_st (by first | omega | (dsimp only <;> omega))
  have h_op := hf.at h_op (by first | omega | (dsimp only <;> omega))
  have h_me := hf.at h_me (by first | omega | (dsimp only <;> omega))
  have h_le := hf.at h_le (by first | omega | (dsimp only <;> omega))
  have h_fo := hf.at h_fo (by first | omega | (dsimp only <;> omega))
  have h_wn := hf.at h_wn (by first | omega | (dsimp only <;> omega))
  have hE := hE.tr (hf.wk (fun j hj => by first | omega | (dsimp only at hj ⊢ <;> omega)))
  refine r_if_eq E 16 dX11_canExtend_11 (by decide) (by omega) (fun c_11 => ?_) (fun c_11 => ?_)
  · skip
    refine r_aload_n E 0 hl rfl dX11_canExtend_16 ?_
    refine r_get (v := .ref (ad 8)) E h h_mo rfl inn_X11_canExtend_11 8 (by decide) fl_X11_canExtend_17 rfl dX11_canExtend_17 ?_
    refine r_aload_n E 0 hl rfl dX11_canExtend_20 ?_
    refine r_get (v := .ref (ad 10)) E h h_mo rfl inn_X11_canExtend_11 10 (by decide) fl_X11_canExtend_23 rfl dX11_canExtend_21 ?_
    refine r_callSV E h (As := [.ref (ad 8), .ref (ad 10)]) (rest := []) (k_X11_copy l h_da h_ke (by omega)) gX11_canExtend_X11_copy rfl hd_X11_copy (by decide) ⟨by decide, by decide⟩ hl.1 rfl (Nat.le_of_ble_eq_true rfl) dX11_canExtend_24 rfl (fun ws H locs hp h => ?_)
    obtain ⟨h_ke, hf⟩ := hp
    have h_mo := hf.at h_mo (by first | omega | (dsimp only <;> omega))
    have h_da := hf.at h_da (by first | omega | (dsimp only <;> omega))
    have h_st := hf.at h_st (by first | omega | (dsimp only <;> omega))
    have h_op := hf.at h_op (by first | omega | (dsimp only <;> omega))
    have h_me := hf.at h_me (by first | omega | (dsimp only <;> omega))
    have h_le := hf.at h_le (by first | omega | (dsimp only <;> omega))
    have h_fo := hf.at h_fo (by first | omega | (dsimp only <;> omega))
    have h_wn := hf.at h_wn (by first | omega | (dsimp only <;> omega))
    have hE := hE.tr (hf.wk (fun j hj => by first | omega | (dsimp only at hj ⊢ <;> omega)))
    refine r_aload_n E 0 hl rfl dX11_canExtend_27 ?_
    refine r_iload_n E 1 hl rfl dX11_canExtend_28 ?_
    refine r_iload_n E 2 hl rfl dX11_canExtend_29 ?_
    refine r_callVI E h (As := [.int (zI x), .int (zI y)]) (rest := []) (k_X11_search l x y h_mo h_da h_me h_le h_fo h_wn h_op hD hD (by first | exact hL | (simp only [va_up]; exact hL)) (by omega) (by omega) rfl) h_mo rfl gX11_canExtend_X11_search rfl hd_X11_search (by decide) ⟨by decide, by decide⟩ hl.1 rfl (Nat.le_of_ble_eq_true rfl) dX11_canExtend_30 rfl (fun z_30 ws H locs hp h => ?_)
    obtain ⟨e_30, I_30, op_30, h_mo, h_da, h_op, ⟨f_30, g_30⟩, hf⟩ := hp
    have h_ke := hf.at h_ke (by first | omega | (dsimp only <;> omega))
    have h_st := hf.at h_st (by first | omega | (dsimp only <;> omega))
    have h_me := hf.at h_me (by first | omega | (dsimp only <;> omega))
    have h_le := hf.at h_le (by first | omega | (dsimp only <;> omega))
    have h_fo := hf.at h_fo (by first | omega | (dsimp only <;> omega))
    have h_wn := hf.at h_wn (by first | omega | (dsimp only <;> omega))
    have hE := hE.tr (hf.wk (fun j hj => by first | omega | (dsimp only at hj ⊢ <;> omega)))
    refine r_istore_n (lv' := [(3, .int (zI z_30)), (0, .ref aM), (1, .int (zI x)), (2, .int (zI y))]) E hl dX11_canExtend_33 rfl (by decide) rfl (fun ls hl => ?_)
    refine r_aload_n E 1 hl rfl dX11_canExtend_34 ?_
    refine r_get (v := .ref (ad 10)) E h h_mo rfl inn_X11_canExtend_11 10 (by decide) fl_X11_canExtend_23 rfl dX11_canExtend_35 ?_
    refine r_aload_n E 1 hl rfl dX11_canExtend_38 ?_
    refine r_get (v := .ref (ad 8)) E h h_mo rfl inn_X11_canExtend_11 8 (by decide) fl_X11_canExtend_17 rfl dX11_canExtend_39 ?_
    refine r_callSV E h (As := [.ref (ad 10), .ref (ad 8)]) (rest := []) (k_X11_copy l h_ke h_da (by omega)) gX11_canExtend_X11_copy rfl hd_X11_copy (by decide) ⟨by decide, by decide⟩ hl.1 rfl (Nat.le_of_ble_eq_true rfl) dX11_canExtend_42 rfl (fun ws H locs hp h => ?_)
    obtain ⟨h_da, hf⟩ := hp
    have h_mo := hf.at h_mo (by first | omega | (dsimp only <;> omega))
    have h_ke := hf.at h_ke (by first | omega | (dsimp only <;> omega))
    have h_st := hf.at h_st (by first | omega | (dsimp only <;> omega))
    have h_op := hf.at h_op (by first | omega | (dsimp only <;> omega))
    have h_me := hf.at h_me (by first | omega | (dsimp only <;> omega))
    have h_le := hf.at h_le (by first | omega | (dsimp only <;> omega))
    have h_fo := hf.at h_fo (by first | omega | (dsimp only <;> omega))
    have h_wn := hf.at h_wn (by first | omega | (dsimp only <;> omega))
    have hE := hE.tr (hf.wk (fun j hj => by first | omega | (dsimp only at hj ⊢ <;> omega)))
    refine r_iload_n E 0 hl rfl dX11_canExtend_45 ?_
    rw [← SR_sr (by omega)] at e_30
    exact r_iret E h ⟨t_8, by omega, I_30, d, st, op_30, h_mo, h_da, h_ke, h_st, h_op, (by first | (rw [g_30 0 (by decide) (by decide)]; simp [va_up]; done) | rfl | (simp [va_up]; done)), (fun k h0 h1 h2 h3 h4 => by first | (rw [g_30 k h1 h2]; simp [va_up, h0]; done) | simp [va_up, h0]), hE⟩ dX11_canExtend_46
  · skip
    refine r_iconst E dX11_canExtend_14 ?_
    exact r_iret E h ⟨t_8, by omega, va_up (va_up I 0 0) 0 t_8, ke, st, op, h_mo, h_da, h_ke, h_st, h_op, (by first | (rw [g_30 0 (by decide) (by decide)]; simp [va_up]; done) | rfl | (simp [va_up]; done)), (fun k h0 h1 h2 h3 h4 => by first | (rw [g_30 k h1 h2]; simp [va_up, h0]; done) | simp [va_up, h0]), hE⟩ dX11_canExtend_15
theorem hd_X11_longest : yX11_longest.cls = RX11 ∧ yX11_longest.cls ≠ "java/lang/invoke/MethodHandle" ∧ yX11_longest.cls ≠ "java/lang/invoke/VarHandle" ∧ (parseMethodDescriptor yX11_longest.desc).map (fun d => d.parameters.length) = some 1 := by decide +kernel
theorem fl_X11_longest_57 : Cond.fieldLink RX11 57 (TX11 0).1 (TX11 0).2.1 (TX11 0).2.2.1 ∈ wsX11_longest := List.mem_of_getElem? (i := 1) rfl
theorem inn_X11_longest_11 : ∀ w ∈ wsX110, w ∈ wsX11_longest := fun _ h => List.mem_cons_of_mem _ (List.mem_append_right _ h)
theorem fl_X11_longest_17 : Cond.fieldLink RX11 17 (TX11 8).1 (TX11 8).2.1 (TX11 8).2.2.1 ∈ wsX11_longest := List.mem_of_getElem? (i := 2) rfl
theorem fl_X11_longest_23 : Cond.fieldLink RX11 23 (TX11 10).1 (TX11 10).2.1 (TX11 10).2.2.1 ∈ wsX11_longest := List.mem_of_getElem? (i := 3) rfl
theorem fl_X11_longest_242 : Cond.fieldLink RX11 242 (TX11 24).1 (TX11 24).2.1 (TX11 24).2.2.1 ∈ wsX11_longest := List.mem_of_getElem? (i := 4) rfl
abbrev rm_X11_longest : Room := { frames := 4, cells := 0, slots := 0, locals := 95 }
set_option maxHeartbeats 4000000 in
set_option maxRecDepth 100000 in
theorem k_X11_longest (l : Launch) {G : va_G} {cy : Nat → ClassId} {ws0 : va_W} {b aM : Nat} {I : Nat → Int} {ad : Nat → Nat} {ke : Int → Int} {st : Int → Int64} {op : Int → Int} {me : Int → Int} {le : Int → Int} {fo : Int → Int} {wn : Int → Int} {d : Int → Int} {T : List Int} {ru so : Int → Int} (y : Int) (h_mo : ws0[b]? = some (aM, mO I ad)) (h_da : ws0[b + 2]? = some (ad 8, aI cy 1111 d)) (h_ke : ws0[b + 4]? = some (ad 10, aI cy 1111 ke)) (h_st : ws0[b + 20]? = some (ad 22, aL cy 1000 st)) (h_op : ws0[b + 21]? = some (ad 25, aI cy 40 op)) (h_me : ws0[b + 14]? = some (ad 15, aI cy 38400 me)) (h_le : ws0[b + 15]? = some (ad 16, aI cy 6400 le)) (h_fo : ws0[b + 18]? = some (ad 20, aI cy 42 fo)) (h_wn : ws0[b + 19]? = some (ad 21, aI cy 38400 wn)) (hD : DW d T) (hL : LW d me le ru so fo wn (I 19)) (hx : (-2147483648 ≤ y ∧ y ≤ 2147483647)) : MI l yX11_longest wsX11_longest rm_X11_longest G cy [.ref aM, .int (zI y)] ws0 (fun z u => ∃ t : Int, ((1 ≤ y ∧ y ≤ 3000) ∧ t = 0 ∧ z = lng d y ∨ (y < 1 ∨ 3000 < y) ∧ t = 1) ∧ MRO cy b aM ad I d ws0 u t) := by
  refine MI.of (own := RX11) (cc := cX11_longest) (nL := 3) (ret := (some .int)) (by decide) rfl rfl (Nat.le_of_ble_eq_true rfl) ?_
  intro p e s m below meth c A ls E h hl
  have hl : lv_has ls 3 [(0, .ref aM), (1, .int (zI y))] := hl
  have hE : Eqx ws0 ws0 (fun j => j = b ∨ j = b + 2 ∨ j = b + 4 ∨ j = b + 20 ∨ j = b + 21) := Eqx.rf
  have hn9 := hD.n
  have hk9 := hD.k
  have hr9 := hD.nr
  refine r_aload_n E 0 hl rfl dX11_longest_0 ?_
  refine r_iconst E dX11_longest_1 ?_
  refine r_put E h h_mo rfl inn_X11_longest_11 0 (by decide) fl_X11_longest_57 tyX11 tyX11_ok nmX11 rfl rfl rfl (Nat.le_of_ble_eq_true rfl) dX11_longest_2 (fun ws H locs h hu => ?_)
  have h_mo : ws[b]? = some (aM, mO (va_up I 0 0) ad) := hu.1
  have h_da := hu.keep h_da (by omega)
  have h_ke := hu.keep h_ke (by omega)
  have h_st := hu.keep h_st (by omega)
  have h_op := hu.keep h_op (by omega)
  have h_me := hu.keep h_me (by omega)
  have h_le := hu.keep h_le (by omega)
  have h_fo := hu.keep h_fo (by omega)
  have h_wn := hu.keep h_wn (by omega)
  have hE := hE.tr (hu.eqx (by first | omega | (dsimp only <;> omega)))
  refine r_aload_n E 0 hl rfl dX11_longest_5 ?_
  refine r_iload_n E 1 hl rfl dX11_longest_6 ?_
  refine r_iconst E dX11_longest_7 ?_
  refine r_sipush E dX11_longest_8 (by decide) ?_
  refine r_callSI E h (As := [.int (zI y), .int (zI 1), .int (zI 3000)]) (rest := [.ref aM]) (k_X11_in l y 1 3000 (by omega)) gX11_longest_X11_in rfl hd_X11_in (by decide) ⟨by decide, by decide⟩ hl.1 rfl (Nat.le_of_ble_eq_true rfl) dX11_longest_11 rfl (fun z_11 ws H locs hp h => ?_)
  obtain ⟨e_z_11, rfl⟩ := hp
  refine r_cut (α := Int) (fun x_14 H locs ls => (x_14 = 0 ∧ ¬ z_11 = 0 ∨ x_14 = 1 ∧ z_11 = 0) ∧ Hp G ws A s.heap H locs ∧ lv_has ls 3 [(0, .ref aM), (1, .int (zI y))]) 22 (fun x_14 => [.int (zI x_14), .ref aM]) ?_ ?_
  · rintro x_14 H locs ls ⟨b_14, h, hl⟩
    refine r_iconst E dX11_longest_22 ?_
    refine r_callVI E h (As := [.int (zI x_14), .int (zI 1)]) (rest := []) (k_X11_fails l x_14 1 h_mo (by omega) (by omega) (by first | rfl | (simp [va_up]; done) | (simp [va_up]; omega))) h_mo rfl gX11_longest_X11_fails rfl hd_X11_fails (by decide) ⟨by decide, by decide⟩ hl.1 rfl (Nat.le_of_ble_eq_true rfl) dX11_longest_23 rfl (fun z_23 ws H locs hp h => ?_)
    obtain ⟨t_23, e_23, h_mo, hf⟩ := hp
    have h_da := hf.at h_da (by first | omega | (dsimp only <;> omega))
    have h_ke := hf.at h_ke (by first | omega | (dsimp only <;> omega))
    have h_st := hf.at h_st (by first | omega | (dsimp only <;> omega))
    have h_op := hf.at h_op (by first | omega | (dsimp only <;> omega))
    have h_me := hf.at h_me (by first | omega | (dsimp only <;> omega))
    have h_le := hf.at h_le (by first | omega | (dsimp only <;> omega))
    have h_fo := hf.at h_fo (by first | omega | (dsimp only <;> omega))
    have h_wn := hf.at h_wn (by first | omega | (dsimp only <;> omega))
    have hE := hE.tr (hf.wk (fun j hj => by first | omega | (dsimp only at hj ⊢ <;> omega)))
    refine r_if_ne E 38 dX11_longest_26 (by decide) (by omega) (fun c_26 => ?_) (fun c_26 => ?_)
    · skip
      refine r_iconst E dX11_longest_38 ?_
      exact r_iret E h ⟨t_23, by first | exact Or.inr ⟨by omega, by omega⟩ | exact Or.inl ⟨by omega, by omega, by unfold lng; rw [if_pos (by omega)]⟩, va_up (va_up I 0 0) 0 t_23, ke, st, op, h_mo, h_da, h_ke, h_st, h_op, (by first | (rw [g_87 0 (by decide) (by decide)]; simp [va_up]; done) | rfl | (simp [va_up]; done)), (fun k h0 h1 h2 h3 h4 => by first | (rw [g_87 k h1 h2]; simp [va_up, h0]; done) | simp [va_up, h0]), hE⟩ dX11_longest_39
    · skip
      refine r_aload_n E 0 hl rfl dX11_longest_29 ?_
      refine r_get (v := .ref (ad 8)) E h h_mo rfl inn_X11_longest_11 8 (by decide) fl_X11_longest_17 rfl dX11_longest_30 ?_
      refine r_iconst E dX11_longest_33 ?_
      refine r_iald E h h_da (by omega) (by decide) dX11_longest_34 ?_
      refine r_if_ne E 40 dX11_longest_35 (by decide) (by omega) (fun c_35 => ?_) (fun c_35 => ?_)
      · skip
        refine r_aload_n E 0 hl rfl dX11_longest_40 ?_
        refine r_get (v := .ref (ad 8)) E h h_mo rfl inn_X11_longest_11 8 (by decide) fl_X11_longest_17 rfl dX11_longest_41 ?_
        refine r_aload_n E 0 hl rfl dX11_longest_44 ?_
        refine r_get (v := .ref (ad 10)) E h h_mo rfl inn_X11_longest_11 10 (by decide) fl_X11_longest_23 rfl dX11_longest_45 ?_
        refine r_callSV E h (As := [.ref (ad 8), .ref (ad 10)]) (rest := []) (k_X11_copy l h_da h_ke (by omega)) gX11_longest_X11_copy rfl hd_X11_copy (by decide) ⟨by decide, by decide⟩ hl.1 rfl (Nat.le_of_ble_eq_true rfl) dX11_longest_48 rfl (fun ws H locs hp h => ?_)
        obtain ⟨h_ke, hf⟩ := hp
        have h_mo := hf.at h_mo (by first | omega | (dsimp only <;> omega))
        have h_da := hf.at h_da (by first | omega | (dsimp only <;> omega))
        have h_st := hf.at h_st (by first | omega | (dsimp only <;> omega))
        have h_op := hf.at h_op (by first | omega | (dsimp only <;> omega))
        have h_me := hf.at h_me (by first | omega | (dsimp only <;> omega))
        have h_le := hf.at h_le (by first | omega | (dsimp only <;> omega))
        have h_fo := hf.at h_fo (by first | omega | (dsimp only <;> omega))
        have h_wn := hf.at h_wn (by first | omega | (dsimp only <;> omega))
        have hE := hE.tr (hf.wk (fun j hj => by first | omega | (dsimp only at hj ⊢ <;> omega)))
        refine r_iconst E dX11_longest_51 ?_
        refine r_istore_n (lv' := [(2, .int (zI 1)), (0, .ref aM), (1, .int (zI y))]) E hl dX11_longest_52 rfl (by decide) rfl (fun ls hl => ?_)
        refine r_loop (fun n H locs ls => ∃ (ws : va_W) (x : Int) (da2 : Int → Int), n = (41 - x).toNat ∧ (1 ≤ x ∧ x ≤ d 0 + 1) ∧ (∀ j : Int, da2 j = if 30 ≤ j ∧ j < 29 + x then 0 else d j) ∧ Hp G ws A s.heap H locs ∧ (ws[b]? = some (aM, mO (va_up (va_up I 0 0) 0 t_23) ad)) ∧ (ws[b + 2]? = some (ad 8, aI cy 1111 da2)) ∧ (ws[b + 4]? = some (ad 10, aI cy 1111 d)) ∧ (ws[b + 20]? = some (ad 22, aL cy 1000 st)) ∧ (ws[b + 21]? = some (ad 25, aI cy 40 op)) ∧ (ws[b + 14]? = some (ad 15, aI cy 38400 me)) ∧ (ws[b + 15]? = some (ad 16, aI cy 6400 le)) ∧ (ws[b + 18]? = some (ad 20, aI cy 42 fo)) ∧ (ws[b + 19]? = some (ad 21, aI cy 38400 wn)) ∧ Eqx ws0 ws (fun j => j = b ∨ j = b + 2 ∨ j = b + 4 ∨ j = b + 20 ∨ j = b + 21) ∧ lv_has ls 3 [(0, .ref aM), (1, .int (zI y)), (2, .int (zI x))]) _ ⟨ws, 1, d, rfl, (by omega), (fun j => (if_neg (by omega)).symm), h, h_mo, h_da, h_ke, h_st, h_op, h_me, h_le, h_fo, h_wn, hE, lv_sub hl [1, 2, 0] rfl⟩ ?_
        rintro n H locs ls ⟨ws, x, da2, hn, i1, i2, h, h_mo, h_da, h_ke, h_st, h_op, h_me, h_le, h_fo, h_wn, hE, hl⟩ ih_53
        refine r_iload_n E 2 hl rfl dX11_longest_53 ?_
        refine r_aload_n E 0 hl rfl dX11_longest_54 ?_
        refine r_get (v := .ref (ad 8)) E h h_mo rfl inn_X11_longest_11 8 (by decide) fl_X11_longest_17 rfl dX11_longest_55 ?_
        refine r_iconst E dX11_longest_58 ?_
        refine r_iald E h h_da (by omega) (by decide) dX11_longest_59 ?_
        rw [show da2 0 = d 0 from (by rw [i2 0]; exact if_neg (by omega))]
        refine r_icmp_gt E 79 dX11_longest_60 (by decide) (by omega) (fun c_60 => ?_) (fun c_60 => ?_)
        · skip
          obtain rfl : da2 = blk d := by
            funext j
            rw [i2 j]
            unfold blk
            rw [show 29 + x = 30 + d 0 by omega]
          skip
          refine r_aload_n E 0 hl rfl dX11_longest_79 ?_
          refine r_aload_n E 0 hl rfl dX11_longest_80 ?_
          refine r_get (v := .ref (ad 8)) E h h_mo rfl inn_X11_longest_11 8 (by decide) fl_X11_longest_17 rfl dX11_longest_81 ?_
          refine r_iconst E dX11_longest_84 ?_
          refine r_iald E h h_da (by omega) (by decide) dX11_longest_85 ?_
          rw [show (blk d) 0 = d 0 from (by unfold blk; exact if_neg (by omega))]
          refine r_iload_n E 1 hl rfl dX11_longest_86 ?_
          refine r_callVI E h (As := [.int (zI (d 0)), .int (zI y)]) (rest := []) (k_X11_search l (d 0) y h_mo h_da h_me h_le h_fo h_wn h_op hD hD.toblk (by first | exact hL | (simp only [va_up]; exact hL)) (by omega) (by omega) (if_neg (by omega))) h_mo rfl gX11_longest_X11_search rfl hd_X11_search (by decide) ⟨by decide, by decide⟩ hl.1 rfl (Nat.le_of_ble_eq_true rfl) dX11_longest_87 rfl (fun z_87 ws H locs hp h => ?_)
          obtain ⟨e_87, I_87, op_87, h_mo, h_da, h_op, ⟨f_87, g_87⟩, hf⟩ := hp
          have h_ke := hf.at h_ke (by first | omega | (dsimp only <;> omega))
          have h_st := hf.at h_st (by first | omega | (dsimp only <;> omega))
          have h_me := hf.at h_me (by first | omega | (dsimp only <;> omega))
          have h_le := hf.at h_le (by first | omega | (dsimp only <;> omega))
          have h_fo := hf.at h_fo (by first | omega | (dsimp only <;> omega))
          have h_wn := hf.at h_wn (by first | omega | (dsimp only <;> omega))
          have hE := hE.tr (hf.wk (fun j hj => by first | omega | (dsimp only at hj ⊢ <;> omega)))
          refine r_istore_n (lv' := [(2, .int (zI z_87)), (0, .ref aM), (1, .int (zI y))]) E hl dX11_longest_90 rfl (by decide) rfl (fun ls hl => ?_)
          have hfr := farF_mono (ol := opL (cl (blk d)) (d 0).toNat) (to := d 0) (opL_asc _) (fun v hv => by have := (opL_mem.mp hv).2.1; omega) (Nat.zero_le (sr d (opL (cl (blk d)) (d 0).toNat) y 0 0 0 0 (blk d)).2.1)
          refine r_aload_n E 1 hl rfl dX11_longest_91 ?_
          refine r_get (v := .ref (ad 10)) E h h_mo rfl inn_X11_longest_11 10 (by decide) fl_X11_longest_23 rfl dX11_longest_92 ?_
          refine r_aload_n E 1 hl rfl dX11_longest_95 ?_
          refine r_get (v := .ref (ad 8)) E h h_mo rfl inn_X11_longest_11 8 (by decide) fl_X11_longest_17 rfl dX11_longest_96 ?_
          refine r_callSV E h (As := [.ref (ad 10), .ref (ad 8)]) (rest := []) (k_X11_copy l h_ke h_da (by omega)) gX11_longest_X11_copy rfl hd_X11_copy (by decide) ⟨by decide, by decide⟩ hl.1 rfl (Nat.le_of_ble_eq_true rfl) dX11_longest_99 rfl (fun ws H locs hp h => ?_)
          obtain ⟨h_da, hf⟩ := hp
          have h_mo := hf.at h_mo (by first | omega | (dsimp only <;> omega))
          have h_ke := hf.at h_ke (by first | omega | (dsimp only <;> omega))
          have h_st := hf.at h_st (by first | omega | (dsimp only <;> omega))
          have h_op := hf.at h_op (by first | omega | (dsimp only <;> omega))
          have h_me := hf.at h_me (by first | omega | (dsimp only <;> omega))
          have h_le := hf.at h_le (by first | omega | (dsimp only <;> omega))
          have h_fo := hf.at h_fo (by first | omega | (dsimp only <;> omega))
          have h_wn := hf.at h_wn (by first | omega | (dsimp only <;> omega))
          have hE := hE.tr (hf.wk (fun j hj => by first | omega | (dsimp only at hj ⊢ <;> omega)))
          refine r_iload_n E 0 hl rfl dX11_longest_102 ?_
          refine r_if_le E 115 dX11_longest_103 (by decide) (by have h9 := (srch_rng (d := d) (ol := opL (cl (blk d)) (d 0).toNat) (most := y) ((2 * (y - 0) + (0 : Nat)).toNat + 1) 0 0 0 0 (blk d) (by omega)); have h8 : z_87 = _ := e_87; unfold sr at h8; omega) (fun c_103 => ?_) (fun c_103 => ?_)
          · skip
            refine r_aload_n E 1 hl rfl dX11_longest_115 ?_
            refine r_get (v := .int (zI (I_87 24))) E h h_mo rfl inn_X11_longest_11 24 (by decide) fl_X11_longest_242 rfl dX11_longest_116 ?_
            exact r_iret E h ⟨t_23, Or.inl ⟨by omega, by omega, by unfold lng; rw [if_neg (by omega)]; first | (rw [if_pos (by omega)]) | (rw [if_neg (by omega)]; exact f_87)⟩, I_87, d, st, op_87, h_mo, h_da, h_ke, h_st, h_op, (by first | (rw [g_87 0 (by decide) (by decide)]; simp [va_up]; done) | rfl | (simp [va_up]; done)), (fun k h0 h1 h2 h3 h4 => by first | (rw [g_87 k h1 h2]; simp [va_up, h0]; done) | simp [va_up, h0]), hE⟩ dX11_longest_119
          · skip
            refine r_aload_n E 1 hl rfl dX11_longest_106 ?_
            refine r_get (v := .ref (ad 8)) E h h_mo rfl inn_X11_longest_11 8 (by decide) fl_X11_longest_17 rfl dX11_longest_107 ?_
            refine r_iconst E dX11_longest_110 ?_
            refine r_iald E h h_da (by omega) (by decide) dX11_longest_111 ?_
            refine r_goto E 119 dX11_longest_112 (by decide) ?_
            exact r_iret E h ⟨t_23, Or.inl ⟨by omega, by omega, by unfold lng; rw [if_neg (by omega)]; first | (rw [if_pos (by omega)]) | (rw [if_neg (by omega)]; exact f_87)⟩, I_87, d, st, op_87, h_mo, h_da, h_ke, h_st, h_op, (by first | (rw [g_87 0 (by decide) (by decide)]; simp [va_up]; done) | rfl | (simp [va_up]; done)), (fun k h0 h1 h2 h3 h4 => by first | (rw [g_87 k h1 h2]; simp [va_up, h0]; done) | simp [va_up, h0]), hE⟩ dX11_longest_119
        · skip
          refine r_aload_n E 0 hl rfl dX11_longest_63 ?_
          refine r_get (v := .ref (ad 8)) E h h_mo rfl inn_X11_longest_11 8 (by decide) fl_X11_longest_17 rfl dX11_longest_64 ?_
          refine r_bipush E dX11_longest_67 (by decide) ?_
          refine r_iload_n E 2 hl rfl dX11_longest_69 ?_
          refine r_iadd E dX11_longest_70 ?_
          refine r_iconst E dX11_longest_71 ?_
          refine r_iast E h h_da (by omega) (by decide) dX11_longest_72 (fun ws H locs h hu => ?_)
          have h_mo := hu.keep h_mo (by omega)
          have h_da : ws[b + 2]? = some (ad 8, aI cy 1111 (uZ da2 (29 + x) 0)) := hu.1
          have h_ke := hu.keep h_ke (by omega)
          have h_st := hu.keep h_st (by omega)
          have h_op := hu.keep h_op (by omega)
          have h_me := hu.keep h_me (by omega)
          have h_le := hu.keep h_le (by omega)
          have h_fo := hu.keep h_fo (by omega)
          have h_wn := hu.keep h_wn (by omega)
          have hE := hE.tr (hu.eqx (by first | omega | (dsimp only <;> omega)))
          refine r_iinc (lv' := [(2, .int (zI (x + 1))), (0, .ref aM), (1, .int (zI y))]) E 2 hl rfl dX11_longest_73 (by decide) rfl (fun ls hl => ?_)
          refine r_goto E 53 dX11_longest_76 (by decide) ?_
          exact ih_53 _ H locs ls (by omega) ⟨ws, (x + 1), (uZ da2 (29 + x) 0), rfl, (by omega), (fun j => by
    by_cases e : j = 29 + x
    · subst e; rw [uZ_s, if_pos (by omega)]
    · rw [uZ_n e, i2 j]
      by_cases c : 30 ≤ j ∧ j < 29 + x
      · rw [if_pos c, if_pos (by omega)]
      · rw [if_neg c, if_neg (by omega)]), h, h_mo, h_da, h_ke, h_st, h_op, h_me, h_le, h_fo, h_wn, hE, lv_sub hl [1, 2, 0] rfl⟩
      · skip
        refine r_iconst E dX11_longest_38 ?_
        exact r_iret E h ⟨t_23, by first | exact Or.inr ⟨by omega, by omega⟩ | exact Or.inl ⟨by omega, by omega, by unfold lng; rw [if_pos (by omega)]⟩, va_up (va_up I 0 0) 0 t_23, ke, st, op, h_mo, h_da, h_ke, h_st, h_op, (by first | (rw [g_87 0 (by decide) (by decide)]; simp [va_up]; done) | rfl | (simp [va_up]; done)), (fun k h0 h1 h2 h3 h4 => by first | (rw [g_87 k h1 h2]; simp [va_up, h0]; done) | simp [va_up, h0]), hE⟩ dX11_longest_39
  · intro kb_14
    refine r_if_ne E 21 dX11_longest_14 (by decide) (by omega) (fun c_14 => ?_) (fun c_14 => ?_)
    · refine r_iconst E dX11_longest_21 ?_
      exact kb_14 _ H locs ls ⟨Or.inl ⟨rfl, c_14⟩, h, hl⟩
    · refine r_iconst E dX11_longest_17 ?_
      refine r_goto E 22 dX11_longest_18 (by decide) ?_
      exact kb_14 _ H locs ls ⟨Or.inr ⟨rfl, c_14⟩, h, hl⟩
