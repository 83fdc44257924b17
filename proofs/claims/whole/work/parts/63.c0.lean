theorem hd_J7_fill_d0a16 : yJ7_fill_d0a16.cls ≠ "java/lang/invoke/MethodHandle" ∧ yJ7_fill_d0a16.cls ≠ "java/lang/invoke/VarHandle" ∧ (parseMethodDescriptor yJ7_fill_d0a16.desc).map (fun d => d.parameters.length) = some 2 := by decide +kernel
abbrev rm_J7_fill_d0a16 : Room := { frames := 0, cells := 0, slots := 0, locals := 0 }
set_option maxHeartbeats 1200000 in
set_option maxRecDepth 100000 in
theorem k_J7_fill_d0a16 (l : Launch) {G : va_G} {cy : Nat → ClassId} {ws0 : va_W} {qt at9 N : Nat} {g : Int → Int64} (v9 : Int64) (h_t : ws0[qt]? = some (at9, aL cy N g)) (hN : N ≤ 100000) : MV l yJ7_fill_d0a16 wsJ7_fill_d0a16 rm_J7_fill_d0a16 G cy [.ref at9, .long v9] ws0 (fun u => u[qt]? = some (at9, aL cy N (fun _ => v9)) ∧ Eqx ws0 u (fun j => j = qt)) := by
  refine MV.of (own := RJ7) (cc := cJ7_fill_d0a16) (nL := 5) (ret := none) (by decide) rfl rfl (Nat.le_of_ble_eq_true rfl) ?_
  intro p e s m below meth c A ls hin E h hl
  have hl : lv_has ls 5 [(0, .ref at9), (1, .long v9)] := hl
  have hE : Eqx ws0 ws0 (fun j => j = qt) := Eqx.rf
  refine r_iconst E dJ7_fill_d0a16_0 ?_
  refine r_istore_n (lv' := [(3, .int (zI 0)), (0, .ref at9), (1, .long v9)]) E hl dJ7_fill_d0a16_1 rfl (by decide) rfl (fun ls hl => ?_)
  refine r_aload_n E 1 hl rfl dJ7_fill_d0a16_2 ?_
  refine r_alen E h rfl h_t (v := N) rfl dJ7_fill_d0a16_3 ?_
  refine r_istore (lv' := [(4, .int (zI N)), (3, .int (zI 0)), (0, .ref at9), (1, .long v9)]) E hl dJ7_fill_d0a16_4 (by decide) rfl (fun ls hl => ?_)
  refine r_loop (fun n H locs ls => ∃ (ws : va_W) (k : Int) (g2 : Int → Int64), n = (N - k).toNat ∧ (0 ≤ k ∧ k ≤ N) ∧ (∀ j : Int, 0 ≤ j → j < k → g2 j = v9) ∧ Hp G ws A s.heap H locs ∧ (ws[qt]? = some (at9, aL cy N g2)) ∧ Eqx ws0 ws (fun j => j = qt) ∧ lv_has ls 5 [(0, .ref at9), (1, .long v9), (3, .int (zI k)), (4, .int (zI N))]) _ ⟨ws0, 0, g, rfl, (by omega), (fun j h0 h1 => absurd h1 (by omega)), h, h_t, hE, lv_sub hl [2, 3, 1, 0] rfl⟩ ?_
  rintro n H locs ls ⟨ws, k, g2, hn, i1, i2, h, h_t, hE, hl⟩ ih_6
  refine r_iload_n E 2 hl rfl dJ7_fill_d0a16_6 ?_
  refine r_iload E 3 hl rfl dJ7_fill_d0a16_7 ?_
  refine r_icmp_ge E 22 dJ7_fill_d0a16_9 (by decide) (by omega) (fun c_9 => ?_) (fun c_9 => ?_)
  · skip
    obtain ⟨u9, h9, hu9⟩ := h.reconL h_t (g := fun _ => v9) (fun j h0 h1 => i2 j h0 (by omega))
    exact r_vret E h9 ⟨hu9.1, hE.tr (hu9.eqx (by dsimp only))⟩ dJ7_fill_d0a16_22
  · skip
    refine r_aload_n E 0 hl rfl dJ7_fill_d0a16_12 ?_
    refine r_iload_n E 2 hl rfl dJ7_fill_d0a16_13 ?_
    refine r_lload_n E 1 hl rfl dJ7_fill_d0a16_14 ?_
    refine r_last E h h_t (by omega) (by omega) dJ7_fill_d0a16_15 (fun ws H locs h hu => ?_)
    have h_t : ws[qt]? = some (at9, aL cy N (uZ g2 k v9)) := hu.1
    have hE := hE.tr (hu.eqx (by first | omega | (dsimp only <;> omega)))
    refine r_iinc (lv' := [(3, .int (zI (k + 1))), (0, .ref at9), (1, .long v9), (4, .int (zI N))]) E 2 hl rfl dJ7_fill_d0a16_16 (by decide) rfl (fun ls hl => ?_)
    refine r_goto E 6 dJ7_fill_d0a16_19 (by decide) ?_
    exact ih_6 _ H locs ls (by omega) ⟨ws, (k + 1), (uZ g2 k v9), rfl, (by omega), (fun j h0 h1 => by
      by_cases ce : j = k
      · subst ce; exact uZ_s
      · rw [uZ_n ce]; exact i2 j h0 (by omega)), h, h_t, hE, lv_sub hl [1, 2, 0, 3] rfl⟩
theorem hd_J7_fill_53178 : yJ7_fill_53178.cls ≠ "java/lang/invoke/MethodHandle" ∧ yJ7_fill_53178.cls ≠ "java/lang/invoke/VarHandle" ∧ (parseMethodDescriptor yJ7_fill_53178.desc).map (fun d => d.parameters.length) = some 2 := by decide +kernel
abbrev rm_J7_fill_53178 : Room := { frames := 0, cells := 0, slots := 0, locals := 0 }
set_option maxHeartbeats 1200000 in
set_option maxRecDepth 100000 in
theorem k_J7_fill_53178 (l : Launch) {G : va_G} {cy : Nat → ClassId} {ws0 : va_W} {qt at9 N : Nat} {g : Int → Int} (v9 : Int) (h_t : ws0[qt]? = some (at9, aI cy N g)) (hN : N ≤ 100000) : MV l yJ7_fill_53178 wsJ7_fill_53178 rm_J7_fill_53178 G cy [.ref at9, .int (zI v9)] ws0 (fun u => u[qt]? = some (at9, aI cy N (fun _ => v9)) ∧ Eqx ws0 u (fun j => j = qt)) := by
  refine MV.of (own := RJ7) (cc := cJ7_fill_53178) (nL := 4) (ret := none) (by decide) rfl rfl (Nat.le_of_ble_eq_true rfl) ?_
  intro p e s m below meth c A ls hin E h hl
  have hl : lv_has ls 4 [(0, .ref at9), (1, .int (zI v9))] := hl
  have hE : Eqx ws0 ws0 (fun j => j = qt) := Eqx.rf
  refine r_iconst E dJ7_fill_53178_0 ?_
  refine r_istore_n (lv' := [(2, .int (zI 0)), (0, .ref at9), (1, .int (zI v9))]) E hl dJ7_fill_53178_1 rfl (by decide) rfl (fun ls hl => ?_)
  refine r_aload_n E 1 hl rfl dJ7_fill_53178_2 ?_
  refine r_alen E h rfl h_t (v := N) rfl dJ7_fill_53178_3 ?_
  refine r_istore_n (lv' := [(3, .int (zI N)), (2, .int (zI 0)), (0, .ref at9), (1, .int (zI v9))]) E hl dJ7_fill_53178_4 rfl (by decide) rfl (fun ls hl => ?_)
  refine r_loop (fun n H locs ls => ∃ (ws : va_W) (k : Int) (g2 : Int → Int), n = (N - k).toNat ∧ (0 ≤ k ∧ k ≤ N) ∧ (∀ j : Int, 0 ≤ j → j < k → g2 j = v9) ∧ Hp G ws A s.heap H locs ∧ (ws[qt]? = some (at9, aI cy N g2)) ∧ Eqx ws0 ws (fun j => j = qt) ∧ lv_has ls 4 [(0, .ref at9), (1, .int (zI v9)), (2, .int (zI k)), (3, .int (zI N))]) _ ⟨ws0, 0, g, rfl, (by omega), (fun j h0 h1 => absurd h1 (by omega)), h, h_t, hE, lv_sub hl [2, 3, 1, 0] rfl⟩ ?_
  rintro n H locs ls ⟨ws, k, g2, hn, i1, i2, h, h_t, hE, hl⟩ ih_5
  refine r_iload_n E 2 hl rfl dJ7_fill_53178_5 ?_
  refine r_iload_n E 3 hl rfl dJ7_fill_53178_6 ?_
  refine r_icmp_ge E 20 dJ7_fill_53178_7 (by decide) (by omega) (fun c_7 => ?_) (fun c_7 => ?_)
  · skip
    obtain ⟨u9, h9, hu9⟩ := h.recon h_t (g := fun _ => v9) (fun j h0 h1 => i2 j h0 (by omega))
    exact r_vret E h9 ⟨hu9.1, hE.tr (hu9.eqx (by dsimp only))⟩ dJ7_fill_53178_20
  · skip
    refine r_aload_n E 0 hl rfl dJ7_fill_53178_10 ?_
    refine r_iload_n E 2 hl rfl dJ7_fill_53178_11 ?_
    refine r_iload_n E 1 hl rfl dJ7_fill_53178_12 ?_
    refine r_iast E h h_t (by omega) (by omega) dJ7_fill_53178_13 (fun ws H locs h hu => ?_)
    have h_t : ws[qt]? = some (at9, aI cy N (uZ g2 k v9)) := hu.1
    have hE := hE.tr (hu.eqx (by first | omega | (dsimp only <;> omega)))
    refine r_iinc (lv' := [(2, .int (zI (k + 1))), (0, .ref at9), (1, .int (zI v9)), (3, .int (zI N))]) E 2 hl rfl dJ7_fill_53178_14 (by decide) rfl (fun ls hl => ?_)
    refine r_goto E 5 dJ7_fill_53178_17 (by decide) ?_
    exact ih_5 _ H locs ls (by omega) ⟨ws, (k + 1), (uZ g2 k v9), rfl, (by omega), (fun j h0 h1 => by
      by_cases ce : j = k
      · subst ce; exact uZ_s
      · rw [uZ_n ce]; exact i2 j h0 (by omega)), h, h_t, hE, lv_sub hl [1, 2, 0, 3] rfl⟩
theorem hd_X0_colourOf : yX0_colourOf.cls = RX0 ∧ yX0_colourOf.cls ≠ "java/lang/invoke/MethodHandle" ∧ yX0_colourOf.cls ≠ "java/lang/invoke/VarHandle" ∧ (parseMethodDescriptor yX0_colourOf.desc).map (fun d => d.parameters.length) = some 1 := by decide +kernel
theorem fl_X0_colourOf_9 : Cond.fieldLink RX0 9 (TX0 0).1 (TX0 0).2.1 (TX0 0).2.2.1 ∈ wsX0_colourOf := List.mem_of_getElem? (i := 1) rfl
theorem inn_X0_colourOf_0 : ∀ w ∈ wsX00, w ∈ wsX0_colourOf := fun _ h => List.mem_cons_of_mem _ (List.mem_append_right _ h)
abbrev rm_X0_colourOf : Room := { frames := 0, cells := 0, slots := 0, locals := 0 }
set_option maxHeartbeats 1200000 in
set_option maxRecDepth 100000 in
theorem k_X0_colourOf (l : Launch) {G : va_G} {cy : Nat → ClassId} {ws0 : va_W} {q a ap : Nat} {nn : Int} {ce f : Int → Int} (x : Int) (h_c : ws0[q]? = some (a, .inr (0, [.ref ap, .long (fmk nn f)]))) (h_cp : ws0[q + 1]? = some (ap, aL cy 4 (mk nn ce))) (hnn : 0 ≤ nn ∧ nn ≤ 40) (hx : 1 ≤ x ∧ x ≤ nn) (he : 0 ≤ ce x ∧ ce x ≤ 4) : MI l yX0_colourOf wsX0_colourOf rm_X0_colourOf G cy [.ref a, .int (zI x)] ws0 (fun z u => z = ce x - 1 ∧ ws0 = u) := by
  refine MI.of (own := RX0) (cc := cX0_colourOf) (nL := 3) (ret := (some .int)) (by decide) rfl rfl (Nat.le_of_ble_eq_true rfl) ?_
  intro p e s m below meth c A ls E h hl
  have hl : lv_has ls 3 [(0, .ref a), (1, .int (zI x))] := hl
  refine r_iconst E dX0_colourOf_0 ?_
  refine r_istore_n (lv' := [(2, .int (zI 0)), (0, .ref a), (1, .int (zI x))]) E hl dX0_colourOf_1 rfl (by decide) rfl (fun ls hl => ?_)
  refine r_loop (fun n H locs ls => ∃ (k : Int), n = (4 - k).toNat ∧ (0 ≤ k ∧ k ≤ 4) ∧ (∀ j : Int, 0 ≤ j → j < k → ce x ≠ j + 1) ∧ Hp G ws0 A s.heap H locs ∧ lv_has ls 3 [(0, .ref a), (1, .int (zI x)), (2, .int (zI k))]) _ ⟨0, rfl, (by omega), (fun j h0 h1 => absurd h1 (by omega)), h, lv_sub hl [1, 2, 0] rfl⟩ ?_
  rintro n H locs ls ⟨k, hn, i1, i2, h, hl⟩ ih_2
  refine r_iload_n E 2 hl rfl dX0_colourOf_2 ?_
  refine r_aload_n E 0 hl rfl dX0_colourOf_3 ?_
  refine r_get (v := .ref ap) E h h_c rfl inn_X0_colourOf_0 0 (by decide) fl_X0_colourOf_9 rfl dX0_colourOf_4 ?_
  refine r_alen E h rfl h_cp (v := 4) rfl dX0_colourOf_7 ?_
  refine r_icmp_ge E 34 dX0_colourOf_8 (by decide) (by omega) (fun c_8 => ?_) (fun c_8 => ?_)
  · skip
    refine r_iconst E dX0_colourOf_34 ?_
    have q3 : ce x = 0 := by
      by_cases q : ce x = 0
      · exact q
      · exact absurd (show ce x = (ce x - 1) + 1 by omega) (i2 (ce x - 1) (by omega) (by omega))
    exact r_iret E h ⟨by omega, rfl⟩ dX0_colourOf_35
  · skip
    refine r_aload_n E 0 hl rfl dX0_colourOf_11 ?_
    refine r_get (v := .ref ap) E h h_c rfl inn_X0_colourOf_0 0 (by decide) fl_X0_colourOf_9 rfl dX0_colourOf_12 ?_
    refine r_iload_n E 2 hl rfl dX0_colourOf_15 ?_
    refine r_lald E h h_cp (by omega) (by decide) dX0_colourOf_16 ?_
    refine r_lconst (v := zL 1) E dX0_colourOf_17 (by decide) ?_
    refine r_iload_n E 1 hl rfl dX0_colourOf_18 ?_
    refine r_lshl E dX0_colourOf_19 (v := bs (fun v8 => decide (v8 = x))) (bs_one (by omega)) ?_
    refine r_land E dX0_colourOf_20 ?_
    refine r_lconst (v := zL 0) E dX0_colourOf_21 (by decide) ?_
    refine r_lcmpX E dX0_colourOf_22 (fun z_22 zb_22 ze_22 => ?_)
    refine r_if_eq E 28 dX0_colourOf_23 (by decide) (by omega) (fun c_23 => ?_) (fun c_23 => ?_)
    · skip
      have q1 := (mk_test hnn.2 hx).mp (ze_22.mp c_23)
      refine r_iinc (lv' := [(2, .int (zI (k + 1))), (0, .ref a), (1, .int (zI x))]) E 2 hl rfl dX0_colourOf_28 (by decide) rfl (fun ls hl => ?_)
      refine r_goto E 2 dX0_colourOf_31 (by decide) ?_
      exact ih_2 _ H locs ls (by omega) ⟨(k + 1), rfl, (by omega), (fun j h0 h1 => by
      by_cases e9 : j = k
      · rw [e9]; exact q1
      · exact i2 j h0 (by omega)), h, lv_sub hl [1, 2, 0] rfl⟩
    · skip
      have q1 : ce x = k + 1 := by
        by_cases q : ce x = k + 1
        · exact q
        · exact absurd (ze_22.mpr ((mk_test hnn.2 hx).mpr q)) c_23
      refine r_iload_n E 2 hl rfl dX0_colourOf_26 ?_
      exact r_iret E h ⟨by omega, rfl⟩ dX0_colourOf_27
theorem hd_X0_numbersWith : yX0_numbersWith.cls = RX0 ∧ yX0_numbersWith.cls ≠ "java/lang/invoke/MethodHandle" ∧ yX0_numbersWith.cls ≠ "java/lang/invoke/VarHandle" ∧ (parseMethodDescriptor yX0_numbersWith.desc).map (fun d => d.parameters.length) = some 1 := by decide +kernel
theorem fl_X0_numbersWith_9 : Cond.fieldLink RX0 9 (TX0 0).1 (TX0 0).2.1 (TX0 0).2.2.1 ∈ wsX0_numbersWith := List.mem_of_getElem? (i := 1) rfl
theorem inn_X0_numbersWith_0 : ∀ w ∈ wsX00, w ∈ wsX0_numbersWith := fun _ h => List.mem_cons_of_mem _ (List.mem_append_right _ h)
abbrev rm_X0_numbersWith : Room := { frames := 0, cells := 0, slots := 0, locals := 0 }
set_option maxHeartbeats 1200000 in
set_option maxRecDepth 100000 in
theorem k_X0_numbersWith (l : Launch) {G : va_G} {cy : Nat → ClassId} {ws0 : va_W} {q a ap : Nat} {nn : Int} {ce f : Int → Int} (c9 : Int) (h_c : ws0[q]? = some (a, .inr (0, [.ref ap, .long (fmk nn f)]))) (h_cp : ws0[q + 1]? = some (ap, aL cy 4 (mk nn ce))) (hc : 0 ≤ c9 ∧ c9 < 4) : ML l yX0_numbersWith wsX0_numbersWith rm_X0_numbersWith G cy [.ref a, .int (zI c9)] ws0 (fun z u => mk nn ce c9 = z ∧ ws0 = u) := by
  refine ML.of (own := RX0) (cc := cX0_numbersWith) (nL := 2) (ret := (some .long)) (by decide) rfl rfl (Nat.le_of_ble_eq_true rfl) ?_
  intro p e s m below meth c A ls E h hl
  have hl : lv_has ls 2 [(0, .ref a), (1, .int (zI c9))] := hl
  refine r_iload_n E 1 hl rfl dX0_numbersWith_0 ?_
  refine r_if_lt E 22 dX0_numbersWith_1 (by decide) (by omega) (fun c_1 => ?_) (fun c_1 => ?_)
  · skip
    exfalso; omega
  · skip
    refine r_iload_n E 1 hl rfl dX0_numbersWith_4 ?_
    refine r_aload_n E 0 hl rfl dX0_numbersWith_5 ?_
    refine r_get (v := .ref ap) E h h_c rfl inn_X0_numbersWith_0 0 (by decide) fl_X0_numbersWith_9 rfl dX0_numbersWith_6 ?_
    refine r_alen E h rfl h_cp (v := 4) rfl dX0_numbersWith_9 ?_
    refine r_icmp_ge E 22 dX0_numbersWith_10 (by decide) (by omega) (fun c_10 => ?_) (fun c_10 => ?_)
    · skip
      exfalso; omega
    · skip
      refine r_aload_n E 0 hl rfl dX0_numbersWith_13 ?_
      refine r_get (v := .ref ap) E h h_c rfl inn_X0_numbersWith_0 0 (by decide) fl_X0_numbersWith_9 rfl dX0_numbersWith_14 ?_
      refine r_iload_n E 1 hl rfl dX0_numbersWith_17 ?_
      refine r_lald E h h_cp (by omega) (by decide) dX0_numbersWith_18 ?_
      refine r_goto E 23 dX0_numbersWith_19 (by decide) ?_
      exact r_lret E h ⟨rfl, rfl⟩ dX0_numbersWith_23
theorem hd_X0_hasFixed : yX0_hasFixed.cls = RX0 ∧ yX0_hasFixed.cls ≠ "java/lang/invoke/MethodHandle" ∧ yX0_hasFixed.cls ≠ "java/lang/invoke/VarHandle" ∧ (parseMethodDescriptor yX0_hasFixed.desc).map (fun d => d.parameters.length) = some 1 := by decide +kernel
theorem fl_X0_hasFixed_15 : Cond.fieldLink RX0 15 (TX0 1).1 (TX0 1).2.1 (TX0 1).2.2.1 ∈ wsX0_hasFixed := List.mem_of_getElem? (i := 1) rfl
theorem inn_X0_hasFixed_0 : ∀ w ∈ wsX00, w ∈ wsX0_hasFixed := fun _ h => List.mem_cons_of_mem _ (List.mem_append_right _ h)
abbrev rm_X0_hasFixed : Room := { frames := 0, cells := 0, slots := 0, locals := 0 }
set_option maxHeartbeats 1200000 in
set_option maxRecDepth 100000 in
theorem k_X0_hasFixed (l : Launch) {G : va_G} {cy : Nat → ClassId} {ws0 : va_W} {q a ap : Nat} {nn : Int} {ce f : Int → Int} (x : Int) (h_c : ws0[q]? = some (a, .inr (0, [.ref ap, .long (fmk nn f)]))) (h_cp : ws0[q + 1]? = some (ap, aL cy 4 (mk nn ce))) (hnn : 0 ≤ nn ∧ nn ≤ 40) (hx : 1 ≤ x ∧ x ≤ nn) : MI l yX0_hasFixed wsX0_hasFixed rm_X0_hasFixed G cy [.ref a, .int (zI x)] ws0 (fun z u => (z = 1 ∧ f x = 1 ∨ z = 0 ∧ f x ≠ 1) ∧ ws0 = u) := by
  refine MI.of (own := RX0) (cc := cX0_hasFixed) (nL := 2) (ret := (some .boolean)) (by decide) rfl rfl (Nat.le_of_ble_eq_true rfl) ?_
  intro p e s m below meth c A ls E h hl
  have hl : lv_has ls 2 [(0, .ref a), (1, .int (zI x))] := hl
  refine r_aload_n E 0 hl rfl dX0_hasFixed_0 ?_
  refine r_get (v := .long (fmk nn f)) E h h_c rfl inn_X0_hasFixed_0 1 (by decide) fl_X0_hasFixed_15 rfl dX0_hasFixed_1 ?_
  refine r_lconst (v := zL 1) E dX0_hasFixed_4 (by decide) ?_
  refine r_iload_n E 1 hl rfl dX0_hasFixed_5 ?_
  refine r_lshl E dX0_hasFixed_6 (v := bs (fun v8 => decide (v8 = x))) (bs_one (by omega)) ?_
  refine r_land E dX0_hasFixed_7 ?_
  refine r_lconst (v := zL 0) E dX0_hasFixed_8 (by decide) ?_
  refine r_lcmpX E dX0_hasFixed_9 (fun z_9 zb_9 ze_9 => ?_)
  refine r_cut (α := Int) (fun x_10 H locs ls => (x_10 = 0 ∧ z_9 = 0 ∨ x_10 = 1 ∧ ¬ z_9 = 0) ∧ Hp G ws0 A s.heap H locs ∧ lv_has ls 2 [(0, .ref a), (1, .int (zI x))]) 18 (fun x_10 => [.int (zI x_10)]) ?_ ?_
  · rintro x_10 H locs ls ⟨b_10, h, hl⟩
    have q1 : x_10 = 1 ∧ f x = 1 ∨ x_10 = 0 ∧ f x ≠ 1 := by
      rcases b_10 with ⟨b1, b2⟩ | ⟨b1, b2⟩
      · have := (fmk_test hnn.2 hx).mp (ze_9.mp b2); omega
      · have : f x = 1 := by
          by_cases q : f x = 1
          · exact q
          · exact absurd (ze_9.mpr ((fmk_test hnn.2 hx).mpr q)) b2
        omega
    exact r_zret E h (by omega) ⟨q1, rfl⟩ dX0_hasFixed_18
  · intro kb_10
    refine r_if_eq E 17 dX0_hasFixed_10 (by decide) (by omega) (fun c_10 => ?_) (fun c_10 => ?_)
    · refine r_iconst E dX0_hasFixed_17 ?_
      exact kb_10 _ _ _ ls ⟨Or.inl ⟨rfl, c_10⟩, h, hl⟩
    · refine r_iconst E dX0_hasFixed_13 ?_
      refine r_goto E 18 dX0_hasFixed_14 (by decide) ?_
      exact kb_10 _ _ _ ls ⟨Or.inr ⟨rfl, c_10⟩, h, hl⟩
theorem hd_X0_paint : yX0_paint.cls = RX0 ∧ yX0_paint.cls ≠ "java/lang/invoke/MethodHandle" ∧ yX0_paint.cls ≠ "java/lang/invoke/VarHandle" ∧ (parseMethodDescriptor yX0_paint.desc).map (fun d => d.parameters.length) = some 2 := by decide +kernel
theorem fl_X0_paint_9 : Cond.fieldLink RX0 9 (TX0 0).1 (TX0 0).2.1 (TX0 0).2.2.1 ∈ wsX0_paint := List.mem_of_getElem? (i := 1) rfl
theorem inn_X0_paint_0 : ∀ w ∈ wsX00, w ∈ wsX0_paint := fun _ h => List.mem_cons_of_mem _ (List.mem_append_right _ h)
abbrev rm_X0_paint : Room := { frames := 0, cells := 0, slots := 0, locals := 0 }
set_option maxHeartbeats 1200000 in
set_option maxRecDepth 100000 in
theorem k_X0_paint (l : Launch) {G : va_G} {cy : Nat → ClassId} {ws0 : va_W} {q a ap : Nat} {nn : Int} {ce f : Int → Int} (x c9 : Int) (h_c : ws0[q]? = some (a, .inr (0, [.ref ap, .long (fmk nn f)]))) (h_cp : ws0[q + 1]? = some (ap, aL cy 4 (mk nn ce))) (hnn : 0 ≤ nn ∧ nn ≤ 40) (hx : 1 ≤ x ∧ x ≤ nn) (hc : -1 ≤ c9 ∧ c9 < 4) : MV l yX0_paint wsX0_paint rm_X0_paint G cy [.ref a, .int (zI x), .int (zI c9)] ws0 (fun u => u[q + 1]? = some (ap, aL cy 4 (mk nn (uZ ce x (c9 + 1)))) ∧ Eqx ws0 u (fun j => j = q + 1)) := by
  refine MV.of (own := RX0) (cc := cX0_paint) (nL := 4) (ret := none) (by decide) rfl rfl (Nat.le_of_ble_eq_true rfl) ?_
  intro p e s m below meth c A ls hin E h hl
  have hl : lv_has ls 4 [(0, .ref a), (1, .int (zI x)), (2, .int (zI c9))] := hl
  have hE : Eqx ws0 ws0 (fun j => j = q + 1) := Eqx.rf
  refine r_iconst E dX0_paint_0 ?_
  refine r_istore_n (lv' := [(3, .int (zI 0)), (0, .ref a), (1, .int (zI x)), (2, .int (zI c9))]) E hl dX0_paint_1 rfl (by decide) rfl (fun ls hl => ?_)
  refine r_loop (fun n H locs ls => ∃ (ws : va_W) (k : Int) (g : Int → Int64), n = (4 - k).toNat ∧ (0 ≤ k ∧ k ≤ 4) ∧ (∀ j : Int, 0 ≤ j → j < k → g j = mk nn (uZ ce x 0) j) ∧ (∀ j : Int, k ≤ j → g j = mk nn ce j) ∧ Hp G ws A s.heap H locs ∧ (ws[q]? = some (a, .inr (0, [.ref ap, .long (fmk nn f)]))) ∧ (ws[q + 1]? = some (ap, aL cy 4 g)) ∧ Eqx ws0 ws (fun j => j = q + 1) ∧ lv_has ls 4 [(0, .ref a), (1, .int (zI x)), (2, .int (zI c9)), (3, .int (zI k))]) _ ⟨ws0, 0, (mk nn ce), rfl, (by omega), (fun j h0 h1 => absurd h1 (by omega)), (fun _ _ => rfl), h, h_c, h_cp, hE, lv_sub hl [1, 2, 3, 0] rfl⟩ ?_
  rintro n H locs ls ⟨ws, k, g, hn, i1, i2, i3, h, h_c, h_cp, hE, hl⟩ ih_2
  refine r_iload_n E 3 hl rfl dX0_paint_2 ?_
  refine r_aload_n E 0 hl rfl dX0_paint_3 ?_
  refine r_get (v := .ref ap) E h h_c rfl inn_X0_paint_0 0 (by decide) fl_X0_paint_9 rfl dX0_paint_4 ?_
  refine r_alen E h rfl h_cp (v := 4) rfl dX0_paint_7 ?_
  refine r_icmp_ge E 33 dX0_paint_8 (by decide) (by omega) (fun c_8 => ?_) (fun c_8 => ?_)
  · skip
    refine r_iload_n E 2 hl rfl dX0_paint_33 ?_
    refine r_if_lt E 58 dX0_paint_34 (by decide) (by omega) (fun c_34 => ?_) (fun c_34 => ?_)
    · skip
      obtain ⟨u9, h9, hu9⟩ := h.reconL h_cp (g := mk nn (uZ ce x (c9 + 1))) (fun j h0 h1 => by
        rw [i2 j h0 (by omega)]; exact mk_other h0 (by omega))
      exact r_vret E h9 ⟨hu9.1, hE.tr (hu9.eqx (by dsimp only))⟩ dX0_paint_58
    · skip
      refine r_iload_n E 2 hl rfl dX0_paint_37 ?_
      refine r_aload_n E 0 hl rfl dX0_paint_38 ?_
      refine r_get (v := .ref ap) E h h_c rfl inn_X0_paint_0 0 (by decide) fl_X0_paint_9 rfl dX0_paint_39 ?_
      refine r_alen E h rfl h_cp (v := 4) rfl dX0_paint_42 ?_
      refine r_icmp_ge E 58 dX0_paint_43 (by decide) (by omega) (fun c_43 => ?_) (fun c_43 => ?_)
      · skip
        exfalso; omega
      · skip
        refine r_aload_n E 0 hl rfl dX0_paint_46 ?_
        refine r_get (v := .ref ap) E h h_c rfl inn_X0_paint_0 0 (by decide) fl_X0_paint_9 rfl dX0_paint_47 ?_
        refine r_iload_n E 2 hl rfl dX0_paint_50 ?_
        refine r_dup2 E dX0_paint_51 rfl rfl ?_
        refine r_lald E h h_cp (by omega) (by decide) dX0_paint_52 ?_
        rw [show g c9 = mk nn (uZ ce x 0) c9 from (i2 c9 (by omega) (by omega))]
        refine r_lconst (v := zL 1) E dX0_paint_53 (by decide) ?_
        refine r_iload_n E 1 hl rfl dX0_paint_54 ?_
        refine r_lshl E dX0_paint_55 (v := bs (fun v8 => decide (v8 = x))) (bs_one (by omega)) ?_
        refine r_lor E dX0_paint_56 ?_
        rw [show ((mk nn (uZ ce x 0) c9) ||| (bs (fun v8 => decide (v8 = x)))) = mk nn (uZ ce x (c9 + 1)) c9 from (mk_set hx)]
        skip
        refine r_last E h h_cp (by omega) (by decide) dX0_paint_57 (fun ws H locs h hu => ?_)
        have h_c := hu.keep h_c (by omega)
        have h_cp : ws[q + 1]? = some (ap, aL cy 4 (uZ g c9 (mk nn (uZ ce x (c9 + 1)) c9))) := hu.1
        have hE := hE.tr (hu.eqx (by first | omega | (dsimp only <;> omega)))
        obtain ⟨u9, h9, hu9⟩ := h.reconL h_cp (g := mk nn (uZ ce x (c9 + 1))) (fun j h0 h1 => by
          by_cases e9 : j = c9
          · rw [e9, uZ_s]
          · rw [uZ_n e9, i2 j h0 (by omega)]; exact mk_other h0 (by omega))
        exact r_vret E h9 ⟨hu9.1, hE.tr (hu9.eqx (by dsimp only))⟩ dX0_paint_58
  · skip
    refine r_aload_n E 0 hl rfl dX0_paint_11 ?_
    refine r_get (v := .ref ap) E h h_c rfl inn_X0_paint_0 0 (by decide) fl_X0_paint_9 rfl dX0_paint_12 ?_
    refine r_iload_n E 3 hl rfl dX0_paint_15 ?_
    refine r_dup2 E dX0_paint_16 rfl rfl ?_
    refine r_lald E h h_cp (by omega) (by decide) dX0_paint_17 ?_
    rw [show g k = mk nn ce k from (i3 k (by omega))]
    refine r_lconst (v := zL 1) E dX0_paint_18 (by decide) ?_
    refine r_iload_n E 1 hl rfl dX0_paint_19 ?_
    refine r_lshl E dX0_paint_20 (v := bs (fun v8 => decide (v8 = x))) (bs_one (by omega)) ?_
    refine r_ldc2 E (v := (-1)) (List.mem_of_getElem? (i := 2) rfl) dX0_paint_21 ?_
    refine r_lxor E dX0_paint_24 ?_
    refine r_land E dX0_paint_25 ?_
    rw [show ((mk nn ce k) &&& ((bs (fun v8 => decide (v8 = x))) ^^^ ((-1)))) = mk nn (uZ ce x 0) k from (mk_clr (by omega))]
    skip
    refine r_last E h h_cp (by omega) (by decide) dX0_paint_26 (fun ws H locs h hu => ?_)
    have h_c := hu.keep h_c (by omega)
    have h_cp : ws[q + 1]? = some (ap, aL cy 4 (uZ g k (mk nn (uZ ce x 0) k))) := hu.1
    have hE := hE.tr (hu.eqx (by first | omega | (dsimp only <;> omega)))
    refine r_iinc (lv' := [(3, .int (zI (k + 1))), (0, .ref a), (1, .int (zI x)), (2, .int (zI c9))]) E 3 hl rfl dX0_paint_27 (by decide) rfl (fun ls hl => ?_)
    refine r_goto E 2 dX0_paint_30 (by decide) ?_
    exact ih_2 _ H locs ls (by omega) ⟨ws, (k + 1), (uZ g k (mk nn (uZ ce x 0) k)), rfl, (by omega), (fun j h0 h1 => by
      by_cases e9 : j = k
      · rw [e9, uZ_s]
      · rw [uZ_n e9]; exact i2 j h0 (by omega)), (fun j h0 => by rw [uZ_n (by omega)]; exact i3 j (by omega)), h, h_c, h_cp, hE, lv_sub hl [1, 2, 3, 0] rfl⟩
theorem hd_X0_exchange : yX0_exchange.cls = RX0 ∧ yX0_exchange.cls ≠ "java/lang/invoke/MethodHandle" ∧ yX0_exchange.cls ≠ "java/lang/invoke/VarHandle" ∧ (parseMethodDescriptor yX0_exchange.desc).map (fun d => d.parameters.length) = some 2 := by decide +kernel
theorem fl_X0_exchange_9 : Cond.fieldLink RX0 9 (TX0 0).1 (TX0 0).2.1 (TX0 0).2.2.1 ∈ wsX0_exchange := List.mem_of_getElem? (i := 1) rfl
theorem inn_X0_exchange_0 : ∀ w ∈ wsX00, w ∈ wsX0_exchange := fun _ h => List.mem_cons_of_mem _ (List.mem_append_right _ h)
abbrev rm_X0_exchange : Room := { frames := 0, cells := 0, slots := 0, locals := 0 }
set_option maxHeartbeats 1200000 in
set_option maxRecDepth 100000 in
theorem k_X0_exchange (l : Launch) {G : va_G} {cy : Nat → ClassId} {ws0 : va_W} {q a ap : Nat} {nn : Int} {ce f : Int → Int} (o1 o2 : Int) (h_c : ws0[q]? = some (a, .inr (0, [.ref ap, .long (fmk nn f)]))) (h_cp : ws0[q + 1]? = some (ap, aL cy 4 (mk nn ce))) (ho : (0 ≤ o1 ∧ o1 < 4) ∧ (0 ≤ o2 ∧ o2 < 4)) : MV l yX0_exchange wsX0_exchange rm_X0_exchange G cy [.ref a, .int (zI o1), .int (zI o2)] ws0 (fun u => u[q + 1]? = some (ap, aL cy 4 (mk nn (swE ce o1 o2))) ∧ Eqx ws0 u (fun j => j = q + 1)) := by
  refine MV.of (own := RX0) (cc := cX0_exchange) (nL := 5) (ret := none) (by decide) rfl rfl (Nat.le_of_ble_eq_true rfl) ?_
  intro p e s m below meth c A ls hin E h hl
  have hl : lv_has ls 5 [(0, .ref a), (1, .int (zI o1)), (2, .int (zI o2))] := hl
  have hE : Eqx ws0 ws0 (fun j => j = q + 1) := Eqx.rf
  refine r_iload_n E 1 hl rfl dX0_exchange_0 ?_
  refine r_if_lt E 52 dX0_exchange_1 (by decide) (by omega) (fun c_1 => ?_) (fun c_1 => ?_)
  · skip
    exfalso; omega
  · skip
    refine r_iload_n E 1 hl rfl dX0_exchange_4 ?_
    refine r_aload_n E 0 hl rfl dX0_exchange_5 ?_
    refine r_get (v := .ref ap) E h h_c rfl inn_X0_exchange_0 0 (by decide) fl_X0_exchange_9 rfl dX0_exchange_6 ?_
    refine r_alen E h rfl h_cp (v := 4) rfl dX0_exchange_9 ?_
    refine r_icmp_ge E 52 dX0_exchange_10 (by decide) (by omega) (fun c_10 => ?_) (fun c_10 => ?_)
    · skip
      exfalso; omega
    · skip
      refine r_iload_n E 2 hl rfl dX0_exchange_13 ?_
      refine r_if_lt E 52 dX0_exchange_14 (by decide) (by omega) (fun c_14 => ?_) (fun c_14 => ?_)
      · skip
        exfalso; omega
      · skip
        refine r_iload_n E 2 hl rfl dX0_exchange_17 ?_
        refine r_aload_n E 0 hl rfl dX0_exchange_18 ?_
        refine r_get (v := .ref ap) E h h_c rfl inn_X0_exchange_0 0 (by decide) fl_X0_exchange_9 rfl dX0_exchange_19 ?_
        refine r_alen E h rfl h_cp (v := 4) rfl dX0_exchange_22 ?_
        refine r_icmp_ge E 52 dX0_exchange_23 (by decide) (by omega) (fun c_23 => ?_) (fun c_23 => ?_)
        · skip
          exfalso; omega
        · skip
          refine r_aload_n E 0 hl rfl dX0_exchange_26 ?_
          refine r_get (v := .ref ap) E h h_c rfl inn_X0_exchange_0 0 (by decide) fl_X0_exchange_9 rfl dX0_exchange_27 ?_
          refine r_iload_n E 1 hl rfl dX0_exchange_30 ?_
          refine r_lald E h h_cp (by omega) (by decide) dX0_exchange_31 ?_
          refine r_lstore_n (lv' := [(3, .long ((mk nn ce) o1)), (0, .ref a), (1, .int (zI o1)), (2, .int (zI o2))]) E hl dX0_exchange_32 rfl (by decide) rfl (fun ls hl => ?_)
          refine r_aload_n E 1 hl rfl dX0_exchange_33 ?_
          refine r_get (v := .ref ap) E h h_c rfl inn_X0_exchange_0 0 (by decide) fl_X0_exchange_9 rfl dX0_exchange_34 ?_
          refine r_iload_n E 2 hl rfl dX0_exchange_37 ?_
          refine r_aload_n E 1 hl rfl dX0_exchange_38 ?_
          refine r_get (v := .ref ap) E h h_c rfl inn_X0_exchange_0 0 (by decide) fl_X0_exchange_9 rfl dX0_exchange_39 ?_
          refine r_iload_n E 3 hl rfl dX0_exchange_42 ?_
          refine r_lald E h h_cp (by omega) (by decide) dX0_exchange_43 ?_
          refine r_last E h h_cp (by omega) (by decide) dX0_exchange_44 (fun ws H locs h hu => ?_)
          have h_c := hu.keep h_c (by omega)
          have h_cp : ws[q + 1]? = some (ap, aL cy 4 (uZ (mk nn ce) o1 ((mk nn ce) o2))) := hu.1
          have hE := hE.tr (hu.eqx (by first | omega | (dsimp only <;> omega)))
          refine r_aload_n E 1 hl rfl dX0_exchange_45 ?_
          refine r_get (v := .ref ap) E h h_c rfl inn_X0_exchange_0 0 (by decide) fl_X0_exchange_9 rfl dX0_exchange_46 ?_
          refine r_iload_n E 3 hl rfl dX0_exchange_49 ?_
          refine r_lload_n E 0 hl rfl dX0_exchange_50 ?_
          refine r_last E h h_cp (by omega) (by decide) dX0_exchange_51 (fun ws H locs h hu => ?_)
          have h_c := hu.keep h_c (by omega)
          have h_cp : ws[q + 1]? = some (ap, aL cy 4 (uZ (uZ (mk nn ce) o1 ((mk nn ce) o2)) o2 ((mk nn ce) o1))) := hu.1
          have hE := hE.tr (hu.eqx (by first | omega | (dsimp only <;> omega)))
          obtain ⟨u9, h9, hu9⟩ := h.reconL h_cp (g := mk nn (swE ce o1 o2)) (fun j h0 h1 => by
            by_cases e2 : j = o2
            · rw [e2, uZ_s]; exact mk_sw2.symm
            · rw [uZ_n e2]
              by_cases e1 : j = o1
              · rw [e1, uZ_s]; exact mk_sw1.symm
              · rw [uZ_n e1]; exact (mk_sw3 e1 e2).symm)
          exact r_vret E h9 ⟨hu9.1, hE.tr (hu9.eqx (by dsimp only))⟩ dX0_exchange_52
theorem hd_X0_commonColour : yX0_commonColour.cls = RX0 ∧ yX0_commonColour.cls ≠ "java/lang/invoke/MethodHandle" ∧ yX0_commonColour.cls ≠ "java/lang/invoke/VarHandle" ∧ (parseMethodDescriptor yX0_commonColour.desc).map (fun d => d.parameters.length) = some 1 := by decide +kernel
theorem fl_X0_commonColour_9 : Cond.fieldLink RX0 9 (TX0 0).1 (TX0 0).2.1 (TX0 0).2.2.1 ∈ wsX0_commonColour := List.mem_of_getElem? (i := 1) rfl
theorem inn_X0_commonColour_0 : ∀ w ∈ wsX00, w ∈ wsX0_commonColour := fun _ h => List.mem_cons_of_mem _ (List.mem_append_right _ h)
abbrev rm_X0_commonColour : Room := { frames := 0, cells := 0, slots := 0, locals := 0 }
set_option maxHeartbeats 1200000 in
set_option maxRecDepth 100000 in
theorem k_X0_commonColour (l : Launch) {G : va_G} {cy : Nat → ClassId} {ws0 : va_W} {q a ap : Nat} {ce f d : Int → Int} {T : List Int} (k9 : Ky) (h_c : ws0[q]? = some (a, .inr (0, [.ref ap, .long (fmk (d 0) f)]))) (h_cp : ws0[q + 1]? = some (ap, aL cy 4 (mk (d 0) ce))) (hD : DW d T) (hq : KOk d k9) (he : ∀ x : Int, 1 ≤ x → x ≤ d 0 → 0 ≤ ce x ∧ ce x ≤ 4) : MI l yX0_commonColour wsX0_commonColour rm_X0_commonColour G cy [.ref a, .long (bs (fun x => has d k9 x))] ws0 (fun z u => z = cAll d ce k9 ∧ ws0 = u) := by
  refine MI.of (own := RX0) (cc := cX0_commonColour) (nL := 4) (ret := (some .int)) (by decide) rfl rfl (Nat.le_of_ble_eq_true rfl) ?_
  intro p e s m below meth c A ls E h hl
  have hl : lv_has ls 4 [(0, .ref a), (1, .long (bs (fun x => has d k9 x)))] := hl
  have hl9 := kl_rng hD hq
  refine r_iconst E dX0_commonColour_0 ?_
  refine r_istore_n (lv' := [(3, .int (zI 0)), (0, .ref a), (1, .long (bs (fun x => has d k9 x)))]) E hl dX0_commonColour_1 rfl (by decide) rfl (fun ls hl => ?_)
  refine r_loop (fun n H locs ls => ∃ (k : Int), n = (4 - k).toNat ∧ (0 ≤ k ∧ k ≤ 4) ∧ (∀ c : Int, 0 ≤ c → c < k → ¬ ∀ j : Int, 0 ≤ j → j < kl d k9 → ce (km d k9 j) = c + 1) ∧ Hp G ws0 A s.heap H locs ∧ lv_has ls 4 [(0, .ref a), (1, .long (bs (fun x => has d k9 x))), (3, .int (zI k))]) _ ⟨0, rfl, (by omega), (fun j h0 h1 => absurd h1 (by omega)), h, lv_sub hl [1, 2, 0] rfl⟩ ?_
  rintro n H locs ls ⟨k, hn, i1, i2, h, hl⟩ ih_2
  refine r_iload_n E 2 hl rfl dX0_commonColour_2 ?_
  refine r_aload_n E 0 hl rfl dX0_commonColour_3 ?_
  refine r_get (v := .ref ap) E h h_c rfl inn_X0_commonColour_0 0 (by decide) fl_X0_commonColour_9 rfl dX0_commonColour_4 ?_
  refine r_alen E h rfl h_cp (v := 4) rfl dX0_commonColour_7 ?_
  refine r_icmp_ge E 36 dX0_commonColour_8 (by decide) (by omega) (fun c_8 => ?_) (fun c_8 => ?_)
  · skip
    refine r_iconst E dX0_commonColour_36 ?_
    exact r_iret E h ⟨(cAll_no hD hq he (fun c h0 h1 => i2 c h0 (by omega))).symm, rfl⟩ dX0_commonColour_37
  · skip
    refine r_lload_n E 1 hl rfl dX0_commonColour_11 ?_
    refine r_aload_n E 0 hl rfl dX0_commonColour_12 ?_
    refine r_get (v := .ref ap) E h h_c rfl inn_X0_commonColour_0 0 (by decide) fl_X0_commonColour_9 rfl dX0_commonColour_13 ?_
    refine r_iload_n E 2 hl rfl dX0_commonColour_16 ?_
    refine r_lald E h h_cp (by omega) (by decide) dX0_commonColour_17 ?_
    refine r_ldc2 E (v := (-1)) (List.mem_of_getElem? (i := 2) rfl) dX0_commonColour_18 ?_
    refine r_lxor E dX0_commonColour_21 ?_
    refine r_land E dX0_commonColour_22 ?_
    refine r_lconst (v := zL 0) E dX0_commonColour_23 (by decide) ?_
    refine r_lcmpX E dX0_commonColour_24 (fun z_24 zb_24 ze_24 => ?_)
    refine r_if_ne E 30 dX0_commonColour_25 (by decide) (by omega) (fun c_25 => ?_) (fun c_25 => ?_)
    · skip
      have q1 := fun hh => c_25 (ze_24.mpr ((sub_all hD hq).mpr hh))
      refine r_iinc (lv' := [(3, .int (zI (k + 1))), (0, .ref a), (1, .long (bs (fun x => has d k9 x)))]) E 2 hl rfl dX0_commonColour_30 (by decide) rfl (fun ls hl => ?_)
      refine r_goto E 2 dX0_commonColour_33 (by decide) ?_
      exact ih_2 _ H locs ls (by omega) ⟨(k + 1), rfl, (by omega), (fun j h0 h1 => by
      by_cases e9 : j = k
      · rw [e9]; exact q1
      · exact i2 j h0 (by omega)), h, lv_sub hl [1, 2, 0] rfl⟩
    · skip
      have q1 := (sub_all hD hq).mp (ze_24.mp c_25)
      refine r_iload_n E 2 hl rfl dX0_commonColour_28 ?_
      exact r_iret E h ⟨((cAll_eq (by omega) (by omega)).mpr q1).symm, rfl⟩ dX0_commonColour_29
theorem hd_X0_fix : yX0_fix.cls = RX0 ∧ yX0_fix.cls ≠ "java/lang/invoke/MethodHandle" ∧ yX0_fix.cls ≠ "java/lang/invoke/VarHandle" ∧ (parseMethodDescriptor yX0_fix.desc).map (fun d => d.parameters.length) = some 2 := by decide +kernel
theorem fl_X0_fix_15 : Cond.fieldLink RX0 15 (TX0 1).1 (TX0 1).2.1 (TX0 1).2.2.1 ∈ wsX0_fix := List.mem_of_getElem? (i := 1) rfl
theorem inn_X0_fix_0 : ∀ w ∈ wsX00, w ∈ wsX0_fix := fun _ h => List.mem_cons_of_mem _ (List.mem_append_right _ h)
abbrev rm_X0_fix : Room := { frames := 0, cells := 0, slots := 0, locals := 0 }
set_option maxHeartbeats 1200000 in
set_option maxRecDepth 100000 in
theorem k_X0_fix (l : Launch) {G : va_G} {cy : Nat → ClassId} {ws0 : va_W} {q a ap : Nat} {nn : Int} {ce f : Int → Int} (x v : Int) (h_c : ws0[q]? = some (a, .inr (0, [.ref ap, .long (fmk nn f)]))) (h_cp : ws0[q + 1]? = some (ap, aL cy 4 (mk nn ce))) (hnn : 0 ≤ nn ∧ nn ≤ 40) (hx : 1 ≤ x ∧ x ≤ nn) (hv : v = 0 ∨ v = 1) : MV l yX0_fix wsX0_fix rm_X0_fix G cy [.ref a, .int (zI x), .int (zI v)] ws0 (fun u => u[q]? = some (a, .inr (0, [.ref ap, .long (fmk nn (uZ f x v))])) ∧ Eqx ws0 u (fun j => j = q)) := by
  refine MV.of (own := RX0) (cc := cX0_fix) (nL := 3) (ret := none) (by decide) rfl rfl (Nat.le_of_ble_eq_true rfl) ?_
  intro p e s m below meth c A ls hin E h hl
  have hl : lv_has ls 3 [(0, .ref a), (1, .int (zI x)), (2, .int (zI v))] := hl
  have hE : Eqx ws0 ws0 (fun j => j = q) := Eqx.rf
  refine r_aload_n E 0 hl rfl dX0_fix_0 ?_
  refine r_dup E dX0_fix_1 rfl ?_
  refine r_get (v := .long (fmk nn f)) E h h_c rfl inn_X0_fix_0 1 (by decide) fl_X0_fix_15 rfl dX0_fix_2 ?_
  refine r_lconst (v := zL 1) E dX0_fix_5 (by decide) ?_
  refine r_iload_n E 1 hl rfl dX0_fix_6 ?_
  refine r_lshl E dX0_fix_7 (v := bs (fun v8 => decide (v8 = x))) (bs_one (by omega)) ?_
  refine r_ldc2 E (v := (-1)) (List.mem_of_getElem? (i := 2) rfl) dX0_fix_8 ?_
  refine r_lxor E dX0_fix_11 ?_
  refine r_land E dX0_fix_12 ?_
  rw [show ((fmk nn f) &&& ((bs (fun v8 => decide (v8 = x))) ^^^ ((-1)))) = fmk nn (uZ f x 0) from fmk_clr]
  skip
  refine r_put E h h_c rfl inn_X0_fix_0 1 (by decide) fl_X0_fix_15 tyX0 tyX0_ok nmX0 rfl rfl rfl (Nat.le_of_ble_eq_true rfl) dX0_fix_13 (fun ws H locs h hu => ?_)
  have h_c : ws[q]? = some (a, .inr (0, [.ref ap, .long (fmk nn (uZ f x 0))])) := hu.1
  have h_cp := hu.keep h_cp (by omega)
  have hE := hE.tr (hu.eqx (by first | omega | (dsimp only <;> omega)))
  refine r_iload_n E 2 hl rfl dX0_fix_16 ?_
  refine r_if_eq E 32 dX0_fix_17 (by decide) (by omega) (fun c_17 => ?_) (fun c_17 => ?_)
  · skip
    exact r_vret E h ⟨by rw [show v = 0 by omega]; exact h_c, hE⟩ dX0_fix_32
  · skip
    refine r_aload_n E 0 hl rfl dX0_fix_20 ?_
    refine r_dup E dX0_fix_21 rfl ?_
    refine r_get (v := .long (fmk nn (uZ f x 0))) E h h_c rfl inn_X0_fix_0 1 (by decide) fl_X0_fix_15 rfl dX0_fix_22 ?_
    refine r_lconst (v := zL 1) E dX0_fix_25 (by decide) ?_
    refine r_iload_n E 1 hl rfl dX0_fix_26 ?_
    refine r_lshl E dX0_fix_27 (v := bs (fun v8 => decide (v8 = x))) (bs_one (by omega)) ?_
    refine r_lor E dX0_fix_28 ?_
    rw [show ((fmk nn (uZ f x 0)) ||| (bs (fun v8 => decide (v8 = x)))) = fmk nn (uZ f x 1) from (fmk_set hx)]
    skip
    refine r_put E h h_c rfl inn_X0_fix_0 1 (by decide) fl_X0_fix_15 tyX0 tyX0_ok nmX0 rfl rfl rfl (Nat.le_of_ble_eq_true rfl) dX0_fix_29 (fun ws H locs h hu => ?_)
    have h_c : ws[q]? = some (a, .inr (0, [.ref ap, .long (fmk nn (uZ f x 1))])) := hu.1
    have h_cp := hu.keep h_cp (by omega)
    have hE := hE.tr (hu.eqx (by first | omega | (dsimp only <;> omega)))
    exact r_vret E h ⟨by rw [show v = 1 by omega]; exact h_c, hE⟩ dX0_fix_32
theorem hd_X0_copyFrom : yX0_copyFrom.cls = RX0 ∧ yX0_copyFrom.cls ≠ "java/lang/invoke/MethodHandle" ∧ yX0_copyFrom.cls ≠ "java/lang/invoke/VarHandle" ∧ (parseMethodDescriptor yX0_copyFrom.desc).map (fun d => d.parameters.length) = some 1 := by decide +kernel
theorem fl_X0_copyFrom_9 : Cond.fieldLink RX0 9 (TX0 0).1 (TX0 0).2.1 (TX0 0).2.2.1 ∈ wsX0_copyFrom := List.mem_of_getElem? (i := 1) rfl
theorem inn_X0_copyFrom_0 : ∀ w ∈ wsX00, w ∈ wsX0_copyFrom := fun _ h => List.mem_cons_of_mem _ (List.mem_append_right _ h)
theorem fl_X0_copyFrom_15 : Cond.fieldLink RX0 15 (TX0 1).1 (TX0 1).2.1 (TX0 1).2.2.1 ∈ wsX0_copyFrom := List.mem_of_getElem? (i := 6) rfl
abbrev rm_X0_copyFrom : Room := { frames := 1, cells := 0, slots := 0, locals := 72 }
set_option maxHeartbeats 1200000 in
set_option maxRecDepth 100000 in
theorem k_X0_copyFrom (l : Launch) {G : va_G} {cy : Nat → ClassId} {ws0 : va_W} {q a ap q2 a2 ap2 : Nat} {P P2 : Int → Int64} {F F2 : Int64} (h_c : ws0[q]? = some (a, .inr (0, [.ref ap, .long F]))) (h_cp : ws0[q + 1]? = some (ap, aL cy 4 P)) (h_o : ws0[q2]? = some (a2, .inr (0, [.ref ap2, .long F2]))) (h_op : ws0[q2 + 1]? = some (ap2, aL cy 4 P2)) (hq : q + 2 ≤ q2 ∨ q2 + 2 ≤ q) : MV l yX0_copyFrom wsX0_copyFrom rm_X0_copyFrom G cy [.ref a, .ref a2] ws0 (fun u => u[q]? = some (a, .inr (0, [.ref ap, .long F2])) ∧ u[q + 1]? = some (ap, aL cy 4 P2) ∧ Eqx ws0 u (fun j => j = q ∨ j = q + 1)) := by
  refine MV.of (own := RX0) (cc := cX0_copyFrom) (nL := 2) (ret := none) (by decide) rfl rfl (Nat.le_of_ble_eq_true rfl) ?_
  intro p e s m below meth c A ls hin E h hl
  have hl : lv_has ls 2 [(0, .ref a), (1, .ref a2)] := hl
  have hE : Eqx ws0 ws0 (fun j => j = q ∨ j = q + 1) := Eqx.rf
  refine r_aload_n E 1 hl rfl dX0_copyFrom_0 ?_
  refine r_get (v := .ref ap2) E h h_o rfl inn_X0_copyFrom_0 0 (by decide) fl_X0_copyFrom_9 rfl dX0_copyFrom_1 ?_
  refine r_iconst E dX0_copyFrom_4 ?_
  refine r_aload_n E 0 hl rfl dX0_copyFrom_5 ?_
  refine r_get (v := .ref ap) E h h_c rfl inn_X0_copyFrom_0 0 (by decide) fl_X0_copyFrom_9 rfl dX0_copyFrom_6 ?_
  refine r_iconst E dX0_copyFrom_9 ?_
  refine r_aload_n E 0 hl rfl dX0_copyFrom_10 ?_
  refine r_get (v := .ref ap) E h h_c rfl inn_X0_copyFrom_0 0 (by decide) fl_X0_copyFrom_9 rfl dX0_copyFrom_11 ?_
  refine r_alen E h rfl h_cp (v := 4) rfl dX0_copyFrom_14 ?_
  refine r_cpyL (N := 4) E h (List.mem_of_getElem? (i := 2) rfl) (List.mem_of_getElem? (i := 3) rfl) (List.mem_of_getElem? (i := 4) rfl) (List.mem_of_getElem? (i := 5) rfl) h_op h_cp hl.1 ⟨by decide, Nat.le_of_ble_eq_true rfl⟩ (by decide) dX0_copyFrom_15 (fun ws H locs h hu => ?_)
  have h_c := hu.keep h_c (by omega)
  have h_cp : ws[q + 1]? = some (ap, aL cy 4 P2) := hu.1
  have h_o := hu.keep h_o (by omega)
  have h_op := hu.keep h_op (by omega)
  have hE := hE.tr (hu.eqx (by first | omega | (dsimp only <;> omega)))
  refine r_aload_n E 0 hl rfl dX0_copyFrom_18 ?_
  refine r_aload_n E 1 hl rfl dX0_copyFrom_19 ?_
  refine r_get (v := .long F2) E h h_o rfl inn_X0_copyFrom_0 1 (by decide) fl_X0_copyFrom_15 rfl dX0_copyFrom_20 ?_
  refine r_put E h h_c rfl inn_X0_copyFrom_0 1 (by decide) fl_X0_copyFrom_15 tyX0 tyX0_ok nmX0 rfl rfl rfl (Nat.le_of_ble_eq_true rfl) dX0_copyFrom_23 (fun ws H locs h hu => ?_)
  have h_c : ws[q]? = some (a, .inr (0, [.ref ap, .long F2])) := hu.1
  have h_cp := hu.keep h_cp (by omega)
  have h_o := hu.keep h_o (by omega)
  have h_op := hu.keep h_op (by omega)
  have hE := hE.tr (hu.eqx (by first | omega | (dsimp only <;> omega)))
  exact r_vret E h ⟨h_c, h_cp, hE⟩ dX0_copyFrom_26
theorem hd_X0_clear : yX0_clear.cls = RX0 ∧ yX0_clear.cls ≠ "java/lang/invoke/MethodHandle" ∧ yX0_clear.cls ≠ "java/lang/invoke/VarHandle" ∧ (parseMethodDescriptor yX0_clear.desc).map (fun d => d.parameters.length) = some 0 := by decide +kernel
theorem fl_X0_clear_9 : Cond.fieldLink RX0 9 (TX0 0).1 (TX0 0).2.1 (TX0 0).2.2.1 ∈ wsX0_clear := List.mem_of_getElem? (i := 1) rfl
theorem inn_X0_clear_0 : ∀ w ∈ wsX00, w ∈ wsX0_clear := fun _ h => List.mem_cons_of_mem _ (List.mem_append_right _ h)
theorem fl_X0_clear_15 : Cond.fieldLink RX0 15 (TX0 1).1 (TX0 1).2.1 (TX0 1).2.2.1 ∈ wsX0_clear := List.mem_of_getElem? (i := 2) rfl
abbrev rm_X0_clear : Room := { frames := 1, cells := 0, slots := 0, locals := 24 }
set_option maxHeartbeats 1200000 in
set_option maxRecDepth 100000 in
theorem k_X0_clear (l : Launch) {G : va_G} {cy : Nat → ClassId} {ws0 : va_W} {q a ap : Nat} {P : Int → Int64} {F : Int64} (nn : Int) (h_c : ws0[q]? = some (a, .inr (0, [.ref ap, .long F]))) (h_cp : ws0[q + 1]? = some (ap, aL cy 4 P))  : MV l yX0_clear wsX0_clear rm_X0_clear G cy [.ref a] ws0 (fun u => u[q]? = some (a, .inr (0, [.ref ap, .long (fmk nn (fun _ => 0))])) ∧ u[q + 1]? = some (ap, aL cy 4 (mk nn (fun _ => 0))) ∧ Eqx ws0 u (fun j => j = q ∨ j = q + 1)) := by
  refine MV.of (own := RX0) (cc := cX0_clear) (nL := 1) (ret := none) (by decide) rfl rfl (Nat.le_of_ble_eq_true rfl) ?_
  intro p e s m below meth c A ls hin E h hl
  have hl : lv_has ls 1 [(0, .ref a)] := hl
  have hE : Eqx ws0 ws0 (fun j => j = q ∨ j = q + 1) := Eqx.rf
  refine r_aload_n E 0 hl rfl dX0_clear_0 ?_
  refine r_get (v := .ref ap) E h h_c rfl inn_X0_clear_0 0 (by decide) fl_X0_clear_9 rfl dX0_clear_1 ?_
  refine r_lconst (v := zL 0) E dX0_clear_4 (by decide) ?_
  refine r_callSV E h (As := [.ref ap, .long (zL 0)]) (rest := []) (k_J7_fill_d0a16 l (zL 0) h_cp (by omega)) gX0_clear_J7_fill_d0a16 rfl hd_J7_fill_d0a16 (by decide) ⟨by decide, by decide⟩ hl.1 rfl (Nat.le_of_ble_eq_true rfl) dX0_clear_5 rfl (fun ws H locs hp h => ?_)
  obtain ⟨h_cp, hf⟩ := hp
  have h_c := hf.at h_c (by first | omega | (dsimp only <;> omega))
  have hE := hE.tr (hf.wk (fun j hj => by first | omega | (dsimp only at hj ⊢ <;> omega)))
  refine r_aload_n E 0 hl rfl dX0_clear_8 ?_
  refine r_lconst (v := zL 0) E dX0_clear_9 (by decide) ?_
  refine r_put E h h_c rfl inn_X0_clear_0 1 (by decide) fl_X0_clear_15 tyX0 tyX0_ok nmX0 rfl rfl rfl (Nat.le_of_ble_eq_true rfl) dX0_clear_10 (fun ws H locs h hu => ?_)
  have h_c : ws[q]? = some (a, .inr (0, [.ref ap, .long (zL 0)])) := hu.1
  have h_cp := hu.keep h_cp (by omega)
  have hE := hE.tr (hu.eqx (by first | omega | (dsimp only <;> omega)))
  obtain ⟨u9, h9, hu9⟩ := h.reconL h_cp (g := mk nn (fun _ => 0)) (fun j h0 h1 => (mk_0 h0).symm)
  exact r_vret E h9 ⟨by rw [fmk_0]; exact hu9.keep h_c (by omega), hu9.1, hE.tr (hu9.eqx (by first | omega | (dsimp only; omega)))⟩ dX0_clear_13
theorem hd_X0_init : yX0_init.cls ≠ "java/lang/invoke/MethodHandle" ∧ yX0_init.cls ≠ "java/lang/invoke/VarHandle" ∧ (parseMethodDescriptor yX0_init.desc).map (fun d => d.parameters.length) = some 0 := by decide +kernel
theorem fl_X0_init_9 : Cond.fieldLink RX0 9 (TX0 0).1 (TX0 0).2.1 (TX0 0).2.2.1 ∈ wsX0_init := List.mem_of_getElem? (i := 5) rfl
theorem inn_X0_init_0 : ∀ w ∈ wsX00, w ∈ wsX0_init := fun _ h => List.mem_cons_of_mem _ (List.mem_append_right _ h)
theorem fl_X0_init_15 : Cond.fieldLink RX0 15 (TX0 1).1 (TX0 1).2.1 (TX0 1).2.2.1 ∈ wsX0_init := List.mem_of_getElem? (i := 6) rfl
abbrev rm_X0_init : Room := { frames := 1, cells := 1, slots := 4, locals := 24 }
set_option maxHeartbeats 1200000 in
set_option maxRecDepth 100000 in
theorem k_X0_init (l : Launch) {G : va_G} {cy : Nat → ClassId} {ws0 : va_W} {q a B : Nat} (h_c : ws0[q]? = some (a, .inr (0, [.null, .long ((zL 0))]))) (hlen : ws0.length = B) : MV l yX0_init wsX0_init rm_X0_init G cy [.ref a] ws0 (fun u => ∃ ap : Nat, u[q]? = some (a, .inr (0, [.ref ap, .long (fmk 0 (fun _ => 0))])) ∧ u[B]? = some (ap, aL cy 4 (mk 0 (fun _ => 0))) ∧ u.length = B + 1 ∧ Eqx ws0 u (fun j => j = q)) := by
  refine MV.of (own := RX0) (cc := cX0_init) (nL := 1) (ret := none) (by decide) rfl rfl (Nat.le_of_ble_eq_true rfl) ?_
  intro p e s m below meth c A ls hin E h hl
  have hl : lv_has ls 1 [(0, .ref a)] := hl
  have hE : Eqx ws0 ws0 (fun j => j = q) := Eqx.rf
  have hqB : q < B := by have := lt_of_at h_c; omega
  have hlen0 := hlen
  refine r_aload_n E 0 hl rfl dX0_init_0 ?_
  refine r_objI E (List.mem_of_getElem? (i := 1) rfl) (List.mem_of_getElem? (i := 2) rfl) (List.mem_of_getElem? (i := 3) rfl) hl.1 ⟨by decide, Nat.le_of_ble_eq_true rfl⟩ dX0_init_1 ?_
  refine r_aload_n E 0 hl rfl dX0_init_4 ?_
  refine r_iconst E dX0_init_5 ?_
  refine r_newL (N := 4) E h ⟨rfl, by decide⟩ (List.mem_of_getElem? (i := 4) rfl) (by decide) (by decide) dX0_init_6 (fun a_6 ws H hu h => ?_)
  have h_c := hu.keep h_c
  have h_n6 : ws[B]? = some (a_6, aL cy 4 ((fun _ => 0))) := by have h9 := hu.new; rwa [hlen] at h9
  have hlen : ws.length = B + 1 := by have h9 := hu.len; omega
  have hE := hE.tr hu.eqx
  refine r_putF E hin h h_c rfl inn_X0_init_0 0 (by decide) fl_X0_init_9 tyX0 tyX0_ok nmX0 rfl rfl rfl rfl (Nat.le_of_ble_eq_true rfl) dX0_init_8 (fun ws H locs h hu => ?_)
  have h_c : ws[q]? = some (a, .inr (0, [.ref a_6, .long ((zL 0))])) := hu.1
  have h_n6 := hu.keep h_n6 (by omega)
  have hE : Eqx ws0 ws (fun j => j = q) := by first | exact hE.tr (hu.eqx (by first | omega | (dsimp only <;> omega))) | exact hE.up hu (by omega)
  have hlen := hu.2.1.trans hlen
  refine r_aload_n E 0 hl rfl dX0_init_11 ?_
  refine r_lconst (v := zL 0) E dX0_init_12 (by decide) ?_
  refine r_put E h h_c rfl inn_X0_init_0 1 (by decide) fl_X0_init_15 tyX0 tyX0_ok nmX0 rfl rfl rfl (Nat.le_of_ble_eq_true rfl) dX0_init_13 (fun ws H locs h hu => ?_)
  have h_c : ws[q]? = some (a, .inr (0, [.ref a_6, .long (zL 0)])) := hu.1
  have h_n6 := hu.keep h_n6 (by omega)
  have hE : Eqx ws0 ws (fun j => j = q) := by first | exact hE.tr (hu.eqx (by first | omega | (dsimp only <;> omega))) | exact hE.up hu (by omega)
  have hlen := hu.2.1.trans hlen
  obtain ⟨u9, h9, hu9⟩ := h.reconL h_n6 (g := mk 0 (fun _ => 0)) (fun j h0 h1 => by rw [mk_0 h0]; rfl)
  refine W.widen (k := 1) (n := 4) (by decide) (by decide) ?_
  exact r_vret E h9 ⟨_, by rw [fmk_0]; exact hu9.keep h_c (by omega), hu9.1, by rw [hu9.2.1]; exact hlen, hE.up hu9 (by omega)⟩ dX0_init_16
