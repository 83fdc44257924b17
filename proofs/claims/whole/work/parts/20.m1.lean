/-- the model's object: its ints by a function of the field's place, the addresses of its arrays by another -/
abbrev mO (I : Nat → Int) (ad : Nat → Nat) : va_E := .inr (11, [.int (zI (I 0)), .ref (ad 1), .int (zI (I 2)), .int (zI (I 3)), .int (zI (I 4)), .int (zI (I 5)), .int (zI (I 6)), .int (zI (I 7)), .ref (ad 8), .ref (ad 9), .ref (ad 10), .ref (ad 11), .int (zI (I 12)), .int (zI (I 13)), .int (zI (I 14)), .ref (ad 15), .ref (ad 16), .ref (ad 17), .ref (ad 18), .int (zI (I 19)), .ref (ad 20), .ref (ad 21), .ref (ad 22), .int (zI (I 23)), .int (zI (I 24)), .ref (ad 25), .int (zI (I 26)), .int (zI (I 27))])
theorem hd_X11_in : yX11_in.cls ≠ "java/lang/invoke/MethodHandle" ∧ yX11_in.cls ≠ "java/lang/invoke/VarHandle" ∧ (parseMethodDescriptor yX11_in.desc).map (fun d => d.parameters.length) = some 3 := by decide +kernel
abbrev rm_X11_in : Room := { frames := 0, cells := 0, slots := 0, locals := 0 }
set_option maxHeartbeats 4000000 in
set_option maxRecDepth 100000 in
theorem k_X11_in (l : Launch) {G : va_G} {cy : Nat → ClassId} {ws0 : va_W} (v lo hi : Int)  (hv : (-2147483648 ≤ v ∧ v ≤ 2147483647) ∧ (-2147483648 ≤ lo ∧ lo ≤ 2147483647) ∧ (-2147483648 ≤ hi ∧ hi ≤ 2147483647)) : MI l yX11_in wsX11_in rm_X11_in G cy [.int (zI v), .int (zI lo), .int (zI hi)] ws0 (fun z u => (z = 1 ∧ lo ≤ v ∧ v ≤ hi ∨ z = 0 ∧ (v < lo ∨ hi < v)) ∧ ws0 = u) := by
  refine MI.of (own := RX11) (cc := cX11_in) (nL := 3) (ret := (some .boolean)) (by decide) rfl rfl (Nat.le_of_ble_eq_true rfl) ?_
  intro p e s m below meth c A ls E h hl
  have hl : lv_has ls 3 [(0, .int (zI v)), (1, .int (zI lo)), (2, .int (zI hi))] := hl
  refine r_iload_n E 0 hl rfl dX11_in_0 ?_
  refine r_iload_n E 1 hl rfl dX11_in_1 ?_
  refine r_icmp_lt E 14 dX11_in_2 (by decide) (by omega) (fun c_2 => ?_) (fun c_2 => ?_)
  · skip
    refine r_iconst E dX11_in_14 ?_
    exact r_zret E h (by omega) ⟨by omega, rfl⟩ dX11_in_15
  · skip
    refine r_iload_n E 0 hl rfl dX11_in_5 ?_
    refine r_iload_n E 2 hl rfl dX11_in_6 ?_
    refine r_icmp_gt E 14 dX11_in_7 (by decide) (by omega) (fun c_7 => ?_) (fun c_7 => ?_)
    · skip
      refine r_iconst E dX11_in_14 ?_
      exact r_zret E h (by omega) ⟨by omega, rfl⟩ dX11_in_15
    · skip
      refine r_iconst E dX11_in_10 ?_
      refine r_goto E 15 dX11_in_11 (by decide) ?_
      exact r_zret E h (by omega) ⟨by omega, rfl⟩ dX11_in_15
theorem hd_X11_min : yX11_min.cls ≠ "java/lang/invoke/MethodHandle" ∧ yX11_min.cls ≠ "java/lang/invoke/VarHandle" ∧ (parseMethodDescriptor yX11_min.desc).map (fun d => d.parameters.length) = some 2 := by decide +kernel
abbrev rm_X11_min : Room := { frames := 0, cells := 0, slots := 0, locals := 0 }
set_option maxHeartbeats 4000000 in
set_option maxRecDepth 100000 in
theorem k_X11_min (l : Launch) {G : va_G} {cy : Nat → ClassId} {ws0 : va_W} (x y : Int)  (hv : (-2147483648 ≤ x ∧ x ≤ 2147483647) ∧ (-2147483648 ≤ y ∧ y ≤ 2147483647)) : MI l yX11_min wsX11_min rm_X11_min G cy [.int (zI x), .int (zI y)] ws0 (fun z u => (z = x ∧ x < y ∨ z = y ∧ y ≤ x) ∧ ws0 = u) := by
  refine MI.of (own := RX11) (cc := cX11_min) (nL := 2) (ret := (some .int)) (by decide) rfl rfl (Nat.le_of_ble_eq_true rfl) ?_
  intro p e s m below meth c A ls E h hl
  have hl : lv_has ls 2 [(0, .int (zI x)), (1, .int (zI y))] := hl
  refine r_iload_n E 0 hl rfl dX11_min_0 ?_
  refine r_iload_n E 1 hl rfl dX11_min_1 ?_
  refine r_icmp_ge E 9 dX11_min_2 (by decide) (by omega) (fun c_2 => ?_) (fun c_2 => ?_)
  · skip
    refine r_iload_n E 1 hl rfl dX11_min_9 ?_
    exact r_iret E h ⟨by omega, rfl⟩ dX11_min_10
  · skip
    refine r_iload_n E 0 hl rfl dX11_min_5 ?_
    refine r_goto E 10 dX11_min_6 (by decide) ?_
    exact r_iret E h ⟨by omega, rfl⟩ dX11_min_10
theorem hd_X11_max : yX11_max.cls ≠ "java/lang/invoke/MethodHandle" ∧ yX11_max.cls ≠ "java/lang/invoke/VarHandle" ∧ (parseMethodDescriptor yX11_max.desc).map (fun d => d.parameters.length) = some 2 := by decide +kernel
abbrev rm_X11_max : Room := { frames := 0, cells := 0, slots := 0, locals := 0 }
set_option maxHeartbeats 4000000 in
set_option maxRecDepth 100000 in
theorem k_X11_max (l : Launch) {G : va_G} {cy : Nat → ClassId} {ws0 : va_W} (x y : Int)  (hv : (-2147483648 ≤ x ∧ x ≤ 2147483647) ∧ (-2147483648 ≤ y ∧ y ≤ 2147483647)) : MI l yX11_max wsX11_max rm_X11_max G cy [.int (zI x), .int (zI y)] ws0 (fun z u => (z = x ∧ y < x ∨ z = y ∧ x ≤ y) ∧ ws0 = u) := by
  refine MI.of (own := RX11) (cc := cX11_max) (nL := 2) (ret := (some .int)) (by decide) rfl rfl (Nat.le_of_ble_eq_true rfl) ?_
  intro p e s m below meth c A ls E h hl
  have hl : lv_has ls 2 [(0, .int (zI x)), (1, .int (zI y))] := hl
  refine r_iload_n E 0 hl rfl dX11_max_0 ?_
  refine r_iload_n E 1 hl rfl dX11_max_1 ?_
  refine r_icmp_le E 9 dX11_max_2 (by decide) (by omega) (fun c_2 => ?_) (fun c_2 => ?_)
  · skip
    refine r_iload_n E 1 hl rfl dX11_max_9 ?_
    exact r_iret E h ⟨by omega, rfl⟩ dX11_max_10
  · skip
    refine r_iload_n E 0 hl rfl dX11_max_5 ?_
    refine r_goto E 10 dX11_max_6 (by decide) ?_
    exact r_iret E h ⟨by omega, rfl⟩ dX11_max_10
theorem hd_X11_rule : yX11_rule.cls ≠ "java/lang/invoke/MethodHandle" ∧ yX11_rule.cls ≠ "java/lang/invoke/VarHandle" ∧ (parseMethodDescriptor yX11_rule.desc).map (fun d => d.parameters.length) = some 1 := by decide +kernel
abbrev rm_X11_rule : Room := { frames := 0, cells := 0, slots := 0, locals := 0 }
set_option maxHeartbeats 4000000 in
set_option maxRecDepth 100000 in
theorem k_X11_rule (l : Launch) {G : va_G} {cy : Nat → ClassId} {ws0 : va_W} (r : Int)   : MI l yX11_rule wsX11_rule rm_X11_rule G cy [.int (zI r)] ws0 (fun z u => z = 5 + 6 * r ∧ ws0 = u) := by
  refine MI.of (own := RX11) (cc := cX11_rule) (nL := 1) (ret := (some .int)) (by decide) rfl rfl (Nat.le_of_ble_eq_true rfl) ?_
  intro p e s m below meth c A ls E h hl
  have hl : lv_has ls 1 [(0, .int (zI r))] := hl
  refine r_iconst E dX11_rule_0 ?_
  refine r_bipush E dX11_rule_1 (by decide) ?_
  refine r_iload_n E 0 hl rfl dX11_rule_3 ?_
  refine r_imul E dX11_rule_4 ?_
  refine r_iadd E dX11_rule_5 ?_
  exact r_iret E h ⟨rfl, rfl⟩ dX11_rule_6
theorem hd_X11_fails : yX11_fails.cls = RX11 ∧ yX11_fails.cls ≠ "java/lang/invoke/MethodHandle" ∧ yX11_fails.cls ≠ "java/lang/invoke/VarHandle" ∧ (parseMethodDescriptor yX11_fails.desc).map (fun d => d.parameters.length) = some 2 := by decide +kernel
theorem fl_X11_fails_57 : Cond.fieldLink RX11 57 (TX11 0).1 (TX11 0).2.1 (TX11 0).2.2.1 ∈ wsX11_fails := List.mem_of_getElem? (i := 1) rfl
theorem inn_X11_fails_11 : ∀ w ∈ wsX110, w ∈ wsX11_fails := fun _ h => List.mem_cons_of_mem _ (List.mem_append_right _ h)
abbrev rm_X11_fails : Room := { frames := 0, cells := 0, slots := 0, locals := 0 }
set_option maxHeartbeats 4000000 in
set_option maxRecDepth 100000 in
theorem k_X11_fails (l : Launch) {G : va_G} {cy : Nat → ClassId} {ws0 : va_W} {b aM : Nat} {I : Nat → Int} {ad : Nat → Nat} (cnd ex : Int) (h_mo : ws0[b]? = some (aM, mO I ad)) (hc : cnd = 0 ∨ cnd = 1) (hex : 1 ≤ ex ∧ ex ≤ 2) (hI : I 0 = 0) : MI l yX11_fails wsX11_fails rm_X11_fails G cy [.ref aM, .int (zI cnd), .int (zI ex)] ws0 (fun z u => ∃ t : Int, (cnd = 0 ∧ z = 0 ∧ t = 0 ∨ cnd = 1 ∧ z = 1 ∧ t = ex) ∧ u[b]? = some (aM, mO (va_up I 0 t) ad) ∧ Eqx ws0 u (fun j => j = b)) := by
  refine MI.of (own := RX11) (cc := cX11_fails) (nL := 3) (ret := (some .boolean)) (by decide) rfl rfl (Nat.le_of_ble_eq_true rfl) ?_
  intro p e s m below meth c A ls E h hl
  have hl : lv_has ls 3 [(0, .ref aM), (1, .int (zI cnd)), (2, .int (zI ex))] := hl
  have hE : Eqx ws0 ws0 (fun j => j = b) := Eqx.rf
  refine r_iload_n E 1 hl rfl dX11_fails_0 ?_
  refine r_if_eq E 16 dX11_fails_1 (by decide) (by omega) (fun c_1 => ?_) (fun c_1 => ?_)
  · skip
    refine r_aload_n E 0 hl rfl dX11_fails_16 ?_
    refine r_get (v := .int (zI (I 0))) E h h_mo rfl inn_X11_fails_11 0 (by decide) fl_X11_fails_57 rfl dX11_fails_17 ?_
    refine r_if_eq E 27 dX11_fails_20 (by decide) (by omega) (fun c_20 => ?_) (fun c_20 => ?_)
    · skip
      refine r_iconst E dX11_fails_27 ?_
      exact r_zret E h (by omega) ⟨0, by omega, by rw [va_up_id hI]; exact h_mo, hE⟩ dX11_fails_28
    · skip
      refine r_iconst E dX11_fails_23 ?_
      refine r_goto E 28 dX11_fails_24 (by decide) ?_
      exact r_zret E h (by omega) ⟨0, by omega, by rw [va_up_id hI]; exact h_mo, hE⟩ dX11_fails_28
  · skip
    refine r_aload_n E 0 hl rfl dX11_fails_4 ?_
    refine r_get (v := .int (zI (I 0))) E h h_mo rfl inn_X11_fails_11 0 (by decide) fl_X11_fails_57 rfl dX11_fails_5 ?_
    refine r_if_ne E 16 dX11_fails_8 (by decide) (by omega) (fun c_8 => ?_) (fun c_8 => ?_)
    · skip
      refine r_aload_n E 0 hl rfl dX11_fails_16 ?_
      refine r_get (v := .int (zI (I 0))) E h h_mo rfl inn_X11_fails_11 0 (by decide) fl_X11_fails_57 rfl dX11_fails_17 ?_
      refine r_if_eq E 27 dX11_fails_20 (by decide) (by omega) (fun c_20 => ?_) (fun c_20 => ?_)
      · skip
        refine r_iconst E dX11_fails_27 ?_
        exact r_zret E h (by omega) ⟨0, by omega, by rw [va_up_id hI]; exact h_mo, hE⟩ dX11_fails_28
      · skip
        refine r_iconst E dX11_fails_23 ?_
        refine r_goto E 28 dX11_fails_24 (by decide) ?_
        exact r_zret E h (by omega) ⟨0, by omega, by rw [va_up_id hI]; exact h_mo, hE⟩ dX11_fails_28
    · skip
      refine r_aload_n E 0 hl rfl dX11_fails_11 ?_
      refine r_iload_n E 2 hl rfl dX11_fails_12 ?_
      refine r_put E h h_mo rfl inn_X11_fails_11 0 (by decide) fl_X11_fails_57 tyX11 tyX11_ok nmX11 rfl rfl rfl (Nat.le_of_ble_eq_true rfl) dX11_fails_13 (fun ws H locs h hu => ?_)
      have h_mo : ws[b]? = some (aM, mO (va_up I 0 ex) ad) := hu.1
      have hE := hE.tr (hu.eqx (by dsimp only <;> omega))
      refine r_aload_n E 0 hl rfl dX11_fails_16 ?_
      refine r_get (v := .int (zI ex)) E h h_mo rfl inn_X11_fails_11 0 (by decide) fl_X11_fails_57 rfl dX11_fails_17 ?_
      refine r_if_eq E 27 dX11_fails_20 (by decide) (by omega) (fun c_20 => ?_) (fun c_20 => ?_)
      · skip
        refine r_iconst E dX11_fails_27 ?_
        exact r_zret E h (by omega) ⟨ex, by omega, h_mo, hE⟩ dX11_fails_28
      · skip
        refine r_iconst E dX11_fails_23 ?_
        refine r_goto E 28 dX11_fails_24 (by decide) ?_
        exact r_zret E h (by omega) ⟨ex, by omega, h_mo, hE⟩ dX11_fails_28
theorem hd_X11_colourOf : yX11_colourOf.cls = RX11 ∧ yX11_colourOf.cls ≠ "java/lang/invoke/MethodHandle" ∧ yX11_colourOf.cls ≠ "java/lang/invoke/VarHandle" ∧ (parseMethodDescriptor yX11_colourOf.desc).map (fun d => d.parameters.length) = some 1 := by decide +kernel
theorem fl_X11_colourOf_17 : Cond.fieldLink RX11 17 (TX11 8).1 (TX11 8).2.1 (TX11 8).2.2.1 ∈ wsX11_colourOf := List.mem_of_getElem? (i := 1) rfl
theorem inn_X11_colourOf_11 : ∀ w ∈ wsX110, w ∈ wsX11_colourOf := fun _ h => List.mem_cons_of_mem _ (List.mem_append_right _ h)
abbrev rm_X11_colourOf : Room := { frames := 0, cells := 0, slots := 0, locals := 0 }
set_option maxHeartbeats 4000000 in
set_option maxRecDepth 100000 in
theorem k_X11_colourOf (l : Launch) {G : va_G} {cy : Nat → ClassId} {ws0 : va_W} {b aM : Nat} {I : Nat → Int} {ad : Nat → Nat} {da : Int → Int} (x : Int) (h_mo : ws0[b]? = some (aM, mO I ad)) (h_da : ws0[b + 2]? = some (ad 8, aI cy 1111 da)) (hx : 0 ≤ 29 + x ∧ 29 + x < 1111) : MI l yX11_colourOf wsX11_colourOf rm_X11_colourOf G cy [.ref aM, .int (zI x)] ws0 (fun z u => z = da (29 + x) - 1 ∧ ws0 = u) := by
  refine MI.of (own := RX11) (cc := cX11_colourOf) (nL := 2) (ret := (some .int)) (by decide) rfl rfl (Nat.le_of_ble_eq_true rfl) ?_
  intro p e s m below meth c A ls E h hl
  have hl : lv_has ls 2 [(0, .ref aM), (1, .int (zI x))] := hl
  refine r_aload_n E 0 hl rfl dX11_colourOf_0 ?_
  refine r_get (v := .ref (ad 8)) E h h_mo rfl inn_X11_colourOf_11 8 (by decide) fl_X11_colourOf_17 rfl dX11_colourOf_1 ?_
  refine r_bipush E dX11_colourOf_4 (by decide) ?_
  refine r_iload_n E 1 hl rfl dX11_colourOf_6 ?_
  refine r_iadd E dX11_colourOf_7 ?_
  refine r_iald E h h_da (by omega) (by decide) dX11_colourOf_8 ?_
  refine r_iconst E dX11_colourOf_9 ?_
  refine r_isub E dX11_colourOf_10 ?_
  exact r_iret E h ⟨rfl, rfl⟩ dX11_colourOf_11
theorem hd_X11_copy : yX11_copy.cls ≠ "java/lang/invoke/MethodHandle" ∧ yX11_copy.cls ≠ "java/lang/invoke/VarHandle" ∧ (parseMethodDescriptor yX11_copy.desc).map (fun d => d.parameters.length) = some 2 := by decide +kernel
abbrev rm_X11_copy : Room := { frames := 0, cells := 0, slots := 0, locals := 0 }
set_option maxHeartbeats 4000000 in
set_option maxRecDepth 100000 in
theorem k_X11_copy (l : Launch) {G : va_G} {cy : Nat → ClassId} {ws0 : va_W} {qf qt af at9 : Nat} {f g : Int → Int} (h_f : ws0[qf]? = some (af, aI cy 1111 f)) (h_t : ws0[qt]? = some (at9, aI cy 1111 g)) (hq : qf ≠ qt) : MV l yX11_copy wsX11_copy rm_X11_copy G cy [.ref af, .ref at9] ws0 (fun u => u[qt]? = some (at9, aI cy 1111 f) ∧ Eqx ws0 u (fun j => j = qt)) := by
  refine MV.of (own := RX11) (cc := cX11_copy) (nL := 3) (ret := none) (by decide) rfl rfl (Nat.le_of_ble_eq_true rfl) ?_
  intro p e s m below meth c A ls hin E h hl
  have hl : lv_has ls 3 [(0, .ref af), (1, .ref at9)] := hl
  have hE : Eqx ws0 ws0 (fun j => j = qt) := Eqx.rf
  refine r_iconst E dX11_copy_0 ?_
  refine r_istore_n (lv' := [(2, .int (zI 0)), (0, .ref af), (1, .ref at9)]) E hl dX11_copy_1 rfl (by decide) rfl (fun ls hl => ?_)
  refine r_loop (fun n H locs ls => ∃ (ws : va_W) (k : Int) (g2 : Int → Int), n = (1111 - k).toNat ∧ (0 ≤ k ∧ k ≤ 1111) ∧ (∀ j : Int, 0 ≤ j → j < k → g2 j = f j) ∧ Hp G ws A s.heap H locs ∧ (ws[qf]? = some (af, aI cy 1111 f)) ∧ (ws[qt]? = some (at9, aI cy 1111 g2)) ∧ Eqx ws0 ws (fun j => j = qt) ∧ lv_has ls 3 [(0, .ref af), (1, .ref at9), (2, .int (zI k))]) _ ⟨ws0, 0, g, rfl, (by omega), (fun j h0 h1 => absurd h1 (by omega)), h, h_f, h_t, hE, lv_sub hl [1, 2, 0] rfl⟩ ?_
  rintro n H locs ls ⟨ws, k, g2, hn, i1, i2, h, h_f, h_t, hE, hl⟩ ih_2
  refine r_iload_n E 2 hl rfl dX11_copy_2 ?_
  refine r_sipush E dX11_copy_3 (by decide) ?_
  refine r_icmp_ge E 21 dX11_copy_6 (by decide) (by omega) (fun c_6 => ?_) (fun c_6 => ?_)
  · skip
    obtain ⟨u9, h9, hu9⟩ := h.recon h_t (g := f) (fun j h0 h1 => i2 j h0 (by omega))
    exact r_vret E h9 ⟨hu9.1, hE.tr (hu9.eqx (by dsimp only))⟩ dX11_copy_21
  · skip
    refine r_aload_n E 1 hl rfl dX11_copy_9 ?_
    refine r_iload_n E 2 hl rfl dX11_copy_10 ?_
    refine r_aload_n E 0 hl rfl dX11_copy_11 ?_
    refine r_iload_n E 2 hl rfl dX11_copy_12 ?_
    refine r_iald E h h_f (by omega) (by decide) dX11_copy_13 ?_
    refine r_iast E h h_t (by omega) (by decide) dX11_copy_14 (fun ws H locs h hu => ?_)
    have h_f := hu.keep h_f (by omega)
    have h_t : ws[qt]? = some (at9, aI cy 1111 (uZ g2 k (f k))) := hu.1
    have hE := hE.tr (hu.eqx (by dsimp only <;> omega))
    refine r_iinc (lv' := [(2, .int (zI (k + 1))), (0, .ref af), (1, .ref at9)]) E 2 hl rfl dX11_copy_15 (by decide) rfl (fun ls hl => ?_)
    refine r_goto E 2 dX11_copy_18 (by decide) ?_
    exact ih_2 _ H locs ls (by omega) ⟨ws, (k + 1), (uZ g2 k (f k)), rfl, (by omega), (fun j h0 h1 => by
      by_cases e : j = k
      · subst e; exact uZ_s
      · rw [uZ_n e]; exact i2 j h0 (by omega)), h, h_f, h_t, hE, lv_sub hl [1, 2, 0] rfl⟩
theorem hd_X11_colourAll : yX11_colourAll.cls = RX11 ∧ yX11_colourAll.cls ≠ "java/lang/invoke/MethodHandle" ∧ yX11_colourAll.cls ≠ "java/lang/invoke/VarHandle" ∧ (parseMethodDescriptor yX11_colourAll.desc).map (fun d => d.parameters.length) = some 1 := by decide +kernel
theorem fl_X11_colourAll_32 : Cond.fieldLink RX11 32 (TX11 15).1 (TX11 15).2.1 (TX11 15).2.2.1 ∈ wsX11_colourAll := List.mem_of_getElem? (i := 1) rfl
theorem inn_X11_colourAll_11 : ∀ w ∈ wsX110, w ∈ wsX11_colourAll := fun _ h => List.mem_cons_of_mem _ (List.mem_append_right _ h)
theorem fl_X11_colourAll_35 : Cond.fieldLink RX11 35 (TX11 16).1 (TX11 16).2.1 (TX11 16).2.2.1 ∈ wsX11_colourAll := List.mem_of_getElem? (i := 2) rfl
abbrev rm_X11_colourAll : Room := { frames := 1, cells := 0, slots := 0, locals := 21 }
set_option maxHeartbeats 4000000 in
set_option maxRecDepth 100000 in
theorem k_X11_colourAll (l : Launch) {G : va_G} {cy : Nat → ClassId} {ws0 : va_W} {b aM : Nat} {I : Nat → Int} {ad : Nat → Nat} {da : Int → Int} {me : Int → Int} {le : Int → Int} {d : Int → Int} {T : List Int} (s9 : Int) (q : Ky) (h_mo : ws0[b]? = some (aM, mO I ad)) (h_da : ws0[b + 2]? = some (ad 8, aI cy 1111 da)) (h_me : ws0[b + 14]? = some (ad 15, aI cy 38400 me)) (h_le : ws0[b + 15]? = some (ad 16, aI cy 6400 le)) (hD : DW d T) (hc : ∀ x : Int, 1 ≤ x → x ≤ 40 → 0 ≤ da (29 + x) ∧ da (29 + x) ≤ 4) (hs : 0 ≤ s9 ∧ s9 < 6400) (hq : KOk d q) (hle : le s9 = kl d q) (hme : ∀ k : Int, 0 ≤ k → k < kl d q → me (6 * s9 + k) = km d q k) : MI l yX11_colourAll wsX11_colourAll rm_X11_colourAll G cy [.ref aM, .int (zI s9)] ws0 (fun z u => z = cAll d (cl da) q ∧ ws0 = u) := by
  refine MI.of (own := RX11) (cc := cX11_colourAll) (nL := 4) (ret := (some .int)) (by decide) rfl rfl (Nat.le_of_ble_eq_true rfl) ?_
  intro p e s m below meth c A ls E h hl
  have hl : lv_has ls 4 [(0, .ref aM), (1, .int (zI s9))] := hl
  have hl3 := kl_rng hD hq
  have hm0 : me (6 * s9) = km d q 0 := by have := hme 0 (by omega) (by omega); rwa [Int.add_zero] at this
  have hr0 := km_rng hD hq (k := 0) (by omega) (by omega)
  have hn9 := hD.n
  have hc0 := hc (km d q 0) (by omega) (by omega)
  refine r_aload_n E 0 hl rfl dX11_colourAll_0 ?_
  refine r_aload_n E 0 hl rfl dX11_colourAll_1 ?_
  refine r_get (v := .ref (ad 15)) E h h_mo rfl inn_X11_colourAll_11 15 (by decide) fl_X11_colourAll_32 rfl dX11_colourAll_2 ?_
  refine r_bipush E dX11_colourAll_5 (by decide) ?_
  refine r_iload_n E 1 hl rfl dX11_colourAll_7 ?_
  refine r_imul E dX11_colourAll_8 ?_
  refine r_iald E h h_me (by omega) (by decide) dX11_colourAll_9 ?_
  rw [show me (6 * s9) = km d q 0 from hm0]
  refine r_callVI E h (As := [.int (zI (km d q 0))]) (rest := []) (k_X11_colourOf l (km d q 0) h_mo h_da (by omega)) h_mo rfl gX11_colourAll_X11_colourOf rfl hd_X11_colourOf (by decide) ⟨by decide, by decide⟩ hl.1 rfl (Nat.le_of_ble_eq_true rfl) dX11_colourAll_10 rfl (fun z_10 ws H locs hp h => ?_)
  obtain ⟨rfl, rfl⟩ := hp
  refine r_istore_n (lv' := [(2, .int (zI (da (29 + (km d q 0)) - 1))), (0, .ref aM), (1, .int (zI s9))]) E hl dX11_colourAll_13 rfl (by decide) rfl (fun ls hl => ?_)
  refine r_iconst E dX11_colourAll_14 ?_
  refine r_istore_n (lv' := [(3, .int (zI 1)), (2, .int (zI (da (29 + (km d q 0)) - 1))), (0, .ref aM), (1, .int (zI s9))]) E hl dX11_colourAll_15 rfl (by decide) rfl (fun ls hl => ?_)
  refine r_loop (fun n H locs ls => ∃ (k : Int), n = (kl d q - k).toNat ∧ (1 ≤ k ∧ k ≤ kl d q) ∧ (∀ j : Int, 0 ≤ j → j < k → da (29 + km d q j) = da (29 + km d q 0)) ∧ Hp G ws0 A s.heap H locs ∧ lv_has ls 4 [(0, .ref aM), (1, .int (zI s9)), (2, .int (zI (da (29 + (km d q 0)) - 1))), (3, .int (zI k))]) _ ⟨1, rfl, (by omega), (fun j h0 h1 => by rw [show j = 0 by omega]), h, lv_sub hl [2, 3, 1, 0] rfl⟩ ?_
  rintro n H locs ls ⟨k, hn, i1, i2, h, hl⟩ ih_16
  refine r_iload_n E 3 hl rfl dX11_colourAll_16 ?_
  refine r_aload_n E 0 hl rfl dX11_colourAll_17 ?_
  refine r_get (v := .ref (ad 16)) E h h_mo rfl inn_X11_colourAll_11 16 (by decide) fl_X11_colourAll_35 rfl dX11_colourAll_18 ?_
  refine r_iload_n E 1 hl rfl dX11_colourAll_21 ?_
  refine r_iald E h h_le (by omega) (by decide) dX11_colourAll_22 ?_
  rw [show le s9 = kl d q from hle]
  refine r_icmp_ge E 53 dX11_colourAll_23 (by decide) (by omega) (fun c_23 => ?_) (fun c_23 => ?_)
  · skip
    refine r_iload_n E 2 hl rfl dX11_colourAll_53 ?_
    exact r_iret E h ⟨(cAll_pos (e := fun x => da (29 + x)) (fun j h0 h1 => i2 j h0 (by omega))).symm, rfl⟩ dX11_colourAll_54
  · skip
    have hrk := km_rng hD hq (k := k) (by omega) (by omega)
    have hck := hc (km d q k) (by omega) (by omega)
    refine r_aload_n E 0 hl rfl dX11_colourAll_26 ?_
    refine r_aload_n E 0 hl rfl dX11_colourAll_27 ?_
    refine r_get (v := .ref (ad 15)) E h h_mo rfl inn_X11_colourAll_11 15 (by decide) fl_X11_colourAll_32 rfl dX11_colourAll_28 ?_
    refine r_bipush E dX11_colourAll_31 (by decide) ?_
    refine r_iload_n E 1 hl rfl dX11_colourAll_33 ?_
    refine r_imul E dX11_colourAll_34 ?_
    refine r_iload_n E 3 hl rfl dX11_colourAll_35 ?_
    refine r_iadd E dX11_colourAll_36 ?_
    refine r_iald E h h_me (by omega) (by decide) dX11_colourAll_37 ?_
    rw [show me ((6 * s9) + k) = km d q k from hme k (by omega) (by omega)]
    refine r_callVI E h (As := [.int (zI (km d q k))]) (rest := []) (k_X11_colourOf l (km d q k) h_mo h_da (by omega)) h_mo rfl gX11_colourAll_X11_colourOf rfl hd_X11_colourOf (by decide) ⟨by decide, by decide⟩ hl.1 rfl (Nat.le_of_ble_eq_true rfl) dX11_colourAll_38 rfl (fun z_38 ws H locs hp h => ?_)
    obtain ⟨rfl, rfl⟩ := hp
    refine r_iload_n E 2 hl rfl dX11_colourAll_41 ?_
    refine r_icmp_eq E 47 dX11_colourAll_42 (by decide) (by omega) (fun c_42 => ?_) (fun c_42 => ?_)
    · skip
      refine r_iinc (lv' := [(3, .int (zI (k + 1))), (0, .ref aM), (1, .int (zI s9)), (2, .int (zI (da (29 + (km d q 0)) - 1)))]) E 3 hl rfl dX11_colourAll_47 (by decide) rfl (fun ls hl => ?_)
      refine r_goto E 16 dX11_colourAll_50 (by decide) ?_
      exact ih_16 _ H locs ls (by omega) ⟨(k + 1), rfl, (by omega), (fun j h0 h1 => by
        by_cases e : j = k
        · subst e; omega
        · exact i2 j h0 (by omega)), h, lv_sub hl [1, 2, 3, 0] rfl⟩
    · skip
      refine r_iconst E dX11_colourAll_45 ?_
      exact r_iret E h ⟨(cAll_neg (k := k) (by omega) (by omega) (by show da _ ≠ da _; omega)).symm, rfl⟩ dX11_colourAll_46
theorem hd_X11_extreme : yX11_extreme.cls = RX11 ∧ yX11_extreme.cls ≠ "java/lang/invoke/MethodHandle" ∧ yX11_extreme.cls ≠ "java/lang/invoke/VarHandle" ∧ (parseMethodDescriptor yX11_extreme.desc).map (fun d => d.parameters.length) = some 2 := by decide +kernel
theorem fl_X11_extreme_32 : Cond.fieldLink RX11 32 (TX11 15).1 (TX11 15).2.1 (TX11 15).2.2.1 ∈ wsX11_extreme := List.mem_of_getElem? (i := 1) rfl
theorem inn_X11_extreme_11 : ∀ w ∈ wsX110, w ∈ wsX11_extreme := fun _ h => List.mem_cons_of_mem _ (List.mem_append_right _ h)
theorem fl_X11_extreme_35 : Cond.fieldLink RX11 35 (TX11 16).1 (TX11 16).2.1 (TX11 16).2.2.1 ∈ wsX11_extreme := List.mem_of_getElem? (i := 2) rfl
abbrev rm_X11_extreme : Room := { frames := 1, cells := 0, slots := 0, locals := 21 }
set_option maxHeartbeats 4000000 in
set_option maxRecDepth 100000 in
theorem k_X11_extreme (l : Launch) {G : va_G} {cy : Nat → ClassId} {ws0 : va_W} {b aM : Nat} {I : Nat → Int} {ad : Nat → Nat} {me : Int → Int} {le : Int → Int} {d : Int → Int} {T : List Int} (s9 w9 : Int) (q : Ky) (h_mo : ws0[b]? = some (aM, mO I ad)) (h_me : ws0[b + 14]? = some (ad 15, aI cy 38400 me)) (h_le : ws0[b + 15]? = some (ad 16, aI cy 6400 le)) (hD : DW d T) (hs : 0 ≤ s9 ∧ s9 < 6400) (hq : KOk d q) (hle : le s9 = kl d q) (hme : ∀ k : Int, 0 ≤ k → k < kl d q → me (6 * s9 + k) = km d q k) (hw : w9 = 0 ∨ w9 = 1) : MI l yX11_extreme wsX11_extreme rm_X11_extreme G cy [.ref aM, .int (zI s9), .int (zI w9)] ws0 (fun z u => (w9 = 1 → z = lil d q) ∧ (w9 = 0 → z = big d q) ∧ ws0 = u) := by
  refine MI.of (own := RX11) (cc := cX11_extreme) (nL := 5) (ret := (some .int)) (by decide) rfl rfl (Nat.le_of_ble_eq_true rfl) ?_
  intro p e s m below meth c A ls E h hl
  have hl : lv_has ls 5 [(0, .ref aM), (1, .int (zI s9)), (2, .int (zI w9))] := hl
  have hl3 := kl_rng hD hq
  have hm0 : me (6 * s9) = km d q 0 := by have := hme 0 (by omega) (by omega); rwa [Int.add_zero] at this
  have hr0 := km_rng hD hq (k := 0) (by omega) (by omega)
  have hn9 := hD.n
  refine r_aload_n E 0 hl rfl dX11_extreme_0 ?_
  refine r_get (v := .ref (ad 15)) E h h_mo rfl inn_X11_extreme_11 15 (by decide) fl_X11_extreme_32 rfl dX11_extreme_1 ?_
  refine r_bipush E dX11_extreme_4 (by decide) ?_
  refine r_iload_n E 1 hl rfl dX11_extreme_6 ?_
  refine r_imul E dX11_extreme_7 ?_
  refine r_iald E h h_me (by omega) (by decide) dX11_extreme_8 ?_
  rw [show me (6 * s9) = km d q 0 from hm0]
  refine r_istore_n (lv' := [(3, .int (zI (km d q 0))), (0, .ref aM), (1, .int (zI s9)), (2, .int (zI w9))]) E hl dX11_extreme_9 rfl (by decide) rfl (fun ls hl => ?_)
  refine r_iconst E dX11_extreme_10 ?_
  refine r_istore (lv' := [(4, .int (zI 1)), (3, .int (zI (km d q 0))), (0, .ref aM), (1, .int (zI s9)), (2, .int (zI w9))]) E hl dX11_extreme_11 (by decide) rfl (fun ls hl => ?_)
  refine r_loop (fun n H locs ls => ∃ (v : Int) (k : Int), n = (kl d q - k).toNat ∧ (1 ≤ k ∧ k ≤ kl d q) ∧ (w9 = 1 → v = lilN d q (k - 1).toNat) ∧ (w9 = 0 → v = bigN d q (k - 1).toNat) ∧ Hp G ws0 A s.heap H locs ∧ lv_has ls 5 [(0, .ref aM), (1, .int (zI s9)), (2, .int (zI w9)), (3, .int (zI v)), (4, .int (zI k))]) _ ⟨(km d q 0), 1, rfl, (by omega), (fun _ => rfl), (fun _ => rfl), h, lv_sub hl [2, 3, 4, 1, 0] rfl⟩ ?_
  rintro n H locs ls ⟨v, k, hn, i1, i2, i3, h, hl⟩ ih_13
  refine r_iload E 4 hl rfl dX11_extreme_13 ?_
  refine r_aload_n E 0 hl rfl dX11_extreme_15 ?_
  refine r_get (v := .ref (ad 16)) E h h_mo rfl inn_X11_extreme_11 16 (by decide) fl_X11_extreme_35 rfl dX11_extreme_16 ?_
  refine r_iload_n E 1 hl rfl dX11_extreme_19 ?_
  refine r_iald E h h_le (by omega) (by decide) dX11_extreme_20 ?_
  rw [show le s9 = kl d q from hle]
  refine r_icmp_ge E 70 dX11_extreme_21 (by decide) (by omega) (fun c_21 => ?_) (fun c_21 => ?_)
  · skip
    refine r_iload_n E 3 hl rfl dX11_extreme_70 ?_
    exact r_iret E h ⟨fun hh => by rw [i2 hh, show k = kl d q by omega]; rfl, fun hh => by rw [i3 hh, show k = kl d q by omega]; rfl, rfl⟩ dX11_extreme_71
  · skip
    have hrk := km_rng hD hq (k := k) (by omega) (by omega)
    have hb1 := bigN_iff (d := d) (q := q) (k - 1).toNat
    obtain ⟨⟨k1, a1, a2, a3⟩, -⟩ := hb1
    have hb2 := km_rng hD hq (k := k1) (by omega) (by omega)
    obtain ⟨⟨k2, a4, a5, a6⟩, -⟩ := lilN_iff (d := d) (q := q) (k - 1).toNat
    have hb3 := km_rng hD hq (k := k2) (by omega) (by omega)
    have hbs : bigN d q (k - 1 + 1).toNat = if bigN d q (k - 1).toNat < km d q k then km d q k else bigN d q (k - 1).toNat := by rw [show (k - 1 + 1).toNat = (k - 1).toNat + 1 by omega]; show (if bigN d q (k - 1).toNat < km d q (((k - 1).toNat : Int) + 1) then _ else _) = _; rw [show (((k - 1).toNat : Int) + 1) = k by omega]
    have hls : lilN d q (k - 1 + 1).toNat = if km d q k < lilN d q (k - 1).toNat then km d q k else lilN d q (k - 1).toNat := by rw [show (k - 1 + 1).toNat = (k - 1).toNat + 1 by omega]; show (if km d q (((k - 1).toNat : Int) + 1) < lilN d q (k - 1).toNat then _ else _) = _; rw [show (((k - 1).toNat : Int) + 1) = k by omega]
    refine r_iload_n E 2 hl rfl dX11_extreme_24 ?_
    refine r_if_eq E 47 dX11_extreme_25 (by decide) (by omega) (fun c_25 => ?_) (fun c_25 => ?_)
    · skip
      refine r_iload_n E 3 hl rfl dX11_extreme_47 ?_
      refine r_aload_n E 0 hl rfl dX11_extreme_48 ?_
      refine r_get (v := .ref (ad 15)) E h h_mo rfl inn_X11_extreme_11 15 (by decide) fl_X11_extreme_32 rfl dX11_extreme_49 ?_
      refine r_bipush E dX11_extreme_52 (by decide) ?_
      refine r_iload_n E 1 hl rfl dX11_extreme_54 ?_
      refine r_imul E dX11_extreme_55 ?_
      refine r_iload E 4 hl rfl dX11_extreme_56 ?_
      refine r_iadd E dX11_extreme_58 ?_
      refine r_iald E h h_me (by omega) (by decide) dX11_extreme_59 ?_
      rw [show me ((6 * s9) + k) = km d q k from hme k (by omega) (by omega)]
      refine r_callSI E h (As := [.int (zI v), .int (zI (km d q k))]) (rest := []) (k_X11_max l v (km d q k) (by omega)) gX11_extreme_X11_max rfl hd_X11_max (by decide) ⟨by decide, by decide⟩ hl.1 rfl (Nat.le_of_ble_eq_true rfl) dX11_extreme_60 rfl (fun z_60 ws H locs hp h => ?_)
      obtain ⟨e_z_60, rfl⟩ := hp
      refine r_istore_n (lv' := [(3, .int (zI z_60)), (0, .ref aM), (1, .int (zI s9)), (2, .int (zI w9)), (4, .int (zI k))]) E hl dX11_extreme_63 rfl (by decide) rfl (fun ls hl => ?_)
      refine r_iinc (lv' := [(4, .int (zI (k + 1))), (3, .int (zI z_60)), (0, .ref aM), (1, .int (zI s9)), (2, .int (zI w9))]) E 4 hl rfl dX11_extreme_64 (by decide) rfl (fun ls hl => ?_)
      refine r_goto E 13 dX11_extreme_67 (by decide) ?_
      exact ih_13 _ H locs ls (by omega) ⟨z_60, (k + 1), rfl, (by omega), (fun hh => by
        rw [show k + 1 - 1 = k - 1 + 1 by omega, hls]
        have e9 := i2 hh
        split <;> omega), (fun hh => by
        rw [show k + 1 - 1 = k - 1 + 1 by omega, hbs]
        have e9 := i3 hh
        split <;> omega), h, lv_sub hl [2, 3, 4, 1, 0] rfl⟩
    · skip
      refine r_iload_n E 3 hl rfl dX11_extreme_28 ?_
      refine r_aload_n E 0 hl rfl dX11_extreme_29 ?_
      refine r_get (v := .ref (ad 15)) E h h_mo rfl inn_X11_extreme_11 15 (by decide) fl_X11_extreme_32 rfl dX11_extreme_30 ?_
      refine r_bipush E dX11_extreme_33 (by decide) ?_
      refine r_iload_n E 1 hl rfl dX11_extreme_35 ?_
      refine r_imul E dX11_extreme_36 ?_
      refine r_iload E 4 hl rfl dX11_extreme_37 ?_
      refine r_iadd E dX11_extreme_39 ?_
      refine r_iald E h h_me (by omega) (by decide) dX11_extreme_40 ?_
      rw [show me ((6 * s9) + k) = km d q k from hme k (by omega) (by omega)]
      refine r_callSI E h (As := [.int (zI v), .int (zI (km d q k))]) (rest := []) (k_X11_min l v (km d q k) (by omega)) gX11_extreme_X11_min rfl hd_X11_min (by decide) ⟨by decide, by decide⟩ hl.1 rfl (Nat.le_of_ble_eq_true rfl) dX11_extreme_41 rfl (fun z_41 ws H locs hp h => ?_)
      obtain ⟨e_z_41, rfl⟩ := hp
      refine r_goto E 63 dX11_extreme_44 (by decide) ?_
      refine r_istore_n (lv' := [(3, .int (zI z_41)), (0, .ref aM), (1, .int (zI s9)), (2, .int (zI w9)), (4, .int (zI k))]) E hl dX11_extreme_63 rfl (by decide) rfl (fun ls hl => ?_)
      refine r_iinc (lv' := [(4, .int (zI (k + 1))), (3, .int (zI z_41)), (0, .ref aM), (1, .int (zI s9)), (2, .int (zI w9))]) E 4 hl rfl dX11_extreme_64 (by decide) rfl (fun ls hl => ?_)
      refine r_goto E 13 dX11_extreme_67 (by decide) ?_
      exact ih_13 _ H locs ls (by omega) ⟨z_41, (k + 1), rfl, (by omega), (fun hh => by
        rw [show k + 1 - 1 = k - 1 + 1 by omega, hls]
        have e9 := i2 hh
        split <;> omega), (fun hh => by
        rw [show k + 1 - 1 = k - 1 + 1 by omega, hbs]
        have e9 := i3 hh
        split <;> omega), h, lv_sub hl [2, 3, 4, 1, 0] rfl⟩
theorem hd_X11_contains : yX11_contains.cls = RX11 ∧ yX11_contains.cls ≠ "java/lang/invoke/MethodHandle" ∧ yX11_contains.cls ≠ "java/lang/invoke/VarHandle" ∧ (parseMethodDescriptor yX11_contains.desc).map (fun d => d.parameters.length) = some 2 := by decide +kernel
theorem fl_X11_contains_35 : Cond.fieldLink RX11 35 (TX11 16).1 (TX11 16).2.1 (TX11 16).2.2.1 ∈ wsX11_contains := List.mem_of_getElem? (i := 1) rfl
theorem inn_X11_contains_11 : ∀ w ∈ wsX110, w ∈ wsX11_contains := fun _ h => List.mem_cons_of_mem _ (List.mem_append_right _ h)
theorem fl_X11_contains_32 : Cond.fieldLink RX11 32 (TX11 15).1 (TX11 15).2.1 (TX11 15).2.2.1 ∈ wsX11_contains := List.mem_of_getElem? (i := 2) rfl
abbrev rm_X11_contains : Room := { frames := 0, cells := 0, slots := 0, locals := 0 }
set_option maxHeartbeats 4000000 in
set_option maxRecDepth 100000 in
theorem k_X11_contains (l : Launch) {G : va_G} {cy : Nat → ClassId} {ws0 : va_W} {b aM : Nat} {I : Nat → Int} {ad : Nat → Nat} {me : Int → Int} {le : Int → Int} {d : Int → Int} {T : List Int} (s9 x : Int) (q : Ky) (h_mo : ws0[b]? = some (aM, mO I ad)) (h_me : ws0[b + 14]? = some (ad 15, aI cy 38400 me)) (h_le : ws0[b + 15]? = some (ad 16, aI cy 6400 le)) (hD : DW d T) (hs : 0 ≤ s9 ∧ s9 < 6400) (hq : KOk d q) (hle : le s9 = kl d q) (hme : ∀ k : Int, 0 ≤ k → k < kl d q → me (6 * s9 + k) = km d q k) (hx : 0 ≤ x ∧ x ≤ 41) : MI l yX11_contains wsX11_contains rm_X11_contains G cy [.ref aM, .int (zI s9), .int (zI x)] ws0 (fun z u => (z = 1 ∧ has d q x = true ∨ z = 0 ∧ has d q x = false) ∧ ws0 = u) := by
  refine MI.of (own := RX11) (cc := cX11_contains) (nL := 4) (ret := (some .boolean)) (by decide) rfl rfl (Nat.le_of_ble_eq_true rfl) ?_
  intro p e s m below meth c A ls E h hl
  have hl : lv_has ls 4 [(0, .ref aM), (1, .int (zI s9)), (2, .int (zI x))] := hl
  have hl3 := kl_rng hD hq
  have hn9 := hD.n
  refine r_iconst E dX11_contains_0 ?_
  refine r_istore_n (lv' := [(3, .int (zI 0)), (0, .ref aM), (1, .int (zI s9)), (2, .int (zI x))]) E hl dX11_contains_1 rfl (by decide) rfl (fun ls hl => ?_)
  refine r_loop (fun n H locs ls => ∃ (k : Int), n = (kl d q - k).toNat ∧ (0 ≤ k ∧ k ≤ kl d q) ∧ (∀ j : Int, 0 ≤ j → j < k → km d q j ≠ x) ∧ Hp G ws0 A s.heap H locs ∧ lv_has ls 4 [(0, .ref aM), (1, .int (zI s9)), (2, .int (zI x)), (3, .int (zI k))]) _ ⟨0, rfl, (by omega), (fun j h0 h1 => absurd h1 (by omega)), h, lv_sub hl [1, 2, 3, 0] rfl⟩ ?_
  rintro n H locs ls ⟨k, hn, i1, i2, h, hl⟩ ih_2
  refine r_iload_n E 3 hl rfl dX11_contains_2 ?_
  refine r_aload_n E 0 hl rfl dX11_contains_3 ?_
  refine r_get (v := .ref (ad 16)) E h h_mo rfl inn_X11_contains_11 16 (by decide) fl_X11_contains_35 rfl dX11_contains_4 ?_
  refine r_iload_n E 1 hl rfl dX11_contains_7 ?_
  refine r_iald E h h_le (by omega) (by decide) dX11_contains_8 ?_
  rw [show le s9 = kl d q from hle]
  refine r_icmp_ge E 35 dX11_contains_9 (by decide) (by omega) (fun c_9 => ?_) (fun c_9 => ?_)
  · skip
    refine r_iconst E dX11_contains_35 ?_
    exact r_zret E h (by omega) ⟨Or.inr ⟨rfl, by
      by_cases hh : has d q x = true
      · obtain ⟨j, h0, h1, h2⟩ := has_iff.mp hh
        exact absurd h2 (i2 j h0 (by omega))
      · simpa using hh⟩, rfl⟩ dX11_contains_36
  · skip
    have hrk := km_rng hD hq (k := k) (by omega) (by omega)
    refine r_aload_n E 0 hl rfl dX11_contains_12 ?_
    refine r_get (v := .ref (ad 15)) E h h_mo rfl inn_X11_contains_11 15 (by decide) fl_X11_contains_32 rfl dX11_contains_13 ?_
    refine r_bipush E dX11_contains_16 (by decide) ?_
    refine r_iload_n E 1 hl rfl dX11_contains_18 ?_
    refine r_imul E dX11_contains_19 ?_
    refine r_iload_n E 3 hl rfl dX11_contains_20 ?_
    refine r_iadd E dX11_contains_21 ?_
    refine r_iald E h h_me (by omega) (by decide) dX11_contains_22 ?_
    rw [show me ((6 * s9) + k) = km d q k from hme k (by omega) (by omega)]
    refine r_iload_n E 2 hl rfl dX11_contains_23 ?_
    refine r_icmp_ne E 29 dX11_contains_24 (by decide) (by omega) (fun c_24 => ?_) (fun c_24 => ?_)
    · skip
      refine r_iinc (lv' := [(3, .int (zI (k + 1))), (0, .ref aM), (1, .int (zI s9)), (2, .int (zI x))]) E 3 hl rfl dX11_contains_29 (by decide) rfl (fun ls hl => ?_)
      refine r_goto E 2 dX11_contains_32 (by decide) ?_
      exact ih_2 _ H locs ls (by omega) ⟨(k + 1), rfl, (by omega), (fun j h0 h1 => by
        by_cases e : j = k
        · subst e; omega
        · exact i2 j h0 (by omega)), h, lv_sub hl [1, 2, 3, 0] rfl⟩
    · skip
      refine r_iconst E dX11_contains_27 ?_
      exact r_zret E h (by omega) ⟨Or.inl ⟨rfl, has_iff.mpr ⟨k, by omega, by omega, by omega⟩⟩, rfl⟩ dX11_contains_28
theorem hd_X11_isUsed : yX11_isUsed.cls = RX11 ∧ yX11_isUsed.cls ≠ "java/lang/invoke/MethodHandle" ∧ yX11_isUsed.cls ≠ "java/lang/invoke/VarHandle" ∧ (parseMethodDescriptor yX11_isUsed.desc).map (fun d => d.parameters.length) = some 1 := by decide +kernel
theorem fl_X11_isUsed_17 : Cond.fieldLink RX11 17 (TX11 8).1 (TX11 8).2.1 (TX11 8).2.2.1 ∈ wsX11_isUsed := List.mem_of_getElem? (i := 1) rfl
theorem inn_X11_isUsed_11 : ∀ w ∈ wsX110, w ∈ wsX11_isUsed := fun _ h => List.mem_cons_of_mem _ (List.mem_append_right _ h)
abbrev rm_X11_isUsed : Room := { frames := 1, cells := 0, slots := 0, locals := 21 }
set_option maxHeartbeats 4000000 in
set_option maxRecDepth 100000 in
theorem k_X11_isUsed (l : Launch) {G : va_G} {cy : Nat → ClassId} {ws0 : va_W} {b aM : Nat} {I : Nat → Int} {ad : Nat → Nat} {da : Int → Int} (c9 : Int) (h_mo : ws0[b]? = some (aM, mO I ad)) (h_da : ws0[b + 2]? = some (ad 8, aI cy 1111 da)) (hn0 : 0 ≤ da 0 ∧ da 0 ≤ 40) (hc : ∀ x : Int, 1 ≤ x → x ≤ 40 → 0 ≤ da (29 + x) ∧ da (29 + x) ≤ 4) (hc9 : -1 ≤ c9 ∧ c9 ≤ 4) : MI l yX11_isUsed wsX11_isUsed rm_X11_isUsed G cy [.ref aM, .int (zI c9)] ws0 (fun z u => (z = 1 ∧ used da c9 = true ∨ z = 0 ∧ used da c9 = false) ∧ ws0 = u) := by
  refine MI.of (own := RX11) (cc := cX11_isUsed) (nL := 3) (ret := (some .boolean)) (by decide) rfl rfl (Nat.le_of_ble_eq_true rfl) ?_
  intro p e s m below meth c A ls E h hl
  have hl : lv_has ls 3 [(0, .ref aM), (1, .int (zI c9))] := hl
  refine r_iconst E dX11_isUsed_0 ?_
  refine r_istore_n (lv' := [(2, .int (zI 1)), (0, .ref aM), (1, .int (zI c9))]) E hl dX11_isUsed_1 rfl (by decide) rfl (fun ls hl => ?_)
  refine r_loop (fun n H locs ls => ∃ (x : Int), n = (41 - x).toNat ∧ (1 ≤ x ∧ x ≤ da 0 + 1) ∧ (∀ j : Int, 1 ≤ j → j < x → da (29 + j) ≠ c9 + 1) ∧ Hp G ws0 A s.heap H locs ∧ lv_has ls 3 [(0, .ref aM), (1, .int (zI c9)), (2, .int (zI x))]) _ ⟨1, rfl, (by omega), (fun j h0 h1 => absurd h1 (by omega)), h, lv_sub hl [1, 2, 0] rfl⟩ ?_
  rintro n H locs ls ⟨x, hn, i1, i2, h, hl⟩ ih_2
  refine r_iload_n E 2 hl rfl dX11_isUsed_2 ?_
  refine r_aload_n E 0 hl rfl dX11_isUsed_3 ?_
  refine r_get (v := .ref (ad 8)) E h h_mo rfl inn_X11_isUsed_11 8 (by decide) fl_X11_isUsed_17 rfl dX11_isUsed_4 ?_
  refine r_iconst E dX11_isUsed_7 ?_
  refine r_iald E h h_da (by omega) (by decide) dX11_isUsed_8 ?_
  refine r_icmp_gt E 29 dX11_isUsed_9 (by decide) (by omega) (fun c_9 => ?_) (fun c_9 => ?_)
  · skip
    refine r_iconst E dX11_isUsed_29 ?_
    exact r_zret E h (by omega) ⟨Or.inr ⟨rfl, by
      by_cases hh : used da c9 = true
      · obtain ⟨j, h0, h1, h2⟩ := used_iff.mp hh
        exact absurd h2 (i2 j h0 (by omega))
      · simpa using hh⟩, rfl⟩ dX11_isUsed_30
  · skip
    have hcx := hc x (by omega) (by omega)
    refine r_aload_n E 0 hl rfl dX11_isUsed_12 ?_
    refine r_iload_n E 2 hl rfl dX11_isUsed_13 ?_
    refine r_callVI E h (As := [.int (zI x)]) (rest := []) (k_X11_colourOf l x h_mo h_da (by omega)) h_mo rfl gX11_isUsed_X11_colourOf rfl hd_X11_colourOf (by decide) ⟨by decide, by decide⟩ hl.1 rfl (Nat.le_of_ble_eq_true rfl) dX11_isUsed_14 rfl (fun z_14 ws H locs hp h => ?_)
    obtain ⟨rfl, rfl⟩ := hp
    refine r_iload_n E 1 hl rfl dX11_isUsed_17 ?_
    refine r_icmp_ne E 23 dX11_isUsed_18 (by decide) (by omega) (fun c_18 => ?_) (fun c_18 => ?_)
    · skip
      refine r_iinc (lv' := [(2, .int (zI (x + 1))), (0, .ref aM), (1, .int (zI c9))]) E 2 hl rfl dX11_isUsed_23 (by decide) rfl (fun ls hl => ?_)
      refine r_goto E 2 dX11_isUsed_26 (by decide) ?_
      exact ih_2 _ H locs ls (by omega) ⟨(x + 1), rfl, (by omega), (fun j h0 h1 => by
        by_cases e : j = x
        · subst e; omega
        · exact i2 j h0 (by omega)), h, lv_sub hl [1, 2, 0] rfl⟩
    · skip
      refine r_iconst E dX11_isUsed_21 ?_
      exact r_zret E h (by omega) ⟨Or.inl ⟨rfl, used_iff.mpr ⟨x, by omega, by omega, by omega⟩⟩, rfl⟩ dX11_isUsed_22
theorem hd_X11_nextColour : yX11_nextColour.cls = RX11 ∧ yX11_nextColour.cls ≠ "java/lang/invoke/MethodHandle" ∧ yX11_nextColour.cls ≠ "java/lang/invoke/VarHandle" ∧ (parseMethodDescriptor yX11_nextColour.desc).map (fun d => d.parameters.length) = some 2 := by decide +kernel
theorem fl_X11_nextColour_17 : Cond.fieldLink RX11 17 (TX11 8).1 (TX11 8).2.1 (TX11 8).2.2.1 ∈ wsX11_nextColour := List.mem_of_getElem? (i := 1) rfl
theorem inn_X11_nextColour_11 : ∀ w ∈ wsX110, w ∈ wsX11_nextColour := fun _ h => List.mem_cons_of_mem _ (List.mem_append_right _ h)
abbrev rm_X11_nextColour : Room := { frames := 2, cells := 0, slots := 0, locals := 43 }
set_option maxHeartbeats 4000000 in
set_option maxRecDepth 100000 in
theorem k_X11_nextColour (l : Launch) {G : va_G} {cy : Nat → ClassId} {ws0 : va_W} {b aM : Nat} {I : Nat → Int} {ad : Nat → Nat} {da : Int → Int} (x9 c9 : Int) (h_mo : ws0[b]? = some (aM, mO I ad)) (h_da : ws0[b + 2]? = some (ad 8, aI cy 1111 da)) (hn0 : 0 ≤ da 0 ∧ da 0 ≤ 40) (hc : ∀ x : Int, 1 ≤ x → x ≤ 40 → 0 ≤ da (29 + x) ∧ da (29 + x) ≤ 4) (hk : 0 ≤ da 1 ∧ da 1 ≤ 4) (hc9 : 0 ≤ c9 ∧ c9 ≤ da 1) : MI l yX11_nextColour wsX11_nextColour rm_X11_nextColour G cy [.ref aM, .int (zI x9), .int (zI c9)] ws0 (fun z u => nxt da c9 = z ∧ ws0 = u) := by
  refine MI.of (own := RX11) (cc := cX11_nextColour) (nL := 6) (ret := (some .int)) (by decide) rfl rfl (Nat.le_of_ble_eq_true rfl) ?_
  intro p e s m below meth c A ls E h hl
  have hl : lv_has ls 6 [(0, .ref aM), (1, .int (zI x9)), (2, .int (zI c9))] := hl
  refine r_iload_n E 2 hl rfl dX11_nextColour_0 ?_
  refine r_istore_n (lv' := [(3, .int (zI c9)), (0, .ref aM), (1, .int (zI x9)), (2, .int (zI c9))]) E hl dX11_nextColour_1 rfl (by decide) rfl (fun ls hl => ?_)
  refine r_loop (fun n H locs ls => ∃ (c : Int), n = (da 1 - c).toNat ∧ (c9 ≤ c ∧ c ≤ da 1) ∧ (nxt da c9 = nxt da c) ∧ Hp G ws0 A s.heap H locs ∧ lv_has ls 6 [(0, .ref aM), (1, .int (zI x9)), (2, .int (zI c9)), (3, .int (zI c))]) _ ⟨c9, rfl, (by omega), rfl, h, lv_sub hl [1, 2, 3, 0] rfl⟩ ?_
  rintro n H locs ls ⟨c, hn, i1, i2, h, hl⟩ ih_2
  refine r_iload_n E 3 hl rfl dX11_nextColour_2 ?_
  refine r_aload_n E 0 hl rfl dX11_nextColour_3 ?_
  refine r_get (v := .ref (ad 8)) E h h_mo rfl inn_X11_nextColour_11 8 (by decide) fl_X11_nextColour_17 rfl dX11_nextColour_4 ?_
  refine r_iconst E dX11_nextColour_7 ?_
  refine r_iald E h h_da (by omega) (by decide) dX11_nextColour_8 ?_
  refine r_icmp_ge E 62 dX11_nextColour_9 (by decide) (by omega) (fun c_9 => ?_) (fun c_9 => ?_)
  · skip
    refine r_iload_n E 3 hl rfl dX11_nextColour_62 ?_
    exact r_iret E h ⟨by
      rw [i2]
      first | exact nxt_end (by omega) | (rcases e_z_14 with ⟨g1, g2⟩ | ⟨g1, g2⟩
                                          · exact nxt_used (by omega) g2
                                          · omega), rfl⟩ dX11_nextColour_63
  · skip
    refine r_aload_n E 0 hl rfl dX11_nextColour_12 ?_
    refine r_iload_n E 3 hl rfl dX11_nextColour_13 ?_
    refine r_callVI E h (As := [.int (zI c)]) (rest := []) (k_X11_isUsed l c h_mo h_da hn0 hc (by omega)) h_mo rfl gX11_nextColour_X11_isUsed rfl hd_X11_isUsed (by decide) ⟨by decide, by decide⟩ hl.1 rfl (Nat.le_of_ble_eq_true rfl) dX11_nextColour_14 rfl (fun z_14 ws H locs hp h => ?_)
    obtain ⟨e_z_14, rfl⟩ := hp
    refine r_if_ne E 62 dX11_nextColour_17 (by decide) (by omega) (fun c_17 => ?_) (fun c_17 => ?_)
    · skip
      refine r_iload_n E 3 hl rfl dX11_nextColour_62 ?_
      exact r_iret E h ⟨by
      rw [i2]
      first | exact nxt_end (by omega) | (rcases e_z_14 with ⟨g1, g2⟩ | ⟨g1, g2⟩
                                          · exact nxt_used (by omega) g2
                                          · omega), rfl⟩ dX11_nextColour_63
    · skip
      refine r_iconst E dX11_nextColour_20 ?_
      refine r_istore (lv' := [(4, .int (zI 1)), (0, .ref aM), (1, .int (zI x9)), (2, .int (zI c9)), (3, .int (zI c))]) E hl dX11_nextColour_21 (by decide) rfl (fun ls hl => ?_)
      refine r_iconst E dX11_nextColour_23 ?_
      refine r_istore (lv' := [(5, .int (zI 0)), (4, .int (zI 1)), (0, .ref aM), (1, .int (zI x9)), (2, .int (zI c9)), (3, .int (zI c))]) E hl dX11_nextColour_24 (by decide) rfl (fun ls hl => ?_)
      refine r_loop (fun n H locs ls => ∃ (f : Int) (j : Int), n = (c - j).toNat ∧ (0 ≤ j ∧ j ≤ c) ∧ (f = 1 ∧ lowN da j.toNat = true ∨ f = 0 ∧ lowN da j.toNat = false) ∧ Hp G ws0 A s.heap H locs ∧ lv_has ls 6 [(0, .ref aM), (1, .int (zI x9)), (2, .int (zI c9)), (3, .int (zI c)), (4, .int (zI f)), (5, .int (zI j))]) _ ⟨1, 0, rfl, (by omega), (Or.inl ⟨rfl, rfl⟩), h, lv_sub hl [2, 3, 4, 5, 1, 0] rfl⟩ ?_
      rintro n H locs ls ⟨f, j, hn, j1, j2, h, hl⟩ ih_26
      refine r_iload E 5 hl rfl dX11_nextColour_26 ?_
      refine r_iload_n E 3 hl rfl dX11_nextColour_28 ?_
      refine r_icmp_ge E 49 dX11_nextColour_29 (by decide) (by omega) (fun c_29 => ?_) (fun c_29 => ?_)
      · skip
        refine r_iload E 4 hl rfl dX11_nextColour_49 ?_
        refine r_if_eq E 56 dX11_nextColour_51 (by decide) (by omega) (fun c_51 => ?_) (fun c_51 => ?_)
        · skip
          refine r_iinc (lv' := [(3, .int (zI (c + 1))), (0, .ref aM), (1, .int (zI x9)), (2, .int (zI c9)), (4, .int (zI f)), (5, .int (zI j))]) E 3 hl rfl dX11_nextColour_56 (by decide) rfl (fun ls hl => ?_)
          refine r_goto E 2 dX11_nextColour_59 (by decide) ?_
          exact ih_2 _ H locs ls (by omega) ⟨(c + 1), rfl, (by omega), (by
          rw [i2]
          have hju : j = c := by omega
          subst hju
          rcases e_z_14 with ⟨g1, g2⟩ | ⟨g1, g2⟩
          · omega
          · rcases j2 with ⟨f1, f2⟩ | ⟨f1, f2⟩
            · omega
            · exact nxt_go (by omega) g2 f2), h, lv_sub hl [1, 2, 3, 0] rfl⟩
        · skip
          refine r_iload_n E 3 hl rfl dX11_nextColour_54 ?_
          exact r_iret E h ⟨by
          rw [i2]
          have hju : j = c := by omega
          subst hju
          rcases j2 with ⟨f1, f2⟩ | ⟨f1, f2⟩
          · exact nxt_low (by omega) f2
          · omega, rfl⟩ dX11_nextColour_55
      · skip
        have hlo : lowN da (j + 1).toNat = (lowN da j.toNat && used da j) := by rw [show (j + 1).toNat = j.toNat + 1 by omega]; show (lowN da j.toNat && used da (j.toNat : Int)) = _; rw [show (j.toNat : Int) = j by omega]
        refine r_iload E 4 hl rfl dX11_nextColour_32 ?_
        refine r_aload_n E 0 hl rfl dX11_nextColour_34 ?_
        refine r_iload E 5 hl rfl dX11_nextColour_35 ?_
        refine r_callVI E h (As := [.int (zI j)]) (rest := [.int (zI f)]) (k_X11_isUsed l j h_mo h_da hn0 hc (by omega)) h_mo rfl gX11_nextColour_X11_isUsed rfl hd_X11_isUsed (by decide) ⟨by decide, by decide⟩ hl.1 rfl (Nat.le_of_ble_eq_true rfl) dX11_nextColour_37 rfl (fun z_37 ws H locs hp h => ?_)
        obtain ⟨e_z_37, rfl⟩ := hp
        obtain ⟨w9, hw9, ew9⟩ := zI_and (a := f) (b := z_37) (by omega) (by omega)
        refine r_iand E dX11_nextColour_40 (z := w9) hw9 ?_
        refine r_istore (lv' := [(4, .int (zI w9)), (0, .ref aM), (1, .int (zI x9)), (2, .int (zI c9)), (3, .int (zI c)), (5, .int (zI j))]) E hl dX11_nextColour_41 (by decide) rfl (fun ls hl => ?_)
        refine r_iinc (lv' := [(5, .int (zI (j + 1))), (4, .int (zI w9)), (0, .ref aM), (1, .int (zI x9)), (2, .int (zI c9)), (3, .int (zI c))]) E 5 hl rfl dX11_nextColour_43 (by decide) rfl (fun ls hl => ?_)
        refine r_goto E 26 dX11_nextColour_46 (by decide) ?_
        exact ih_26 _ H locs ls (by omega) ⟨w9, (j + 1), rfl, (by omega), (by
          rw [hlo]
          rcases j2 with ⟨f1, f2⟩ | ⟨f1, f2⟩ <;> rcases e_z_37 with ⟨g1, g2⟩ | ⟨g1, g2⟩ <;> simp [f2, g2] <;> omega), h, lv_sub hl [2, 3, 4, 5, 1, 0] rfl⟩
