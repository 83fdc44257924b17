/-- behind a method of the model that reads: the world but its scratch rows is as it was; t was thrown -/
def MRO (cy : Nat → ClassId) (b aM : Nat) (ad : Nat → Nat) (I : Nat → Int) (d : Int → Int) (ws0 u : va_W) (t : Int) : Prop := ∃ (I2 : Nat → Int) (ke2 : Int → Int) (st2 : Int → Int64) (op2 : Int → Int), u[b]? = some (aM, mO I2 ad) ∧ u[b + 2]? = some (ad 8, aI cy 1111 d) ∧ u[b + 4]? = some (ad 10, aI cy 1111 ke2) ∧ u[b + 20]? = some (ad 22, aL cy 1000 st2) ∧ u[b + 21]? = some (ad 25, aI cy 40 op2) ∧ I2 0 = t ∧ (∀ k : Nat, k ≠ 0 → k ≠ 23 → k ≠ 24 → k ≠ 26 → k ≠ 27 → I2 k = I k) ∧ Eqx ws0 u (fun j => j = b ∨ j = b + 2 ∨ j = b + 4 ∨ j = b + 20 ∨ j = b + 21)
theorem hd_X11_numberCount : yX11_numberCount.cls = RX11 ∧ yX11_numberCount.cls ≠ "java/lang/invoke/MethodHandle" ∧ yX11_numberCount.cls ≠ "java/lang/invoke/VarHandle" ∧ (parseMethodDescriptor yX11_numberCount.desc).map (fun d => d.parameters.length) = some 0 := by decide +kernel
theorem fl_X11_numberCount_57 : Cond.fieldLink RX11 57 (TX11 0).1 (TX11 0).2.1 (TX11 0).2.2.1 ∈ wsX11_numberCount := List.mem_of_getElem? (i := 1) rfl
theorem inn_X11_numberCount_11 : ∀ w ∈ wsX110, w ∈ wsX11_numberCount := fun _ h => List.mem_cons_of_mem _ (List.mem_append_right _ h)
theorem fl_X11_numberCount_17 : Cond.fieldLink RX11 17 (TX11 8).1 (TX11 8).2.1 (TX11 8).2.2.1 ∈ wsX11_numberCount := List.mem_of_getElem? (i := 2) rfl
abbrev rm_X11_numberCount : Room := { frames := 0, cells := 0, slots := 0, locals := 0 }
set_option maxHeartbeats 4000000 in
set_option maxRecDepth 100000 in
theorem k_X11_numberCount (l : Launch) {G : va_G} {cy : Nat → ClassId} {ws0 : va_W} {b aM : Nat} {I : Nat → Int} {ad : Nat → Nat} {ke : Int → Int} {st : Int → Int64} {op : Int → Int} {d : Int → Int} {T : List Int} {ru so me le fo wn : Int → Int}  (h_mo : ws0[b]? = some (aM, mO I ad)) (h_da : ws0[b + 2]? = some (ad 8, aI cy 1111 d)) (h_ke : ws0[b + 4]? = some (ad 10, aI cy 1111 ke)) (h_st : ws0[b + 20]? = some (ad 22, aL cy 1000 st)) (h_op : ws0[b + 21]? = some (ad 25, aI cy 40 op)) (hD : DW d T) (hL : LW d me le ru so fo wn (I 19)) : MI l yX11_numberCount wsX11_numberCount rm_X11_numberCount G cy [.ref aM] ws0 (fun z u => ∃ t : Int, (t = 0 ∧ z = d 0) ∧ MRO cy b aM ad I d ws0 u t) := by
  refine MI.of (own := RX11) (cc := cX11_numberCount) (nL := 1) (ret := (some .int)) (by decide) rfl rfl (Nat.le_of_ble_eq_true rfl) ?_
  intro p e s m below meth c A ls E h hl
  have hl : lv_has ls 1 [(0, .ref aM)] := hl
  have hE : Eqx ws0 ws0 (fun j => j = b ∨ j = b + 2 ∨ j = b + 4 ∨ j = b + 20 ∨ j = b + 21) := Eqx.rf
  have hn9 := hD.n
  have hk9 := hD.k
  have hr9 := hD.nr
  refine r_aload_n E 0 hl rfl dX11_numberCount_0 ?_
  refine r_iconst E dX11_numberCount_1 ?_
  refine r_put E h h_mo rfl inn_X11_numberCount_11 0 (by decide) fl_X11_numberCount_57 tyX11 tyX11_ok nmX11 rfl rfl rfl (Nat.le_of_ble_eq_true rfl) dX11_numberCount_2 (fun ws H locs h hu => ?_)
  have h_mo : ws[b]? = some (aM, mO (va_up I 0 0) ad) := hu.1
  have h_da := hu.keep h_da (by omega)
  have h_ke := hu.keep h_ke (by omega)
  have h_st := hu.keep h_st (by omega)
  have h_op := hu.keep h_op (by omega)
  have hE := hE.tr (hu.eqx (by first | omega | (dsimp only <;> omega)))
  refine r_aload_n E 0 hl rfl dX11_numberCount_5 ?_
  refine r_get (v := .ref (ad 8)) E h h_mo rfl inn_X11_numberCount_11 8 (by decide) fl_X11_numberCount_17 rfl dX11_numberCount_6 ?_
  refine r_iconst E dX11_numberCount_9 ?_
  refine r_iald E h h_da (by omega) (by decide) dX11_numberCount_10 ?_
  exact r_iret E h ⟨0, ⟨rfl, rfl⟩, va_up I 0 0, ke, st, op, h_mo, h_da, h_ke, h_st, h_op, (by first | rfl | (simp [va_up]) | assumption), (fun k h0 h1 h2 h3 h4 => by first | rfl | simp [va_up, h0, h1, h2, h3, h4]), hE⟩ dX11_numberCount_11
theorem hd_X11_colourCount : yX11_colourCount.cls = RX11 ∧ yX11_colourCount.cls ≠ "java/lang/invoke/MethodHandle" ∧ yX11_colourCount.cls ≠ "java/lang/invoke/VarHandle" ∧ (parseMethodDescriptor yX11_colourCount.desc).map (fun d => d.parameters.length) = some 0 := by decide +kernel
theorem fl_X11_colourCount_57 : Cond.fieldLink RX11 57 (TX11 0).1 (TX11 0).2.1 (TX11 0).2.2.1 ∈ wsX11_colourCount := List.mem_of_getElem? (i := 1) rfl
theorem inn_X11_colourCount_11 : ∀ w ∈ wsX110, w ∈ wsX11_colourCount := fun _ h => List.mem_cons_of_mem _ (List.mem_append_right _ h)
theorem fl_X11_colourCount_17 : Cond.fieldLink RX11 17 (TX11 8).1 (TX11 8).2.1 (TX11 8).2.2.1 ∈ wsX11_colourCount := List.mem_of_getElem? (i := 2) rfl
abbrev rm_X11_colourCount : Room := { frames := 0, cells := 0, slots := 0, locals := 0 }
set_option maxHeartbeats 4000000 in
set_option maxRecDepth 100000 in
theorem k_X11_colourCount (l : Launch) {G : va_G} {cy : Nat → ClassId} {ws0 : va_W} {b aM : Nat} {I : Nat → Int} {ad : Nat → Nat} {ke : Int → Int} {st : Int → Int64} {op : Int → Int} {d : Int → Int} {T : List Int} {ru so me le fo wn : Int → Int}  (h_mo : ws0[b]? = some (aM, mO I ad)) (h_da : ws0[b + 2]? = some (ad 8, aI cy 1111 d)) (h_ke : ws0[b + 4]? = some (ad 10, aI cy 1111 ke)) (h_st : ws0[b + 20]? = some (ad 22, aL cy 1000 st)) (h_op : ws0[b + 21]? = some (ad 25, aI cy 40 op)) (hD : DW d T) (hL : LW d me le ru so fo wn (I 19)) : MI l yX11_colourCount wsX11_colourCount rm_X11_colourCount G cy [.ref aM] ws0 (fun z u => ∃ t : Int, (t = 0 ∧ z = d 1) ∧ MRO cy b aM ad I d ws0 u t) := by
  refine MI.of (own := RX11) (cc := cX11_colourCount) (nL := 1) (ret := (some .int)) (by decide) rfl rfl (Nat.le_of_ble_eq_true rfl) ?_
  intro p e s m below meth c A ls E h hl
  have hl : lv_has ls 1 [(0, .ref aM)] := hl
  have hE : Eqx ws0 ws0 (fun j => j = b ∨ j = b + 2 ∨ j = b + 4 ∨ j = b + 20 ∨ j = b + 21) := Eqx.rf
  have hn9 := hD.n
  have hk9 := hD.k
  have hr9 := hD.nr
  refine r_aload_n E 0 hl rfl dX11_colourCount_0 ?_
  refine r_iconst E dX11_colourCount_1 ?_
  refine r_put E h h_mo rfl inn_X11_colourCount_11 0 (by decide) fl_X11_colourCount_57 tyX11 tyX11_ok nmX11 rfl rfl rfl (Nat.le_of_ble_eq_true rfl) dX11_colourCount_2 (fun ws H locs h hu => ?_)
  have h_mo : ws[b]? = some (aM, mO (va_up I 0 0) ad) := hu.1
  have h_da := hu.keep h_da (by omega)
  have h_ke := hu.keep h_ke (by omega)
  have h_st := hu.keep h_st (by omega)
  have h_op := hu.keep h_op (by omega)
  have hE := hE.tr (hu.eqx (by first | omega | (dsimp only <;> omega)))
  refine r_aload_n E 0 hl rfl dX11_colourCount_5 ?_
  refine r_get (v := .ref (ad 8)) E h h_mo rfl inn_X11_colourCount_11 8 (by decide) fl_X11_colourCount_17 rfl dX11_colourCount_6 ?_
  refine r_iconst E dX11_colourCount_9 ?_
  refine r_iald E h h_da (by omega) (by decide) dX11_colourCount_10 ?_
  exact r_iret E h ⟨0, ⟨rfl, rfl⟩, va_up I 0 0, ke, st, op, h_mo, h_da, h_ke, h_st, h_op, (by first | rfl | (simp [va_up]) | assumption), (fun k h0 h1 h2 h3 h4 => by first | rfl | simp [va_up, h0, h1, h2, h3, h4]), hE⟩ dX11_colourCount_11
theorem hd_X11_ruleCount : yX11_ruleCount.cls = RX11 ∧ yX11_ruleCount.cls ≠ "java/lang/invoke/MethodHandle" ∧ yX11_ruleCount.cls ≠ "java/lang/invoke/VarHandle" ∧ (parseMethodDescriptor yX11_ruleCount.desc).map (fun d => d.parameters.length) = some 0 := by decide +kernel
theorem fl_X11_ruleCount_57 : Cond.fieldLink RX11 57 (TX11 0).1 (TX11 0).2.1 (TX11 0).2.2.1 ∈ wsX11_ruleCount := List.mem_of_getElem? (i := 1) rfl
theorem inn_X11_ruleCount_11 : ∀ w ∈ wsX110, w ∈ wsX11_ruleCount := fun _ h => List.mem_cons_of_mem _ (List.mem_append_right _ h)
theorem fl_X11_ruleCount_17 : Cond.fieldLink RX11 17 (TX11 8).1 (TX11 8).2.1 (TX11 8).2.2.1 ∈ wsX11_ruleCount := List.mem_of_getElem? (i := 2) rfl
abbrev rm_X11_ruleCount : Room := { frames := 0, cells := 0, slots := 0, locals := 0 }
set_option maxHeartbeats 4000000 in
set_option maxRecDepth 100000 in
theorem k_X11_ruleCount (l : Launch) {G : va_G} {cy : Nat → ClassId} {ws0 : va_W} {b aM : Nat} {I : Nat → Int} {ad : Nat → Nat} {ke : Int → Int} {st : Int → Int64} {op : Int → Int} {d : Int → Int} {T : List Int} {ru so me le fo wn : Int → Int}  (h_mo : ws0[b]? = some (aM, mO I ad)) (h_da : ws0[b + 2]? = some (ad 8, aI cy 1111 d)) (h_ke : ws0[b + 4]? = some (ad 10, aI cy 1111 ke)) (h_st : ws0[b + 20]? = some (ad 22, aL cy 1000 st)) (h_op : ws0[b + 21]? = some (ad 25, aI cy 40 op)) (hD : DW d T) (hL : LW d me le ru so fo wn (I 19)) : MI l yX11_ruleCount wsX11_ruleCount rm_X11_ruleCount G cy [.ref aM] ws0 (fun z u => ∃ t : Int, (t = 0 ∧ z = d 2) ∧ MRO cy b aM ad I d ws0 u t) := by
  refine MI.of (own := RX11) (cc := cX11_ruleCount) (nL := 1) (ret := (some .int)) (by decide) rfl rfl (Nat.le_of_ble_eq_true rfl) ?_
  intro p e s m below meth c A ls E h hl
  have hl : lv_has ls 1 [(0, .ref aM)] := hl
  have hE : Eqx ws0 ws0 (fun j => j = b ∨ j = b + 2 ∨ j = b + 4 ∨ j = b + 20 ∨ j = b + 21) := Eqx.rf
  have hn9 := hD.n
  have hk9 := hD.k
  have hr9 := hD.nr
  refine r_aload_n E 0 hl rfl dX11_ruleCount_0 ?_
  refine r_iconst E dX11_ruleCount_1 ?_
  refine r_put E h h_mo rfl inn_X11_ruleCount_11 0 (by decide) fl_X11_ruleCount_57 tyX11 tyX11_ok nmX11 rfl rfl rfl (Nat.le_of_ble_eq_true rfl) dX11_ruleCount_2 (fun ws H locs h hu => ?_)
  have h_mo : ws[b]? = some (aM, mO (va_up I 0 0) ad) := hu.1
  have h_da := hu.keep h_da (by omega)
  have h_ke := hu.keep h_ke (by omega)
  have h_st := hu.keep h_st (by omega)
  have h_op := hu.keep h_op (by omega)
  have hE := hE.tr (hu.eqx (by first | omega | (dsimp only <;> omega)))
  refine r_aload_n E 0 hl rfl dX11_ruleCount_5 ?_
  refine r_get (v := .ref (ad 8)) E h h_mo rfl inn_X11_ruleCount_11 8 (by decide) fl_X11_ruleCount_17 rfl dX11_ruleCount_6 ?_
  refine r_iconst E dX11_ruleCount_9 ?_
  refine r_iald E h h_da (by omega) (by decide) dX11_ruleCount_10 ?_
  exact r_iret E h ⟨0, ⟨rfl, rfl⟩, va_up I 0 0, ke, st, op, h_mo, h_da, h_ke, h_st, h_op, (by first | rfl | (simp [va_up]) | assumption), (fun k h0 h1 h2 h3 h4 => by first | rfl | simp [va_up, h0, h1, h2, h3, h4]), hE⟩ dX11_ruleCount_11
theorem hd_X11_errorOffset : yX11_errorOffset.cls = RX11 ∧ yX11_errorOffset.cls ≠ "java/lang/invoke/MethodHandle" ∧ yX11_errorOffset.cls ≠ "java/lang/invoke/VarHandle" ∧ (parseMethodDescriptor yX11_errorOffset.desc).map (fun d => d.parameters.length) = some 0 := by decide +kernel
theorem fl_X11_errorOffset_57 : Cond.fieldLink RX11 57 (TX11 0).1 (TX11 0).2.1 (TX11 0).2.2.1 ∈ wsX11_errorOffset := List.mem_of_getElem? (i := 1) rfl
theorem inn_X11_errorOffset_11 : ∀ w ∈ wsX110, w ∈ wsX11_errorOffset := fun _ h => List.mem_cons_of_mem _ (List.mem_append_right _ h)
theorem fl_X11_errorOffset_13 : Cond.fieldLink RX11 13 (TX11 7).1 (TX11 7).2.1 (TX11 7).2.2.1 ∈ wsX11_errorOffset := List.mem_of_getElem? (i := 2) rfl
abbrev rm_X11_errorOffset : Room := { frames := 0, cells := 0, slots := 0, locals := 0 }
set_option maxHeartbeats 4000000 in
set_option maxRecDepth 100000 in
theorem k_X11_errorOffset (l : Launch) {G : va_G} {cy : Nat → ClassId} {ws0 : va_W} {b aM : Nat} {I : Nat → Int} {ad : Nat → Nat} {ke : Int → Int} {st : Int → Int64} {op : Int → Int} {d : Int → Int} {T : List Int} {ru so me le fo wn : Int → Int}  (h_mo : ws0[b]? = some (aM, mO I ad)) (h_da : ws0[b + 2]? = some (ad 8, aI cy 1111 d)) (h_ke : ws0[b + 4]? = some (ad 10, aI cy 1111 ke)) (h_st : ws0[b + 20]? = some (ad 22, aL cy 1000 st)) (h_op : ws0[b + 21]? = some (ad 25, aI cy 40 op)) (hD : DW d T) (hL : LW d me le ru so fo wn (I 19)) : MI l yX11_errorOffset wsX11_errorOffset rm_X11_errorOffset G cy [.ref aM] ws0 (fun z u => ∃ t : Int, (t = 0 ∧ z = I 7) ∧ MRO cy b aM ad I d ws0 u t) := by
  refine MI.of (own := RX11) (cc := cX11_errorOffset) (nL := 1) (ret := (some .int)) (by decide) rfl rfl (Nat.le_of_ble_eq_true rfl) ?_
  intro p e s m below meth c A ls E h hl
  have hl : lv_has ls 1 [(0, .ref aM)] := hl
  have hE : Eqx ws0 ws0 (fun j => j = b ∨ j = b + 2 ∨ j = b + 4 ∨ j = b + 20 ∨ j = b + 21) := Eqx.rf
  have hn9 := hD.n
  have hk9 := hD.k
  have hr9 := hD.nr
  refine r_aload_n E 0 hl rfl dX11_errorOffset_0 ?_
  refine r_iconst E dX11_errorOffset_1 ?_
  refine r_put E h h_mo rfl inn_X11_errorOffset_11 0 (by decide) fl_X11_errorOffset_57 tyX11 tyX11_ok nmX11 rfl rfl rfl (Nat.le_of_ble_eq_true rfl) dX11_errorOffset_2 (fun ws H locs h hu => ?_)
  have h_mo : ws[b]? = some (aM, mO (va_up I 0 0) ad) := hu.1
  have h_da := hu.keep h_da (by omega)
  have h_ke := hu.keep h_ke (by omega)
  have h_st := hu.keep h_st (by omega)
  have h_op := hu.keep h_op (by omega)
  have hE := hE.tr (hu.eqx (by first | omega | (dsimp only <;> omega)))
  refine r_aload_n E 0 hl rfl dX11_errorOffset_5 ?_
  refine r_get (v := .int (zI (I 7))) E h h_mo rfl inn_X11_errorOffset_11 7 (by decide) fl_X11_errorOffset_13 rfl dX11_errorOffset_6 ?_
  exact r_iret E h ⟨0, ⟨rfl, rfl⟩, va_up I 0 0, ke, st, op, h_mo, h_da, h_ke, h_st, h_op, (by first | rfl | (simp [va_up]) | assumption), (fun k h0 h1 h2 h3 h4 => by first | rfl | simp [va_up, h0, h1, h2, h3, h4]), hE⟩ dX11_errorOffset_9
theorem hd_X11_solutions : yX11_solutions.cls = RX11 ∧ yX11_solutions.cls ≠ "java/lang/invoke/MethodHandle" ∧ yX11_solutions.cls ≠ "java/lang/invoke/VarHandle" ∧ (parseMethodDescriptor yX11_solutions.desc).map (fun d => d.parameters.length) = some 1 := by decide +kernel
theorem fl_X11_solutions_57 : Cond.fieldLink RX11 57 (TX11 0).1 (TX11 0).2.1 (TX11 0).2.2.1 ∈ wsX11_solutions := List.mem_of_getElem? (i := 1) rfl
theorem inn_X11_solutions_11 : ∀ w ∈ wsX110, w ∈ wsX11_solutions := fun _ h => List.mem_cons_of_mem _ (List.mem_append_right _ h)
theorem fl_X11_solutions_17 : Cond.fieldLink RX11 17 (TX11 8).1 (TX11 8).2.1 (TX11 8).2.2.1 ∈ wsX11_solutions := List.mem_of_getElem? (i := 2) rfl
theorem fl_X11_solutions_41 : Cond.fieldLink RX11 41 (TX11 18).1 (TX11 18).2.1 (TX11 18).2.2.1 ∈ wsX11_solutions := List.mem_of_getElem? (i := 3) rfl
abbrev rm_X11_solutions : Room := { frames := 1, cells := 0, slots := 0, locals := 22 }
set_option maxHeartbeats 4000000 in
set_option maxRecDepth 100000 in
theorem k_X11_solutions (l : Launch) {G : va_G} {cy : Nat → ClassId} {ws0 : va_W} {b aM : Nat} {I : Nat → Int} {ad : Nat → Nat} {ke : Int → Int} {st : Int → Int64} {op : Int → Int} {so : Int → Int} {d : Int → Int} {T : List Int} {ru me le fo wn : Int → Int} (r : Int) (h_mo : ws0[b]? = some (aM, mO I ad)) (h_da : ws0[b + 2]? = some (ad 8, aI cy 1111 d)) (h_ke : ws0[b + 4]? = some (ad 10, aI cy 1111 ke)) (h_st : ws0[b + 20]? = some (ad 22, aL cy 1000 st)) (h_op : ws0[b + 21]? = some (ad 25, aI cy 40 op)) (h_so : ws0[b + 17]? = some (ad 18, aI cy 4 so)) (hD : DW d T) (hL : LW d me le ru so fo wn (I 19)) (hr : (-2147483648 ≤ r ∧ r ≤ 2147483647)) : MI l yX11_solutions wsX11_solutions rm_X11_solutions G cy [.ref aM, .int (zI r)] ws0 (fun z u => ∃ t : Int, ((0 ≤ r ∧ r < d 2) ∧ t = 0 ∧ z = (kX d r (d 0).toNat).length ∨ (r < 0 ∨ d 2 ≤ r) ∧ t = 1) ∧ MRO cy b aM ad I d ws0 u t) := by
  refine MI.of (own := RX11) (cc := cX11_solutions) (nL := 2) (ret := (some .int)) (by decide) rfl rfl (Nat.le_of_ble_eq_true rfl) ?_
  intro p e s m below meth c A ls E h hl
  have hl : lv_has ls 2 [(0, .ref aM), (1, .int (zI r))] := hl
  have hE : Eqx ws0 ws0 (fun j => j = b ∨ j = b + 2 ∨ j = b + 4 ∨ j = b + 20 ∨ j = b + 21) := Eqx.rf
  have hn9 := hD.n
  have hk9 := hD.k
  have hr9 := hD.nr
  refine r_aload_n E 0 hl rfl dX11_solutions_0 ?_
  refine r_iconst E dX11_solutions_1 ?_
  refine r_put E h h_mo rfl inn_X11_solutions_11 0 (by decide) fl_X11_solutions_57 tyX11 tyX11_ok nmX11 rfl rfl rfl (Nat.le_of_ble_eq_true rfl) dX11_solutions_2 (fun ws H locs h hu => ?_)
  have h_mo : ws[b]? = some (aM, mO (va_up I 0 0) ad) := hu.1
  have h_da := hu.keep h_da (by omega)
  have h_ke := hu.keep h_ke (by omega)
  have h_st := hu.keep h_st (by omega)
  have h_op := hu.keep h_op (by omega)
  have h_so := hu.keep h_so (by omega)
  have hE := hE.tr (hu.eqx (by first | omega | (dsimp only <;> omega)))
  refine r_aload_n E 0 hl rfl dX11_solutions_5 ?_
  refine r_iload_n E 1 hl rfl dX11_solutions_6 ?_
  refine r_iconst E dX11_solutions_7 ?_
  refine r_aload_n E 0 hl rfl dX11_solutions_8 ?_
  refine r_get (v := .ref (ad 8)) E h h_mo rfl inn_X11_solutions_11 8 (by decide) fl_X11_solutions_17 rfl dX11_solutions_9 ?_
  refine r_iconst E dX11_solutions_12 ?_
  refine r_iald E h h_da (by omega) (by decide) dX11_solutions_13 ?_
  refine r_iconst E dX11_solutions_14 ?_
  refine r_isub E dX11_solutions_15 ?_
  refine r_callSI E h (As := [.int (zI r), .int (zI 0), .int (zI ((d 2) - 1))]) (rest := [.ref aM]) (k_X11_in l r 0 ((d 2) - 1) (by omega)) gX11_solutions_X11_in rfl hd_X11_in (by decide) ⟨by decide, by decide⟩ hl.1 rfl (Nat.le_of_ble_eq_true rfl) dX11_solutions_16 rfl (fun z_16 ws H locs hp h => ?_)
  obtain ⟨e_z_16, rfl⟩ := hp
  refine r_if_ne E 26 dX11_solutions_19 (by decide) (by omega) (fun c_19 => ?_) (fun c_19 => ?_)
  · skip
    refine r_iconst E dX11_solutions_26 ?_
    refine r_iconst E dX11_solutions_27 ?_
    refine r_callVI E h (As := [.int (zI 0), .int (zI 1)]) (rest := []) (k_X11_fails l 0 1 h_mo (by omega) (by omega) (by first | rfl | simp [va_up] | (simp [va_up]; omega))) h_mo rfl gX11_solutions_X11_fails rfl hd_X11_fails (by decide) ⟨by decide, by decide⟩ hl.1 rfl (Nat.le_of_ble_eq_true rfl) dX11_solutions_28 rfl (fun z_28 ws H locs hp h => ?_)
    obtain ⟨t_28, e_28, h_mo, hf⟩ := hp
    have h_da := hf.at h_da (by first | omega | (dsimp only <;> omega))
    have h_ke := hf.at h_ke (by first | omega | (dsimp only <;> omega))
    have h_st := hf.at h_st (by first | omega | (dsimp only <;> omega))
    have h_op := hf.at h_op (by first | omega | (dsimp only <;> omega))
    have h_so := hf.at h_so (by first | omega | (dsimp only <;> omega))
    have hE := hE.tr (hf.wk (fun j hj => by first | omega | (dsimp only at hj ⊢ <;> omega)))
    refine r_if_eq E 38 dX11_solutions_31 (by decide) (by omega) (fun c_31 => ?_) (fun c_31 => ?_)
    · skip
      refine r_aload_n E 0 hl rfl dX11_solutions_38 ?_
      refine r_get (v := .ref (ad 18)) E h h_mo rfl inn_X11_solutions_11 18 (by decide) fl_X11_solutions_41 rfl dX11_solutions_39 ?_
      refine r_iload_n E 1 hl rfl dX11_solutions_42 ?_
      refine r_iald E h h_so (by omega) (by decide) dX11_solutions_43 ?_
      rw [show so r = ((kX d r (d 0).toNat).length : Int) from (hL.2.2.1 r (by omega) (by omega))]
      exact r_iret E h ⟨t_28, by omega, va_up (va_up I 0 0) 0 t_28, ke, st, op, h_mo, h_da, h_ke, h_st, h_op, (by first | rfl | (simp [va_up]) | assumption), (fun k h0 h1 h2 h3 h4 => by first | rfl | simp [va_up, h0, h1, h2, h3, h4]), hE⟩ dX11_solutions_44
    · skip
      refine r_iconst E dX11_solutions_34 ?_
      refine r_goto E 44 dX11_solutions_35 (by decide) ?_
      exact r_iret E h ⟨t_28, by omega, va_up (va_up I 0 0) 0 t_28, ke, st, op, h_mo, h_da, h_ke, h_st, h_op, (by first | rfl | (simp [va_up]) | assumption), (fun k h0 h1 h2 h3 h4 => by first | rfl | simp [va_up, h0, h1, h2, h3, h4]), hE⟩ dX11_solutions_44
  · skip
    refine r_iconst E dX11_solutions_22 ?_
    refine r_goto E 27 dX11_solutions_23 (by decide) ?_
    refine r_iconst E dX11_solutions_27 ?_
    refine r_callVI E h (As := [.int (zI 1), .int (zI 1)]) (rest := []) (k_X11_fails l 1 1 h_mo (by omega) (by omega) (by first | rfl | simp [va_up] | (simp [va_up]; omega))) h_mo rfl gX11_solutions_X11_fails rfl hd_X11_fails (by decide) ⟨by decide, by decide⟩ hl.1 rfl (Nat.le_of_ble_eq_true rfl) dX11_solutions_28 rfl (fun z_28 ws H locs hp h => ?_)
    obtain ⟨t_28, e_28, h_mo, hf⟩ := hp
    have h_da := hf.at h_da (by first | omega | (dsimp only <;> omega))
    have h_ke := hf.at h_ke (by first | omega | (dsimp only <;> omega))
    have h_st := hf.at h_st (by first | omega | (dsimp only <;> omega))
    have h_op := hf.at h_op (by first | omega | (dsimp only <;> omega))
    have h_so := hf.at h_so (by first | omega | (dsimp only <;> omega))
    have hE := hE.tr (hf.wk (fun j hj => by first | omega | (dsimp only at hj ⊢ <;> omega)))
    refine r_if_eq E 38 dX11_solutions_31 (by decide) (by omega) (fun c_31 => ?_) (fun c_31 => ?_)
    · skip
      refine r_aload_n E 0 hl rfl dX11_solutions_38 ?_
      refine r_get (v := .ref (ad 18)) E h h_mo rfl inn_X11_solutions_11 18 (by decide) fl_X11_solutions_41 rfl dX11_solutions_39 ?_
      refine r_iload_n E 1 hl rfl dX11_solutions_42 ?_
      refine r_iald E h h_so (by omega) (by decide) dX11_solutions_43 ?_
      rw [show so r = ((kX d r (d 0).toNat).length : Int) from (hL.2.2.1 r (by omega) (by omega))]
      exact r_iret E h ⟨t_28, by omega, va_up (va_up I 0 0) 0 t_28, ke, st, op, h_mo, h_da, h_ke, h_st, h_op, (by first | rfl | (simp [va_up]) | assumption), (fun k h0 h1 h2 h3 h4 => by first | rfl | simp [va_up, h0, h1, h2, h3, h4]), hE⟩ dX11_solutions_44
    · skip
      refine r_iconst E dX11_solutions_34 ?_
      refine r_goto E 44 dX11_solutions_35 (by decide) ?_
      exact r_iret E h ⟨t_28, by omega, va_up (va_up I 0 0) 0 t_28, ke, st, op, h_mo, h_da, h_ke, h_st, h_op, (by first | rfl | (simp [va_up]) | assumption), (fun k h0 h1 h2 h3 h4 => by first | rfl | simp [va_up, h0, h1, h2, h3, h4]), hE⟩ dX11_solutions_44
theorem hd_X11_colour : yX11_colour.cls = RX11 ∧ yX11_colour.cls ≠ "java/lang/invoke/MethodHandle" ∧ yX11_colour.cls ≠ "java/lang/invoke/VarHandle" ∧ (parseMethodDescriptor yX11_colour.desc).map (fun d => d.parameters.length) = some 1 := by decide +kernel
theorem fl_X11_colour_57 : Cond.fieldLink RX11 57 (TX11 0).1 (TX11 0).2.1 (TX11 0).2.2.1 ∈ wsX11_colour := List.mem_of_getElem? (i := 1) rfl
theorem inn_X11_colour_11 : ∀ w ∈ wsX110, w ∈ wsX11_colour := fun _ h => List.mem_cons_of_mem _ (List.mem_append_right _ h)
abbrev rm_X11_colour : Room := { frames := 2, cells := 0, slots := 0, locals := 43 }
set_option maxHeartbeats 4000000 in
set_option maxRecDepth 100000 in
theorem k_X11_colour (l : Launch) {G : va_G} {cy : Nat → ClassId} {ws0 : va_W} {b aM : Nat} {I : Nat → Int} {ad : Nat → Nat} {ke : Int → Int} {st : Int → Int64} {op : Int → Int} {d : Int → Int} {T : List Int} {ru so me le fo wn : Int → Int} (x : Int) (h_mo : ws0[b]? = some (aM, mO I ad)) (h_da : ws0[b + 2]? = some (ad 8, aI cy 1111 d)) (h_ke : ws0[b + 4]? = some (ad 10, aI cy 1111 ke)) (h_st : ws0[b + 20]? = some (ad 22, aL cy 1000 st)) (h_op : ws0[b + 21]? = some (ad 25, aI cy 40 op)) (hD : DW d T) (hL : LW d me le ru so fo wn (I 19)) (hr : (-2147483648 ≤ x ∧ x ≤ 2147483647)) : MI l yX11_colour wsX11_colour rm_X11_colour G cy [.ref aM, .int (zI x)] ws0 (fun z u => ∃ t : Int, ((1 ≤ x ∧ x ≤ d 0) ∧ t = 0 ∧ z = d (29 + x) - 1 ∨ (x < 1 ∨ d 0 < x) ∧ t = 1) ∧ MRO cy b aM ad I d ws0 u t) := by
  refine MI.of (own := RX11) (cc := cX11_colour) (nL := 2) (ret := (some .int)) (by decide) rfl rfl (Nat.le_of_ble_eq_true rfl) ?_
  intro p e s m below meth c A ls E h hl
  have hl : lv_has ls 2 [(0, .ref aM), (1, .int (zI x))] := hl
  have hE : Eqx ws0 ws0 (fun j => j = b ∨ j = b + 2 ∨ j = b + 4 ∨ j = b + 20 ∨ j = b + 21) := Eqx.rf
  have hn9 := hD.n
  have hk9 := hD.k
  have hr9 := hD.nr
  refine r_aload_n E 0 hl rfl dX11_colour_0 ?_
  refine r_iconst E dX11_colour_1 ?_
  refine r_put E h h_mo rfl inn_X11_colour_11 0 (by decide) fl_X11_colour_57 tyX11 tyX11_ok nmX11 rfl rfl rfl (Nat.le_of_ble_eq_true rfl) dX11_colour_2 (fun ws H locs h hu => ?_)
  have h_mo : ws[b]? = some (aM, mO (va_up I 0 0) ad) := hu.1
  have h_da := hu.keep h_da (by omega)
  have h_ke := hu.keep h_ke (by omega)
  have h_st := hu.keep h_st (by omega)
  have h_op := hu.keep h_op (by omega)
  have hE := hE.tr (hu.eqx (by first | omega | (dsimp only <;> omega)))
  refine r_aload_n E 0 hl rfl dX11_colour_5 ?_
  refine r_iload_n E 1 hl rfl dX11_colour_6 ?_
  refine r_callVI E h (As := [.int (zI x)]) (rest := []) (k_X11_noNumber l x h_mo h_da (by omega) (by have := hD.n; omega) (by first | rfl | simp [va_up])) h_mo rfl gX11_colour_X11_noNumber rfl hd_X11_noNumber (by decide) ⟨by decide, by decide⟩ hl.1 rfl (Nat.le_of_ble_eq_true rfl) dX11_colour_7 rfl (fun z_7 ws H locs hp h => ?_)
  obtain ⟨t_7, e_7, h_mo, hf⟩ := hp
  have h_da := hf.at h_da (by first | omega | (dsimp only <;> omega))
  have h_ke := hf.at h_ke (by first | omega | (dsimp only <;> omega))
  have h_st := hf.at h_st (by first | omega | (dsimp only <;> omega))
  have h_op := hf.at h_op (by first | omega | (dsimp only <;> omega))
  have hE := hE.tr (hf.wk (fun j hj => by first | omega | (dsimp only at hj ⊢ <;> omega)))
  refine r_if_eq E 17 dX11_colour_10 (by decide) (by omega) (fun c_10 => ?_) (fun c_10 => ?_)
  · skip
    refine r_aload_n E 0 hl rfl dX11_colour_17 ?_
    refine r_iload_n E 1 hl rfl dX11_colour_18 ?_
    refine r_callVI E h (As := [.int (zI x)]) (rest := []) (k_X11_colourOf l x h_mo h_da (by omega)) h_mo rfl gX11_colour_X11_colourOf rfl hd_X11_colourOf (by decide) ⟨by decide, by decide⟩ hl.1 rfl (Nat.le_of_ble_eq_true rfl) dX11_colour_19 rfl (fun z_19 ws H locs hp h => ?_)
    obtain ⟨rfl, rfl⟩ := hp
    exact r_iret E h ⟨t_7, by omega, va_up (va_up I 0 0) 0 t_7, ke, st, op, h_mo, h_da, h_ke, h_st, h_op, (by first | rfl | (simp [va_up]) | assumption), (fun k h0 h1 h2 h3 h4 => by first | rfl | simp [va_up, h0, h1, h2, h3, h4]), hE⟩ dX11_colour_22
  · skip
    refine r_iconst E dX11_colour_13 ?_
    refine r_goto E 22 dX11_colour_14 (by decide) ?_
    exact r_iret E h ⟨t_7, by omega, va_up (va_up I 0 0) 0 t_7, ke, st, op, h_mo, h_da, h_ke, h_st, h_op, (by first | rfl | (simp [va_up]) | assumption), (fun k h0 h1 h2 h3 h4 => by first | rfl | simp [va_up, h0, h1, h2, h3, h4]), hE⟩ dX11_colour_22
theorem hd_X11_isFixed : yX11_isFixed.cls = RX11 ∧ yX11_isFixed.cls ≠ "java/lang/invoke/MethodHandle" ∧ yX11_isFixed.cls ≠ "java/lang/invoke/VarHandle" ∧ (parseMethodDescriptor yX11_isFixed.desc).map (fun d => d.parameters.length) = some 1 := by decide +kernel
theorem fl_X11_isFixed_57 : Cond.fieldLink RX11 57 (TX11 0).1 (TX11 0).2.1 (TX11 0).2.2.1 ∈ wsX11_isFixed := List.mem_of_getElem? (i := 1) rfl
theorem inn_X11_isFixed_11 : ∀ w ∈ wsX110, w ∈ wsX11_isFixed := fun _ h => List.mem_cons_of_mem _ (List.mem_append_right _ h)
theorem fl_X11_isFixed_17 : Cond.fieldLink RX11 17 (TX11 8).1 (TX11 8).2.1 (TX11 8).2.2.1 ∈ wsX11_isFixed := List.mem_of_getElem? (i := 2) rfl
abbrev rm_X11_isFixed : Room := { frames := 2, cells := 0, slots := 0, locals := 43 }
set_option maxHeartbeats 4000000 in
set_option maxRecDepth 100000 in
theorem k_X11_isFixed (l : Launch) {G : va_G} {cy : Nat → ClassId} {ws0 : va_W} {b aM : Nat} {I : Nat → Int} {ad : Nat → Nat} {ke : Int → Int} {st : Int → Int64} {op : Int → Int} {d : Int → Int} {T : List Int} {ru so me le fo wn : Int → Int} (x : Int) (h_mo : ws0[b]? = some (aM, mO I ad)) (h_da : ws0[b + 2]? = some (ad 8, aI cy 1111 d)) (h_ke : ws0[b + 4]? = some (ad 10, aI cy 1111 ke)) (h_st : ws0[b + 20]? = some (ad 22, aL cy 1000 st)) (h_op : ws0[b + 21]? = some (ad 25, aI cy 40 op)) (hD : DW d T) (hL : LW d me le ru so fo wn (I 19)) (hr : (-2147483648 ≤ x ∧ x ≤ 2147483647)) : MI l yX11_isFixed wsX11_isFixed rm_X11_isFixed G cy [.ref aM, .int (zI x)] ws0 (fun z u => ∃ t : Int, ((1 ≤ x ∧ x ≤ d 0) ∧ t = 0 ∧ z = d (70 + x) ∨ (x < 1 ∨ d 0 < x) ∧ t = 1) ∧ MRO cy b aM ad I d ws0 u t) := by
  refine MI.of (own := RX11) (cc := cX11_isFixed) (nL := 2) (ret := (some .boolean)) (by decide) rfl rfl (Nat.le_of_ble_eq_true rfl) ?_
  intro p e s m below meth c A ls E h hl
  have hl : lv_has ls 2 [(0, .ref aM), (1, .int (zI x))] := hl
  have hE : Eqx ws0 ws0 (fun j => j = b ∨ j = b + 2 ∨ j = b + 4 ∨ j = b + 20 ∨ j = b + 21) := Eqx.rf
  have hn9 := hD.n
  have hk9 := hD.k
  have hr9 := hD.nr
  refine r_aload_n E 0 hl rfl dX11_isFixed_0 ?_
  refine r_iconst E dX11_isFixed_1 ?_
  refine r_put E h h_mo rfl inn_X11_isFixed_11 0 (by decide) fl_X11_isFixed_57 tyX11 tyX11_ok nmX11 rfl rfl rfl (Nat.le_of_ble_eq_true rfl) dX11_isFixed_2 (fun ws H locs h hu => ?_)
  have h_mo : ws[b]? = some (aM, mO (va_up I 0 0) ad) := hu.1
  have h_da := hu.keep h_da (by omega)
  have h_ke := hu.keep h_ke (by omega)
  have h_st := hu.keep h_st (by omega)
  have h_op := hu.keep h_op (by omega)
  have hE := hE.tr (hu.eqx (by first | omega | (dsimp only <;> omega)))
  refine r_aload_n E 0 hl rfl dX11_isFixed_5 ?_
  refine r_iload_n E 1 hl rfl dX11_isFixed_6 ?_
  refine r_callVI E h (As := [.int (zI x)]) (rest := []) (k_X11_noNumber l x h_mo h_da (by omega) (by have := hD.n; omega) (by first | rfl | simp [va_up])) h_mo rfl gX11_isFixed_X11_noNumber rfl hd_X11_noNumber (by decide) ⟨by decide, by decide⟩ hl.1 rfl (Nat.le_of_ble_eq_true rfl) dX11_isFixed_7 rfl (fun z_7 ws H locs hp h => ?_)
  obtain ⟨t_7, e_7, h_mo, hf⟩ := hp
  have h_da := hf.at h_da (by first | omega | (dsimp only <;> omega))
  have h_ke := hf.at h_ke (by first | omega | (dsimp only <;> omega))
  have h_st := hf.at h_st (by first | omega | (dsimp only <;> omega))
  have h_op := hf.at h_op (by first | omega | (dsimp only <;> omega))
  have hE := hE.tr (hf.wk (fun j hj => by first | omega | (dsimp only at hj ⊢ <;> omega)))
  refine r_if_ne E 30 dX11_isFixed_10 (by decide) (by omega) (fun c_10 => ?_) (fun c_10 => ?_)
  · skip
    refine r_iconst E dX11_isFixed_30 ?_
    exact r_zret E h (by omega) ⟨t_7, by omega, va_up (va_up I 0 0) 0 t_7, ke, st, op, h_mo, h_da, h_ke, h_st, h_op, (by first | rfl | (simp [va_up]) | assumption), (fun k h0 h1 h2 h3 h4 => by first | rfl | simp [va_up, h0, h1, h2, h3, h4]), hE⟩ dX11_isFixed_31
  · skip
    have hfx := hD.fix (x := x) (by omega) (by omega)
    refine r_aload_n E 0 hl rfl dX11_isFixed_13 ?_
    refine r_get (v := .ref (ad 8)) E h h_mo rfl inn_X11_isFixed_11 8 (by decide) fl_X11_isFixed_17 rfl dX11_isFixed_14 ?_
    refine r_bipush E dX11_isFixed_17 (by decide) ?_
    refine r_iload_n E 1 hl rfl dX11_isFixed_19 ?_
    refine r_iadd E dX11_isFixed_20 ?_
    refine r_iald E h h_da (by omega) (by decide) dX11_isFixed_21 ?_
    refine r_iconst E dX11_isFixed_22 ?_
    refine r_icmp_ne E 30 dX11_isFixed_23 (by decide) (by omega) (fun c_23 => ?_) (fun c_23 => ?_)
    · skip
      refine r_iconst E dX11_isFixed_30 ?_
      exact r_zret E h (by omega) ⟨t_7, by omega, va_up (va_up I 0 0) 0 t_7, ke, st, op, h_mo, h_da, h_ke, h_st, h_op, (by first | rfl | (simp [va_up]) | assumption), (fun k h0 h1 h2 h3 h4 => by first | rfl | simp [va_up, h0, h1, h2, h3, h4]), hE⟩ dX11_isFixed_31
    · skip
      refine r_iconst E dX11_isFixed_26 ?_
      refine r_goto E 31 dX11_isFixed_27 (by decide) ?_
      exact r_zret E h (by omega) ⟨t_7, by omega, va_up (va_up I 0 0) 0 t_7, ke, st, op, h_mo, h_da, h_ke, h_st, h_op, (by first | rfl | (simp [va_up]) | assumption), (fun k h0 h1 h2 h3 h4 => by first | rfl | simp [va_up, h0, h1, h2, h3, h4]), hE⟩ dX11_isFixed_31
theorem hd_X11_count : yX11_count.cls = RX11 ∧ yX11_count.cls ≠ "java/lang/invoke/MethodHandle" ∧ yX11_count.cls ≠ "java/lang/invoke/VarHandle" ∧ (parseMethodDescriptor yX11_count.desc).map (fun d => d.parameters.length) = some 1 := by decide +kernel
theorem fl_X11_count_57 : Cond.fieldLink RX11 57 (TX11 0).1 (TX11 0).2.1 (TX11 0).2.2.1 ∈ wsX11_count := List.mem_of_getElem? (i := 1) rfl
theorem inn_X11_count_11 : ∀ w ∈ wsX110, w ∈ wsX11_count := fun _ h => List.mem_cons_of_mem _ (List.mem_append_right _ h)
theorem fl_X11_count_17 : Cond.fieldLink RX11 17 (TX11 8).1 (TX11 8).2.1 (TX11 8).2.2.1 ∈ wsX11_count := List.mem_of_getElem? (i := 2) rfl
abbrev rm_X11_count : Room := { frames := 2, cells := 0, slots := 0, locals := 44 }
set_option maxHeartbeats 4000000 in
set_option maxRecDepth 100000 in
theorem k_X11_count (l : Launch) {G : va_G} {cy : Nat → ClassId} {ws0 : va_W} {b aM : Nat} {I : Nat → Int} {ad : Nat → Nat} {ke : Int → Int} {st : Int → Int64} {op : Int → Int} {d : Int → Int} {T : List Int} {ru so me le fo wn : Int → Int} (c9 : Int) (h_mo : ws0[b]? = some (aM, mO I ad)) (h_da : ws0[b + 2]? = some (ad 8, aI cy 1111 d)) (h_ke : ws0[b + 4]? = some (ad 10, aI cy 1111 ke)) (h_st : ws0[b + 20]? = some (ad 22, aL cy 1000 st)) (h_op : ws0[b + 21]? = some (ad 25, aI cy 40 op)) (hD : DW d T) (hL : LW d me le ru so fo wn (I 19)) (hr : (-2147483648 ≤ c9 ∧ c9 ≤ 2147483647)) : MI l yX11_count wsX11_count rm_X11_count G cy [.ref aM, .int (zI c9)] ws0 (fun z u => ∃ t : Int, ((-1 ≤ c9 ∧ c9 < d 1) ∧ t = 0 ∧ z = sumL (fun y => if d (29 + y) = c9 + 1 then 1 else 0) (upto (d 0).toNat) ∨ (c9 < -1 ∨ d 1 ≤ c9) ∧ t = 1) ∧ MRO cy b aM ad I d ws0 u t) := by
  refine MI.of (own := RX11) (cc := cX11_count) (nL := 4) (ret := (some .int)) (by decide) rfl rfl (Nat.le_of_ble_eq_true rfl) ?_
  intro p e s m below meth c A ls E h hl
  have hl : lv_has ls 4 [(0, .ref aM), (1, .int (zI c9))] := hl
  have hE : Eqx ws0 ws0 (fun j => j = b ∨ j = b + 2 ∨ j = b + 4 ∨ j = b + 20 ∨ j = b + 21) := Eqx.rf
  have hn9 := hD.n
  have hk9 := hD.k
  have hr9 := hD.nr
  refine r_aload_n E 0 hl rfl dX11_count_0 ?_
  refine r_iconst E dX11_count_1 ?_
  refine r_put E h h_mo rfl inn_X11_count_11 0 (by decide) fl_X11_count_57 tyX11 tyX11_ok nmX11 rfl rfl rfl (Nat.le_of_ble_eq_true rfl) dX11_count_2 (fun ws H locs h hu => ?_)
  have h_mo : ws[b]? = some (aM, mO (va_up I 0 0) ad) := hu.1
  have h_da := hu.keep h_da (by omega)
  have h_ke := hu.keep h_ke (by omega)
  have h_st := hu.keep h_st (by omega)
  have h_op := hu.keep h_op (by omega)
  have hE := hE.tr (hu.eqx (by first | omega | (dsimp only <;> omega)))
  refine r_aload_n E 0 hl rfl dX11_count_5 ?_
  refine r_iload_n E 1 hl rfl dX11_count_6 ?_
  refine r_iconst E dX11_count_7 ?_
  refine r_callVI E h (As := [.int (zI c9), .int (zI (-1))]) (rest := []) (k_X11_noColour l c9 (-1) h_mo h_da (by omega) (by have := hD.k; omega) (by first | rfl | simp [va_up] | (simp [va_up]; omega))) h_mo rfl gX11_count_X11_noColour rfl hd_X11_noColour (by decide) ⟨by decide, by decide⟩ hl.1 rfl (Nat.le_of_ble_eq_true rfl) dX11_count_8 rfl (fun z_8 ws H locs hp h => ?_)
  obtain ⟨t_8, e_8, h_mo, hf⟩ := hp
  have h_da := hf.at h_da (by first | omega | (dsimp only <;> omega))
  have h_ke := hf.at h_ke (by first | omega | (dsimp only <;> omega))
  have h_st := hf.at h_st (by first | omega | (dsimp only <;> omega))
  have h_op := hf.at h_op (by first | omega | (dsimp only <;> omega))
  have hE := hE.tr (hf.wk (fun j hj => by first | omega | (dsimp only at hj ⊢ <;> omega)))
  refine r_if_eq E 16 dX11_count_11 (by decide) (by omega) (fun c_11 => ?_) (fun c_11 => ?_)
  · skip
    refine r_iconst E dX11_count_16 ?_
    refine r_istore_n (lv' := [(2, .int (zI 0)), (0, .ref aM), (1, .int (zI c9))]) E hl dX11_count_17 rfl (by decide) rfl (fun ls hl => ?_)
    refine r_iconst E dX11_count_18 ?_
    refine r_istore_n (lv' := [(3, .int (zI 1)), (2, .int (zI 0)), (0, .ref aM), (1, .int (zI c9))]) E hl dX11_count_19 rfl (by decide) rfl (fun ls hl => ?_)
    refine r_loop (fun n H locs ls => ∃ (n9 : Int) (x : Int), n = (41 - x).toNat ∧ (1 ≤ x ∧ x ≤ d 0 + 1) ∧ (n9 = sumL (fun y => if d (29 + y) = c9 + 1 then 1 else 0) (upto (x - 1).toNat)) ∧ Hp G ws A s.heap H locs ∧ lv_has ls 4 [(0, .ref aM), (1, .int (zI c9)), (2, .int (zI n9)), (3, .int (zI x))]) _ ⟨0, 1, rfl, (by omega), rfl, h, lv_sub hl [2, 3, 1, 0] rfl⟩ ?_
    rintro n H locs ls ⟨n9, x, hn, i1, i2, h, hl⟩ ih_20
    refine r_iload_n E 3 hl rfl dX11_count_20 ?_
    refine r_aload_n E 0 hl rfl dX11_count_21 ?_
    refine r_get (v := .ref (ad 8)) E h h_mo rfl inn_X11_count_11 8 (by decide) fl_X11_count_17 rfl dX11_count_22 ?_
    refine r_iconst E dX11_count_25 ?_
    refine r_iald E h h_da (by omega) (by decide) dX11_count_26 ?_
    refine r_icmp_gt E 53 dX11_count_27 (by decide) (by omega) (fun c_27 => ?_) (fun c_27 => ?_)
    · skip
      refine r_iload_n E 2 hl rfl dX11_count_53 ?_
      exact r_iret E h ⟨t_8, Or.inl ⟨by omega, by omega, by rw [i2, show (x - 1).toNat = (d 0).toNat by omega]⟩, va_up (va_up I 0 0) 0 t_8, ke, st, op, h_mo, h_da, h_ke, h_st, h_op, (by first | rfl | (simp [va_up]) | assumption), (fun k h0 h1 h2 h3 h4 => by first | rfl | simp [va_up, h0, h1, h2, h3, h4]), hE⟩ dX11_count_54
    · skip
      have hcx := hD.c4 x (by omega) (by omega)
      have e9 : sumL (fun y => if d (29 + y) = c9 + 1 then 1 else 0) (upto (x + 1 - 1).toNat) = sumL (fun y => if d (29 + y) = c9 + 1 then 1 else 0) (upto (x - 1).toNat) + (if d (29 + x) = c9 + 1 then 1 else 0) := by
        rw [show (x + 1 - 1).toNat = (x - 1).toNat + 1 by omega]
        show sumL _ (upto (x - 1).toNat ++ [((x - 1).toNat : Int) + 1]) = _
        rw [sumL_app, show (((x - 1).toNat : Int) + 1) = x by omega]
        simp [sumL]
      refine r_iload_n E 2 hl rfl dX11_count_30 ?_
      refine r_aload_n E 0 hl rfl dX11_count_31 ?_
      refine r_iload_n E 3 hl rfl dX11_count_32 ?_
      refine r_callVI E h (As := [.int (zI x)]) (rest := [.int (zI n9)]) (k_X11_colourOf l x h_mo h_da (by omega)) h_mo rfl gX11_count_X11_colourOf rfl hd_X11_colourOf (by decide) ⟨by decide, by decide⟩ hl.1 rfl (Nat.le_of_ble_eq_true rfl) dX11_count_33 rfl (fun z_33 ws H locs hp h => ?_)
      obtain ⟨rfl, rfl⟩ := hp
      refine r_iload_n E 1 hl rfl dX11_count_36 ?_
      refine r_icmp_ne E 44 dX11_count_37 (by decide) (by omega) (fun c_37 => ?_) (fun c_37 => ?_)
      · skip
        rw [if_neg (by omega)] at e9
        refine r_iconst E dX11_count_44 ?_
        refine r_iadd E dX11_count_45 ?_
        refine r_istore_n (lv' := [(2, .int (zI (n9 + 0))), (0, .ref aM), (1, .int (zI c9)), (3, .int (zI x))]) E hl dX11_count_46 rfl (by decide) rfl (fun ls hl => ?_)
        refine r_iinc (lv' := [(3, .int (zI (x + 1))), (2, .int (zI (n9 + 0))), (0, .ref aM), (1, .int (zI c9))]) E 3 hl rfl dX11_count_47 (by decide) rfl (fun ls hl => ?_)
        refine r_goto E 20 dX11_count_50 (by decide) ?_
        exact ih_20 _ H locs ls (by omega) ⟨(n9 + 0), (x + 1), rfl, (by omega), (by rw [e9]; omega), h, lv_sub hl [2, 3, 1, 0] rfl⟩
      · skip
        rw [if_pos (by omega)] at e9
        refine r_iconst E dX11_count_40 ?_
        refine r_goto E 45 dX11_count_41 (by decide) ?_
        refine r_iadd E dX11_count_45 ?_
        refine r_istore_n (lv' := [(2, .int (zI (n9 + 1))), (0, .ref aM), (1, .int (zI c9)), (3, .int (zI x))]) E hl dX11_count_46 rfl (by decide) rfl (fun ls hl => ?_)
        refine r_iinc (lv' := [(3, .int (zI (x + 1))), (2, .int (zI (n9 + 1))), (0, .ref aM), (1, .int (zI c9))]) E 3 hl rfl dX11_count_47 (by decide) rfl (fun ls hl => ?_)
        refine r_goto E 20 dX11_count_50 (by decide) ?_
        exact ih_20 _ H locs ls (by omega) ⟨(n9 + 1), (x + 1), rfl, (by omega), (by rw [e9]; omega), h, lv_sub hl [2, 3, 1, 0] rfl⟩
  · skip
    refine r_iconst E dX11_count_14 ?_
    exact r_iret E h ⟨t_8, by omega, va_up (va_up I 0 0) 0 t_8, ke, st, op, h_mo, h_da, h_ke, h_st, h_op, (by first | rfl | (simp [va_up]) | assumption), (fun k h0 h1 h2 h3 h4 => by first | rfl | simp [va_up, h0, h1, h2, h3, h4]), hE⟩ dX11_count_15
