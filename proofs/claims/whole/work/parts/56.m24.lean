theorem hd_X11_thrown : yX11_thrown.cls = RX11 ∧ yX11_thrown.cls ≠ "java/lang/invoke/MethodHandle" ∧ yX11_thrown.cls ≠ "java/lang/invoke/VarHandle" ∧ (parseMethodDescriptor yX11_thrown.desc).map (fun d => d.parameters.length) = some 0 := by decide +kernel
theorem fl_X11_thrown_57 : Cond.fieldLink RX11 57 (TX11 0).1 (TX11 0).2.1 (TX11 0).2.2.1 ∈ wsX11_thrown := List.mem_of_getElem? (i := 1) rfl
theorem inn_X11_thrown_11 : ∀ w ∈ wsX110, w ∈ wsX11_thrown := fun _ h => List.mem_cons_of_mem _ (List.mem_append_right _ h)
abbrev rm_X11_thrown : Room := { frames := 0, cells := 0, slots := 0, locals := 0 }
set_option maxHeartbeats 4000000 in
set_option maxRecDepth 100000 in
theorem k_X11_thrown (l : Launch) {G : va_G} {cy : Nat → ClassId} {ws0 : va_W} {b aM : Nat} {I : Nat → Int} {ad : Nat → Nat}  (h_mo : ws0[b]? = some (aM, mO I ad))  : MI l yX11_thrown wsX11_thrown rm_X11_thrown G cy [.ref aM] ws0 (fun z u => z = I 0 ∧ ws0 = u) := by
  refine MI.of (own := RX11) (cc := cX11_thrown) (nL := 1) (ret := (some .int)) (by decide) rfl rfl (Nat.le_of_ble_eq_true rfl) ?_
  intro p e s m below meth c A ls E h hl
  have hl : lv_has ls 1 [(0, .ref aM)] := hl
  refine r_aload_n E 0 hl rfl dX11_thrown_0 ?_
  refine r_get (v := .int (zI (I 0))) E h h_mo rfl inn_X11_thrown_11 0 (by decide) fl_X11_thrown_57 rfl dX11_thrown_1 ?_
  exact r_iret E h ⟨rfl, rfl⟩ dX11_thrown_4
