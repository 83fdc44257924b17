theorem hd_X5_init : yX5_init.cls ≠ "java/lang/invoke/MethodHandle" ∧ yX5_init.cls ≠ "java/lang/invoke/VarHandle" ∧ (parseMethodDescriptor yX5_init.desc).map (fun d => d.parameters.length) = some 0 := by decide +kernel
theorem inn_X5_init_0 : ∀ w ∈ wsX00, w ∈ wsX5_init := fun _ h => List.mem_cons_of_mem _ (List.mem_append_left _ (List.mem_append_right _ h))
theorem fl_X5_init_12 : Cond.fieldLink RX5 12 (TX5 0).1 (TX5 0).2.1 (TX5 0).2.2.1 ∈ wsX5_init := List.mem_of_getElem? (i := 7) rfl
theorem inn_X5_init_5 : ∀ w ∈ wsX50, w ∈ wsX5_init := fun _ h => List.mem_cons_of_mem _ (List.mem_append_right _ h)
theorem fl_X5_init_18 : Cond.fieldLink RX5 18 (TX5 1).1 (TX5 1).2.1 (TX5 1).2.2.1 ∈ wsX5_init := List.mem_of_getElem? (i := 8) rfl
theorem fl_X5_init_21 : Cond.fieldLink RX5 21 (TX5 2).1 (TX5 2).2.1 (TX5 2).2.2.1 ∈ wsX5_init := List.mem_of_getElem? (i := 10) rfl
theorem fl_X5_init_25 : Cond.fieldLink RX5 25 (TX5 3).1 (TX5 3).2.1 (TX5 3).2.2.1 ∈ wsX5_init := List.mem_of_getElem? (i := 11) rfl
theorem fl_X5_init_28 : Cond.fieldLink RX5 28 (TX5 4).1 (TX5 4).2.1 (TX5 4).2.2.1 ∈ wsX5_init := List.mem_of_getElem? (i := 12) rfl
theorem fl_X5_init_32 : Cond.fieldLink RX5 32 (TX5 5).1 (TX5 5).2.1 (TX5 5).2.2.1 ∈ wsX5_init := List.mem_of_getElem? (i := 13) rfl
abbrev rm_X5_init : Room := { frames := 2, cells := 6, slots := 92, locals := 44 }
set_option maxHeartbeats 1200000 in
set_option maxRecDepth 100000 in
theorem k_X5_init (l : Launch) {G : va_G} {cy : Nat → ClassId} {ws0 : va_W} {q a B : Nat} (h_t9 : ws0[q]? = some (a, .inr (5, [.null, .null, .null, .null, .int (zI 0), .int (zI 0)]))) (hlen : ws0.length = B) : MVk l yX5_init wsX5_init rm_X5_init G cy [.ref a] ws0 (fun u => ∃ asc ascp asb asbp aop atr : Nat, u[q]? = some (a, .inr (5, [.ref asc, .ref asb, .ref aop, .ref atr, .int (zI 0), .int (zI 0)])) ∧ u[B]? = some (asc, .inr (0, [.ref ascp, .long (fmk 0 (fun _ => 0))])) ∧ u[B + 1]? = some (ascp, aL cy 4 (mk 0 (fun _ => 0))) ∧ u[B + 2]? = some (asb, .inr (0, [.ref asbp, .long (fmk 0 (fun _ => 0))])) ∧ u[B + 3]? = some (asbp, aL cy 4 (mk 0 (fun _ => 0))) ∧ u[B + 4]? = some (aop, aI cy 40 (fun _ => 0)) ∧ u[B + 5]? = some (atr, aI cy 40 (fun _ => 0)) ∧ u.length = B + 6 ∧ Eqx ws0 u (fun j => j = q)) := by
  refine MVk.of (own := RX5) (cc := cX5_init) (nL := 1) (ret := none) (by decide) rfl rfl (Nat.le_of_ble_eq_true rfl) ?_
  intro p e s m below meth c A ls hX hin E h hl
  have hl : lv_has ls 1 [(0, .ref a)] := hl
  have hE : Eqx ws0 ws0 (fun j => j = q) := Eqx.rf
  have hqB : q < B := by have := lt_of_at h_t9; omega
  have hlen0 := hlen
  refine r_aload_n E 0 hl rfl dX5_init_0 ?_
  refine r_objI E (List.mem_of_getElem? (i := 1) rfl) (List.mem_of_getElem? (i := 2) rfl) (List.mem_of_getElem? (i := 3) rfl) hl.1 ⟨by decide, Nat.le_of_ble_eq_true rfl⟩ dX5_init_1 ?_
  refine r_aload_n E 0 hl rfl dX5_init_4 ?_
  refine r_newO (ci := 0) (fs := [.null, .long ((zL 0))]) E h rfl inn_X5_init_0 tyX0 tyX0_ok (List.mem_of_getElem? (i := 4) rfl) (List.mem_of_getElem? (i := 5) rfl) (List.mem_of_getElem? (i := 6) rfl) (fun j hj => by rcases (show j = 0 ∨ j = 1 by omega) with rfl | rfl <;> rfl) (by decide) (by decide) dX5_init_5 (fun a_5 ws H hu h => ?_)
  have h_t9 := hu.keep h_t9
  have h_n5 : ws[B]? = some (a_5, .inr (0, [.null, .long ((zL 0))])) := by have h9 := hu.new; rwa [hlen] at h9
  have hlen : ws.length = B + 1 := by have h9 := hu.len; omega
  have hE := hE.tr hu.eqx
  refine r_dup E dX5_init_8 rfl ?_
  refine r_callNI E hX h (As := []) (rest := [.ref a_5, .ref a]) (k_X0_init l h_n5 hlen) gX5_init_X0_init_n11 rfl (by decide +kernel) (List.mem_of_getElem? (i := 6) rfl) (List.mem_of_getElem? (i := 14) rfl) rfl hd_X0_init (by decide) ⟨by decide, by decide⟩ hl.1 rfl (Nat.le_of_ble_eq_true rfl) dX5_init_9 rfl (fun ws H locs hp h => ?_)
  obtain ⟨ap_9, h_n5, h_n5p, hlen, hf⟩ := hp
  have h_t9 := hf.at h_t9 (by first | omega | (dsimp only <;> omega))
  have hlen : ws.length = B + 2 := by omega
  have hE := hE.trG hf (fun j hj hY => by first | omega | (dsimp only at hY ⊢ <;> omega))
  refine r_putF E hin h h_t9 rfl inn_X5_init_5 0 (by decide) fl_X5_init_12 tyX5 tyX5_ok nmX5 rfl rfl rfl rfl (Nat.le_of_ble_eq_true rfl) dX5_init_12 (fun ws H locs h hu => ?_)
  have h_t9 : ws[q]? = some (a, .inr (5, [.ref a_5, .null, .null, .null, .int (zI 0), .int (zI 0)])) := hu.1
  have h_n5 := hu.keep h_n5 (by omega)
  have h_n5p := hu.keep h_n5p (by omega)
  have hE : Eqx ws0 ws (fun j => j = q) := by first | exact hE.tr (hu.eqx (by first | omega | (dsimp only <;> omega))) | exact hE.up hu (by omega)
  have hlen := hu.2.1.trans hlen
  refine r_aload_n E 0 hl rfl dX5_init_15 ?_
  refine r_newO (ci := 0) (fs := [.null, .long ((zL 0))]) E h rfl inn_X5_init_0 tyX0 tyX0_ok (List.mem_of_getElem? (i := 4) rfl) (List.mem_of_getElem? (i := 5) rfl) (List.mem_of_getElem? (i := 6) rfl) (fun j hj => by rcases (show j = 0 ∨ j = 1 by omega) with rfl | rfl <;> rfl) (by decide) (by decide) dX5_init_16 (fun a_16 ws H hu h => ?_)
  have h_t9 := hu.keep h_t9
  have h_n5 := hu.keep h_n5
  have h_n5p := hu.keep h_n5p
  have h_n16 : ws[B + 2]? = some (a_16, .inr (0, [.null, .long ((zL 0))])) := by have h9 := hu.new; rwa [hlen] at h9
  have hlen : ws.length = B + 3 := by have h9 := hu.len; omega
  have hE := hE.tr hu.eqx
  refine r_dup E dX5_init_19 rfl ?_
  refine r_callNI E hX h (As := []) (rest := [.ref a_16, .ref a]) (k_X0_init l h_n16 hlen) gX5_init_X0_init_n11 rfl (by decide +kernel) (List.mem_of_getElem? (i := 6) rfl) (List.mem_of_getElem? (i := 14) rfl) rfl hd_X0_init (by decide) ⟨by decide, by decide⟩ hl.1 rfl (Nat.le_of_ble_eq_true rfl) dX5_init_20 rfl (fun ws H locs hp h => ?_)
  obtain ⟨ap_20, h_n16, h_n16p, hlen, hf⟩ := hp
  have h_t9 := hf.at h_t9 (by first | omega | (dsimp only <;> omega))
  have h_n5 := hf.at h_n5 (by first | omega | (dsimp only <;> omega))
  have h_n5p := hf.at h_n5p (by first | omega | (dsimp only <;> omega))
  have hlen : ws.length = B + 4 := by omega
  have hE := hE.trG hf (fun j hj hY => by first | omega | (dsimp only at hY ⊢ <;> omega))
  refine r_putF E hin h h_t9 rfl inn_X5_init_5 1 (by decide) fl_X5_init_18 tyX5 tyX5_ok nmX5 rfl rfl rfl rfl (Nat.le_of_ble_eq_true rfl) dX5_init_23 (fun ws H locs h hu => ?_)
  have h_t9 : ws[q]? = some (a, .inr (5, [.ref a_5, .ref a_16, .null, .null, .int (zI 0), .int (zI 0)])) := hu.1
  have h_n5 := hu.keep h_n5 (by omega)
  have h_n5p := hu.keep h_n5p (by omega)
  have h_n16 := hu.keep h_n16 (by omega)
  have h_n16p := hu.keep h_n16p (by omega)
  have hE : Eqx ws0 ws (fun j => j = q) := by first | exact hE.tr (hu.eqx (by first | omega | (dsimp only <;> omega))) | exact hE.up hu (by omega)
  have hlen := hu.2.1.trans hlen
  refine r_aload_n E 0 hl rfl dX5_init_26 ?_
  refine r_bipush E dX5_init_27 (by decide) ?_
  refine r_newI (N := 40) E h ⟨rfl, by decide⟩ (List.mem_of_getElem? (i := 9) rfl) (by decide) (by decide) dX5_init_29 (fun a_29 ws H hu h => ?_)
  have h_t9 := hu.keep h_t9
  have h_n5 := hu.keep h_n5
  have h_n5p := hu.keep h_n5p
  have h_n16 := hu.keep h_n16
  have h_n16p := hu.keep h_n16p
  have h_n29 : ws[B + 4]? = some (a_29, aI cy 40 ((fun _ => 0))) := by have h9 := hu.new; rwa [hlen] at h9
  have hlen : ws.length = B + 5 := by have h9 := hu.len; omega
  have hE := hE.tr hu.eqx
  refine r_putF E hin h h_t9 rfl inn_X5_init_5 2 (by decide) fl_X5_init_21 tyX5 tyX5_ok nmX5 rfl rfl rfl rfl (Nat.le_of_ble_eq_true rfl) dX5_init_31 (fun ws H locs h hu => ?_)
  have h_t9 : ws[q]? = some (a, .inr (5, [.ref a_5, .ref a_16, .ref a_29, .null, .int (zI 0), .int (zI 0)])) := hu.1
  have h_n5 := hu.keep h_n5 (by omega)
  have h_n5p := hu.keep h_n5p (by omega)
  have h_n16 := hu.keep h_n16 (by omega)
  have h_n16p := hu.keep h_n16p (by omega)
  have h_n29 := hu.keep h_n29 (by omega)
  have hE : Eqx ws0 ws (fun j => j = q) := by first | exact hE.tr (hu.eqx (by first | omega | (dsimp only <;> omega))) | exact hE.up hu (by omega)
  have hlen := hu.2.1.trans hlen
  refine r_aload_n E 0 hl rfl dX5_init_34 ?_
  refine r_bipush E dX5_init_35 (by decide) ?_
  refine r_newI (N := 40) E h ⟨rfl, by decide⟩ (List.mem_of_getElem? (i := 9) rfl) (by decide) (by decide) dX5_init_37 (fun a_37 ws H hu h => ?_)
  have h_t9 := hu.keep h_t9
  have h_n5 := hu.keep h_n5
  have h_n5p := hu.keep h_n5p
  have h_n16 := hu.keep h_n16
  have h_n16p := hu.keep h_n16p
  have h_n29 := hu.keep h_n29
  have h_n37 : ws[B + 5]? = some (a_37, aI cy 40 ((fun _ => 0))) := by have h9 := hu.new; rwa [hlen] at h9
  have hlen : ws.length = B + 6 := by have h9 := hu.len; omega
  have hE := hE.tr hu.eqx
  refine r_putF E hin h h_t9 rfl inn_X5_init_5 3 (by decide) fl_X5_init_25 tyX5 tyX5_ok nmX5 rfl rfl rfl rfl (Nat.le_of_ble_eq_true rfl) dX5_init_39 (fun ws H locs h hu => ?_)
  have h_t9 : ws[q]? = some (a, .inr (5, [.ref a_5, .ref a_16, .ref a_29, .ref a_37, .int (zI 0), .int (zI 0)])) := hu.1
  have h_n5 := hu.keep h_n5 (by omega)
  have h_n5p := hu.keep h_n5p (by omega)
  have h_n16 := hu.keep h_n16 (by omega)
  have h_n16p := hu.keep h_n16p (by omega)
  have h_n29 := hu.keep h_n29 (by omega)
  have h_n37 := hu.keep h_n37 (by omega)
  have hE : Eqx ws0 ws (fun j => j = q) := by first | exact hE.tr (hu.eqx (by first | omega | (dsimp only <;> omega))) | exact hE.up hu (by omega)
  have hlen := hu.2.1.trans hlen
  refine r_aload_n E 0 hl rfl dX5_init_42 ?_
  refine r_iconst E dX5_init_43 ?_
  refine r_put E h h_t9 rfl inn_X5_init_5 4 (by decide) fl_X5_init_28 tyX5 tyX5_ok nmX5 rfl rfl rfl (Nat.le_of_ble_eq_true rfl) dX5_init_44 (fun ws H locs h hu => ?_)
  have h_t9 : ws[q]? = some (a, .inr (5, [.ref a_5, .ref a_16, .ref a_29, .ref a_37, .int (zI 0), .int (zI 0)])) := hu.1
  have h_n5 := hu.keep h_n5 (by omega)
  have h_n5p := hu.keep h_n5p (by omega)
  have h_n16 := hu.keep h_n16 (by omega)
  have h_n16p := hu.keep h_n16p (by omega)
  have h_n29 := hu.keep h_n29 (by omega)
  have h_n37 := hu.keep h_n37 (by omega)
  have hE : Eqx ws0 ws (fun j => j = q) := by first | exact hE.tr (hu.eqx (by first | omega | (dsimp only <;> omega))) | exact hE.up hu (by omega)
  have hlen := hu.2.1.trans hlen
  refine r_aload_n E 0 hl rfl dX5_init_47 ?_
  refine r_iconst E dX5_init_48 ?_
  refine r_put E h h_t9 rfl inn_X5_init_5 5 (by decide) fl_X5_init_32 tyX5 tyX5_ok nmX5 rfl rfl rfl (Nat.le_of_ble_eq_true rfl) dX5_init_49 (fun ws H locs h hu => ?_)
  have h_t9 : ws[q]? = some (a, .inr (5, [.ref a_5, .ref a_16, .ref a_29, .ref a_37, .int (zI 0), .int (zI 0)])) := hu.1
  have h_n5 := hu.keep h_n5 (by omega)
  have h_n5p := hu.keep h_n5p (by omega)
  have h_n16 := hu.keep h_n16 (by omega)
  have h_n16p := hu.keep h_n16p (by omega)
  have h_n29 := hu.keep h_n29 (by omega)
  have h_n37 := hu.keep h_n37 (by omega)
  have hE : Eqx ws0 ws (fun j => j = q) := by first | exact hE.tr (hu.eqx (by first | omega | (dsimp only <;> omega))) | exact hE.up hu (by omega)
  have hlen := hu.2.1.trans hlen
  refine W.widen (k := 6) (n := 92) (by decide) (by decide) ?_
  exact r_vret E h ⟨_, _, _, _, _, _, h_t9, h_n5, h_n5p, h_n16, h_n16p, h_n29, h_n37, hlen, hE⟩ dX5_init_52
