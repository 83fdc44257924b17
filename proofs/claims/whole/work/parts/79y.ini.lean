theorem Eqx.trG {ws u v : va_W} {X Y : Nat → Prop} (h : Eqx ws u X) (k : Eqx u v Y) (hY : ∀ j, j < ws.length → Y j → X j) : Eqx ws v X := ⟨Nat.le_trans h.1 k.1, fun j hj hX => (k.2 j (Nat.lt_of_lt_of_le hj h.1) (fun hy => hX (hY j hj hy))).trans (h.2 j hj hX)⟩
theorem hd_X6_init : yX6_init.cls ≠ "java/lang/invoke/MethodHandle" ∧ yX6_init.cls ≠ "java/lang/invoke/VarHandle" ∧ (parseMethodDescriptor yX6_init.desc).map (fun d => d.parameters.length) = some 4 := by decide +kernel
theorem fl_X6_init_7 : Cond.fieldLink RX6 7 (TX6 0).1 (TX6 0).2.1 (TX6 0).2.2.1 ∈ wsX6_init := List.mem_of_getElem? (i := 4) rfl
theorem inn_X6_init_6 : ∀ w ∈ wsX60, w ∈ wsX6_init := fun _ h => List.mem_cons_of_mem _ (List.mem_append_right _ h)
theorem fl_X6_init_13 : Cond.fieldLink RX6 13 (TX6 1).1 (TX6 1).2.1 (TX6 1).2.2.1 ∈ wsX6_init := List.mem_of_getElem? (i := 5) rfl
theorem fl_X6_init_16 : Cond.fieldLink RX6 16 (TX6 2).1 (TX6 2).2.1 (TX6 2).2.2.1 ∈ wsX6_init := List.mem_of_getElem? (i := 6) rfl
theorem fl_X6_init_20 : Cond.fieldLink RX6 20 (TX6 3).1 (TX6 3).2.1 (TX6 3).2.2.1 ∈ wsX6_init := List.mem_of_getElem? (i := 7) rfl
abbrev rm_X6_init : Room := { frames := 1, cells := 0, slots := 0, locals := 24 }
set_option maxHeartbeats 1200000 in
set_option maxRecDepth 100000 in
theorem k_X6_init (l : Launch) {G : va_G} {cy : Nat → ClassId} {ws0 : va_W} {q a : Nat} {ar9 afo : Nat} (n1 k1 : Int) (h_t9 : ws0[q]? = some (a, .inr (6, [.int (zI 0), .int (zI 0), .null, .null])))  : MV l yX6_init wsX6_init rm_X6_init G cy [.ref a, .int (zI n1), .int (zI k1), .ref ar9, .ref afo] ws0 (fun u => u[q]? = some (a, .inr (6, [.int (zI n1), .int (zI k1), .ref ar9, .ref afo])) ∧ Eqx ws0 u (fun j => j = q)) := by
  refine MV.of (own := RX6) (cc := cX6_init) (nL := 5) (ret := none) (by decide) rfl rfl (Nat.le_of_ble_eq_true rfl) ?_
  intro p e s m below meth c A ls hin E h hl
  have hl : lv_has ls 5 [(0, .ref a), (1, .int (zI n1)), (2, .int (zI k1)), (3, .ref ar9), (4, .ref afo)] := hl
  have hE : Eqx ws0 ws0 (fun j => j = q) := Eqx.rf
  refine r_aload_n E 0 hl rfl dX6_init_0 ?_
  refine r_objI E (List.mem_of_getElem? (i := 1) rfl) (List.mem_of_getElem? (i := 2) rfl) (List.mem_of_getElem? (i := 3) rfl) hl.1 ⟨by decide, Nat.le_of_ble_eq_true rfl⟩ dX6_init_1 ?_
  refine r_aload_n E 0 hl rfl dX6_init_4 ?_
  refine r_iload_n E 1 hl rfl dX6_init_5 ?_
  refine r_putF E hin h h_t9 rfl inn_X6_init_6 0 (by decide) fl_X6_init_7 tyX6 tyX6_ok nmX6 rfl rfl rfl rfl (Nat.le_of_ble_eq_true rfl) dX6_init_6 (fun ws H locs h hu => ?_)
  have h_t9 : ws[q]? = some (a, .inr (6, [.int (zI n1), .int (zI 0), .null, .null])) := hu.1
  have hE := hE.tr (hu.eqx (by first | omega | (dsimp only <;> omega)))
  refine r_aload_n E 0 hl rfl dX6_init_9 ?_
  refine r_iload_n E 2 hl rfl dX6_init_10 ?_
  refine r_putF E hin h h_t9 rfl inn_X6_init_6 1 (by decide) fl_X6_init_13 tyX6 tyX6_ok nmX6 rfl rfl rfl rfl (Nat.le_of_ble_eq_true rfl) dX6_init_11 (fun ws H locs h hu => ?_)
  have h_t9 : ws[q]? = some (a, .inr (6, [.int (zI n1), .int (zI k1), .null, .null])) := hu.1
  have hE := hE.tr (hu.eqx (by first | omega | (dsimp only <;> omega)))
  refine r_aload_n E 0 hl rfl dX6_init_14 ?_
  refine r_aload_n E 3 hl rfl dX6_init_15 ?_
  refine r_putF E hin h h_t9 rfl inn_X6_init_6 2 (by decide) fl_X6_init_16 tyX6 tyX6_ok nmX6 rfl rfl rfl rfl (Nat.le_of_ble_eq_true rfl) dX6_init_16 (fun ws H locs h hu => ?_)
  have h_t9 : ws[q]? = some (a, .inr (6, [.int (zI n1), .int (zI k1), .ref ar9, .null])) := hu.1
  have hE := hE.tr (hu.eqx (by first | omega | (dsimp only <;> omega)))
  refine r_aload_n E 0 hl rfl dX6_init_19 ?_
  refine r_aload E 4 hl rfl dX6_init_20 ?_
  refine r_putF E hin h h_t9 rfl inn_X6_init_6 3 (by decide) fl_X6_init_20 tyX6 tyX6_ok nmX6 rfl rfl rfl rfl (Nat.le_of_ble_eq_true rfl) dX6_init_22 (fun ws H locs h hu => ?_)
  have h_t9 : ws[q]? = some (a, .inr (6, [.int (zI n1), .int (zI k1), .ref ar9, .ref afo])) := hu.1
  have hE := hE.tr (hu.eqx (by first | omega | (dsimp only <;> omega)))
  exact r_vret E h ⟨h_t9, hE⟩ dX6_init_25
theorem hd_X4_init : yX4_init.cls ≠ "java/lang/invoke/MethodHandle" ∧ yX4_init.cls ≠ "java/lang/invoke/VarHandle" ∧ (parseMethodDescriptor yX4_init.desc).map (fun d => d.parameters.length) = some 1 := by decide +kernel
theorem fl_X4_init_7 : Cond.fieldLink RX4 7 (TX4 0).1 (TX4 0).2.1 (TX4 0).2.2.1 ∈ wsX4_init := List.mem_of_getElem? (i := 4) rfl
theorem inn_X4_init_4 : ∀ w ∈ wsX40, w ∈ wsX4_init := fun _ h => List.mem_cons_of_mem _ (List.mem_append_right _ h)
theorem fl_X4_init_13 : Cond.fieldLink RX4 13 (TX4 1).1 (TX4 1).2.1 (TX4 1).2.2.1 ∈ wsX4_init := List.mem_of_getElem? (i := 5) rfl
theorem fl_X4_init_16 : Cond.fieldLink RX4 16 (TX4 2).1 (TX4 2).2.1 (TX4 2).2.2.1 ∈ wsX4_init := List.mem_of_getElem? (i := 6) rfl
theorem fl_X4_init_19 : Cond.fieldLink RX4 19 (TX4 3).1 (TX4 3).2.1 (TX4 3).2.2.1 ∈ wsX4_init := List.mem_of_getElem? (i := 7) rfl
theorem fl_X4_init_22 : Cond.fieldLink RX4 22 (TX4 4).1 (TX4 4).2.1 (TX4 4).2.2.1 ∈ wsX4_init := List.mem_of_getElem? (i := 8) rfl
theorem fl_X4_init_25 : Cond.fieldLink RX4 25 (TX4 5).1 (TX4 5).2.1 (TX4 5).2.2.1 ∈ wsX4_init := List.mem_of_getElem? (i := 9) rfl
abbrev rm_X4_init : Room := { frames := 1, cells := 0, slots := 0, locals := 24 }
set_option maxHeartbeats 1200000 in
set_option maxRecDepth 100000 in
theorem k_X4_init (l : Launch) {G : va_G} {cy : Nat → ClassId} {ws0 : va_W} {q a : Nat} (v0 : Int) (h_t9 : ws0[q]? = some (a, .inr (4, [.int (zI 0), .int (zI 0), .int (zI 0), .int (zI 0), .int (zI 0), .int (zI 0)])))  : MV l yX4_init wsX4_init rm_X4_init G cy [.ref a, .int (zI v0)] ws0 (fun u => u[q]? = some (a, .inr (4, [.int (zI v0), .int (zI 0), .int (zI 0), .int (zI 0), .int (zI 0), .int (zI 0)])) ∧ Eqx ws0 u (fun j => j = q)) := by
  refine MV.of (own := RX4) (cc := cX4_init) (nL := 2) (ret := none) (by decide) rfl rfl (Nat.le_of_ble_eq_true rfl) ?_
  intro p e s m below meth c A ls hin E h hl
  have hl : lv_has ls 2 [(0, .ref a), (1, .int (zI v0))] := hl
  have hE : Eqx ws0 ws0 (fun j => j = q) := Eqx.rf
  refine r_aload_n E 0 hl rfl dX4_init_0 ?_
  refine r_objI E (List.mem_of_getElem? (i := 1) rfl) (List.mem_of_getElem? (i := 2) rfl) (List.mem_of_getElem? (i := 3) rfl) hl.1 ⟨by decide, Nat.le_of_ble_eq_true rfl⟩ dX4_init_1 ?_
  refine r_aload_n E 0 hl rfl dX4_init_4 ?_
  refine r_iload_n E 1 hl rfl dX4_init_5 ?_
  refine r_putF E hin h h_t9 rfl inn_X4_init_4 0 (by decide) fl_X4_init_7 tyX4 tyX4_ok nmX4 rfl rfl rfl rfl (Nat.le_of_ble_eq_true rfl) dX4_init_6 (fun ws H locs h hu => ?_)
  have h_t9 : ws[q]? = some (a, .inr (4, [.int (zI v0), .int (zI 0), .int (zI 0), .int (zI 0), .int (zI 0), .int (zI 0)])) := hu.1
  have hE := hE.tr (hu.eqx (by first | omega | (dsimp only <;> omega)))
  refine r_aload_n E 0 hl rfl dX4_init_9 ?_
  refine r_iconst E dX4_init_10 ?_
  refine r_putF E hin h h_t9 rfl inn_X4_init_4 1 (by decide) fl_X4_init_13 tyX4 tyX4_ok nmX4 rfl rfl rfl rfl (Nat.le_of_ble_eq_true rfl) dX4_init_11 (fun ws H locs h hu => ?_)
  have h_t9 : ws[q]? = some (a, .inr (4, [.int (zI v0), .int (zI 0), .int (zI 0), .int (zI 0), .int (zI 0), .int (zI 0)])) := hu.1
  have hE := hE.tr (hu.eqx (by first | omega | (dsimp only <;> omega)))
  refine r_aload_n E 0 hl rfl dX4_init_14 ?_
  refine r_iconst E dX4_init_15 ?_
  refine r_putF E hin h h_t9 rfl inn_X4_init_4 2 (by decide) fl_X4_init_16 tyX4 tyX4_ok nmX4 rfl rfl rfl rfl (Nat.le_of_ble_eq_true rfl) dX4_init_16 (fun ws H locs h hu => ?_)
  have h_t9 : ws[q]? = some (a, .inr (4, [.int (zI v0), .int (zI 0), .int (zI 0), .int (zI 0), .int (zI 0), .int (zI 0)])) := hu.1
  have hE := hE.tr (hu.eqx (by first | omega | (dsimp only <;> omega)))
  refine r_aload_n E 0 hl rfl dX4_init_19 ?_
  refine r_iconst E dX4_init_20 ?_
  refine r_putF E hin h h_t9 rfl inn_X4_init_4 3 (by decide) fl_X4_init_19 tyX4 tyX4_ok nmX4 rfl rfl rfl rfl (Nat.le_of_ble_eq_true rfl) dX4_init_21 (fun ws H locs h hu => ?_)
  have h_t9 : ws[q]? = some (a, .inr (4, [.int (zI v0), .int (zI 0), .int (zI 0), .int (zI 0), .int (zI 0), .int (zI 0)])) := hu.1
  have hE := hE.tr (hu.eqx (by first | omega | (dsimp only <;> omega)))
  refine r_aload_n E 0 hl rfl dX4_init_24 ?_
  refine r_iconst E dX4_init_25 ?_
  refine r_putF E hin h h_t9 rfl inn_X4_init_4 4 (by decide) fl_X4_init_22 tyX4 tyX4_ok nmX4 rfl rfl rfl rfl (Nat.le_of_ble_eq_true rfl) dX4_init_26 (fun ws H locs h hu => ?_)
  have h_t9 : ws[q]? = some (a, .inr (4, [.int (zI v0), .int (zI 0), .int (zI 0), .int (zI 0), .int (zI 0), .int (zI 0)])) := hu.1
  have hE := hE.tr (hu.eqx (by first | omega | (dsimp only <;> omega)))
  refine r_aload_n E 0 hl rfl dX4_init_29 ?_
  refine r_iconst E dX4_init_30 ?_
  refine r_putF E hin h h_t9 rfl inn_X4_init_4 5 (by decide) fl_X4_init_25 tyX4 tyX4_ok nmX4 rfl rfl rfl rfl (Nat.le_of_ble_eq_true rfl) dX4_init_31 (fun ws H locs h hu => ?_)
  have h_t9 : ws[q]? = some (a, .inr (4, [.int (zI v0), .int (zI 0), .int (zI 0), .int (zI 0), .int (zI 0), .int (zI 0)])) := hu.1
  have hE := hE.tr (hu.eqx (by first | omega | (dsimp only <;> omega)))
  exact r_vret E h ⟨h_t9, hE⟩ dX4_init_34
theorem hd_X4_init_ : yX4_init_.cls ≠ "java/lang/invoke/MethodHandle" ∧ yX4_init_.cls ≠ "java/lang/invoke/VarHandle" ∧ (parseMethodDescriptor yX4_init_.desc).map (fun d => d.parameters.length) = some 5 := by decide +kernel
theorem fl_X4_init__7 : Cond.fieldLink RX4 7 (TX4 0).1 (TX4 0).2.1 (TX4 0).2.2.1 ∈ wsX4_init_ := List.mem_of_getElem? (i := 4) rfl
theorem inn_X4_init__4 : ∀ w ∈ wsX40, w ∈ wsX4_init_ := fun _ h => List.mem_cons_of_mem _ (List.mem_append_right _ h)
theorem fl_X4_init__13 : Cond.fieldLink RX4 13 (TX4 1).1 (TX4 1).2.1 (TX4 1).2.2.1 ∈ wsX4_init_ := List.mem_of_getElem? (i := 5) rfl
theorem fl_X4_init__16 : Cond.fieldLink RX4 16 (TX4 2).1 (TX4 2).2.1 (TX4 2).2.2.1 ∈ wsX4_init_ := List.mem_of_getElem? (i := 6) rfl
theorem fl_X4_init__19 : Cond.fieldLink RX4 19 (TX4 3).1 (TX4 3).2.1 (TX4 3).2.2.1 ∈ wsX4_init_ := List.mem_of_getElem? (i := 7) rfl
theorem fl_X4_init__22 : Cond.fieldLink RX4 22 (TX4 4).1 (TX4 4).2.1 (TX4 4).2.2.1 ∈ wsX4_init_ := List.mem_of_getElem? (i := 8) rfl
theorem fl_X4_init__25 : Cond.fieldLink RX4 25 (TX4 5).1 (TX4 5).2.1 (TX4 5).2.2.1 ∈ wsX4_init_ := List.mem_of_getElem? (i := 9) rfl
abbrev rm_X4_init_ : Room := { frames := 1, cells := 0, slots := 0, locals := 24 }
set_option maxHeartbeats 1200000 in
set_option maxRecDepth 100000 in
theorem k_X4_init_ (l : Launch) {G : va_G} {cy : Nat → ClassId} {ws0 : va_W} {q a : Nat} (v1 v2 v3 v4 v5 : Int) (h_t9 : ws0[q]? = some (a, .inr (4, [.int (zI 0), .int (zI 0), .int (zI 0), .int (zI 0), .int (zI 0), .int (zI 0)]))) (hv5 : v5 = 0 ∨ v5 = 1) : MV l yX4_init_ wsX4_init_ rm_X4_init_ G cy [.ref a, .int (zI v1), .int (zI v2), .int (zI v3), .int (zI v4), .int (zI v5)] ws0 (fun u => u[q]? = some (a, .inr (4, [.int (zI 0), .int (zI v1), .int (zI v2), .int (zI v3), .int (zI v4), .int (zI v5)])) ∧ Eqx ws0 u (fun j => j = q)) := by
  refine MV.of (own := RX4) (cc := cX4_init_) (nL := 6) (ret := none) (by decide) rfl rfl (Nat.le_of_ble_eq_true rfl) ?_
  intro p e s m below meth c A ls hin E h hl
  have hl : lv_has ls 6 [(0, .ref a), (1, .int (zI v1)), (2, .int (zI v2)), (3, .int (zI v3)), (4, .int (zI v4)), (5, .int (zI v5))] := hl
  have hE : Eqx ws0 ws0 (fun j => j = q) := Eqx.rf
  refine r_aload_n E 0 hl rfl dX4_init__0 ?_
  refine r_objI E (List.mem_of_getElem? (i := 1) rfl) (List.mem_of_getElem? (i := 2) rfl) (List.mem_of_getElem? (i := 3) rfl) hl.1 ⟨by decide, Nat.le_of_ble_eq_true rfl⟩ dX4_init__1 ?_
  refine r_aload_n E 0 hl rfl dX4_init__4 ?_
  refine r_iconst E dX4_init__5 ?_
  refine r_putF E hin h h_t9 rfl inn_X4_init__4 0 (by decide) fl_X4_init__7 tyX4 tyX4_ok nmX4 rfl rfl rfl rfl (Nat.le_of_ble_eq_true rfl) dX4_init__6 (fun ws H locs h hu => ?_)
  have h_t9 : ws[q]? = some (a, .inr (4, [.int (zI 0), .int (zI 0), .int (zI 0), .int (zI 0), .int (zI 0), .int (zI 0)])) := hu.1
  have hE := hE.tr (hu.eqx (by first | omega | (dsimp only <;> omega)))
  refine r_aload_n E 0 hl rfl dX4_init__9 ?_
  refine r_iload_n E 1 hl rfl dX4_init__10 ?_
  refine r_putF E hin h h_t9 rfl inn_X4_init__4 1 (by decide) fl_X4_init__13 tyX4 tyX4_ok nmX4 rfl rfl rfl rfl (Nat.le_of_ble_eq_true rfl) dX4_init__11 (fun ws H locs h hu => ?_)
  have h_t9 : ws[q]? = some (a, .inr (4, [.int (zI 0), .int (zI v1), .int (zI 0), .int (zI 0), .int (zI 0), .int (zI 0)])) := hu.1
  have hE := hE.tr (hu.eqx (by first | omega | (dsimp only <;> omega)))
  refine r_aload_n E 0 hl rfl dX4_init__14 ?_
  refine r_iload_n E 2 hl rfl dX4_init__15 ?_
  refine r_putF E hin h h_t9 rfl inn_X4_init__4 2 (by decide) fl_X4_init__16 tyX4 tyX4_ok nmX4 rfl rfl rfl rfl (Nat.le_of_ble_eq_true rfl) dX4_init__16 (fun ws H locs h hu => ?_)
  have h_t9 : ws[q]? = some (a, .inr (4, [.int (zI 0), .int (zI v1), .int (zI v2), .int (zI 0), .int (zI 0), .int (zI 0)])) := hu.1
  have hE := hE.tr (hu.eqx (by first | omega | (dsimp only <;> omega)))
  refine r_aload_n E 0 hl rfl dX4_init__19 ?_
  refine r_iload_n E 3 hl rfl dX4_init__20 ?_
  refine r_putF E hin h h_t9 rfl inn_X4_init__4 3 (by decide) fl_X4_init__19 tyX4 tyX4_ok nmX4 rfl rfl rfl rfl (Nat.le_of_ble_eq_true rfl) dX4_init__21 (fun ws H locs h hu => ?_)
  have h_t9 : ws[q]? = some (a, .inr (4, [.int (zI 0), .int (zI v1), .int (zI v2), .int (zI v3), .int (zI 0), .int (zI 0)])) := hu.1
  have hE := hE.tr (hu.eqx (by first | omega | (dsimp only <;> omega)))
  refine r_aload_n E 0 hl rfl dX4_init__24 ?_
  refine r_iload E 4 hl rfl dX4_init__25 ?_
  refine r_putF E hin h h_t9 rfl inn_X4_init__4 4 (by decide) fl_X4_init__22 tyX4 tyX4_ok nmX4 rfl rfl rfl rfl (Nat.le_of_ble_eq_true rfl) dX4_init__27 (fun ws H locs h hu => ?_)
  have h_t9 : ws[q]? = some (a, .inr (4, [.int (zI 0), .int (zI v1), .int (zI v2), .int (zI v3), .int (zI v4), .int (zI 0)])) := hu.1
  have hE := hE.tr (hu.eqx (by first | omega | (dsimp only <;> omega)))
  refine r_aload_n E 0 hl rfl dX4_init__30 ?_
  refine r_iload E 5 hl rfl dX4_init__31 ?_
  refine r_putF E hin h h_t9 rfl inn_X4_init__4 5 (by decide) fl_X4_init__25 tyX4 tyX4_ok nmX4 rfl rfl (by rcases hv5 with h9 | h9 <;> rw [h9] <;> rfl) (by rcases hv5 with h9 | h9 <;> rw [h9] <;> rfl) (Nat.le_of_ble_eq_true rfl) dX4_init__33 (fun ws H locs h hu => ?_)
  have h_t9 : ws[q]? = some (a, .inr (4, [.int (zI 0), .int (zI v1), .int (zI v2), .int (zI v3), .int (zI v4), .int (zI v5)])) := hu.1
  have hE := hE.tr (hu.eqx (by first | omega | (dsimp only <;> omega)))
  exact r_vret E h ⟨h_t9, hE⟩ dX4_init__36
theorem hd_X1_init : yX1_init.cls ≠ "java/lang/invoke/MethodHandle" ∧ yX1_init.cls ≠ "java/lang/invoke/VarHandle" ∧ (parseMethodDescriptor yX1_init.desc).map (fun d => d.parameters.length) = some 1 := by decide +kernel
theorem fl_X1_init_9 : Cond.fieldLink RX1 9 (TX1 1).1 (TX1 1).2.1 (TX1 1).2.2.1 ∈ wsX1_init := List.mem_of_getElem? (i := 5) rfl
theorem inn_X1_init_1 : ∀ w ∈ wsX10, w ∈ wsX1_init := fun _ h => List.mem_cons_of_mem _ (List.mem_append_right _ h)
theorem fl_X1_init_13 : Cond.fieldLink RX1 13 (TX1 0).1 (TX1 0).2.1 (TX1 0).2.2.1 ∈ wsX1_init := List.mem_of_getElem? (i := 6) rfl
abbrev rm_X1_init : Room := { frames := 1, cells := 1, slots := 11, locals := 24 }
set_option maxHeartbeats 1200000 in
set_option maxRecDepth 100000 in
theorem k_X1_init (l : Launch) {G : va_G} {cy : Nat → ClassId} {ws0 : va_W} {q a B : Nat} {atk : Nat} (h_t9 : ws0[q]? = some (a, .inr (1, [.null, .null]))) (hlen : ws0.length = B) : MV l yX1_init wsX1_init rm_X1_init G cy [.ref a, .ref atk] ws0 (fun u => ∃ (as9 : Nat), u[q]? = some (a, .inr (1, [.ref atk, .ref as9])) ∧ u[B]? = some (as9, aI cy 11 (fun _ => 0)) ∧ u.length = B + 1 ∧ Eqx ws0 u (fun j => j = q)) := by
  refine MV.of (own := RX1) (cc := cX1_init) (nL := 2) (ret := none) (by decide) rfl rfl (Nat.le_of_ble_eq_true rfl) ?_
  intro p e s m below meth c A ls hin E h hl
  have hl : lv_has ls 2 [(0, .ref a), (1, .ref atk)] := hl
  have hE : Eqx ws0 ws0 (fun j => j = q) := Eqx.rf
  have hqB : q < B := by have := lt_of_at h_t9; omega
  have hlen0 := hlen
  refine r_aload_n E 0 hl rfl dX1_init_0 ?_
  refine r_objI E (List.mem_of_getElem? (i := 1) rfl) (List.mem_of_getElem? (i := 2) rfl) (List.mem_of_getElem? (i := 3) rfl) hl.1 ⟨by decide, Nat.le_of_ble_eq_true rfl⟩ dX1_init_1 ?_
  refine r_aload_n E 0 hl rfl dX1_init_4 ?_
  refine r_bipush E dX1_init_5 (by decide) ?_
  refine r_newI (N := 11) E h ⟨rfl, by decide⟩ (List.mem_of_getElem? (i := 4) rfl) (by decide) (by decide) dX1_init_7 (fun a_7 ws H hu h => ?_)
  have h_t9 := hu.keep h_t9
  have h_n7 : ws[B]? = some (a_7, aI cy 11 ((fun _ => 0))) := by have h9 := hu.new; rwa [hlen] at h9
  have hlen : ws.length = B + 1 := by have h9 := hu.len; omega
  have hE := hE.tr hu.eqx
  refine r_putF E hin h h_t9 rfl inn_X1_init_1 1 (by decide) fl_X1_init_9 tyX1 tyX1_ok nmX1 rfl rfl rfl rfl (Nat.le_of_ble_eq_true rfl) dX1_init_9 (fun ws H locs h hu => ?_)
  have h_t9 : ws[q]? = some (a, .inr (1, [.null, .ref a_7])) := hu.1
  have h_n7 := hu.keep h_n7 (by omega)
  have hE : Eqx ws0 ws (fun j => j = q) := by first | exact hE.tr (hu.eqx (by first | omega | (dsimp only <;> omega))) | exact hE.up hu (by omega)
  have hlen := hu.2.1.trans hlen
  refine r_aload_n E 0 hl rfl dX1_init_12 ?_
  refine r_aload_n E 1 hl rfl dX1_init_13 ?_
  refine r_putF E hin h h_t9 rfl inn_X1_init_1 0 (by decide) fl_X1_init_13 tyX1 tyX1_ok nmX1 rfl rfl rfl rfl (Nat.le_of_ble_eq_true rfl) dX1_init_14 (fun ws H locs h hu => ?_)
  have h_t9 : ws[q]? = some (a, .inr (1, [.ref atk, .ref a_7])) := hu.1
  have h_n7 := hu.keep h_n7 (by omega)
  have hE : Eqx ws0 ws (fun j => j = q) := by first | exact hE.tr (hu.eqx (by first | omega | (dsimp only <;> omega))) | exact hE.up hu (by omega)
  have hlen := hu.2.1.trans hlen
  refine W.widen (k := 1) (n := 11) (by decide) (by decide) ?_
  exact r_vret E h ⟨_, h_t9, h_n7, hlen, hE⟩ dX1_init_17
theorem hd_X3_init : yX3_init.cls ≠ "java/lang/invoke/MethodHandle" ∧ yX3_init.cls ≠ "java/lang/invoke/VarHandle" ∧ (parseMethodDescriptor yX3_init.desc).map (fun d => d.parameters.length) = some 0 := by decide +kernel
theorem fl_X3_init_12 : Cond.fieldLink RX3 12 (TX3 0).1 (TX3 0).2.1 (TX3 0).2.2.1 ∈ wsX3_init := List.mem_of_getElem? (i := 5) rfl
theorem inn_X3_init_3 : ∀ w ∈ wsX30, w ∈ wsX3_init := fun _ h => List.mem_cons_of_mem _ (List.mem_append_right _ h)
theorem fl_X3_init_16 : Cond.fieldLink RX3 16 (TX3 1).1 (TX3 1).2.1 (TX3 1).2.2.1 ∈ wsX3_init := List.mem_of_getElem? (i := 6) rfl
theorem fl_X3_init_19 : Cond.fieldLink RX3 19 (TX3 2).1 (TX3 2).2.1 (TX3 2).2.2.1 ∈ wsX3_init := List.mem_of_getElem? (i := 7) rfl
theorem fl_X3_init_22 : Cond.fieldLink RX3 22 (TX3 3).1 (TX3 3).2.1 (TX3 3).2.2.1 ∈ wsX3_init := List.mem_of_getElem? (i := 9) rfl
abbrev rm_X3_init : Room := { frames := 1, cells := 1, slots := 164, locals := 24 }
set_option maxHeartbeats 1200000 in
set_option maxRecDepth 100000 in
theorem k_X3_init (l : Launch) {G : va_G} {cy : Nat → ClassId} {ws0 : va_W} {q a B : Nat}  (h_t9 : ws0[q]? = some (a, .inr (3, [.int (zI 0), .int (zI 0), .int (zI 0), .null]))) (hlen : ws0.length = B) : MV l yX3_init wsX3_init rm_X3_init G cy [.ref a] ws0 (fun u => ∃ (ach : Nat), u[q]? = some (a, .inr (3, [.int (zI (-1000000)), .int (zI 0), .int (zI (-1)), .ref ach])) ∧ u[B]? = some (ach, aI cy 164 (fun _ => 0)) ∧ u.length = B + 1 ∧ Eqx ws0 u (fun j => j = q)) := by
  refine MV.of (own := RX3) (cc := cX3_init) (nL := 1) (ret := none) (by decide) rfl rfl (Nat.le_of_ble_eq_true rfl) ?_
  intro p e s m below meth c A ls hin E h hl
  have hl : lv_has ls 1 [(0, .ref a)] := hl
  have hE : Eqx ws0 ws0 (fun j => j = q) := Eqx.rf
  have hqB : q < B := by have := lt_of_at h_t9; omega
  have hlen0 := hlen
  refine r_aload_n E 0 hl rfl dX3_init_0 ?_
  refine r_objI E (List.mem_of_getElem? (i := 1) rfl) (List.mem_of_getElem? (i := 2) rfl) (List.mem_of_getElem? (i := 3) rfl) hl.1 ⟨by decide, Nat.le_of_ble_eq_true rfl⟩ dX3_init_1 ?_
  refine r_aload_n E 0 hl rfl dX3_init_4 ?_
  refine r_ldc E (v := (-1000000)) (List.mem_of_getElem? (i := 4) rfl) (n := -1000000) (by decide) dX3_init_5 ?_
  refine r_put E h h_t9 rfl inn_X3_init_3 0 (by decide) fl_X3_init_12 tyX3 tyX3_ok nmX3 rfl rfl rfl (Nat.le_of_ble_eq_true rfl) dX3_init_7 (fun ws H locs h hu => ?_)
  have h_t9 : ws[q]? = some (a, .inr (3, [.int (zI (-1000000)), .int (zI 0), .int (zI 0), .null])) := hu.1
  have hE : Eqx ws0 ws (fun j => j = q) := by first | exact hE.tr (hu.eqx (by first | omega | (dsimp only <;> omega))) | exact hE.up hu (by omega)
  have hlen := hu.2.1.trans hlen
  refine r_aload_n E 0 hl rfl dX3_init_10 ?_
  refine r_iconst E dX3_init_11 ?_
  refine r_put E h h_t9 rfl inn_X3_init_3 1 (by decide) fl_X3_init_16 tyX3 tyX3_ok nmX3 rfl rfl rfl (Nat.le_of_ble_eq_true rfl) dX3_init_12 (fun ws H locs h hu => ?_)
  have h_t9 : ws[q]? = some (a, .inr (3, [.int (zI (-1000000)), .int (zI 0), .int (zI 0), .null])) := hu.1
  have hE : Eqx ws0 ws (fun j => j = q) := by first | exact hE.tr (hu.eqx (by first | omega | (dsimp only <;> omega))) | exact hE.up hu (by omega)
  have hlen := hu.2.1.trans hlen
  refine r_aload_n E 0 hl rfl dX3_init_15 ?_
  refine r_iconst E dX3_init_16 ?_
  refine r_put E h h_t9 rfl inn_X3_init_3 2 (by decide) fl_X3_init_19 tyX3 tyX3_ok nmX3 rfl rfl rfl (Nat.le_of_ble_eq_true rfl) dX3_init_17 (fun ws H locs h hu => ?_)
  have h_t9 : ws[q]? = some (a, .inr (3, [.int (zI (-1000000)), .int (zI 0), .int (zI (-1)), .null])) := hu.1
  have hE : Eqx ws0 ws (fun j => j = q) := by first | exact hE.tr (hu.eqx (by first | omega | (dsimp only <;> omega))) | exact hE.up hu (by omega)
  have hlen := hu.2.1.trans hlen
  refine r_aload_n E 0 hl rfl dX3_init_20 ?_
  refine r_sipush E dX3_init_21 (by decide) ?_
  refine r_newI (N := 164) E h ⟨rfl, by decide⟩ (List.mem_of_getElem? (i := 8) rfl) (by decide) (by decide) dX3_init_24 (fun a_24 ws H hu h => ?_)
  have h_t9 := hu.keep h_t9
  have h_n24 : ws[B]? = some (a_24, aI cy 164 ((fun _ => 0))) := by have h9 := hu.new; rwa [hlen] at h9
  have hlen : ws.length = B + 1 := by have h9 := hu.len; omega
  have hE := hE.tr hu.eqx
  refine r_putF E hin h h_t9 rfl inn_X3_init_3 3 (by decide) fl_X3_init_22 tyX3 tyX3_ok nmX3 rfl rfl rfl rfl (Nat.le_of_ble_eq_true rfl) dX3_init_26 (fun ws H locs h hu => ?_)
  have h_t9 : ws[q]? = some (a, .inr (3, [.int (zI (-1000000)), .int (zI 0), .int (zI (-1)), .ref a_24])) := hu.1
  have h_n24 := hu.keep h_n24 (by omega)
  have hE : Eqx ws0 ws (fun j => j = q) := by first | exact hE.tr (hu.eqx (by first | omega | (dsimp only <;> omega))) | exact hE.up hu (by omega)
  have hlen := hu.2.1.trans hlen
  refine W.widen (k := 1) (n := 164) (by decide) (by decide) ?_
  exact r_vret E h ⟨_, h_t9, h_n24, hlen, hE⟩ dX3_init_29
theorem hd_X9_init : yX9_init.cls ≠ "java/lang/invoke/MethodHandle" ∧ yX9_init.cls ≠ "java/lang/invoke/VarHandle" ∧ (parseMethodDescriptor yX9_init.desc).map (fun d => d.parameters.length) = some 0 := by decide +kernel
theorem fl_X9_init_9 : Cond.fieldLink RX9 9 (TX9 0).1 (TX9 0).2.1 (TX9 0).2.2.1 ∈ wsX9_init := List.mem_of_getElem? (i := 4) rfl
theorem inn_X9_init_9 : ∀ w ∈ wsX90, w ∈ wsX9_init := fun _ h => List.mem_cons_of_mem _ (List.mem_append_right _ h)
theorem fl_X9_init_13 : Cond.fieldLink RX9 13 (TX9 1).1 (TX9 1).2.1 (TX9 1).2.2.1 ∈ wsX9_init := List.mem_of_getElem? (i := 5) rfl
theorem fl_X9_init_16 : Cond.fieldLink RX9 16 (TX9 2).1 (TX9 2).2.1 (TX9 2).2.2.1 ∈ wsX9_init := List.mem_of_getElem? (i := 6) rfl
theorem fl_X9_init_19 : Cond.fieldLink RX9 19 (TX9 3).1 (TX9 3).2.1 (TX9 3).2.2.1 ∈ wsX9_init := List.mem_of_getElem? (i := 8) rfl
theorem fl_X9_init_23 : Cond.fieldLink RX9 23 (TX9 4).1 (TX9 4).2.1 (TX9 4).2.2.1 ∈ wsX9_init := List.mem_of_getElem? (i := 9) rfl
theorem fl_X9_init_26 : Cond.fieldLink RX9 26 (TX9 5).1 (TX9 5).2.1 (TX9 5).2.2.1 ∈ wsX9_init := List.mem_of_getElem? (i := 10) rfl
abbrev rm_X9_init : Room := { frames := 1, cells := 1, slots := 0, locals := 24 }
set_option maxHeartbeats 1200000 in
set_option maxRecDepth 100000 in
theorem k_X9_init (l : Launch) {G : va_G} {cy : Nat → ClassId} {ws0 : va_W} {q a B : Nat}  (h_t9 : ws0[q]? = some (a, .inr (9, [.int (zI 0), .int (zI 0), .int (zI 0), .null, .int (zI 0), .int (zI 0)]))) (hlen : ws0.length = B) : MV l yX9_init wsX9_init rm_X9_init G cy [.ref a] ws0 (fun u => ∃ (atx : Nat), u[q]? = some (a, .inr (9, [.int (zI 0), .int (zI 0), .int (zI 0), .ref atx, .int (zI 0), .int (zI 0)])) ∧ u[B]? = some (atx, aB cy 0 (fun _ => 0)) ∧ u.length = B + 1 ∧ Eqx ws0 u (fun j => j = q)) := by
  refine MV.of (own := RX9) (cc := cX9_init) (nL := 1) (ret := none) (by decide) rfl rfl (Nat.le_of_ble_eq_true rfl) ?_
  intro p e s m below meth c A ls hin E h hl
  have hl : lv_has ls 1 [(0, .ref a)] := hl
  have hE : Eqx ws0 ws0 (fun j => j = q) := Eqx.rf
  have hqB : q < B := by have := lt_of_at h_t9; omega
  have hlen0 := hlen
  refine r_aload_n E 0 hl rfl dX9_init_0 ?_
  refine r_objI E (List.mem_of_getElem? (i := 1) rfl) (List.mem_of_getElem? (i := 2) rfl) (List.mem_of_getElem? (i := 3) rfl) hl.1 ⟨by decide, Nat.le_of_ble_eq_true rfl⟩ dX9_init_1 ?_
  refine r_aload_n E 0 hl rfl dX9_init_4 ?_
  refine r_iconst E dX9_init_5 ?_
  refine r_put E h h_t9 rfl inn_X9_init_9 0 (by decide) fl_X9_init_9 tyX9 tyX9_ok nmX9 rfl rfl rfl (Nat.le_of_ble_eq_true rfl) dX9_init_6 (fun ws H locs h hu => ?_)
  have h_t9 : ws[q]? = some (a, .inr (9, [.int (zI 0), .int (zI 0), .int (zI 0), .null, .int (zI 0), .int (zI 0)])) := hu.1
  have hE : Eqx ws0 ws (fun j => j = q) := by first | exact hE.tr (hu.eqx (by first | omega | (dsimp only <;> omega))) | exact hE.up hu (by omega)
  have hlen := hu.2.1.trans hlen
  refine r_aload_n E 0 hl rfl dX9_init_9 ?_
  refine r_iconst E dX9_init_10 ?_
  refine r_put E h h_t9 rfl inn_X9_init_9 1 (by decide) fl_X9_init_13 tyX9 tyX9_ok nmX9 rfl rfl rfl (Nat.le_of_ble_eq_true rfl) dX9_init_11 (fun ws H locs h hu => ?_)
  have h_t9 : ws[q]? = some (a, .inr (9, [.int (zI 0), .int (zI 0), .int (zI 0), .null, .int (zI 0), .int (zI 0)])) := hu.1
  have hE : Eqx ws0 ws (fun j => j = q) := by first | exact hE.tr (hu.eqx (by first | omega | (dsimp only <;> omega))) | exact hE.up hu (by omega)
  have hlen := hu.2.1.trans hlen
  refine r_aload_n E 0 hl rfl dX9_init_14 ?_
  refine r_iconst E dX9_init_15 ?_
  refine r_put E h h_t9 rfl inn_X9_init_9 2 (by decide) fl_X9_init_16 tyX9 tyX9_ok nmX9 rfl rfl rfl (Nat.le_of_ble_eq_true rfl) dX9_init_16 (fun ws H locs h hu => ?_)
  have h_t9 : ws[q]? = some (a, .inr (9, [.int (zI 0), .int (zI 0), .int (zI 0), .null, .int (zI 0), .int (zI 0)])) := hu.1
  have hE : Eqx ws0 ws (fun j => j = q) := by first | exact hE.tr (hu.eqx (by first | omega | (dsimp only <;> omega))) | exact hE.up hu (by omega)
  have hlen := hu.2.1.trans hlen
  refine r_aload_n E 0 hl rfl dX9_init_19 ?_
  refine r_iconst E dX9_init_20 ?_
  refine r_newB (N := 0) E h ⟨rfl, by decide⟩ (List.mem_of_getElem? (i := 7) rfl) (by decide) (by decide) dX9_init_21 (fun a_21 ws H hu h => ?_)
  have h_t9 := hu.keep h_t9
  have h_n21 : ws[B]? = some (a_21, aB cy 0 ((fun _ => 0))) := by have h9 := hu.new; rwa [hlen] at h9
  have hlen : ws.length = B + 1 := by have h9 := hu.len; omega
  have hE := hE.tr hu.eqx
  refine r_put E h h_t9 rfl inn_X9_init_9 3 (by decide) fl_X9_init_19 tyX9 tyX9_ok nmX9 rfl rfl rfl (Nat.le_of_ble_eq_true rfl) dX9_init_23 (fun ws H locs h hu => ?_)
  have h_t9 : ws[q]? = some (a, .inr (9, [.int (zI 0), .int (zI 0), .int (zI 0), .ref a_21, .int (zI 0), .int (zI 0)])) := hu.1
  have h_n21 := hu.keep h_n21 (by omega)
  have hE : Eqx ws0 ws (fun j => j = q) := by first | exact hE.tr (hu.eqx (by first | omega | (dsimp only <;> omega))) | exact hE.up hu (by omega)
  have hlen := hu.2.1.trans hlen
  refine r_aload_n E 0 hl rfl dX9_init_26 ?_
  refine r_iconst E dX9_init_27 ?_
  refine r_put E h h_t9 rfl inn_X9_init_9 4 (by decide) fl_X9_init_23 tyX9 tyX9_ok nmX9 rfl rfl rfl (Nat.le_of_ble_eq_true rfl) dX9_init_28 (fun ws H locs h hu => ?_)
  have h_t9 : ws[q]? = some (a, .inr (9, [.int (zI 0), .int (zI 0), .int (zI 0), .ref a_21, .int (zI 0), .int (zI 0)])) := hu.1
  have h_n21 := hu.keep h_n21 (by omega)
  have hE : Eqx ws0 ws (fun j => j = q) := by first | exact hE.tr (hu.eqx (by first | omega | (dsimp only <;> omega))) | exact hE.up hu (by omega)
  have hlen := hu.2.1.trans hlen
  refine r_aload_n E 0 hl rfl dX9_init_31 ?_
  refine r_iconst E dX9_init_32 ?_
  refine r_put E h h_t9 rfl inn_X9_init_9 5 (by decide) fl_X9_init_26 tyX9 tyX9_ok nmX9 rfl rfl rfl (Nat.le_of_ble_eq_true rfl) dX9_init_33 (fun ws H locs h hu => ?_)
  have h_t9 : ws[q]? = some (a, .inr (9, [.int (zI 0), .int (zI 0), .int (zI 0), .ref a_21, .int (zI 0), .int (zI 0)])) := hu.1
  have h_n21 := hu.keep h_n21 (by omega)
  have hE : Eqx ws0 ws (fun j => j = q) := by first | exact hE.tr (hu.eqx (by first | omega | (dsimp only <;> omega))) | exact hE.up hu (by omega)
  have hlen := hu.2.1.trans hlen
  refine W.widen (k := 1) (n := 0) (by decide) (by decide) ?_
  exact r_vret E h ⟨_, h_t9, h_n21, hlen, hE⟩ dX9_init_36
theorem hd_X8_init : yX8_init.cls ≠ "java/lang/invoke/MethodHandle" ∧ yX8_init.cls ≠ "java/lang/invoke/VarHandle" ∧ (parseMethodDescriptor yX8_init.desc).map (fun d => d.parameters.length) = some 0 := by decide +kernel
theorem fl_X8_init_11 : Cond.fieldLink RX8 11 (TX8 0).1 (TX8 0).2.1 (TX8 0).2.2.1 ∈ wsX8_init := List.mem_of_getElem? (i := 5) rfl
theorem inn_X8_init_8 : ∀ w ∈ wsX80, w ∈ wsX8_init := fun _ h => List.mem_cons_of_mem _ (List.mem_append_right _ h)
theorem fl_X8_init_15 : Cond.fieldLink RX8 15 (TX8 1).1 (TX8 1).2.1 (TX8 1).2.2.1 ∈ wsX8_init := List.mem_of_getElem? (i := 7) rfl
theorem fl_X8_init_19 : Cond.fieldLink RX8 19 (TX8 2).1 (TX8 2).2.1 (TX8 2).2.2.1 ∈ wsX8_init := List.mem_of_getElem? (i := 8) rfl
theorem fl_X8_init_23 : Cond.fieldLink RX8 23 (TX8 3).1 (TX8 3).2.1 (TX8 3).2.2.1 ∈ wsX8_init := List.mem_of_getElem? (i := 9) rfl
theorem fl_X8_init_26 : Cond.fieldLink RX8 26 (TX8 4).1 (TX8 4).2.1 (TX8 4).2.2.1 ∈ wsX8_init := List.mem_of_getElem? (i := 10) rfl
theorem fl_X8_init_29 : Cond.fieldLink RX8 29 (TX8 5).1 (TX8 5).2.1 (TX8 5).2.2.1 ∈ wsX8_init := List.mem_of_getElem? (i := 11) rfl
theorem fl_X8_init_32 : Cond.fieldLink RX8 32 (TX8 6).1 (TX8 6).2.1 (TX8 6).2.2.1 ∈ wsX8_init := List.mem_of_getElem? (i := 12) rfl
theorem fl_X8_init_35 : Cond.fieldLink RX8 35 (TX8 7).1 (TX8 7).2.1 (TX8 7).2.2.1 ∈ wsX8_init := List.mem_of_getElem? (i := 13) rfl
abbrev rm_X8_init : Room := { frames := 1, cells := 6, slots := 32703, locals := 24 }
set_option maxHeartbeats 1200000 in
set_option maxRecDepth 100000 in
theorem k_X8_init (l : Launch) {G : va_G} {cy : Nat → ClassId} {ws0 : va_W} {q a B : Nat}  (h_t9 : ws0[q]? = some (a, .inr (8, [.null, .null, .int (zI 0), .null, .int (zI 0), .null, .null, .null]))) (hlen : ws0.length = B) : MV l yX8_init wsX8_init rm_X8_init G cy [.ref a] ws0 (fun u => ∃ (ase awr art awt are ars : Nat), u[q]? = some (a, .inr (8, [.ref ase, .ref awr, .int (zI 0), .ref art, .int (zI 0), .ref awt, .ref are, .ref ars])) ∧ u[B]? = some (ase, aL cy 6400 (fun _ => zL 0)) ∧ u[B + 1]? = some (awr, aI cy 6400 (fun _ => 0)) ∧ u[B + 2]? = some (art, aI cy 5 (fun _ => 0)) ∧ u[B + 3]? = some (awt, aI cy 656 (fun _ => 0)) ∧ u[B + 4]? = some (are, aL cy 19200 (fun _ => zL 0)) ∧ u[B + 5]? = some (ars, aI cy 42 (fun _ => 0)) ∧ u.length = B + 6 ∧ Eqx ws0 u (fun j => j = q)) := by
  refine MV.of (own := RX8) (cc := cX8_init) (nL := 1) (ret := none) (by decide) rfl rfl (Nat.le_of_ble_eq_true rfl) ?_
  intro p e s m below meth c A ls hin E h hl
  have hl : lv_has ls 1 [(0, .ref a)] := hl
  have hE : Eqx ws0 ws0 (fun j => j = q) := Eqx.rf
  have hqB : q < B := by have := lt_of_at h_t9; omega
  have hlen0 := hlen
  refine r_aload_n E 0 hl rfl dX8_init_0 ?_
  refine r_objI E (List.mem_of_getElem? (i := 1) rfl) (List.mem_of_getElem? (i := 2) rfl) (List.mem_of_getElem? (i := 3) rfl) hl.1 ⟨by decide, Nat.le_of_ble_eq_true rfl⟩ dX8_init_1 ?_
  refine r_aload_n E 0 hl rfl dX8_init_4 ?_
  refine r_sipush E dX8_init_5 (by decide) ?_
  refine r_newL (N := 6400) E h ⟨rfl, by decide⟩ (List.mem_of_getElem? (i := 4) rfl) (by decide) (by decide) dX8_init_8 (fun a_8 ws H hu h => ?_)
  have h_t9 := hu.keep h_t9
  have h_n8 : ws[B]? = some (a_8, aL cy 6400 ((fun _ => 0))) := by have h9 := hu.new; rwa [hlen] at h9
  have hlen : ws.length = B + 1 := by have h9 := hu.len; omega
  have hE := hE.tr hu.eqx
  refine r_putF E hin h h_t9 rfl inn_X8_init_8 0 (by decide) fl_X8_init_11 tyX8 tyX8_ok nmX8 rfl rfl rfl rfl (Nat.le_of_ble_eq_true rfl) dX8_init_10 (fun ws H locs h hu => ?_)
  have h_t9 : ws[q]? = some (a, .inr (8, [.ref a_8, .null, .int (zI 0), .null, .int (zI 0), .null, .null, .null])) := hu.1
  have h_n8 := hu.keep h_n8 (by omega)
  have hE : Eqx ws0 ws (fun j => j = q) := by first | exact hE.tr (hu.eqx (by first | omega | (dsimp only <;> omega))) | exact hE.up hu (by omega)
  have hlen := hu.2.1.trans hlen
  refine r_aload_n E 0 hl rfl dX8_init_13 ?_
  refine r_sipush E dX8_init_14 (by decide) ?_
  refine r_newI (N := 6400) E h ⟨rfl, by decide⟩ (List.mem_of_getElem? (i := 6) rfl) (by decide) (by decide) dX8_init_17 (fun a_17 ws H hu h => ?_)
  have h_t9 := hu.keep h_t9
  have h_n8 := hu.keep h_n8
  have h_n17 : ws[B + 1]? = some (a_17, aI cy 6400 ((fun _ => 0))) := by have h9 := hu.new; rwa [hlen] at h9
  have hlen : ws.length = B + 2 := by have h9 := hu.len; omega
  have hE := hE.tr hu.eqx
  refine r_putF E hin h h_t9 rfl inn_X8_init_8 1 (by decide) fl_X8_init_15 tyX8 tyX8_ok nmX8 rfl rfl rfl rfl (Nat.le_of_ble_eq_true rfl) dX8_init_19 (fun ws H locs h hu => ?_)
  have h_t9 : ws[q]? = some (a, .inr (8, [.ref a_8, .ref a_17, .int (zI 0), .null, .int (zI 0), .null, .null, .null])) := hu.1
  have h_n8 := hu.keep h_n8 (by omega)
  have h_n17 := hu.keep h_n17 (by omega)
  have hE : Eqx ws0 ws (fun j => j = q) := by first | exact hE.tr (hu.eqx (by first | omega | (dsimp only <;> omega))) | exact hE.up hu (by omega)
  have hlen := hu.2.1.trans hlen
  refine r_aload_n E 0 hl rfl dX8_init_22 ?_
  refine r_iconst E dX8_init_23 ?_
  refine r_put E h h_t9 rfl inn_X8_init_8 2 (by decide) fl_X8_init_19 tyX8 tyX8_ok nmX8 rfl rfl rfl (Nat.le_of_ble_eq_true rfl) dX8_init_24 (fun ws H locs h hu => ?_)
  have h_t9 : ws[q]? = some (a, .inr (8, [.ref a_8, .ref a_17, .int (zI 0), .null, .int (zI 0), .null, .null, .null])) := hu.1
  have h_n8 := hu.keep h_n8 (by omega)
  have h_n17 := hu.keep h_n17 (by omega)
  have hE : Eqx ws0 ws (fun j => j = q) := by first | exact hE.tr (hu.eqx (by first | omega | (dsimp only <;> omega))) | exact hE.up hu (by omega)
  have hlen := hu.2.1.trans hlen
  refine r_aload_n E 0 hl rfl dX8_init_27 ?_
  refine r_iconst E dX8_init_28 ?_
  refine r_newI (N := 5) E h ⟨rfl, by decide⟩ (List.mem_of_getElem? (i := 6) rfl) (by decide) (by decide) dX8_init_29 (fun a_29 ws H hu h => ?_)
  have h_t9 := hu.keep h_t9
  have h_n8 := hu.keep h_n8
  have h_n17 := hu.keep h_n17
  have h_n29 : ws[B + 2]? = some (a_29, aI cy 5 ((fun _ => 0))) := by have h9 := hu.new; rwa [hlen] at h9
  have hlen : ws.length = B + 3 := by have h9 := hu.len; omega
  have hE := hE.tr hu.eqx
  refine r_putF E hin h h_t9 rfl inn_X8_init_8 3 (by decide) fl_X8_init_23 tyX8 tyX8_ok nmX8 rfl rfl rfl rfl (Nat.le_of_ble_eq_true rfl) dX8_init_31 (fun ws H locs h hu => ?_)
  have h_t9 : ws[q]? = some (a, .inr (8, [.ref a_8, .ref a_17, .int (zI 0), .ref a_29, .int (zI 0), .null, .null, .null])) := hu.1
  have h_n8 := hu.keep h_n8 (by omega)
  have h_n17 := hu.keep h_n17 (by omega)
  have h_n29 := hu.keep h_n29 (by omega)
  have hE : Eqx ws0 ws (fun j => j = q) := by first | exact hE.tr (hu.eqx (by first | omega | (dsimp only <;> omega))) | exact hE.up hu (by omega)
  have hlen := hu.2.1.trans hlen
  refine r_aload_n E 0 hl rfl dX8_init_34 ?_
  refine r_iconst E dX8_init_35 ?_
  refine r_put E h h_t9 rfl inn_X8_init_8 4 (by decide) fl_X8_init_26 tyX8 tyX8_ok nmX8 rfl rfl rfl (Nat.le_of_ble_eq_true rfl) dX8_init_36 (fun ws H locs h hu => ?_)
  have h_t9 : ws[q]? = some (a, .inr (8, [.ref a_8, .ref a_17, .int (zI 0), .ref a_29, .int (zI 0), .null, .null, .null])) := hu.1
  have h_n8 := hu.keep h_n8 (by omega)
  have h_n17 := hu.keep h_n17 (by omega)
  have h_n29 := hu.keep h_n29 (by omega)
  have hE : Eqx ws0 ws (fun j => j = q) := by first | exact hE.tr (hu.eqx (by first | omega | (dsimp only <;> omega))) | exact hE.up hu (by omega)
  have hlen := hu.2.1.trans hlen
  refine r_aload_n E 0 hl rfl dX8_init_39 ?_
  refine r_sipush E dX8_init_40 (by decide) ?_
  refine r_newI (N := 656) E h ⟨rfl, by decide⟩ (List.mem_of_getElem? (i := 6) rfl) (by decide) (by decide) dX8_init_43 (fun a_43 ws H hu h => ?_)
  have h_t9 := hu.keep h_t9
  have h_n8 := hu.keep h_n8
  have h_n17 := hu.keep h_n17
  have h_n29 := hu.keep h_n29
  have h_n43 : ws[B + 3]? = some (a_43, aI cy 656 ((fun _ => 0))) := by have h9 := hu.new; rwa [hlen] at h9
  have hlen : ws.length = B + 4 := by have h9 := hu.len; omega
  have hE := hE.tr hu.eqx
  refine r_putF E hin h h_t9 rfl inn_X8_init_8 5 (by decide) fl_X8_init_29 tyX8 tyX8_ok nmX8 rfl rfl rfl rfl (Nat.le_of_ble_eq_true rfl) dX8_init_45 (fun ws H locs h hu => ?_)
  have h_t9 : ws[q]? = some (a, .inr (8, [.ref a_8, .ref a_17, .int (zI 0), .ref a_29, .int (zI 0), .ref a_43, .null, .null])) := hu.1
  have h_n8 := hu.keep h_n8 (by omega)
  have h_n17 := hu.keep h_n17 (by omega)
  have h_n29 := hu.keep h_n29 (by omega)
  have h_n43 := hu.keep h_n43 (by omega)
  have hE : Eqx ws0 ws (fun j => j = q) := by first | exact hE.tr (hu.eqx (by first | omega | (dsimp only <;> omega))) | exact hE.up hu (by omega)
  have hlen := hu.2.1.trans hlen
  refine r_aload_n E 0 hl rfl dX8_init_48 ?_
  refine r_sipush E dX8_init_49 (by decide) ?_
  refine r_newL (N := 19200) E h ⟨rfl, by decide⟩ (List.mem_of_getElem? (i := 4) rfl) (by decide) (by decide) dX8_init_52 (fun a_52 ws H hu h => ?_)
  have h_t9 := hu.keep h_t9
  have h_n8 := hu.keep h_n8
  have h_n17 := hu.keep h_n17
  have h_n29 := hu.keep h_n29
  have h_n43 := hu.keep h_n43
  have h_n52 : ws[B + 4]? = some (a_52, aL cy 19200 ((fun _ => 0))) := by have h9 := hu.new; rwa [hlen] at h9
  have hlen : ws.length = B + 5 := by have h9 := hu.len; omega
  have hE := hE.tr hu.eqx
  refine r_putF E hin h h_t9 rfl inn_X8_init_8 6 (by decide) fl_X8_init_32 tyX8 tyX8_ok nmX8 rfl rfl rfl rfl (Nat.le_of_ble_eq_true rfl) dX8_init_54 (fun ws H locs h hu => ?_)
  have h_t9 : ws[q]? = some (a, .inr (8, [.ref a_8, .ref a_17, .int (zI 0), .ref a_29, .int (zI 0), .ref a_43, .ref a_52, .null])) := hu.1
  have h_n8 := hu.keep h_n8 (by omega)
  have h_n17 := hu.keep h_n17 (by omega)
  have h_n29 := hu.keep h_n29 (by omega)
  have h_n43 := hu.keep h_n43 (by omega)
  have h_n52 := hu.keep h_n52 (by omega)
  have hE : Eqx ws0 ws (fun j => j = q) := by first | exact hE.tr (hu.eqx (by first | omega | (dsimp only <;> omega))) | exact hE.up hu (by omega)
  have hlen := hu.2.1.trans hlen
  refine r_aload_n E 0 hl rfl dX8_init_57 ?_
  refine r_bipush E dX8_init_58 (by decide) ?_
  refine r_newI (N := 42) E h ⟨rfl, by decide⟩ (List.mem_of_getElem? (i := 6) rfl) (by decide) (by decide) dX8_init_60 (fun a_60 ws H hu h => ?_)
  have h_t9 := hu.keep h_t9
  have h_n8 := hu.keep h_n8
  have h_n17 := hu.keep h_n17
  have h_n29 := hu.keep h_n29
  have h_n43 := hu.keep h_n43
  have h_n52 := hu.keep h_n52
  have h_n60 : ws[B + 5]? = some (a_60, aI cy 42 ((fun _ => 0))) := by have h9 := hu.new; rwa [hlen] at h9
  have hlen : ws.length = B + 6 := by have h9 := hu.len; omega
  have hE := hE.tr hu.eqx
  refine r_putF E hin h h_t9 rfl inn_X8_init_8 7 (by decide) fl_X8_init_35 tyX8 tyX8_ok nmX8 rfl rfl rfl rfl (Nat.le_of_ble_eq_true rfl) dX8_init_62 (fun ws H locs h hu => ?_)
  have h_t9 : ws[q]? = some (a, .inr (8, [.ref a_8, .ref a_17, .int (zI 0), .ref a_29, .int (zI 0), .ref a_43, .ref a_52, .ref a_60])) := hu.1
  have h_n8 := hu.keep h_n8 (by omega)
  have h_n17 := hu.keep h_n17 (by omega)
  have h_n29 := hu.keep h_n29 (by omega)
  have h_n43 := hu.keep h_n43 (by omega)
  have h_n52 := hu.keep h_n52 (by omega)
  have h_n60 := hu.keep h_n60 (by omega)
  have hE : Eqx ws0 ws (fun j => j = q) := by first | exact hE.tr (hu.eqx (by first | omega | (dsimp only <;> omega))) | exact hE.up hu (by omega)
  have hlen := hu.2.1.trans hlen
  refine W.widen (k := 6) (n := 32703) (by decide) (by decide) ?_
  exact r_vret E h ⟨_, _, _, _, _, _, h_t9, h_n8, h_n17, h_n29, h_n43, h_n52, h_n60, hlen, hE⟩ dX8_init_65
