theorem hd_X11_init : yX11_init.cls ≠ "java/lang/invoke/MethodHandle" ∧ yX11_init.cls ≠ "java/lang/invoke/VarHandle" ∧ (parseMethodDescriptor yX11_init.desc).map (fun d => d.parameters.length) = some 0 := by decide +kernel
theorem fl_X11_init_9 : Cond.fieldLink RX11 9 (TX11 1).1 (TX11 1).2.1 (TX11 1).2.2.1 ∈ wsX11_init := List.mem_of_getElem? (i := 5) rfl
theorem inn_X11_init_11 : ∀ w ∈ wsX110, w ∈ wsX11_init := fun _ h => List.mem_cons_of_mem _ (List.mem_append_right _ h)
theorem fl_X11_init_13 : Cond.fieldLink RX11 13 (TX11 7).1 (TX11 7).2.1 (TX11 7).2.2.1 ∈ wsX11_init := List.mem_of_getElem? (i := 6) rfl
theorem fl_X11_init_17 : Cond.fieldLink RX11 17 (TX11 8).1 (TX11 8).2.1 (TX11 8).2.2.1 ∈ wsX11_init := List.mem_of_getElem? (i := 7) rfl
theorem fl_X11_init_20 : Cond.fieldLink RX11 20 (TX11 9).1 (TX11 9).2.1 (TX11 9).2.2.1 ∈ wsX11_init := List.mem_of_getElem? (i := 8) rfl
theorem fl_X11_init_23 : Cond.fieldLink RX11 23 (TX11 10).1 (TX11 10).2.1 (TX11 10).2.2.1 ∈ wsX11_init := List.mem_of_getElem? (i := 9) rfl
theorem fl_X11_init_28 : Cond.fieldLink RX11 28 (TX11 11).1 (TX11 11).2.1 (TX11 11).2.2.1 ∈ wsX11_init := List.mem_of_getElem? (i := 11) rfl
theorem fl_X11_init_32 : Cond.fieldLink RX11 32 (TX11 15).1 (TX11 15).2.1 (TX11 15).2.2.1 ∈ wsX11_init := List.mem_of_getElem? (i := 13) rfl
theorem fl_X11_init_35 : Cond.fieldLink RX11 35 (TX11 16).1 (TX11 16).2.1 (TX11 16).2.2.1 ∈ wsX11_init := List.mem_of_getElem? (i := 14) rfl
theorem fl_X11_init_38 : Cond.fieldLink RX11 38 (TX11 17).1 (TX11 17).2.1 (TX11 17).2.2.1 ∈ wsX11_init := List.mem_of_getElem? (i := 15) rfl
theorem fl_X11_init_41 : Cond.fieldLink RX11 41 (TX11 18).1 (TX11 18).2.1 (TX11 18).2.2.1 ∈ wsX11_init := List.mem_of_getElem? (i := 16) rfl
theorem fl_X11_init_44 : Cond.fieldLink RX11 44 (TX11 20).1 (TX11 20).2.1 (TX11 20).2.2.1 ∈ wsX11_init := List.mem_of_getElem? (i := 17) rfl
theorem fl_X11_init_47 : Cond.fieldLink RX11 47 (TX11 21).1 (TX11 21).2.1 (TX11 21).2.2.1 ∈ wsX11_init := List.mem_of_getElem? (i := 18) rfl
theorem fl_X11_init_50 : Cond.fieldLink RX11 50 (TX11 22).1 (TX11 22).2.1 (TX11 22).2.2.1 ∈ wsX11_init := List.mem_of_getElem? (i := 20) rfl
theorem fl_X11_init_54 : Cond.fieldLink RX11 54 (TX11 25).1 (TX11 25).2.1 (TX11 25).2.2.1 ∈ wsX11_init := List.mem_of_getElem? (i := 21) rfl
abbrev rm_X11_init : Room := { frames := 1, cells := 30, slots := 120000, locals := 24 }
set_option maxHeartbeats 4000000 in
set_option maxRecDepth 100000 in
theorem k_X11_init (l : Launch) {G : va_G} {cy : Nat → ClassId} {ws0 : va_W} {a b : Nat} (h_t9 : ws0[b]? = some (a, .inr (11, [.int (zI 0), .null, .int (zI 0), .int (zI 0), .int (zI 0), .int (zI 0), .int (zI 0), .int (zI 0), .null, .null, .null, .null, .int (zI 0), .int (zI 0), .int (zI 0), .null, .null, .null, .null, .int (zI 0), .null, .null, .null, .int (zI 0), .int (zI 0), .null, .int (zI 0), .int (zI 0)]))) (hlen : ws0.length = b + 1) : MVk l yX11_init wsX11_init rm_X11_init G cy [.ref a] ws0 (fun u => ∃ (ad ar : Nat → Nat) (hi : Int → Option Nat), u[b]? = some (a, mO (fun k => if k = 7 then -1 else 0) ad) ∧ u[b + 1]? = some (ad 1, aI cy 600 (fun _ => 0)) ∧ u[b + 2]? = some (ad 8, aI cy 1111 (fun _ => 0)) ∧ u[b + 3]? = some (ad 9, aI cy 1111 (fun _ => 0)) ∧ u[b + 4]? = some (ad 10, aI cy 1111 (fun _ => 0)) ∧ u[b + 14]? = some (ad 15, aI cy 38400 (fun _ => 0)) ∧ u[b + 15]? = some (ad 16, aI cy 6400 (fun _ => 0)) ∧ u[b + 16]? = some (ad 17, aI cy 6400 (fun _ => 0)) ∧ u[b + 17]? = some (ad 18, aI cy 4 (fun _ => 0)) ∧ u[b + 18]? = some (ad 20, aI cy 42 (fun _ => 0)) ∧ u[b + 19]? = some (ad 21, aI cy 38400 (fun _ => 0)) ∧ u[b + 20]? = some (ad 22, aL cy 1000 (fun _ => zL 0)) ∧ u[b + 21]? = some (ad 25, aI cy 40 (fun _ => 0)) ∧ u[b + 5]? = some (ad 11, aR cy 6 8 hi) ∧ (∀ i : Nat, i < 8 → hi (i : Int) = some (ar i)) ∧ (∀ i : Nat, i < 8 → u[b + 6 + i]? = some (ar i, aI cy 1111 (fun _ => 0))) ∧ u.length = b + 22 ∧ Eqx ws0 u (fun j => j = b)) := by
  refine MVk.of (own := RX11) (cc := cX11_init) (nL := 1) (ret := none) (by decide) rfl rfl (Nat.le_of_ble_eq_true rfl) ?_
  intro p e s m below meth c A ls hX hin E h hl
  have hl : lv_has ls 1 [(0, .ref a)] := hl
  have hE : Eqx ws0 ws0 (fun j => j = b) := Eqx.rf
  have hlen0 := hlen
  refine r_aload_n E 0 hl rfl dX11_init_0 ?_
  refine r_objI E (List.mem_of_getElem? (i := 1) rfl) (List.mem_of_getElem? (i := 2) rfl) (List.mem_of_getElem? (i := 3) rfl) hl.1 ⟨by decide, Nat.le_of_ble_eq_true rfl⟩ dX11_init_1 ?_
  refine r_aload_n E 0 hl rfl dX11_init_4 ?_
  refine r_sipush E dX11_init_5 (by decide) ?_
  refine r_newI (N := 600) E h ⟨rfl, by decide⟩ (List.mem_of_getElem? (i := 4) rfl) (by show 0 + 1 ≤ 30; omega) (by show 0 + 600 ≤ 120000; omega) dX11_init_8 (fun a_8 ws H hu h => ?_)
  have h_t9 := hu.keep h_t9
  have h_n8 : ws[b + 1]? = some (a_8, aI cy 600 ((fun _ => 0))) := by have h9 := hu.new; rwa [hlen] at h9
  have hlen : ws.length = b + 1 + 1 := hu.len.trans (congrArg (fun x => x + 1) hlen)
  have hE := hE.tr hu.eqx
  refine r_putF E hin h h_t9 rfl inn_X11_init_11 1 (by decide) fl_X11_init_9 tyX11 tyX11_ok nmX11 rfl rfl rfl rfl (Nat.le_of_ble_eq_true rfl) dX11_init_10 (fun ws H locs h hu => ?_)
  have h_t9 : ws[b]? = some (a, .inr (11, [.int (zI 0), .ref a_8, .int (zI 0), .int (zI 0), .int (zI 0), .int (zI 0), .int (zI 0), .int (zI 0), .null, .null, .null, .null, .int (zI 0), .int (zI 0), .int (zI 0), .null, .null, .null, .null, .int (zI 0), .null, .null, .null, .int (zI 0), .int (zI 0), .null, .int (zI 0), .int (zI 0)])) := hu.1
  have h_n8 := hu.keep h_n8 (by first | exact ne_b | omega)
  have hE : Eqx ws0 ws (fun j => j = b) := by first | exact hE.tr (hu.eqx (by first | omega | (dsimp only <;> omega))) | exact hE.up hu (by omega)
  have hlen := hu.2.1.trans hlen
  refine r_aload_n E 0 hl rfl dX11_init_13 ?_
  refine r_iconst E dX11_init_14 ?_
  refine r_put E h h_t9 rfl inn_X11_init_11 7 (by decide) fl_X11_init_13 tyX11 tyX11_ok nmX11 rfl rfl rfl (Nat.le_of_ble_eq_true rfl) dX11_init_15 (fun ws H locs h hu => ?_)
  have h_t9 : ws[b]? = some (a, .inr (11, [.int (zI 0), .ref a_8, .int (zI 0), .int (zI 0), .int (zI 0), .int (zI 0), .int (zI 0), .int (zI (-1)), .null, .null, .null, .null, .int (zI 0), .int (zI 0), .int (zI 0), .null, .null, .null, .null, .int (zI 0), .null, .null, .null, .int (zI 0), .int (zI 0), .null, .int (zI 0), .int (zI 0)])) := hu.1
  have h_n8 := hu.keep h_n8 (by first | exact ne_b | omega)
  have hE : Eqx ws0 ws (fun j => j = b) := by first | exact hE.tr (hu.eqx (by first | omega | (dsimp only <;> omega))) | exact hE.up hu (by omega)
  have hlen := hu.2.1.trans hlen
  refine r_aload_n E 0 hl rfl dX11_init_18 ?_
  refine r_sipush E dX11_init_19 (by decide) ?_
  refine r_newI (N := 1111) E h ⟨rfl, by decide⟩ (List.mem_of_getElem? (i := 4) rfl) (by show 0 + 1 + 1 ≤ 30; omega) (by show 0 + 600 + 1111 ≤ 120000; omega) dX11_init_22 (fun a_22 ws H hu h => ?_)
  have h_t9 := hu.keep h_t9
  have h_n8 := hu.keep h_n8
  have h_n22 : ws[b + 1 + 1]? = some (a_22, aI cy 1111 ((fun _ => 0))) := by have h9 := hu.new; rwa [hlen] at h9
  have hlen : ws.length = b + 1 + 2 := hu.len.trans (congrArg (fun x => x + 1) hlen)
  have hE := hE.tr hu.eqx
  refine r_putF E hin h h_t9 rfl inn_X11_init_11 8 (by decide) fl_X11_init_17 tyX11 tyX11_ok nmX11 rfl rfl rfl rfl (Nat.le_of_ble_eq_true rfl) dX11_init_24 (fun ws H locs h hu => ?_)
  have h_t9 : ws[b]? = some (a, .inr (11, [.int (zI 0), .ref a_8, .int (zI 0), .int (zI 0), .int (zI 0), .int (zI 0), .int (zI 0), .int (zI (-1)), .ref a_22, .null, .null, .null, .int (zI 0), .int (zI 0), .int (zI 0), .null, .null, .null, .null, .int (zI 0), .null, .null, .null, .int (zI 0), .int (zI 0), .null, .int (zI 0), .int (zI 0)])) := hu.1
  have h_n8 := hu.keep h_n8 (by first | exact ne_b | omega)
  have h_n22 := hu.keep h_n22 (by first | exact ne_b | omega)
  have hE : Eqx ws0 ws (fun j => j = b) := by first | exact hE.tr (hu.eqx (by first | omega | (dsimp only <;> omega))) | exact hE.up hu (by omega)
  have hlen := hu.2.1.trans hlen
  refine r_aload_n E 0 hl rfl dX11_init_27 ?_
  refine r_sipush E dX11_init_28 (by decide) ?_
  refine r_newI (N := 1111) E h ⟨rfl, by decide⟩ (List.mem_of_getElem? (i := 4) rfl) (by show 0 + 1 + 1 + 1 ≤ 30; omega) (by show 0 + 600 + 1111 + 1111 ≤ 120000; omega) dX11_init_31 (fun a_31 ws H hu h => ?_)
  have h_t9 := hu.keep h_t9
  have h_n8 := hu.keep h_n8
  have h_n22 := hu.keep h_n22
  have h_n31 : ws[b + 1 + 2]? = some (a_31, aI cy 1111 ((fun _ => 0))) := by have h9 := hu.new; rwa [hlen] at h9
  have hlen : ws.length = b + 1 + 3 := hu.len.trans (congrArg (fun x => x + 1) hlen)
  have hE := hE.tr hu.eqx
  refine r_putF E hin h h_t9 rfl inn_X11_init_11 9 (by decide) fl_X11_init_20 tyX11 tyX11_ok nmX11 rfl rfl rfl rfl (Nat.le_of_ble_eq_true rfl) dX11_init_33 (fun ws H locs h hu => ?_)
  have h_t9 : ws[b]? = some (a, .inr (11, [.int (zI 0), .ref a_8, .int (zI 0), .int (zI 0), .int (zI 0), .int (zI 0), .int (zI 0), .int (zI (-1)), .ref a_22, .ref a_31, .null, .null, .int (zI 0), .int (zI 0), .int (zI 0), .null, .null, .null, .null, .int (zI 0), .null, .null, .null, .int (zI 0), .int (zI 0), .null, .int (zI 0), .int (zI 0)])) := hu.1
  have h_n8 := hu.keep h_n8 (by first | exact ne_b | omega)
  have h_n22 := hu.keep h_n22 (by first | exact ne_b | omega)
  have h_n31 := hu.keep h_n31 (by first | exact ne_b | omega)
  have hE : Eqx ws0 ws (fun j => j = b) := by first | exact hE.tr (hu.eqx (by first | omega | (dsimp only <;> omega))) | exact hE.up hu (by omega)
  have hlen := hu.2.1.trans hlen
  refine r_aload_n E 0 hl rfl dX11_init_36 ?_
  refine r_sipush E dX11_init_37 (by decide) ?_
  refine r_newI (N := 1111) E h ⟨rfl, by decide⟩ (List.mem_of_getElem? (i := 4) rfl) (by show 0 + 1 + 1 + 1 + 1 ≤ 30; omega) (by show 0 + 600 + 1111 + 1111 + 1111 ≤ 120000; omega) dX11_init_40 (fun a_40 ws H hu h => ?_)
  have h_t9 := hu.keep h_t9
  have h_n8 := hu.keep h_n8
  have h_n22 := hu.keep h_n22
  have h_n31 := hu.keep h_n31
  have h_n40 : ws[b + 1 + 3]? = some (a_40, aI cy 1111 ((fun _ => 0))) := by have h9 := hu.new; rwa [hlen] at h9
  have hlen : ws.length = b + 1 + 4 := hu.len.trans (congrArg (fun x => x + 1) hlen)
  have hE := hE.tr hu.eqx
  refine r_putF E hin h h_t9 rfl inn_X11_init_11 10 (by decide) fl_X11_init_23 tyX11 tyX11_ok nmX11 rfl rfl rfl rfl (Nat.le_of_ble_eq_true rfl) dX11_init_42 (fun ws H locs h hu => ?_)
  have h_t9 : ws[b]? = some (a, .inr (11, [.int (zI 0), .ref a_8, .int (zI 0), .int (zI 0), .int (zI 0), .int (zI 0), .int (zI 0), .int (zI (-1)), .ref a_22, .ref a_31, .ref a_40, .null, .int (zI 0), .int (zI 0), .int (zI 0), .null, .null, .null, .null, .int (zI 0), .null, .null, .null, .int (zI 0), .int (zI 0), .null, .int (zI 0), .int (zI 0)])) := hu.1
  have h_n8 := hu.keep h_n8 (by first | exact ne_b | omega)
  have h_n22 := hu.keep h_n22 (by first | exact ne_b | omega)
  have h_n31 := hu.keep h_n31 (by first | exact ne_b | omega)
  have h_n40 := hu.keep h_n40 (by first | exact ne_b | omega)
  have hE : Eqx ws0 ws (fun j => j = b) := by first | exact hE.tr (hu.eqx (by first | omega | (dsimp only <;> omega))) | exact hE.up hu (by omega)
  have hlen := hu.2.1.trans hlen
  refine r_aload_n E 0 hl rfl dX11_init_45 ?_
  refine r_bipush E dX11_init_46 (by decide) ?_
  refine r_sipush E dX11_init_48 (by decide) ?_
  refine r_mna8k E h (List.mem_of_getElem? (i := 10) rfl) hX.aoa (List.mem_of_getElem? (i := 4) rfl) (by show 0 + 1 + 1 + 1 + 1 + 9 ≤ 30; omega) (by show 0 + 600 + 1111 + 1111 + 1111 + 8896 ≤ 120000; omega) dX11_init_51 (fun a_51 r_51 ws H hln hkp hnw hrw h => ?_)
  have h_t9 := (hkp _ (lt_of_at h_t9)).trans h_t9
  have h_n8 := (hkp _ (lt_of_at h_n8)).trans h_n8
  have h_n22 := (hkp _ (lt_of_at h_n22)).trans h_n22
  have h_n31 := (hkp _ (lt_of_at h_n31)).trans h_n31
  have h_n40 := (hkp _ (lt_of_at h_n40)).trans h_n40
  have h_n51 : ws[b + 1 + 4]? = some (a_51, aR cy 6 8 (fun i => if i < 8 then some (r_51 i.toNat) else none)) := by rwa [hlen] at hnw
  have h_r51 : ∀ i : Nat, i < 8 → ws[b + 1 + 4 + 1 + i]? = some (r_51 i, aI cy 1111 (fun _ => 0)) := fun i hi => by have h9 := hrw i hi; rwa [hlen] at h9
  have hlen : ws.length = b + 1 + 13 := by omega
  have hE := hE.trG ⟨by omega, fun j hj _ => hkp j hj⟩ (fun j hj hY => absurd hY (fun q : False => q))
  refine r_putF E hin h h_t9 rfl inn_X11_init_11 11 (by decide) fl_X11_init_28 tyX11 tyX11_ok nmX11 rfl rfl rfl rfl (Nat.le_of_ble_eq_true rfl) dX11_init_55 (fun ws H locs h hu => ?_)
  have h_t9 : ws[b]? = some (a, .inr (11, [.int (zI 0), .ref a_8, .int (zI 0), .int (zI 0), .int (zI 0), .int (zI 0), .int (zI 0), .int (zI (-1)), .ref a_22, .ref a_31, .ref a_40, .ref a_51, .int (zI 0), .int (zI 0), .int (zI 0), .null, .null, .null, .null, .int (zI 0), .null, .null, .null, .int (zI 0), .int (zI 0), .null, .int (zI 0), .int (zI 0)])) := hu.1
  have h_n8 := hu.keep h_n8 (by first | exact ne_b | omega)
  have h_n22 := hu.keep h_n22 (by first | exact ne_b | omega)
  have h_n31 := hu.keep h_n31 (by first | exact ne_b | omega)
  have h_n40 := hu.keep h_n40 (by first | exact ne_b | omega)
  have h_n51 := hu.keep h_n51 (by first | exact ne_b | omega)
  have hE : Eqx ws0 ws (fun j => j = b) := by first | exact hE.tr (hu.eqx (by first | omega | (dsimp only <;> omega))) | exact hE.up hu (by omega)
  have h_r51 := fun (i : Nat) (hi : i < 8) => hu.keep (h_r51 i hi) (by omega)
  have hlen := hu.2.1.trans hlen
  refine r_aload_n E 0 hl rfl dX11_init_58 ?_
  refine r_ldc E (v := 38400) (List.mem_of_getElem? (i := 12) rfl) (n := 38400) (by decide) dX11_init_59 ?_
  refine r_newI (N := 38400) E h ⟨rfl, by decide⟩ (List.mem_of_getElem? (i := 4) rfl) (by show 0 + 1 + 1 + 1 + 1 + 1 + 8 + 1 ≤ 30; omega) (by show 0 + 600 + 1111 + 1111 + 1111 + 8 + 8 * 1111 + 38400 ≤ 120000; omega) dX11_init_61 (fun a_61 ws H hu h => ?_)
  have h_t9 := hu.keep h_t9
  have h_n8 := hu.keep h_n8
  have h_n22 := hu.keep h_n22
  have h_n31 := hu.keep h_n31
  have h_n40 := hu.keep h_n40
  have h_n51 := hu.keep h_n51
  have h_n61 : ws[b + 1 + 13]? = some (a_61, aI cy 38400 ((fun _ => 0))) := by have h9 := hu.new; rwa [hlen] at h9
  have h_r51 := fun (i : Nat) (hi : i < 8) => hu.keep (h_r51 i hi)
  have hlen : ws.length = b + 1 + 14 := hu.len.trans (congrArg (fun x => x + 1) hlen)
  have hE := hE.tr hu.eqx
  refine r_putF E hin h h_t9 rfl inn_X11_init_11 15 (by decide) fl_X11_init_32 tyX11 tyX11_ok nmX11 rfl rfl rfl rfl (Nat.le_of_ble_eq_true rfl) dX11_init_63 (fun ws H locs h hu => ?_)
  have h_t9 : ws[b]? = some (a, .inr (11, [.int (zI 0), .ref a_8, .int (zI 0), .int (zI 0), .int (zI 0), .int (zI 0), .int (zI 0), .int (zI (-1)), .ref a_22, .ref a_31, .ref a_40, .ref a_51, .int (zI 0), .int (zI 0), .int (zI 0), .ref a_61, .null, .null, .null, .int (zI 0), .null, .null, .null, .int (zI 0), .int (zI 0), .null, .int (zI 0), .int (zI 0)])) := hu.1
  have h_n8 := hu.keep h_n8 (by first | exact ne_b | omega)
  have h_n22 := hu.keep h_n22 (by first | exact ne_b | omega)
  have h_n31 := hu.keep h_n31 (by first | exact ne_b | omega)
  have h_n40 := hu.keep h_n40 (by first | exact ne_b | omega)
  have h_n51 := hu.keep h_n51 (by first | exact ne_b | omega)
  have h_n61 := hu.keep h_n61 (by first | exact ne_b | omega)
  have hE : Eqx ws0 ws (fun j => j = b) := by first | exact hE.tr (hu.eqx (by first | omega | (dsimp only <;> omega))) | exact hE.up hu (by omega)
  have h_r51 := fun (i : Nat) (hi : i < 8) => hu.keep (h_r51 i hi) (by omega)
  have hlen := hu.2.1.trans hlen
  refine r_aload_n E 0 hl rfl dX11_init_66 ?_
  refine r_sipush E dX11_init_67 (by decide) ?_
  refine r_newI (N := 6400) E h ⟨rfl, by decide⟩ (List.mem_of_getElem? (i := 4) rfl) (by show 0 + 1 + 1 + 1 + 1 + 1 + 8 + 1 + 1 ≤ 30; omega) (by show 0 + 600 + 1111 + 1111 + 1111 + 8 + 8 * 1111 + 38400 + 6400 ≤ 120000; omega) dX11_init_70 (fun a_70 ws H hu h => ?_)
  have h_t9 := hu.keep h_t9
  have h_n8 := hu.keep h_n8
  have h_n22 := hu.keep h_n22
  have h_n31 := hu.keep h_n31
  have h_n40 := hu.keep h_n40
  have h_n51 := hu.keep h_n51
  have h_n61 := hu.keep h_n61
  have h_n70 : ws[b + 1 + 14]? = some (a_70, aI cy 6400 ((fun _ => 0))) := by have h9 := hu.new; rwa [hlen] at h9
  have h_r51 := fun (i : Nat) (hi : i < 8) => hu.keep (h_r51 i hi)
  have hlen : ws.length = b + 1 + 15 := hu.len.trans (congrArg (fun x => x + 1) hlen)
  have hE := hE.tr hu.eqx
  refine r_putF E hin h h_t9 rfl inn_X11_init_11 16 (by decide) fl_X11_init_35 tyX11 tyX11_ok nmX11 rfl rfl rfl rfl (Nat.le_of_ble_eq_true rfl) dX11_init_72 (fun ws H locs h hu => ?_)
  have h_t9 : ws[b]? = some (a, .inr (11, [.int (zI 0), .ref a_8, .int (zI 0), .int (zI 0), .int (zI 0), .int (zI 0), .int (zI 0), .int (zI (-1)), .ref a_22, .ref a_31, .ref a_40, .ref a_51, .int (zI 0), .int (zI 0), .int (zI 0), .ref a_61, .ref a_70, .null, .null, .int (zI 0), .null, .null, .null, .int (zI 0), .int (zI 0), .null, .int (zI 0), .int (zI 0)])) := hu.1
  have h_n8 := hu.keep h_n8 (by first | exact ne_b | omega)
  have h_n22 := hu.keep h_n22 (by first | exact ne_b | omega)
  have h_n31 := hu.keep h_n31 (by first | exact ne_b | omega)
  have h_n40 := hu.keep h_n40 (by first | exact ne_b | omega)
  have h_n51 := hu.keep h_n51 (by first | exact ne_b | omega)
  have h_n61 := hu.keep h_n61 (by first | exact ne_b | omega)
  have h_n70 := hu.keep h_n70 (by first | exact ne_b | omega)
  have hE : Eqx ws0 ws (fun j => j = b) := by first | exact hE.tr (hu.eqx (by first | omega | (dsimp only <;> omega))) | exact hE.up hu (by omega)
  have h_r51 := fun (i : Nat) (hi : i < 8) => hu.keep (h_r51 i hi) (by omega)
  have hlen := hu.2.1.trans hlen
  refine r_aload_n E 0 hl rfl dX11_init_75 ?_
  refine r_sipush E dX11_init_76 (by decide) ?_
  refine r_newI (N := 6400) E h ⟨rfl, by decide⟩ (List.mem_of_getElem? (i := 4) rfl) (by show 0 + 1 + 1 + 1 + 1 + 1 + 8 + 1 + 1 + 1 ≤ 30; omega) (by show 0 + 600 + 1111 + 1111 + 1111 + 8 + 8 * 1111 + 38400 + 6400 + 6400 ≤ 120000; omega) dX11_init_79 (fun a_79 ws H hu h => ?_)
  have h_t9 := hu.keep h_t9
  have h_n8 := hu.keep h_n8
  have h_n22 := hu.keep h_n22
  have h_n31 := hu.keep h_n31
  have h_n40 := hu.keep h_n40
  have h_n51 := hu.keep h_n51
  have h_n61 := hu.keep h_n61
  have h_n70 := hu.keep h_n70
  have h_n79 : ws[b + 1 + 15]? = some (a_79, aI cy 6400 ((fun _ => 0))) := by have h9 := hu.new; rwa [hlen] at h9
  have h_r51 := fun (i : Nat) (hi : i < 8) => hu.keep (h_r51 i hi)
  have hlen : ws.length = b + 1 + 16 := hu.len.trans (congrArg (fun x => x + 1) hlen)
  have hE := hE.tr hu.eqx
  refine r_putF E hin h h_t9 rfl inn_X11_init_11 17 (by decide) fl_X11_init_38 tyX11 tyX11_ok nmX11 rfl rfl rfl rfl (Nat.le_of_ble_eq_true rfl) dX11_init_81 (fun ws H locs h hu => ?_)
  have h_t9 : ws[b]? = some (a, .inr (11, [.int (zI 0), .ref a_8, .int (zI 0), .int (zI 0), .int (zI 0), .int (zI 0), .int (zI 0), .int (zI (-1)), .ref a_22, .ref a_31, .ref a_40, .ref a_51, .int (zI 0), .int (zI 0), .int (zI 0), .ref a_61, .ref a_70, .ref a_79, .null, .int (zI 0), .null, .null, .null, .int (zI 0), .int (zI 0), .null, .int (zI 0), .int (zI 0)])) := hu.1
  have h_n8 := hu.keep h_n8 (by first | exact ne_b | omega)
  have h_n22 := hu.keep h_n22 (by first | exact ne_b | omega)
  have h_n31 := hu.keep h_n31 (by first | exact ne_b | omega)
  have h_n40 := hu.keep h_n40 (by first | exact ne_b | omega)
  have h_n51 := hu.keep h_n51 (by first | exact ne_b | omega)
  have h_n61 := hu.keep h_n61 (by first | exact ne_b | omega)
  have h_n70 := hu.keep h_n70 (by first | exact ne_b | omega)
  have h_n79 := hu.keep h_n79 (by first | exact ne_b | omega)
  have hE : Eqx ws0 ws (fun j => j = b) := by first | exact hE.tr (hu.eqx (by first | omega | (dsimp only <;> omega))) | exact hE.up hu (by omega)
  have h_r51 := fun (i : Nat) (hi : i < 8) => hu.keep (h_r51 i hi) (by omega)
  have hlen := hu.2.1.trans hlen
  refine r_aload_n E 0 hl rfl dX11_init_84 ?_
  refine r_iconst E dX11_init_85 ?_
  refine r_newI (N := 4) E h ⟨rfl, by decide⟩ (List.mem_of_getElem? (i := 4) rfl) (by show 0 + 1 + 1 + 1 + 1 + 1 + 8 + 1 + 1 + 1 + 1 ≤ 30; omega) (by show 0 + 600 + 1111 + 1111 + 1111 + 8 + 8 * 1111 + 38400 + 6400 + 6400 + 4 ≤ 120000; omega) dX11_init_86 (fun a_86 ws H hu h => ?_)
  have h_t9 := hu.keep h_t9
  have h_n8 := hu.keep h_n8
  have h_n22 := hu.keep h_n22
  have h_n31 := hu.keep h_n31
  have h_n40 := hu.keep h_n40
  have h_n51 := hu.keep h_n51
  have h_n61 := hu.keep h_n61
  have h_n70 := hu.keep h_n70
  have h_n79 := hu.keep h_n79
  have h_n86 : ws[b + 1 + 16]? = some (a_86, aI cy 4 ((fun _ => 0))) := by have h9 := hu.new; rwa [hlen] at h9
  have h_r51 := fun (i : Nat) (hi : i < 8) => hu.keep (h_r51 i hi)
  have hlen : ws.length = b + 1 + 17 := hu.len.trans (congrArg (fun x => x + 1) hlen)
  have hE := hE.tr hu.eqx
  refine r_putF E hin h h_t9 rfl inn_X11_init_11 18 (by decide) fl_X11_init_41 tyX11 tyX11_ok nmX11 rfl rfl rfl rfl (Nat.le_of_ble_eq_true rfl) dX11_init_88 (fun ws H locs h hu => ?_)
  have h_t9 : ws[b]? = some (a, .inr (11, [.int (zI 0), .ref a_8, .int (zI 0), .int (zI 0), .int (zI 0), .int (zI 0), .int (zI 0), .int (zI (-1)), .ref a_22, .ref a_31, .ref a_40, .ref a_51, .int (zI 0), .int (zI 0), .int (zI 0), .ref a_61, .ref a_70, .ref a_79, .ref a_86, .int (zI 0), .null, .null, .null, .int (zI 0), .int (zI 0), .null, .int (zI 0), .int (zI 0)])) := hu.1
  have h_n8 := hu.keep h_n8 (by first | exact ne_b | omega)
  have h_n22 := hu.keep h_n22 (by first | exact ne_b | omega)
  have h_n31 := hu.keep h_n31 (by first | exact ne_b | omega)
  have h_n40 := hu.keep h_n40 (by first | exact ne_b | omega)
  have h_n51 := hu.keep h_n51 (by first | exact ne_b | omega)
  have h_n61 := hu.keep h_n61 (by first | exact ne_b | omega)
  have h_n70 := hu.keep h_n70 (by first | exact ne_b | omega)
  have h_n79 := hu.keep h_n79 (by first | exact ne_b | omega)
  have h_n86 := hu.keep h_n86 (by first | exact ne_b | omega)
  have hE : Eqx ws0 ws (fun j => j = b) := by first | exact hE.tr (hu.eqx (by first | omega | (dsimp only <;> omega))) | exact hE.up hu (by omega)
  have h_r51 := fun (i : Nat) (hi : i < 8) => hu.keep (h_r51 i hi) (by omega)
  have hlen := hu.2.1.trans hlen
  refine r_aload_n E 0 hl rfl dX11_init_91 ?_
  refine r_bipush E dX11_init_92 (by decide) ?_
  refine r_newI (N := 42) E h ⟨rfl, by decide⟩ (List.mem_of_getElem? (i := 4) rfl) (by show 0 + 1 + 1 + 1 + 1 + 1 + 8 + 1 + 1 + 1 + 1 + 1 ≤ 30; omega) (by show 0 + 600 + 1111 + 1111 + 1111 + 8 + 8 * 1111 + 38400 + 6400 + 6400 + 4 + 42 ≤ 120000; omega) dX11_init_94 (fun a_94 ws H hu h => ?_)
  have h_t9 := hu.keep h_t9
  have h_n8 := hu.keep h_n8
  have h_n22 := hu.keep h_n22
  have h_n31 := hu.keep h_n31
  have h_n40 := hu.keep h_n40
  have h_n51 := hu.keep h_n51
  have h_n61 := hu.keep h_n61
  have h_n70 := hu.keep h_n70
  have h_n79 := hu.keep h_n79
  have h_n86 := hu.keep h_n86
  have h_n94 : ws[b + 1 + 17]? = some (a_94, aI cy 42 ((fun _ => 0))) := by have h9 := hu.new; rwa [hlen] at h9
  have h_r51 := fun (i : Nat) (hi : i < 8) => hu.keep (h_r51 i hi)
  have hlen : ws.length = b + 1 + 18 := hu.len.trans (congrArg (fun x => x + 1) hlen)
  have hE := hE.tr hu.eqx
  refine r_putF E hin h h_t9 rfl inn_X11_init_11 20 (by decide) fl_X11_init_44 tyX11 tyX11_ok nmX11 rfl rfl rfl rfl (Nat.le_of_ble_eq_true rfl) dX11_init_96 (fun ws H locs h hu => ?_)
  have h_t9 : ws[b]? = some (a, .inr (11, [.int (zI 0), .ref a_8, .int (zI 0), .int (zI 0), .int (zI 0), .int (zI 0), .int (zI 0), .int (zI (-1)), .ref a_22, .ref a_31, .ref a_40, .ref a_51, .int (zI 0), .int (zI 0), .int (zI 0), .ref a_61, .ref a_70, .ref a_79, .ref a_86, .int (zI 0), .ref a_94, .null, .null, .int (zI 0), .int (zI 0), .null, .int (zI 0), .int (zI 0)])) := hu.1
  have h_n8 := hu.keep h_n8 (by first | exact ne_b | omega)
  have h_n22 := hu.keep h_n22 (by first | exact ne_b | omega)
  have h_n31 := hu.keep h_n31 (by first | exact ne_b | omega)
  have h_n40 := hu.keep h_n40 (by first | exact ne_b | omega)
  have h_n51 := hu.keep h_n51 (by first | exact ne_b | omega)
  have h_n61 := hu.keep h_n61 (by first | exact ne_b | omega)
  have h_n70 := hu.keep h_n70 (by first | exact ne_b | omega)
  have h_n79 := hu.keep h_n79 (by first | exact ne_b | omega)
  have h_n86 := hu.keep h_n86 (by first | exact ne_b | omega)
  have h_n94 := hu.keep h_n94 (by first | exact ne_b | omega)
  have hE : Eqx ws0 ws (fun j => j = b) := by first | exact hE.tr (hu.eqx (by first | omega | (dsimp only <;> omega))) | exact hE.up hu (by omega)
  have h_r51 := fun (i : Nat) (hi : i < 8) => hu.keep (h_r51 i hi) (by omega)
  have hlen := hu.2.1.trans hlen
  refine r_aload_n E 0 hl rfl dX11_init_99 ?_
  refine r_ldc E (v := 38400) (List.mem_of_getElem? (i := 12) rfl) (n := 38400) (by decide) dX11_init_100 ?_
  refine r_newI (N := 38400) E h ⟨rfl, by decide⟩ (List.mem_of_getElem? (i := 4) rfl) (by show 0 + 1 + 1 + 1 + 1 + 1 + 8 + 1 + 1 + 1 + 1 + 1 + 1 ≤ 30; omega) (by show 0 + 600 + 1111 + 1111 + 1111 + 8 + 8 * 1111 + 38400 + 6400 + 6400 + 4 + 42 + 38400 ≤ 120000; omega) dX11_init_102 (fun a_102 ws H hu h => ?_)
  have h_t9 := hu.keep h_t9
  have h_n8 := hu.keep h_n8
  have h_n22 := hu.keep h_n22
  have h_n31 := hu.keep h_n31
  have h_n40 := hu.keep h_n40
  have h_n51 := hu.keep h_n51
  have h_n61 := hu.keep h_n61
  have h_n70 := hu.keep h_n70
  have h_n79 := hu.keep h_n79
  have h_n86 := hu.keep h_n86
  have h_n94 := hu.keep h_n94
  have h_n102 : ws[b + 1 + 18]? = some (a_102, aI cy 38400 ((fun _ => 0))) := by have h9 := hu.new; rwa [hlen] at h9
  have h_r51 := fun (i : Nat) (hi : i < 8) => hu.keep (h_r51 i hi)
  have hlen : ws.length = b + 1 + 19 := hu.len.trans (congrArg (fun x => x + 1) hlen)
  have hE := hE.tr hu.eqx
  refine r_putF E hin h h_t9 rfl inn_X11_init_11 21 (by decide) fl_X11_init_47 tyX11 tyX11_ok nmX11 rfl rfl rfl rfl (Nat.le_of_ble_eq_true rfl) dX11_init_104 (fun ws H locs h hu => ?_)
  have h_t9 : ws[b]? = some (a, .inr (11, [.int (zI 0), .ref a_8, .int (zI 0), .int (zI 0), .int (zI 0), .int (zI 0), .int (zI 0), .int (zI (-1)), .ref a_22, .ref a_31, .ref a_40, .ref a_51, .int (zI 0), .int (zI 0), .int (zI 0), .ref a_61, .ref a_70, .ref a_79, .ref a_86, .int (zI 0), .ref a_94, .ref a_102, .null, .int (zI 0), .int (zI 0), .null, .int (zI 0), .int (zI 0)])) := hu.1
  have h_n8 := hu.keep h_n8 (by first | exact ne_b | omega)
  have h_n22 := hu.keep h_n22 (by first | exact ne_b | omega)
  have h_n31 := hu.keep h_n31 (by first | exact ne_b | omega)
  have h_n40 := hu.keep h_n40 (by first | exact ne_b | omega)
  have h_n51 := hu.keep h_n51 (by first | exact ne_b | omega)
  have h_n61 := hu.keep h_n61 (by first | exact ne_b | omega)
  have h_n70 := hu.keep h_n70 (by first | exact ne_b | omega)
  have h_n79 := hu.keep h_n79 (by first | exact ne_b | omega)
  have h_n86 := hu.keep h_n86 (by first | exact ne_b | omega)
  have h_n94 := hu.keep h_n94 (by first | exact ne_b | omega)
  have h_n102 := hu.keep h_n102 (by first | exact ne_b | omega)
  have hE : Eqx ws0 ws (fun j => j = b) := by first | exact hE.tr (hu.eqx (by first | omega | (dsimp only <;> omega))) | exact hE.up hu (by omega)
  have h_r51 := fun (i : Nat) (hi : i < 8) => hu.keep (h_r51 i hi) (by omega)
  have hlen := hu.2.1.trans hlen
  refine r_aload_n E 0 hl rfl dX11_init_107 ?_
  refine r_sipush E dX11_init_108 (by decide) ?_
  refine r_newL (N := 1000) E h ⟨rfl, by decide⟩ (List.mem_of_getElem? (i := 19) rfl) (by show 0 + 1 + 1 + 1 + 1 + 1 + 8 + 1 + 1 + 1 + 1 + 1 + 1 + 1 ≤ 30; omega) (by show 0 + 600 + 1111 + 1111 + 1111 + 8 + 8 * 1111 + 38400 + 6400 + 6400 + 4 + 42 + 38400 + 1000 ≤ 120000; omega) dX11_init_111 (fun a_111 ws H hu h => ?_)
  have h_t9 := hu.keep h_t9
  have h_n8 := hu.keep h_n8
  have h_n22 := hu.keep h_n22
  have h_n31 := hu.keep h_n31
  have h_n40 := hu.keep h_n40
  have h_n51 := hu.keep h_n51
  have h_n61 := hu.keep h_n61
  have h_n70 := hu.keep h_n70
  have h_n79 := hu.keep h_n79
  have h_n86 := hu.keep h_n86
  have h_n94 := hu.keep h_n94
  have h_n102 := hu.keep h_n102
  have h_n111 : ws[b + 1 + 19]? = some (a_111, aL cy 1000 ((fun _ => 0))) := by have h9 := hu.new; rwa [hlen] at h9
  have h_r51 := fun (i : Nat) (hi : i < 8) => hu.keep (h_r51 i hi)
  have hlen : ws.length = b + 1 + 20 := hu.len.trans (congrArg (fun x => x + 1) hlen)
  have hE := hE.tr hu.eqx
  refine r_putF E hin h h_t9 rfl inn_X11_init_11 22 (by decide) fl_X11_init_50 tyX11 tyX11_ok nmX11 rfl rfl rfl rfl (Nat.le_of_ble_eq_true rfl) dX11_init_113 (fun ws H locs h hu => ?_)
  have h_t9 : ws[b]? = some (a, .inr (11, [.int (zI 0), .ref a_8, .int (zI 0), .int (zI 0), .int (zI 0), .int (zI 0), .int (zI 0), .int (zI (-1)), .ref a_22, .ref a_31, .ref a_40, .ref a_51, .int (zI 0), .int (zI 0), .int (zI 0), .ref a_61, .ref a_70, .ref a_79, .ref a_86, .int (zI 0), .ref a_94, .ref a_102, .ref a_111, .int (zI 0), .int (zI 0), .null, .int (zI 0), .int (zI 0)])) := hu.1
  have h_n8 := hu.keep h_n8 (by first | exact ne_b | omega)
  have h_n22 := hu.keep h_n22 (by first | exact ne_b | omega)
  have h_n31 := hu.keep h_n31 (by first | exact ne_b | omega)
  have h_n40 := hu.keep h_n40 (by first | exact ne_b | omega)
  have h_n51 := hu.keep h_n51 (by first | exact ne_b | omega)
  have h_n61 := hu.keep h_n61 (by first | exact ne_b | omega)
  have h_n70 := hu.keep h_n70 (by first | exact ne_b | omega)
  have h_n79 := hu.keep h_n79 (by first | exact ne_b | omega)
  have h_n86 := hu.keep h_n86 (by first | exact ne_b | omega)
  have h_n94 := hu.keep h_n94 (by first | exact ne_b | omega)
  have h_n102 := hu.keep h_n102 (by first | exact ne_b | omega)
  have h_n111 := hu.keep h_n111 (by first | exact ne_b | omega)
  have hE : Eqx ws0 ws (fun j => j = b) := by first | exact hE.tr (hu.eqx (by first | omega | (dsimp only <;> omega))) | exact hE.up hu (by omega)
  have h_r51 := fun (i : Nat) (hi : i < 8) => hu.keep (h_r51 i hi) (by omega)
  have hlen := hu.2.1.trans hlen
  refine r_aload_n E 0 hl rfl dX11_init_116 ?_
  refine r_bipush E dX11_init_117 (by decide) ?_
  refine r_newI (N := 40) E h ⟨rfl, by decide⟩ (List.mem_of_getElem? (i := 4) rfl) (by show 0 + 1 + 1 + 1 + 1 + 1 + 8 + 1 + 1 + 1 + 1 + 1 + 1 + 1 + 1 ≤ 30; omega) (by show 0 + 600 + 1111 + 1111 + 1111 + 8 + 8 * 1111 + 38400 + 6400 + 6400 + 4 + 42 + 38400 + 1000 + 40 ≤ 120000; omega) dX11_init_119 (fun a_119 ws H hu h => ?_)
  have h_t9 := hu.keep h_t9
  have h_n8 := hu.keep h_n8
  have h_n22 := hu.keep h_n22
  have h_n31 := hu.keep h_n31
  have h_n40 := hu.keep h_n40
  have h_n51 := hu.keep h_n51
  have h_n61 := hu.keep h_n61
  have h_n70 := hu.keep h_n70
  have h_n79 := hu.keep h_n79
  have h_n86 := hu.keep h_n86
  have h_n94 := hu.keep h_n94
  have h_n102 := hu.keep h_n102
  have h_n111 := hu.keep h_n111
  have h_n119 : ws[b + 1 + 20]? = some (a_119, aI cy 40 ((fun _ => 0))) := by have h9 := hu.new; rwa [hlen] at h9
  have h_r51 := fun (i : Nat) (hi : i < 8) => hu.keep (h_r51 i hi)
  have hlen : ws.length = b + 1 + 21 := hu.len.trans (congrArg (fun x => x + 1) hlen)
  have hE := hE.tr hu.eqx
  refine r_putF E hin h h_t9 rfl inn_X11_init_11 25 (by decide) fl_X11_init_54 tyX11 tyX11_ok nmX11 rfl rfl rfl rfl (Nat.le_of_ble_eq_true rfl) dX11_init_121 (fun ws H locs h hu => ?_)
  have h_t9 : ws[b]? = some (a, .inr (11, [.int (zI 0), .ref a_8, .int (zI 0), .int (zI 0), .int (zI 0), .int (zI 0), .int (zI 0), .int (zI (-1)), .ref a_22, .ref a_31, .ref a_40, .ref a_51, .int (zI 0), .int (zI 0), .int (zI 0), .ref a_61, .ref a_70, .ref a_79, .ref a_86, .int (zI 0), .ref a_94, .ref a_102, .ref a_111, .int (zI 0), .int (zI 0), .ref a_119, .int (zI 0), .int (zI 0)])) := hu.1
  have h_n8 := hu.keep h_n8 (by first | exact ne_b | omega)
  have h_n22 := hu.keep h_n22 (by first | exact ne_b | omega)
  have h_n31 := hu.keep h_n31 (by first | exact ne_b | omega)
  have h_n40 := hu.keep h_n40 (by first | exact ne_b | omega)
  have h_n51 := hu.keep h_n51 (by first | exact ne_b | omega)
  have h_n61 := hu.keep h_n61 (by first | exact ne_b | omega)
  have h_n70 := hu.keep h_n70 (by first | exact ne_b | omega)
  have h_n79 := hu.keep h_n79 (by first | exact ne_b | omega)
  have h_n86 := hu.keep h_n86 (by first | exact ne_b | omega)
  have h_n94 := hu.keep h_n94 (by first | exact ne_b | omega)
  have h_n102 := hu.keep h_n102 (by first | exact ne_b | omega)
  have h_n111 := hu.keep h_n111 (by first | exact ne_b | omega)
  have h_n119 := hu.keep h_n119 (by first | exact ne_b | omega)
  have hE : Eqx ws0 ws (fun j => j = b) := by first | exact hE.tr (hu.eqx (by first | omega | (dsimp only <;> omega))) | exact hE.up hu (by omega)
  have h_r51 := fun (i : Nat) (hi : i < 8) => hu.keep (h_r51 i hi) (by omega)
  have hlen := hu.2.1.trans hlen
  refine W.widen (k := 30) (n := 120000) (by show 0 + 1 + 1 + 1 + 1 + 1 + 8 + 1 + 1 + 1 + 1 + 1 + 1 + 1 + 1 ≤ 30; omega) (by show 0 + 600 + 1111 + 1111 + 1111 + 8 + 8 * 1111 + 38400 + 6400 + 6400 + 4 + 42 + 38400 + 1000 + 40 ≤ 120000; omega) ?_
  exact r_vret E h ⟨fun k => [0, a_8, 0, 0, 0, 0, 0, 0, a_22, a_31, a_40, a_51, 0, 0, 0, a_61, a_70, a_79, a_86, 0, a_94, a_102, a_111, 0, 0, a_119, 0, 0].getD k 0, r_51, _, h_t9, h_n8, h_n22, h_n31, h_n40, h_n61, h_n70, h_n79, h_n86, h_n94, h_n102, h_n111, h_n119, h_n51, fun i hi => by show (if (i : Int) < 8 then some (r_51 (i : Int).toNat) else none) = some (r_51 i); rw [if_pos (by omega)]; congr 1, h_r51, hlen, hE⟩ dX11_init_124
