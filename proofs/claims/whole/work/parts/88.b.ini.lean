theorem ne_hi {q B k : Nat} (h : q < B) : B + k ≠ q := Nat.ne_of_gt (Nat.lt_of_lt_of_le h (Nat.le_add_right _ _))
theorem ne_hi0 {q B : Nat} (h : q < B) : B ≠ q := Nat.ne_of_gt h
theorem ne_b {b k : Nat} : b + 1 + k ≠ b := by omega
theorem hd_X7_init : yX7_init.cls ≠ "java/lang/invoke/MethodHandle" ∧ yX7_init.cls ≠ "java/lang/invoke/VarHandle" ∧ (parseMethodDescriptor yX7_init.desc).map (fun d => d.parameters.length) = some 0 := by decide +kernel
theorem fl_X7_init_9 : Cond.fieldLink RX7 9 (TX7 0).1 (TX7 0).2.1 (TX7 0).2.2.1 ∈ wsX7_init := List.mem_of_getElem? (i := 4) rfl
theorem inn_X7_init_7 : ∀ w ∈ wsX70, w ∈ wsX7_init := fun _ h => List.mem_cons_of_mem _ (List.mem_append_left _ (List.mem_append_left _ (List.mem_append_right _ h)))
theorem fl_X7_init_15 : Cond.fieldLink RX7 15 (TX7 1).1 (TX7 1).2.1 (TX7 1).2.2.1 ∈ wsX7_init := List.mem_of_getElem? (i := 5) rfl
theorem inn_X7_init_0 : ∀ w ∈ wsX00, w ∈ wsX7_init := fun _ h => List.mem_cons_of_mem _ (List.mem_append_left _ (List.mem_append_right _ h))
theorem fl_X7_init_21 : Cond.fieldLink RX7 21 (TX7 2).1 (TX7 2).2.1 (TX7 2).2.2.1 ∈ wsX7_init := List.mem_of_getElem? (i := 9) rfl
theorem inn_X7_init_9 : ∀ w ∈ wsX90, w ∈ wsX7_init := fun _ h => List.mem_cons_of_mem _ (List.mem_append_right _ h)
theorem fl_X7_init_28 : Cond.fieldLink RX7 28 (TX7 3).1 (TX7 3).2.1 (TX7 3).2.2.1 ∈ wsX7_init := List.mem_of_getElem? (i := 13) rfl
theorem fl_X7_init_32 : Cond.fieldLink RX7 32 (TX7 4).1 (TX7 4).2.1 (TX7 4).2.2.1 ∈ wsX7_init := List.mem_of_getElem? (i := 14) rfl
theorem fl_X7_init_35 : Cond.fieldLink RX7 35 (TX7 5).1 (TX7 5).2.1 (TX7 5).2.2.1 ∈ wsX7_init := List.mem_of_getElem? (i := 15) rfl
theorem fl_X7_init_40 : Cond.fieldLink RX7 40 (TX7 6).1 (TX7 6).2.1 (TX7 6).2.2.1 ∈ wsX7_init := List.mem_of_getElem? (i := 17) rfl
theorem fl_X7_init_44 : Cond.fieldLink RX7 44 (TX7 7).1 (TX7 7).2.1 (TX7 7).2.2.1 ∈ wsX7_init := List.mem_of_getElem? (i := 18) rfl
theorem fl_X7_init_47 : Cond.fieldLink RX7 47 (TX7 8).1 (TX7 8).2.1 (TX7 8).2.2.1 ∈ wsX7_init := List.mem_of_getElem? (i := 20) rfl
theorem fl_X7_init_51 : Cond.fieldLink RX7 51 (TX7 9).1 (TX7 9).2.1 (TX7 9).2.2.1 ∈ wsX7_init := List.mem_of_getElem? (i := 21) rfl
abbrev rm_X7_init : Room := { frames := 2, cells := 6, slots := 630, locals := 44 }
set_option maxHeartbeats 1200000 in
set_option maxRecDepth 100000 in
theorem k_X7_init (l : Launch) {G : va_G} {cy : Nat → ClassId} {ws0 : va_W} {q a B : Nat} (h_t9 : ws0[q]? = some (a, .inr (7, [.int (zI 0), .int (zI 0), .null, .null, .int (zI 0), .int (zI 0), .null, .int (zI 0), .null, .int (zI 0)]))) (hlen : ws0.length = B) : MVk l yX7_init wsX7_init rm_X7_init G cy [.ref a] ws0 (fun u => ∃ aco acp atk atx arl apg : Nat, u[q]? = some (a, .inr (7, [.int (zI 0), .int (zI (-1)), .ref aco, .ref atk, .int (zI 0), .int (zI 0), .ref arl, .int (zI 0), .ref apg, .int (zI 0)])) ∧ u[B]? = some (aco, .inr (0, [.ref acp, .long (fmk 0 (fun _ => 0))])) ∧ u[B + 1]? = some (acp, aL cy 4 (mk 0 (fun _ => 0))) ∧ u[B + 2]? = some (atk, .inr (9, [.int (zI 0), .int (zI 0), .int (zI 0), .ref atx, .int (zI 0), .int (zI 0)])) ∧ u[B + 3]? = some (atx, aB cy 0 (fun _ => 0)) ∧ u[B + 4]? = some (arl, aR cy 4 4 (fun _ => none)) ∧ u[B + 5]? = some (apg, aI cy 600 (fun _ => 0)) ∧ u.length = B + 6 ∧ Eqx ws0 u (fun j => j = q)) := by
  refine MVk.of (own := RX7) (cc := cX7_init) (nL := 1) (ret := none) (by decide) rfl rfl (Nat.le_of_ble_eq_true rfl) ?_
  intro p e s m below meth c A ls hX hin E h hl
  have hl : lv_has ls 1 [(0, .ref a)] := hl
  have hE : Eqx ws0 ws0 (fun j => j = q) := Eqx.rf
  have hqB : q < B := by have := lt_of_at h_t9; omega
  have hlen0 := hlen
  refine r_aload_n E 0 hl rfl dX7_init_0 ?_
  refine r_objI E (List.mem_of_getElem? (i := 1) rfl) (List.mem_of_getElem? (i := 2) rfl) (List.mem_of_getElem? (i := 3) rfl) hl.1 ⟨by decide, Nat.le_of_ble_eq_true rfl⟩ dX7_init_1 ?_
  refine r_aload_n E 0 hl rfl dX7_init_4 ?_
  refine r_iconst E dX7_init_5 ?_
  refine r_put E h h_t9 rfl inn_X7_init_7 0 (by decide) fl_X7_init_9 tyX7 tyX7_ok nmX7 rfl rfl rfl (Nat.le_of_ble_eq_true rfl) dX7_init_6 (fun ws H locs h hu => ?_)
  have h_t9 : ws[q]? = some (a, .inr (7, [.int (zI 0), .int (zI 0), .null, .null, .int (zI 0), .int (zI 0), .null, .int (zI 0), .null, .int (zI 0)])) := hu.1
  have hE : Eqx ws0 ws (fun j => j = q) := by first | exact hE.tr (hu.eqx (by first | omega | (dsimp only <;> omega))) | exact hE.up hu (by omega)
  have hlen := hu.2.1.trans hlen
  refine r_aload_n E 0 hl rfl dX7_init_9 ?_
  refine r_iconst E dX7_init_10 ?_
  refine r_put E h h_t9 rfl inn_X7_init_7 1 (by decide) fl_X7_init_15 tyX7 tyX7_ok nmX7 rfl rfl rfl (Nat.le_of_ble_eq_true rfl) dX7_init_11 (fun ws H locs h hu => ?_)
  have h_t9 : ws[q]? = some (a, .inr (7, [.int (zI 0), .int (zI (-1)), .null, .null, .int (zI 0), .int (zI 0), .null, .int (zI 0), .null, .int (zI 0)])) := hu.1
  have hE : Eqx ws0 ws (fun j => j = q) := by first | exact hE.tr (hu.eqx (by first | omega | (dsimp only <;> omega))) | exact hE.up hu (by omega)
  have hlen := hu.2.1.trans hlen
  refine r_aload_n E 0 hl rfl dX7_init_14 ?_
  refine r_newO (ci := 0) (fs := [.null, .long ((zL 0))]) E h rfl inn_X7_init_0 tyX0 tyX0_ok (List.mem_of_getElem? (i := 6) rfl) (List.mem_of_getElem? (i := 7) rfl) (List.mem_of_getElem? (i := 8) rfl) (fun j hj => by rcases (show j = 0 ∨ j = 1 by omega) with rfl | rfl <;> rfl) (by show 0 + 1 ≤ 6; omega) (by show 0 + 2 ≤ 630; omega) dX7_init_15 (fun a_15 ws H hu h => ?_)
  have h_t9 := hu.keep h_t9
  have h_n15 : ws[B]? = some (a_15, .inr (0, [.null, .long ((zL 0))])) := by have h9 := hu.new; rwa [hlen] at h9
  have hlen : ws.length = B + 1 := by have h9 := hu.len; omega
  have hE := hE.tr hu.eqx
  refine r_dup E dX7_init_18 rfl ?_
  refine r_callNI E hX h (As := []) (rest := [.ref a_15, .ref a]) (k_X0_init l h_n15 hlen) gX7_init_X0_init_n20 rfl (by decide +kernel) (List.mem_of_getElem? (i := 8) rfl) (List.mem_of_getElem? (i := 22) rfl) rfl hd_X0_init (by decide) ⟨by show 0 + 1 + 1 ≤ 6; omega, by show 0 + 2 + 4 ≤ 630; omega⟩ hl.1 rfl (Nat.le_of_ble_eq_true rfl) dX7_init_19 rfl (fun ws H locs hp h => ?_)
  obtain ⟨apn15, h_n15, h_n15p, hlen, hf⟩ := hp
  have h_t9 := hf.at h_t9 (by first | omega | exact (fun q => q) | (dsimp only <;> omega))
  have hlen : ws.length = B + 2 := by omega
  have hE := hE.trG hf (fun j hj hY => by first | omega | (dsimp only at hY ⊢ <;> omega))
  refine r_putF E hin h h_t9 rfl inn_X7_init_7 2 (by decide) fl_X7_init_21 tyX7 tyX7_ok nmX7 rfl rfl rfl rfl (Nat.le_of_ble_eq_true rfl) dX7_init_22 (fun ws H locs h hu => ?_)
  have h_t9 : ws[q]? = some (a, .inr (7, [.int (zI 0), .int (zI (-1)), .ref a_15, .null, .int (zI 0), .int (zI 0), .null, .int (zI 0), .null, .int (zI 0)])) := hu.1
  have h_n15 := hu.keep h_n15 (by first | exact ne_hi hqB | exact ne_hi0 hqB | omega)
  have h_n15p := hu.keep h_n15p (by first | exact ne_hi hqB | exact ne_hi0 hqB | omega)
  have hE : Eqx ws0 ws (fun j => j = q) := by first | exact hE.tr (hu.eqx (by first | omega | (dsimp only <;> omega))) | exact hE.up hu (by omega)
  have hlen := hu.2.1.trans hlen
  refine r_aload_n E 0 hl rfl dX7_init_25 ?_
  refine r_newO (ci := 9) (fs := [.int (zI 0), .int (zI 0), .int (zI 0), .null, .int (zI 0), .int (zI 0)]) E h rfl inn_X7_init_9 tyX9 tyX9_ok (List.mem_of_getElem? (i := 10) rfl) (List.mem_of_getElem? (i := 11) rfl) (List.mem_of_getElem? (i := 12) rfl) (fun j hj => by rcases (show j = 0 ∨ j = 1 ∨ j = 2 ∨ j = 3 ∨ j = 4 ∨ j = 5 by omega) with rfl | rfl | rfl | rfl | rfl | rfl <;> rfl) (by show 0 + 1 + 1 + 1 ≤ 6; omega) (by show 0 + 2 + 4 + 6 ≤ 630; omega) dX7_init_26 (fun a_26 ws H hu h => ?_)
  have h_t9 := hu.keep h_t9
  have h_n15 := hu.keep h_n15
  have h_n15p := hu.keep h_n15p
  have h_n26 : ws[B + 2]? = some (a_26, .inr (9, [.int (zI 0), .int (zI 0), .int (zI 0), .null, .int (zI 0), .int (zI 0)])) := by have h9 := hu.new; rwa [hlen] at h9
  have hlen : ws.length = B + 3 := by have h9 := hu.len; omega
  have hE := hE.tr hu.eqx
  refine r_dup E dX7_init_29 rfl ?_
  refine r_callNI E hX h (As := []) (rest := [.ref a_26, .ref a]) (k_X9_init l h_n26 hlen) gX7_init_X9_init_n27 rfl (by decide +kernel) (List.mem_of_getElem? (i := 12) rfl) (List.mem_of_getElem? (i := 28) rfl) rfl hd_X9_init (by decide) ⟨by show 0 + 1 + 1 + 1 + 1 ≤ 6; omega, by show 0 + 2 + 4 + 6 + 0 ≤ 630; omega⟩ hl.1 rfl (Nat.le_of_ble_eq_true rfl) dX7_init_30 rfl (fun ws H locs hp h => ?_)
  obtain ⟨atn26, h_n26, h_n26t, hlen, hf⟩ := hp
  have h_t9 := hf.at h_t9 (by first | omega | exact (fun q => q) | (dsimp only <;> omega))
  have h_n15 := hf.at h_n15 (by first | omega | exact (fun q => q) | (dsimp only <;> omega))
  have h_n15p := hf.at h_n15p (by first | omega | exact (fun q => q) | (dsimp only <;> omega))
  have hlen : ws.length = B + 4 := by omega
  have hE := hE.trG hf (fun j hj hY => by first | omega | (dsimp only at hY ⊢ <;> omega))
  refine r_putF E hin h h_t9 rfl inn_X7_init_7 3 (by decide) fl_X7_init_28 tyX7 tyX7_ok nmX7 rfl rfl rfl rfl (Nat.le_of_ble_eq_true rfl) dX7_init_33 (fun ws H locs h hu => ?_)
  have h_t9 : ws[q]? = some (a, .inr (7, [.int (zI 0), .int (zI (-1)), .ref a_15, .ref a_26, .int (zI 0), .int (zI 0), .null, .int (zI 0), .null, .int (zI 0)])) := hu.1
  have h_n15 := hu.keep h_n15 (by first | exact ne_hi hqB | exact ne_hi0 hqB | omega)
  have h_n15p := hu.keep h_n15p (by first | exact ne_hi hqB | exact ne_hi0 hqB | omega)
  have h_n26 := hu.keep h_n26 (by first | exact ne_hi hqB | exact ne_hi0 hqB | omega)
  have h_n26t := hu.keep h_n26t (by first | exact ne_hi hqB | exact ne_hi0 hqB | omega)
  have hE : Eqx ws0 ws (fun j => j = q) := by first | exact hE.tr (hu.eqx (by first | omega | (dsimp only <;> omega))) | exact hE.up hu (by omega)
  have hlen := hu.2.1.trans hlen
  refine r_aload_n E 0 hl rfl dX7_init_36 ?_
  refine r_iconst E dX7_init_37 ?_
  refine r_put E h h_t9 rfl inn_X7_init_7 4 (by decide) fl_X7_init_32 tyX7 tyX7_ok nmX7 rfl rfl rfl (Nat.le_of_ble_eq_true rfl) dX7_init_38 (fun ws H locs h hu => ?_)
  have h_t9 : ws[q]? = some (a, .inr (7, [.int (zI 0), .int (zI (-1)), .ref a_15, .ref a_26, .int (zI 0), .int (zI 0), .null, .int (zI 0), .null, .int (zI 0)])) := hu.1
  have h_n15 := hu.keep h_n15 (by first | exact ne_hi hqB | exact ne_hi0 hqB | omega)
  have h_n15p := hu.keep h_n15p (by first | exact ne_hi hqB | exact ne_hi0 hqB | omega)
  have h_n26 := hu.keep h_n26 (by first | exact ne_hi hqB | exact ne_hi0 hqB | omega)
  have h_n26t := hu.keep h_n26t (by first | exact ne_hi hqB | exact ne_hi0 hqB | omega)
  have hE : Eqx ws0 ws (fun j => j = q) := by first | exact hE.tr (hu.eqx (by first | omega | (dsimp only <;> omega))) | exact hE.up hu (by omega)
  have hlen := hu.2.1.trans hlen
  refine r_aload_n E 0 hl rfl dX7_init_41 ?_
  refine r_iconst E dX7_init_42 ?_
  refine r_put E h h_t9 rfl inn_X7_init_7 5 (by decide) fl_X7_init_35 tyX7 tyX7_ok nmX7 rfl rfl rfl (Nat.le_of_ble_eq_true rfl) dX7_init_43 (fun ws H locs h hu => ?_)
  have h_t9 : ws[q]? = some (a, .inr (7, [.int (zI 0), .int (zI (-1)), .ref a_15, .ref a_26, .int (zI 0), .int (zI 0), .null, .int (zI 0), .null, .int (zI 0)])) := hu.1
  have h_n15 := hu.keep h_n15 (by first | exact ne_hi hqB | exact ne_hi0 hqB | omega)
  have h_n15p := hu.keep h_n15p (by first | exact ne_hi hqB | exact ne_hi0 hqB | omega)
  have h_n26 := hu.keep h_n26 (by first | exact ne_hi hqB | exact ne_hi0 hqB | omega)
  have h_n26t := hu.keep h_n26t (by first | exact ne_hi hqB | exact ne_hi0 hqB | omega)
  have hE : Eqx ws0 ws (fun j => j = q) := by first | exact hE.tr (hu.eqx (by first | omega | (dsimp only <;> omega))) | exact hE.up hu (by omega)
  have hlen := hu.2.1.trans hlen
  refine r_aload_n E 0 hl rfl dX7_init_46 ?_
  refine r_iconst E dX7_init_47 ?_
  refine r_newRk (t := 4) (N := 4) E h rfl ⟨rfl, by decide⟩ (List.mem_of_getElem? (i := 16) rfl) (hX.ao (by decide)) (by show 0 + 1 + 1 + 1 + 1 + 1 ≤ 6; omega) (by show 0 + 2 + 4 + 6 + 0 + 4 ≤ 630; omega) dX7_init_48 (fun a_48 ws H hu h => ?_)
  have h_t9 := hu.keep h_t9
  have h_n15 := hu.keep h_n15
  have h_n15p := hu.keep h_n15p
  have h_n26 := hu.keep h_n26
  have h_n26t := hu.keep h_n26t
  have h_n48 : ws[B + 4]? = some (a_48, aR cy 4 4 ((fun _ => none))) := by have h9 := hu.new; rwa [hlen] at h9
  have hlen : ws.length = B + 5 := by have h9 := hu.len; omega
  have hE := hE.tr hu.eqx
  refine r_putF E hin h h_t9 rfl inn_X7_init_7 6 (by decide) fl_X7_init_40 tyX7 tyX7_ok nmX7 rfl rfl rfl rfl (Nat.le_of_ble_eq_true rfl) dX7_init_51 (fun ws H locs h hu => ?_)
  have h_t9 : ws[q]? = some (a, .inr (7, [.int (zI 0), .int (zI (-1)), .ref a_15, .ref a_26, .int (zI 0), .int (zI 0), .ref a_48, .int (zI 0), .null, .int (zI 0)])) := hu.1
  have h_n15 := hu.keep h_n15 (by first | exact ne_hi hqB | exact ne_hi0 hqB | omega)
  have h_n15p := hu.keep h_n15p (by first | exact ne_hi hqB | exact ne_hi0 hqB | omega)
  have h_n26 := hu.keep h_n26 (by first | exact ne_hi hqB | exact ne_hi0 hqB | omega)
  have h_n26t := hu.keep h_n26t (by first | exact ne_hi hqB | exact ne_hi0 hqB | omega)
  have h_n48 := hu.keep h_n48 (by first | exact ne_hi hqB | exact ne_hi0 hqB | omega)
  have hE : Eqx ws0 ws (fun j => j = q) := by first | exact hE.tr (hu.eqx (by first | omega | (dsimp only <;> omega))) | exact hE.up hu (by omega)
  have hlen := hu.2.1.trans hlen
  refine r_aload_n E 0 hl rfl dX7_init_54 ?_
  refine r_iconst E dX7_init_55 ?_
  refine r_put E h h_t9 rfl inn_X7_init_7 7 (by decide) fl_X7_init_44 tyX7 tyX7_ok nmX7 rfl rfl rfl (Nat.le_of_ble_eq_true rfl) dX7_init_56 (fun ws H locs h hu => ?_)
  have h_t9 : ws[q]? = some (a, .inr (7, [.int (zI 0), .int (zI (-1)), .ref a_15, .ref a_26, .int (zI 0), .int (zI 0), .ref a_48, .int (zI 0), .null, .int (zI 0)])) := hu.1
  have h_n15 := hu.keep h_n15 (by first | exact ne_hi hqB | exact ne_hi0 hqB | omega)
  have h_n15p := hu.keep h_n15p (by first | exact ne_hi hqB | exact ne_hi0 hqB | omega)
  have h_n26 := hu.keep h_n26 (by first | exact ne_hi hqB | exact ne_hi0 hqB | omega)
  have h_n26t := hu.keep h_n26t (by first | exact ne_hi hqB | exact ne_hi0 hqB | omega)
  have h_n48 := hu.keep h_n48 (by first | exact ne_hi hqB | exact ne_hi0 hqB | omega)
  have hE : Eqx ws0 ws (fun j => j = q) := by first | exact hE.tr (hu.eqx (by first | omega | (dsimp only <;> omega))) | exact hE.up hu (by omega)
  have hlen := hu.2.1.trans hlen
  refine r_aload_n E 0 hl rfl dX7_init_59 ?_
  refine r_sipush E dX7_init_60 (by decide) ?_
  refine r_newI (N := 600) E h ⟨rfl, by decide⟩ (List.mem_of_getElem? (i := 19) rfl) (by show 0 + 1 + 1 + 1 + 1 + 1 + 1 ≤ 6; omega) (by show 0 + 2 + 4 + 6 + 0 + 4 + 600 ≤ 630; omega) dX7_init_63 (fun a_63 ws H hu h => ?_)
  have h_t9 := hu.keep h_t9
  have h_n15 := hu.keep h_n15
  have h_n15p := hu.keep h_n15p
  have h_n26 := hu.keep h_n26
  have h_n26t := hu.keep h_n26t
  have h_n48 := hu.keep h_n48
  have h_n63 : ws[B + 5]? = some (a_63, aI cy 600 ((fun _ => 0))) := by have h9 := hu.new; rwa [hlen] at h9
  have hlen : ws.length = B + 6 := by have h9 := hu.len; omega
  have hE := hE.tr hu.eqx
  refine r_putF E hin h h_t9 rfl inn_X7_init_7 8 (by decide) fl_X7_init_47 tyX7 tyX7_ok nmX7 rfl rfl rfl rfl (Nat.le_of_ble_eq_true rfl) dX7_init_65 (fun ws H locs h hu => ?_)
  have h_t9 : ws[q]? = some (a, .inr (7, [.int (zI 0), .int (zI (-1)), .ref a_15, .ref a_26, .int (zI 0), .int (zI 0), .ref a_48, .int (zI 0), .ref a_63, .int (zI 0)])) := hu.1
  have h_n15 := hu.keep h_n15 (by first | exact ne_hi hqB | exact ne_hi0 hqB | omega)
  have h_n15p := hu.keep h_n15p (by first | exact ne_hi hqB | exact ne_hi0 hqB | omega)
  have h_n26 := hu.keep h_n26 (by first | exact ne_hi hqB | exact ne_hi0 hqB | omega)
  have h_n26t := hu.keep h_n26t (by first | exact ne_hi hqB | exact ne_hi0 hqB | omega)
  have h_n48 := hu.keep h_n48 (by first | exact ne_hi hqB | exact ne_hi0 hqB | omega)
  have h_n63 := hu.keep h_n63 (by first | exact ne_hi hqB | exact ne_hi0 hqB | omega)
  have hE : Eqx ws0 ws (fun j => j = q) := by first | exact hE.tr (hu.eqx (by first | omega | (dsimp only <;> omega))) | exact hE.up hu (by omega)
  have hlen := hu.2.1.trans hlen
  refine r_aload_n E 0 hl rfl dX7_init_68 ?_
  refine r_iconst E dX7_init_69 ?_
  refine r_put E h h_t9 rfl inn_X7_init_7 9 (by decide) fl_X7_init_51 tyX7 tyX7_ok nmX7 rfl rfl rfl (Nat.le_of_ble_eq_true rfl) dX7_init_70 (fun ws H locs h hu => ?_)
  have h_t9 : ws[q]? = some (a, .inr (7, [.int (zI 0), .int (zI (-1)), .ref a_15, .ref a_26, .int (zI 0), .int (zI 0), .ref a_48, .int (zI 0), .ref a_63, .int (zI 0)])) := hu.1
  have h_n15 := hu.keep h_n15 (by first | exact ne_hi hqB | exact ne_hi0 hqB | omega)
  have h_n15p := hu.keep h_n15p (by first | exact ne_hi hqB | exact ne_hi0 hqB | omega)
  have h_n26 := hu.keep h_n26 (by first | exact ne_hi hqB | exact ne_hi0 hqB | omega)
  have h_n26t := hu.keep h_n26t (by first | exact ne_hi hqB | exact ne_hi0 hqB | omega)
  have h_n48 := hu.keep h_n48 (by first | exact ne_hi hqB | exact ne_hi0 hqB | omega)
  have h_n63 := hu.keep h_n63 (by first | exact ne_hi hqB | exact ne_hi0 hqB | omega)
  have hE : Eqx ws0 ws (fun j => j = q) := by first | exact hE.tr (hu.eqx (by first | omega | (dsimp only <;> omega))) | exact hE.up hu (by omega)
  have hlen := hu.2.1.trans hlen
  refine W.widen (k := 6) (n := 630) (by show 0 + 1 + 1 + 1 + 1 + 1 + 1 ≤ 6; omega) (by show 0 + 2 + 4 + 6 + 0 + 4 + 600 ≤ 630; omega) ?_
  exact r_vret E h ⟨_, _, _, _, _, _, h_t9, h_n15, h_n15p, h_n26, h_n26t, h_n48, h_n63, hlen, hE⟩ dX7_init_73
