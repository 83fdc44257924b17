/-- the class's cells but the table, the colouring, the history and the setups; the address of the k-th cell is xa k -/
def CF (cy : Nat → ClassId) (u : va_W) (xa : Nat → Nat) (bl erp : Int) (bm : Int → Int) (asu : Nat) : Prop :=
  u[0]? = some (xa 0, .inr (10, [.ref (xa 1), .int (zI bl), .int (zI erp), .ref asu, .ref (xa 2), .ref (xa 9), .ref (xa 16), .ref (xa 18), .ref (xa 25), .ref (xa 27)])) ∧ u[1]? = some (xa 1, aB cy 600 (fun i => sg (bm i))) ∧ RDS cy u 2 (xa 2) (xa 3) (xa 4) (xa 5) (xa 7) (xa 8)
def CS (cy : Nat → ClassId) (u : va_W) (xa : Nat → Nat) : Prop := ∃ (tot dee : Int) (F : Int64) (P : Int → Int64) (op tr : Int → Int), u[18]? = some (xa 18, .inr (5, [.ref (xa 19), .ref (xa 21), .ref (xa 23), .ref (xa 24), .int (zI tot), .int (zI dee)])) ∧ u[19]? = some (xa 19, .inr (0, [.ref (xa 20), .long F])) ∧ u[20]? = some (xa 20, aL cy 4 P) ∧ u[21]? = some (xa 21, .inr (0, [.ref (xa 22), .long (fmk 0 (fun _ => 0))])) ∧ u[22]? = some (xa 22, aL cy 4 (mk 0 (fun _ => 0))) ∧ u[23]? = some (xa 23, aI cy 40 op) ∧ u[24]? = some (xa 24, aI cy 40 tr)
def CR (cy : Nat → ClassId) (u : va_W) (xa : Nat → Nat) : Prop := ∃ (gn nu co : Int) (ch : Int → Int), u[25]? = some (xa 25, .inr (3, [.int (zI gn), .int (zI nu), .int (zI co), .ref (xa 26)])) ∧ u[26]? = some (xa 26, aI cy 164 ch)
/-- the table stands for d -/
def CT (cy : Nat → ClassId) (u : va_W) (xa : Nat → Nat) (d : Int → Int) (T : List Int) : Prop := ∃ (se re : Int → Int64) (wr rt wt rs : Int → Int) (sz riw : Int), u[9]? = some (xa 9, .inr (8, [.ref (xa 10), .ref (xa 11), .int (zI sz), .ref (xa 12), .int (zI riw), .ref (xa 13), .ref (xa 14), .ref (xa 15)])) ∧ u[10]? = some (xa 10, aL cy 6400 se) ∧ u[11]? = some (xa 11, aI cy 6400 wr) ∧ u[12]? = some (xa 12, aI cy 5 rt) ∧ u[13]? = some (xa 13, aI cy 656 wt) ∧ u[14]? = some (xa 14, aL cy 19200 re) ∧ u[15]? = some (xa 15, aI cy 42 rs) ∧ TW d T se wr rt wt re rs sz
/-- the colouring stands for d -/
def CO2 (cy : Nat → ClassId) (u : va_W) (xa : Nat → Nat) (d : Int → Int) : Prop := u[16]? = some (xa 16, .inr (0, [.ref (xa 17), .long (fmk (d 0) (fx d))])) ∧ u[17]? = some (xa 17, aL cy 4 (mk (d 0) (cl d)))
/-- the history's rows -/
def CH (cy : Nat → ClassId) (u : va_W) (xa : Nat → Nat) (nx kp : Int) (hs9 : Int → Option Nat) (hF : Nat → Int64) (hP : Nat → Int → Int64) : Prop := HPs u cy 27 (xa 27) (xa 28) nx kp hs9 (fun i => xa (30 + 2 * i)) (fun i => xa (31 + 2 * i)) hF hP (xa 29) ∧ ∃ hcf : Int → Option Nat, u[29]? = some (xa 29, aR cy 3 8 hcf) ∧ ∀ i : Nat, i < 8 → hcf (i : Int) = some (xa (30 + 2 * i))
def d00 : Int → Int := fun _ => 0
theorem DW_00 : DW d00 [] := ⟨by decide, by decide, by decide, by decide, fun r h0 h1 => absurd h1 (by show ¬ r < 0; omega), fun x _ _ => ⟨Int.le_refl 0, Int.le_refl 0⟩, fun x _ _ => ⟨Int.le_refl 0, by show (0 : Int) ≤ 1; decide⟩, Or.inl ⟨rfl, rfl⟩⟩
theorem KL_00 : KL d00 = [] := rfl
theorem fb_00 {x : Int} (h0 : 1 ≤ x) (h1 : x ≤ 1) : (0 : Int) = fb d00 x := by
  rw [show x = 1 by omega, fb_1]
theorem TW_00 : TW d00 [] (fun _ => zL 0) (fun _ => 0) (fun _ => 0) (fun _ => 0) (fun _ => zL 0) (fun _ => 0) 0 := by
  refine ⟨rfl, fun s q h => ?_, fun r h0 h1 => ?_, fun r g c h0 h1 => ?_, fun x h0 h1 => fb_00 h0 h1, fun x s q h0 h1 => ?_⟩
  · rw [KL_00] at h; simp at h
  · exact absurd h1 (by show ¬ r < 0; omega)
  · exact absurd h1 (by show ¬ r < 0; omega)
  · exact absurd h1 (by show ¬ x ≤ 0; omega)

theorem hd_X10_init : yX10_init.cls ≠ "java/lang/invoke/MethodHandle" ∧ yX10_init.cls ≠ "java/lang/invoke/VarHandle" ∧ (parseMethodDescriptor yX10_init.desc).map (fun d => d.parameters.length) = some 0 := by decide +kernel
theorem fl_X10_init_9 : Cond.fieldLink RX10 9 (TX10 0).1 (TX10 0).2.1 (TX10 0).2.2.1 ∈ wsX10_init := List.mem_of_getElem? (i := 5) rfl
theorem inn_X10_init_10 : ∀ w ∈ wsX100, w ∈ wsX10_init := fun _ h => List.mem_cons_of_mem _ (List.mem_append_left _ (List.mem_append_left _ (List.mem_append_left _ (List.mem_append_left _ (List.mem_append_left _ (List.mem_append_left _ (List.mem_append_left _ (List.mem_append_left _ (List.mem_append_left _ (List.mem_append_right _ h))))))))))
theorem fl_X10_init_13 : Cond.fieldLink RX10 13 (TX10 1).1 (TX10 1).2.1 (TX10 1).2.2.1 ∈ wsX10_init := List.mem_of_getElem? (i := 6) rfl
theorem fl_X10_init_17 : Cond.fieldLink RX10 17 (TX10 2).1 (TX10 2).2.1 (TX10 2).2.2.1 ∈ wsX10_init := List.mem_of_getElem? (i := 7) rfl
theorem inn_X10_init_7 : ∀ w ∈ wsX70, w ∈ wsX10_init := fun _ h => List.mem_cons_of_mem _ (List.mem_append_left _ (List.mem_append_left _ (List.mem_append_left _ (List.mem_append_left _ (List.mem_append_left _ (List.mem_append_left _ (List.mem_append_left _ (List.mem_append_left _ (List.mem_append_right _ h)))))))))
theorem fl_X10_init_23 : Cond.fieldLink RX10 23 (TX10 4).1 (TX10 4).2.1 (TX10 4).2.2.1 ∈ wsX10_init := List.mem_of_getElem? (i := 11) rfl
theorem inn_X10_init_8 : ∀ w ∈ wsX80, w ∈ wsX10_init := fun _ h => List.mem_cons_of_mem _ (List.mem_append_left _ (List.mem_append_left _ (List.mem_append_left _ (List.mem_append_left _ (List.mem_append_left _ (List.mem_append_left _ (List.mem_append_left _ (List.mem_append_right _ h))))))))
theorem fl_X10_init_30 : Cond.fieldLink RX10 30 (TX10 5).1 (TX10 5).2.1 (TX10 5).2.2.1 ∈ wsX10_init := List.mem_of_getElem? (i := 15) rfl
theorem inn_X10_init_0 : ∀ w ∈ wsX00, w ∈ wsX10_init := fun _ h => List.mem_cons_of_mem _ (List.mem_append_left _ (List.mem_append_left _ (List.mem_append_left _ (List.mem_append_left _ (List.mem_append_left _ (List.mem_append_left _ (List.mem_append_right _ h)))))))
theorem fl_X10_init_37 : Cond.fieldLink RX10 37 (TX10 6).1 (TX10 6).2.1 (TX10 6).2.2.1 ∈ wsX10_init := List.mem_of_getElem? (i := 19) rfl
theorem inn_X10_init_5 : ∀ w ∈ wsX50, w ∈ wsX10_init := fun _ h => List.mem_cons_of_mem _ (List.mem_append_left _ (List.mem_append_left _ (List.mem_append_left _ (List.mem_append_left _ (List.mem_append_left _ (List.mem_append_right _ h))))))
theorem fl_X10_init_44 : Cond.fieldLink RX10 44 (TX10 7).1 (TX10 7).2.1 (TX10 7).2.2.1 ∈ wsX10_init := List.mem_of_getElem? (i := 23) rfl
theorem inn_X10_init_3 : ∀ w ∈ wsX30, w ∈ wsX10_init := fun _ h => List.mem_cons_of_mem _ (List.mem_append_left _ (List.mem_append_left _ (List.mem_append_left _ (List.mem_append_left _ (List.mem_append_right _ h)))))
theorem fl_X10_init_51 : Cond.fieldLink RX10 51 (TX10 8).1 (TX10 8).2.1 (TX10 8).2.2.1 ∈ wsX10_init := List.mem_of_getElem? (i := 27) rfl
theorem inn_X10_init_2 : ∀ w ∈ wsX20, w ∈ wsX10_init := fun _ h => List.mem_cons_of_mem _ (List.mem_append_left _ (List.mem_append_left _ (List.mem_append_left _ (List.mem_append_right _ h))))
theorem fl_X10_init_58 : Cond.fieldLink RX10 58 (TX10 9).1 (TX10 9).2.1 (TX10 9).2.2.1 ∈ wsX10_init := List.mem_of_getElem? (i := 31) rfl
theorem inn_X10_init_6 : ∀ w ∈ wsX60, w ∈ wsX10_init := fun _ h => List.mem_cons_of_mem _ (List.mem_append_left _ (List.mem_append_left _ (List.mem_append_right _ h)))
theorem inn_X10_init_1 : ∀ w ∈ wsX10, w ∈ wsX10_init := fun _ h => List.mem_cons_of_mem _ (List.mem_append_left _ (List.mem_append_right _ h))
theorem fl_X10_init_74 : Cond.fieldLink RX10 74 (TX10 3).1 (TX10 3).2.1 (TX10 3).2.2.1 ∈ wsX10_init := List.mem_of_getElem? (i := 40) rfl
abbrev rm_X10_init : Room := { frames := 3, cells := 60, slots := 34800, locals := 65 }
set_option maxHeartbeats 1200000 in
set_option maxRecDepth 100000 in
theorem k_X10_init (l : Launch) {G : va_G} {cy : Nat → ClassId} {ws0 : va_W} {a : Nat} (h_t9 : ws0[0]? = some (a, .inr (10, [.null, .int (zI 0), .int (zI 0), .null, .null, .null, .null, .null, .null, .null]))) (hlen : ws0.length = 1) : MVk l yX10_init wsX10_init rm_X10_init G cy [.ref a] ws0 (fun u => ∃ (xa : Nat → Nat) (asu : Nat), xa 0 = a ∧ CF cy u xa 0 (-1) (fun _ => 0) asu ∧ CS cy u xa ∧ CR cy u xa ∧ CT cy u xa d00 [] ∧ CO2 cy u xa d00 ∧ CH cy u xa 0 0 (fun _ => none) (fun _ => fmk 0 (fun _ => 0)) (fun _ => mk 0 (fun _ => 0)) ∧ SUp cy u asu d00 [] (fun p => 46 ≤ p ∧ p < 50) 50 ∧ Eqx ws0 u (fun j => j = 0)) := by
  refine MVk.of (own := RX10) (cc := cX10_init) (nL := 1) (ret := none) (by decide) rfl rfl (Nat.le_of_ble_eq_true rfl) ?_
  intro p e s m below meth c A ls hX hin E h hl
  have hl : lv_has ls 1 [(0, .ref a)] := hl
  have hE : Eqx ws0 ws0 (fun j => j = 0) := Eqx.rf
  have hqB : 0 < 1 := by omega
  have hlen0 := hlen
  refine r_aload_n E 0 hl rfl dX10_init_0 ?_
  refine r_objI E (List.mem_of_getElem? (i := 1) rfl) (List.mem_of_getElem? (i := 2) rfl) (List.mem_of_getElem? (i := 3) rfl) hl.1 ⟨by decide, Nat.le_of_ble_eq_true rfl⟩ dX10_init_1 ?_
  refine r_aload_n E 0 hl rfl dX10_init_4 ?_
  refine r_sipush E dX10_init_5 (by decide) ?_
  refine r_newB (N := 600) E h ⟨rfl, by decide⟩ (List.mem_of_getElem? (i := 4) rfl) (by show 0 + 1 ≤ 60; omega) (by show 0 + 600 ≤ 34800; omega) dX10_init_8 (fun a_8 ws H hu h => ?_)
  have h_t9 := hu.keep h_t9
  have h_n8 : ws[1]? = some (a_8, aB cy 600 ((fun _ => 0))) := by have h9 := hu.new; rwa [hlen] at h9
  have hlen : ws.length = 1 + 1 := by have h9 := hu.len; omega
  have hE := hE.tr hu.eqx
  refine r_putF E hin h h_t9 rfl inn_X10_init_10 0 (by decide) fl_X10_init_9 tyX10 tyX10_ok nmX10 rfl rfl rfl rfl (Nat.le_of_ble_eq_true rfl) dX10_init_10 (fun ws H locs h hu => ?_)
  have h_t9 : ws[0]? = some (a, .inr (10, [.ref a_8, .int (zI 0), .int (zI 0), .null, .null, .null, .null, .null, .null, .null])) := hu.1
  have h_n8 := hu.keep h_n8 (by first | decide | omega)
  have hE : Eqx ws0 ws (fun j => j = 0) := by first | exact hE.tr (hu.eqx (by first | omega | (dsimp only <;> omega))) | exact hE.up hu (by omega)
  have hlen := hu.2.1.trans hlen
  refine r_aload_n E 0 hl rfl dX10_init_13 ?_
  refine r_iconst E dX10_init_14 ?_
  refine r_put E h h_t9 rfl inn_X10_init_10 1 (by decide) fl_X10_init_13 tyX10 tyX10_ok nmX10 rfl rfl rfl (Nat.le_of_ble_eq_true rfl) dX10_init_15 (fun ws H locs h hu => ?_)
  have h_t9 : ws[0]? = some (a, .inr (10, [.ref a_8, .int (zI 0), .int (zI 0), .null, .null, .null, .null, .null, .null, .null])) := hu.1
  have h_n8 := hu.keep h_n8 (by first | decide | omega)
  have hE : Eqx ws0 ws (fun j => j = 0) := by first | exact hE.tr (hu.eqx (by first | omega | (dsimp only <;> omega))) | exact hE.up hu (by omega)
  have hlen := hu.2.1.trans hlen
  refine r_aload_n E 0 hl rfl dX10_init_18 ?_
  refine r_iconst E dX10_init_19 ?_
  refine r_put E h h_t9 rfl inn_X10_init_10 2 (by decide) fl_X10_init_17 tyX10 tyX10_ok nmX10 rfl rfl rfl (Nat.le_of_ble_eq_true rfl) dX10_init_20 (fun ws H locs h hu => ?_)
  have h_t9 : ws[0]? = some (a, .inr (10, [.ref a_8, .int (zI 0), .int (zI (-1)), .null, .null, .null, .null, .null, .null, .null])) := hu.1
  have h_n8 := hu.keep h_n8 (by first | decide | omega)
  have hE : Eqx ws0 ws (fun j => j = 0) := by first | exact hE.tr (hu.eqx (by first | omega | (dsimp only <;> omega))) | exact hE.up hu (by omega)
  have hlen := hu.2.1.trans hlen
  refine r_aload_n E 0 hl rfl dX10_init_23 ?_
  refine r_newO (ci := 7) (fs := [.int (zI 0), .int (zI 0), .null, .null, .int (zI 0), .int (zI 0), .null, .int (zI 0), .null, .int (zI 0)]) E h rfl inn_X10_init_7 tyX7 tyX7_ok (List.mem_of_getElem? (i := 8) rfl) (List.mem_of_getElem? (i := 9) rfl) (List.mem_of_getElem? (i := 10) rfl) (fun j hj => by rcases (show j = 0 ∨ j = 1 ∨ j = 2 ∨ j = 3 ∨ j = 4 ∨ j = 5 ∨ j = 6 ∨ j = 7 ∨ j = 8 ∨ j = 9 by omega) with rfl | rfl | rfl | rfl | rfl | rfl | rfl | rfl | rfl | rfl <;> rfl) (by show 0 + 1 + 1 ≤ 60; omega) (by show 0 + 600 + 10 ≤ 34800; omega) dX10_init_24 (fun a_24 ws H hu h => ?_)
  have h_t9 := hu.keep h_t9
  have h_n8 := hu.keep h_n8
  have h_n24 : ws[1 + 1]? = some (a_24, .inr (7, [.int (zI 0), .int (zI 0), .null, .null, .int (zI 0), .int (zI 0), .null, .int (zI 0), .null, .int (zI 0)])) := by have h9 := hu.new; rwa [hlen] at h9
  have hlen : ws.length = 1 + 2 := by have h9 := hu.len; omega
  have hE := hE.tr hu.eqx
  refine r_dup E dX10_init_27 rfl ?_
  refine r_callNIk E hX h (As := []) (rest := [.ref a_24, .ref a]) (k_X7_init l h_n24 hlen) gX10_init_X7_init_n22 rfl (by decide +kernel) (List.mem_of_getElem? (i := 10) rfl) (List.mem_of_getElem? (i := 41) rfl) rfl hd_X7_init (by decide) ⟨by show 0 + 1 + 1 + 6 ≤ 60; omega, by show 0 + 600 + 10 + 630 ≤ 34800; omega⟩ hl.1 rfl (Nat.le_of_ble_eq_true rfl) dX10_init_28 rfl (fun ws H locs hp h => ?_)
  obtain ⟨arc, arp9, atk7, atx, arl, apg, h_n24, h_n24a, h_n24b, h_n24c, h_n24d, h_n24e, h_n24f, hlen, hf⟩ := hp
  have h_t9 := hf.at h_t9 (by first | decide | omega | (dsimp only <;> omega))
  have h_n8 := hf.at h_n8 (by first | decide | omega | (dsimp only <;> omega))
  have hlen : ws.length = 1 + 8 := by omega
  have hE := hE.trG hf (fun j hj hY => by first | omega | (dsimp only at hY ⊢ <;> omega))
  refine r_putF E hin h h_t9 rfl inn_X10_init_10 4 (by decide) fl_X10_init_23 tyX10 tyX10_ok nmX10 rfl rfl rfl rfl (Nat.le_of_ble_eq_true rfl) dX10_init_31 (fun ws H locs h hu => ?_)
  have h_t9 : ws[0]? = some (a, .inr (10, [.ref a_8, .int (zI 0), .int (zI (-1)), .null, .ref a_24, .null, .null, .null, .null, .null])) := hu.1
  have h_n8 := hu.keep h_n8 (by first | decide | omega)
  have h_n24 := hu.keep h_n24 (by first | decide | omega)
  have h_n24a := hu.keep h_n24a (by first | decide | omega)
  have h_n24b := hu.keep h_n24b (by first | decide | omega)
  have h_n24c := hu.keep h_n24c (by first | decide | omega)
  have h_n24d := hu.keep h_n24d (by first | decide | omega)
  have h_n24e := hu.keep h_n24e (by first | decide | omega)
  have h_n24f := hu.keep h_n24f (by first | decide | omega)
  have hE : Eqx ws0 ws (fun j => j = 0) := by first | exact hE.tr (hu.eqx (by first | omega | (dsimp only <;> omega))) | exact hE.up hu (by omega)
  have hlen := hu.2.1.trans hlen
  refine r_aload_n E 0 hl rfl dX10_init_34 ?_
  refine r_newO (ci := 8) (fs := [.null, .null, .int (zI 0), .null, .int (zI 0), .null, .null, .null]) E h rfl inn_X10_init_8 tyX8 tyX8_ok (List.mem_of_getElem? (i := 12) rfl) (List.mem_of_getElem? (i := 13) rfl) (List.mem_of_getElem? (i := 14) rfl) (fun j hj => by rcases (show j = 0 ∨ j = 1 ∨ j = 2 ∨ j = 3 ∨ j = 4 ∨ j = 5 ∨ j = 6 ∨ j = 7 by omega) with rfl | rfl | rfl | rfl | rfl | rfl | rfl | rfl <;> rfl) (by show 0 + 1 + 1 + 6 + 1 ≤ 60; omega) (by show 0 + 600 + 10 + 630 + 8 ≤ 34800; omega) dX10_init_35 (fun a_35 ws H hu h => ?_)
  have h_t9 := hu.keep h_t9
  have h_n8 := hu.keep h_n8
  have h_n24 := hu.keep h_n24
  have h_n24a := hu.keep h_n24a
  have h_n24b := hu.keep h_n24b
  have h_n24c := hu.keep h_n24c
  have h_n24d := hu.keep h_n24d
  have h_n24e := hu.keep h_n24e
  have h_n24f := hu.keep h_n24f
  have h_n35 : ws[1 + 8]? = some (a_35, .inr (8, [.null, .null, .int (zI 0), .null, .int (zI 0), .null, .null, .null])) := by have h9 := hu.new; rwa [hlen] at h9
  have hlen : ws.length = 1 + 9 := by have h9 := hu.len; omega
  have hE := hE.tr hu.eqx
  refine r_dup E dX10_init_38 rfl ?_
  refine r_callNI E hX h (As := []) (rest := [.ref a_35, .ref a]) (k_X8_init l h_n35 hlen) gX10_init_X8_init_n29 rfl (by decide +kernel) (List.mem_of_getElem? (i := 14) rfl) (List.mem_of_getElem? (i := 74) rfl) rfl hd_X8_init (by decide) ⟨by show 0 + 1 + 1 + 6 + 1 + 6 ≤ 60; omega, by show 0 + 600 + 10 + 630 + 8 + 32703 ≤ 34800; omega⟩ hl.1 rfl (Nat.le_of_ble_eq_true rfl) dX10_init_39 rfl (fun ws H locs hp h => ?_)
  obtain ⟨ase, awr, art, awt, are, ars, h_n35, h_n35se, h_n35wr, h_n35rt, h_n35wt, h_n35re, h_n35rs, hlen, hf⟩ := hp
  have h_t9 := hf.at h_t9 (by first | decide | omega | (dsimp only <;> omega))
  have h_n8 := hf.at h_n8 (by first | decide | omega | (dsimp only <;> omega))
  have h_n24 := hf.at h_n24 (by first | decide | omega | (dsimp only <;> omega))
  have h_n24a := hf.at h_n24a (by first | decide | omega | (dsimp only <;> omega))
  have h_n24b := hf.at h_n24b (by first | decide | omega | (dsimp only <;> omega))
  have h_n24c := hf.at h_n24c (by first | decide | omega | (dsimp only <;> omega))
  have h_n24d := hf.at h_n24d (by first | decide | omega | (dsimp only <;> omega))
  have h_n24e := hf.at h_n24e (by first | decide | omega | (dsimp only <;> omega))
  have h_n24f := hf.at h_n24f (by first | decide | omega | (dsimp only <;> omega))
  have hlen : ws.length = 1 + 15 := by omega
  have hE := hE.trG hf (fun j hj hY => by first | omega | (dsimp only at hY ⊢ <;> omega))
  refine r_putF E hin h h_t9 rfl inn_X10_init_10 5 (by decide) fl_X10_init_30 tyX10 tyX10_ok nmX10 rfl rfl rfl rfl (Nat.le_of_ble_eq_true rfl) dX10_init_42 (fun ws H locs h hu => ?_)
  have h_t9 : ws[0]? = some (a, .inr (10, [.ref a_8, .int (zI 0), .int (zI (-1)), .null, .ref a_24, .ref a_35, .null, .null, .null, .null])) := hu.1
  have h_n8 := hu.keep h_n8 (by first | decide | omega)
  have h_n24 := hu.keep h_n24 (by first | decide | omega)
  have h_n24a := hu.keep h_n24a (by first | decide | omega)
  have h_n24b := hu.keep h_n24b (by first | decide | omega)
  have h_n24c := hu.keep h_n24c (by first | decide | omega)
  have h_n24d := hu.keep h_n24d (by first | decide | omega)
  have h_n24e := hu.keep h_n24e (by first | decide | omega)
  have h_n24f := hu.keep h_n24f (by first | decide | omega)
  have h_n35 := hu.keep h_n35 (by first | decide | omega)
  have h_n35se := hu.keep h_n35se (by first | decide | omega)
  have h_n35wr := hu.keep h_n35wr (by first | decide | omega)
  have h_n35rt := hu.keep h_n35rt (by first | decide | omega)
  have h_n35wt := hu.keep h_n35wt (by first | decide | omega)
  have h_n35re := hu.keep h_n35re (by first | decide | omega)
  have h_n35rs := hu.keep h_n35rs (by first | decide | omega)
  have hE : Eqx ws0 ws (fun j => j = 0) := by first | exact hE.tr (hu.eqx (by first | omega | (dsimp only <;> omega))) | exact hE.up hu (by omega)
  have hlen := hu.2.1.trans hlen
  refine r_aload_n E 0 hl rfl dX10_init_45 ?_
  refine r_newO (ci := 0) (fs := [.null, .long ((zL 0))]) E h rfl inn_X10_init_0 tyX0 tyX0_ok (List.mem_of_getElem? (i := 16) rfl) (List.mem_of_getElem? (i := 17) rfl) (List.mem_of_getElem? (i := 18) rfl) (fun j hj => by rcases (show j = 0 ∨ j = 1 by omega) with rfl | rfl <;> rfl) (by show 0 + 1 + 1 + 6 + 1 + 6 + 1 ≤ 60; omega) (by show 0 + 600 + 10 + 630 + 8 + 32703 + 2 ≤ 34800; omega) dX10_init_46 (fun a_46 ws H hu h => ?_)
  have h_t9 := hu.keep h_t9
  have h_n8 := hu.keep h_n8
  have h_n24 := hu.keep h_n24
  have h_n24a := hu.keep h_n24a
  have h_n24b := hu.keep h_n24b
  have h_n24c := hu.keep h_n24c
  have h_n24d := hu.keep h_n24d
  have h_n24e := hu.keep h_n24e
  have h_n24f := hu.keep h_n24f
  have h_n35 := hu.keep h_n35
  have h_n35se := hu.keep h_n35se
  have h_n35wr := hu.keep h_n35wr
  have h_n35rt := hu.keep h_n35rt
  have h_n35wt := hu.keep h_n35wt
  have h_n35re := hu.keep h_n35re
  have h_n35rs := hu.keep h_n35rs
  have h_n46 : ws[1 + 15]? = some (a_46, .inr (0, [.null, .long ((zL 0))])) := by have h9 := hu.new; rwa [hlen] at h9
  have hlen : ws.length = 1 + 16 := by have h9 := hu.len; omega
  have hE := hE.tr hu.eqx
  refine r_dup E dX10_init_49 rfl ?_
  refine r_callNI E hX h (As := []) (rest := [.ref a_46, .ref a]) (k_X0_init l h_n46 hlen) gX10_init_X0_init_n36 rfl (by decide +kernel) (List.mem_of_getElem? (i := 18) rfl) (List.mem_of_getElem? (i := 59) rfl) rfl hd_X0_init (by decide) ⟨by show 0 + 1 + 1 + 6 + 1 + 6 + 1 + 1 ≤ 60; omega, by show 0 + 600 + 10 + 630 + 8 + 32703 + 2 + 4 ≤ 34800; omega⟩ hl.1 rfl (Nat.le_of_ble_eq_true rfl) dX10_init_50 rfl (fun ws H locs hp h => ?_)
  obtain ⟨apn46, h_n46, h_n46p, hlen, hf⟩ := hp
  have h_t9 := hf.at h_t9 (by first | decide | omega | (dsimp only <;> omega))
  have h_n8 := hf.at h_n8 (by first | decide | omega | (dsimp only <;> omega))
  have h_n24 := hf.at h_n24 (by first | decide | omega | (dsimp only <;> omega))
  have h_n24a := hf.at h_n24a (by first | decide | omega | (dsimp only <;> omega))
  have h_n24b := hf.at h_n24b (by first | decide | omega | (dsimp only <;> omega))
  have h_n24c := hf.at h_n24c (by first | decide | omega | (dsimp only <;> omega))
  have h_n24d := hf.at h_n24d (by first | decide | omega | (dsimp only <;> omega))
  have h_n24e := hf.at h_n24e (by first | decide | omega | (dsimp only <;> omega))
  have h_n24f := hf.at h_n24f (by first | decide | omega | (dsimp only <;> omega))
  have h_n35 := hf.at h_n35 (by first | decide | omega | (dsimp only <;> omega))
  have h_n35se := hf.at h_n35se (by first | decide | omega | (dsimp only <;> omega))
  have h_n35wr := hf.at h_n35wr (by first | decide | omega | (dsimp only <;> omega))
  have h_n35rt := hf.at h_n35rt (by first | decide | omega | (dsimp only <;> omega))
  have h_n35wt := hf.at h_n35wt (by first | decide | omega | (dsimp only <;> omega))
  have h_n35re := hf.at h_n35re (by first | decide | omega | (dsimp only <;> omega))
  have h_n35rs := hf.at h_n35rs (by first | decide | omega | (dsimp only <;> omega))
  have hlen : ws.length = 1 + 17 := by omega
  have hE := hE.trG hf (fun j hj hY => by first | omega | (dsimp only at hY ⊢ <;> omega))
  refine r_putF E hin h h_t9 rfl inn_X10_init_10 6 (by decide) fl_X10_init_37 tyX10 tyX10_ok nmX10 rfl rfl rfl rfl (Nat.le_of_ble_eq_true rfl) dX10_init_53 (fun ws H locs h hu => ?_)
  have h_t9 : ws[0]? = some (a, .inr (10, [.ref a_8, .int (zI 0), .int (zI (-1)), .null, .ref a_24, .ref a_35, .ref a_46, .null, .null, .null])) := hu.1
  have h_n8 := hu.keep h_n8 (by first | decide | omega)
  have h_n24 := hu.keep h_n24 (by first | decide | omega)
  have h_n24a := hu.keep h_n24a (by first | decide | omega)
  have h_n24b := hu.keep h_n24b (by first | decide | omega)
  have h_n24c := hu.keep h_n24c (by first | decide | omega)
  have h_n24d := hu.keep h_n24d (by first | decide | omega)
  have h_n24e := hu.keep h_n24e (by first | decide | omega)
  have h_n24f := hu.keep h_n24f (by first | decide | omega)
  have h_n35 := hu.keep h_n35 (by first | decide | omega)
  have h_n35se := hu.keep h_n35se (by first | decide | omega)
  have h_n35wr := hu.keep h_n35wr (by first | decide | omega)
  have h_n35rt := hu.keep h_n35rt (by first | decide | omega)
  have h_n35wt := hu.keep h_n35wt (by first | decide | omega)
  have h_n35re := hu.keep h_n35re (by first | decide | omega)
  have h_n35rs := hu.keep h_n35rs (by first | decide | omega)
  have h_n46 := hu.keep h_n46 (by first | decide | omega)
  have h_n46p := hu.keep h_n46p (by first | decide | omega)
  have hE : Eqx ws0 ws (fun j => j = 0) := by first | exact hE.tr (hu.eqx (by first | omega | (dsimp only <;> omega))) | exact hE.up hu (by omega)
  have hlen := hu.2.1.trans hlen
  refine r_aload_n E 0 hl rfl dX10_init_56 ?_
  refine r_newO (ci := 5) (fs := [.null, .null, .null, .null, .int (zI 0), .int (zI 0)]) E h rfl inn_X10_init_5 tyX5 tyX5_ok (List.mem_of_getElem? (i := 20) rfl) (List.mem_of_getElem? (i := 21) rfl) (List.mem_of_getElem? (i := 22) rfl) (fun j hj => by rcases (show j = 0 ∨ j = 1 ∨ j = 2 ∨ j = 3 ∨ j = 4 ∨ j = 5 by omega) with rfl | rfl | rfl | rfl | rfl | rfl <;> rfl) (by show 0 + 1 + 1 + 6 + 1 + 6 + 1 + 1 + 1 ≤ 60; omega) (by show 0 + 600 + 10 + 630 + 8 + 32703 + 2 + 4 + 6 ≤ 34800; omega) dX10_init_57 (fun a_57 ws H hu h => ?_)
  have h_t9 := hu.keep h_t9
  have h_n8 := hu.keep h_n8
  have h_n24 := hu.keep h_n24
  have h_n24a := hu.keep h_n24a
  have h_n24b := hu.keep h_n24b
  have h_n24c := hu.keep h_n24c
  have h_n24d := hu.keep h_n24d
  have h_n24e := hu.keep h_n24e
  have h_n24f := hu.keep h_n24f
  have h_n35 := hu.keep h_n35
  have h_n35se := hu.keep h_n35se
  have h_n35wr := hu.keep h_n35wr
  have h_n35rt := hu.keep h_n35rt
  have h_n35wt := hu.keep h_n35wt
  have h_n35re := hu.keep h_n35re
  have h_n35rs := hu.keep h_n35rs
  have h_n46 := hu.keep h_n46
  have h_n46p := hu.keep h_n46p
  have h_n57 : ws[1 + 17]? = some (a_57, .inr (5, [.null, .null, .null, .null, .int (zI 0), .int (zI 0)])) := by have h9 := hu.new; rwa [hlen] at h9
  have hlen : ws.length = 1 + 18 := by have h9 := hu.len; omega
  have hE := hE.tr hu.eqx
  refine r_dup E dX10_init_60 rfl ?_
  refine r_callNIk E hX h (As := []) (rest := [.ref a_57, .ref a]) (k_X5_init l h_n57 hlen) gX10_init_X5_init_n43 rfl (by decide +kernel) (List.mem_of_getElem? (i := 22) rfl) (List.mem_of_getElem? (i := 85) rfl) rfl hd_X5_init (by decide) ⟨by show 0 + 1 + 1 + 6 + 1 + 6 + 1 + 1 + 1 + 6 ≤ 60; omega, by show 0 + 600 + 10 + 630 + 8 + 32703 + 2 + 4 + 6 + 92 ≤ 34800; omega⟩ hl.1 rfl (Nat.le_of_ble_eq_true rfl) dX10_init_61 rfl (fun ws H locs hp h => ?_)
  obtain ⟨asc, ascp, asb, asbp, aop, atr, h_n57, h_n57a, h_n57b, h_n57c, h_n57d, h_n57e, h_n57f, hlen, hf⟩ := hp
  have h_t9 := hf.at h_t9 (by first | decide | omega | (dsimp only <;> omega))
  have h_n8 := hf.at h_n8 (by first | decide | omega | (dsimp only <;> omega))
  have h_n24 := hf.at h_n24 (by first | decide | omega | (dsimp only <;> omega))
  have h_n24a := hf.at h_n24a (by first | decide | omega | (dsimp only <;> omega))
  have h_n24b := hf.at h_n24b (by first | decide | omega | (dsimp only <;> omega))
  have h_n24c := hf.at h_n24c (by first | decide | omega | (dsimp only <;> omega))
  have h_n24d := hf.at h_n24d (by first | decide | omega | (dsimp only <;> omega))
  have h_n24e := hf.at h_n24e (by first | decide | omega | (dsimp only <;> omega))
  have h_n24f := hf.at h_n24f (by first | decide | omega | (dsimp only <;> omega))
  have h_n35 := hf.at h_n35 (by first | decide | omega | (dsimp only <;> omega))
  have h_n35se := hf.at h_n35se (by first | decide | omega | (dsimp only <;> omega))
  have h_n35wr := hf.at h_n35wr (by first | decide | omega | (dsimp only <;> omega))
  have h_n35rt := hf.at h_n35rt (by first | decide | omega | (dsimp only <;> omega))
  have h_n35wt := hf.at h_n35wt (by first | decide | omega | (dsimp only <;> omega))
  have h_n35re := hf.at h_n35re (by first | decide | omega | (dsimp only <;> omega))
  have h_n35rs := hf.at h_n35rs (by first | decide | omega | (dsimp only <;> omega))
  have h_n46 := hf.at h_n46 (by first | decide | omega | (dsimp only <;> omega))
  have h_n46p := hf.at h_n46p (by first | decide | omega | (dsimp only <;> omega))
  have hlen : ws.length = 1 + 24 := by omega
  have hE := hE.trG hf (fun j hj hY => by first | omega | (dsimp only at hY ⊢ <;> omega))
  refine r_putF E hin h h_t9 rfl inn_X10_init_10 7 (by decide) fl_X10_init_44 tyX10 tyX10_ok nmX10 rfl rfl rfl rfl (Nat.le_of_ble_eq_true rfl) dX10_init_64 (fun ws H locs h hu => ?_)
  have h_t9 : ws[0]? = some (a, .inr (10, [.ref a_8, .int (zI 0), .int (zI (-1)), .null, .ref a_24, .ref a_35, .ref a_46, .ref a_57, .null, .null])) := hu.1
  have h_n8 := hu.keep h_n8 (by first | decide | omega)
  have h_n24 := hu.keep h_n24 (by first | decide | omega)
  have h_n24a := hu.keep h_n24a (by first | decide | omega)
  have h_n24b := hu.keep h_n24b (by first | decide | omega)
  have h_n24c := hu.keep h_n24c (by first | decide | omega)
  have h_n24d := hu.keep h_n24d (by first | decide | omega)
  have h_n24e := hu.keep h_n24e (by first | decide | omega)
  have h_n24f := hu.keep h_n24f (by first | decide | omega)
  have h_n35 := hu.keep h_n35 (by first | decide | omega)
  have h_n35se := hu.keep h_n35se (by first | decide | omega)
  have h_n35wr := hu.keep h_n35wr (by first | decide | omega)
  have h_n35rt := hu.keep h_n35rt (by first | decide | omega)
  have h_n35wt := hu.keep h_n35wt (by first | decide | omega)
  have h_n35re := hu.keep h_n35re (by first | decide | omega)
  have h_n35rs := hu.keep h_n35rs (by first | decide | omega)
  have h_n46 := hu.keep h_n46 (by first | decide | omega)
  have h_n46p := hu.keep h_n46p (by first | decide | omega)
  have h_n57 := hu.keep h_n57 (by first | decide | omega)
  have h_n57a := hu.keep h_n57a (by first | decide | omega)
  have h_n57b := hu.keep h_n57b (by first | decide | omega)
  have h_n57c := hu.keep h_n57c (by first | decide | omega)
  have h_n57d := hu.keep h_n57d (by first | decide | omega)
  have h_n57e := hu.keep h_n57e (by first | decide | omega)
  have h_n57f := hu.keep h_n57f (by first | decide | omega)
  have hE : Eqx ws0 ws (fun j => j = 0) := by first | exact hE.tr (hu.eqx (by first | omega | (dsimp only <;> omega))) | exact hE.up hu (by omega)
  have hlen := hu.2.1.trans hlen
  refine r_aload_n E 0 hl rfl dX10_init_67 ?_
  refine r_newO (ci := 3) (fs := [.int (zI 0), .int (zI 0), .int (zI 0), .null]) E h rfl inn_X10_init_3 tyX3 tyX3_ok (List.mem_of_getElem? (i := 24) rfl) (List.mem_of_getElem? (i := 25) rfl) (List.mem_of_getElem? (i := 26) rfl) (fun j hj => by rcases (show j = 0 ∨ j = 1 ∨ j = 2 ∨ j = 3 by omega) with rfl | rfl | rfl | rfl <;> rfl) (by show 0 + 1 + 1 + 6 + 1 + 6 + 1 + 1 + 1 + 6 + 1 ≤ 60; omega) (by show 0 + 600 + 10 + 630 + 8 + 32703 + 2 + 4 + 6 + 92 + 4 ≤ 34800; omega) dX10_init_68 (fun a_68 ws H hu h => ?_)
  have h_t9 := hu.keep h_t9
  have h_n8 := hu.keep h_n8
  have h_n24 := hu.keep h_n24
  have h_n24a := hu.keep h_n24a
  have h_n24b := hu.keep h_n24b
  have h_n24c := hu.keep h_n24c
  have h_n24d := hu.keep h_n24d
  have h_n24e := hu.keep h_n24e
  have h_n24f := hu.keep h_n24f
  have h_n35 := hu.keep h_n35
  have h_n35se := hu.keep h_n35se
  have h_n35wr := hu.keep h_n35wr
  have h_n35rt := hu.keep h_n35rt
  have h_n35wt := hu.keep h_n35wt
  have h_n35re := hu.keep h_n35re
  have h_n35rs := hu.keep h_n35rs
  have h_n46 := hu.keep h_n46
  have h_n46p := hu.keep h_n46p
  have h_n57 := hu.keep h_n57
  have h_n57a := hu.keep h_n57a
  have h_n57b := hu.keep h_n57b
  have h_n57c := hu.keep h_n57c
  have h_n57d := hu.keep h_n57d
  have h_n57e := hu.keep h_n57e
  have h_n57f := hu.keep h_n57f
  have h_n68 : ws[1 + 24]? = some (a_68, .inr (3, [.int (zI 0), .int (zI 0), .int (zI 0), .null])) := by have h9 := hu.new; rwa [hlen] at h9
  have hlen : ws.length = 1 + 25 := by have h9 := hu.len; omega
  have hE := hE.tr hu.eqx
  refine r_dup E dX10_init_71 rfl ?_
  refine r_callNI E hX h (As := []) (rest := [.ref a_68, .ref a]) (k_X3_init l h_n68 hlen) gX10_init_X3_init_n50 rfl (by decide +kernel) (List.mem_of_getElem? (i := 26) rfl) (List.mem_of_getElem? (i := 95) rfl) rfl hd_X3_init (by decide) ⟨by show 0 + 1 + 1 + 6 + 1 + 6 + 1 + 1 + 1 + 6 + 1 + 1 ≤ 60; omega, by show 0 + 600 + 10 + 630 + 8 + 32703 + 2 + 4 + 6 + 92 + 4 + 164 ≤ 34800; omega⟩ hl.1 rfl (Nat.le_of_ble_eq_true rfl) dX10_init_72 rfl (fun ws H locs hp h => ?_)
  obtain ⟨ach, h_n68, h_n68c, hlen, hf⟩ := hp
  have h_t9 := hf.at h_t9 (by first | decide | omega | (dsimp only <;> omega))
  have h_n8 := hf.at h_n8 (by first | decide | omega | (dsimp only <;> omega))
  have h_n24 := hf.at h_n24 (by first | decide | omega | (dsimp only <;> omega))
  have h_n24a := hf.at h_n24a (by first | decide | omega | (dsimp only <;> omega))
  have h_n24b := hf.at h_n24b (by first | decide | omega | (dsimp only <;> omega))
  have h_n24c := hf.at h_n24c (by first | decide | omega | (dsimp only <;> omega))
  have h_n24d := hf.at h_n24d (by first | decide | omega | (dsimp only <;> omega))
  have h_n24e := hf.at h_n24e (by first | decide | omega | (dsimp only <;> omega))
  have h_n24f := hf.at h_n24f (by first | decide | omega | (dsimp only <;> omega))
  have h_n35 := hf.at h_n35 (by first | decide | omega | (dsimp only <;> omega))
  have h_n35se := hf.at h_n35se (by first | decide | omega | (dsimp only <;> omega))
  have h_n35wr := hf.at h_n35wr (by first | decide | omega | (dsimp only <;> omega))
  have h_n35rt := hf.at h_n35rt (by first | decide | omega | (dsimp only <;> omega))
  have h_n35wt := hf.at h_n35wt (by first | decide | omega | (dsimp only <;> omega))
  have h_n35re := hf.at h_n35re (by first | decide | omega | (dsimp only <;> omega))
  have h_n35rs := hf.at h_n35rs (by first | decide | omega | (dsimp only <;> omega))
  have h_n46 := hf.at h_n46 (by first | decide | omega | (dsimp only <;> omega))
  have h_n46p := hf.at h_n46p (by first | decide | omega | (dsimp only <;> omega))
  have h_n57 := hf.at h_n57 (by first | decide | omega | (dsimp only <;> omega))
  have h_n57a := hf.at h_n57a (by first | decide | omega | (dsimp only <;> omega))
  have h_n57b := hf.at h_n57b (by first | decide | omega | (dsimp only <;> omega))
  have h_n57c := hf.at h_n57c (by first | decide | omega | (dsimp only <;> omega))
  have h_n57d := hf.at h_n57d (by first | decide | omega | (dsimp only <;> omega))
  have h_n57e := hf.at h_n57e (by first | decide | omega | (dsimp only <;> omega))
  have h_n57f := hf.at h_n57f (by first | decide | omega | (dsimp only <;> omega))
  have hlen : ws.length = 1 + 26 := by omega
  have hE := hE.trG hf (fun j hj hY => by first | omega | (dsimp only at hY ⊢ <;> omega))
  refine r_putF E hin h h_t9 rfl inn_X10_init_10 8 (by decide) fl_X10_init_51 tyX10 tyX10_ok nmX10 rfl rfl rfl rfl (Nat.le_of_ble_eq_true rfl) dX10_init_75 (fun ws H locs h hu => ?_)
  have h_t9 : ws[0]? = some (a, .inr (10, [.ref a_8, .int (zI 0), .int (zI (-1)), .null, .ref a_24, .ref a_35, .ref a_46, .ref a_57, .ref a_68, .null])) := hu.1
  have h_n8 := hu.keep h_n8 (by first | decide | omega)
  have h_n24 := hu.keep h_n24 (by first | decide | omega)
  have h_n24a := hu.keep h_n24a (by first | decide | omega)
  have h_n24b := hu.keep h_n24b (by first | decide | omega)
  have h_n24c := hu.keep h_n24c (by first | decide | omega)
  have h_n24d := hu.keep h_n24d (by first | decide | omega)
  have h_n24e := hu.keep h_n24e (by first | decide | omega)
  have h_n24f := hu.keep h_n24f (by first | decide | omega)
  have h_n35 := hu.keep h_n35 (by first | decide | omega)
  have h_n35se := hu.keep h_n35se (by first | decide | omega)
  have h_n35wr := hu.keep h_n35wr (by first | decide | omega)
  have h_n35rt := hu.keep h_n35rt (by first | decide | omega)
  have h_n35wt := hu.keep h_n35wt (by first | decide | omega)
  have h_n35re := hu.keep h_n35re (by first | decide | omega)
  have h_n35rs := hu.keep h_n35rs (by first | decide | omega)
  have h_n46 := hu.keep h_n46 (by first | decide | omega)
  have h_n46p := hu.keep h_n46p (by first | decide | omega)
  have h_n57 := hu.keep h_n57 (by first | decide | omega)
  have h_n57a := hu.keep h_n57a (by first | decide | omega)
  have h_n57b := hu.keep h_n57b (by first | decide | omega)
  have h_n57c := hu.keep h_n57c (by first | decide | omega)
  have h_n57d := hu.keep h_n57d (by first | decide | omega)
  have h_n57e := hu.keep h_n57e (by first | decide | omega)
  have h_n57f := hu.keep h_n57f (by first | decide | omega)
  have h_n68 := hu.keep h_n68 (by first | decide | omega)
  have h_n68c := hu.keep h_n68c (by first | decide | omega)
  have hE : Eqx ws0 ws (fun j => j = 0) := by first | exact hE.tr (hu.eqx (by first | omega | (dsimp only <;> omega))) | exact hE.up hu (by omega)
  have hlen := hu.2.1.trans hlen
  refine r_aload_n E 0 hl rfl dX10_init_78 ?_
  refine r_newO (ci := 2) (fs := [.null, .null, .int (zI 0), .int (zI 0)]) E h rfl inn_X10_init_2 tyX2 tyX2_ok (List.mem_of_getElem? (i := 28) rfl) (List.mem_of_getElem? (i := 29) rfl) (List.mem_of_getElem? (i := 30) rfl) (fun j hj => by rcases (show j = 0 ∨ j = 1 ∨ j = 2 ∨ j = 3 by omega) with rfl | rfl | rfl | rfl <;> rfl) (by show 0 + 1 + 1 + 6 + 1 + 6 + 1 + 1 + 1 + 6 + 1 + 1 + 1 ≤ 60; omega) (by show 0 + 600 + 10 + 630 + 8 + 32703 + 2 + 4 + 6 + 92 + 4 + 164 + 4 ≤ 34800; omega) dX10_init_79 (fun a_79 ws H hu h => ?_)
  have h_t9 := hu.keep h_t9
  have h_n8 := hu.keep h_n8
  have h_n24 := hu.keep h_n24
  have h_n24a := hu.keep h_n24a
  have h_n24b := hu.keep h_n24b
  have h_n24c := hu.keep h_n24c
  have h_n24d := hu.keep h_n24d
  have h_n24e := hu.keep h_n24e
  have h_n24f := hu.keep h_n24f
  have h_n35 := hu.keep h_n35
  have h_n35se := hu.keep h_n35se
  have h_n35wr := hu.keep h_n35wr
  have h_n35rt := hu.keep h_n35rt
  have h_n35wt := hu.keep h_n35wt
  have h_n35re := hu.keep h_n35re
  have h_n35rs := hu.keep h_n35rs
  have h_n46 := hu.keep h_n46
  have h_n46p := hu.keep h_n46p
  have h_n57 := hu.keep h_n57
  have h_n57a := hu.keep h_n57a
  have h_n57b := hu.keep h_n57b
  have h_n57c := hu.keep h_n57c
  have h_n57d := hu.keep h_n57d
  have h_n57e := hu.keep h_n57e
  have h_n57f := hu.keep h_n57f
  have h_n68 := hu.keep h_n68
  have h_n68c := hu.keep h_n68c
  have h_n79 : ws[1 + 26]? = some (a_79, .inr (2, [.null, .null, .int (zI 0), .int (zI 0)])) := by have h9 := hu.new; rwa [hlen] at h9
  have hlen : ws.length = 1 + 27 := by have h9 := hu.len; omega
  have hE := hE.tr hu.eqx
  refine r_dup E dX10_init_82 rfl ?_
  refine r_callIk E hX h (As := []) (rest := [.ref a_79, .ref a]) (k_X2_init l h_n79 hlen) gX10_init_X2_init rfl (List.mem_of_getElem? (i := 30) rfl) (List.mem_of_getElem? (i := 103) rfl) (List.mem_of_getElem? (i := 104) rfl) rfl hd_X2_init (by decide) ⟨by show 0 + 1 + 1 + 6 + 1 + 6 + 1 + 1 + 1 + 6 + 1 + 1 + 1 + 18 ≤ 60; omega, by show 0 + 600 + 10 + 630 + 8 + 32703 + 2 + 4 + 6 + 92 + 4 + 164 + 4 + 64 ≤ 34800; omega⟩ hl.1 rfl (Nat.le_of_ble_eq_true rfl) dX10_init_83 rfl (fun ws H locs hp h => ?_)
  obtain ⟨ahsu, ahco, hac, hap, hcf, h_n79, h_hsu, h_hco, hcc, hFc, hlen, hf⟩ := hp
  have h_t9 := hf.at h_t9 (by first | decide | omega | (dsimp only <;> omega))
  have h_n8 := hf.at h_n8 (by first | decide | omega | (dsimp only <;> omega))
  have h_n24 := hf.at h_n24 (by first | decide | omega | (dsimp only <;> omega))
  have h_n24a := hf.at h_n24a (by first | decide | omega | (dsimp only <;> omega))
  have h_n24b := hf.at h_n24b (by first | decide | omega | (dsimp only <;> omega))
  have h_n24c := hf.at h_n24c (by first | decide | omega | (dsimp only <;> omega))
  have h_n24d := hf.at h_n24d (by first | decide | omega | (dsimp only <;> omega))
  have h_n24e := hf.at h_n24e (by first | decide | omega | (dsimp only <;> omega))
  have h_n24f := hf.at h_n24f (by first | decide | omega | (dsimp only <;> omega))
  have h_n35 := hf.at h_n35 (by first | decide | omega | (dsimp only <;> omega))
  have h_n35se := hf.at h_n35se (by first | decide | omega | (dsimp only <;> omega))
  have h_n35wr := hf.at h_n35wr (by first | decide | omega | (dsimp only <;> omega))
  have h_n35rt := hf.at h_n35rt (by first | decide | omega | (dsimp only <;> omega))
  have h_n35wt := hf.at h_n35wt (by first | decide | omega | (dsimp only <;> omega))
  have h_n35re := hf.at h_n35re (by first | decide | omega | (dsimp only <;> omega))
  have h_n35rs := hf.at h_n35rs (by first | decide | omega | (dsimp only <;> omega))
  have h_n46 := hf.at h_n46 (by first | decide | omega | (dsimp only <;> omega))
  have h_n46p := hf.at h_n46p (by first | decide | omega | (dsimp only <;> omega))
  have h_n57 := hf.at h_n57 (by first | decide | omega | (dsimp only <;> omega))
  have h_n57a := hf.at h_n57a (by first | decide | omega | (dsimp only <;> omega))
  have h_n57b := hf.at h_n57b (by first | decide | omega | (dsimp only <;> omega))
  have h_n57c := hf.at h_n57c (by first | decide | omega | (dsimp only <;> omega))
  have h_n57d := hf.at h_n57d (by first | decide | omega | (dsimp only <;> omega))
  have h_n57e := hf.at h_n57e (by first | decide | omega | (dsimp only <;> omega))
  have h_n57f := hf.at h_n57f (by first | decide | omega | (dsimp only <;> omega))
  have h_n68 := hf.at h_n68 (by first | decide | omega | (dsimp only <;> omega))
  have h_n68c := hf.at h_n68c (by first | decide | omega | (dsimp only <;> omega))
  have hlen : ws.length = 1 + 45 := by omega
  have hE := hE.trG hf (fun j hj hY => by first | omega | (dsimp only at hY ⊢ <;> omega))
  refine r_putF E hin h h_t9 rfl inn_X10_init_10 9 (by decide) fl_X10_init_58 tyX10 tyX10_ok nmX10 rfl rfl rfl rfl (Nat.le_of_ble_eq_true rfl) dX10_init_86 (fun ws H locs h hu => ?_)
  have h_t9 : ws[0]? = some (a, .inr (10, [.ref a_8, .int (zI 0), .int (zI (-1)), .null, .ref a_24, .ref a_35, .ref a_46, .ref a_57, .ref a_68, .ref a_79])) := hu.1
  have h_n8 := hu.keep h_n8 (by first | decide | omega)
  have h_n24 := hu.keep h_n24 (by first | decide | omega)
  have h_n24a := hu.keep h_n24a (by first | decide | omega)
  have h_n24b := hu.keep h_n24b (by first | decide | omega)
  have h_n24c := hu.keep h_n24c (by first | decide | omega)
  have h_n24d := hu.keep h_n24d (by first | decide | omega)
  have h_n24e := hu.keep h_n24e (by first | decide | omega)
  have h_n24f := hu.keep h_n24f (by first | decide | omega)
  have h_n35 := hu.keep h_n35 (by first | decide | omega)
  have h_n35se := hu.keep h_n35se (by first | decide | omega)
  have h_n35wr := hu.keep h_n35wr (by first | decide | omega)
  have h_n35rt := hu.keep h_n35rt (by first | decide | omega)
  have h_n35wt := hu.keep h_n35wt (by first | decide | omega)
  have h_n35re := hu.keep h_n35re (by first | decide | omega)
  have h_n35rs := hu.keep h_n35rs (by first | decide | omega)
  have h_n46 := hu.keep h_n46 (by first | decide | omega)
  have h_n46p := hu.keep h_n46p (by first | decide | omega)
  have h_n57 := hu.keep h_n57 (by first | decide | omega)
  have h_n57a := hu.keep h_n57a (by first | decide | omega)
  have h_n57b := hu.keep h_n57b (by first | decide | omega)
  have h_n57c := hu.keep h_n57c (by first | decide | omega)
  have h_n57d := hu.keep h_n57d (by first | decide | omega)
  have h_n57e := hu.keep h_n57e (by first | decide | omega)
  have h_n57f := hu.keep h_n57f (by first | decide | omega)
  have h_n68 := hu.keep h_n68 (by first | decide | omega)
  have h_n68c := hu.keep h_n68c (by first | decide | omega)
  have h_n79 := hu.keep h_n79 (by first | decide | omega)
  have h_hsu := hu.keep h_hsu (by first | decide | omega)
  have h_hco := hu.keep h_hco (by first | decide | omega)
  have hE : Eqx ws0 ws (fun j => j = 0) := by first | exact hE.tr (hu.eqx (by first | omega | (dsimp only <;> omega))) | exact hE.up hu (by omega)
  have hlen := hu.2.1.trans hlen
  have hFc : ∀ i : Nat, i < 8 → ws[1 + 29 + 2 * i]? = some (hac i, .inr (0, [.ref (hap i), .long (fmk 0 (fun _ => 0))])) ∧ ws[1 + 29 + 2 * i + 1]? = some (hap i, aL cy 4 (mk 0 (fun _ => 0))) := fun i hi => ⟨hu.keep (hFc i hi).1 (by omega), hu.keep (hFc i hi).2 (by omega)⟩
  refine r_aload_n E 0 hl rfl dX10_init_89 ?_
  refine r_newO (ci := 6) (fs := [.int (zI 0), .int (zI 0), .null, .null]) E h rfl inn_X10_init_6 tyX6 tyX6_ok (List.mem_of_getElem? (i := 32) rfl) (List.mem_of_getElem? (i := 33) rfl) (List.mem_of_getElem? (i := 34) rfl) (fun j hj => by rcases (show j = 0 ∨ j = 1 ∨ j = 2 ∨ j = 3 by omega) with rfl | rfl | rfl | rfl <;> rfl) (by show 0 + 1 + 1 + 6 + 1 + 6 + 1 + 1 + 1 + 6 + 1 + 1 + 1 + 18 + 1 ≤ 60; omega) (by show 0 + 600 + 10 + 630 + 8 + 32703 + 2 + 4 + 6 + 92 + 4 + 164 + 4 + 64 + 4 ≤ 34800; omega) dX10_init_90 (fun a_90 ws H hu h => ?_)
  have h_t9 := hu.keep h_t9
  have h_n8 := hu.keep h_n8
  have h_n24 := hu.keep h_n24
  have h_n24a := hu.keep h_n24a
  have h_n24b := hu.keep h_n24b
  have h_n24c := hu.keep h_n24c
  have h_n24d := hu.keep h_n24d
  have h_n24e := hu.keep h_n24e
  have h_n24f := hu.keep h_n24f
  have h_n35 := hu.keep h_n35
  have h_n35se := hu.keep h_n35se
  have h_n35wr := hu.keep h_n35wr
  have h_n35rt := hu.keep h_n35rt
  have h_n35wt := hu.keep h_n35wt
  have h_n35re := hu.keep h_n35re
  have h_n35rs := hu.keep h_n35rs
  have h_n46 := hu.keep h_n46
  have h_n46p := hu.keep h_n46p
  have h_n57 := hu.keep h_n57
  have h_n57a := hu.keep h_n57a
  have h_n57b := hu.keep h_n57b
  have h_n57c := hu.keep h_n57c
  have h_n57d := hu.keep h_n57d
  have h_n57e := hu.keep h_n57e
  have h_n57f := hu.keep h_n57f
  have h_n68 := hu.keep h_n68
  have h_n68c := hu.keep h_n68c
  have h_n79 := hu.keep h_n79
  have h_hsu := hu.keep h_hsu
  have h_hco := hu.keep h_hco
  have h_n90 : ws[1 + 45]? = some (a_90, .inr (6, [.int (zI 0), .int (zI 0), .null, .null])) := by have h9 := hu.new; rwa [hlen] at h9
  have hlen : ws.length = 1 + 46 := by have h9 := hu.len; omega
  have hE := hE.tr hu.eqx
  have hFc : ∀ i : Nat, i < 8 → ws[1 + 29 + 2 * i]? = some (hac i, .inr (0, [.ref (hap i), .long (fmk 0 (fun _ => 0))])) ∧ ws[1 + 29 + 2 * i + 1]? = some (hap i, aL cy 4 (mk 0 (fun _ => 0))) := fun i hi => ⟨hu.keep (hFc i hi).1, hu.keep (hFc i hi).2⟩
  refine r_dup E dX10_init_93 rfl ?_
  refine r_iconst E dX10_init_94 ?_
  refine r_iconst E dX10_init_95 ?_
  refine r_iconst E dX10_init_96 ?_
  refine r_newRk (t := 4) (N := 0) E h rfl ⟨rfl, by decide⟩ (List.mem_of_getElem? (i := 35) rfl) (hX.ao (by decide)) (by show 0 + 1 + 1 + 6 + 1 + 6 + 1 + 1 + 1 + 6 + 1 + 1 + 1 + 18 + 1 + 1 ≤ 60; omega) (by show 0 + 600 + 10 + 630 + 8 + 32703 + 2 + 4 + 6 + 92 + 4 + 164 + 4 + 64 + 4 + 0 ≤ 34800; omega) dX10_init_97 (fun a_97 ws H hu h => ?_)
  have h_t9 := hu.keep h_t9
  have h_n8 := hu.keep h_n8
  have h_n24 := hu.keep h_n24
  have h_n24a := hu.keep h_n24a
  have h_n24b := hu.keep h_n24b
  have h_n24c := hu.keep h_n24c
  have h_n24d := hu.keep h_n24d
  have h_n24e := hu.keep h_n24e
  have h_n24f := hu.keep h_n24f
  have h_n35 := hu.keep h_n35
  have h_n35se := hu.keep h_n35se
  have h_n35wr := hu.keep h_n35wr
  have h_n35rt := hu.keep h_n35rt
  have h_n35wt := hu.keep h_n35wt
  have h_n35re := hu.keep h_n35re
  have h_n35rs := hu.keep h_n35rs
  have h_n46 := hu.keep h_n46
  have h_n46p := hu.keep h_n46p
  have h_n57 := hu.keep h_n57
  have h_n57a := hu.keep h_n57a
  have h_n57b := hu.keep h_n57b
  have h_n57c := hu.keep h_n57c
  have h_n57d := hu.keep h_n57d
  have h_n57e := hu.keep h_n57e
  have h_n57f := hu.keep h_n57f
  have h_n68 := hu.keep h_n68
  have h_n68c := hu.keep h_n68c
  have h_n79 := hu.keep h_n79
  have h_hsu := hu.keep h_hsu
  have h_hco := hu.keep h_hco
  have h_n90 := hu.keep h_n90
  have h_n97 : ws[1 + 46]? = some (a_97, aR cy 4 0 ((fun _ => none))) := by have h9 := hu.new; rwa [hlen] at h9
  have hlen : ws.length = 1 + 47 := by have h9 := hu.len; omega
  have hE := hE.tr hu.eqx
  have hFc : ∀ i : Nat, i < 8 → ws[1 + 29 + 2 * i]? = some (hac i, .inr (0, [.ref (hap i), .long (fmk 0 (fun _ => 0))])) ∧ ws[1 + 29 + 2 * i + 1]? = some (hap i, aL cy 4 (mk 0 (fun _ => 0))) := fun i hi => ⟨hu.keep (hFc i hi).1, hu.keep (hFc i hi).2⟩
  refine r_newO (ci := 1) (fs := [.null, .null]) E h rfl inn_X10_init_1 tyX1 tyX1_ok (List.mem_of_getElem? (i := 36) rfl) (List.mem_of_getElem? (i := 37) rfl) (List.mem_of_getElem? (i := 38) rfl) (fun j hj => by rcases (show j = 0 ∨ j = 1 by omega) with rfl | rfl <;> rfl) (by show 0 + 1 + 1 + 6 + 1 + 6 + 1 + 1 + 1 + 6 + 1 + 1 + 1 + 18 + 1 + 1 + 1 ≤ 60; omega) (by show 0 + 600 + 10 + 630 + 8 + 32703 + 2 + 4 + 6 + 92 + 4 + 164 + 4 + 64 + 4 + 0 + 2 ≤ 34800; omega) dX10_init_100 (fun a_100 ws H hu h => ?_)
  have h_t9 := hu.keep h_t9
  have h_n8 := hu.keep h_n8
  have h_n24 := hu.keep h_n24
  have h_n24a := hu.keep h_n24a
  have h_n24b := hu.keep h_n24b
  have h_n24c := hu.keep h_n24c
  have h_n24d := hu.keep h_n24d
  have h_n24e := hu.keep h_n24e
  have h_n24f := hu.keep h_n24f
  have h_n35 := hu.keep h_n35
  have h_n35se := hu.keep h_n35se
  have h_n35wr := hu.keep h_n35wr
  have h_n35rt := hu.keep h_n35rt
  have h_n35wt := hu.keep h_n35wt
  have h_n35re := hu.keep h_n35re
  have h_n35rs := hu.keep h_n35rs
  have h_n46 := hu.keep h_n46
  have h_n46p := hu.keep h_n46p
  have h_n57 := hu.keep h_n57
  have h_n57a := hu.keep h_n57a
  have h_n57b := hu.keep h_n57b
  have h_n57c := hu.keep h_n57c
  have h_n57d := hu.keep h_n57d
  have h_n57e := hu.keep h_n57e
  have h_n57f := hu.keep h_n57f
  have h_n68 := hu.keep h_n68
  have h_n68c := hu.keep h_n68c
  have h_n79 := hu.keep h_n79
  have h_hsu := hu.keep h_hsu
  have h_hco := hu.keep h_hco
  have h_n90 := hu.keep h_n90
  have h_n97 := hu.keep h_n97
  have h_n100 : ws[1 + 47]? = some (a_100, .inr (1, [.null, .null])) := by have h9 := hu.new; rwa [hlen] at h9
  have hlen : ws.length = 1 + 48 := by have h9 := hu.len; omega
  have hE := hE.tr hu.eqx
  have hFc : ∀ i : Nat, i < 8 → ws[1 + 29 + 2 * i]? = some (hac i, .inr (0, [.ref (hap i), .long (fmk 0 (fun _ => 0))])) ∧ ws[1 + 29 + 2 * i + 1]? = some (hap i, aL cy 4 (mk 0 (fun _ => 0))) := fun i hi => ⟨hu.keep (hFc i hi).1, hu.keep (hFc i hi).2⟩
  refine r_dup E dX10_init_103 rfl ?_
  refine r_iconst E dX10_init_104 ?_
  refine r_newI (N := 0) E h ⟨rfl, by decide⟩ (List.mem_of_getElem? (i := 39) rfl) (by show 0 + 1 + 1 + 6 + 1 + 6 + 1 + 1 + 1 + 6 + 1 + 1 + 1 + 18 + 1 + 1 + 1 + 1 ≤ 60; omega) (by show 0 + 600 + 10 + 630 + 8 + 32703 + 2 + 4 + 6 + 92 + 4 + 164 + 4 + 64 + 4 + 0 + 2 + 0 ≤ 34800; omega) dX10_init_105 (fun a_105 ws H hu h => ?_)
  have h_t9 := hu.keep h_t9
  have h_n8 := hu.keep h_n8
  have h_n24 := hu.keep h_n24
  have h_n24a := hu.keep h_n24a
  have h_n24b := hu.keep h_n24b
  have h_n24c := hu.keep h_n24c
  have h_n24d := hu.keep h_n24d
  have h_n24e := hu.keep h_n24e
  have h_n24f := hu.keep h_n24f
  have h_n35 := hu.keep h_n35
  have h_n35se := hu.keep h_n35se
  have h_n35wr := hu.keep h_n35wr
  have h_n35rt := hu.keep h_n35rt
  have h_n35wt := hu.keep h_n35wt
  have h_n35re := hu.keep h_n35re
  have h_n35rs := hu.keep h_n35rs
  have h_n46 := hu.keep h_n46
  have h_n46p := hu.keep h_n46p
  have h_n57 := hu.keep h_n57
  have h_n57a := hu.keep h_n57a
  have h_n57b := hu.keep h_n57b
  have h_n57c := hu.keep h_n57c
  have h_n57d := hu.keep h_n57d
  have h_n57e := hu.keep h_n57e
  have h_n57f := hu.keep h_n57f
  have h_n68 := hu.keep h_n68
  have h_n68c := hu.keep h_n68c
  have h_n79 := hu.keep h_n79
  have h_hsu := hu.keep h_hsu
  have h_hco := hu.keep h_hco
  have h_n90 := hu.keep h_n90
  have h_n97 := hu.keep h_n97
  have h_n100 := hu.keep h_n100
  have h_n105 : ws[1 + 48]? = some (a_105, aI cy 0 ((fun _ => 0))) := by have h9 := hu.new; rwa [hlen] at h9
  have hlen : ws.length = 1 + 49 := by have h9 := hu.len; omega
  have hE := hE.tr hu.eqx
  have hFc : ∀ i : Nat, i < 8 → ws[1 + 29 + 2 * i]? = some (hac i, .inr (0, [.ref (hap i), .long (fmk 0 (fun _ => 0))])) ∧ ws[1 + 29 + 2 * i + 1]? = some (hap i, aL cy 4 (mk 0 (fun _ => 0))) := fun i hi => ⟨hu.keep (hFc i hi).1, hu.keep (hFc i hi).2⟩
  refine r_callI E h (As := [.ref a_105]) (rest := [.ref a_100, .ref a_97, .int (zI 0), .int (zI 0), .ref a_90, .ref a_90, .ref a]) (k_X1_init l h_n100 hlen) gX10_init_X1_init rfl (List.mem_of_getElem? (i := 38) rfl) (List.mem_of_getElem? (i := 113) rfl) (List.mem_of_getElem? (i := 114) rfl) rfl hd_X1_init (by decide) ⟨by show 0 + 1 + 1 + 6 + 1 + 6 + 1 + 1 + 1 + 6 + 1 + 1 + 1 + 18 + 1 + 1 + 1 + 1 + 1 ≤ 60; omega, by show 0 + 600 + 10 + 630 + 8 + 32703 + 2 + 4 + 6 + 92 + 4 + 164 + 4 + 64 + 4 + 0 + 2 + 0 + 11 ≤ 34800; omega⟩ hl.1 rfl (Nat.le_of_ble_eq_true rfl) dX10_init_107 rfl (fun ws H locs hp h => ?_)
  obtain ⟨as_107, h_n100, h_n100s, hlen, hf⟩ := hp
  have h_t9 := hf.at h_t9 (by first | decide | omega | (dsimp only <;> omega))
  have h_n8 := hf.at h_n8 (by first | decide | omega | (dsimp only <;> omega))
  have h_n24 := hf.at h_n24 (by first | decide | omega | (dsimp only <;> omega))
  have h_n24a := hf.at h_n24a (by first | decide | omega | (dsimp only <;> omega))
  have h_n24b := hf.at h_n24b (by first | decide | omega | (dsimp only <;> omega))
  have h_n24c := hf.at h_n24c (by first | decide | omega | (dsimp only <;> omega))
  have h_n24d := hf.at h_n24d (by first | decide | omega | (dsimp only <;> omega))
  have h_n24e := hf.at h_n24e (by first | decide | omega | (dsimp only <;> omega))
  have h_n24f := hf.at h_n24f (by first | decide | omega | (dsimp only <;> omega))
  have h_n35 := hf.at h_n35 (by first | decide | omega | (dsimp only <;> omega))
  have h_n35se := hf.at h_n35se (by first | decide | omega | (dsimp only <;> omega))
  have h_n35wr := hf.at h_n35wr (by first | decide | omega | (dsimp only <;> omega))
  have h_n35rt := hf.at h_n35rt (by first | decide | omega | (dsimp only <;> omega))
  have h_n35wt := hf.at h_n35wt (by first | decide | omega | (dsimp only <;> omega))
  have h_n35re := hf.at h_n35re (by first | decide | omega | (dsimp only <;> omega))
  have h_n35rs := hf.at h_n35rs (by first | decide | omega | (dsimp only <;> omega))
  have h_n46 := hf.at h_n46 (by first | decide | omega | (dsimp only <;> omega))
  have h_n46p := hf.at h_n46p (by first | decide | omega | (dsimp only <;> omega))
  have h_n57 := hf.at h_n57 (by first | decide | omega | (dsimp only <;> omega))
  have h_n57a := hf.at h_n57a (by first | decide | omega | (dsimp only <;> omega))
  have h_n57b := hf.at h_n57b (by first | decide | omega | (dsimp only <;> omega))
  have h_n57c := hf.at h_n57c (by first | decide | omega | (dsimp only <;> omega))
  have h_n57d := hf.at h_n57d (by first | decide | omega | (dsimp only <;> omega))
  have h_n57e := hf.at h_n57e (by first | decide | omega | (dsimp only <;> omega))
  have h_n57f := hf.at h_n57f (by first | decide | omega | (dsimp only <;> omega))
  have h_n68 := hf.at h_n68 (by first | decide | omega | (dsimp only <;> omega))
  have h_n68c := hf.at h_n68c (by first | decide | omega | (dsimp only <;> omega))
  have h_n79 := hf.at h_n79 (by first | decide | omega | (dsimp only <;> omega))
  have h_hsu := hf.at h_hsu (by first | decide | omega | (dsimp only <;> omega))
  have h_hco := hf.at h_hco (by first | decide | omega | (dsimp only <;> omega))
  have h_n90 := hf.at h_n90 (by first | decide | omega | (dsimp only <;> omega))
  have h_n97 := hf.at h_n97 (by first | decide | omega | (dsimp only <;> omega))
  have h_n105 := hf.at h_n105 (by first | decide | omega | (dsimp only <;> omega))
  have hlen : ws.length = 1 + 50 := by omega
  have hE := hE.trG hf (fun j hj hY => by first | omega | (dsimp only at hY ⊢ <;> omega))
  have hFc : ∀ i : Nat, i < 8 → ws[1 + 29 + 2 * i]? = some (hac i, .inr (0, [.ref (hap i), .long (fmk 0 (fun _ => 0))])) ∧ ws[1 + 29 + 2 * i + 1]? = some (hap i, aL cy 4 (mk 0 (fun _ => 0))) := fun i hi => ⟨hf.at (hFc i hi).1 (by first | omega | (dsimp only <;> omega)), hf.at (hFc i hi).2 (by first | omega | (dsimp only <;> omega))⟩
  refine r_callI E h (As := [.int (zI 0), .int (zI 0), .ref a_97, .ref a_100]) (rest := [.ref a_90, .ref a]) (k_X6_init l 0 0 h_n90) gX10_init_X6_init rfl (List.mem_of_getElem? (i := 34) rfl) (List.mem_of_getElem? (i := 119) rfl) (List.mem_of_getElem? (i := 120) rfl) rfl hd_X6_init (by decide) ⟨by show 0 + 1 + 1 + 6 + 1 + 6 + 1 + 1 + 1 + 6 + 1 + 1 + 1 + 18 + 1 + 1 + 1 + 1 + 1 + 0 ≤ 60; omega, by show 0 + 600 + 10 + 630 + 8 + 32703 + 2 + 4 + 6 + 92 + 4 + 164 + 4 + 64 + 4 + 0 + 2 + 0 + 11 + 0 ≤ 34800; omega⟩ hl.1 rfl (Nat.le_of_ble_eq_true rfl) dX10_init_110 rfl (fun ws H locs hp h => ?_)
  obtain ⟨h_n90, hf⟩ := hp
  have h_t9 := hf.at h_t9 (by first | decide | omega | (dsimp only <;> omega))
  have h_n8 := hf.at h_n8 (by first | decide | omega | (dsimp only <;> omega))
  have h_n24 := hf.at h_n24 (by first | decide | omega | (dsimp only <;> omega))
  have h_n24a := hf.at h_n24a (by first | decide | omega | (dsimp only <;> omega))
  have h_n24b := hf.at h_n24b (by first | decide | omega | (dsimp only <;> omega))
  have h_n24c := hf.at h_n24c (by first | decide | omega | (dsimp only <;> omega))
  have h_n24d := hf.at h_n24d (by first | decide | omega | (dsimp only <;> omega))
  have h_n24e := hf.at h_n24e (by first | decide | omega | (dsimp only <;> omega))
  have h_n24f := hf.at h_n24f (by first | decide | omega | (dsimp only <;> omega))
  have h_n35 := hf.at h_n35 (by first | decide | omega | (dsimp only <;> omega))
  have h_n35se := hf.at h_n35se (by first | decide | omega | (dsimp only <;> omega))
  have h_n35wr := hf.at h_n35wr (by first | decide | omega | (dsimp only <;> omega))
  have h_n35rt := hf.at h_n35rt (by first | decide | omega | (dsimp only <;> omega))
  have h_n35wt := hf.at h_n35wt (by first | decide | omega | (dsimp only <;> omega))
  have h_n35re := hf.at h_n35re (by first | decide | omega | (dsimp only <;> omega))
  have h_n35rs := hf.at h_n35rs (by first | decide | omega | (dsimp only <;> omega))
  have h_n46 := hf.at h_n46 (by first | decide | omega | (dsimp only <;> omega))
  have h_n46p := hf.at h_n46p (by first | decide | omega | (dsimp only <;> omega))
  have h_n57 := hf.at h_n57 (by first | decide | omega | (dsimp only <;> omega))
  have h_n57a := hf.at h_n57a (by first | decide | omega | (dsimp only <;> omega))
  have h_n57b := hf.at h_n57b (by first | decide | omega | (dsimp only <;> omega))
  have h_n57c := hf.at h_n57c (by first | decide | omega | (dsimp only <;> omega))
  have h_n57d := hf.at h_n57d (by first | decide | omega | (dsimp only <;> omega))
  have h_n57e := hf.at h_n57e (by first | decide | omega | (dsimp only <;> omega))
  have h_n57f := hf.at h_n57f (by first | decide | omega | (dsimp only <;> omega))
  have h_n68 := hf.at h_n68 (by first | decide | omega | (dsimp only <;> omega))
  have h_n68c := hf.at h_n68c (by first | decide | omega | (dsimp only <;> omega))
  have h_n79 := hf.at h_n79 (by first | decide | omega | (dsimp only <;> omega))
  have h_hsu := hf.at h_hsu (by first | decide | omega | (dsimp only <;> omega))
  have h_hco := hf.at h_hco (by first | decide | omega | (dsimp only <;> omega))
  have h_n97 := hf.at h_n97 (by first | decide | omega | (dsimp only <;> omega))
  have h_n100 := hf.at h_n100 (by first | decide | omega | (dsimp only <;> omega))
  have h_n105 := hf.at h_n105 (by first | decide | omega | (dsimp only <;> omega))
  have h_n100s := hf.at h_n100s (by first | decide | omega | (dsimp only <;> omega))
  obtain ⟨B9, hlen⟩ : ∃ b9 : Nat, ws.length = b9 := ⟨_, rfl⟩
  have hE := hE.trG hf (fun j hj hY => by first | omega | (dsimp only at hY ⊢ <;> omega))
  have hFc : ∀ i : Nat, i < 8 → ws[1 + 29 + 2 * i]? = some (hac i, .inr (0, [.ref (hap i), .long (fmk 0 (fun _ => 0))])) ∧ ws[1 + 29 + 2 * i + 1]? = some (hap i, aL cy 4 (mk 0 (fun _ => 0))) := fun i hi => ⟨hf.at (hFc i hi).1 (by first | omega | (dsimp only <;> omega)), hf.at (hFc i hi).2 (by first | omega | (dsimp only <;> omega))⟩
  refine r_put E h h_t9 rfl inn_X10_init_10 3 (by decide) fl_X10_init_74 tyX10 tyX10_ok nmX10 rfl rfl rfl (Nat.le_of_ble_eq_true rfl) dX10_init_113 (fun ws H locs h hu => ?_)
  have h_t9 : ws[0]? = some (a, .inr (10, [.ref a_8, .int (zI 0), .int (zI (-1)), .ref a_90, .ref a_24, .ref a_35, .ref a_46, .ref a_57, .ref a_68, .ref a_79])) := hu.1
  have h_n8 := hu.keep h_n8 (by first | decide | omega)
  have h_n24 := hu.keep h_n24 (by first | decide | omega)
  have h_n24a := hu.keep h_n24a (by first | decide | omega)
  have h_n24b := hu.keep h_n24b (by first | decide | omega)
  have h_n24c := hu.keep h_n24c (by first | decide | omega)
  have h_n24d := hu.keep h_n24d (by first | decide | omega)
  have h_n24e := hu.keep h_n24e (by first | decide | omega)
  have h_n24f := hu.keep h_n24f (by first | decide | omega)
  have h_n35 := hu.keep h_n35 (by first | decide | omega)
  have h_n35se := hu.keep h_n35se (by first | decide | omega)
  have h_n35wr := hu.keep h_n35wr (by first | decide | omega)
  have h_n35rt := hu.keep h_n35rt (by first | decide | omega)
  have h_n35wt := hu.keep h_n35wt (by first | decide | omega)
  have h_n35re := hu.keep h_n35re (by first | decide | omega)
  have h_n35rs := hu.keep h_n35rs (by first | decide | omega)
  have h_n46 := hu.keep h_n46 (by first | decide | omega)
  have h_n46p := hu.keep h_n46p (by first | decide | omega)
  have h_n57 := hu.keep h_n57 (by first | decide | omega)
  have h_n57a := hu.keep h_n57a (by first | decide | omega)
  have h_n57b := hu.keep h_n57b (by first | decide | omega)
  have h_n57c := hu.keep h_n57c (by first | decide | omega)
  have h_n57d := hu.keep h_n57d (by first | decide | omega)
  have h_n57e := hu.keep h_n57e (by first | decide | omega)
  have h_n57f := hu.keep h_n57f (by first | decide | omega)
  have h_n68 := hu.keep h_n68 (by first | decide | omega)
  have h_n68c := hu.keep h_n68c (by first | decide | omega)
  have h_n79 := hu.keep h_n79 (by first | decide | omega)
  have h_hsu := hu.keep h_hsu (by first | decide | omega)
  have h_hco := hu.keep h_hco (by first | decide | omega)
  have h_n90 := hu.keep h_n90 (by first | decide | omega)
  have h_n97 := hu.keep h_n97 (by first | decide | omega)
  have h_n100 := hu.keep h_n100 (by first | decide | omega)
  have h_n105 := hu.keep h_n105 (by first | decide | omega)
  have h_n100s := hu.keep h_n100s (by first | decide | omega)
  have hE : Eqx ws0 ws (fun j => j = 0) := by first | exact hE.tr (hu.eqx (by first | omega | (dsimp only <;> omega))) | exact hE.up hu (by omega)
  have hlen := hu.2.1.trans hlen
  have hFc : ∀ i : Nat, i < 8 → ws[1 + 29 + 2 * i]? = some (hac i, .inr (0, [.ref (hap i), .long (fmk 0 (fun _ => 0))])) ∧ ws[1 + 29 + 2 * i + 1]? = some (hap i, aL cy 4 (mk 0 (fun _ => 0))) := fun i hi => ⟨hu.keep (hFc i hi).1 (by omega), hu.keep (hFc i hi).2 (by omega)⟩
  refine W.widen (k := 60) (n := 34800) (by show 0 + 1 + 1 + 6 + 1 + 6 + 1 + 1 + 1 + 6 + 1 + 1 + 1 + 18 + 1 + 1 + 1 + 1 + 1 + 0 ≤ 60; omega) (by show 0 + 600 + 10 + 630 + 8 + 32703 + 2 + 4 + 6 + 92 + 4 + 164 + 4 + 64 + 4 + 0 + 2 + 0 + 11 + 0 ≤ 34800; omega) ?_
  exact r_vret E h (by
  refine ⟨fun k => [a, a_8, a_24, arc, arp9, atk7, atx, arl, apg, a_35, ase, awr, art, awt, are, ars, a_46, apn46, a_57, asc, ascp, asb, asbp, aop, atr, a_68, ach, a_79, ahsu, ahco, hac 0, hap 0, hac 1, hap 1, hac 2, hap 2, hac 3, hap 3, hac 4, hap 4, hac 5, hap 5, hac 6, hap 6, hac 7, hap 7].getD k 0, _, rfl, ⟨h_t9, h_n8, ⟨_, _, _, _, _, _, _, _, _, _, _, _, _, _, _, _, h_n24, h_n24a, h_n24b, h_n24c, h_n24e, h_n24f⟩⟩, ⟨_, _, _, _, _, _, h_n57, h_n57a, h_n57b, h_n57c, h_n57d, h_n57e, h_n57f⟩, ⟨_, _, _, _, h_n68, h_n68c⟩, ⟨_, _, _, _, _, _, _, _, h_n35, h_n35se, h_n35wr, h_n35rt, h_n35wt, h_n35re, h_n35rs, TW_00⟩, ⟨h_n46, h_n46p⟩, ⟨⟨h_n79, h_hsu, fun i hi => ?_⟩, _, h_hco, fun i hi => ?_⟩, ?_, hE⟩
  · have h9 := hFc i hi
    rcases (show i = 0 ∨ i = 1 ∨ i = 2 ∨ i = 3 ∨ i = 4 ∨ i = 5 ∨ i = 6 ∨ i = 7 by omega) with rfl | rfl | rfl | rfl | rfl | rfl | rfl | rfl <;> exact h9
  · have h9 := hcc i hi
    rcases (show i = 0 ∨ i = 1 ∨ i = 2 ∨ i = 3 ∨ i = 4 ∨ i = 5 ∨ i = 6 ∨ i = 7 by omega) with rfl | rfl | rfl | rfl | rfl | rfl | rfl | rfl <;> exact h9
  · refine ⟨46, a_97, a_100, 47, 48, a_105, 49, as_107, _, fun _ => 0, _, h_n90, h_n97, h_n100, ?_, h_n100s, ⟨by omega, by omega, by omega, by omega⟩, fun r hr => absurd hr (by show ¬ (r : Int) < 0; omega), fun r hr => absurd hr (by show ¬ (r : Int) < 0; omega)⟩
    rw [show tkF [] = (fun _ => 0) from funext fun _ => rfl]
    exact h_n105) dX10_init_116
