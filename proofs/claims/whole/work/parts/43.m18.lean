theorem hd_X11_byteAt : yX11_byteAt.cls = RX11 ∧ yX11_byteAt.cls ≠ "java/lang/invoke/MethodHandle" ∧ yX11_byteAt.cls ≠ "java/lang/invoke/VarHandle" ∧ (parseMethodDescriptor yX11_byteAt.desc).map (fun d => d.parameters.length) = some 1 := by decide +kernel
theorem fl_X11_byteAt_63 : Cond.fieldLink RX11 63 (TX11 3).1 (TX11 3).2.1 (TX11 3).2.2.1 ∈ wsX11_byteAt := List.mem_of_getElem? (i := 1) rfl
theorem inn_X11_byteAt_11 : ∀ w ∈ wsX110, w ∈ wsX11_byteAt := fun _ h => List.mem_cons_of_mem _ (List.mem_append_right _ h)
theorem fl_X11_byteAt_9 : Cond.fieldLink RX11 9 (TX11 1).1 (TX11 1).2.1 (TX11 1).2.2.1 ∈ wsX11_byteAt := List.mem_of_getElem? (i := 2) rfl
abbrev rm_X11_byteAt : Room := { frames := 0, cells := 0, slots := 0, locals := 0 }
set_option maxHeartbeats 4000000 in
set_option maxRecDepth 100000 in
theorem k_X11_byteAt (l : Launch) {G : va_G} {cy : Nat → ClassId} {ws0 : va_W} {b aM : Nat} {I : Nat → Int} {ad : Nat → Nat} {bu : Int → Int} (k : Int) (h_mo : ws0[b]? = some (aM, mO I ad)) (h_bu : ws0[b + 1]? = some (ad 1, aI cy 600 bu)) (hk : 0 ≤ k ∧ k ≤ 2147483647) (hL : 0 ≤ I 3 ∧ I 3 ≤ 600) : MI l yX11_byteAt wsX11_byteAt rm_X11_byteAt G cy [.ref aM, .int (zI k)] ws0 (fun z u => z = byA bu (I 3) k ∧ ws0 = u) := by
  refine MI.of (own := RX11) (cc := cX11_byteAt) (nL := 2) (ret := (some .int)) (by decide) rfl rfl (Nat.le_of_ble_eq_true rfl) ?_
  intro p e s m below meth c A ls E h hl
  have hl : lv_has ls 2 [(0, .ref aM), (1, .int (zI k))] := hl
  refine r_iload_n E 1 hl rfl dX11_byteAt_0 ?_
  refine r_aload_n E 0 hl rfl dX11_byteAt_1 ?_
  refine r_get (v := .int (zI (I 3))) E h h_mo rfl inn_X11_byteAt_11 3 (by decide) fl_X11_byteAt_63 rfl dX11_byteAt_2 ?_
  refine r_icmp_ge E 17 dX11_byteAt_5 (by decide) (by omega) (fun c_5 => ?_) (fun c_5 => ?_)
  · skip
    refine r_iconst E dX11_byteAt_17 ?_
    exact r_iret E h ⟨by unfold byA; first | (rw [if_pos (by omega)]) | (rw [if_neg (by omega)]), rfl⟩ dX11_byteAt_18
  · skip
    refine r_aload_n E 0 hl rfl dX11_byteAt_8 ?_
    refine r_get (v := .ref (ad 1)) E h h_mo rfl inn_X11_byteAt_11 1 (by decide) fl_X11_byteAt_9 rfl dX11_byteAt_9 ?_
    refine r_iload_n E 1 hl rfl dX11_byteAt_12 ?_
    refine r_iald E h h_bu (by omega) (by decide) dX11_byteAt_13 ?_
    refine r_goto E 18 dX11_byteAt_14 (by decide) ?_
    exact r_iret E h ⟨by unfold byA; first | (rw [if_pos (by omega)]) | (rw [if_neg (by omega)]), rfl⟩ dX11_byteAt_18
theorem hd_X11_isDigit : yX11_isDigit.cls ≠ "java/lang/invoke/MethodHandle" ∧ yX11_isDigit.cls ≠ "java/lang/invoke/VarHandle" ∧ (parseMethodDescriptor yX11_isDigit.desc).map (fun d => d.parameters.length) = some 1 := by decide +kernel
abbrev rm_X11_isDigit : Room := { frames := 1, cells := 0, slots := 0, locals := 22 }
set_option maxHeartbeats 4000000 in
set_option maxRecDepth 100000 in
theorem k_X11_isDigit (l : Launch) {G : va_G} {cy : Nat → ClassId} {ws0 : va_W} (c9 : Int)  (hv : (-2147483648 ≤ c9 ∧ c9 ≤ 2147483647)) : MI l yX11_isDigit wsX11_isDigit rm_X11_isDigit G cy [.int (zI c9)] ws0 (fun z u => (z = 1 ∧ (48 ≤ c9 ∧ c9 ≤ 57) ∨ z = 0 ∧ ¬ (48 ≤ c9 ∧ c9 ≤ 57)) ∧ ws0 = u) := by
  refine MI.of (own := RX11) (cc := cX11_isDigit) (nL := 1) (ret := (some .boolean)) (by decide) rfl rfl (Nat.le_of_ble_eq_true rfl) ?_
  intro p e s m below meth c A ls E h hl
  have hl : lv_has ls 1 [(0, .int (zI c9))] := hl
  refine r_iload_n E 0 hl rfl dX11_isDigit_0 ?_
  refine r_bipush E dX11_isDigit_1 (by decide) ?_
  refine r_bipush E dX11_isDigit_3 (by decide) ?_
  refine r_callSI E h (As := [.int (zI c9), .int (zI 48), .int (zI 57)]) (rest := []) (k_X11_in l c9 48 57 (by omega)) gX11_isDigit_X11_in rfl hd_X11_in (by decide) ⟨by decide, by decide⟩ hl.1 rfl (Nat.le_of_ble_eq_true rfl) dX11_isDigit_5 rfl (fun z_5 ws H locs hp h => ?_)
  obtain ⟨e_z_5, rfl⟩ := hp
  exact r_zret E h (by omega) ⟨by omega, rfl⟩ dX11_isDigit_8
theorem hd_X11_isGood : yX11_isGood.cls = RX11 ∧ yX11_isGood.cls ≠ "java/lang/invoke/MethodHandle" ∧ yX11_isGood.cls ≠ "java/lang/invoke/VarHandle" ∧ (parseMethodDescriptor yX11_isGood.desc).map (fun d => d.parameters.length) = some 0 := by decide +kernel
theorem fl_X11_isGood_73 : Cond.fieldLink RX11 73 (TX11 5).1 (TX11 5).2.1 (TX11 5).2.2.1 ∈ wsX11_isGood := List.mem_of_getElem? (i := 1) rfl
theorem inn_X11_isGood_11 : ∀ w ∈ wsX110, w ∈ wsX11_isGood := fun _ h => List.mem_cons_of_mem _ (List.mem_append_right _ h)
abbrev rm_X11_isGood : Room := { frames := 0, cells := 0, slots := 0, locals := 0 }
set_option maxHeartbeats 4000000 in
set_option maxRecDepth 100000 in
theorem k_X11_isGood (l : Launch) {G : va_G} {cy : Nat → ClassId} {ws0 : va_W} {b aM : Nat} {I : Nat → Int} {ad : Nat → Nat}  (h_mo : ws0[b]? = some (aM, mO I ad)) (hE5 : (-10 ≤ I 5 ∧ I 5 ≤ 0)) : MI l yX11_isGood wsX11_isGood rm_X11_isGood G cy [.ref aM] ws0 (fun z u => (z = 1 ∧ I 5 = 0 ∨ z = 0 ∧ I 5 ≠ 0) ∧ ws0 = u) := by
  refine MI.of (own := RX11) (cc := cX11_isGood) (nL := 1) (ret := (some .boolean)) (by decide) rfl rfl (Nat.le_of_ble_eq_true rfl) ?_
  intro p e s m below meth c A ls E h hl
  have hl : lv_has ls 1 [(0, .ref aM)] := hl
  refine r_aload_n E 0 hl rfl dX11_isGood_0 ?_
  refine r_get (v := .int (zI (I 5))) E h h_mo rfl inn_X11_isGood_11 5 (by decide) fl_X11_isGood_73 rfl dX11_isGood_1 ?_
  refine r_if_ne E 11 dX11_isGood_4 (by decide) (by omega) (fun c_4 => ?_) (fun c_4 => ?_)
  · skip
    refine r_iconst E dX11_isGood_11 ?_
    exact r_zret E h (by omega) ⟨by omega, rfl⟩ dX11_isGood_12
  · skip
    refine r_iconst E dX11_isGood_7 ?_
    refine r_goto E 12 dX11_isGood_8 (by decide) ?_
    exact r_zret E h (by omega) ⟨by omega, rfl⟩ dX11_isGood_12
theorem hd_X11_report : yX11_report.cls = RX11 ∧ yX11_report.cls ≠ "java/lang/invoke/MethodHandle" ∧ yX11_report.cls ≠ "java/lang/invoke/VarHandle" ∧ (parseMethodDescriptor yX11_report.desc).map (fun d => d.parameters.length) = some 2 := by decide +kernel
theorem fl_X11_report_73 : Cond.fieldLink RX11 73 (TX11 5).1 (TX11 5).2.1 (TX11 5).2.2.1 ∈ wsX11_report := List.mem_of_getElem? (i := 1) rfl
theorem inn_X11_report_11 : ∀ w ∈ wsX110, w ∈ wsX11_report := fun _ h => List.mem_cons_of_mem _ (List.mem_append_right _ h)
theorem fl_X11_report_76 : Cond.fieldLink RX11 76 (TX11 6).1 (TX11 6).2.1 (TX11 6).2.2.1 ∈ wsX11_report := List.mem_of_getElem? (i := 2) rfl
abbrev rm_X11_report : Room := { frames := 0, cells := 0, slots := 0, locals := 0 }
set_option maxHeartbeats 4000000 in
set_option maxRecDepth 100000 in
theorem k_X11_report (l : Launch) {G : va_G} {cy : Nat → ClassId} {ws0 : va_W} {b aM : Nat} {I : Nat → Int} {ad : Nat → Nat} (kd of : Int) (h_mo : ws0[b]? = some (aM, mO I ad)) (hE5 : (-10 ≤ I 5 ∧ I 5 ≤ 0)) : MV l yX11_report wsX11_report rm_X11_report G cy [.ref aM, .int (zI kd), .int (zI of)] ws0 (fun u => ∃ I2 : Nat → Int, u[b]? = some (aM, mO I2 ad) ∧ ((I 5 = 0 ∧ I2 5 = kd ∧ I2 6 = of ∨ I 5 ≠ 0 ∧ I2 5 = I 5 ∧ I2 6 = I 6) ∧ ∀ k : Nat, k ≠ 5 → k ≠ 6 → I2 k = I k) ∧ Eqx ws0 u (fun j => j = b)) := by
  refine MV.of (own := RX11) (cc := cX11_report) (nL := 3) (ret := none) (by decide) rfl rfl (Nat.le_of_ble_eq_true rfl) ?_
  intro p e s m below meth c A ls hin E h hl
  have hl : lv_has ls 3 [(0, .ref aM), (1, .int (zI kd)), (2, .int (zI of))] := hl
  have hE : Eqx ws0 ws0 (fun j => j = b) := Eqx.rf
  refine r_aload_n E 0 hl rfl dX11_report_0 ?_
  refine r_get (v := .int (zI (I 5))) E h h_mo rfl inn_X11_report_11 5 (by decide) fl_X11_report_73 rfl dX11_report_1 ?_
  refine r_if_eq E 8 dX11_report_4 (by decide) (by omega) (fun c_4 => ?_) (fun c_4 => ?_)
  · skip
    refine r_aload_n E 0 hl rfl dX11_report_8 ?_
    refine r_iload_n E 1 hl rfl dX11_report_9 ?_
    refine r_put E h h_mo rfl inn_X11_report_11 5 (by decide) fl_X11_report_73 tyX11 tyX11_ok nmX11 rfl rfl rfl (Nat.le_of_ble_eq_true rfl) dX11_report_10 (fun ws H locs h hu => ?_)
    have h_mo : ws[b]? = some (aM, mO (va_up I 5 kd) ad) := hu.1
    have hE := hE.tr (hu.eqx (by first | omega | (dsimp only <;> omega)))
    refine r_aload_n E 0 hl rfl dX11_report_13 ?_
    refine r_iload_n E 2 hl rfl dX11_report_14 ?_
    refine r_put E h h_mo rfl inn_X11_report_11 6 (by decide) fl_X11_report_76 tyX11 tyX11_ok nmX11 rfl rfl rfl (Nat.le_of_ble_eq_true rfl) dX11_report_15 (fun ws H locs h hu => ?_)
    have h_mo : ws[b]? = some (aM, mO (va_up (va_up I 5 kd) 6 of) ad) := hu.1
    have hE := hE.tr (hu.eqx (by first | omega | (dsimp only <;> omega)))
    exact r_vret E h ⟨_, h_mo, ⟨Or.inl ⟨by omega, by simp [va_up], by simp [va_up]⟩, fun k h1 h2 => by simp [va_up, h1, h2]⟩, hE⟩ dX11_report_18
  · skip
    exact r_vret E h ⟨I, h_mo, ⟨Or.inr ⟨by omega, rfl, rfl⟩, fun _ _ _ => rfl⟩, hE⟩ dX11_report_7
theorem hd_X11_next : yX11_next.cls = RX11 ∧ yX11_next.cls ≠ "java/lang/invoke/MethodHandle" ∧ yX11_next.cls ≠ "java/lang/invoke/VarHandle" ∧ (parseMethodDescriptor yX11_next.desc).map (fun d => d.parameters.length) = some 0 := by decide +kernel
theorem fl_X11_next_66 : Cond.fieldLink RX11 66 (TX11 4).1 (TX11 4).2.1 (TX11 4).2.2.1 ∈ wsX11_next := List.mem_of_getElem? (i := 1) rfl
theorem inn_X11_next_11 : ∀ w ∈ wsX110, w ∈ wsX11_next := fun _ h => List.mem_cons_of_mem _ (List.mem_append_right _ h)
abbrev rm_X11_next : Room := { frames := 1, cells := 0, slots := 0, locals := 21 }
set_option maxHeartbeats 4000000 in
set_option maxRecDepth 100000 in
theorem k_X11_next (l : Launch) {G : va_G} {cy : Nat → ClassId} {ws0 : va_W} {b aM : Nat} {I : Nat → Int} {ad : Nat → Nat} {bu : Int → Int}  (h_mo : ws0[b]? = some (aM, mO I ad)) (h_bu : ws0[b + 1]? = some (ad 1, aI cy 600 bu)) (htx : TXok bu) (hL : 0 ≤ I 3 ∧ I 3 ≤ 600) (hp : 0 ≤ I 4 ∧ I 4 ≤ I 3) : MI l yX11_next wsX11_next rm_X11_next G cy [.ref aM] ws0 (fun z u => z = byA bu (I 3) (sk bu (I 3) (I 4)) ∧ ∃ I2 : Nat → Int, u[b]? = some (aM, mO I2 ad) ∧ (I2 4 = sk bu (I 3) (I 4) ∧ ∀ k : Nat, k ≠ 4 → I2 k = I k) ∧ Eqx ws0 u (fun j => j = b)) := by
  refine MI.of (own := RX11) (cc := cX11_next) (nL := 1) (ret := (some .int)) (by decide) rfl rfl (Nat.le_of_ble_eq_true rfl) ?_
  intro p e s m below meth c A ls E h hl
  have hl : lv_has ls 1 [(0, .ref aM)] := hl
  have hE : Eqx ws0 ws0 (fun j => j = b) := Eqx.rf
  refine r_loop (fun n H locs ls => ∃ (ws : va_W) (I3 : Nat → Int), n = (I 3 - I3 4).toNat ∧ (∀ k : Nat, k ≠ 4 → I3 k = I k) ∧ (I 4 ≤ I3 4 ∧ I3 4 ≤ I 3) ∧ (sk bu (I 3) (I3 4) = sk bu (I 3) (I 4)) ∧ Hp G ws A s.heap H locs ∧ (ws[b]? = some (aM, mO I3 ad)) ∧ (ws[b + 1]? = some (ad 1, aI cy 600 bu)) ∧ Eqx ws0 ws (fun j => j = b) ∧ lv_has ls 1 [(0, .ref aM)]) _ ⟨ws0, I, rfl, (fun _ _ => rfl), (by omega), rfl, h, h_mo, h_bu, hE, lv_sub hl [0] rfl⟩ ?_
  rintro n H locs ls ⟨ws, I3, hn, i1, i2, i3, h, h_mo, h_bu, hE, hl⟩ ih_0
  refine r_aload_n E 0 hl rfl dX11_next_0 ?_
  refine r_aload_n E 0 hl rfl dX11_next_1 ?_
  refine r_get (v := .int (zI (I3 4))) E h h_mo rfl inn_X11_next_11 4 (by decide) fl_X11_next_66 rfl dX11_next_2 ?_
  refine r_callVI E h (As := [.int (zI (I3 4))]) (rest := []) (k_X11_byteAt l (I3 4) h_mo h_bu (by omega) (by rw [i1 3 (by decide)]; exact hL)) h_mo rfl gX11_next_X11_byteAt rfl hd_X11_byteAt (by decide) ⟨by decide, by decide⟩ hl.1 rfl (Nat.le_of_ble_eq_true rfl) dX11_next_5 rfl (fun z_5 ws H locs hp h => ?_)
  obtain ⟨rfl, rfl⟩ := hp
  have hbr := byA_rng htx (L := I 3) (p := I3 4)
  refine r_bipush E dX11_next_8 (by decide) ?_
  refine r_icmp_ne E 26 dX11_next_10 (by decide) (by rw [i1 3 (by decide)]; omega) (fun c_10 => ?_) (fun c_10 => ?_)
  · skip
    refine r_aload_n E 0 hl rfl dX11_next_26 ?_
    refine r_aload_n E 0 hl rfl dX11_next_27 ?_
    refine r_get (v := .int (zI (I3 4))) E h h_mo rfl inn_X11_next_11 4 (by decide) fl_X11_next_66 rfl dX11_next_28 ?_
    refine r_callVI E h (As := [.int (zI (I3 4))]) (rest := []) (k_X11_byteAt l (I3 4) h_mo h_bu (by omega) (by rw [i1 3 (by decide)]; exact hL)) h_mo rfl gX11_next_X11_byteAt rfl hd_X11_byteAt (by decide) ⟨by decide, by decide⟩ hl.1 rfl (Nat.le_of_ble_eq_true rfl) dX11_next_31 rfl (fun z_31 ws H locs hp h => ?_)
    obtain ⟨rfl, rfl⟩ := hp
    exact r_iret E h ⟨by
  rw [i1 3 (by decide)] at c_10 ⊢
  rw [← i3, sk_stop (by omega)], I3, h_mo, ⟨by
  rw [i1 3 (by decide)] at c_10
  rw [← i3, sk_stop (by omega)], i1⟩, hE⟩ dX11_next_34
  · skip
    have hlt : I3 4 < I 3 := byA_in (t := bu) (by rw [i1 3 (by decide)] at c_10; omega)
    refine r_aload_n E 0 hl rfl dX11_next_13 ?_
    refine r_dup E dX11_next_14 rfl ?_
    refine r_get (v := .int (zI (I3 4))) E h h_mo rfl inn_X11_next_11 4 (by decide) fl_X11_next_66 rfl dX11_next_15 ?_
    refine r_iconst E dX11_next_18 ?_
    refine r_iadd E dX11_next_19 ?_
    refine r_put E h h_mo rfl inn_X11_next_11 4 (by decide) fl_X11_next_66 tyX11 tyX11_ok nmX11 rfl rfl rfl (Nat.le_of_ble_eq_true rfl) dX11_next_20 (fun ws H locs h hu => ?_)
    have h_mo : ws[b]? = some (aM, mO (va_up I3 4 ((I3 4) + 1)) ad) := hu.1
    have h_bu := hu.keep h_bu (by omega)
    have hE := hE.tr (hu.eqx (by first | omega | (dsimp only <;> omega)))
    have e4 : (va_up I3 4 (I3 4 + 1)) 4 = I3 4 + 1 := by simp [va_up]
    refine r_goto E 0 dX11_next_23 (by decide) ?_
    exact ih_0 _ H locs ls (by omega) ⟨ws, (va_up I3 4 ((I3 4) + 1)), rfl, (fun k h1 => by simp [va_up, h1, i1 k h1]), (by have := byA_in (t := bu) (L := I 3) (p := I3 4) (by rw [i1 3 (by decide)] at c_10; omega); simp [va_up]; omega), (by rw [← i3, show (va_up I3 4 (I3 4 + 1)) 4 = I3 4 + 1 by simp [va_up]]; exact (sk_step (by rw [i1 3 (by decide)] at c_10; exact c_10)).symm), h, h_mo, h_bu, hE, lv_sub hl [0] rfl⟩
