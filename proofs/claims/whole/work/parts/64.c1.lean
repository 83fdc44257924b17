theorem cAll_rng2 {d e : Int → Int} {T : List Int} (hD : DW d T) {q : Ky} (hq : KOk d q) (he : ∀ x : Int, 1 ≤ x → x ≤ d 0 → 0 ≤ e x ∧ e x ≤ d 1) : -1 ≤ cAll d e q ∧ cAll d e q < d 1 := by
  have h1 := kl_rng hD hq
  have h2 := km_rng hD hq (k := 0) (by omega) (by omega)
  have h3 := he _ h2.1 h2.2
  have h4 := hD.k
  unfold cAll
  by_cases h : allN d e q (e (km d q 0) - 1) (kl d q).toNat = true
  · rw [if_pos h]; omega
  · rw [if_neg h]; omega
theorem he4 {d e : Int → Int} {T : List Int} (hD : DW d T) (he : ∀ x : Int, 1 ≤ x → x ≤ d 0 → 0 ≤ e x ∧ e x ≤ d 1) : ∀ x : Int, 1 ≤ x → x ≤ d 0 → 0 ≤ e x ∧ e x ≤ 4 := fun x a b => by
  have := he x a b
  have := hD.k
  omega
theorem lilLow {d : Int → Int} {T : List Int} (hD : DW d T) {q : Ky} (hq : KOk d q) : Low (fun x => has d q x) (lil d q) := by
  have hr := lil_rng hD hq
  have hn := hD.n
  have hl := kl_rng hD hq
  obtain ⟨⟨k, a, b, c⟩, h⟩ := lilN_iff (d := d) (q := q) (kl d q - 1).toNat
  refine ⟨by omega, has_iff.mpr ⟨k, a, by omega, c.symm⟩, fun x h0 h1 => ?_⟩
  by_cases z : has d q x = true
  · obtain ⟨j, j0, j1, j2⟩ := has_iff.mp z
    have := h j j0 (by omega)
    have e : lil d q = lilN d q (kl d q - 1).toNat := rfl
    omega
  · simpa using z
theorem hd_X8_size : yX8_size.cls = RX8 ∧ yX8_size.cls ≠ "java/lang/invoke/MethodHandle" ∧ yX8_size.cls ≠ "java/lang/invoke/VarHandle" ∧ (parseMethodDescriptor yX8_size.desc).map (fun d => d.parameters.length) = some 0 := by decide +kernel
theorem fl_X8_size_19 : Cond.fieldLink RX8 19 (TX8 2).1 (TX8 2).2.1 (TX8 2).2.2.1 ∈ wsX8_size := List.mem_of_getElem? (i := 1) rfl
theorem inn_X8_size_8 : ∀ w ∈ wsX80, w ∈ wsX8_size := fun _ h => List.mem_cons_of_mem _ (List.mem_append_right _ h)
abbrev rm_X8_size : Room := { frames := 0, cells := 0, slots := 0, locals := 0 }
set_option maxHeartbeats 1200000 in
set_option maxRecDepth 100000 in
theorem k_X8_size (l : Launch) {G : va_G} {cy : Nat → ClassId} {ws0 : va_W} {q a ase awr art awt are ars : Nat}   {sz riw : Int} (h_tb : ws0[q]? = some (a, .inr (8, [.ref ase, .ref awr, .int (zI sz), .ref art, .int (zI riw), .ref awt, .ref are, .ref ars])))  : MI l yX8_size wsX8_size rm_X8_size G cy [.ref a] ws0 (fun z u => z = sz ∧ ws0 = u) := by
  refine MI.of (own := RX8) (cc := cX8_size) (nL := 1) (ret := (some .int)) (by decide) rfl rfl (Nat.le_of_ble_eq_true rfl) ?_
  intro p e s m below meth c A ls E h hl
  have hl : lv_has ls 1 [(0, .ref a)] := hl
  refine r_aload_n E 0 hl rfl dX8_size_0 ?_
  refine r_get (v := .int (zI sz)) E h h_tb rfl inn_X8_size_8 2 (by decide) fl_X8_size_19 rfl dX8_size_1 ?_
  exact r_iret E h ⟨rfl, rfl⟩ dX8_size_4
theorem hd_X8_sizeOf : yX8_sizeOf.cls = RX8 ∧ yX8_sizeOf.cls ≠ "java/lang/invoke/MethodHandle" ∧ yX8_sizeOf.cls ≠ "java/lang/invoke/VarHandle" ∧ (parseMethodDescriptor yX8_sizeOf.desc).map (fun d => d.parameters.length) = some 1 := by decide +kernel
theorem fl_X8_sizeOf_23 : Cond.fieldLink RX8 23 (TX8 3).1 (TX8 3).2.1 (TX8 3).2.2.1 ∈ wsX8_sizeOf := List.mem_of_getElem? (i := 1) rfl
theorem inn_X8_sizeOf_8 : ∀ w ∈ wsX80, w ∈ wsX8_sizeOf := fun _ h => List.mem_cons_of_mem _ (List.mem_append_right _ h)
abbrev rm_X8_sizeOf : Room := { frames := 0, cells := 0, slots := 0, locals := 0 }
set_option maxHeartbeats 1200000 in
set_option maxRecDepth 100000 in
theorem k_X8_sizeOf (l : Launch) {G : va_G} {cy : Nat → ClassId} {ws0 : va_W} {q a ase awr art awt are ars : Nat} {se re : Int → Int64} {wr rt wt rs : Int → Int} {sz riw : Int} {d : Int → Int} {T : List Int} (r : Int) (h_tb : ws0[q]? = some (a, .inr (8, [.ref ase, .ref awr, .int (zI sz), .ref art, .int (zI riw), .ref awt, .ref are, .ref ars]))) (h_rt : ws0[q + 3]? = some (art, aI cy 5 rt)) (hD : DW d T) (hT : TW d T se wr rt wt re rs sz) (hr : 0 ≤ r ∧ r < d 2) : MI l yX8_sizeOf wsX8_sizeOf rm_X8_sizeOf G cy [.ref a, .int (zI r)] ws0 (fun z u => z = (kX d r (d 0).toNat).length ∧ ws0 = u) := by
  refine MI.of (own := RX8) (cc := cX8_sizeOf) (nL := 2) (ret := (some .int)) (by decide) rfl rfl (Nat.le_of_ble_eq_true rfl) ?_
  intro p e s m below meth c A ls E h hl
  have hl : lv_has ls 2 [(0, .ref a), (1, .int (zI r))] := hl
  have hnr := hD.nr
  have h9 := hT.2.2.1 r hr.1 hr.2
  refine r_iload_n E 1 hl rfl dX8_sizeOf_0 ?_
  refine r_if_lt E 27 dX8_sizeOf_1 (by decide) (by omega) (fun c_1 => ?_) (fun c_1 => ?_)
  · skip
    exfalso; omega
  · skip
    refine r_iload_n E 1 hl rfl dX8_sizeOf_4 ?_
    refine r_iconst E dX8_sizeOf_5 ?_
    refine r_icmp_ge E 27 dX8_sizeOf_6 (by decide) (by omega) (fun c_6 => ?_) (fun c_6 => ?_)
    · skip
      exfalso; omega
    · skip
      refine r_aload_n E 0 hl rfl dX8_sizeOf_9 ?_
      refine r_get (v := .ref art) E h h_tb rfl inn_X8_sizeOf_8 3 (by decide) fl_X8_sizeOf_23 rfl dX8_sizeOf_10 ?_
      refine r_iload_n E 1 hl rfl dX8_sizeOf_13 ?_
      refine r_iconst E dX8_sizeOf_14 ?_
      refine r_iadd E dX8_sizeOf_15 ?_
      refine r_iald E h h_rt (by omega) (by decide) dX8_sizeOf_16 ?_
      refine r_aload_n E 0 hl rfl dX8_sizeOf_17 ?_
      refine r_get (v := .ref art) E h h_tb rfl inn_X8_sizeOf_8 3 (by decide) fl_X8_sizeOf_23 rfl dX8_sizeOf_18 ?_
      refine r_iload_n E 1 hl rfl dX8_sizeOf_21 ?_
      refine r_iald E h h_rt (by omega) (by decide) dX8_sizeOf_22 ?_
      refine r_isub E dX8_sizeOf_23 ?_
      refine r_goto E 28 dX8_sizeOf_24 (by decide) ?_
      exact r_iret E h ⟨h9.1, rfl⟩ dX8_sizeOf_28
theorem hd_X8_setOf : yX8_setOf.cls = RX8 ∧ yX8_setOf.cls ≠ "java/lang/invoke/MethodHandle" ∧ yX8_setOf.cls ≠ "java/lang/invoke/VarHandle" ∧ (parseMethodDescriptor yX8_setOf.desc).map (fun d => d.parameters.length) = some 1 := by decide +kernel
theorem fl_X8_setOf_19 : Cond.fieldLink RX8 19 (TX8 2).1 (TX8 2).2.1 (TX8 2).2.2.1 ∈ wsX8_setOf := List.mem_of_getElem? (i := 1) rfl
theorem inn_X8_setOf_8 : ∀ w ∈ wsX80, w ∈ wsX8_setOf := fun _ h => List.mem_cons_of_mem _ (List.mem_append_right _ h)
theorem fl_X8_setOf_11 : Cond.fieldLink RX8 11 (TX8 0).1 (TX8 0).2.1 (TX8 0).2.2.1 ∈ wsX8_setOf := List.mem_of_getElem? (i := 2) rfl
abbrev rm_X8_setOf : Room := { frames := 0, cells := 0, slots := 0, locals := 0 }
set_option maxHeartbeats 1200000 in
set_option maxRecDepth 100000 in
theorem k_X8_setOf (l : Launch) {G : va_G} {cy : Nat → ClassId} {ws0 : va_W} {q a ase awr art awt are ars : Nat} {se re : Int → Int64} {wr rt wt rs : Int → Int} {sz riw : Int} {d : Int → Int} {T : List Int} (sZ : Int) (q9 : Ky) (h_tb : ws0[q]? = some (a, .inr (8, [.ref ase, .ref awr, .int (zI sz), .ref art, .int (zI riw), .ref awt, .ref are, .ref ars]))) (h_se : ws0[q + 1]? = some (ase, aL cy 6400 se)) (hD : DW d T) (hT : TW d T se wr rt wt re rs sz) (hs0 : 0 ≤ sZ) (hs : (KL d)[sZ.toNat]? = some q9) : ML l yX8_setOf wsX8_setOf rm_X8_setOf G cy [.ref a, .int (zI sZ)] ws0 (fun z u => bs (fun x => has d q9 x) = z ∧ ws0 = u) := by
  refine ML.of (own := RX8) (cc := cX8_setOf) (nL := 2) (ret := (some .long)) (by decide) rfl rfl (Nat.le_of_ble_eq_true rfl) ?_
  intro p e s m below meth c A ls E h hl
  have hl : lv_has ls 2 [(0, .ref a), (1, .int (zI sZ))] := hl
  have hsz := hT.1
  have hlen := KL_len hD
  have hsl := lt_of_get hs
  have hq9 := KL_at hD hs
  have hs9 := hT.2.1 sZ.toNat q9 hs
  rw [show ((sZ.toNat : Nat) : Int) = sZ by omega] at hs9
  have hbr := big_rng hD hq9
  have hn9 := hD.n
  have hnr := hD.nr
  have hq1 := hq9.1
  refine r_iload_n E 1 hl rfl dX8_setOf_0 ?_
  refine r_if_lt E 21 dX8_setOf_1 (by decide) (by omega) (fun c_1 => ?_) (fun c_1 => ?_)
  · skip
    exfalso; omega
  · skip
    refine r_iload_n E 1 hl rfl dX8_setOf_4 ?_
    refine r_aload_n E 0 hl rfl dX8_setOf_5 ?_
    refine r_get (v := .int (zI sz)) E h h_tb rfl inn_X8_setOf_8 2 (by decide) fl_X8_setOf_19 rfl dX8_setOf_6 ?_
    refine r_icmp_ge E 21 dX8_setOf_9 (by decide) (by omega) (fun c_9 => ?_) (fun c_9 => ?_)
    · skip
      exfalso; omega
    · skip
      refine r_aload_n E 0 hl rfl dX8_setOf_12 ?_
      refine r_get (v := .ref ase) E h h_tb rfl inn_X8_setOf_8 0 (by decide) fl_X8_setOf_11 rfl dX8_setOf_13 ?_
      refine r_iload_n E 1 hl rfl dX8_setOf_16 ?_
      refine r_lald E h h_se (by omega) (by decide) dX8_setOf_17 ?_
      rw [show se sZ = bs (fun x => has d q9 x) from hs9.1]
      refine r_goto E 22 dX8_setOf_18 (by decide) ?_
      exact r_lret E h ⟨rfl, rfl⟩ dX8_setOf_22
theorem hd_X8_ruleOf : yX8_ruleOf.cls = RX8 ∧ yX8_ruleOf.cls ≠ "java/lang/invoke/MethodHandle" ∧ yX8_ruleOf.cls ≠ "java/lang/invoke/VarHandle" ∧ (parseMethodDescriptor yX8_ruleOf.desc).map (fun d => d.parameters.length) = some 1 := by decide +kernel
theorem fl_X8_ruleOf_19 : Cond.fieldLink RX8 19 (TX8 2).1 (TX8 2).2.1 (TX8 2).2.2.1 ∈ wsX8_ruleOf := List.mem_of_getElem? (i := 1) rfl
theorem inn_X8_ruleOf_8 : ∀ w ∈ wsX80, w ∈ wsX8_ruleOf := fun _ h => List.mem_cons_of_mem _ (List.mem_append_right _ h)
theorem fl_X8_ruleOf_15 : Cond.fieldLink RX8 15 (TX8 1).1 (TX8 1).2.1 (TX8 1).2.2.1 ∈ wsX8_ruleOf := List.mem_of_getElem? (i := 2) rfl
abbrev rm_X8_ruleOf : Room := { frames := 0, cells := 0, slots := 0, locals := 0 }
set_option maxHeartbeats 1200000 in
set_option maxRecDepth 100000 in
theorem k_X8_ruleOf (l : Launch) {G : va_G} {cy : Nat → ClassId} {ws0 : va_W} {q a ase awr art awt are ars : Nat} {se re : Int → Int64} {wr rt wt rs : Int → Int} {sz riw : Int} {d : Int → Int} {T : List Int} (sZ : Int) (q9 : Ky) (h_tb : ws0[q]? = some (a, .inr (8, [.ref ase, .ref awr, .int (zI sz), .ref art, .int (zI riw), .ref awt, .ref are, .ref ars]))) (h_wr : ws0[q + 2]? = some (awr, aI cy 6400 wr)) (hD : DW d T) (hT : TW d T se wr rt wt re rs sz) (hs0 : 0 ≤ sZ) (hs : (KL d)[sZ.toNat]? = some q9) : MI l yX8_ruleOf wsX8_ruleOf rm_X8_ruleOf G cy [.ref a, .int (zI sZ)] ws0 (fun z u => z = q9.1 ∧ ws0 = u) := by
  refine MI.of (own := RX8) (cc := cX8_ruleOf) (nL := 2) (ret := (some .int)) (by decide) rfl rfl (Nat.le_of_ble_eq_true rfl) ?_
  intro p e s m below meth c A ls E h hl
  have hl : lv_has ls 2 [(0, .ref a), (1, .int (zI sZ))] := hl
  have hsz := hT.1
  have hlen := KL_len hD
  have hsl := lt_of_get hs
  have hq9 := KL_at hD hs
  have hs9 := hT.2.1 sZ.toNat q9 hs
  rw [show ((sZ.toNat : Nat) : Int) = sZ by omega] at hs9
  have hbr := big_rng hD hq9
  have hn9 := hD.n
  have hnr := hD.nr
  have hq1 := hq9.1
  refine r_iload_n E 1 hl rfl dX8_ruleOf_0 ?_
  refine r_if_lt E 24 dX8_ruleOf_1 (by decide) (by omega) (fun c_1 => ?_) (fun c_1 => ?_)
  · skip
    exfalso; omega
  · skip
    refine r_iload_n E 1 hl rfl dX8_ruleOf_4 ?_
    refine r_aload_n E 0 hl rfl dX8_ruleOf_5 ?_
    refine r_get (v := .int (zI sz)) E h h_tb rfl inn_X8_ruleOf_8 2 (by decide) fl_X8_ruleOf_19 rfl dX8_ruleOf_6 ?_
    refine r_icmp_ge E 24 dX8_ruleOf_9 (by decide) (by omega) (fun c_9 => ?_) (fun c_9 => ?_)
    · skip
      exfalso; omega
    · skip
      refine r_aload_n E 0 hl rfl dX8_ruleOf_12 ?_
      refine r_get (v := .ref awr) E h h_tb rfl inn_X8_ruleOf_8 1 (by decide) fl_X8_ruleOf_15 rfl dX8_ruleOf_13 ?_
      refine r_iload_n E 1 hl rfl dX8_ruleOf_16 ?_
      refine r_iald E h h_wr (by omega) (by decide) dX8_ruleOf_17 ?_
      rw [show wr sZ = 41 * q9.1 + big d q9 from hs9.2]
      refine r_bipush E dX8_ruleOf_18 (by decide) ?_
      refine r_idiv E dX8_ruleOf_20 (by omega) (by omega) ?_
      refine r_goto E 25 dX8_ruleOf_21 (by decide) ?_
      exact r_iret E h ⟨by rw [Int.tdiv_eq_ediv_of_nonneg (by omega)]; omega, rfl⟩ dX8_ruleOf_25
theorem hd_X8_greatestOf : yX8_greatestOf.cls = RX8 ∧ yX8_greatestOf.cls ≠ "java/lang/invoke/MethodHandle" ∧ yX8_greatestOf.cls ≠ "java/lang/invoke/VarHandle" ∧ (parseMethodDescriptor yX8_greatestOf.desc).map (fun d => d.parameters.length) = some 1 := by decide +kernel
theorem fl_X8_greatestOf_19 : Cond.fieldLink RX8 19 (TX8 2).1 (TX8 2).2.1 (TX8 2).2.2.1 ∈ wsX8_greatestOf := List.mem_of_getElem? (i := 1) rfl
theorem inn_X8_greatestOf_8 : ∀ w ∈ wsX80, w ∈ wsX8_greatestOf := fun _ h => List.mem_cons_of_mem _ (List.mem_append_right _ h)
theorem fl_X8_greatestOf_15 : Cond.fieldLink RX8 15 (TX8 1).1 (TX8 1).2.1 (TX8 1).2.2.1 ∈ wsX8_greatestOf := List.mem_of_getElem? (i := 2) rfl
abbrev rm_X8_greatestOf : Room := { frames := 0, cells := 0, slots := 0, locals := 0 }
set_option maxHeartbeats 1200000 in
set_option maxRecDepth 100000 in
theorem k_X8_greatestOf (l : Launch) {G : va_G} {cy : Nat → ClassId} {ws0 : va_W} {q a ase awr art awt are ars : Nat} {se re : Int → Int64} {wr rt wt rs : Int → Int} {sz riw : Int} {d : Int → Int} {T : List Int} (sZ : Int) (q9 : Ky) (h_tb : ws0[q]? = some (a, .inr (8, [.ref ase, .ref awr, .int (zI sz), .ref art, .int (zI riw), .ref awt, .ref are, .ref ars]))) (h_wr : ws0[q + 2]? = some (awr, aI cy 6400 wr)) (hD : DW d T) (hT : TW d T se wr rt wt re rs sz) (hs0 : 0 ≤ sZ) (hs : (KL d)[sZ.toNat]? = some q9) : MI l yX8_greatestOf wsX8_greatestOf rm_X8_greatestOf G cy [.ref a, .int (zI sZ)] ws0 (fun z u => z = big d q9 ∧ ws0 = u) := by
  refine MI.of (own := RX8) (cc := cX8_greatestOf) (nL := 2) (ret := (some .int)) (by decide) rfl rfl (Nat.le_of_ble_eq_true rfl) ?_
  intro p e s m below meth c A ls E h hl
  have hl : lv_has ls 2 [(0, .ref a), (1, .int (zI sZ))] := hl
  have hsz := hT.1
  have hlen := KL_len hD
  have hsl := lt_of_get hs
  have hq9 := KL_at hD hs
  have hs9 := hT.2.1 sZ.toNat q9 hs
  rw [show ((sZ.toNat : Nat) : Int) = sZ by omega] at hs9
  have hbr := big_rng hD hq9
  have hn9 := hD.n
  have hnr := hD.nr
  have hq1 := hq9.1
  refine r_iload_n E 1 hl rfl dX8_greatestOf_0 ?_
  refine r_if_lt E 24 dX8_greatestOf_1 (by decide) (by omega) (fun c_1 => ?_) (fun c_1 => ?_)
  · skip
    exfalso; omega
  · skip
    refine r_iload_n E 1 hl rfl dX8_greatestOf_4 ?_
    refine r_aload_n E 0 hl rfl dX8_greatestOf_5 ?_
    refine r_get (v := .int (zI sz)) E h h_tb rfl inn_X8_greatestOf_8 2 (by decide) fl_X8_greatestOf_19 rfl dX8_greatestOf_6 ?_
    refine r_icmp_ge E 24 dX8_greatestOf_9 (by decide) (by omega) (fun c_9 => ?_) (fun c_9 => ?_)
    · skip
      exfalso; omega
    · skip
      refine r_aload_n E 0 hl rfl dX8_greatestOf_12 ?_
      refine r_get (v := .ref awr) E h h_tb rfl inn_X8_greatestOf_8 1 (by decide) fl_X8_greatestOf_15 rfl dX8_greatestOf_13 ?_
      refine r_iload_n E 1 hl rfl dX8_greatestOf_16 ?_
      refine r_iald E h h_wr (by omega) (by decide) dX8_greatestOf_17 ?_
      rw [show wr sZ = 41 * q9.1 + big d q9 from hs9.2]
      refine r_bipush E dX8_greatestOf_18 (by decide) ?_
      refine r_irem E dX8_greatestOf_20 (by omega) (by omega) ?_
      refine r_goto E 25 dX8_greatestOf_21 (by decide) ?_
      exact r_iret E h ⟨by rw [Int.tmod_eq_emod_of_nonneg (by omega)]; omega, rfl⟩ dX8_greatestOf_25
theorem hd_X8_firstNumber : yX8_firstNumber.cls ≠ "java/lang/invoke/MethodHandle" ∧ yX8_firstNumber.cls ≠ "java/lang/invoke/VarHandle" ∧ (parseMethodDescriptor yX8_firstNumber.desc).map (fun d => d.parameters.length) = some 1 := by decide +kernel
abbrev rm_X8_firstNumber : Room := { frames := 1, cells := 0, slots := 0, locals := 21 }
set_option maxHeartbeats 1200000 in
set_option maxRecDepth 100000 in
theorem k_X8_firstNumber (l : Launch) {G : va_G} {cy : Nat → ClassId} {ws0 : va_W} (pp : Int → Bool) (v : Int)  (hl9 : Low pp v) : MI l yX8_firstNumber wsX8_firstNumber rm_X8_firstNumber G cy [.long (bs pp)] ws0 (fun z u => z = v ∧ ws0 = u) := by
  refine MI.of (own := RX8) (cc := cX8_firstNumber) (nL := 2) (ret := (some .int)) (by decide) rfl rfl (Nat.le_of_ble_eq_true rfl) ?_
  intro p e s m below meth c A ls E h hl
  have hl : lv_has ls 2 [(0, .long (bs pp))] := hl
  refine r_lload_n E 0 hl rfl dX8_firstNumber_0 ?_
  refine r_lload_n E 0 hl rfl dX8_firstNumber_1 ?_
  refine r_lneg E dX8_firstNumber_2 ?_
  refine r_land E dX8_firstNumber_3 ?_
  refine r_lconst (v := zL 1) E dX8_firstNumber_4 (by decide) ?_
  refine r_lsubX E dX8_firstNumber_5 ?_
  rw [show (((bs pp) &&& (-(bs pp))) - (zL 1)) = bs (fun x => decide (x < v)) from (bs_low hl9)]
  skip
  refine r_callSI E h (As := [.long (bs (fun x => decide (x < v)))]) (rest := []) (k_J13_bitCount_95d88 l (fun x => decide (x < v))) gX8_firstNumber_J13_bitCount_95d88 rfl hd_J13_bitCount_95d88 (by decide) ⟨by decide, by decide⟩ hl.1 rfl (Nat.le_of_ble_eq_true rfl) dX8_firstNumber_6 rfl (fun z_6 ws H locs hp h => ?_)
  obtain ⟨rfl, rfl⟩ := hp
  have h9 := ctN_low (p := fun x => decide (x < v)) (m := v.toNat) (fun x => by rw [show ((v.toNat : Nat) : Int) = v by have := hl9.1; omega]) 64
  have h8 := hl9.1
  rw [if_neg (by omega)] at h9
  exact r_iret E h ⟨by rw [h9]; omega, rfl⟩ dX8_firstNumber_9
theorem hd_X8_smallestOf : yX8_smallestOf.cls = RX8 ∧ yX8_smallestOf.cls ≠ "java/lang/invoke/MethodHandle" ∧ yX8_smallestOf.cls ≠ "java/lang/invoke/VarHandle" ∧ (parseMethodDescriptor yX8_smallestOf.desc).map (fun d => d.parameters.length) = some 1 := by decide +kernel
abbrev rm_X8_smallestOf : Room := { frames := 2, cells := 0, slots := 0, locals := 42 }
set_option maxHeartbeats 1200000 in
set_option maxRecDepth 100000 in
theorem k_X8_smallestOf (l : Launch) {G : va_G} {cy : Nat → ClassId} {ws0 : va_W} {q a ase awr art awt are ars : Nat} {se re : Int → Int64} {wr rt wt rs : Int → Int} {sz riw : Int} {d : Int → Int} {T : List Int} (sZ : Int) (q9 : Ky) (h_tb : ws0[q]? = some (a, .inr (8, [.ref ase, .ref awr, .int (zI sz), .ref art, .int (zI riw), .ref awt, .ref are, .ref ars]))) (h_se : ws0[q + 1]? = some (ase, aL cy 6400 se)) (hD : DW d T) (hT : TW d T se wr rt wt re rs sz) (hs0 : 0 ≤ sZ) (hs : (KL d)[sZ.toNat]? = some q9) : MI l yX8_smallestOf wsX8_smallestOf rm_X8_smallestOf G cy [.ref a, .int (zI sZ)] ws0 (fun z u => z = lil d q9 ∧ ws0 = u) := by
  refine MI.of (own := RX8) (cc := cX8_smallestOf) (nL := 2) (ret := (some .int)) (by decide) rfl rfl (Nat.le_of_ble_eq_true rfl) ?_
  intro p e s m below meth c A ls E h hl
  have hl : lv_has ls 2 [(0, .ref a), (1, .int (zI sZ))] := hl
  have hq9 := KL_at hD hs
  refine r_aload_n E 0 hl rfl dX8_smallestOf_0 ?_
  refine r_iload_n E 1 hl rfl dX8_smallestOf_1 ?_
  refine r_callVL E h (As := [.int (zI sZ)]) (rest := []) (k_X8_setOf l sZ q9 h_tb h_se hD hT (by omega) hs) h_tb rfl gX8_smallestOf_X8_setOf rfl hd_X8_setOf (by decide) ⟨by decide, by decide⟩ hl.1 rfl (Nat.le_of_ble_eq_true rfl) dX8_smallestOf_2 rfl (fun z_2 ws H locs hp h => ?_)
  obtain ⟨rfl, rfl⟩ := hp
  refine r_callSI E h (As := [.long (bs (fun x => has d q9 x))]) (rest := []) (k_X8_firstNumber l (fun x => has d q9 x) (lil d q9) (lilLow hD hq9)) gX8_smallestOf_X8_firstNumber rfl hd_X8_firstNumber (by decide) ⟨by decide, by decide⟩ hl.1 rfl (Nat.le_of_ble_eq_true rfl) dX8_smallestOf_5 rfl (fun z_5 ws H locs hp h => ?_)
  obtain ⟨e_z_5, rfl⟩ := hp
  exact r_iret E h ⟨e_z_5, rfl⟩ dX8_smallestOf_8
theorem hd_X8_weightOf : yX8_weightOf.cls = RX8 ∧ yX8_weightOf.cls ≠ "java/lang/invoke/MethodHandle" ∧ yX8_weightOf.cls ≠ "java/lang/invoke/VarHandle" ∧ (parseMethodDescriptor yX8_weightOf.desc).map (fun d => d.parameters.length) = some 2 := by decide +kernel
theorem fl_X8_weightOf_19 : Cond.fieldLink RX8 19 (TX8 2).1 (TX8 2).2.1 (TX8 2).2.2.1 ∈ wsX8_weightOf := List.mem_of_getElem? (i := 1) rfl
theorem inn_X8_weightOf_8 : ∀ w ∈ wsX80, w ∈ wsX8_weightOf := fun _ h => List.mem_cons_of_mem _ (List.mem_append_right _ h)
theorem fl_X8_weightOf_15 : Cond.fieldLink RX8 15 (TX8 1).1 (TX8 1).2.1 (TX8 1).2.2.1 ∈ wsX8_weightOf := List.mem_of_getElem? (i := 2) rfl
theorem fl_X8_weightOf_29 : Cond.fieldLink RX8 29 (TX8 5).1 (TX8 5).2.1 (TX8 5).2.2.1 ∈ wsX8_weightOf := List.mem_of_getElem? (i := 3) rfl
abbrev rm_X8_weightOf : Room := { frames := 0, cells := 0, slots := 0, locals := 0 }
set_option maxHeartbeats 1200000 in
set_option maxRecDepth 100000 in
theorem k_X8_weightOf (l : Launch) {G : va_G} {cy : Nat → ClassId} {ws0 : va_W} {q a ase awr art awt are ars : Nat} {se re : Int → Int64} {wr rt wt rs : Int → Int} {sz riw : Int} {d : Int → Int} {T : List Int} (sZ : Int) (q9 : Ky) (c9 : Int) (h_tb : ws0[q]? = some (a, .inr (8, [.ref ase, .ref awr, .int (zI sz), .ref art, .int (zI riw), .ref awt, .ref are, .ref ars]))) (h_wr : ws0[q + 2]? = some (awr, aI cy 6400 wr)) (h_wt : ws0[q + 4]? = some (awt, aI cy 656 wt)) (hD : DW d T) (hT : TW d T se wr rt wt re rs sz) (hs0 : 0 ≤ sZ) (hs : (KL d)[sZ.toNat]? = some q9) (hc : 0 ≤ c9 ∧ c9 < d 1) : MI l yX8_weightOf wsX8_weightOf rm_X8_weightOf G cy [.ref a, .int (zI sZ), .int (zI c9)] ws0 (fun z u => z = wK d T q9 c9 ∧ ws0 = u) := by
  refine MI.of (own := RX8) (cc := cX8_weightOf) (nL := 4) (ret := (some .int)) (by decide) rfl rfl (Nat.le_of_ble_eq_true rfl) ?_
  intro p e s m below meth c A ls E h hl
  have hl : lv_has ls 4 [(0, .ref a), (1, .int (zI sZ)), (2, .int (zI c9))] := hl
  have hsz := hT.1
  have hlen := KL_len hD
  have hsl := lt_of_get hs
  have hq9 := KL_at hD hs
  have hs9 := hT.2.1 sZ.toNat q9 hs
  rw [show ((sZ.toNat : Nat) : Int) = sZ by omega] at hs9
  have hbr := big_rng hD hq9
  have hn9 := hD.n
  have hnr := hD.nr
  have hq1 := hq9.1
  have hk9 := hD.k
  refine r_iload_n E 1 hl rfl dX8_weightOf_0 ?_
  refine r_if_lt E 21 dX8_weightOf_1 (by decide) (by omega) (fun c_1 => ?_) (fun c_1 => ?_)
  · skip
    exfalso; omega
  · skip
    refine r_iload_n E 1 hl rfl dX8_weightOf_4 ?_
    refine r_aload_n E 0 hl rfl dX8_weightOf_5 ?_
    refine r_get (v := .int (zI sz)) E h h_tb rfl inn_X8_weightOf_8 2 (by decide) fl_X8_weightOf_19 rfl dX8_weightOf_6 ?_
    refine r_icmp_ge E 21 dX8_weightOf_9 (by decide) (by omega) (fun c_9 => ?_) (fun c_9 => ?_)
    · skip
      exfalso; omega
    · skip
      refine r_iload_n E 2 hl rfl dX8_weightOf_12 ?_
      refine r_if_lt E 21 dX8_weightOf_13 (by decide) (by omega) (fun c_13 => ?_) (fun c_13 => ?_)
      · skip
        exfalso; omega
      · skip
        refine r_iload_n E 2 hl rfl dX8_weightOf_16 ?_
        refine r_iconst E dX8_weightOf_17 ?_
        refine r_icmp_lt E 23 dX8_weightOf_18 (by decide) (by omega) (fun c_18 => ?_) (fun c_18 => ?_)
        · skip
          refine r_aload_n E 0 hl rfl dX8_weightOf_23 ?_
          refine r_get (v := .ref awr) E h h_tb rfl inn_X8_weightOf_8 1 (by decide) fl_X8_weightOf_15 rfl dX8_weightOf_24 ?_
          refine r_iload_n E 1 hl rfl dX8_weightOf_27 ?_
          refine r_iald E h h_wr (by omega) (by decide) dX8_weightOf_28 ?_
          rw [show wr sZ = 41 * q9.1 + big d q9 from hs9.2]
          refine r_iconst E dX8_weightOf_29 ?_
          refine r_imul E dX8_weightOf_30 ?_
          refine r_iload_n E 2 hl rfl dX8_weightOf_31 ?_
          refine r_iadd E dX8_weightOf_32 ?_
          refine r_istore_n (lv' := [(3, .int (zI (((41 * q9.1 + big d q9) * 4) + c9))), (0, .ref a), (1, .int (zI sZ)), (2, .int (zI c9))]) E hl dX8_weightOf_33 rfl (by decide) rfl (fun ls hl => ?_)
          refine r_iload_n E 0 hl rfl dX8_weightOf_34 ?_
          refine r_aload_n E 1 hl rfl dX8_weightOf_35 ?_
          refine r_get (v := .ref awt) E h h_tb rfl inn_X8_weightOf_8 5 (by decide) fl_X8_weightOf_29 rfl dX8_weightOf_36 ?_
          refine r_alen E h rfl h_wt (v := 656) rfl dX8_weightOf_39 ?_
          refine r_icmp_ge E 52 dX8_weightOf_40 (by decide) (by omega) (fun c_40 => ?_) (fun c_40 => ?_)
          · skip
            exfalso; omega
          · skip
            refine r_aload_n E 1 hl rfl dX8_weightOf_43 ?_
            refine r_get (v := .ref awt) E h h_tb rfl inn_X8_weightOf_8 5 (by decide) fl_X8_weightOf_29 rfl dX8_weightOf_44 ?_
            refine r_iload_n E 0 hl rfl dX8_weightOf_47 ?_
            refine r_iald E h h_wt (by omega) (by decide) dX8_weightOf_48 ?_
            refine r_goto E 53 dX8_weightOf_49 (by decide) ?_
            exact r_iret E h ⟨by rw [hT.2.2.2.1 q9.1 (big d q9) c9 (by omega) (by omega) (by omega) (by omega) (by omega) (by omega)]; rfl, rfl⟩ dX8_weightOf_53
        · skip
          exfalso; omega
theorem hd_X8_countConflicts : yX8_countConflicts.cls = RX8 ∧ yX8_countConflicts.cls ≠ "java/lang/invoke/MethodHandle" ∧ yX8_countConflicts.cls ≠ "java/lang/invoke/VarHandle" ∧ (parseMethodDescriptor yX8_countConflicts.desc).map (fun d => d.parameters.length) = some 2 := by decide +kernel
theorem fl_X8_countConflicts_19 : Cond.fieldLink RX8 19 (TX8 2).1 (TX8 2).2.1 (TX8 2).2.2.1 ∈ wsX8_countConflicts := List.mem_of_getElem? (i := 1) rfl
theorem inn_X8_countConflicts_8 : ∀ w ∈ wsX80, w ∈ wsX8_countConflicts := fun _ h => List.mem_cons_of_mem _ (List.mem_append_left _ (List.mem_append_right _ h))
theorem fl_X8_countConflicts_11 : Cond.fieldLink RX8 11 (TX8 0).1 (TX8 0).2.1 (TX8 0).2.2.1 ∈ wsX8_countConflicts := List.mem_of_getElem? (i := 2) rfl
abbrev rm_X8_countConflicts : Room := { frames := 1, cells := 0, slots := 0, locals := 23 }
set_option maxHeartbeats 1200000 in
set_option maxRecDepth 100000 in
theorem k_X8_countConflicts (l : Launch) {G : va_G} {cy : Nat → ClassId} {ws0 : va_W} {q a ase awr art awt are ars : Nat} {se re : Int → Int64} {wr rt wt rs : Int → Int} {sz riw : Int} {q2 a2 ap2 : Nat} {ce f : Int → Int} {d : Int → Int} {T : List Int} (wi : Int → Bool) (P : Ky → Bool) (h_tb : ws0[q]? = some (a, .inr (8, [.ref ase, .ref awr, .int (zI sz), .ref art, .int (zI riw), .ref awt, .ref are, .ref ars]))) (h_se : ws0[q + 1]? = some (ase, aL cy 6400 se)) (h_co : ws0[q2]? = some (a2, .inr (0, [.ref ap2, .long (fmk (d 0) f)]))) (h_cop : ws0[q2 + 1]? = some (ap2, aL cy 4 (mk (d 0) ce))) (hD : DW d T) (hT : TW d T se wr rt wt re rs sz) (he : ∀ x : Int, 1 ≤ x → x ≤ d 0 → 0 ≤ ce x ∧ ce x ≤ d 1) (hW : ∀ q9 : Ky, KOk d q9 → (bs wi &&& (bs (fun x => has d q9 x) ^^^ (-1)) = zL 0 ↔ P q9 = true)) : MI l yX8_countConflicts wsX8_countConflicts rm_X8_countConflicts G cy [.ref a, .ref a2, .long (bs wi)] ws0 (fun z u => z = sumL (fun q => if P q = true then is1 d ce q else 0) (KL d) ∧ ws0 = u) := by
  refine MI.of (own := RX8) (cc := cX8_countConflicts) (nL := 6) (ret := (some .int)) (by decide) rfl rfl (Nat.le_of_ble_eq_true rfl) ?_
  intro p e s m below meth c A ls E h hl
  have hl : lv_has ls 6 [(0, .ref a), (1, .ref a2), (2, .long (bs wi))] := hl
  have hsz := hT.1
  have hlen := KL_len hD
  have hkk := hD.k
  refine r_iconst E dX8_countConflicts_0 ?_
  refine r_istore (lv' := [(4, .int (zI 0)), (0, .ref a), (1, .ref a2), (2, .long (bs wi))]) E hl dX8_countConflicts_1 (by decide) rfl (fun ls hl => ?_)
  refine r_iconst E dX8_countConflicts_3 ?_
  refine r_istore (lv' := [(5, .int (zI 0)), (4, .int (zI 0)), (0, .ref a), (1, .ref a2), (2, .long (bs wi))]) E hl dX8_countConflicts_4 (by decide) rfl (fun ls hl => ?_)
  refine r_loop (fun n H locs ls => ∃ (b9 : Int) (k : Int), n = (6400 - k).toNat ∧ (0 ≤ k ∧ k ≤ (KL d).length) ∧ (b9 = sumL (fun q => if P q = true then is1 d ce q else 0) ((KL d).take k.toNat)) ∧ Hp G ws0 A s.heap H locs ∧ lv_has ls 6 [(0, .ref a), (1, .ref a2), (2, .long (bs wi)), (4, .int (zI b9)), (5, .int (zI k))]) _ ⟨0, 0, rfl, (by omega), rfl, h, lv_sub hl [2, 3, 4, 1, 0] rfl⟩ ?_
  rintro n H locs ls ⟨b9, k, hn, i1, i3, h, hl⟩ ih_6
  refine r_iload E 4 hl rfl dX8_countConflicts_6 ?_
  refine r_aload_n E 0 hl rfl dX8_countConflicts_8 ?_
  refine r_get (v := .int (zI sz)) E h h_tb rfl inn_X8_countConflicts_8 2 (by decide) fl_X8_countConflicts_19 rfl dX8_countConflicts_9 ?_
  refine r_icmp_ge E 57 dX8_countConflicts_12 (by decide) (by omega) (fun c_12 => ?_) (fun c_12 => ?_)
  · skip
    refine r_iload E 3 hl rfl dX8_countConflicts_57 ?_
    exact r_iret E h ⟨by rw [i3, List.take_of_length_le (by omega)], rfl⟩ dX8_countConflicts_59
  · skip
    obtain ⟨q9, hk9⟩ : ∃ q, (KL d)[Int.toNat k]? = some q := ⟨_, List.getElem?_eq_getElem (by omega)⟩
    have hq9 := KL_at hD hk9
    have hs9 := hT.2.1 _ q9 hk9
    rw [show (((Int.toNat k) : Nat) : Int) = k by omega] at hs9
    have hcr := cAll_rng2 (e := ce) hD hq9 he
    have e9 := sumL_take (f := (fun q => if P q = true then is1 d ce q else 0)) hk9
    rw [show k.toNat + 1 = (k + 1).toNat by omega] at e9
    refine r_lload_n E 2 hl rfl dX8_countConflicts_15 ?_
    refine r_aload_n E 0 hl rfl dX8_countConflicts_16 ?_
    refine r_get (v := .ref ase) E h h_tb rfl inn_X8_countConflicts_8 0 (by decide) fl_X8_countConflicts_11 rfl dX8_countConflicts_17 ?_
    refine r_iload E 4 hl rfl dX8_countConflicts_20 ?_
    refine r_lald E h h_se (by omega) (by decide) dX8_countConflicts_22 ?_
    rw [show se k = bs (fun x => has d q9 x) from hs9.1]
    refine r_ldc2 E (v := (-1)) (List.mem_of_getElem? (i := 3) rfl) dX8_countConflicts_23 ?_
    refine r_lxor E dX8_countConflicts_26 ?_
    refine r_land E dX8_countConflicts_27 ?_
    refine r_lconst (v := zL 0) E dX8_countConflicts_28 (by decide) ?_
    refine r_lcmpX E dX8_countConflicts_29 (fun z_29 zb_29 ze_29 => ?_)
    refine r_if_ne E 51 dX8_countConflicts_30 (by decide) (by omega) (fun c_30 => ?_) (fun c_30 => ?_)
    · skip
      have hP9 := fun hh => c_30 (ze_29.mpr ((hW q9 hq9).mpr hh))
      rw [if_neg hP9] at e9
      refine r_iinc (lv' := [(5, .int (zI (k + 1))), (0, .ref a), (1, .ref a2), (2, .long (bs wi)), (4, .int (zI b9))]) E 4 hl rfl dX8_countConflicts_51 (by decide) rfl (fun ls hl => ?_)
      refine r_goto E 6 dX8_countConflicts_54 (by decide) ?_
      exact ih_6 _ H locs ls (by omega) ⟨b9, (k + 1), rfl, (by omega), (by rw [e9]; omega), h, lv_sub hl [1, 2, 3, 4, 0] rfl⟩
    · skip
      have hP9 := (hW q9 hq9).mp (ze_29.mp c_30)
      rw [if_pos hP9] at e9
      refine r_aload_n E 1 hl rfl dX8_countConflicts_33 ?_
      refine r_aload_n E 0 hl rfl dX8_countConflicts_34 ?_
      refine r_get (v := .ref ase) E h h_tb rfl inn_X8_countConflicts_8 0 (by decide) fl_X8_countConflicts_11 rfl dX8_countConflicts_35 ?_
      refine r_iload E 4 hl rfl dX8_countConflicts_38 ?_
      refine r_lald E h h_se (by omega) (by decide) dX8_countConflicts_40 ?_
      rw [show se k = bs (fun x => has d q9 x) from hs9.1]
      refine r_callVI E h (As := [.long (bs (fun x => has d q9 x))]) (rest := []) (k_X0_commonColour l q9 h_co h_cop hD hq9 (he4 hD he)) h_co rfl gX8_countConflicts_X0_commonColour rfl hd_X0_commonColour (by decide) ⟨by decide, by decide⟩ hl.1 rfl (Nat.le_of_ble_eq_true rfl) dX8_countConflicts_41 rfl (fun z_41 ws H locs hp h => ?_)
      obtain ⟨rfl, rfl⟩ := hp
      refine r_iconst E dX8_countConflicts_44 ?_
      refine r_icmp_eq E 51 dX8_countConflicts_45 (by decide) (by omega) (fun c_45 => ?_) (fun c_45 => ?_)
      · skip
        have e8 : is1 d ce q9 = 0 := if_pos c_45
        refine r_iinc (lv' := [(5, .int (zI (k + 1))), (0, .ref a), (1, .ref a2), (2, .long (bs wi)), (4, .int (zI b9))]) E 4 hl rfl dX8_countConflicts_51 (by decide) rfl (fun ls hl => ?_)
        refine r_goto E 6 dX8_countConflicts_54 (by decide) ?_
        exact ih_6 _ H locs ls (by omega) ⟨b9, (k + 1), rfl, (by omega), (by rw [e9]; omega), h, lv_sub hl [1, 2, 3, 4, 0] rfl⟩
      · skip
        have e8 : is1 d ce q9 = 1 := if_neg c_45
        refine r_iinc (lv' := [(4, .int (zI (b9 + 1))), (0, .ref a), (1, .ref a2), (2, .long (bs wi)), (5, .int (zI k))]) E 3 hl rfl dX8_countConflicts_48 (by decide) rfl (fun ls hl => ?_)
        refine r_iinc (lv' := [(5, .int (zI (k + 1))), (4, .int (zI (b9 + 1))), (0, .ref a), (1, .ref a2), (2, .long (bs wi))]) E 4 hl rfl dX8_countConflicts_51 (by decide) rfl (fun ls hl => ?_)
        refine r_goto E 6 dX8_countConflicts_54 (by decide) ?_
        exact ih_6 _ H locs ls (by omega) ⟨(b9 + 1), (k + 1), rfl, (by omega), (by rw [e9]; omega), h, lv_sub hl [2, 3, 4, 1, 0] rfl⟩
theorem hd_X8_weighConflicts : yX8_weighConflicts.cls = RX8 ∧ yX8_weighConflicts.cls ≠ "java/lang/invoke/MethodHandle" ∧ yX8_weighConflicts.cls ≠ "java/lang/invoke/VarHandle" ∧ (parseMethodDescriptor yX8_weighConflicts.desc).map (fun d => d.parameters.length) = some 1 := by decide +kernel
theorem fl_X8_weighConflicts_19 : Cond.fieldLink RX8 19 (TX8 2).1 (TX8 2).2.1 (TX8 2).2.2.1 ∈ wsX8_weighConflicts := List.mem_of_getElem? (i := 1) rfl
theorem inn_X8_weighConflicts_8 : ∀ w ∈ wsX80, w ∈ wsX8_weighConflicts := fun _ h => List.mem_cons_of_mem _ (List.mem_append_left _ (List.mem_append_right _ h))
theorem fl_X8_weighConflicts_11 : Cond.fieldLink RX8 11 (TX8 0).1 (TX8 0).2.1 (TX8 0).2.2.1 ∈ wsX8_weighConflicts := List.mem_of_getElem? (i := 2) rfl
abbrev rm_X8_weighConflicts : Room := { frames := 1, cells := 0, slots := 0, locals := 23 }
set_option maxHeartbeats 1200000 in
set_option maxRecDepth 100000 in
theorem k_X8_weighConflicts (l : Launch) {G : va_G} {cy : Nat → ClassId} {ws0 : va_W} {q a ase awr art awt are ars : Nat} {se re : Int → Int64} {wr rt wt rs : Int → Int} {sz riw : Int} {q2 a2 ap2 : Nat} {ce f : Int → Int} {d : Int → Int} {T : List Int} (h_tb : ws0[q]? = some (a, .inr (8, [.ref ase, .ref awr, .int (zI sz), .ref art, .int (zI riw), .ref awt, .ref are, .ref ars]))) (h_se : ws0[q + 1]? = some (ase, aL cy 6400 se)) (h_wr : ws0[q + 2]? = some (awr, aI cy 6400 wr)) (h_wt : ws0[q + 4]? = some (awt, aI cy 656 wt)) (h_co : ws0[q2]? = some (a2, .inr (0, [.ref ap2, .long (fmk (d 0) f)]))) (h_cop : ws0[q2 + 1]? = some (ap2, aL cy 4 (mk (d 0) ce))) (hD : DW d T) (hT : TW d T se wr rt wt re rs sz) (he : ∀ x : Int, 1 ≤ x → x ≤ d 0 → 0 ≤ ce x ∧ ce x ≤ d 1) : MI l yX8_weighConflicts wsX8_weighConflicts rm_X8_weighConflicts G cy [.ref a, .ref a2] ws0 (fun z u => z = wgtA d T ce ∧ ws0 = u) := by
  refine MI.of (own := RX8) (cc := cX8_weighConflicts) (nL := 5) (ret := (some .int)) (by decide) rfl rfl (Nat.le_of_ble_eq_true rfl) ?_
  intro p e s m below meth c A ls E h hl
  have hl : lv_has ls 5 [(0, .ref a), (1, .ref a2)] := hl
  have hsz := hT.1
  have hlen := KL_len hD
  have hkk := hD.k
  refine r_iconst E dX8_weighConflicts_0 ?_
  refine r_istore_n (lv' := [(2, .int (zI 0)), (0, .ref a), (1, .ref a2)]) E hl dX8_weighConflicts_1 rfl (by decide) rfl (fun ls hl => ?_)
  refine r_iconst E dX8_weighConflicts_2 ?_
  refine r_istore_n (lv' := [(3, .int (zI 0)), (2, .int (zI 0)), (0, .ref a), (1, .ref a2)]) E hl dX8_weighConflicts_3 rfl (by decide) rfl (fun ls hl => ?_)
  refine r_loop (fun n H locs ls => ∃ (b9 : Int) (k : Int), n = (6400 - k).toNat ∧ (0 ≤ k ∧ k ≤ (KL d).length) ∧ (b9 = sumL (fun q => w1 d T ce q) ((KL d).take k.toNat)) ∧ Hp G ws0 A s.heap H locs ∧ lv_has ls 5 [(0, .ref a), (1, .ref a2), (2, .int (zI b9)), (3, .int (zI k))]) _ ⟨0, 0, rfl, (by omega), rfl, h, lv_sub hl [2, 3, 1, 0] rfl⟩ ?_
  rintro n H locs ls ⟨b9, k, hn, i1, i3, h, hl⟩ ih_4
  refine r_iload_n E 3 hl rfl dX8_weighConflicts_4 ?_
  refine r_aload_n E 0 hl rfl dX8_weighConflicts_5 ?_
  refine r_get (v := .int (zI sz)) E h h_tb rfl inn_X8_weighConflicts_8 2 (by decide) fl_X8_weighConflicts_19 rfl dX8_weighConflicts_6 ?_
  refine r_icmp_ge E 46 dX8_weighConflicts_9 (by decide) (by omega) (fun c_9 => ?_) (fun c_9 => ?_)
  · skip
    refine r_iload_n E 2 hl rfl dX8_weighConflicts_46 ?_
    exact r_iret E h ⟨by rw [i3]; unfold wgtA; rw [List.take_of_length_le (by omega)], rfl⟩ dX8_weighConflicts_47
  · skip
    obtain ⟨q9, hk9⟩ : ∃ q, (KL d)[Int.toNat k]? = some q := ⟨_, List.getElem?_eq_getElem (by omega)⟩
    have hq9 := KL_at hD hk9
    have hs9 := hT.2.1 _ q9 hk9
    rw [show (((Int.toNat k) : Nat) : Int) = k by omega] at hs9
    have hcr := cAll_rng2 (e := ce) hD hq9 he
    have e9 := sumL_take (f := (fun q => w1 d T ce q)) hk9
    rw [show k.toNat + 1 = (k + 1).toNat by omega] at e9
    refine r_aload_n E 1 hl rfl dX8_weighConflicts_12 ?_
    refine r_aload_n E 0 hl rfl dX8_weighConflicts_13 ?_
    refine r_get (v := .ref ase) E h h_tb rfl inn_X8_weighConflicts_8 0 (by decide) fl_X8_weighConflicts_11 rfl dX8_weighConflicts_14 ?_
    refine r_iload_n E 3 hl rfl dX8_weighConflicts_17 ?_
    refine r_lald E h h_se (by omega) (by decide) dX8_weighConflicts_18 ?_
    rw [show se k = bs (fun x => has d q9 x) from hs9.1]
    refine r_callVI E h (As := [.long (bs (fun x => has d q9 x))]) (rest := []) (k_X0_commonColour l q9 h_co h_cop hD hq9 (he4 hD he)) h_co rfl gX8_weighConflicts_X0_commonColour rfl hd_X0_commonColour (by decide) ⟨by decide, by decide⟩ hl.1 rfl (Nat.le_of_ble_eq_true rfl) dX8_weighConflicts_19 rfl (fun z_19 ws H locs hp h => ?_)
    obtain ⟨rfl, rfl⟩ := hp
    refine r_istore (lv' := [(4, .int (zI (cAll d ce q9))), (0, .ref a), (1, .ref a2), (2, .int (zI b9)), (3, .int (zI k))]) E hl dX8_weighConflicts_22 (by decide) rfl (fun ls hl => ?_)
    refine r_iload E 0 hl rfl dX8_weighConflicts_24 ?_
    refine r_iconst E dX8_weighConflicts_26 ?_
    refine r_icmp_eq E 40 dX8_weighConflicts_27 (by decide) (by omega) (fun c_27 => ?_) (fun c_27 => ?_)
    · skip
      have e8 : w1 d T ce q9 = 0 := if_pos c_27
      refine r_iinc (lv' := [(3, .int (zI (k + 1))), (4, .int (zI (cAll d ce q9))), (0, .ref a), (1, .ref a2), (2, .int (zI b9))]) E 4 hl rfl dX8_weighConflicts_40 (by decide) rfl (fun ls hl => ?_)
      refine r_goto E 4 dX8_weighConflicts_43 (by decide) ?_
      exact ih_4 _ H locs ls (by omega) ⟨b9, (k + 1), rfl, (by omega), (by rw [e9]; omega), h, lv_sub hl [2, 3, 4, 0] rfl⟩
    · skip
      have e8 : w1 d T ce q9 = wK d T q9 (cAll d ce q9) := if_neg c_27
      refine r_iload_n E 3 hl rfl dX8_weighConflicts_30 ?_
      refine r_aload_n E 1 hl rfl dX8_weighConflicts_31 ?_
      refine r_iload_n E 4 hl rfl dX8_weighConflicts_32 ?_
      refine r_iload E 0 hl rfl dX8_weighConflicts_33 ?_
      refine r_callVI E h (As := [.int (zI k), .int (zI (cAll d ce q9))]) (rest := [.int (zI b9)]) (k_X8_weightOf l k q9 (cAll d ce q9) h_tb h_wr h_wt hD hT (by omega) hk9 (by omega)) h_tb rfl gX8_weighConflicts_X8_weightOf rfl hd_X8_weightOf (by decide) ⟨by decide, by decide⟩ hl.1 rfl (Nat.le_of_ble_eq_true rfl) dX8_weighConflicts_35 rfl (fun z_35 ws H locs hp h => ?_)
      obtain ⟨rfl, rfl⟩ := hp
      refine r_iadd E dX8_weighConflicts_38 ?_
      refine r_istore_n (lv' := [(2, .int (zI (b9 + (wK d T q9 (cAll d ce q9))))), (4, .int (zI (cAll d ce q9))), (0, .ref a), (1, .ref a2), (3, .int (zI k))]) E hl dX8_weighConflicts_39 rfl (by decide) rfl (fun ls hl => ?_)
      refine r_iinc (lv' := [(3, .int (zI (k + 1))), (2, .int (zI (b9 + (wK d T q9 (cAll d ce q9))))), (4, .int (zI (cAll d ce q9))), (0, .ref a), (1, .ref a2)]) E 4 hl rfl dX8_weighConflicts_40 (by decide) rfl (fun ls hl => ?_)
      refine r_goto E 4 dX8_weighConflicts_43 (by decide) ?_
      exact ih_4 _ H locs ls (by omega) ⟨(b9 + (wK d T q9 (cAll d ce q9))), (k + 1), rfl, (by omega), (by rw [e9]; omega), h, lv_sub hl [3, 4, 1, 0] rfl⟩
theorem hd_X8_findConflict : yX8_findConflict.cls = RX8 ∧ yX8_findConflict.cls ≠ "java/lang/invoke/MethodHandle" ∧ yX8_findConflict.cls ≠ "java/lang/invoke/VarHandle" ∧ (parseMethodDescriptor yX8_findConflict.desc).map (fun d => d.parameters.length) = some 2 := by decide +kernel
theorem fl_X8_findConflict_19 : Cond.fieldLink RX8 19 (TX8 2).1 (TX8 2).2.1 (TX8 2).2.2.1 ∈ wsX8_findConflict := List.mem_of_getElem? (i := 1) rfl
theorem inn_X8_findConflict_8 : ∀ w ∈ wsX80, w ∈ wsX8_findConflict := fun _ h => List.mem_cons_of_mem _ (List.mem_append_left _ (List.mem_append_right _ h))
theorem fl_X8_findConflict_11 : Cond.fieldLink RX8 11 (TX8 0).1 (TX8 0).2.1 (TX8 0).2.2.1 ∈ wsX8_findConflict := List.mem_of_getElem? (i := 2) rfl
abbrev rm_X8_findConflict : Room := { frames := 1, cells := 0, slots := 0, locals := 23 }
set_option maxHeartbeats 1200000 in
set_option maxRecDepth 100000 in
theorem k_X8_findConflict (l : Launch) {G : va_G} {cy : Nat → ClassId} {ws0 : va_W} {q a ase awr art awt are ars : Nat} {se re : Int → Int64} {wr rt wt rs : Int → Int} {sz riw : Int} {q2 a2 ap2 : Nat} {ce f : Int → Int} {d : Int → Int} {T : List Int} (ix : Int) (h_tb : ws0[q]? = some (a, .inr (8, [.ref ase, .ref awr, .int (zI sz), .ref art, .int (zI riw), .ref awt, .ref are, .ref ars]))) (h_se : ws0[q + 1]? = some (ase, aL cy 6400 se)) (h_co : ws0[q2]? = some (a2, .inr (0, [.ref ap2, .long (fmk (d 0) f)]))) (h_cop : ws0[q2 + 1]? = some (ap2, aL cy 4 (mk (d 0) ce))) (hD : DW d T) (hT : TW d T se wr rt wt re rs sz) (he : ∀ x : Int, 1 ≤ x → x ≤ d 0 → 0 ≤ ce x ∧ ce x ≤ d 1) (hix : -2147483648 ≤ ix ∧ ix ≤ 2147483647) : MI l yX8_findConflict wsX8_findConflict rm_X8_findConflict G cy [.ref a, .ref a2, .int (zI ix)] ws0 (fun z u => ((∃ (sN : Nat) (q9 : Ky), (KL d)[sN]? = some q9 ∧ cAll d ce q9 ≠ -1 ∧ sumL (fun q => is1 d ce q) ((KL d).take sN) = ix ∧ z = (sN : Int)) ∨ (ix < 0 ∨ cnfA d ce ≤ ix) ∧ z = -1) ∧ ws0 = u) := by
  refine MI.of (own := RX8) (cc := cX8_findConflict) (nL := 5) (ret := (some .int)) (by decide) rfl rfl (Nat.le_of_ble_eq_true rfl) ?_
  intro p e s m below meth c A ls E h hl
  have hl : lv_has ls 5 [(0, .ref a), (1, .ref a2), (2, .int (zI ix))] := hl
  have hsz := hT.1
  have hlen := KL_len hD
  have hkk := hD.k
  have hcn : ∀ sN : Nat, 0 ≤ sumL (fun q => is1 d ce q) ((KL d).take sN) ∧ sumL (fun q => is1 d ce q) ((KL d).take sN) ≤ 6400 := fun sN => by
    have h1 := sumL_rng (l := (KL d).take sN) (f := fun q => is1 d ce q) (B := 1) (fun q _ => is1_rng)
    have h2 : ((KL d).take sN).length ≤ (KL d).length := by rw [List.length_take]; exact Nat.min_le_right _ _
    omega
  refine r_iconst E dX8_findConflict_0 ?_
  refine r_istore_n (lv' := [(3, .int (zI 0)), (0, .ref a), (1, .ref a2), (2, .int (zI ix))]) E hl dX8_findConflict_1 rfl (by decide) rfl (fun ls hl => ?_)
  refine r_iconst E dX8_findConflict_2 ?_
  refine r_istore (lv' := [(4, .int (zI 0)), (3, .int (zI 0)), (0, .ref a), (1, .ref a2), (2, .int (zI ix))]) E hl dX8_findConflict_3 (by decide) rfl (fun ls hl => ?_)
  refine r_loop (fun n H locs ls => ∃ (b9 : Int) (k : Int), n = (6400 - k).toNat ∧ (0 ≤ k ∧ k ≤ (KL d).length) ∧ (b9 = sumL (fun q => is1 d ce q) ((KL d).take k.toNat)) ∧ (ix < 0 ∨ b9 ≤ ix) ∧ Hp G ws0 A s.heap H locs ∧ lv_has ls 5 [(0, .ref a), (1, .ref a2), (2, .int (zI ix)), (3, .int (zI b9)), (4, .int (zI k))]) _ ⟨0, 0, rfl, (by omega), rfl, (by omega), h, lv_sub hl [2, 3, 4, 1, 0] rfl⟩ ?_
  rintro n H locs ls ⟨b9, k, hn, i1, i3, i4, h, hl⟩ ih_5
  refine r_iload E 4 hl rfl dX8_findConflict_5 ?_
  refine r_aload_n E 0 hl rfl dX8_findConflict_7 ?_
  refine r_get (v := .int (zI sz)) E h h_tb rfl inn_X8_findConflict_8 2 (by decide) fl_X8_findConflict_19 rfl dX8_findConflict_8 ?_
  refine r_icmp_ge E 46 dX8_findConflict_11 (by decide) (by omega) (fun c_11 => ?_) (fun c_11 => ?_)
  · skip
    refine r_iconst E dX8_findConflict_46 ?_
    exact r_iret E h ⟨Or.inr ⟨by unfold cnfA; rw [List.take_of_length_le (by omega)] at i3; omega, rfl⟩, rfl⟩ dX8_findConflict_47
  · skip
    obtain ⟨q9, hk9⟩ : ∃ q, (KL d)[Int.toNat k]? = some q := ⟨_, List.getElem?_eq_getElem (by omega)⟩
    have hq9 := KL_at hD hk9
    have hs9 := hT.2.1 _ q9 hk9
    rw [show (((Int.toNat k) : Nat) : Int) = k by omega] at hs9
    have hcr := cAll_rng2 (e := ce) hD hq9 he
    have e9 := sumL_take (f := (fun q => is1 d ce q)) hk9
    rw [show k.toNat + 1 = (k + 1).toNat by omega] at e9
    have hc9 := hcn k.toNat
    refine r_aload_n E 1 hl rfl dX8_findConflict_14 ?_
    refine r_aload_n E 0 hl rfl dX8_findConflict_15 ?_
    refine r_get (v := .ref ase) E h h_tb rfl inn_X8_findConflict_8 0 (by decide) fl_X8_findConflict_11 rfl dX8_findConflict_16 ?_
    refine r_iload E 4 hl rfl dX8_findConflict_19 ?_
    refine r_lald E h h_se (by omega) (by decide) dX8_findConflict_21 ?_
    rw [show se k = bs (fun x => has d q9 x) from hs9.1]
    refine r_callVI E h (As := [.long (bs (fun x => has d q9 x))]) (rest := []) (k_X0_commonColour l q9 h_co h_cop hD hq9 (he4 hD he)) h_co rfl gX8_findConflict_X0_commonColour rfl hd_X0_commonColour (by decide) ⟨by decide, by decide⟩ hl.1 rfl (Nat.le_of_ble_eq_true rfl) dX8_findConflict_22 rfl (fun z_22 ws H locs hp h => ?_)
    obtain ⟨rfl, rfl⟩ := hp
    refine r_iconst E dX8_findConflict_25 ?_
    refine r_icmp_eq E 40 dX8_findConflict_26 (by decide) (by omega) (fun c_26 => ?_) (fun c_26 => ?_)
    · skip
      have e8 : is1 d ce q9 = 0 := if_pos c_26
      refine r_iinc (lv' := [(4, .int (zI (k + 1))), (0, .ref a), (1, .ref a2), (2, .int (zI ix)), (3, .int (zI b9))]) E 4 hl rfl dX8_findConflict_40 (by decide) rfl (fun ls hl => ?_)
      refine r_goto E 5 dX8_findConflict_43 (by decide) ?_
      exact ih_5 _ H locs ls (by omega) ⟨b9, (k + 1), rfl, (by omega), (by rw [e9]; omega), (by omega), h, lv_sub hl [1, 2, 3, 4, 0] rfl⟩
    · skip
      have e8 : is1 d ce q9 = 1 := if_neg c_26
      refine r_iload_n E 3 hl rfl dX8_findConflict_29 ?_
      refine r_iload_n E 2 hl rfl dX8_findConflict_30 ?_
      refine r_icmp_ne E 37 dX8_findConflict_31 (by decide) (by omega) (fun c_31 => ?_) (fun c_31 => ?_)
      · skip
        refine r_iinc (lv' := [(3, .int (zI (b9 + 1))), (0, .ref a), (1, .ref a2), (2, .int (zI ix)), (4, .int (zI k))]) E 3 hl rfl dX8_findConflict_37 (by decide) rfl (fun ls hl => ?_)
        refine r_iinc (lv' := [(4, .int (zI (k + 1))), (3, .int (zI (b9 + 1))), (0, .ref a), (1, .ref a2), (2, .int (zI ix))]) E 4 hl rfl dX8_findConflict_40 (by decide) rfl (fun ls hl => ?_)
        refine r_goto E 5 dX8_findConflict_43 (by decide) ?_
        exact ih_5 _ H locs ls (by omega) ⟨(b9 + 1), (k + 1), rfl, (by omega), (by rw [e9]; omega), (by omega), h, lv_sub hl [2, 3, 4, 1, 0] rfl⟩
      · skip
        refine r_iload E 4 hl rfl dX8_findConflict_34 ?_
        exact r_iret E h ⟨Or.inl ⟨k.toNat, q9, hk9, c_26, by omega, by omega⟩, rfl⟩ dX8_findConflict_36
theorem hd_X8_allows : yX8_allows.cls = RX8 ∧ yX8_allows.cls ≠ "java/lang/invoke/MethodHandle" ∧ yX8_allows.cls ≠ "java/lang/invoke/VarHandle" ∧ (parseMethodDescriptor yX8_allows.desc).map (fun d => d.parameters.length) = some 2 := by decide +kernel
theorem fl_X8_allows_35 : Cond.fieldLink RX8 35 (TX8 7).1 (TX8 7).2.1 (TX8 7).2.2.1 ∈ wsX8_allows := List.mem_of_getElem? (i := 1) rfl
theorem inn_X8_allows_8 : ∀ w ∈ wsX80, w ∈ wsX8_allows := fun _ h => List.mem_cons_of_mem _ (List.mem_append_right _ h)
theorem fl_X8_allows_32 : Cond.fieldLink RX8 32 (TX8 6).1 (TX8 6).2.1 (TX8 6).2.2.1 ∈ wsX8_allows := List.mem_of_getElem? (i := 2) rfl
abbrev rm_X8_allows : Room := { frames := 1, cells := 0, slots := 0, locals := 23 }
set_option maxHeartbeats 1200000 in
set_option maxRecDepth 100000 in
theorem k_X8_allows (l : Launch) {G : va_G} {cy : Nat → ClassId} {ws0 : va_W} {q a ase awr art awt are ars : Nat} {se re : Int → Int64} {wr rt wt rs : Int → Int} {sz riw : Int} {d : Int → Int} {T : List Int} {ce : Int → Int} (x c9 : Int) (h_tb : ws0[q]? = some (a, .inr (8, [.ref ase, .ref awr, .int (zI sz), .ref art, .int (zI riw), .ref awt, .ref are, .ref ars]))) (h_re : ws0[q + 5]? = some (are, aL cy 19200 re)) (h_rs : ws0[q + 6]? = some (ars, aI cy 42 rs)) (hD : DW d T) (hT : TW d T se wr rt wt re rs sz) (hx : 1 ≤ x ∧ x ≤ d 0) (hc9 : 0 ≤ c9) : MI l yX8_allows wsX8_allows rm_X8_allows G cy [.ref a, .int (zI x), .long (mk (d 0) ce c9)] ws0 (fun z u => (z = 1 ∧ alw d ce x c9 = true ∨ z = 0 ∧ alw d ce x c9 = false) ∧ ws0 = u) := by
  refine MI.of (own := RX8) (cc := cX8_allows) (nL := 6) (ret := (some .boolean)) (by decide) rfl rfl (Nat.le_of_ble_eq_true rfl) ?_
  intro p e s m below meth c A ls E h hl
  have hl : lv_has ls 6 [(0, .ref a), (1, .int (zI x)), (2, .long (mk (d 0) ce c9))] := hl
  have hn9 := hD.n
  have hkk := hD.k
  have hfb := fb_le hD (x + 1)
  have hfb0 := fb_nonneg (d := d) (x := x)
  have hrk0 := fb_s (d := d) (x := x) (by omega)
  have hlen := KL_len hD
  have hrkn : 0 ≤ rk d x (KL d).length := cntT_nonneg
  have hnn : ∀ q : Ky, q ∈ KL d → 0 ≤ (if has d q x = true then is1 d (uZ ce x (c9 + 1)) q else 0) := fun q _ => by
    by_cases a : has d q x = true
    · rw [if_pos a]; exact is1_rng.1
    · rw [if_neg a]; exact Int.le_refl _
  refine r_iload_n E 1 hl rfl dX8_allows_0 ?_
  refine r_iconst E dX8_allows_1 ?_
  refine r_icmp_lt E 11 dX8_allows_2 (by decide) (by omega) (fun c_2 => ?_) (fun c_2 => ?_)
  · skip
    exfalso; omega
  · skip
    refine r_iload_n E 1 hl rfl dX8_allows_5 ?_
    refine r_bipush E dX8_allows_6 (by decide) ?_
    refine r_icmp_le E 13 dX8_allows_8 (by decide) (by omega) (fun c_8 => ?_) (fun c_8 => ?_)
    · skip
      refine r_aload_n E 0 hl rfl dX8_allows_13 ?_
      refine r_get (v := .ref ars) E h h_tb rfl inn_X8_allows_8 7 (by decide) fl_X8_allows_35 rfl dX8_allows_14 ?_
      refine r_iload_n E 1 hl rfl dX8_allows_17 ?_
      refine r_iconst E dX8_allows_18 ?_
      refine r_iadd E dX8_allows_19 ?_
      refine r_iald E h h_rs (by omega) (by decide) dX8_allows_20 ?_
      rw [show rs (x + 1) = fb d x + rk d x (KL d).length from (by rw [hT.2.2.2.2.1 (x + 1) (by omega) (by omega), fb_s (by omega)])]
      refine r_aload_n E 0 hl rfl dX8_allows_21 ?_
      refine r_get (v := .ref are) E h h_tb rfl inn_X8_allows_8 6 (by decide) fl_X8_allows_32 rfl dX8_allows_22 ?_
      refine r_alen E h rfl h_re (v := 19200) rfl dX8_allows_25 ?_
      refine r_mmin E (List.mem_of_getElem? (i := 3) rfl) (List.mem_of_getElem? (i := 4) rfl) (List.mem_of_getElem? (i := 5) rfl) (List.mem_of_getElem? (i := 6) rfl) hl.1 ⟨by decide, Nat.le_of_ble_eq_true rfl⟩ ⟨by decide, by decide⟩ (by omega) dX8_allows_26 (fun z_26 e_26 => ?_)
      refine r_istore (lv' := [(4, .int (zI z_26)), (0, .ref a), (1, .int (zI x)), (2, .long (mk (d 0) ce c9))]) E hl dX8_allows_29 (by decide) rfl (fun ls hl => ?_)
      refine r_iconst E dX8_allows_31 ?_
      refine r_aload_n E 1 hl rfl dX8_allows_32 ?_
      refine r_get (v := .ref ars) E h h_tb rfl inn_X8_allows_8 7 (by decide) fl_X8_allows_35 rfl dX8_allows_33 ?_
      refine r_iload_n E 2 hl rfl dX8_allows_36 ?_
      refine r_iald E h h_rs (by omega) (by decide) dX8_allows_37 ?_
      rw [show rs x = fb d x from (hT.2.2.2.2.1 x (by omega) (by omega))]
      refine r_mmax E (List.mem_of_getElem? (i := 7) rfl) (List.mem_of_getElem? (i := 8) rfl) (List.mem_of_getElem? (i := 5) rfl) (List.mem_of_getElem? (i := 9) rfl) hl.1 ⟨by decide, Nat.le_of_ble_eq_true rfl⟩ ⟨by decide, by decide⟩ (by omega) dX8_allows_38 (fun z_38 e_38 => ?_)
      refine r_istore (lv' := [(5, .int (zI z_38)), (4, .int (zI z_26)), (0, .ref a), (1, .int (zI x)), (2, .long (mk (d 0) ce c9))]) E hl dX8_allows_41 (by decide) rfl (fun ls hl => ?_)
      refine r_loop (fun n H locs ls => ∃ (i : Int) (s9 : Nat), n = (20000 - i).toNat ∧ (s9 ≤ (KL d).length ∧ 0 ≤ i) ∧ (i = fb d x + rk d x s9) ∧ (sumL (fun q => if has d q x = true then is1 d (uZ ce x (c9 + 1)) q else 0) ((KL d).take s9) = 0) ∧ (rk d x s9 ≤ rk d x (KL d).length) ∧ Hp G ws0 A s.heap H locs ∧ lv_has ls 6 [(0, .ref a), (1, .int (zI x)), (2, .long (mk (d 0) ce c9)), (4, .int (zI z_26)), (5, .int (zI i))]) _ ⟨z_38, 0, rfl, ⟨Nat.zero_le _, by omega⟩, (by have h0 : rk d x 0 = 0 := cntT_0; omega), rfl, (cntT_le (Nat.zero_le _)), h, lv_sub hl [2, 3, 4, 1, 0] rfl⟩ ?_
      rintro n H locs ls ⟨i, s9, hn, i1, i2, i3, i4, h, hl⟩ ih_43
      refine r_iload E 4 hl rfl dX8_allows_43 ?_
      refine r_iload E 3 hl rfl dX8_allows_45 ?_
      refine r_icmp_ge E 76 dX8_allows_47 (by decide) (by omega) (fun c_47 => ?_) (fun c_47 => ?_)
      · skip
        refine r_iconst E dX8_allows_76 ?_
        exact r_zret E h (Or.inr rfl) ⟨Or.inl ⟨rfl, by
  unfold alw cnfX
  refine decide_eq_true ?_
  rw [← cnt_end (P := fun q => has d q x) (l := KL d) ((KL d).length - s9) s9 (by omega) (by show rk d x s9 = rk d x _; omega) (fun q => is1 d (uZ ce x (c9 + 1)) q)]; exact i3⟩, rfl⟩ dX8_allows_77
      · skip
        obtain ⟨t9, q9, b1, b2, b3, b4, b5⟩ := cnt_next (P := fun q => has d q x) (l := KL d) ((KL d).length - s9) s9 (by omega) (by show rk d x s9 < rk d x _; omega)
        have b6 : rk d x t9 = rk d x s9 := b4
        have hq9 := KL_at hD b2
        have ht9 := lt_of_get b2
        have b7 := cntT_s (P := fun q => has d q x) b2
        rw [if_pos b3] at b7
        have b8 : rk d x (t9 + 1) = rk d x t9 + 1 := b7
        have b9 := hT.2.2.2.2.2 x t9 q9 (by omega) (by omega) b2 b3
        have e9 := sumL_take (f := fun q => if has d q x = true then is1 d (uZ ce x (c9 + 1)) q else 0) b2
        rw [b5 (fun q => is1 d (uZ ce x (c9 + 1)) q), if_pos b3] at e9
        have hi1 := is1_rng (d := d) (e := (uZ ce x (c9 + 1))) (q := q9)
        refine r_aload_n E 0 hl rfl dX8_allows_50 ?_
        refine r_get (v := .ref are) E h h_tb rfl inn_X8_allows_8 6 (by decide) fl_X8_allows_32 rfl dX8_allows_51 ?_
        refine r_iload E 4 hl rfl dX8_allows_54 ?_
        refine r_lald E h h_re (by omega) (by decide) dX8_allows_56 ?_
        rw [show re i = bs (fun y => has d q9 y && decide (y ≠ x)) from (by rw [i2, ← b6]; exact b9)]
        refine r_lload_n E 2 hl rfl dX8_allows_57 ?_
        refine r_ldc2 E (v := (-1)) (List.mem_of_getElem? (i := 10) rfl) dX8_allows_58 ?_
        refine r_lxor E dX8_allows_61 ?_
        refine r_land E dX8_allows_62 ?_
        refine r_lconst (v := zL 0) E dX8_allows_63 (by decide) ?_
        refine r_lcmpX E dX8_allows_64 (fun z_64 zb_64 ze_64 => ?_)
        refine r_if_ne E 70 dX8_allows_65 (by decide) (by omega) (fun c_65 => ?_) (fun c_65 => ?_)
        · skip
          have e8 : is1 d (uZ ce x (c9 + 1)) q9 = 0 := by
            unfold is1
            by_cases z : cAll d (uZ ce x (c9 + 1)) q9 = -1
            · exact if_pos z
            · exact absurd (ze_64.mpr ((rest_all hD hq9 b3 hc9).mpr z)) c_65
          refine r_iinc (lv' := [(5, .int (zI (i + 1))), (0, .ref a), (1, .int (zI x)), (2, .long (mk (d 0) ce c9)), (4, .int (zI z_26))]) E 4 hl rfl dX8_allows_70 (by decide) rfl (fun ls hl => ?_)
          refine r_goto E 43 dX8_allows_73 (by decide) ?_
          exact ih_43 _ H locs ls (by omega) ⟨(i + 1), (t9 + 1), rfl, ⟨by omega, by omega⟩, (by omega), (by rw [e9]; omega), (cntT_le (by omega)), h, lv_sub hl [1, 2, 3, 4, 0] rfl⟩
        · skip
          have e8 : is1 d (uZ ce x (c9 + 1)) q9 = 1 := if_neg ((rest_all hD hq9 b3 hc9).mp (ze_64.mp c_65))
          have hmo := sumT_le (s := t9 + 1) hnn
          have hmp := sumT_le (s := t9) hnn
          refine r_iconst E dX8_allows_68 ?_
          exact r_zret E h (Or.inl rfl) ⟨Or.inr ⟨rfl, by
  unfold alw cnfX
  exact decide_eq_false (by omega)⟩, rfl⟩ dX8_allows_69
    · skip
      exfalso; omega
