theorem hd_X10_numberCount : yX10_numberCount.cls = RX10 ∧ yX10_numberCount.cls ≠ "java/lang/invoke/MethodHandle" ∧ yX10_numberCount.cls ≠ "java/lang/invoke/VarHandle" ∧ (parseMethodDescriptor yX10_numberCount.desc).map (fun d => d.parameters.length) = some 0 := by decide +kernel
theorem fl_X10_numberCount_74 : Cond.fieldLink RX10 74 (TX10 3).1 (TX10 3).2.1 (TX10 3).2.2.1 ∈ wsX10_numberCount := List.mem_of_getElem? (i := 1) rfl
theorem inn_X10_numberCount_10 : ∀ w ∈ wsX100, w ∈ wsX10_numberCount := fun _ h => List.mem_cons_of_mem _ (List.mem_append_left _ (List.mem_append_right _ h))
theorem fl_X10_numberCount_118 : Cond.fieldLink RX10 118 (TX6 0).1 (TX6 0).2.1 (TX6 0).2.2.1 ∈ wsX10_numberCount := List.mem_of_getElem? (i := 2) rfl
theorem inn_X10_numberCount_6 : ∀ w ∈ wsX60, w ∈ wsX10_numberCount := fun _ h => List.mem_cons_of_mem _ (List.mem_append_right _ h)
abbrev rm_X10_numberCount : Room := { frames := 0, cells := 0, slots := 0, locals := 0 }
set_option maxHeartbeats 1200000 in
set_option maxRecDepth 100000 in
theorem k_X10_numberCount (l : Launch) {G : va_G} {cy : Nat → ClassId} {ws0 : va_W} {qx ax ain asu ard a a2 asr arp ahi : Nat} {inl erp : Int} {qs ar9 afo : Nat} {d : Int → Int}  (h_x0 : ws0[qx]? = some (ax, .inr (10, [.ref ain, .int (zI inl), .int (zI erp), .ref asu, .ref ard, .ref a, .ref a2, .ref asr, .ref arp, .ref ahi]))) (h_su : ws0[qs]? = some (asu, .inr (6, [.int (zI (d 0)), .int (zI (d 1)), .ref ar9, .ref afo])))  : MIk l yX10_numberCount wsX10_numberCount rm_X10_numberCount G cy [.ref ax] ws0 (fun z u => z = d 0 ∧ ws0 = u) := by
  refine MIk.of (own := RX10) (cc := cX10_numberCount) (nL := 1) (ret := (some .int)) (by decide) rfl rfl (Nat.le_of_ble_eq_true rfl) ?_
  intro p e s m below meth c A ls hX E h hl
  have hl : lv_has ls 1 [(0, .ref ax)] := hl
  refine r_aload_n E 0 hl rfl dX10_numberCount_0 ?_
  refine r_get (v := .ref asu) E h h_x0 rfl inn_X10_numberCount_10 3 (by decide) fl_X10_numberCount_74 rfl dX10_numberCount_1 ?_
  refine r_get (v := .int (zI (d 0))) E h h_su rfl inn_X10_numberCount_6 0 (by decide) fl_X10_numberCount_118 rfl dX10_numberCount_4 ?_
  exact r_iret E h ⟨rfl, rfl⟩ dX10_numberCount_7
theorem hd_X10_colourCount : yX10_colourCount.cls = RX10 ∧ yX10_colourCount.cls ≠ "java/lang/invoke/MethodHandle" ∧ yX10_colourCount.cls ≠ "java/lang/invoke/VarHandle" ∧ (parseMethodDescriptor yX10_colourCount.desc).map (fun d => d.parameters.length) = some 0 := by decide +kernel
theorem fl_X10_colourCount_74 : Cond.fieldLink RX10 74 (TX10 3).1 (TX10 3).2.1 (TX10 3).2.2.1 ∈ wsX10_colourCount := List.mem_of_getElem? (i := 1) rfl
theorem inn_X10_colourCount_10 : ∀ w ∈ wsX100, w ∈ wsX10_colourCount := fun _ h => List.mem_cons_of_mem _ (List.mem_append_left _ (List.mem_append_right _ h))
theorem fl_X10_colourCount_121 : Cond.fieldLink RX10 121 (TX6 1).1 (TX6 1).2.1 (TX6 1).2.2.1 ∈ wsX10_colourCount := List.mem_of_getElem? (i := 2) rfl
theorem inn_X10_colourCount_6 : ∀ w ∈ wsX60, w ∈ wsX10_colourCount := fun _ h => List.mem_cons_of_mem _ (List.mem_append_right _ h)
abbrev rm_X10_colourCount : Room := { frames := 0, cells := 0, slots := 0, locals := 0 }
set_option maxHeartbeats 1200000 in
set_option maxRecDepth 100000 in
theorem k_X10_colourCount (l : Launch) {G : va_G} {cy : Nat → ClassId} {ws0 : va_W} {qx ax ain asu ard a a2 asr arp ahi : Nat} {inl erp : Int} {qs ar9 afo : Nat} {d : Int → Int}  (h_x0 : ws0[qx]? = some (ax, .inr (10, [.ref ain, .int (zI inl), .int (zI erp), .ref asu, .ref ard, .ref a, .ref a2, .ref asr, .ref arp, .ref ahi]))) (h_su : ws0[qs]? = some (asu, .inr (6, [.int (zI (d 0)), .int (zI (d 1)), .ref ar9, .ref afo])))  : MIk l yX10_colourCount wsX10_colourCount rm_X10_colourCount G cy [.ref ax] ws0 (fun z u => z = d 1 ∧ ws0 = u) := by
  refine MIk.of (own := RX10) (cc := cX10_colourCount) (nL := 1) (ret := (some .int)) (by decide) rfl rfl (Nat.le_of_ble_eq_true rfl) ?_
  intro p e s m below meth c A ls hX E h hl
  have hl : lv_has ls 1 [(0, .ref ax)] := hl
  refine r_aload_n E 0 hl rfl dX10_colourCount_0 ?_
  refine r_get (v := .ref asu) E h h_x0 rfl inn_X10_colourCount_10 3 (by decide) fl_X10_colourCount_74 rfl dX10_colourCount_1 ?_
  refine r_get (v := .int (zI (d 1))) E h h_su rfl inn_X10_colourCount_6 1 (by decide) fl_X10_colourCount_121 rfl dX10_colourCount_4 ?_
  exact r_iret E h ⟨rfl, rfl⟩ dX10_colourCount_7
theorem hd_X10_ruleCount : yX10_ruleCount.cls = RX10 ∧ yX10_ruleCount.cls ≠ "java/lang/invoke/MethodHandle" ∧ yX10_ruleCount.cls ≠ "java/lang/invoke/VarHandle" ∧ (parseMethodDescriptor yX10_ruleCount.desc).map (fun d => d.parameters.length) = some 0 := by decide +kernel
theorem fl_X10_ruleCount_74 : Cond.fieldLink RX10 74 (TX10 3).1 (TX10 3).2.1 (TX10 3).2.2.1 ∈ wsX10_ruleCount := List.mem_of_getElem? (i := 1) rfl
theorem inn_X10_ruleCount_10 : ∀ w ∈ wsX100, w ∈ wsX10_ruleCount := fun _ h => List.mem_cons_of_mem _ (List.mem_append_left _ (List.mem_append_right _ h))
theorem fl_X10_ruleCount_114 : Cond.fieldLink RX10 114 (TX6 2).1 (TX6 2).2.1 (TX6 2).2.2.1 ∈ wsX10_ruleCount := List.mem_of_getElem? (i := 2) rfl
theorem inn_X10_ruleCount_6 : ∀ w ∈ wsX60, w ∈ wsX10_ruleCount := fun _ h => List.mem_cons_of_mem _ (List.mem_append_right _ h)
abbrev rm_X10_ruleCount : Room := { frames := 0, cells := 0, slots := 0, locals := 0 }
set_option maxHeartbeats 1200000 in
set_option maxRecDepth 100000 in
theorem k_X10_ruleCount (l : Launch) {G : va_G} {cy : Nat → ClassId} {ws0 : va_W} {qx ax ain asu ard a a2 asr arp ahi : Nat} {inl erp : Int} {qs qra ar9 : Nat} {rA : Int → Option Nat}  {afo : Nat} {d : Int → Int} {T : List Int} (h_x0 : ws0[qx]? = some (ax, .inr (10, [.ref ain, .int (zI inl), .int (zI erp), .ref asu, .ref ard, .ref a, .ref a2, .ref asr, .ref arp, .ref ahi]))) (h_su : ws0[qs]? = some (asu, .inr (6, [.int (zI (d 0)), .int (zI (d 1)), .ref ar9, .ref afo]))) (h_sur : ws0[qra]? = some (ar9, aR cy 4 ((d 2).toNat) rA)) (hD : DW d T) : MIk l yX10_ruleCount wsX10_ruleCount rm_X10_ruleCount G cy [.ref ax] ws0 (fun z u => z = d 2 ∧ ws0 = u) := by
  refine MIk.of (own := RX10) (cc := cX10_ruleCount) (nL := 1) (ret := (some .int)) (by decide) rfl rfl (Nat.le_of_ble_eq_true rfl) ?_
  intro p e s m below meth c A ls hX E h hl
  have hl : lv_has ls 1 [(0, .ref ax)] := hl
  have hnr := hD.nr
  refine r_aload_n E 0 hl rfl dX10_ruleCount_0 ?_
  refine r_get (v := .ref asu) E h h_x0 rfl inn_X10_ruleCount_10 3 (by decide) fl_X10_ruleCount_74 rfl dX10_ruleCount_1 ?_
  refine r_get (v := .ref ar9) E h h_su rfl inn_X10_ruleCount_6 2 (by decide) fl_X10_ruleCount_114 rfl dX10_ruleCount_4 ?_
  refine r_alen E h rfl h_sur (v := (d 2).toNat) rfl dX10_ruleCount_7 ?_
  exact r_iret E h ⟨by omega, rfl⟩ dX10_ruleCount_8
theorem hd_X10_errorOffset : yX10_errorOffset.cls = RX10 ∧ yX10_errorOffset.cls ≠ "java/lang/invoke/MethodHandle" ∧ yX10_errorOffset.cls ≠ "java/lang/invoke/VarHandle" ∧ (parseMethodDescriptor yX10_errorOffset.desc).map (fun d => d.parameters.length) = some 0 := by decide +kernel
theorem fl_X10_errorOffset_17 : Cond.fieldLink RX10 17 (TX10 2).1 (TX10 2).2.1 (TX10 2).2.2.1 ∈ wsX10_errorOffset := List.mem_of_getElem? (i := 1) rfl
theorem inn_X10_errorOffset_10 : ∀ w ∈ wsX100, w ∈ wsX10_errorOffset := fun _ h => List.mem_cons_of_mem _ (List.mem_append_right _ h)
abbrev rm_X10_errorOffset : Room := { frames := 0, cells := 0, slots := 0, locals := 0 }
set_option maxHeartbeats 1200000 in
set_option maxRecDepth 100000 in
theorem k_X10_errorOffset (l : Launch) {G : va_G} {cy : Nat → ClassId} {ws0 : va_W} {qx ax ain asu ard a a2 asr arp ahi : Nat} {inl erp : Int}    (h_x0 : ws0[qx]? = some (ax, .inr (10, [.ref ain, .int (zI inl), .int (zI erp), .ref asu, .ref ard, .ref a, .ref a2, .ref asr, .ref arp, .ref ahi])))  : MIk l yX10_errorOffset wsX10_errorOffset rm_X10_errorOffset G cy [.ref ax] ws0 (fun z u => z = erp ∧ ws0 = u) := by
  refine MIk.of (own := RX10) (cc := cX10_errorOffset) (nL := 1) (ret := (some .int)) (by decide) rfl rfl (Nat.le_of_ble_eq_true rfl) ?_
  intro p e s m below meth c A ls hX E h hl
  have hl : lv_has ls 1 [(0, .ref ax)] := hl
  refine r_aload_n E 0 hl rfl dX10_errorOffset_0 ?_
  refine r_get (v := .int (zI erp)) E h h_x0 rfl inn_X10_errorOffset_10 2 (by decide) fl_X10_errorOffset_17 rfl dX10_errorOffset_1 ?_
  exact r_iret E h ⟨rfl, rfl⟩ dX10_errorOffset_4
theorem hd_X10_requireNumber : yX10_requireNumber.cls = RX10 ∧ yX10_requireNumber.cls ≠ "java/lang/invoke/MethodHandle" ∧ yX10_requireNumber.cls ≠ "java/lang/invoke/VarHandle" ∧ (parseMethodDescriptor yX10_requireNumber.desc).map (fun d => d.parameters.length) = some 1 := by decide +kernel
theorem xnn_X10_requireNumber_128 : ∀ w ∈ (vx_atS RX10 128 "java/lang/IndexOutOfBoundsException" VXN).filter goodWord, w ∈ wsX10_requireNumber := fun _ h => List.mem_cons_of_mem _ (List.mem_append_right _ h)
theorem fl_X10_requireNumber_74 : Cond.fieldLink RX10 74 (TX10 3).1 (TX10 3).2.1 (TX10 3).2.2.1 ∈ wsX10_requireNumber := List.mem_of_getElem? (i := 3) rfl
theorem inn_X10_requireNumber_10 : ∀ w ∈ wsX100, w ∈ wsX10_requireNumber := fun _ h => List.mem_cons_of_mem _ (List.mem_append_left _ (List.mem_append_left _ (List.mem_append_right _ h)))
theorem fl_X10_requireNumber_118 : Cond.fieldLink RX10 118 (TX6 0).1 (TX6 0).2.1 (TX6 0).2.2.1 ∈ wsX10_requireNumber := List.mem_of_getElem? (i := 4) rfl
theorem inn_X10_requireNumber_6 : ∀ w ∈ wsX60, w ∈ wsX10_requireNumber := fun _ h => List.mem_cons_of_mem _ (List.mem_append_left _ (List.mem_append_right _ h))
abbrev rm_X10_requireNumber : Room := { frames := 6, cells := 1, slots := 6, locals := 90 }
set_option maxHeartbeats 1200000 in
set_option maxRecDepth 100000 in
theorem k_X10_requireNumber (l : Launch) {G : va_G} {cy : Nat → ClassId} {ws0 : va_W} {qx ax ain asu ard a a2 asr arp ahi : Nat} {inl erp : Int} {qs ar9 afo : Nat} {d : Int → Int} {T : List Int} (x : Int) (h_x0 : ws0[qx]? = some (ax, .inr (10, [.ref ain, .int (zI inl), .int (zI erp), .ref asu, .ref ard, .ref a, .ref a2, .ref asr, .ref arp, .ref ahi]))) (h_su : ws0[qs]? = some (asu, .inr (6, [.int (zI (d 0)), .int (zI (d 1)), .ref ar9, .ref afo]))) (hD : DW d T) (hx9 : -2147483648 ≤ x ∧ x ≤ 2147483647) (hl9 : l.stackTraces = false) : TVk l yX10_requireNumber wsX10_requireNumber rm_X10_requireNumber G cy [.ref ax, .int (zI x)] ws0 (fun E9 => E9 = "java/lang/IndexOutOfBoundsException" ∧ ¬ (1 ≤ x ∧ x ≤ d 0)) (fun u => (1 ≤ x ∧ x ≤ d 0) ∧ ws0 = u) := by
  refine TVk.of (own := RX10) (cc := cX10_requireNumber) (nL := 2) (ret := none) (by decide) rfl rfl (Nat.le_of_ble_eq_true rfl) ?_
  intro p e s m below meth c A ls hX hxt E h hl
  have hl : lv_has ls 2 [(0, .ref ax), (1, .int (zI x))] := hl
  have hn9 := hD.n
  have hk9 := hD.k
  refine r_iload_n E 1 hl rfl dX10_requireNumber_0 ?_
  refine r_iconst E dX10_requireNumber_1 ?_
  refine r_icmp_lt E 16 dX10_requireNumber_2 (by decide) (by omega) (fun c_2 => ?_) (fun c_2 => ?_)
  · skip
    exact r_throwSW E hX hxt h hl9 (text := "no such number") (cls := "java/lang/IndexOutOfBoundsException") (k9 := 6) (by decide) (List.mem_of_getElem? (i := 1) rfl) (List.mem_of_getElem? (i := 2) rfl) (by decide +kernel) xnn_X10_requireNumber_128 vxb_128 vxo_128 hl.1 dX10_requireNumber_16 dX10_requireNumber_19 dX10_requireNumber_20 dX10_requireNumber_23 dX10_requireNumber_26 ⟨by decide, by decide⟩ ⟨⟨by decide, by decide⟩, by decide, by decide⟩ ⟨rfl, by omega⟩
  · skip
    refine r_iload_n E 1 hl rfl dX10_requireNumber_5 ?_
    refine r_aload_n E 0 hl rfl dX10_requireNumber_6 ?_
    refine r_get (v := .ref asu) E h h_x0 rfl inn_X10_requireNumber_10 3 (by decide) fl_X10_requireNumber_74 rfl dX10_requireNumber_7 ?_
    refine r_get (v := .int (zI (d 0))) E h h_su rfl inn_X10_requireNumber_6 0 (by decide) fl_X10_requireNumber_118 rfl dX10_requireNumber_10 ?_
    refine r_icmp_le E 27 dX10_requireNumber_13 (by decide) (by omega) (fun c_13 => ?_) (fun c_13 => ?_)
    · skip
      refine W.widen (k := 1) (n := 6) (by decide) (by decide) ?_
      exact vx_ret (r_vret E h ⟨by omega, rfl⟩ dX10_requireNumber_27)
    · skip
      exact r_throwSW E hX hxt h hl9 (text := "no such number") (cls := "java/lang/IndexOutOfBoundsException") (k9 := 6) (by decide) (List.mem_of_getElem? (i := 1) rfl) (List.mem_of_getElem? (i := 2) rfl) (by decide +kernel) xnn_X10_requireNumber_128 vxb_128 vxo_128 hl.1 dX10_requireNumber_16 dX10_requireNumber_19 dX10_requireNumber_20 dX10_requireNumber_23 dX10_requireNumber_26 ⟨by decide, by decide⟩ ⟨⟨by decide, by decide⟩, by decide, by decide⟩ ⟨rfl, by omega⟩
theorem hd_X10_requireColour : yX10_requireColour.cls = RX10 ∧ yX10_requireColour.cls ≠ "java/lang/invoke/MethodHandle" ∧ yX10_requireColour.cls ≠ "java/lang/invoke/VarHandle" ∧ (parseMethodDescriptor yX10_requireColour.desc).map (fun d => d.parameters.length) = some 1 := by decide +kernel
theorem xnn_X10_requireColour_128 : ∀ w ∈ (vx_atS RX10 128 "java/lang/IndexOutOfBoundsException" VXN).filter goodWord, w ∈ wsX10_requireColour := fun _ h => List.mem_cons_of_mem _ (List.mem_append_right _ h)
theorem fl_X10_requireColour_74 : Cond.fieldLink RX10 74 (TX10 3).1 (TX10 3).2.1 (TX10 3).2.2.1 ∈ wsX10_requireColour := List.mem_of_getElem? (i := 3) rfl
theorem inn_X10_requireColour_10 : ∀ w ∈ wsX100, w ∈ wsX10_requireColour := fun _ h => List.mem_cons_of_mem _ (List.mem_append_left _ (List.mem_append_left _ (List.mem_append_right _ h)))
theorem fl_X10_requireColour_121 : Cond.fieldLink RX10 121 (TX6 1).1 (TX6 1).2.1 (TX6 1).2.2.1 ∈ wsX10_requireColour := List.mem_of_getElem? (i := 4) rfl
theorem inn_X10_requireColour_6 : ∀ w ∈ wsX60, w ∈ wsX10_requireColour := fun _ h => List.mem_cons_of_mem _ (List.mem_append_left _ (List.mem_append_right _ h))
abbrev rm_X10_requireColour : Room := { frames := 6, cells := 1, slots := 6, locals := 90 }
set_option maxHeartbeats 1200000 in
set_option maxRecDepth 100000 in
theorem k_X10_requireColour (l : Launch) {G : va_G} {cy : Nat → ClassId} {ws0 : va_W} {qx ax ain asu ard a a2 asr arp ahi : Nat} {inl erp : Int} {qs ar9 afo : Nat} {d : Int → Int} {T : List Int} (x : Int) (h_x0 : ws0[qx]? = some (ax, .inr (10, [.ref ain, .int (zI inl), .int (zI erp), .ref asu, .ref ard, .ref a, .ref a2, .ref asr, .ref arp, .ref ahi]))) (h_su : ws0[qs]? = some (asu, .inr (6, [.int (zI (d 0)), .int (zI (d 1)), .ref ar9, .ref afo]))) (hD : DW d T) (hx9 : -2147483648 ≤ x ∧ x ≤ 2147483647) (hl9 : l.stackTraces = false) : TVk l yX10_requireColour wsX10_requireColour rm_X10_requireColour G cy [.ref ax, .int (zI x)] ws0 (fun E9 => E9 = "java/lang/IndexOutOfBoundsException" ∧ ¬ (0 ≤ x ∧ x < d 1)) (fun u => (0 ≤ x ∧ x < d 1) ∧ ws0 = u) := by
  refine TVk.of (own := RX10) (cc := cX10_requireColour) (nL := 2) (ret := none) (by decide) rfl rfl (Nat.le_of_ble_eq_true rfl) ?_
  intro p e s m below meth c A ls hX hxt E h hl
  have hl : lv_has ls 2 [(0, .ref ax), (1, .int (zI x))] := hl
  have hn9 := hD.n
  have hk9 := hD.k
  refine r_iload_n E 1 hl rfl dX10_requireColour_0 ?_
  refine r_if_lt E 15 dX10_requireColour_1 (by decide) (by omega) (fun c_1 => ?_) (fun c_1 => ?_)
  · skip
    exact r_throwSW E hX hxt h hl9 (text := "no such colour") (cls := "java/lang/IndexOutOfBoundsException") (k9 := 7) (by decide) (List.mem_of_getElem? (i := 1) rfl) (List.mem_of_getElem? (i := 2) rfl) (by decide +kernel) xnn_X10_requireColour_128 vxb_128 vxo_128 hl.1 dX10_requireColour_15 dX10_requireColour_18 dX10_requireColour_19 dX10_requireColour_22 dX10_requireColour_25 ⟨by decide, by decide⟩ ⟨⟨by decide, by decide⟩, by decide, by decide⟩ ⟨rfl, by omega⟩
  · skip
    refine r_iload_n E 1 hl rfl dX10_requireColour_4 ?_
    refine r_aload_n E 0 hl rfl dX10_requireColour_5 ?_
    refine r_get (v := .ref asu) E h h_x0 rfl inn_X10_requireColour_10 3 (by decide) fl_X10_requireColour_74 rfl dX10_requireColour_6 ?_
    refine r_get (v := .int (zI (d 1))) E h h_su rfl inn_X10_requireColour_6 1 (by decide) fl_X10_requireColour_121 rfl dX10_requireColour_9 ?_
    refine r_icmp_lt E 26 dX10_requireColour_12 (by decide) (by omega) (fun c_12 => ?_) (fun c_12 => ?_)
    · skip
      refine W.widen (k := 1) (n := 6) (by decide) (by decide) ?_
      exact vx_ret (r_vret E h ⟨by omega, rfl⟩ dX10_requireColour_26)
    · skip
      exact r_throwSW E hX hxt h hl9 (text := "no such colour") (cls := "java/lang/IndexOutOfBoundsException") (k9 := 7) (by decide) (List.mem_of_getElem? (i := 1) rfl) (List.mem_of_getElem? (i := 2) rfl) (by decide +kernel) xnn_X10_requireColour_128 vxb_128 vxo_128 hl.1 dX10_requireColour_15 dX10_requireColour_18 dX10_requireColour_19 dX10_requireColour_22 dX10_requireColour_25 ⟨by decide, by decide⟩ ⟨⟨by decide, by decide⟩, by decide, by decide⟩ ⟨rfl, by omega⟩
theorem hd_X10_requireColourOrNone : yX10_requireColourOrNone.cls = RX10 ∧ yX10_requireColourOrNone.cls ≠ "java/lang/invoke/MethodHandle" ∧ yX10_requireColourOrNone.cls ≠ "java/lang/invoke/VarHandle" ∧ (parseMethodDescriptor yX10_requireColourOrNone.desc).map (fun d => d.parameters.length) = some 1 := by decide +kernel
abbrev rm_X10_requireColourOrNone : Room := { frames := 7, cells := 1, slots := 6, locals := 111 }
set_option maxHeartbeats 1200000 in
set_option maxRecDepth 100000 in
theorem k_X10_requireColourOrNone (l : Launch) {G : va_G} {cy : Nat → ClassId} {ws0 : va_W} {qx ax ain asu ard a a2 asr arp ahi : Nat} {inl erp : Int} {qs ar9 afo : Nat} {d : Int → Int} {T : List Int} (x : Int) (h_x0 : ws0[qx]? = some (ax, .inr (10, [.ref ain, .int (zI inl), .int (zI erp), .ref asu, .ref ard, .ref a, .ref a2, .ref asr, .ref arp, .ref ahi]))) (h_su : ws0[qs]? = some (asu, .inr (6, [.int (zI (d 0)), .int (zI (d 1)), .ref ar9, .ref afo]))) (hD : DW d T) (hx9 : -2147483648 ≤ x ∧ x ≤ 2147483647) (hl9 : l.stackTraces = false) : TVk l yX10_requireColourOrNone wsX10_requireColourOrNone rm_X10_requireColourOrNone G cy [.ref ax, .int (zI x)] ws0 (fun E9 => E9 = "java/lang/IndexOutOfBoundsException" ∧ ¬ (-1 ≤ x ∧ x < d 1)) (fun u => (-1 ≤ x ∧ x < d 1) ∧ ws0 = u) := by
  refine TVk.of (own := RX10) (cc := cX10_requireColourOrNone) (nL := 2) (ret := none) (by decide) rfl rfl (Nat.le_of_ble_eq_true rfl) ?_
  intro p e s m below meth c A ls hX hxt E h hl
  have hl : lv_has ls 2 [(0, .ref ax), (1, .int (zI x))] := hl
  have hn9 := hD.n
  have hk9 := hD.k
  refine r_iload_n E 1 hl rfl dX10_requireColourOrNone_0 ?_
  refine r_iconst E dX10_requireColourOrNone_1 ?_
  refine r_icmp_eq E 10 dX10_requireColourOrNone_2 (by decide) (by omega) (fun c_2 => ?_) (fun c_2 => ?_)
  · skip
    refine W.widen (k := 1) (n := 6) (by decide) (by decide) ?_
    exact vx_ret (r_vret E h ⟨by omega, rfl⟩ dX10_requireColourOrNone_10)
  · skip
    refine r_aload_n E 0 hl rfl dX10_requireColourOrNone_5 ?_
    refine r_iload_n E 1 hl rfl dX10_requireColourOrNone_6 ?_
    refine r_callVtV E hX hxt h (As := [.int (zI x)]) (rest := []) (k_X10_requireColour l x h_x0 h_su hD (by omega) hl9) (fun E9 h9 => ⟨h9.1, by omega⟩) h_x0 rfl gX10_requireColourOrNone_X10_requireColour rfl hd_X10_requireColour (by decide) ⟨by decide, by decide⟩ ⟨by decide, by decide⟩ hl.1 rfl (Nat.le_of_ble_eq_true rfl) dX10_requireColourOrNone_7 rfl (fun ws H locs hp h => ?_)
    obtain ⟨hv_z_7, rfl⟩ := hp
    refine W.widen (k := 1) (n := 6) (by decide) (by decide) ?_
    exact vx_ret (r_vret E h ⟨by omega, rfl⟩ dX10_requireColourOrNone_10)
theorem hd_X10_requireTrials : yX10_requireTrials.cls = RX10 ∧ yX10_requireTrials.cls ≠ "java/lang/invoke/MethodHandle" ∧ yX10_requireTrials.cls ≠ "java/lang/invoke/VarHandle" ∧ (parseMethodDescriptor yX10_requireTrials.desc).map (fun d => d.parameters.length) = some 1 := by decide +kernel
theorem xnn_X10_requireTrials_86 : ∀ w ∈ (vx_atS RX10 86 "java/lang/IllegalArgumentException" VXN).filter goodWord, w ∈ wsX10_requireTrials := fun _ h => List.mem_cons_of_mem _ (List.mem_append_right _ h)
abbrev rm_X10_requireTrials : Room := { frames := 6, cells := 1, slots := 6, locals := 90 }
set_option maxHeartbeats 1200000 in
set_option maxRecDepth 100000 in
theorem k_X10_requireTrials (l : Launch) {G : va_G} {cy : Nat → ClassId} {ws0 : va_W} {ax : Nat}     (x : Int)  (hx9 : -2147483648 ≤ x ∧ x ≤ 2147483647) (hl9 : l.stackTraces = false) : TVk l yX10_requireTrials wsX10_requireTrials rm_X10_requireTrials G cy [.ref ax, .int (zI x)] ws0 (fun E9 => E9 = "java/lang/IllegalArgumentException" ∧ ¬ (1 ≤ x ∧ x ≤ 3000)) (fun u => (1 ≤ x ∧ x ≤ 3000) ∧ ws0 = u) := by
  refine TVk.of (own := RX10) (cc := cX10_requireTrials) (nL := 2) (ret := none) (by decide) rfl rfl (Nat.le_of_ble_eq_true rfl) ?_
  intro p e s m below meth c A ls hX hxt E h hl
  have hl : lv_has ls 2 [(0, .ref ax), (1, .int (zI x))] := hl
  refine r_iload_n E 1 hl rfl dX10_requireTrials_0 ?_
  refine r_iconst E dX10_requireTrials_1 ?_
  refine r_icmp_lt E 12 dX10_requireTrials_2 (by decide) (by omega) (fun c_2 => ?_) (fun c_2 => ?_)
  · skip
    exact r_throwSW E hX hxt h hl9 (text := "trials is 1 to 3000") (cls := "java/lang/IllegalArgumentException") (k9 := 8) (by decide) (List.mem_of_getElem? (i := 1) rfl) (List.mem_of_getElem? (i := 2) rfl) (by decide +kernel) xnn_X10_requireTrials_86 vxb_86 vxo_86 hl.1 dX10_requireTrials_12 dX10_requireTrials_15 dX10_requireTrials_16 dX10_requireTrials_19 dX10_requireTrials_22 ⟨by decide, by decide⟩ ⟨⟨by decide, by decide⟩, by decide, by decide⟩ ⟨rfl, by omega⟩
  · skip
    refine r_iload_n E 1 hl rfl dX10_requireTrials_5 ?_
    refine r_sipush E dX10_requireTrials_6 (by decide) ?_
    refine r_icmp_le E 23 dX10_requireTrials_9 (by decide) (by omega) (fun c_9 => ?_) (fun c_9 => ?_)
    · skip
      refine W.widen (k := 1) (n := 6) (by decide) (by decide) ?_
      exact vx_ret (r_vret E h ⟨by omega, rfl⟩ dX10_requireTrials_23)
    · skip
      exact r_throwSW E hX hxt h hl9 (text := "trials is 1 to 3000") (cls := "java/lang/IllegalArgumentException") (k9 := 8) (by decide) (List.mem_of_getElem? (i := 1) rfl) (List.mem_of_getElem? (i := 2) rfl) (by decide +kernel) xnn_X10_requireTrials_86 vxb_86 vxo_86 hl.1 dX10_requireTrials_12 dX10_requireTrials_15 dX10_requireTrials_16 dX10_requireTrials_19 dX10_requireTrials_22 ⟨by decide, by decide⟩ ⟨⟨by decide, by decide⟩, by decide, by decide⟩ ⟨rfl, by omega⟩
theorem hd_X10_solutions : yX10_solutions.cls = RX10 ∧ yX10_solutions.cls ≠ "java/lang/invoke/MethodHandle" ∧ yX10_solutions.cls ≠ "java/lang/invoke/VarHandle" ∧ (parseMethodDescriptor yX10_solutions.desc).map (fun d => d.parameters.length) = some 1 := by decide +kernel
theorem xnn_X10_solutions_128 : ∀ w ∈ (vx_atS RX10 128 "java/lang/IndexOutOfBoundsException" VXN).filter goodWord, w ∈ wsX10_solutions := fun _ h => List.mem_cons_of_mem _ (List.mem_append_right _ h)
theorem fl_X10_solutions_74 : Cond.fieldLink RX10 74 (TX10 3).1 (TX10 3).2.1 (TX10 3).2.2.1 ∈ wsX10_solutions := List.mem_of_getElem? (i := 3) rfl
theorem inn_X10_solutions_10 : ∀ w ∈ wsX100, w ∈ wsX10_solutions := fun _ h => List.mem_cons_of_mem _ (List.mem_append_left _ (List.mem_append_left _ (List.mem_append_left _ (List.mem_append_right _ h))))
theorem fl_X10_solutions_114 : Cond.fieldLink RX10 114 (TX6 2).1 (TX6 2).2.1 (TX6 2).2.2.1 ∈ wsX10_solutions := List.mem_of_getElem? (i := 4) rfl
theorem inn_X10_solutions_6 : ∀ w ∈ wsX60, w ∈ wsX10_solutions := fun _ h => List.mem_cons_of_mem _ (List.mem_append_left _ (List.mem_append_left _ (List.mem_append_right _ h)))
theorem fl_X10_solutions_30 : Cond.fieldLink RX10 30 (TX10 5).1 (TX10 5).2.1 (TX10 5).2.2.1 ∈ wsX10_solutions := List.mem_of_getElem? (i := 5) rfl
abbrev rm_X10_solutions : Room := { frames := 6, cells := 1, slots := 6, locals := 90 }
set_option maxHeartbeats 1200000 in
set_option maxRecDepth 100000 in
theorem k_X10_solutions (l : Launch) {G : va_G} {cy : Nat → ClassId} {ws0 : va_W} {qx ax ain asu ard a a2 asr arp ahi : Nat} {inl erp : Int} {q ase awr art awt are ars : Nat} {se re : Int → Int64} {wr rt wt rs : Int → Int} {sz riw : Int} {qs qra ar9 : Nat} {rA : Int → Option Nat}  {afo : Nat} {d : Int → Int} {T : List Int} (r : Int) (h_x0 : ws0[qx]? = some (ax, .inr (10, [.ref ain, .int (zI inl), .int (zI erp), .ref asu, .ref ard, .ref a, .ref a2, .ref asr, .ref arp, .ref ahi]))) (h_tb : ws0[q]? = some (a, .inr (8, [.ref ase, .ref awr, .int (zI sz), .ref art, .int (zI riw), .ref awt, .ref are, .ref ars]))) (h_rt : ws0[q + 3]? = some (art, aI cy 5 rt)) (h_su : ws0[qs]? = some (asu, .inr (6, [.int (zI (d 0)), .int (zI (d 1)), .ref ar9, .ref afo]))) (h_sur : ws0[qra]? = some (ar9, aR cy 4 ((d 2).toNat) rA)) (hD : DW d T) (hT : TW d T se wr rt wt re rs sz) (hr9 : -2147483648 ≤ r ∧ r ≤ 2147483647) (hl9 : l.stackTraces = false) : TIk l yX10_solutions wsX10_solutions rm_X10_solutions G cy [.ref ax, .int (zI r)] ws0 (fun E9 => E9 = "java/lang/IndexOutOfBoundsException" ∧ ¬ (0 ≤ r ∧ r < d 2)) (fun z u => (0 ≤ r ∧ r < d 2) ∧ z = (kX d r (d 0).toNat).length ∧ ws0 = u) := by
  refine TIk.of (own := RX10) (cc := cX10_solutions) (nL := 2) (ret := (some .int)) (by decide) rfl rfl (Nat.le_of_ble_eq_true rfl) ?_
  intro p e s m below meth c A ls hX hxt E h hl
  have hl : lv_has ls 2 [(0, .ref ax), (1, .int (zI r))] := hl
  have hn9 := hD.n
  have hk9 := hD.k
  have hnr := hD.nr
  refine r_iload_n E 1 hl rfl dX10_solutions_0 ?_
  refine r_if_lt E 16 dX10_solutions_1 (by decide) (by omega) (fun c_1 => ?_) (fun c_1 => ?_)
  · skip
    exact r_throwS E hX hxt h hl9 (text := "no such rule") (cls := "java/lang/IndexOutOfBoundsException") (k9 := 0) (by decide) (List.mem_of_getElem? (i := 1) rfl) (List.mem_of_getElem? (i := 2) rfl) (by decide +kernel) xnn_X10_solutions_128 vxb_128 vxo_128 hl.1 dX10_solutions_16 dX10_solutions_19 dX10_solutions_20 dX10_solutions_22 dX10_solutions_25 ⟨by decide, by decide⟩ ⟨⟨by decide, by decide⟩, by decide, by decide⟩ ⟨rfl, by omega⟩
  · skip
    refine r_iload_n E 1 hl rfl dX10_solutions_4 ?_
    refine r_aload_n E 0 hl rfl dX10_solutions_5 ?_
    refine r_get (v := .ref asu) E h h_x0 rfl inn_X10_solutions_10 3 (by decide) fl_X10_solutions_74 rfl dX10_solutions_6 ?_
    refine r_get (v := .ref ar9) E h h_su rfl inn_X10_solutions_6 2 (by decide) fl_X10_solutions_114 rfl dX10_solutions_9 ?_
    refine r_alen E h rfl h_sur (v := (d 2).toNat) rfl dX10_solutions_12 ?_
    refine r_icmp_lt E 26 dX10_solutions_13 (by decide) (by omega) (fun c_13 => ?_) (fun c_13 => ?_)
    · skip
      refine r_aload_n E 0 hl rfl dX10_solutions_26 ?_
      refine r_get (v := .ref a) E h h_x0 rfl inn_X10_solutions_10 5 (by decide) fl_X10_solutions_30 rfl dX10_solutions_27 ?_
      refine r_iload_n E 1 hl rfl dX10_solutions_30 ?_
      refine r_callVI E h (As := [.int (zI r)]) (rest := []) (k_X8_sizeOf l r h_tb h_rt hD hT (by omega)) h_tb rfl gX10_solutions_X8_sizeOf rfl hd_X8_sizeOf (by decide) ⟨by decide, by decide⟩ hl.1 rfl (Nat.le_of_ble_eq_true rfl) dX10_solutions_31 rfl (fun z_31 ws H locs hp h => ?_)
      obtain ⟨rfl, rfl⟩ := hp
      refine W.widen (k := 1) (n := 6) (by decide) (by decide) ?_
      exact vx_ret (r_iret E h ⟨by omega, rfl, rfl⟩ dX10_solutions_34)
    · skip
      exact r_throwS E hX hxt h hl9 (text := "no such rule") (cls := "java/lang/IndexOutOfBoundsException") (k9 := 0) (by decide) (List.mem_of_getElem? (i := 1) rfl) (List.mem_of_getElem? (i := 2) rfl) (by decide +kernel) xnn_X10_solutions_128 vxb_128 vxo_128 hl.1 dX10_solutions_16 dX10_solutions_19 dX10_solutions_20 dX10_solutions_22 dX10_solutions_25 ⟨by decide, by decide⟩ ⟨⟨by decide, by decide⟩, by decide, by decide⟩ ⟨rfl, by omega⟩
theorem hd_X10_colour : yX10_colour.cls = RX10 ∧ yX10_colour.cls ≠ "java/lang/invoke/MethodHandle" ∧ yX10_colour.cls ≠ "java/lang/invoke/VarHandle" ∧ (parseMethodDescriptor yX10_colour.desc).map (fun d => d.parameters.length) = some 1 := by decide +kernel
theorem fl_X10_colour_37 : Cond.fieldLink RX10 37 (TX10 6).1 (TX10 6).2.1 (TX10 6).2.2.1 ∈ wsX10_colour := List.mem_of_getElem? (i := 1) rfl
theorem inn_X10_colour_10 : ∀ w ∈ wsX100, w ∈ wsX10_colour := fun _ h => List.mem_cons_of_mem _ (List.mem_append_left _ (List.mem_append_left _ (List.mem_append_left _ (List.mem_append_right _ h))))
abbrev rm_X10_colour : Room := { frames := 7, cells := 1, slots := 6, locals := 111 }
set_option maxHeartbeats 1200000 in
set_option maxRecDepth 100000 in
theorem k_X10_colour (l : Launch) {G : va_G} {cy : Nat → ClassId} {ws0 : va_W} {qx ax ain asu ard a a2 asr arp ahi : Nat} {inl erp : Int} {qs ar9 afo : Nat} {q2 ap2 : Nat} {ce f : Int → Int} {d : Int → Int} {T : List Int} (x : Int) (h_x0 : ws0[qx]? = some (ax, .inr (10, [.ref ain, .int (zI inl), .int (zI erp), .ref asu, .ref ard, .ref a, .ref a2, .ref asr, .ref arp, .ref ahi]))) (h_su : ws0[qs]? = some (asu, .inr (6, [.int (zI (d 0)), .int (zI (d 1)), .ref ar9, .ref afo]))) (h_co : ws0[q2]? = some (a2, .inr (0, [.ref ap2, .long (fmk (d 0) f)]))) (h_cop : ws0[q2 + 1]? = some (ap2, aL cy 4 (mk (d 0) ce))) (hD : DW d T) (he : ∀ x : Int, 1 ≤ x → x ≤ d 0 → 0 ≤ ce x ∧ ce x ≤ d 1) (hx9 : -2147483648 ≤ x ∧ x ≤ 2147483647) (hl9 : l.stackTraces = false) : TIk l yX10_colour wsX10_colour rm_X10_colour G cy [.ref ax, .int (zI x)] ws0 (fun E9 => E9 = "java/lang/IndexOutOfBoundsException" ∧ ¬ (1 ≤ x ∧ x ≤ d 0)) (fun z u => (1 ≤ x ∧ x ≤ d 0) ∧ z = ce x - 1 ∧ ws0 = u) := by
  refine TIk.of (own := RX10) (cc := cX10_colour) (nL := 2) (ret := (some .int)) (by decide) rfl rfl (Nat.le_of_ble_eq_true rfl) ?_
  intro p e s m below meth c A ls hX hxt E h hl
  have hl : lv_has ls 2 [(0, .ref ax), (1, .int (zI x))] := hl
  have hn9 := hD.n
  have hk9 := hD.k
  have hnr := hD.nr
  refine r_aload_n E 0 hl rfl dX10_colour_0 ?_
  refine r_iload_n E 1 hl rfl dX10_colour_1 ?_
  refine r_callVtV E hX hxt h (As := [.int (zI x)]) (rest := []) (k_X10_requireNumber l x h_x0 h_su hD (by omega) hl9) (fun E9 h9 => h9) h_x0 rfl gX10_colour_X10_requireNumber rfl hd_X10_requireNumber (by decide) ⟨by decide, by decide⟩ ⟨by decide, by decide⟩ hl.1 rfl (Nat.le_of_ble_eq_true rfl) dX10_colour_2 rfl (fun ws H locs hp h => ?_)
  obtain ⟨hv_z_2, rfl⟩ := hp
  have he9 := he x hv_z_2.1 hv_z_2.2
  refine r_aload_n E 0 hl rfl dX10_colour_5 ?_
  refine r_get (v := .ref a2) E h h_x0 rfl inn_X10_colour_10 6 (by decide) fl_X10_colour_37 rfl dX10_colour_6 ?_
  refine r_iload_n E 1 hl rfl dX10_colour_9 ?_
  refine r_callVI E h (As := [.int (zI x)]) (rest := []) (k_X0_colourOf l x h_co h_cop (by omega) (by omega) (by omega)) h_co rfl gX10_colour_X0_colourOf rfl hd_X0_colourOf (by decide) ⟨by decide, by decide⟩ hl.1 rfl (Nat.le_of_ble_eq_true rfl) dX10_colour_10 rfl (fun z_10 ws H locs hp h => ?_)
  obtain ⟨rfl, rfl⟩ := hp
  refine W.widen (k := 1) (n := 6) (by decide) (by decide) ?_
  exact vx_ret (r_iret E h ⟨by omega, rfl, rfl⟩ dX10_colour_13)
theorem hd_X10_isFixed : yX10_isFixed.cls = RX10 ∧ yX10_isFixed.cls ≠ "java/lang/invoke/MethodHandle" ∧ yX10_isFixed.cls ≠ "java/lang/invoke/VarHandle" ∧ (parseMethodDescriptor yX10_isFixed.desc).map (fun d => d.parameters.length) = some 1 := by decide +kernel
theorem fl_X10_isFixed_37 : Cond.fieldLink RX10 37 (TX10 6).1 (TX10 6).2.1 (TX10 6).2.2.1 ∈ wsX10_isFixed := List.mem_of_getElem? (i := 1) rfl
theorem inn_X10_isFixed_10 : ∀ w ∈ wsX100, w ∈ wsX10_isFixed := fun _ h => List.mem_cons_of_mem _ (List.mem_append_left _ (List.mem_append_left _ (List.mem_append_left _ (List.mem_append_right _ h))))
abbrev rm_X10_isFixed : Room := { frames := 7, cells := 1, slots := 6, locals := 111 }
set_option maxHeartbeats 1200000 in
set_option maxRecDepth 100000 in
theorem k_X10_isFixed (l : Launch) {G : va_G} {cy : Nat → ClassId} {ws0 : va_W} {qx ax ain asu ard a a2 asr arp ahi : Nat} {inl erp : Int} {qs ar9 afo : Nat} {q2 ap2 : Nat} {ce f : Int → Int} {d : Int → Int} {T : List Int} (x : Int) (h_x0 : ws0[qx]? = some (ax, .inr (10, [.ref ain, .int (zI inl), .int (zI erp), .ref asu, .ref ard, .ref a, .ref a2, .ref asr, .ref arp, .ref ahi]))) (h_su : ws0[qs]? = some (asu, .inr (6, [.int (zI (d 0)), .int (zI (d 1)), .ref ar9, .ref afo]))) (h_co : ws0[q2]? = some (a2, .inr (0, [.ref ap2, .long (fmk (d 0) f)]))) (h_cop : ws0[q2 + 1]? = some (ap2, aL cy 4 (mk (d 0) ce))) (hD : DW d T) (hx9 : -2147483648 ≤ x ∧ x ≤ 2147483647) (hl9 : l.stackTraces = false) : TIk l yX10_isFixed wsX10_isFixed rm_X10_isFixed G cy [.ref ax, .int (zI x)] ws0 (fun E9 => E9 = "java/lang/IndexOutOfBoundsException" ∧ ¬ (1 ≤ x ∧ x ≤ d 0)) (fun z u => (1 ≤ x ∧ x ≤ d 0) ∧ (z = 1 ∧ f x = 1 ∨ z = 0 ∧ f x ≠ 1) ∧ ws0 = u) := by
  refine TIk.of (own := RX10) (cc := cX10_isFixed) (nL := 2) (ret := (some .boolean)) (by decide) rfl rfl (Nat.le_of_ble_eq_true rfl) ?_
  intro p e s m below meth c A ls hX hxt E h hl
  have hl : lv_has ls 2 [(0, .ref ax), (1, .int (zI x))] := hl
  have hn9 := hD.n
  have hk9 := hD.k
  have hnr := hD.nr
  refine r_aload_n E 0 hl rfl dX10_isFixed_0 ?_
  refine r_iload_n E 1 hl rfl dX10_isFixed_1 ?_
  refine r_callVtV E hX hxt h (As := [.int (zI x)]) (rest := []) (k_X10_requireNumber l x h_x0 h_su hD (by omega) hl9) (fun E9 h9 => h9) h_x0 rfl gX10_isFixed_X10_requireNumber rfl hd_X10_requireNumber (by decide) ⟨by decide, by decide⟩ ⟨by decide, by decide⟩ hl.1 rfl (Nat.le_of_ble_eq_true rfl) dX10_isFixed_2 rfl (fun ws H locs hp h => ?_)
  obtain ⟨hv_z_2, rfl⟩ := hp
  refine r_aload_n E 0 hl rfl dX10_isFixed_5 ?_
  refine r_get (v := .ref a2) E h h_x0 rfl inn_X10_isFixed_10 6 (by decide) fl_X10_isFixed_37 rfl dX10_isFixed_6 ?_
  refine r_iload_n E 1 hl rfl dX10_isFixed_9 ?_
  refine r_callVI E h (As := [.int (zI x)]) (rest := []) (k_X0_hasFixed l x h_co h_cop (by omega) (by omega)) h_co rfl gX10_isFixed_X0_hasFixed rfl hd_X0_hasFixed (by decide) ⟨by decide, by decide⟩ hl.1 rfl (Nat.le_of_ble_eq_true rfl) dX10_isFixed_10 rfl (fun z_10 ws H locs hp h => ?_)
  obtain ⟨e_z_10, rfl⟩ := hp
  refine W.widen (k := 1) (n := 6) (by decide) (by decide) ?_
  exact vx_ret (r_zret E h (by omega) ⟨by omega, e_z_10, rfl⟩ dX10_isFixed_13)
