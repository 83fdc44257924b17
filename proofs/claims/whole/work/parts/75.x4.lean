theorem hd_X10_canExtend : yX10_canExtend.cls = RX10 ∧ yX10_canExtend.cls ≠ "java/lang/invoke/MethodHandle" ∧ yX10_canExtend.cls ≠ "java/lang/invoke/VarHandle" ∧ (parseMethodDescriptor yX10_canExtend.desc).map (fun d => d.parameters.length) = some 2 := by decide +kernel
theorem fl_X10_canExtend_44 : Cond.fieldLink RX10 44 (TX10 7).1 (TX10 7).2.1 (TX10 7).2.2.1 ∈ wsX10_canExtend := List.mem_of_getElem? (i := 1) rfl
theorem inn_X10_canExtend_10 : ∀ w ∈ wsX100, w ∈ wsX10_canExtend := fun _ h => List.mem_cons_of_mem _ (List.mem_append_left _ (List.mem_append_left _ (List.mem_append_left _ (List.mem_append_left _ (List.mem_append_left _ (List.mem_append_left _ (List.mem_append_right _ h)))))))
theorem fl_X10_canExtend_30 : Cond.fieldLink RX10 30 (TX10 5).1 (TX10 5).2.1 (TX10 5).2.2.1 ∈ wsX10_canExtend := List.mem_of_getElem? (i := 2) rfl
theorem fl_X10_canExtend_37 : Cond.fieldLink RX10 37 (TX10 6).1 (TX10 6).2.1 (TX10 6).2.2.1 ∈ wsX10_canExtend := List.mem_of_getElem? (i := 3) rfl
theorem fl_X10_canExtend_74 : Cond.fieldLink RX10 74 (TX10 3).1 (TX10 3).2.1 (TX10 3).2.2.1 ∈ wsX10_canExtend := List.mem_of_getElem? (i := 4) rfl
theorem fl_X10_canExtend_121 : Cond.fieldLink RX10 121 (TX6 1).1 (TX6 1).2.1 (TX6 1).2.2.1 ∈ wsX10_canExtend := List.mem_of_getElem? (i := 5) rfl
theorem inn_X10_canExtend_6 : ∀ w ∈ wsX60, w ∈ wsX10_canExtend := fun _ h => List.mem_cons_of_mem _ (List.mem_append_left _ (List.mem_append_left _ (List.mem_append_left _ (List.mem_append_left _ (List.mem_append_left _ (List.mem_append_right _ h))))))
abbrev rm_X10_canExtend : Room := { frames := 7, cells := 2, slots := 12, locals := 122 }
set_option maxHeartbeats 1200000 in
set_option maxRecDepth 100000 in
theorem k_X10_canExtend (l : Launch) {G : va_G} {cy : Nat → ClassId} {ws0 : va_W} {qx ax ain asu ard a a2 asr arp ahi : Nat} {inl erp : Int} {q ase awr art awt are ars : Nat} {se re : Int → Int64} {wr rt wt rs : Int → Int} {sz riw : Int} {qs ar9 afo : Nat} {q2 ap2 : Nat} {d : Int → Int} {T : List Int} {q5 asc ascp asb asbp aop atr : Nat} {op tr : Int → Int} {tot dee : Int} {F0 : Int64} {P0 : Int → Int64} (x y : Int) (h_x0 : ws0[qx]? = some (ax, .inr (10, [.ref ain, .int (zI inl), .int (zI erp), .ref asu, .ref ard, .ref a, .ref a2, .ref asr, .ref arp, .ref ahi]))) (h_su : ws0[qs]? = some (asu, .inr (6, [.int (zI (d 0)), .int (zI (d 1)), .ref ar9, .ref afo]))) (h_co : ws0[q2]? = some (a2, .inr (0, [.ref ap2, .long (fmk (d 0) (fx d))]))) (h_cop : ws0[q2 + 1]? = some (ap2, aL cy 4 (mk (d 0) (cl d)))) (h_tb : ws0[q]? = some (a, .inr (8, [.ref ase, .ref awr, .int (zI sz), .ref art, .int (zI riw), .ref awt, .ref are, .ref ars]))) (h_re : ws0[q + 5]? = some (are, aL cy 19200 re)) (h_rs : ws0[q + 6]? = some (ars, aI cy 42 rs)) (h_sr : ws0[q5]? = some (asr, .inr (5, [.ref asc, .ref asb, .ref aop, .ref atr, .int (zI tot), .int (zI dee)]))) (h_sc : ws0[q5 + 1]? = some (asc, .inr (0, [.ref ascp, .long F0]))) (h_scp : ws0[q5 + 2]? = some (ascp, aL cy 4 P0)) (h_sb : ws0[q5 + 3]? = some (asb, .inr (0, [.ref asbp, .long (fmk 0 (fun _ => 0))]))) (h_sbp : ws0[q5 + 4]? = some (asbp, aL cy 4 (mk 0 (fun _ => 0)))) (h_op : ws0[q5 + 5]? = some (aop, aI cy 40 op)) (h_tr : ws0[q5 + 6]? = some (atr, aI cy 40 tr)) (hD : DW d T) (hT : TW d T se wr rt wt re rs sz) (hlay : q = qx + 9 ∧ q2 = qx + 16 ∧ q5 = qx + 18) (hqs : qs < qx ∨ qx + 46 ≤ qs) (hx9 : -2147483648 ≤ x ∧ x ≤ 2147483647) (hy9 : -2147483648 ≤ y ∧ y ≤ 2147483647) (hl9 : l.stackTraces = false) : TIk l yX10_canExtend wsX10_canExtend rm_X10_canExtend G cy [.ref ax, .int (zI x), .int (zI y)] ws0 (fun E9 => E9 = "java/lang/IndexOutOfBoundsException" ∧ ¬ (1 ≤ x ∧ x ≤ d 0) ∨ E9 = "java/lang/IllegalArgumentException" ∧ (1 ≤ x ∧ x ≤ d 0) ∧ ¬ (1 ≤ y ∧ y ≤ 3000)) (fun z u => (1 ≤ x ∧ x ≤ d 0) ∧ (1 ≤ y ∧ y ≤ 3000) ∧ z = (sr d (opL (cl d) x.toNat) y 0 0 0 0 d).1 ∧ (∃ (op2 tr2 : Int → Int) (P2 : Int → Int64) (F2 : Int64) (t2 d2 : Int), u[q5]? = some (asr, .inr (5, [.ref asc, .ref asb, .ref aop, .ref atr, .int (zI t2), .int (zI d2)])) ∧ u[q5 + 1]? = some (asc, .inr (0, [.ref ascp, .long F2])) ∧ u[q5 + 2]? = some (ascp, aL cy 4 P2) ∧ u[q5 + 5]? = some (aop, aI cy 40 op2) ∧ u[q5 + 6]? = some (atr, aI cy 40 tr2)) ∧ Eqx ws0 u (fun j => j = q5 ∨ j = q5 + 1 ∨ j = q5 + 2 ∨ j = q5 + 5 ∨ j = q5 + 6)) := by
  refine TIk.of (own := RX10) (cc := cX10_canExtend) (nL := 3) (ret := (some .int)) (by decide) rfl rfl (Nat.le_of_ble_eq_true rfl) ?_
  intro p e s m below meth c A ls hX hxt E h hl
  have hl : lv_has ls 3 [(0, .ref ax), (1, .int (zI x)), (2, .int (zI y))] := hl
  have hE : Eqx ws0 ws0 (fun j => j = q5 ∨ j = q5 + 1 ∨ j = q5 + 2 ∨ j = q5 + 5 ∨ j = q5 + 6) := Eqx.rf
  have hn9 := hD.n
  have hk9 := hD.k
  have he9 : ∀ x : Int, 1 ≤ x → x ≤ d 0 → 0 ≤ cl d x ∧ cl d x ≤ d 1 := fun x a b => hD.col a (by omega)
  refine r_aload_n E 0 hl rfl dX10_canExtend_0 ?_
  refine r_iload_n E 1 hl rfl dX10_canExtend_1 ?_
  refine r_callVtV E hX hxt h (As := [.int (zI x)]) (rest := []) (k_X10_requireNumber l x h_x0 h_su hD (by omega) hl9) (fun E9 h9 => Or.inl h9) h_x0 rfl gX10_canExtend_X10_requireNumber rfl hd_X10_requireNumber (by decide) ⟨by decide, by decide⟩ ⟨by decide, by decide⟩ hl.1 rfl (Nat.le_of_ble_eq_true rfl) dX10_canExtend_2 rfl (fun ws H locs hp h => ?_)
  obtain ⟨hv_z_2, rfl⟩ := hp
  refine r_aload_n E 0 hl rfl dX10_canExtend_5 ?_
  refine r_iload_n E 2 hl rfl dX10_canExtend_6 ?_
  refine r_callVtV E hX hxt h (As := [.int (zI y)]) (rest := []) (k_X10_requireTrials (ax := ax) l y (by omega) hl9) (fun E9 h9 => Or.inr ⟨h9.1, by omega, h9.2⟩) h_x0 rfl gX10_canExtend_X10_requireTrials rfl hd_X10_requireTrials (by decide) ⟨by decide, by decide⟩ ⟨by decide, by decide⟩ hl.1 rfl (Nat.le_of_ble_eq_true rfl) dX10_canExtend_7 rfl (fun ws H locs hp h => ?_)
  obtain ⟨hv_z_7, rfl⟩ := hp
  refine r_aload_n E 0 hl rfl dX10_canExtend_10 ?_
  refine r_get (v := .ref asr) E h h_x0 rfl inn_X10_canExtend_10 7 (by decide) fl_X10_canExtend_44 rfl dX10_canExtend_11 ?_
  refine r_aload_n E 0 hl rfl dX10_canExtend_14 ?_
  refine r_get (v := .ref a) E h h_x0 rfl inn_X10_canExtend_10 5 (by decide) fl_X10_canExtend_30 rfl dX10_canExtend_15 ?_
  refine r_aload_n E 0 hl rfl dX10_canExtend_18 ?_
  refine r_get (v := .ref a2) E h h_x0 rfl inn_X10_canExtend_10 6 (by decide) fl_X10_canExtend_37 rfl dX10_canExtend_19 ?_
  refine r_iload_n E 1 hl rfl dX10_canExtend_22 ?_
  refine r_aload_n E 0 hl rfl dX10_canExtend_23 ?_
  refine r_get (v := .ref asu) E h h_x0 rfl inn_X10_canExtend_10 3 (by decide) fl_X10_canExtend_74 rfl dX10_canExtend_24 ?_
  refine r_get (v := .int (zI (d 1))) E h h_su rfl inn_X10_canExtend_6 1 (by decide) fl_X10_canExtend_121 rfl dX10_canExtend_27 ?_
  refine r_iload_n E 2 hl rfl dX10_canExtend_30 ?_
  refine r_callVI E h (As := [.ref a, .ref a2, .int (zI x), .int (zI (d 1)), .int (zI y)]) (rest := []) (k_X5_run l x (d 1) y h_sr h_sc h_scp h_op h_tr h_tb h_re h_rs h_co h_cop (by omega) (by omega) hD hT hD rfl rfl (by omega) rfl (by omega)) h_sr rfl gX10_canExtend_X5_run rfl hd_X5_run (by decide) ⟨by decide, by decide⟩ hl.1 rfl (Nat.le_of_ble_eq_true rfl) dX10_canExtend_31 rfl (fun z_31 ws H locs hp h => ?_)
  obtain ⟨e_31, op_31, tr_31, h_sr, h_sc, h_scp, h_op, h_tr, hf⟩ := hp
  have h_x0 := hf.at h_x0 (by first | omega | (dsimp only <;> omega))
  have h_su := hf.at h_su (by first | omega | (dsimp only <;> omega))
  have h_co := hf.at h_co (by first | omega | (dsimp only <;> omega))
  have h_cop := hf.at h_cop (by first | omega | (dsimp only <;> omega))
  have h_tb := hf.at h_tb (by first | omega | (dsimp only <;> omega))
  have h_re := hf.at h_re (by first | omega | (dsimp only <;> omega))
  have h_rs := hf.at h_rs (by first | omega | (dsimp only <;> omega))
  have h_sb := hf.at h_sb (by first | omega | (dsimp only <;> omega))
  have h_sbp := hf.at h_sbp (by first | omega | (dsimp only <;> omega))
  have hE := hE.tr (hf.wk (fun j hj => by first | omega | (dsimp only at hj ⊢ <;> omega)))
  refine W.widen (k := 2) (n := 12) (by decide) (by decide) ?_
  exact vx_ret (r_iret E h ⟨by omega, by omega, e_31, ⟨op_31, tr_31, _, _, _, _, h_sr, h_sc, h_scp, h_op, h_tr⟩, hE⟩ dX10_canExtend_34)
theorem hd_X10_longest : yX10_longest.cls = RX10 ∧ yX10_longest.cls ≠ "java/lang/invoke/MethodHandle" ∧ yX10_longest.cls ≠ "java/lang/invoke/VarHandle" ∧ (parseMethodDescriptor yX10_longest.desc).map (fun d => d.parameters.length) = some 1 := by decide +kernel
theorem fl_X10_longest_44 : Cond.fieldLink RX10 44 (TX10 7).1 (TX10 7).2.1 (TX10 7).2.2.1 ∈ wsX10_longest := List.mem_of_getElem? (i := 1) rfl
theorem inn_X10_longest_10 : ∀ w ∈ wsX100, w ∈ wsX10_longest := fun _ h => List.mem_cons_of_mem _ (List.mem_append_left _ (List.mem_append_left _ (List.mem_append_left _ (List.mem_append_left _ (List.mem_append_left _ (List.mem_append_right _ h))))))
theorem fl_X10_longest_30 : Cond.fieldLink RX10 30 (TX10 5).1 (TX10 5).2.1 (TX10 5).2.2.1 ∈ wsX10_longest := List.mem_of_getElem? (i := 2) rfl
theorem fl_X10_longest_74 : Cond.fieldLink RX10 74 (TX10 3).1 (TX10 3).2.1 (TX10 3).2.2.1 ∈ wsX10_longest := List.mem_of_getElem? (i := 3) rfl
theorem fl_X10_longest_118 : Cond.fieldLink RX10 118 (TX6 0).1 (TX6 0).2.1 (TX6 0).2.2.1 ∈ wsX10_longest := List.mem_of_getElem? (i := 4) rfl
theorem inn_X10_longest_6 : ∀ w ∈ wsX60, w ∈ wsX10_longest := fun _ h => List.mem_cons_of_mem _ (List.mem_append_left _ (List.mem_append_left _ (List.mem_append_left _ (List.mem_append_left _ (List.mem_append_right _ h)))))
theorem fl_X10_longest_121 : Cond.fieldLink RX10 121 (TX6 1).1 (TX6 1).2.1 (TX6 1).2.2.1 ∈ wsX10_longest := List.mem_of_getElem? (i := 5) rfl
abbrev rm_X10_longest : Room := { frames := 7, cells := 1, slots := 6, locals := 146 }
set_option maxHeartbeats 1200000 in
set_option maxRecDepth 100000 in
theorem k_X10_longest (l : Launch) {G : va_G} {cy : Nat → ClassId} {ws0 : va_W} {qx ax ain asu ard a a2 asr arp ahi : Nat} {inl erp : Int} {q ase awr art awt are ars : Nat} {se re : Int → Int64} {wr rt wt rs : Int → Int} {sz riw : Int} {qs ar9 afo : Nat} {q2 ap2 : Nat} {d : Int → Int} {T : List Int} {q5 asc ascp asb asbp aop atr : Nat} {op tr : Int → Int} {tot dee : Int} {F0 : Int64} {P0 : Int → Int64} (y : Int) (h_x0 : ws0[qx]? = some (ax, .inr (10, [.ref ain, .int (zI inl), .int (zI erp), .ref asu, .ref ard, .ref a, .ref a2, .ref asr, .ref arp, .ref ahi]))) (h_su : ws0[qs]? = some (asu, .inr (6, [.int (zI (d 0)), .int (zI (d 1)), .ref ar9, .ref afo]))) (h_co : ws0[q2]? = some (a2, .inr (0, [.ref ap2, .long (fmk (d 0) (fx d))]))) (h_cop : ws0[q2 + 1]? = some (ap2, aL cy 4 (mk (d 0) (cl d)))) (h_tb : ws0[q]? = some (a, .inr (8, [.ref ase, .ref awr, .int (zI sz), .ref art, .int (zI riw), .ref awt, .ref are, .ref ars]))) (h_re : ws0[q + 5]? = some (are, aL cy 19200 re)) (h_rs : ws0[q + 6]? = some (ars, aI cy 42 rs)) (h_sr : ws0[q5]? = some (asr, .inr (5, [.ref asc, .ref asb, .ref aop, .ref atr, .int (zI tot), .int (zI dee)]))) (h_sc : ws0[q5 + 1]? = some (asc, .inr (0, [.ref ascp, .long F0]))) (h_scp : ws0[q5 + 2]? = some (ascp, aL cy 4 P0)) (h_sb : ws0[q5 + 3]? = some (asb, .inr (0, [.ref asbp, .long (fmk 0 (fun _ => 0))]))) (h_sbp : ws0[q5 + 4]? = some (asbp, aL cy 4 (mk 0 (fun _ => 0)))) (h_op : ws0[q5 + 5]? = some (aop, aI cy 40 op)) (h_tr : ws0[q5 + 6]? = some (atr, aI cy 40 tr)) (hD : DW d T) (hT : TW d T se wr rt wt re rs sz) (hlay : q = qx + 9 ∧ q2 = qx + 16 ∧ q5 = qx + 18) (hqs : qs < qx ∨ qx + 46 ≤ qs) (hy9 : -2147483648 ≤ y ∧ y ≤ 2147483647) (hl9 : l.stackTraces = false) : TIk l yX10_longest wsX10_longest rm_X10_longest G cy [.ref ax, .int (zI y)] ws0 (fun E9 => E9 = "java/lang/IllegalArgumentException" ∧ ¬ (1 ≤ y ∧ y ≤ 3000)) (fun z u => (1 ≤ y ∧ y ≤ 3000) ∧ z = ((sr d (opL (cl (blk d)) (d 0).toNat) y 0 0 0 0 (blk d)).2.1 : Int) ∧ (∃ (op2 tr2 : Int → Int) (P2 : Int → Int64) (F2 : Int64) (t2 d2 : Int), u[q5]? = some (asr, .inr (5, [.ref asc, .ref asb, .ref aop, .ref atr, .int (zI t2), .int (zI d2)])) ∧ u[q5 + 1]? = some (asc, .inr (0, [.ref ascp, .long F2])) ∧ u[q5 + 2]? = some (ascp, aL cy 4 P2) ∧ u[q5 + 5]? = some (aop, aI cy 40 op2) ∧ u[q5 + 6]? = some (atr, aI cy 40 tr2)) ∧ Eqx ws0 u (fun j => j = q5 ∨ j = q5 + 1 ∨ j = q5 + 2 ∨ j = q5 + 5 ∨ j = q5 + 6)) := by
  refine TIk.of (own := RX10) (cc := cX10_longest) (nL := 2) (ret := (some .int)) (by decide) rfl rfl (Nat.le_of_ble_eq_true rfl) ?_
  intro p e s m below meth c A ls hX hxt E h hl
  have hl : lv_has ls 2 [(0, .ref ax), (1, .int (zI y))] := hl
  have hE : Eqx ws0 ws0 (fun j => j = q5 ∨ j = q5 + 1 ∨ j = q5 + 2 ∨ j = q5 + 5 ∨ j = q5 + 6) := Eqx.rf
  have hn9 := hD.n
  have hk9 := hD.k
  have he9 : ∀ x : Int, 1 ≤ x → x ≤ d 0 → 0 ≤ cl d x ∧ cl d x ≤ d 1 := fun x a b => hD.col a (by omega)
  refine r_aload_n E 0 hl rfl dX10_longest_0 ?_
  refine r_iload_n E 1 hl rfl dX10_longest_1 ?_
  refine r_callVtV E hX hxt h (As := [.int (zI y)]) (rest := []) (k_X10_requireTrials (ax := ax) l y (by omega) hl9) (fun E9 h9 => h9) h_x0 rfl gX10_longest_X10_requireTrials rfl hd_X10_requireTrials (by decide) ⟨by decide, by decide⟩ ⟨by decide, by decide⟩ hl.1 rfl (Nat.le_of_ble_eq_true rfl) dX10_longest_2 rfl (fun ws H locs hp h => ?_)
  obtain ⟨hv_z_2, rfl⟩ := hp
  refine r_aload_n E 0 hl rfl dX10_longest_5 ?_
  refine r_get (v := .ref asr) E h h_x0 rfl inn_X10_longest_10 7 (by decide) fl_X10_longest_44 rfl dX10_longest_6 ?_
  refine r_aload_n E 0 hl rfl dX10_longest_9 ?_
  refine r_get (v := .ref a) E h h_x0 rfl inn_X10_longest_10 5 (by decide) fl_X10_longest_30 rfl dX10_longest_10 ?_
  refine r_aload_n E 0 hl rfl dX10_longest_13 ?_
  refine r_get (v := .ref asu) E h h_x0 rfl inn_X10_longest_10 3 (by decide) fl_X10_longest_74 rfl dX10_longest_14 ?_
  refine r_get (v := .int (zI (d 0))) E h h_su rfl inn_X10_longest_6 0 (by decide) fl_X10_longest_118 rfl dX10_longest_17 ?_
  refine r_aload_n E 0 hl rfl dX10_longest_20 ?_
  refine r_get (v := .ref asu) E h h_x0 rfl inn_X10_longest_10 3 (by decide) fl_X10_longest_74 rfl dX10_longest_21 ?_
  refine r_get (v := .int (zI (d 1))) E h h_su rfl inn_X10_longest_6 1 (by decide) fl_X10_longest_121 rfl dX10_longest_24 ?_
  refine r_iload_n E 1 hl rfl dX10_longest_27 ?_
  refine r_callVI E h (As := [.ref a, .int (zI (d 0)), .int (zI (d 1)), .int (zI y)]) (rest := []) (k_X5_reach l (d 1) y h_sr h_sc h_scp h_sb h_sbp h_op h_tr h_tb h_re h_rs (by omega) hD hT rfl (by omega)) h_sr rfl gX10_longest_X5_reach rfl hd_X5_reach (by decide) ⟨by decide, by decide⟩ hl.1 rfl (Nat.le_of_ble_eq_true rfl) dX10_longest_28 rfl (fun z_28 ws H locs hp h => ?_)
  obtain ⟨e_28, op_28, tr_28, P_28, F_28, t_28, d_28, h_sr, h_sc, h_scp, h_op, h_tr, hf⟩ := hp
  have h_x0 := hf.at h_x0 (by first | omega | (dsimp only <;> omega))
  have h_su := hf.at h_su (by first | omega | (dsimp only <;> omega))
  have h_co := hf.at h_co (by first | omega | (dsimp only <;> omega))
  have h_cop := hf.at h_cop (by first | omega | (dsimp only <;> omega))
  have h_tb := hf.at h_tb (by first | omega | (dsimp only <;> omega))
  have h_re := hf.at h_re (by first | omega | (dsimp only <;> omega))
  have h_rs := hf.at h_rs (by first | omega | (dsimp only <;> omega))
  have h_sb := hf.at h_sb (by first | omega | (dsimp only <;> omega))
  have h_sbp := hf.at h_sbp (by first | omega | (dsimp only <;> omega))
  have hE := hE.tr (hf.wk (fun j hj => by first | omega | (dsimp only at hj ⊢ <;> omega)))
  refine W.widen (k := 1) (n := 6) (by decide) (by decide) ?_
  exact vx_ret (r_iret E h ⟨by omega, e_28, ⟨op_28, tr_28, _, _, _, _, h_sr, h_sc, h_scp, h_op, h_tr⟩, hE⟩ dX10_longest_31)
theorem hd_X10_bestGain : yX10_bestGain.cls = RX10 ∧ yX10_bestGain.cls ≠ "java/lang/invoke/MethodHandle" ∧ yX10_bestGain.cls ≠ "java/lang/invoke/VarHandle" ∧ (parseMethodDescriptor yX10_bestGain.desc).map (fun d => d.parameters.length) = some 0 := by decide +kernel
theorem fl_X10_bestGain_51 : Cond.fieldLink RX10 51 (TX10 8).1 (TX10 8).2.1 (TX10 8).2.2.1 ∈ wsX10_bestGain := List.mem_of_getElem? (i := 1) rfl
theorem inn_X10_bestGain_10 : ∀ w ∈ wsX100, w ∈ wsX10_bestGain := fun _ h => List.mem_cons_of_mem _ (List.mem_append_left _ (List.mem_append_left _ (List.mem_append_left _ (List.mem_append_left _ (List.mem_append_right _ h)))))
theorem fl_X10_bestGain_74 : Cond.fieldLink RX10 74 (TX10 3).1 (TX10 3).2.1 (TX10 3).2.2.1 ∈ wsX10_bestGain := List.mem_of_getElem? (i := 2) rfl
theorem fl_X10_bestGain_30 : Cond.fieldLink RX10 30 (TX10 5).1 (TX10 5).2.1 (TX10 5).2.2.1 ∈ wsX10_bestGain := List.mem_of_getElem? (i := 3) rfl
theorem fl_X10_bestGain_37 : Cond.fieldLink RX10 37 (TX10 6).1 (TX10 6).2.1 (TX10 6).2.2.1 ∈ wsX10_bestGain := List.mem_of_getElem? (i := 4) rfl
theorem fl_X10_bestGain_216 : Cond.fieldLink RX10 216 (TX3 0).1 (TX3 0).2.1 (TX3 0).2.2.1 ∈ wsX10_bestGain := List.mem_of_getElem? (i := 5) rfl
theorem inn_X10_bestGain_3 : ∀ w ∈ wsX30, w ∈ wsX10_bestGain := fun _ h => List.mem_cons_of_mem _ (List.mem_append_left _ (List.mem_append_left _ (List.mem_append_left _ (List.mem_append_right _ h))))
abbrev rm_X10_bestGain : Room := { frames := 5, cells := 0, slots := 0, locals := 126 }
set_option maxHeartbeats 1200000 in
set_option maxRecDepth 100000 in
theorem k_X10_bestGain (l : Launch) {G : va_G} {cy : Nat → ClassId} {ws0 : va_W} {qx ax ain asu ard a a2 asr arp ahi : Nat} {inl erp : Int} {q ase awr art awt are ars : Nat} {se re : Int → Int64} {wr rt wt rs : Int → Int} {sz riw : Int} {qs ar9 afo : Nat} {q2 ap2 : Nat} {d : Int → Int} {T : List Int} {q6 ach : Nat} {gn nu co9 : Int} {ch : Int → Int} (h_x0 : ws0[qx]? = some (ax, .inr (10, [.ref ain, .int (zI inl), .int (zI erp), .ref asu, .ref ard, .ref a, .ref a2, .ref asr, .ref arp, .ref ahi]))) (h_su : ws0[qs]? = some (asu, .inr (6, [.int (zI (d 0)), .int (zI (d 1)), .ref ar9, .ref afo]))) (h_co : ws0[q2]? = some (a2, .inr (0, [.ref ap2, .long (fmk (d 0) (fx d))]))) (h_cop : ws0[q2 + 1]? = some (ap2, aL cy 4 (mk (d 0) (cl d)))) (h_tb : ws0[q]? = some (a, .inr (8, [.ref ase, .ref awr, .int (zI sz), .ref art, .int (zI riw), .ref awt, .ref are, .ref ars]))) (h_se : ws0[q + 1]? = some (ase, aL cy 6400 se)) (h_wr : ws0[q + 2]? = some (awr, aI cy 6400 wr)) (h_wt : ws0[q + 4]? = some (awt, aI cy 656 wt)) (h_rp : ws0[q6]? = some (arp, .inr (3, [.int (zI gn), .int (zI nu), .int (zI co9), .ref ach]))) (h_ch : ws0[q6 + 1]? = some (ach, aI cy 164 ch)) (hD : DW d T) (hT : TW d T se wr rt wt re rs sz) (hlay : q = qx + 9 ∧ q2 = qx + 16 ∧ q6 = qx + 25) (hqs : qs < qx ∨ qx + 46 ≤ qs) : MIk l yX10_bestGain wsX10_bestGain rm_X10_bestGain G cy [.ref ax] ws0 (fun z u => z = (bst d T d).1 ∧ (∃ (nu2 co2 : Int) (ch2 : Int → Int), u[q6]? = some (arp, .inr (3, [.int (zI (bst d T d).1), .int (zI nu2), .int (zI co2), .ref ach])) ∧ u[q6 + 1]? = some (ach, aI cy 164 ch2)) ∧ Eqx ws0 u (fun j => j = q6 ∨ j = q6 + 1)) := by
  refine MIk.of (own := RX10) (cc := cX10_bestGain) (nL := 1) (ret := (some .int)) (by decide) rfl rfl (Nat.le_of_ble_eq_true rfl) ?_
  intro p e s m below meth c A ls hX E h hl
  have hl : lv_has ls 1 [(0, .ref ax)] := hl
  have hE : Eqx ws0 ws0 (fun j => j = q6 ∨ j = q6 + 1) := Eqx.rf
  have hn9 := hD.n
  have hk9 := hD.k
  have he9 : ∀ x : Int, 1 ≤ x → x ≤ d 0 → 0 ≤ cl d x ∧ cl d x ≤ d 1 := fun x a b => hD.col a (by omega)
  refine r_aload_n E 0 hl rfl dX10_bestGain_0 ?_
  refine r_get (v := .ref arp) E h h_x0 rfl inn_X10_bestGain_10 8 (by decide) fl_X10_bestGain_51 rfl dX10_bestGain_1 ?_
  refine r_aload_n E 0 hl rfl dX10_bestGain_4 ?_
  refine r_get (v := .ref asu) E h h_x0 rfl inn_X10_bestGain_10 3 (by decide) fl_X10_bestGain_74 rfl dX10_bestGain_5 ?_
  refine r_aload_n E 0 hl rfl dX10_bestGain_8 ?_
  refine r_get (v := .ref a) E h h_x0 rfl inn_X10_bestGain_10 5 (by decide) fl_X10_bestGain_30 rfl dX10_bestGain_9 ?_
  refine r_aload_n E 0 hl rfl dX10_bestGain_12 ?_
  refine r_get (v := .ref a2) E h h_x0 rfl inn_X10_bestGain_10 6 (by decide) fl_X10_bestGain_37 rfl dX10_bestGain_13 ?_
  refine r_callVV E h (As := [.ref asu, .ref a, .ref a2]) (rest := []) (k_X3_find l h_rp h_ch h_su h_tb h_se h_wr h_wt h_co h_cop (by omega) (by omega) (by omega) hD hT hD rfl rfl) h_rp rfl gX10_bestGain_X3_find rfl hd_X3_find (by decide) ⟨by decide, by decide⟩ hl.1 rfl (Nat.le_of_ble_eq_true rfl) dX10_bestGain_16 rfl (fun ws H locs hp h => ?_)
  obtain ⟨nu_16, co_16, ch_16, h_rp, h_ch, e_16, hf⟩ := hp
  have h_x0 := hf.at h_x0 (by first | omega | (dsimp only <;> omega))
  have h_su := hf.at h_su (by first | omega | (dsimp only <;> omega))
  have h_co := hf.at h_co (by first | omega | (dsimp only <;> omega))
  have h_cop := hf.at h_cop (by first | omega | (dsimp only <;> omega))
  have h_tb := hf.at h_tb (by first | omega | (dsimp only <;> omega))
  have h_se := hf.at h_se (by first | omega | (dsimp only <;> omega))
  have h_wr := hf.at h_wr (by first | omega | (dsimp only <;> omega))
  have h_wt := hf.at h_wt (by first | omega | (dsimp only <;> omega))
  have hE := hE.tr (hf.wk (fun j hj => by first | omega | (dsimp only at hj ⊢ <;> omega)))
  refine r_aload_n E 0 hl rfl dX10_bestGain_19 ?_
  refine r_get (v := .ref arp) E h h_x0 rfl inn_X10_bestGain_10 8 (by decide) fl_X10_bestGain_51 rfl dX10_bestGain_20 ?_
  refine r_get (v := .int (zI ((bst d T d).1))) E h h_rp rfl inn_X10_bestGain_3 0 (by decide) fl_X10_bestGain_216 rfl dX10_bestGain_23 ?_
  exact r_iret E h ⟨rfl, ⟨_, _, _, h_rp, h_ch⟩, hE⟩ dX10_bestGain_26
