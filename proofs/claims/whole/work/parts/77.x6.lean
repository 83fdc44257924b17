theorem hd_X10_extend : yX10_extend.cls = RX10 ∧ yX10_extend.cls ≠ "java/lang/invoke/MethodHandle" ∧ yX10_extend.cls ≠ "java/lang/invoke/VarHandle" ∧ (parseMethodDescriptor yX10_extend.desc).map (fun d => d.parameters.length) = some 2 := by decide +kernel
theorem fl_X10_extend_44 : Cond.fieldLink RX10 44 (TX10 7).1 (TX10 7).2.1 (TX10 7).2.2.1 ∈ wsX10_extend := List.mem_of_getElem? (i := 1) rfl
theorem inn_X10_extend_10 : ∀ w ∈ wsX100, w ∈ wsX10_extend := fun _ h => List.mem_cons_of_mem _ (List.mem_append_left _ (List.mem_append_left _ (List.mem_append_left _ (List.mem_append_left _ (List.mem_append_left _ (List.mem_append_left _ (List.mem_append_left _ (List.mem_append_right _ h))))))))
theorem fl_X10_extend_30 : Cond.fieldLink RX10 30 (TX10 5).1 (TX10 5).2.1 (TX10 5).2.2.1 ∈ wsX10_extend := List.mem_of_getElem? (i := 2) rfl
theorem fl_X10_extend_37 : Cond.fieldLink RX10 37 (TX10 6).1 (TX10 6).2.1 (TX10 6).2.2.1 ∈ wsX10_extend := List.mem_of_getElem? (i := 3) rfl
theorem fl_X10_extend_74 : Cond.fieldLink RX10 74 (TX10 3).1 (TX10 3).2.1 (TX10 3).2.2.1 ∈ wsX10_extend := List.mem_of_getElem? (i := 4) rfl
theorem fl_X10_extend_121 : Cond.fieldLink RX10 121 (TX6 1).1 (TX6 1).2.1 (TX6 1).2.2.1 ∈ wsX10_extend := List.mem_of_getElem? (i := 5) rfl
theorem inn_X10_extend_6 : ∀ w ∈ wsX60, w ∈ wsX10_extend := fun _ h => List.mem_cons_of_mem _ (List.mem_append_left _ (List.mem_append_left _ (List.mem_append_left _ (List.mem_append_left _ (List.mem_append_left _ (List.mem_append_left _ (List.mem_append_right _ h)))))))
theorem fl_X10_extend_58 : Cond.fieldLink RX10 58 (TX10 9).1 (TX10 9).2.1 (TX10 9).2.2.1 ∈ wsX10_extend := List.mem_of_getElem? (i := 6) rfl
theorem fl_X10_extend_240 : Cond.fieldLink RX10 240 (TX5 0).1 (TX5 0).2.1 (TX5 0).2.2.1 ∈ wsX10_extend := List.mem_of_getElem? (i := 7) rfl
theorem inn_X10_extend_5 : ∀ w ∈ wsX50, w ∈ wsX10_extend := fun _ h => List.mem_cons_of_mem _ (List.mem_append_left _ (List.mem_append_left _ (List.mem_append_left _ (List.mem_append_left _ (List.mem_append_left _ (List.mem_append_right _ h))))))
abbrev rm_X10_extend : Room := { frames := 7, cells := 2, slots := 12, locals := 122 }
set_option maxHeartbeats 1200000 in
set_option maxRecDepth 100000 in
theorem k_X10_extend (l : Launch) {G : va_G} {cy : Nat → ClassId} {ws0 : va_W} {qx ax ain asu ard a a2 asr arp ahi : Nat} {inl erp : Int} {q ase awr art awt are ars : Nat} {se re : Int → Int64} {wr rt wt rs : Int → Int} {sz riw : Int} {qs ar9 afo : Nat} {q2 ap2 : Nat} {d : Int → Int} {T : List Int} {q5 asc ascp asb asbp aop atr : Nat} {op tr : Int → Int} {tot dee : Int} {F0 : Int64} {P0 : Int → Int64} {q7 ahsu ahco : Nat} {nx kp : Int} {hs9 hcf : Int → Option Nat} {hac hap : Nat → Nat} {hF : Nat → Int64} {hP : Nat → Int → Int64} (x y : Int) (h_x0 : ws0[qx]? = some (ax, .inr (10, [.ref ain, .int (zI inl), .int (zI erp), .ref asu, .ref ard, .ref a, .ref a2, .ref asr, .ref arp, .ref ahi]))) (h_su : ws0[qs]? = some (asu, .inr (6, [.int (zI (d 0)), .int (zI (d 1)), .ref ar9, .ref afo]))) (h_co : ws0[q2]? = some (a2, .inr (0, [.ref ap2, .long (fmk (d 0) (fx d))]))) (h_cop : ws0[q2 + 1]? = some (ap2, aL cy 4 (mk (d 0) (cl d)))) (h_tb : ws0[q]? = some (a, .inr (8, [.ref ase, .ref awr, .int (zI sz), .ref art, .int (zI riw), .ref awt, .ref are, .ref ars]))) (h_re : ws0[q + 5]? = some (are, aL cy 19200 re)) (h_rs : ws0[q + 6]? = some (ars, aI cy 42 rs)) (h_sr : ws0[q5]? = some (asr, .inr (5, [.ref asc, .ref asb, .ref aop, .ref atr, .int (zI tot), .int (zI dee)]))) (h_sc : ws0[q5 + 1]? = some (asc, .inr (0, [.ref ascp, .long F0]))) (h_scp : ws0[q5 + 2]? = some (ascp, aL cy 4 P0)) (h_sb : ws0[q5 + 3]? = some (asb, .inr (0, [.ref asbp, .long (fmk 0 (fun _ => 0))]))) (h_sbp : ws0[q5 + 4]? = some (asbp, aL cy 4 (mk 0 (fun _ => 0)))) (h_op : ws0[q5 + 5]? = some (aop, aI cy 40 op)) (h_tr : ws0[q5 + 6]? = some (atr, aI cy 40 tr)) (h_hi : ws0[q7]? = some (ahi, .inr (2, [.ref ahsu, .ref ahco, .int (zI nx), .int (zI kp)]))) (h_hsu : ws0[q7 + 1]? = some (ahsu, aR cy 5 8 hs9)) (h_hco : ws0[q7 + 2]? = some (ahco, aR cy 3 8 hcf)) (hD : DW d T) (hT : TW d T se wr rt wt re rs sz) (hlay : q = qx + 9 ∧ q2 = qx + 16 ∧ q5 = qx + 18 ∧ q7 = qx + 27) (hqs : qs < qx ∨ qx + 46 ≤ qs) (hx9 : -2147483648 ≤ x ∧ x ≤ 2147483647) (hy9 : -2147483648 ≤ y ∧ y ≤ 2147483647) (hnx : 0 ≤ nx ∧ nx < 8) (hkp : 0 ≤ kp ∧ kp ≤ 8) (hcc : ∀ i : Nat, i < 8 → hcf (i : Int) = some (hac i)) (hFc : ∀ i : Nat, i < 8 → ws0[q7 + 3 + 2 * i]? = some (hac i, .inr (0, [.ref (hap i), .long (hF i)])) ∧ ws0[q7 + 3 + 2 * i + 1]? = some (hap i, aL cy 4 (hP i))) (hl9 : l.stackTraces = false) : TIk l yX10_extend wsX10_extend rm_X10_extend G cy [.ref ax, .int (zI x), .int (zI y)] ws0 (fun E9 => E9 = "java/lang/IndexOutOfBoundsException" ∧ ¬ (1 ≤ x ∧ x ≤ d 0) ∨ E9 = "java/lang/IllegalArgumentException" ∧ (1 ≤ x ∧ x ≤ d 0) ∧ ¬ (1 ≤ y ∧ y ≤ 3000)) (fun z u => (1 ≤ x ∧ x ≤ d 0) ∧ (1 ≤ y ∧ y ≤ 3000) ∧ z = (sr d (opL (cl d) x.toNat) y 0 0 0 0 d).1 ∧ (z < 0 ∧ Eqx ws0 u (fun j => j = q5 ∨ j = q5 + 1 ∨ j = q5 + 2 ∨ j = q5 + 5 ∨ j = q5 + 6) ∨ 0 ≤ z ∧ u[q2]? = some (a2, .inr (0, [.ref ap2, .long (fmk (d 0) (fx d))])) ∧ u[q2 + 1]? = some (ap2, aL cy 4 (mk (d 0) (cl (sr d (opL (cl d) x.toNat) y 0 0 0 0 d).2.2))) ∧ HPs u cy q7 ahi ahsu ((nx + 1) % 8) (if kp < 8 then kp + 1 else 8) (uZ hs9 nx (some asu)) hac hap (fun i => if i = nx.toNat then fmk (d 0) (fx d) else hF i) (fun i => if i = nx.toNat then mk (d 0) (cl d) else hP i) ahco) ∧ (∃ (op2 tr2 : Int → Int) (P2 : Int → Int64) (F2 : Int64) (t2 d2 : Int), u[q5]? = some (asr, .inr (5, [.ref asc, .ref asb, .ref aop, .ref atr, .int (zI t2), .int (zI d2)])) ∧ u[q5 + 1]? = some (asc, .inr (0, [.ref ascp, .long F2])) ∧ u[q5 + 2]? = some (ascp, aL cy 4 P2) ∧ u[q5 + 5]? = some (aop, aI cy 40 op2) ∧ u[q5 + 6]? = some (atr, aI cy 40 tr2)) ∧ Eqx ws0 u (fun j => j = q7 ∨ j = q7 + 1 ∨ j = q7 + 3 + 2 * nx.toNat ∨ j = q7 + 3 + 2 * nx.toNat + 1 ∨ j = q5 ∨ j = q5 + 1 ∨ j = q5 + 2 ∨ j = q5 + 5 ∨ j = q5 + 6 ∨ j = q2 ∨ j = q2 + 1)) := by
  refine TIk.of (own := RX10) (cc := cX10_extend) (nL := 4) (ret := (some .int)) (by decide) rfl rfl (Nat.le_of_ble_eq_true rfl) ?_
  intro p e s m below meth c A ls hX hxt E h hl
  have hl : lv_has ls 4 [(0, .ref ax), (1, .int (zI x)), (2, .int (zI y))] := hl
  have hE : Eqx ws0 ws0 (fun j => j = q7 ∨ j = q7 + 1 ∨ j = q7 + 3 + 2 * nx.toNat ∨ j = q7 + 3 + 2 * nx.toNat + 1 ∨ j = q5 ∨ j = q5 + 1 ∨ j = q5 + 2 ∨ j = q5 + 5 ∨ j = q5 + 6 ∨ j = q2 ∨ j = q2 + 1) := Eqx.rf
  have hn9 := hD.n
  have hk9 := hD.k
  refine r_aload_n E 0 hl rfl dX10_extend_0 ?_
  refine r_iload_n E 1 hl rfl dX10_extend_1 ?_
  refine r_callVtV E hX hxt h (As := [.int (zI x)]) (rest := []) (k_X10_requireNumber l x h_x0 h_su hD (by omega) hl9) (fun E9 h9 => Or.inl h9) h_x0 rfl gX10_extend_X10_requireNumber rfl hd_X10_requireNumber (by decide) ⟨by decide, by decide⟩ ⟨by decide, by decide⟩ hl.1 rfl (Nat.le_of_ble_eq_true rfl) dX10_extend_2 rfl (fun ws H locs hp h => ?_)
  obtain ⟨hv_z_2, rfl⟩ := hp
  refine r_aload_n E 0 hl rfl dX10_extend_5 ?_
  refine r_iload_n E 2 hl rfl dX10_extend_6 ?_
  refine r_callVtV E hX hxt h (As := [.int (zI y)]) (rest := []) (k_X10_requireTrials (ax := ax) l y (by omega) hl9) (fun E9 h9 => Or.inr ⟨h9.1, by omega, h9.2⟩) h_x0 rfl gX10_extend_X10_requireTrials rfl hd_X10_requireTrials (by decide) ⟨by decide, by decide⟩ ⟨by decide, by decide⟩ hl.1 rfl (Nat.le_of_ble_eq_true rfl) dX10_extend_7 rfl (fun ws H locs hp h => ?_)
  obtain ⟨hv_z_7, rfl⟩ := hp
  refine r_aload_n E 0 hl rfl dX10_extend_10 ?_
  refine r_get (v := .ref asr) E h h_x0 rfl inn_X10_extend_10 7 (by decide) fl_X10_extend_44 rfl dX10_extend_11 ?_
  refine r_aload_n E 0 hl rfl dX10_extend_14 ?_
  refine r_get (v := .ref a) E h h_x0 rfl inn_X10_extend_10 5 (by decide) fl_X10_extend_30 rfl dX10_extend_15 ?_
  refine r_aload_n E 0 hl rfl dX10_extend_18 ?_
  refine r_get (v := .ref a2) E h h_x0 rfl inn_X10_extend_10 6 (by decide) fl_X10_extend_37 rfl dX10_extend_19 ?_
  refine r_iload_n E 1 hl rfl dX10_extend_22 ?_
  refine r_aload_n E 0 hl rfl dX10_extend_23 ?_
  refine r_get (v := .ref asu) E h h_x0 rfl inn_X10_extend_10 3 (by decide) fl_X10_extend_74 rfl dX10_extend_24 ?_
  refine r_get (v := .int (zI (d 1))) E h h_su rfl inn_X10_extend_6 1 (by decide) fl_X10_extend_121 rfl dX10_extend_27 ?_
  refine r_iload_n E 2 hl rfl dX10_extend_30 ?_
  refine r_callVI E h (As := [.ref a, .ref a2, .int (zI x), .int (zI (d 1)), .int (zI y)]) (rest := []) (k_X5_run l x (d 1) y h_sr h_sc h_scp h_op h_tr h_tb h_re h_rs h_co h_cop (by omega) (by omega) hD hT hD rfl rfl (by omega) rfl (by omega)) h_sr rfl gX10_extend_X5_run rfl hd_X5_run (by decide) ⟨by decide, by decide⟩ hl.1 rfl (Nat.le_of_ble_eq_true rfl) dX10_extend_31 rfl (fun z_31 ws H locs hp h => ?_)
  obtain ⟨e_31, op_31, tr_31, h_sr, h_sc, h_scp, h_op, h_tr, hf⟩ := hp
  have h_x0 := hf.at h_x0 (by first | omega | (dsimp only <;> omega))
  have h_su := hf.at h_su (by first | omega | (dsimp only <;> omega))
  have h_co := hf.at h_co (by first | omega | (dsimp only <;> omega))
  have h_cop := hf.at h_cop (by first | omega | (dsimp only <;> omega))
  have h_tb := hf.at h_tb (by first | omega | (dsimp only <;> omega))
  have h_re := hf.at h_re (by first | omega | (dsimp only <;> omega))
  have h_rs := hf.at h_rs (by first | omega | (dsimp only <;> omega))
  have h_sb := hf.at h_sb (by first | omega | (dsimp only <;> omega))
  have h_sbp := hf.at h_sbp (by first | omega | (dsimp only <;> omega))
  have h_hi := hf.at h_hi (by first | omega | (dsimp only <;> omega))
  have h_hsu := hf.at h_hsu (by first | omega | (dsimp only <;> omega))
  have h_hco := hf.at h_hco (by first | omega | (dsimp only <;> omega))
  have hE := hE.tr (hf.wk (fun j hj => by first | omega | (dsimp only at hj ⊢ <;> omega)))
  refine r_istore_n (lv' := [(3, .int (zI z_31)), (0, .ref ax), (1, .int (zI x)), (2, .int (zI y))]) E hl dX10_extend_34 rfl (by decide) rfl (fun ls hl => ?_)
  have hsr := srch_rng (d := d) (ol := opL (cl d) x.toNat) (most := y) ((2 * (y - 0) + (0 : Nat)).toNat + 1) 0 0 0 0 d (by omega)
  have hz31 : -2 ≤ z_31 ∧ z_31 ≤ y := by rw [e_31]; exact hsr
  refine r_iload_n E 0 hl rfl dX10_extend_35 ?_
  refine r_if_lt E 68 dX10_extend_36 (by decide) (by omega) (fun c_36 => ?_) (fun c_36 => ?_)
  · skip
    refine r_iload_n E 0 hl rfl dX10_extend_68 ?_
    refine W.widen (k := 2) (n := 12) (by decide) (by decide) ?_
    exact vx_ret (r_iret E h ⟨by omega, by omega, e_31, Or.inl ⟨c_36, hf⟩, ⟨op_31, tr_31, _, _, _, _, h_sr, h_sc, h_scp, h_op, h_tr⟩, hE⟩ dX10_extend_69)
  · skip
    refine r_aload_n E 1 hl rfl dX10_extend_39 ?_
    refine r_get (v := .ref ahi) E h h_x0 rfl inn_X10_extend_10 9 (by decide) fl_X10_extend_58 rfl dX10_extend_40 ?_
    refine r_aload_n E 1 hl rfl dX10_extend_43 ?_
    refine r_get (v := .ref asu) E h h_x0 rfl inn_X10_extend_10 3 (by decide) fl_X10_extend_74 rfl dX10_extend_44 ?_
    refine r_aload_n E 1 hl rfl dX10_extend_47 ?_
    refine r_get (v := .ref a2) E h h_x0 rfl inn_X10_extend_10 6 (by decide) fl_X10_extend_37 rfl dX10_extend_48 ?_
    refine r_callVV E h (As := [.ref asu, .ref a2]) (rest := []) (k_X2_remember l h_hi h_hsu h_hco h_su h_co h_cop hnx hkp hcc (fun i hi => ⟨hf.at (hFc i hi).1 (by omega), hf.at (hFc i hi).2 (by omega)⟩) (by omega) (by omega)) h_hi rfl gX10_extend_X2_remember rfl hd_X2_remember (by decide) ⟨by decide, by decide⟩ hl.1 rfl (Nat.le_of_ble_eq_true rfl) dX10_extend_51 rfl (fun ws H locs hp h => ?_)
    obtain ⟨h_hi, h_hsu, h_hc, h_hcp, hf⟩ := hp
    have h_x0 := hf.at h_x0 (by first | omega | (dsimp only <;> omega))
    have h_su := hf.at h_su (by first | omega | (dsimp only <;> omega))
    have h_co := hf.at h_co (by first | omega | (dsimp only <;> omega))
    have h_cop := hf.at h_cop (by first | omega | (dsimp only <;> omega))
    have h_tb := hf.at h_tb (by first | omega | (dsimp only <;> omega))
    have h_re := hf.at h_re (by first | omega | (dsimp only <;> omega))
    have h_rs := hf.at h_rs (by first | omega | (dsimp only <;> omega))
    have h_sr := hf.at h_sr (by first | omega | (dsimp only <;> omega))
    have h_sc := hf.at h_sc (by first | omega | (dsimp only <;> omega))
    have h_scp := hf.at h_scp (by first | omega | (dsimp only <;> omega))
    have h_sb := hf.at h_sb (by first | omega | (dsimp only <;> omega))
    have h_sbp := hf.at h_sbp (by first | omega | (dsimp only <;> omega))
    have h_op := hf.at h_op (by first | omega | (dsimp only <;> omega))
    have h_tr := hf.at h_tr (by first | omega | (dsimp only <;> omega))
    have h_hco := hf.at h_hco (by first | omega | (dsimp only <;> omega))
    have hE := hE.tr (hf.wk (fun j hj => by first | omega | (dsimp only at hj ⊢ <;> omega)))
    refine r_aload_n E 1 hl rfl dX10_extend_54 ?_
    refine r_get (v := .ref a2) E h h_x0 rfl inn_X10_extend_10 6 (by decide) fl_X10_extend_37 rfl dX10_extend_55 ?_
    refine r_aload_n E 1 hl rfl dX10_extend_58 ?_
    refine r_get (v := .ref asr) E h h_x0 rfl inn_X10_extend_10 7 (by decide) fl_X10_extend_44 rfl dX10_extend_59 ?_
    refine r_get (v := .ref asc) E h h_sr rfl inn_X10_extend_5 0 (by decide) fl_X10_extend_240 rfl dX10_extend_62 ?_
    refine r_callVV E h (As := [.ref asc]) (rest := []) (k_X0_copyFrom l h_co h_cop h_sc h_scp (by omega)) h_co rfl gX10_extend_X0_copyFrom rfl hd_X0_copyFrom (by decide) ⟨by decide, by decide⟩ hl.1 rfl (Nat.le_of_ble_eq_true rfl) dX10_extend_65 rfl (fun ws H locs hp h => ?_)
    obtain ⟨h_co, h_cop, hf⟩ := hp
    have h_x0 := hf.at h_x0 (by first | omega | (dsimp only <;> omega))
    have h_su := hf.at h_su (by first | omega | (dsimp only <;> omega))
    have h_tb := hf.at h_tb (by first | omega | (dsimp only <;> omega))
    have h_re := hf.at h_re (by first | omega | (dsimp only <;> omega))
    have h_rs := hf.at h_rs (by first | omega | (dsimp only <;> omega))
    have h_sr := hf.at h_sr (by first | omega | (dsimp only <;> omega))
    have h_sc := hf.at h_sc (by first | omega | (dsimp only <;> omega))
    have h_scp := hf.at h_scp (by first | omega | (dsimp only <;> omega))
    have h_sb := hf.at h_sb (by first | omega | (dsimp only <;> omega))
    have h_sbp := hf.at h_sbp (by first | omega | (dsimp only <;> omega))
    have h_op := hf.at h_op (by first | omega | (dsimp only <;> omega))
    have h_tr := hf.at h_tr (by first | omega | (dsimp only <;> omega))
    have h_hi := hf.at h_hi (by first | omega | (dsimp only <;> omega))
    have h_hsu := hf.at h_hsu (by first | omega | (dsimp only <;> omega))
    have h_hco := hf.at h_hco (by first | omega | (dsimp only <;> omega))
    have h_hc := hf.at h_hc (by first | omega | (dsimp only <;> omega))
    have h_hcp := hf.at h_hcp (by first | omega | (dsimp only <;> omega))
    have hE := hE.tr (hf.wk (fun j hj => by first | omega | (dsimp only at hj ⊢ <;> omega)))
    refine r_iload_n E 0 hl rfl dX10_extend_68 ?_
    refine W.widen (k := 2) (n := 12) (by decide) (by decide) ?_
    exact vx_ret (r_iret E h ⟨by omega, by omega, e_31, Or.inr ⟨by omega, h_co, h_cop, (HPs.of hnx h_hi h_hsu h_hc h_hcp hFc hE (fun i h0 h1 => ⟨by omega, by omega⟩))⟩, ⟨op_31, tr_31, _, _, _, _, h_sr, h_sc, h_scp, h_op, h_tr⟩, hE⟩ dX10_extend_69)
theorem hd_X10_repair : yX10_repair.cls = RX10 ∧ yX10_repair.cls ≠ "java/lang/invoke/MethodHandle" ∧ yX10_repair.cls ≠ "java/lang/invoke/VarHandle" ∧ (parseMethodDescriptor yX10_repair.desc).map (fun d => d.parameters.length) = some 1 := by decide +kernel
theorem xnn_X10_repair_86 : ∀ w ∈ (vx_atS RX10 86 "java/lang/IllegalArgumentException" VXN).filter goodWord, w ∈ wsX10_repair := fun _ h => List.mem_cons_of_mem _ (List.mem_append_right _ h)
theorem fl_X10_repair_58 : Cond.fieldLink RX10 58 (TX10 9).1 (TX10 9).2.1 (TX10 9).2.2.1 ∈ wsX10_repair := List.mem_of_getElem? (i := 3) rfl
theorem inn_X10_repair_10 : ∀ w ∈ wsX100, w ∈ wsX10_repair := fun _ h => List.mem_cons_of_mem _ (List.mem_append_left _ (List.mem_append_left _ (List.mem_append_left _ (List.mem_append_left _ (List.mem_append_left _ (List.mem_append_left _ (List.mem_append_right _ h)))))))
theorem fl_X10_repair_74 : Cond.fieldLink RX10 74 (TX10 3).1 (TX10 3).2.1 (TX10 3).2.2.1 ∈ wsX10_repair := List.mem_of_getElem? (i := 4) rfl
theorem fl_X10_repair_37 : Cond.fieldLink RX10 37 (TX10 6).1 (TX10 6).2.1 (TX10 6).2.2.1 ∈ wsX10_repair := List.mem_of_getElem? (i := 5) rfl
theorem fl_X10_repair_51 : Cond.fieldLink RX10 51 (TX10 8).1 (TX10 8).2.1 (TX10 8).2.2.1 ∈ wsX10_repair := List.mem_of_getElem? (i := 6) rfl
theorem fl_X10_repair_30 : Cond.fieldLink RX10 30 (TX10 5).1 (TX10 5).2.1 (TX10 5).2.2.1 ∈ wsX10_repair := List.mem_of_getElem? (i := 7) rfl
theorem fl_X10_repair_216 : Cond.fieldLink RX10 216 (TX3 0).1 (TX3 0).2.1 (TX3 0).2.2.1 ∈ wsX10_repair := List.mem_of_getElem? (i := 8) rfl
theorem inn_X10_repair_3 : ∀ w ∈ wsX30, w ∈ wsX10_repair := fun _ h => List.mem_cons_of_mem _ (List.mem_append_left _ (List.mem_append_left _ (List.mem_append_left _ (List.mem_append_left _ (List.mem_append_left _ (List.mem_append_right _ h))))))
theorem fl_X10_repair_243 : Cond.fieldLink RX10 243 (TX3 1).1 (TX3 1).2.1 (TX3 1).2.2.1 ∈ wsX10_repair := List.mem_of_getElem? (i := 9) rfl
theorem fl_X10_repair_246 : Cond.fieldLink RX10 246 (TX3 2).1 (TX3 2).2.1 (TX3 2).2.2.1 ∈ wsX10_repair := List.mem_of_getElem? (i := 10) rfl
abbrev rm_X10_repair : Room := { frames := 6, cells := 1, slots := 6, locals := 126 }
set_option maxHeartbeats 1200000 in
set_option maxRecDepth 100000 in
theorem k_X10_repair (l : Launch) {G : va_G} {cy : Nat → ClassId} {ws0 : va_W} {qx ax ain asu ard a a2 asr arp ahi : Nat} {inl erp : Int} {q ase awr art awt are ars : Nat} {se re : Int → Int64} {wr rt wt rs : Int → Int} {sz riw : Int} {qs ar9 afo : Nat} {q2 ap2 : Nat} {d : Int → Int} {T : List Int} {q6 ach : Nat} {gn nu co9 : Int} {ch : Int → Int} {q7 ahsu ahco : Nat} {nx kp : Int} {hs9 hcf : Int → Option Nat} {hac hap : Nat → Nat} {hF : Nat → Int64} {hP : Nat → Int → Int64} (y : Int) (h_x0 : ws0[qx]? = some (ax, .inr (10, [.ref ain, .int (zI inl), .int (zI erp), .ref asu, .ref ard, .ref a, .ref a2, .ref asr, .ref arp, .ref ahi]))) (h_su : ws0[qs]? = some (asu, .inr (6, [.int (zI (d 0)), .int (zI (d 1)), .ref ar9, .ref afo]))) (h_co : ws0[q2]? = some (a2, .inr (0, [.ref ap2, .long (fmk (d 0) (fx d))]))) (h_cop : ws0[q2 + 1]? = some (ap2, aL cy 4 (mk (d 0) (cl d)))) (h_tb : ws0[q]? = some (a, .inr (8, [.ref ase, .ref awr, .int (zI sz), .ref art, .int (zI riw), .ref awt, .ref are, .ref ars]))) (h_se : ws0[q + 1]? = some (ase, aL cy 6400 se)) (h_wr : ws0[q + 2]? = some (awr, aI cy 6400 wr)) (h_wt : ws0[q + 4]? = some (awt, aI cy 656 wt)) (h_rp : ws0[q6]? = some (arp, .inr (3, [.int (zI gn), .int (zI nu), .int (zI co9), .ref ach]))) (h_ch : ws0[q6 + 1]? = some (ach, aI cy 164 ch)) (h_hi : ws0[q7]? = some (ahi, .inr (2, [.ref ahsu, .ref ahco, .int (zI nx), .int (zI kp)]))) (h_hsu : ws0[q7 + 1]? = some (ahsu, aR cy 5 8 hs9)) (h_hco : ws0[q7 + 2]? = some (ahco, aR cy 3 8 hcf)) (hD : DW d T) (hT : TW d T se wr rt wt re rs sz) (hlay : q = qx + 9 ∧ q2 = qx + 16 ∧ q6 = qx + 25 ∧ q7 = qx + 27) (hqs : qs < qx ∨ qx + 46 ≤ qs) (hy9 : -2147483648 ≤ y ∧ y ≤ 2147483647) (hnx : 0 ≤ nx ∧ nx < 8) (hkp : 0 ≤ kp ∧ kp ≤ 8) (hcc : ∀ i : Nat, i < 8 → hcf (i : Int) = some (hac i)) (hFc : ∀ i : Nat, i < 8 → ws0[q7 + 3 + 2 * i]? = some (hac i, .inr (0, [.ref (hap i), .long (hF i)])) ∧ ws0[q7 + 3 + 2 * i + 1]? = some (hap i, aL cy 4 (hP i))) (hl9 : l.stackTraces = false) : TIk l yX10_repair wsX10_repair rm_X10_repair G cy [.ref ax, .int (zI y)] ws0 (fun E9 => E9 = "java/lang/IllegalArgumentException" ∧ ¬ (1 ≤ y ∧ y ≤ 10)) (fun z u => (1 ≤ y ∧ y ≤ 10) ∧ z = (rpr d T y.toNat d).1 ∧ u[q2]? = some (a2, .inr (0, [.ref ap2, .long (fmk (d 0) (fx ((rpr d T y.toNat d).2)))])) ∧ u[q2 + 1]? = some (ap2, aL cy 4 (mk (d 0) (cl ((rpr d T y.toNat d).2)))) ∧ (∃ (gn2 nu2 co2 : Int) (ch2 : Int → Int), u[q6]? = some (arp, .inr (3, [.int (zI gn2), .int (zI nu2), .int (zI co2), .ref ach])) ∧ u[q6 + 1]? = some (ach, aI cy 164 ch2)) ∧ HPs u cy q7 ahi ahsu ((nx + 1) % 8) (if kp < 8 then kp + 1 else 8) (uZ hs9 nx (some asu)) hac hap (fun i => if i = nx.toNat then fmk (d 0) (fx d) else hF i) (fun i => if i = nx.toNat then mk (d 0) (cl d) else hP i) ahco ∧ Eqx ws0 u (fun j => j = q7 ∨ j = q7 + 1 ∨ j = q7 + 3 + 2 * nx.toNat ∨ j = q7 + 3 + 2 * nx.toNat + 1 ∨ j = q6 ∨ j = q6 + 1 ∨ j = q2 + 1)) := by
  refine TIk.of (own := RX10) (cc := cX10_repair) (nL := 3) (ret := (some .int)) (by decide) rfl rfl (Nat.le_of_ble_eq_true rfl) ?_
  intro p e s m below meth c A ls hX hxt E h hl
  have hl : lv_has ls 3 [(0, .ref ax), (1, .int (zI y))] := hl
  have hE : Eqx ws0 ws0 (fun j => j = q7 ∨ j = q7 + 1 ∨ j = q7 + 3 + 2 * nx.toNat ∨ j = q7 + 3 + 2 * nx.toNat + 1 ∨ j = q6 ∨ j = q6 + 1 ∨ j = q2 + 1) := Eqx.rf
  have hn9 := hD.n
  have hk9 := hD.k
  refine r_iload_n E 1 hl rfl dX10_repair_0 ?_
  refine r_iconst E dX10_repair_1 ?_
  refine r_icmp_lt E 11 dX10_repair_2 (by decide) (by omega) (fun c_2 => ?_) (fun c_2 => ?_)
  · skip
    exact r_throwS E hX hxt h hl9 (text := "most is 1 to 10") (cls := "java/lang/IllegalArgumentException") (k9 := 5) (by decide) (List.mem_of_getElem? (i := 1) rfl) (List.mem_of_getElem? (i := 2) rfl) (by decide +kernel) xnn_X10_repair_86 vxb_86 vxo_86 hl.1 dX10_repair_11 dX10_repair_14 dX10_repair_15 dX10_repair_17 dX10_repair_20 ⟨by decide, by decide⟩ ⟨⟨by decide, by decide⟩, by decide, by decide⟩ ⟨rfl, by omega⟩
  · skip
    refine r_iload_n E 1 hl rfl dX10_repair_5 ?_
    refine r_bipush E dX10_repair_6 (by decide) ?_
    refine r_icmp_le E 21 dX10_repair_8 (by decide) (by omega) (fun c_8 => ?_) (fun c_8 => ?_)
    · skip
      refine r_aload_n E 0 hl rfl dX10_repair_21 ?_
      refine r_get (v := .ref ahi) E h h_x0 rfl inn_X10_repair_10 9 (by decide) fl_X10_repair_58 rfl dX10_repair_22 ?_
      refine r_aload_n E 0 hl rfl dX10_repair_25 ?_
      refine r_get (v := .ref asu) E h h_x0 rfl inn_X10_repair_10 3 (by decide) fl_X10_repair_74 rfl dX10_repair_26 ?_
      refine r_aload_n E 0 hl rfl dX10_repair_29 ?_
      refine r_get (v := .ref a2) E h h_x0 rfl inn_X10_repair_10 6 (by decide) fl_X10_repair_37 rfl dX10_repair_30 ?_
      refine r_callVV E h (As := [.ref asu, .ref a2]) (rest := []) (k_X2_remember l h_hi h_hsu h_hco h_su h_co h_cop hnx hkp hcc hFc (by omega) (by omega)) h_hi rfl gX10_repair_X2_remember rfl hd_X2_remember (by decide) ⟨by decide, by decide⟩ hl.1 rfl (Nat.le_of_ble_eq_true rfl) dX10_repair_33 rfl (fun ws H locs hp h => ?_)
      obtain ⟨h_hi, h_hsu, h_hc, h_hcp, hf⟩ := hp
      have h_x0 := hf.at h_x0 (by first | omega | (dsimp only <;> omega))
      have h_su := hf.at h_su (by first | omega | (dsimp only <;> omega))
      have h_co := hf.at h_co (by first | omega | (dsimp only <;> omega))
      have h_cop := hf.at h_cop (by first | omega | (dsimp only <;> omega))
      have h_tb := hf.at h_tb (by first | omega | (dsimp only <;> omega))
      have h_se := hf.at h_se (by first | omega | (dsimp only <;> omega))
      have h_wr := hf.at h_wr (by first | omega | (dsimp only <;> omega))
      have h_wt := hf.at h_wt (by first | omega | (dsimp only <;> omega))
      have h_rp := hf.at h_rp (by first | omega | (dsimp only <;> omega))
      have h_ch := hf.at h_ch (by first | omega | (dsimp only <;> omega))
      have h_hco := hf.at h_hco (by first | omega | (dsimp only <;> omega))
      have hE := hE.tr (hf.wk (fun j hj => by first | omega | (dsimp only at hj ⊢ <;> omega)))
      refine r_iconst E dX10_repair_36 ?_
      refine r_istore_n (lv' := [(2, .int (zI 0)), (0, .ref ax), (1, .int (zI y))]) E hl dX10_repair_37 rfl (by decide) rfl (fun ls hl => ?_)
      refine r_loop (fun n H locs ls => ∃ (ws : va_W) (n8 : Int) (da2 : Int → Int) (gn2 : Int) (nu2 : Int) (co2 : Int) (ch2 : Int → Int), n = (10 - n8).toNat ∧ (0 ≤ n8 ∧ n8 ≤ y) ∧ ((rpr d T y.toNat d).1 = n8 + (rpr d T (y - n8).toNat da2).1 ∧ (rpr d T y.toNat d).2 = (rpr d T (y - n8).toNat da2).2) ∧ (DW da2 T) ∧ (∀ i : Int, i < 30 → da2 i = d i) ∧ Hp G ws A s.heap H locs ∧ (ws[qx]? = some (ax, .inr (10, [.ref ain, .int (zI inl), .int (zI erp), .ref asu, .ref ard, .ref a, .ref a2, .ref asr, .ref arp, .ref ahi]))) ∧ (ws[qs]? = some (asu, .inr (6, [.int (zI (d 0)), .int (zI (d 1)), .ref ar9, .ref afo]))) ∧ (ws[q2]? = some (a2, .inr (0, [.ref ap2, .long (fmk (d 0) (fx da2))]))) ∧ (ws[q2 + 1]? = some (ap2, aL cy 4 (mk (d 0) (cl da2)))) ∧ (ws[q]? = some (a, .inr (8, [.ref ase, .ref awr, .int (zI sz), .ref art, .int (zI riw), .ref awt, .ref are, .ref ars]))) ∧ (ws[q + 1]? = some (ase, aL cy 6400 se)) ∧ (ws[q + 2]? = some (awr, aI cy 6400 wr)) ∧ (ws[q + 4]? = some (awt, aI cy 656 wt)) ∧ (ws[q6]? = some (arp, .inr (3, [.int (zI gn2), .int (zI nu2), .int (zI co2), .ref ach]))) ∧ (ws[q6 + 1]? = some (ach, aI cy 164 ch2)) ∧ (ws[q7]? = some (ahi, .inr (2, [.ref ahsu, .ref ahco, .int (zI ((nx + 1) % 8)), .int (zI (if kp < 8 then kp + 1 else 8))]))) ∧ (ws[q7 + 1]? = some (ahsu, aR cy 5 8 (uZ hs9 nx (some asu)))) ∧ (ws[q7 + 2]? = some (ahco, aR cy 3 8 hcf)) ∧ (ws[q7 + 3 + 2 * nx.toNat]? = some ((hac nx.toNat), .inr (0, [.ref ((hap nx.toNat)), .long (fmk (d 0) (fx d))]))) ∧ (ws[q7 + 3 + 2 * nx.toNat + 1]? = some ((hap nx.toNat), aL cy 4 (mk (d 0) (cl d)))) ∧ Eqx ws0 ws (fun j => j = q7 ∨ j = q7 + 1 ∨ j = q7 + 3 + 2 * nx.toNat ∨ j = q7 + 3 + 2 * nx.toNat + 1 ∨ j = q6 ∨ j = q6 + 1 ∨ j = q2 + 1) ∧ lv_has ls 3 [(0, .ref ax), (1, .int (zI y)), (2, .int (zI n8))]) _ ⟨ws, 0, d, gn, nu, co9, ch, rfl, (by omega), ⟨by rw [show y - 0 = y by omega]; omega, by rw [show y - 0 = y by omega]⟩, hD, (fun _ _ => rfl), h, h_x0, h_su, h_co, h_cop, h_tb, h_se, h_wr, h_wt, h_rp, h_ch, h_hi, h_hsu, h_hco, h_hc, h_hcp, hE, lv_sub hl [1, 2, 0] rfl⟩ ?_
      rintro n H locs ls ⟨ws, n8, da2, gn2, nu2, co2, ch2, hn, i1, i2, i4, i5, h, h_x0, h_su, h_co, h_cop, h_tb, h_se, h_wr, h_wt, h_rp, h_ch, h_hi, h_hsu, h_hco, h_hc, h_hcp, hE, hl⟩ ih_38
      refine r_iload_n E 2 hl rfl dX10_repair_38 ?_
      refine r_iload_n E 1 hl rfl dX10_repair_39 ?_
      refine r_icmp_ge E 101 dX10_repair_40 (by decide) (by omega) (fun c_40 => ?_) (fun c_40 => ?_)
      · skip
        have hrs : (y - n8).toNat = 0 := by omega
        have erp : rpr d T (y - n8).toNat da2 = (0, da2) := by rw [hrs]; rfl
        refine r_iload_n E 1 hl rfl dX10_repair_101 ?_
        refine W.widen (k := 1) (n := 6) (by decide) (by decide) ?_
        exact vx_ret (r_iret E h ⟨by omega, by rw [i2.1, erp]; show y = n8 + 0; omega, by rw [i2.2, erp]; exact h_co, by rw [i2.2, erp]; exact h_cop, ⟨_, _, _, _, h_rp, h_ch⟩, (HPs.of hnx h_hi h_hsu h_hc h_hcp hFc hE (fun i h0 h1 => ⟨by omega, by omega⟩)), hE⟩ dX10_repair_102)
      · skip
        have hbr := bstX_rng (da := da2) hD (da2 0).toNat
        have hbr2 : -1000000 ≤ (bst d T da2).1 ∧ (bst d T da2).1 ≤ 6393600 := hbr
        have hrs : (y - n8).toNat = (y - (n8 + 1)).toNat + 1 := by omega
        have erp : rpr d T (y - n8).toNat da2 = if (bst d T da2).1 ≤ 0 then (0, da2) else ((rpr d T (y - (n8 + 1)).toNat (uZ da2 (29 + (bst d T da2).2.1) ((bst d T da2).2.2 + 1))).1 + 1, (rpr d T (y - (n8 + 1)).toNat (uZ da2 (29 + (bst d T da2).2.1) ((bst d T da2).2.2 + 1))).2) := by rw [hrs]; rfl
        refine r_aload_n E 0 hl rfl dX10_repair_43 ?_
        refine r_get (v := .ref arp) E h h_x0 rfl inn_X10_repair_10 8 (by decide) fl_X10_repair_51 rfl dX10_repair_44 ?_
        refine r_aload_n E 0 hl rfl dX10_repair_47 ?_
        refine r_get (v := .ref asu) E h h_x0 rfl inn_X10_repair_10 3 (by decide) fl_X10_repair_74 rfl dX10_repair_48 ?_
        refine r_aload_n E 0 hl rfl dX10_repair_51 ?_
        refine r_get (v := .ref a) E h h_x0 rfl inn_X10_repair_10 5 (by decide) fl_X10_repair_30 rfl dX10_repair_52 ?_
        refine r_aload_n E 0 hl rfl dX10_repair_55 ?_
        refine r_get (v := .ref a2) E h h_x0 rfl inn_X10_repair_10 6 (by decide) fl_X10_repair_37 rfl dX10_repair_56 ?_
        refine r_callVV E h (As := [.ref asu, .ref a, .ref a2]) (rest := []) (k_X3_find l h_rp h_ch h_su h_tb h_se h_wr h_wt h_co h_cop (by omega) (by omega) (by omega) hD hT i4 (i5 0 (by decide)) (i5 1 (by decide))) h_rp rfl gX10_repair_X3_find rfl hd_X3_find (by decide) ⟨by decide, by decide⟩ hl.1 rfl (Nat.le_of_ble_eq_true rfl) dX10_repair_59 rfl (fun ws H locs hp h => ?_)
        obtain ⟨nu_59, co_59, ch_59, h_rp, h_ch, e_59, hf⟩ := hp
        have h_x0 := hf.at h_x0 (by first | omega | (dsimp only <;> omega))
        have h_su := hf.at h_su (by first | omega | (dsimp only <;> omega))
        have h_co := hf.at h_co (by first | omega | (dsimp only <;> omega))
        have h_cop := hf.at h_cop (by first | omega | (dsimp only <;> omega))
        have h_tb := hf.at h_tb (by first | omega | (dsimp only <;> omega))
        have h_se := hf.at h_se (by first | omega | (dsimp only <;> omega))
        have h_wr := hf.at h_wr (by first | omega | (dsimp only <;> omega))
        have h_wt := hf.at h_wt (by first | omega | (dsimp only <;> omega))
        have h_hi := hf.at h_hi (by first | omega | (dsimp only <;> omega))
        have h_hsu := hf.at h_hsu (by first | omega | (dsimp only <;> omega))
        have h_hco := hf.at h_hco (by first | omega | (dsimp only <;> omega))
        have h_hc := hf.at h_hc (by first | omega | (dsimp only <;> omega))
        have h_hcp := hf.at h_hcp (by first | omega | (dsimp only <;> omega))
        have hE := hE.tr (hf.wk (fun j hj => by first | omega | (dsimp only at hj ⊢ <;> omega)))
        refine r_aload_n E 0 hl rfl dX10_repair_62 ?_
        refine r_get (v := .ref arp) E h h_x0 rfl inn_X10_repair_10 8 (by decide) fl_X10_repair_51 rfl dX10_repair_63 ?_
        refine r_get (v := .int (zI ((bst d T da2).1))) E h h_rp rfl inn_X10_repair_3 0 (by decide) fl_X10_repair_216 rfl dX10_repair_66 ?_
        refine r_if_gt E 74 dX10_repair_69 (by decide) (by omega) (fun c_69 => ?_) (fun c_69 => ?_)
        · skip
          rw [if_neg (by omega)] at erp
          have hd1 := i5 1 (by decide)
          have hd0 := i5 0 (by decide)
          have hbo := bst_ok (d := d) (T := T) (da := da2) (by omega) (by omega) (by omega)
          obtain ⟨u1, u2⟩ := e_59 (by omega)
          rw [← u1, ← u2] at erp
          rw [← u1, ← u2] at hbo
          refine r_aload_n E 0 hl rfl dX10_repair_74 ?_
          refine r_get (v := .ref a2) E h h_x0 rfl inn_X10_repair_10 6 (by decide) fl_X10_repair_37 rfl dX10_repair_75 ?_
          refine r_aload_n E 0 hl rfl dX10_repair_78 ?_
          refine r_get (v := .ref arp) E h h_x0 rfl inn_X10_repair_10 8 (by decide) fl_X10_repair_51 rfl dX10_repair_79 ?_
          refine r_get (v := .int (zI nu_59)) E h h_rp rfl inn_X10_repair_3 1 (by decide) fl_X10_repair_243 rfl dX10_repair_82 ?_
          refine r_aload_n E 0 hl rfl dX10_repair_85 ?_
          refine r_get (v := .ref arp) E h h_x0 rfl inn_X10_repair_10 8 (by decide) fl_X10_repair_51 rfl dX10_repair_86 ?_
          refine r_get (v := .int (zI co_59)) E h h_rp rfl inn_X10_repair_3 2 (by decide) fl_X10_repair_246 rfl dX10_repair_89 ?_
          refine r_callVV E h (As := [.int (zI nu_59), .int (zI co_59)]) (rest := []) (k_X0_paint l nu_59 co_59 h_co h_cop (by omega) (by omega) (by omega)) h_co rfl gX10_repair_X0_paint rfl hd_X0_paint (by decide) ⟨by decide, by decide⟩ hl.1 rfl (Nat.le_of_ble_eq_true rfl) dX10_repair_92 rfl (fun ws H locs hp h => ?_)
          obtain ⟨h_cop, hf⟩ := hp
          have h_x0 := hf.at h_x0 (by first | omega | (dsimp only <;> omega))
          have h_su := hf.at h_su (by first | omega | (dsimp only <;> omega))
          have h_co := hf.at h_co (by first | omega | (dsimp only <;> omega))
          have h_tb := hf.at h_tb (by first | omega | (dsimp only <;> omega))
          have h_se := hf.at h_se (by first | omega | (dsimp only <;> omega))
          have h_wr := hf.at h_wr (by first | omega | (dsimp only <;> omega))
          have h_wt := hf.at h_wt (by first | omega | (dsimp only <;> omega))
          have h_rp := hf.at h_rp (by first | omega | (dsimp only <;> omega))
          have h_ch := hf.at h_ch (by first | omega | (dsimp only <;> omega))
          have h_hi := hf.at h_hi (by first | omega | (dsimp only <;> omega))
          have h_hsu := hf.at h_hsu (by first | omega | (dsimp only <;> omega))
          have h_hco := hf.at h_hco (by first | omega | (dsimp only <;> omega))
          have h_hc := hf.at h_hc (by first | omega | (dsimp only <;> omega))
          have h_hcp := hf.at h_hcp (by first | omega | (dsimp only <;> omega))
          have hE := hE.tr (hf.wk (fun j hj => by first | omega | (dsimp only at hj ⊢ <;> omega)))
          refine r_iinc (lv' := [(2, .int (zI (n8 + 1))), (0, .ref ax), (1, .int (zI y))]) E 2 hl rfl dX10_repair_95 (by decide) rfl (fun ls hl => ?_)
          rw [← cl_set9] at h_cop
          rw [← fmk_setc (x := nu_59) (v := co_59 + 1) (by omega)] at h_co
          refine r_goto E 38 dX10_repair_98 (by decide) ?_
          exact ih_38 _ H locs ls (by omega) ⟨ws, (n8 + 1), (uZ da2 (29 + nu_59) (co_59 + 1)), ((bst d T da2).1), nu_59, co_59, ch_59, rfl, (by omega), ⟨by rw [i2.1, erp]; show n8 + (_ + 1) = n8 + 1 + _; omega, by rw [i2.2, erp]⟩, (i4.setcol (by omega) (by omega)), (fun i hi => by rw [uZ_n (by omega)]; exact i5 i hi), h, h_x0, h_su, h_co, h_cop, h_tb, h_se, h_wr, h_wt, h_rp, h_ch, h_hi, h_hsu, h_hco, h_hc, h_hcp, hE, lv_sub hl [1, 2, 0] rfl⟩
        · skip
          rw [if_pos (by omega)] at erp
          refine r_iload_n E 2 hl rfl dX10_repair_72 ?_
          refine W.widen (k := 1) (n := 6) (by decide) (by decide) ?_
          exact vx_ret (r_iret E h ⟨by omega, by rw [i2.1, erp]; show n8 = n8 + 0; omega, by rw [i2.2, erp]; exact h_co, by rw [i2.2, erp]; exact h_cop, ⟨_, _, _, _, h_rp, h_ch⟩, (HPs.of hnx h_hi h_hsu h_hc h_hcp hFc hE (fun i h0 h1 => ⟨by omega, by omega⟩)), hE⟩ dX10_repair_73)
    · skip
      exact r_throwS E hX hxt h hl9 (text := "most is 1 to 10") (cls := "java/lang/IllegalArgumentException") (k9 := 5) (by decide) (List.mem_of_getElem? (i := 1) rfl) (List.mem_of_getElem? (i := 2) rfl) (by decide +kernel) xnn_X10_repair_86 vxb_86 vxo_86 hl.1 dX10_repair_11 dX10_repair_14 dX10_repair_15 dX10_repair_17 dX10_repair_20 ⟨by decide, by decide⟩ ⟨⟨by decide, by decide⟩, by decide, by decide⟩ ⟨rfl, by omega⟩
