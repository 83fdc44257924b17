theorem mk_cell {cy : Nat → ClassId} {nn : Int} {e : Int → Int} (h : ∀ x : Int, 1 ≤ x → x ≤ nn → e x = 0) : aL cy 4 (mk 0 (fun _ => 0)) = aL cy 4 (mk nn e) := by
  have h1 : (fun j : Nat => mk 0 (fun _ => 0) (j : Int)) = (fun j : Nat => mk nn e (j : Int)) := funext fun j => by
    rw [mk_0 (by omega), mk_zero (fun x a b => by rw [h x a b]; omega)]
  show (Sum.inl (cy 1, 4, .inr (.inl (fun j : Nat => mk 0 (fun _ => 0) (j : Int)))) : va_E) = Sum.inl (cy 1, 4, .inr (.inl (fun j : Nat => mk nn e (j : Int))))
  rw [h1]
theorem blk_z {d : Int → Int} : ∀ x : Int, 1 ≤ x → x ≤ d 0 → cl (blk d) x = 0 := fun x a b => if_pos (by omega)
theorem tm8 {a : Int} (h : 0 ≤ a) : Int.tmod a 8 = a % 8 := Int.tmod_eq_emod_of_nonneg h
theorem hd_X5_reach : yX5_reach.cls = RX5 ∧ yX5_reach.cls ≠ "java/lang/invoke/MethodHandle" ∧ yX5_reach.cls ≠ "java/lang/invoke/VarHandle" ∧ (parseMethodDescriptor yX5_reach.desc).map (fun d => d.parameters.length) = some 4 := by decide +kernel
theorem fl_X5_reach_18 : Cond.fieldLink RX5 18 (TX5 1).1 (TX5 1).2.1 (TX5 1).2.2.1 ∈ wsX5_reach := List.mem_of_getElem? (i := 1) rfl
theorem inn_X5_reach_5 : ∀ w ∈ wsX50, w ∈ wsX5_reach := fun _ h => List.mem_cons_of_mem _ (List.mem_append_left _ (List.mem_append_left _ (List.mem_append_right _ h)))
theorem fl_X5_reach_32 : Cond.fieldLink RX5 32 (TX5 5).1 (TX5 5).2.1 (TX5 5).2.2.1 ∈ wsX5_reach := List.mem_of_getElem? (i := 2) rfl
abbrev rm_X5_reach : Room := { frames := 3, cells := 0, slots := 0, locals := 122 }
set_option maxHeartbeats 1200000 in
set_option maxRecDepth 100000 in
theorem k_X5_reach (l : Launch) {G : va_G} {cy : Nat → ClassId} {ws0 : va_W} {q5 asr asc ascp asb asbp aop atr : Nat} {op tr : Int → Int} {tot dee : Int}  {q a ase awr art awt are ars : Nat} {se re : Int → Int64} {wr rt wt rs : Int → Int} {sz riw : Int} {F0 : Int64} {P0 : Int → Int64} {d : Int → Int} {T : List Int} (k9 most : Int) (h_sr : ws0[q5]? = some (asr, .inr (5, [.ref asc, .ref asb, .ref aop, .ref atr, .int (zI tot), .int (zI dee)]))) (h_sc : ws0[q5 + 1]? = some (asc, .inr (0, [.ref ascp, .long F0]))) (h_scp : ws0[q5 + 2]? = some (ascp, aL cy 4 P0)) (h_sb : ws0[q5 + 3]? = some (asb, .inr (0, [.ref asbp, .long (fmk 0 (fun _ => 0))]))) (h_sbp : ws0[q5 + 4]? = some (asbp, aL cy 4 (mk 0 (fun _ => 0)))) (h_op : ws0[q5 + 5]? = some (aop, aI cy 40 op)) (h_tr : ws0[q5 + 6]? = some (atr, aI cy 40 tr)) (h_tb : ws0[q]? = some (a, .inr (8, [.ref ase, .ref awr, .int (zI sz), .ref art, .int (zI riw), .ref awt, .ref are, .ref ars]))) (h_re : ws0[q + 5]? = some (are, aL cy 19200 re)) (h_rs : ws0[q + 6]? = some (ars, aI cy 42 rs)) (hqt : q + 7 ≤ q5 ∨ q5 + 7 ≤ q) (hD : DW d T) (hT : TW d T se wr rt wt re rs sz) (hk9 : k9 = d 1) (hmost : 1 ≤ most ∧ most ≤ 3000) : MI l yX5_reach wsX5_reach rm_X5_reach G cy [.ref asr, .ref a, .int (zI (d 0)), .int (zI k9), .int (zI most)] ws0 (fun z u => z = ((sr d (opL (cl (blk d)) (d 0).toNat) most 0 0 0 0 (blk d)).2.1 : Int) ∧ ∃ (op2 tr2 : Int → Int) (P2 : Int → Int64) (F2 : Int64) (t2 d2 : Int), u[q5]? = some (asr, .inr (5, [.ref asc, .ref asb, .ref aop, .ref atr, .int (zI t2), .int (zI d2)])) ∧ u[q5 + 1]? = some (asc, .inr (0, [.ref ascp, .long F2])) ∧ u[q5 + 2]? = some (ascp, aL cy 4 P2) ∧ u[q5 + 5]? = some (aop, aI cy 40 op2) ∧ u[q5 + 6]? = some (atr, aI cy 40 tr2) ∧ Eqx ws0 u (fun j => j = q5 ∨ j = q5 + 1 ∨ j = q5 + 2 ∨ j = q5 + 5 ∨ j = q5 + 6)) := by
  refine MI.of (own := RX5) (cc := cX5_reach) (nL := 5) (ret := (some .int)) (by decide) rfl rfl (Nat.le_of_ble_eq_true rfl) ?_
  intro p e s m below meth c A ls E h hl
  have hl : lv_has ls 5 [(0, .ref asr), (1, .ref a), (2, .int (zI (d 0))), (3, .int (zI k9)), (4, .int (zI most))] := hl
  have hE : Eqx ws0 ws0 (fun j => j = q5 ∨ j = q5 + 1 ∨ j = q5 + 2 ∨ j = q5 + 5 ∨ j = q5 + 6) := Eqx.rf
  have hn9 := hD.n
  rw [mk_cell (nn := d 0) (e := cl (blk d)) blk_z] at h_sbp
  rw [show fmk 0 (fun _ => 0) = fmk (d 0) (fun _ => 0) from fmk_0.trans fmk_0.symm] at h_sb
  skip
  refine r_aload_n E 0 hl rfl dX5_reach_0 ?_
  refine r_aload_n E 1 hl rfl dX5_reach_1 ?_
  refine r_aload_n E 0 hl rfl dX5_reach_2 ?_
  refine r_get (v := .ref asb) E h h_sr rfl inn_X5_reach_5 1 (by decide) fl_X5_reach_18 rfl dX5_reach_3 ?_
  refine r_iload_n E 2 hl rfl dX5_reach_6 ?_
  refine r_iload_n E 3 hl rfl dX5_reach_7 ?_
  refine r_iload E 4 hl rfl dX5_reach_8 ?_
  refine r_callVI E h (As := [.ref a, .ref asb, .int (zI (d 0)), .int (zI k9), .int (zI most)]) (rest := []) (k_X5_run l (d 0) k9 most h_sr h_sc h_scp h_op h_tr h_tb h_re h_rs h_sb h_sbp (by omega) (by omega) hD hT hD.toblk (if_neg (by omega)) (if_neg (by omega)) (by omega) hk9 (by omega)) h_sr rfl gX5_reach_X5_run rfl hd_X5_run (by decide) ⟨by decide, by decide⟩ hl.1 rfl (Nat.le_of_ble_eq_true rfl) dX5_reach_10 rfl (fun z_10 ws H locs hp h => ?_)
  obtain ⟨e_10, op_10, tr_10, h_sr, h_sc, h_scp, h_op, h_tr, hf⟩ := hp
  have h_sb := hf.at h_sb (by first | omega | (dsimp only <;> omega))
  have h_sbp := hf.at h_sbp (by first | omega | (dsimp only <;> omega))
  have h_tb := hf.at h_tb (by first | omega | (dsimp only <;> omega))
  have h_re := hf.at h_re (by first | omega | (dsimp only <;> omega))
  have h_rs := hf.at h_rs (by first | omega | (dsimp only <;> omega))
  have hE := hE.tr (hf.wk (fun j hj => by first | omega | (dsimp only at hj ⊢ <;> omega)))
  refine r_pop E dX5_reach_13 rfl ?_
  refine r_aload_n E 0 hl rfl dX5_reach_14 ?_
  refine r_get (v := .int (zI (((sr d (opL (cl (blk d)) (Int.toNat (d 0))) most 0 0 0 0 (blk d)).2.1 : Int)))) E h h_sr rfl inn_X5_reach_5 5 (by decide) fl_X5_reach_32 rfl dX5_reach_15 ?_
  exact r_iret E h ⟨rfl, op_10, tr_10, _, _, _, _, h_sr, h_sc, h_scp, h_op, h_tr, hE⟩ dX5_reach_18
theorem hd_X2_size : yX2_size.cls = RX2 ∧ yX2_size.cls ≠ "java/lang/invoke/MethodHandle" ∧ yX2_size.cls ≠ "java/lang/invoke/VarHandle" ∧ (parseMethodDescriptor yX2_size.desc).map (fun d => d.parameters.length) = some 0 := by decide +kernel
theorem fl_X2_size_25 : Cond.fieldLink RX2 25 (TX2 3).1 (TX2 3).2.1 (TX2 3).2.2.1 ∈ wsX2_size := List.mem_of_getElem? (i := 1) rfl
theorem inn_X2_size_2 : ∀ w ∈ wsX20, w ∈ wsX2_size := fun _ h => List.mem_cons_of_mem _ (List.mem_append_right _ h)
abbrev rm_X2_size : Room := { frames := 0, cells := 0, slots := 0, locals := 0 }
set_option maxHeartbeats 1200000 in
set_option maxRecDepth 100000 in
theorem k_X2_size (l : Launch) {G : va_G} {cy : Nat → ClassId} {ws0 : va_W} {q7 ahi ahsu ahco : Nat} {nx kp : Int}     (h_hi : ws0[q7]? = some (ahi, .inr (2, [.ref ahsu, .ref ahco, .int (zI nx), .int (zI kp)])))  : MI l yX2_size wsX2_size rm_X2_size G cy [.ref ahi] ws0 (fun z u => z = kp ∧ ws0 = u) := by
  refine MI.of (own := RX2) (cc := cX2_size) (nL := 1) (ret := (some .int)) (by decide) rfl rfl (Nat.le_of_ble_eq_true rfl) ?_
  intro p e s m below meth c A ls E h hl
  have hl : lv_has ls 1 [(0, .ref ahi)] := hl
  refine r_aload_n E 0 hl rfl dX2_size_0 ?_
  refine r_get (v := .int (zI kp)) E h h_hi rfl inn_X2_size_2 3 (by decide) fl_X2_size_25 rfl dX2_size_1 ?_
  exact r_iret E h ⟨rfl, rfl⟩ dX2_size_4
theorem hd_X2_latest : yX2_latest.cls = RX2 ∧ yX2_latest.cls ≠ "java/lang/invoke/MethodHandle" ∧ yX2_latest.cls ≠ "java/lang/invoke/VarHandle" ∧ (parseMethodDescriptor yX2_latest.desc).map (fun d => d.parameters.length) = some 0 := by decide +kernel
theorem fl_X2_latest_21 : Cond.fieldLink RX2 21 (TX2 2).1 (TX2 2).2.1 (TX2 2).2.2.1 ∈ wsX2_latest := List.mem_of_getElem? (i := 1) rfl
theorem inn_X2_latest_2 : ∀ w ∈ wsX20, w ∈ wsX2_latest := fun _ h => List.mem_cons_of_mem _ (List.mem_append_right _ h)
abbrev rm_X2_latest : Room := { frames := 0, cells := 0, slots := 0, locals := 0 }
set_option maxHeartbeats 1200000 in
set_option maxRecDepth 100000 in
theorem k_X2_latest (l : Launch) {G : va_G} {cy : Nat → ClassId} {ws0 : va_W} {q7 ahi ahsu ahco : Nat} {nx kp : Int}     (h_hi : ws0[q7]? = some (ahi, .inr (2, [.ref ahsu, .ref ahco, .int (zI nx), .int (zI kp)]))) (hnx : 0 ≤ nx ∧ nx < 8) : MI l yX2_latest wsX2_latest rm_X2_latest G cy [.ref ahi] ws0 (fun z u => z = (nx + 7) % 8 ∧ ws0 = u) := by
  refine MI.of (own := RX2) (cc := cX2_latest) (nL := 1) (ret := (some .int)) (by decide) rfl rfl (Nat.le_of_ble_eq_true rfl) ?_
  intro p e s m below meth c A ls E h hl
  have hl : lv_has ls 1 [(0, .ref ahi)] := hl
  refine r_aload_n E 0 hl rfl dX2_latest_0 ?_
  refine r_get (v := .int (zI nx)) E h h_hi rfl inn_X2_latest_2 2 (by decide) fl_X2_latest_21 rfl dX2_latest_1 ?_
  refine r_bipush E dX2_latest_4 (by decide) ?_
  refine r_iadd E dX2_latest_6 ?_
  refine r_iconst E dX2_latest_7 ?_
  refine r_isub E dX2_latest_8 ?_
  refine r_bipush E dX2_latest_9 (by decide) ?_
  refine r_irem E dX2_latest_11 (by omega) (by omega) ?_
  exact r_iret E h ⟨by rw [tm8 (by omega)]; omega, rfl⟩ dX2_latest_12
theorem hd_X2_latestSetup : yX2_latestSetup.cls = RX2 ∧ yX2_latestSetup.cls ≠ "java/lang/invoke/MethodHandle" ∧ yX2_latestSetup.cls ≠ "java/lang/invoke/VarHandle" ∧ (parseMethodDescriptor yX2_latestSetup.desc).map (fun d => d.parameters.length) = some 0 := by decide +kernel
theorem fl_X2_latestSetup_25 : Cond.fieldLink RX2 25 (TX2 3).1 (TX2 3).2.1 (TX2 3).2.2.1 ∈ wsX2_latestSetup := List.mem_of_getElem? (i := 1) rfl
theorem inn_X2_latestSetup_2 : ∀ w ∈ wsX20, w ∈ wsX2_latestSetup := fun _ h => List.mem_cons_of_mem _ (List.mem_append_right _ h)
theorem fl_X2_latestSetup_11 : Cond.fieldLink RX2 11 (TX2 0).1 (TX2 0).2.1 (TX2 0).2.2.1 ∈ wsX2_latestSetup := List.mem_of_getElem? (i := 2) rfl
abbrev rm_X2_latestSetup : Room := { frames := 1, cells := 0, slots := 0, locals := 20 }
set_option maxHeartbeats 1200000 in
set_option maxRecDepth 100000 in
theorem k_X2_latestSetup (l : Launch) {G : va_G} {cy : Nat → ClassId} {ws0 : va_W} {q7 ahi ahsu ahco : Nat} {nx kp : Int} {hs9 : Int → Option Nat}    {asu : Nat} (h_hi : ws0[q7]? = some (ahi, .inr (2, [.ref ahsu, .ref ahco, .int (zI nx), .int (zI kp)]))) (h_hsu : ws0[q7 + 1]? = some (ahsu, aR cy 5 8 hs9)) (hnx : 0 ≤ nx ∧ nx < 8) (hkp : 0 ≤ kp ∧ kp ≤ 8) (hk0 : 0 < kp) (hls : hs9 ((nx + 7) % 8) = some asu) : MR l yX2_latestSetup wsX2_latestSetup rm_X2_latestSetup G cy [.ref ahi] ws0 (fun r u => r = some asu ∧ ws0 = u) := by
  refine MR.of (own := RX2) (cc := cX2_latestSetup) (nL := 1) (ret := (some (.object "SumColouring$Setup"))) (by decide) rfl rfl (Nat.le_of_ble_eq_true rfl) ?_
  intro p e s m below meth c A ls E h hl
  have hl : lv_has ls 1 [(0, .ref ahi)] := hl
  refine r_aload_n E 0 hl rfl dX2_latestSetup_0 ?_
  refine r_get (v := .int (zI kp)) E h h_hi rfl inn_X2_latestSetup_2 3 (by decide) fl_X2_latestSetup_25 rfl dX2_latestSetup_1 ?_
  refine r_if_le E 19 dX2_latestSetup_4 (by decide) (by omega) (fun c_4 => ?_) (fun c_4 => ?_)
  · skip
    exfalso; omega
  · skip
    refine r_aload_n E 0 hl rfl dX2_latestSetup_7 ?_
    refine r_get (v := .ref ahsu) E h h_hi rfl inn_X2_latestSetup_2 0 (by decide) fl_X2_latestSetup_11 rfl dX2_latestSetup_8 ?_
    refine r_aload_n E 0 hl rfl dX2_latestSetup_11 ?_
    refine r_callVI E h (As := []) (rest := [.ref ahsu]) (k_X2_latest l h_hi hnx) h_hi rfl gX2_latestSetup_X2_latest rfl hd_X2_latest (by decide) ⟨by decide, by decide⟩ hl.1 rfl (Nat.le_of_ble_eq_true rfl) dX2_latestSetup_12 rfl (fun z_12 ws H locs hp h => ?_)
    obtain ⟨rfl, rfl⟩ := hp
    refine r_aald E h rfl h_hsu (by omega) (by decide) dX2_latestSetup_15 (r := some asu) hls ?_
    refine r_goto E 20 dX2_latestSetup_16 (by decide) ?_
    exact r_aret E (Or.inl ⟨_, rfl⟩) h (r := some asu) ⟨rfl, rfl⟩ rfl dX2_latestSetup_20
set_option maxHeartbeats 1200000 in
set_option maxRecDepth 100000 in
theorem k_X2_latestSetup0 (l : Launch) {G : va_G} {cy : Nat → ClassId} {ws0 : va_W} {q7 ahi ahsu ahco : Nat} {nx kp : Int}     (h_hi : ws0[q7]? = some (ahi, .inr (2, [.ref ahsu, .ref ahco, .int (zI nx), .int (zI kp)]))) (hk0 : kp = 0) : MR l yX2_latestSetup wsX2_latestSetup rm_X2_latestSetup G cy [.ref ahi] ws0 (fun r u => r = none ∧ ws0 = u) := by
  refine MR.of (own := RX2) (cc := cX2_latestSetup) (nL := 1) (ret := (some (.object "SumColouring$Setup"))) (by decide) rfl rfl (Nat.le_of_ble_eq_true rfl) ?_
  intro p e s m below meth c A ls E h hl
  have hl : lv_has ls 1 [(0, .ref ahi)] := hl
  refine r_aload_n E 0 hl rfl dX2_latestSetup_0 ?_
  refine r_get (v := .int (zI kp)) E h h_hi rfl inn_X2_latestSetup_2 3 (by decide) fl_X2_latestSetup_25 rfl dX2_latestSetup_1 ?_
  refine r_if_le E 19 dX2_latestSetup_4 (by decide) (by omega) (fun c_4 => ?_) (fun c_4 => ?_)
  · skip
    refine r_null E dX2_latestSetup_19 ?_
    exact r_aret E (Or.inl ⟨_, rfl⟩) h (r := none) ⟨rfl, rfl⟩ rfl dX2_latestSetup_20
  · skip
    exfalso; omega
theorem hd_X2_remember : yX2_remember.cls = RX2 ∧ yX2_remember.cls ≠ "java/lang/invoke/MethodHandle" ∧ yX2_remember.cls ≠ "java/lang/invoke/VarHandle" ∧ (parseMethodDescriptor yX2_remember.desc).map (fun d => d.parameters.length) = some 2 := by decide +kernel
theorem fl_X2_remember_11 : Cond.fieldLink RX2 11 (TX2 0).1 (TX2 0).2.1 (TX2 0).2.2.1 ∈ wsX2_remember := List.mem_of_getElem? (i := 1) rfl
theorem inn_X2_remember_2 : ∀ w ∈ wsX20, w ∈ wsX2_remember := fun _ h => List.mem_cons_of_mem _ (List.mem_append_left _ (List.mem_append_right _ h))
theorem fl_X2_remember_21 : Cond.fieldLink RX2 21 (TX2 2).1 (TX2 2).2.1 (TX2 2).2.2.1 ∈ wsX2_remember := List.mem_of_getElem? (i := 2) rfl
theorem fl_X2_remember_17 : Cond.fieldLink RX2 17 (TX2 1).1 (TX2 1).2.1 (TX2 1).2.2.1 ∈ wsX2_remember := List.mem_of_getElem? (i := 3) rfl
theorem fl_X2_remember_25 : Cond.fieldLink RX2 25 (TX2 3).1 (TX2 3).2.1 (TX2 3).2.2.1 ∈ wsX2_remember := List.mem_of_getElem? (i := 4) rfl
abbrev rm_X2_remember : Room := { frames := 2, cells := 0, slots := 0, locals := 93 }
set_option maxHeartbeats 1200000 in
set_option maxRecDepth 100000 in
theorem k_X2_remember (l : Launch) {G : va_G} {cy : Nat → ClassId} {ws0 : va_W} {q7 ahi ahsu ahco : Nat} {nx kp : Int} {hs9 hcf : Int → Option Nat} {hac hap : Nat → Nat} {hF : Nat → Int64} {hP : Nat → Int → Int64} {q2 a2 ap2 qs asu ar9 afo : Nat} {u0 u1 : Int} {F2 : Int64} {P2 : Int → Int64} (h_hi : ws0[q7]? = some (ahi, .inr (2, [.ref ahsu, .ref ahco, .int (zI nx), .int (zI kp)]))) (h_hsu : ws0[q7 + 1]? = some (ahsu, aR cy 5 8 hs9)) (h_hco : ws0[q7 + 2]? = some (ahco, aR cy 3 8 hcf)) (h_su : ws0[qs]? = some (asu, .inr (6, [.int (zI u0), .int (zI u1), .ref ar9, .ref afo]))) (h_co : ws0[q2]? = some (a2, .inr (0, [.ref ap2, .long F2]))) (h_cop : ws0[q2 + 1]? = some (ap2, aL cy 4 P2)) (hnx : 0 ≤ nx ∧ nx < 8) (hkp : 0 ≤ kp ∧ kp ≤ 8) (hcc : ∀ i : Nat, i < 8 → hcf (i : Int) = some (hac i)) (hFc : ∀ i : Nat, i < 8 → ws0[q7 + 3 + 2 * i]? = some (hac i, .inr (0, [.ref (hap i), .long (hF i)])) ∧ ws0[q7 + 3 + 2 * i + 1]? = some (hap i, aL cy 4 (hP i))) (hq2 : q2 + 2 ≤ q7 ∨ q7 + 19 ≤ q2) (hqs : qs < q7 ∨ q7 + 19 ≤ qs) : MV l yX2_remember wsX2_remember rm_X2_remember G cy [.ref ahi, .ref asu, .ref a2] ws0 (fun u => u[q7]? = some (ahi, .inr (2, [.ref ahsu, .ref ahco, .int (zI ((nx + 1) % 8)), .int (zI (if kp < 8 then kp + 1 else 8))])) ∧ u[q7 + 1]? = some (ahsu, aR cy 5 8 (uZ hs9 nx (some asu))) ∧ u[q7 + 3 + 2 * nx.toNat]? = some (hac nx.toNat, .inr (0, [.ref (hap nx.toNat), .long F2])) ∧ u[q7 + 3 + 2 * nx.toNat + 1]? = some (hap nx.toNat, aL cy 4 P2) ∧ Eqx ws0 u (fun j => j = q7 ∨ j = q7 + 1 ∨ j = q7 + 3 + 2 * nx.toNat ∨ j = q7 + 3 + 2 * nx.toNat + 1)) := by
  refine MV.of (own := RX2) (cc := cX2_remember) (nL := 3) (ret := none) (by decide) rfl rfl (Nat.le_of_ble_eq_true rfl) ?_
  intro p e s m below meth c A ls hin E h hl
  have hl : lv_has ls 3 [(0, .ref ahi), (1, .ref asu), (2, .ref a2)] := hl
  have hE : Eqx ws0 ws0 (fun j => j = q7 ∨ j = q7 + 1 ∨ j = q7 + 3 + 2 * nx.toNat ∨ j = q7 + 3 + 2 * nx.toNat + 1) := Eqx.rf
  obtain ⟨h_hc, h_hcp⟩ := hFc nx.toNat (by omega)
  skip
  refine r_aload_n E 0 hl rfl dX2_remember_0 ?_
  refine r_get (v := .ref ahsu) E h h_hi rfl inn_X2_remember_2 0 (by decide) fl_X2_remember_11 rfl dX2_remember_1 ?_
  refine r_aload_n E 0 hl rfl dX2_remember_4 ?_
  refine r_get (v := .int (zI nx)) E h h_hi rfl inn_X2_remember_2 2 (by decide) fl_X2_remember_21 rfl dX2_remember_5 ?_
  refine r_aload_n E 1 hl rfl dX2_remember_8 ?_
  refine r_aast E h rfl h_hsu h_su rfl (by omega) (by decide) dX2_remember_9 (fun ws H locs h hu => ?_)
  have h_hi := hu.keep h_hi (by omega)
  have h_hsu : ws[q7 + 1]? = some (ahsu, aR cy 5 8 (uZ hs9 nx (some asu))) := hu.1
  have h_hco := hu.keep h_hco (by omega)
  have h_su := hu.keep h_su (by omega)
  have h_co := hu.keep h_co (by omega)
  have h_cop := hu.keep h_cop (by omega)
  have h_hc := hu.keep h_hc (by omega)
  have h_hcp := hu.keep h_hcp (by omega)
  have hE := hE.tr (hu.eqx (by first | omega | (dsimp only <;> omega)))
  refine r_aload_n E 0 hl rfl dX2_remember_10 ?_
  refine r_get (v := .ref ahco) E h h_hi rfl inn_X2_remember_2 1 (by decide) fl_X2_remember_17 rfl dX2_remember_11 ?_
  refine r_aload_n E 0 hl rfl dX2_remember_14 ?_
  refine r_get (v := .int (zI nx)) E h h_hi rfl inn_X2_remember_2 2 (by decide) fl_X2_remember_21 rfl dX2_remember_15 ?_
  refine r_aald E h rfl h_hco (by omega) (by decide) dX2_remember_18 (r := some (hac nx.toNat)) (by have := hcc nx.toNat (by omega); rwa [show ((nx.toNat : Nat) : Int) = nx by omega] at this) ?_
  refine r_aload_n E 2 hl rfl dX2_remember_19 ?_
  refine r_callVV E h (As := [.ref a2]) (rest := []) (k_X0_copyFrom l h_hc h_hcp h_co h_cop (by omega)) h_hc rfl gX2_remember_X0_copyFrom rfl hd_X0_copyFrom (by decide) ⟨by decide, by decide⟩ hl.1 rfl (Nat.le_of_ble_eq_true rfl) dX2_remember_20 rfl (fun ws H locs hp h => ?_)
  obtain ⟨h_hc, h_hcp, hf⟩ := hp
  have h_hi := hf.at h_hi (by first | omega | (dsimp only <;> omega))
  have h_hsu := hf.at h_hsu (by first | omega | (dsimp only <;> omega))
  have h_hco := hf.at h_hco (by first | omega | (dsimp only <;> omega))
  have h_su := hf.at h_su (by first | omega | (dsimp only <;> omega))
  have h_co := hf.at h_co (by first | omega | (dsimp only <;> omega))
  have h_cop := hf.at h_cop (by first | omega | (dsimp only <;> omega))
  have hE := hE.tr (hf.wk (fun j hj => by first | omega | (dsimp only at hj ⊢ <;> omega)))
  refine r_aload_n E 0 hl rfl dX2_remember_23 ?_
  refine r_aload_n E 0 hl rfl dX2_remember_24 ?_
  refine r_get (v := .int (zI nx)) E h h_hi rfl inn_X2_remember_2 2 (by decide) fl_X2_remember_21 rfl dX2_remember_25 ?_
  refine r_iconst E dX2_remember_28 ?_
  refine r_iadd E dX2_remember_29 ?_
  refine r_bipush E dX2_remember_30 (by decide) ?_
  refine r_irem E dX2_remember_32 (by omega) (by omega) ?_
  rw [tm8 (by omega)]
  skip
  refine r_put E h h_hi rfl inn_X2_remember_2 2 (by decide) fl_X2_remember_21 tyX2 tyX2_ok nmX2 rfl rfl rfl (Nat.le_of_ble_eq_true rfl) dX2_remember_33 (fun ws H locs h hu => ?_)
  have h_hi : ws[q7]? = some (ahi, .inr (2, [.ref ahsu, .ref ahco, .int (zI ((nx + 1) % 8)), .int (zI kp)])) := hu.1
  have h_hsu := hu.keep h_hsu (by omega)
  have h_hco := hu.keep h_hco (by omega)
  have h_su := hu.keep h_su (by omega)
  have h_co := hu.keep h_co (by omega)
  have h_cop := hu.keep h_cop (by omega)
  have h_hc := hu.keep h_hc (by omega)
  have h_hcp := hu.keep h_hcp (by omega)
  have hE := hE.tr (hu.eqx (by first | omega | (dsimp only <;> omega)))
  refine r_aload_n E 0 hl rfl dX2_remember_36 ?_
  refine r_aload_n E 0 hl rfl dX2_remember_37 ?_
  refine r_get (v := .int (zI kp)) E h h_hi rfl inn_X2_remember_2 3 (by decide) fl_X2_remember_25 rfl dX2_remember_38 ?_
  refine r_iconst E dX2_remember_41 ?_
  refine r_iadd E dX2_remember_42 ?_
  refine r_bipush E dX2_remember_43 (by decide) ?_
  refine r_mmin E (List.mem_of_getElem? (i := 5) rfl) (List.mem_of_getElem? (i := 6) rfl) (List.mem_of_getElem? (i := 7) rfl) (List.mem_of_getElem? (i := 8) rfl) hl.1 ⟨by decide, Nat.le_of_ble_eq_true rfl⟩ ⟨by decide, by decide⟩ (by omega) dX2_remember_45 (fun z_45 e_45 => ?_)
  have hz9 : z_45 = (if kp < 8 then kp + 1 else 8) := by split <;> omega
  refine r_put E h h_hi rfl inn_X2_remember_2 3 (by decide) fl_X2_remember_25 tyX2 tyX2_ok nmX2 rfl rfl rfl (Nat.le_of_ble_eq_true rfl) dX2_remember_48 (fun ws H locs h hu => ?_)
  have h_hi : ws[q7]? = some (ahi, .inr (2, [.ref ahsu, .ref ahco, .int (zI ((nx + 1) % 8)), .int (zI z_45)])) := hu.1
  have h_hsu := hu.keep h_hsu (by omega)
  have h_hco := hu.keep h_hco (by omega)
  have h_su := hu.keep h_su (by omega)
  have h_co := hu.keep h_co (by omega)
  have h_cop := hu.keep h_cop (by omega)
  have h_hc := hu.keep h_hc (by omega)
  have h_hcp := hu.keep h_hcp (by omega)
  have hE := hE.tr (hu.eqx (by first | omega | (dsimp only <;> omega)))
  exact r_vret E h ⟨by rw [← hz9]; exact h_hi, h_hsu, h_hc, h_hcp, hE⟩ dX2_remember_51
theorem hd_X2_takeBack : yX2_takeBack.cls = RX2 ∧ yX2_takeBack.cls ≠ "java/lang/invoke/MethodHandle" ∧ yX2_takeBack.cls ≠ "java/lang/invoke/VarHandle" ∧ (parseMethodDescriptor yX2_takeBack.desc).map (fun d => d.parameters.length) = some 1 := by decide +kernel
theorem fl_X2_takeBack_25 : Cond.fieldLink RX2 25 (TX2 3).1 (TX2 3).2.1 (TX2 3).2.2.1 ∈ wsX2_takeBack := List.mem_of_getElem? (i := 1) rfl
theorem inn_X2_takeBack_2 : ∀ w ∈ wsX20, w ∈ wsX2_takeBack := fun _ h => List.mem_cons_of_mem _ (List.mem_append_left _ (List.mem_append_right _ h))
theorem fl_X2_takeBack_21 : Cond.fieldLink RX2 21 (TX2 2).1 (TX2 2).2.1 (TX2 2).2.2.1 ∈ wsX2_takeBack := List.mem_of_getElem? (i := 2) rfl
theorem fl_X2_takeBack_17 : Cond.fieldLink RX2 17 (TX2 1).1 (TX2 1).2.1 (TX2 1).2.2.1 ∈ wsX2_takeBack := List.mem_of_getElem? (i := 3) rfl
abbrev rm_X2_takeBack : Room := { frames := 2, cells := 0, slots := 0, locals := 93 }
set_option maxHeartbeats 1200000 in
set_option maxRecDepth 100000 in
theorem k_X2_takeBack (l : Launch) {G : va_G} {cy : Nat → ClassId} {ws0 : va_W} {q7 ahi ahsu ahco : Nat} {nx kp : Int} {hs9 hcf : Int → Option Nat} {hac hap : Nat → Nat} {hF : Nat → Int64} {hP : Nat → Int → Int64} {q2 a2 ap2 : Nat} {F2 : Int64} {P2 : Int → Int64} (h_hi : ws0[q7]? = some (ahi, .inr (2, [.ref ahsu, .ref ahco, .int (zI nx), .int (zI kp)]))) (h_hsu : ws0[q7 + 1]? = some (ahsu, aR cy 5 8 hs9)) (h_hco : ws0[q7 + 2]? = some (ahco, aR cy 3 8 hcf)) (h_co : ws0[q2]? = some (a2, .inr (0, [.ref ap2, .long F2]))) (h_cop : ws0[q2 + 1]? = some (ap2, aL cy 4 P2)) (hnx : 0 ≤ nx ∧ nx < 8) (hkp : 0 ≤ kp ∧ kp ≤ 8) (hcc : ∀ i : Nat, i < 8 → hcf (i : Int) = some (hac i)) (hFc : ∀ i : Nat, i < 8 → ws0[q7 + 3 + 2 * i]? = some (hac i, .inr (0, [.ref (hap i), .long (hF i)])) ∧ ws0[q7 + 3 + 2 * i + 1]? = some (hap i, aL cy 4 (hP i))) (hq2 : q2 + 2 ≤ q7 ∨ q7 + 19 ≤ q2) (hk0 : 0 < kp) : MV l yX2_takeBack wsX2_takeBack rm_X2_takeBack G cy [.ref ahi, .ref a2] ws0 (fun u => u[q7]? = some (ahi, .inr (2, [.ref ahsu, .ref ahco, .int (zI ((nx + 7) % 8)), .int (zI (kp - 1))])) ∧ u[q2]? = some (a2, .inr (0, [.ref ap2, .long (hF ((nx + 7) % 8).toNat)])) ∧ u[q2 + 1]? = some (ap2, aL cy 4 (hP ((nx + 7) % 8).toNat)) ∧ Eqx ws0 u (fun j => j = q7 ∨ j = q2 ∨ j = q2 + 1)) := by
  refine MV.of (own := RX2) (cc := cX2_takeBack) (nL := 2) (ret := none) (by decide) rfl rfl (Nat.le_of_ble_eq_true rfl) ?_
  intro p e s m below meth c A ls hin E h hl
  have hl : lv_has ls 2 [(0, .ref ahi), (1, .ref a2)] := hl
  have hE : Eqx ws0 ws0 (fun j => j = q7 ∨ j = q2 ∨ j = q2 + 1) := Eqx.rf
  refine r_aload_n E 0 hl rfl dX2_takeBack_0 ?_
  refine r_get (v := .int (zI kp)) E h h_hi rfl inn_X2_takeBack_2 3 (by decide) fl_X2_takeBack_25 rfl dX2_takeBack_1 ?_
  refine r_if_le E 38 dX2_takeBack_4 (by decide) (by omega) (fun c_4 => ?_) (fun c_4 => ?_)
  · skip
    exfalso; omega
  · skip
    refine r_aload_n E 0 hl rfl dX2_takeBack_7 ?_
    refine r_aload_n E 0 hl rfl dX2_takeBack_8 ?_
    refine r_callVI E h (As := []) (rest := [.ref ahi]) (k_X2_latest l h_hi hnx) h_hi rfl gX2_takeBack_X2_latest rfl hd_X2_latest (by decide) ⟨by decide, by decide⟩ hl.1 rfl (Nat.le_of_ble_eq_true rfl) dX2_takeBack_9 rfl (fun z_9 ws H locs hp h => ?_)
    obtain ⟨rfl, rfl⟩ := hp
    refine r_put E h h_hi rfl inn_X2_takeBack_2 2 (by decide) fl_X2_takeBack_21 tyX2 tyX2_ok nmX2 rfl rfl rfl (Nat.le_of_ble_eq_true rfl) dX2_takeBack_12 (fun ws H locs h hu => ?_)
    have h_hi : ws[q7]? = some (ahi, .inr (2, [.ref ahsu, .ref ahco, .int (zI ((nx + 7) % 8)), .int (zI kp)])) := hu.1
    have h_hsu := hu.keep h_hsu (by omega)
    have h_hco := hu.keep h_hco (by omega)
    have h_co := hu.keep h_co (by omega)
    have h_cop := hu.keep h_cop (by omega)
    have hE := hE.tr (hu.eqx (by first | omega | (dsimp only <;> omega)))
    refine r_aload_n E 0 hl rfl dX2_takeBack_15 ?_
    refine r_dup E dX2_takeBack_16 rfl ?_
    refine r_get (v := .int (zI kp)) E h h_hi rfl inn_X2_takeBack_2 3 (by decide) fl_X2_takeBack_25 rfl dX2_takeBack_17 ?_
    refine r_iconst E dX2_takeBack_20 ?_
    refine r_isub E dX2_takeBack_21 ?_
    refine r_put E h h_hi rfl inn_X2_takeBack_2 3 (by decide) fl_X2_takeBack_25 tyX2 tyX2_ok nmX2 rfl rfl rfl (Nat.le_of_ble_eq_true rfl) dX2_takeBack_22 (fun ws H locs h hu => ?_)
    have h_hi : ws[q7]? = some (ahi, .inr (2, [.ref ahsu, .ref ahco, .int (zI ((nx + 7) % 8)), .int (zI (kp - 1))])) := hu.1
    have h_hsu := hu.keep h_hsu (by omega)
    have h_hco := hu.keep h_hco (by omega)
    have h_co := hu.keep h_co (by omega)
    have h_cop := hu.keep h_cop (by omega)
    have hE := hE.tr (hu.eqx (by first | omega | (dsimp only <;> omega)))
    refine r_aload_n E 1 hl rfl dX2_takeBack_25 ?_
    have hlt : 0 ≤ (nx + 7) % 8 ∧ (nx + 7) % 8 < 8 := by omega
    obtain ⟨hc1, hc2⟩ := hFc (Int.toNat ((nx + 7) % 8)) (by omega)
    have h_hc := hE.at hc1 (by omega)
    have h_hcp := hE.at hc2 (by omega)
    skip
    refine r_aload_n E 0 hl rfl dX2_takeBack_26 ?_
    refine r_get (v := .ref ahco) E h h_hi rfl inn_X2_takeBack_2 1 (by decide) fl_X2_takeBack_17 rfl dX2_takeBack_27 ?_
    refine r_aload_n E 0 hl rfl dX2_takeBack_30 ?_
    refine r_get (v := .int (zI ((nx + 7) % 8))) E h h_hi rfl inn_X2_takeBack_2 2 (by decide) fl_X2_takeBack_21 rfl dX2_takeBack_31 ?_
    refine r_aald E h rfl h_hco (by omega) (by decide) dX2_takeBack_34 (r := some (hac (Int.toNat ((nx + 7) % 8)))) (by have := hcc (Int.toNat ((nx + 7) % 8)) (by omega); rwa [show ((Int.toNat ((nx + 7) % 8) : Nat) : Int) = (nx + 7) % 8 by omega] at this) ?_
    refine r_callVV E h (As := [.ref ((hac (Int.toNat ((nx + 7) % 8))))]) (rest := []) (k_X0_copyFrom l h_co h_cop h_hc h_hcp (by omega)) h_co rfl gX2_takeBack_X0_copyFrom rfl hd_X0_copyFrom (by decide) ⟨by decide, by decide⟩ hl.1 rfl (Nat.le_of_ble_eq_true rfl) dX2_takeBack_35 rfl (fun ws H locs hp h => ?_)
    obtain ⟨h_co, h_cop, hf⟩ := hp
    have h_hi := hf.at h_hi (by first | omega | (dsimp only <;> omega))
    have h_hsu := hf.at h_hsu (by first | omega | (dsimp only <;> omega))
    have h_hco := hf.at h_hco (by first | omega | (dsimp only <;> omega))
    have h_hc := hf.at h_hc (by first | omega | (dsimp only <;> omega))
    have h_hcp := hf.at h_hcp (by first | omega | (dsimp only <;> omega))
    have hE := hE.tr (hf.wk (fun j hj => by first | omega | (dsimp only at hj ⊢ <;> omega)))
    exact r_vret E h ⟨h_hi, h_co, h_cop, hE⟩ dX2_takeBack_38
