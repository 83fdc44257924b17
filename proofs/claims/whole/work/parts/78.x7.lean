theorem hd_X10_undo : yX10_undo.cls = RX10 ∧ yX10_undo.cls ≠ "java/lang/invoke/MethodHandle" ∧ yX10_undo.cls ≠ "java/lang/invoke/VarHandle" ∧ (parseMethodDescriptor yX10_undo.desc).map (fun d => d.parameters.length) = some 0 := by decide +kernel
theorem fl_X10_undo_58 : Cond.fieldLink RX10 58 (TX10 9).1 (TX10 9).2.1 (TX10 9).2.2.1 ∈ wsX10_undo := List.mem_of_getElem? (i := 1) rfl
theorem inn_X10_undo_10 : ∀ w ∈ wsX100, w ∈ wsX10_undo := fun _ h => List.mem_cons_of_mem _ (List.mem_append_left _ (List.mem_append_left _ (List.mem_append_left _ (List.mem_append_left _ (List.mem_append_left _ (List.mem_append_left _ (List.mem_append_right _ h)))))))
theorem fl_X10_undo_37 : Cond.fieldLink RX10 37 (TX10 6).1 (TX10 6).2.1 (TX10 6).2.2.1 ∈ wsX10_undo := List.mem_of_getElem? (i := 2) rfl
theorem fl_X10_undo_74 : Cond.fieldLink RX10 74 (TX10 3).1 (TX10 3).2.1 (TX10 3).2.2.1 ∈ wsX10_undo := List.mem_of_getElem? (i := 3) rfl
theorem fl_X10_undo_30 : Cond.fieldLink RX10 30 (TX10 5).1 (TX10 5).2.1 (TX10 5).2.2.1 ∈ wsX10_undo := List.mem_of_getElem? (i := 4) rfl
abbrev rm_X10_undo : Room := { frames := 6, cells := 0, slots := 0, locals := 143 }
set_option maxHeartbeats 1200000 in
set_option maxRecDepth 100000 in
theorem k_X10_undo (l : Launch) {G : va_G} {cy : Nat → ClassId} {ws0 : va_W} {qx ax ain asu ard a a2 asr arp ahi : Nat} {inl erp : Int} {aold : Nat} {q ase awr art awt are ars : Nat} {se re : Int → Int64} {wr rt wt rs : Int → Int} {sz riw : Int} {q2 ap2 : Nat} {F2 : Int64} {P2 : Int → Int64} {q7 ahsu ahco : Nat} {nx kp : Int} {hs9 hcf : Int → Option Nat} {hac hap : Nat → Nat} {hF : Nat → Int64} {hP : Nat → Int → Int64} {qf afo qt9 atk qs9 ask : Nat} {st9 : Int → Int} {qs qra ar9 : Nat} {rA : Int → Option Nat} {rr : Nat → Nat} {d : Int → Int} {T : List Int} (h_x0 : ws0[qx]? = some (ax, .inr (10, [.ref ain, .int (zI inl), .int (zI erp), .ref aold, .ref ard, .ref a, .ref a2, .ref asr, .ref arp, .ref ahi]))) (h_co : ws0[q2]? = some (a2, .inr (0, [.ref ap2, .long F2]))) (h_cop : ws0[q2 + 1]? = some (ap2, aL cy 4 P2)) (h_hi : ws0[q7]? = some (ahi, .inr (2, [.ref ahsu, .ref ahco, .int (zI nx), .int (zI kp)]))) (h_hsu : ws0[q7 + 1]? = some (ahsu, aR cy 5 8 hs9)) (h_hco : ws0[q7 + 2]? = some (ahco, aR cy 3 8 hcf)) (h_tb : ws0[q]? = some (a, .inr (8, [.ref ase, .ref awr, .int (zI sz), .ref art, .int (zI riw), .ref awt, .ref are, .ref ars]))) (h_se : ws0[q + 1]? = some (ase, aL cy 6400 se)) (h_wr : ws0[q + 2]? = some (awr, aI cy 6400 wr)) (h_rt : ws0[q + 3]? = some (art, aI cy 5 rt)) (h_wt : ws0[q + 4]? = some (awt, aI cy 656 wt)) (h_re : ws0[q + 5]? = some (are, aL cy 19200 re)) (h_rs : ws0[q + 6]? = some (ars, aI cy 42 rs)) (h_su : ws0[qs]? = some (asu, .inr (6, [.int (zI (d 0)), .int (zI (d 1)), .ref ar9, .ref afo]))) (h_sur : ws0[qra]? = some (ar9, aR cy 4 ((d 2).toNat) rA)) (h_fo : ws0[qf]? = some (afo, .inr (1, [.ref atk, .ref ask]))) (h_tk : ws0[qt9]? = some (atk, aI cy T.length (tkF T))) (h_sk : ws0[qs9]? = some (ask, aI cy 11 st9)) (hlay : q = qx + 9 ∧ q2 = qx + 16 ∧ q7 = qx + 27) (hpq : (qs < qx ∨ qx + 46 ≤ qs) ∧ (qf < qx ∨ qx + 46 ≤ qf) ∧ (qt9 < qx ∨ qx + 46 ≤ qt9) ∧ (qs9 < qx ∨ qx + 46 ≤ qs9) ∧ (qra < qx ∨ qx + 46 ≤ qra)) (hpn : qf ≠ qs9 ∧ qt9 ≠ qs9 ∧ qs ≠ qs9 ∧ qra ≠ qs9) (hD : DW d T) (hTl : T.length ≤ 600) (hne : asu ≠ aold) (hrA : ∀ r : Nat, (r : Int) < d 2 → rA (r : Int) = some (rr r)) (hRu : ∀ r : Nat, (r : Int) < d 2 → ∃ (qq : Nat) (v1 v2 v3 v4 v5 : Int), ws0[qq]? = some (rr r, .inr (4, [.int (zI (d (5 + 6 * (r : Int)))), .int (zI v1), .int (zI v2), .int (zI v3), .int (zI v4), .int (zI v5)])) ∧ ((qq < qx ∨ qx + 46 ≤ qq) ∧ qq ≠ qs9) ∧ (d (5 + 6 * (r : Int)) = 0 → v1 = d (6 + 6 * (r : Int)) ∧ v2 = d (7 + 6 * (r : Int)) ∧ v3 = d (8 + 6 * (r : Int)) ∧ v4 = d (9 + 6 * (r : Int)) ∧ v5 = d (10 + 6 * (r : Int)))) (hnx : 0 ≤ nx ∧ nx < 8) (hkp : 0 ≤ kp ∧ kp ≤ 8) (hcc : ∀ i : Nat, i < 8 → hcf (i : Int) = some (hac i)) (hFc : ∀ i : Nat, i < 8 → ws0[q7 + 3 + 2 * i]? = some (hac i, .inr (0, [.ref (hap i), .long (hF i)])) ∧ ws0[q7 + 3 + 2 * i + 1]? = some (hap i, aL cy 4 (hP i))) (hk0 : 0 < kp) (hls : hs9 ((nx + 7) % 8) = some asu) : MIk l yX10_undo wsX10_undo rm_X10_undo G cy [.ref ax] ws0 (fun z u => z = kp - 1 ∧ u[qx]? = some (ax, .inr (10, [.ref ain, .int (zI inl), .int (zI erp), .ref asu, .ref ard, .ref a, .ref a2, .ref asr, .ref arp, .ref ahi])) ∧ (∃ (se2 re2 : Int → Int64) (wr2 rt2 wt2 rs2 st2 : Int → Int) (riw2 : Int), u[q]? = some (a, .inr (8, [.ref ase, .ref awr, .int (zI (((KL d).length : Int))), .ref art, .int (zI riw2), .ref awt, .ref are, .ref ars])) ∧ u[q + 1]? = some (ase, aL cy 6400 se2) ∧ u[q + 2]? = some (awr, aI cy 6400 wr2) ∧ u[q + 3]? = some (art, aI cy 5 rt2) ∧ u[q + 4]? = some (awt, aI cy 656 wt2) ∧ u[q + 5]? = some (are, aL cy 19200 re2) ∧ u[q + 6]? = some (ars, aI cy 42 rs2) ∧ u[qs9]? = some (ask, aI cy 11 st2) ∧ TW d T se2 wr2 rt2 wt2 re2 rs2 (KL d).length) ∧ u[q7]? = some (ahi, .inr (2, [.ref ahsu, .ref ahco, .int (zI ((nx + 7) % 8)), .int (zI (kp - 1))])) ∧ u[q2]? = some (a2, .inr (0, [.ref ap2, .long (hF ((nx + 7) % 8).toNat)])) ∧ u[q2 + 1]? = some (ap2, aL cy 4 (hP ((nx + 7) % 8).toNat)) ∧ Eqx ws0 u (fun j => j = qx ∨ j = q7 ∨ j = q2 ∨ j = q2 + 1 ∨ (q ≤ j ∧ j < q + 7) ∨ j = qs9)) := by
  refine MIk.of (own := RX10) (cc := cX10_undo) (nL := 2) (ret := (some .int)) (by decide) rfl rfl (Nat.le_of_ble_eq_true rfl) ?_
  intro p e s m below meth c A ls hX E h hl
  have hl : lv_has ls 2 [(0, .ref ax)] := hl
  have hE : Eqx ws0 ws0 (fun j => j = qx ∨ j = q7 ∨ j = q2 ∨ j = q2 + 1 ∨ (q ≤ j ∧ j < q + 7) ∨ j = qs9) := Eqx.rf
  have hk9 := hD.k
  refine r_aload_n E 0 hl rfl dX10_undo_0 ?_
  refine r_get (v := .ref ahi) E h h_x0 rfl inn_X10_undo_10 9 (by decide) fl_X10_undo_58 rfl dX10_undo_1 ?_
  refine r_callVR E h (As := []) (rest := []) (k_X2_latestSetup l h_hi h_hsu hnx hkp hk0 hls) h_hi rfl gX10_undo_X2_latestSetup rfl hd_X2_latestSetup (by decide) ⟨by decide, by decide⟩ hl.1 rfl (Nat.le_of_ble_eq_true rfl) dX10_undo_4 rfl (fun z_4 ws H locs hp h => ?_)
  obtain ⟨rfl, rfl⟩ := hp
  refine r_astore_n (lv' := [(1, .ref asu), (0, .ref ax)]) E hl dX10_undo_7 rfl (by decide) rfl (fun ls hl => ?_)
  refine r_aload_n E 0 hl rfl dX10_undo_8 ?_
  refine r_ifnn E 14 dX10_undo_9 (by decide) ?_
  refine r_aload_n E 1 hl rfl dX10_undo_14 ?_
  refine r_get (v := .ref ahi) E h h_x0 rfl inn_X10_undo_10 9 (by decide) fl_X10_undo_58 rfl dX10_undo_15 ?_
  refine r_aload_n E 1 hl rfl dX10_undo_18 ?_
  refine r_get (v := .ref a2) E h h_x0 rfl inn_X10_undo_10 6 (by decide) fl_X10_undo_37 rfl dX10_undo_19 ?_
  refine r_callVV E h (As := [.ref a2]) (rest := []) (k_X2_takeBack l h_hi h_hsu h_hco h_co h_cop hnx hkp hcc hFc (by omega) hk0) h_hi rfl gX10_undo_X2_takeBack rfl hd_X2_takeBack (by decide) ⟨by decide, by decide⟩ hl.1 rfl (Nat.le_of_ble_eq_true rfl) dX10_undo_22 rfl (fun ws H locs hp h => ?_)
  obtain ⟨h_hi, h_co, h_cop, hf⟩ := hp
  have h_x0 := hf.at h_x0 (by first | omega | (dsimp only <;> omega))
  have h_hsu := hf.at h_hsu (by first | omega | (dsimp only <;> omega))
  have h_hco := hf.at h_hco (by first | omega | (dsimp only <;> omega))
  have h_tb := hf.at h_tb (by first | omega | (dsimp only <;> omega))
  have h_se := hf.at h_se (by first | omega | (dsimp only <;> omega))
  have h_wr := hf.at h_wr (by first | omega | (dsimp only <;> omega))
  have h_rt := hf.at h_rt (by first | omega | (dsimp only <;> omega))
  have h_wt := hf.at h_wt (by first | omega | (dsimp only <;> omega))
  have h_re := hf.at h_re (by first | omega | (dsimp only <;> omega))
  have h_rs := hf.at h_rs (by first | omega | (dsimp only <;> omega))
  have h_su := hf.at h_su (by first | omega | (dsimp only <;> omega))
  have h_sur := hf.at h_sur (by first | omega | (dsimp only <;> omega))
  have h_fo := hf.at h_fo (by first | omega | (dsimp only <;> omega))
  have h_tk := hf.at h_tk (by first | omega | (dsimp only <;> omega))
  have h_sk := hf.at h_sk (by first | omega | (dsimp only <;> omega))
  have hE := hE.tr (hf.wk (fun j hj => by first | omega | (dsimp only at hj ⊢ <;> omega)))
  refine r_aload_n E 0 hl rfl dX10_undo_25 ?_
  refine r_aload_n E 1 hl rfl dX10_undo_26 ?_
  refine r_get (v := .ref aold) E h h_x0 rfl inn_X10_undo_10 3 (by decide) fl_X10_undo_74 rfl dX10_undo_27 ?_
  refine r_acmp_eq E 49 dX10_undo_30 (by decide) (fun c_30 => ?_) (fun c_30 => ?_)
  · skip
    exfalso; exact hne c_30
  · skip
    refine r_aload_n E 1 hl rfl dX10_undo_33 ?_
    refine r_aload_n E 0 hl rfl dX10_undo_34 ?_
    refine r_put E h h_x0 rfl inn_X10_undo_10 3 (by decide) fl_X10_undo_74 tyX10 tyX10_ok nmX10 rfl rfl rfl (Nat.le_of_ble_eq_true rfl) dX10_undo_35 (fun ws H locs h hu => ?_)
    have h_x0 : ws[qx]? = some (ax, .inr (10, [.ref ain, .int (zI inl), .int (zI erp), .ref asu, .ref ard, .ref a, .ref a2, .ref asr, .ref arp, .ref ahi])) := hu.1
    have h_co := hu.keep h_co (by omega)
    have h_cop := hu.keep h_cop (by omega)
    have h_hi := hu.keep h_hi (by omega)
    have h_hsu := hu.keep h_hsu (by omega)
    have h_hco := hu.keep h_hco (by omega)
    have h_tb := hu.keep h_tb (by omega)
    have h_se := hu.keep h_se (by omega)
    have h_wr := hu.keep h_wr (by omega)
    have h_rt := hu.keep h_rt (by omega)
    have h_wt := hu.keep h_wt (by omega)
    have h_re := hu.keep h_re (by omega)
    have h_rs := hu.keep h_rs (by omega)
    have h_su := hu.keep h_su (by omega)
    have h_sur := hu.keep h_sur (by omega)
    have h_fo := hu.keep h_fo (by omega)
    have h_tk := hu.keep h_tk (by omega)
    have h_sk := hu.keep h_sk (by omega)
    have hE := hE.tr (hu.eqx (by first | omega | (dsimp only <;> omega)))
    refine r_aload_n E 1 hl rfl dX10_undo_38 ?_
    refine r_get (v := .ref a) E h h_x0 rfl inn_X10_undo_10 5 (by decide) fl_X10_undo_30 rfl dX10_undo_39 ?_
    refine r_aload_n E 1 hl rfl dX10_undo_42 ?_
    refine r_get (v := .ref asu) E h h_x0 rfl inn_X10_undo_10 3 (by decide) fl_X10_undo_74 rfl dX10_undo_43 ?_
    refine r_callVkV E hX h (As := [.ref asu]) (rest := []) (k_X8_prepare l h_tb h_se h_wr h_rt h_wt h_re h_rs h_su h_sur h_fo h_tk h_sk (by omega) (by omega) (by omega) (by omega) hD hTl hrA (fun r hr => by
    obtain ⟨qq, v1, v2, v3, v4, v5, h1, h2, h3⟩ := hRu r hr
    exact ⟨qq, v1, v2, v3, v4, v5, hE.at h1 (by omega), by omega, h3⟩)) h_tb rfl gX10_undo_X8_prepare rfl hd_X8_prepare (by decide) ⟨by decide, by decide⟩ hl.1 rfl (Nat.le_of_ble_eq_true rfl) dX10_undo_46 rfl (fun ws H locs hp h => ?_)
    obtain ⟨se_46, re_46, wr_46, rt_46, wt_46, rs_46, st_46, riw_46, h_tb, h_se, h_wr, h_rt, h_wt, h_re, h_rs, h_sk, e_46, hf⟩ := hp
    have h_x0 := hf.at h_x0 (by first | omega | (dsimp only <;> omega))
    have h_co := hf.at h_co (by first | omega | (dsimp only <;> omega))
    have h_cop := hf.at h_cop (by first | omega | (dsimp only <;> omega))
    have h_hi := hf.at h_hi (by first | omega | (dsimp only <;> omega))
    have h_hsu := hf.at h_hsu (by first | omega | (dsimp only <;> omega))
    have h_hco := hf.at h_hco (by first | omega | (dsimp only <;> omega))
    have h_su := hf.at h_su (by first | omega | (dsimp only <;> omega))
    have h_sur := hf.at h_sur (by first | omega | (dsimp only <;> omega))
    have h_fo := hf.at h_fo (by first | omega | (dsimp only <;> omega))
    have h_tk := hf.at h_tk (by first | omega | (dsimp only <;> omega))
    have hE := hE.tr (hf.wk (fun j hj => by first | omega | (dsimp only at hj ⊢ <;> omega)))
    refine r_aload_n E 1 hl rfl dX10_undo_49 ?_
    refine r_get (v := .ref ahi) E h h_x0 rfl inn_X10_undo_10 9 (by decide) fl_X10_undo_58 rfl dX10_undo_50 ?_
    refine r_callVI E h (As := []) (rest := []) (k_X2_size l h_hi) h_hi rfl gX10_undo_X2_size rfl hd_X2_size (by decide) ⟨by decide, by decide⟩ hl.1 rfl (Nat.le_of_ble_eq_true rfl) dX10_undo_53 rfl (fun z_53 ws H locs hp h => ?_)
    obtain ⟨rfl, rfl⟩ := hp
    exact r_iret E h ⟨rfl, h_x0, ⟨se_46, re_46, wr_46, rt_46, wt_46, rs_46, st_46, riw_46, h_tb, h_se, h_wr, h_rt, h_wt, h_re, h_rs, h_sk, e_46⟩, h_hi, h_co, h_cop, hE⟩ dX10_undo_56
set_option maxHeartbeats 1200000 in
set_option maxRecDepth 100000 in
theorem k_X10_undoS (l : Launch) {G : va_G} {cy : Nat → ClassId} {ws0 : va_W} {qx ax ain asu ard a a2 asr arp ahi : Nat} {inl erp : Int} {q2 ap2 : Nat} {F2 : Int64} {P2 : Int → Int64} {q7 ahsu ahco : Nat} {nx kp : Int} {hs9 hcf : Int → Option Nat} {hac hap : Nat → Nat} {hF : Nat → Int64} {hP : Nat → Int → Int64} (h_x0 : ws0[qx]? = some (ax, .inr (10, [.ref ain, .int (zI inl), .int (zI erp), .ref asu, .ref ard, .ref a, .ref a2, .ref asr, .ref arp, .ref ahi]))) (h_co : ws0[q2]? = some (a2, .inr (0, [.ref ap2, .long F2]))) (h_cop : ws0[q2 + 1]? = some (ap2, aL cy 4 P2)) (h_hi : ws0[q7]? = some (ahi, .inr (2, [.ref ahsu, .ref ahco, .int (zI nx), .int (zI kp)]))) (h_hsu : ws0[q7 + 1]? = some (ahsu, aR cy 5 8 hs9)) (h_hco : ws0[q7 + 2]? = some (ahco, aR cy 3 8 hcf)) (hlay : q2 = qx + 16 ∧ q7 = qx + 27) (hnx : 0 ≤ nx ∧ nx < 8) (hkp : 0 ≤ kp ∧ kp ≤ 8) (hcc : ∀ i : Nat, i < 8 → hcf (i : Int) = some (hac i)) (hFc : ∀ i : Nat, i < 8 → ws0[q7 + 3 + 2 * i]? = some (hac i, .inr (0, [.ref (hap i), .long (hF i)])) ∧ ws0[q7 + 3 + 2 * i + 1]? = some (hap i, aL cy 4 (hP i))) (hk0 : 0 < kp) (hls : hs9 ((nx + 7) % 8) = some asu) : MIk l yX10_undo wsX10_undo rm_X10_undo G cy [.ref ax] ws0 (fun z u => z = kp - 1 ∧ u[q7]? = some (ahi, .inr (2, [.ref ahsu, .ref ahco, .int (zI ((nx + 7) % 8)), .int (zI (kp - 1))])) ∧ u[q2]? = some (a2, .inr (0, [.ref ap2, .long (hF ((nx + 7) % 8).toNat)])) ∧ u[q2 + 1]? = some (ap2, aL cy 4 (hP ((nx + 7) % 8).toNat)) ∧ Eqx ws0 u (fun j => j = q7 ∨ j = q2 ∨ j = q2 + 1)) := by
  refine MIk.of (own := RX10) (cc := cX10_undo) (nL := 2) (ret := (some .int)) (by decide) rfl rfl (Nat.le_of_ble_eq_true rfl) ?_
  intro p e s m below meth c A ls hX E h hl
  have hl : lv_has ls 2 [(0, .ref ax)] := hl
  have hE : Eqx ws0 ws0 (fun j => j = q7 ∨ j = q2 ∨ j = q2 + 1) := Eqx.rf
  refine r_aload_n E 0 hl rfl dX10_undo_0 ?_
  refine r_get (v := .ref ahi) E h h_x0 rfl inn_X10_undo_10 9 (by decide) fl_X10_undo_58 rfl dX10_undo_1 ?_
  refine r_callVR E h (As := []) (rest := []) (k_X2_latestSetup l h_hi h_hsu hnx hkp hk0 hls) h_hi rfl gX10_undo_X2_latestSetup rfl hd_X2_latestSetup (by decide) ⟨by decide, by decide⟩ hl.1 rfl (Nat.le_of_ble_eq_true rfl) dX10_undo_4 rfl (fun z_4 ws H locs hp h => ?_)
  obtain ⟨rfl, rfl⟩ := hp
  refine r_astore_n (lv' := [(1, .ref asu), (0, .ref ax)]) E hl dX10_undo_7 rfl (by decide) rfl (fun ls hl => ?_)
  refine r_aload_n E 0 hl rfl dX10_undo_8 ?_
  refine r_ifnn E 14 dX10_undo_9 (by decide) ?_
  refine r_aload_n E 1 hl rfl dX10_undo_14 ?_
  refine r_get (v := .ref ahi) E h h_x0 rfl inn_X10_undo_10 9 (by decide) fl_X10_undo_58 rfl dX10_undo_15 ?_
  refine r_aload_n E 1 hl rfl dX10_undo_18 ?_
  refine r_get (v := .ref a2) E h h_x0 rfl inn_X10_undo_10 6 (by decide) fl_X10_undo_37 rfl dX10_undo_19 ?_
  refine r_callVV E h (As := [.ref a2]) (rest := []) (k_X2_takeBack l h_hi h_hsu h_hco h_co h_cop hnx hkp hcc hFc (by omega) hk0) h_hi rfl gX10_undo_X2_takeBack rfl hd_X2_takeBack (by decide) ⟨by decide, by decide⟩ hl.1 rfl (Nat.le_of_ble_eq_true rfl) dX10_undo_22 rfl (fun ws H locs hp h => ?_)
  obtain ⟨h_hi, h_co, h_cop, hf⟩ := hp
  have h_x0 := hf.at h_x0 (by first | omega | (dsimp only <;> omega))
  have h_hsu := hf.at h_hsu (by first | omega | (dsimp only <;> omega))
  have h_hco := hf.at h_hco (by first | omega | (dsimp only <;> omega))
  have hE := hE.tr (hf.wk (fun j hj => by first | omega | (dsimp only at hj ⊢ <;> omega)))
  refine r_aload_n E 0 hl rfl dX10_undo_25 ?_
  refine r_aload_n E 1 hl rfl dX10_undo_26 ?_
  refine r_get (v := .ref asu) E h h_x0 rfl inn_X10_undo_10 3 (by decide) fl_X10_undo_74 rfl dX10_undo_27 ?_
  refine r_acmp_eq E 49 dX10_undo_30 (by decide) (fun c_30 => ?_) (fun c_30 => ?_)
  · skip
    refine r_aload_n E 1 hl rfl dX10_undo_49 ?_
    refine r_get (v := .ref ahi) E h h_x0 rfl inn_X10_undo_10 9 (by decide) fl_X10_undo_58 rfl dX10_undo_50 ?_
    refine r_callVI E h (As := []) (rest := []) (k_X2_size l h_hi) h_hi rfl gX10_undo_X2_size rfl hd_X2_size (by decide) ⟨by decide, by decide⟩ hl.1 rfl (Nat.le_of_ble_eq_true rfl) dX10_undo_53 rfl (fun z_53 ws H locs hp h => ?_)
    obtain ⟨rfl, rfl⟩ := hp
    exact r_iret E h ⟨rfl, h_hi, h_co, h_cop, hE⟩ dX10_undo_56
  · skip
    exfalso; exact c_30 rfl
set_option maxHeartbeats 1200000 in
set_option maxRecDepth 100000 in
theorem k_X10_undo0 (l : Launch) {G : va_G} {cy : Nat → ClassId} {ws0 : va_W} {qx ax ain asu ard a a2 asr arp ahi : Nat} {inl erp : Int}    {q7 ahsu ahco : Nat} {nx kp : Int}     (h_x0 : ws0[qx]? = some (ax, .inr (10, [.ref ain, .int (zI inl), .int (zI erp), .ref asu, .ref ard, .ref a, .ref a2, .ref asr, .ref arp, .ref ahi]))) (h_hi : ws0[q7]? = some (ahi, .inr (2, [.ref ahsu, .ref ahco, .int (zI nx), .int (zI kp)]))) (hk0 : kp = 0) : MIk l yX10_undo wsX10_undo rm_X10_undo G cy [.ref ax] ws0 (fun z u => z = -1 ∧ ws0 = u) := by
  refine MIk.of (own := RX10) (cc := cX10_undo) (nL := 2) (ret := (some .int)) (by decide) rfl rfl (Nat.le_of_ble_eq_true rfl) ?_
  intro p e s m below meth c A ls hX E h hl
  have hl : lv_has ls 2 [(0, .ref ax)] := hl
  refine r_aload_n E 0 hl rfl dX10_undo_0 ?_
  refine r_get (v := .ref ahi) E h h_x0 rfl inn_X10_undo_10 9 (by decide) fl_X10_undo_58 rfl dX10_undo_1 ?_
  refine r_callVR E h (As := []) (rest := []) (k_X2_latestSetup0 l h_hi hk0) h_hi rfl gX10_undo_X2_latestSetup rfl hd_X2_latestSetup (by decide) ⟨by decide, by decide⟩ hl.1 rfl (Nat.le_of_ble_eq_true rfl) dX10_undo_4 rfl (fun z_4 ws H locs hp h => ?_)
  obtain ⟨rfl, rfl⟩ := hp
  refine r_astore_nN (lv' := [(1, .null), (0, .ref ax)]) E hl dX10_undo_7 rfl (by decide) rfl (fun ls hl => ?_)
  refine r_aload_nN E 0 hl rfl dX10_undo_8 ?_
  refine r_ifnnN E dX10_undo_9 ?_
  refine r_iconst E dX10_undo_12 ?_
  exact r_iret E h ⟨rfl, rfl⟩ dX10_undo_13
