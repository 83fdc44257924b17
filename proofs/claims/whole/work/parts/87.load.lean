/-- the reader stands at qr, whatever it holds -/
def RDS (cy : Nat → ClassId) (u : va_W) (qr ard arc arp9 atk7 arl apg : Nat) : Prop := ∃ (ec ep nm cs rt n k1 s1 v1 l1 e1 : Int) (aol : Nat) (F : Int64) (P : Int → Int64) (rl : Int → Option Nat) (pg : Int → Int), u[qr]? = some (ard, .inr (7, [.int (zI ec), .int (zI ep), .ref arc, .ref atk7, .int (zI nm), .int (zI cs), .ref arl, .int (zI rt), .ref apg, .int (zI n)])) ∧ u[qr + 1]? = some (arc, .inr (0, [.ref arp9, .long F])) ∧ u[qr + 2]? = some (arp9, aL cy 4 P) ∧ u[qr + 3]? = some (atk7, .inr (9, [.int (zI k1), .int (zI s1), .int (zI v1), .ref aol, .int (zI l1), .int (zI e1)])) ∧ u[qr + 5]? = some (arl, aR cy 4 4 rl) ∧ u[qr + 6]? = some (apg, aI cy 600 pg)
theorem DW_PT {g pg : Int → Int} {n : Int} (hV : RV g) (hP : PT pg n g) (h3 : g 3 = 0 ∧ n = 0 ∨ g 3 = 1 ∧ 0 < n ∧ n < 600) : ∃ T : List Int, DW g T ∧ (T.length : Int) = n ∧ ∀ k : Nat, k < T.length → pg k = T.getD k 0 := by
  obtain ⟨T, hD⟩ := hV.2.2.2.1
  obtain ⟨_, U, u1, u2, u3⟩ := hP
  have hw : WeightOk g T := hD.2.2.2.2.2.2.2
  have e : T = U := by
    rcases hw with ⟨a, b⟩ | ⟨a, b, c, d⟩
    · rcases h3 with ⟨x, y⟩ | ⟨x, y⟩
      · rw [b]; exact (List.length_eq_zero_iff.mp (by omega)).symm
      · omega
    · exact CE.uniq T U _ _ (CodeAt.ce T 0 c) u2
  subst e
  exact ⟨T, hD, u1, u3⟩
theorem ne_at {ws : va_W} {p k a b : Nat} {x : Nat × List Value} {y : _} (h1 : ws[p]? = some (a, .inr x)) (h2 : ws[k]? = some (b, .inl y)) : p ≠ k := by
  rintro rfl
  rw [h1] at h2
  cases h2
theorem RUL.up {ws u : va_W} {B0 q b : Nat} {x : Nat × va_E} {y : _} {rlf : Int → Option Nat} {rt : Int} {g : Int → Int} (h : RUL ws B0 rlf rt g) (hu : Up1 ws u q x) (hq : ws[q]? = some (b, .inl y)) : RUL u B0 rlf rt g := fun r hr => by
  obtain ⟨ra, qq, h1, h2, v1, v2, v3, v4, v5, h3, h4⟩ := h r hr
  exact ⟨ra, qq, h1, h2, v1, v2, v3, v4, v5, hu.keep h3 (ne_at h3 hq), h4⟩
theorem RU1.ne {ws : va_W} {qq ra k b : Nat} {y : _} {g : Int → Int} {r : Int} (h : RU1 ws qq ra g r) (hq : ws[k]? = some (b, .inl y)) : qq ≠ k := by
  obtain ⟨v1, v2, v3, v4, v5, h3, h4⟩ := h
  exact ne_at h3 hq
theorem hd_X10_load : yX10_load.cls = RX10 ∧ yX10_load.cls ≠ "java/lang/invoke/MethodHandle" ∧ yX10_load.cls ≠ "java/lang/invoke/VarHandle" ∧ (parseMethodDescriptor yX10_load.desc).map (fun d => d.parameters.length) = some 1 := by decide +kernel
theorem xnn_X10_load_86 : ∀ w ∈ (vx_atS RX10 86 "java/lang/IllegalArgumentException" VXN).filter goodWord, w ∈ wsX10_load := fun _ h => List.mem_cons_of_mem _ (List.mem_append_right _ h)
theorem fl_X10_load_13 : Cond.fieldLink RX10 13 (TX10 1).1 (TX10 1).2.1 (TX10 1).2.2.1 ∈ wsX10_load := List.mem_of_getElem? (i := 3) rfl
theorem inn_X10_load_10 : ∀ w ∈ wsX100, w ∈ wsX10_load := fun _ h => List.mem_cons_of_mem _ (List.mem_append_left _ (List.mem_append_left _ (List.mem_append_left _ (List.mem_append_left _ (List.mem_append_left _ (List.mem_append_left _ (List.mem_append_left _ (List.mem_append_left _ (List.mem_append_left _ (List.mem_append_right _ h))))))))))
theorem fl_X10_load_23 : Cond.fieldLink RX10 23 (TX10 4).1 (TX10 4).2.1 (TX10 4).2.2.1 ∈ wsX10_load := List.mem_of_getElem? (i := 4) rfl
theorem fl_X10_load_9 : Cond.fieldLink RX10 9 (TX10 0).1 (TX10 0).2.1 (TX10 0).2.2.1 ∈ wsX10_load := List.mem_of_getElem? (i := 5) rfl
theorem fl_X10_load_93 : Cond.fieldLink RX10 93 (TX7 1).1 (TX7 1).2.1 (TX7 1).2.2.1 ∈ wsX10_load := List.mem_of_getElem? (i := 6) rfl
theorem inn_X10_load_7 : ∀ w ∈ wsX70, w ∈ wsX10_load := fun _ h => List.mem_cons_of_mem _ (List.mem_append_left _ (List.mem_append_left _ (List.mem_append_left _ (List.mem_append_left _ (List.mem_append_left _ (List.mem_append_left _ (List.mem_append_left _ (List.mem_append_left _ (List.mem_append_right _ h)))))))))
theorem fl_X10_load_17 : Cond.fieldLink RX10 17 (TX10 2).1 (TX10 2).2.1 (TX10 2).2.2.1 ∈ wsX10_load := List.mem_of_getElem? (i := 7) rfl
theorem fl_X10_load_58 : Cond.fieldLink RX10 58 (TX10 9).1 (TX10 9).2.1 (TX10 9).2.2.1 ∈ wsX10_load := List.mem_of_getElem? (i := 9) rfl
theorem fl_X10_load_74 : Cond.fieldLink RX10 74 (TX10 3).1 (TX10 3).2.1 (TX10 3).2.2.1 ∈ wsX10_load := List.mem_of_getElem? (i := 10) rfl
theorem fl_X10_load_37 : Cond.fieldLink RX10 37 (TX10 6).1 (TX10 6).2.1 (TX10 6).2.2.1 ∈ wsX10_load := List.mem_of_getElem? (i := 11) rfl
theorem fl_X10_load_105 : Cond.fieldLink RX10 105 (TX7 2).1 (TX7 2).2.1 (TX7 2).2.2.1 ∈ wsX10_load := List.mem_of_getElem? (i := 12) rfl
theorem fl_X10_load_30 : Cond.fieldLink RX10 30 (TX10 5).1 (TX10 5).2.1 (TX10 5).2.2.1 ∈ wsX10_load := List.mem_of_getElem? (i := 13) rfl
theorem fl_X10_load_114 : Cond.fieldLink RX10 114 (TX6 2).1 (TX6 2).2.1 (TX6 2).2.2.1 ∈ wsX10_load := List.mem_of_getElem? (i := 14) rfl
theorem inn_X10_load_6 : ∀ w ∈ wsX60, w ∈ wsX10_load := fun _ h => List.mem_cons_of_mem _ (List.mem_append_left _ (List.mem_append_left _ (List.mem_append_left _ (List.mem_append_left _ (List.mem_append_left _ (List.mem_append_left _ (List.mem_append_left _ (List.mem_append_right _ h))))))))
theorem fl_X10_load_94 : Cond.fieldLink RX10 94 (TX7 0).1 (TX7 0).2.1 (TX7 0).2.2.1 ∈ wsX10_load := List.mem_of_getElem? (i := 8) rfl
abbrev rm_X10_load : Room := { frames := 32, cells := 630, slots := 4500, locals := 845 }
set_option maxHeartbeats 1200000 in
set_option maxRecDepth 100000 in
theorem k_X10_load (l : Launch) {G : va_G} {cy : Nat → ClassId} {ws0 : va_W} {qx ax ain asu ard a a2 asr arp ahi : Nat} {erp : Int} {qr arc arp9 atk7 arl apg aol : Nat} {ec9 ep9 nm9 cs9 rt9 n9 k0 s0 v0 l0 e0 u0 u1 : Int} {F9 : Int64} {P9 : Int → Int64} {rlf : Int → Option Nat} {pgf : Int → Int} {bl : Int} {bm : Int → Int} {B : Nat} {qs ar9 afo : Nat} {q2 ap2 : Nat} {d : Int → Int} {q7 ahsu ahco : Nat} {nx kp : Int} {hs9 hcf : Int → Option Nat} {hac hap : Nat → Nat} {hF : Nat → Int64} {hP : Nat → Int → Int64} {q ase awr art awt are ars : Nat} {se re : Int → Int64} {wr rt wt rs : Int → Int} {sz riw : Int} (tl : Int) (h_x0 : ws0[qx]? = some (ax, .inr (10, [.ref ain, .int (zI bl), .int (zI erp), .ref asu, .ref ard, .ref a, .ref a2, .ref asr, .ref arp, .ref ahi]))) (h_in : ws0[qx + 1]? = some (ain, aB cy 600 ((fun i => sg (bm i))))) (h_rd : ws0[qr]? = some (ard, .inr (7, [.int (zI ec9), .int (zI ep9), .ref arc, .ref atk7, .int (zI nm9), .int (zI cs9), .ref arl, .int (zI rt9), .ref apg, .int (zI n9)]))) (h_rc : ws0[qr + 1]? = some (arc, .inr (0, [.ref arp9, .long F9]))) (h_rcp : ws0[qr + 2]? = some (arp9, aL cy 4 P9)) (h_tk : ws0[qr + 3]? = some (atk7, .inr (9, [.int (zI k0), .int (zI s0), .int (zI v0), .ref aol, .int (zI l0), .int (zI e0)]))) (h_rl : ws0[qr + 5]? = some (arl, aR cy 4 4 rlf)) (h_pg : ws0[qr + 6]? = some (apg, aI cy 600 pgf)) (h_su : ws0[qs]? = some (asu, .inr (6, [.int (zI u0), .int (zI u1), .ref ar9, .ref afo]))) (h_co : ws0[q2]? = some (a2, .inr (0, [.ref ap2, .long (fmk (d 0) (fx d))]))) (h_cop : ws0[q2 + 1]? = some (ap2, aL cy 4 (mk (d 0) (cl d)))) (h_hi : ws0[q7]? = some (ahi, .inr (2, [.ref ahsu, .ref ahco, .int (zI nx), .int (zI kp)]))) (h_hsu : ws0[q7 + 1]? = some (ahsu, aR cy 5 8 hs9)) (h_hco : ws0[q7 + 2]? = some (ahco, aR cy 3 8 hcf)) (h_tb : ws0[q]? = some (a, .inr (8, [.ref ase, .ref awr, .int (zI sz), .ref art, .int (zI riw), .ref awt, .ref are, .ref ars]))) (h_se : ws0[q + 1]? = some (ase, aL cy 6400 se)) (h_wr : ws0[q + 2]? = some (awr, aI cy 6400 wr)) (h_rt : ws0[q + 3]? = some (art, aI cy 5 rt)) (h_wt : ws0[q + 4]? = some (awt, aI cy 656 wt)) (h_re : ws0[q + 5]? = some (are, aL cy 19200 re)) (h_rs : ws0[q + 6]? = some (ars, aI cy 42 rs)) (hlen : ws0.length = B) (htx : TXok bm) (hlay : qr = qx + 2 ∧ q = qx + 9 ∧ q2 = qx + 16 ∧ q7 = qx + 27) (hqs : qs < qx ∨ qx + 46 ≤ qs) (hbl : 0 ≤ bl ∧ bl ≤ 600) (hv9r : -2147483648 ≤ tl ∧ tl ≤ 2147483647) (hnx : 0 ≤ nx ∧ nx < 8) (hkp : 0 ≤ kp ∧ kp ≤ 8) (hcc : ∀ i : Nat, i < 8 → hcf (i : Int) = some (hac i)) (hFc : ∀ i : Nat, i < 8 → ws0[q7 + 3 + 2 * i]? = some (hac i, .inr (0, [.ref (hap i), .long (hF i)])) ∧ ws0[q7 + 3 + 2 * i + 1]? = some (hap i, aL cy 4 (hP i))) (hl9 : l.stackTraces = false) : TIk l yX10_load wsX10_load rm_X10_load G cy [.ref ax, .int (zI tl)] ws0 (fun E9 => E9 = "java/lang/IllegalArgumentException" ∧ ¬ (0 ≤ tl ∧ tl ≤ bl)) (fun z u => (0 ≤ tl ∧ tl ≤ bl) ∧ RDS cy u qr ard arc arp9 atk7 arl apg ∧ ((pLoad bm tl).1 ≠ 0 ∧ z = (pLoad bm tl).1 ∧ u[qx]? = some (ax, .inr (10, [.ref ain, .int (zI 0), .int (zI (pLoad bm tl).2.1), .ref asu, .ref ard, .ref a, .ref a2, .ref asr, .ref arp, .ref ahi])) ∧ Eqx ws0 u (fun j => j = qx ∨ (qr ≤ j ∧ j < qr + 7)) ∨ (pLoad bm tl).1 = 0 ∧ ∃ (asu2 qs9 : Nat) (d2 : Int → Int) (T2 : List Int), d2 = (pLoad bm tl).2.2.2 ∧ z = d2 2 ∧ DW d2 T2 ∧ T2.length ≤ 600 ∧ u[qx]? = some (ax, .inr (10, [.ref ain, .int (zI 0), .int (zI (pLoad bm tl).2.1), .ref asu2, .ref ard, .ref a, .ref a2, .ref asr, .ref arp, .ref ahi])) ∧ SUp cy u asu2 d2 T2 (fun p => B ≤ p ∧ p ≠ qs9) qs9 ∧ B ≤ qs9 ∧ (∃ (se2 re2 : Int → Int64) (wr2 rt2 wt2 rs2 : Int → Int) (riw2 : Int), u[q]? = some (a, .inr (8, [.ref ase, .ref awr, .int (zI (((KL d2).length : Int))), .ref art, .int (zI riw2), .ref awt, .ref are, .ref ars])) ∧ u[q + 1]? = some (ase, aL cy 6400 se2) ∧ u[q + 2]? = some (awr, aI cy 6400 wr2) ∧ u[q + 3]? = some (art, aI cy 5 rt2) ∧ u[q + 4]? = some (awt, aI cy 656 wt2) ∧ u[q + 5]? = some (are, aL cy 19200 re2) ∧ u[q + 6]? = some (ars, aI cy 42 rs2) ∧ TW d2 T2 se2 wr2 rt2 wt2 re2 rs2 (KL d2).length) ∧ u[q2]? = some (a2, .inr (0, [.ref ap2, .long (fmk (d2 0) (fx d2))])) ∧ u[q2 + 1]? = some (ap2, aL cy 4 (mk (d2 0) (cl d2))) ∧ HPs u cy q7 ahi ahsu ((nx + 1) % 8) (if kp < 8 then kp + 1 else 8) (uZ hs9 nx (some asu)) hac hap (fun i => if i = nx.toNat then fmk (d 0) (fx d) else hF i) (fun i => if i = nx.toNat then mk (d 0) (cl d) else hP i) ahco ∧ Eqx ws0 u (fun j => j = qx ∨ (qr ≤ j ∧ j < qr + 7) ∨ (q ≤ j ∧ j < q + 7) ∨ j = q2 ∨ j = q2 + 1 ∨ j = q7 ∨ j = q7 + 1 ∨ j = q7 + 3 + 2 * nx.toNat ∨ j = q7 + 3 + 2 * nx.toNat + 1))) := by
  refine TIk.of (own := RX10) (cc := cX10_load) (nL := 3) (ret := (some .int)) (by decide) rfl rfl (Nat.le_of_ble_eq_true rfl) ?_
  intro p e s m below meth c A ls hX hxt E h hl
  have hl : lv_has ls 3 [(0, .ref ax), (1, .int (zI tl))] := hl
  have hE : Eqx ws0 ws0 (fun j => j = qx ∨ (qr ≤ j ∧ j < qr + 7) ∨ (q ≤ j ∧ j < q + 7) ∨ j = q2 ∨ j = q2 + 1 ∨ j = q7 ∨ j = q7 + 1 ∨ j = q7 + 3 + 2 * nx.toNat ∨ j = q7 + 3 + 2 * nx.toNat + 1) := Eqx.rf
  have hlen0 := hlen
  have hqx := lt_of_at h_x0
  have hqsB := lt_of_at h_su
  have hq7B := lt_of_at (hFc 7 (by omega)).2
  refine r_iload_n E 1 hl rfl dX10_load_0 ?_
  refine r_if_lt E 12 dX10_load_1 (by decide) (by omega) (fun c_1 => ?_) (fun c_1 => ?_)
  · skip
    exact r_throwS E hX hxt h hl9 (text := "the buffer does not hold so many bytes") (cls := "java/lang/IllegalArgumentException") (k9 := 9) (by decide) (List.mem_of_getElem? (i := 1) rfl) (List.mem_of_getElem? (i := 2) rfl) (by decide +kernel) xnn_X10_load_86 vxb_86 vxo_86 hl.1 dX10_load_12 dX10_load_15 dX10_load_16 dX10_load_18 dX10_load_21 ⟨by decide, by decide⟩ ⟨⟨by decide, by decide⟩, by decide, by decide⟩ ⟨rfl, by omega⟩
  · skip
    refine r_iload_n E 1 hl rfl dX10_load_4 ?_
    refine r_aload_n E 0 hl rfl dX10_load_5 ?_
    refine r_get (v := .int (zI bl)) E h h_x0 rfl inn_X10_load_10 1 (by decide) fl_X10_load_13 rfl dX10_load_6 ?_
    refine r_icmp_le E 22 dX10_load_9 (by decide) (by omega) (fun c_9 => ?_) (fun c_9 => ?_)
    · skip
      have hv9 : 0 ≤ tl ∧ tl ≤ bl := by omega
      refine r_aload_n E 0 hl rfl dX10_load_22 ?_
      refine r_iconst E dX10_load_23 ?_
      refine r_put E h h_x0 rfl inn_X10_load_10 1 (by decide) fl_X10_load_13 tyX10 tyX10_ok nmX10 rfl rfl rfl (Nat.le_of_ble_eq_true rfl) dX10_load_24 (fun ws H locs h hu => ?_)
      have h_x0 : ws[qx]? = some (ax, .inr (10, [.ref ain, .int (zI 0), .int (zI erp), .ref asu, .ref ard, .ref a, .ref a2, .ref asr, .ref arp, .ref ahi])) := hu.1
      have h_in := hu.keep h_in (by omega)
      have h_rd := hu.keep h_rd (by omega)
      have h_rc := hu.keep h_rc (by omega)
      have h_rcp := hu.keep h_rcp (by omega)
      have h_tk := hu.keep h_tk (by omega)
      have h_rl := hu.keep h_rl (by omega)
      have h_pg := hu.keep h_pg (by omega)
      have h_su := hu.keep h_su (by omega)
      have h_co := hu.keep h_co (by omega)
      have h_cop := hu.keep h_cop (by omega)
      have h_hi := hu.keep h_hi (by omega)
      have h_hsu := hu.keep h_hsu (by omega)
      have h_hco := hu.keep h_hco (by omega)
      have h_tb := hu.keep h_tb (by omega)
      have h_se := hu.keep h_se (by omega)
      have h_wr := hu.keep h_wr (by omega)
      have h_rt := hu.keep h_rt (by omega)
      have h_wt := hu.keep h_wt (by omega)
      have h_re := hu.keep h_re (by omega)
      have h_rs := hu.keep h_rs (by omega)
      have hE : Eqx ws0 ws (fun j => j = qx ∨ (qr ≤ j ∧ j < qr + 7) ∨ (q ≤ j ∧ j < q + 7) ∨ j = q2 ∨ j = q2 + 1 ∨ j = q7 ∨ j = q7 + 1 ∨ j = q7 + 3 + 2 * nx.toNat ∨ j = q7 + 3 + 2 * nx.toNat + 1) := by first | exact hE.tr (hu.eqx (by first | omega | (dsimp only <;> omega))) | exact hE.up hu (by omega)
      have hlen := hu.2.1.trans hlen
      have hFc0 : ∀ i : Nat, i < 8 → ws[q7 + 3 + 2 * i]? = some (hac i, .inr (0, [.ref (hap i), .long (hF i)])) ∧ ws[q7 + 3 + 2 * i + 1]? = some (hap i, aL cy 4 (hP i)) := fun i hi => ⟨hu.keep (hFc i hi).1 (by first | omega | (dsimp only <;> omega)), hu.keep (hFc i hi).2 (by first | omega | (dsimp only <;> omega))⟩
      have hEa : Eqx ws0 ws (fun j => j = qx ∨ (qr ≤ j ∧ j < qr + 7)) := hu.eqx (Or.inl rfl)
      refine r_aload_n E 0 hl rfl dX10_load_27 ?_
      refine r_get (v := .ref ard) E h h_x0 rfl inn_X10_load_10 4 (by decide) fl_X10_load_23 rfl dX10_load_28 ?_
      refine r_aload_n E 0 hl rfl dX10_load_31 ?_
      refine r_get (v := .ref ain) E h h_x0 rfl inn_X10_load_10 0 (by decide) fl_X10_load_9 rfl dX10_load_32 ?_
      refine r_iload_n E 1 hl rfl dX10_load_35 ?_
      refine r_callVkI E hX h (As := [.ref ain, .int (zI tl)]) (rest := []) (k_X7_read (bm := bm) (B0 := B) l h_rd h_rc h_rcp h_tk h_in h_rl h_pg htx (fun _ => rfl) ⟨by omega, by omega⟩ (by omega) ⟨by omega, by omega, by omega⟩) h_rd rfl gX10_load_X7_read rfl hd_X7_read (by decide) ⟨by decide, by decide⟩ hl.1 rfl (Nat.le_of_ble_eq_true rfl) dX10_load_36 rfl (fun z_36 ws H locs hp h => ?_)
      obtain ⟨p_36, nm_36, cs_36, rt_36, n_36, F_36, P_36, rl_36, pg_36, e_36, h_rd, h_rc, h_rcp, h_tk, h_rl, h_pg, hf⟩ := hp
      have h_x0 := hf.at h_x0 (by first | omega | exact (fun q => q) | (dsimp only <;> omega))
      have h_in := hf.at h_in (by first | omega | exact (fun q => q) | (dsimp only <;> omega))
      have h_su := hf.at h_su (by first | omega | exact (fun q => q) | (dsimp only <;> omega))
      have h_co := hf.at h_co (by first | omega | exact (fun q => q) | (dsimp only <;> omega))
      have h_cop := hf.at h_cop (by first | omega | exact (fun q => q) | (dsimp only <;> omega))
      have h_hi := hf.at h_hi (by first | omega | exact (fun q => q) | (dsimp only <;> omega))
      have h_hsu := hf.at h_hsu (by first | omega | exact (fun q => q) | (dsimp only <;> omega))
      have h_hco := hf.at h_hco (by first | omega | exact (fun q => q) | (dsimp only <;> omega))
      have h_tb := hf.at h_tb (by first | omega | exact (fun q => q) | (dsimp only <;> omega))
      have h_se := hf.at h_se (by first | omega | exact (fun q => q) | (dsimp only <;> omega))
      have h_wr := hf.at h_wr (by first | omega | exact (fun q => q) | (dsimp only <;> omega))
      have h_rt := hf.at h_rt (by first | omega | exact (fun q => q) | (dsimp only <;> omega))
      have h_wt := hf.at h_wt (by first | omega | exact (fun q => q) | (dsimp only <;> omega))
      have h_re := hf.at h_re (by first | omega | exact (fun q => q) | (dsimp only <;> omega))
      have h_rs := hf.at h_rs (by first | omega | exact (fun q => q) | (dsimp only <;> omega))
      obtain ⟨B1, hlen⟩ : ∃ b9 : Nat, ws.length = b9 := ⟨_, rfl⟩
      have hE := hE.trG hf (fun j hj hY => by first | omega | (dsimp only at hY ⊢ <;> omega))
      have hB1 : B ≤ B1 := by have := hE.1; omega
      have hFc1 : ∀ i : Nat, i < 8 → ws[q7 + 3 + 2 * i]? = some (hac i, .inr (0, [.ref (hap i), .long (hF i)])) ∧ ws[q7 + 3 + 2 * i + 1]? = some (hap i, aL cy 4 (hP i)) := fun i hi => ⟨hf.at (hFc0 i hi).1 (by first | omega | (dsimp only <;> omega)), hf.at (hFc0 i hi).2 (by first | omega | (dsimp only <;> omega))⟩
      have hEa := hEa.tr (hf.wk (fun j hj => Or.inr hj))
      refine r_istore_n (lv' := [(2, .int (zI z_36)), (0, .ref ax), (1, .int (zI tl))]) E hl dX10_load_39 rfl (by decide) rfl (fun ls hl => ?_)
      refine r_aload_n E 1 hl rfl dX10_load_40 ?_
      refine r_aload_n E 1 hl rfl dX10_load_41 ?_
      refine r_get (v := .ref ard) E h h_x0 rfl inn_X10_load_10 4 (by decide) fl_X10_load_23 rfl dX10_load_42 ?_
      refine r_get (v := .int (zI ((pLoad bm tl).2.1))) E h h_rd rfl inn_X10_load_7 1 (by decide) fl_X10_load_93 rfl dX10_load_45 ?_
      refine r_put E h h_x0 rfl inn_X10_load_10 2 (by decide) fl_X10_load_17 tyX10 tyX10_ok nmX10 rfl rfl rfl (Nat.le_of_ble_eq_true rfl) dX10_load_48 (fun ws H locs h hu => ?_)
      have h_x0 : ws[qx]? = some (ax, .inr (10, [.ref ain, .int (zI 0), .int (zI ((pLoad bm tl).2.1)), .ref asu, .ref ard, .ref a, .ref a2, .ref asr, .ref arp, .ref ahi])) := hu.1
      have h_in := hu.keep h_in (by omega)
      have h_rd := hu.keep h_rd (by omega)
      have h_rc := hu.keep h_rc (by omega)
      have h_rcp := hu.keep h_rcp (by omega)
      have h_tk := hu.keep h_tk (by omega)
      have h_rl := hu.keep h_rl (by omega)
      have h_pg := hu.keep h_pg (by omega)
      have h_su := hu.keep h_su (by omega)
      have h_co := hu.keep h_co (by omega)
      have h_cop := hu.keep h_cop (by omega)
      have h_hi := hu.keep h_hi (by omega)
      have h_hsu := hu.keep h_hsu (by omega)
      have h_hco := hu.keep h_hco (by omega)
      have h_tb := hu.keep h_tb (by omega)
      have h_se := hu.keep h_se (by omega)
      have h_wr := hu.keep h_wr (by omega)
      have h_rt := hu.keep h_rt (by omega)
      have h_wt := hu.keep h_wt (by omega)
      have h_re := hu.keep h_re (by omega)
      have h_rs := hu.keep h_rs (by omega)
      have hE : Eqx ws0 ws (fun j => j = qx ∨ (qr ≤ j ∧ j < qr + 7) ∨ (q ≤ j ∧ j < q + 7) ∨ j = q2 ∨ j = q2 + 1 ∨ j = q7 ∨ j = q7 + 1 ∨ j = q7 + 3 + 2 * nx.toNat ∨ j = q7 + 3 + 2 * nx.toNat + 1) := by first | exact hE.tr (hu.eqx (by first | omega | (dsimp only <;> omega))) | exact hE.up hu (by omega)
      have hlen := hu.2.1.trans hlen
      have hGR : z_36 = 1 → (pLoad bm tl).1 = 0 ∧ p_36 = (pLoad bm tl).2.2.1 ∧ GR ws B (pLoad bm tl).2.2.2 F_36 P_36 nm_36 cs_36 rt_36 n_36 rl_36 pg_36 := fun hz => by
        rcases e_36 with ⟨_, b9, c9, d9⟩ | q9
        · exact ⟨b9, c9, d9.keep (hu.eqx (X := fun j => j = qx) rfl) (fun j q1 q2 => by have q3 : j = qx := q2; omega)⟩
        · exact absurd q9.1 (by omega)
      have hGB : z_36 = 0 → (pLoad bm tl).1 ≠ 0 := fun hz => by
        rcases e_36 with q9 | q9
        · exact absurd q9.1 (by omega)
        · exact q9.2
      have hz01 : z_36 = 0 ∨ z_36 = 1 := by
        rcases e_36 with q9 | q9
        · exact Or.inr q9.1
        · exact Or.inl q9.1
      clear e_36
      have hFc2 : ∀ i : Nat, i < 8 → ws[q7 + 3 + 2 * i]? = some (hac i, .inr (0, [.ref (hap i), .long (hF i)])) ∧ ws[q7 + 3 + 2 * i + 1]? = some (hap i, aL cy 4 (hP i)) := fun i hi => ⟨hu.keep (hFc1 i hi).1 (by first | omega | (dsimp only <;> omega)), hu.keep (hFc1 i hi).2 (by first | omega | (dsimp only <;> omega))⟩
      have hEa := hEa.tr (hu.eqx (Or.inl rfl))
      refine r_iload_n E 0 hl rfl dX10_load_51 ?_
      refine r_if_ne E 63 dX10_load_52 (by decide) (by omega) (fun c_52 => ?_) (fun c_52 => ?_)
      · skip
        obtain ⟨h0, ep9, r1, r2, r3, r4, r5, hRU, hPT, hn3⟩ := hGR (by omega)
        obtain ⟨d2, hd2⟩ : ∃ d9 : Int → Int, (pLoad bm tl).2.2.2 = d9 := ⟨_, rfl⟩
        rw [hd2] at r1 r2 r3 r4 r5 hRU
        have hnr4 := ((SV.load (t := bm) (L := tl) ⟨hv9.1, by omega⟩).2 h0).2.r
        rw [hd2] at hnr4
        refine r_aload_n E 1 hl rfl dX10_load_63 ?_
        refine r_get (v := .ref ahi) E h h_x0 rfl inn_X10_load_10 9 (by decide) fl_X10_load_58 rfl dX10_load_64 ?_
        refine r_aload_n E 1 hl rfl dX10_load_67 ?_
        refine r_get (v := .ref asu) E h h_x0 rfl inn_X10_load_10 3 (by decide) fl_X10_load_74 rfl dX10_load_68 ?_
        refine r_aload_n E 1 hl rfl dX10_load_71 ?_
        refine r_get (v := .ref a2) E h h_x0 rfl inn_X10_load_10 6 (by decide) fl_X10_load_37 rfl dX10_load_72 ?_
        refine r_callVV E h (As := [.ref asu, .ref a2]) (rest := []) (k_X2_remember l h_hi h_hsu h_hco h_su h_co h_cop hnx hkp hcc hFc2 (by omega) (by omega)) h_hi rfl gX10_load_X2_remember rfl hd_X2_remember (by decide) ⟨by decide, by decide⟩ hl.1 rfl (Nat.le_of_ble_eq_true rfl) dX10_load_75 rfl (fun ws H locs hp h => ?_)
        obtain ⟨h_hi, h_hsu, h_hc, h_hcp, hf⟩ := hp
        have h_x0 := hf.at h_x0 (by first | omega | exact (fun q => q) | (dsimp only <;> omega))
        have h_in := hf.at h_in (by first | omega | exact (fun q => q) | (dsimp only <;> omega))
        have h_rd := hf.at h_rd (by first | omega | exact (fun q => q) | (dsimp only <;> omega))
        have h_rc := hf.at h_rc (by first | omega | exact (fun q => q) | (dsimp only <;> omega))
        have h_rcp := hf.at h_rcp (by first | omega | exact (fun q => q) | (dsimp only <;> omega))
        have h_tk := hf.at h_tk (by first | omega | exact (fun q => q) | (dsimp only <;> omega))
        have h_rl := hf.at h_rl (by first | omega | exact (fun q => q) | (dsimp only <;> omega))
        have h_pg := hf.at h_pg (by first | omega | exact (fun q => q) | (dsimp only <;> omega))
        have h_su := hf.at h_su (by first | omega | exact (fun q => q) | (dsimp only <;> omega))
        have h_co := hf.at h_co (by first | omega | exact (fun q => q) | (dsimp only <;> omega))
        have h_cop := hf.at h_cop (by first | omega | exact (fun q => q) | (dsimp only <;> omega))
        have h_hco := hf.at h_hco (by first | omega | exact (fun q => q) | (dsimp only <;> omega))
        have h_tb := hf.at h_tb (by first | omega | exact (fun q => q) | (dsimp only <;> omega))
        have h_se := hf.at h_se (by first | omega | exact (fun q => q) | (dsimp only <;> omega))
        have h_wr := hf.at h_wr (by first | omega | exact (fun q => q) | (dsimp only <;> omega))
        have h_rt := hf.at h_rt (by first | omega | exact (fun q => q) | (dsimp only <;> omega))
        have h_wt := hf.at h_wt (by first | omega | exact (fun q => q) | (dsimp only <;> omega))
        have h_re := hf.at h_re (by first | omega | exact (fun q => q) | (dsimp only <;> omega))
        have h_rs := hf.at h_rs (by first | omega | exact (fun q => q) | (dsimp only <;> omega))
        have hE := hE.tr (hf.wk (fun j hj => by first | omega | (dsimp only at hj ⊢ <;> omega)))
        obtain ⟨B2, hlen⟩ : ∃ b9 : Nat, ws.length = b9 := ⟨_, rfl⟩
        have hB2 : B ≤ B2 := by have := hE.1; omega
        have hRU2 := hRU.keep hf (fun j q1 q2 => by first | omega | (dsimp only at q2; omega))
        refine r_aload_n E 1 hl rfl dX10_load_78 ?_
        refine r_aload_n E 1 hl rfl dX10_load_79 ?_
        refine r_get (v := .ref ard) E h h_x0 rfl inn_X10_load_10 4 (by decide) fl_X10_load_23 rfl dX10_load_80 ?_
        refine r_callVkR E hX h (As := []) (rest := [.ref ax]) (k_X7_makeSetup (B0 := B) (g := d2) l h_rd h_rl h_pg hlen (by omega) (by omega) hRU2) h_rd rfl gX10_load_X7_makeSetup rfl hd_X7_makeSetup (by decide) ⟨by decide, by decide⟩ hl.1 rfl (Nat.le_of_ble_eq_true rfl) dX10_load_83 rfl (fun z_83 ws H locs hp h => ?_)
        obtain ⟨ar92, asu2, afo2, atk2, ask2, kp2, rfl, h_kp, hkp2, h_su2, h_fo2, h_tk2, h_sk2, hf⟩ := hp
        have h_x0 := hf.at h_x0 (by first | omega | exact (fun q => q) | (dsimp only <;> omega))
        have h_in := hf.at h_in (by first | omega | exact (fun q => q) | (dsimp only <;> omega))
        have h_rd := hf.at h_rd (by first | omega | exact (fun q => q) | (dsimp only <;> omega))
        have h_rc := hf.at h_rc (by first | omega | exact (fun q => q) | (dsimp only <;> omega))
        have h_rcp := hf.at h_rcp (by first | omega | exact (fun q => q) | (dsimp only <;> omega))
        have h_tk := hf.at h_tk (by first | omega | exact (fun q => q) | (dsimp only <;> omega))
        have h_rl := hf.at h_rl (by first | omega | exact (fun q => q) | (dsimp only <;> omega))
        have h_pg := hf.at h_pg (by first | omega | exact (fun q => q) | (dsimp only <;> omega))
        have h_su := hf.at h_su (by first | omega | exact (fun q => q) | (dsimp only <;> omega))
        have h_co := hf.at h_co (by first | omega | exact (fun q => q) | (dsimp only <;> omega))
        have h_cop := hf.at h_cop (by first | omega | exact (fun q => q) | (dsimp only <;> omega))
        have h_hi := hf.at h_hi (by first | omega | exact (fun q => q) | (dsimp only <;> omega))
        have h_hsu := hf.at h_hsu (by first | omega | exact (fun q => q) | (dsimp only <;> omega))
        have h_hco := hf.at h_hco (by first | omega | exact (fun q => q) | (dsimp only <;> omega))
        have h_tb := hf.at h_tb (by first | omega | exact (fun q => q) | (dsimp only <;> omega))
        have h_se := hf.at h_se (by first | omega | exact (fun q => q) | (dsimp only <;> omega))
        have h_wr := hf.at h_wr (by first | omega | exact (fun q => q) | (dsimp only <;> omega))
        have h_rt := hf.at h_rt (by first | omega | exact (fun q => q) | (dsimp only <;> omega))
        have h_wt := hf.at h_wt (by first | omega | exact (fun q => q) | (dsimp only <;> omega))
        have h_re := hf.at h_re (by first | omega | exact (fun q => q) | (dsimp only <;> omega))
        have h_rs := hf.at h_rs (by first | omega | exact (fun q => q) | (dsimp only <;> omega))
        have h_hc := hf.at h_hc (by first | omega | exact (fun q => q) | (dsimp only <;> omega))
        have h_hcp := hf.at h_hcp (by first | omega | exact (fun q => q) | (dsimp only <;> omega))
        have hRU3 := hRU2.keep hf (fun j q1 q2 => q2)
        obtain ⟨B3, hlen⟩ : ∃ b9 : Nat, ws.length = b9 := ⟨_, rfl⟩
        have hE := hE.trG hf (fun j hj hY => by first | omega | (dsimp only at hY ⊢ <;> omega))
        refine r_put E h h_x0 rfl inn_X10_load_10 3 (by decide) fl_X10_load_74 tyX10 tyX10_ok nmX10 rfl rfl rfl (Nat.le_of_ble_eq_true rfl) dX10_load_86 (fun ws H locs h hu => ?_)
        have h_x0 : ws[qx]? = some (ax, .inr (10, [.ref ain, .int (zI 0), .int (zI ((pLoad bm tl).2.1)), .ref asu2, .ref ard, .ref a, .ref a2, .ref asr, .ref arp, .ref ahi])) := hu.1
        have h_in := hu.keep h_in (by omega)
        have h_rd := hu.keep h_rd (by omega)
        have h_rc := hu.keep h_rc (by omega)
        have h_rcp := hu.keep h_rcp (by omega)
        have h_tk := hu.keep h_tk (by omega)
        have h_rl := hu.keep h_rl (by omega)
        have h_pg := hu.keep h_pg (by omega)
        have h_su := hu.keep h_su (by omega)
        have h_co := hu.keep h_co (by omega)
        have h_cop := hu.keep h_cop (by omega)
        have h_hi := hu.keep h_hi (by omega)
        have h_hsu := hu.keep h_hsu (by omega)
        have h_hco := hu.keep h_hco (by omega)
        have h_tb := hu.keep h_tb (by omega)
        have h_se := hu.keep h_se (by omega)
        have h_wr := hu.keep h_wr (by omega)
        have h_rt := hu.keep h_rt (by omega)
        have h_wt := hu.keep h_wt (by omega)
        have h_re := hu.keep h_re (by omega)
        have h_rs := hu.keep h_rs (by omega)
        have h_hc := hu.keep h_hc (by omega)
        have h_hcp := hu.keep h_hcp (by omega)
        have h_kp := hu.keep h_kp (by omega)
        have h_su2 := hu.keep h_su2 (by omega)
        have h_fo2 := hu.keep h_fo2 (by omega)
        have h_tk2 := hu.keep h_tk2 (by omega)
        have h_sk2 := hu.keep h_sk2 (by omega)
        have hE : Eqx ws0 ws (fun j => j = qx ∨ (qr ≤ j ∧ j < qr + 7) ∨ (q ≤ j ∧ j < q + 7) ∨ j = q2 ∨ j = q2 + 1 ∨ j = q7 ∨ j = q7 + 1 ∨ j = q7 + 3 + 2 * nx.toNat ∨ j = q7 + 3 + 2 * nx.toNat + 1) := by first | exact hE.tr (hu.eqx (by first | omega | (dsimp only <;> omega))) | exact hE.up hu (by omega)
        have hlen := hu.2.1.trans hlen
        have hRU4 := hRU3.keep (hu.eqx (X := fun j => j = qx) rfl) (fun j q1 q2 => by have q3 : j = qx := q2; omega)
        refine r_aload_n E 1 hl rfl dX10_load_89 ?_
        refine r_get (v := .ref a2) E h h_x0 rfl inn_X10_load_10 6 (by decide) fl_X10_load_37 rfl dX10_load_90 ?_
        refine r_aload_n E 1 hl rfl dX10_load_93 ?_
        refine r_get (v := .ref ard) E h h_x0 rfl inn_X10_load_10 4 (by decide) fl_X10_load_23 rfl dX10_load_94 ?_
        refine r_get (v := .ref arc) E h h_rd rfl inn_X10_load_7 2 (by decide) fl_X10_load_105 rfl dX10_load_97 ?_
        refine r_callVV E h (As := [.ref arc]) (rest := []) (k_X0_copyFrom l h_co h_cop h_rc h_rcp (by omega)) h_co rfl gX10_load_X0_copyFrom rfl hd_X0_copyFrom (by decide) ⟨by decide, by decide⟩ hl.1 rfl (Nat.le_of_ble_eq_true rfl) dX10_load_100 rfl (fun ws H locs hp h => ?_)
        obtain ⟨h_co, h_cop, hf⟩ := hp
        have h_x0 := hf.at h_x0 (by first | omega | exact (fun q => q) | (dsimp only <;> omega))
        have h_in := hf.at h_in (by first | omega | exact (fun q => q) | (dsimp only <;> omega))
        have h_rd := hf.at h_rd (by first | omega | exact (fun q => q) | (dsimp only <;> omega))
        have h_rc := hf.at h_rc (by first | omega | exact (fun q => q) | (dsimp only <;> omega))
        have h_rcp := hf.at h_rcp (by first | omega | exact (fun q => q) | (dsimp only <;> omega))
        have h_tk := hf.at h_tk (by first | omega | exact (fun q => q) | (dsimp only <;> omega))
        have h_rl := hf.at h_rl (by first | omega | exact (fun q => q) | (dsimp only <;> omega))
        have h_pg := hf.at h_pg (by first | omega | exact (fun q => q) | (dsimp only <;> omega))
        have h_su := hf.at h_su (by first | omega | exact (fun q => q) | (dsimp only <;> omega))
        have h_hi := hf.at h_hi (by first | omega | exact (fun q => q) | (dsimp only <;> omega))
        have h_hsu := hf.at h_hsu (by first | omega | exact (fun q => q) | (dsimp only <;> omega))
        have h_hco := hf.at h_hco (by first | omega | exact (fun q => q) | (dsimp only <;> omega))
        have h_tb := hf.at h_tb (by first | omega | exact (fun q => q) | (dsimp only <;> omega))
        have h_se := hf.at h_se (by first | omega | exact (fun q => q) | (dsimp only <;> omega))
        have h_wr := hf.at h_wr (by first | omega | exact (fun q => q) | (dsimp only <;> omega))
        have h_rt := hf.at h_rt (by first | omega | exact (fun q => q) | (dsimp only <;> omega))
        have h_wt := hf.at h_wt (by first | omega | exact (fun q => q) | (dsimp only <;> omega))
        have h_re := hf.at h_re (by first | omega | exact (fun q => q) | (dsimp only <;> omega))
        have h_rs := hf.at h_rs (by first | omega | exact (fun q => q) | (dsimp only <;> omega))
        have h_hc := hf.at h_hc (by first | omega | exact (fun q => q) | (dsimp only <;> omega))
        have h_hcp := hf.at h_hcp (by first | omega | exact (fun q => q) | (dsimp only <;> omega))
        have h_kp := hf.at h_kp (by first | omega | exact (fun q => q) | (dsimp only <;> omega))
        have h_su2 := hf.at h_su2 (by first | omega | exact (fun q => q) | (dsimp only <;> omega))
        have h_fo2 := hf.at h_fo2 (by first | omega | exact (fun q => q) | (dsimp only <;> omega))
        have h_tk2 := hf.at h_tk2 (by first | omega | exact (fun q => q) | (dsimp only <;> omega))
        have h_sk2 := hf.at h_sk2 (by first | omega | exact (fun q => q) | (dsimp only <;> omega))
        have hE := hE.tr (hf.wk (fun j hj => by first | omega | (dsimp only at hj ⊢ <;> omega)))
        obtain ⟨B5, hlen⟩ : ∃ b9 : Nat, ws.length = b9 := ⟨_, rfl⟩
        have hB5 : B ≤ B5 := by have := hE.1; omega
        have hRU5 := hRU4.keep hf (fun j q1 q2 => by first | omega | (dsimp only at q2; omega))
        have h30 := SV.load (t := bm) ⟨hv9.1, by omega⟩
        obtain ⟨T2, hD2, hT2l, hT2k⟩ := DW_PT (h30.2 h0).2 hPT hn3
        rw [hd2] at hD2
        have hnr2 := hD2.nr
        have h_tk2 : ws[B2 + 3]? = some (atk2, aI cy T2.length pg_36) := by rw [show T2.length = n_36.toNat by omega]; exact h_tk2
        have h_tk2o := h_tk2
        obtain ⟨ws, h, hu⟩ := h.recon h_tk2 (g := tkF T2) (fun j j0 j1 => by
          have q9 := hT2k j.toNat (by omega)
          rw [show ((j.toNat : Nat) : Int) = j by omega] at q9
          exact q9)
        have h_x0 := hu.keep h_x0 (by omega)
        have h_in := hu.keep h_in (by omega)
        have h_rd := hu.keep h_rd (by omega)
        have h_rc := hu.keep h_rc (by omega)
        have h_rcp := hu.keep h_rcp (by omega)
        have h_tk := hu.keep h_tk (by omega)
        have h_rl := hu.keep h_rl (by omega)
        have h_pg := hu.keep h_pg (by omega)
        have h_su := hu.keep h_su (by omega)
        have h_co := hu.keep h_co (by omega)
        have h_cop := hu.keep h_cop (by omega)
        have h_hi := hu.keep h_hi (by omega)
        have h_hsu := hu.keep h_hsu (by omega)
        have h_hco := hu.keep h_hco (by omega)
        have h_tb := hu.keep h_tb (by omega)
        have h_se := hu.keep h_se (by omega)
        have h_wr := hu.keep h_wr (by omega)
        have h_rt := hu.keep h_rt (by omega)
        have h_wt := hu.keep h_wt (by omega)
        have h_re := hu.keep h_re (by omega)
        have h_rs := hu.keep h_rs (by omega)
        have h_hc := hu.keep h_hc (by omega)
        have h_hcp := hu.keep h_hcp (by omega)
        have h_kp := hu.keep h_kp (by omega)
        have h_su2 := hu.keep h_su2 (by omega)
        have h_fo2 := hu.keep h_fo2 (by omega)
        have h_tk2 : ws[B2 + 3]? = some (atk2, aI cy T2.length (tkF T2)) := hu.1
        have h_sk2 := hu.keep h_sk2 (by omega)
        have hE : Eqx ws0 ws (fun j => j = qx ∨ (qr ≤ j ∧ j < qr + 7) ∨ (q ≤ j ∧ j < q + 7) ∨ j = q2 ∨ j = q2 + 1 ∨ j = q7 ∨ j = q7 + 1 ∨ j = q7 + 3 + 2 * nx.toNat ∨ j = q7 + 3 + 2 * nx.toNat + 1) := by first | exact hE.tr (hu.eqx (by first | omega | (dsimp only <;> omega))) | exact hE.up hu (by omega)
        have hlen := hu.2.1.trans hlen
        have hRU5 := hRU5.up hu h_tk2o
        have h_su2 : ws[B2 + 1]? = some (asu2, .inr (6, [.int (zI (d2 0)), .int (zI (d2 1)), .ref ar92, .ref afo2])) := by rw [← r1, ← r2]; exact h_su2
        have h_kp : ws[B2]? = some (ar92, aR cy 4 ((d2 2).toNat) kp2) := by rw [← r3]; exact h_kp
        have hrr : ∀ r : Nat, (r : Int) < d2 2 → kp2 (r : Int) = some ((rl_36 (r : Int)).getD 0) := fun r hr => by
          obtain ⟨ra, qq, y1, y2, y3⟩ := hRU5 r (by omega)
          rw [hkp2 r (by omega), y1]
          rfl
        have hru9 : ∀ r : Nat, (r : Int) < d2 2 → ∃ qq : Nat, (B ≤ qq ∧ qq ≠ B2 + 4) ∧ RU1 ws qq ((rl_36 (r : Int)).getD 0) d2 (r : Int) := fun r hr => by
          obtain ⟨ra, qq, y1, y2, y3⟩ := hRU5 r (by omega)
          rw [y1]
          exact ⟨qq, ⟨y2, y3.ne h_sk2⟩, y3⟩
        refine r_aload_n E 1 hl rfl dX10_load_103 ?_
        refine r_get (v := .ref a) E h h_x0 rfl inn_X10_load_10 5 (by decide) fl_X10_load_30 rfl dX10_load_104 ?_
        refine r_aload_n E 1 hl rfl dX10_load_107 ?_
        refine r_get (v := .ref asu2) E h h_x0 rfl inn_X10_load_10 3 (by decide) fl_X10_load_74 rfl dX10_load_108 ?_
        refine r_callVkV E hX h (As := [.ref asu2]) (rest := []) (k_X8_prepare l h_tb h_se h_wr h_rt h_wt h_re h_rs h_su2 h_kp h_fo2 h_tk2 h_sk2 (by omega) (by omega) (by omega) (by omega) hD2 (by omega) hrr (fun r hr => by
    obtain ⟨qq, y1, v1, v2, v3, v4, v5, y2, y3⟩ := hru9 r hr
    exact ⟨qq, v1, v2, v3, v4, v5, y2, by omega, y3⟩)) h_tb rfl gX10_load_X8_prepare rfl hd_X8_prepare (by decide) ⟨by decide, by decide⟩ hl.1 rfl (Nat.le_of_ble_eq_true rfl) dX10_load_111 rfl (fun ws H locs hp h => ?_)
        obtain ⟨se_111, re_111, wr_111, rt_111, wt_111, rs_111, st_111, riw_111, h_tb, h_se, h_wr, h_rt, h_wt, h_re, h_rs, h_sk2, e_111, hf⟩ := hp
        have h_x0 := hf.at h_x0 (by first | omega | exact (fun q => q) | (dsimp only <;> omega))
        have h_in := hf.at h_in (by first | omega | exact (fun q => q) | (dsimp only <;> omega))
        have h_rd := hf.at h_rd (by first | omega | exact (fun q => q) | (dsimp only <;> omega))
        have h_rc := hf.at h_rc (by first | omega | exact (fun q => q) | (dsimp only <;> omega))
        have h_rcp := hf.at h_rcp (by first | omega | exact (fun q => q) | (dsimp only <;> omega))
        have h_tk := hf.at h_tk (by first | omega | exact (fun q => q) | (dsimp only <;> omega))
        have h_rl := hf.at h_rl (by first | omega | exact (fun q => q) | (dsimp only <;> omega))
        have h_pg := hf.at h_pg (by first | omega | exact (fun q => q) | (dsimp only <;> omega))
        have h_su := hf.at h_su (by first | omega | exact (fun q => q) | (dsimp only <;> omega))
        have h_co := hf.at h_co (by first | omega | exact (fun q => q) | (dsimp only <;> omega))
        have h_cop := hf.at h_cop (by first | omega | exact (fun q => q) | (dsimp only <;> omega))
        have h_hi := hf.at h_hi (by first | omega | exact (fun q => q) | (dsimp only <;> omega))
        have h_hsu := hf.at h_hsu (by first | omega | exact (fun q => q) | (dsimp only <;> omega))
        have h_hco := hf.at h_hco (by first | omega | exact (fun q => q) | (dsimp only <;> omega))
        have h_hc := hf.at h_hc (by first | omega | exact (fun q => q) | (dsimp only <;> omega))
        have h_hcp := hf.at h_hcp (by first | omega | exact (fun q => q) | (dsimp only <;> omega))
        have h_kp := hf.at h_kp (by first | omega | exact (fun q => q) | (dsimp only <;> omega))
        have h_su2 := hf.at h_su2 (by first | omega | exact (fun q => q) | (dsimp only <;> omega))
        have h_fo2 := hf.at h_fo2 (by first | omega | exact (fun q => q) | (dsimp only <;> omega))
        have h_tk2 := hf.at h_tk2 (by first | omega | exact (fun q => q) | (dsimp only <;> omega))
        have hru10 : ∀ r : Nat, (r : Int) < d2 2 → ∃ qq : Nat, (B ≤ qq ∧ qq ≠ B2 + 4) ∧ RU1 ws qq ((rl_36 (r : Int)).getD 0) d2 (r : Int) := fun r hr => by
          obtain ⟨qq, y1, y2⟩ := hru9 r hr
          exact ⟨qq, y1, y2.keep hf (by first | omega | (dsimp only; omega))⟩
        obtain ⟨B4, hlen⟩ : ∃ b9 : Nat, ws.length = b9 := ⟨_, rfl⟩
        have hE := hE.trG hf (fun j hj hY => by first | omega | (dsimp only at hY ⊢ <;> omega))
        refine r_aload_n E 1 hl rfl dX10_load_114 ?_
        refine r_get (v := .ref asu2) E h h_x0 rfl inn_X10_load_10 3 (by decide) fl_X10_load_74 rfl dX10_load_115 ?_
        refine r_get (v := .ref ar92) E h h_su2 rfl inn_X10_load_6 2 (by decide) fl_X10_load_114 rfl dX10_load_118 ?_
        refine r_alen E h rfl h_kp (v := (d2 2).toNat) rfl dX10_load_121 ?_
        refine W.widen (k := 630) (n := 4500) (by decide) (by decide) ?_
        exact vx_ret (r_iret E h (by
  subst hd2
  refine ⟨by omega, ⟨_, _, _, _, _, _, _, _, _, _, _, _, _, _, _, _, h_rd, h_rc, h_rcp, h_tk, h_rl, h_pg⟩, Or.inr ⟨h0, asu2, B2 + 4, _, T2, rfl, by omega, hD2, by omega, h_x0, ?_, by omega, ⟨_, _, _, _, _, _, _, h_tb, h_se, h_wr, h_rt, h_wt, h_re, h_rs, e_111⟩, by rw [← r4]; exact h_co, by rw [← r5]; exact h_cop, (HPs.of hnx h_hi h_hsu h_hc h_hcp hFc hE (fun i h0 h1 => ⟨by omega, by omega⟩)), hE⟩⟩
  refine ⟨_, _, _, _, _, _, _, _, _, _, _, h_su2, h_kp, h_fo2, h_tk2, h_sk2, ⟨by omega, by omega, by omega, by omega⟩, hrr, fun r hr => ?_⟩
  obtain ⟨qq, y1, y2⟩ := hru10 r hr
  exact ⟨qq, y1, y2⟩) dX10_load_122)
      · skip
        refine r_aload_n E 1 hl rfl dX10_load_55 ?_
        refine r_get (v := .ref ard) E h h_x0 rfl inn_X10_load_10 4 (by decide) fl_X10_load_23 rfl dX10_load_56 ?_
        refine r_get (v := .int (zI ((pLoad bm tl).1))) E h h_rd rfl inn_X10_load_7 0 (by decide) fl_X10_load_94 rfl dX10_load_59 ?_
        refine W.widen (k := 630) (n := 4500) (by decide) (by decide) ?_
        exact vx_ret (r_iret E h ⟨by omega, ⟨_, _, _, _, _, _, _, _, _, _, _, _, _, _, _, _, h_rd, h_rc, h_rcp, h_tk, h_rl, h_pg⟩, Or.inl ⟨hGB (by omega), rfl, h_x0, hEa⟩⟩ dX10_load_62)
    · skip
      exact r_throwS E hX hxt h hl9 (text := "the buffer does not hold so many bytes") (cls := "java/lang/IllegalArgumentException") (k9 := 9) (by decide) (List.mem_of_getElem? (i := 1) rfl) (List.mem_of_getElem? (i := 2) rfl) (by decide +kernel) xnn_X10_load_86 vxb_86 vxo_86 hl.1 dX10_load_12 dX10_load_15 dX10_load_16 dX10_load_18 dX10_load_21 ⟨by decide, by decide⟩ ⟨⟨by decide, by decide⟩, by decide, by decide⟩ ⟨rfl, by omega⟩
