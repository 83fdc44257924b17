theorem hd_X10_allowed : yX10_allowed.cls = RX10 ∧ yX10_allowed.cls ≠ "java/lang/invoke/MethodHandle" ∧ yX10_allowed.cls ≠ "java/lang/invoke/VarHandle" ∧ (parseMethodDescriptor yX10_allowed.desc).map (fun d => d.parameters.length) = some 1 := by decide +kernel
theorem fl_X10_allowed_74 : Cond.fieldLink RX10 74 (TX10 3).1 (TX10 3).2.1 (TX10 3).2.2.1 ∈ wsX10_allowed := List.mem_of_getElem? (i := 1) rfl
theorem inn_X10_allowed_10 : ∀ w ∈ wsX100, w ∈ wsX10_allowed := fun _ h => List.mem_cons_of_mem _ (List.mem_append_left _ (List.mem_append_left _ (List.mem_append_left _ (List.mem_append_left _ (List.mem_append_right _ h)))))
theorem fl_X10_allowed_121 : Cond.fieldLink RX10 121 (TX6 1).1 (TX6 1).2.1 (TX6 1).2.2.1 ∈ wsX10_allowed := List.mem_of_getElem? (i := 2) rfl
theorem inn_X10_allowed_6 : ∀ w ∈ wsX60, w ∈ wsX10_allowed := fun _ h => List.mem_cons_of_mem _ (List.mem_append_left _ (List.mem_append_left _ (List.mem_append_left _ (List.mem_append_right _ h))))
theorem fl_X10_allowed_30 : Cond.fieldLink RX10 30 (TX10 5).1 (TX10 5).2.1 (TX10 5).2.2.1 ∈ wsX10_allowed := List.mem_of_getElem? (i := 3) rfl
theorem fl_X10_allowed_37 : Cond.fieldLink RX10 37 (TX10 6).1 (TX10 6).2.1 (TX10 6).2.2.1 ∈ wsX10_allowed := List.mem_of_getElem? (i := 4) rfl
abbrev rm_X10_allowed : Room := { frames := 7, cells := 1, slots := 6, locals := 111 }
set_option maxHeartbeats 1200000 in
set_option maxRecDepth 100000 in
theorem k_X10_allowed (l : Launch) {G : va_G} {cy : Nat → ClassId} {ws0 : va_W} {qx ax ain asu ard a a2 asr arp ahi : Nat} {inl erp : Int} {q ase awr art awt are ars : Nat} {se re : Int → Int64} {wr rt wt rs : Int → Int} {sz riw : Int} {qs ar9 afo : Nat} {q2 ap2 : Nat} {d : Int → Int} {T : List Int} (x : Int) (h_x0 : ws0[qx]? = some (ax, .inr (10, [.ref ain, .int (zI inl), .int (zI erp), .ref asu, .ref ard, .ref a, .ref a2, .ref asr, .ref arp, .ref ahi]))) (h_su : ws0[qs]? = some (asu, .inr (6, [.int (zI (d 0)), .int (zI (d 1)), .ref ar9, .ref afo]))) (h_co : ws0[q2]? = some (a2, .inr (0, [.ref ap2, .long (fmk (d 0) (fx d))]))) (h_cop : ws0[q2 + 1]? = some (ap2, aL cy 4 (mk (d 0) (cl d)))) (h_tb : ws0[q]? = some (a, .inr (8, [.ref ase, .ref awr, .int (zI sz), .ref art, .int (zI riw), .ref awt, .ref are, .ref ars]))) (h_re : ws0[q + 5]? = some (are, aL cy 19200 re)) (h_rs : ws0[q + 6]? = some (ars, aI cy 42 rs)) (hD : DW d T) (hT : TW d T se wr rt wt re rs sz) (hx9 : -2147483648 ≤ x ∧ x ≤ 2147483647) (hl9 : l.stackTraces = false) : TIk l yX10_allowed wsX10_allowed rm_X10_allowed G cy [.ref ax, .int (zI x)] ws0 (fun E9 => E9 = "java/lang/IndexOutOfBoundsException" ∧ ¬ (1 ≤ x ∧ x ≤ d 0)) (fun z u => (1 ≤ x ∧ x ≤ d 0) ∧ z = setN d x (d 1).toNat ∧ ws0 = u) := by
  refine TIk.of (own := RX10) (cc := cX10_allowed) (nL := 4) (ret := (some .int)) (by decide) rfl rfl (Nat.le_of_ble_eq_true rfl) ?_
  intro p e s m below meth c A ls hX hxt E h hl
  have hl : lv_has ls 4 [(0, .ref ax), (1, .int (zI x))] := hl
  have hn9 := hD.n
  have hk9 := hD.k
  have he9 : ∀ x : Int, 1 ≤ x → x ≤ d 0 → 0 ≤ cl d x ∧ cl d x ≤ d 1 := fun x a b => hD.col a (by omega)
  refine r_aload_n E 0 hl rfl dX10_allowed_0 ?_
  refine r_iload_n E 1 hl rfl dX10_allowed_1 ?_
  refine r_callVtV E hX hxt h (As := [.int (zI x)]) (rest := []) (k_X10_requireNumber l x h_x0 h_su hD (by omega) hl9) (fun E9 h9 => h9) h_x0 rfl gX10_allowed_X10_requireNumber rfl hd_X10_requireNumber (by decide) ⟨by decide, by decide⟩ ⟨by decide, by decide⟩ hl.1 rfl (Nat.le_of_ble_eq_true rfl) dX10_allowed_2 rfl (fun ws H locs hp h => ?_)
  obtain ⟨hv_z_2, rfl⟩ := hp
  refine r_iconst E dX10_allowed_5 ?_
  refine r_istore_n (lv' := [(2, .int (zI 0)), (0, .ref ax), (1, .int (zI x))]) E hl dX10_allowed_6 rfl (by decide) rfl (fun ls hl => ?_)
  refine r_iconst E dX10_allowed_7 ?_
  refine r_istore_n (lv' := [(3, .int (zI 0)), (2, .int (zI 0)), (0, .ref ax), (1, .int (zI x))]) E hl dX10_allowed_8 rfl (by decide) rfl (fun ls hl => ?_)
  refine r_loop (fun n H locs ls => ∃ (s8 : Int) (c8 : Int), n = (4 - c8).toNat ∧ (0 ≤ c8 ∧ c8 ≤ d 1) ∧ (s8 = setN d x c8.toNat) ∧ (0 ≤ s8 ∧ (c8 ≤ 3 → s8 < pw2 c8)) ∧ Hp G ws0 A s.heap H locs ∧ lv_has ls 4 [(0, .ref ax), (1, .int (zI x)), (2, .int (zI s8)), (3, .int (zI c8))]) _ ⟨0, 0, rfl, (by omega), rfl, ⟨by decide, fun _ => by decide⟩, h, lv_sub hl [2, 3, 1, 0] rfl⟩ ?_
  rintro n H locs ls ⟨s8, c8, hn, i1, i2, i3, h, hl⟩ ih_9
  refine r_iload_n E 3 hl rfl dX10_allowed_9 ?_
  refine r_aload_n E 0 hl rfl dX10_allowed_10 ?_
  refine r_get (v := .ref asu) E h h_x0 rfl inn_X10_allowed_10 3 (by decide) fl_X10_allowed_74 rfl dX10_allowed_11 ?_
  refine r_get (v := .int (zI (d 1))) E h h_su rfl inn_X10_allowed_6 1 (by decide) fl_X10_allowed_121 rfl dX10_allowed_14 ?_
  refine r_icmp_ge E 51 dX10_allowed_17 (by decide) (by omega) (fun c_17 => ?_) (fun c_17 => ?_)
  · skip
    refine r_iload_n E 2 hl rfl dX10_allowed_51 ?_
    refine W.widen (k := 1) (n := 6) (by decide) (by decide) ?_
    exact vx_ret (r_iret E h ⟨by omega, by rw [i2, show c8.toNat = (d 1).toNat by omega], rfl⟩ dX10_allowed_52)
  · skip
    have hp9 := pw2_pos (c := c8)
    have e9 : setN d x (c8 + 1).toNat = setN d x c8.toNat + (if alw d (cl d) x c8 = true then pw2 c8 else 0) := by
      rw [show (c8 + 1).toNat = c8.toNat + 1 by omega]
      show setN d x c8.toNat + (if alw d (cl d) x (c8.toNat : Int) = true then pw2 (c8.toNat : Int) else 0) = _
      rw [show (c8.toNat : Int) = c8 by omega]
    refine r_aload_n E 0 hl rfl dX10_allowed_20 ?_
    refine r_get (v := .ref a) E h h_x0 rfl inn_X10_allowed_10 5 (by decide) fl_X10_allowed_30 rfl dX10_allowed_21 ?_
    refine r_iload_n E 1 hl rfl dX10_allowed_24 ?_
    refine r_aload_n E 0 hl rfl dX10_allowed_25 ?_
    refine r_get (v := .ref a2) E h h_x0 rfl inn_X10_allowed_10 6 (by decide) fl_X10_allowed_37 rfl dX10_allowed_26 ?_
    refine r_iload_n E 3 hl rfl dX10_allowed_29 ?_
    refine r_callVL E h (As := [.int (zI c8)]) (rest := [.int (zI x), .ref a]) (k_X0_numbersWith l c8 h_co h_cop (by omega)) h_co rfl gX10_allowed_X0_numbersWith rfl hd_X0_numbersWith (by decide) ⟨by decide, by decide⟩ hl.1 rfl (Nat.le_of_ble_eq_true rfl) dX10_allowed_30 rfl (fun z_30 ws H locs hp h => ?_)
    obtain ⟨rfl, rfl⟩ := hp
    refine r_callVI E h (As := [.int (zI x), .long (mk (d 0) (cl d) c8)]) (rest := []) (k_X8_allows l x c8 h_tb h_re h_rs hD hT (by omega) (by omega)) h_tb rfl gX10_allowed_X8_allows rfl hd_X8_allows (by decide) ⟨by decide, by decide⟩ hl.1 rfl (Nat.le_of_ble_eq_true rfl) dX10_allowed_33 rfl (fun z_33 ws H locs hp h => ?_)
    obtain ⟨e_z_33, rfl⟩ := hp
    refine r_if_eq E 45 dX10_allowed_36 (by decide) (by omega) (fun c_36 => ?_) (fun c_36 => ?_)
    · skip
      rw [if_neg (e_z_33.elim (fun hh => absurd hh.1 (by omega)) (fun hh => by rw [hh.2]; exact Bool.false_ne_true))] at e9
      refine r_iinc (lv' := [(3, .int (zI (c8 + 1))), (0, .ref ax), (1, .int (zI x)), (2, .int (zI s8))]) E 3 hl rfl dX10_allowed_45 (by decide) rfl (fun ls hl => ?_)
      refine r_goto E 9 dX10_allowed_48 (by decide) ?_
      exact ih_9 _ H locs ls (by omega) ⟨s8, (c8 + 1), rfl, (by omega), (by rw [e9]; omega), ⟨by omega, fun hh => by have := pw2_s (c := c8) (by omega); have := i3.2 (by omega); omega⟩, h, lv_sub hl [1, 2, 3, 0] rfl⟩
    · skip
      rw [if_pos (e_z_33.elim (fun hh => hh.2) (fun hh => absurd hh.1 c_36))] at e9
      refine r_iload_n E 2 hl rfl dX10_allowed_39 ?_
      refine r_iconst E dX10_allowed_40 ?_
      refine r_iload_n E 3 hl rfl dX10_allowed_41 ?_
      refine r_ishl E dX10_allowed_42 (z := pw2 c8) (zI_sh (by omega)) ?_
      refine r_ior E dX10_allowed_43 (z := s8 + pw2 c8) (zI_orp (by omega) (by omega)) ?_
      refine r_istore_n (lv' := [(2, .int (zI (s8 + pw2 c8))), (0, .ref ax), (1, .int (zI x)), (3, .int (zI c8))]) E hl dX10_allowed_44 rfl (by decide) rfl (fun ls hl => ?_)
      refine r_iinc (lv' := [(3, .int (zI (c8 + 1))), (2, .int (zI (s8 + pw2 c8))), (0, .ref ax), (1, .int (zI x))]) E 3 hl rfl dX10_allowed_45 (by decide) rfl (fun ls hl => ?_)
      refine r_goto E 9 dX10_allowed_48 (by decide) ?_
      exact ih_9 _ H locs ls (by omega) ⟨(s8 + pw2 c8), (c8 + 1), rfl, (by omega), (by rw [e9]; omega), ⟨by omega, fun hh => by have := pw2_s (c := c8) (by omega); have := i3.2 (by omega); omega⟩, h, lv_sub hl [2, 3, 1, 0] rfl⟩
theorem hd_X10_conflict : yX10_conflict.cls = RX10 ∧ yX10_conflict.cls ≠ "java/lang/invoke/MethodHandle" ∧ yX10_conflict.cls ≠ "java/lang/invoke/VarHandle" ∧ (parseMethodDescriptor yX10_conflict.desc).map (fun d => d.parameters.length) = some 2 := by decide +kernel
theorem fl_X10_conflict_30 : Cond.fieldLink RX10 30 (TX10 5).1 (TX10 5).2.1 (TX10 5).2.2.1 ∈ wsX10_conflict := List.mem_of_getElem? (i := 5) rfl
theorem inn_X10_conflict_10 : ∀ w ∈ wsX100, w ∈ wsX10_conflict := fun _ h => List.mem_cons_of_mem _ (List.mem_append_left _ (List.mem_append_left _ (List.mem_append_left _ (List.mem_append_left _ (List.mem_append_right _ h)))))
theorem fl_X10_conflict_37 : Cond.fieldLink RX10 37 (TX10 6).1 (TX10 6).2.1 (TX10 6).2.2.1 ∈ wsX10_conflict := List.mem_of_getElem? (i := 6) rfl
theorem xnn_X10_conflict_86 : ∀ w ∈ (vx_atS RX10 86 "java/lang/IllegalArgumentException" VXN).filter goodWord, w ∈ wsX10_conflict := fun _ h => List.mem_cons_of_mem _ (List.mem_append_right _ h)
theorem xnn_X10_conflict_175 : ∀ w ∈ (vx_atS RX10 175 "java/util/NoSuchElementException" VXN).filter goodWord, w ∈ wsX10_conflict := fun _ h => List.mem_cons_of_mem _ (List.mem_append_left _ (List.mem_append_right _ h))
abbrev rm_X10_conflict : Room := { frames := 6, cells := 1, slots := 6, locals := 90 }
set_option maxHeartbeats 1200000 in
set_option maxRecDepth 100000 in
theorem k_X10_conflict (l : Launch) {G : va_G} {cy : Nat → ClassId} {ws0 : va_W} {qx ax ain asu ard a a2 asr arp ahi : Nat} {inl erp : Int} {q ase awr art awt are ars : Nat} {se re : Int → Int64} {wr rt wt rs : Int → Int} {sz riw : Int} {qs ar9 afo : Nat} {q2 ap2 : Nat} {d : Int → Int} {T : List Int} (ix wh : Int) (h_x0 : ws0[qx]? = some (ax, .inr (10, [.ref ain, .int (zI inl), .int (zI erp), .ref asu, .ref ard, .ref a, .ref a2, .ref asr, .ref arp, .ref ahi]))) (h_su : ws0[qs]? = some (asu, .inr (6, [.int (zI (d 0)), .int (zI (d 1)), .ref ar9, .ref afo]))) (h_co : ws0[q2]? = some (a2, .inr (0, [.ref ap2, .long (fmk (d 0) (fx d))]))) (h_cop : ws0[q2 + 1]? = some (ap2, aL cy 4 (mk (d 0) (cl d)))) (h_tb : ws0[q]? = some (a, .inr (8, [.ref ase, .ref awr, .int (zI sz), .ref art, .int (zI riw), .ref awt, .ref are, .ref ars]))) (h_se : ws0[q + 1]? = some (ase, aL cy 6400 se)) (h_wr : ws0[q + 2]? = some (awr, aI cy 6400 wr)) (h_wt : ws0[q + 4]? = some (awt, aI cy 656 wt)) (hD : DW d T) (hT : TW d T se wr rt wt re rs sz) (hr9 : (-2147483648 ≤ ix ∧ ix ≤ 2147483647) ∧ (-2147483648 ≤ wh ∧ wh ≤ 2147483647)) (hl9 : l.stackTraces = false) : TIk l yX10_conflict wsX10_conflict rm_X10_conflict G cy [.ref ax, .int (zI ix), .int (zI wh)] ws0 (fun E9 => E9 = "java/util/NoSuchElementException" ∧ ¬ (0 ≤ ix ∧ ix < cnfA d (cl d)) ∨ E9 = "java/lang/IllegalArgumentException" ∧ (0 ≤ ix ∧ ix < cnfA d (cl d)) ∧ ¬ (0 ≤ wh ∧ wh ≤ 4)) (fun z u => (0 ≤ ix ∧ ix < cnfA d (cl d)) ∧ (0 ≤ wh ∧ wh ≤ 4) ∧ (∃ (s : Nat) (q : Ky), (KL d)[s]? = some q ∧ cAll d (cl d) q ≠ -1 ∧ sumL (fun q => is1 d (cl d) q) ((KL d).take s) = ix ∧ z = (if wh = 0 then q.1 else if wh = 3 then cAll d (cl d) q else if wh = 4 then wK d T q (cAll d (cl d) q) else if wh = 1 then lil d q else big d q)) ∧ ws0 = u) := by
  refine TIk.of (own := RX10) (cc := cX10_conflict) (nL := 5) (ret := (some .int)) (by decide) rfl rfl (Nat.le_of_ble_eq_true rfl) ?_
  intro p e s m below meth c A ls hX hxt E h hl
  have hl : lv_has ls 5 [(0, .ref ax), (1, .int (zI ix)), (2, .int (zI wh))] := hl
  have hn9 := hD.n
  have hk9 := hD.k
  have he9 : ∀ x : Int, 1 ≤ x → x ≤ d 0 → 0 ≤ cl d x ∧ cl d x ≤ d 1 := fun x a b => hD.col a (by omega)
  refine r_aload_n E 0 hl rfl dX10_conflict_0 ?_
  refine r_get (v := .ref a) E h h_x0 rfl inn_X10_conflict_10 5 (by decide) fl_X10_conflict_30 rfl dX10_conflict_1 ?_
  refine r_aload_n E 0 hl rfl dX10_conflict_4 ?_
  refine r_get (v := .ref a2) E h h_x0 rfl inn_X10_conflict_10 6 (by decide) fl_X10_conflict_37 rfl dX10_conflict_5 ?_
  refine r_iload_n E 1 hl rfl dX10_conflict_8 ?_
  have hca := cnfA_rng (e := cl d) hD
  refine r_callVI E h (As := [.ref a2, .int (zI ix)]) (rest := []) (k_X8_findConflict l ix h_tb h_se h_co h_cop hD hT he9 (by omega)) h_tb rfl gX10_conflict_X8_findConflict rfl hd_X8_findConflict (by decide) ⟨by decide, by decide⟩ hl.1 rfl (Nat.le_of_ble_eq_true rfl) dX10_conflict_9 rfl (fun z_9 ws H locs hp h => ?_)
  obtain ⟨e_z_9, rfl⟩ := hp
  refine r_istore_n (lv' := [(3, .int (zI z_9)), (0, .ref ax), (1, .int (zI ix)), (2, .int (zI wh))]) E hl dX10_conflict_12 rfl (by decide) rfl (fun ls hl => ?_)
  have hzr : -1 ≤ z_9 ∧ z_9 ≤ 6400 := by
    rcases e_z_9 with ⟨s9, q9, a1, a2, a3, a4⟩ | a
    · have := lt_of_get a1; have := KL_len hD; omega
    · omega
  refine r_iload_n E 0 hl rfl dX10_conflict_13 ?_
  refine r_iconst E dX10_conflict_14 ?_
  refine r_icmp_ne E 28 dX10_conflict_15 (by decide) (by omega) (fun c_15 => ?_) (fun c_15 => ?_)
  · skip
    have hfd : ∃ (sN : Nat) (q9 : Ky), (KL d)[sN]? = some q9 ∧ cAll d (cl d) q9 ≠ -1 ∧ sumL (fun q => is1 d (cl d) q) ((KL d).take sN) = ix ∧ z_9 = (sN : Int) := e_z_9.elim id (fun hh => absurd hh.2 (by omega))
    obtain ⟨sN, q9, hk9, hn9c, hs9c, hz9⟩ := hfd
    have hq9 := KL_at hD hk9
    have hs0 : (KL d)[z_9.toNat]? = some q9 := by rw [show z_9.toNat = sN by omega]; exact hk9
    have e8 : is1 d (cl d) q9 = 1 := if_neg hn9c
    have e9 := sumL_take (f := fun q => is1 d (cl d) q) hk9
    have hs1 := sumT_le (s := sN) (f := fun q => is1 d (cl d) q) (l := KL d) (fun q _ => is1_rng.1)
    have hs2 := (sumT_le (s := sN + 1) (f := fun q => is1 d (cl d) q) (l := KL d) (fun q _ => is1_rng.1)).2
    have hrg : (0 ≤ ix ∧ ix < cnfA d (cl d)) := by
      have hc : cnfA d (cl d) = sumL (fun q => is1 d (cl d) q) (KL d) := rfl
      omega
    have hcr := cAll_rng2 (e := cl d) hD hq9 he9
    refine r_iload_n E 3 hl rfl dX10_conflict_28 ?_
    refine r_if_lt E 37 dX10_conflict_29 (by decide) (by omega) (fun c_29 => ?_) (fun c_29 => ?_)
    · skip
      exact r_throwS E hX hxt h hl9 (text := "what is 0 to 4") (cls := "java/lang/IllegalArgumentException") (k9 := 2) (by decide) (List.mem_of_getElem? (i := 3) rfl) (List.mem_of_getElem? (i := 4) rfl) (by decide +kernel) xnn_X10_conflict_86 vxb_86 vxo_86 hl.1 dX10_conflict_37 dX10_conflict_40 dX10_conflict_41 dX10_conflict_43 dX10_conflict_46 ⟨by decide, by decide⟩ ⟨⟨by decide, by decide⟩, by decide, by decide⟩ (Or.inr ⟨rfl, hrg, by omega⟩)
    · skip
      refine r_iload_n E 3 hl rfl dX10_conflict_32 ?_
      refine r_iconst E dX10_conflict_33 ?_
      refine r_icmp_le E 47 dX10_conflict_34 (by decide) (by omega) (fun c_34 => ?_) (fun c_34 => ?_)
      · skip
        refine r_aload_n E 1 hl rfl dX10_conflict_47 ?_
        refine r_get (v := .ref a2) E h h_x0 rfl inn_X10_conflict_10 6 (by decide) fl_X10_conflict_37 rfl dX10_conflict_48 ?_
        refine r_aload_n E 1 hl rfl dX10_conflict_51 ?_
        refine r_get (v := .ref a) E h h_x0 rfl inn_X10_conflict_10 5 (by decide) fl_X10_conflict_30 rfl dX10_conflict_52 ?_
        refine r_iload_n E 0 hl rfl dX10_conflict_55 ?_
        refine r_callVL E h (As := [.int (zI z_9)]) (rest := [.ref a2]) (k_X8_setOf l z_9 q9 h_tb h_se hD hT (by omega) hs0) h_tb rfl gX10_conflict_X8_setOf rfl hd_X8_setOf (by decide) ⟨by decide, by decide⟩ hl.1 rfl (Nat.le_of_ble_eq_true rfl) dX10_conflict_56 rfl (fun z_56 ws H locs hp h => ?_)
        obtain ⟨rfl, rfl⟩ := hp
        refine r_callVI E h (As := [.long (bs (fun x => has d q9 x))]) (rest := []) (k_X0_commonColour l q9 h_co h_cop hD hq9 (fun x a b => by have := he9 x a b; omega)) h_co rfl gX10_conflict_X0_commonColour rfl hd_X0_commonColour (by decide) ⟨by decide, by decide⟩ hl.1 rfl (Nat.le_of_ble_eq_true rfl) dX10_conflict_59 rfl (fun z_59 ws H locs hp h => ?_)
        obtain ⟨rfl, rfl⟩ := hp
        refine r_istore (lv' := [(4, .int (zI (cAll d (cl d) q9))), (3, .int (zI z_9)), (0, .ref ax), (1, .int (zI ix)), (2, .int (zI wh))]) E hl dX10_conflict_62 (by decide) rfl (fun ls hl => ?_)
        refine r_iload_n E 4 hl rfl dX10_conflict_64 ?_
        by_cases t_65 : wh < 0 ∨ 3 < wh
        · refine r_tout E 126 dX10_conflict_65 (by omega) t_65 (by decide) ?_
          refine r_aload_n E 2 hl rfl dX10_conflict_126 ?_
          refine r_get (v := .ref a) E h h_x0 rfl inn_X10_conflict_10 5 (by decide) fl_X10_conflict_30 rfl dX10_conflict_127 ?_
          refine r_iload_n E 1 hl rfl dX10_conflict_130 ?_
          refine r_iload E 0 hl rfl dX10_conflict_131 ?_
          refine r_callVI E h (As := [.int (zI z_9), .int (zI (cAll d (cl d) q9))]) (rest := []) (k_X8_weightOf l z_9 q9 (cAll d (cl d) q9) h_tb h_wr h_wt hD hT (by omega) hs0 (by omega)) h_tb rfl gX10_conflict_X8_weightOf rfl hd_X8_weightOf (by decide) ⟨by decide, by decide⟩ hl.1 rfl (Nat.le_of_ble_eq_true rfl) dX10_conflict_133 rfl (fun z_133 ws H locs hp h => ?_)
          obtain ⟨rfl, rfl⟩ := hp
          refine W.widen (k := 1) (n := 6) (by decide) (by decide) ?_
          exact vx_ret (r_iret E h ⟨hrg, by omega, ⟨sN, q9, hk9, hn9c, hs9c, by rw [if_neg (by omega), if_neg (by omega), if_pos (by omega)]⟩, rfl⟩ dX10_conflict_136)
        · rcases (show wh = 0 ∨ wh = 1 ∨ wh = 2 ∨ wh = 3 by omega) with s_65 | s_65 | s_65 | s_65
          · refine r_tin (v := 0) E 96 dX10_conflict_65 s_65 (by decide) rfl (by decide) ?_
            refine r_aload_n E 2 hl rfl dX10_conflict_96 ?_
            refine r_get (v := .ref a) E h h_x0 rfl inn_X10_conflict_10 5 (by decide) fl_X10_conflict_30 rfl dX10_conflict_97 ?_
            refine r_iload_n E 1 hl rfl dX10_conflict_100 ?_
            refine r_callVI E h (As := [.int (zI z_9)]) (rest := []) (k_X8_ruleOf l z_9 q9 h_tb h_wr hD hT (by omega) hs0) h_tb rfl gX10_conflict_X8_ruleOf rfl hd_X8_ruleOf (by decide) ⟨by decide, by decide⟩ hl.1 rfl (Nat.le_of_ble_eq_true rfl) dX10_conflict_101 rfl (fun z_101 ws H locs hp h => ?_)
            obtain ⟨rfl, rfl⟩ := hp
            refine W.widen (k := 1) (n := 6) (by decide) (by decide) ?_
            exact vx_ret (r_iret E h ⟨hrg, by omega, ⟨sN, q9, hk9, hn9c, hs9c, by rw [if_pos (by omega)]⟩, rfl⟩ dX10_conflict_104)
          · refine r_tin (v := 1) E 105 dX10_conflict_65 s_65 (by decide) rfl (by decide) ?_
            refine r_aload_n E 2 hl rfl dX10_conflict_105 ?_
            refine r_get (v := .ref a) E h h_x0 rfl inn_X10_conflict_10 5 (by decide) fl_X10_conflict_30 rfl dX10_conflict_106 ?_
            refine r_iload_n E 1 hl rfl dX10_conflict_109 ?_
            refine r_callVI E h (As := [.int (zI z_9)]) (rest := []) (k_X8_smallestOf l z_9 q9 h_tb h_se hD hT (by omega) hs0) h_tb rfl gX10_conflict_X8_smallestOf rfl hd_X8_smallestOf (by decide) ⟨by decide, by decide⟩ hl.1 rfl (Nat.le_of_ble_eq_true rfl) dX10_conflict_110 rfl (fun z_110 ws H locs hp h => ?_)
            obtain ⟨rfl, rfl⟩ := hp
            refine W.widen (k := 1) (n := 6) (by decide) (by decide) ?_
            exact vx_ret (r_iret E h ⟨hrg, by omega, ⟨sN, q9, hk9, hn9c, hs9c, by rw [if_neg (by omega), if_neg (by omega), if_neg (by omega), if_pos (by omega)]⟩, rfl⟩ dX10_conflict_113)
          · refine r_tin (v := 2) E 114 dX10_conflict_65 s_65 (by decide) rfl (by decide) ?_
            refine r_aload_n E 2 hl rfl dX10_conflict_114 ?_
            refine r_get (v := .ref a) E h h_x0 rfl inn_X10_conflict_10 5 (by decide) fl_X10_conflict_30 rfl dX10_conflict_115 ?_
            refine r_iload_n E 1 hl rfl dX10_conflict_118 ?_
            refine r_callVI E h (As := [.int (zI z_9)]) (rest := []) (k_X8_greatestOf l z_9 q9 h_tb h_wr hD hT (by omega) hs0) h_tb rfl gX10_conflict_X8_greatestOf rfl hd_X8_greatestOf (by decide) ⟨by decide, by decide⟩ hl.1 rfl (Nat.le_of_ble_eq_true rfl) dX10_conflict_119 rfl (fun z_119 ws H locs hp h => ?_)
            obtain ⟨rfl, rfl⟩ := hp
            refine W.widen (k := 1) (n := 6) (by decide) (by decide) ?_
            exact vx_ret (r_iret E h ⟨hrg, by omega, ⟨sN, q9, hk9, hn9c, hs9c, by rw [if_neg (by omega), if_neg (by omega), if_neg (by omega), if_neg (by omega)]⟩, rfl⟩ dX10_conflict_122)
          · refine r_tin (v := 3) E 123 dX10_conflict_65 s_65 (by decide) rfl (by decide) ?_
            refine r_iload E 0 hl rfl dX10_conflict_123 ?_
            refine W.widen (k := 1) (n := 6) (by decide) (by decide) ?_
            exact vx_ret (r_iret E h ⟨hrg, by omega, ⟨sN, q9, hk9, hn9c, hs9c, by rw [if_neg (by omega), if_pos (by omega)]⟩, rfl⟩ dX10_conflict_125)
      · skip
        exact r_throwS E hX hxt h hl9 (text := "what is 0 to 4") (cls := "java/lang/IllegalArgumentException") (k9 := 2) (by decide) (List.mem_of_getElem? (i := 3) rfl) (List.mem_of_getElem? (i := 4) rfl) (by decide +kernel) xnn_X10_conflict_86 vxb_86 vxo_86 hl.1 dX10_conflict_37 dX10_conflict_40 dX10_conflict_41 dX10_conflict_43 dX10_conflict_46 ⟨by decide, by decide⟩ ⟨⟨by decide, by decide⟩, by decide, by decide⟩ (Or.inr ⟨rfl, hrg, by omega⟩)
  · skip
    have hnr : ¬ (0 ≤ ix ∧ ix < cnfA d (cl d)) := fun hh => e_z_9.elim (fun ⟨s9, q9, a1, a2, a3, a4⟩ => by omega) (fun a => by omega)
    exact r_throwS E hX hxt h hl9 (text := "no such conflict") (cls := "java/util/NoSuchElementException") (k9 := 1) (by decide) (List.mem_of_getElem? (i := 1) rfl) (List.mem_of_getElem? (i := 2) rfl) (by decide +kernel) xnn_X10_conflict_175 vxb_175 vxo_175 hl.1 dX10_conflict_18 dX10_conflict_21 dX10_conflict_22 dX10_conflict_24 dX10_conflict_27 ⟨by decide, by decide⟩ ⟨⟨by decide, by decide⟩, by decide, by decide⟩ (Or.inl ⟨rfl, hnr⟩)
theorem hd_X10_checksum : yX10_checksum.cls = RX10 ∧ yX10_checksum.cls ≠ "java/lang/invoke/MethodHandle" ∧ yX10_checksum.cls ≠ "java/lang/invoke/VarHandle" ∧ (parseMethodDescriptor yX10_checksum.desc).map (fun d => d.parameters.length) = some 0 := by decide +kernel
theorem fl_X10_checksum_74 : Cond.fieldLink RX10 74 (TX10 3).1 (TX10 3).2.1 (TX10 3).2.2.1 ∈ wsX10_checksum := List.mem_of_getElem? (i := 1) rfl
theorem inn_X10_checksum_10 : ∀ w ∈ wsX100, w ∈ wsX10_checksum := fun _ h => List.mem_cons_of_mem _ (List.mem_append_left _ (List.mem_append_left _ (List.mem_append_left _ (List.mem_append_right _ h))))
theorem fl_X10_checksum_118 : Cond.fieldLink RX10 118 (TX6 0).1 (TX6 0).2.1 (TX6 0).2.2.1 ∈ wsX10_checksum := List.mem_of_getElem? (i := 2) rfl
theorem inn_X10_checksum_6 : ∀ w ∈ wsX60, w ∈ wsX10_checksum := fun _ h => List.mem_cons_of_mem _ (List.mem_append_left _ (List.mem_append_left _ (List.mem_append_right _ h)))
theorem fl_X10_checksum_30 : Cond.fieldLink RX10 30 (TX10 5).1 (TX10 5).2.1 (TX10 5).2.2.1 ∈ wsX10_checksum := List.mem_of_getElem? (i := 5) rfl
theorem fl_X10_checksum_37 : Cond.fieldLink RX10 37 (TX10 6).1 (TX10 6).2.1 (TX10 6).2.2.1 ∈ wsX10_checksum := List.mem_of_getElem? (i := 4) rfl
abbrev rm_X10_checksum : Room := { frames := 2, cells := 0, slots := 0, locals := 48 }
set_option maxHeartbeats 1200000 in
set_option maxRecDepth 100000 in
theorem k_X10_checksum (l : Launch) {G : va_G} {cy : Nat → ClassId} {ws0 : va_W} {qx ax ain asu ard a a2 asr arp ahi : Nat} {inl erp : Int} {q ase awr art awt are ars : Nat} {se re : Int → Int64} {wr rt wt rs : Int → Int} {sz riw : Int} {qs ar9 afo : Nat} {q2 ap2 : Nat} {d : Int → Int} {T : List Int} (h_x0 : ws0[qx]? = some (ax, .inr (10, [.ref ain, .int (zI inl), .int (zI erp), .ref asu, .ref ard, .ref a, .ref a2, .ref asr, .ref arp, .ref ahi]))) (h_su : ws0[qs]? = some (asu, .inr (6, [.int (zI (d 0)), .int (zI (d 1)), .ref ar9, .ref afo]))) (h_co : ws0[q2]? = some (a2, .inr (0, [.ref ap2, .long (fmk (d 0) (fx d))]))) (h_cop : ws0[q2 + 1]? = some (ap2, aL cy 4 (mk (d 0) (cl d)))) (h_tb : ws0[q]? = some (a, .inr (8, [.ref ase, .ref awr, .int (zI sz), .ref art, .int (zI riw), .ref awt, .ref are, .ref ars]))) (h_se : ws0[q + 1]? = some (ase, aL cy 6400 se)) (h_wr : ws0[q + 2]? = some (awr, aI cy 6400 wr)) (h_wt : ws0[q + 4]? = some (awt, aI cy 656 wt)) (hD : DW d T) (hT : TW d T se wr rt wt re rs sz) : MLk l yX10_checksum wsX10_checksum rm_X10_checksum G cy [.ref ax] ws0 (fun z u => zL (csum d T) = z ∧ ws0 = u) := by
  refine MLk.of (own := RX10) (cc := cX10_checksum) (nL := 4) (ret := (some .long)) (by decide) rfl rfl (Nat.le_of_ble_eq_true rfl) ?_
  intro p e s m below meth c A ls hX E h hl
  have hl : lv_has ls 4 [(0, .ref ax)] := hl
  have hn9 := hD.n
  have hk9 := hD.k
  have he9 : ∀ x : Int, 1 ≤ x → x ≤ d 0 → 0 ≤ cl d x ∧ cl d x ≤ d 1 := fun x a b => hD.col a (by omega)
  refine r_lconst (v := zL 0) E dX10_checksum_0 (by decide) ?_
  refine r_lstore_n (lv' := [(1, .long (zL 0)), (0, .ref ax)]) E hl dX10_checksum_1 rfl (by decide) rfl (fun ls hl => ?_)
  refine r_iconst E dX10_checksum_2 ?_
  refine r_istore_n (lv' := [(3, .int (zI 1)), (1, .long (zL 0)), (0, .ref ax)]) E hl dX10_checksum_3 rfl (by decide) rfl (fun ls hl => ?_)
  refine r_loop (fun n H locs ls => ∃ (v9 : Int) (x : Int), n = (41 - x).toNat ∧ (1 ≤ x ∧ x ≤ d 0 + 1) ∧ (v9 = csN d (x - 1).toNat) ∧ Hp G ws0 A s.heap H locs ∧ lv_has ls 4 [(0, .ref ax), (1, .long (zL v9)), (3, .int (zI x))]) _ ⟨0, 1, rfl, (by omega), rfl, h, lv_sub hl [2, 1, 0] rfl⟩ ?_
  rintro n H locs ls ⟨v9, x, hn, i1, i2, h, hl⟩ ih_4
  refine r_iload_n E 2 hl rfl dX10_checksum_4 ?_
  refine r_aload_n E 0 hl rfl dX10_checksum_5 ?_
  refine r_get (v := .ref asu) E h h_x0 rfl inn_X10_checksum_10 3 (by decide) fl_X10_checksum_74 rfl dX10_checksum_6 ?_
  refine r_get (v := .int (zI (d 0))) E h h_su rfl inn_X10_checksum_6 0 (by decide) fl_X10_checksum_118 rfl dX10_checksum_9 ?_
  refine r_icmp_gt E 61 dX10_checksum_12 (by decide) (by omega) (fun c_12 => ?_) (fun c_12 => ?_)
  · skip
    have hca := cnfA_rng (e := cl d) hD
    have hwa := wgtA_rng (e := cl d) hD
    refine r_ldc2z E (v := 31) (List.mem_of_getElem? (i := 3) rfl) (n := 31) (by decide) dX10_checksum_61 ?_
    refine r_lload_n E 1 hl rfl dX10_checksum_64 ?_
    refine r_lmul E dX10_checksum_65 ?_
    refine r_aload_n E 0 hl rfl dX10_checksum_66 ?_
    refine r_get (v := .ref a) E h h_x0 rfl inn_X10_checksum_10 5 (by decide) fl_X10_checksum_30 rfl dX10_checksum_67 ?_
    refine r_aload_n E 0 hl rfl dX10_checksum_70 ?_
    refine r_get (v := .ref a2) E h h_x0 rfl inn_X10_checksum_10 6 (by decide) fl_X10_checksum_37 rfl dX10_checksum_71 ?_
    refine r_lconst (v := Int64.ofNat 0) E dX10_checksum_74 (by decide) ?_
    rw [show (Int64.ofNat 0) = bs (fun _ => false) from bs_0.symm]
    skip
    refine r_callVI E h (As := [.ref a2, .long (bs (fun _ => false))]) (rest := [.long (zL (31 * v9))]) (k_X8_countConflicts l (fun _ => false) (fun _ => true) h_tb h_se h_co h_cop hD hT he9 hW_all) h_tb rfl gX10_checksum_X8_countConflicts rfl hd_X8_countConflicts (by decide) ⟨by decide, by decide⟩ hl.1 rfl (Nat.le_of_ble_eq_true rfl) dX10_checksum_75 rfl (fun z_75 ws H locs hp h => ?_)
    obtain ⟨e_z_75, rfl⟩ := hp
    have ec9 : z_75 = cnfA d (cl d) := e_z_75.trans cnf_all
    rw [ec9]
    skip
    refine r_i2l E dX10_checksum_78 (by omega) ?_
    refine r_ladd E dX10_checksum_79 ?_
    refine r_lstore_n (lv' := [(1, .long (zL ((31 * v9) + (cnfA d (cl d))))), (0, .ref ax), (3, .int (zI x))]) E hl dX10_checksum_80 rfl (by decide) rfl (fun ls hl => ?_)
    refine r_ldc2z E (v := 31) (List.mem_of_getElem? (i := 3) rfl) (n := 31) (by decide) dX10_checksum_81 ?_
    refine r_lload_n E 0 hl rfl dX10_checksum_84 ?_
    refine r_lmul E dX10_checksum_85 ?_
    refine r_aload_n E 1 hl rfl dX10_checksum_86 ?_
    refine r_get (v := .ref a) E h h_x0 rfl inn_X10_checksum_10 5 (by decide) fl_X10_checksum_30 rfl dX10_checksum_87 ?_
    refine r_aload_n E 1 hl rfl dX10_checksum_90 ?_
    refine r_get (v := .ref a2) E h h_x0 rfl inn_X10_checksum_10 6 (by decide) fl_X10_checksum_37 rfl dX10_checksum_91 ?_
    refine r_callVI E h (As := [.ref a2]) (rest := [.long (zL (31 * ((31 * v9) + (cnfA d (cl d)))))]) (k_X8_weighConflicts l h_tb h_se h_wr h_wt h_co h_cop hD hT he9) h_tb rfl gX10_checksum_X8_weighConflicts rfl hd_X8_weighConflicts (by decide) ⟨by decide, by decide⟩ hl.1 rfl (Nat.le_of_ble_eq_true rfl) dX10_checksum_94 rfl (fun z_94 ws H locs hp h => ?_)
    obtain ⟨rfl, rfl⟩ := hp
    refine r_i2l E dX10_checksum_97 (by omega) ?_
    refine r_ladd E dX10_checksum_98 ?_
    exact r_lret E h ⟨by rw [i2, show (x - 1).toNat = (d 0).toNat by omega]; rfl, rfl⟩ dX10_checksum_99
  · skip
    have hcx := hD.c4 x (by omega) (by omega)
    have hfx := hD.fix (x := x) (by omega) (by omega)
    have hfx2 : fx d x = d (70 + x) := rfl
    have ecs : csN d (x + 1 - 1).toNat = 31 * (31 * csN d (x - 1).toNat + (d (29 + x) - 1)) + d (70 + x) := by
      rw [show (x + 1 - 1).toNat = (x - 1).toNat + 1 by omega]
      show 31 * (31 * csN d (x - 1).toNat + (d (29 + (((x - 1).toNat : Int) + 1)) - 1)) + d (70 + (((x - 1).toNat : Int) + 1)) = _
      rw [show (((x - 1).toNat : Int) + 1) = x by omega]
    have hclx : cl d x = d (29 + x) := rfl
    refine r_ldc2z E (v := 31) (List.mem_of_getElem? (i := 3) rfl) (n := 31) (by decide) dX10_checksum_15 ?_
    refine r_lload_n E 1 hl rfl dX10_checksum_18 ?_
    refine r_lmul E dX10_checksum_19 ?_
    refine r_aload_n E 0 hl rfl dX10_checksum_20 ?_
    refine r_get (v := .ref a2) E h h_x0 rfl inn_X10_checksum_10 6 (by decide) fl_X10_checksum_37 rfl dX10_checksum_21 ?_
    refine r_iload_n E 2 hl rfl dX10_checksum_24 ?_
    refine r_callVI E h (As := [.int (zI x)]) (rest := [.long (zL (31 * v9))]) (k_X0_colourOf l x h_co h_cop (by omega) (by omega) (by omega)) h_co rfl gX10_checksum_X0_colourOf rfl hd_X0_colourOf (by decide) ⟨by decide, by decide⟩ hl.1 rfl (Nat.le_of_ble_eq_true rfl) dX10_checksum_25 rfl (fun z_25 ws H locs hp h => ?_)
    obtain ⟨rfl, rfl⟩ := hp
    refine r_i2l E dX10_checksum_28 (by omega) ?_
    refine r_ladd E dX10_checksum_29 ?_
    refine r_lstore_n (lv' := [(1, .long (zL ((31 * v9) + ((cl d) x - 1)))), (0, .ref ax), (3, .int (zI x))]) E hl dX10_checksum_30 rfl (by decide) rfl (fun ls hl => ?_)
    refine r_ldc2z E (v := 31) (List.mem_of_getElem? (i := 3) rfl) (n := 31) (by decide) dX10_checksum_31 ?_
    refine r_lload_n E 0 hl rfl dX10_checksum_34 ?_
    refine r_lmul E dX10_checksum_35 ?_
    refine r_aload_n E 1 hl rfl dX10_checksum_36 ?_
    refine r_get (v := .ref a2) E h h_x0 rfl inn_X10_checksum_10 6 (by decide) fl_X10_checksum_37 rfl dX10_checksum_37 ?_
    refine r_iload_n E 2 hl rfl dX10_checksum_40 ?_
    refine r_callVI E h (As := [.int (zI x)]) (rest := [.long (zL (31 * ((31 * v9) + ((cl d) x - 1))))]) (k_X0_hasFixed l x h_co h_cop (by omega) (by omega)) h_co rfl gX10_checksum_X0_hasFixed rfl hd_X0_hasFixed (by decide) ⟨by decide, by decide⟩ hl.1 rfl (Nat.le_of_ble_eq_true rfl) dX10_checksum_41 rfl (fun z_41 ws H locs hp h => ?_)
    obtain ⟨e_z_41, rfl⟩ := hp
    refine r_cut (α := Int) (fun x_44 H locs ls => (x_44 = 0 ∧ z_41 = 0 ∨ x_44 = 1 ∧ ¬ z_41 = 0) ∧ Hp G ws0 A s.heap H locs ∧ lv_has ls 4 [(1, .long (zL ((31 * v9) + ((cl d) x - 1)))), (0, .ref ax), (3, .int (zI x))]) 52 (fun x_44 => [.int (zI x_44), .long (zL (31 * ((31 * v9) + ((cl d) x - 1))))]) ?_ ?_
    · rintro x_44 H locs ls ⟨b_44, h, hl⟩
      have hb44 : x_44 = d (70 + x) := by omega
      refine r_i2l E dX10_checksum_52 (by omega) ?_
      refine r_ladd E dX10_checksum_53 ?_
      refine r_lstore_n (lv' := [(1, .long (zL ((31 * ((31 * v9) + ((cl d) x - 1))) + x_44))), (0, .ref ax), (3, .int (zI x))]) E hl dX10_checksum_54 rfl (by decide) rfl (fun ls hl => ?_)
      refine r_iinc (lv' := [(3, .int (zI (x + 1))), (1, .long (zL ((31 * ((31 * v9) + ((cl d) x - 1))) + x_44))), (0, .ref ax)]) E 2 hl rfl dX10_checksum_55 (by decide) rfl (fun ls hl => ?_)
      refine r_goto E 4 dX10_checksum_58 (by decide) ?_
      exact ih_4 _ H locs ls (by omega) ⟨((31 * ((31 * v9) + ((cl d) x - 1))) + x_44), (x + 1), rfl, (by omega), (by rw [ecs, i2, hb44]; rfl), h, lv_sub hl [2, 1, 0] rfl⟩
    · intro kb_44
      refine r_if_eq E 51 dX10_checksum_44 (by decide) (by omega) (fun c_44 => ?_) (fun c_44 => ?_)
      · refine r_iconst E dX10_checksum_51 ?_
        exact kb_44 _ _ _ ls ⟨Or.inl ⟨rfl, c_44⟩, h, hl⟩
      · refine r_iconst E dX10_checksum_47 ?_
        refine r_goto E 52 dX10_checksum_48 (by decide) ?_
        exact kb_44 _ _ _ ls ⟨Or.inr ⟨rfl, c_44⟩, h, hl⟩
