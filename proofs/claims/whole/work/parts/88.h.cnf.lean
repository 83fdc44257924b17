def wsQ10_conflict : List Cond := .code yX10_conflict cX10_conflict 5 (some .int) :: ((wsX10_conflict_r1 ++ (wsX10_conflict_r2 ++ wsX10_conflict_r3)) ++ wsX100 ++ wsX80 ++ wsX00 ++ nsF ++ (vx_atS RX10 86 "java/lang/IllegalArgumentException" ["java/lang/RuntimeException", "java/lang/Exception"]).filter goodWord)
def wsQL_conflict : List Cond := .codeWith yL_conflict cL_conflict 5 (some .int) [(0, 10, 13, 34), (0, 10, 17, 13)] :: ((wsL_conflict_r1 ++ (wsL_conflict_r2 ++ wsL_conflict_r3)) ++ wsX100 ++ wsX80 ++ wsX00 ++ nsF ++ (vx_atS RX10 86 "java/lang/IllegalArgumentException" ["java/lang/RuntimeException", "java/lang/Exception"]).filter goodWord)
def wsQ_law : List Cond := wsL_law0 ++ (vx_atS RX10 86 "java/lang/IllegalArgumentException" ["java/lang/RuntimeException", "java/lang/Exception"]).filter goodWord ++ (vx_atS RX10 128 "java/lang/IndexOutOfBoundsException" ["java/lang/RuntimeException", "java/lang/Exception"]).filter goodWord ++ nsF ++ (vx_atS RX10 223 "java/lang/IllegalStateException" ["java/lang/RuntimeException", "java/lang/Exception"]).filter goodWord
set_option maxRecDepth 20000 in
theorem ggQ10_conflict_X8_findConflict : GoodIn wsQ10_conflict wsX8_findConflict := goodIn_r _ [11, 12, 13, 14, 15, 16, 17, 18, 19, 20, 65, 66, 67, 68, 69, 70, 71, 72, 73, 74] (by decide +kernel) (by decide +kernel)
set_option maxRecDepth 20000 in
theorem gQ10_conflict_X8_findConflict : GoodIn wsQ10_conflict (wsV RX10 167 RX8 yX8_findConflict wsX8_findConflict) := goodIn_app (goodIn_of _ (by decide +kernel)) ggQ10_conflict_X8_findConflict
set_option maxRecDepth 20000 in
theorem ggQ10_conflict_X8_setOf : GoodIn wsQ10_conflict wsX8_setOf := goodIn_r _ [24, 12, 13, 65, 66, 67, 68, 69, 70, 71, 72] (by decide +kernel) (by decide +kernel)
set_option maxRecDepth 20000 in
theorem gQ10_conflict_X8_setOf : GoodIn wsQ10_conflict (wsV RX10 178 RX8 yX8_setOf wsX8_setOf) := goodIn_app (goodIn_of _ (by decide +kernel)) ggQ10_conflict_X8_setOf
set_option maxRecDepth 20000 in
theorem ggQ10_conflict_X0_commonColour : GoodIn wsQ10_conflict wsX0_commonColour := goodIn_r _ [18, 19, 20, 73, 74] (by decide +kernel) (by decide +kernel)
set_option maxRecDepth 20000 in
theorem gQ10_conflict_X0_commonColour : GoodIn wsQ10_conflict (wsV RX10 181 RX0 yX0_commonColour wsX0_commonColour) := goodIn_app (goodIn_of _ (by decide +kernel)) ggQ10_conflict_X0_commonColour
set_option maxRecDepth 20000 in
theorem ggQ10_conflict_X8_ruleOf : GoodIn wsQ10_conflict wsX8_ruleOf := goodIn_r _ [29, 12, 30, 65, 66, 67, 68, 69, 70, 71, 72] (by decide +kernel) (by decide +kernel)
set_option maxRecDepth 20000 in
theorem gQ10_conflict_X8_ruleOf : GoodIn wsQ10_conflict (wsV RX10 184 RX8 yX8_ruleOf wsX8_ruleOf) := goodIn_app (goodIn_of _ (by decide +kernel)) ggQ10_conflict_X8_ruleOf
set_option maxRecDepth 20000 in
theorem ggQ10_conflict_X8_smallestOf : GoodIn wsQ10_conflict wsX8_smallestOf := goodIn_r _ [34, 35, 22, 23, 10, 24, 12, 13, 36, 37, 38, 39, 40, 41, 42, 43, 44, 45, 65, 66, 67, 68, 69, 70, 71, 72] (by decide +kernel) (by decide +kernel)
set_option maxRecDepth 20000 in
theorem gQ10_conflict_X8_smallestOf : GoodIn wsQ10_conflict (wsV RX10 187 RX8 yX8_smallestOf wsX8_smallestOf) := goodIn_app (goodIn_of _ (by decide +kernel)) ggQ10_conflict_X8_smallestOf
set_option maxRecDepth 20000 in
theorem ggQ10_conflict_X8_greatestOf : GoodIn wsQ10_conflict wsX8_greatestOf := goodIn_r _ [49, 12, 30, 65, 66, 67, 68, 69, 70, 71, 72] (by decide +kernel) (by decide +kernel)
set_option maxRecDepth 20000 in
theorem gQ10_conflict_X8_greatestOf : GoodIn wsQ10_conflict (wsV RX10 190 RX8 yX8_greatestOf wsX8_greatestOf) := goodIn_app (goodIn_of _ (by decide +kernel)) ggQ10_conflict_X8_greatestOf
set_option maxRecDepth 20000 in
theorem ggQ10_conflict_X8_weightOf : GoodIn wsQ10_conflict wsX8_weightOf := goodIn_r _ [53, 12, 30, 54, 65, 66, 67, 68, 69, 70, 71, 72] (by decide +kernel) (by decide +kernel)
set_option maxRecDepth 20000 in
theorem gQ10_conflict_X8_weightOf : GoodIn wsQ10_conflict (wsV RX10 193 RX8 yX8_weightOf wsX8_weightOf) := goodIn_app (goodIn_of _ (by decide +kernel)) ggQ10_conflict_X8_weightOf
theorem fl_Q10_conflict_30 : Cond.fieldLink RX10 30 (TX10 5).1 (TX10 5).2.1 (TX10 5).2.2.1 ∈ wsQ10_conflict := List.mem_of_getElem? (i := 5) rfl
theorem inn_Q10_conflict_10 : ∀ w ∈ wsX100, w ∈ wsQ10_conflict := fun _ h => List.mem_cons_of_mem _ (List.mem_append_left _ (List.mem_append_left _ (List.mem_append_left _ (List.mem_append_left _ (List.mem_append_right _ h)))))
theorem fl_Q10_conflict_37 : Cond.fieldLink RX10 37 (TX10 6).1 (TX10 6).2.1 (TX10 6).2.2.1 ∈ wsQ10_conflict := List.mem_of_getElem? (i := 6) rfl
theorem xnn_Q10_conflict_86 : ∀ w ∈ (vx_atS RX10 86 "java/lang/IllegalArgumentException" VXN).filter goodWord, w ∈ wsQ10_conflict := fun _ h => List.mem_cons_of_mem _ (List.mem_append_right _ h)
theorem xnn_Q10_conflict_175 : ∀ w ∈ nsF, w ∈ wsQ10_conflict := fun _ h => List.mem_cons_of_mem _ (List.mem_append_left _ (List.mem_append_right _ h))
set_option maxHeartbeats 1200000 in
set_option maxRecDepth 100000 in
theorem k_Q10_conflict (l : Launch) {G : va_G} {cy : Nat → ClassId} {ws0 : va_W} {qx ax ain asu ard a a2 asr arp ahi : Nat} {inl erp : Int} {q ase awr art awt are ars : Nat} {se re : Int → Int64} {wr rt wt rs : Int → Int} {sz riw : Int} {qs ar9 afo : Nat} {q2 ap2 : Nat} {d : Int → Int} {T : List Int} (ix wh : Int) (h_x0 : ws0[qx]? = some (ax, .inr (10, [.ref ain, .int (zI inl), .int (zI erp), .ref asu, .ref ard, .ref a, .ref a2, .ref asr, .ref arp, .ref ahi]))) (h_su : ws0[qs]? = some (asu, .inr (6, [.int (zI (d 0)), .int (zI (d 1)), .ref ar9, .ref afo]))) (h_co : ws0[q2]? = some (a2, .inr (0, [.ref ap2, .long (fmk (d 0) (fx d))]))) (h_cop : ws0[q2 + 1]? = some (ap2, aL cy 4 (mk (d 0) (cl d)))) (h_tb : ws0[q]? = some (a, .inr (8, [.ref ase, .ref awr, .int (zI sz), .ref art, .int (zI riw), .ref awt, .ref are, .ref ars]))) (h_se : ws0[q + 1]? = some (ase, aL cy 6400 se)) (h_wr : ws0[q + 2]? = some (awr, aI cy 6400 wr)) (h_wt : ws0[q + 4]? = some (awt, aI cy 656 wt)) (hD : DW d T) (hT : TW d T se wr rt wt re rs sz) (hr9 : (-2147483648 ≤ ix ∧ ix ≤ 2147483647) ∧ (-2147483648 ≤ wh ∧ wh ≤ 2147483647)) (hl9 : l.stackTraces = false) : TIk l yX10_conflict wsQ10_conflict rm_X10_conflict G cy [.ref ax, .int (zI ix), .int (zI wh)] ws0 (fun E9 => E9 = "java/util/NoSuchElementException" ∧ ¬ (0 ≤ ix ∧ ix < cnfA d (cl d)) ∨ E9 = "java/lang/IllegalArgumentException" ∧ (0 ≤ ix ∧ ix < cnfA d (cl d)) ∧ ¬ (0 ≤ wh ∧ wh ≤ 4)) (fun z u => (0 ≤ ix ∧ ix < cnfA d (cl d)) ∧ (0 ≤ wh ∧ wh ≤ 4) ∧ (∃ (s : Nat) (q : Ky), (KL d)[s]? = some q ∧ cAll d (cl d) q ≠ -1 ∧ sumL (fun q => is1 d (cl d) q) ((KL d).take s) = ix ∧ z = (if wh = 0 then q.1 else if wh = 3 then cAll d (cl d) q else if wh = 4 then wK d T q (cAll d (cl d) q) else if wh = 1 then lil d q else big d q)) ∧ ws0 = u) := by
  refine TIk.of (own := RX10) (cc := cX10_conflict) (nL := 5) (ret := (some .int)) (by decide) rfl rfl (Nat.le_of_ble_eq_true rfl) ?_
  intro p e s m below meth c A ls hX hxt E h hl
  have hl : lv_has ls 5 [(0, .ref ax), (1, .int (zI ix)), (2, .int (zI wh))] := hl
  have hn9 := hD.n
  have hk9 := hD.k
  have he9 : ∀ x : Int, 1 ≤ x → x ≤ d 0 → 0 ≤ cl d x ∧ cl d x ≤ d 1 := fun x a b => hD.col a (by omega)
  refine r_aload_n E 0 hl rfl dX10_conflict_0 ?_
  refine r_get (v := .ref a) E h h_x0 rfl inn_Q10_conflict_10 5 (by decide) fl_Q10_conflict_30 rfl dX10_conflict_1 ?_
  refine r_aload_n E 0 hl rfl dX10_conflict_4 ?_
  refine r_get (v := .ref a2) E h h_x0 rfl inn_Q10_conflict_10 6 (by decide) fl_Q10_conflict_37 rfl dX10_conflict_5 ?_
  refine r_iload_n E 1 hl rfl dX10_conflict_8 ?_
  have hca := cnfA_rng (e := cl d) hD
  refine r_callVI E h (As := [.ref a2, .int (zI ix)]) (rest := []) (k_X8_findConflict l ix h_tb h_se h_co h_cop hD hT he9 (by omega)) h_tb rfl gQ10_conflict_X8_findConflict rfl hd_X8_findConflict (by decide) ⟨by decide, by decide⟩ hl.1 rfl (Nat.le_of_ble_eq_true rfl) dX10_conflict_9 rfl (fun z_9 ws H locs hp h => ?_)
  obtain ⟨e_z_9, rfl⟩ := hp
  refine r_istore_n (lv' := [(3, .int (zI z_9)), (0, .ref ax), (1, .int (zI ix)), (2, .int (zI wh))]) E hl dX10_conflict_12 rfl (by decide) rfl (fun ls hl => ?_)
  have hzr : -1 ≤ z_9 ∧ z_9 ≤ 6400 := by
    rcases e_z_9 with ⟨s9, q9, a1, a2, a3, a4⟩ | a
    · have := lt_of_get a1; have := KL_len hD; omega
    · omega
  refine r_iload_n E 0 hl rfl dX10_conflict_13 ?_
  refine r_iconst E dX10_conflict_14 ?_
  refine r_icmp_ne E 28 dX10_conflict_15 (by decide) (by omega) (fun c_15 => ?_) (fun c_15 => ?_)
  · skip
    have hfd : ∃ (sN : Nat) (q9 : Ky), (KL d)[sN]? = some q9 ∧ cAll d (cl d) q9 ≠ -1 ∧ sumL (fun q => is1 d (cl d) q) ((KL d).take sN) = ix ∧ z_9 = (sN : Int) := e_z_9.elim id (fun hh => absurd hh.2 (by omega))
    obtain ⟨sN, q9, hk9, hn9c, hs9c, hz9⟩ := hfd
    have hq9 := KL_at hD hk9
    have hs0 : (KL d)[z_9.toNat]? = some q9 := by rw [show z_9.toNat = sN by omega]; exact hk9
    have e8 : is1 d (cl d) q9 = 1 := if_neg hn9c
    have e9 := sumL_take (f := fun q => is1 d (cl d) q) hk9
    have hs1 := sumT_le (s := sN) (f := fun q => is1 d (cl d) q) (l := KL d) (fun q _ => is1_rng.1)
    have hs2 := (sumT_le (s := sN + 1) (f := fun q => is1 d (cl d) q) (l := KL d) (fun q _ => is1_rng.1)).2
    have hrg : (0 ≤ ix ∧ ix < cnfA d (cl d)) := by
      have hc : cnfA d (cl d) = sumL (fun q => is1 d (cl d) q) (KL d) := rfl
      omega
    have hcr := cAll_rng2 (e := cl d) hD hq9 he9
    refine r_iload_n E 3 hl rfl dX10_conflict_28 ?_
    refine r_if_lt E 37 dX10_conflict_29 (by decide) (by omega) (fun c_29 => ?_) (fun c_29 => ?_)
    · skip
      exact r_throwS E hX hxt h hl9 (text := "what is 0 to 4") (cls := "java/lang/IllegalArgumentException") (k9 := 2) (by decide) (List.mem_of_getElem? (i := 3) rfl) (List.mem_of_getElem? (i := 4) rfl) (by decide +kernel) xnn_Q10_conflict_86 vxb_86 vxo_86 hl.1 dX10_conflict_37 dX10_conflict_40 dX10_conflict_41 dX10_conflict_43 dX10_conflict_46 ⟨by decide, by decide⟩ ⟨⟨by decide, by decide⟩, by decide, by decide⟩ (Or.inr ⟨rfl, hrg, by omega⟩)
    · skip
      refine r_iload_n E 3 hl rfl dX10_conflict_32 ?_
      refine r_iconst E dX10_conflict_33 ?_
      refine r_icmp_le E 47 dX10_conflict_34 (by decide) (by omega) (fun c_34 => ?_) (fun c_34 => ?_)
      · skip
        refine r_aload_n E 1 hl rfl dX10_conflict_47 ?_
        refine r_get (v := .ref a2) E h h_x0 rfl inn_Q10_conflict_10 6 (by decide) fl_Q10_conflict_37 rfl dX10_conflict_48 ?_
        refine r_aload_n E 1 hl rfl dX10_conflict_51 ?_
        refine r_get (v := .ref a) E h h_x0 rfl inn_Q10_conflict_10 5 (by decide) fl_Q10_conflict_30 rfl dX10_conflict_52 ?_
        refine r_iload_n E 0 hl rfl dX10_conflict_55 ?_
        refine r_callVL E h (As := [.int (zI z_9)]) (rest := [.ref a2]) (k_X8_setOf l z_9 q9 h_tb h_se hD hT (by omega) hs0) h_tb rfl gQ10_conflict_X8_setOf rfl hd_X8_setOf (by decide) ⟨by decide, by decide⟩ hl.1 rfl (Nat.le_of_ble_eq_true rfl) dX10_conflict_56 rfl (fun z_56 ws H locs hp h => ?_)
        obtain ⟨rfl, rfl⟩ := hp
        refine r_callVI E h (As := [.long (bs (fun x => has d q9 x))]) (rest := []) (k_X0_commonColour l q9 h_co h_cop hD hq9 (fun x a b => by have := he9 x a b; omega)) h_co rfl gQ10_conflict_X0_commonColour rfl hd_X0_commonColour (by decide) ⟨by decide, by decide⟩ hl.1 rfl (Nat.le_of_ble_eq_true rfl) dX10_conflict_59 rfl (fun z_59 ws H locs hp h => ?_)
        obtain ⟨rfl, rfl⟩ := hp
        refine r_istore (lv' := [(4, .int (zI (cAll d (cl d) q9))), (3, .int (zI z_9)), (0, .ref ax), (1, .int (zI ix)), (2, .int (zI wh))]) E hl dX10_conflict_62 (by decide) rfl (fun ls hl => ?_)
        refine r_iload_n E 4 hl rfl dX10_conflict_64 ?_
        by_cases t_65 : wh < 0 ∨ 3 < wh
        · refine r_tout E 126 dX10_conflict_65 (by omega) t_65 (by decide) ?_
          refine r_aload_n E 2 hl rfl dX10_conflict_126 ?_
          refine r_get (v := .ref a) E h h_x0 rfl inn_Q10_conflict_10 5 (by decide) fl_Q10_conflict_30 rfl dX10_conflict_127 ?_
          refine r_iload_n E 1 hl rfl dX10_conflict_130 ?_
          refine r_iload E 0 hl rfl dX10_conflict_131 ?_
          refine r_callVI E h (As := [.int (zI z_9), .int (zI (cAll d (cl d) q9))]) (rest := []) (k_X8_weightOf l z_9 q9 (cAll d (cl d) q9) h_tb h_wr h_wt hD hT (by omega) hs0 (by omega)) h_tb rfl gQ10_conflict_X8_weightOf rfl hd_X8_weightOf (by decide) ⟨by decide, by decide⟩ hl.1 rfl (Nat.le_of_ble_eq_true rfl) dX10_conflict_133 rfl (fun z_133 ws H locs hp h => ?_)
          obtain ⟨rfl, rfl⟩ := hp
          refine W.widen (k := 1) (n := 6) (by decide) (by decide) ?_
          exact vx_ret (r_iret E h ⟨hrg, by omega, ⟨sN, q9, hk9, hn9c, hs9c, by rw [if_neg (by omega), if_neg (by omega), if_pos (by omega)]⟩, rfl⟩ dX10_conflict_136)
        · rcases (show wh = 0 ∨ wh = 1 ∨ wh = 2 ∨ wh = 3 by omega) with s_65 | s_65 | s_65 | s_65
          · refine r_tin (v := 0) E 96 dX10_conflict_65 s_65 (by decide) rfl (by decide) ?_
            refine r_aload_n E 2 hl rfl dX10_conflict_96 ?_
            refine r_get (v := .ref a) E h h_x0 rfl inn_Q10_conflict_10 5 (by decide) fl_Q10_conflict_30 rfl dX10_conflict_97 ?_
            refine r_iload_n E 1 hl rfl dX10_conflict_100 ?_
            refine r_callVI E h (As := [.int (zI z_9)]) (rest := []) (k_X8_ruleOf l z_9 q9 h_tb h_wr hD hT (by omega) hs0) h_tb rfl gQ10_conflict_X8_ruleOf rfl hd_X8_ruleOf (by decide) ⟨by decide, by decide⟩ hl.1 rfl (Nat.le_of_ble_eq_true rfl) dX10_conflict_101 rfl (fun z_101 ws H locs hp h => ?_)
            obtain ⟨rfl, rfl⟩ := hp
            refine W.widen (k := 1) (n := 6) (by decide) (by decide) ?_
            exact vx_ret (r_iret E h ⟨hrg, by omega, ⟨sN, q9, hk9, hn9c, hs9c, by rw [if_pos (by omega)]⟩, rfl⟩ dX10_conflict_104)
          · refine r_tin (v := 1) E 105 dX10_conflict_65 s_65 (by decide) rfl (by decide) ?_
            refine r_aload_n E 2 hl rfl dX10_conflict_105 ?_
            refine r_get (v := .ref a) E h h_x0 rfl inn_Q10_conflict_10 5 (by decide) fl_Q10_conflict_30 rfl dX10_conflict_106 ?_
            refine r_iload_n E 1 hl rfl dX10_conflict_109 ?_
            refine r_callVI E h (As := [.int (zI z_9)]) (rest := []) (k_X8_smallestOf l z_9 q9 h_tb h_se hD hT (by omega) hs0) h_tb rfl gQ10_conflict_X8_smallestOf rfl hd_X8_smallestOf (by decide) ⟨by decide, by decide⟩ hl.1 rfl (Nat.le_of_ble_eq_true rfl) dX10_conflict_110 rfl (fun z_110 ws H locs hp h => ?_)
            obtain ⟨rfl, rfl⟩ := hp
            refine W.widen (k := 1) (n := 6) (by decide) (by decide) ?_
            exact vx_ret (r_iret E h ⟨hrg, by omega, ⟨sN, q9, hk9, hn9c, hs9c, by rw [if_neg (by omega), if_neg (by omega), if_neg (by omega), if_pos (by omega)]⟩, rfl⟩ dX10_conflict_113)
          · refine r_tin (v := 2) E 114 dX10_conflict_65 s_65 (by decide) rfl (by decide) ?_
            refine r_aload_n E 2 hl rfl dX10_conflict_114 ?_
            refine r_get (v := .ref a) E h h_x0 rfl inn_Q10_conflict_10 5 (by decide) fl_Q10_conflict_30 rfl dX10_conflict_115 ?_
            refine r_iload_n E 1 hl rfl dX10_conflict_118 ?_
            refine r_callVI E h (As := [.int (zI z_9)]) (rest := []) (k_X8_greatestOf l z_9 q9 h_tb h_wr hD hT (by omega) hs0) h_tb rfl gQ10_conflict_X8_greatestOf rfl hd_X8_greatestOf (by decide) ⟨by decide, by decide⟩ hl.1 rfl (Nat.le_of_ble_eq_true rfl) dX10_conflict_119 rfl (fun z_119 ws H locs hp h => ?_)
            obtain ⟨rfl, rfl⟩ := hp
            refine W.widen (k := 1) (n := 6) (by decide) (by decide) ?_
            exact vx_ret (r_iret E h ⟨hrg, by omega, ⟨sN, q9, hk9, hn9c, hs9c, by rw [if_neg (by omega), if_neg (by omega), if_neg (by omega), if_neg (by omega)]⟩, rfl⟩ dX10_conflict_122)
          · refine r_tin (v := 3) E 123 dX10_conflict_65 s_65 (by decide) rfl (by decide) ?_
            refine r_iload E 0 hl rfl dX10_conflict_123 ?_
            refine W.widen (k := 1) (n := 6) (by decide) (by decide) ?_
            exact vx_ret (r_iret E h ⟨hrg, by omega, ⟨sN, q9, hk9, hn9c, hs9c, by rw [if_neg (by omega), if_pos (by omega)]⟩, rfl⟩ dX10_conflict_125)
      · skip
        exact r_throwS E hX hxt h hl9 (text := "what is 0 to 4") (cls := "java/lang/IllegalArgumentException") (k9 := 2) (by decide) (List.mem_of_getElem? (i := 3) rfl) (List.mem_of_getElem? (i := 4) rfl) (by decide +kernel) xnn_Q10_conflict_86 vxb_86 vxo_86 hl.1 dX10_conflict_37 dX10_conflict_40 dX10_conflict_41 dX10_conflict_43 dX10_conflict_46 ⟨by decide, by decide⟩ ⟨⟨by decide, by decide⟩, by decide, by decide⟩ (Or.inr ⟨rfl, hrg, by omega⟩)
  · skip
    have hnr : ¬ (0 ≤ ix ∧ ix < cnfA d (cl d)) := fun hh => e_z_9.elim (fun ⟨s9, q9, a1, a2, a3, a4⟩ => by omega) (fun a => by omega)
    exact r_throwN E hX hxt h hl9 (text := "no such conflict") (k9 := 1) (List.mem_of_getElem? (i := 1) rfl) (List.mem_of_getElem? (i := 2) rfl) (by decide +kernel) xnn_Q10_conflict_175 hl.1 dX10_conflict_18 dX10_conflict_21 dX10_conflict_22 dX10_conflict_24 dX10_conflict_27 ⟨by decide, by decide⟩ ⟨⟨by decide, by decide⟩, by decide, by decide⟩ (Or.inl ⟨rfl, hnr⟩)
