theorem set_pr {d : Int → Int} {r x s i : Int} (hL : ¬ d (5 + 6 * r) = 0) (hi : 0 ≤ i) : bs (fun v => hasN d (r, x, x + s) v i.toNat) ||| bs (fun v8 => decide (v8 = x + i * s)) = bs (fun v => hasN d (r, x, x + s) v (i + 1).toNat) := by
  rw [bs_or]
  apply bs_congr
  intro v _ _
  rw [show (i + 1).toNat = i.toNat + 1 by omega]
  show (hasN d (r, x, x + s) v i.toNat || decide (v = x + i * s)) = (hasN d (r, x, x + s) v i.toNat || decide (km d (r, x, x + s) (i.toNat : Int) = v))
  have e : km d (r, x, x + s) (i.toNat : Int) = x + i * s := by
    have h1 : km d (r, x, x + s) (i.toNat : Int) = x + (x + s - x) * (i.toNat : Int) := if_neg hL
    rw [h1, show ((i.toNat : Nat) : Int) = i by omega, show x + s - x = s by omega, Int.mul_comm]
  rw [e]
  congr 1
  exact decide_eq_decide.mpr eq_comm
theorem has_pr {d : Int → Int} {r x s i : Int} (hL : ¬ d (5 + 6 * r) = 0) (h : i = d (5 + 6 * r)) : bs (fun v => hasN d (r, x, x + s) v i.toNat) = bs (fun v => has d (r, x, x + s) v) := by
  have hk : kl d (r, x, x + s) = d (5 + 6 * r) := if_neg hL
  apply bs_congr
  intro v _ _
  unfold has
  rw [hk, h]
theorem big_pr {d : Int → Int} {r x s : Int} (hL : 3 ≤ d (5 + 6 * r)) (hs : 0 ≤ s) : big d (r, x, x + s) = x + (d (5 + 6 * r) - 1) * s := by
  have hk : kl d (r, x, x + s) = d (5 + 6 * r) := if_neg (show ¬ d (5 + 6 * r) = 0 by omega)
  have hm : ∀ k : Int, km d (r, x, x + s) k = x + k * s := fun k => by
    have h1 : km d (r, x, x + s) k = x + (x + s - x) * k := if_neg (show ¬ d (5 + 6 * r) = 0 by omega)
    rw [h1, show x + s - x = s by omega, Int.mul_comm]
  unfold big
  rw [hk]
  obtain ⟨⟨k, a, b, c⟩, h9⟩ := bigN_iff (d := d) (q := (r, x, x + s)) (d (5 + 6 * r) - 1).toNat
  have g0 := h9 (d (5 + 6 * r) - 1) (by omega) (by omega)
  rw [hm] at g0 c
  have h2 : k * s ≤ (d (5 + 6 * r) - 1) * s := Int.mul_le_mul_of_nonneg_right (by omega) hs
  omega
/-- no solution of a progression from here on -/
theorem okP_no {d : Int → Int} {r x s y : Int} (hL : 3 ≤ d (5 + 6 * r)) (hs : 1 ≤ s) (h : d 0 < x + (d (5 + 6 * r) - 1) * s) (hy : x + s ≤ y) : okK d r x y = false := by
  by_cases q : okK d r x y = true
  · unfold okK at q
    rw [if_neg (by omega)] at q
    have h1 := (okP_iff.mp q).2
    have h2 : s * (d (5 + 6 * r) - 1) ≤ (y - x) * (d (5 + 6 * r) - 1) := Int.mul_le_mul_of_nonneg_right (by omega) (by omega)
    rw [Int.mul_comm] at h2
    omega
  · simpa using q
theorem lE_cut {d : Int → Int} {r x y : Int} {KS : List Ky} (hy : 1 ≤ y) (h1 : y ≤ d 0 + 1) (h : ∀ z : Int, y ≤ z → okK d r x z = false) : lE d r KS x (d 0 + 1) = lE d r KS x y := by
  unfold lE
  rw [show (d 0 + 1 - 1).toNat = (y - 1).toNat + ((d 0).toNat - (y - 1).toNat) by omega, kY_none _ (fun z hz => h z (by omega))]
theorem lE_fst {d : Int → Int} {r x : Int} {KS : List Ky} (hL : ¬ d (5 + 6 * r) = 0) (hx : 1 ≤ x) : lE d r KS x (x + 1) = lE d r KS x 1 := by
  unfold lE
  rw [kY_first _ (fun y hy => by
    by_cases q : okK d r x y = true
    · unfold okK at q
      rw [if_neg hL] at q
      have := (okP_iff.mp q).1
      omega
    · simpa using q), kY_first _ (fun y hy => by
    by_cases q : okK d r x y = true
    · unfold okK at q
      rw [if_neg hL] at q
      have := (okP_iff.mp q).1
      omega
    · simpa using q)]
theorem hd_X4_addProgressions : yX4_addProgressions.cls = RX4 ∧ yX4_addProgressions.cls ≠ "java/lang/invoke/MethodHandle" ∧ yX4_addProgressions.cls ≠ "java/lang/invoke/VarHandle" ∧ (parseMethodDescriptor yX4_addProgressions.desc).map (fun d => d.parameters.length) = some 2 := by decide +kernel
theorem fl_X4_addProgressions_7 : Cond.fieldLink RX4 7 (TX4 0).1 (TX4 0).2.1 (TX4 0).2.2.1 ∈ wsX4_addProgressions := List.mem_of_getElem? (i := 1) rfl
theorem inn_X4_addProgressions_4 : ∀ w ∈ wsX40, w ∈ wsX4_addProgressions := fun _ h => List.mem_cons_of_mem _ (List.mem_append_left _ (List.mem_append_right _ h))
abbrev rm_X4_addProgressions : Room := { frames := 1, cells := 0, slots := 0, locals := 23 }
set_option maxHeartbeats 1200000 in
set_option maxRecDepth 100000 in
theorem k_X4_addProgressions (l : Launch) {G : va_G} {cy : Nat → ClassId} {ws0 : va_W} {qr aru : Nat} {q a ase awr art awt are ars : Nat} {se : Int → Int64} {wr : Int → Int} {sz riw : Int} {d : Int → Int} {KS : List Ky} {f1 f2 f3 f4 f5 : Int} (r9 : Int) (nn9 : Int) (h_ru : ws0[qr]? = some (aru, .inr (4, [.int (zI (d (5 + 6 * r9))), .int (zI f1), .int (zI f2), .int (zI f3), .int (zI f4), .int (zI f5)]))) (h_tb : ws0[q]? = some (a, .inr (8, [.ref ase, .ref awr, .int (zI sz), .ref art, .int (zI riw), .ref awt, .ref are, .ref ars]))) (h_se : ws0[q + 1]? = some (ase, aL cy 6400 se)) (h_wr : ws0[q + 2]? = some (awr, aI cy 6400 wr)) (hqr : qr < q ∨ q + 3 ≤ qr) (hn : 0 ≤ d 0 ∧ d 0 ≤ 40) (hKS : KS.length ≤ 4800) (hsz : sz = KS.length) (hTE : TE d KS se wr) (hriw : riw = r9) (hnn : nn9 = d 0) (hL : 3 ≤ d (5 + 6 * r9) ∧ d (5 + 6 * r9) ≤ 6) : MV l yX4_addProgressions wsX4_addProgressions rm_X4_addProgressions G cy [.ref aru, .int (zI nn9), .ref a] ws0 (fun u => ∃ (se2 : Int → Int64) (wr2 : Int → Int), u[q]? = some (a, .inr (8, [.ref ase, .ref awr, .int (zI (((KS ++ kX d r9 (d 0).toNat).length : Int))), .ref art, .int (zI r9), .ref awt, .ref are, .ref ars])) ∧ u[q + 1]? = some (ase, aL cy 6400 se2) ∧ u[q + 2]? = some (awr, aI cy 6400 wr2) ∧ TE d (KS ++ kX d r9 (d 0).toNat) se2 wr2 ∧ Eqx ws0 u (fun j => j = q ∨ j = q + 1 ∨ j = q + 2)) := by
  refine MV.of (own := RX4) (cc := cX4_addProgressions) (nL := 8) (ret := none) (by decide) rfl rfl (Nat.le_of_ble_eq_true rfl) ?_
  intro p e s m below meth c A ls hin E h hl
  have hl : lv_has ls 8 [(0, .ref aru), (1, .int (zI nn9)), (2, .ref a)] := hl
  have hE : Eqx ws0 ws0 (fun j => j = q ∨ j = q + 1 ∨ j = q + 2) := Eqx.rf
  have hL0 : ¬ d (5 + 6 * r9) = 0 := by omega
  rw [hsz, hriw] at h_tb
  rw [show (KS.length : Int) = ((lE d r9 KS 1 1).length : Int) by rw [lE_0]] at h_tb
  skip
  refine r_iconst E dX4_addProgressions_0 ?_
  refine r_istore_n (lv' := [(3, .int (zI 1)), (0, .ref aru), (1, .int (zI nn9)), (2, .ref a)]) E hl dX4_addProgressions_1 rfl (by decide) rfl (fun ls hl => ?_)
  refine r_loop (fun n H locs ls => ∃ (ws : va_W) (x : Int) (se2 : Int → Int64) (wr2 : Int → Int), n = (41 - x).toNat ∧ (1 ≤ x ∧ x ≤ d 0 + 1) ∧ (TE d (lE d r9 KS x 1) se2 wr2) ∧ Hp G ws A s.heap H locs ∧ (ws[qr]? = some (aru, .inr (4, [.int (zI (d (5 + 6 * r9))), .int (zI f1), .int (zI f2), .int (zI f3), .int (zI f4), .int (zI f5)]))) ∧ (ws[q]? = some (a, .inr (8, [.ref ase, .ref awr, .int (zI (((lE d r9 KS x 1).length : Int))), .ref art, .int (zI r9), .ref awt, .ref are, .ref ars]))) ∧ (ws[q + 1]? = some (ase, aL cy 6400 se2)) ∧ (ws[q + 2]? = some (awr, aI cy 6400 wr2)) ∧ Eqx ws0 ws (fun j => j = q ∨ j = q + 1 ∨ j = q + 2) ∧ lv_has ls 8 [(0, .ref aru), (1, .int (zI nn9)), (2, .ref a), (3, .int (zI x))]) _ ⟨ws0, 1, se, wr, rfl, (by omega), (by rw [lE_0]; exact hTE), h, h_ru, h_tb, h_se, h_wr, hE, lv_sub hl [1, 2, 3, 0] rfl⟩ ?_
  rintro n H locs ls ⟨ws, x, se2, wr2, hn, i1, i2, h, h_ru, h_tb, h_se, h_wr, hE, hl⟩ ih_2
  refine r_iload_n E 3 hl rfl dX4_addProgressions_2 ?_
  refine r_iload_n E 1 hl rfl dX4_addProgressions_3 ?_
  refine r_icmp_gt E 95 dX4_addProgressions_4 (by decide) (by omega) (fun c_4 => ?_) (fun c_4 => ?_)
  · skip
    have hxn : x = d 0 + 1 := by omega
    rw [lE_end (by omega) hxn] at h_tb
    exact r_vret E h ⟨se2, wr2, h_tb, h_se, h_wr, by rw [← lE_end (by omega) hxn]; exact i2, hE⟩ dX4_addProgressions_95
  · skip
    rw [← lE_fst hL0 i1.1] at h_tb i2
    skip
    refine r_iconst E dX4_addProgressions_7 ?_
    refine r_istore (lv' := [(4, .int (zI 1)), (0, .ref aru), (1, .int (zI nn9)), (2, .ref a), (3, .int (zI x))]) E hl dX4_addProgressions_8 (by decide) rfl (fun ls hl => ?_)
    refine r_loop (fun n H locs ls => ∃ (ws : va_W) (st : Int) (se3 : Int → Int64) (wr3 : Int → Int), n = (42 - st).toNat ∧ (1 ≤ st ∧ x + st - 1 ≤ d 0) ∧ (TE d (lE d r9 KS x (x + st)) se3 wr3) ∧ Hp G ws A s.heap H locs ∧ (ws[qr]? = some (aru, .inr (4, [.int (zI (d (5 + 6 * r9))), .int (zI f1), .int (zI f2), .int (zI f3), .int (zI f4), .int (zI f5)]))) ∧ (ws[q]? = some (a, .inr (8, [.ref ase, .ref awr, .int (zI (((lE d r9 KS x (x + st)).length : Int))), .ref art, .int (zI r9), .ref awt, .ref are, .ref ars]))) ∧ (ws[q + 1]? = some (ase, aL cy 6400 se3)) ∧ (ws[q + 2]? = some (awr, aI cy 6400 wr3)) ∧ Eqx ws0 ws (fun j => j = q ∨ j = q + 1 ∨ j = q + 2) ∧ lv_has ls 8 [(0, .ref aru), (1, .int (zI nn9)), (2, .ref a), (3, .int (zI x)), (4, .int (zI st))]) _ ⟨ws, 1, se2, wr2, rfl, (by omega), i2, h, h_ru, h_tb, h_se, h_wr, hE, lv_sub hl [1, 2, 3, 4, 0] rfl⟩ ?_
    rintro n H locs ls ⟨ws, st, se3, wr3, hn, j1, j2, h, h_ru, h_tb, h_se, h_wr, hE, hl⟩ ih_10
    have hp1 := mul_rng (a := d (5 + 6 * r9) - 1) (x := st) (A := 5) (X := 41) (by omega) (by omega)
    have hp2 : 2 * st ≤ ((d (5 + 6 * r9)) - 1) * st := Int.mul_le_mul_of_nonneg_right (by omega) (by omega)
    have hll := lE_len (d := d) (r := r9) (KS := KS) (x := x) (y := x + st) (by omega) (by omega) (by omega)
    refine r_iload_n E 3 hl rfl dX4_addProgressions_10 ?_
    refine r_aload_n E 0 hl rfl dX4_addProgressions_11 ?_
    refine r_get (v := .int (zI (d (5 + 6 * r9)))) E h h_ru rfl inn_X4_addProgressions_4 0 (by decide) fl_X4_addProgressions_7 rfl dX4_addProgressions_12 ?_
    refine r_iconst E dX4_addProgressions_15 ?_
    refine r_isub E dX4_addProgressions_16 ?_
    refine r_iload E 4 hl rfl dX4_addProgressions_17 ?_
    refine r_imul E dX4_addProgressions_19 ?_
    refine r_iadd E dX4_addProgressions_20 ?_
    refine r_iload_n E 1 hl rfl dX4_addProgressions_21 ?_
    refine r_icmp_gt E 89 dX4_addProgressions_22 (by decide) (by omega) (fun c_22 => ?_) (fun c_22 => ?_)
    · skip
      have hno := fun y => okP_no (d := d) (r := r9) (x := x) (s := st) (y := y) hL.1 (by omega) (by omega)
      have hcut : (lE d r9 KS x (x + st)) = (lE d r9 KS (x + 1) 1) := by rw [← lE_row (by omega) (by omega)]; exact (lE_cut (by omega) (by omega) hno).symm
      rw [hcut] at h_tb
      skip
      refine r_iinc (lv' := [(3, .int (zI (x + 1))), (0, .ref aru), (1, .int (zI nn9)), (2, .ref a), (4, .int (zI st))]) E 3 hl rfl dX4_addProgressions_89 (by decide) rfl (fun ls hl => ?_)
      refine r_goto E 2 dX4_addProgressions_92 (by decide) ?_
      exact ih_2 _ H locs ls (by omega) ⟨ws, (x + 1), se3, wr3, rfl, (by omega), (by rw [← hcut]; exact j2), h, h_ru, h_tb, h_se, h_wr, hE, lv_sub hl [1, 2, 3, 0] rfl⟩
    · skip
      refine r_iload E 4 hl rfl dX4_addProgressions_25 ?_
      refine r_iload_n E 1 hl rfl dX4_addProgressions_27 ?_
      refine r_icmp_gt E 89 dX4_addProgressions_28 (by decide) (by omega) (fun c_28 => ?_) (fun c_28 => ?_)
      · skip
        have hno := fun y => okP_no (d := d) (r := r9) (x := x) (s := st) (y := y) hL.1 (by omega) (by omega)
        have hcut : (lE d r9 KS x (x + st)) = (lE d r9 KS (x + 1) 1) := by rw [← lE_row (by omega) (by omega)]; exact (lE_cut (by omega) (by omega) hno).symm
        rw [hcut] at h_tb
        skip
        refine r_iinc (lv' := [(3, .int (zI (x + 1))), (0, .ref aru), (1, .int (zI nn9)), (2, .ref a), (4, .int (zI st))]) E 3 hl rfl dX4_addProgressions_89 (by decide) rfl (fun ls hl => ?_)
        refine r_goto E 2 dX4_addProgressions_92 (by decide) ?_
        exact ih_2 _ H locs ls (by omega) ⟨ws, (x + 1), se3, wr3, rfl, (by omega), (by rw [← hcut]; exact j2), h, h_ru, h_tb, h_se, h_wr, hE, lv_sub hl [1, 2, 3, 0] rfl⟩
      · skip
        refine r_lconst (v := zL 0) E dX4_addProgressions_31 (by decide) ?_
        rw [show (zL 0) = bs (fun v => hasN d (r9, x, x + st) v (Int.toNat 0)) from (bs_eq0.mpr (fun _ _ _ => rfl)).symm]
        skip
        refine r_lstore (lv' := [(5, .long (bs (fun v => hasN d (r9, x, x + st) v (Int.toNat 0)))), (0, .ref aru), (1, .int (zI nn9)), (2, .ref a), (3, .int (zI x)), (4, .int (zI st))]) E hl dX4_addProgressions_32 (by decide) rfl (fun ls hl => ?_)
        refine r_iconst E dX4_addProgressions_34 ?_
        refine r_istore (lv' := [(7, .int (zI 0)), (5, .long (bs (fun v => hasN d (r9, x, x + st) v (Int.toNat 0)))), (0, .ref aru), (1, .int (zI nn9)), (2, .ref a), (3, .int (zI x)), (4, .int (zI st))]) E hl dX4_addProgressions_35 (by decide) rfl (fun ls hl => ?_)
        refine r_loop (fun n H locs ls => ∃ (i : Int), n = (6 - i).toNat ∧ (0 ≤ i ∧ i ≤ d (5 + 6 * r9)) ∧ Hp G ws A s.heap H locs ∧ lv_has ls 8 [(0, .ref aru), (1, .int (zI nn9)), (2, .ref a), (3, .int (zI x)), (4, .int (zI st)), (5, .long (bs (fun v => hasN d (r9, x, x + st) v i.toNat))), (7, .int (zI i))]) _ ⟨0, rfl, (by omega), h, lv_sub hl [2, 3, 4, 5, 6, 1, 0] rfl⟩ ?_
        rintro n H locs ls ⟨i, hn, k1, h, hl⟩ ih_37
        refine r_iload E 6 hl rfl dX4_addProgressions_37 ?_
        refine r_aload_n E 0 hl rfl dX4_addProgressions_39 ?_
        refine r_get (v := .int (zI (d (5 + 6 * r9)))) E h h_ru rfl inn_X4_addProgressions_4 0 (by decide) fl_X4_addProgressions_7 rfl dX4_addProgressions_40 ?_
        refine r_icmp_ge E 66 dX4_addProgressions_43 (by decide) (by omega) (fun c_43 => ?_) (fun c_43 => ?_)
        · skip
          have hok : okK d r9 x (x + st) = true := by
            unfold okK
            rw [if_neg hL0]
            refine okP_iff.mpr ⟨by omega, ?_⟩
            rw [show x + st - x = st by omega, Int.mul_comm]; omega
          have hll2 : (lE d r9 KS x (x + st + 1)) = (lE d r9 KS x (x + st)) ++ [(r9, x, x + st)] := lE_ok (by omega) hok
          refine r_aload_n E 2 hl rfl dX4_addProgressions_66 ?_
          refine r_lload E 5 hl rfl dX4_addProgressions_67 ?_
          rw [show (bs (fun v => hasN d (r9, x, x + st) v i.toNat)) = bs (fun v => has d (r9, x, x + st) v) from (has_pr hL0 (by omega))]
          skip
          refine r_iload_n E 3 hl rfl dX4_addProgressions_69 ?_
          refine r_aload_n E 0 hl rfl dX4_addProgressions_70 ?_
          refine r_get (v := .int (zI (d (5 + 6 * r9)))) E h h_ru rfl inn_X4_addProgressions_4 0 (by decide) fl_X4_addProgressions_7 rfl dX4_addProgressions_71 ?_
          refine r_iconst E dX4_addProgressions_74 ?_
          refine r_isub E dX4_addProgressions_75 ?_
          refine r_iload E 4 hl rfl dX4_addProgressions_76 ?_
          refine r_imul E dX4_addProgressions_78 ?_
          refine r_iadd E dX4_addProgressions_79 ?_
          refine r_callVV E h (As := [.long (bs (fun v => has d (r9, x, x + st) v)), .int (zI (x + (((d (5 + 6 * r9)) - 1) * st)))]) (rest := []) (k_X8_add l (bs (fun v => has d (r9, x, x + st) v)) (x + (((d (5 + 6 * r9)) - 1) * st)) h_tb h_se h_wr (by omega)) h_tb rfl gX4_addProgressions_X8_add rfl hd_X8_add (by decide) ⟨by decide, by decide⟩ hl.1 rfl (Nat.le_of_ble_eq_true rfl) dX4_addProgressions_80 rfl (fun ws H locs hp h => ?_)
          obtain ⟨h_tb, h_se, h_wr, hf⟩ := hp
          have h_ru := hf.at h_ru (by first | omega | (dsimp only <;> omega))
          have hE := hE.tr (hf.wk (fun j hj => by first | omega | (dsimp only at hj ⊢ <;> omega)))
          rw [show (((lE d r9 KS x (x + st)).length : Int) + 1) = ((lE d r9 KS x (x + st + 1)).length : Int) by rw [hll2]; simp, show x + st + 1 = x + (st + 1) by omega] at h_tb
          skip
          refine r_iinc (lv' := [(4, .int (zI (st + 1))), (0, .ref aru), (1, .int (zI nn9)), (2, .ref a), (3, .int (zI x)), (5, .long (bs (fun v => hasN d (r9, x, x + st) v i.toNat))), (7, .int (zI i))]) E 4 hl rfl dX4_addProgressions_83 (by decide) rfl (fun ls hl => ?_)
          refine r_goto E 10 dX4_addProgressions_86 (by decide) ?_
          exact ih_10 _ H locs ls (by omega) ⟨ws, (st + 1), (uZ se3 (((lE d r9 KS x (x + st)).length : Int)) (bs (fun v => has d (r9, x, x + st) v))), (uZ wr3 (((lE d r9 KS x (x + st)).length : Int)) (r9 * 41 + (x + (((d (5 + 6 * r9)) - 1) * st)))), rfl, (by omega), (by rw [show x + (st + 1) = x + st + 1 by omega, hll2]; exact j2.app rfl rfl (by rw [big_pr hL.1 (by omega)]; omega)), h, h_ru, h_tb, h_se, h_wr, hE, lv_sub hl [1, 2, 3, 4, 0] rfl⟩
        · skip
          have his0 := mul_rng (a := i) (x := st) (A := 6) (X := 41) (by omega) (by omega)
          have his : i * st ≤ ((d (5 + 6 * r9)) - 1) * st := Int.mul_le_mul_of_nonneg_right (by omega) (by omega)
          refine r_lload E 5 hl rfl dX4_addProgressions_46 ?_
          refine r_lconst (v := zL 1) E dX4_addProgressions_48 (by decide) ?_
          refine r_iload_n E 3 hl rfl dX4_addProgressions_49 ?_
          refine r_iload E 6 hl rfl dX4_addProgressions_50 ?_
          refine r_iload E 4 hl rfl dX4_addProgressions_52 ?_
          refine r_imul E dX4_addProgressions_54 ?_
          refine r_iadd E dX4_addProgressions_55 ?_
          refine r_lshl E dX4_addProgressions_56 (v := bs (fun v8 => decide (v8 = x + i * st))) (bs_one (by omega)) ?_
          refine r_lor E dX4_addProgressions_57 ?_
          rw [show ((bs (fun v => hasN d (r9, x, x + st) v i.toNat)) ||| (bs (fun v8 => decide (v8 = x + i * st)))) = bs (fun v => hasN d (r9, x, x + st) v (i + 1).toNat) from (set_pr hL0 (by omega))]
          skip
          refine r_lstore (lv' := [(5, .long (bs (fun v => hasN d (r9, x, x + st) v (i + 1).toNat))), (0, .ref aru), (1, .int (zI nn9)), (2, .ref a), (3, .int (zI x)), (4, .int (zI st)), (7, .int (zI i))]) E hl dX4_addProgressions_58 (by decide) rfl (fun ls hl => ?_)
          refine r_iinc (lv' := [(7, .int (zI (i + 1))), (5, .long (bs (fun v => hasN d (r9, x, x + st) v (i + 1).toNat))), (0, .ref aru), (1, .int (zI nn9)), (2, .ref a), (3, .int (zI x)), (4, .int (zI st))]) E 6 hl rfl dX4_addProgressions_60 (by decide) rfl (fun ls hl => ?_)
          refine r_goto E 37 dX4_addProgressions_63 (by decide) ?_
          exact ih_37 _ H locs ls (by omega) ⟨(i + 1), rfl, (by omega), h, lv_sub hl [2, 3, 4, 5, 6, 1, 0] rfl⟩
theorem hd_X4_addSolutions : yX4_addSolutions.cls = RX4 ∧ yX4_addSolutions.cls ≠ "java/lang/invoke/MethodHandle" ∧ yX4_addSolutions.cls ≠ "java/lang/invoke/VarHandle" ∧ (parseMethodDescriptor yX4_addSolutions.desc).map (fun d => d.parameters.length) = some 2 := by decide +kernel
theorem fl_X4_addSolutions_7 : Cond.fieldLink RX4 7 (TX4 0).1 (TX4 0).2.1 (TX4 0).2.2.1 ∈ wsX4_addSolutions := List.mem_of_getElem? (i := 1) rfl
theorem inn_X4_addSolutions_4 : ∀ w ∈ wsX40, w ∈ wsX4_addSolutions := fun _ h => List.mem_cons_of_mem _ (List.mem_append_left _ (List.mem_append_right _ h))
abbrev rm_X4_addSolutions : Room := { frames := 2, cells := 0, slots := 0, locals := 50 }
set_option maxHeartbeats 1200000 in
set_option maxRecDepth 100000 in
theorem k_X4_addSolutions (l : Launch) {G : va_G} {cy : Nat → ClassId} {ws0 : va_W} {qr aru : Nat} {q a ase awr art awt are ars : Nat} {se : Int → Int64} {wr : Int → Int} {sz riw : Int} {d : Int → Int} {KS : List Ky} {f1 f2 f3 f4 f5 : Int} (r9 : Int) (nn9 : Int) (h_ru : ws0[qr]? = some (aru, .inr (4, [.int (zI (d (5 + 6 * r9))), .int (zI f1), .int (zI f2), .int (zI f3), .int (zI f4), .int (zI f5)]))) (h_tb : ws0[q]? = some (a, .inr (8, [.ref ase, .ref awr, .int (zI sz), .ref art, .int (zI riw), .ref awt, .ref are, .ref ars]))) (h_se : ws0[q + 1]? = some (ase, aL cy 6400 se)) (h_wr : ws0[q + 2]? = some (awr, aI cy 6400 wr)) (hqr : qr < q ∨ q + 3 ≤ qr) (hn : 0 ≤ d 0 ∧ d 0 ≤ 40) (hKS : KS.length ≤ 4800) (hsz : sz = KS.length) (hTE : TE d KS se wr) (hriw : riw = r9) (hnn : nn9 = d 0) (hro : RuleOk d r9) (hf5 : d (5 + 6 * r9) = 0 → f1 = d (6 + 6 * r9) ∧ f2 = d (7 + 6 * r9) ∧ f3 = d (8 + 6 * r9) ∧ f4 = d (9 + 6 * r9) ∧ f5 = d (10 + 6 * r9)) : MV l yX4_addSolutions wsX4_addSolutions rm_X4_addSolutions G cy [.ref aru, .int (zI nn9), .ref a] ws0 (fun u => ∃ (se2 : Int → Int64) (wr2 : Int → Int), u[q]? = some (a, .inr (8, [.ref ase, .ref awr, .int (zI (((KS ++ kX d r9 (d 0).toNat).length : Int))), .ref art, .int (zI r9), .ref awt, .ref are, .ref ars])) ∧ u[q + 1]? = some (ase, aL cy 6400 se2) ∧ u[q + 2]? = some (awr, aI cy 6400 wr2) ∧ TE d (KS ++ kX d r9 (d 0).toNat) se2 wr2 ∧ Eqx ws0 u (fun j => j = q ∨ j = q + 1 ∨ j = q + 2)) := by
  refine MV.of (own := RX4) (cc := cX4_addSolutions) (nL := 3) (ret := none) (by decide) rfl rfl (Nat.le_of_ble_eq_true rfl) ?_
  intro p e s m below meth c A ls hin E h hl
  have hl : lv_has ls 3 [(0, .ref aru), (1, .int (zI nn9)), (2, .ref a)] := hl
  have hE : Eqx ws0 ws0 (fun j => j = q ∨ j = q + 1 ∨ j = q + 2) := Eqx.rf
  have hro2 : d (5 + 6 * r9) = 0 ∨ 3 ≤ d (5 + 6 * r9) ∧ d (5 + 6 * r9) ≤ 6 := hro.elim (fun q => Or.inl q.1) Or.inr
  refine r_aload_n E 0 hl rfl dX4_addSolutions_0 ?_
  refine r_get (v := .int (zI (d (5 + 6 * r9)))) E h h_ru rfl inn_X4_addSolutions_4 0 (by decide) fl_X4_addSolutions_7 rfl dX4_addSolutions_1 ?_
  refine r_if_le E 16 dX4_addSolutions_4 (by decide) (by omega) (fun c_4 => ?_) (fun c_4 => ?_)
  · skip
    have hE9 : d (5 + 6 * r9) = 0 := by omega
    obtain ⟨rfl, rfl, rfl, rfl, rfl⟩ := hf5 hE9
    have hR9 := (hro.resolve_right (by omega)).2
    skip
    refine r_aload_n E 0 hl rfl dX4_addSolutions_16 ?_
    refine r_iload_n E 1 hl rfl dX4_addSolutions_17 ?_
    refine r_aload_n E 2 hl rfl dX4_addSolutions_18 ?_
    refine r_callVV E h (As := [.int (zI nn9), .ref a]) (rest := []) (k_X4_addTriples l r9 nn9 h_ru h_tb h_se h_wr (by omega) hn hKS hsz hTE hriw (by omega) hE9 hR9) h_ru rfl gX4_addSolutions_X4_addTriples rfl hd_X4_addTriples (by decide) ⟨by decide, by decide⟩ hl.1 rfl (Nat.le_of_ble_eq_true rfl) dX4_addSolutions_19 rfl (fun ws H locs hp h => ?_)
    obtain ⟨se_19, wr_19, h_tb, h_se, h_wr, e_19, hf⟩ := hp
    have h_ru := hf.at h_ru (by first | omega | (dsimp only <;> omega))
    have hE := hE.tr (hf.wk (fun j hj => by first | omega | (dsimp only at hj ⊢ <;> omega)))
    exact r_vret E h ⟨se_19, wr_19, h_tb, h_se, h_wr, e_19, hE⟩ dX4_addSolutions_22
  · skip
    refine r_aload_n E 0 hl rfl dX4_addSolutions_7 ?_
    refine r_iload_n E 1 hl rfl dX4_addSolutions_8 ?_
    refine r_aload_n E 2 hl rfl dX4_addSolutions_9 ?_
    refine r_callVV E h (As := [.int (zI nn9), .ref a]) (rest := []) (k_X4_addProgressions l r9 nn9 h_ru h_tb h_se h_wr (by omega) hn hKS hsz hTE hriw (by omega) (by omega)) h_ru rfl gX4_addSolutions_X4_addProgressions rfl hd_X4_addProgressions (by decide) ⟨by decide, by decide⟩ hl.1 rfl (Nat.le_of_ble_eq_true rfl) dX4_addSolutions_10 rfl (fun ws H locs hp h => ?_)
    obtain ⟨se_10, wr_10, h_tb, h_se, h_wr, e_10, hf⟩ := hp
    have h_ru := hf.at h_ru (by first | omega | (dsimp only <;> omega))
    have hE := hE.tr (hf.wk (fun j hj => by first | omega | (dsimp only at hj ⊢ <;> omega)))
    refine r_goto E 22 dX4_addSolutions_13 (by decide) ?_
    exact r_vret E h ⟨se_10, wr_10, h_tb, h_se, h_wr, e_10, hE⟩ dX4_addSolutions_22
theorem hd_X8_fillRests : yX8_fillRests.cls = RX8 ∧ yX8_fillRests.cls ≠ "java/lang/invoke/MethodHandle" ∧ yX8_fillRests.cls ≠ "java/lang/invoke/VarHandle" ∧ (parseMethodDescriptor yX8_fillRests.desc).map (fun d => d.parameters.length) = some 1 := by decide +kernel
theorem fl_X8_fillRests_35 : Cond.fieldLink RX8 35 (TX8 7).1 (TX8 7).2.1 (TX8 7).2.2.1 ∈ wsX8_fillRests := List.mem_of_getElem? (i := 1) rfl
theorem inn_X8_fillRests_8 : ∀ w ∈ wsX80, w ∈ wsX8_fillRests := fun _ h => List.mem_cons_of_mem _ (List.mem_append_right _ h)
theorem fl_X8_fillRests_19 : Cond.fieldLink RX8 19 (TX8 2).1 (TX8 2).2.1 (TX8 2).2.2.1 ∈ wsX8_fillRests := List.mem_of_getElem? (i := 2) rfl
theorem fl_X8_fillRests_32 : Cond.fieldLink RX8 32 (TX8 6).1 (TX8 6).2.1 (TX8 6).2.2.1 ∈ wsX8_fillRests := List.mem_of_getElem? (i := 3) rfl
theorem fl_X8_fillRests_11 : Cond.fieldLink RX8 11 (TX8 0).1 (TX8 0).2.1 (TX8 0).2.2.1 ∈ wsX8_fillRests := List.mem_of_getElem? (i := 4) rfl
abbrev rm_X8_fillRests : Room := { frames := 0, cells := 0, slots := 0, locals := 0 }
set_option maxHeartbeats 1200000 in
set_option maxRecDepth 100000 in
theorem k_X8_fillRests (l : Launch) {G : va_G} {cy : Nat → ClassId} {ws0 : va_W} {q a ase awr art awt are ars : Nat} {se re : Int → Int64} {rs : Int → Int} {sz riw : Int} {d : Int → Int} {T : List Int} (nn9 : Int) (h_tb : ws0[q]? = some (a, .inr (8, [.ref ase, .ref awr, .int (zI sz), .ref art, .int (zI riw), .ref awt, .ref are, .ref ars]))) (h_se : ws0[q + 1]? = some (ase, aL cy 6400 se)) (h_re : ws0[q + 5]? = some (are, aL cy 19200 re)) (h_rs : ws0[q + 6]? = some (ars, aI cy 42 rs)) (hD : DW d T) (hnn : nn9 = d 0) (hsz : sz = (KL d).length) (hT2 : ∀ (s9 : Nat) (q9 : Ky), (KL d)[s9]? = some q9 → se s9 = bs (fun x => has d q9 x)) : MV l yX8_fillRests wsX8_fillRests rm_X8_fillRests G cy [.ref a, .int (zI nn9)] ws0 (fun u => ∃ (re2 : Int → Int64) (rs2 : Int → Int), u[q + 5]? = some (are, aL cy 19200 re2) ∧ u[q + 6]? = some (ars, aI cy 42 rs2) ∧ (∀ x : Int, 1 ≤ x → x ≤ d 0 + 1 → rs2 x = fb d x) ∧ (∀ (x : Int) (s9 : Nat) (q9 : Ky), 1 ≤ x → x < 41 → x ≤ d 0 → (KL d)[s9]? = some q9 → has d q9 x = true → re2 (fb d x + rk d x s9) = bs (fun y => has d q9 y && decide (y ≠ x))) ∧ Eqx ws0 u (fun j => j = q + 5 ∨ j = q + 6)) := by
  refine MV.of (own := RX8) (cc := cX8_fillRests) (nL := 7) (ret := none) (by decide) rfl rfl (Nat.le_of_ble_eq_true rfl) ?_
  intro p e s m below meth c A ls hin E h hl
  have hl : lv_has ls 7 [(0, .ref a), (1, .int (zI nn9))] := hl
  have hE : Eqx ws0 ws0 (fun j => j = q + 5 ∨ j = q + 6) := Eqx.rf
  have hn9 := hD.n
  have hlen := KL_len hD
  have hfl := fun x => fb_le hD x
  have hf0 := fun x => fb_nonneg (d := d) (x := x)
  refine r_iconst E dX8_fillRests_0 ?_
  refine r_istore_n (lv' := [(2, .int (zI 0)), (0, .ref a), (1, .int (zI nn9))]) E hl dX8_fillRests_1 rfl (by decide) rfl (fun ls hl => ?_)
  refine r_iconst E dX8_fillRests_2 ?_
  refine r_istore_n (lv' := [(3, .int (zI 1)), (2, .int (zI 0)), (0, .ref a), (1, .int (zI nn9))]) E hl dX8_fillRests_3 rfl (by decide) rfl (fun ls hl => ?_)
  refine r_loop (fun n H locs ls => ∃ (ws : va_W) (fl : Int) (v : Int) (re2 : Int → Int64) (rs2 : Int → Int), n = (41 - v).toNat ∧ (1 ≤ v ∧ v ≤ 41) ∧ (fl = fb d (if v ≤ d 0 then v else d 0 + 1)) ∧ (∀ x : Int, 1 ≤ x → x < v → x ≤ d 0 + 1 → rs2 x = fb d x) ∧ (∀ (x : Int) (s9 : Nat) (q9 : Ky), 1 ≤ x → x < v → x ≤ d 0 → (KL d)[s9]? = some q9 → has d q9 x = true → re2 (fb d x + rk d x s9) = bs (fun y => has d q9 y && decide (y ≠ x))) ∧ Hp G ws A s.heap H locs ∧ (ws[q]? = some (a, .inr (8, [.ref ase, .ref awr, .int (zI sz), .ref art, .int (zI riw), .ref awt, .ref are, .ref ars]))) ∧ (ws[q + 1]? = some (ase, aL cy 6400 se)) ∧ (ws[q + 5]? = some (are, aL cy 19200 re2)) ∧ (ws[q + 6]? = some (ars, aI cy 42 rs2)) ∧ Eqx ws0 ws (fun j => j = q + 5 ∨ j = q + 6) ∧ lv_has ls 7 [(0, .ref a), (1, .int (zI nn9)), (2, .int (zI fl)), (3, .int (zI v))]) _ ⟨ws0, 0, 1, re, rs, rfl, (by omega), (by rw [show (if (1 : Int) ≤ d 0 then 1 else d 0 + 1) = 1 by split <;> omega]; exact fb_1.symm), (fun x h0 h1 => absurd h1 (by omega)), (fun x s9 q9 h0 h1 => absurd h1 (by omega)), h, h_tb, h_se, h_re, h_rs, hE, lv_sub hl [2, 3, 1, 0] rfl⟩ ?_
  rintro n H locs ls ⟨ws, fl, v, re2, rs2, hn, i1, i2, i3, i4, h, h_tb, h_se, h_re, h_rs, hE, hl⟩ ih_4
  refine r_iload_n E 3 hl rfl dX8_fillRests_4 ?_
  refine r_bipush E dX8_fillRests_5 (by decide) ?_
  refine r_icmp_gt E 98 dX8_fillRests_7 (by decide) (by omega) (fun c_7 => ?_) (fun c_7 => ?_)
  · skip
    refine r_aload_n E 0 hl rfl dX8_fillRests_98 ?_
    refine r_get (v := .ref ars) E h h_tb rfl inn_X8_fillRests_8 7 (by decide) fl_X8_fillRests_35 rfl dX8_fillRests_99 ?_
    refine r_bipush E dX8_fillRests_102 (by decide) ?_
    refine r_iload_n E 2 hl rfl dX8_fillRests_104 ?_
    refine r_iast E h h_rs (by omega) (by decide) dX8_fillRests_105 (fun ws H locs h hu => ?_)
    have h_tb := hu.keep h_tb (by omega)
    have h_se := hu.keep h_se (by omega)
    have h_re := hu.keep h_re (by omega)
    have h_rs : ws[q + 6]? = some (ars, aI cy 42 (uZ rs2 41 fl)) := hu.1
    have hE := hE.tr (hu.eqx (by first | omega | (dsimp only <;> omega)))
    exact r_vret E h ⟨re2, _, h_re, h_rs, fun x h0 h1 => by
  by_cases e9 : x = 41
  · subst e9; rw [uZ_s, i2, if_neg (by omega), show d 0 + 1 = 41 by omega]
  · rw [uZ_n e9]; exact i3 x h0 (by omega) h1, fun x s9 q8 h0 h1 h2 h3 h4 => i4 x s9 q8 h0 (by omega) h2 h3 h4, hE⟩ dX8_fillRests_106
  · skip
    have hflv := hfl (if v ≤ d 0 then v else d 0 + 1)
    have hf0v := hf0 (if v ≤ d 0 then v else d 0 + 1)
    refine r_aload_n E 0 hl rfl dX8_fillRests_10 ?_
    refine r_get (v := .ref ars) E h h_tb rfl inn_X8_fillRests_8 7 (by decide) fl_X8_fillRests_35 rfl dX8_fillRests_11 ?_
    refine r_iload_n E 3 hl rfl dX8_fillRests_14 ?_
    refine r_iload_n E 2 hl rfl dX8_fillRests_15 ?_
    refine r_iast E h h_rs (by omega) (by decide) dX8_fillRests_16 (fun ws H locs h hu => ?_)
    have h_tb := hu.keep h_tb (by omega)
    have h_se := hu.keep h_se (by omega)
    have h_re := hu.keep h_re (by omega)
    have h_rs : ws[q + 6]? = some (ars, aI cy 42 (uZ rs2 v fl)) := hu.1
    have hE := hE.tr (hu.eqx (by first | omega | (dsimp only <;> omega)))
    refine r_lconst (v := zL 1) E dX8_fillRests_17 (by decide) ?_
    refine r_iload_n E 3 hl rfl dX8_fillRests_18 ?_
    refine r_lshl E dX8_fillRests_19 (v := bs (fun v8 => decide (v8 = v))) (bs_one (by omega)) ?_
    refine r_lstore (lv' := [(4, .long (bs (fun v8 => decide (v8 = v)))), (0, .ref a), (1, .int (zI nn9)), (2, .int (zI fl)), (3, .int (zI v))]) E hl dX8_fillRests_20 (by decide) rfl (fun ls hl => ?_)
    refine r_iconst E dX8_fillRests_22 ?_
    refine r_istore (lv' := [(6, .int (zI 0)), (4, .long (bs (fun v8 => decide (v8 = v)))), (0, .ref a), (1, .int (zI nn9)), (2, .int (zI fl)), (3, .int (zI v))]) E hl dX8_fillRests_23 (by decide) rfl (fun ls hl => ?_)
    refine r_loop (fun n H locs ls => ∃ (ws : va_W) (gl : Int) (k : Int) (re3 : Int → Int64), n = (6400 - k).toNat ∧ (0 ≤ k ∧ k ≤ (KL d).length) ∧ (v ≤ d 0 → gl = fb d v + rk d v k.toNat) ∧ (¬ v ≤ d 0 → gl = fl ∧ k = 0) ∧ (∀ (x : Int) (s9 : Nat) (q9 : Ky), 1 ≤ x → x < v → x ≤ d 0 → (KL d)[s9]? = some q9 → has d q9 x = true → re3 (fb d x + rk d x s9) = bs (fun y => has d q9 y && decide (y ≠ x))) ∧ (v ≤ d 0 → ∀ (s9 : Nat) (q9 : Ky), (s9 : Int) < k → (KL d)[s9]? = some q9 → has d q9 v = true → re3 (fb d v + rk d v s9) = bs (fun y => has d q9 y && decide (y ≠ v))) ∧ Hp G ws A s.heap H locs ∧ (ws[q]? = some (a, .inr (8, [.ref ase, .ref awr, .int (zI sz), .ref art, .int (zI riw), .ref awt, .ref are, .ref ars]))) ∧ (ws[q + 1]? = some (ase, aL cy 6400 se)) ∧ (ws[q + 5]? = some (are, aL cy 19200 re3)) ∧ (ws[q + 6]? = some (ars, aI cy 42 (uZ rs2 v fl))) ∧ Eqx ws0 ws (fun j => j = q + 5 ∨ j = q + 6) ∧ lv_has ls 7 [(0, .ref a), (1, .int (zI nn9)), (2, .int (zI gl)), (3, .int (zI v)), (4, .long (bs (fun v8 => decide (v8 = v)))), (6, .int (zI k))]) _ ⟨ws, fl, 0, re2, rfl, (by omega), (fun hv => by rw [i2, if_pos hv, show (0 : Int).toNat = 0 from rfl, rk_0]; omega), (fun _ => ⟨rfl, rfl⟩), i4, (fun _ s9 q9 h0 => absurd h0 (by omega)), h, h_tb, h_se, h_re, h_rs, hE, lv_sub hl [2, 3, 4, 5, 1, 0] rfl⟩ ?_
    rintro n H locs ls ⟨ws, gl, k, re3, hn, j1, j2, j3, j4, j5, h, h_tb, h_se, h_re, h_rs, hE, hl⟩ ih_25
    have hfbs : v ≤ d 0 → fb d (v + 1) = fb d v + rk d v (KL d).length := fun _ => fb_s (by omega)
    have hflv1 := hfl (v + 1)
    have hf0v1 := hf0 v
    have hrk0 : 0 ≤ rk d v k.toNat := cntT_nonneg
    have hrkl := rk_le (d := d) (x := v) (s := k.toNat) (t := (KL d).length) (by omega)
    have hglb : 0 ≤ gl ∧ gl ≤ 19200 := by
      by_cases c : v ≤ d 0
      · have := j2 c; have := hfbs c; omega
      · have := j3 c; omega
    refine r_iload_n E 3 hl rfl dX8_fillRests_25 ?_
    refine r_iload_n E 1 hl rfl dX8_fillRests_26 ?_
    refine r_icmp_gt E 92 dX8_fillRests_27 (by decide) (by omega) (fun c_27 => ?_) (fun c_27 => ?_)
    · skip
      have hkk2 : k < (KL d).length ∨ rk d v k.toNat = rk d v (KL d).length := by
        by_cases c : k < (KL d).length
        · exact Or.inl c
        · exact Or.inr (by rw [show k.toNat = (KL d).length by omega])
      have hvv : (if v + 1 ≤ d 0 then v + 1 else d 0 + 1) = (if v ≤ d 0 then v + 1 else d 0 + 1) := by split <;> split <;> omega
      refine r_iinc (lv' := [(3, .int (zI (v + 1))), (0, .ref a), (1, .int (zI nn9)), (2, .int (zI gl)), (4, .long (bs (fun v8 => decide (v8 = v)))), (6, .int (zI k))]) E 3 hl rfl dX8_fillRests_92 (by decide) rfl (fun ls hl => ?_)
      refine r_goto E 4 dX8_fillRests_95 (by decide) ?_
      exact ih_4 _ H locs ls (by omega) ⟨ws, gl, (v + 1), re3, (uZ rs2 v fl), rfl, (by omega), (by
      rw [hvv]
      by_cases c : v ≤ d 0
      · rw [if_pos c]; have := j2 c; have := hfbs c; omega
      · rw [if_neg c]; have := j3 c; rw [if_neg c] at i2; omega), (fun x h0 h1 h2 => by
      by_cases e9 : x = v
      · subst e9; rw [uZ_s, i2]; split
        · rfl
        · rw [show d 0 + 1 = x by omega]
      · rw [uZ_n e9]; exact i3 x h0 (by omega) h2), (fun x s9 q8 h0 h1 h2 h3 h4 => by
      by_cases e9 : x = v
      · subst e9
        by_cases e8 : (s9 : Int) < k
        · exact j5 h2 s9 q8 e8 h3 h4
        · exfalso
          have t1 := rk_s (x := x) h3
          rw [h4, if_pos rfl] at t1
          have t5 := lt_of_get h3
          have t2 := rk_le (d := d) (x := x) (s := s9 + 1) (t := (KL d).length) (by omega)
          have t3 := rk_le (d := d) (x := x) (s := k.toNat) (t := s9) (by omega)
          have t4 := j2 h2
          have t6 := hfbs h2
          omega
      · exact j4 x s9 q8 h0 (by omega) h2 h3 h4), h, h_tb, h_se, h_re, h_rs, hE, lv_sub hl [1, 2, 3, 0] rfl⟩
    · skip
      refine r_iload E 5 hl rfl dX8_fillRests_30 ?_
      refine r_aload_n E 0 hl rfl dX8_fillRests_32 ?_
      refine r_get (v := .int (zI sz)) E h h_tb rfl inn_X8_fillRests_8 2 (by decide) fl_X8_fillRests_19 rfl dX8_fillRests_33 ?_
      refine r_icmp_ge E 92 dX8_fillRests_36 (by decide) (by omega) (fun c_36 => ?_) (fun c_36 => ?_)
      · skip
        have hkk2 : k < (KL d).length ∨ rk d v k.toNat = rk d v (KL d).length := by
          by_cases c : k < (KL d).length
          · exact Or.inl c
          · exact Or.inr (by rw [show k.toNat = (KL d).length by omega])
        have hvv : (if v + 1 ≤ d 0 then v + 1 else d 0 + 1) = (if v ≤ d 0 then v + 1 else d 0 + 1) := by split <;> split <;> omega
        refine r_iinc (lv' := [(3, .int (zI (v + 1))), (0, .ref a), (1, .int (zI nn9)), (2, .int (zI gl)), (4, .long (bs (fun v8 => decide (v8 = v)))), (6, .int (zI k))]) E 3 hl rfl dX8_fillRests_92 (by decide) rfl (fun ls hl => ?_)
        refine r_goto E 4 dX8_fillRests_95 (by decide) ?_
        exact ih_4 _ H locs ls (by omega) ⟨ws, gl, (v + 1), re3, (uZ rs2 v fl), rfl, (by omega), (by
      rw [hvv]
      by_cases c : v ≤ d 0
      · rw [if_pos c]; have := j2 c; have := hfbs c; omega
      · rw [if_neg c]; have := j3 c; rw [if_neg c] at i2; omega), (fun x h0 h1 h2 => by
      by_cases e9 : x = v
      · subst e9; rw [uZ_s, i2]; split
        · rfl
        · rw [show d 0 + 1 = x by omega]
      · rw [uZ_n e9]; exact i3 x h0 (by omega) h2), (fun x s9 q8 h0 h1 h2 h3 h4 => by
      by_cases e9 : x = v
      · subst e9
        by_cases e8 : (s9 : Int) < k
        · exact j5 h2 s9 q8 e8 h3 h4
        · exfalso
          have t1 := rk_s (x := x) h3
          rw [h4, if_pos rfl] at t1
          have t5 := lt_of_get h3
          have t2 := rk_le (d := d) (x := x) (s := s9 + 1) (t := (KL d).length) (by omega)
          have t3 := rk_le (d := d) (x := x) (s := k.toNat) (t := s9) (by omega)
          have t4 := j2 h2
          have t6 := hfbs h2
          omega
      · exact j4 x s9 q8 h0 (by omega) h2 h3 h4), h, h_tb, h_se, h_re, h_rs, hE, lv_sub hl [1, 2, 3, 0] rfl⟩
      · skip
        refine r_iload_n E 2 hl rfl dX8_fillRests_39 ?_
        refine r_aload_n E 0 hl rfl dX8_fillRests_40 ?_
        refine r_get (v := .ref are) E h h_tb rfl inn_X8_fillRests_8 6 (by decide) fl_X8_fillRests_32 rfl dX8_fillRests_41 ?_
        refine r_alen E h rfl h_re (v := 19200) rfl dX8_fillRests_44 ?_
        refine r_icmp_ge E 92 dX8_fillRests_45 (by decide) (by omega) (fun c_45 => ?_) (fun c_45 => ?_)
        · skip
          have hkk2 : k < (KL d).length ∨ rk d v k.toNat = rk d v (KL d).length := by
            by_cases c : k < (KL d).length
            · exact Or.inl c
            · exact Or.inr (by rw [show k.toNat = (KL d).length by omega])
          have hvv : (if v + 1 ≤ d 0 then v + 1 else d 0 + 1) = (if v ≤ d 0 then v + 1 else d 0 + 1) := by split <;> split <;> omega
          refine r_iinc (lv' := [(3, .int (zI (v + 1))), (0, .ref a), (1, .int (zI nn9)), (2, .int (zI gl)), (4, .long (bs (fun v8 => decide (v8 = v)))), (6, .int (zI k))]) E 3 hl rfl dX8_fillRests_92 (by decide) rfl (fun ls hl => ?_)
          refine r_goto E 4 dX8_fillRests_95 (by decide) ?_
          exact ih_4 _ H locs ls (by omega) ⟨ws, gl, (v + 1), re3, (uZ rs2 v fl), rfl, (by omega), (by
      rw [hvv]
      by_cases c : v ≤ d 0
      · rw [if_pos c]; have := j2 c; have := hfbs c; omega
      · rw [if_neg c]; have := j3 c; rw [if_neg c] at i2; omega), (fun x h0 h1 h2 => by
      by_cases e9 : x = v
      · subst e9; rw [uZ_s, i2]; split
        · rfl
        · rw [show d 0 + 1 = x by omega]
      · rw [uZ_n e9]; exact i3 x h0 (by omega) h2), (fun x s9 q8 h0 h1 h2 h3 h4 => by
      by_cases e9 : x = v
      · subst e9
        by_cases e8 : (s9 : Int) < k
        · exact j5 h2 s9 q8 e8 h3 h4
        · exfalso
          have t1 := rk_s (x := x) h3
          rw [h4, if_pos rfl] at t1
          have t5 := lt_of_get h3
          have t2 := rk_le (d := d) (x := x) (s := s9 + 1) (t := (KL d).length) (by omega)
          have t3 := rk_le (d := d) (x := x) (s := k.toNat) (t := s9) (by omega)
          have t4 := j2 h2
          have t6 := hfbs h2
          omega
      · exact j4 x s9 q8 h0 (by omega) h2 h3 h4), h, h_tb, h_se, h_re, h_rs, hE, lv_sub hl [1, 2, 3, 0] rfl⟩
        · skip
          obtain ⟨q9, hk9⟩ : ∃ q, (KL d)[Int.toNat k]? = some q := ⟨_, List.getElem?_eq_getElem (by omega)⟩
          have hq9 := KL_at hD hk9
          have hs9 := hT2 _ q9 hk9
          have hnk : ((Int.toNat k : Nat) : Int) = k := by omega
          rw [hnk] at hs9
          have hrs := rk_s (x := v) hk9
          rw [show k.toNat + 1 = (k + 1).toNat by omega] at hrs
          have hrl := rk_le (d := d) (x := v) (s := (k + 1).toNat) (t := (KL d).length) (by omega)
          have hgl := j2 (by omega)
          have hfb9 := hfbs (by omega)
          refine r_aload_n E 0 hl rfl dX8_fillRests_48 ?_
          refine r_get (v := .ref ase) E h h_tb rfl inn_X8_fillRests_8 0 (by decide) fl_X8_fillRests_11 rfl dX8_fillRests_49 ?_
          refine r_iload E 5 hl rfl dX8_fillRests_52 ?_
          refine r_lald E h h_se (by omega) (by decide) dX8_fillRests_54 ?_
          rw [show se k = bs (fun x => has d q9 x) from hs9]
          refine r_lload E 4 hl rfl dX8_fillRests_55 ?_
          refine r_land E dX8_fillRests_57 ?_
          refine r_lconst (v := zL 0) E dX8_fillRests_58 (by decide) ?_
          refine r_lcmpX E dX8_fillRests_59 (fun z_59 zb_59 ze_59 => ?_)
          refine r_if_eq E 86 dX8_fillRests_60 (by decide) (by omega) (fun c_60 => ?_) (fun c_60 => ?_)
          · skip
            have hhas : has d q9 v = false := (bs_test (by omega)).mp (ze_59.mp c_60)
            rw [hhas] at hrs
            refine r_iinc (lv' := [(6, .int (zI (k + 1))), (0, .ref a), (1, .int (zI nn9)), (2, .int (zI gl)), (3, .int (zI v)), (4, .long (bs (fun v8 => decide (v8 = v))))]) E 5 hl rfl dX8_fillRests_86 (by decide) rfl (fun ls hl => ?_)
            refine r_goto E 25 dX8_fillRests_89 (by decide) ?_
            exact ih_25 _ H locs ls (by omega) ⟨ws, gl, (k + 1), re3, rfl, (by omega), (fun _ => by rw [hrs]; simp; omega), (fun hv => absurd hv (by omega)), j4, (fun hv s9 q8 h0 h3 h4 => by
      by_cases e9 : (s9 : Int) = k
      · have e8 : s9 = k.toNat := by omega
        subst e8
        have e7 : q8 = q9 := Option.some.inj (h3.symm.trans hk9)
        subst e7
        rw [hhas] at h4; exact absurd h4 (by decide)
      · exact j5 hv s9 q8 (by omega) h3 h4), h, h_tb, h_se, h_re, h_rs, hE, lv_sub hl [1, 2, 3, 4, 5, 0] rfl⟩
          · skip
            have hhas : has d q9 v = true := by
              by_cases c : has d q9 v = true
              · exact c
              · exact absurd (ze_59.mpr ((bs_test (by omega)).mpr (by simpa using c))) c_60
            rw [hhas, if_pos rfl] at hrs
            refine r_aload_n E 0 hl rfl dX8_fillRests_63 ?_
            refine r_get (v := .ref are) E h h_tb rfl inn_X8_fillRests_8 6 (by decide) fl_X8_fillRests_32 rfl dX8_fillRests_64 ?_
            refine r_iload_n E 2 hl rfl dX8_fillRests_67 ?_
            refine r_aload_n E 0 hl rfl dX8_fillRests_68 ?_
            refine r_get (v := .ref ase) E h h_tb rfl inn_X8_fillRests_8 0 (by decide) fl_X8_fillRests_11 rfl dX8_fillRests_69 ?_
            refine r_iload E 5 hl rfl dX8_fillRests_72 ?_
            refine r_lald E h h_se (by omega) (by decide) dX8_fillRests_74 ?_
            rw [show se k = bs (fun x => has d q9 x) from hs9]
            refine r_lload E 4 hl rfl dX8_fillRests_75 ?_
            refine r_ldc2 E (v := (-1)) (List.mem_of_getElem? (i := 5) rfl) dX8_fillRests_77 ?_
            refine r_lxor E dX8_fillRests_80 ?_
            refine r_land E dX8_fillRests_81 ?_
            rw [show ((bs (fun x => has d q9 x)) &&& ((bs (fun v8 => decide (v8 = v))) ^^^ ((-1)))) = bs (fun y => has d q9 y && decide (y ≠ v)) from (by rw [bs_not, bs_and]; exact bs_congr (fun y _ _ => by by_cases c : y = v <;> simp [c]))]
            skip
            refine r_last E h h_re (by omega) (by decide) dX8_fillRests_82 (fun ws H locs h hu => ?_)
            have h_tb := hu.keep h_tb (by omega)
            have h_se := hu.keep h_se (by omega)
            have h_re : ws[q + 5]? = some (are, aL cy 19200 (uZ re3 gl (bs (fun y => has d q9 y && decide (y ≠ v))))) := hu.1
            have h_rs := hu.keep h_rs (by omega)
            have hE := hE.tr (hu.eqx (by first | omega | (dsimp only <;> omega)))
            refine r_iinc (lv' := [(2, .int (zI (gl + 1))), (0, .ref a), (1, .int (zI nn9)), (3, .int (zI v)), (4, .long (bs (fun v8 => decide (v8 = v)))), (6, .int (zI k))]) E 2 hl rfl dX8_fillRests_83 (by decide) rfl (fun ls hl => ?_)
            refine r_iinc (lv' := [(6, .int (zI (k + 1))), (2, .int (zI (gl + 1))), (0, .ref a), (1, .int (zI nn9)), (3, .int (zI v)), (4, .long (bs (fun v8 => decide (v8 = v))))]) E 5 hl rfl dX8_fillRests_86 (by decide) rfl (fun ls hl => ?_)
            refine r_goto E 25 dX8_fillRests_89 (by decide) ?_
            exact ih_25 _ H locs ls (by omega) ⟨ws, (gl + 1), (k + 1), (uZ re3 gl (bs (fun y => has d q9 y && decide (y ≠ v)))), rfl, (by omega), (fun _ => by omega), (fun hv => absurd hv (by omega)), (fun x s9 q8 h0 h1 h2 h3 h4 => by
      rw [uZ_n ?_]
      · exact j4 x s9 q8 h0 h1 h2 h3 h4
      · have t1 := rk_s (x := x) h3
        rw [h4, if_pos rfl] at t1
        have t2 := rk_le (d := d) (x := x) (s := s9 + 1) (t := (KL d).length) (by have := lt_of_get h3; omega)
        have t3 := fb_s (d := d) (x := x) h0
        have t4 := fb_mono (d := d) (show x + 1 ≤ v by omega)
        omega), (fun hv s9 q8 h0 h3 h4 => by
      by_cases e9 : (s9 : Int) = k
      · have e8 : s9 = k.toNat := by omega
        subst e8
        have e7 : q8 = q9 := Option.some.inj (h3.symm.trans hk9)
        subst e7
        rw [hgl, uZ_s]
      · have t1 := rk_lt (x := v) (show s9 < k.toNat by omega) h3 h4
        rw [uZ_n (by omega)]; exact j5 hv s9 q8 (by omega) h3 h4), h, h_tb, h_se, h_re, h_rs, hE, lv_sub hl [2, 3, 1, 4, 5, 0] rfl⟩
