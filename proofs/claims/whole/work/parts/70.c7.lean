theorem kR_sI {d : Int → Int} {r : Int} (h : 0 ≤ r) : kR d (r + 1).toNat = kR d r.toNat ++ kX d r (d 0).toNat := by
  rw [show (r + 1).toNat = r.toNat + 1 by omega]
  show kR d r.toNat ++ kX d ((r.toNat : Nat) : Int) (d 0).toNat = _
  rw [show ((r.toNat : Nat) : Int) = r by omega]
theorem HTK_of {d : Int → Int} {T : List Int} (hD : DW d T) (h : T.length ≤ 600) : T.length ≤ 600 ∧ (∀ t : Int, t ∈ T → -7 ≤ t ∧ t ≤ 9999) ∧ (T = [] ∨ HeightOk 0 T) := by
  refine ⟨h, ?_, ?_⟩
  · have key : ∀ (U : List Int) (i : Int), CodeAt d i U → ∀ t : Int, t ∈ U → -7 ≤ t ∧ t ≤ 9999 := by
      intro U
      induction U with
      | nil => intro i _ t ht; cases ht
      | cons a U ih =>
        intro i hc t ht
        rcases hc with ⟨a1, a2, _, _, hc⟩ | ⟨a1, a2, _, _, hc⟩ | ⟨a1, a2, _, hc⟩
        · rcases List.mem_cons.mp ht with rfl | ht
          · omega
          · exact ih _ hc t ht
        · rcases List.mem_cons.mp ht with rfl | ht
          · omega
          · exact ih _ hc t ht
        · rcases List.mem_cons.mp ht with rfl | ht
          · omega
          · exact ih _ hc t ht
    rcases hD.wt with ⟨_, e⟩ | ⟨_, _, hc, _⟩
    · rw [e]; intro t ht; cases ht
    · exact key T 0 hc
  · rcases hD.wt with ⟨_, e⟩ | ⟨_, _, _, hh⟩
    · exact Or.inl e
    · exact Or.inr hh
theorem hd_X8_prepare : yX8_prepare.cls = RX8 ∧ yX8_prepare.cls ≠ "java/lang/invoke/MethodHandle" ∧ yX8_prepare.cls ≠ "java/lang/invoke/VarHandle" ∧ (parseMethodDescriptor yX8_prepare.desc).map (fun d => d.parameters.length) = some 1 := by decide +kernel
theorem fl_X8_prepare_19 : Cond.fieldLink RX8 19 (TX8 2).1 (TX8 2).2.1 (TX8 2).2.2.1 ∈ wsX8_prepare := List.mem_of_getElem? (i := 1) rfl
theorem inn_X8_prepare_8 : ∀ w ∈ wsX80, w ∈ wsX8_prepare := fun _ h => List.mem_cons_of_mem _ (List.mem_append_left _ (List.mem_append_left _ (List.mem_append_left _ (List.mem_append_right _ h))))
theorem fl_X8_prepare_23 : Cond.fieldLink RX8 23 (TX8 3).1 (TX8 3).2.1 (TX8 3).2.2.1 ∈ wsX8_prepare := List.mem_of_getElem? (i := 2) rfl
theorem fl_X8_prepare_44 : Cond.fieldLink RX8 44 (TX6 2).1 (TX6 2).2.1 (TX6 2).2.2.1 ∈ wsX8_prepare := List.mem_of_getElem? (i := 3) rfl
theorem inn_X8_prepare_6 : ∀ w ∈ wsX60, w ∈ wsX8_prepare := fun _ h => List.mem_cons_of_mem _ (List.mem_append_left _ (List.mem_append_left _ (List.mem_append_right _ h)))
theorem fl_X8_prepare_50 : Cond.fieldLink RX8 50 (TX6 0).1 (TX6 0).2.1 (TX6 0).2.2.1 ∈ wsX8_prepare := List.mem_of_getElem? (i := 5) rfl
theorem fl_X8_prepare_26 : Cond.fieldLink RX8 26 (TX8 4).1 (TX8 4).2.1 (TX8 4).2.2.1 ∈ wsX8_prepare := List.mem_of_getElem? (i := 4) rfl
abbrev rm_X8_prepare : Room := { frames := 5, cells := 0, slots := 0, locals := 121 }
set_option maxHeartbeats 1200000 in
set_option maxRecDepth 100000 in
theorem k_X8_prepare (l : Launch) {G : va_G} {cy : Nat → ClassId} {ws0 : va_W} {q a ase awr art awt are ars : Nat} {se re : Int → Int64} {wr rt wt rs : Int → Int} {sz riw : Int} {qf afo qt9 atk qs9 ask : Nat} {st9 : Int → Int} {qs asu qra ar9 : Nat} {rA : Int → Option Nat} {rr : Nat → Nat} {d : Int → Int} {T : List Int} (h_tb : ws0[q]? = some (a, .inr (8, [.ref ase, .ref awr, .int (zI sz), .ref art, .int (zI riw), .ref awt, .ref are, .ref ars]))) (h_se : ws0[q + 1]? = some (ase, aL cy 6400 se)) (h_wr : ws0[q + 2]? = some (awr, aI cy 6400 wr)) (h_rt : ws0[q + 3]? = some (art, aI cy 5 rt)) (h_wt : ws0[q + 4]? = some (awt, aI cy 656 wt)) (h_re : ws0[q + 5]? = some (are, aL cy 19200 re)) (h_rs : ws0[q + 6]? = some (ars, aI cy 42 rs)) (h_su : ws0[qs]? = some (asu, .inr (6, [.int (zI (d 0)), .int (zI (d 1)), .ref ar9, .ref afo]))) (h_sur : ws0[qra]? = some (ar9, aR cy 4 ((d 2).toNat) rA)) (h_fo : ws0[qf]? = some (afo, .inr (1, [.ref atk, .ref ask]))) (h_tk : ws0[qt9]? = some (atk, aI cy T.length (tkF T))) (h_sk : ws0[qs9]? = some (ask, aI cy 11 st9)) (hqs : qs < q ∨ q + 7 ≤ qs) (hqf : qf ≠ qs9 ∧ qt9 ≠ qs9 ∧ qs ≠ qs9) (hqf2 : (qf < q ∨ q + 7 ≤ qf) ∧ (qt9 < q ∨ q + 7 ≤ qt9) ∧ (qs9 < q ∨ q + 7 ≤ qs9)) (hqra : (qra < q ∨ q + 7 ≤ qra) ∧ qra ≠ qs9) (hD : DW d T) (hTl : T.length ≤ 600) (hrA : ∀ r : Nat, (r : Int) < d 2 → rA (r : Int) = some (rr r)) (hRu : ∀ r : Nat, (r : Int) < d 2 → ∃ (qq : Nat) (v1 v2 v3 v4 v5 : Int), ws0[qq]? = some (rr r, .inr (4, [.int (zI (d (5 + 6 * (r : Int)))), .int (zI v1), .int (zI v2), .int (zI v3), .int (zI v4), .int (zI v5)])) ∧ ((qq < q ∨ q + 7 ≤ qq) ∧ qq ≠ qs9) ∧ (d (5 + 6 * (r : Int)) = 0 → v1 = d (6 + 6 * (r : Int)) ∧ v2 = d (7 + 6 * (r : Int)) ∧ v3 = d (8 + 6 * (r : Int)) ∧ v4 = d (9 + 6 * (r : Int)) ∧ v5 = d (10 + 6 * (r : Int)))) : MVk l yX8_prepare wsX8_prepare rm_X8_prepare G cy [.ref a, .ref asu] ws0 (fun u => ∃ (se2 re2 : Int → Int64) (wr2 rt2 wt2 rs2 st2 : Int → Int) (riw2 : Int), u[q]? = some (a, .inr (8, [.ref ase, .ref awr, .int (zI (((KL d).length : Int))), .ref art, .int (zI riw2), .ref awt, .ref are, .ref ars])) ∧ u[q + 1]? = some (ase, aL cy 6400 se2) ∧ u[q + 2]? = some (awr, aI cy 6400 wr2) ∧ u[q + 3]? = some (art, aI cy 5 rt2) ∧ u[q + 4]? = some (awt, aI cy 656 wt2) ∧ u[q + 5]? = some (are, aL cy 19200 re2) ∧ u[q + 6]? = some (ars, aI cy 42 rs2) ∧ u[qs9]? = some (ask, aI cy 11 st2) ∧ TW d T se2 wr2 rt2 wt2 re2 rs2 (KL d).length ∧ Eqx ws0 u (fun j => (q ≤ j ∧ j < q + 7) ∨ j = qs9)) := by
  refine MVk.of (own := RX8) (cc := cX8_prepare) (nL := 3) (ret := none) (by decide) rfl rfl (Nat.le_of_ble_eq_true rfl) ?_
  intro p e s m below meth c A ls hX hin E h hl
  have hl : lv_has ls 3 [(0, .ref a), (1, .ref asu)] := hl
  have hE : Eqx ws0 ws0 (fun j => (q ≤ j ∧ j < q + 7) ∨ j = qs9) := Eqx.rf
  have hn := hD.n
  have hk9 := hD.k
  have hnr := hD.nr
  have hTk := HTK_of hD hTl
  refine r_aload_n E 0 hl rfl dX8_prepare_0 ?_
  refine r_iconst E dX8_prepare_1 ?_
  refine r_put E h h_tb rfl inn_X8_prepare_8 2 (by decide) fl_X8_prepare_19 tyX8 tyX8_ok nmX8 rfl rfl rfl (Nat.le_of_ble_eq_true rfl) dX8_prepare_2 (fun ws H locs h hu => ?_)
  have h_tb : ws[q]? = some (a, .inr (8, [.ref ase, .ref awr, .int (zI 0), .ref art, .int (zI riw), .ref awt, .ref are, .ref ars])) := hu.1
  have h_se := hu.keep h_se (by omega)
  have h_wr := hu.keep h_wr (by omega)
  have h_rt := hu.keep h_rt (by omega)
  have h_wt := hu.keep h_wt (by omega)
  have h_re := hu.keep h_re (by omega)
  have h_rs := hu.keep h_rs (by omega)
  have h_su := hu.keep h_su (by omega)
  have h_sur := hu.keep h_sur (by omega)
  have h_fo := hu.keep h_fo (by omega)
  have h_tk := hu.keep h_tk (by omega)
  have h_sk := hu.keep h_sk (by omega)
  have hE := hE.tr (hu.eqx (by first | omega | (dsimp only <;> omega)))
  refine r_aload_n E 0 hl rfl dX8_prepare_5 ?_
  refine r_get (v := .ref art) E h h_tb rfl inn_X8_prepare_8 3 (by decide) fl_X8_prepare_23 rfl dX8_prepare_6 ?_
  refine r_iconst E dX8_prepare_9 ?_
  refine r_callSV E h (As := [.ref art, .int (zI 0)]) (rest := []) (k_J7_fill_53178 l 0 h_rt (by omega)) gX8_prepare_J7_fill_53178 rfl hd_J7_fill_53178 (by decide) ⟨by decide, by decide⟩ hl.1 rfl (Nat.le_of_ble_eq_true rfl) dX8_prepare_10 rfl (fun ws H locs hp h => ?_)
  obtain ⟨h_rt, hf⟩ := hp
  have h_tb := hf.at h_tb (by first | omega | (dsimp only <;> omega))
  have h_se := hf.at h_se (by first | omega | (dsimp only <;> omega))
  have h_wr := hf.at h_wr (by first | omega | (dsimp only <;> omega))
  have h_wt := hf.at h_wt (by first | omega | (dsimp only <;> omega))
  have h_re := hf.at h_re (by first | omega | (dsimp only <;> omega))
  have h_rs := hf.at h_rs (by first | omega | (dsimp only <;> omega))
  have h_su := hf.at h_su (by first | omega | (dsimp only <;> omega))
  have h_sur := hf.at h_sur (by first | omega | (dsimp only <;> omega))
  have h_fo := hf.at h_fo (by first | omega | (dsimp only <;> omega))
  have h_tk := hf.at h_tk (by first | omega | (dsimp only <;> omega))
  have h_sk := hf.at h_sk (by first | omega | (dsimp only <;> omega))
  have hE := hE.tr (hf.wk (fun j hj => by first | omega | (dsimp only at hj ⊢ <;> omega)))
  refine r_iconst E dX8_prepare_13 ?_
  refine r_istore_n (lv' := [(2, .int (zI 0)), (0, .ref a), (1, .ref asu)]) E hl dX8_prepare_14 rfl (by decide) rfl (fun ls hl => ?_)
  refine r_loop (fun n H locs ls => ∃ (ws : va_W) (r : Int) (riw2 : Int) (se2 : Int → Int64) (wr2 : Int → Int) (rt2 : Int → Int) (wt2 : Int → Int) (st2 : Int → Int), n = (4 - r).toNat ∧ (0 ≤ r ∧ r ≤ d 2) ∧ (TE d (kR d r.toNat) se2 wr2) ∧ (∀ j : Int, 0 ≤ j → j ≤ r → rt2 j = (kR d j.toNat).length) ∧ (∀ r8 g8 c8 : Int, 0 ≤ r8 → r8 < r → 1 ≤ g8 → g8 ≤ d 0 → 0 ≤ c8 → c8 < d 1 → wt2 ((41 * r8 + g8) * 4 + c8) = wgt T r8 g8 c8) ∧ Hp G ws A s.heap H locs ∧ (ws[q]? = some (a, .inr (8, [.ref ase, .ref awr, .int (zI (((kR d r.toNat).length : Int))), .ref art, .int (zI riw2), .ref awt, .ref are, .ref ars]))) ∧ (ws[q + 1]? = some (ase, aL cy 6400 se2)) ∧ (ws[q + 2]? = some (awr, aI cy 6400 wr2)) ∧ (ws[q + 3]? = some (art, aI cy 5 rt2)) ∧ (ws[q + 4]? = some (awt, aI cy 656 wt2)) ∧ (ws[q + 5]? = some (are, aL cy 19200 re)) ∧ (ws[q + 6]? = some (ars, aI cy 42 rs)) ∧ (ws[qs]? = some (asu, .inr (6, [.int (zI (d 0)), .int (zI (d 1)), .ref ar9, .ref afo]))) ∧ (ws[qra]? = some (ar9, aR cy 4 ((d 2).toNat) rA)) ∧ (ws[qf]? = some (afo, .inr (1, [.ref atk, .ref ask]))) ∧ (ws[qt9]? = some (atk, aI cy T.length (tkF T))) ∧ (ws[qs9]? = some (ask, aI cy 11 st2)) ∧ Eqx ws0 ws (fun j => (q ≤ j ∧ j < q + 7) ∨ j = qs9) ∧ lv_has ls 3 [(0, .ref a), (1, .ref asu), (2, .int (zI r))]) _ ⟨ws, 0, riw, se, wr, ((fun _ => 0)), wt, st9, rfl, (by omega), (fun s9 q9 h9 => by simp [kR] at h9), (fun j h0 h1 => by rw [show j = 0 by omega]; rfl), (fun r8 g8 c8 h0 h1 => absurd h1 (by omega)), h, h_tb, h_se, h_wr, h_rt, h_wt, h_re, h_rs, h_su, h_sur, h_fo, h_tk, h_sk, hE, lv_sub hl [1, 2, 0] rfl⟩ ?_
  rintro n H locs ls ⟨ws, r, riw2, se2, wr2, rt2, wt2, st2, hn, i1, i2, i3, i4, h, h_tb, h_se, h_wr, h_rt, h_wt, h_re, h_rs, h_su, h_sur, h_fo, h_tk, h_sk, hE, hl⟩ ih_15
  refine r_iload_n E 2 hl rfl dX8_prepare_15 ?_
  refine r_aload_n E 1 hl rfl dX8_prepare_16 ?_
  refine r_get (v := .ref ar9) E h h_su rfl inn_X8_prepare_6 2 (by decide) fl_X8_prepare_44 rfl dX8_prepare_17 ?_
  refine r_alen E h rfl h_sur (v := (d 2).toNat) rfl dX8_prepare_20 ?_
  refine r_icmp_ge E 81 dX8_prepare_21 (by decide) (by omega) (fun c_21 => ?_) (fun c_21 => ?_)
  · skip
    have hr2 : r = d 2 := by omega
    have hKL : KL d = kR d r.toNat := by unfold KL; rw [hr2]
    refine r_aload_n E 0 hl rfl dX8_prepare_81 ?_
    refine r_aload_n E 1 hl rfl dX8_prepare_82 ?_
    refine r_get (v := .int (zI (d 0))) E h h_su rfl inn_X8_prepare_6 0 (by decide) fl_X8_prepare_50 rfl dX8_prepare_83 ?_
    refine r_callVV E h (As := [.int (zI (d 0))]) (rest := []) (k_X8_fillRests l (d 0) h_tb h_se h_re h_rs hD rfl (by rw [hKL]) (fun s9 q9 hq9 => (i2 s9 q9 (by rw [← hKL]; exact hq9)).1)) h_tb rfl gX8_prepare_X8_fillRests rfl hd_X8_fillRests (by decide) ⟨by decide, by decide⟩ hl.1 rfl (Nat.le_of_ble_eq_true rfl) dX8_prepare_86 rfl (fun ws H locs hp h => ?_)
    obtain ⟨re_86, rs_86, h_re, h_rs, e_86, g_86, hf⟩ := hp
    have h_tb := hf.at h_tb (by first | omega | (dsimp only <;> omega))
    have h_se := hf.at h_se (by first | omega | (dsimp only <;> omega))
    have h_wr := hf.at h_wr (by first | omega | (dsimp only <;> omega))
    have h_rt := hf.at h_rt (by first | omega | (dsimp only <;> omega))
    have h_wt := hf.at h_wt (by first | omega | (dsimp only <;> omega))
    have h_su := hf.at h_su (by first | omega | (dsimp only <;> omega))
    have h_sur := hf.at h_sur (by first | omega | (dsimp only <;> omega))
    have h_fo := hf.at h_fo (by first | omega | (dsimp only <;> omega))
    have h_tk := hf.at h_tk (by first | omega | (dsimp only <;> omega))
    have h_sk := hf.at h_sk (by first | omega | (dsimp only <;> omega))
    have hE := hE.tr (hf.wk (fun j hj => by first | omega | (dsimp only at hj ⊢ <;> omega)))
    refine r_vret E h ⟨se2, re_86, wr2, rt2, wt2, rs_86, st2, riw2, by rw [hKL]; exact h_tb, h_se, h_wr, h_rt, h_wt, h_re, h_rs, h_sk, ⟨rfl, fun s9 q9 hq9 => i2 s9 q9 (by rw [← hKL]; exact hq9), fun r8 h0 h1 => ?_, fun r8 g8 c8 h0 h1 h2 h3 h4 h5 => i4 r8 g8 c8 h0 (by omega) h2 h3 h4 h5, e_86, fun x s9 q9 h0 h1 h2 h3 => g_86 x s9 q9 h0 (by omega) h1 h2 h3⟩, hE⟩ dX8_prepare_89
    have t1 := i3 r8 h0 (by omega)
    have t2 := i3 (r8 + 1) (by omega) (by omega)
    rw [kR_sI h0, List.length_append] at t2
    have t3 := kR_len (d := d) (by omega) r8.toNat
    have t4 := kR_len (d := d) (by omega) (r8 + 1).toNat
    rw [kR_sI h0, List.length_append] at t4
    omega
  · skip
    have hrl := kR_len (d := d) (by omega) r.toNat
    refine r_iload_n E 2 hl rfl dX8_prepare_24 ?_
    refine r_iconst E dX8_prepare_25 ?_
    refine r_icmp_ge E 81 dX8_prepare_26 (by decide) (by omega) (fun c_26 => ?_) (fun c_26 => ?_)
    · skip
      exfalso; omega
    · skip
      obtain ⟨qq, v1, v2, v3, v4, v5, g1, g2, g3⟩ := hRu r.toNat (by omega)
      rw [show ((r.toNat : Nat) : Int) = r by omega] at g1 g3
      have h_ru := hE.at g1 (by omega)
      have hro := hD.rule (r := r) (by omega) (by omega)
      skip
      refine r_aload_n E 0 hl rfl dX8_prepare_29 ?_
      refine r_iload_n E 2 hl rfl dX8_prepare_30 ?_
      refine r_put E h h_tb rfl inn_X8_prepare_8 4 (by decide) fl_X8_prepare_26 tyX8 tyX8_ok nmX8 rfl rfl rfl (Nat.le_of_ble_eq_true rfl) dX8_prepare_31 (fun ws H locs h hu => ?_)
      have h_tb : ws[q]? = some (a, .inr (8, [.ref ase, .ref awr, .int (zI (((kR d r.toNat).length : Int))), .ref art, .int (zI r), .ref awt, .ref are, .ref ars])) := hu.1
      have h_se := hu.keep h_se (by omega)
      have h_wr := hu.keep h_wr (by omega)
      have h_rt := hu.keep h_rt (by omega)
      have h_wt := hu.keep h_wt (by omega)
      have h_re := hu.keep h_re (by omega)
      have h_rs := hu.keep h_rs (by omega)
      have h_su := hu.keep h_su (by omega)
      have h_sur := hu.keep h_sur (by omega)
      have h_fo := hu.keep h_fo (by omega)
      have h_tk := hu.keep h_tk (by omega)
      have h_sk := hu.keep h_sk (by omega)
      have h_ru := hu.keep h_ru (by omega)
      have hE := hE.tr (hu.eqx (by first | omega | (dsimp only <;> omega)))
      refine r_aload_n E 1 hl rfl dX8_prepare_34 ?_
      refine r_get (v := .ref ar9) E h h_su rfl inn_X8_prepare_6 2 (by decide) fl_X8_prepare_44 rfl dX8_prepare_35 ?_
      refine r_iload_n E 2 hl rfl dX8_prepare_38 ?_
      refine r_aald E h rfl h_sur (by omega) (by omega) dX8_prepare_39 (r := some (rr r.toNat)) (by have := hrA r.toNat (by omega); rwa [show ((r.toNat : Nat) : Int) = r by omega] at this) ?_
      refine r_ifnull E dX8_prepare_40 ?_
      refine r_aload_n E 1 hl rfl dX8_prepare_43 ?_
      refine r_get (v := .ref ar9) E h h_su rfl inn_X8_prepare_6 2 (by decide) fl_X8_prepare_44 rfl dX8_prepare_44 ?_
      refine r_iload_n E 2 hl rfl dX8_prepare_47 ?_
      refine r_aald E h rfl h_sur (by omega) (by omega) dX8_prepare_48 (r := some (rr r.toNat)) (by have := hrA r.toNat (by omega); rwa [show ((r.toNat : Nat) : Int) = r by omega] at this) ?_
      refine r_aload_n E 1 hl rfl dX8_prepare_49 ?_
      refine r_get (v := .int (zI (d 0))) E h h_su rfl inn_X8_prepare_6 0 (by decide) fl_X8_prepare_50 rfl dX8_prepare_50 ?_
      refine r_aload_n E 0 hl rfl dX8_prepare_53 ?_
      refine r_callVV E h (As := [.int (zI (d 0)), .ref a]) (rest := []) (k_X4_addSolutions l r (d 0) h_ru h_tb h_se h_wr (by omega) hD.n (by omega) rfl i2 rfl rfl hro g3) h_ru rfl gX8_prepare_X4_addSolutions rfl hd_X4_addSolutions (by decide) ⟨by decide, by decide⟩ hl.1 rfl (Nat.le_of_ble_eq_true rfl) dX8_prepare_54 rfl (fun ws H locs hp h => ?_)
      obtain ⟨se_54, wr_54, h_tb, h_se, h_wr, e_54, hf⟩ := hp
      have h_rt := hf.at h_rt (by first | omega | (dsimp only <;> omega))
      have h_wt := hf.at h_wt (by first | omega | (dsimp only <;> omega))
      have h_re := hf.at h_re (by first | omega | (dsimp only <;> omega))
      have h_rs := hf.at h_rs (by first | omega | (dsimp only <;> omega))
      have h_su := hf.at h_su (by first | omega | (dsimp only <;> omega))
      have h_sur := hf.at h_sur (by first | omega | (dsimp only <;> omega))
      have h_fo := hf.at h_fo (by first | omega | (dsimp only <;> omega))
      have h_tk := hf.at h_tk (by first | omega | (dsimp only <;> omega))
      have h_sk := hf.at h_sk (by first | omega | (dsimp only <;> omega))
      have h_ru := hf.at h_ru (by first | omega | (dsimp only <;> omega))
      have hE := hE.tr (hf.wk (fun j hj => by first | omega | (dsimp only at hj ⊢ <;> omega)))
      rw [← kR_sI (by omega)] at h_tb e_54
      skip
      refine r_aload_n E 0 hl rfl dX8_prepare_57 ?_
      refine r_get (v := .ref art) E h h_tb rfl inn_X8_prepare_8 3 (by decide) fl_X8_prepare_23 rfl dX8_prepare_58 ?_
      refine r_iload_n E 2 hl rfl dX8_prepare_61 ?_
      refine r_iconst E dX8_prepare_62 ?_
      refine r_iadd E dX8_prepare_63 ?_
      refine r_aload_n E 0 hl rfl dX8_prepare_64 ?_
      refine r_get (v := .int (zI (((kR d (r + 1).toNat).length : Int)))) E h h_tb rfl inn_X8_prepare_8 2 (by decide) fl_X8_prepare_19 rfl dX8_prepare_65 ?_
      refine r_iast E h h_rt (by omega) (by decide) dX8_prepare_68 (fun ws H locs h hu => ?_)
      have h_tb := hu.keep h_tb (by omega)
      have h_se := hu.keep h_se (by omega)
      have h_wr := hu.keep h_wr (by omega)
      have h_rt : ws[q + 3]? = some (art, aI cy 5 (uZ rt2 (r + 1) (((kR d (r + 1).toNat).length : Int)))) := hu.1
      have h_wt := hu.keep h_wt (by omega)
      have h_re := hu.keep h_re (by omega)
      have h_rs := hu.keep h_rs (by omega)
      have h_su := hu.keep h_su (by omega)
      have h_sur := hu.keep h_sur (by omega)
      have h_fo := hu.keep h_fo (by omega)
      have h_tk := hu.keep h_tk (by omega)
      have h_sk := hu.keep h_sk (by omega)
      have h_ru := hu.keep h_ru (by omega)
      have hE := hE.tr (hu.eqx (by first | omega | (dsimp only <;> omega)))
      refine r_aload_n E 0 hl rfl dX8_prepare_69 ?_
      refine r_aload_n E 1 hl rfl dX8_prepare_70 ?_
      refine r_iload_n E 2 hl rfl dX8_prepare_71 ?_
      refine r_callVkV E hX h (As := [.ref asu, .int (zI r)]) (rest := []) (k_X8_fillWeights l r h_tb h_wt h_su h_fo h_tk h_sk (by omega) (by omega) (by omega) hTk (by omega) (by omega) (by omega)) h_tb rfl gX8_prepare_X8_fillWeights rfl hd_X8_fillWeights (by decide) ⟨by decide, by decide⟩ hl.1 rfl (Nat.le_of_ble_eq_true rfl) dX8_prepare_72 rfl (fun ws H locs hp h => ?_)
      obtain ⟨wt_72, st_72, h_wt, h_sk, e_72, g_72, hf⟩ := hp
      have h_tb := hf.at h_tb (by first | omega | (dsimp only <;> omega))
      have h_se := hf.at h_se (by first | omega | (dsimp only <;> omega))
      have h_wr := hf.at h_wr (by first | omega | (dsimp only <;> omega))
      have h_rt := hf.at h_rt (by first | omega | (dsimp only <;> omega))
      have h_re := hf.at h_re (by first | omega | (dsimp only <;> omega))
      have h_rs := hf.at h_rs (by first | omega | (dsimp only <;> omega))
      have h_su := hf.at h_su (by first | omega | (dsimp only <;> omega))
      have h_sur := hf.at h_sur (by first | omega | (dsimp only <;> omega))
      have h_fo := hf.at h_fo (by first | omega | (dsimp only <;> omega))
      have h_tk := hf.at h_tk (by first | omega | (dsimp only <;> omega))
      have h_ru := hf.at h_ru (by first | omega | (dsimp only <;> omega))
      have hE := hE.tr (hf.wk (fun j hj => by first | omega | (dsimp only at hj ⊢ <;> omega)))
      refine r_iinc (lv' := [(2, .int (zI (r + 1))), (0, .ref a), (1, .ref asu)]) E 2 hl rfl dX8_prepare_75 (by decide) rfl (fun ls hl => ?_)
      refine r_goto E 15 dX8_prepare_78 (by decide) ?_
      exact ih_15 _ H locs ls (by omega) ⟨ws, (r + 1), r, se_54, wr_54, (uZ rt2 (r + 1) (((kR d (r + 1).toNat).length : Int))), wt_72, st_72, rfl, (by omega), e_54, (fun j h0 h1 => by
      by_cases e9 : j = r + 1
      · rw [e9, uZ_s]
      · rw [uZ_n e9]; exact i3 j h0 (by omega)), (fun r8 g8 c8 h0 h1 h2 h3 h4 h5 => by
      by_cases e9 : r8 = r
      · subst e9; exact e_72 g8 c8 h2 (by omega) h4 h5
      · rw [g_72 _ (by omega)]; exact i4 r8 g8 c8 h0 (by omega) h2 h3 h4 h5), h, h_tb, h_se, h_wr, h_rt, h_wt, h_re, h_rs, h_su, h_sur, h_fo, h_tk, h_sk, hE, lv_sub hl [1, 2, 0] rfl⟩
