theorem hd_X11_extend : yX11_extend.cls = RX11 ∧ yX11_extend.cls ≠ "java/lang/invoke/MethodHandle" ∧ yX11_extend.cls ≠ "java/lang/invoke/VarHandle" ∧ (parseMethodDescriptor yX11_extend.desc).map (fun d => d.parameters.length) = some 2 := by decide +kernel
theorem fl_X11_extend_57 : Cond.fieldLink RX11 57 (TX11 0).1 (TX11 0).2.1 (TX11 0).2.2.1 ∈ wsX11_extend := List.mem_of_getElem? (i := 1) rfl
theorem inn_X11_extend_11 : ∀ w ∈ wsX110, w ∈ wsX11_extend := fun _ h => List.mem_cons_of_mem _ (List.mem_append_right _ h)
theorem fl_X11_extend_17 : Cond.fieldLink RX11 17 (TX11 8).1 (TX11 8).2.1 (TX11 8).2.2.1 ∈ wsX11_extend := List.mem_of_getElem? (i := 2) rfl
theorem fl_X11_extend_23 : Cond.fieldLink RX11 23 (TX11 10).1 (TX11 10).2.1 (TX11 10).2.2.1 ∈ wsX11_extend := List.mem_of_getElem? (i := 3) rfl
theorem fl_X11_extend_20 : Cond.fieldLink RX11 20 (TX11 9).1 (TX11 9).2.1 (TX11 9).2.2.1 ∈ wsX11_extend := List.mem_of_getElem? (i := 4) rfl
abbrev rm_X11_extend : Room := { frames := 4, cells := 0, slots := 0, locals := 95 }
set_option maxHeartbeats 4000000 in
set_option maxRecDepth 100000 in
theorem k_X11_extend (l : Launch) {G : va_G} {cy : Nat → ClassId} {ws0 : va_W} {b aM : Nat} {I : Nat → Int} {ad : Nat → Nat} {dr : Int → Int} {ke : Int → Int} {st : Int → Int64} {op : Int → Int} {me : Int → Int} {le : Int → Int} {fo : Int → Int} {wn : Int → Int} {d : Int → Int} {T : List Int} {ru so : Int → Int} {ar : Nat → Nat} {hi : Int → Option Nat} {hs : Nat → Int → Int} (x y : Int) (h_mo : ws0[b]? = some (aM, mO I ad)) (h_da : ws0[b + 2]? = some (ad 8, aI cy 1111 d)) (h_dr : ws0[b + 3]? = some (ad 9, aI cy 1111 dr)) (h_ke : ws0[b + 4]? = some (ad 10, aI cy 1111 ke)) (h_st : ws0[b + 20]? = some (ad 22, aL cy 1000 st)) (h_op : ws0[b + 21]? = some (ad 25, aI cy 40 op)) (h_me : ws0[b + 14]? = some (ad 15, aI cy 38400 me)) (h_le : ws0[b + 15]? = some (ad 16, aI cy 6400 le)) (h_fo : ws0[b + 18]? = some (ad 20, aI cy 42 fo)) (h_wn : ws0[b + 19]? = some (ad 21, aI cy 38400 wn)) (h_hi : ws0[b + 5]? = some (ad 11, aR cy 6 8 hi)) (h_rw : ∀ i : Nat, i < 8 → ws0[b + 6 + i]? = some (ar i, aI cy 1111 (hs i))) (hD : DW d T) (hL : LW d me le ru so fo wn (I 19)) (hhi : ∀ i : Nat, i < 8 → hi (i : Int) = some (ar i)) (hdep : 0 ≤ I 12 ∧ I 12 ≤ 8) (hx : (-2147483648 ≤ x ∧ x ≤ 2147483647) ∧ (-2147483648 ≤ y ∧ y ≤ 2147483647)) : MI l yX11_extend wsX11_extend rm_X11_extend G cy [.ref aM, .int (zI x), .int (zI y)] ws0 (fun z u => ∃ (t n2 : Int) (d2 : Int → Int) (hs2 : Nat → Int → Int), ((1 ≤ x ∧ x ≤ d 0) ∧ (1 ≤ y ∧ y ≤ 3000) ∧ t = 0 ∧ z = (SR d x y).1 ∧ (z < 0 ∧ n2 = I 12 ∧ d2 = d ∧ hs2 = hs ∨ 0 ≤ z ∧ n2 = rn (I 12) ∧ d2 = (SR d x y).2.2 ∧ hs2 = rem (I 12) hs d) ∨ (x < 1 ∨ d 0 < x) ∧ t = 1 ∧ n2 = I 12 ∧ d2 = d ∧ hs2 = hs ∨ (1 ≤ x ∧ x ≤ d 0) ∧ (y < 1 ∨ 3000 < y) ∧ t = 2 ∧ n2 = I 12 ∧ d2 = d ∧ hs2 = hs) ∧ MWO cy b aM ad ar I ws0 u t n2 d2 hs2) := by
  refine MI.of (own := RX11) (cc := cX11_extend) (nL := 4) (ret := (some .int)) (by decide) rfl rfl (Nat.le_of_ble_eq_true rfl) ?_
  intro p e s m below meth c A ls E h hl
  have hl : lv_has ls 4 [(0, .ref aM), (1, .int (zI x)), (2, .int (zI y))] := hl
  have hE : Eqx ws0 ws0 (fun j => j = b ∨ j = b + 2 ∨ j = b + 3 ∨ j = b + 4 ∨ (b + 6 ≤ j ∧ j < b + 14) ∨ j = b + 20 ∨ j = b + 21) := Eqx.rf
  have hn9 := hD.n
  have hk9 := hD.k
  have hr9 := hD.nr
  refine r_aload_n E 0 hl rfl dX11_extend_0 ?_
  refine r_iconst E dX11_extend_1 ?_
  refine r_put E h h_mo rfl inn_X11_extend_11 0 (by decide) fl_X11_extend_57 tyX11 tyX11_ok nmX11 rfl rfl rfl (Nat.le_of_ble_eq_true rfl) dX11_extend_2 (fun ws H locs h hu => ?_)
  have h_mo : ws[b]? = some (aM, mO (va_up I 0 0) ad) := hu.1
  have h_da := hu.keep h_da (by omega)
  have h_dr := hu.keep h_dr (by omega)
  have h_ke := hu.keep h_ke (by omega)
  have h_st := hu.keep h_st (by omega)
  have h_op := hu.keep h_op (by omega)
  have h_me := hu.keep h_me (by omega)
  have h_le := hu.keep h_le (by omega)
  have h_fo := hu.keep h_fo (by omega)
  have h_wn := hu.keep h_wn (by omega)
  have h_hi := hu.keep h_hi (by omega)
  have h_rw := fun (i : Nat) (hi : i < 8) => hu.keep (h_rw i hi) (by omega)
  have hE := hE.tr (hu.eqx (by first | omega | (dsimp only <;> omega)))
  refine r_aload_n E 0 hl rfl dX11_extend_5 ?_
  refine r_iload_n E 1 hl rfl dX11_extend_6 ?_
  refine r_iload_n E 2 hl rfl dX11_extend_7 ?_
  refine r_callVI E h (As := [.int (zI x), .int (zI y)]) (rest := []) (k_X11_noSearch l x y h_mo h_da (by omega) (by have := hD.n; omega) (by first | rfl | (simp [va_up]; done))) h_mo rfl gX11_extend_X11_noSearch rfl hd_X11_noSearch (by decide) ⟨by decide, by decide⟩ hl.1 rfl (Nat.le_of_ble_eq_true rfl) dX11_extend_8 rfl (fun z_8 ws H locs hp h => ?_)
  obtain ⟨t_8, e_8, h_mo, hf⟩ := hp
  have h_da := hf.at h_da (by first | omega | (dsimp only <;> omega))
  have h_dr := hf.at h_dr (by first | omega | (dsimp only <;> omega))
  have h_ke := hf.at h_ke (by first | omega | (dsimp only <;> omega))
  have h_st := hf.at h_st (by first | omega | (dsimp only <;> omega))
  have h_op := hf.at h_op (by first | omega | (dsimp only <;> omega))
  have h_me := hf.at h_me (by first | omega | (dsimp only <;> omega))
  have h_le := hf.at h_le (by first | omega | (dsimp only <;> omega))
  have h_fo := hf.at h_fo (by first | omega | (dsimp only <;> omega))
  have h_wn := hf.at h_wn (by first | omega | (dsimp only <;> omega))
  have h_hi := hf.at h_hi (by first | omega | (dsimp only <;> omega))
  have h_rw := fun (i : Nat) (hi : i < 8) => hf.at (h_rw i hi) (by first | omega | (dsimp only <;> omega))
  have hE := hE.tr (hf.wk (fun j hj => by first | omega | (dsimp only at hj ⊢ <;> omega)))
  refine r_if_eq E 16 dX11_extend_11 (by decide) (by omega) (fun c_11 => ?_) (fun c_11 => ?_)
  · skip
    refine r_aload_n E 0 hl rfl dX11_extend_16 ?_
    refine r_get (v := .ref (ad 8)) E h h_mo rfl inn_X11_extend_11 8 (by decide) fl_X11_extend_17 rfl dX11_extend_17 ?_
    refine r_aload_n E 0 hl rfl dX11_extend_20 ?_
    refine r_get (v := .ref (ad 10)) E h h_mo rfl inn_X11_extend_11 10 (by decide) fl_X11_extend_23 rfl dX11_extend_21 ?_
    refine r_callSV E h (As := [.ref (ad 8), .ref (ad 10)]) (rest := []) (k_X11_copy l h_da h_ke (by omega)) gX11_extend_X11_copy rfl hd_X11_copy (by decide) ⟨by decide, by decide⟩ hl.1 rfl (Nat.le_of_ble_eq_true rfl) dX11_extend_24 rfl (fun ws H locs hp h => ?_)
    obtain ⟨h_ke, hf⟩ := hp
    have h_mo := hf.at h_mo (by first | omega | (dsimp only <;> omega))
    have h_da := hf.at h_da (by first | omega | (dsimp only <;> omega))
    have h_dr := hf.at h_dr (by first | omega | (dsimp only <;> omega))
    have h_st := hf.at h_st (by first | omega | (dsimp only <;> omega))
    have h_op := hf.at h_op (by first | omega | (dsimp only <;> omega))
    have h_me := hf.at h_me (by first | omega | (dsimp only <;> omega))
    have h_le := hf.at h_le (by first | omega | (dsimp only <;> omega))
    have h_fo := hf.at h_fo (by first | omega | (dsimp only <;> omega))
    have h_wn := hf.at h_wn (by first | omega | (dsimp only <;> omega))
    have h_hi := hf.at h_hi (by first | omega | (dsimp only <;> omega))
    have h_rw := fun (i : Nat) (hi : i < 8) => hf.at (h_rw i hi) (by first | omega | (dsimp only <;> omega))
    have hE := hE.tr (hf.wk (fun j hj => by first | omega | (dsimp only at hj ⊢ <;> omega)))
    refine r_aload_n E 0 hl rfl dX11_extend_27 ?_
    refine r_iload_n E 1 hl rfl dX11_extend_28 ?_
    refine r_iload_n E 2 hl rfl dX11_extend_29 ?_
    refine r_callVI E h (As := [.int (zI x), .int (zI y)]) (rest := []) (k_X11_search l x y h_mo h_da h_me h_le h_fo h_wn h_op hD hD (by first | exact hL | (simp only [va_up]; exact hL)) (by omega) (by omega) rfl) h_mo rfl gX11_extend_X11_search rfl hd_X11_search (by decide) ⟨by decide, by decide⟩ hl.1 rfl (Nat.le_of_ble_eq_true rfl) dX11_extend_30 rfl (fun z_30 ws H locs hp h => ?_)
    obtain ⟨e_30, I_30, op_30, h_mo, h_da, h_op, ⟨f_30, g_30⟩, hf⟩ := hp
    have h_dr := hf.at h_dr (by first | omega | (dsimp only <;> omega))
    have h_ke := hf.at h_ke (by first | omega | (dsimp only <;> omega))
    have h_st := hf.at h_st (by first | omega | (dsimp only <;> omega))
    have h_me := hf.at h_me (by first | omega | (dsimp only <;> omega))
    have h_le := hf.at h_le (by first | omega | (dsimp only <;> omega))
    have h_fo := hf.at h_fo (by first | omega | (dsimp only <;> omega))
    have h_wn := hf.at h_wn (by first | omega | (dsimp only <;> omega))
    have h_hi := hf.at h_hi (by first | omega | (dsimp only <;> omega))
    have h_rw := fun (i : Nat) (hi : i < 8) => hf.at (h_rw i hi) (by first | omega | (dsimp only <;> omega))
    have hE := hE.tr (hf.wk (fun j hj => by first | omega | (dsimp only at hj ⊢ <;> omega)))
    refine r_istore_n (lv' := [(3, .int (zI z_30)), (0, .ref aM), (1, .int (zI x)), (2, .int (zI y))]) E hl dX11_extend_33 rfl (by decide) rfl (fun ls hl => ?_)
    have e12 : I_30 12 = I 12 := by rw [g_30 12 (by decide) (by decide)]; rfl
    have hsr := srch_rng (d := d) (ol := opL (cl d) x.toNat) (most := y) ((2 * (y - 0) + (0 : Nat)).toNat + 1) 0 0 0 0 d (by omega)
    have hz30 : -2 ≤ z_30 ∧ z_30 ≤ y := by rw [e_30]; exact hsr
    rw [← SR_sr (by omega)] at e_30
    refine r_aload_n E 1 hl rfl dX11_extend_34 ?_
    refine r_get (v := .ref (ad 8)) E h h_mo rfl inn_X11_extend_11 8 (by decide) fl_X11_extend_17 rfl dX11_extend_35 ?_
    refine r_aload_n E 1 hl rfl dX11_extend_38 ?_
    refine r_get (v := .ref (ad 9)) E h h_mo rfl inn_X11_extend_11 9 (by decide) fl_X11_extend_20 rfl dX11_extend_39 ?_
    refine r_callSV E h (As := [.ref (ad 8), .ref (ad 9)]) (rest := []) (k_X11_copy l h_da h_dr (by omega)) gX11_extend_X11_copy rfl hd_X11_copy (by decide) ⟨by decide, by decide⟩ hl.1 rfl (Nat.le_of_ble_eq_true rfl) dX11_extend_42 rfl (fun ws H locs hp h => ?_)
    obtain ⟨h_dr, hf⟩ := hp
    have h_mo := hf.at h_mo (by first | omega | (dsimp only <;> omega))
    have h_da := hf.at h_da (by first | omega | (dsimp only <;> omega))
    have h_ke := hf.at h_ke (by first | omega | (dsimp only <;> omega))
    have h_st := hf.at h_st (by first | omega | (dsimp only <;> omega))
    have h_op := hf.at h_op (by first | omega | (dsimp only <;> omega))
    have h_me := hf.at h_me (by first | omega | (dsimp only <;> omega))
    have h_le := hf.at h_le (by first | omega | (dsimp only <;> omega))
    have h_fo := hf.at h_fo (by first | omega | (dsimp only <;> omega))
    have h_wn := hf.at h_wn (by first | omega | (dsimp only <;> omega))
    have h_hi := hf.at h_hi (by first | omega | (dsimp only <;> omega))
    have h_rw := fun (i : Nat) (hi : i < 8) => hf.at (h_rw i hi) (by first | omega | (dsimp only <;> omega))
    have hE := hE.tr (hf.wk (fun j hj => by first | omega | (dsimp only at hj ⊢ <;> omega)))
    refine r_aload_n E 1 hl rfl dX11_extend_45 ?_
    refine r_get (v := .ref (ad 10)) E h h_mo rfl inn_X11_extend_11 10 (by decide) fl_X11_extend_23 rfl dX11_extend_46 ?_
    refine r_aload_n E 1 hl rfl dX11_extend_49 ?_
    refine r_get (v := .ref (ad 8)) E h h_mo rfl inn_X11_extend_11 8 (by decide) fl_X11_extend_17 rfl dX11_extend_50 ?_
    refine r_callSV E h (As := [.ref (ad 10), .ref (ad 8)]) (rest := []) (k_X11_copy l h_ke h_da (by omega)) gX11_extend_X11_copy rfl hd_X11_copy (by decide) ⟨by decide, by decide⟩ hl.1 rfl (Nat.le_of_ble_eq_true rfl) dX11_extend_53 rfl (fun ws H locs hp h => ?_)
    obtain ⟨h_da, hf⟩ := hp
    have h_mo := hf.at h_mo (by first | omega | (dsimp only <;> omega))
    have h_dr := hf.at h_dr (by first | omega | (dsimp only <;> omega))
    have h_ke := hf.at h_ke (by first | omega | (dsimp only <;> omega))
    have h_st := hf.at h_st (by first | omega | (dsimp only <;> omega))
    have h_op := hf.at h_op (by first | omega | (dsimp only <;> omega))
    have h_me := hf.at h_me (by first | omega | (dsimp only <;> omega))
    have h_le := hf.at h_le (by first | omega | (dsimp only <;> omega))
    have h_fo := hf.at h_fo (by first | omega | (dsimp only <;> omega))
    have h_wn := hf.at h_wn (by first | omega | (dsimp only <;> omega))
    have h_hi := hf.at h_hi (by first | omega | (dsimp only <;> omega))
    have h_rw := fun (i : Nat) (hi : i < 8) => hf.at (h_rw i hi) (by first | omega | (dsimp only <;> omega))
    have hE := hE.tr (hf.wk (fun j hj => by first | omega | (dsimp only at hj ⊢ <;> omega)))
    refine r_iload_n E 0 hl rfl dX11_extend_56 ?_
    refine r_if_ge E 62 dX11_extend_57 (by decide) (by omega) (fun c_57 => ?_) (fun c_57 => ?_)
    · skip
      refine r_aload_n E 1 hl rfl dX11_extend_62 ?_
      refine r_callVV E h (As := []) (rest := []) (k_X11_remember l h_mo h_da h_hi h_rw hhi (by rw [e12]; exact hdep)) h_mo rfl gX11_extend_X11_remember rfl hd_X11_remember (by decide) ⟨by decide, by decide⟩ hl.1 rfl (Nat.le_of_ble_eq_true rfl) dX11_extend_63 rfl (fun ws H locs hp h => ?_)
      obtain ⟨I_63, h_mo, h_rw, ⟨f_63, g_63⟩, hf⟩ := hp
      have h_da := hf.at h_da (by first | omega | (dsimp only <;> omega))
      have h_dr := hf.at h_dr (by first | omega | (dsimp only <;> omega))
      have h_ke := hf.at h_ke (by first | omega | (dsimp only <;> omega))
      have h_st := hf.at h_st (by first | omega | (dsimp only <;> omega))
      have h_op := hf.at h_op (by first | omega | (dsimp only <;> omega))
      have h_me := hf.at h_me (by first | omega | (dsimp only <;> omega))
      have h_le := hf.at h_le (by first | omega | (dsimp only <;> omega))
      have h_fo := hf.at h_fo (by first | omega | (dsimp only <;> omega))
      have h_wn := hf.at h_wn (by first | omega | (dsimp only <;> omega))
      have h_hi := hf.at h_hi (by first | omega | (dsimp only <;> omega))
      rw [e12] at f_63
      simp only [e12] at h_rw
      have hE := hE.tr (hf.wk (fun j hj => by first | omega | (dsimp only at hj ⊢ <;> omega)))
      refine r_aload_n E 1 hl rfl dX11_extend_66 ?_
      refine r_get (v := .ref (ad 9)) E h h_mo rfl inn_X11_extend_11 9 (by decide) fl_X11_extend_20 rfl dX11_extend_67 ?_
      refine r_aload_n E 1 hl rfl dX11_extend_70 ?_
      refine r_get (v := .ref (ad 8)) E h h_mo rfl inn_X11_extend_11 8 (by decide) fl_X11_extend_17 rfl dX11_extend_71 ?_
      refine r_callSV E h (As := [.ref (ad 9), .ref (ad 8)]) (rest := []) (k_X11_copy l h_dr h_da (by omega)) gX11_extend_X11_copy rfl hd_X11_copy (by decide) ⟨by decide, by decide⟩ hl.1 rfl (Nat.le_of_ble_eq_true rfl) dX11_extend_74 rfl (fun ws H locs hp h => ?_)
      obtain ⟨h_da, hf⟩ := hp
      have h_mo := hf.at h_mo (by first | omega | (dsimp only <;> omega))
      have h_dr := hf.at h_dr (by first | omega | (dsimp only <;> omega))
      have h_ke := hf.at h_ke (by first | omega | (dsimp only <;> omega))
      have h_st := hf.at h_st (by first | omega | (dsimp only <;> omega))
      have h_op := hf.at h_op (by first | omega | (dsimp only <;> omega))
      have h_me := hf.at h_me (by first | omega | (dsimp only <;> omega))
      have h_le := hf.at h_le (by first | omega | (dsimp only <;> omega))
      have h_fo := hf.at h_fo (by first | omega | (dsimp only <;> omega))
      have h_wn := hf.at h_wn (by first | omega | (dsimp only <;> omega))
      have h_hi := hf.at h_hi (by first | omega | (dsimp only <;> omega))
      have h_rw := fun (i : Nat) (hi : i < 8) => hf.at (h_rw i hi) (by first | omega | (dsimp only <;> omega))
      have hE := hE.tr (hf.wk (fun j hj => by first | omega | (dsimp only at hj ⊢ <;> omega)))
      refine r_iload_n E 0 hl rfl dX11_extend_77 ?_
      exact r_iret E h ⟨0, rn (I 12), (sr d (opL (cl d) (Int.toNat x)) y 0 0 0 0 d).2.2, rem (I 12) hs d, Or.inl ⟨by omega, by omega, rfl, e_30, Or.inr ⟨by omega, rfl, by rw [SR_sr (by omega)], rfl⟩⟩, I_63, (sr d (opL (cl d) (Int.toNat x)) y 0 0 0 0 d).2.2, d, st, op_30, h_mo, h_da, h_dr, h_ke, h_rw, h_st, h_op, (by first | rfl | (simp [va_up]; done) | (rw [g_30 0 (by decide) (by decide)]; simp [va_up]; omega) | (rw [g_63 0 (by decide), g_30 0 (by decide) (by decide)]; simp [va_up]; omega)), (by first | exact f_63 | exact e12 | rfl | (simp [va_up]; done)), (fun k h0 h9 h1 h2 h3 h4 => by first | (rw [g_63 k h9, g_30 k h1 h2]; simp [va_up, h0]; done) | (rw [g_30 k h1 h2]; simp [va_up, h0]; done) | (simp [va_up, h0]; done)), hE⟩ dX11_extend_78
    · skip
      refine r_iload_n E 0 hl rfl dX11_extend_60 ?_
      exact r_iret E h ⟨0, I 12, d, hs, Or.inl ⟨by omega, by omega, rfl, e_30, Or.inl ⟨by omega, rfl, rfl, rfl⟩⟩, I_30, (sr d (opL (cl d) (Int.toNat x)) y 0 0 0 0 d).2.2, d, st, op_30, h_mo, h_da, h_dr, h_ke, h_rw, h_st, h_op, (by first | rfl | (simp [va_up]; done) | (rw [g_30 0 (by decide) (by decide)]; simp [va_up]; omega) | (rw [g_63 0 (by decide), g_30 0 (by decide) (by decide)]; simp [va_up]; omega)), (by first | exact f_63 | exact e12 | rfl | (simp [va_up]; done)), (fun k h0 h9 h1 h2 h3 h4 => by first | (rw [g_63 k h9, g_30 k h1 h2]; simp [va_up, h0]; done) | (rw [g_30 k h1 h2]; simp [va_up, h0]; done) | (simp [va_up, h0]; done)), hE⟩ dX11_extend_61
  · skip
    refine r_iconst E dX11_extend_14 ?_
    exact r_iret E h ⟨t_8, I 12, d, hs, Or.inr (by first | exact Or.inl ⟨by omega, by omega, rfl, rfl, rfl⟩ | exact Or.inr ⟨by omega, by omega, by omega, rfl, rfl, rfl⟩ | exact (by omega : (x < 1 ∨ d 0 < x) ∨ (1 ≤ x ∧ x ≤ d 0)).elim (fun hh => Or.inl ⟨hh, by omega, rfl, rfl, rfl⟩) (fun hh => Or.inr ⟨hh, by omega, by omega, rfl, rfl, rfl⟩)), va_up (va_up I 0 0) 0 t_8, dr, ke, st, op, h_mo, h_da, h_dr, h_ke, h_rw, h_st, h_op, (by first | rfl | (simp [va_up]; done) | (rw [g_30 0 (by decide) (by decide)]; simp [va_up]; omega) | (rw [g_63 0 (by decide), g_30 0 (by decide) (by decide)]; simp [va_up]; omega)), (by first | exact f_63 | exact e12 | rfl | (simp [va_up]; done)), (fun k h0 h9 h1 h2 h3 h4 => by first | (rw [g_63 k h9, g_30 k h1 h2]; simp [va_up, h0]; done) | (rw [g_30 k h1 h2]; simp [va_up, h0]; done) | (simp [va_up, h0]; done)), hE⟩ dX11_extend_15
theorem hd_X11_repair : yX11_repair.cls = RX11 ∧ yX11_repair.cls ≠ "java/lang/invoke/MethodHandle" ∧ yX11_repair.cls ≠ "java/lang/invoke/VarHandle" ∧ (parseMethodDescriptor yX11_repair.desc).map (fun d => d.parameters.length) = some 1 := by decide +kernel
theorem fl_X11_repair_57 : Cond.fieldLink RX11 57 (TX11 0).1 (TX11 0).2.1 (TX11 0).2.2.1 ∈ wsX11_repair := List.mem_of_getElem? (i := 1) rfl
theorem inn_X11_repair_11 : ∀ w ∈ wsX110, w ∈ wsX11_repair := fun _ h => List.mem_cons_of_mem _ (List.mem_append_right _ h)
theorem fl_X11_repair_17 : Cond.fieldLink RX11 17 (TX11 8).1 (TX11 8).2.1 (TX11 8).2.2.1 ∈ wsX11_repair := List.mem_of_getElem? (i := 2) rfl
theorem fl_X11_repair_255 : Cond.fieldLink RX11 255 (TX11 26).1 (TX11 26).2.1 (TX11 26).2.2.1 ∈ wsX11_repair := List.mem_of_getElem? (i := 3) rfl
theorem fl_X11_repair_258 : Cond.fieldLink RX11 258 (TX11 27).1 (TX11 27).2.1 (TX11 27).2.2.1 ∈ wsX11_repair := List.mem_of_getElem? (i := 4) rfl
abbrev rm_X11_repair : Room := { frames := 5, cells := 0, slots := 0, locals := 122 }
set_option maxHeartbeats 4000000 in
set_option maxRecDepth 100000 in
theorem k_X11_repair (l : Launch) {G : va_G} {cy : Nat → ClassId} {ws0 : va_W} {b aM : Nat} {I : Nat → Int} {ad : Nat → Nat} {dr : Int → Int} {ke : Int → Int} {st : Int → Int64} {op : Int → Int} {me : Int → Int} {le : Int → Int} {ru : Int → Int} {fo : Int → Int} {wn : Int → Int} {d : Int → Int} {T : List Int} {so : Int → Int} {ar : Nat → Nat} {hi : Int → Option Nat} {hs : Nat → Int → Int} (y : Int) (h_mo : ws0[b]? = some (aM, mO I ad)) (h_da : ws0[b + 2]? = some (ad 8, aI cy 1111 d)) (h_dr : ws0[b + 3]? = some (ad 9, aI cy 1111 dr)) (h_ke : ws0[b + 4]? = some (ad 10, aI cy 1111 ke)) (h_st : ws0[b + 20]? = some (ad 22, aL cy 1000 st)) (h_op : ws0[b + 21]? = some (ad 25, aI cy 40 op)) (h_me : ws0[b + 14]? = some (ad 15, aI cy 38400 me)) (h_le : ws0[b + 15]? = some (ad 16, aI cy 6400 le)) (h_ru : ws0[b + 16]? = some (ad 17, aI cy 6400 ru)) (h_fo : ws0[b + 18]? = some (ad 20, aI cy 42 fo)) (h_wn : ws0[b + 19]? = some (ad 21, aI cy 38400 wn)) (h_hi : ws0[b + 5]? = some (ad 11, aR cy 6 8 hi)) (h_rw : ∀ i : Nat, i < 8 → ws0[b + 6 + i]? = some (ar i, aI cy 1111 (hs i))) (hD : DW d T) (hL : LW d me le ru so fo wn (I 19)) (hhi : ∀ i : Nat, i < 8 → hi (i : Int) = some (ar i)) (hdep : 0 ≤ I 12 ∧ I 12 ≤ 8) (hx : (-2147483648 ≤ y ∧ y ≤ 2147483647)) : MI l yX11_repair wsX11_repair rm_X11_repair G cy [.ref aM, .int (zI y)] ws0 (fun z u => ∃ (t n2 : Int) (d2 : Int → Int) (hs2 : Nat → Int → Int), ((1 ≤ y ∧ y ≤ 10) ∧ t = 0 ∧ z = (rpr d T y.toNat d).1 ∧ n2 = rn (I 12) ∧ d2 = (rpr d T y.toNat d).2 ∧ hs2 = rem (I 12) hs d ∨ (y < 1 ∨ 10 < y) ∧ t = 1 ∧ n2 = I 12 ∧ d2 = d ∧ hs2 = hs) ∧ MWO cy b aM ad ar I ws0 u t n2 d2 hs2) := by
  refine MI.of (own := RX11) (cc := cX11_repair) (nL := 3) (ret := (some .int)) (by decide) rfl rfl (Nat.le_of_ble_eq_true rfl) ?_
  intro p e s m below meth c A ls E h hl
  have hl : lv_has ls 3 [(0, .ref aM), (1, .int (zI y))] := hl
  have hE : Eqx ws0 ws0 (fun j => j = b ∨ j = b + 2 ∨ j = b + 3 ∨ j = b + 4 ∨ (b + 6 ≤ j ∧ j < b + 14) ∨ j = b + 20 ∨ j = b + 21) := Eqx.rf
  have hn9 := hD.n
  have hk9 := hD.k
  have hr9 := hD.nr
  refine r_aload_n E 0 hl rfl dX11_repair_0 ?_
  refine r_iconst E dX11_repair_1 ?_
  refine r_put E h h_mo rfl inn_X11_repair_11 0 (by decide) fl_X11_repair_57 tyX11 tyX11_ok nmX11 rfl rfl rfl (Nat.le_of_ble_eq_true rfl) dX11_repair_2 (fun ws H locs h hu => ?_)
  have h_mo : ws[b]? = some (aM, mO (va_up I 0 0) ad) := hu.1
  have h_da := hu.keep h_da (by omega)
  have h_dr := hu.keep h_dr (by omega)
  have h_ke := hu.keep h_ke (by omega)
  have h_st := hu.keep h_st (by omega)
  have h_op := hu.keep h_op (by omega)
  have h_me := hu.keep h_me (by omega)
  have h_le := hu.keep h_le (by omega)
  have h_ru := hu.keep h_ru (by omega)
  have h_fo := hu.keep h_fo (by omega)
  have h_wn := hu.keep h_wn (by omega)
  have h_hi := hu.keep h_hi (by omega)
  have h_rw := fun (i : Nat) (hi : i < 8) => hu.keep (h_rw i hi) (by omega)
  have hE := hE.tr (hu.eqx (by first | omega | (dsimp only <;> omega)))
  refine r_aload_n E 0 hl rfl dX11_repair_5 ?_
  refine r_iload_n E 1 hl rfl dX11_repair_6 ?_
  refine r_iconst E dX11_repair_7 ?_
  refine r_bipush E dX11_repair_8 (by decide) ?_
  refine r_callSI E h (As := [.int (zI y), .int (zI 1), .int (zI 10)]) (rest := [.ref aM]) (k_X11_in l y 1 10 (by omega)) gX11_repair_X11_in rfl hd_X11_in (by decide) ⟨by decide, by decide⟩ hl.1 rfl (Nat.le_of_ble_eq_true rfl) dX11_repair_10 rfl (fun z_10 ws H locs hp h => ?_)
  obtain ⟨e_z_10, rfl⟩ := hp
  refine r_cut (α := Int) (fun x_13 H locs ls => (x_13 = 0 ∧ ¬ z_10 = 0 ∨ x_13 = 1 ∧ z_10 = 0) ∧ Hp G ws A s.heap H locs ∧ lv_has ls 3 [(0, .ref aM), (1, .int (zI y))]) 21 (fun x_13 => [.int (zI x_13), .ref aM]) ?_ ?_
  · rintro x_13 H locs ls ⟨b_13, h, hl⟩
    refine r_iconst E dX11_repair_21 ?_
    refine r_callVI E h (As := [.int (zI x_13), .int (zI 1)]) (rest := []) (k_X11_fails l x_13 1 h_mo (by omega) (by omega) (by first | rfl | (simp [va_up]; done) | (simp [va_up]; omega))) h_mo rfl gX11_repair_X11_fails rfl hd_X11_fails (by decide) ⟨by decide, by decide⟩ hl.1 rfl (Nat.le_of_ble_eq_true rfl) dX11_repair_22 rfl (fun z_22 ws H locs hp h => ?_)
    obtain ⟨t_22, e_22, h_mo, hf⟩ := hp
    have h_da := hf.at h_da (by first | omega | (dsimp only <;> omega))
    have h_dr := hf.at h_dr (by first | omega | (dsimp only <;> omega))
    have h_ke := hf.at h_ke (by first | omega | (dsimp only <;> omega))
    have h_st := hf.at h_st (by first | omega | (dsimp only <;> omega))
    have h_op := hf.at h_op (by first | omega | (dsimp only <;> omega))
    have h_me := hf.at h_me (by first | omega | (dsimp only <;> omega))
    have h_le := hf.at h_le (by first | omega | (dsimp only <;> omega))
    have h_ru := hf.at h_ru (by first | omega | (dsimp only <;> omega))
    have h_fo := hf.at h_fo (by first | omega | (dsimp only <;> omega))
    have h_wn := hf.at h_wn (by first | omega | (dsimp only <;> omega))
    have h_hi := hf.at h_hi (by first | omega | (dsimp only <;> omega))
    have h_rw := fun (i : Nat) (hi : i < 8) => hf.at (h_rw i hi) (by first | omega | (dsimp only <;> omega))
    have hE := hE.tr (hf.wk (fun j hj => by first | omega | (dsimp only at hj ⊢ <;> omega)))
    refine r_if_eq E 30 dX11_repair_25 (by decide) (by omega) (fun c_25 => ?_) (fun c_25 => ?_)
    · skip
      refine r_aload_n E 0 hl rfl dX11_repair_30 ?_
      refine r_callVV E h (As := []) (rest := []) (k_X11_remember l h_mo h_da h_hi h_rw hhi (by simp only [va_up]; exact hdep)) h_mo rfl gX11_repair_X11_remember rfl hd_X11_remember (by decide) ⟨by decide, by decide⟩ hl.1 rfl (Nat.le_of_ble_eq_true rfl) dX11_repair_31 rfl (fun ws H locs hp h => ?_)
      obtain ⟨I_31, h_mo, h_rw, ⟨f_31, g_31⟩, hf⟩ := hp
      have h_da := hf.at h_da (by first | omega | (dsimp only <;> omega))
      have h_dr := hf.at h_dr (by first | omega | (dsimp only <;> omega))
      have h_ke := hf.at h_ke (by first | omega | (dsimp only <;> omega))
      have h_st := hf.at h_st (by first | omega | (dsimp only <;> omega))
      have h_op := hf.at h_op (by first | omega | (dsimp only <;> omega))
      have h_me := hf.at h_me (by first | omega | (dsimp only <;> omega))
      have h_le := hf.at h_le (by first | omega | (dsimp only <;> omega))
      have h_ru := hf.at h_ru (by first | omega | (dsimp only <;> omega))
      have h_fo := hf.at h_fo (by first | omega | (dsimp only <;> omega))
      have h_wn := hf.at h_wn (by first | omega | (dsimp only <;> omega))
      have h_hi := hf.at h_hi (by first | omega | (dsimp only <;> omega))
      have h_rw : ∀ i : Nat, i < 8 → ws[b + 6 + i]? = some (ar i, aI cy 1111 ((rem (I 12) hs d) i)) := h_rw
      have f_31 : I_31 12 = rn (I 12) := f_31
      have hE := hE.tr (hf.wk (fun j hj => by first | omega | (dsimp only at hj ⊢ <;> omega)))
      have e0 : I_31 0 = 0 := by rw [g_31 0 (by decide)]; simp [va_up]; omega
      refine r_iconst E dX11_repair_34 ?_
      refine r_istore_n (lv' := [(2, .int (zI 0)), (0, .ref aM), (1, .int (zI y))]) E hl dX11_repair_35 rfl (by decide) rfl (fun ls hl => ?_)
      refine r_loop (fun n H locs ls => ∃ (ws : va_W) (n8 : Int) (da2 : Int → Int) (I3 : Nat → Int) (st3 : Int → Int64), n = (10 - n8).toNat ∧ (0 ≤ n8 ∧ n8 ≤ y) ∧ ((rpr d T y.toNat d).1 = n8 + (rpr d T (y - n8).toNat da2).1 ∧ (rpr d T y.toNat d).2 = (rpr d T (y - n8).toNat da2).2) ∧ (DW da2 T) ∧ (∀ i : Int, i < 30 → da2 i = d i) ∧ (I3 0 = 0 ∧ I3 12 = rn (I 12)) ∧ (∀ k : Nat, k ≠ 0 → k ≠ 12 → k ≠ 26 → k ≠ 27 → I3 k = I k) ∧ Hp G ws A s.heap H locs ∧ (ws[b]? = some (aM, mO I3 ad)) ∧ (ws[b + 2]? = some (ad 8, aI cy 1111 da2)) ∧ (ws[b + 3]? = some (ad 9, aI cy 1111 dr)) ∧ (ws[b + 4]? = some (ad 10, aI cy 1111 ke)) ∧ (ws[b + 20]? = some (ad 22, aL cy 1000 st3)) ∧ (ws[b + 21]? = some (ad 25, aI cy 40 op)) ∧ (ws[b + 14]? = some (ad 15, aI cy 38400 me)) ∧ (ws[b + 15]? = some (ad 16, aI cy 6400 le)) ∧ (ws[b + 16]? = some (ad 17, aI cy 6400 ru)) ∧ (ws[b + 18]? = some (ad 20, aI cy 42 fo)) ∧ (ws[b + 19]? = some (ad 21, aI cy 38400 wn)) ∧ (ws[b + 5]? = some (ad 11, aR cy 6 8 hi)) ∧ (∀ i : Nat, i < 8 → ws[b + 6 + i]? = some (ar i, aI cy 1111 ((rem (I 12) hs d) i))) ∧ Eqx ws0 ws (fun j => j = b ∨ j = b + 2 ∨ j = b + 3 ∨ j = b + 4 ∨ (b + 6 ≤ j ∧ j < b + 14) ∨ j = b + 20 ∨ j = b + 21) ∧ lv_has ls 3 [(0, .ref aM), (1, .int (zI y)), (2, .int (zI n8))]) _ ⟨ws, 0, d, I_31, st, rfl, (by omega), ⟨by rw [show y - 0 = y by omega]; omega, by rw [show y - 0 = y by omega]⟩, hD, (fun _ _ => rfl), ⟨e0, f_31⟩, (fun k h0 h1 h2 h3 => by rw [g_31 k h1]; simp [va_up, h0]), h, h_mo, h_da, h_dr, h_ke, h_st, h_op, h_me, h_le, h_ru, h_fo, h_wn, h_hi, h_rw, hE, lv_sub hl [1, 2, 0] rfl⟩ ?_
      rintro n H locs ls ⟨ws, n8, da2, I3, st3, hn, i1, i2, i4, i5, i6, i7, h, h_mo, h_da, h_dr, h_ke, h_st, h_op, h_me, h_le, h_ru, h_fo, h_wn, h_hi, h_rw, hE, hl⟩ ih_36
      refine r_iload_n E 2 hl rfl dX11_repair_36 ?_
      refine r_iload_n E 1 hl rfl dX11_repair_37 ?_
      refine r_icmp_ge E 74 dX11_repair_38 (by decide) (by omega) (fun c_38 => ?_) (fun c_38 => ?_)
      · skip
        have hrs : (y - n8).toNat = 0 := by omega
        have erp : rpr d T (y - n8).toNat da2 = (0, da2) := by rw [hrs]; rfl
        refine r_iload_n E 1 hl rfl dX11_repair_74 ?_
        exact r_iret E h ⟨0, rn (I 12), da2, rem (I 12) hs d, Or.inl ⟨by omega, rfl, by rw [i2.1, erp]; show y = n8 + 0; omega, rfl, by rw [i2.2, erp], rfl⟩, I3, dr, ke, st3, op, h_mo, h_da, h_dr, h_ke, h_rw, h_st, h_op, (by first | exact i6.1 | (rw [g_42 0 (by decide) (by decide)]; exact i6.1) | rfl | (simp [va_up]; done)), (by first | exact i6.2 | (rw [g_42 12 (by decide) (by decide)]; exact i6.2) | rfl | (simp [va_up]; done)), (fun k h0 h9 h1 h2 h3 h4 => by first | exact i7 k h0 h9 h3 h4 | (rw [g_42 k h3 h4]; exact i7 k h0 h9 h3 h4) | (simp [va_up, h0]; done)), hE⟩ dX11_repair_75
      · skip
        refine r_aload_n E 0 hl rfl dX11_repair_41 ?_
        refine r_callVI E h (As := []) (rest := []) (k_X11_findStep l h_mo h_da h_me h_le h_ru h_fo h_wn h_st hD i4 (by rw [i7 19 (by decide) (by decide) (by decide) (by decide)]; exact hL) (i5 0 (by decide)) (i5 1 (by decide))) h_mo rfl gX11_repair_X11_findStep rfl hd_X11_findStep (by decide) ⟨by decide, by decide⟩ hl.1 rfl (Nat.le_of_ble_eq_true rfl) dX11_repair_42 rfl (fun z_42 ws H locs hp h => ?_)
        obtain ⟨e_42, I_42, st_42, h_mo, h_da, h_st, ⟨f_42, g_42⟩, hf⟩ := hp
        have h_dr := hf.at h_dr (by first | omega | (dsimp only <;> omega))
        have h_ke := hf.at h_ke (by first | omega | (dsimp only <;> omega))
        have h_op := hf.at h_op (by first | omega | (dsimp only <;> omega))
        have h_me := hf.at h_me (by first | omega | (dsimp only <;> omega))
        have h_le := hf.at h_le (by first | omega | (dsimp only <;> omega))
        have h_ru := hf.at h_ru (by first | omega | (dsimp only <;> omega))
        have h_fo := hf.at h_fo (by first | omega | (dsimp only <;> omega))
        have h_wn := hf.at h_wn (by first | omega | (dsimp only <;> omega))
        have h_hi := hf.at h_hi (by first | omega | (dsimp only <;> omega))
        have h_rw := fun (i : Nat) (hi : i < 8) => hf.at (h_rw i hi) (by first | omega | (dsimp only <;> omega))
        have hE := hE.tr (hf.wk (fun j hj => by first | omega | (dsimp only at hj ⊢ <;> omega)))
        have hbr := bstX_rng (da := da2) hD (da2 0).toNat
        have hbr2 : -1000000 ≤ (bst d T da2).1 ∧ (bst d T da2).1 ≤ 6393600 := hbr
        have hrs : (y - n8).toNat = (y - (n8 + 1)).toNat + 1 := by omega
        have erp : rpr d T (y - n8).toNat da2 = if (bst d T da2).1 ≤ 0 then (0, da2) else ((rpr d T (y - (n8 + 1)).toNat (uZ da2 (29 + (bst d T da2).2.1) ((bst d T da2).2.2 + 1))).1 + 1, (rpr d T (y - (n8 + 1)).toNat (uZ da2 (29 + (bst d T da2).2.1) ((bst d T da2).2.2 + 1))).2) := by rw [hrs]; rfl
        refine r_if_gt E 50 dX11_repair_45 (by decide) (by omega) (fun c_45 => ?_) (fun c_45 => ?_)
        · skip
          rw [if_neg (by omega)] at erp
          have hbo := bst_ok (d := d) (T := T) (da := da2) (by have := i4.n; omega) (by have := i4.k; omega) (by omega)
          have hd1 := i5 1 (by decide)
          have hd0 := i5 0 (by decide)
          obtain ⟨u1, u2⟩ := f_42 (by omega)
          refine r_aload_n E 0 hl rfl dX11_repair_50 ?_
          refine r_get (v := .ref (ad 8)) E h h_mo rfl inn_X11_repair_11 8 (by decide) fl_X11_repair_17 rfl dX11_repair_51 ?_
          refine r_bipush E dX11_repair_54 (by decide) ?_
          refine r_aload_n E 0 hl rfl dX11_repair_56 ?_
          refine r_get (v := .int (zI (I_42 26))) E h h_mo rfl inn_X11_repair_11 26 (by decide) fl_X11_repair_255 rfl dX11_repair_57 ?_
          rw [show I_42 26 = (bst d T da2).2.1 from u1]
          refine r_iadd E dX11_repair_60 ?_
          refine r_aload_n E 0 hl rfl dX11_repair_61 ?_
          refine r_get (v := .int (zI (I_42 27))) E h h_mo rfl inn_X11_repair_11 27 (by decide) fl_X11_repair_258 rfl dX11_repair_62 ?_
          rw [show I_42 27 = (bst d T da2).2.2 from u2]
          refine r_iconst E dX11_repair_65 ?_
          refine r_iadd E dX11_repair_66 ?_
          refine r_iast E h h_da (by omega) (by decide) dX11_repair_67 (fun ws H locs h hu => ?_)
          have h_mo := hu.keep h_mo (by omega)
          have h_da : ws[b + 2]? = some (ad 8, aI cy 1111 (uZ da2 (29 + ((bst d T da2).2.1)) (((bst d T da2).2.2) + 1))) := hu.1
          have h_dr := hu.keep h_dr (by omega)
          have h_ke := hu.keep h_ke (by omega)
          have h_st := hu.keep h_st (by omega)
          have h_op := hu.keep h_op (by omega)
          have h_me := hu.keep h_me (by omega)
          have h_le := hu.keep h_le (by omega)
          have h_ru := hu.keep h_ru (by omega)
          have h_fo := hu.keep h_fo (by omega)
          have h_wn := hu.keep h_wn (by omega)
          have h_hi := hu.keep h_hi (by omega)
          have h_rw := fun (i : Nat) (hi : i < 8) => hu.keep (h_rw i hi) (by omega)
          have hE := hE.tr (hu.eqx (by first | omega | (dsimp only <;> omega)))
          refine r_iinc (lv' := [(2, .int (zI (n8 + 1))), (0, .ref aM), (1, .int (zI y))]) E 2 hl rfl dX11_repair_68 (by decide) rfl (fun ls hl => ?_)
          refine r_goto E 36 dX11_repair_71 (by decide) ?_
          exact ih_36 _ H locs ls (by omega) ⟨ws, (n8 + 1), (uZ da2 (29 + ((bst d T da2).2.1)) (((bst d T da2).2.2) + 1)), I_42, st_42, rfl, (by omega), ⟨by rw [i2.1, erp]; show n8 + (_ + 1) = n8 + 1 + _; omega, by rw [i2.2, erp]⟩, (i4.setcol (by omega) (by omega)), (fun i hi => by rw [uZ_n (by omega)]; exact i5 i hi), ⟨by rw [g_42 0 (by decide) (by decide)]; exact i6.1, by rw [g_42 12 (by decide) (by decide)]; exact i6.2⟩, (fun k h0 h1 h2 h3 => by rw [g_42 k h2 h3]; exact i7 k h0 h1 h2 h3), h, h_mo, h_da, h_dr, h_ke, h_st, h_op, h_me, h_le, h_ru, h_fo, h_wn, h_hi, h_rw, hE, lv_sub hl [1, 2, 0] rfl⟩
        · skip
          rw [if_pos (by omega)] at erp
          refine r_iload_n E 2 hl rfl dX11_repair_48 ?_
          exact r_iret E h ⟨0, rn (I 12), da2, rem (I 12) hs d, Or.inl ⟨by omega, rfl, by rw [i2.1, erp]; show n8 = n8 + 0; omega, rfl, by rw [i2.2, erp], rfl⟩, I_42, dr, ke, st_42, op, h_mo, h_da, h_dr, h_ke, h_rw, h_st, h_op, (by first | exact i6.1 | (rw [g_42 0 (by decide) (by decide)]; exact i6.1) | rfl | (simp [va_up]; done)), (by first | exact i6.2 | (rw [g_42 12 (by decide) (by decide)]; exact i6.2) | rfl | (simp [va_up]; done)), (fun k h0 h9 h1 h2 h3 h4 => by first | exact i7 k h0 h9 h3 h4 | (rw [g_42 k h3 h4]; exact i7 k h0 h9 h3 h4) | (simp [va_up, h0]; done)), hE⟩ dX11_repair_49
    · skip
      refine r_iconst E dX11_repair_28 ?_
      exact r_iret E h ⟨t_22, I 12, d, hs, Or.inr ⟨by omega, by omega, rfl, rfl, rfl⟩, va_up (va_up I 0 0) 0 t_22, dr, ke, st, op, h_mo, h_da, h_dr, h_ke, h_rw, h_st, h_op, (by first | exact i6.1 | (rw [g_42 0 (by decide) (by decide)]; exact i6.1) | rfl | (simp [va_up]; done)), (by first | exact i6.2 | (rw [g_42 12 (by decide) (by decide)]; exact i6.2) | rfl | (simp [va_up]; done)), (fun k h0 h9 h1 h2 h3 h4 => by first | exact i7 k h0 h9 h3 h4 | (rw [g_42 k h3 h4]; exact i7 k h0 h9 h3 h4) | (simp [va_up, h0]; done)), hE⟩ dX11_repair_29
  · intro kb_13
    refine r_if_ne E 20 dX11_repair_13 (by decide) (by omega) (fun c_13 => ?_) (fun c_13 => ?_)
    · refine r_iconst E dX11_repair_20 ?_
      exact kb_13 _ H locs ls ⟨Or.inl ⟨rfl, c_13⟩, h, hl⟩
    · refine r_iconst E dX11_repair_16 ?_
      refine r_goto E 21 dX11_repair_17 (by decide) ?_
      exact kb_13 _ H locs ls ⟨Or.inr ⟨rfl, c_13⟩, h, hl⟩
theorem hd_X11_checksum : yX11_checksum.cls = RX11 ∧ yX11_checksum.cls ≠ "java/lang/invoke/MethodHandle" ∧ yX11_checksum.cls ≠ "java/lang/invoke/VarHandle" ∧ (parseMethodDescriptor yX11_checksum.desc).map (fun d => d.parameters.length) = some 0 := by decide +kernel
theorem fl_X11_checksum_57 : Cond.fieldLink RX11 57 (TX11 0).1 (TX11 0).2.1 (TX11 0).2.2.1 ∈ wsX11_checksum := List.mem_of_getElem? (i := 1) rfl
theorem inn_X11_checksum_11 : ∀ w ∈ wsX110, w ∈ wsX11_checksum := fun _ h => List.mem_cons_of_mem _ (List.mem_append_right _ h)
theorem fl_X11_checksum_17 : Cond.fieldLink RX11 17 (TX11 8).1 (TX11 8).2.1 (TX11 8).2.2.1 ∈ wsX11_checksum := List.mem_of_getElem? (i := 2) rfl
abbrev rm_X11_checksum : Room := { frames := 4, cells := 0, slots := 0, locals := 94 }
set_option maxHeartbeats 4000000 in
set_option maxRecDepth 100000 in
theorem k_X11_checksum (l : Launch) {G : va_G} {cy : Nat → ClassId} {ws0 : va_W} {b aM : Nat} {I : Nat → Int} {ad : Nat → Nat} {ke : Int → Int} {st : Int → Int64} {op : Int → Int} {me : Int → Int} {le : Int → Int} {ru : Int → Int} {d : Int → Int} {T : List Int} {so fo wn : Int → Int}  (h_mo : ws0[b]? = some (aM, mO I ad)) (h_da : ws0[b + 2]? = some (ad 8, aI cy 1111 d)) (h_ke : ws0[b + 4]? = some (ad 10, aI cy 1111 ke)) (h_st : ws0[b + 20]? = some (ad 22, aL cy 1000 st)) (h_op : ws0[b + 21]? = some (ad 25, aI cy 40 op)) (h_me : ws0[b + 14]? = some (ad 15, aI cy 38400 me)) (h_le : ws0[b + 15]? = some (ad 16, aI cy 6400 le)) (h_ru : ws0[b + 16]? = some (ad 17, aI cy 6400 ru)) (hD : DW d T) (hL : LW d me le ru so fo wn (I 19)) : ML l yX11_checksum wsX11_checksum rm_X11_checksum G cy [.ref aM] ws0 (fun z u => ∃ t : Int, (t = 0 ∧ zL (csum d T) = z) ∧ MRO cy b aM ad I d ws0 u t) := by
  refine ML.of (own := RX11) (cc := cX11_checksum) (nL := 4) (ret := (some .long)) (by decide) rfl rfl (Nat.le_of_ble_eq_true rfl) ?_
  intro p e s m below meth c A ls E h hl
  have hl : lv_has ls 4 [(0, .ref aM)] := hl
  have hE : Eqx ws0 ws0 (fun j => j = b ∨ j = b + 2 ∨ j = b + 4 ∨ j = b + 20 ∨ j = b + 21) := Eqx.rf
  have hn9 := hD.n
  have hk9 := hD.k
  have hr9 := hD.nr
  refine r_aload_n E 0 hl rfl dX11_checksum_0 ?_
  refine r_iconst E dX11_checksum_1 ?_
  refine r_put E h h_mo rfl inn_X11_checksum_11 0 (by decide) fl_X11_checksum_57 tyX11 tyX11_ok nmX11 rfl rfl rfl (Nat.le_of_ble_eq_true rfl) dX11_checksum_2 (fun ws H locs h hu => ?_)
  have h_mo : ws[b]? = some (aM, mO (va_up I 0 0) ad) := hu.1
  have h_da := hu.keep h_da (by omega)
  have h_ke := hu.keep h_ke (by omega)
  have h_st := hu.keep h_st (by omega)
  have h_op := hu.keep h_op (by omega)
  have h_me := hu.keep h_me (by omega)
  have h_le := hu.keep h_le (by omega)
  have h_ru := hu.keep h_ru (by omega)
  have hE := hE.tr (hu.eqx (by first | omega | (dsimp only <;> omega)))
  refine r_lconst (v := zL 0) E dX11_checksum_5 (by decide) ?_
  refine r_lstore_n (lv' := [(1, .long (zL 0)), (0, .ref aM)]) E hl dX11_checksum_6 rfl (by decide) rfl (fun ls hl => ?_)
  refine r_iconst E dX11_checksum_7 ?_
  refine r_istore_n (lv' := [(3, .int (zI 1)), (1, .long (zL 0)), (0, .ref aM)]) E hl dX11_checksum_8 rfl (by decide) rfl (fun ls hl => ?_)
  refine r_loop (fun n H locs ls => ∃ (v9 : Int) (x : Int), n = (41 - x).toNat ∧ (1 ≤ x ∧ x ≤ d 0 + 1) ∧ (v9 = csN d (x - 1).toNat) ∧ Hp G ws A s.heap H locs ∧ lv_has ls 4 [(0, .ref aM), (1, .long (zL v9)), (3, .int (zI x))]) _ ⟨0, 1, rfl, (by omega), rfl, h, lv_sub hl [2, 1, 0] rfl⟩ ?_
  rintro n H locs ls ⟨v9, x, hn, i1, i2, h, hl⟩ ih_9
  refine r_iload_n E 2 hl rfl dX11_checksum_9 ?_
  refine r_aload_n E 0 hl rfl dX11_checksum_10 ?_
  refine r_get (v := .ref (ad 8)) E h h_mo rfl inn_X11_checksum_11 8 (by decide) fl_X11_checksum_17 rfl dX11_checksum_11 ?_
  refine r_iconst E dX11_checksum_14 ?_
  refine r_iald E h h_da (by omega) (by decide) dX11_checksum_15 ?_
  refine r_icmp_gt E 53 dX11_checksum_16 (by decide) (by omega) (fun c_16 => ?_) (fun c_16 => ?_)
  · skip
    have hca := cnfA_rng (e := cl d) hD
    have hwa := wgtA_rng (e := cl d) hD
    refine r_ldc2z E (v := 31) (List.mem_of_getElem? (i := 3) rfl) (n := 31) (by decide) dX11_checksum_53 ?_
    refine r_ldc2z E (v := 31) (List.mem_of_getElem? (i := 3) rfl) (n := 31) (by decide) dX11_checksum_56 ?_
    refine r_lload_n E 1 hl rfl dX11_checksum_59 ?_
    refine r_lmul E dX11_checksum_60 ?_
    refine r_aload_n E 0 hl rfl dX11_checksum_61 ?_
    refine r_callVI E h (As := []) (rest := [.long (zL (31 * v9)), .long (zL 31)]) (k_X11_countAll l h_mo h_da h_me h_le hD hD (by first | exact hL | (simp only [va_up]; exact hL))) h_mo rfl gX11_checksum_X11_countAll rfl hd_X11_countAll (by decide) ⟨by decide, by decide⟩ hl.1 rfl (Nat.le_of_ble_eq_true rfl) dX11_checksum_62 rfl (fun z_62 ws H locs hp h => ?_)
    obtain ⟨rfl, rfl⟩ := hp
    refine r_i2l E dX11_checksum_65 (by omega) ?_
    refine r_ladd E dX11_checksum_66 ?_
    refine r_lmul E dX11_checksum_67 ?_
    refine r_aload_n E 0 hl rfl dX11_checksum_68 ?_
    refine r_callVI E h (As := []) (rest := [.long (zL (31 * ((31 * v9) + (cnfA d (cl d)))))]) (k_X11_weightAll l h_mo h_da h_me h_le h_ru h_st hD hD (by first | exact hL | (simp only [va_up]; exact hL))) h_mo rfl gX11_checksum_X11_weightAll rfl hd_X11_weightAll (by decide) ⟨by decide, by decide⟩ hl.1 rfl (Nat.le_of_ble_eq_true rfl) dX11_checksum_69 rfl (fun z_69 ws H locs hp h => ?_)
    obtain ⟨e_69, st_69, h_st, hf⟩ := hp
    have h_mo := hf.at h_mo (by first | omega | (dsimp only <;> omega))
    have h_da := hf.at h_da (by first | omega | (dsimp only <;> omega))
    have h_ke := hf.at h_ke (by first | omega | (dsimp only <;> omega))
    have h_op := hf.at h_op (by first | omega | (dsimp only <;> omega))
    have h_me := hf.at h_me (by first | omega | (dsimp only <;> omega))
    have h_le := hf.at h_le (by first | omega | (dsimp only <;> omega))
    have h_ru := hf.at h_ru (by first | omega | (dsimp only <;> omega))
    have hE := hE.tr (hf.wk (fun j hj => by first | omega | (dsimp only at hj ⊢ <;> omega)))
    refine r_i2l E dX11_checksum_72 (by omega) ?_
    refine r_ladd E dX11_checksum_73 ?_
    exact r_lret E h ⟨0, ⟨rfl, by rw [i2, show (x - 1).toNat = (d 0).toNat by omega, e_69]; rfl⟩, va_up I 0 0, ke, st_69, op, h_mo, h_da, h_ke, h_st, h_op, (by first | rfl | (simp [va_up]) | assumption), (fun k h0 h1 h2 h3 h4 => by first | rfl | simp [va_up, h0, h1, h2, h3, h4]), hE⟩ dX11_checksum_74
  · skip
    have hcx := hD.c4 x (by omega) (by omega)
    have hfx := hD.fix (x := x) (by omega) (by omega)
    have ecs : csN d (x + 1 - 1).toNat = 31 * (31 * csN d (x - 1).toNat + (d (29 + x) - 1)) + d (70 + x) := by
      rw [show (x + 1 - 1).toNat = (x - 1).toNat + 1 by omega]
      show 31 * (31 * csN d (x - 1).toNat + (d (29 + (((x - 1).toNat : Int) + 1)) - 1)) + d (70 + (((x - 1).toNat : Int) + 1)) = _
      rw [show (((x - 1).toNat : Int) + 1) = x by omega]
    refine r_ldc2z E (v := 31) (List.mem_of_getElem? (i := 3) rfl) (n := 31) (by decide) dX11_checksum_19 ?_
    refine r_ldc2z E (v := 31) (List.mem_of_getElem? (i := 3) rfl) (n := 31) (by decide) dX11_checksum_22 ?_
    refine r_lload_n E 1 hl rfl dX11_checksum_25 ?_
    refine r_lmul E dX11_checksum_26 ?_
    refine r_aload_n E 0 hl rfl dX11_checksum_27 ?_
    refine r_iload_n E 2 hl rfl dX11_checksum_28 ?_
    refine r_callVI E h (As := [.int (zI x)]) (rest := [.long (zL (31 * v9)), .long (zL 31)]) (k_X11_colourOf l x h_mo h_da (by omega)) h_mo rfl gX11_checksum_X11_colourOf rfl hd_X11_colourOf (by decide) ⟨by decide, by decide⟩ hl.1 rfl (Nat.le_of_ble_eq_true rfl) dX11_checksum_29 rfl (fun z_29 ws H locs hp h => ?_)
    obtain ⟨rfl, rfl⟩ := hp
    refine r_i2l E dX11_checksum_32 (by omega) ?_
    refine r_ladd E dX11_checksum_33 ?_
    refine r_lmul E dX11_checksum_34 ?_
    refine r_aload_n E 0 hl rfl dX11_checksum_35 ?_
    refine r_get (v := .ref (ad 8)) E h h_mo rfl inn_X11_checksum_11 8 (by decide) fl_X11_checksum_17 rfl dX11_checksum_36 ?_
    refine r_bipush E dX11_checksum_39 (by decide) ?_
    refine r_iload_n E 2 hl rfl dX11_checksum_41 ?_
    refine r_iadd E dX11_checksum_42 ?_
    refine r_iald E h h_da (by omega) (by decide) dX11_checksum_43 ?_
    refine r_i2l E dX11_checksum_44 (by omega) ?_
    refine r_ladd E dX11_checksum_45 ?_
    refine r_lstore_n (lv' := [(1, .long (zL ((31 * ((31 * v9) + (d (29 + x) - 1))) + (d (70 + x))))), (0, .ref aM), (3, .int (zI x))]) E hl dX11_checksum_46 rfl (by decide) rfl (fun ls hl => ?_)
    refine r_iinc (lv' := [(3, .int (zI (x + 1))), (1, .long (zL ((31 * ((31 * v9) + (d (29 + x) - 1))) + (d (70 + x))))), (0, .ref aM)]) E 2 hl rfl dX11_checksum_47 (by decide) rfl (fun ls hl => ?_)
    refine r_goto E 9 dX11_checksum_50 (by decide) ?_
    exact ih_9 _ H locs ls (by omega) ⟨((31 * ((31 * v9) + (d (29 + x) - 1))) + (d (70 + x))), (x + 1), rfl, (by omega), (by rw [ecs, i2]), h, lv_sub hl [2, 1, 0] rfl⟩
