theorem hd_X11_setColour : yX11_setColour.cls = RX11 ∧ yX11_setColour.cls ≠ "java/lang/invoke/MethodHandle" ∧ yX11_setColour.cls ≠ "java/lang/invoke/VarHandle" ∧ (parseMethodDescriptor yX11_setColour.desc).map (fun d => d.parameters.length) = some 2 := by decide +kernel
theorem fl_X11_setColour_57 : Cond.fieldLink RX11 57 (TX11 0).1 (TX11 0).2.1 (TX11 0).2.2.1 ∈ wsX11_setColour := List.mem_of_getElem? (i := 1) rfl
theorem inn_X11_setColour_11 : ∀ w ∈ wsX110, w ∈ wsX11_setColour := fun _ h => List.mem_cons_of_mem _ (List.mem_append_right _ h)
theorem fl_X11_setColour_17 : Cond.fieldLink RX11 17 (TX11 8).1 (TX11 8).2.1 (TX11 8).2.2.1 ∈ wsX11_setColour := List.mem_of_getElem? (i := 2) rfl
abbrev rm_X11_setColour : Room := { frames := 2, cells := 0, slots := 0, locals := 44 }
set_option maxHeartbeats 4000000 in
set_option maxRecDepth 100000 in
theorem k_X11_setColour (l : Launch) {G : va_G} {cy : Nat → ClassId} {ws0 : va_W} {b aM : Nat} {I : Nat → Int} {ad : Nat → Nat} {dr : Int → Int} {ke : Int → Int} {st : Int → Int64} {op : Int → Int} {d : Int → Int} {T : List Int} {ru so me le fo wn : Int → Int} {ar : Nat → Nat} {hi : Int → Option Nat} {hs : Nat → Int → Int} (x c9 : Int) (h_mo : ws0[b]? = some (aM, mO I ad)) (h_da : ws0[b + 2]? = some (ad 8, aI cy 1111 d)) (h_dr : ws0[b + 3]? = some (ad 9, aI cy 1111 dr)) (h_ke : ws0[b + 4]? = some (ad 10, aI cy 1111 ke)) (h_st : ws0[b + 20]? = some (ad 22, aL cy 1000 st)) (h_op : ws0[b + 21]? = some (ad 25, aI cy 40 op)) (h_hi : ws0[b + 5]? = some (ad 11, aR cy 6 8 hi)) (h_rw : ∀ i : Nat, i < 8 → ws0[b + 6 + i]? = some (ar i, aI cy 1111 (hs i))) (hD : DW d T) (hL : LW d me le ru so fo wn (I 19)) (hhi : ∀ i : Nat, i < 8 → hi (i : Int) = some (ar i)) (hdep : 0 ≤ I 12 ∧ I 12 ≤ 8) (hx : (-2147483648 ≤ x ∧ x ≤ 2147483647) ∧ (-2147483648 ≤ c9 ∧ c9 ≤ 2147483647)) : MI l yX11_setColour wsX11_setColour rm_X11_setColour G cy [.ref aM, .int (zI x), .int (zI c9)] ws0 (fun z u => ∃ (t n2 : Int) (d2 : Int → Int) (hs2 : Nat → Int → Int), ((1 ≤ x ∧ x ≤ d 0) ∧ (-1 ≤ c9 ∧ c9 < d 1) ∧ d (70 + x) ≠ 1 ∧ t = 0 ∧ z = d (29 + x) - 1 ∧ n2 = rn (I 12) ∧ d2 = uZ d (29 + x) (c9 + 1) ∧ hs2 = rem (I 12) hs d ∨ ((x < 1 ∨ d 0 < x) ∨ (c9 < -1 ∨ d 1 ≤ c9)) ∧ t = 1 ∧ n2 = I 12 ∧ d2 = d ∧ hs2 = hs ∨ (1 ≤ x ∧ x ≤ d 0) ∧ (-1 ≤ c9 ∧ c9 < d 1) ∧ d (70 + x) = 1 ∧ t = 2 ∧ n2 = I 12 ∧ d2 = d ∧ hs2 = hs) ∧ MWO cy b aM ad ar I ws0 u t n2 d2 hs2) := by
  refine MI.of (own := RX11) (cc := cX11_setColour) (nL := 4) (ret := (some .int)) (by decide) rfl rfl (Nat.le_of_ble_eq_true rfl) ?_
  intro p e s m below meth c A ls E h hl
  have hl : lv_has ls 4 [(0, .ref aM), (1, .int (zI x)), (2, .int (zI c9))] := hl
  have hE : Eqx ws0 ws0 (fun j => j = b ∨ j = b + 2 ∨ j = b + 3 ∨ j = b + 4 ∨ (b + 6 ≤ j ∧ j < b + 14) ∨ j = b + 20 ∨ j = b + 21) := Eqx.rf
  have hn9 := hD.n
  have hk9 := hD.k
  have hr9 := hD.nr
  refine r_aload_n E 0 hl rfl dX11_setColour_0 ?_
  refine r_iconst E dX11_setColour_1 ?_
  refine r_put E h h_mo rfl inn_X11_setColour_11 0 (by decide) fl_X11_setColour_57 tyX11 tyX11_ok nmX11 rfl rfl rfl (Nat.le_of_ble_eq_true rfl) dX11_setColour_2 (fun ws H locs h hu => ?_)
  have h_mo : ws[b]? = some (aM, mO (va_up I 0 0) ad) := hu.1
  have h_da := hu.keep h_da (by omega)
  have h_dr := hu.keep h_dr (by omega)
  have h_ke := hu.keep h_ke (by omega)
  have h_st := hu.keep h_st (by omega)
  have h_op := hu.keep h_op (by omega)
  have h_hi := hu.keep h_hi (by omega)
  have h_rw := fun (i : Nat) (hi : i < 8) => hu.keep (h_rw i hi) (by omega)
  have hE := hE.tr (hu.eqx (by first | omega | (dsimp only <;> omega)))
  refine r_aload_n E 0 hl rfl dX11_setColour_5 ?_
  refine r_iload_n E 1 hl rfl dX11_setColour_6 ?_
  refine r_callVI E h (As := [.int (zI x)]) (rest := []) (k_X11_noNumber l x h_mo h_da (by omega) (by have := hD.n; omega) (by first | rfl | (simp [va_up]; done) | (simp [va_up]; omega))) h_mo rfl gX11_setColour_X11_noNumber rfl hd_X11_noNumber (by decide) ⟨by decide, by decide⟩ hl.1 rfl (Nat.le_of_ble_eq_true rfl) dX11_setColour_7 rfl (fun z_7 ws H locs hp h => ?_)
  obtain ⟨t_7, e_7, h_mo, hf⟩ := hp
  have h_da := hf.at h_da (by first | omega | (dsimp only <;> omega))
  have h_dr := hf.at h_dr (by first | omega | (dsimp only <;> omega))
  have h_ke := hf.at h_ke (by first | omega | (dsimp only <;> omega))
  have h_st := hf.at h_st (by first | omega | (dsimp only <;> omega))
  have h_op := hf.at h_op (by first | omega | (dsimp only <;> omega))
  have h_hi := hf.at h_hi (by first | omega | (dsimp only <;> omega))
  have h_rw := fun (i : Nat) (hi : i < 8) => hf.at (h_rw i hi) (by first | omega | (dsimp only <;> omega))
  have hE := hE.tr (hf.wk (fun j hj => by first | omega | (dsimp only at hj ⊢ <;> omega)))
  refine r_if_ne E 48 dX11_setColour_10 (by decide) (by omega) (fun c_10 => ?_) (fun c_10 => ?_)
  · skip
    refine r_iconst E dX11_setColour_48 ?_
    exact r_iret E h ⟨t_7, I 12, d, hs, Or.inr (by first | exact Or.inl ⟨by omega, by omega, rfl, rfl, rfl⟩ | exact Or.inr ⟨by omega, by omega, by omega, by omega, rfl, rfl, rfl⟩), va_up (va_up I 0 0) 0 t_7, dr, ke, st, op, h_mo, h_da, h_dr, h_ke, h_rw, h_st, h_op, (by first | (rw [g_51 0 (by decide)]; first | rfl | (simp [va_up]; done) | (simp [va_up]; omega)) | rfl | (simp [va_up]; done)), (by first | exact f_51 | rfl | (simp [va_up]; done)), (fun k h0 h9 h1 h2 h3 h4 => by first | (rw [g_51 k h9]; simp [va_up, h0]; done) | simp [va_up, h0]), hE⟩ dX11_setColour_49
  · skip
    refine r_aload_n E 0 hl rfl dX11_setColour_13 ?_
    refine r_iload_n E 2 hl rfl dX11_setColour_14 ?_
    refine r_iconst E dX11_setColour_15 ?_
    refine r_callVI E h (As := [.int (zI c9), .int (zI (-1))]) (rest := []) (k_X11_noColour l c9 (-1) h_mo h_da (by omega) (by have := hD.k; omega) (by first | rfl | (simp [va_up]; done) | (simp [va_up]; omega))) h_mo rfl gX11_setColour_X11_noColour rfl hd_X11_noColour (by decide) ⟨by decide, by decide⟩ hl.1 rfl (Nat.le_of_ble_eq_true rfl) dX11_setColour_16 rfl (fun z_16 ws H locs hp h => ?_)
    obtain ⟨t_16, e_16, h_mo, hf⟩ := hp
    have h_da := hf.at h_da (by first | omega | (dsimp only <;> omega))
    have h_dr := hf.at h_dr (by first | omega | (dsimp only <;> omega))
    have h_ke := hf.at h_ke (by first | omega | (dsimp only <;> omega))
    have h_st := hf.at h_st (by first | omega | (dsimp only <;> omega))
    have h_op := hf.at h_op (by first | omega | (dsimp only <;> omega))
    have h_hi := hf.at h_hi (by first | omega | (dsimp only <;> omega))
    have h_rw := fun (i : Nat) (hi : i < 8) => hf.at (h_rw i hi) (by first | omega | (dsimp only <;> omega))
    have hE := hE.tr (hf.wk (fun j hj => by first | omega | (dsimp only at hj ⊢ <;> omega)))
    refine r_if_ne E 48 dX11_setColour_19 (by decide) (by omega) (fun c_19 => ?_) (fun c_19 => ?_)
    · skip
      refine r_iconst E dX11_setColour_48 ?_
      exact r_iret E h ⟨t_16, I 12, d, hs, Or.inr (by first | exact Or.inl ⟨by omega, by omega, rfl, rfl, rfl⟩ | exact Or.inr ⟨by omega, by omega, by omega, by omega, rfl, rfl, rfl⟩), va_up (va_up (va_up I 0 0) 0 t_7) 0 t_16, dr, ke, st, op, h_mo, h_da, h_dr, h_ke, h_rw, h_st, h_op, (by first | (rw [g_51 0 (by decide)]; first | rfl | (simp [va_up]; done) | (simp [va_up]; omega)) | rfl | (simp [va_up]; done)), (by first | exact f_51 | rfl | (simp [va_up]; done)), (fun k h0 h9 h1 h2 h3 h4 => by first | (rw [g_51 k h9]; simp [va_up, h0]; done) | simp [va_up, h0]), hE⟩ dX11_setColour_49
    · skip
      have hfx := hD.fix (x := x) (by omega) (by omega)
      refine r_aload_n E 0 hl rfl dX11_setColour_22 ?_
      refine r_aload_n E 0 hl rfl dX11_setColour_23 ?_
      refine r_get (v := .ref (ad 8)) E h h_mo rfl inn_X11_setColour_11 8 (by decide) fl_X11_setColour_17 rfl dX11_setColour_24 ?_
      refine r_bipush E dX11_setColour_27 (by decide) ?_
      refine r_iload_n E 1 hl rfl dX11_setColour_29 ?_
      refine r_iadd E dX11_setColour_30 ?_
      refine r_iald E h h_da (by omega) (by decide) dX11_setColour_31 ?_
      refine r_iconst E dX11_setColour_32 ?_
      refine r_cut (α := Int) (fun x_33 H locs ls => (x_33 = 0 ∧ ¬ (d (70 + x)) = 1 ∨ x_33 = 1 ∧ (d (70 + x)) = 1) ∧ Hp G ws A s.heap H locs ∧ lv_has ls 4 [(0, .ref aM), (1, .int (zI x)), (2, .int (zI c9))]) 41 (fun x_33 => [.int (zI x_33), .ref aM]) ?_ ?_
      · rintro x_33 H locs ls ⟨b_33, h, hl⟩
        refine r_iconst E dX11_setColour_41 ?_
        refine r_callVI E h (As := [.int (zI x_33), .int (zI 2)]) (rest := []) (k_X11_fails l x_33 2 h_mo (by omega) (by omega) (by first | rfl | (simp [va_up]; done) | (simp [va_up]; omega))) h_mo rfl gX11_setColour_X11_fails rfl hd_X11_fails (by decide) ⟨by decide, by decide⟩ hl.1 rfl (Nat.le_of_ble_eq_true rfl) dX11_setColour_42 rfl (fun z_42 ws H locs hp h => ?_)
        obtain ⟨t_42, e_42, h_mo, hf⟩ := hp
        have h_da := hf.at h_da (by first | omega | (dsimp only <;> omega))
        have h_dr := hf.at h_dr (by first | omega | (dsimp only <;> omega))
        have h_ke := hf.at h_ke (by first | omega | (dsimp only <;> omega))
        have h_st := hf.at h_st (by first | omega | (dsimp only <;> omega))
        have h_op := hf.at h_op (by first | omega | (dsimp only <;> omega))
        have h_hi := hf.at h_hi (by first | omega | (dsimp only <;> omega))
        have h_rw := fun (i : Nat) (hi : i < 8) => hf.at (h_rw i hi) (by first | omega | (dsimp only <;> omega))
        have hE := hE.tr (hf.wk (fun j hj => by first | omega | (dsimp only at hj ⊢ <;> omega)))
        refine r_if_eq E 50 dX11_setColour_45 (by decide) (by omega) (fun c_45 => ?_) (fun c_45 => ?_)
        · skip
          refine r_aload_n E 0 hl rfl dX11_setColour_50 ?_
          refine r_callVV E h (As := []) (rest := []) (k_X11_remember l h_mo h_da h_hi h_rw hhi (by simp only [va_up]; exact hdep)) h_mo rfl gX11_setColour_X11_remember rfl hd_X11_remember (by decide) ⟨by decide, by decide⟩ hl.1 rfl (Nat.le_of_ble_eq_true rfl) dX11_setColour_51 rfl (fun ws H locs hp h => ?_)
          obtain ⟨I_51, h_mo, h_rw, ⟨f_51, g_51⟩, hf⟩ := hp
          have h_da := hf.at h_da (by first | omega | (dsimp only <;> omega))
          have h_dr := hf.at h_dr (by first | omega | (dsimp only <;> omega))
          have h_ke := hf.at h_ke (by first | omega | (dsimp only <;> omega))
          have h_st := hf.at h_st (by first | omega | (dsimp only <;> omega))
          have h_op := hf.at h_op (by first | omega | (dsimp only <;> omega))
          have h_hi := hf.at h_hi (by first | omega | (dsimp only <;> omega))
          have h_rw : ∀ i : Nat, i < 8 → ws[b + 6 + i]? = some (ar i, aI cy 1111 ((rem (I 12) hs d) i)) := h_rw
          have f_51 : I_51 12 = rn (I 12) := f_51
          have hE := hE.tr (hf.wk (fun j hj => by first | omega | (dsimp only at hj ⊢ <;> omega)))
          refine r_aload_n E 0 hl rfl dX11_setColour_54 ?_
          refine r_iload_n E 1 hl rfl dX11_setColour_55 ?_
          refine r_callVI E h (As := [.int (zI x)]) (rest := []) (k_X11_colourOf l x h_mo h_da (by omega)) h_mo rfl gX11_setColour_X11_colourOf rfl hd_X11_colourOf (by decide) ⟨by decide, by decide⟩ hl.1 rfl (Nat.le_of_ble_eq_true rfl) dX11_setColour_56 rfl (fun z_56 ws H locs hp h => ?_)
          obtain ⟨rfl, rfl⟩ := hp
          refine r_istore_n (lv' := [(3, .int (zI (d (29 + x) - 1))), (0, .ref aM), (1, .int (zI x)), (2, .int (zI c9))]) E hl dX11_setColour_59 rfl (by decide) rfl (fun ls hl => ?_)
          refine r_aload_n E 1 hl rfl dX11_setColour_60 ?_
          refine r_get (v := .ref (ad 8)) E h h_mo rfl inn_X11_setColour_11 8 (by decide) fl_X11_setColour_17 rfl dX11_setColour_61 ?_
          refine r_bipush E dX11_setColour_64 (by decide) ?_
          refine r_iload_n E 2 hl rfl dX11_setColour_66 ?_
          refine r_iadd E dX11_setColour_67 ?_
          refine r_iload_n E 3 hl rfl dX11_setColour_68 ?_
          refine r_iconst E dX11_setColour_69 ?_
          refine r_iadd E dX11_setColour_70 ?_
          refine r_iast E h h_da (by omega) (by decide) dX11_setColour_71 (fun ws H locs h hu => ?_)
          have h_mo := hu.keep h_mo (by omega)
          have h_da : ws[b + 2]? = some (ad 8, aI cy 1111 (uZ d (29 + x) (c9 + 1))) := hu.1
          have h_dr := hu.keep h_dr (by omega)
          have h_ke := hu.keep h_ke (by omega)
          have h_st := hu.keep h_st (by omega)
          have h_op := hu.keep h_op (by omega)
          have h_hi := hu.keep h_hi (by omega)
          have h_rw := fun (i : Nat) (hi : i < 8) => hu.keep (h_rw i hi) (by omega)
          have hE := hE.tr (hu.eqx (by first | omega | (dsimp only <;> omega)))
          refine r_iload_n E 0 hl rfl dX11_setColour_72 ?_
          exact r_iret E h ⟨0, rn (I 12), uZ d (29 + x) (c9 + 1), rem (I 12) hs d, Or.inl ⟨by omega, by omega, by omega, rfl, rfl, rfl, rfl, rfl⟩, I_51, dr, ke, st, op, h_mo, h_da, h_dr, h_ke, h_rw, h_st, h_op, (by first | (rw [g_51 0 (by decide)]; first | rfl | (simp [va_up]; done) | (simp [va_up]; omega)) | rfl | (simp [va_up]; done)), (by first | exact f_51 | rfl | (simp [va_up]; done)), (fun k h0 h9 h1 h2 h3 h4 => by first | (rw [g_51 k h9]; simp [va_up, h0]; done) | simp [va_up, h0]), hE⟩ dX11_setColour_73
        · skip
          refine r_iconst E dX11_setColour_48 ?_
          exact r_iret E h ⟨t_42, I 12, d, hs, Or.inr (by first | exact Or.inl ⟨by omega, by omega, rfl, rfl, rfl⟩ | exact Or.inr ⟨by omega, by omega, by omega, by omega, rfl, rfl, rfl⟩), va_up (va_up (va_up (va_up I 0 0) 0 t_7) 0 t_16) 0 t_42, dr, ke, st, op, h_mo, h_da, h_dr, h_ke, h_rw, h_st, h_op, (by first | (rw [g_51 0 (by decide)]; first | rfl | (simp [va_up]; done) | (simp [va_up]; omega)) | rfl | (simp [va_up]; done)), (by first | exact f_51 | rfl | (simp [va_up]; done)), (fun k h0 h9 h1 h2 h3 h4 => by first | (rw [g_51 k h9]; simp [va_up, h0]; done) | simp [va_up, h0]), hE⟩ dX11_setColour_49
      · intro kb_33
        refine r_icmp_ne E 40 dX11_setColour_33 (by decide) (by omega) (fun c_33 => ?_) (fun c_33 => ?_)
        · refine r_iconst E dX11_setColour_40 ?_
          exact kb_33 _ H locs ls ⟨Or.inl ⟨rfl, c_33⟩, h, hl⟩
        · refine r_iconst E dX11_setColour_36 ?_
          refine r_goto E 41 dX11_setColour_37 (by decide) ?_
          exact kb_33 _ H locs ls ⟨Or.inr ⟨rfl, c_33⟩, h, hl⟩
theorem hd_X11_setFixed : yX11_setFixed.cls = RX11 ∧ yX11_setFixed.cls ≠ "java/lang/invoke/MethodHandle" ∧ yX11_setFixed.cls ≠ "java/lang/invoke/VarHandle" ∧ (parseMethodDescriptor yX11_setFixed.desc).map (fun d => d.parameters.length) = some 2 := by decide +kernel
theorem fl_X11_setFixed_57 : Cond.fieldLink RX11 57 (TX11 0).1 (TX11 0).2.1 (TX11 0).2.2.1 ∈ wsX11_setFixed := List.mem_of_getElem? (i := 1) rfl
theorem inn_X11_setFixed_11 : ∀ w ∈ wsX110, w ∈ wsX11_setFixed := fun _ h => List.mem_cons_of_mem _ (List.mem_append_right _ h)
theorem fl_X11_setFixed_17 : Cond.fieldLink RX11 17 (TX11 8).1 (TX11 8).2.1 (TX11 8).2.2.1 ∈ wsX11_setFixed := List.mem_of_getElem? (i := 2) rfl
abbrev rm_X11_setFixed : Room := { frames := 2, cells := 0, slots := 0, locals := 43 }
set_option maxHeartbeats 4000000 in
set_option maxRecDepth 100000 in
theorem k_X11_setFixed (l : Launch) {G : va_G} {cy : Nat → ClassId} {ws0 : va_W} {b aM : Nat} {I : Nat → Int} {ad : Nat → Nat} {dr : Int → Int} {ke : Int → Int} {st : Int → Int64} {op : Int → Int} {d : Int → Int} {T : List Int} {ru so me le fo wn : Int → Int} {ar : Nat → Nat} {hi : Int → Option Nat} {hs : Nat → Int → Int} (x f9 : Int) (h_mo : ws0[b]? = some (aM, mO I ad)) (h_da : ws0[b + 2]? = some (ad 8, aI cy 1111 d)) (h_dr : ws0[b + 3]? = some (ad 9, aI cy 1111 dr)) (h_ke : ws0[b + 4]? = some (ad 10, aI cy 1111 ke)) (h_st : ws0[b + 20]? = some (ad 22, aL cy 1000 st)) (h_op : ws0[b + 21]? = some (ad 25, aI cy 40 op)) (h_hi : ws0[b + 5]? = some (ad 11, aR cy 6 8 hi)) (h_rw : ∀ i : Nat, i < 8 → ws0[b + 6 + i]? = some (ar i, aI cy 1111 (hs i))) (hD : DW d T) (hL : LW d me le ru so fo wn (I 19)) (hhi : ∀ i : Nat, i < 8 → hi (i : Int) = some (ar i)) (hdep : 0 ≤ I 12 ∧ I 12 ≤ 8) (hx : (-2147483648 ≤ x ∧ x ≤ 2147483647)) (hf9 : f9 = 0 ∨ f9 = 1) : MI l yX11_setFixed wsX11_setFixed rm_X11_setFixed G cy [.ref aM, .int (zI x), .int (zI f9)] ws0 (fun z u => ∃ (t n2 : Int) (d2 : Int → Int) (hs2 : Nat → Int → Int), ((1 ≤ x ∧ x ≤ d 0) ∧ (f9 = 0 ∨ d (29 + x) ≠ 0) ∧ t = 0 ∧ z = d (70 + x) ∧ n2 = rn (I 12) ∧ d2 = uZ d (70 + x) f9 ∧ hs2 = rem (I 12) hs d ∨ (x < 1 ∨ d 0 < x) ∧ t = 1 ∧ n2 = I 12 ∧ d2 = d ∧ hs2 = hs ∨ (1 ≤ x ∧ x ≤ d 0) ∧ (f9 = 1 ∧ d (29 + x) = 0) ∧ t = 2 ∧ n2 = I 12 ∧ d2 = d ∧ hs2 = hs) ∧ MWO cy b aM ad ar I ws0 u t n2 d2 hs2) := by
  refine MI.of (own := RX11) (cc := cX11_setFixed) (nL := 4) (ret := (some .boolean)) (by decide) rfl rfl (Nat.le_of_ble_eq_true rfl) ?_
  intro p e s m below meth c A ls E h hl
  have hl : lv_has ls 4 [(0, .ref aM), (1, .int (zI x)), (2, .int (zI f9))] := hl
  have hE : Eqx ws0 ws0 (fun j => j = b ∨ j = b + 2 ∨ j = b + 3 ∨ j = b + 4 ∨ (b + 6 ≤ j ∧ j < b + 14) ∨ j = b + 20 ∨ j = b + 21) := Eqx.rf
  have hn9 := hD.n
  have hk9 := hD.k
  have hr9 := hD.nr
  refine r_aload_n E 0 hl rfl dX11_setFixed_0 ?_
  refine r_iconst E dX11_setFixed_1 ?_
  refine r_put E h h_mo rfl inn_X11_setFixed_11 0 (by decide) fl_X11_setFixed_57 tyX11 tyX11_ok nmX11 rfl rfl rfl (Nat.le_of_ble_eq_true rfl) dX11_setFixed_2 (fun ws H locs h hu => ?_)
  have h_mo : ws[b]? = some (aM, mO (va_up I 0 0) ad) := hu.1
  have h_da := hu.keep h_da (by omega)
  have h_dr := hu.keep h_dr (by omega)
  have h_ke := hu.keep h_ke (by omega)
  have h_st := hu.keep h_st (by omega)
  have h_op := hu.keep h_op (by omega)
  have h_hi := hu.keep h_hi (by omega)
  have h_rw := fun (i : Nat) (hi : i < 8) => hu.keep (h_rw i hi) (by omega)
  have hE := hE.tr (hu.eqx (by first | omega | (dsimp only <;> omega)))
  refine r_aload_n E 0 hl rfl dX11_setFixed_5 ?_
  refine r_iload_n E 1 hl rfl dX11_setFixed_6 ?_
  refine r_callVI E h (As := [.int (zI x)]) (rest := []) (k_X11_noNumber l x h_mo h_da (by omega) (by have := hD.n; omega) (by first | rfl | (simp [va_up]; done) | (simp [va_up]; omega))) h_mo rfl gX11_setFixed_X11_noNumber rfl hd_X11_noNumber (by decide) ⟨by decide, by decide⟩ hl.1 rfl (Nat.le_of_ble_eq_true rfl) dX11_setFixed_7 rfl (fun z_7 ws H locs hp h => ?_)
  obtain ⟨t_7, e_7, h_mo, hf⟩ := hp
  have h_da := hf.at h_da (by first | omega | (dsimp only <;> omega))
  have h_dr := hf.at h_dr (by first | omega | (dsimp only <;> omega))
  have h_ke := hf.at h_ke (by first | omega | (dsimp only <;> omega))
  have h_st := hf.at h_st (by first | omega | (dsimp only <;> omega))
  have h_op := hf.at h_op (by first | omega | (dsimp only <;> omega))
  have h_hi := hf.at h_hi (by first | omega | (dsimp only <;> omega))
  have h_rw := fun (i : Nat) (hi : i < 8) => hf.at (h_rw i hi) (by first | omega | (dsimp only <;> omega))
  have hE := hE.tr (hf.wk (fun j hj => by first | omega | (dsimp only at hj ⊢ <;> omega)))
  refine r_if_ne E 39 dX11_setFixed_10 (by decide) (by omega) (fun c_10 => ?_) (fun c_10 => ?_)
  · skip
    refine r_iconst E dX11_setFixed_39 ?_
    exact r_zret E h (by omega) ⟨t_7, I 12, d, hs, Or.inr (by first | exact Or.inl ⟨by omega, by omega, rfl, rfl, rfl⟩ | exact Or.inr ⟨by omega, by omega, by omega, rfl, rfl, rfl⟩), va_up (va_up I 0 0) 0 t_7, dr, ke, st, op, h_mo, h_da, h_dr, h_ke, h_rw, h_st, h_op, (by first | (rw [g_42 0 (by decide)]; first | rfl | (simp [va_up]; done) | (simp [va_up]; omega)) | rfl | (simp [va_up]; done)), (by first | exact f_42 | rfl | (simp [va_up]; done)), (fun k h0 h9 h1 h2 h3 h4 => by first | (rw [g_42 k h9]; simp [va_up, h0]; done) | simp [va_up, h0]), hE⟩ dX11_setFixed_40
  · skip
    have hfx := hD.fix (x := x) (by omega) (by omega)
    have hcx := hD.c4 x (by omega) (by omega)
    refine r_aload_n E 0 hl rfl dX11_setFixed_13 ?_
    refine r_iload_n E 2 hl rfl dX11_setFixed_14 ?_
    refine r_if_eq E 31 dX11_setFixed_15 (by decide) (by omega) (fun c_15 => ?_) (fun c_15 => ?_)
    · skip
      refine r_iconst E dX11_setFixed_31 ?_
      refine r_iconst E dX11_setFixed_32 ?_
      refine r_callVI E h (As := [.int (zI 0), .int (zI 2)]) (rest := []) (k_X11_fails l 0 2 h_mo (by omega) (by omega) (by first | rfl | (simp [va_up]; done) | (simp [va_up]; omega))) h_mo rfl gX11_setFixed_X11_fails rfl hd_X11_fails (by decide) ⟨by decide, by decide⟩ hl.1 rfl (Nat.le_of_ble_eq_true rfl) dX11_setFixed_33 rfl (fun z_33 ws H locs hp h => ?_)
      obtain ⟨t_33, e_33, h_mo, hf⟩ := hp
      have h_da := hf.at h_da (by first | omega | (dsimp only <;> omega))
      have h_dr := hf.at h_dr (by first | omega | (dsimp only <;> omega))
      have h_ke := hf.at h_ke (by first | omega | (dsimp only <;> omega))
      have h_st := hf.at h_st (by first | omega | (dsimp only <;> omega))
      have h_op := hf.at h_op (by first | omega | (dsimp only <;> omega))
      have h_hi := hf.at h_hi (by first | omega | (dsimp only <;> omega))
      have h_rw := fun (i : Nat) (hi : i < 8) => hf.at (h_rw i hi) (by first | omega | (dsimp only <;> omega))
      have hE := hE.tr (hf.wk (fun j hj => by first | omega | (dsimp only at hj ⊢ <;> omega)))
      refine r_if_eq E 41 dX11_setFixed_36 (by decide) (by omega) (fun c_36 => ?_) (fun c_36 => ?_)
      · skip
        refine r_aload_n E 0 hl rfl dX11_setFixed_41 ?_
        refine r_callVV E h (As := []) (rest := []) (k_X11_remember l h_mo h_da h_hi h_rw hhi (by simp only [va_up]; exact hdep)) h_mo rfl gX11_setFixed_X11_remember rfl hd_X11_remember (by decide) ⟨by decide, by decide⟩ hl.1 rfl (Nat.le_of_ble_eq_true rfl) dX11_setFixed_42 rfl (fun ws H locs hp h => ?_)
        obtain ⟨I_42, h_mo, h_rw, ⟨f_42, g_42⟩, hf⟩ := hp
        have h_da := hf.at h_da (by first | omega | (dsimp only <;> omega))
        have h_dr := hf.at h_dr (by first | omega | (dsimp only <;> omega))
        have h_ke := hf.at h_ke (by first | omega | (dsimp only <;> omega))
        have h_st := hf.at h_st (by first | omega | (dsimp only <;> omega))
        have h_op := hf.at h_op (by first | omega | (dsimp only <;> omega))
        have h_hi := hf.at h_hi (by first | omega | (dsimp only <;> omega))
        have h_rw : ∀ i : Nat, i < 8 → ws[b + 6 + i]? = some (ar i, aI cy 1111 ((rem (I 12) hs d) i)) := h_rw
        have f_42 : I_42 12 = rn (I 12) := f_42
        have hE := hE.tr (hf.wk (fun j hj => by first | omega | (dsimp only at hj ⊢ <;> omega)))
        refine r_aload_n E 0 hl rfl dX11_setFixed_45 ?_
        refine r_get (v := .ref (ad 8)) E h h_mo rfl inn_X11_setFixed_11 8 (by decide) fl_X11_setFixed_17 rfl dX11_setFixed_46 ?_
        refine r_bipush E dX11_setFixed_49 (by decide) ?_
        refine r_iload_n E 1 hl rfl dX11_setFixed_51 ?_
        refine r_iadd E dX11_setFixed_52 ?_
        refine r_iald E h h_da (by omega) (by decide) dX11_setFixed_53 ?_
        refine r_iconst E dX11_setFixed_54 ?_
        refine r_cut (α := Int) (fun x_55 H locs ls => (x_55 = 0 ∧ ¬ (d (70 + x)) = 1 ∨ x_55 = 1 ∧ (d (70 + x)) = 1) ∧ Hp G ws A s.heap H locs ∧ lv_has ls 4 [(0, .ref aM), (1, .int (zI x)), (2, .int (zI f9))]) 63 (fun x_55 => [.int (zI x_55)]) ?_ ?_
        · rintro x_55 H locs ls ⟨b_55, h, hl⟩
          have hx55 : x_55 = d (70 + x) := by omega
          refine r_istore_n (lv' := [(3, .int (zI x_55)), (0, .ref aM), (1, .int (zI x)), (2, .int (zI f9))]) E hl dX11_setFixed_63 rfl (by decide) rfl (fun ls hl => ?_)
          refine r_aload_n E 1 hl rfl dX11_setFixed_64 ?_
          refine r_get (v := .ref (ad 8)) E h h_mo rfl inn_X11_setFixed_11 8 (by decide) fl_X11_setFixed_17 rfl dX11_setFixed_65 ?_
          refine r_bipush E dX11_setFixed_68 (by decide) ?_
          refine r_iload_n E 2 hl rfl dX11_setFixed_70 ?_
          refine r_iadd E dX11_setFixed_71 ?_
          refine r_iload_n E 3 hl rfl dX11_setFixed_72 ?_
          refine r_if_eq E 80 dX11_setFixed_73 (by decide) (by omega) (fun c_73 => ?_) (fun c_73 => ?_)
          · skip
            refine r_iconst E dX11_setFixed_80 ?_
            have hff : 0 = f9 := by omega
            refine r_iast E h h_da (by omega) (by decide) dX11_setFixed_81 (fun ws H locs h hu => ?_)
            have h_mo := hu.keep h_mo (by omega)
            have h_da : ws[b + 2]? = some (ad 8, aI cy 1111 (uZ d (70 + x) 0)) := hu.1
            have h_dr := hu.keep h_dr (by omega)
            have h_ke := hu.keep h_ke (by omega)
            have h_st := hu.keep h_st (by omega)
            have h_op := hu.keep h_op (by omega)
            have h_hi := hu.keep h_hi (by omega)
            have h_rw := fun (i : Nat) (hi : i < 8) => hu.keep (h_rw i hi) (by omega)
            have hE := hE.tr (hu.eqx (by first | omega | (dsimp only <;> omega)))
            refine r_iload_n E 0 hl rfl dX11_setFixed_82 ?_
            exact r_zret E h (by omega) ⟨0, rn (I 12), uZ d (70 + x) 0, rem (I 12) hs d, Or.inl ⟨by omega, by omega, rfl, hx55, rfl, (by first | rfl | rw [hff]), rfl⟩, I_42, dr, ke, st, op, h_mo, h_da, h_dr, h_ke, h_rw, h_st, h_op, (by first | (rw [g_42 0 (by decide)]; first | rfl | (simp [va_up]; done) | (simp [va_up]; omega)) | rfl | (simp [va_up]; done)), (by first | exact f_42 | rfl | (simp [va_up]; done)), (fun k h0 h9 h1 h2 h3 h4 => by first | (rw [g_42 k h9]; simp [va_up, h0]; done) | simp [va_up, h0]), hE⟩ dX11_setFixed_83
          · skip
            refine r_iconst E dX11_setFixed_76 ?_
            refine r_goto E 81 dX11_setFixed_77 (by decide) ?_
            have hff : 1 = f9 := by omega
            refine r_iast E h h_da (by omega) (by decide) dX11_setFixed_81 (fun ws H locs h hu => ?_)
            have h_mo := hu.keep h_mo (by omega)
            have h_da : ws[b + 2]? = some (ad 8, aI cy 1111 (uZ d (70 + x) 1)) := hu.1
            have h_dr := hu.keep h_dr (by omega)
            have h_ke := hu.keep h_ke (by omega)
            have h_st := hu.keep h_st (by omega)
            have h_op := hu.keep h_op (by omega)
            have h_hi := hu.keep h_hi (by omega)
            have h_rw := fun (i : Nat) (hi : i < 8) => hu.keep (h_rw i hi) (by omega)
            have hE := hE.tr (hu.eqx (by first | omega | (dsimp only <;> omega)))
            refine r_iload_n E 0 hl rfl dX11_setFixed_82 ?_
            exact r_zret E h (by omega) ⟨0, rn (I 12), uZ d (70 + x) 1, rem (I 12) hs d, Or.inl ⟨by omega, by omega, rfl, hx55, rfl, (by first | rfl | rw [hff]), rfl⟩, I_42, dr, ke, st, op, h_mo, h_da, h_dr, h_ke, h_rw, h_st, h_op, (by first | (rw [g_42 0 (by decide)]; first | rfl | (simp [va_up]; done) | (simp [va_up]; omega)) | rfl | (simp [va_up]; done)), (by first | exact f_42 | rfl | (simp [va_up]; done)), (fun k h0 h9 h1 h2 h3 h4 => by first | (rw [g_42 k h9]; simp [va_up, h0]; done) | simp [va_up, h0]), hE⟩ dX11_setFixed_83
        · intro kb_55
          refine r_icmp_ne E 62 dX11_setFixed_55 (by decide) (by omega) (fun c_55 => ?_) (fun c_55 => ?_)
          · refine r_iconst E dX11_setFixed_62 ?_
            exact kb_55 _ H locs ls ⟨Or.inl ⟨rfl, c_55⟩, h, hl⟩
          · refine r_iconst E dX11_setFixed_58 ?_
            refine r_goto E 63 dX11_setFixed_59 (by decide) ?_
            exact kb_55 _ H locs ls ⟨Or.inr ⟨rfl, c_55⟩, h, hl⟩
      · skip
        refine r_iconst E dX11_setFixed_39 ?_
        exact r_zret E h (by omega) ⟨t_33, I 12, d, hs, Or.inr (by first | exact Or.inl ⟨by omega, by omega, rfl, rfl, rfl⟩ | exact Or.inr ⟨by omega, by omega, by omega, rfl, rfl, rfl⟩), va_up (va_up (va_up I 0 0) 0 t_7) 0 t_33, dr, ke, st, op, h_mo, h_da, h_dr, h_ke, h_rw, h_st, h_op, (by first | (rw [g_42 0 (by decide)]; first | rfl | (simp [va_up]; done) | (simp [va_up]; omega)) | rfl | (simp [va_up]; done)), (by first | exact f_42 | rfl | (simp [va_up]; done)), (fun k h0 h9 h1 h2 h3 h4 => by first | (rw [g_42 k h9]; simp [va_up, h0]; done) | simp [va_up, h0]), hE⟩ dX11_setFixed_40
    · skip
      refine r_aload_n E 0 hl rfl dX11_setFixed_18 ?_
      refine r_iload_n E 1 hl rfl dX11_setFixed_19 ?_
      refine r_callVI E h (As := [.int (zI x)]) (rest := [.ref aM]) (k_X11_colourOf l x h_mo h_da (by omega)) h_mo rfl gX11_setFixed_X11_colourOf rfl hd_X11_colourOf (by decide) ⟨by decide, by decide⟩ hl.1 rfl (Nat.le_of_ble_eq_true rfl) dX11_setFixed_20 rfl (fun z_20 ws H locs hp h => ?_)
      obtain ⟨rfl, rfl⟩ := hp
      refine r_iconst E dX11_setFixed_23 ?_
      refine r_icmp_ne E 31 dX11_setFixed_24 (by decide) (by omega) (fun c_24 => ?_) (fun c_24 => ?_)
      · skip
        refine r_iconst E dX11_setFixed_31 ?_
        refine r_iconst E dX11_setFixed_32 ?_
        refine r_callVI E h (As := [.int (zI 0), .int (zI 2)]) (rest := []) (k_X11_fails l 0 2 h_mo (by omega) (by omega) (by first | rfl | (simp [va_up]; done) | (simp [va_up]; omega))) h_mo rfl gX11_setFixed_X11_fails rfl hd_X11_fails (by decide) ⟨by decide, by decide⟩ hl.1 rfl (Nat.le_of_ble_eq_true rfl) dX11_setFixed_33 rfl (fun z_33 ws H locs hp h => ?_)
        obtain ⟨t_33, e_33, h_mo, hf⟩ := hp
        have h_da := hf.at h_da (by first | omega | (dsimp only <;> omega))
        have h_dr := hf.at h_dr (by first | omega | (dsimp only <;> omega))
        have h_ke := hf.at h_ke (by first | omega | (dsimp only <;> omega))
        have h_st := hf.at h_st (by first | omega | (dsimp only <;> omega))
        have h_op := hf.at h_op (by first | omega | (dsimp only <;> omega))
        have h_hi := hf.at h_hi (by first | omega | (dsimp only <;> omega))
        have h_rw := fun (i : Nat) (hi : i < 8) => hf.at (h_rw i hi) (by first | omega | (dsimp only <;> omega))
        have hE := hE.tr (hf.wk (fun j hj => by first | omega | (dsimp only at hj ⊢ <;> omega)))
        refine r_if_eq E 41 dX11_setFixed_36 (by decide) (by omega) (fun c_36 => ?_) (fun c_36 => ?_)
        · skip
          refine r_aload_n E 0 hl rfl dX11_setFixed_41 ?_
          refine r_callVV E h (As := []) (rest := []) (k_X11_remember l h_mo h_da h_hi h_rw hhi (by simp only [va_up]; exact hdep)) h_mo rfl gX11_setFixed_X11_remember rfl hd_X11_remember (by decide) ⟨by decide, by decide⟩ hl.1 rfl (Nat.le_of_ble_eq_true rfl) dX11_setFixed_42 rfl (fun ws H locs hp h => ?_)
          obtain ⟨I_42, h_mo, h_rw, ⟨f_42, g_42⟩, hf⟩ := hp
          have h_da := hf.at h_da (by first | omega | (dsimp only <;> omega))
          have h_dr := hf.at h_dr (by first | omega | (dsimp only <;> omega))
          have h_ke := hf.at h_ke (by first | omega | (dsimp only <;> omega))
          have h_st := hf.at h_st (by first | omega | (dsimp only <;> omega))
          have h_op := hf.at h_op (by first | omega | (dsimp only <;> omega))
          have h_hi := hf.at h_hi (by first | omega | (dsimp only <;> omega))
          have h_rw : ∀ i : Nat, i < 8 → ws[b + 6 + i]? = some (ar i, aI cy 1111 ((rem (I 12) hs d) i)) := h_rw
          have f_42 : I_42 12 = rn (I 12) := f_42
          have hE := hE.tr (hf.wk (fun j hj => by first | omega | (dsimp only at hj ⊢ <;> omega)))
          refine r_aload_n E 0 hl rfl dX11_setFixed_45 ?_
          refine r_get (v := .ref (ad 8)) E h h_mo rfl inn_X11_setFixed_11 8 (by decide) fl_X11_setFixed_17 rfl dX11_setFixed_46 ?_
          refine r_bipush E dX11_setFixed_49 (by decide) ?_
          refine r_iload_n E 1 hl rfl dX11_setFixed_51 ?_
          refine r_iadd E dX11_setFixed_52 ?_
          refine r_iald E h h_da (by omega) (by decide) dX11_setFixed_53 ?_
          refine r_iconst E dX11_setFixed_54 ?_
          refine r_cut (α := Int) (fun x_55 H locs ls => (x_55 = 0 ∧ ¬ (d (70 + x)) = 1 ∨ x_55 = 1 ∧ (d (70 + x)) = 1) ∧ Hp G ws A s.heap H locs ∧ lv_has ls 4 [(0, .ref aM), (1, .int (zI x)), (2, .int (zI f9))]) 63 (fun x_55 => [.int (zI x_55)]) ?_ ?_
          · rintro x_55 H locs ls ⟨b_55, h, hl⟩
            have hx55 : x_55 = d (70 + x) := by omega
            refine r_istore_n (lv' := [(3, .int (zI x_55)), (0, .ref aM), (1, .int (zI x)), (2, .int (zI f9))]) E hl dX11_setFixed_63 rfl (by decide) rfl (fun ls hl => ?_)
            refine r_aload_n E 1 hl rfl dX11_setFixed_64 ?_
            refine r_get (v := .ref (ad 8)) E h h_mo rfl inn_X11_setFixed_11 8 (by decide) fl_X11_setFixed_17 rfl dX11_setFixed_65 ?_
            refine r_bipush E dX11_setFixed_68 (by decide) ?_
            refine r_iload_n E 2 hl rfl dX11_setFixed_70 ?_
            refine r_iadd E dX11_setFixed_71 ?_
            refine r_iload_n E 3 hl rfl dX11_setFixed_72 ?_
            refine r_if_eq E 80 dX11_setFixed_73 (by decide) (by omega) (fun c_73 => ?_) (fun c_73 => ?_)
            · skip
              refine r_iconst E dX11_setFixed_80 ?_
              have hff : 0 = f9 := by omega
              refine r_iast E h h_da (by omega) (by decide) dX11_setFixed_81 (fun ws H locs h hu => ?_)
              have h_mo := hu.keep h_mo (by omega)
              have h_da : ws[b + 2]? = some (ad 8, aI cy 1111 (uZ d (70 + x) 0)) := hu.1
              have h_dr := hu.keep h_dr (by omega)
              have h_ke := hu.keep h_ke (by omega)
              have h_st := hu.keep h_st (by omega)
              have h_op := hu.keep h_op (by omega)
              have h_hi := hu.keep h_hi (by omega)
              have h_rw := fun (i : Nat) (hi : i < 8) => hu.keep (h_rw i hi) (by omega)
              have hE := hE.tr (hu.eqx (by first | omega | (dsimp only <;> omega)))
              refine r_iload_n E 0 hl rfl dX11_setFixed_82 ?_
              exact r_zret E h (by omega) ⟨0, rn (I 12), uZ d (70 + x) 0, rem (I 12) hs d, Or.inl ⟨by omega, by omega, rfl, hx55, rfl, (by first | rfl | rw [hff]), rfl⟩, I_42, dr, ke, st, op, h_mo, h_da, h_dr, h_ke, h_rw, h_st, h_op, (by first | (rw [g_42 0 (by decide)]; first | rfl | (simp [va_up]; done) | (simp [va_up]; omega)) | rfl | (simp [va_up]; done)), (by first | exact f_42 | rfl | (simp [va_up]; done)), (fun k h0 h9 h1 h2 h3 h4 => by first | (rw [g_42 k h9]; simp [va_up, h0]; done) | simp [va_up, h0]), hE⟩ dX11_setFixed_83
            · skip
              refine r_iconst E dX11_setFixed_76 ?_
              refine r_goto E 81 dX11_setFixed_77 (by decide) ?_
              have hff : 1 = f9 := by omega
              refine r_iast E h h_da (by omega) (by decide) dX11_setFixed_81 (fun ws H locs h hu => ?_)
              have h_mo := hu.keep h_mo (by omega)
              have h_da : ws[b + 2]? = some (ad 8, aI cy 1111 (uZ d (70 + x) 1)) := hu.1
              have h_dr := hu.keep h_dr (by omega)
              have h_ke := hu.keep h_ke (by omega)
              have h_st := hu.keep h_st (by omega)
              have h_op := hu.keep h_op (by omega)
              have h_hi := hu.keep h_hi (by omega)
              have h_rw := fun (i : Nat) (hi : i < 8) => hu.keep (h_rw i hi) (by omega)
              have hE := hE.tr (hu.eqx (by first | omega | (dsimp only <;> omega)))
              refine r_iload_n E 0 hl rfl dX11_setFixed_82 ?_
              exact r_zret E h (by omega) ⟨0, rn (I 12), uZ d (70 + x) 1, rem (I 12) hs d, Or.inl ⟨by omega, by omega, rfl, hx55, rfl, (by first | rfl | rw [hff]), rfl⟩, I_42, dr, ke, st, op, h_mo, h_da, h_dr, h_ke, h_rw, h_st, h_op, (by first | (rw [g_42 0 (by decide)]; first | rfl | (simp [va_up]; done) | (simp [va_up]; omega)) | rfl | (simp [va_up]; done)), (by first | exact f_42 | rfl | (simp [va_up]; done)), (fun k h0 h9 h1 h2 h3 h4 => by first | (rw [g_42 k h9]; simp [va_up, h0]; done) | simp [va_up, h0]), hE⟩ dX11_setFixed_83
          · intro kb_55
            refine r_icmp_ne E 62 dX11_setFixed_55 (by decide) (by omega) (fun c_55 => ?_) (fun c_55 => ?_)
            · refine r_iconst E dX11_setFixed_62 ?_
              exact kb_55 _ H locs ls ⟨Or.inl ⟨rfl, c_55⟩, h, hl⟩
            · refine r_iconst E dX11_setFixed_58 ?_
              refine r_goto E 63 dX11_setFixed_59 (by decide) ?_
              exact kb_55 _ H locs ls ⟨Or.inr ⟨rfl, c_55⟩, h, hl⟩
        · skip
          refine r_iconst E dX11_setFixed_39 ?_
          exact r_zret E h (by omega) ⟨t_33, I 12, d, hs, Or.inr (by first | exact Or.inl ⟨by omega, by omega, rfl, rfl, rfl⟩ | exact Or.inr ⟨by omega, by omega, by omega, rfl, rfl, rfl⟩), va_up (va_up (va_up I 0 0) 0 t_7) 0 t_33, dr, ke, st, op, h_mo, h_da, h_dr, h_ke, h_rw, h_st, h_op, (by first | (rw [g_42 0 (by decide)]; first | rfl | (simp [va_up]; done) | (simp [va_up]; omega)) | rfl | (simp [va_up]; done)), (by first | exact f_42 | rfl | (simp [va_up]; done)), (fun k h0 h9 h1 h2 h3 h4 => by first | (rw [g_42 k h9]; simp [va_up, h0]; done) | simp [va_up, h0]), hE⟩ dX11_setFixed_40
      · skip
        refine r_iconst E dX11_setFixed_27 ?_
        refine r_goto E 32 dX11_setFixed_28 (by decide) ?_
        refine r_iconst E dX11_setFixed_32 ?_
        refine r_callVI E h (As := [.int (zI 1), .int (zI 2)]) (rest := []) (k_X11_fails l 1 2 h_mo (by omega) (by omega) (by first | rfl | (simp [va_up]; done) | (simp [va_up]; omega))) h_mo rfl gX11_setFixed_X11_fails rfl hd_X11_fails (by decide) ⟨by decide, by decide⟩ hl.1 rfl (Nat.le_of_ble_eq_true rfl) dX11_setFixed_33 rfl (fun z_33 ws H locs hp h => ?_)
        obtain ⟨t_33, e_33, h_mo, hf⟩ := hp
        have h_da := hf.at h_da (by first | omega | (dsimp only <;> omega))
        have h_dr := hf.at h_dr (by first | omega | (dsimp only <;> omega))
        have h_ke := hf.at h_ke (by first | omega | (dsimp only <;> omega))
        have h_st := hf.at h_st (by first | omega | (dsimp only <;> omega))
        have h_op := hf.at h_op (by first | omega | (dsimp only <;> omega))
        have h_hi := hf.at h_hi (by first | omega | (dsimp only <;> omega))
        have h_rw := fun (i : Nat) (hi : i < 8) => hf.at (h_rw i hi) (by first | omega | (dsimp only <;> omega))
        have hE := hE.tr (hf.wk (fun j hj => by first | omega | (dsimp only at hj ⊢ <;> omega)))
        refine r_if_eq E 41 dX11_setFixed_36 (by decide) (by omega) (fun c_36 => ?_) (fun c_36 => ?_)
        · skip
          refine r_aload_n E 0 hl rfl dX11_setFixed_41 ?_
          refine r_callVV E h (As := []) (rest := []) (k_X11_remember l h_mo h_da h_hi h_rw hhi (by simp only [va_up]; exact hdep)) h_mo rfl gX11_setFixed_X11_remember rfl hd_X11_remember (by decide) ⟨by decide, by decide⟩ hl.1 rfl (Nat.le_of_ble_eq_true rfl) dX11_setFixed_42 rfl (fun ws H locs hp h => ?_)
          obtain ⟨I_42, h_mo, h_rw, ⟨f_42, g_42⟩, hf⟩ := hp
          have h_da := hf.at h_da (by first | omega | (dsimp only <;> omega))
          have h_dr := hf.at h_dr (by first | omega | (dsimp only <;> omega))
          have h_ke := hf.at h_ke (by first | omega | (dsimp only <;> omega))
          have h_st := hf.at h_st (by first | omega | (dsimp only <;> omega))
          have h_op := hf.at h_op (by first | omega | (dsimp only <;> omega))
          have h_hi := hf.at h_hi (by first | omega | (dsimp only <;> omega))
          have h_rw : ∀ i : Nat, i < 8 → ws[b + 6 + i]? = some (ar i, aI cy 1111 ((rem (I 12) hs d) i)) := h_rw
          have f_42 : I_42 12 = rn (I 12) := f_42
          have hE := hE.tr (hf.wk (fun j hj => by first | omega | (dsimp only at hj ⊢ <;> omega)))
          refine r_aload_n E 0 hl rfl dX11_setFixed_45 ?_
          refine r_get (v := .ref (ad 8)) E h h_mo rfl inn_X11_setFixed_11 8 (by decide) fl_X11_setFixed_17 rfl dX11_setFixed_46 ?_
          refine r_bipush E dX11_setFixed_49 (by decide) ?_
          refine r_iload_n E 1 hl rfl dX11_setFixed_51 ?_
          refine r_iadd E dX11_setFixed_52 ?_
          refine r_iald E h h_da (by omega) (by decide) dX11_setFixed_53 ?_
          refine r_iconst E dX11_setFixed_54 ?_
          refine r_cut (α := Int) (fun x_55 H locs ls => (x_55 = 0 ∧ ¬ (d (70 + x)) = 1 ∨ x_55 = 1 ∧ (d (70 + x)) = 1) ∧ Hp G ws A s.heap H locs ∧ lv_has ls 4 [(0, .ref aM), (1, .int (zI x)), (2, .int (zI f9))]) 63 (fun x_55 => [.int (zI x_55)]) ?_ ?_
          · rintro x_55 H locs ls ⟨b_55, h, hl⟩
            have hx55 : x_55 = d (70 + x) := by omega
            refine r_istore_n (lv' := [(3, .int (zI x_55)), (0, .ref aM), (1, .int (zI x)), (2, .int (zI f9))]) E hl dX11_setFixed_63 rfl (by decide) rfl (fun ls hl => ?_)
            refine r_aload_n E 1 hl rfl dX11_setFixed_64 ?_
            refine r_get (v := .ref (ad 8)) E h h_mo rfl inn_X11_setFixed_11 8 (by decide) fl_X11_setFixed_17 rfl dX11_setFixed_65 ?_
            refine r_bipush E dX11_setFixed_68 (by decide) ?_
            refine r_iload_n E 2 hl rfl dX11_setFixed_70 ?_
            refine r_iadd E dX11_setFixed_71 ?_
            refine r_iload_n E 3 hl rfl dX11_setFixed_72 ?_
            refine r_if_eq E 80 dX11_setFixed_73 (by decide) (by omega) (fun c_73 => ?_) (fun c_73 => ?_)
            · skip
              refine r_iconst E dX11_setFixed_80 ?_
              have hff : 0 = f9 := by omega
              refine r_iast E h h_da (by omega) (by decide) dX11_setFixed_81 (fun ws H locs h hu => ?_)
              have h_mo := hu.keep h_mo (by omega)
              have h_da : ws[b + 2]? = some (ad 8, aI cy 1111 (uZ d (70 + x) 0)) := hu.1
              have h_dr := hu.keep h_dr (by omega)
              have h_ke := hu.keep h_ke (by omega)
              have h_st := hu.keep h_st (by omega)
              have h_op := hu.keep h_op (by omega)
              have h_hi := hu.keep h_hi (by omega)
              have h_rw := fun (i : Nat) (hi : i < 8) => hu.keep (h_rw i hi) (by omega)
              have hE := hE.tr (hu.eqx (by first | omega | (dsimp only <;> omega)))
              refine r_iload_n E 0 hl rfl dX11_setFixed_82 ?_
              exact r_zret E h (by omega) ⟨0, rn (I 12), uZ d (70 + x) 0, rem (I 12) hs d, Or.inl ⟨by omega, by omega, rfl, hx55, rfl, (by first | rfl | rw [hff]), rfl⟩, I_42, dr, ke, st, op, h_mo, h_da, h_dr, h_ke, h_rw, h_st, h_op, (by first | (rw [g_42 0 (by decide)]; first | rfl | (simp [va_up]; done) | (simp [va_up]; omega)) | rfl | (simp [va_up]; done)), (by first | exact f_42 | rfl | (simp [va_up]; done)), (fun k h0 h9 h1 h2 h3 h4 => by first | (rw [g_42 k h9]; simp [va_up, h0]; done) | simp [va_up, h0]), hE⟩ dX11_setFixed_83
            · skip
              refine r_iconst E dX11_setFixed_76 ?_
              refine r_goto E 81 dX11_setFixed_77 (by decide) ?_
              have hff : 1 = f9 := by omega
              refine r_iast E h h_da (by omega) (by decide) dX11_setFixed_81 (fun ws H locs h hu => ?_)
              have h_mo := hu.keep h_mo (by omega)
              have h_da : ws[b + 2]? = some (ad 8, aI cy 1111 (uZ d (70 + x) 1)) := hu.1
              have h_dr := hu.keep h_dr (by omega)
              have h_ke := hu.keep h_ke (by omega)
              have h_st := hu.keep h_st (by omega)
              have h_op := hu.keep h_op (by omega)
              have h_hi := hu.keep h_hi (by omega)
              have h_rw := fun (i : Nat) (hi : i < 8) => hu.keep (h_rw i hi) (by omega)
              have hE := hE.tr (hu.eqx (by first | omega | (dsimp only <;> omega)))
              refine r_iload_n E 0 hl rfl dX11_setFixed_82 ?_
              exact r_zret E h (by omega) ⟨0, rn (I 12), uZ d (70 + x) 1, rem (I 12) hs d, Or.inl ⟨by omega, by omega, rfl, hx55, rfl, (by first | rfl | rw [hff]), rfl⟩, I_42, dr, ke, st, op, h_mo, h_da, h_dr, h_ke, h_rw, h_st, h_op, (by first | (rw [g_42 0 (by decide)]; first | rfl | (simp [va_up]; done) | (simp [va_up]; omega)) | rfl | (simp [va_up]; done)), (by first | exact f_42 | rfl | (simp [va_up]; done)), (fun k h0 h9 h1 h2 h3 h4 => by first | (rw [g_42 k h9]; simp [va_up, h0]; done) | simp [va_up, h0]), hE⟩ dX11_setFixed_83
          · intro kb_55
            refine r_icmp_ne E 62 dX11_setFixed_55 (by decide) (by omega) (fun c_55 => ?_) (fun c_55 => ?_)
            · refine r_iconst E dX11_setFixed_62 ?_
              exact kb_55 _ H locs ls ⟨Or.inl ⟨rfl, c_55⟩, h, hl⟩
            · refine r_iconst E dX11_setFixed_58 ?_
              refine r_goto E 63 dX11_setFixed_59 (by decide) ?_
              exact kb_55 _ H locs ls ⟨Or.inr ⟨rfl, c_55⟩, h, hl⟩
        · skip
          refine r_iconst E dX11_setFixed_39 ?_
          exact r_zret E h (by omega) ⟨t_33, I 12, d, hs, Or.inr (by first | exact Or.inl ⟨by omega, by omega, rfl, rfl, rfl⟩ | exact Or.inr ⟨by omega, by omega, by omega, rfl, rfl, rfl⟩), va_up (va_up (va_up I 0 0) 0 t_7) 0 t_33, dr, ke, st, op, h_mo, h_da, h_dr, h_ke, h_rw, h_st, h_op, (by first | (rw [g_42 0 (by decide)]; first | rfl | (simp [va_up]; done) | (simp [va_up]; omega)) | rfl | (simp [va_up]; done)), (by first | exact f_42 | rfl | (simp [va_up]; done)), (fun k h0 h9 h1 h2 h3 h4 => by first | (rw [g_42 k h9]; simp [va_up, h0]; done) | simp [va_up, h0]), hE⟩ dX11_setFixed_40
