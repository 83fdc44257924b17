theorem hd_X11_readColour : yX11_readColour.cls = RX11 ∧ yX11_readColour.cls ≠ "java/lang/invoke/MethodHandle" ∧ yX11_readColour.cls ≠ "java/lang/invoke/VarHandle" ∧ (parseMethodDescriptor yX11_readColour.desc).map (fun d => d.parameters.length) = some 0 := by decide +kernel
theorem fl_X11_readColour_20 : Cond.fieldLink RX11 20 (TX11 9).1 (TX11 9).2.1 (TX11 9).2.2.1 ∈ wsX11_readColour := List.mem_of_getElem? (i := 1) rfl
theorem inn_X11_readColour_11 : ∀ w ∈ wsX110, w ∈ wsX11_readColour := fun _ h => List.mem_cons_of_mem _ (List.mem_append_right _ h)
abbrev rm_X11_readColour : Room := { frames := 5, cells := 0, slots := 0, locals := 107 }
set_option maxHeartbeats 4000000 in
set_option maxRecDepth 100000 in
theorem k_X11_readColour (l : Launch) {G : va_G} {cy : Nat → ClassId} {ws0 : va_W} {b aM : Nat} {I : Nat → Int} {ad : Nat → Nat} {bu : Int → Int} {dr : Int → Int} {L : Int} {S : PSt}  (h_mo : ws0[b]? = some (aM, mO I ad)) (h_bu : ws0[b + 1]? = some (ad 1, aI cy 600 bu)) (h_dr : ws0[b + 3]? = some (ad 9, aI cy 1111 dr)) (htx : TXok bu) (hR : PR bu L I dr S) (h0 : S.1 = 0) (hq : (1 ≤ S.2.2.2 0 ∧ S.2.2.2 0 ≤ 40) ∧ (1 ≤ S.2.2.2 1 ∧ S.2.2.2 1 ≤ 4)) : MVs l yX11_readColour wsX11_readColour rm_X11_readColour G cy [.ref aM] ws0 (PQ cy ws0 b aM I ad bu L (pCol bu L S)) := by
  refine MVs.of (own := RX11) (cc := cX11_readColour) (nL := 3) (ret := none) (by decide) rfl rfl (Nat.le_of_ble_eq_true rfl) ?_
  intro p e s m below meth c A ls hX E h hl
  have hl : lv_has ls 3 [(0, .ref aM)] := hl
  have hE : Eqx ws0 ws0 (fun j => j = b ∨ j = b + 3) := Eqx.rf
  have gk : ∀ k : Nat, k ≠ 4 → k ≠ 5 → k ≠ 6 → I k = I k := fun _ _ _ _ => rfl
  have hd0 : dr 0 = S.2.2.2 0 := by rw [hR.g h0]
  have hd1 : dr 1 = S.2.2.2 1 := by rw [hR.g h0]
  refine r_aload_n E 0 hl rfl dX11_readColour_0 ?_
  refine r_iconst E dX11_readColour_1 ?_
  refine r_aload_n E 0 hl rfl dX11_readColour_2 ?_
  refine r_get (v := .ref (ad 9)) E h h_mo rfl inn_X11_readColour_11 9 (by decide) fl_X11_readColour_20 rfl dX11_readColour_3 ?_
  refine r_iconst E dX11_readColour_6 ?_
  refine r_iald E h h_dr (by omega) (by decide) dX11_readColour_7 ?_
  refine r_callVI E h (As := [.int (zI 1), .int (zI (dr 0))]) (rest := []) (k_X11_number l 1 (dr 0) h_mo h_bu htx hR.hL hR.hp hR.2.2.1 (by omega)) h_mo rfl gX11_readColour_X11_number rfl hd_X11_number (by decide) ⟨by decide, by decide⟩ hl.1 rfl (Nat.le_of_ble_eq_true rfl) dX11_readColour_8 rfl (fun z_8 ws H locs hp h => ?_)
  obtain ⟨I_8, h_mo, ⟨e_8, g_8⟩, hf⟩ := hp
  have h_bu := hf.at h_bu (by first | omega | (dsimp only <;> omega))
  have h_dr := hf.at h_dr (by first | omega | (dsimp only <;> omega))
  have hE := hE.tr (hf.wk (fun j hj => by first | omega | (dsimp only at hj ⊢ <;> omega)))
  obtain ⟨hR, hv_8⟩ := hR.num e_8 g_8
  rw [hd0] at hR hv_8
  have gk : ∀ k : Nat, k ≠ 4 → k ≠ 5 → k ≠ 6 → I_8 k = I k := fun k q4 q5 q6 => (g_8 k q4 q5 q6).trans (gk k q4 q5 q6)
  have hR : PR bu L I_8 dr (pC1 bu L S) := hR
  refine r_istore_n (lv' := [(1, .int (zI z_8)), (0, .ref aM)]) E hl dX11_readColour_11 rfl (by decide) rfl (fun ls hl => ?_)
  refine r_aload_n E 1 hl rfl dX11_readColour_12 ?_
  refine r_iconst E dX11_readColour_13 ?_
  refine r_aload_n E 1 hl rfl dX11_readColour_14 ?_
  refine r_get (v := .ref (ad 9)) E h h_mo rfl inn_X11_readColour_11 9 (by decide) fl_X11_readColour_20 rfl dX11_readColour_15 ?_
  refine r_iconst E dX11_readColour_18 ?_
  refine r_iald E h h_dr (by omega) (by decide) dX11_readColour_19 ?_
  refine r_iconst E dX11_readColour_20 ?_
  refine r_isub E dX11_readColour_21 ?_
  refine r_callVI E h (As := [.int (zI 0), .int (zI ((dr 1) - 1))]) (rest := []) (k_X11_number l 0 ((dr 1) - 1) h_mo h_bu htx hR.hL hR.hp hR.2.2.1 (by omega)) h_mo rfl gX11_readColour_X11_number rfl hd_X11_number (by decide) ⟨by decide, by decide⟩ hl.1 rfl (Nat.le_of_ble_eq_true rfl) dX11_readColour_22 rfl (fun z_22 ws H locs hp h => ?_)
  obtain ⟨I_22, h_mo, ⟨e_22, g_22⟩, hf⟩ := hp
  have h_bu := hf.at h_bu (by first | omega | (dsimp only <;> omega))
  have h_dr := hf.at h_dr (by first | omega | (dsimp only <;> omega))
  have hE := hE.tr (hf.wk (fun j hj => by first | omega | (dsimp only at hj ⊢ <;> omega)))
  obtain ⟨hR, hv_22⟩ := hR.num e_22 g_22
  rw [hd1] at hR hv_22
  have gk : ∀ k : Nat, k ≠ 4 → k ≠ 5 → k ≠ 6 → I_22 k = I k := fun k q4 q5 q6 => (g_22 k q4 q5 q6).trans (gk k q4 q5 q6)
  have hR : PR bu L I_22 dr (pC2 bu L S) := hR
  refine r_istore_n (lv' := [(2, .int (zI z_22)), (1, .int (zI z_8)), (0, .ref aM)]) E hl dX11_readColour_25 rfl (by decide) rfl (fun ls hl => ?_)
  refine r_aload_n E 2 hl rfl dX11_readColour_26 ?_
  refine r_callVI E h (As := []) (rest := []) (k_X11_isGood l h_mo hR.2.2.1) h_mo rfl gX11_readColour_X11_isGood rfl hd_X11_isGood (by decide) ⟨by decide, by decide⟩ hl.1 rfl (Nat.le_of_ble_eq_true rfl) dX11_readColour_27 rfl (fun z_27 ws H locs hp h => ?_)
  obtain ⟨e_z_27, rfl⟩ := hp
  refine r_if_ne E 34 dX11_readColour_30 (by decide) (by omega) (fun c_30 => ?_) (fun c_30 => ?_)
  · skip
    have hA : (pC2 bu L S).1 = 0 := by have := hR.2.2.2.1.1; omega
    have hA2 := pnum_ok hA
    have hA1 := pnum_ok hA2.1
    have hz8 := hv_8 hA2.1
    have hz22 := hv_22 hA
    refine r_aload_n E 2 hl rfl dX11_readColour_34 ?_
    refine r_get (v := .ref (ad 9)) E h h_mo rfl inn_X11_readColour_11 9 (by decide) fl_X11_readColour_20 rfl dX11_readColour_35 ?_
    refine r_bipush E dX11_readColour_38 (by decide) ?_
    refine r_iload_n E 1 hl rfl dX11_readColour_40 ?_
    refine r_iadd E dX11_readColour_41 ?_
    refine r_iload_n E 0 hl rfl dX11_readColour_42 ?_
    refine r_iconst E dX11_readColour_43 ?_
    refine r_iadd E dX11_readColour_44 ?_
    refine r_iast E h h_dr (by omega) (by decide) dX11_readColour_45 (fun ws H locs h hu => ?_)
    have h_mo := hu.keep h_mo (by omega)
    have h_bu := hu.keep h_bu (by omega)
    have h_dr : ws[b + 3]? = some (ad 9, aI cy 1111 (uZ dr (29 + z_8) (z_22 + 1))) := hu.1
    have hE := hE.tr (hu.eqx (by first | omega | (dsimp only <;> omega)))
    have hR : PR bu L I_22 (uZ dr (29 + z_8) (z_22 + 1)) (pC3 bu L S) := by
      have := hR.set (k := 29 + z_8) (v := z_22 + 1) (w := z_22 + 1) (fun _ => rfl)
      rw [hz22] at this ⊢
      rw [hz8] at this ⊢
      exact this
    refine r_aload_n E 2 hl rfl dX11_readColour_46 ?_
    refine r_get (v := .ref (ad 9)) E h h_mo rfl inn_X11_readColour_11 9 (by decide) fl_X11_readColour_20 rfl dX11_readColour_47 ?_
    refine r_bipush E dX11_readColour_50 (by decide) ?_
    refine r_iload_n E 1 hl rfl dX11_readColour_52 ?_
    refine r_iadd E dX11_readColour_53 ?_
    refine r_aload_n E 2 hl rfl dX11_readColour_54 ?_
    refine r_ldcS E hX (i := 4) (tx := "fixed") (by decide +kernel) dX11_readColour_55 ?_
    refine r_callVsI E hX h (As := [.ref (cy (100 + 4))]) (rest := [.int (zI (70 + z_8)), .ref (ad 9)]) (k_X11_takeWord l 4 h_mo h_bu htx hR.hL hR.hp hR.2.2.1 (by decide)) h_mo rfl gX11_readColour_X11_takeWord rfl hd_X11_takeWord (by decide) ⟨by decide, by decide⟩ hl.1 rfl (Nat.le_of_ble_eq_true rfl) dX11_readColour_57 rfl (fun z_57 ws H locs hp h => ?_)
    obtain ⟨I_57, h_mo, ⟨e_57, g_57⟩, hf⟩ := hp
    have h_bu := hf.at h_bu (by first | omega | (dsimp only <;> omega))
    have h_dr := hf.at h_dr (by first | omega | (dsimp only <;> omega))
    have hE := hE.tr (hf.wk (fun j hj => by first | omega | (dsimp only at hj ⊢ <;> omega)))
    obtain ⟨hz9, hR⟩ := hR.wrd (by decide) e_57 g_57
    have gk : ∀ k : Nat, k ≠ 4 → k ≠ 5 → k ≠ 6 → I_57 k = I k := fun k q4 q5 q6 => (g_57 k q4).trans (gk k q4 q5 q6)
    have hpb := pwb_rng (t := bu) (L := L) (i := 4) (S := pC3 bu L S)
    refine r_cut (α := Int) (fun x_60 H locs ls => (x_60 = 0 ∧ z_57 = 0 ∨ x_60 = 1 ∧ ¬ z_57 = 0) ∧ Hp G ws A s.heap H locs ∧ lv_has ls 3 [(2, .int (zI z_22)), (1, .int (zI z_8)), (0, .ref aM)]) 68 (fun x_60 => [.int (zI x_60), .int (zI (70 + z_8)), .ref (ad 9)]) ?_ ?_
    · rintro x_60 H locs ls ⟨b_60, h, hl⟩
      refine r_iast E h h_dr (by omega) (by decide) dX11_readColour_68 (fun ws H locs h hu => ?_)
      have h_mo := hu.keep h_mo (by omega)
      have h_bu := hu.keep h_bu (by omega)
      have h_dr : ws[b + 3]? = some (ad 9, aI cy 1111 (uZ (uZ dr (29 + z_8) (z_22 + 1)) (70 + z_8) x_60)) := hu.1
      have hE := hE.tr (hu.eqx (by first | omega | (dsimp only <;> omega)))
      exact r_vret E h ⟨_, _, h_mo, h_dr, ⟨by
  have := hR.set (k := 70 + z_8) (v := x_60) (w := pwb bu L 4 (pC3 bu L S)) (fun _ => by omega)
  rw [hz8] at this ⊢
  exact this, gk⟩, hE⟩ dX11_readColour_69
    · intro kb_60
      refine r_if_eq E 67 dX11_readColour_60 (by decide) (by omega) (fun c_60 => ?_) (fun c_60 => ?_)
      · refine r_iconst E dX11_readColour_67 ?_
        exact kb_60 _ H locs ls ⟨Or.inl ⟨rfl, c_60⟩, h, hl⟩
      · refine r_iconst E dX11_readColour_63 ?_
        refine r_goto E 68 dX11_readColour_64 (by decide) ?_
        exact kb_60 _ H locs ls ⟨Or.inr ⟨rfl, c_60⟩, h, hl⟩
  · skip
    exact r_vret E h ⟨_, _, h_mo, h_dr, ⟨by
  rw [pCol_bad (by have := hR.2.2.2.1.1; omega)]
  exact hR, gk⟩, hE⟩ dX11_readColour_33
theorem hd_X11_statement : yX11_statement.cls = RX11 ∧ yX11_statement.cls ≠ "java/lang/invoke/MethodHandle" ∧ yX11_statement.cls ≠ "java/lang/invoke/VarHandle" ∧ (parseMethodDescriptor yX11_statement.desc).map (fun d => d.parameters.length) = some 0 := by decide +kernel
theorem fl_X11_statement_66 : Cond.fieldLink RX11 66 (TX11 4).1 (TX11 4).2.1 (TX11 4).2.2.1 ∈ wsX11_statement := List.mem_of_getElem? (i := 1) rfl
theorem inn_X11_statement_11 : ∀ w ∈ wsX110, w ∈ wsX11_statement := fun _ h => List.mem_cons_of_mem _ (List.mem_append_right _ h)
theorem fl_X11_statement_20 : Cond.fieldLink RX11 20 (TX11 9).1 (TX11 9).2.1 (TX11 9).2.2.1 ∈ wsX11_statement := List.mem_of_getElem? (i := 2) rfl
abbrev rm_X11_statement : Room := { frames := 43, cells := 0, slots := 0, locals := 981 }
set_option maxHeartbeats 4000000 in
set_option maxRecDepth 100000 in
theorem k_X11_statement (l : Launch) {G : va_G} {cy : Nat → ClassId} {ws0 : va_W} {b aM : Nat} {I : Nat → Int} {ad : Nat → Nat} {bu : Int → Int} {dr : Int → Int} {L : Int} {S : PSt}  (h_mo : ws0[b]? = some (aM, mO I ad)) (h_bu : ws0[b + 1]? = some (ad 1, aI cy 600 bu)) (h_dr : ws0[b + 3]? = some (ad 9, aI cy 1111 dr)) (htx : TXok bu) (hR : PR bu L I dr S) (h0 : S.1 = 0) (hV : SV L S) (h14 : I 14 = S.2.2.2 3) (hn13 : I 13 = 0) : MVs l yX11_statement wsX11_statement rm_X11_statement G cy [.ref aM] ws0 (fun u => ∃ (I2 : Nat → Int) (dr2 : Int → Int), u[b]? = some (aM, mO I2 ad) ∧ u[b + 3]? = some (ad 9, aI cy 1111 dr2) ∧ (PR bu L I2 dr2 (pStm bu L S) ∧ (pWh bu L S.2.2.1 = 3 ∧ I2 14 = 1 ∨ pWh bu L S.2.2.1 ≠ 3 ∧ I2 14 = I 14) ∧ ∀ k : Nat, k ≠ 4 → k ≠ 5 → k ≠ 6 → k ≠ 14 → I2 k = I k) ∧ Eqx ws0 u (fun j => j = b ∨ j = b + 3)) := by
  refine MVs.of (own := RX11) (cc := cX11_statement) (nL := 2) (ret := none) (by decide) rfl rfl (Nat.le_of_ble_eq_true rfl) ?_
  intro p e s m below meth c A ls hX E h hl
  have hl : lv_has ls 2 [(0, .ref aM)] := hl
  have hE : Eqx ws0 ws0 (fun j => j = b ∨ j = b + 3) := Eqx.rf
  have gk : ∀ k : Nat, k ≠ 4 → k ≠ 5 → k ≠ 6 → I k = I k := fun _ _ _ _ => rfl
  have hq0 := (hV.2 h0).2.r
  skip
  refine r_aload_n E 0 hl rfl dX11_statement_0 ?_
  refine r_callVI E h (As := []) (rest := []) (k_X11_next l h_mo h_bu htx hR.hL hR.hp) h_mo rfl gX11_statement_X11_next rfl hd_X11_next (by decide) ⟨by decide, by decide⟩ hl.1 rfl (Nat.le_of_ble_eq_true rfl) dX11_statement_1 rfl (fun z_1 ws H locs hp h => ?_)
  obtain ⟨e_1, I_1, h_mo, ⟨f_1, g_1⟩, hf⟩ := hp
  have h_bu := hf.at h_bu (by first | omega | (dsimp only <;> omega))
  have h_dr := hf.at h_dr (by first | omega | (dsimp only <;> omega))
  have hE := hE.tr (hf.wk (fun j hj => by first | omega | (dsimp only at hj ⊢ <;> omega)))
  have b_1 : z_1 = byA bu L (S).2.2.1 := hR.by h0 e_1
  have at4 : I_1 4 = (S).2.2.1 := hR.at4 h0 f_1
  have hR : PR bu L I_1 dr S := hR.mv f_1 g_1
  have gk : ∀ k : Nat, k ≠ 4 → k ≠ 5 → k ≠ 6 → I_1 k = I k := fun k q4 q5 q6 => (g_1 k q4).trans (gk k q4 q5 q6)
  refine r_pop E dX11_statement_4 rfl ?_
  refine r_aload_n E 0 hl rfl dX11_statement_5 ?_
  refine r_get (v := .int (zI (I_1 4))) E h h_mo rfl inn_X11_statement_11 4 (by decide) fl_X11_statement_66 rfl dX11_statement_6 ?_
  refine r_istore_n (lv' := [(1, .int (zI (I_1 4))), (0, .ref aM)]) E hl dX11_statement_9 rfl (by decide) rfl (fun ls hl => ?_)
  refine r_aload_n E 1 hl rfl dX11_statement_10 ?_
  refine r_ldcS E hX (i := 5) (tx := "equation") (by decide +kernel) dX11_statement_11 ?_
  refine r_callVsI E hX h (As := [.ref (cy (100 + 5))]) (rest := []) (k_X11_takeWord l 5 h_mo h_bu htx hR.hL hR.hp hR.2.2.1 (by decide)) h_mo rfl gX11_statement_X11_takeWord rfl hd_X11_takeWord (by decide) ⟨by decide, by decide⟩ hl.1 rfl (Nat.le_of_ble_eq_true rfl) dX11_statement_13 rfl (fun z_13 ws H locs hp h => ?_)
  obtain ⟨I_13, h_mo, ⟨e_13, g_13⟩, hf⟩ := hp
  have h_bu := hf.at h_bu (by first | omega | (dsimp only <;> omega))
  have h_dr := hf.at h_dr (by first | omega | (dsimp only <;> omega))
  have hE := hE.tr (hf.wk (fun j hj => by first | omega | (dsimp only at hj ⊢ <;> omega)))
  have hk5 := hR.tk h0 (by decide) e_13 g_13
  have gk : ∀ k : Nat, k ≠ 4 → k ≠ 5 → k ≠ 6 → I_13 k = I k := fun k q4 q5 q6 => (g_13 k q4).trans (gk k q4 q5 q6)
  refine r_if_eq E 28 dX11_statement_16 (by decide) (by omega) (fun c_16 => ?_) (fun c_16 => ?_)
  · skip
    obtain ⟨hh, _⟩ | ⟨_, w5, hR⟩ := hk5
    · exact absurd hh (by omega)
    refine r_aload_n E 1 hl rfl dX11_statement_28 ?_
    refine r_ldcS E hX (i := 6) (tx := "progression") (by decide +kernel) dX11_statement_29 ?_
    refine r_callVsI E hX h (As := [.ref (cy (100 + 6))]) (rest := []) (k_X11_takeWord l 6 h_mo h_bu htx hR.hL hR.hp hR.2.2.1 (by decide)) h_mo rfl gX11_statement_X11_takeWord rfl hd_X11_takeWord (by decide) ⟨by decide, by decide⟩ hl.1 rfl (Nat.le_of_ble_eq_true rfl) dX11_statement_31 rfl (fun z_31 ws H locs hp h => ?_)
    obtain ⟨I_31, h_mo, ⟨e_31, g_31⟩, hf⟩ := hp
    have h_bu := hf.at h_bu (by first | omega | (dsimp only <;> omega))
    have h_dr := hf.at h_dr (by first | omega | (dsimp only <;> omega))
    have hE := hE.tr (hf.wk (fun j hj => by first | omega | (dsimp only at hj ⊢ <;> omega)))
    have hk6 := hR.tk h0 (by decide) e_31 g_31
    have gk : ∀ k : Nat, k ≠ 4 → k ≠ 5 → k ≠ 6 → I_31 k = I k := fun k q4 q5 q6 => (g_31 k q4).trans (gk k q4 q5 q6)
    refine r_if_eq E 46 dX11_statement_34 (by decide) (by omega) (fun c_34 => ?_) (fun c_34 => ?_)
    · skip
      obtain ⟨hh, _⟩ | ⟨_, w6, hR⟩ := hk6
      · exact absurd hh (by omega)
      refine r_aload_n E 1 hl rfl dX11_statement_46 ?_
      refine r_ldcS E hX (i := 2) (tx := "colour") (by decide +kernel) dX11_statement_47 ?_
      refine r_callVsI E hX h (As := [.ref (cy (100 + 2))]) (rest := []) (k_X11_takeWord l 2 h_mo h_bu htx hR.hL hR.hp hR.2.2.1 (by decide)) h_mo rfl gX11_statement_X11_takeWord rfl hd_X11_takeWord (by decide) ⟨by decide, by decide⟩ hl.1 rfl (Nat.le_of_ble_eq_true rfl) dX11_statement_49 rfl (fun z_49 ws H locs hp h => ?_)
      obtain ⟨I_49, h_mo, ⟨e_49, g_49⟩, hf⟩ := hp
      have h_bu := hf.at h_bu (by first | omega | (dsimp only <;> omega))
      have h_dr := hf.at h_dr (by first | omega | (dsimp only <;> omega))
      have hE := hE.tr (hf.wk (fun j hj => by first | omega | (dsimp only at hj ⊢ <;> omega)))
      have hk2 := hR.tk h0 (by decide) e_49 g_49
      have gk : ∀ k : Nat, k ≠ 4 → k ≠ 5 → k ≠ 6 → I_49 k = I k := fun k q4 q5 q6 => (g_49 k q4).trans (gk k q4 q5 q6)
      refine r_if_eq E 62 dX11_statement_52 (by decide) (by omega) (fun c_52 => ?_) (fun c_52 => ?_)
      · skip
        obtain ⟨hh, _⟩ | ⟨_, w2, hR⟩ := hk2
        · exact absurd hh (by omega)
        refine r_aload_n E 1 hl rfl dX11_statement_62 ?_
        refine r_ldcS E hX (i := 7) (tx := "weight") (by decide +kernel) dX11_statement_63 ?_
        refine r_callVsI E hX h (As := [.ref (cy (100 + 7))]) (rest := []) (k_X11_takeWord l 7 h_mo h_bu htx hR.hL hR.hp hR.2.2.1 (by decide)) h_mo rfl gX11_statement_X11_takeWord rfl hd_X11_takeWord (by decide) ⟨by decide, by decide⟩ hl.1 rfl (Nat.le_of_ble_eq_true rfl) dX11_statement_65 rfl (fun z_65 ws H locs hp h => ?_)
        obtain ⟨I_65, h_mo, ⟨e_65, g_65⟩, hf⟩ := hp
        have h_bu := hf.at h_bu (by first | omega | (dsimp only <;> omega))
        have h_dr := hf.at h_dr (by first | omega | (dsimp only <;> omega))
        have hE := hE.tr (hf.wk (fun j hj => by first | omega | (dsimp only at hj ⊢ <;> omega)))
        have hk7 := hR.tk h0 (by decide) e_65 g_65
        have gk : ∀ k : Nat, k ≠ 4 → k ≠ 5 → k ≠ 6 → I_65 k = I k := fun k q4 q5 q6 => (g_65 k q4).trans (gk k q4 q5 q6)
        refine r_if_eq E 91 dX11_statement_68 (by decide) (by omega) (fun c_68 => ?_) (fun c_68 => ?_)
        · skip
          obtain ⟨hh, _⟩ | ⟨_, w7, hR⟩ := hk7
          · exact absurd hh (by omega)
          refine r_aload_n E 1 hl rfl dX11_statement_91 ?_
          refine r_bipush E dX11_statement_92 (by decide) ?_
          refine r_iload_n E 0 hl rfl dX11_statement_94 ?_
          refine r_callVV E h (As := [.int (zI (-2)), .int (zI (I_1 4))]) (rest := []) (k_X11_report l (-2) (I_1 4) h_mo hR.2.2.1) h_mo rfl gX11_statement_X11_report rfl hd_X11_report (by decide) ⟨by decide, by decide⟩ hl.1 rfl (Nat.le_of_ble_eq_true rfl) dX11_statement_95 rfl (fun ws H locs hp h => ?_)
          obtain ⟨I_95, h_mo, ⟨e_95, g_95⟩, hf⟩ := hp
          have h_bu := hf.at h_bu (by first | omega | (dsimp only <;> omega))
          have h_dr := hf.at h_dr (by first | omega | (dsimp only <;> omega))
          have hE := hE.tr (hf.wk (fun j hj => by first | omega | (dsimp only at hj ⊢ <;> omega)))
          have hR : PR bu L I_95 dr (prep (-2) (I_1 4) S) := hR.rep (by decide) e_95 g_95
          have gk : ∀ k : Nat, k ≠ 4 → k ≠ 5 → k ≠ 6 → I_95 k = I k := fun k q4 q5 q6 => (g_95 k q5 q6).trans (gk k q4 q5 q6)
          refine r_aload_n E 1 hl rfl dX11_statement_98 ?_
          refine r_bipush E dX11_statement_99 (by decide) ?_
          refine r_callVV E h (As := [.int (zI 59)]) (rest := []) (k_X11_expect l 59 h_mo h_bu htx hR.hL hR.hp hR.2.2.1 (by omega)) h_mo rfl gX11_statement_X11_expect rfl hd_X11_expect (by decide) ⟨by decide, by decide⟩ hl.1 rfl (Nat.le_of_ble_eq_true rfl) dX11_statement_101 rfl (fun ws H locs hp h => ?_)
          obtain ⟨I_101, h_mo, ⟨e_101, g_101⟩, hf⟩ := hp
          have h_bu := hf.at h_bu (by first | omega | (dsimp only <;> omega))
          have h_dr := hf.at h_dr (by first | omega | (dsimp only <;> omega))
          have hE := hE.tr (hf.wk (fun j hj => by first | omega | (dsimp only at hj ⊢ <;> omega)))
          exact r_vret E h (by
  have hwh : pWh bu L S.2.2.1 = 4 := (if_neg (by rw [w5]; decide)).trans ((if_neg (by rw [w6]; decide)).trans ((if_neg (by rw [w2]; decide)).trans ((if_neg (by rw [w7]; decide)).trans (rfl))))
  refine ⟨_, _, h_mo, h_dr, ⟨?_, Or.inr ⟨by rw [hwh]; decide, (g_101 14 (by decide) (by decide) (by decide)).trans (gk 14 (by decide) (by decide) (by decide))⟩, fun k q4 q5 q6 q14 => (g_101 k q4 q5 q6).trans (gk k q4 q5 q6)⟩, hE⟩
  have hx := hR.exp (by decide) e_101 g_101
  have hst : pStm bu L S = pexp bu L 59 (prep (-2) (I_1 4) S) := by
    unfold pStm pStB
    rw [hwh]
    rw [at4]
    rfl
  rw [hst]
  exact hx) dX11_statement_104
        · skip
          obtain ⟨_, w7, hR⟩ | ⟨hh, _⟩ := hk7
          rotate_left
          · exact absurd hh (by omega)
          have h143 : I_65 14 = S.2.2.2 3 := (gk 14 (by decide) (by decide) (by decide)).trans h14
          refine r_aload_n E 1 hl rfl dX11_statement_71 ?_
          refine r_iconst E dX11_statement_72 ?_
          refine r_iload_n E 0 hl rfl dX11_statement_73 ?_
          refine r_callVV E h (As := [.int (zI 0), .int (zI (I_1 4))]) (rest := []) (k_X11_once l (I_1 4) h_mo hR.2.2.1 (by omega)) h_mo rfl gX11_statement_X11_once rfl hd_X11_once (by decide) ⟨by decide, by decide⟩ hl.1 rfl (Nat.le_of_ble_eq_true rfl) dX11_statement_74 rfl (fun ws H locs hp h => ?_)
          obtain ⟨I_74, h_mo, ⟨e_74, f_74, g_74⟩, hf⟩ := hp
          have h_bu := hf.at h_bu (by first | omega | (dsimp only <;> omega))
          have h_dr := hf.at h_dr (by first | omega | (dsimp only <;> omega))
          have hE := hE.tr (hf.wk (fun j hj => by first | omega | (dsimp only at hj ⊢ <;> omega)))
          have h143 : I_65 14 = S.2.2.2 3 := (gk 14 (by decide) (by decide) (by decide)).trans h14
          have hRo := hR
          have hR : PR bu L I_74 dr (pW1 (I_1 4) (padv bu L 7 S)) := by
            by_cases c9 : S.2.2.2 3 = 1
            · rw [pW1_4 (S := padv bu L 7 S) h0 c9]
              have hr9 : (I_65 5 = 0 ∧ I_74 5 = -2 ∧ I_74 6 = I_1 4 ∨ I_65 5 ≠ 0 ∧ I_74 5 = I_65 5 ∧ I_74 6 = I_65 6) := by omega
              have q3 := g_74 3 (by decide) (by decide) (by decide)
              have q4 := g_74 4 (by decide) (by decide) (by decide)
              have q5 : I_65 5 = 0 := hRo.2.2.2.1.1.trans h0
              rw [prep_g (S := padv bu L 7 S) h0]
              exact hRo.err q3 (by rw [q4]; exact hRo.2.1) (by omega) (by omega) (by decide)
            · rw [pW1_n (S := padv bu L 7 S) c9]
              exact hRo.cg (g_74 3 (by decide) (by decide) (by decide)) (g_74 4 (by decide) (by decide) (by decide)) (by omega) (by omega)
          have gk14 : ∀ k : Nat, k ≠ 4 → k ≠ 5 → k ≠ 6 → k ≠ 14 → I_74 k = I k := fun k q4 q5 q6 q14 => (g_74 k q5 q6 q14).trans (gk k q4 q5 q6)
          refine r_aload_n E 1 hl rfl dX11_statement_77 ?_
          refine r_get (v := .ref (ad 9)) E h h_mo rfl inn_X11_statement_11 9 (by decide) fl_X11_statement_20 rfl dX11_statement_78 ?_
          refine r_iconst E dX11_statement_81 ?_
          refine r_iconst E dX11_statement_82 ?_
          refine r_iast E h h_dr (by omega) (by decide) dX11_statement_83 (fun ws H locs h hu => ?_)
          have h_mo := hu.keep h_mo (by omega)
          have h_bu := hu.keep h_bu (by omega)
          have h_dr : ws[b + 3]? = some (ad 9, aI cy 1111 (uZ dr 3 1)) := hu.1
          have hE := hE.tr (hu.eqx (by first | omega | (dsimp only <;> omega)))
          have hR : PR bu L I_74 (uZ dr 3 1) (pset 3 1 (pW1 (I_1 4) (padv bu L 7 S))) := hR.set (fun _ => rfl)
          have hw9 := pW_ok (t := bu) (st := I_1 4) hV h0 w7 (by have := hR.1; omega)
          have h13 : I_74 13 = 0 := (gk14 13 (by decide) (by decide) (by decide) (by decide)).trans hn13
          refine r_aload_n E 1 hl rfl dX11_statement_84 ?_
          refine r_callVsV E hX h (As := []) (rest := []) ((pc_all l G cy 5).2.2 (f := 4000) h_mo h_bu h_dr htx hR hw9.1 (by omega) (fun h9 => absurd h9 (by decide)) hw9.2.1 hw9.2.2) h_mo rfl gX11_statement_X11_sum rfl hd_X11_sum (by decide) ⟨by decide, by decide⟩ hl.1 rfl (Nat.le_of_ble_eq_true rfl) dX11_statement_85 rfl (fun ws H locs hp h => ?_)
          obtain ⟨I_85, dr_85, h_mo, h_dr, ⟨hR, g_85⟩, hf⟩ := hp
          have h_bu := hf.at h_bu (by first | omega | (dsimp only <;> omega))
          rw [h13] at hR
          have gk14 : ∀ k : Nat, k ≠ 4 → k ≠ 5 → k ≠ 6 → k ≠ 14 → I_85 k = I k := fun k q4 q5 q6 q14 => (g_85 k q4 q5 q6).trans (gk14 k q4 q5 q6 q14)
          have hE := hE.tr (hf.wk (fun j hj => by first | omega | (dsimp only at hj ⊢ <;> omega)))
          refine r_goto E 98 dX11_statement_88 (by decide) ?_
          skip
          refine r_aload_n E 1 hl rfl dX11_statement_98 ?_
          refine r_bipush E dX11_statement_99 (by decide) ?_
          refine r_callVV E h (As := [.int (zI 59)]) (rest := []) (k_X11_expect l 59 h_mo h_bu htx hR.hL hR.hp hR.2.2.1 (by omega)) h_mo rfl gX11_statement_X11_expect rfl hd_X11_expect (by decide) ⟨by decide, by decide⟩ hl.1 rfl (Nat.le_of_ble_eq_true rfl) dX11_statement_101 rfl (fun ws H locs hp h => ?_)
          obtain ⟨I_101, h_mo, ⟨e_101, g_101⟩, hf⟩ := hp
          have h_bu := hf.at h_bu (by first | omega | (dsimp only <;> omega))
          have h_dr := hf.at h_dr (by first | omega | (dsimp only <;> omega))
          have hE := hE.tr (hf.wk (fun j hj => by first | omega | (dsimp only at hj ⊢ <;> omega)))
          exact r_vret E h (by
  have hwh : pWh bu L S.2.2.1 = 3 := (if_neg (by rw [w5]; decide)).trans ((if_neg (by rw [w6]; decide)).trans ((if_neg (by rw [w2]; decide)).trans (if_pos w7)))
  refine ⟨_, _, h_mo, h_dr, ⟨?_, Or.inl ⟨hwh, (g_101 14 (by decide) (by decide) (by decide)).trans ((g_85 14 (by decide) (by decide) (by decide)).trans f_74)⟩, fun k q4 q5 q6 q14 => (g_101 k q4 q5 q6).trans (gk14 k q4 q5 q6 q14)⟩, hE⟩
  have hx := hR.exp (by decide) e_101 g_101
  have hst : pStm bu L S = pexp bu L 59 (pWt bu L (I_1 4) (padv bu L 7 S)) := by
    unfold pStm pStB
    rw [hwh]
    rw [at4]
    rfl
  rw [hst]
  exact hx) dX11_statement_104
      · skip
        obtain ⟨_, w2, hR⟩ | ⟨hh, _⟩ := hk2
        rotate_left
        · exact absurd hh (by omega)
        have h0 : (padv bu L 2 S).1 = 0 := h0
        refine r_aload_n E 1 hl rfl dX11_statement_55 ?_
        refine r_callVsV E hX h (As := []) (rest := []) (k_X11_readColour l h_mo h_bu h_dr htx hR h0 (by exact ⟨hq0.1, hq0.2.1⟩)) h_mo rfl gX11_statement_X11_readColour rfl hd_X11_readColour (by decide) ⟨by decide, by decide⟩ hl.1 rfl (Nat.le_of_ble_eq_true rfl) dX11_statement_56 rfl (fun ws H locs hp h => ?_)
        obtain ⟨I_56, dr_56, h_mo, h_dr, ⟨hR, g_56⟩, hf⟩ := hp
        have h_bu := hf.at h_bu (by first | omega | (dsimp only <;> omega))
        have gk : ∀ k : Nat, k ≠ 4 → k ≠ 5 → k ≠ 6 → I_56 k = I k := fun k q4 q5 q6 => (g_56 k q4 q5 q6).trans (gk k q4 q5 q6)
        have hE := hE.tr (hf.wk (fun j hj => by first | omega | (dsimp only at hj ⊢ <;> omega)))
        refine r_goto E 98 dX11_statement_59 (by decide) ?_
        skip
        refine r_aload_n E 1 hl rfl dX11_statement_98 ?_
        refine r_bipush E dX11_statement_99 (by decide) ?_
        refine r_callVV E h (As := [.int (zI 59)]) (rest := []) (k_X11_expect l 59 h_mo h_bu htx hR.hL hR.hp hR.2.2.1 (by omega)) h_mo rfl gX11_statement_X11_expect rfl hd_X11_expect (by decide) ⟨by decide, by decide⟩ hl.1 rfl (Nat.le_of_ble_eq_true rfl) dX11_statement_101 rfl (fun ws H locs hp h => ?_)
        obtain ⟨I_101, h_mo, ⟨e_101, g_101⟩, hf⟩ := hp
        have h_bu := hf.at h_bu (by first | omega | (dsimp only <;> omega))
        have h_dr := hf.at h_dr (by first | omega | (dsimp only <;> omega))
        have hE := hE.tr (hf.wk (fun j hj => by first | omega | (dsimp only at hj ⊢ <;> omega)))
        exact r_vret E h (by
  have hwh : pWh bu L S.2.2.1 = 2 := (if_neg (by rw [w5]; decide)).trans ((if_neg (by rw [w6]; decide)).trans (if_pos w2))
  refine ⟨_, _, h_mo, h_dr, ⟨?_, Or.inr ⟨by rw [hwh]; decide, (g_101 14 (by decide) (by decide) (by decide)).trans (gk 14 (by decide) (by decide) (by decide))⟩, fun k q4 q5 q6 q14 => (g_101 k q4 q5 q6).trans (gk k q4 q5 q6)⟩, hE⟩
  have hx := hR.exp (by decide) e_101 g_101
  have hst : pStm bu L S = pexp bu L 59 (pCol bu L (padv bu L 2 S)) := by
    unfold pStm pStB
    rw [hwh]
    rfl
  rw [hst]
  exact hx) dX11_statement_104
    · skip
      obtain ⟨_, w6, hR⟩ | ⟨hh, _⟩ := hk6
      rotate_left
      · exact absurd hh (by omega)
      have h0 : (padv bu L 6 S).1 = 0 := h0
      refine r_aload_n E 1 hl rfl dX11_statement_37 ?_
      refine r_iload_n E 0 hl rfl dX11_statement_38 ?_
      refine r_iconst E dX11_statement_39 ?_
      refine r_callVsV E hX h (As := [.int (zI (I_1 4)), .int (zI 0)]) (rest := []) (k_X11_readRule l (I_1 4) 0 h_mo h_bu h_dr htx hR h0 (by decide) (by exact hq0.2.2.1)) h_mo rfl gX11_statement_X11_readRule rfl hd_X11_readRule (by decide) ⟨by decide, by decide⟩ hl.1 rfl (Nat.le_of_ble_eq_true rfl) dX11_statement_40 rfl (fun ws H locs hp h => ?_)
      obtain ⟨I_40, dr_40, h_mo, h_dr, ⟨hR, g_40⟩, hf⟩ := hp
      have h_bu := hf.at h_bu (by first | omega | (dsimp only <;> omega))
      have gk : ∀ k : Nat, k ≠ 4 → k ≠ 5 → k ≠ 6 → I_40 k = I k := fun k q4 q5 q6 => (g_40 k q4 q5 q6).trans (gk k q4 q5 q6)
      have hE := hE.tr (hf.wk (fun j hj => by first | omega | (dsimp only at hj ⊢ <;> omega)))
      refine r_goto E 98 dX11_statement_43 (by decide) ?_
      skip
      refine r_aload_n E 1 hl rfl dX11_statement_98 ?_
      refine r_bipush E dX11_statement_99 (by decide) ?_
      refine r_callVV E h (As := [.int (zI 59)]) (rest := []) (k_X11_expect l 59 h_mo h_bu htx hR.hL hR.hp hR.2.2.1 (by omega)) h_mo rfl gX11_statement_X11_expect rfl hd_X11_expect (by decide) ⟨by decide, by decide⟩ hl.1 rfl (Nat.le_of_ble_eq_true rfl) dX11_statement_101 rfl (fun ws H locs hp h => ?_)
      obtain ⟨I_101, h_mo, ⟨e_101, g_101⟩, hf⟩ := hp
      have h_bu := hf.at h_bu (by first | omega | (dsimp only <;> omega))
      have h_dr := hf.at h_dr (by first | omega | (dsimp only <;> omega))
      have hE := hE.tr (hf.wk (fun j hj => by first | omega | (dsimp only at hj ⊢ <;> omega)))
      exact r_vret E h (by
  have hwh : pWh bu L S.2.2.1 = 1 := (if_neg (by rw [w5]; decide)).trans (if_pos w6)
  refine ⟨_, _, h_mo, h_dr, ⟨?_, Or.inr ⟨by rw [hwh]; decide, (g_101 14 (by decide) (by decide) (by decide)).trans (gk 14 (by decide) (by decide) (by decide))⟩, fun k q4 q5 q6 q14 => (g_101 k q4 q5 q6).trans (gk k q4 q5 q6)⟩, hE⟩
  have hx := hR.exp (by decide) e_101 g_101
  have hst : pStm bu L S = pexp bu L 59 (pRule bu L (I_1 4) 0 (padv bu L 6 S)) := by
    unfold pStm pStB
    rw [hwh]
    rw [at4]
    rfl
  rw [hst]
  exact hx) dX11_statement_104
  · skip
    obtain ⟨_, w5, hR⟩ | ⟨hh, _⟩ := hk5
    rotate_left
    · exact absurd hh (by omega)
    have h0 : (padv bu L 5 S).1 = 0 := h0
    refine r_aload_n E 1 hl rfl dX11_statement_19 ?_
    refine r_iload_n E 0 hl rfl dX11_statement_20 ?_
    refine r_iconst E dX11_statement_21 ?_
    refine r_callVsV E hX h (As := [.int (zI (I_1 4)), .int (zI 1)]) (rest := []) (k_X11_readRule l (I_1 4) 1 h_mo h_bu h_dr htx hR h0 (by decide) (by exact hq0.2.2.1)) h_mo rfl gX11_statement_X11_readRule rfl hd_X11_readRule (by decide) ⟨by decide, by decide⟩ hl.1 rfl (Nat.le_of_ble_eq_true rfl) dX11_statement_22 rfl (fun ws H locs hp h => ?_)
    obtain ⟨I_22, dr_22, h_mo, h_dr, ⟨hR, g_22⟩, hf⟩ := hp
    have h_bu := hf.at h_bu (by first | omega | (dsimp only <;> omega))
    have gk : ∀ k : Nat, k ≠ 4 → k ≠ 5 → k ≠ 6 → I_22 k = I k := fun k q4 q5 q6 => (g_22 k q4 q5 q6).trans (gk k q4 q5 q6)
    have hE := hE.tr (hf.wk (fun j hj => by first | omega | (dsimp only at hj ⊢ <;> omega)))
    refine r_goto E 98 dX11_statement_25 (by decide) ?_
    skip
    refine r_aload_n E 1 hl rfl dX11_statement_98 ?_
    refine r_bipush E dX11_statement_99 (by decide) ?_
    refine r_callVV E h (As := [.int (zI 59)]) (rest := []) (k_X11_expect l 59 h_mo h_bu htx hR.hL hR.hp hR.2.2.1 (by omega)) h_mo rfl gX11_statement_X11_expect rfl hd_X11_expect (by decide) ⟨by decide, by decide⟩ hl.1 rfl (Nat.le_of_ble_eq_true rfl) dX11_statement_101 rfl (fun ws H locs hp h => ?_)
    obtain ⟨I_101, h_mo, ⟨e_101, g_101⟩, hf⟩ := hp
    have h_bu := hf.at h_bu (by first | omega | (dsimp only <;> omega))
    have h_dr := hf.at h_dr (by first | omega | (dsimp only <;> omega))
    have hE := hE.tr (hf.wk (fun j hj => by first | omega | (dsimp only at hj ⊢ <;> omega)))
    exact r_vret E h (by
  have hwh : pWh bu L S.2.2.1 = 0 := if_pos w5
  refine ⟨_, _, h_mo, h_dr, ⟨?_, Or.inr ⟨by rw [hwh]; decide, (g_101 14 (by decide) (by decide) (by decide)).trans (gk 14 (by decide) (by decide) (by decide))⟩, fun k q4 q5 q6 q14 => (g_101 k q4 q5 q6).trans (gk k q4 q5 q6)⟩, hE⟩
  have hx := hR.exp (by decide) e_101 g_101
  have hst : pStm bu L S = pexp bu L 59 (pRule bu L (I_1 4) 1 (padv bu L 5 S)) := by
    unfold pStm pStB
    rw [hwh]
    rw [at4]
    rfl
  rw [hst]
  exact hx) dX11_statement_104
