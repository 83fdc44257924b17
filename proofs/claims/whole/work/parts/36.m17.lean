theorem hd_X11_undo : yX11_undo.cls = RX11 ∧ yX11_undo.cls ≠ "java/lang/invoke/MethodHandle" ∧ yX11_undo.cls ≠ "java/lang/invoke/VarHandle" ∧ (parseMethodDescriptor yX11_undo.desc).map (fun d => d.parameters.length) = some 0 := by decide +kernel
theorem fl_X11_undo_57 : Cond.fieldLink RX11 57 (TX11 0).1 (TX11 0).2.1 (TX11 0).2.2.1 ∈ wsX11_undo := List.mem_of_getElem? (i := 1) rfl
theorem inn_X11_undo_11 : ∀ w ∈ wsX110, w ∈ wsX11_undo := fun _ h => List.mem_cons_of_mem _ (List.mem_append_right _ h)
theorem fl_X11_undo_282 : Cond.fieldLink RX11 282 (TX11 12).1 (TX11 12).2.1 (TX11 12).2.2.1 ∈ wsX11_undo := List.mem_of_getElem? (i := 2) rfl
theorem fl_X11_undo_28 : Cond.fieldLink RX11 28 (TX11 11).1 (TX11 11).2.1 (TX11 11).2.2.1 ∈ wsX11_undo := List.mem_of_getElem? (i := 3) rfl
theorem fl_X11_undo_17 : Cond.fieldLink RX11 17 (TX11 8).1 (TX11 8).2.1 (TX11 8).2.2.1 ∈ wsX11_undo := List.mem_of_getElem? (i := 4) rfl
abbrev rm_X11_undo : Room := { frames := 3, cells := 0, slots := 0, locals := 74 }
set_option maxHeartbeats 4000000 in
set_option maxRecDepth 100000 in
theorem k_X11_undo (l : Launch) {G : va_G} {cy : Nat → ClassId} {ws0 : va_W} {b aM : Nat} {I : Nat → Int} {ad : Nat → Nat} {me : Int → Int} {le : Int → Int} {ru : Int → Int} {so : Int → Int} {fo : Int → Int} {wn : Int → Int} {d : Int → Int} {T T2 : List Int} {ar : Nat → Nat} {hi : Int → Option Nat} {hs : Nat → Int → Int}  (h_mo : ws0[b]? = some (aM, mO I ad)) (h_da : ws0[b + 2]? = some (ad 8, aI cy 1111 d)) (h_me : ws0[b + 14]? = some (ad 15, aI cy 38400 me)) (h_le : ws0[b + 15]? = some (ad 16, aI cy 6400 le)) (h_ru : ws0[b + 16]? = some (ad 17, aI cy 6400 ru)) (h_so : ws0[b + 17]? = some (ad 18, aI cy 4 so)) (h_fo : ws0[b + 18]? = some (ad 20, aI cy 42 fo)) (h_wn : ws0[b + 19]? = some (ad 21, aI cy 38400 wn)) (h_hi : ws0[b + 5]? = some (ad 11, aR cy 6 8 hi)) (h_rw : ∀ i : Nat, i < 8 → ws0[b + 6 + i]? = some (ar i, aI cy 1111 (hs i))) (hL : LW d me le ru so fo wn (I 19)) (hhi : ∀ i : Nat, i < 8 → hi (i : Int) = some (ar i)) (hdep : 0 ≤ I 12 ∧ I 12 ≤ 8) (hT : 0 < I 12 → DW (hs (I 12 - 1).toNat) T2) : MI l yX11_undo wsX11_undo rm_X11_undo G cy [.ref aM] ws0 (fun z u => ∃ (I2 : Nat → Int) (d2 me2 le2 ru2 so2 fo2 wn2 : Int → Int), (I 12 = 0 ∧ z = -1 ∧ d2 = d ∧ I2 12 = 0 ∨ 0 < I 12 ∧ z = I 12 - 1 ∧ d2 = hs (I 12 - 1).toNat ∧ I2 12 = I 12 - 1) ∧ u[b]? = some (aM, mO I2 ad) ∧ u[b + 2]? = some (ad 8, aI cy 1111 d2) ∧ u[b + 14]? = some (ad 15, aI cy 38400 me2) ∧ u[b + 15]? = some (ad 16, aI cy 6400 le2) ∧ u[b + 16]? = some (ad 17, aI cy 6400 ru2) ∧ u[b + 17]? = some (ad 18, aI cy 4 so2) ∧ u[b + 18]? = some (ad 20, aI cy 42 fo2) ∧ u[b + 19]? = some (ad 21, aI cy 38400 wn2) ∧ LW d2 me2 le2 ru2 so2 fo2 wn2 (I2 19) ∧ I2 0 = 0 ∧ (∀ k : Nat, k ≠ 0 → k ≠ 12 → k ≠ 19 → I2 k = I k) ∧ Eqx ws0 u (fun j => j = b ∨ j = b + 2 ∨ (b + 14 ≤ j ∧ j ≤ b + 19))) := by
  refine MI.of (own := RX11) (cc := cX11_undo) (nL := 1) (ret := (some .int)) (by decide) rfl rfl (Nat.le_of_ble_eq_true rfl) ?_
  intro p e s m below meth c A ls E h hl
  have hl : lv_has ls 1 [(0, .ref aM)] := hl
  have hE : Eqx ws0 ws0 (fun j => j = b ∨ j = b + 2 ∨ (b + 14 ≤ j ∧ j ≤ b + 19)) := Eqx.rf
  refine r_aload_n E 0 hl rfl dX11_undo_0 ?_
  refine r_iconst E dX11_undo_1 ?_
  refine r_put E h h_mo rfl inn_X11_undo_11 0 (by decide) fl_X11_undo_57 tyX11 tyX11_ok nmX11 rfl rfl rfl (Nat.le_of_ble_eq_true rfl) dX11_undo_2 (fun ws H locs h hu => ?_)
  have h_mo : ws[b]? = some (aM, mO (va_up I 0 0) ad) := hu.1
  have h_da := hu.keep h_da (by omega)
  have h_me := hu.keep h_me (by omega)
  have h_le := hu.keep h_le (by omega)
  have h_ru := hu.keep h_ru (by omega)
  have h_so := hu.keep h_so (by omega)
  have h_fo := hu.keep h_fo (by omega)
  have h_wn := hu.keep h_wn (by omega)
  have h_hi := hu.keep h_hi (by omega)
  have h_rw := fun (i : Nat) (hi : i < 8) => hu.keep (h_rw i hi) (by omega)
  have hE := hE.tr (hu.eqx (by first | omega | (dsimp only <;> omega)))
  refine r_aload_n E 0 hl rfl dX11_undo_5 ?_
  refine r_get (v := .int (zI (I 12))) E h h_mo rfl inn_X11_undo_11 12 (by decide) fl_X11_undo_282 rfl dX11_undo_6 ?_
  refine r_if_ne E 14 dX11_undo_9 (by decide) (by omega) (fun c_9 => ?_) (fun c_9 => ?_)
  · skip
    refine r_aload_n E 0 hl rfl dX11_undo_14 ?_
    refine r_dup E dX11_undo_15 rfl ?_
    refine r_get (v := .int (zI (I 12))) E h h_mo rfl inn_X11_undo_11 12 (by decide) fl_X11_undo_282 rfl dX11_undo_16 ?_
    refine r_iconst E dX11_undo_19 ?_
    refine r_isub E dX11_undo_20 ?_
    refine r_put E h h_mo rfl inn_X11_undo_11 12 (by decide) fl_X11_undo_282 tyX11 tyX11_ok nmX11 rfl rfl rfl (Nat.le_of_ble_eq_true rfl) dX11_undo_21 (fun ws H locs h hu => ?_)
    have h_mo : ws[b]? = some (aM, mO (va_up (va_up I 0 0) 12 ((I 12) - 1)) ad) := hu.1
    have h_da := hu.keep h_da (by omega)
    have h_me := hu.keep h_me (by omega)
    have h_le := hu.keep h_le (by omega)
    have h_ru := hu.keep h_ru (by omega)
    have h_so := hu.keep h_so (by omega)
    have h_fo := hu.keep h_fo (by omega)
    have h_wn := hu.keep h_wn (by omega)
    have h_hi := hu.keep h_hi (by omega)
    have h_rw := fun (i : Nat) (hi : i < 8) => hu.keep (h_rw i hi) (by omega)
    have hE := hE.tr (hu.eqx (by first | omega | (dsimp only <;> omega)))
    have hdp : 0 < I 12 := by omega
    refine r_aload_n E 0 hl rfl dX11_undo_24 ?_
    refine r_get (v := .ref (ad 11)) E h h_mo rfl inn_X11_undo_11 11 (by decide) fl_X11_undo_28 rfl dX11_undo_25 ?_
    refine r_aload_n E 0 hl rfl dX11_undo_28 ?_
    refine r_get (v := .int (zI ((I 12) - 1))) E h h_mo rfl inn_X11_undo_11 12 (by decide) fl_X11_undo_282 rfl dX11_undo_29 ?_
    have h_r1 := h_rw (I 12 - 1).toNat (by omega)
    refine r_aaldA E h h_hi (by omega) (by decide) dX11_undo_32 (r := some (ar (I 12 - 1).toNat)) (by rw [show I 12 - 1 = (((I 12 - 1).toNat : Nat) : Int) by omega]; exact hhi _ (by omega)) ?_
    refine r_aload_n E 0 hl rfl dX11_undo_33 ?_
    refine r_get (v := .ref (ad 8)) E h h_mo rfl inn_X11_undo_11 8 (by decide) fl_X11_undo_17 rfl dX11_undo_34 ?_
    refine r_callSV E h (As := [.ref (ar (I 12 - 1).toNat), .ref (ad 8)]) (rest := []) (k_X11_copy l h_r1 h_da (by omega)) gX11_undo_X11_copy rfl hd_X11_copy (by decide) ⟨by decide, by decide⟩ hl.1 rfl (Nat.le_of_ble_eq_true rfl) dX11_undo_37 rfl (fun ws H locs hp h => ?_)
    obtain ⟨h_da, hf⟩ := hp
    have h_mo := hf.at h_mo (by first | omega | (dsimp only <;> omega))
    have h_me := hf.at h_me (by first | omega | (dsimp only <;> omega))
    have h_le := hf.at h_le (by first | omega | (dsimp only <;> omega))
    have h_ru := hf.at h_ru (by first | omega | (dsimp only <;> omega))
    have h_so := hf.at h_so (by first | omega | (dsimp only <;> omega))
    have h_fo := hf.at h_fo (by first | omega | (dsimp only <;> omega))
    have h_wn := hf.at h_wn (by first | omega | (dsimp only <;> omega))
    have h_hi := hf.at h_hi (by first | omega | (dsimp only <;> omega))
    have h_rw := fun (i : Nat) (hi : i < 8) => hf.at (h_rw i hi) (by first | omega | (dsimp only <;> omega))
    have h_r1 := hf.at h_r1 (by first | omega | (dsimp only <;> omega))
    have hE := hE.tr (hf.wk (fun j hj => by first | omega | (dsimp only at hj ⊢ <;> omega)))
    refine r_aload_n E 0 hl rfl dX11_undo_40 ?_
    refine r_callVV E h (As := []) (rest := []) (k_X11_layAll l h_mo h_da h_me h_le h_ru h_so h_fo h_wn (hT hdp)) h_mo rfl gX11_undo_X11_layAll rfl hd_X11_layAll (by decide) ⟨by decide, by decide⟩ hl.1 rfl (Nat.le_of_ble_eq_true rfl) dX11_undo_41 rfl (fun ws H locs hp h => ?_)
    obtain ⟨I_41, me_41, le_41, ru_41, so_41, fo_41, wn_41, h_mo, h_me, h_le, h_ru, h_so, h_fo, h_wn, e_41, g_41, hf⟩ := hp
    have h_da := hf.at h_da (by first | omega | (dsimp only <;> omega))
    have h_hi := hf.at h_hi (by first | omega | (dsimp only <;> omega))
    have h_rw := fun (i : Nat) (hi : i < 8) => hf.at (h_rw i hi) (by first | omega | (dsimp only <;> omega))
    have h_r1 := hf.at h_r1 (by first | omega | (dsimp only <;> omega))
    have hE := hE.tr (hf.wk (fun j hj => by first | omega | (dsimp only at hj ⊢ <;> omega)))
    refine r_aload_n E 0 hl rfl dX11_undo_44 ?_
    refine r_get (v := .int (zI (I_41 12))) E h h_mo rfl inn_X11_undo_11 12 (by decide) fl_X11_undo_282 rfl dX11_undo_45 ?_
    rw [show I_41 12 = (I 12 - 1) from (by rw [g_41 12 (by decide)]; rfl)]
    exact r_iret E h ⟨I_41, _, me_41, le_41, ru_41, so_41, fo_41, wn_41, Or.inr ⟨hdp, rfl, rfl, by rw [g_41 12 (by decide)]; rfl⟩, h_mo, h_da, h_me, h_le, h_ru, h_so, h_fo, h_wn, e_41, by rw [g_41 0 (by decide)]; rfl, fun k h0 h1 h2 => by rw [g_41 k h2]; simp [va_up, h0, h1], hE⟩ dX11_undo_48
  · skip
    refine r_iconst E dX11_undo_12 ?_
    exact r_iret E h ⟨va_up I 0 0, d, me, le, ru, so, fo, wn, Or.inl ⟨by omega, rfl, rfl, (show I 12 = 0 by omega)⟩, h_mo, h_da, h_me, h_le, h_ru, h_so, h_fo, h_wn, hL, rfl, fun k h0 _ _ => by simp [va_up, h0], hE⟩ dX11_undo_13
