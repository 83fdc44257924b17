theorem hd_X11_load : yX11_load.cls = RX11 ∧ yX11_load.cls ≠ "java/lang/invoke/MethodHandle" ∧ yX11_load.cls ≠ "java/lang/invoke/VarHandle" ∧ (parseMethodDescriptor yX11_load.desc).map (fun d => d.parameters.length) = some 1 := by decide +kernel
theorem fl_X11_load_57 : Cond.fieldLink RX11 57 (TX11 0).1 (TX11 0).2.1 (TX11 0).2.2.1 ∈ wsX11_load := List.mem_of_getElem? (i := 1) rfl
theorem inn_X11_load_11 : ∀ w ∈ wsX110, w ∈ wsX11_load := fun _ h => List.mem_cons_of_mem _ (List.mem_append_right _ h)
theorem fl_X11_load_60 : Cond.fieldLink RX11 60 (TX11 2).1 (TX11 2).2.1 (TX11 2).2.2.1 ∈ wsX11_load := List.mem_of_getElem? (i := 2) rfl
theorem fl_X11_load_63 : Cond.fieldLink RX11 63 (TX11 3).1 (TX11 3).2.1 (TX11 3).2.2.1 ∈ wsX11_load := List.mem_of_getElem? (i := 3) rfl
theorem fl_X11_load_66 : Cond.fieldLink RX11 66 (TX11 4).1 (TX11 4).2.1 (TX11 4).2.2.1 ∈ wsX11_load := List.mem_of_getElem? (i := 4) rfl
theorem fl_X11_load_73 : Cond.fieldLink RX11 73 (TX11 5).1 (TX11 5).2.1 (TX11 5).2.2.1 ∈ wsX11_load := List.mem_of_getElem? (i := 5) rfl
theorem fl_X11_load_76 : Cond.fieldLink RX11 76 (TX11 6).1 (TX11 6).2.1 (TX11 6).2.2.1 ∈ wsX11_load := List.mem_of_getElem? (i := 6) rfl
theorem fl_X11_load_113 : Cond.fieldLink RX11 113 (TX11 13).1 (TX11 13).2.1 (TX11 13).2.2.1 ∈ wsX11_load := List.mem_of_getElem? (i := 7) rfl
theorem fl_X11_load_145 : Cond.fieldLink RX11 145 (TX11 14).1 (TX11 14).2.1 (TX11 14).2.2.1 ∈ wsX11_load := List.mem_of_getElem? (i := 8) rfl
theorem fl_X11_load_20 : Cond.fieldLink RX11 20 (TX11 9).1 (TX11 9).2.1 (TX11 9).2.2.1 ∈ wsX11_load := List.mem_of_getElem? (i := 9) rfl
theorem fl_X11_load_13 : Cond.fieldLink RX11 13 (TX11 7).1 (TX11 7).2.1 (TX11 7).2.2.1 ∈ wsX11_load := List.mem_of_getElem? (i := 10) rfl
theorem fl_X11_load_17 : Cond.fieldLink RX11 17 (TX11 8).1 (TX11 8).2.1 (TX11 8).2.2.1 ∈ wsX11_load := List.mem_of_getElem? (i := 11) rfl
abbrev rm_X11_load : Room := { frames := 44, cells := 0, slots := 0, locals := 1002 }
set_option maxHeartbeats 4000000 in
set_option maxRecDepth 100000 in
theorem k_X11_load (l : Launch) {G : va_G} {cy : Nat → ClassId} {ws0 : va_W} {b aM : Nat} {I : Nat → Int} {ad : Nat → Nat} {bu : Int → Int} {dr : Int → Int} {me : Int → Int} {le : Int → Int} {ru : Int → Int} {so : Int → Int} {fo : Int → Int} {wn : Int → Int} {d : Int → Int} {ar : Nat → Nat} {hi : Int → Option Nat} {hs : Nat → Int → Int} (tl : Int)  (h_mo : ws0[b]? = some (aM, mO I ad)) (h_bu : ws0[b + 1]? = some (ad 1, aI cy 600 bu)) (h_da : ws0[b + 2]? = some (ad 8, aI cy 1111 d)) (h_dr : ws0[b + 3]? = some (ad 9, aI cy 1111 dr)) (h_me : ws0[b + 14]? = some (ad 15, aI cy 38400 me)) (h_le : ws0[b + 15]? = some (ad 16, aI cy 6400 le)) (h_ru : ws0[b + 16]? = some (ad 17, aI cy 6400 ru)) (h_so : ws0[b + 17]? = some (ad 18, aI cy 4 so)) (h_fo : ws0[b + 18]? = some (ad 20, aI cy 42 fo)) (h_wn : ws0[b + 19]? = some (ad 21, aI cy 38400 wn)) (h_hi : ws0[b + 5]? = some (ad 11, aR cy 6 8 hi)) (h_rw : ∀ i : Nat, i < 8 → ws0[b + 6 + i]? = some (ar i, aI cy 1111 (hs i))) (htx : TXok bu) (hL : LW d me le ru so fo wn (I 19)) (hhi : ∀ i : Nat, i < 8 → hi (i : Int) = some (ar i)) (hdep : 0 ≤ I 12 ∧ I 12 ≤ 8) (hb : 0 ≤ I 2 ∧ I 2 ≤ 600) (htl : -2147483648 ≤ tl ∧ tl ≤ 2147483647) : MIs l yX11_load wsX11_load rm_X11_load G cy [.ref aM, .int (zI tl)] ws0 (fun z u => ∃ (I2 : Nat → Int) (d2 dr2 me2 le2 ru2 so2 fo2 wn2 : Int → Int) (hs2 : Nat → Int → Int), ((tl < 0 ∨ I 2 < tl) ∧ z = 0 ∧ I2 0 = 1 ∧ I2 2 = I 2 ∧ I2 7 = I 7 ∧ I2 12 = I 12 ∧ d2 = d ∧ hs2 = hs ∨ (0 ≤ tl ∧ tl ≤ I 2) ∧ I2 0 = 0 ∧ I2 2 = 0 ∧ I2 7 = (pLoad bu tl).2.1 ∧ ((pLoad bu tl).1 ≠ 0 ∧ z = (pLoad bu tl).1 ∧ I2 12 = I 12 ∧ d2 = d ∧ hs2 = hs ∨ (pLoad bu tl).1 = 0 ∧ z = (pLoad bu tl).2.2.2 2 ∧ I2 12 = rn (I 12) ∧ d2 = (pLoad bu tl).2.2.2 ∧ hs2 = rem (I 12) hs d)) ∧ u[b]? = some (aM, mO I2 ad) ∧ u[b + 2]? = some (ad 8, aI cy 1111 d2) ∧ u[b + 3]? = some (ad 9, aI cy 1111 dr2) ∧ (∀ i : Nat, i < 8 → u[b + 6 + i]? = some (ar i, aI cy 1111 (hs2 i))) ∧ u[b + 14]? = some (ad 15, aI cy 38400 me2) ∧ u[b + 15]? = some (ad 16, aI cy 6400 le2) ∧ u[b + 16]? = some (ad 17, aI cy 6400 ru2) ∧ u[b + 17]? = some (ad 18, aI cy 4 so2) ∧ u[b + 18]? = some (ad 20, aI cy 42 fo2) ∧ u[b + 19]? = some (ad 21, aI cy 38400 wn2) ∧ LW d2 me2 le2 ru2 so2 fo2 wn2 (I2 19) ∧ (∀ k : Nat, k ≠ 0 → k ≠ 2 → k ≠ 3 → k ≠ 4 → k ≠ 5 → k ≠ 6 → k ≠ 7 → k ≠ 12 → k ≠ 13 → k ≠ 14 → k ≠ 19 → I2 k = I k) ∧ Eqx ws0 u (fun j => j = b ∨ j = b + 2 ∨ j = b + 3 ∨ (b + 6 ≤ j ∧ j ≤ b + 19))) := by
  refine MIs.of (own := RX11) (cc := cX11_load) (nL := 3) (ret := (some .int)) (by decide) rfl rfl (Nat.le_of_ble_eq_true rfl) ?_
  intro p e s m below meth c A ls hX E h hl
  have hl : lv_has ls 3 [(0, .ref aM), (1, .int (zI tl))] := hl
  have hE : Eqx ws0 ws0 (fun j => j = b ∨ j = b + 2 ∨ j = b + 3 ∨ (b + 6 ≤ j ∧ j ≤ b + 19)) := Eqx.rf
  refine r_aload_n E 0 hl rfl dX11_load_0 ?_
  refine r_iconst E dX11_load_1 ?_
  refine r_put E h h_mo rfl inn_X11_load_11 0 (by decide) fl_X11_load_57 tyX11 tyX11_ok nmX11 rfl rfl rfl (Nat.le_of_ble_eq_true rfl) dX11_load_2 (fun ws H locs h hu => ?_)
  have h_mo : ws[b]? = some (aM, mO (va_up I 0 0) ad) := hu.1
  have h_bu := hu.keep h_bu (by omega)
  have h_da := hu.keep h_da (by omega)
  have h_dr := hu.keep h_dr (by omega)
  have h_me := hu.keep h_me (by omega)
  have h_le := hu.keep h_le (by omega)
  have h_ru := hu.keep h_ru (by omega)
  have h_so := hu.keep h_so (by omega)
  have h_fo := hu.keep h_fo (by omega)
  have h_wn := hu.keep h_wn (by omega)
  have h_hi := hu.keep h_hi (by omega)
  have h_rw := fun (i : Nat) (hi : i < 8) => hu.keep (h_rw i hi) (by omega)
  have hE := hE.tr (hu.eqx (by first | omega | (dsimp only <;> omega)))
  refine r_aload_n E 0 hl rfl dX11_load_5 ?_
  refine r_iload_n E 1 hl rfl dX11_load_6 ?_
  refine r_iconst E dX11_load_7 ?_
  refine r_aload_n E 0 hl rfl dX11_load_8 ?_
  refine r_get (v := .int (zI (I 2))) E h h_mo rfl inn_X11_load_11 2 (by decide) fl_X11_load_60 rfl dX11_load_9 ?_
  refine r_callSI E h (As := [.int (zI tl), .int (zI 0), .int (zI (I 2))]) (rest := [.ref aM]) (k_X11_in l tl 0 (I 2) (by omega)) gX11_load_X11_in rfl hd_X11_in (by decide) ⟨by decide, by decide⟩ hl.1 rfl (Nat.le_of_ble_eq_true rfl) dX11_load_12 rfl (fun z_12 ws H locs hp h => ?_)
  obtain ⟨e_z_12, rfl⟩ := hp
  refine r_cut (α := Int) (fun x_15 H locs ls => (x_15 = 0 ∧ ¬ z_12 = 0 ∨ x_15 = 1 ∧ z_12 = 0) ∧ Hp G ws A s.heap H locs ∧ lv_has ls 3 [(0, .ref aM), (1, .int (zI tl))]) 23 (fun x_15 => [.int (zI x_15), .ref aM]) ?_ ?_
  · rintro x_15 H locs ls ⟨b_15, h, hl⟩
    refine r_iconst E dX11_load_23 ?_
    refine r_callVI E h (As := [.int (zI x_15), .int (zI 1)]) (rest := []) (k_X11_fails l x_15 1 h_mo (by omega) (by omega) (by first | rfl | (simp [va_up]; done) | (simp [va_up]; omega))) h_mo rfl gX11_load_X11_fails rfl hd_X11_fails (by decide) ⟨by decide, by decide⟩ hl.1 rfl (Nat.le_of_ble_eq_true rfl) dX11_load_24 rfl (fun z_24 ws H locs hp h => ?_)
    obtain ⟨t_24, e_24, h_mo, hf⟩ := hp
    have h_bu := hf.at h_bu (by first | omega | (dsimp only <;> omega))
    have h_da := hf.at h_da (by first | omega | (dsimp only <;> omega))
    have h_dr := hf.at h_dr (by first | omega | (dsimp only <;> omega))
    have h_me := hf.at h_me (by first | omega | (dsimp only <;> omega))
    have h_le := hf.at h_le (by first | omega | (dsimp only <;> omega))
    have h_ru := hf.at h_ru (by first | omega | (dsimp only <;> omega))
    have h_so := hf.at h_so (by first | omega | (dsimp only <;> omega))
    have h_fo := hf.at h_fo (by first | omega | (dsimp only <;> omega))
    have h_wn := hf.at h_wn (by first | omega | (dsimp only <;> omega))
    have h_hi := hf.at h_hi (by first | omega | (dsimp only <;> omega))
    have h_rw := fun (i : Nat) (hi : i < 8) => hf.at (h_rw i hi) (by first | omega | (dsimp only <;> omega))
    have hE := hE.tr (hf.wk (fun j hj => by first | omega | (dsimp only at hj ⊢ <;> omega)))
    refine r_if_eq E 32 dX11_load_27 (by decide) (by omega) (fun c_27 => ?_) (fun c_27 => ?_)
    · skip
      refine r_aload_n E 0 hl rfl dX11_load_32 ?_
      refine r_iconst E dX11_load_33 ?_
      refine r_put E h h_mo rfl inn_X11_load_11 2 (by decide) fl_X11_load_60 tyX11 tyX11_ok nmX11 rfl rfl rfl (Nat.le_of_ble_eq_true rfl) dX11_load_34 (fun ws H locs h hu => ?_)
      have h_mo : ws[b]? = some (aM, mO (va_up (va_up (va_up I 0 0) 0 t_24) 2 0) ad) := hu.1
      have h_bu := hu.keep h_bu (by omega)
      have h_da := hu.keep h_da (by omega)
      have h_dr := hu.keep h_dr (by omega)
      have h_me := hu.keep h_me (by omega)
      have h_le := hu.keep h_le (by omega)
      have h_ru := hu.keep h_ru (by omega)
      have h_so := hu.keep h_so (by omega)
      have h_fo := hu.keep h_fo (by omega)
      have h_wn := hu.keep h_wn (by omega)
      have h_hi := hu.keep h_hi (by omega)
      have h_rw := fun (i : Nat) (hi : i < 8) => hu.keep (h_rw i hi) (by omega)
      have hE := hE.tr (hu.eqx (by first | omega | (dsimp only <;> omega)))
      refine r_aload_n E 0 hl rfl dX11_load_37 ?_
      refine r_iload_n E 1 hl rfl dX11_load_38 ?_
      refine r_put E h h_mo rfl inn_X11_load_11 3 (by decide) fl_X11_load_63 tyX11 tyX11_ok nmX11 rfl rfl rfl (Nat.le_of_ble_eq_true rfl) dX11_load_39 (fun ws H locs h hu => ?_)
      have h_mo : ws[b]? = some (aM, mO (va_up (va_up (va_up (va_up I 0 0) 0 t_24) 2 0) 3 tl) ad) := hu.1
      have h_bu := hu.keep h_bu (by omega)
      have h_da := hu.keep h_da (by omega)
      have h_dr := hu.keep h_dr (by omega)
      have h_me := hu.keep h_me (by omega)
      have h_le := hu.keep h_le (by omega)
      have h_ru := hu.keep h_ru (by omega)
      have h_so := hu.keep h_so (by omega)
      have h_fo := hu.keep h_fo (by omega)
      have h_wn := hu.keep h_wn (by omega)
      have h_hi := hu.keep h_hi (by omega)
      have h_rw := fun (i : Nat) (hi : i < 8) => hu.keep (h_rw i hi) (by omega)
      have hE := hE.tr (hu.eqx (by first | omega | (dsimp only <;> omega)))
      refine r_aload_n E 0 hl rfl dX11_load_42 ?_
      refine r_iconst E dX11_load_43 ?_
      refine r_put E h h_mo rfl inn_X11_load_11 4 (by decide) fl_X11_load_66 tyX11 tyX11_ok nmX11 rfl rfl rfl (Nat.le_of_ble_eq_true rfl) dX11_load_44 (fun ws H locs h hu => ?_)
      have h_mo : ws[b]? = some (aM, mO (va_up (va_up (va_up (va_up (va_up I 0 0) 0 t_24) 2 0) 3 tl) 4 0) ad) := hu.1
      have h_bu := hu.keep h_bu (by omega)
      have h_da := hu.keep h_da (by omega)
      have h_dr := hu.keep h_dr (by omega)
      have h_me := hu.keep h_me (by omega)
      have h_le := hu.keep h_le (by omega)
      have h_ru := hu.keep h_ru (by omega)
      have h_so := hu.keep h_so (by omega)
      have h_fo := hu.keep h_fo (by omega)
      have h_wn := hu.keep h_wn (by omega)
      have h_hi := hu.keep h_hi (by omega)
      have h_rw := fun (i : Nat) (hi : i < 8) => hu.keep (h_rw i hi) (by omega)
      have hE := hE.tr (hu.eqx (by first | omega | (dsimp only <;> omega)))
      refine r_aload_n E 0 hl rfl dX11_load_47 ?_
      refine r_iconst E dX11_load_48 ?_
      refine r_put E h h_mo rfl inn_X11_load_11 5 (by decide) fl_X11_load_73 tyX11 tyX11_ok nmX11 rfl rfl rfl (Nat.le_of_ble_eq_true rfl) dX11_load_49 (fun ws H locs h hu => ?_)
      have h_mo : ws[b]? = some (aM, mO (va_up (va_up (va_up (va_up (va_up (va_up I 0 0) 0 t_24) 2 0) 3 tl) 4 0) 5 0) ad) := hu.1
      have h_bu := hu.keep h_bu (by omega)
      have h_da := hu.keep h_da (by omega)
      have h_dr := hu.keep h_dr (by omega)
      have h_me := hu.keep h_me (by omega)
      have h_le := hu.keep h_le (by omega)
      have h_ru := hu.keep h_ru (by omega)
      have h_so := hu.keep h_so (by omega)
      have h_fo := hu.keep h_fo (by omega)
      have h_wn := hu.keep h_wn (by omega)
      have h_hi := hu.keep h_hi (by omega)
      have h_rw := fun (i : Nat) (hi : i < 8) => hu.keep (h_rw i hi) (by omega)
      have hE := hE.tr (hu.eqx (by first | omega | (dsimp only <;> omega)))
      refine r_aload_n E 0 hl rfl dX11_load_52 ?_
      refine r_iconst E dX11_load_53 ?_
      refine r_put E h h_mo rfl inn_X11_load_11 6 (by decide) fl_X11_load_76 tyX11 tyX11_ok nmX11 rfl rfl rfl (Nat.le_of_ble_eq_true rfl) dX11_load_54 (fun ws H locs h hu => ?_)
      have h_mo : ws[b]? = some (aM, mO (va_up (va_up (va_up (va_up (va_up (va_up (va_up I 0 0) 0 t_24) 2 0) 3 tl) 4 0) 5 0) 6 (-1)) ad) := hu.1
      have h_bu := hu.keep h_bu (by omega)
      have h_da := hu.keep h_da (by omega)
      have h_dr := hu.keep h_dr (by omega)
      have h_me := hu.keep h_me (by omega)
      have h_le := hu.keep h_le (by omega)
      have h_ru := hu.keep h_ru (by omega)
      have h_so := hu.keep h_so (by omega)
      have h_fo := hu.keep h_fo (by omega)
      have h_wn := hu.keep h_wn (by omega)
      have h_hi := hu.keep h_hi (by omega)
      have h_rw := fun (i : Nat) (hi : i < 8) => hu.keep (h_rw i hi) (by omega)
      have hE := hE.tr (hu.eqx (by first | omega | (dsimp only <;> omega)))
      refine r_aload_n E 0 hl rfl dX11_load_57 ?_
      refine r_iconst E dX11_load_58 ?_
      refine r_put E h h_mo rfl inn_X11_load_11 13 (by decide) fl_X11_load_113 tyX11 tyX11_ok nmX11 rfl rfl rfl (Nat.le_of_ble_eq_true rfl) dX11_load_59 (fun ws H locs h hu => ?_)
      have h_mo : ws[b]? = some (aM, mO (va_up (va_up (va_up (va_up (va_up (va_up (va_up (va_up I 0 0) 0 t_24) 2 0) 3 tl) 4 0) 5 0) 6 (-1)) 13 0) ad) := hu.1
      have h_bu := hu.keep h_bu (by omega)
      have h_da := hu.keep h_da (by omega)
      have h_dr := hu.keep h_dr (by omega)
      have h_me := hu.keep h_me (by omega)
      have h_le := hu.keep h_le (by omega)
      have h_ru := hu.keep h_ru (by omega)
      have h_so := hu.keep h_so (by omega)
      have h_fo := hu.keep h_fo (by omega)
      have h_wn := hu.keep h_wn (by omega)
      have h_hi := hu.keep h_hi (by omega)
      have h_rw := fun (i : Nat) (hi : i < 8) => hu.keep (h_rw i hi) (by omega)
      have hE := hE.tr (hu.eqx (by first | omega | (dsimp only <;> omega)))
      refine r_aload_n E 0 hl rfl dX11_load_62 ?_
      refine r_iconst E dX11_load_63 ?_
      refine r_put E h h_mo rfl inn_X11_load_11 14 (by decide) fl_X11_load_145 tyX11 tyX11_ok nmX11 rfl rfl rfl (Nat.le_of_ble_eq_true rfl) dX11_load_64 (fun ws H locs h hu => ?_)
      have h_mo : ws[b]? = some (aM, mO (va_up (va_up (va_up (va_up (va_up (va_up (va_up (va_up (va_up I 0 0) 0 t_24) 2 0) 3 tl) 4 0) 5 0) 6 (-1)) 13 0) 14 0) ad) := hu.1
      have h_bu := hu.keep h_bu (by omega)
      have h_da := hu.keep h_da (by omega)
      have h_dr := hu.keep h_dr (by omega)
      have h_me := hu.keep h_me (by omega)
      have h_le := hu.keep h_le (by omega)
      have h_ru := hu.keep h_ru (by omega)
      have h_so := hu.keep h_so (by omega)
      have h_fo := hu.keep h_fo (by omega)
      have h_wn := hu.keep h_wn (by omega)
      have h_hi := hu.keep h_hi (by omega)
      have h_rw := fun (i : Nat) (hi : i < 8) => hu.keep (h_rw i hi) (by omega)
      have hE := hE.tr (hu.eqx (by first | omega | (dsimp only <;> omega)))
      obtain ⟨I9, hI9⟩ : ∃ J : Nat → Int, J = va_up (va_up (va_up (va_up (va_up (va_up (va_up (va_up (va_up I 0 0) 0 t_24) 2 0) 3 tl) 4 0) 5 0) 6 (-1)) 13 0) 14 0 := ⟨_, rfl⟩
      have h_mo : ws[b]? = some (aM, mO I9 ad) := by rw [hI9]; exact h_mo
      have v0 : I9 0 = 0 := by rw [hI9]; simp [va_up]; omega
      have v2 : I9 2 = 0 := by rw [hI9]; simp [va_up]
      have v3 : I9 3 = tl := by rw [hI9]; simp [va_up]
      have v4 : I9 4 = 0 := by rw [hI9]; simp [va_up]
      have v5 : I9 5 = 0 := by rw [hI9]; simp [va_up]
      have v6 : I9 6 = -1 := by rw [hI9]; simp [va_up]
      have v13 : I9 13 = 0 := by rw [hI9]; simp [va_up]
      have v14 : I9 14 = 0 := by rw [hI9]; simp [va_up]
      have vk : ∀ k : Nat, k ≠ 0 → k ≠ 2 → k ≠ 3 → k ≠ 4 → k ≠ 5 → k ≠ 6 → k ≠ 13 → k ≠ 14 → I9 k = I k := fun k k0 k2 k3 k4 k5 k6 k13 k14 => by rw [hI9]; simp [va_up, k0, k2, k3, k4, k5, k6, k13, k14]
      clear hI9
      refine r_iconst E dX11_load_67 ?_
      refine r_istore_n (lv' := [(2, .int (zI 0)), (0, .ref aM), (1, .int (zI tl))]) E hl dX11_load_68 rfl (by decide) rfl (fun ls hl => ?_)
      refine r_loop (fun n H locs ls => ∃ (ws : va_W) (k : Int) (dr3 : Int → Int), n = (1111 - k).toNat ∧ (0 ≤ k ∧ k ≤ 1111) ∧ (∀ j : Int, 0 ≤ j → j < k → dr3 j = 0) ∧ Hp G ws A s.heap H locs ∧ (ws[b]? = some (aM, mO I9 ad)) ∧ (ws[b + 1]? = some (ad 1, aI cy 600 bu)) ∧ (ws[b + 2]? = some (ad 8, aI cy 1111 d)) ∧ (ws[b + 3]? = some (ad 9, aI cy 1111 dr3)) ∧ (ws[b + 14]? = some (ad 15, aI cy 38400 me)) ∧ (ws[b + 15]? = some (ad 16, aI cy 6400 le)) ∧ (ws[b + 16]? = some (ad 17, aI cy 6400 ru)) ∧ (ws[b + 17]? = some (ad 18, aI cy 4 so)) ∧ (ws[b + 18]? = some (ad 20, aI cy 42 fo)) ∧ (ws[b + 19]? = some (ad 21, aI cy 38400 wn)) ∧ (ws[b + 5]? = some (ad 11, aR cy 6 8 hi)) ∧ (∀ i : Nat, i < 8 → ws[b + 6 + i]? = some (ar i, aI cy 1111 (hs i))) ∧ Eqx ws0 ws (fun j => j = b ∨ j = b + 2 ∨ j = b + 3 ∨ (b + 6 ≤ j ∧ j ≤ b + 19)) ∧ lv_has ls 3 [(0, .ref aM), (1, .int (zI tl)), (2, .int (zI k))]) _ ⟨ws, 0, dr, rfl, (by omega), (fun j j0 j1 => absurd j1 (by omega)), h, h_mo, h_bu, h_da, h_dr, h_me, h_le, h_ru, h_so, h_fo, h_wn, h_hi, h_rw, hE, lv_sub hl [1, 2, 0] rfl⟩ ?_
      rintro n H locs ls ⟨ws, k, dr3, hn, i1, i2, h, h_mo, h_bu, h_da, h_dr, h_me, h_le, h_ru, h_so, h_fo, h_wn, h_hi, h_rw, hE, hl⟩ ih_69
      refine r_iload_n E 2 hl rfl dX11_load_69 ?_
      refine r_sipush E dX11_load_70 (by decide) ?_
      refine r_icmp_ge E 89 dX11_load_73 (by decide) (by omega) (fun c_73 => ?_) (fun c_73 => ?_)
      · skip
        obtain ⟨ws, h, hu⟩ := h.recon h_dr (g := fun _ => (0 : Int)) (fun j j0 j1 => i2 j j0 (by omega))
        have h_mo := hu.keep h_mo (by omega)
        have h_bu := hu.keep h_bu (by omega)
        have h_da := hu.keep h_da (by omega)
        have h_dr : ws[b + 3]? = some (ad 9, aI cy 1111 (fun _ => (0 : Int))) := hu.1
        have h_me := hu.keep h_me (by omega)
        have h_le := hu.keep h_le (by omega)
        have h_ru := hu.keep h_ru (by omega)
        have h_so := hu.keep h_so (by omega)
        have h_fo := hu.keep h_fo (by omega)
        have h_wn := hu.keep h_wn (by omega)
        have h_hi := hu.keep h_hi (by omega)
        have h_rw := fun (i : Nat) (hi : i < 8) => hu.keep (h_rw i hi) (by omega)
        have hE := hE.tr (hu.eqx (by first | omega | (dsimp only <;> omega)))
        have hs0 := sk_rng (t := bu) (L := tl) (p := 0) (by omega)
        have hR : PR bu tl I9 (fun _ => (0 : Int)) ((0, -1, sk bu tl 0, fun _ => 0) : PSt) := ⟨⟨v3, by omega, by omega⟩, by omega, by omega, ⟨v5, v6⟩, fun _ => ⟨by rw [v4], rfl⟩⟩
        have gk : ∀ k : Nat, k ≠ 4 → k ≠ 5 → k ≠ 6 → I9 k = I9 k := fun _ _ _ _ => rfl
        refine r_aload_n E 0 hl rfl dX11_load_89 ?_
        refine r_ldcS E hX (i := 8) (tx := "numbers") (by decide +kernel) dX11_load_90 ?_
        refine r_callVsI E hX h (As := [.ref (cy (100 + 8))]) (rest := []) (k_X11_takeWord l 8 h_mo h_bu htx hR.hL hR.hp hR.2.2.1 (by decide)) h_mo rfl gX11_load_X11_takeWord rfl hd_X11_takeWord (by decide) ⟨by decide, by decide⟩ hl.1 rfl (Nat.le_of_ble_eq_true rfl) dX11_load_92 rfl (fun z_92 ws H locs hp h => ?_)
        obtain ⟨I_92, h_mo, ⟨e_92, g_92⟩, hf⟩ := hp
        have h_bu := hf.at h_bu (by first | omega | (dsimp only <;> omega))
        have h_da := hf.at h_da (by first | omega | (dsimp only <;> omega))
        have h_dr := hf.at h_dr (by first | omega | (dsimp only <;> omega))
        have h_me := hf.at h_me (by first | omega | (dsimp only <;> omega))
        have h_le := hf.at h_le (by first | omega | (dsimp only <;> omega))
        have h_ru := hf.at h_ru (by first | omega | (dsimp only <;> omega))
        have h_so := hf.at h_so (by first | omega | (dsimp only <;> omega))
        have h_fo := hf.at h_fo (by first | omega | (dsimp only <;> omega))
        have h_wn := hf.at h_wn (by first | omega | (dsimp only <;> omega))
        have h_hi := hf.at h_hi (by first | omega | (dsimp only <;> omega))
        have h_rw := fun (i : Nat) (hi : i < 8) => hf.at (h_rw i hi) (by first | omega | (dsimp only <;> omega))
        have hE := hE.tr (hf.wk (fun j hj => by first | omega | (dsimp only at hj ⊢ <;> omega)))
        have hk8 := hR.tk rfl (by decide) e_92 g_92
        have at4 : z_92 = 0 → I_92 4 = sk bu tl 0 := by
          intro hz
          rcases e_92 with ⟨a, _⟩ | ⟨_, _, a, _⟩ | ⟨_, _, _, a⟩
          · exact absurd v5 a
          · exact absurd a (by omega)
          · rw [a, v3, v4]
        have gk : ∀ k : Nat, k ≠ 4 → k ≠ 5 → k ≠ 6 → I_92 k = I9 k := fun k q4 q5 q6 => (g_92 k q4).trans (gk k q4 q5 q6)
        refine r_if_ne E 108 dX11_load_95 (by decide) (by omega) (fun c_95 => ?_) (fun c_95 => ?_)
        · skip
          obtain ⟨_, w8, hR⟩ | ⟨hh, _⟩ := hk8
          rotate_left
          · exact absurd hh (by omega)
          have hR : PR bu tl I_92 (fun _ => (0 : Int)) (pH0 bu tl) := by
            rw [show pH0 bu tl = padv bu tl 8 (0, -1, sk bu tl 0, fun _ => 0) from if_pos w8]
            exact hR
          clear e_92 at4
          refine r_aload_n E 0 hl rfl dX11_load_108 ?_
          refine r_get (v := .ref (ad 9)) E h h_mo rfl inn_X11_load_11 9 (by decide) fl_X11_load_20 rfl dX11_load_109 ?_
          refine r_iconst E dX11_load_112 ?_
          refine r_aload_n E 0 hl rfl dX11_load_113 ?_
          refine r_iconst E dX11_load_114 ?_
          refine r_bipush E dX11_load_115 (by decide) ?_
          refine r_callVI E h (As := [.int (zI 1), .int (zI 40)]) (rest := [.int (zI 0), .ref (ad 9)]) (k_X11_number l 1 40 h_mo h_bu htx hR.hL hR.hp hR.2.2.1 (by omega)) h_mo rfl gX11_load_X11_number rfl hd_X11_number (by decide) ⟨by decide, by decide⟩ hl.1 rfl (Nat.le_of_ble_eq_true rfl) dX11_load_117 rfl (fun z_117 ws H locs hp h => ?_)
          obtain ⟨I_117, h_mo, ⟨e_117, g_117⟩, hf⟩ := hp
          have h_bu := hf.at h_bu (by first | omega | (dsimp only <;> omega))
          have h_da := hf.at h_da (by first | omega | (dsimp only <;> omega))
          have h_dr := hf.at h_dr (by first | omega | (dsimp only <;> omega))
          have h_me := hf.at h_me (by first | omega | (dsimp only <;> omega))
          have h_le := hf.at h_le (by first | omega | (dsimp only <;> omega))
          have h_ru := hf.at h_ru (by first | omega | (dsimp only <;> omega))
          have h_so := hf.at h_so (by first | omega | (dsimp only <;> omega))
          have h_fo := hf.at h_fo (by first | omega | (dsimp only <;> omega))
          have h_wn := hf.at h_wn (by first | omega | (dsimp only <;> omega))
          have h_hi := hf.at h_hi (by first | omega | (dsimp only <;> omega))
          have h_rw := fun (i : Nat) (hi : i < 8) => hf.at (h_rw i hi) (by first | omega | (dsimp only <;> omega))
          have hE := hE.tr (hf.wk (fun j hj => by first | omega | (dsimp only at hj ⊢ <;> omega)))
          obtain ⟨hR, hv_117⟩ := hR.num e_117 g_117
          have gk : ∀ k : Nat, k ≠ 4 → k ≠ 5 → k ≠ 6 → I_117 k = I9 k := fun k q4 q5 q6 => (g_117 k q4 q5 q6).trans (gk k q4 q5 q6)
          refine r_iast E h h_dr (by omega) (by decide) dX11_load_120 (fun ws H locs h hu => ?_)
          have h_mo := hu.keep h_mo (by omega)
          have h_bu := hu.keep h_bu (by omega)
          have h_da := hu.keep h_da (by omega)
          have h_dr : ws[b + 3]? = some (ad 9, aI cy 1111 (uZ (fun _ => (0 : Int)) 0 z_117)) := hu.1
          have h_me := hu.keep h_me (by omega)
          have h_le := hu.keep h_le (by omega)
          have h_ru := hu.keep h_ru (by omega)
          have h_so := hu.keep h_so (by omega)
          have h_fo := hu.keep h_fo (by omega)
          have h_wn := hu.keep h_wn (by omega)
          have h_hi := hu.keep h_hi (by omega)
          have h_rw := fun (i : Nat) (hi : i < 8) => hu.keep (h_rw i hi) (by omega)
          have hE := hE.tr (hu.eqx (by first | omega | (dsimp only <;> omega)))
          have hR : PR bu tl I_117 (uZ (fun _ => (0 : Int)) 0 z_117) (pnumA bu tl 0 1 40 (pH0 bu tl)) := hR.set hv_117
          clear e_117 hv_117
          refine r_aload_n E 0 hl rfl dX11_load_121 ?_
          refine r_get (v := .ref (ad 9)) E h h_mo rfl inn_X11_load_11 9 (by decide) fl_X11_load_20 rfl dX11_load_122 ?_
          refine r_iconst E dX11_load_125 ?_
          refine r_aload_n E 0 hl rfl dX11_load_126 ?_
          refine r_iconst E dX11_load_127 ?_
          refine r_iconst E dX11_load_128 ?_
          refine r_callVI E h (As := [.int (zI 1), .int (zI 4)]) (rest := [.int (zI 1), .ref (ad 9)]) (k_X11_number l 1 4 h_mo h_bu htx hR.hL hR.hp hR.2.2.1 (by omega)) h_mo rfl gX11_load_X11_number rfl hd_X11_number (by decide) ⟨by decide, by decide⟩ hl.1 rfl (Nat.le_of_ble_eq_true rfl) dX11_load_129 rfl (fun z_129 ws H locs hp h => ?_)
          obtain ⟨I_129, h_mo, ⟨e_129, g_129⟩, hf⟩ := hp
          have h_bu := hf.at h_bu (by first | omega | (dsimp only <;> omega))
          have h_da := hf.at h_da (by first | omega | (dsimp only <;> omega))
          have h_dr := hf.at h_dr (by first | omega | (dsimp only <;> omega))
          have h_me := hf.at h_me (by first | omega | (dsimp only <;> omega))
          have h_le := hf.at h_le (by first | omega | (dsimp only <;> omega))
          have h_ru := hf.at h_ru (by first | omega | (dsimp only <;> omega))
          have h_so := hf.at h_so (by first | omega | (dsimp only <;> omega))
          have h_fo := hf.at h_fo (by first | omega | (dsimp only <;> omega))
          have h_wn := hf.at h_wn (by first | omega | (dsimp only <;> omega))
          have h_hi := hf.at h_hi (by first | omega | (dsimp only <;> omega))
          have h_rw := fun (i : Nat) (hi : i < 8) => hf.at (h_rw i hi) (by first | omega | (dsimp only <;> omega))
          have hE := hE.tr (hf.wk (fun j hj => by first | omega | (dsimp only at hj ⊢ <;> omega)))
          obtain ⟨hR, hv_129⟩ := hR.num e_129 g_129
          have gk : ∀ k : Nat, k ≠ 4 → k ≠ 5 → k ≠ 6 → I_129 k = I9 k := fun k q4 q5 q6 => (g_129 k q4 q5 q6).trans (gk k q4 q5 q6)
          refine r_iast E h h_dr (by omega) (by decide) dX11_load_132 (fun ws H locs h hu => ?_)
          have h_mo := hu.keep h_mo (by omega)
          have h_bu := hu.keep h_bu (by omega)
          have h_da := hu.keep h_da (by omega)
          have h_dr : ws[b + 3]? = some (ad 9, aI cy 1111 (uZ (uZ (fun _ => (0 : Int)) 0 z_117) 1 z_129)) := hu.1
          have h_me := hu.keep h_me (by omega)
          have h_le := hu.keep h_le (by omega)
          have h_ru := hu.keep h_ru (by omega)
          have h_so := hu.keep h_so (by omega)
          have h_fo := hu.keep h_fo (by omega)
          have h_wn := hu.keep h_wn (by omega)
          have h_hi := hu.keep h_hi (by omega)
          have h_rw := fun (i : Nat) (hi : i < 8) => hu.keep (h_rw i hi) (by omega)
          have hE := hE.tr (hu.eqx (by first | omega | (dsimp only <;> omega)))
          have hR : PR bu tl I_129 (uZ (uZ (fun _ => (0 : Int)) 0 z_117) 1 z_129) (pnumA bu tl 1 1 4 (pnumA bu tl 0 1 40 (pH0 bu tl))) := hR.set hv_129
          clear e_129 hv_129
          refine r_aload_n E 0 hl rfl dX11_load_133 ?_
          refine r_bipush E dX11_load_134 (by decide) ?_
          refine r_callVV E h (As := [.int (zI 59)]) (rest := []) (k_X11_expect l 59 h_mo h_bu htx hR.hL hR.hp hR.2.2.1 (by omega)) h_mo rfl gX11_load_X11_expect rfl hd_X11_expect (by decide) ⟨by decide, by decide⟩ hl.1 rfl (Nat.le_of_ble_eq_true rfl) dX11_load_136 rfl (fun ws H locs hp h => ?_)
          obtain ⟨I_136, h_mo, ⟨e_136, g_136⟩, hf⟩ := hp
          have h_bu := hf.at h_bu (by first | omega | (dsimp only <;> omega))
          have h_da := hf.at h_da (by first | omega | (dsimp only <;> omega))
          have h_dr := hf.at h_dr (by first | omega | (dsimp only <;> omega))
          have h_me := hf.at h_me (by first | omega | (dsimp only <;> omega))
          have h_le := hf.at h_le (by first | omega | (dsimp only <;> omega))
          have h_ru := hf.at h_ru (by first | omega | (dsimp only <;> omega))
          have h_so := hf.at h_so (by first | omega | (dsimp only <;> omega))
          have h_fo := hf.at h_fo (by first | omega | (dsimp only <;> omega))
          have h_wn := hf.at h_wn (by first | omega | (dsimp only <;> omega))
          have h_hi := hf.at h_hi (by first | omega | (dsimp only <;> omega))
          have h_rw := fun (i : Nat) (hi : i < 8) => hf.at (h_rw i hi) (by first | omega | (dsimp only <;> omega))
          have hR : PR bu tl I_136 (uZ (uZ (fun _ => (0 : Int)) 0 z_117) 1 z_129) (pHd bu tl) := hR.exp (by decide) e_136 g_136
          have gk : ∀ k : Nat, k ≠ 4 → k ≠ 5 → k ≠ 6 → I_136 k = I9 k := fun k q4 q5 q6 => (g_136 k q4 q5 q6).trans (gk k q4 q5 q6)
          have hsh := SV.hd (t := bu) (L := tl) (by omega)
          have hgk9 : ∀ k : Nat, k ≠ 4 → k ≠ 5 → k ≠ 6 → k ≠ 14 → I_136 k = I9 k := fun k q4 q5 q6 _ => gk k q4 q5 q6
          have h149 : I_136 14 = 0 := (gk 14 (by decide) (by decide) (by decide)).trans v14
          clear e_136
          have hE := hE.tr (hf.wk (fun j hj => by first | omega | (dsimp only at hj ⊢ <;> omega)))
          refine r_loop (fun n H locs ls => ∃ (ws : va_W) (f2 : Nat) (S2 : PSt) (I3 : Nat → Int) (dr3 : Int → Int), n = ((f2 : Int)).toNat ∧ (PR bu tl I3 dr3 S2) ∧ (SV tl S2) ∧ (pSts bu tl f2 S2 = pLoad bu tl) ∧ (S2.1 = 0 → tl - S2.2.2.1 < f2) ∧ (∀ k : Nat, k ≠ 4 → k ≠ 5 → k ≠ 6 → k ≠ 14 → I3 k = I9 k) ∧ (S2.1 = 0 → I3 14 = S2.2.2.2 3) ∧ Hp G ws A s.heap H locs ∧ (ws[b]? = some (aM, mO I3 ad)) ∧ (ws[b + 1]? = some (ad 1, aI cy 600 bu)) ∧ (ws[b + 2]? = some (ad 8, aI cy 1111 d)) ∧ (ws[b + 3]? = some (ad 9, aI cy 1111 dr3)) ∧ (ws[b + 14]? = some (ad 15, aI cy 38400 me)) ∧ (ws[b + 15]? = some (ad 16, aI cy 6400 le)) ∧ (ws[b + 16]? = some (ad 17, aI cy 6400 ru)) ∧ (ws[b + 17]? = some (ad 18, aI cy 4 so)) ∧ (ws[b + 18]? = some (ad 20, aI cy 42 fo)) ∧ (ws[b + 19]? = some (ad 21, aI cy 38400 wn)) ∧ (ws[b + 5]? = some (ad 11, aR cy 6 8 hi)) ∧ (∀ i : Nat, i < 8 → ws[b + 6 + i]? = some (ar i, aI cy 1111 (hs i))) ∧ Eqx ws0 ws (fun j => j = b ∨ j = b + 2 ∨ j = b + 3 ∨ (b + 6 ≤ j ∧ j ≤ b + 19)) ∧ lv_has ls 3 [(0, .ref aM), (1, .int (zI tl))]) _ ⟨ws, 700, (pHd bu tl), I_136, (uZ (uZ (fun _ => (0 : Int)) 0 z_117) 1 z_129), rfl, hR, hsh.1, rfl, (fun hh => by have := (hsh.1.2 hh).1; omega), hgk9, (fun hh => by rw [h149, hsh.2 hh]), h, h_mo, h_bu, h_da, h_dr, h_me, h_le, h_ru, h_so, h_fo, h_wn, h_hi, h_rw, hE, lv_sub hl [0, 1] rfl⟩ ?_
          rintro n H locs ls ⟨ws, f2, S2, I3, dr3, hn, hR, hV, hfin, hf2, gk, hw14, h, h_mo, h_bu, h_da, h_dr, h_me, h_le, h_ru, h_so, h_fo, h_wn, h_hi, h_rw, hE, hl⟩ ih_139
          skip
          refine r_aload_n E 0 hl rfl dX11_load_139 ?_
          refine r_callVI E h (As := []) (rest := []) (k_X11_isGood l h_mo hR.2.2.1) h_mo rfl gX11_load_X11_isGood rfl hd_X11_isGood (by decide) ⟨by decide, by decide⟩ hl.1 rfl (Nat.le_of_ble_eq_true rfl) dX11_load_140 rfl (fun z_140 ws H locs hp h => ?_)
          obtain ⟨e_z_140, rfl⟩ := hp
          refine r_if_eq E 161 dX11_load_143 (by decide) (by omega) (fun c_143 => ?_) (fun c_143 => ?_)
          · skip
            have hfin : S2 = pLoad bu tl := by
              rw [← hfin]
              exact (pSts_end (Or.inl (by have := hR.2.2.2.1.1; omega))).symm
            refine r_aload_n E 0 hl rfl dX11_load_161 ?_
            refine r_aload_n E 0 hl rfl dX11_load_162 ?_
            refine r_get (v := .int (zI (I3 6))) E h h_mo rfl inn_X11_load_11 6 (by decide) fl_X11_load_76 rfl dX11_load_163 ?_
            refine r_put E h h_mo rfl inn_X11_load_11 7 (by decide) fl_X11_load_13 tyX11 tyX11_ok nmX11 rfl rfl rfl (Nat.le_of_ble_eq_true rfl) dX11_load_166 (fun ws H locs h hu => ?_)
            have h_mo : ws[b]? = some (aM, mO (va_up I3 7 (I3 6)) ad) := hu.1
            have h_bu := hu.keep h_bu (by omega)
            have h_da := hu.keep h_da (by omega)
            have h_dr := hu.keep h_dr (by omega)
            have h_me := hu.keep h_me (by omega)
            have h_le := hu.keep h_le (by omega)
            have h_ru := hu.keep h_ru (by omega)
            have h_so := hu.keep h_so (by omega)
            have h_fo := hu.keep h_fo (by omega)
            have h_wn := hu.keep h_wn (by omega)
            have h_hi := hu.keep h_hi (by omega)
            have h_rw := fun (i : Nat) (hi : i < 8) => hu.keep (h_rw i hi) (by omega)
            have hE := hE.tr (hu.eqx (by first | omega | (dsimp only <;> omega)))
            have hR : PR bu tl (va_up I3 7 (I3 6)) dr3 (pLoad bu tl) := by
              rw [← hfin]
              exact hR.cg (by simp [va_up]) (by simp [va_up]) (by simp [va_up]) (by simp [va_up])
            have q7 : (va_up I3 7 (I3 6)) 7 = (pLoad bu tl).2.1 := by
              have := hR.2.2.2.1.2
              simp [va_up] at this ⊢
              exact this
            have gk7 : ∀ k : Nat, k ≠ 0 → k ≠ 2 → k ≠ 3 → k ≠ 4 → k ≠ 5 → k ≠ 6 → k ≠ 7 → k ≠ 13 → k ≠ 14 → k ≠ 7 → (va_up I3 7 (I3 6)) k = I k := fun k k0 k2 k3 k4 k5 k6 k7 k13 k14 _ => by
              simp [va_up, k7]
              rw [gk k k4 k5 k6 k14, vk k k0 k2 k3 k4 k5 k6 k13 k14]
            have q0 : (va_up I3 7 (I3 6)) 0 = 0 := by simp [va_up]; rw [gk 0 (by decide) (by decide) (by decide) (by decide)]; exact v0
            have q2 : (va_up I3 7 (I3 6)) 2 = 0 := by simp [va_up]; rw [gk 2 (by decide) (by decide) (by decide) (by decide)]; exact v2
            have q12 : (va_up I3 7 (I3 6)) 12 = I 12 := gk7 12 (by decide) (by decide) (by decide) (by decide) (by decide) (by decide) (by decide) (by decide) (by decide) (by decide)
            have q19 : (va_up I3 7 (I3 6)) 19 = I 19 := gk7 19 (by decide) (by decide) (by decide) (by decide) (by decide) (by decide) (by decide) (by decide) (by decide) (by decide)
            refine r_aload_n E 0 hl rfl dX11_load_169 ?_
            refine r_callVI E h (As := []) (rest := []) (k_X11_isGood l h_mo hR.2.2.1) h_mo rfl gX11_load_X11_isGood rfl hd_X11_isGood (by decide) ⟨by decide, by decide⟩ hl.1 rfl (Nat.le_of_ble_eq_true rfl) dX11_load_170 rfl (fun z_170 ws H locs hp h => ?_)
            obtain ⟨e_z_170, rfl⟩ := hp
            refine r_if_ne E 181 dX11_load_173 (by decide) (by omega) (fun c_173 => ?_) (fun c_173 => ?_)
            · skip
              have hP0 : (pLoad bu tl).1 = 0 := by have := hR.2.2.2.1.1; omega
              obtain ⟨T2, hD2⟩ := (((SV.load (t := bu) (L := tl) (by omega)).2 hP0).2).2.2.2.1
              refine r_aload_n E 0 hl rfl dX11_load_181 ?_
              refine r_callVV E h (As := []) (rest := []) (k_X11_remember l h_mo h_da h_hi h_rw hhi (by rw [q12]; exact hdep)) h_mo rfl gX11_load_X11_remember rfl hd_X11_remember (by decide) ⟨by decide, by decide⟩ hl.1 rfl (Nat.le_of_ble_eq_true rfl) dX11_load_182 rfl (fun ws H locs hp h => ?_)
              obtain ⟨I_182, h_mo, h_rw, ⟨f_182, g_182⟩, hf⟩ := hp
              have h_bu := hf.at h_bu (by first | omega | (dsimp only <;> omega))
              have h_da := hf.at h_da (by first | omega | (dsimp only <;> omega))
              have h_dr := hf.at h_dr (by first | omega | (dsimp only <;> omega))
              have h_me := hf.at h_me (by first | omega | (dsimp only <;> omega))
              have h_le := hf.at h_le (by first | omega | (dsimp only <;> omega))
              have h_ru := hf.at h_ru (by first | omega | (dsimp only <;> omega))
              have h_so := hf.at h_so (by first | omega | (dsimp only <;> omega))
              have h_fo := hf.at h_fo (by first | omega | (dsimp only <;> omega))
              have h_wn := hf.at h_wn (by first | omega | (dsimp only <;> omega))
              have h_hi := hf.at h_hi (by first | omega | (dsimp only <;> omega))
              rw [q12] at h_rw f_182
              have hE := hE.tr (hf.wk (fun j hj => by first | omega | (dsimp only at hj ⊢ <;> omega)))
              refine r_aload_n E 0 hl rfl dX11_load_185 ?_
              refine r_get (v := .ref (ad 9)) E h h_mo rfl inn_X11_load_11 9 (by decide) fl_X11_load_20 rfl dX11_load_186 ?_
              refine r_aload_n E 0 hl rfl dX11_load_189 ?_
              refine r_get (v := .ref (ad 8)) E h h_mo rfl inn_X11_load_11 8 (by decide) fl_X11_load_17 rfl dX11_load_190 ?_
              refine r_callSV E h (As := [.ref (ad 9), .ref (ad 8)]) (rest := []) (k_X11_copy l h_dr h_da (by omega)) gX11_load_X11_copy rfl hd_X11_copy (by decide) ⟨by decide, by decide⟩ hl.1 rfl (Nat.le_of_ble_eq_true rfl) dX11_load_193 rfl (fun ws H locs hp h => ?_)
              obtain ⟨h_da, hf⟩ := hp
              have h_mo := hf.at h_mo (by first | omega | (dsimp only <;> omega))
              have h_bu := hf.at h_bu (by first | omega | (dsimp only <;> omega))
              have h_dr := hf.at h_dr (by first | omega | (dsimp only <;> omega))
              have h_me := hf.at h_me (by first | omega | (dsimp only <;> omega))
              have h_le := hf.at h_le (by first | omega | (dsimp only <;> omega))
              have h_ru := hf.at h_ru (by first | omega | (dsimp only <;> omega))
              have h_so := hf.at h_so (by first | omega | (dsimp only <;> omega))
              have h_fo := hf.at h_fo (by first | omega | (dsimp only <;> omega))
              have h_wn := hf.at h_wn (by first | omega | (dsimp only <;> omega))
              have h_hi := hf.at h_hi (by first | omega | (dsimp only <;> omega))
              have h_rw := fun (i : Nat) (hi : i < 8) => hf.at (h_rw i hi) (by first | omega | (dsimp only <;> omega))
              have hE := hE.tr (hf.wk (fun j hj => by first | omega | (dsimp only at hj ⊢ <;> omega)))
              have h_da : ws[b + 2]? = some (ad 8, aI cy 1111 (pLoad bu tl).2.2.2) := by rw [← hR.g hP0]; exact h_da
              refine r_aload_n E 0 hl rfl dX11_load_196 ?_
              refine r_callVV E h (As := []) (rest := []) (k_X11_layAll l h_mo h_da h_me h_le h_ru h_so h_fo h_wn hD2) h_mo rfl gX11_load_X11_layAll rfl hd_X11_layAll (by decide) ⟨by decide, by decide⟩ hl.1 rfl (Nat.le_of_ble_eq_true rfl) dX11_load_197 rfl (fun ws H locs hp h => ?_)
              obtain ⟨I_197, me_197, le_197, ru_197, so_197, fo_197, wn_197, h_mo, h_me, h_le, h_ru, h_so, h_fo, h_wn, e_197, g_197, hf⟩ := hp
              have h_bu := hf.at h_bu (by first | omega | (dsimp only <;> omega))
              have h_da := hf.at h_da (by first | omega | (dsimp only <;> omega))
              have h_dr := hf.at h_dr (by first | omega | (dsimp only <;> omega))
              have h_hi := hf.at h_hi (by first | omega | (dsimp only <;> omega))
              have h_rw := fun (i : Nat) (hi : i < 8) => hf.at (h_rw i hi) (by first | omega | (dsimp only <;> omega))
              have hE := hE.tr (hf.wk (fun j hj => by first | omega | (dsimp only at hj ⊢ <;> omega)))
              refine r_aload_n E 0 hl rfl dX11_load_200 ?_
              refine r_get (v := .ref (ad 8)) E h h_mo rfl inn_X11_load_11 8 (by decide) fl_X11_load_17 rfl dX11_load_201 ?_
              refine r_iconst E dX11_load_204 ?_
              refine r_iald E h h_da (by omega) (by decide) dX11_load_205 ?_
              exact r_iret E h ⟨I_197, _, dr3, me_197, le_197, ru_197, so_197, fo_197, wn_197, _, Or.inr ⟨by omega, (by rw [g_197 0 (by decide), g_182 0 (by decide)]; exact q0), (by rw [g_197 2 (by decide), g_182 2 (by decide)]; exact q2), (by rw [g_197 7 (by decide), g_182 7 (by decide)]; exact q7), Or.inr ⟨hP0, rfl, (by rw [g_197 12 (by decide), f_182]), rfl, rfl⟩⟩, h_mo, h_da, h_dr, h_rw, h_me, h_le, h_ru, h_so, h_fo, h_wn, e_197, (fun k k0 k2 k3 k4 k5 k6 k7 k12 k13 k14 k19 => by rw [g_197 k k19, g_182 k k12]; exact gk7 k k0 k2 k3 k4 k5 k6 k7 k13 k14 k7), hE⟩ dX11_load_206
            · skip
              refine r_aload_n E 0 hl rfl dX11_load_176 ?_
              refine r_get (v := .int (zI (I3 5))) E h h_mo rfl inn_X11_load_11 5 (by decide) fl_X11_load_73 rfl dX11_load_177 ?_
              exact r_iret E h ⟨_, d, dr3, me, le, ru, so, fo, wn, hs, Or.inr ⟨by omega, q0, q2, q7, Or.inl ⟨by have := hR.2.2.2.1.1; omega, hR.2.2.2.1.1, q12, rfl, rfl⟩⟩, h_mo, h_da, h_dr, h_rw, h_me, h_le, h_ru, h_so, h_fo, h_wn, by rw [q19]; exact hL, fun k k0 k2 k3 k4 k5 k6 k7 k12 k13 k14 k19 => gk7 k k0 k2 k3 k4 k5 k6 k7 k13 k14 k7, hE⟩ dX11_load_180
          · skip
            refine r_aload_n E 0 hl rfl dX11_load_146 ?_
            refine r_callVI E h (As := []) (rest := []) (k_X11_next l h_mo h_bu htx hR.hL hR.hp) h_mo rfl gX11_load_X11_next rfl hd_X11_next (by decide) ⟨by decide, by decide⟩ hl.1 rfl (Nat.le_of_ble_eq_true rfl) dX11_load_147 rfl (fun z_147 ws H locs hp h => ?_)
            obtain ⟨e_147, I_147, h_mo, ⟨f_147, g_147⟩, hf⟩ := hp
            have h_bu := hf.at h_bu (by first | omega | (dsimp only <;> omega))
            have h_da := hf.at h_da (by first | omega | (dsimp only <;> omega))
            have h_dr := hf.at h_dr (by first | omega | (dsimp only <;> omega))
            have h_me := hf.at h_me (by first | omega | (dsimp only <;> omega))
            have h_le := hf.at h_le (by first | omega | (dsimp only <;> omega))
            have h_ru := hf.at h_ru (by first | omega | (dsimp only <;> omega))
            have h_so := hf.at h_so (by first | omega | (dsimp only <;> omega))
            have h_fo := hf.at h_fo (by first | omega | (dsimp only <;> omega))
            have h_wn := hf.at h_wn (by first | omega | (dsimp only <;> omega))
            have h_hi := hf.at h_hi (by first | omega | (dsimp only <;> omega))
            have h_rw := fun (i : Nat) (hi : i < 8) => hf.at (h_rw i hi) (by first | omega | (dsimp only <;> omega))
            have hE := hE.tr (hf.wk (fun j hj => by first | omega | (dsimp only at hj ⊢ <;> omega)))
            have h0 : S2.1 = 0 := by have := hR.2.2.2.1.1; omega
            have b_147 : z_147 = byA bu tl S2.2.2.1 := hR.by h0 e_147
            have hbr := byA_rng htx (L := tl) (p := S2.2.2.1)
            have hR : PR bu tl I_147 dr3 S2 := hR.mv f_147 g_147
            have gk : ∀ k : Nat, k ≠ 4 → k ≠ 5 → k ≠ 6 → k ≠ 14 → I_147 k = I9 k := fun k q4 q5 q6 q14 => (g_147 k q4).trans (gk k q4 q5 q6 q14)
            have hw14 : S2.1 = 0 → I_147 14 = S2.2.2.2 3 := fun hh => (g_147 14 (by decide)).trans (hw14 hh)
            refine r_iconst E dX11_load_150 ?_
            refine r_icmp_eq E 161 dX11_load_151 (by decide) (by omega) (fun c_151 => ?_) (fun c_151 => ?_)
            · skip
              have hfin : S2 = pLoad bu tl := by
                rw [← hfin]
                exact (pSts_end (Or.inr (by omega))).symm
              refine r_aload_n E 0 hl rfl dX11_load_161 ?_
              refine r_aload_n E 0 hl rfl dX11_load_162 ?_
              refine r_get (v := .int (zI (I_147 6))) E h h_mo rfl inn_X11_load_11 6 (by decide) fl_X11_load_76 rfl dX11_load_163 ?_
              refine r_put E h h_mo rfl inn_X11_load_11 7 (by decide) fl_X11_load_13 tyX11 tyX11_ok nmX11 rfl rfl rfl (Nat.le_of_ble_eq_true rfl) dX11_load_166 (fun ws H locs h hu => ?_)
              have h_mo : ws[b]? = some (aM, mO (va_up I_147 7 (I_147 6)) ad) := hu.1
              have h_bu := hu.keep h_bu (by omega)
              have h_da := hu.keep h_da (by omega)
              have h_dr := hu.keep h_dr (by omega)
              have h_me := hu.keep h_me (by omega)
              have h_le := hu.keep h_le (by omega)
              have h_ru := hu.keep h_ru (by omega)
              have h_so := hu.keep h_so (by omega)
              have h_fo := hu.keep h_fo (by omega)
              have h_wn := hu.keep h_wn (by omega)
              have h_hi := hu.keep h_hi (by omega)
              have h_rw := fun (i : Nat) (hi : i < 8) => hu.keep (h_rw i hi) (by omega)
              have hE := hE.tr (hu.eqx (by first | omega | (dsimp only <;> omega)))
              have hR : PR bu tl (va_up I_147 7 (I_147 6)) dr3 (pLoad bu tl) := by
                rw [← hfin]
                exact hR.cg (by simp [va_up]) (by simp [va_up]) (by simp [va_up]) (by simp [va_up])
              have q7 : (va_up I_147 7 (I_147 6)) 7 = (pLoad bu tl).2.1 := by
                have := hR.2.2.2.1.2
                simp [va_up] at this ⊢
                exact this
              have gk7 : ∀ k : Nat, k ≠ 0 → k ≠ 2 → k ≠ 3 → k ≠ 4 → k ≠ 5 → k ≠ 6 → k ≠ 7 → k ≠ 13 → k ≠ 14 → k ≠ 7 → (va_up I_147 7 (I_147 6)) k = I k := fun k k0 k2 k3 k4 k5 k6 k7 k13 k14 _ => by
                simp [va_up, k7]
                rw [gk k k4 k5 k6 k14, vk k k0 k2 k3 k4 k5 k6 k13 k14]
              have q0 : (va_up I_147 7 (I_147 6)) 0 = 0 := by simp [va_up]; rw [gk 0 (by decide) (by decide) (by decide) (by decide)]; exact v0
              have q2 : (va_up I_147 7 (I_147 6)) 2 = 0 := by simp [va_up]; rw [gk 2 (by decide) (by decide) (by decide) (by decide)]; exact v2
              have q12 : (va_up I_147 7 (I_147 6)) 12 = I 12 := gk7 12 (by decide) (by decide) (by decide) (by decide) (by decide) (by decide) (by decide) (by decide) (by decide) (by decide)
              have q19 : (va_up I_147 7 (I_147 6)) 19 = I 19 := gk7 19 (by decide) (by decide) (by decide) (by decide) (by decide) (by decide) (by decide) (by decide) (by decide) (by decide)
              refine r_aload_n E 0 hl rfl dX11_load_169 ?_
              refine r_callVI E h (As := []) (rest := []) (k_X11_isGood l h_mo hR.2.2.1) h_mo rfl gX11_load_X11_isGood rfl hd_X11_isGood (by decide) ⟨by decide, by decide⟩ hl.1 rfl (Nat.le_of_ble_eq_true rfl) dX11_load_170 rfl (fun z_170 ws H locs hp h => ?_)
              obtain ⟨e_z_170, rfl⟩ := hp
              refine r_if_ne E 181 dX11_load_173 (by decide) (by omega) (fun c_173 => ?_) (fun c_173 => ?_)
              · skip
                have hP0 : (pLoad bu tl).1 = 0 := by have := hR.2.2.2.1.1; omega
                obtain ⟨T2, hD2⟩ := (((SV.load (t := bu) (L := tl) (by omega)).2 hP0).2).2.2.2.1
                refine r_aload_n E 0 hl rfl dX11_load_181 ?_
                refine r_callVV E h (As := []) (rest := []) (k_X11_remember l h_mo h_da h_hi h_rw hhi (by rw [q12]; exact hdep)) h_mo rfl gX11_load_X11_remember rfl hd_X11_remember (by decide) ⟨by decide, by decide⟩ hl.1 rfl (Nat.le_of_ble_eq_true rfl) dX11_load_182 rfl (fun ws H locs hp h => ?_)
                obtain ⟨I_182, h_mo, h_rw, ⟨f_182, g_182⟩, hf⟩ := hp
                have h_bu := hf.at h_bu (by first | omega | (dsimp only <;> omega))
                have h_da := hf.at h_da (by first | omega | (dsimp only <;> omega))
                have h_dr := hf.at h_dr (by first | omega | (dsimp only <;> omega))
                have h_me := hf.at h_me (by first | omega | (dsimp only <;> omega))
                have h_le := hf.at h_le (by first | omega | (dsimp only <;> omega))
                have h_ru := hf.at h_ru (by first | omega | (dsimp only <;> omega))
                have h_so := hf.at h_so (by first | omega | (dsimp only <;> omega))
                have h_fo := hf.at h_fo (by first | omega | (dsimp only <;> omega))
                have h_wn := hf.at h_wn (by first | omega | (dsimp only <;> omega))
                have h_hi := hf.at h_hi (by first | omega | (dsimp only <;> omega))
                rw [q12] at h_rw f_182
                have hE := hE.tr (hf.wk (fun j hj => by first | omega | (dsimp only at hj ⊢ <;> omega)))
                refine r_aload_n E 0 hl rfl dX11_load_185 ?_
                refine r_get (v := .ref (ad 9)) E h h_mo rfl inn_X11_load_11 9 (by decide) fl_X11_load_20 rfl dX11_load_186 ?_
                refine r_aload_n E 0 hl rfl dX11_load_189 ?_
                refine r_get (v := .ref (ad 8)) E h h_mo rfl inn_X11_load_11 8 (by decide) fl_X11_load_17 rfl dX11_load_190 ?_
                refine r_callSV E h (As := [.ref (ad 9), .ref (ad 8)]) (rest := []) (k_X11_copy l h_dr h_da (by omega)) gX11_load_X11_copy rfl hd_X11_copy (by decide) ⟨by decide, by decide⟩ hl.1 rfl (Nat.le_of_ble_eq_true rfl) dX11_load_193 rfl (fun ws H locs hp h => ?_)
                obtain ⟨h_da, hf⟩ := hp
                have h_mo := hf.at h_mo (by first | omega | (dsimp only <;> omega))
                have h_bu := hf.at h_bu (by first | omega | (dsimp only <;> omega))
                have h_dr := hf.at h_dr (by first | omega | (dsimp only <;> omega))
                have h_me := hf.at h_me (by first | omega | (dsimp only <;> omega))
                have h_le := hf.at h_le (by first | omega | (dsimp only <;> omega))
                have h_ru := hf.at h_ru (by first | omega | (dsimp only <;> omega))
                have h_so := hf.at h_so (by first | omega | (dsimp only <;> omega))
                have h_fo := hf.at h_fo (by first | omega | (dsimp only <;> omega))
                have h_wn := hf.at h_wn (by first | omega | (dsimp only <;> omega))
                have h_hi := hf.at h_hi (by first | omega | (dsimp only <;> omega))
                have h_rw := fun (i : Nat) (hi : i < 8) => hf.at (h_rw i hi) (by first | omega | (dsimp only <;> omega))
                have hE := hE.tr (hf.wk (fun j hj => by first | omega | (dsimp only at hj ⊢ <;> omega)))
                have h_da : ws[b + 2]? = some (ad 8, aI cy 1111 (pLoad bu tl).2.2.2) := by rw [← hR.g hP0]; exact h_da
                refine r_aload_n E 0 hl rfl dX11_load_196 ?_
                refine r_callVV E h (As := []) (rest := []) (k_X11_layAll l h_mo h_da h_me h_le h_ru h_so h_fo h_wn hD2) h_mo rfl gX11_load_X11_layAll rfl hd_X11_layAll (by decide) ⟨by decide, by decide⟩ hl.1 rfl (Nat.le_of_ble_eq_true rfl) dX11_load_197 rfl (fun ws H locs hp h => ?_)
                obtain ⟨I_197, me_197, le_197, ru_197, so_197, fo_197, wn_197, h_mo, h_me, h_le, h_ru, h_so, h_fo, h_wn, e_197, g_197, hf⟩ := hp
                have h_bu := hf.at h_bu (by first | omega | (dsimp only <;> omega))
                have h_da := hf.at h_da (by first | omega | (dsimp only <;> omega))
                have h_dr := hf.at h_dr (by first | omega | (dsimp only <;> omega))
                have h_hi := hf.at h_hi (by first | omega | (dsimp only <;> omega))
                have h_rw := fun (i : Nat) (hi : i < 8) => hf.at (h_rw i hi) (by first | omega | (dsimp only <;> omega))
                have hE := hE.tr (hf.wk (fun j hj => by first | omega | (dsimp only at hj ⊢ <;> omega)))
                refine r_aload_n E 0 hl rfl dX11_load_200 ?_
                refine r_get (v := .ref (ad 8)) E h h_mo rfl inn_X11_load_11 8 (by decide) fl_X11_load_17 rfl dX11_load_201 ?_
                refine r_iconst E dX11_load_204 ?_
                refine r_iald E h h_da (by omega) (by decide) dX11_load_205 ?_
                exact r_iret E h ⟨I_197, _, dr3, me_197, le_197, ru_197, so_197, fo_197, wn_197, _, Or.inr ⟨by omega, (by rw [g_197 0 (by decide), g_182 0 (by decide)]; exact q0), (by rw [g_197 2 (by decide), g_182 2 (by decide)]; exact q2), (by rw [g_197 7 (by decide), g_182 7 (by decide)]; exact q7), Or.inr ⟨hP0, rfl, (by rw [g_197 12 (by decide), f_182]), rfl, rfl⟩⟩, h_mo, h_da, h_dr, h_rw, h_me, h_le, h_ru, h_so, h_fo, h_wn, e_197, (fun k k0 k2 k3 k4 k5 k6 k7 k12 k13 k14 k19 => by rw [g_197 k k19, g_182 k k12]; exact gk7 k k0 k2 k3 k4 k5 k6 k7 k13 k14 k7), hE⟩ dX11_load_206
              · skip
                refine r_aload_n E 0 hl rfl dX11_load_176 ?_
                refine r_get (v := .int (zI (I_147 5))) E h h_mo rfl inn_X11_load_11 5 (by decide) fl_X11_load_73 rfl dX11_load_177 ?_
                exact r_iret E h ⟨_, d, dr3, me, le, ru, so, fo, wn, hs, Or.inr ⟨by omega, q0, q2, q7, Or.inl ⟨by have := hR.2.2.2.1.1; omega, hR.2.2.2.1.1, q12, rfl, rfl⟩⟩, h_mo, h_da, h_dr, h_rw, h_me, h_le, h_ru, h_so, h_fo, h_wn, by rw [q19]; exact hL, fun k k0 k2 k3 k4 k5 k6 k7 k12 k13 k14 k19 => gk7 k k0 k2 k3 k4 k5 k6 k7 k13 k14 k7, hE⟩ dX11_load_180
            · skip
              refine r_aload_n E 0 hl rfl dX11_load_154 ?_
              refine r_callVsV E hX h (As := []) (rest := []) (k_X11_statement l h_mo h_bu h_dr htx hR h0 hV (hw14 h0) ((gk 13 (by decide) (by decide) (by decide) (by decide)).trans v13)) h_mo rfl gX11_load_X11_statement rfl hd_X11_statement (by decide) ⟨by decide, by decide⟩ hl.1 rfl (Nat.le_of_ble_eq_true rfl) dX11_load_155 rfl (fun ws H locs hp h => ?_)
              obtain ⟨I_155, dr_155, h_mo, h_dr, ⟨hR, e_155, g_155⟩, hf⟩ := hp
              have h_bu := hf.at h_bu (by first | omega | (dsimp only <;> omega))
              have h_da := hf.at h_da (by first | omega | (dsimp only <;> omega))
              have h_me := hf.at h_me (by first | omega | (dsimp only <;> omega))
              have h_le := hf.at h_le (by first | omega | (dsimp only <;> omega))
              have h_ru := hf.at h_ru (by first | omega | (dsimp only <;> omega))
              have h_so := hf.at h_so (by first | omega | (dsimp only <;> omega))
              have h_fo := hf.at h_fo (by first | omega | (dsimp only <;> omega))
              have h_wn := hf.at h_wn (by first | omega | (dsimp only <;> omega))
              have h_hi := hf.at h_hi (by first | omega | (dsimp only <;> omega))
              have h_rw := fun (i : Nat) (hi : i < 8) => hf.at (h_rw i hi) (by first | omega | (dsimp only <;> omega))
              have hsv := SV.stm (t := bu) hV h0 (by omega)
              obtain ⟨f3, rfl⟩ : ∃ k, f2 = k + 1 := ⟨f2 - 1, by have := hf2 h0; have := (hV.2 h0).1; omega⟩
              rw [pSts_step h0 (by omega)] at hfin
              have gk : ∀ k : Nat, k ≠ 4 → k ≠ 5 → k ≠ 6 → k ≠ 14 → I_155 k = I9 k := fun k q4 q5 q6 q14 => (g_155 k q4 q5 q6 q14).trans (gk k q4 q5 q6 q14)
              have hE := hE.tr (hf.wk (fun j hj => by first | omega | (dsimp only at hj ⊢ <;> omega)))
              refine r_goto E 139 dX11_load_158 (by decide) ?_
              exact ih_139 _ H locs ls (by omega) ⟨ws, f3, (pStm bu tl S2), I_155, dr_155, rfl, hR, hsv.1, hfin, (fun hh => by have := (hsv.2 hh).1; have := hf2 h0; omega), gk, (fun hh => by have := (hsv.2 hh).2; have := hw14 h0; omega), h, h_mo, h_bu, h_da, h_dr, h_me, h_le, h_ru, h_so, h_fo, h_wn, h_hi, h_rw, hE, lv_sub hl [0, 1] rfl⟩
        · skip
          refine r_aload_n E 0 hl rfl dX11_load_98 ?_
          refine r_bipush E dX11_load_99 (by decide) ?_
          refine r_aload_n E 0 hl rfl dX11_load_101 ?_
          refine r_get (v := .int (zI (I_92 4))) E h h_mo rfl inn_X11_load_11 4 (by decide) fl_X11_load_66 rfl dX11_load_102 ?_
          refine r_callVV E h (As := [.int (zI (-2)), .int (zI (I_92 4))]) (rest := []) (k_X11_report l (-2) (I_92 4) h_mo (by rw [g_92 5 (by decide)]; omega)) h_mo rfl gX11_load_X11_report rfl hd_X11_report (by decide) ⟨by decide, by decide⟩ hl.1 rfl (Nat.le_of_ble_eq_true rfl) dX11_load_105 rfl (fun ws H locs hp h => ?_)
          obtain ⟨I_105, h_mo, ⟨e_105, g_105⟩, hf⟩ := hp
          have h_bu := hf.at h_bu (by first | omega | (dsimp only <;> omega))
          have h_da := hf.at h_da (by first | omega | (dsimp only <;> omega))
          have h_dr := hf.at h_dr (by first | omega | (dsimp only <;> omega))
          have h_me := hf.at h_me (by first | omega | (dsimp only <;> omega))
          have h_le := hf.at h_le (by first | omega | (dsimp only <;> omega))
          have h_ru := hf.at h_ru (by first | omega | (dsimp only <;> omega))
          have h_so := hf.at h_so (by first | omega | (dsimp only <;> omega))
          have h_fo := hf.at h_fo (by first | omega | (dsimp only <;> omega))
          have h_wn := hf.at h_wn (by first | omega | (dsimp only <;> omega))
          have h_hi := hf.at h_hi (by first | omega | (dsimp only <;> omega))
          have h_rw := fun (i : Nat) (hi : i < 8) => hf.at (h_rw i hi) (by first | omega | (dsimp only <;> omega))
          have hE := hE.tr (hf.wk (fun j hj => by first | omega | (dsimp only at hj ⊢ <;> omega)))
          obtain ⟨hh, _⟩ | ⟨_, w8, hR⟩ := hk8
          · exact absurd hh (by omega)
          have q5 := hR.2.2.2.1
          have hR : PR bu tl I_105 (fun _ => (0 : Int)) (pH0 bu tl) := by
            rw [show pH0 bu tl = (-2, sk bu tl 0, sk bu tl 0, fun _ => 0) from if_neg (by rw [w8]; decide)]
            have q9 : I_92 5 = 0 := q5.1
            exact hR.err (g_105 3 (by decide) (by decide)) (by rw [g_105 4 (by decide) (by decide)]; exact hR.2.1) (by omega) (by have := at4 (by omega); omega) (by decide)
          have gk : ∀ k : Nat, k ≠ 4 → k ≠ 5 → k ≠ 6 → I_105 k = I9 k := fun k q4 q5 q6 => (g_105 k q5 q6).trans (gk k q4 q5 q6)
          clear e_92 at4 e_105 q5
          refine r_aload_n E 0 hl rfl dX11_load_108 ?_
          refine r_get (v := .ref (ad 9)) E h h_mo rfl inn_X11_load_11 9 (by decide) fl_X11_load_20 rfl dX11_load_109 ?_
          refine r_iconst E dX11_load_112 ?_
          refine r_aload_n E 0 hl rfl dX11_load_113 ?_
          refine r_iconst E dX11_load_114 ?_
          refine r_bipush E dX11_load_115 (by decide) ?_
          refine r_callVI E h (As := [.int (zI 1), .int (zI 40)]) (rest := [.int (zI 0), .ref (ad 9)]) (k_X11_number l 1 40 h_mo h_bu htx hR.hL hR.hp hR.2.2.1 (by omega)) h_mo rfl gX11_load_X11_number rfl hd_X11_number (by decide) ⟨by decide, by decide⟩ hl.1 rfl (Nat.le_of_ble_eq_true rfl) dX11_load_117 rfl (fun z_117 ws H locs hp h => ?_)
          obtain ⟨I_117, h_mo, ⟨e_117, g_117⟩, hf⟩ := hp
          have h_bu := hf.at h_bu (by first | omega | (dsimp only <;> omega))
          have h_da := hf.at h_da (by first | omega | (dsimp only <;> omega))
          have h_dr := hf.at h_dr (by first | omega | (dsimp only <;> omega))
          have h_me := hf.at h_me (by first | omega | (dsimp only <;> omega))
          have h_le := hf.at h_le (by first | omega | (dsimp only <;> omega))
          have h_ru := hf.at h_ru (by first | omega | (dsimp only <;> omega))
          have h_so := hf.at h_so (by first | omega | (dsimp only <;> omega))
          have h_fo := hf.at h_fo (by first | omega | (dsimp only <;> omega))
          have h_wn := hf.at h_wn (by first | omega | (dsimp only <;> omega))
          have h_hi := hf.at h_hi (by first | omega | (dsimp only <;> omega))
          have h_rw := fun (i : Nat) (hi : i < 8) => hf.at (h_rw i hi) (by first | omega | (dsimp only <;> omega))
          have hE := hE.tr (hf.wk (fun j hj => by first | omega | (dsimp only at hj ⊢ <;> omega)))
          obtain ⟨hR, hv_117⟩ := hR.num e_117 g_117
          have gk : ∀ k : Nat, k ≠ 4 → k ≠ 5 → k ≠ 6 → I_117 k = I9 k := fun k q4 q5 q6 => (g_117 k q4 q5 q6).trans (gk k q4 q5 q6)
          refine r_iast E h h_dr (by omega) (by decide) dX11_load_120 (fun ws H locs h hu => ?_)
          have h_mo := hu.keep h_mo (by omega)
          have h_bu := hu.keep h_bu (by omega)
          have h_da := hu.keep h_da (by omega)
          have h_dr : ws[b + 3]? = some (ad 9, aI cy 1111 (uZ (fun _ => (0 : Int)) 0 z_117)) := hu.1
          have h_me := hu.keep h_me (by omega)
          have h_le := hu.keep h_le (by omega)
          have h_ru := hu.keep h_ru (by omega)
          have h_so := hu.keep h_so (by omega)
          have h_fo := hu.keep h_fo (by omega)
          have h_wn := hu.keep h_wn (by omega)
          have h_hi := hu.keep h_hi (by omega)
          have h_rw := fun (i : Nat) (hi : i < 8) => hu.keep (h_rw i hi) (by omega)
          have hE := hE.tr (hu.eqx (by first | omega | (dsimp only <;> omega)))
          have hR : PR bu tl I_117 (uZ (fun _ => (0 : Int)) 0 z_117) (pnumA bu tl 0 1 40 (pH0 bu tl)) := hR.set hv_117
          clear e_117 hv_117
          refine r_aload_n E 0 hl rfl dX11_load_121 ?_
          refine r_get (v := .ref (ad 9)) E h h_mo rfl inn_X11_load_11 9 (by decide) fl_X11_load_20 rfl dX11_load_122 ?_
          refine r_iconst E dX11_load_125 ?_
          refine r_aload_n E 0 hl rfl dX11_load_126 ?_
          refine r_iconst E dX11_load_127 ?_
          refine r_iconst E dX11_load_128 ?_
          refine r_callVI E h (As := [.int (zI 1), .int (zI 4)]) (rest := [.int (zI 1), .ref (ad 9)]) (k_X11_number l 1 4 h_mo h_bu htx hR.hL hR.hp hR.2.2.1 (by omega)) h_mo rfl gX11_load_X11_number rfl hd_X11_number (by decide) ⟨by decide, by decide⟩ hl.1 rfl (Nat.le_of_ble_eq_true rfl) dX11_load_129 rfl (fun z_129 ws H locs hp h => ?_)
          obtain ⟨I_129, h_mo, ⟨e_129, g_129⟩, hf⟩ := hp
          have h_bu := hf.at h_bu (by first | omega | (dsimp only <;> omega))
          have h_da := hf.at h_da (by first | omega | (dsimp only <;> omega))
          have h_dr := hf.at h_dr (by first | omega | (dsimp only <;> omega))
          have h_me := hf.at h_me (by first | omega | (dsimp only <;> omega))
          have h_le := hf.at h_le (by first | omega | (dsimp only <;> omega))
          have h_ru := hf.at h_ru (by first | omega | (dsimp only <;> omega))
          have h_so := hf.at h_so (by first | omega | (dsimp only <;> omega))
          have h_fo := hf.at h_fo (by first | omega | (dsimp only <;> omega))
          have h_wn := hf.at h_wn (by first | omega | (dsimp only <;> omega))
          have h_hi := hf.at h_hi (by first | omega | (dsimp only <;> omega))
          have h_rw := fun (i : Nat) (hi : i < 8) => hf.at (h_rw i hi) (by first | omega | (dsimp only <;> omega))
          have hE := hE.tr (hf.wk (fun j hj => by first | omega | (dsimp only at hj ⊢ <;> omega)))
          obtain ⟨hR, hv_129⟩ := hR.num e_129 g_129
          have gk : ∀ k : Nat, k ≠ 4 → k ≠ 5 → k ≠ 6 → I_129 k = I9 k := fun k q4 q5 q6 => (g_129 k q4 q5 q6).trans (gk k q4 q5 q6)
          refine r_iast E h h_dr (by omega) (by decide) dX11_load_132 (fun ws H locs h hu => ?_)
          have h_mo := hu.keep h_mo (by omega)
          have h_bu := hu.keep h_bu (by omega)
          have h_da := hu.keep h_da (by omega)
          have h_dr : ws[b + 3]? = some (ad 9, aI cy 1111 (uZ (uZ (fun _ => (0 : Int)) 0 z_117) 1 z_129)) := hu.1
          have h_me := hu.keep h_me (by omega)
          have h_le := hu.keep h_le (by omega)
          have h_ru := hu.keep h_ru (by omega)
          have h_so := hu.keep h_so (by omega)
          have h_fo := hu.keep h_fo (by omega)
          have h_wn := hu.keep h_wn (by omega)
          have h_hi := hu.keep h_hi (by omega)
          have h_rw := fun (i : Nat) (hi : i < 8) => hu.keep (h_rw i hi) (by omega)
          have hE := hE.tr (hu.eqx (by first | omega | (dsimp only <;> omega)))
          have hR : PR bu tl I_129 (uZ (uZ (fun _ => (0 : Int)) 0 z_117) 1 z_129) (pnumA bu tl 1 1 4 (pnumA bu tl 0 1 40 (pH0 bu tl))) := hR.set hv_129
          clear e_129 hv_129
          refine r_aload_n E 0 hl rfl dX11_load_133 ?_
          refine r_bipush E dX11_load_134 (by decide) ?_
          refine r_callVV E h (As := [.int (zI 59)]) (rest := []) (k_X11_expect l 59 h_mo h_bu htx hR.hL hR.hp hR.2.2.1 (by omega)) h_mo rfl gX11_load_X11_expect rfl hd_X11_expect (by decide) ⟨by decide, by decide⟩ hl.1 rfl (Nat.le_of_ble_eq_true rfl) dX11_load_136 rfl (fun ws H locs hp h => ?_)
          obtain ⟨I_136, h_mo, ⟨e_136, g_136⟩, hf⟩ := hp
          have h_bu := hf.at h_bu (by first | omega | (dsimp only <;> omega))
          have h_da := hf.at h_da (by first | omega | (dsimp only <;> omega))
          have h_dr := hf.at h_dr (by first | omega | (dsimp only <;> omega))
          have h_me := hf.at h_me (by first | omega | (dsimp only <;> omega))
          have h_le := hf.at h_le (by first | omega | (dsimp only <;> omega))
          have h_ru := hf.at h_ru (by first | omega | (dsimp only <;> omega))
          have h_so := hf.at h_so (by first | omega | (dsimp only <;> omega))
          have h_fo := hf.at h_fo (by first | omega | (dsimp only <;> omega))
          have h_wn := hf.at h_wn (by first | omega | (dsimp only <;> omega))
          have h_hi := hf.at h_hi (by first | omega | (dsimp only <;> omega))
          have h_rw := fun (i : Nat) (hi : i < 8) => hf.at (h_rw i hi) (by first | omega | (dsimp only <;> omega))
          have hR : PR bu tl I_136 (uZ (uZ (fun _ => (0 : Int)) 0 z_117) 1 z_129) (pHd bu tl) := hR.exp (by decide) e_136 g_136
          have gk : ∀ k : Nat, k ≠ 4 → k ≠ 5 → k ≠ 6 → I_136 k = I9 k := fun k q4 q5 q6 => (g_136 k q4 q5 q6).trans (gk k q4 q5 q6)
          have hsh := SV.hd (t := bu) (L := tl) (by omega)
          have hgk9 : ∀ k : Nat, k ≠ 4 → k ≠ 5 → k ≠ 6 → k ≠ 14 → I_136 k = I9 k := fun k q4 q5 q6 _ => gk k q4 q5 q6
          have h149 : I_136 14 = 0 := (gk 14 (by decide) (by decide) (by decide)).trans v14
          clear e_136
          have hE := hE.tr (hf.wk (fun j hj => by first | omega | (dsimp only at hj ⊢ <;> omega)))
          refine r_loop (fun n H locs ls => ∃ (ws : va_W) (f2 : Nat) (S2 : PSt) (I3 : Nat → Int) (dr3 : Int → Int), n = ((f2 : Int)).toNat ∧ (PR bu tl I3 dr3 S2) ∧ (SV tl S2) ∧ (pSts bu tl f2 S2 = pLoad bu tl) ∧ (S2.1 = 0 → tl - S2.2.2.1 < f2) ∧ (∀ k : Nat, k ≠ 4 → k ≠ 5 → k ≠ 6 → k ≠ 14 → I3 k = I9 k) ∧ (S2.1 = 0 → I3 14 = S2.2.2.2 3) ∧ Hp G ws A s.heap H locs ∧ (ws[b]? = some (aM, mO I3 ad)) ∧ (ws[b + 1]? = some (ad 1, aI cy 600 bu)) ∧ (ws[b + 2]? = some (ad 8, aI cy 1111 d)) ∧ (ws[b + 3]? = some (ad 9, aI cy 1111 dr3)) ∧ (ws[b + 14]? = some (ad 15, aI cy 38400 me)) ∧ (ws[b + 15]? = some (ad 16, aI cy 6400 le)) ∧ (ws[b + 16]? = some (ad 17, aI cy 6400 ru)) ∧ (ws[b + 17]? = some (ad 18, aI cy 4 so)) ∧ (ws[b + 18]? = some (ad 20, aI cy 42 fo)) ∧ (ws[b + 19]? = some (ad 21, aI cy 38400 wn)) ∧ (ws[b + 5]? = some (ad 11, aR cy 6 8 hi)) ∧ (∀ i : Nat, i < 8 → ws[b + 6 + i]? = some (ar i, aI cy 1111 (hs i))) ∧ Eqx ws0 ws (fun j => j = b ∨ j = b + 2 ∨ j = b + 3 ∨ (b + 6 ≤ j ∧ j ≤ b + 19)) ∧ lv_has ls 3 [(0, .ref aM), (1, .int (zI tl))]) _ ⟨ws, 700, (pHd bu tl), I_136, (uZ (uZ (fun _ => (0 : Int)) 0 z_117) 1 z_129), rfl, hR, hsh.1, rfl, (fun hh => by have := (hsh.1.2 hh).1; omega), hgk9, (fun hh => by rw [h149, hsh.2 hh]), h, h_mo, h_bu, h_da, h_dr, h_me, h_le, h_ru, h_so, h_fo, h_wn, h_hi, h_rw, hE, lv_sub hl [0, 1] rfl⟩ ?_
          rintro n H locs ls ⟨ws, f2, S2, I3, dr3, hn, hR, hV, hfin, hf2, gk, hw14, h, h_mo, h_bu, h_da, h_dr, h_me, h_le, h_ru, h_so, h_fo, h_wn, h_hi, h_rw, hE, hl⟩ ih_139
          skip
          refine r_aload_n E 0 hl rfl dX11_load_139 ?_
          refine r_callVI E h (As := []) (rest := []) (k_X11_isGood l h_mo hR.2.2.1) h_mo rfl gX11_load_X11_isGood rfl hd_X11_isGood (by decide) ⟨by decide, by decide⟩ hl.1 rfl (Nat.le_of_ble_eq_true rfl) dX11_load_140 rfl (fun z_140 ws H locs hp h => ?_)
          obtain ⟨e_z_140, rfl⟩ := hp
          refine r_if_eq E 161 dX11_load_143 (by decide) (by omega) (fun c_143 => ?_) (fun c_143 => ?_)
          · skip
            have hfin : S2 = pLoad bu tl := by
              rw [← hfin]
              exact (pSts_end (Or.inl (by have := hR.2.2.2.1.1; omega))).symm
            refine r_aload_n E 0 hl rfl dX11_load_161 ?_
            refine r_aload_n E 0 hl rfl dX11_load_162 ?_
            refine r_get (v := .int (zI (I3 6))) E h h_mo rfl inn_X11_load_11 6 (by decide) fl_X11_load_76 rfl dX11_load_163 ?_
            refine r_put E h h_mo rfl inn_X11_load_11 7 (by decide) fl_X11_load_13 tyX11 tyX11_ok nmX11 rfl rfl rfl (Nat.le_of_ble_eq_true rfl) dX11_load_166 (fun ws H locs h hu => ?_)
            have h_mo : ws[b]? = some (aM, mO (va_up I3 7 (I3 6)) ad) := hu.1
            have h_bu := hu.keep h_bu (by omega)
            have h_da := hu.keep h_da (by omega)
            have h_dr := hu.keep h_dr (by omega)
            have h_me := hu.keep h_me (by omega)
            have h_le := hu.keep h_le (by omega)
            have h_ru := hu.keep h_ru (by omega)
            have h_so := hu.keep h_so (by omega)
            have h_fo := hu.keep h_fo (by omega)
            have h_wn := hu.keep h_wn (by omega)
            have h_hi := hu.keep h_hi (by omega)
            have h_rw := fun (i : Nat) (hi : i < 8) => hu.keep (h_rw i hi) (by omega)
            have hE := hE.tr (hu.eqx (by first | omega | (dsimp only <;> omega)))
            have hR : PR bu tl (va_up I3 7 (I3 6)) dr3 (pLoad bu tl) := by
              rw [← hfin]
              exact hR.cg (by simp [va_up]) (by simp [va_up]) (by simp [va_up]) (by simp [va_up])
            have q7 : (va_up I3 7 (I3 6)) 7 = (pLoad bu tl).2.1 := by
              have := hR.2.2.2.1.2
              simp [va_up] at this ⊢
              exact this
            have gk7 : ∀ k : Nat, k ≠ 0 → k ≠ 2 → k ≠ 3 → k ≠ 4 → k ≠ 5 → k ≠ 6 → k ≠ 7 → k ≠ 13 → k ≠ 14 → k ≠ 7 → (va_up I3 7 (I3 6)) k = I k := fun k k0 k2 k3 k4 k5 k6 k7 k13 k14 _ => by
              simp [va_up, k7]
              rw [gk k k4 k5 k6 k14, vk k k0 k2 k3 k4 k5 k6 k13 k14]
            have q0 : (va_up I3 7 (I3 6)) 0 = 0 := by simp [va_up]; rw [gk 0 (by decide) (by decide) (by decide) (by decide)]; exact v0
            have q2 : (va_up I3 7 (I3 6)) 2 = 0 := by simp [va_up]; rw [gk 2 (by decide) (by decide) (by decide) (by decide)]; exact v2
            have q12 : (va_up I3 7 (I3 6)) 12 = I 12 := gk7 12 (by decide) (by decide) (by decide) (by decide) (by decide) (by decide) (by decide) (by decide) (by decide) (by decide)
            have q19 : (va_up I3 7 (I3 6)) 19 = I 19 := gk7 19 (by decide) (by decide) (by decide) (by decide) (by decide) (by decide) (by decide) (by decide) (by decide) (by decide)
            refine r_aload_n E 0 hl rfl dX11_load_169 ?_
            refine r_callVI E h (As := []) (rest := []) (k_X11_isGood l h_mo hR.2.2.1) h_mo rfl gX11_load_X11_isGood rfl hd_X11_isGood (by decide) ⟨by decide, by decide⟩ hl.1 rfl (Nat.le_of_ble_eq_true rfl) dX11_load_170 rfl (fun z_170 ws H locs hp h => ?_)
            obtain ⟨e_z_170, rfl⟩ := hp
            refine r_if_ne E 181 dX11_load_173 (by decide) (by omega) (fun c_173 => ?_) (fun c_173 => ?_)
            · skip
              have hP0 : (pLoad bu tl).1 = 0 := by have := hR.2.2.2.1.1; omega
              obtain ⟨T2, hD2⟩ := (((SV.load (t := bu) (L := tl) (by omega)).2 hP0).2).2.2.2.1
              refine r_aload_n E 0 hl rfl dX11_load_181 ?_
              refine r_callVV E h (As := []) (rest := []) (k_X11_remember l h_mo h_da h_hi h_rw hhi (by rw [q12]; exact hdep)) h_mo rfl gX11_load_X11_remember rfl hd_X11_remember (by decide) ⟨by decide, by decide⟩ hl.1 rfl (Nat.le_of_ble_eq_true rfl) dX11_load_182 rfl (fun ws H locs hp h => ?_)
              obtain ⟨I_182, h_mo, h_rw, ⟨f_182, g_182⟩, hf⟩ := hp
              have h_bu := hf.at h_bu (by first | omega | (dsimp only <;> omega))
              have h_da := hf.at h_da (by first | omega | (dsimp only <;> omega))
              have h_dr := hf.at h_dr (by first | omega | (dsimp only <;> omega))
              have h_me := hf.at h_me (by first | omega | (dsimp only <;> omega))
              have h_le := hf.at h_le (by first | omega | (dsimp only <;> omega))
              have h_ru := hf.at h_ru (by first | omega | (dsimp only <;> omega))
              have h_so := hf.at h_so (by first | omega | (dsimp only <;> omega))
              have h_fo := hf.at h_fo (by first | omega | (dsimp only <;> omega))
              have h_wn := hf.at h_wn (by first | omega | (dsimp only <;> omega))
              have h_hi := hf.at h_hi (by first | omega | (dsimp only <;> omega))
              rw [q12] at h_rw f_182
              have hE := hE.tr (hf.wk (fun j hj => by first | omega | (dsimp only at hj ⊢ <;> omega)))
              refine r_aload_n E 0 hl rfl dX11_load_185 ?_
              refine r_get (v := .ref (ad 9)) E h h_mo rfl inn_X11_load_11 9 (by decide) fl_X11_load_20 rfl dX11_load_186 ?_
              refine r_aload_n E 0 hl rfl dX11_load_189 ?_
              refine r_get (v := .ref (ad 8)) E h h_mo rfl inn_X11_load_11 8 (by decide) fl_X11_load_17 rfl dX11_load_190 ?_
              refine r_callSV E h (As := [.ref (ad 9), .ref (ad 8)]) (rest := []) (k_X11_copy l h_dr h_da (by omega)) gX11_load_X11_copy rfl hd_X11_copy (by decide) ⟨by decide, by decide⟩ hl.1 rfl (Nat.le_of_ble_eq_true rfl) dX11_load_193 rfl (fun ws H locs hp h => ?_)
              obtain ⟨h_da, hf⟩ := hp
              have h_mo := hf.at h_mo (by first | omega | (dsimp only <;> omega))
              have h_bu := hf.at h_bu (by first | omega | (dsimp only <;> omega))
              have h_dr := hf.at h_dr (by first | omega | (dsimp only <;> omega))
              have h_me := hf.at h_me (by first | omega | (dsimp only <;> omega))
              have h_le := hf.at h_le (by first | omega | (dsimp only <;> omega))
              have h_ru := hf.at h_ru (by first | omega | (dsimp only <;> omega))
              have h_so := hf.at h_so (by first | omega | (dsimp only <;> omega))
              have h_fo := hf.at h_fo (by first | omega | (dsimp only <;> omega))
              have h_wn := hf.at h_wn (by first | omega | (dsimp only <;> omega))
              have h_hi := hf.at h_hi (by first | omega | (dsimp only <;> omega))
              have h_rw := fun (i : Nat) (hi : i < 8) => hf.at (h_rw i hi) (by first | omega | (dsimp only <;> omega))
              have hE := hE.tr (hf.wk (fun j hj => by first | omega | (dsimp only at hj ⊢ <;> omega)))
              have h_da : ws[b + 2]? = some (ad 8, aI cy 1111 (pLoad bu tl).2.2.2) := by rw [← hR.g hP0]; exact h_da
              refine r_aload_n E 0 hl rfl dX11_load_196 ?_
              refine r_callVV E h (As := []) (rest := []) (k_X11_layAll l h_mo h_da h_me h_le h_ru h_so h_fo h_wn hD2) h_mo rfl gX11_load_X11_layAll rfl hd_X11_layAll (by decide) ⟨by decide, by decide⟩ hl.1 rfl (Nat.le_of_ble_eq_true rfl) dX11_load_197 rfl (fun ws H locs hp h => ?_)
              obtain ⟨I_197, me_197, le_197, ru_197, so_197, fo_197, wn_197, h_mo, h_me, h_le, h_ru, h_so, h_fo, h_wn, e_197, g_197, hf⟩ := hp
              have h_bu := hf.at h_bu (by first | omega | (dsimp only <;> omega))
              have h_da := hf.at h_da (by first | omega | (dsimp only <;> omega))
              have h_dr := hf.at h_dr (by first | omega | (dsimp only <;> omega))
              have h_hi := hf.at h_hi (by first | omega | (dsimp only <;> omega))
              have h_rw := fun (i : Nat) (hi : i < 8) => hf.at (h_rw i hi) (by first | omega | (dsimp only <;> omega))
              have hE := hE.tr (hf.wk (fun j hj => by first | omega | (dsimp only at hj ⊢ <;> omega)))
              refine r_aload_n E 0 hl rfl dX11_load_200 ?_
              refine r_get (v := .ref (ad 8)) E h h_mo rfl inn_X11_load_11 8 (by decide) fl_X11_load_17 rfl dX11_load_201 ?_
              refine r_iconst E dX11_load_204 ?_
              refine r_iald E h h_da (by omega) (by decide) dX11_load_205 ?_
              exact r_iret E h ⟨I_197, _, dr3, me_197, le_197, ru_197, so_197, fo_197, wn_197, _, Or.inr ⟨by omega, (by rw [g_197 0 (by decide), g_182 0 (by decide)]; exact q0), (by rw [g_197 2 (by decide), g_182 2 (by decide)]; exact q2), (by rw [g_197 7 (by decide), g_182 7 (by decide)]; exact q7), Or.inr ⟨hP0, rfl, (by rw [g_197 12 (by decide), f_182]), rfl, rfl⟩⟩, h_mo, h_da, h_dr, h_rw, h_me, h_le, h_ru, h_so, h_fo, h_wn, e_197, (fun k k0 k2 k3 k4 k5 k6 k7 k12 k13 k14 k19 => by rw [g_197 k k19, g_182 k k12]; exact gk7 k k0 k2 k3 k4 k5 k6 k7 k13 k14 k7), hE⟩ dX11_load_206
            · skip
              refine r_aload_n E 0 hl rfl dX11_load_176 ?_
              refine r_get (v := .int (zI (I3 5))) E h h_mo rfl inn_X11_load_11 5 (by decide) fl_X11_load_73 rfl dX11_load_177 ?_
              exact r_iret E h ⟨_, d, dr3, me, le, ru, so, fo, wn, hs, Or.inr ⟨by omega, q0, q2, q7, Or.inl ⟨by have := hR.2.2.2.1.1; omega, hR.2.2.2.1.1, q12, rfl, rfl⟩⟩, h_mo, h_da, h_dr, h_rw, h_me, h_le, h_ru, h_so, h_fo, h_wn, by rw [q19]; exact hL, fun k k0 k2 k3 k4 k5 k6 k7 k12 k13 k14 k19 => gk7 k k0 k2 k3 k4 k5 k6 k7 k13 k14 k7, hE⟩ dX11_load_180
          · skip
            refine r_aload_n E 0 hl rfl dX11_load_146 ?_
            refine r_callVI E h (As := []) (rest := []) (k_X11_next l h_mo h_bu htx hR.hL hR.hp) h_mo rfl gX11_load_X11_next rfl hd_X11_next (by decide) ⟨by decide, by decide⟩ hl.1 rfl (Nat.le_of_ble_eq_true rfl) dX11_load_147 rfl (fun z_147 ws H locs hp h => ?_)
            obtain ⟨e_147, I_147, h_mo, ⟨f_147, g_147⟩, hf⟩ := hp
            have h_bu := hf.at h_bu (by first | omega | (dsimp only <;> omega))
            have h_da := hf.at h_da (by first | omega | (dsimp only <;> omega))
            have h_dr := hf.at h_dr (by first | omega | (dsimp only <;> omega))
            have h_me := hf.at h_me (by first | omega | (dsimp only <;> omega))
            have h_le := hf.at h_le (by first | omega | (dsimp only <;> omega))
            have h_ru := hf.at h_ru (by first | omega | (dsimp only <;> omega))
            have h_so := hf.at h_so (by first | omega | (dsimp only <;> omega))
            have h_fo := hf.at h_fo (by first | omega | (dsimp only <;> omega))
            have h_wn := hf.at h_wn (by first | omega | (dsimp only <;> omega))
            have h_hi := hf.at h_hi (by first | omega | (dsimp only <;> omega))
            have h_rw := fun (i : Nat) (hi : i < 8) => hf.at (h_rw i hi) (by first | omega | (dsimp only <;> omega))
            have hE := hE.tr (hf.wk (fun j hj => by first | omega | (dsimp only at hj ⊢ <;> omega)))
            have h0 : S2.1 = 0 := by have := hR.2.2.2.1.1; omega
            have b_147 : z_147 = byA bu tl S2.2.2.1 := hR.by h0 e_147
            have hbr := byA_rng htx (L := tl) (p := S2.2.2.1)
            have hR : PR bu tl I_147 dr3 S2 := hR.mv f_147 g_147
            have gk : ∀ k : Nat, k ≠ 4 → k ≠ 5 → k ≠ 6 → k ≠ 14 → I_147 k = I9 k := fun k q4 q5 q6 q14 => (g_147 k q4).trans (gk k q4 q5 q6 q14)
            have hw14 : S2.1 = 0 → I_147 14 = S2.2.2.2 3 := fun hh => (g_147 14 (by decide)).trans (hw14 hh)
            refine r_iconst E dX11_load_150 ?_
            refine r_icmp_eq E 161 dX11_load_151 (by decide) (by omega) (fun c_151 => ?_) (fun c_151 => ?_)
            · skip
              have hfin : S2 = pLoad bu tl := by
                rw [← hfin]
                exact (pSts_end (Or.inr (by omega))).symm
              refine r_aload_n E 0 hl rfl dX11_load_161 ?_
              refine r_aload_n E 0 hl rfl dX11_load_162 ?_
              refine r_get (v := .int (zI (I_147 6))) E h h_mo rfl inn_X11_load_11 6 (by decide) fl_X11_load_76 rfl dX11_load_163 ?_
              refine r_put E h h_mo rfl inn_X11_load_11 7 (by decide) fl_X11_load_13 tyX11 tyX11_ok nmX11 rfl rfl rfl (Nat.le_of_ble_eq_true rfl) dX11_load_166 (fun ws H locs h hu => ?_)
              have h_mo : ws[b]? = some (aM, mO (va_up I_147 7 (I_147 6)) ad) := hu.1
              have h_bu := hu.keep h_bu (by omega)
              have h_da := hu.keep h_da (by omega)
              have h_dr := hu.keep h_dr (by omega)
              have h_me := hu.keep h_me (by omega)
              have h_le := hu.keep h_le (by omega)
              have h_ru := hu.keep h_ru (by omega)
              have h_so := hu.keep h_so (by omega)
              have h_fo := hu.keep h_fo (by omega)
              have h_wn := hu.keep h_wn (by omega)
              have h_hi := hu.keep h_hi (by omega)
              have h_rw := fun (i : Nat) (hi : i < 8) => hu.keep (h_rw i hi) (by omega)
              have hE := hE.tr (hu.eqx (by first | omega | (dsimp only <;> omega)))
              have hR : PR bu tl (va_up I_147 7 (I_147 6)) dr3 (pLoad bu tl) := by
                rw [← hfin]
                exact hR.cg (by simp [va_up]) (by simp [va_up]) (by simp [va_up]) (by simp [va_up])
              have q7 : (va_up I_147 7 (I_147 6)) 7 = (pLoad bu tl).2.1 := by
                have := hR.2.2.2.1.2
                simp [va_up] at this ⊢
                exact this
              have gk7 : ∀ k : Nat, k ≠ 0 → k ≠ 2 → k ≠ 3 → k ≠ 4 → k ≠ 5 → k ≠ 6 → k ≠ 7 → k ≠ 13 → k ≠ 14 → k ≠ 7 → (va_up I_147 7 (I_147 6)) k = I k := fun k k0 k2 k3 k4 k5 k6 k7 k13 k14 _ => by
                simp [va_up, k7]
                rw [gk k k4 k5 k6 k14, vk k k0 k2 k3 k4 k5 k6 k13 k14]
              have q0 : (va_up I_147 7 (I_147 6)) 0 = 0 := by simp [va_up]; rw [gk 0 (by decide) (by decide) (by decide) (by decide)]; exact v0
              have q2 : (va_up I_147 7 (I_147 6)) 2 = 0 := by simp [va_up]; rw [gk 2 (by decide) (by decide) (by decide) (by decide)]; exact v2
              have q12 : (va_up I_147 7 (I_147 6)) 12 = I 12 := gk7 12 (by decide) (by decide) (by decide) (by decide) (by decide) (by decide) (by decide) (by decide) (by decide) (by decide)
              have q19 : (va_up I_147 7 (I_147 6)) 19 = I 19 := gk7 19 (by decide) (by decide) (by decide) (by decide) (by decide) (by decide) (by decide) (by decide) (by decide) (by decide)
              refine r_aload_n E 0 hl rfl dX11_load_169 ?_
              refine r_callVI E h (As := []) (rest := []) (k_X11_isGood l h_mo hR.2.2.1) h_mo rfl gX11_load_X11_isGood rfl hd_X11_isGood (by decide) ⟨by decide, by decide⟩ hl.1 rfl (Nat.le_of_ble_eq_true rfl) dX11_load_170 rfl (fun z_170 ws H locs hp h => ?_)
              obtain ⟨e_z_170, rfl⟩ := hp
              refine r_if_ne E 181 dX11_load_173 (by decide) (by omega) (fun c_173 => ?_) (fun c_173 => ?_)
              · skip
                have hP0 : (pLoad bu tl).1 = 0 := by have := hR.2.2.2.1.1; omega
                obtain ⟨T2, hD2⟩ := (((SV.load (t := bu) (L := tl) (by omega)).2 hP0).2).2.2.2.1
                refine r_aload_n E 0 hl rfl dX11_load_181 ?_
                refine r_callVV E h (As := []) (rest := []) (k_X11_remember l h_mo h_da h_hi h_rw hhi (by rw [q12]; exact hdep)) h_mo rfl gX11_load_X11_remember rfl hd_X11_remember (by decide) ⟨by decide, by decide⟩ hl.1 rfl (Nat.le_of_ble_eq_true rfl) dX11_load_182 rfl (fun ws H locs hp h => ?_)
                obtain ⟨I_182, h_mo, h_rw, ⟨f_182, g_182⟩, hf⟩ := hp
                have h_bu := hf.at h_bu (by first | omega | (dsimp only <;> omega))
                have h_da := hf.at h_da (by first | omega | (dsimp only <;> omega))
                have h_dr := hf.at h_dr (by first | omega | (dsimp only <;> omega))
                have h_me := hf.at h_me (by first | omega | (dsimp only <;> omega))
                have h_le := hf.at h_le (by first | omega | (dsimp only <;> omega))
                have h_ru := hf.at h_ru (by first | omega | (dsimp only <;> omega))
                have h_so := hf.at h_so (by first | omega | (dsimp only <;> omega))
                have h_fo := hf.at h_fo (by first | omega | (dsimp only <;> omega))
                have h_wn := hf.at h_wn (by first | omega | (dsimp only <;> omega))
                have h_hi := hf.at h_hi (by first | omega | (dsimp only <;> omega))
                rw [q12] at h_rw f_182
                have hE := hE.tr (hf.wk (fun j hj => by first | omega | (dsimp only at hj ⊢ <;> omega)))
                refine r_aload_n E 0 hl rfl dX11_load_185 ?_
                refine r_get (v := .ref (ad 9)) E h h_mo rfl inn_X11_load_11 9 (by decide) fl_X11_load_20 rfl dX11_load_186 ?_
                refine r_aload_n E 0 hl rfl dX11_load_189 ?_
                refine r_get (v := .ref (ad 8)) E h h_mo rfl inn_X11_load_11 8 (by decide) fl_X11_load_17 rfl dX11_load_190 ?_
                refine r_callSV E h (As := [.ref (ad 9), .ref (ad 8)]) (rest := []) (k_X11_copy l h_dr h_da (by omega)) gX11_load_X11_copy rfl hd_X11_copy (by decide) ⟨by decide, by decide⟩ hl.1 rfl (Nat.le_of_ble_eq_true rfl) dX11_load_193 rfl (fun ws H locs hp h => ?_)
                obtain ⟨h_da, hf⟩ := hp
                have h_mo := hf.at h_mo (by first | omega | (dsimp only <;> omega))
                have h_bu := hf.at h_bu (by first | omega | (dsimp only <;> omega))
                have h_dr := hf.at h_dr (by first | omega | (dsimp only <;> omega))
                have h_me := hf.at h_me (by first | omega | (dsimp only <;> omega))
                have h_le := hf.at h_le (by first | omega | (dsimp only <;> omega))
                have h_ru := hf.at h_ru (by first | omega | (dsimp only <;> omega))
                have h_so := hf.at h_so (by first | omega | (dsimp only <;> omega))
                have h_fo := hf.at h_fo (by first | omega | (dsimp only <;> omega))
                have h_wn := hf.at h_wn (by first | omega | (dsimp only <;> omega))
                have h_hi := hf.at h_hi (by first | omega | (dsimp only <;> omega))
                have h_rw := fun (i : Nat) (hi : i < 8) => hf.at (h_rw i hi) (by first | omega | (dsimp only <;> omega))
                have hE := hE.tr (hf.wk (fun j hj => by first | omega | (dsimp only at hj ⊢ <;> omega)))
                have h_da : ws[b + 2]? = some (ad 8, aI cy 1111 (pLoad bu tl).2.2.2) := by rw [← hR.g hP0]; exact h_da
                refine r_aload_n E 0 hl rfl dX11_load_196 ?_
                refine r_callVV E h (As := []) (rest := []) (k_X11_layAll l h_mo h_da h_me h_le h_ru h_so h_fo h_wn hD2) h_mo rfl gX11_load_X11_layAll rfl hd_X11_layAll (by decide) ⟨by decide, by decide⟩ hl.1 rfl (Nat.le_of_ble_eq_true rfl) dX11_load_197 rfl (fun ws H locs hp h => ?_)
                obtain ⟨I_197, me_197, le_197, ru_197, so_197, fo_197, wn_197, h_mo, h_me, h_le, h_ru, h_so, h_fo, h_wn, e_197, g_197, hf⟩ := hp
                have h_bu := hf.at h_bu (by first | omega | (dsimp only <;> omega))
                have h_da := hf.at h_da (by first | omega | (dsimp only <;> omega))
                have h_dr := hf.at h_dr (by first | omega | (dsimp only <;> omega))
                have h_hi := hf.at h_hi (by first | omega | (dsimp only <;> omega))
                have h_rw := fun (i : Nat) (hi : i < 8) => hf.at (h_rw i hi) (by first | omega | (dsimp only <;> omega))
                have hE := hE.tr (hf.wk (fun j hj => by first | omega | (dsimp only at hj ⊢ <;> omega)))
                refine r_aload_n E 0 hl rfl dX11_load_200 ?_
                refine r_get (v := .ref (ad 8)) E h h_mo rfl inn_X11_load_11 8 (by decide) fl_X11_load_17 rfl dX11_load_201 ?_
                refine r_iconst E dX11_load_204 ?_
                refine r_iald E h h_da (by omega) (by decide) dX11_load_205 ?_
                exact r_iret E h ⟨I_197, _, dr3, me_197, le_197, ru_197, so_197, fo_197, wn_197, _, Or.inr ⟨by omega, (by rw [g_197 0 (by decide), g_182 0 (by decide)]; exact q0), (by rw [g_197 2 (by decide), g_182 2 (by decide)]; exact q2), (by rw [g_197 7 (by decide), g_182 7 (by decide)]; exact q7), Or.inr ⟨hP0, rfl, (by rw [g_197 12 (by decide), f_182]), rfl, rfl⟩⟩, h_mo, h_da, h_dr, h_rw, h_me, h_le, h_ru, h_so, h_fo, h_wn, e_197, (fun k k0 k2 k3 k4 k5 k6 k7 k12 k13 k14 k19 => by rw [g_197 k k19, g_182 k k12]; exact gk7 k k0 k2 k3 k4 k5 k6 k7 k13 k14 k7), hE⟩ dX11_load_206
              · skip
                refine r_aload_n E 0 hl rfl dX11_load_176 ?_
                refine r_get (v := .int (zI (I_147 5))) E h h_mo rfl inn_X11_load_11 5 (by decide) fl_X11_load_73 rfl dX11_load_177 ?_
                exact r_iret E h ⟨_, d, dr3, me, le, ru, so, fo, wn, hs, Or.inr ⟨by omega, q0, q2, q7, Or.inl ⟨by have := hR.2.2.2.1.1; omega, hR.2.2.2.1.1, q12, rfl, rfl⟩⟩, h_mo, h_da, h_dr, h_rw, h_me, h_le, h_ru, h_so, h_fo, h_wn, by rw [q19]; exact hL, fun k k0 k2 k3 k4 k5 k6 k7 k12 k13 k14 k19 => gk7 k k0 k2 k3 k4 k5 k6 k7 k13 k14 k7, hE⟩ dX11_load_180
            · skip
              refine r_aload_n E 0 hl rfl dX11_load_154 ?_
              refine r_callVsV E hX h (As := []) (rest := []) (k_X11_statement l h_mo h_bu h_dr htx hR h0 hV (hw14 h0) ((gk 13 (by decide) (by decide) (by decide) (by decide)).trans v13)) h_mo rfl gX11_load_X11_statement rfl hd_X11_statement (by decide) ⟨by decide, by decide⟩ hl.1 rfl (Nat.le_of_ble_eq_true rfl) dX11_load_155 rfl (fun ws H locs hp h => ?_)
              obtain ⟨I_155, dr_155, h_mo, h_dr, ⟨hR, e_155, g_155⟩, hf⟩ := hp
              have h_bu := hf.at h_bu (by first | omega | (dsimp only <;> omega))
              have h_da := hf.at h_da (by first | omega | (dsimp only <;> omega))
              have h_me := hf.at h_me (by first | omega | (dsimp only <;> omega))
              have h_le := hf.at h_le (by first | omega | (dsimp only <;> omega))
              have h_ru := hf.at h_ru (by first | omega | (dsimp only <;> omega))
              have h_so := hf.at h_so (by first | omega | (dsimp only <;> omega))
              have h_fo := hf.at h_fo (by first | omega | (dsimp only <;> omega))
              have h_wn := hf.at h_wn (by first | omega | (dsimp only <;> omega))
              have h_hi := hf.at h_hi (by first | omega | (dsimp only <;> omega))
              have h_rw := fun (i : Nat) (hi : i < 8) => hf.at (h_rw i hi) (by first | omega | (dsimp only <;> omega))
              have hsv := SV.stm (t := bu) hV h0 (by omega)
              obtain ⟨f3, rfl⟩ : ∃ k, f2 = k + 1 := ⟨f2 - 1, by have := hf2 h0; have := (hV.2 h0).1; omega⟩
              rw [pSts_step h0 (by omega)] at hfin
              have gk : ∀ k : Nat, k ≠ 4 → k ≠ 5 → k ≠ 6 → k ≠ 14 → I_155 k = I9 k := fun k q4 q5 q6 q14 => (g_155 k q4 q5 q6 q14).trans (gk k q4 q5 q6 q14)
              have hE := hE.tr (hf.wk (fun j hj => by first | omega | (dsimp only at hj ⊢ <;> omega)))
              refine r_goto E 139 dX11_load_158 (by decide) ?_
              exact ih_139 _ H locs ls (by omega) ⟨ws, f3, (pStm bu tl S2), I_155, dr_155, rfl, hR, hsv.1, hfin, (fun hh => by have := (hsv.2 hh).1; have := hf2 h0; omega), gk, (fun hh => by have := (hsv.2 hh).2; have := hw14 h0; omega), h, h_mo, h_bu, h_da, h_dr, h_me, h_le, h_ru, h_so, h_fo, h_wn, h_hi, h_rw, hE, lv_sub hl [0, 1] rfl⟩
      · skip
        refine r_aload_n E 0 hl rfl dX11_load_76 ?_
        refine r_get (v := .ref (ad 9)) E h h_mo rfl inn_X11_load_11 9 (by decide) fl_X11_load_20 rfl dX11_load_77 ?_
        refine r_iload_n E 2 hl rfl dX11_load_80 ?_
        refine r_iconst E dX11_load_81 ?_
        refine r_iast E h h_dr (by omega) (by decide) dX11_load_82 (fun ws H locs h hu => ?_)
        have h_mo := hu.keep h_mo (by omega)
        have h_bu := hu.keep h_bu (by omega)
        have h_da := hu.keep h_da (by omega)
        have h_dr : ws[b + 3]? = some (ad 9, aI cy 1111 (uZ dr3 k 0)) := hu.1
        have h_me := hu.keep h_me (by omega)
        have h_le := hu.keep h_le (by omega)
        have h_ru := hu.keep h_ru (by omega)
        have h_so := hu.keep h_so (by omega)
        have h_fo := hu.keep h_fo (by omega)
        have h_wn := hu.keep h_wn (by omega)
        have h_hi := hu.keep h_hi (by omega)
        have h_rw := fun (i : Nat) (hi : i < 8) => hu.keep (h_rw i hi) (by omega)
        have hE := hE.tr (hu.eqx (by first | omega | (dsimp only <;> omega)))
        refine r_iinc (lv' := [(2, .int (zI (k + 1))), (0, .ref aM), (1, .int (zI tl))]) E 2 hl rfl dX11_load_83 (by decide) rfl (fun ls hl => ?_)
        refine r_goto E 69 dX11_load_86 (by decide) ?_
        exact ih_69 _ H locs ls (by omega) ⟨ws, (k + 1), (uZ dr3 k 0), rfl, (by omega), (fun j h0 h1 => by
      by_cases e : j = k
      · subst e; exact uZ_s
      · rw [uZ_n e]; exact i2 j h0 (by omega)), h, h_mo, h_bu, h_da, h_dr, h_me, h_le, h_ru, h_so, h_fo, h_wn, h_hi, h_rw, hE, lv_sub hl [1, 2, 0] rfl⟩
    · skip
      refine r_iconst E dX11_load_30 ?_
      exact r_iret E h ⟨_, d, dr, me, le, ru, so, fo, wn, hs, Or.inl ⟨by omega, rfl, (by simp [va_up]; omega), (by simp [va_up]), (by simp [va_up]), (by simp [va_up]), rfl, rfl⟩, h_mo, h_da, h_dr, h_rw, h_me, h_le, h_ru, h_so, h_fo, h_wn, (by simp [va_up]; exact hL), (fun k k0 k2 k3 k4 k5 k6 k7 k12 k13 k14 k19 => by simp [va_up, k0]), hE⟩ dX11_load_31
  · intro kb_15
    refine r_if_ne E 22 dX11_load_15 (by decide) (by omega) (fun c_15 => ?_) (fun c_15 => ?_)
    · refine r_iconst E dX11_load_22 ?_
      exact kb_15 _ H locs ls ⟨Or.inl ⟨rfl, c_15⟩, h, hl⟩
    · refine r_iconst E dX11_load_18 ?_
      refine r_goto E 23 dX11_load_19 (by decide) ?_
      exact kb_15 _ H locs ls ⟨Or.inr ⟨rfl, c_15⟩, h, hl⟩
