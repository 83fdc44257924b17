theorem hd_X11_takeWord : yX11_takeWord.cls = RX11 ∧ yX11_takeWord.cls ≠ "java/lang/invoke/MethodHandle" ∧ yX11_takeWord.cls ≠ "java/lang/invoke/VarHandle" ∧ (parseMethodDescriptor yX11_takeWord.desc).map (fun d => d.parameters.length) = some 1 := by decide +kernel
theorem fl_X11_takeWord_66 : Cond.fieldLink RX11 66 (TX11 4).1 (TX11 4).2.1 (TX11 4).2.2.1 ∈ wsX11_takeWord := List.mem_of_getElem? (i := 1) rfl
theorem inn_X11_takeWord_11 : ∀ w ∈ wsX110, w ∈ wsX11_takeWord := fun _ h => List.mem_cons_of_mem _ (List.mem_append_right _ h)
abbrev rm_X11_takeWord : Room := { frames := 4, cells := 0, slots := 0, locals := 85 }
set_option maxHeartbeats 4000000 in
set_option maxRecDepth 100000 in
theorem k_X11_takeWord (l : Launch) {G : va_G} {cy : Nat → ClassId} {ws0 : va_W} {b aM : Nat} {I : Nat → Int} {ad : Nat → Nat} {bu : Int → Int} (i : Nat) (h_mo : ws0[b]? = some (aM, mO I ad)) (h_bu : ws0[b + 1]? = some (ad 1, aI cy 600 bu)) (htx : TXok bu) (hL : 0 ≤ I 3 ∧ I 3 ≤ 600) (hp : 0 ≤ I 4 ∧ I 4 ≤ I 3) (hE5 : (-10 ≤ I 5 ∧ I 5 ≤ 0)) (hi : i < 9) : MIs l yX11_takeWord wsX11_takeWord rm_X11_takeWord G cy [.ref aM, .ref (cy (100 + i))] ws0 (fun z u => ∃ I2 : Nat → Int, u[b]? = some (aM, mO I2 ad) ∧ ((I 5 ≠ 0 ∧ z = 0 ∧ I2 4 = I 4 ∨ I 5 = 0 ∧ isW bu (I 3) (sk bu (I 3) (I 4)) (ST i) = true ∧ z = 1 ∧ I2 4 = sk bu (I 3) (I 4) + (lenST.getD i 0 : Nat) ∨ I 5 = 0 ∧ isW bu (I 3) (sk bu (I 3) (I 4)) (ST i) = false ∧ z = 0 ∧ I2 4 = sk bu (I 3) (I 4)) ∧ ∀ k : Nat, k ≠ 4 → I2 k = I k) ∧ Eqx ws0 u (fun j => j = b)) := by
  refine MIs.of (own := RX11) (cc := cX11_takeWord) (nL := 3) (ret := (some .boolean)) (by decide) rfl rfl (Nat.le_of_ble_eq_true rfl) ?_
  intro p e s m below meth c A ls hX E h hl
  have hl : lv_has ls 3 [(0, .ref aM), (1, .ref (cy (100 + i)))] := hl
  have hE : Eqx ws0 ws0 (fun j => j = b) := Eqx.rf
  have hl9 := lenST_rng i hi
  have hb9 := ST_byt i hi
  have hs9 := sk_rng (t := bu) hp.2
  refine r_aload_n E 0 hl rfl dX11_takeWord_0 ?_
  refine r_callVI E h (As := []) (rest := []) (k_X11_isGood l h_mo hE5) h_mo rfl gX11_takeWord_X11_isGood rfl hd_X11_isGood (by decide) ⟨by decide, by decide⟩ hl.1 rfl (Nat.le_of_ble_eq_true rfl) dX11_takeWord_1 rfl (fun z_1 ws H locs hp h => ?_)
  obtain ⟨e_z_1, rfl⟩ := hp
  refine r_if_ne E 9 dX11_takeWord_4 (by decide) (by omega) (fun c_4 => ?_) (fun c_4 => ?_)
  · skip
    refine r_aload_n E 0 hl rfl dX11_takeWord_9 ?_
    refine r_callVI E h (As := []) (rest := []) (k_X11_next l h_mo h_bu htx hL hp) h_mo rfl gX11_takeWord_X11_next rfl hd_X11_next (by decide) ⟨by decide, by decide⟩ hl.1 rfl (Nat.le_of_ble_eq_true rfl) dX11_takeWord_10 rfl (fun z_10 ws H locs hp h => ?_)
    obtain ⟨e_10, I_10, h_mo, ⟨f_10, g_10⟩, hf⟩ := hp
    have h_bu := hf.at h_bu (by first | omega | (dsimp only <;> omega))
    have hE := hE.tr (hf.wk (fun j hj => by first | omega | (dsimp only at hj ⊢ <;> omega)))
    refine r_pop E dX11_takeWord_13 rfl ?_
    refine r_iconst E dX11_takeWord_14 ?_
    refine r_istore_n (lv' := [(2, .int (zI 0)), (0, .ref aM), (1, .ref (cy (100 + i)))]) E hl dX11_takeWord_15 rfl (by decide) rfl (fun ls hl => ?_)
    refine r_loop (fun n H locs ls => ∃ (k : Int), n = (12 - k).toNat ∧ (0 ≤ k ∧ k ≤ (lenST.getD i 0 : Nat)) ∧ (∀ j : Nat, (j : Int) < k → byA bu (I 3) (sk bu (I 3) (I 4) + j) = (ST i).getD j 0) ∧ Hp G ws A s.heap H locs ∧ lv_has ls 3 [(0, .ref aM), (1, .ref (cy (100 + i))), (2, .int (zI k))]) _ ⟨0, rfl, (by omega), (fun j h1 => absurd h1 (by omega)), h, lv_sub hl [1, 2, 0] rfl⟩ ?_
    rintro n H locs ls ⟨k, hn, i1, i2, h, hl⟩ ih_16
    refine r_iload_n E 2 hl rfl dX11_takeWord_16 ?_
    refine r_aload_n E 1 hl rfl dX11_takeWord_17 ?_
    refine r_callStr E hX h hi (As := []) (rest := [.int (zI k)]) (k_J0_length_8abf5 l i hi) gX11_takeWord_J0_length_8abf5 rfl hd_J0_length_8abf5 (by decide) ⟨by decide, by decide⟩ hl.1 rfl (Nat.le_of_ble_eq_true rfl) dX11_takeWord_18 rfl (fun z_18 ws H locs hp h => ?_)
    obtain ⟨rfl, rfl⟩ := hp
    refine r_icmp_ge E 48 dX11_takeWord_21 (by decide) (by omega) (fun c_21 => ?_) (fun c_21 => ?_)
    · skip
      refine r_iload_n E 2 hl rfl dX11_takeWord_48 ?_
      refine r_aload_n E 1 hl rfl dX11_takeWord_49 ?_
      refine r_callStr E hX h hi (As := []) (rest := [.int (zI k)]) (k_J0_length_8abf5 l i hi) gX11_takeWord_J0_length_8abf5 rfl hd_J0_length_8abf5 (by decide) ⟨by decide, by decide⟩ hl.1 rfl (Nat.le_of_ble_eq_true rfl) dX11_takeWord_50 rfl (fun z_50 ws H locs hp h => ?_)
      obtain ⟨rfl, rfl⟩ := hp
      refine r_icmp_lt E 76 dX11_takeWord_53 (by decide) (by omega) (fun c_53 => ?_) (fun c_53 => ?_)
      · skip
        refine r_iconst E dX11_takeWord_76 ?_
        exact r_zret E h (by omega) ⟨I_10, h_mo, ⟨Or.inr (Or.inr ⟨by omega, (by
  by_cases hh : isW bu (I 3) (sk bu (I 3) (I 4)) (ST i) = true
  · exfalso
    obtain ⟨u1, u2⟩ := isW_iff.mp hh
    first | (exfalso; omega) | (have u3 := u1 k.toNat (by omega); rw [show ((k.toNat : Nat) : Int) = k by omega] at u3; exact c_39 u3) | (apply u2; rw [hb9.1, show ((lenST.getD i 0 : Nat) : Int) = k by omega]; omega)
  · simpa using hh), rfl, f_10⟩), g_10⟩, hE⟩ dX11_takeWord_77
      · skip
        refine r_aload_n E 0 hl rfl dX11_takeWord_56 ?_
        refine r_aload_n E 0 hl rfl dX11_takeWord_57 ?_
        refine r_get (v := .int (zI (I_10 4))) E h h_mo rfl inn_X11_takeWord_11 4 (by decide) fl_X11_takeWord_66 rfl dX11_takeWord_58 ?_
        rw [show I_10 4 = sk bu (I 3) (I 4) from f_10]
        refine r_iload_n E 2 hl rfl dX11_takeWord_61 ?_
        refine r_iadd E dX11_takeWord_62 ?_
        refine r_callVI E h (As := [.int (zI ((sk bu (I 3) (I 4)) + k))]) (rest := []) (k_X11_byteAt l ((sk bu (I 3) (I 4)) + k) h_mo h_bu (by omega) (by rw [g_10 3 (by decide)]; exact hL)) h_mo rfl gX11_takeWord_X11_byteAt rfl hd_X11_byteAt (by decide) ⟨by decide, by decide⟩ hl.1 rfl (Nat.le_of_ble_eq_true rfl) dX11_takeWord_63 rfl (fun z_63 ws H locs hp h => ?_)
        obtain ⟨e_z_63, rfl⟩ := hp
        rw [g_10 3 (by decide)] at e_z_63
        subst e_z_63
        refine r_bipush E dX11_takeWord_66 (by decide) ?_
        refine r_bipush E dX11_takeWord_68 (by decide) ?_
        have hbr := byA_rng htx (L := I 3) (p := sk bu (I 3) (I 4) + k)
        refine r_callSI E h (As := [.int (zI (byA bu (I 3) ((sk bu (I 3) (I 4)) + k))), .int (zI 97), .int (zI 122)]) (rest := []) (k_X11_in l (byA bu (I 3) ((sk bu (I 3) (I 4)) + k)) 97 122 (by omega)) gX11_takeWord_X11_in rfl hd_X11_in (by decide) ⟨by decide, by decide⟩ hl.1 rfl (Nat.le_of_ble_eq_true rfl) dX11_takeWord_70 rfl (fun z_70 ws H locs hp h => ?_)
        obtain ⟨e_z_70, rfl⟩ := hp
        refine r_if_eq E 78 dX11_takeWord_73 (by decide) (by omega) (fun c_73 => ?_) (fun c_73 => ?_)
        · skip
          refine r_aload_n E 0 hl rfl dX11_takeWord_78 ?_
          refine r_dup E dX11_takeWord_79 rfl ?_
          refine r_get (v := .int (zI (I_10 4))) E h h_mo rfl inn_X11_takeWord_11 4 (by decide) fl_X11_takeWord_66 rfl dX11_takeWord_80 ?_
          rw [show I_10 4 = sk bu (I 3) (I 4) from f_10]
          refine r_iload_n E 2 hl rfl dX11_takeWord_83 ?_
          refine r_iadd E dX11_takeWord_84 ?_
          refine r_put E h h_mo rfl inn_X11_takeWord_11 4 (by decide) fl_X11_takeWord_66 tyX11 tyX11_ok nmX11 rfl rfl rfl (Nat.le_of_ble_eq_true rfl) dX11_takeWord_85 (fun ws H locs h hu => ?_)
          have h_mo : ws[b]? = some (aM, mO (va_up I_10 4 ((sk bu (I 3) (I 4)) + k)) ad) := hu.1
          have h_bu := hu.keep h_bu (by omega)
          have hE := hE.tr (hu.eqx (by first | omega | (dsimp only <;> omega)))
          refine r_iconst E dX11_takeWord_88 ?_
          exact r_zret E h (by omega) ⟨_, h_mo, ⟨Or.inr (Or.inl ⟨by omega, isW_iff.mpr ⟨fun j hj => i2 j (by rw [hb9.1] at hj; omega), by rw [hb9.1, show ((lenST.getD i 0 : Nat) : Int) = k by omega]; omega⟩, rfl, by show sk bu (I 3) (I 4) + k = _; omega⟩), fun k9 hk9 => by simp [va_up, hk9]; exact g_10 k9 hk9⟩, hE⟩ dX11_takeWord_89
        · skip
          refine r_iconst E dX11_takeWord_76 ?_
          exact r_zret E h (by omega) ⟨I_10, h_mo, ⟨Or.inr (Or.inr ⟨by omega, (by
  by_cases hh : isW bu (I 3) (sk bu (I 3) (I 4)) (ST i) = true
  · exfalso
    obtain ⟨u1, u2⟩ := isW_iff.mp hh
    first | (exfalso; omega) | (have u3 := u1 k.toNat (by omega); rw [show ((k.toNat : Nat) : Int) = k by omega] at u3; exact c_39 u3) | (apply u2; rw [hb9.1, show ((lenST.getD i 0 : Nat) : Int) = k by omega]; omega)
  · simpa using hh), rfl, f_10⟩), g_10⟩, hE⟩ dX11_takeWord_77
    · skip
      have hb8 := hb9.2 k.toNat (by omega)
      have hb7 : 97 ≤ chS i k ∧ chS i k ≤ 122 := hb8.2
      refine r_aload_n E 0 hl rfl dX11_takeWord_24 ?_
      refine r_aload_n E 0 hl rfl dX11_takeWord_25 ?_
      refine r_get (v := .int (zI (I_10 4))) E h h_mo rfl inn_X11_takeWord_11 4 (by decide) fl_X11_takeWord_66 rfl dX11_takeWord_26 ?_
      rw [show I_10 4 = sk bu (I 3) (I 4) from f_10]
      refine r_iload_n E 2 hl rfl dX11_takeWord_29 ?_
      refine r_iadd E dX11_takeWord_30 ?_
      refine r_callVI E h (As := [.int (zI ((sk bu (I 3) (I 4)) + k))]) (rest := []) (k_X11_byteAt l ((sk bu (I 3) (I 4)) + k) h_mo h_bu (by omega) (by rw [g_10 3 (by decide)]; exact hL)) h_mo rfl gX11_takeWord_X11_byteAt rfl hd_X11_byteAt (by decide) ⟨by decide, by decide⟩ hl.1 rfl (Nat.le_of_ble_eq_true rfl) dX11_takeWord_31 rfl (fun z_31 ws H locs hp h => ?_)
      obtain ⟨e_z_31, rfl⟩ := hp
      rw [g_10 3 (by decide)] at e_z_31
      subst e_z_31
      refine r_aload_n E 1 hl rfl dX11_takeWord_34 ?_
      refine r_iload_n E 2 hl rfl dX11_takeWord_35 ?_
      refine r_callStr E hX h hi (As := [.int (zI k)]) (rest := [.int (zI (byA bu (I 3) ((sk bu (I 3) (I 4)) + k)))]) (k_J0_charAt_5068e l i k hi (by omega)) gX11_takeWord_J0_charAt_5068e rfl hd_J0_charAt_5068e (by decide) ⟨by decide, by decide⟩ hl.1 rfl (Nat.le_of_ble_eq_true rfl) dX11_takeWord_36 rfl (fun z_36 ws H locs hp h => ?_)
      obtain ⟨rfl, rfl⟩ := hp
      have hbr := byA_rng htx (L := I 3) (p := sk bu (I 3) (I 4) + k)
      refine r_icmp_ne E 48 dX11_takeWord_39 (by decide) (by omega) (fun c_39 => ?_) (fun c_39 => ?_)
      · skip
        refine r_iload_n E 2 hl rfl dX11_takeWord_48 ?_
        refine r_aload_n E 1 hl rfl dX11_takeWord_49 ?_
        refine r_callStr E hX h hi (As := []) (rest := [.int (zI k)]) (k_J0_length_8abf5 l i hi) gX11_takeWord_J0_length_8abf5 rfl hd_J0_length_8abf5 (by decide) ⟨by decide, by decide⟩ hl.1 rfl (Nat.le_of_ble_eq_true rfl) dX11_takeWord_50 rfl (fun z_50 ws H locs hp h => ?_)
        obtain ⟨rfl, rfl⟩ := hp
        refine r_icmp_lt E 76 dX11_takeWord_53 (by decide) (by omega) (fun c_53 => ?_) (fun c_53 => ?_)
        · skip
          refine r_iconst E dX11_takeWord_76 ?_
          exact r_zret E h (by omega) ⟨I_10, h_mo, ⟨Or.inr (Or.inr ⟨by omega, (by
  by_cases hh : isW bu (I 3) (sk bu (I 3) (I 4)) (ST i) = true
  · exfalso
    obtain ⟨u1, u2⟩ := isW_iff.mp hh
    first | (exfalso; omega) | (have u3 := u1 k.toNat (by omega); rw [show ((k.toNat : Nat) : Int) = k by omega] at u3; exact c_39 u3) | (apply u2; rw [hb9.1, show ((lenST.getD i 0 : Nat) : Int) = k by omega]; omega)
  · simpa using hh), rfl, f_10⟩), g_10⟩, hE⟩ dX11_takeWord_77
        · skip
          refine r_aload_n E 0 hl rfl dX11_takeWord_56 ?_
          refine r_aload_n E 0 hl rfl dX11_takeWord_57 ?_
          refine r_get (v := .int (zI (I_10 4))) E h h_mo rfl inn_X11_takeWord_11 4 (by decide) fl_X11_takeWord_66 rfl dX11_takeWord_58 ?_
          rw [show I_10 4 = sk bu (I 3) (I 4) from f_10]
          refine r_iload_n E 2 hl rfl dX11_takeWord_61 ?_
          refine r_iadd E dX11_takeWord_62 ?_
          refine r_callVI E h (As := [.int (zI ((sk bu (I 3) (I 4)) + k))]) (rest := []) (k_X11_byteAt l ((sk bu (I 3) (I 4)) + k) h_mo h_bu (by omega) (by rw [g_10 3 (by decide)]; exact hL)) h_mo rfl gX11_takeWord_X11_byteAt rfl hd_X11_byteAt (by decide) ⟨by decide, by decide⟩ hl.1 rfl (Nat.le_of_ble_eq_true rfl) dX11_takeWord_63 rfl (fun z_63 ws H locs hp h => ?_)
          obtain ⟨e_z_63, rfl⟩ := hp
          rw [g_10 3 (by decide)] at e_z_63
          subst e_z_63
          refine r_bipush E dX11_takeWord_66 (by decide) ?_
          refine r_bipush E dX11_takeWord_68 (by decide) ?_
          have hbr := byA_rng htx (L := I 3) (p := sk bu (I 3) (I 4) + k)
          refine r_callSI E h (As := [.int (zI (byA bu (I 3) ((sk bu (I 3) (I 4)) + k))), .int (zI 97), .int (zI 122)]) (rest := []) (k_X11_in l (byA bu (I 3) ((sk bu (I 3) (I 4)) + k)) 97 122 (by omega)) gX11_takeWord_X11_in rfl hd_X11_in (by decide) ⟨by decide, by decide⟩ hl.1 rfl (Nat.le_of_ble_eq_true rfl) dX11_takeWord_70 rfl (fun z_70 ws H locs hp h => ?_)
          obtain ⟨e_z_70, rfl⟩ := hp
          refine r_if_eq E 78 dX11_takeWord_73 (by decide) (by omega) (fun c_73 => ?_) (fun c_73 => ?_)
          · skip
            refine r_aload_n E 0 hl rfl dX11_takeWord_78 ?_
            refine r_dup E dX11_takeWord_79 rfl ?_
            refine r_get (v := .int (zI (I_10 4))) E h h_mo rfl inn_X11_takeWord_11 4 (by decide) fl_X11_takeWord_66 rfl dX11_takeWord_80 ?_
            rw [show I_10 4 = sk bu (I 3) (I 4) from f_10]
            refine r_iload_n E 2 hl rfl dX11_takeWord_83 ?_
            refine r_iadd E dX11_takeWord_84 ?_
            refine r_put E h h_mo rfl inn_X11_takeWord_11 4 (by decide) fl_X11_takeWord_66 tyX11 tyX11_ok nmX11 rfl rfl rfl (Nat.le_of_ble_eq_true rfl) dX11_takeWord_85 (fun ws H locs h hu => ?_)
            have h_mo : ws[b]? = some (aM, mO (va_up I_10 4 ((sk bu (I 3) (I 4)) + k)) ad) := hu.1
            have h_bu := hu.keep h_bu (by omega)
            have hE := hE.tr (hu.eqx (by first | omega | (dsimp only <;> omega)))
            refine r_iconst E dX11_takeWord_88 ?_
            exact r_zret E h (by omega) ⟨_, h_mo, ⟨Or.inr (Or.inl ⟨by omega, isW_iff.mpr ⟨fun j hj => i2 j (by rw [hb9.1] at hj; omega), by rw [hb9.1, show ((lenST.getD i 0 : Nat) : Int) = k by omega]; omega⟩, rfl, by show sk bu (I 3) (I 4) + k = _; omega⟩), fun k9 hk9 => by simp [va_up, hk9]; exact g_10 k9 hk9⟩, hE⟩ dX11_takeWord_89
          · skip
            refine r_iconst E dX11_takeWord_76 ?_
            exact r_zret E h (by omega) ⟨I_10, h_mo, ⟨Or.inr (Or.inr ⟨by omega, (by
  by_cases hh : isW bu (I 3) (sk bu (I 3) (I 4)) (ST i) = true
  · exfalso
    obtain ⟨u1, u2⟩ := isW_iff.mp hh
    first | (exfalso; omega) | (have u3 := u1 k.toNat (by omega); rw [show ((k.toNat : Nat) : Int) = k by omega] at u3; exact c_39 u3) | (apply u2; rw [hb9.1, show ((lenST.getD i 0 : Nat) : Int) = k by omega]; omega)
  · simpa using hh), rfl, f_10⟩), g_10⟩, hE⟩ dX11_takeWord_77
      · skip
        refine r_iinc (lv' := [(2, .int (zI (k + 1))), (0, .ref aM), (1, .ref (cy (100 + i)))]) E 2 hl rfl dX11_takeWord_42 (by decide) rfl (fun ls hl => ?_)
        refine r_goto E 16 dX11_takeWord_45 (by decide) ?_
        exact ih_16 _ H locs ls (by omega) ⟨(k + 1), rfl, (by omega), (fun j h1 => by
      by_cases e : (j : Int) = k
      · rw [e, c_39, ← e]; rfl
      · exact i2 j (by omega)), h, lv_sub hl [1, 2, 0] rfl⟩
  · skip
    refine r_iconst E dX11_takeWord_7 ?_
    exact r_zret E h (by omega) ⟨I, h_mo, ⟨Or.inl ⟨by omega, rfl, rfl⟩, fun _ _ => rfl⟩, hE⟩ dX11_takeWord_8
theorem hd_X11_expect : yX11_expect.cls = RX11 ∧ yX11_expect.cls ≠ "java/lang/invoke/MethodHandle" ∧ yX11_expect.cls ≠ "java/lang/invoke/VarHandle" ∧ (parseMethodDescriptor yX11_expect.desc).map (fun d => d.parameters.length) = some 1 := by decide +kernel
theorem fl_X11_expect_66 : Cond.fieldLink RX11 66 (TX11 4).1 (TX11 4).2.1 (TX11 4).2.2.1 ∈ wsX11_expect := List.mem_of_getElem? (i := 1) rfl
theorem inn_X11_expect_11 : ∀ w ∈ wsX110, w ∈ wsX11_expect := fun _ h => List.mem_cons_of_mem _ (List.mem_append_right _ h)
abbrev rm_X11_expect : Room := { frames := 2, cells := 0, slots := 0, locals := 41 }
set_option maxHeartbeats 4000000 in
set_option maxRecDepth 100000 in
theorem k_X11_expect (l : Launch) {G : va_G} {cy : Nat → ClassId} {ws0 : va_W} {b aM : Nat} {I : Nat → Int} {ad : Nat → Nat} {bu : Int → Int} (c9 : Int) (h_mo : ws0[b]? = some (aM, mO I ad)) (h_bu : ws0[b + 1]? = some (ad 1, aI cy 600 bu)) (htx : TXok bu) (hL : 0 ≤ I 3 ∧ I 3 ≤ 600) (hp : 0 ≤ I 4 ∧ I 4 ≤ I 3) (hE5 : (-10 ≤ I 5 ∧ I 5 ≤ 0)) (hc9 : 0 ≤ c9 ∧ c9 ≤ 255) : MV l yX11_expect wsX11_expect rm_X11_expect G cy [.ref aM, .int (zI c9)] ws0 (fun u => ∃ I2 : Nat → Int, u[b]? = some (aM, mO I2 ad) ∧ ((I 5 ≠ 0 ∧ I2 4 = I 4 ∧ I2 5 = I 5 ∧ I2 6 = I 6 ∨ I 5 = 0 ∧ byA bu (I 3) (sk bu (I 3) (I 4)) = c9 ∧ I2 4 = sk bu (I 3) (I 4) + 1 ∧ I2 5 = 0 ∧ I2 6 = I 6 ∨ I 5 = 0 ∧ byA bu (I 3) (sk bu (I 3) (I 4)) ≠ c9 ∧ I2 4 = sk bu (I 3) (I 4) ∧ I2 5 = -2 ∧ I2 6 = sk bu (I 3) (I 4)) ∧ ∀ k : Nat, k ≠ 4 → k ≠ 5 → k ≠ 6 → I2 k = I k) ∧ Eqx ws0 u (fun j => j = b)) := by
  refine MV.of (own := RX11) (cc := cX11_expect) (nL := 2) (ret := none) (by decide) rfl rfl (Nat.le_of_ble_eq_true rfl) ?_
  intro p e s m below meth c A ls hin E h hl
  have hl : lv_has ls 2 [(0, .ref aM), (1, .int (zI c9))] := hl
  have hE : Eqx ws0 ws0 (fun j => j = b) := Eqx.rf
  refine r_aload_n E 0 hl rfl dX11_expect_0 ?_
  refine r_callVI E h (As := []) (rest := []) (k_X11_isGood l h_mo hE5) h_mo rfl gX11_expect_X11_isGood rfl hd_X11_isGood (by decide) ⟨by decide, by decide⟩ hl.1 rfl (Nat.le_of_ble_eq_true rfl) dX11_expect_1 rfl (fun z_1 ws H locs hp h => ?_)
  obtain ⟨e_z_1, rfl⟩ := hp
  refine r_if_ne E 8 dX11_expect_4 (by decide) (by omega) (fun c_4 => ?_) (fun c_4 => ?_)
  · skip
    refine r_aload_n E 0 hl rfl dX11_expect_8 ?_
    refine r_callVI E h (As := []) (rest := []) (k_X11_next l h_mo h_bu htx hL hp) h_mo rfl gX11_expect_X11_next rfl hd_X11_next (by decide) ⟨by decide, by decide⟩ hl.1 rfl (Nat.le_of_ble_eq_true rfl) dX11_expect_9 rfl (fun z_9 ws H locs hp h => ?_)
    obtain ⟨e_9, I_9, h_mo, ⟨f_9, g_9⟩, hf⟩ := hp
    have h_bu := hf.at h_bu (by first | omega | (dsimp only <;> omega))
    have hE := hE.tr (hf.wk (fun j hj => by first | omega | (dsimp only at hj ⊢ <;> omega)))
    rw [e_9]
    skip
    have hbr := byA_rng htx (L := I 3) (p := sk bu (I 3) (I 4))
    refine r_iload_n E 1 hl rfl dX11_expect_12 ?_
    refine r_icmp_ne E 29 dX11_expect_13 (by decide) (by omega) (fun c_13 => ?_) (fun c_13 => ?_)
    · skip
      refine r_aload_n E 0 hl rfl dX11_expect_29 ?_
      refine r_bipush E dX11_expect_30 (by decide) ?_
      refine r_aload_n E 0 hl rfl dX11_expect_32 ?_
      refine r_get (v := .int (zI (I_9 4))) E h h_mo rfl inn_X11_expect_11 4 (by decide) fl_X11_expect_66 rfl dX11_expect_33 ?_
      rw [show I_9 4 = sk bu (I 3) (I 4) from f_9]
      refine r_callVV E h (As := [.int (zI (-2)), .int (zI (sk bu (I 3) (I 4)))]) (rest := []) (k_X11_report l (-2) (sk bu (I 3) (I 4)) h_mo (by rw [g_9 5 (by decide)]; exact hE5)) h_mo rfl gX11_expect_X11_report rfl hd_X11_report (by decide) ⟨by decide, by decide⟩ hl.1 rfl (Nat.le_of_ble_eq_true rfl) dX11_expect_36 rfl (fun ws H locs hp h => ?_)
      obtain ⟨I_36, h_mo, ⟨e_36, g_36⟩, hf⟩ := hp
      have h_bu := hf.at h_bu (by first | omega | (dsimp only <;> omega))
      have hE := hE.tr (hf.wk (fun j hj => by first | omega | (dsimp only at hj ⊢ <;> omega)))
      exact r_vret E h ⟨_, h_mo, ⟨Or.inr (Or.inr (by
  have q5 := g_9 5 (by decide)
  have q4 := g_36 4 (by decide) (by decide)
  exact ⟨by omega, by omega, by omega, by omega, by omega⟩)), fun k h4 h5 h6 => by rw [g_36 k h5 h6, g_9 k h4]⟩, hE⟩ dX11_expect_39
    · skip
      refine r_aload_n E 0 hl rfl dX11_expect_16 ?_
      refine r_dup E dX11_expect_17 rfl ?_
      refine r_get (v := .int (zI (I_9 4))) E h h_mo rfl inn_X11_expect_11 4 (by decide) fl_X11_expect_66 rfl dX11_expect_18 ?_
      rw [show I_9 4 = sk bu (I 3) (I 4) from f_9]
      refine r_iconst E dX11_expect_21 ?_
      refine r_iadd E dX11_expect_22 ?_
      refine r_put E h h_mo rfl inn_X11_expect_11 4 (by decide) fl_X11_expect_66 tyX11 tyX11_ok nmX11 rfl rfl rfl (Nat.le_of_ble_eq_true rfl) dX11_expect_23 (fun ws H locs h hu => ?_)
      have h_mo : ws[b]? = some (aM, mO (va_up I_9 4 ((sk bu (I 3) (I 4)) + 1)) ad) := hu.1
      have h_bu := hu.keep h_bu (by omega)
      have hE := hE.tr (hu.eqx (by first | omega | (dsimp only <;> omega)))
      refine r_goto E 39 dX11_expect_26 (by decide) ?_
      exact r_vret E h ⟨_, h_mo, ⟨Or.inr (Or.inl ⟨by omega, by omega, by simp [va_up], by simp [va_up]; rw [g_9 5 (by decide)]; omega, by simp [va_up]; exact g_9 6 (by decide)⟩), fun k h4 h5 h6 => by simp [va_up, h4]; exact g_9 k h4⟩, hE⟩ dX11_expect_39
  · skip
    exact r_vret E h ⟨I, h_mo, ⟨Or.inl ⟨by omega, rfl, rfl, rfl⟩, fun _ _ _ _ => rfl⟩, hE⟩ dX11_expect_7
theorem hd_X11_number : yX11_number.cls = RX11 ∧ yX11_number.cls ≠ "java/lang/invoke/MethodHandle" ∧ yX11_number.cls ≠ "java/lang/invoke/VarHandle" ∧ (parseMethodDescriptor yX11_number.desc).map (fun d => d.parameters.length) = some 2 := by decide +kernel
theorem fl_X11_number_66 : Cond.fieldLink RX11 66 (TX11 4).1 (TX11 4).2.1 (TX11 4).2.2.1 ∈ wsX11_number := List.mem_of_getElem? (i := 1) rfl
theorem inn_X11_number_11 : ∀ w ∈ wsX110, w ∈ wsX11_number := fun _ h => List.mem_cons_of_mem _ (List.mem_append_right _ h)
abbrev rm_X11_number : Room := { frames := 2, cells := 0, slots := 0, locals := 42 }
set_option maxHeartbeats 4000000 in
set_option maxRecDepth 100000 in
theorem k_X11_number (l : Launch) {G : va_G} {cy : Nat → ClassId} {ws0 : va_W} {b aM : Nat} {I : Nat → Int} {ad : Nat → Nat} {bu : Int → Int} (lo hi9 : Int) (h_mo : ws0[b]? = some (aM, mO I ad)) (h_bu : ws0[b + 1]? = some (ad 1, aI cy 600 bu)) (htx : TXok bu) (hL : 0 ≤ I 3 ∧ I 3 ≤ 600) (hp : 0 ≤ I 4 ∧ I 4 ≤ I 3) (hE5 : (-10 ≤ I 5 ∧ I 5 ≤ 0)) (hlo : -10 ≤ lo ∧ lo ≤ 10000 ∧ -10 ≤ hi9 ∧ hi9 ≤ 10000) : MI l yX11_number wsX11_number rm_X11_number G cy [.ref aM, .int (zI lo), .int (zI hi9)] ws0 (fun z u => ∃ I2 : Nat → Int, u[b]? = some (aM, mO I2 ad) ∧ ((I 5 ≠ 0 ∧ z = 0 ∧ I2 4 = I 4 ∧ I2 5 = I 5 ∧ I2 6 = I 6 ∨ I 5 = 0 ∧ ¬ (48 ≤ byA bu (I 3) (sk bu (I 3) (I 4)) ∧ byA bu (I 3) (sk bu (I 3) (I 4)) ≤ 57) ∧ z = 0 ∧ I2 4 = sk bu (I 3) (I 4) ∧ I2 5 = -2 ∧ I2 6 = sk bu (I 3) (I 4) ∨ I 5 = 0 ∧ (48 ≤ byA bu (I 3) (sk bu (I 3) (I 4)) ∧ byA bu (I 3) (sk bu (I 3) (I 4)) ≤ 57) ∧ z = (nm bu (I 3) 0 (sk bu (I 3) (I 4))).1 ∧ I2 4 = (nm bu (I 3) 0 (sk bu (I 3) (I 4))).2 ∧ (lo ≤ z ∧ z ≤ hi9 ∧ I2 5 = 0 ∧ I2 6 = I 6 ∨ (z < lo ∨ hi9 < z) ∧ I2 5 = -3 ∧ I2 6 = sk bu (I 3) (I 4))) ∧ ∀ k : Nat, k ≠ 4 → k ≠ 5 → k ≠ 6 → I2 k = I k) ∧ Eqx ws0 u (fun j => j = b)) := by
  refine MI.of (own := RX11) (cc := cX11_number) (nL := 5) (ret := (some .int)) (by decide) rfl rfl (Nat.le_of_ble_eq_true rfl) ?_
  intro p e s m below meth c A ls E h hl
  have hl : lv_has ls 5 [(0, .ref aM), (1, .int (zI lo)), (2, .int (zI hi9))] := hl
  have hE : Eqx ws0 ws0 (fun j => j = b) := Eqx.rf
  have hs9 := sk_rng (t := bu) hp.2
  have hnr := nm_rng (t := bu) (L := I 3) (v := 0) (p := sk bu (I 3) (I 4)) hs9.2 (by omega)
  refine r_aload_n E 0 hl rfl dX11_number_0 ?_
  refine r_callVI E h (As := []) (rest := []) (k_X11_isGood l h_mo hE5) h_mo rfl gX11_number_X11_isGood rfl hd_X11_isGood (by decide) ⟨by decide, by decide⟩ hl.1 rfl (Nat.le_of_ble_eq_true rfl) dX11_number_1 rfl (fun z_1 ws H locs hp h => ?_)
  obtain ⟨e_z_1, rfl⟩ := hp
  refine r_if_ne E 9 dX11_number_4 (by decide) (by omega) (fun c_4 => ?_) (fun c_4 => ?_)
  · skip
    refine r_aload_n E 0 hl rfl dX11_number_9 ?_
    refine r_callVI E h (As := []) (rest := []) (k_X11_next l h_mo h_bu htx hL hp) h_mo rfl gX11_number_X11_next rfl hd_X11_next (by decide) ⟨by decide, by decide⟩ hl.1 rfl (Nat.le_of_ble_eq_true rfl) dX11_number_10 rfl (fun z_10 ws H locs hp h => ?_)
    obtain ⟨e_10, I_10, h_mo, ⟨f_10, g_10⟩, hf⟩ := hp
    have h_bu := hf.at h_bu (by first | omega | (dsimp only <;> omega))
    have hE := hE.tr (hf.wk (fun j hj => by first | omega | (dsimp only at hj ⊢ <;> omega)))
    rw [e_10]
    have hbr := byA_rng htx (L := I 3) (p := sk bu (I 3) (I 4))
    refine r_callSI E h (As := [.int (zI (byA bu (I 3) (sk bu (I 3) (I 4))))]) (rest := []) (k_X11_isDigit l (byA bu (I 3) (sk bu (I 3) (I 4))) (by omega)) gX11_number_X11_isDigit rfl hd_X11_isDigit (by decide) ⟨by decide, by decide⟩ hl.1 rfl (Nat.le_of_ble_eq_true rfl) dX11_number_13 rfl (fun z_13 ws H locs hp h => ?_)
    obtain ⟨e_z_13, rfl⟩ := hp
    refine r_if_ne E 31 dX11_number_16 (by decide) (by omega) (fun c_16 => ?_) (fun c_16 => ?_)
    · skip
      refine r_aload_n E 0 hl rfl dX11_number_31 ?_
      refine r_get (v := .int (zI (I_10 4))) E h h_mo rfl inn_X11_number_11 4 (by decide) fl_X11_number_66 rfl dX11_number_32 ?_
      rw [show I_10 4 = sk bu (I 3) (I 4) from f_10]
      refine r_istore_n (lv' := [(3, .int (zI (sk bu (I 3) (I 4)))), (0, .ref aM), (1, .int (zI lo)), (2, .int (zI hi9))]) E hl dX11_number_35 rfl (by decide) rfl (fun ls hl => ?_)
      refine r_iconst E dX11_number_36 ?_
      refine r_istore (lv' := [(4, .int (zI 0)), (3, .int (zI (sk bu (I 3) (I 4)))), (0, .ref aM), (1, .int (zI lo)), (2, .int (zI hi9))]) E hl dX11_number_37 (by decide) rfl (fun ls hl => ?_)
      refine r_loop (fun n H locs ls => ∃ (ws : va_W) (v9 : Int) (I3 : Nat → Int), n = (I 3 - I3 4).toNat ∧ (∀ k : Nat, k ≠ 4 → I3 k = I k) ∧ ((sk bu (I 3) (I 4) ≤ I3 4 ∧ I3 4 ≤ I 3) ∧ (0 ≤ v9 ∧ v9 ≤ 1000000)) ∧ (nm bu (I 3) v9 (I3 4) = (nm bu (I 3) 0 (sk bu (I 3) (I 4)))) ∧ Hp G ws A s.heap H locs ∧ (ws[b]? = some (aM, mO I3 ad)) ∧ (ws[b + 1]? = some (ad 1, aI cy 600 bu)) ∧ Eqx ws0 ws (fun j => j = b) ∧ lv_has ls 5 [(0, .ref aM), (1, .int (zI lo)), (2, .int (zI hi9)), (3, .int (zI (sk bu (I 3) (I 4)))), (4, .int (zI v9))]) _ ⟨ws, 0, I_10, rfl, g_10, (by omega), (by rw [f_10]), h, h_mo, h_bu, hE, lv_sub hl [2, 3, 4, 1, 0] rfl⟩ ?_
      rintro n H locs ls ⟨ws, v9, I3, hn, i1, i2, i3, h, h_mo, h_bu, hE, hl⟩ ih_39
      refine r_aload_n E 0 hl rfl dX11_number_39 ?_
      refine r_aload_n E 0 hl rfl dX11_number_40 ?_
      refine r_get (v := .int (zI (I3 4))) E h h_mo rfl inn_X11_number_11 4 (by decide) fl_X11_number_66 rfl dX11_number_41 ?_
      refine r_callVI E h (As := [.int (zI (I3 4))]) (rest := []) (k_X11_byteAt l (I3 4) h_mo h_bu (by omega) (by rw [i1 3 (by decide)]; exact hL)) h_mo rfl gX11_number_X11_byteAt rfl hd_X11_byteAt (by decide) ⟨by decide, by decide⟩ hl.1 rfl (Nat.le_of_ble_eq_true rfl) dX11_number_44 rfl (fun z_44 ws H locs hp h => ?_)
      obtain ⟨e_z_44, rfl⟩ := hp
      rw [i1 3 (by decide)] at e_z_44
      subst e_z_44
      have hbr := byA_rng htx (L := I 3) (p := I3 4)
      have hnr2 := nm_rng (t := bu) (L := I 3) (v := v9) (p := I3 4) (by omega) (by omega)
      refine r_callSI E h (As := [.int (zI (byA bu (I 3) (I3 4)))]) (rest := []) (k_X11_isDigit l (byA bu (I 3) (I3 4)) (by omega)) gX11_number_X11_isDigit rfl hd_X11_isDigit (by decide) ⟨by decide, by decide⟩ hl.1 rfl (Nat.le_of_ble_eq_true rfl) dX11_number_47 rfl (fun z_47 ws H locs hp h => ?_)
      obtain ⟨e_z_47, rfl⟩ := hp
      refine r_if_eq E 90 dX11_number_50 (by decide) (by omega) (fun c_50 => ?_) (fun c_50 => ?_)
      · skip
        have hend := nm_stop (t := bu) (L := I 3) (v := v9) (p := I3 4) (by omega)
        rw [i3] at hend
        have hv9 : v9 = (nm bu (I 3) 0 (sk bu (I 3) (I 4))).1 := by rw [hend]
        have hp9 : I3 4 = (nm bu (I 3) 0 (sk bu (I 3) (I 4))).2 := by rw [hend]
        refine r_iload E 4 hl rfl dX11_number_90 ?_
        refine r_iload_n E 1 hl rfl dX11_number_92 ?_
        refine r_iload_n E 2 hl rfl dX11_number_93 ?_
        refine r_callSI E h (As := [.int (zI v9), .int (zI lo), .int (zI hi9)]) (rest := []) (k_X11_in l v9 lo hi9 (by omega)) gX11_number_X11_in rfl hd_X11_in (by decide) ⟨by decide, by decide⟩ hl.1 rfl (Nat.le_of_ble_eq_true rfl) dX11_number_94 rfl (fun z_94 ws H locs hp h => ?_)
        obtain ⟨e_z_94, rfl⟩ := hp
        refine r_if_ne E 107 dX11_number_97 (by decide) (by omega) (fun c_97 => ?_) (fun c_97 => ?_)
        · skip
          refine r_iload E 4 hl rfl dX11_number_107 ?_
          exact r_iret E h ⟨I3, h_mo, ⟨Or.inr (Or.inr (by
  have q5 := i1 5 (by decide)
  have q6 := i1 6 (by decide)
  exact ⟨by omega, by omega, hv9, hp9, Or.inl ⟨by omega, by omega, by omega, q6⟩⟩)), fun k h4 h5 h6 => i1 k h4⟩, hE⟩ dX11_number_109
        · skip
          refine r_aload_n E 0 hl rfl dX11_number_100 ?_
          refine r_bipush E dX11_number_101 (by decide) ?_
          refine r_iload_n E 3 hl rfl dX11_number_103 ?_
          refine r_callVV E h (As := [.int (zI (-3)), .int (zI (sk bu (I 3) (I 4)))]) (rest := []) (k_X11_report l (-3) (sk bu (I 3) (I 4)) h_mo (by rw [i1 5 (by decide)]; exact hE5)) h_mo rfl gX11_number_X11_report rfl hd_X11_report (by decide) ⟨by decide, by decide⟩ hl.1 rfl (Nat.le_of_ble_eq_true rfl) dX11_number_104 rfl (fun ws H locs hp h => ?_)
          obtain ⟨I_104, h_mo, ⟨e_104, g_104⟩, hf⟩ := hp
          have h_bu := hf.at h_bu (by first | omega | (dsimp only <;> omega))
          have hE := hE.tr (hf.wk (fun j hj => by first | omega | (dsimp only at hj ⊢ <;> omega)))
          refine r_iload E 4 hl rfl dX11_number_107 ?_
          exact r_iret E h ⟨I_104, h_mo, ⟨Or.inr (Or.inr (by
  have q5 := i1 5 (by decide)
  have q4 := g_104 4 (by decide) (by decide)
  exact ⟨by omega, by omega, hv9, by omega, Or.inr ⟨by omega, by omega, by omega⟩⟩)), fun k h4 h5 h6 => by rw [g_104 k h5 h6, i1 k h4]⟩, hE⟩ dX11_number_109
      · skip
        have hdg : 48 ≤ byA bu (I 3) (I3 4) ∧ byA bu (I 3) (I3 4) ≤ 57 := by omega
        have hst9 := nm_step (t := bu) (L := I 3) (v := v9) (p := I3 4) hdg
        have hmn := mn6_rng (v := 10 * v9 + byA bu (I 3) (I3 4) - 48) (by omega)
        have hlt : I3 4 < I 3 := byA_in (t := bu) (by omega)
        refine r_ldc E (v := 1000000) (List.mem_of_getElem? (i := 2) rfl) (n := 1000000) (by decide) dX11_number_53 ?_
        refine r_bipush E dX11_number_55 (by decide) ?_
        refine r_iload E 4 hl rfl dX11_number_57 ?_
        refine r_imul E dX11_number_59 ?_
        refine r_aload_n E 0 hl rfl dX11_number_60 ?_
        refine r_aload_n E 0 hl rfl dX11_number_61 ?_
        refine r_get (v := .int (zI (I3 4))) E h h_mo rfl inn_X11_number_11 4 (by decide) fl_X11_number_66 rfl dX11_number_62 ?_
        refine r_callVI E h (As := [.int (zI (I3 4))]) (rest := [.int (zI (10 * v9)), .int (zI 1000000)]) (k_X11_byteAt l (I3 4) h_mo h_bu (by omega) (by rw [i1 3 (by decide)]; exact hL)) h_mo rfl gX11_number_X11_byteAt rfl hd_X11_byteAt (by decide) ⟨by decide, by decide⟩ hl.1 rfl (Nat.le_of_ble_eq_true rfl) dX11_number_65 rfl (fun z_65 ws H locs hp h => ?_)
        obtain ⟨e_z_65, rfl⟩ := hp
        rw [i1 3 (by decide)] at e_z_65
        subst e_z_65
        refine r_iadd E dX11_number_68 ?_
        refine r_bipush E dX11_number_69 (by decide) ?_
        refine r_isub E dX11_number_71 ?_
        refine r_callSI E h (As := [.int (zI 1000000), .int (zI (((10 * v9) + (byA bu (I 3) (I3 4))) - 48))]) (rest := []) (k_X11_min l 1000000 (((10 * v9) + (byA bu (I 3) (I3 4))) - 48) (by omega)) gX11_number_X11_min rfl hd_X11_min (by decide) ⟨by decide, by decide⟩ hl.1 rfl (Nat.le_of_ble_eq_true rfl) dX11_number_72 rfl (fun z_72 ws H locs hp h => ?_)
        obtain ⟨e_z_72, rfl⟩ := hp
        have hz72 : z_72 = mn6 (10 * v9 + byA bu (I 3) (I3 4) - 48) := by
          unfold mn6
          by_cases c : 1000000 < 10 * v9 + byA bu (I 3) (I3 4) - 48
          · rw [if_pos c]; omega
          · rw [if_neg c]; omega
        refine r_istore (lv' := [(4, .int (zI z_72)), (0, .ref aM), (1, .int (zI lo)), (2, .int (zI hi9)), (3, .int (zI (sk bu (I 3) (I 4))))]) E hl dX11_number_75 (by decide) rfl (fun ls hl => ?_)
        refine r_aload_n E 1 hl rfl dX11_number_77 ?_
        refine r_dup E dX11_number_78 rfl ?_
        refine r_get (v := .int (zI (I3 4))) E h h_mo rfl inn_X11_number_11 4 (by decide) fl_X11_number_66 rfl dX11_number_79 ?_
        refine r_iconst E dX11_number_82 ?_
        refine r_iadd E dX11_number_83 ?_
        refine r_put E h h_mo rfl inn_X11_number_11 4 (by decide) fl_X11_number_66 tyX11 tyX11_ok nmX11 rfl rfl rfl (Nat.le_of_ble_eq_true rfl) dX11_number_84 (fun ws H locs h hu => ?_)
        have h_mo : ws[b]? = some (aM, mO (va_up I3 4 ((I3 4) + 1)) ad) := hu.1
        have h_bu := hu.keep h_bu (by omega)
        have hE := hE.tr (hu.eqx (by first | omega | (dsimp only <;> omega)))
        have e4 : (va_up I3 4 (I3 4 + 1)) 4 = I3 4 + 1 := by simp [va_up]
        refine r_goto E 39 dX11_number_87 (by decide) ?_
        exact ih_39 _ H locs ls (by omega) ⟨ws, z_72, (va_up I3 4 ((I3 4) + 1)), rfl, (fun k h1 => by simp [va_up, h1, i1 k h1]), (by omega), (by rw [e4, hz72, ← hst9]; exact i3), h, h_mo, h_bu, hE, lv_sub hl [1, 2, 3, 4, 0] rfl⟩
    · skip
      refine r_aload_n E 0 hl rfl dX11_number_19 ?_
      refine r_bipush E dX11_number_20 (by decide) ?_
      refine r_aload_n E 0 hl rfl dX11_number_22 ?_
      refine r_get (v := .int (zI (I_10 4))) E h h_mo rfl inn_X11_number_11 4 (by decide) fl_X11_number_66 rfl dX11_number_23 ?_
      rw [show I_10 4 = sk bu (I 3) (I 4) from f_10]
      refine r_callVV E h (As := [.int (zI (-2)), .int (zI (sk bu (I 3) (I 4)))]) (rest := []) (k_X11_report l (-2) (sk bu (I 3) (I 4)) h_mo (by rw [g_10 5 (by decide)]; exact hE5)) h_mo rfl gX11_number_X11_report rfl hd_X11_report (by decide) ⟨by decide, by decide⟩ hl.1 rfl (Nat.le_of_ble_eq_true rfl) dX11_number_26 rfl (fun ws H locs hp h => ?_)
      obtain ⟨I_26, h_mo, ⟨e_26, g_26⟩, hf⟩ := hp
      have h_bu := hf.at h_bu (by first | omega | (dsimp only <;> omega))
      have hE := hE.tr (hf.wk (fun j hj => by first | omega | (dsimp only at hj ⊢ <;> omega)))
      refine r_iconst E dX11_number_29 ?_
      exact r_iret E h ⟨I_26, h_mo, ⟨Or.inr (Or.inl (by
  have q5 := g_10 5 (by decide)
  have q4 := g_26 4 (by decide) (by decide)
  exact ⟨by omega, by omega, rfl, by omega, by omega, by omega⟩)), fun k h4 h5 h6 => by rw [g_26 k h5 h6, g_10 k h4]⟩, hE⟩ dX11_number_30
  · skip
    refine r_iconst E dX11_number_7 ?_
    exact r_iret E h ⟨I, h_mo, ⟨Or.inl ⟨by omega, rfl, rfl, rfl, rfl⟩, fun _ _ _ _ => rfl⟩, hE⟩ dX11_number_8
/-- one more place of the weight, in the row -/
def emi (g : Int → Int) (v : Int) : Int → Int := uZ (uZ g (111 + g 4) v) 4 (g 4 + 1)
theorem hd_X11_emit : yX11_emit.cls = RX11 ∧ yX11_emit.cls ≠ "java/lang/invoke/MethodHandle" ∧ yX11_emit.cls ≠ "java/lang/invoke/VarHandle" ∧ (parseMethodDescriptor yX11_emit.desc).map (fun d => d.parameters.length) = some 1 := by decide +kernel
theorem fl_X11_emit_20 : Cond.fieldLink RX11 20 (TX11 9).1 (TX11 9).2.1 (TX11 9).2.2.1 ∈ wsX11_emit := List.mem_of_getElem? (i := 1) rfl
theorem inn_X11_emit_11 : ∀ w ∈ wsX110, w ∈ wsX11_emit := fun _ h => List.mem_cons_of_mem _ (List.mem_append_right _ h)
abbrev rm_X11_emit : Room := { frames := 1, cells := 0, slots := 0, locals := 20 }
set_option maxHeartbeats 4000000 in
set_option maxRecDepth 100000 in
theorem k_X11_emit (l : Launch) {G : va_G} {cy : Nat → ClassId} {ws0 : va_W} {b aM : Nat} {I : Nat → Int} {ad : Nat → Nat} {dr : Int → Int} (v : Int) (h_mo : ws0[b]? = some (aM, mO I ad)) (h_dr : ws0[b + 3]? = some (ad 9, aI cy 1111 dr)) (hE5 : (-10 ≤ I 5 ∧ I 5 ≤ 0)) (h4 : I 5 = 0 → 0 ≤ dr 4 ∧ dr 4 ≤ 999) : MV l yX11_emit wsX11_emit rm_X11_emit G cy [.ref aM, .int (zI v)] ws0 (fun u => ∃ dr2 : Int → Int, u[b + 3]? = some (ad 9, aI cy 1111 dr2) ∧ (I 5 ≠ 0 ∧ dr2 = dr ∨ I 5 = 0 ∧ dr2 = emi dr v) ∧ Eqx ws0 u (fun j => j = b + 3)) := by
  refine MV.of (own := RX11) (cc := cX11_emit) (nL := 2) (ret := none) (by decide) rfl rfl (Nat.le_of_ble_eq_true rfl) ?_
  intro p e s m below meth c A ls hin E h hl
  have hl : lv_has ls 2 [(0, .ref aM), (1, .int (zI v))] := hl
  have hE : Eqx ws0 ws0 (fun j => j = b + 3) := Eqx.rf
  refine r_aload_n E 0 hl rfl dX11_emit_0 ?_
  refine r_callVI E h (As := []) (rest := []) (k_X11_isGood l h_mo hE5) h_mo rfl gX11_emit_X11_isGood rfl hd_X11_isGood (by decide) ⟨by decide, by decide⟩ hl.1 rfl (Nat.le_of_ble_eq_true rfl) dX11_emit_1 rfl (fun z_1 ws H locs hp h => ?_)
  obtain ⟨e_z_1, rfl⟩ := hp
  refine r_if_ne E 8 dX11_emit_4 (by decide) (by omega) (fun c_4 => ?_) (fun c_4 => ?_)
  · skip
    have h49 := h4 (by omega)
    refine r_aload_n E 0 hl rfl dX11_emit_8 ?_
    refine r_get (v := .ref (ad 9)) E h h_mo rfl inn_X11_emit_11 9 (by decide) fl_X11_emit_20 rfl dX11_emit_9 ?_
    refine r_bipush E dX11_emit_12 (by decide) ?_
    refine r_aload_n E 0 hl rfl dX11_emit_14 ?_
    refine r_get (v := .ref (ad 9)) E h h_mo rfl inn_X11_emit_11 9 (by decide) fl_X11_emit_20 rfl dX11_emit_15 ?_
    refine r_iconst E dX11_emit_18 ?_
    refine r_iald E h h_dr (by omega) (by decide) dX11_emit_19 ?_
    refine r_iadd E dX11_emit_20 ?_
    refine r_iload_n E 1 hl rfl dX11_emit_21 ?_
    refine r_iast E h h_dr (by omega) (by decide) dX11_emit_22 (fun ws H locs h hu => ?_)
    have h_mo := hu.keep h_mo (by omega)
    have h_dr : ws[b + 3]? = some (ad 9, aI cy 1111 (uZ dr (111 + (dr 4)) v)) := hu.1
    have hE := hE.tr (hu.eqx (by first | omega | (dsimp only <;> omega)))
    refine r_aload_n E 0 hl rfl dX11_emit_23 ?_
    refine r_get (v := .ref (ad 9)) E h h_mo rfl inn_X11_emit_11 9 (by decide) fl_X11_emit_20 rfl dX11_emit_24 ?_
    refine r_iconst E dX11_emit_27 ?_
    refine r_dup2 E dX11_emit_28 rfl rfl ?_
    refine r_iald E h h_dr (by omega) (by decide) dX11_emit_29 ?_
    rw [show (uZ dr (111 + (dr 4)) v) 4 = dr 4 from (uZ_n (by omega))]
    refine r_iconst E dX11_emit_30 ?_
    refine r_iadd E dX11_emit_31 ?_
    refine r_iast E h h_dr (by omega) (by decide) dX11_emit_32 (fun ws H locs h hu => ?_)
    have h_mo := hu.keep h_mo (by omega)
    have h_dr : ws[b + 3]? = some (ad 9, aI cy 1111 (uZ (uZ dr (111 + (dr 4)) v) 4 ((dr 4) + 1))) := hu.1
    have hE := hE.tr (hu.eqx (by first | omega | (dsimp only <;> omega)))
    exact r_vret E h ⟨_, h_dr, Or.inr ⟨by omega, rfl⟩, hE⟩ dX11_emit_33
  · skip
    exact r_vret E h ⟨dr, h_dr, Or.inl ⟨by omega, rfl⟩, hE⟩ dX11_emit_7
theorem hd_X11_once : yX11_once.cls = RX11 ∧ yX11_once.cls ≠ "java/lang/invoke/MethodHandle" ∧ yX11_once.cls ≠ "java/lang/invoke/VarHandle" ∧ (parseMethodDescriptor yX11_once.desc).map (fun d => d.parameters.length) = some 2 := by decide +kernel
theorem fl_X11_once_145 : Cond.fieldLink RX11 145 (TX11 14).1 (TX11 14).2.1 (TX11 14).2.2.1 ∈ wsX11_once := List.mem_of_getElem? (i := 1) rfl
theorem inn_X11_once_11 : ∀ w ∈ wsX110, w ∈ wsX11_once := fun _ h => List.mem_cons_of_mem _ (List.mem_append_right _ h)
abbrev rm_X11_once : Room := { frames := 1, cells := 0, slots := 0, locals := 22 }
set_option maxHeartbeats 4000000 in
set_option maxRecDepth 100000 in
theorem k_X11_once (l : Launch) {G : va_G} {cy : Nat → ClassId} {ws0 : va_W} {b aM : Nat} {I : Nat → Int} {ad : Nat → Nat} (st9 : Int) (h_mo : ws0[b]? = some (aM, mO I ad)) (hE5 : (-10 ≤ I 5 ∧ I 5 ≤ 0)) (hse : I 14 = 0 ∨ I 14 = 1) : MV l yX11_once wsX11_once rm_X11_once G cy [.ref aM, .int (zI 0), .int (zI st9)] ws0 (fun u => ∃ I2 : Nat → Int, u[b]? = some (aM, mO I2 ad) ∧ ((I 14 = 1 ∧ I 5 = 0 ∧ I2 5 = -2 ∧ I2 6 = st9 ∨ (I 14 = 0 ∨ I 5 ≠ 0) ∧ I2 5 = I 5 ∧ I2 6 = I 6) ∧ I2 14 = 1 ∧ ∀ k : Nat, k ≠ 5 → k ≠ 6 → k ≠ 14 → I2 k = I k) ∧ Eqx ws0 u (fun j => j = b)) := by
  refine MV.of (own := RX11) (cc := cX11_once) (nL := 3) (ret := none) (by decide) rfl rfl (Nat.le_of_ble_eq_true rfl) ?_
  intro p e s m below meth c A ls hin E h hl
  have hl : lv_has ls 3 [(0, .ref aM), (1, .int (zI 0)), (2, .int (zI st9))] := hl
  have hE : Eqx ws0 ws0 (fun j => j = b) := Eqx.rf
  refine r_aload_n E 0 hl rfl dX11_once_0 ?_
  refine r_get (v := .int (zI (I 14))) E h h_mo rfl inn_X11_once_11 14 (by decide) fl_X11_once_145 rfl dX11_once_1 ?_
  refine r_iload_n E 1 hl rfl dX11_once_4 ?_
  refine r_ishr E dX11_once_5 rfl (z := I 14) (sb_shr0 _) ?_
  refine r_iconst E dX11_once_6 ?_
  refine r_iand E dX11_once_7 (z := I 14) (by rcases hse with hh | hh <;> rw [hh] <;> decide) ?_
  refine r_iconst E dX11_once_8 ?_
  refine r_icmp_ne E 19 dX11_once_9 (by decide) (by omega) (fun c_9 => ?_) (fun c_9 => ?_)
  · skip
    refine r_aload_n E 0 hl rfl dX11_once_19 ?_
    refine r_dup E dX11_once_20 rfl ?_
    refine r_get (v := .int (zI (I 14))) E h h_mo rfl inn_X11_once_11 14 (by decide) fl_X11_once_145 rfl dX11_once_21 ?_
    refine r_iconst E dX11_once_24 ?_
    refine r_iload_n E 1 hl rfl dX11_once_25 ?_
    have q14 : I 14 = I 14 := rfl
    refine r_ishl E dX11_once_26 (z := 1) (by decide) ?_
    have h14 : I 14 = 0 ∨ I 14 = 1 := by omega
    refine r_ior E dX11_once_27 (z := 1) (h14.elim (fun hh => by rw [hh]; decide) (fun hh => by rw [hh]; decide)) ?_
    refine r_put E h h_mo rfl inn_X11_once_11 14 (by decide) fl_X11_once_145 tyX11 tyX11_ok nmX11 rfl rfl rfl (Nat.le_of_ble_eq_true rfl) dX11_once_28 (fun ws H locs h hu => ?_)
    have h_mo : ws[b]? = some (aM, mO (va_up I 14 1) ad) := hu.1
    have hE := hE.tr (hu.eqx (by first | omega | (dsimp only <;> omega)))
    exact r_vret E h ⟨_, h_mo, ⟨Or.inr ⟨by omega, by simp [va_up], by simp [va_up]⟩, by simp [va_up], fun k h5 h6 h14 => by simp [va_up, h14]⟩, hE⟩ dX11_once_31
  · skip
    refine r_aload_n E 0 hl rfl dX11_once_12 ?_
    refine r_bipush E dX11_once_13 (by decide) ?_
    refine r_iload_n E 2 hl rfl dX11_once_15 ?_
    refine r_callVV E h (As := [.int (zI (-2)), .int (zI st9)]) (rest := []) (k_X11_report l (-2) st9 h_mo hE5) h_mo rfl gX11_once_X11_report rfl hd_X11_report (by decide) ⟨by decide, by decide⟩ hl.1 rfl (Nat.le_of_ble_eq_true rfl) dX11_once_16 rfl (fun ws H locs hp h => ?_)
    obtain ⟨I_16, h_mo, ⟨e_16, g_16⟩, hf⟩ := hp
    have hE := hE.tr (hf.wk (fun j hj => by first | omega | (dsimp only at hj ⊢ <;> omega)))
    refine r_aload_n E 0 hl rfl dX11_once_19 ?_
    refine r_dup E dX11_once_20 rfl ?_
    refine r_get (v := .int (zI (I_16 14))) E h h_mo rfl inn_X11_once_11 14 (by decide) fl_X11_once_145 rfl dX11_once_21 ?_
    refine r_iconst E dX11_once_24 ?_
    refine r_iload_n E 1 hl rfl dX11_once_25 ?_
    have q14 : I_16 14 = I 14 := g_16 14 (by decide) (by decide)
    refine r_ishl E dX11_once_26 (z := 1) (by decide) ?_
    have h14 : I_16 14 = 0 ∨ I_16 14 = 1 := by omega
    refine r_ior E dX11_once_27 (z := 1) (h14.elim (fun hh => by rw [hh]; decide) (fun hh => by rw [hh]; decide)) ?_
    refine r_put E h h_mo rfl inn_X11_once_11 14 (by decide) fl_X11_once_145 tyX11 tyX11_ok nmX11 rfl rfl rfl (Nat.le_of_ble_eq_true rfl) dX11_once_28 (fun ws H locs h hu => ?_)
    have h_mo : ws[b]? = some (aM, mO (va_up I_16 14 1) ad) := hu.1
    have hE := hE.tr (hu.eqx (by first | omega | (dsimp only <;> omega)))
    exact r_vret E h ⟨_, h_mo, ⟨(by
  show _ ∧ _ ∧ I_16 5 = -2 ∧ I_16 6 = st9 ∨ _ ∧ I_16 5 = I 5 ∧ I_16 6 = I 6
  omega), by simp [va_up], fun k h5 h6 h14 => by simp [va_up, h14]; exact g_16 k h5 h6⟩, hE⟩ dX11_once_31
