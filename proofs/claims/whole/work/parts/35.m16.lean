theorem kl_le6 {d : Int → Int} {T : List Int} (hD : DW d T) {q : Ky} (h : 0 ≤ q.1 ∧ q.1 < d 2) : kl d q ≤ 6 := by
  unfold kl
  rcases hD.rule h.1 h.2 with h1 | h1
  · rw [if_pos h1.1]; omega
  · rw [if_neg (by omega)]; exact h1.2
theorem part_kl {d : Int → Int} {T : List Int} (hD : DW d T) {r x : Int} (hr : 0 ≤ r ∧ r < d 2) {a b c : Nat} (ha : (a : Int) ≤ d 2) {q : Ky} (h : q ∈ (kR d a ++ kX d r b) ++ kY d r x c) : kl d q ≤ 6 := by
  apply kl_le6 hD
  rcases List.mem_append.mp h with h | h
  · rcases List.mem_append.mp h with h | h
    · obtain ⟨h1, h2, _⟩ := kR_mem h
      omega
    · have := (kX_mem h).1
      omega
  · have := (kY_mem h).1
    omega
theorem kX_s {d : Int → Int} {r : Int} (m : Nat) : kX d r (m + 1) = kX d r m ++ kY d r ((m : Int) + 1) (d 0).toNat := rfl
theorem kR_s {d : Int → Int} (m : Nat) : kR d (m + 1) = kR d m ++ kX d (m : Int) (d 0).toNat := rfl
theorem hd_X11_layAll : yX11_layAll.cls = RX11 ∧ yX11_layAll.cls ≠ "java/lang/invoke/MethodHandle" ∧ yX11_layAll.cls ≠ "java/lang/invoke/VarHandle" ∧ (parseMethodDescriptor yX11_layAll.desc).map (fun d => d.parameters.length) = some 0 := by decide +kernel
theorem fl_X11_layAll_189 : Cond.fieldLink RX11 189 (TX11 19).1 (TX11 19).2.1 (TX11 19).2.2.1 ∈ wsX11_layAll := List.mem_of_getElem? (i := 1) rfl
theorem inn_X11_layAll_11 : ∀ w ∈ wsX110, w ∈ wsX11_layAll := fun _ h => List.mem_cons_of_mem _ (List.mem_append_right _ h)
theorem fl_X11_layAll_17 : Cond.fieldLink RX11 17 (TX11 8).1 (TX11 8).2.1 (TX11 8).2.2.1 ∈ wsX11_layAll := List.mem_of_getElem? (i := 2) rfl
theorem fl_X11_layAll_44 : Cond.fieldLink RX11 44 (TX11 20).1 (TX11 20).2.1 (TX11 20).2.2.1 ∈ wsX11_layAll := List.mem_of_getElem? (i := 4) rfl
theorem fl_X11_layAll_47 : Cond.fieldLink RX11 47 (TX11 21).1 (TX11 21).2.1 (TX11 21).2.2.1 ∈ wsX11_layAll := List.mem_of_getElem? (i := 5) rfl
theorem fl_X11_layAll_41 : Cond.fieldLink RX11 41 (TX11 18).1 (TX11 18).2.1 (TX11 18).2.2.1 ∈ wsX11_layAll := List.mem_of_getElem? (i := 3) rfl
abbrev rm_X11_layAll : Room := { frames := 2, cells := 0, slots := 0, locals := 49 }
set_option maxHeartbeats 4000000 in
set_option maxRecDepth 100000 in
theorem k_X11_layAll (l : Launch) {G : va_G} {cy : Nat → ClassId} {ws0 : va_W} {b aM : Nat} {I : Nat → Int} {ad : Nat → Nat} {me : Int → Int} {le : Int → Int} {ru : Int → Int} {so : Int → Int} {fo : Int → Int} {wn : Int → Int} {d : Int → Int} {T : List Int}  (h_mo : ws0[b]? = some (aM, mO I ad)) (h_da : ws0[b + 2]? = some (ad 8, aI cy 1111 d)) (h_me : ws0[b + 14]? = some (ad 15, aI cy 38400 me)) (h_le : ws0[b + 15]? = some (ad 16, aI cy 6400 le)) (h_ru : ws0[b + 16]? = some (ad 17, aI cy 6400 ru)) (h_so : ws0[b + 17]? = some (ad 18, aI cy 4 so)) (h_fo : ws0[b + 18]? = some (ad 20, aI cy 42 fo)) (h_wn : ws0[b + 19]? = some (ad 21, aI cy 38400 wn)) (hD : DW d T) : MV l yX11_layAll wsX11_layAll rm_X11_layAll G cy [.ref aM] ws0 (fun u => ∃ (I2 : Nat → Int) (me2 le2 ru2 so2 fo2 wn2 : Int → Int), u[b]? = some (aM, mO I2 ad) ∧ u[b + 14]? = some (ad 15, aI cy 38400 me2) ∧ u[b + 15]? = some (ad 16, aI cy 6400 le2) ∧ u[b + 16]? = some (ad 17, aI cy 6400 ru2) ∧ u[b + 17]? = some (ad 18, aI cy 4 so2) ∧ u[b + 18]? = some (ad 20, aI cy 42 fo2) ∧ u[b + 19]? = some (ad 21, aI cy 38400 wn2) ∧ LW d me2 le2 ru2 so2 fo2 wn2 (I2 19) ∧ (∀ k : Nat, k ≠ 19 → I2 k = I k) ∧ Eqx ws0 u (fun j => j = b ∨ (b + 14 ≤ j ∧ j ≤ b + 19))) := by
  refine MV.of (own := RX11) (cc := cX11_layAll) (nL := 6) (ret := none) (by decide) rfl rfl (Nat.le_of_ble_eq_true rfl) ?_
  intro p e s m below meth c A ls hin E h hl
  have hl : lv_has ls 6 [(0, .ref aM)] := hl
  have hE : Eqx ws0 ws0 (fun j => j = b ∨ (b + 14 ≤ j ∧ j ≤ b + 19)) := Eqx.rf
  have hn9 := hD.n
  have hr9 := hD.nr
  have hlen := KL_len hD
  refine r_aload_n E 0 hl rfl dX11_layAll_0 ?_
  refine r_iconst E dX11_layAll_1 ?_
  refine r_put E h h_mo rfl inn_X11_layAll_11 19 (by decide) fl_X11_layAll_189 tyX11 tyX11_ok nmX11 rfl rfl rfl (Nat.le_of_ble_eq_true rfl) dX11_layAll_2 (fun ws H locs h hu => ?_)
  have h_mo : ws[b]? = some (aM, mO (va_up I 19 0) ad) := hu.1
  have h_da := hu.keep h_da (by omega)
  have h_me := hu.keep h_me (by omega)
  have h_le := hu.keep h_le (by omega)
  have h_ru := hu.keep h_ru (by omega)
  have h_so := hu.keep h_so (by omega)
  have h_fo := hu.keep h_fo (by omega)
  have h_wn := hu.keep h_wn (by omega)
  have hE := hE.tr (hu.eqx (by first | omega | (dsimp only <;> omega)))
  refine r_aload_n E 0 hl rfl dX11_layAll_5 ?_
  refine r_get (v := .ref (ad 8)) E h h_mo rfl inn_X11_layAll_11 8 (by decide) fl_X11_layAll_17 rfl dX11_layAll_6 ?_
  refine r_iconst E dX11_layAll_9 ?_
  refine r_iald E h h_da (by omega) (by decide) dX11_layAll_10 ?_
  refine r_istore_n (lv' := [(1, .int (zI (d 0))), (0, .ref aM)]) E hl dX11_layAll_11 rfl (by decide) rfl (fun ls hl => ?_)
  refine r_iconst E dX11_layAll_12 ?_
  refine r_istore_n (lv' := [(2, .int (zI 0)), (1, .int (zI (d 0))), (0, .ref aM)]) E hl dX11_layAll_13 rfl (by decide) rfl (fun ls hl => ?_)
  refine r_iconst E dX11_layAll_14 ?_
  refine r_istore_n (lv' := [(3, .int (zI 0)), (2, .int (zI 0)), (1, .int (zI (d 0))), (0, .ref aM)]) E hl dX11_layAll_15 rfl (by decide) rfl (fun ls hl => ?_)
  refine r_loop (fun n H locs ls => ∃ (ws : va_W) (r : Int) (I2 : Nat → Int) (me2 : Int → Int) (le2 : Int → Int) (ru2 : Int → Int) (so2 : Int → Int), n = (4 - r).toNat ∧ (0 ≤ r ∧ r ≤ d 2) ∧ (LKp d me2 le2 ru2 (kR d r.toNat) (I2 19)) ∧ (∀ r9 : Int, 0 ≤ r9 → r9 < r → so2 r9 = (kX d r9 (d 0).toNat).length) ∧ (∀ k : Nat, k ≠ 19 → I2 k = I k) ∧ Hp G ws A s.heap H locs ∧ (ws[b]? = some (aM, mO I2 ad)) ∧ (ws[b + 2]? = some (ad 8, aI cy 1111 d)) ∧ (ws[b + 14]? = some (ad 15, aI cy 38400 me2)) ∧ (ws[b + 15]? = some (ad 16, aI cy 6400 le2)) ∧ (ws[b + 16]? = some (ad 17, aI cy 6400 ru2)) ∧ (ws[b + 17]? = some (ad 18, aI cy 4 so2)) ∧ (ws[b + 18]? = some (ad 20, aI cy 42 fo)) ∧ (ws[b + 19]? = some (ad 21, aI cy 38400 wn)) ∧ Eqx ws0 ws (fun j => j = b ∨ (b + 14 ≤ j ∧ j ≤ b + 19)) ∧ lv_has ls 6 [(0, .ref aM), (1, .int (zI (d 0))), (2, .int (zI 0)), (3, .int (zI r))]) _ ⟨ws, 0, (va_up I 19 0), me, le, ru, so, rfl, (by omega), ⟨by simp [va_up, kR], fun s9 q hs => by simp [kR] at hs⟩, (fun r9 h0 h1 => absurd h1 (by omega)), (fun k hk => by simp [va_up, hk]), h, h_mo, h_da, h_me, h_le, h_ru, h_so, h_fo, h_wn, hE, lv_sub hl [3, 2, 1, 0] rfl⟩ ?_
  rintro n H locs ls ⟨ws, r, I2, me2, le2, ru2, so2, hn, a1, a2, a3, a4, h, h_mo, h_da, h_me, h_le, h_ru, h_so, h_fo, h_wn, hE, hl⟩ ih_16
  refine r_iload_n E 3 hl rfl dX11_layAll_16 ?_
  refine r_aload_n E 0 hl rfl dX11_layAll_17 ?_
  refine r_get (v := .ref (ad 8)) E h h_mo rfl inn_X11_layAll_11 8 (by decide) fl_X11_layAll_17 rfl dX11_layAll_18 ?_
  refine r_iconst E dX11_layAll_21 ?_
  refine r_iald E h h_da (by omega) (by decide) dX11_layAll_22 ?_
  refine r_icmp_ge E 112 dX11_layAll_23 (by decide) (by omega) (fun c_23 => ?_) (fun c_23 => ?_)
  · skip
    have hKL : LKp d me2 le2 ru2 (KL d) (I2 19) := by
      have h9 := a2
      rw [show r.toNat = (d 2).toNat by omega] at h9
      exact h9
    have hlaid := hKL.1
    refine r_iconst E dX11_layAll_112 ?_
    refine r_istore_n (lv' := [(3, .int (zI 1)), (0, .ref aM), (1, .int (zI (d 0))), (2, .int (zI 0))]) E hl dX11_layAll_113 rfl (by decide) rfl (fun ls hl => ?_)
    refine r_loop (fun n H locs ls => ∃ (ws : va_W) (many : Int) (x : Int) (fo2 : Int → Int) (wn2 : Int → Int), n = (41 - x).toNat ∧ (1 ≤ x ∧ x ≤ d 0 + 1) ∧ (many = fb d x) ∧ (∀ y : Int, 1 ≤ y → y < x → fo2 y = fb d y) ∧ (∀ (y : Int) (s9 : Nat) (q : Ky), 1 ≤ y → y < x → (KL d)[s9]? = some q → has d q y = true → wn2 (fb d y + rk d y s9) = s9) ∧ Hp G ws A s.heap H locs ∧ (ws[b]? = some (aM, mO I2 ad)) ∧ (ws[b + 2]? = some (ad 8, aI cy 1111 d)) ∧ (ws[b + 14]? = some (ad 15, aI cy 38400 me2)) ∧ (ws[b + 15]? = some (ad 16, aI cy 6400 le2)) ∧ (ws[b + 16]? = some (ad 17, aI cy 6400 ru2)) ∧ (ws[b + 17]? = some (ad 18, aI cy 4 so2)) ∧ (ws[b + 18]? = some (ad 20, aI cy 42 fo2)) ∧ (ws[b + 19]? = some (ad 21, aI cy 38400 wn2)) ∧ Eqx ws0 ws (fun j => j = b ∨ (b + 14 ≤ j ∧ j ≤ b + 19)) ∧ lv_has ls 6 [(0, .ref aM), (1, .int (zI (d 0))), (2, .int (zI many)), (3, .int (zI x))]) _ ⟨ws, 0, 1, fo, wn, rfl, (by omega), fb_1.symm, (fun y h0 h1 => absurd h1 (by omega)), (fun y s9 q h0 h1 => absurd h1 (by omega)), h, h_mo, h_da, h_me, h_le, h_ru, h_so, h_fo, h_wn, hE, lv_sub hl [1, 2, 3, 0] rfl⟩ ?_
    rintro n H locs ls ⟨ws, many, x, fo2, wn2, hn, d1, d2, d3, d4, h, h_mo, h_da, h_me, h_le, h_ru, h_so, h_fo, h_wn, hE, hl⟩ ih_114
    refine r_iload_n E 3 hl rfl dX11_layAll_114 ?_
    refine r_iload_n E 1 hl rfl dX11_layAll_115 ?_
    refine r_icmp_gt E 174 dX11_layAll_116 (by decide) (by omega) (fun c_116 => ?_) (fun c_116 => ?_)
    · skip
      have hxn : x = d 0 + 1 := by omega
      refine r_aload_n E 0 hl rfl dX11_layAll_174 ?_
      refine r_get (v := .ref (ad 20)) E h h_mo rfl inn_X11_layAll_11 20 (by decide) fl_X11_layAll_44 rfl dX11_layAll_175 ?_
      refine r_iload_n E 1 hl rfl dX11_layAll_178 ?_
      refine r_iconst E dX11_layAll_179 ?_
      refine r_iadd E dX11_layAll_180 ?_
      refine r_iload_n E 2 hl rfl dX11_layAll_181 ?_
      refine r_iast E h h_fo (by omega) (by decide) dX11_layAll_182 (fun ws H locs h hu => ?_)
      have h_mo := hu.keep h_mo (by omega)
      have h_da := hu.keep h_da (by omega)
      have h_me := hu.keep h_me (by omega)
      have h_le := hu.keep h_le (by omega)
      have h_ru := hu.keep h_ru (by omega)
      have h_so := hu.keep h_so (by omega)
      have h_fo : ws[b + 18]? = some (ad 20, aI cy 42 (uZ fo2 ((d 0) + 1) many)) := hu.1
      have h_wn := hu.keep h_wn (by omega)
      have hE := hE.tr (hu.eqx (by first | omega | (dsimp only <;> omega)))
      exact r_vret E h ⟨I2, me2, le2, ru2, so2, _, wn2, h_mo, h_me, h_le, h_ru, h_so, h_fo, h_wn, ⟨hKL.1, hKL.2, fun r9 h0 h1 => a3 r9 h0 (by omega), fun y h0 h1 => by
      by_cases e : y = d 0 + 1
      · rw [e, uZ_s, d2, hxn]
      · rw [uZ_n e]; exact d3 y h0 (by omega), fun y s9 q h0 h1 h2 h3 => d4 y s9 q h0 (by omega) h2 h3⟩, a4, hE⟩ dX11_layAll_183
    · skip
      have hfbx := fb_le hD x
      have hfb0 := fb_nonneg (d := d) (x := x)
      refine r_aload_n E 0 hl rfl dX11_layAll_119 ?_
      refine r_get (v := .ref (ad 20)) E h h_mo rfl inn_X11_layAll_11 20 (by decide) fl_X11_layAll_44 rfl dX11_layAll_120 ?_
      refine r_iload_n E 3 hl rfl dX11_layAll_123 ?_
      refine r_iload_n E 2 hl rfl dX11_layAll_124 ?_
      refine r_iast E h h_fo (by omega) (by decide) dX11_layAll_125 (fun ws H locs h hu => ?_)
      have h_mo := hu.keep h_mo (by omega)
      have h_da := hu.keep h_da (by omega)
      have h_me := hu.keep h_me (by omega)
      have h_le := hu.keep h_le (by omega)
      have h_ru := hu.keep h_ru (by omega)
      have h_so := hu.keep h_so (by omega)
      have h_fo : ws[b + 18]? = some (ad 20, aI cy 42 (uZ fo2 x many)) := hu.1
      have h_wn := hu.keep h_wn (by omega)
      have hE := hE.tr (hu.eqx (by first | omega | (dsimp only <;> omega)))
      refine r_iconst E dX11_layAll_126 ?_
      refine r_istore (lv' := [(4, .int (zI 0)), (0, .ref aM), (1, .int (zI (d 0))), (2, .int (zI many)), (3, .int (zI x))]) E hl dX11_layAll_127 (by decide) rfl (fun ls hl => ?_)
      refine r_loop (fun n H locs ls => ∃ (ws : va_W) (mny : Int) (k : Int) (wn3 : Int → Int), n = (6400 - k).toNat ∧ (0 ≤ k ∧ k ≤ (KL d).length) ∧ (mny = fb d x + rk d x k.toNat) ∧ (∀ (s9 : Nat) (q : Ky), (s9 : Int) < k → (KL d)[s9]? = some q → has d q x = true → wn3 (fb d x + rk d x s9) = s9) ∧ (∀ (y : Int) (s9 : Nat) (q : Ky), 1 ≤ y → y < x → (KL d)[s9]? = some q → has d q y = true → wn3 (fb d y + rk d y s9) = s9) ∧ Hp G ws A s.heap H locs ∧ (ws[b]? = some (aM, mO I2 ad)) ∧ (ws[b + 2]? = some (ad 8, aI cy 1111 d)) ∧ (ws[b + 14]? = some (ad 15, aI cy 38400 me2)) ∧ (ws[b + 15]? = some (ad 16, aI cy 6400 le2)) ∧ (ws[b + 16]? = some (ad 17, aI cy 6400 ru2)) ∧ (ws[b + 17]? = some (ad 18, aI cy 4 so2)) ∧ (ws[b + 18]? = some (ad 20, aI cy 42 (uZ fo2 x many))) ∧ (ws[b + 19]? = some (ad 21, aI cy 38400 wn3)) ∧ Eqx ws0 ws (fun j => j = b ∨ (b + 14 ≤ j ∧ j ≤ b + 19)) ∧ lv_has ls 6 [(0, .ref aM), (1, .int (zI (d 0))), (2, .int (zI mny)), (3, .int (zI x)), (4, .int (zI k))]) _ ⟨ws, many, 0, wn2, rfl, (by omega), (by show many = fb d x + rk d x 0; rw [rk_0]; omega), (fun s9 q h1 => absurd h1 (by omega)), d4, h, h_mo, h_da, h_me, h_le, h_ru, h_so, h_fo, h_wn, hE, lv_sub hl [1, 2, 3, 4, 0] rfl⟩ ?_
      rintro n H locs ls ⟨ws, mny, k, wn3, hn, e1, e2, e3, e4, h, h_mo, h_da, h_me, h_le, h_ru, h_so, h_fo, h_wn, hE, hl⟩ ih_129
      refine r_iload E 4 hl rfl dX11_layAll_129 ?_
      refine r_aload_n E 0 hl rfl dX11_layAll_131 ?_
      refine r_get (v := .int (zI (I2 19))) E h h_mo rfl inn_X11_layAll_11 19 (by decide) fl_X11_layAll_189 rfl dX11_layAll_132 ?_
      rw [show I2 19 = ((KL d).length : Int) from hlaid]
      refine r_icmp_ge E 168 dX11_layAll_135 (by decide) (by omega) (fun c_135 => ?_) (fun c_135 => ?_)
      · skip
        have hfs := fb_s (d := d) (x := x) (by omega)
        have hke : k.toNat = (KL d).length := by omega
        rw [hke] at e2
        refine r_iinc (lv' := [(3, .int (zI (x + 1))), (0, .ref aM), (1, .int (zI (d 0))), (2, .int (zI mny)), (4, .int (zI k))]) E 3 hl rfl dX11_layAll_168 (by decide) rfl (fun ls hl => ?_)
        refine r_goto E 114 dX11_layAll_171 (by decide) ?_
        exact ih_114 _ H locs ls (by omega) ⟨ws, mny, (x + 1), (uZ fo2 x many), wn3, rfl, (by omega), (by omega), (fun y h0 h1 => by
      by_cases e : y = x
      · subst e; rw [uZ_s]; exact d2
      · rw [uZ_n e]; exact d3 y h0 (by omega)), (fun y s9 q h0 h1 h2 h3 => by
      by_cases e : y = x
      · subst e; exact e3 s9 q (by have := lt_of_get h2; omega) h2 h3
      · exact e4 y s9 q h0 (by omega) h2 h3), h, h_mo, h_da, h_me, h_le, h_ru, h_so, h_fo, h_wn, hE, lv_sub hl [1, 2, 3, 0] rfl⟩
      · skip
        obtain ⟨q9, hk9⟩ : ∃ q, (KL d)[k.toNat]? = some q := ⟨_, List.getElem?_eq_getElem (by omega)⟩
        have hq9 := KL_at hD hk9
        have hl9 := hKL.2 _ q9 hk9
        rw [show ((k.toNat : Nat) : Int) = k by omega] at hl9
        have hrs := rk_s (x := x) hk9
        have hrl := rk_le (d := d) (x := x) (show k.toNat + 1 ≤ (KL d).length by omega)
        have hfs := fb_s (d := d) (x := x) (by omega)
        have hfl := fb_le hD (x + 1)
        have hr0 : 0 ≤ rk d x k.toNat := cntT_nonneg
        have hek : (k + 1).toNat = k.toNat + 1 := by omega
        refine r_aload_n E 0 hl rfl dX11_layAll_138 ?_
        refine r_iload E 4 hl rfl dX11_layAll_139 ?_
        refine r_iload_n E 3 hl rfl dX11_layAll_141 ?_
        refine r_callVI E h (As := [.int (zI k), .int (zI x)]) (rest := []) (k_X11_contains l k x q9 h_mo h_me h_le hD (by omega) hq9 hl9.2.1 hl9.2.2 (by omega)) h_mo rfl gX11_layAll_X11_contains rfl hd_X11_contains (by decide) ⟨by decide, by decide⟩ hl.1 rfl (Nat.le_of_ble_eq_true rfl) dX11_layAll_142 rfl (fun z_142 ws H locs hp h => ?_)
        obtain ⟨e_z_142, rfl⟩ := hp
        refine r_if_ne E 151 dX11_layAll_145 (by decide) (by omega) (fun c_145 => ?_) (fun c_145 => ?_)
        · skip
          refine r_aload_n E 0 hl rfl dX11_layAll_151 ?_
          refine r_get (v := .ref (ad 21)) E h h_mo rfl inn_X11_layAll_11 21 (by decide) fl_X11_layAll_47 rfl dX11_layAll_152 ?_
          refine r_iload_n E 2 hl rfl dX11_layAll_155 ?_
          refine r_iload E 4 hl rfl dX11_layAll_156 ?_
          refine r_iast E h h_wn (by omega) (by decide) dX11_layAll_158 (fun ws H locs h hu => ?_)
          have h_mo := hu.keep h_mo (by omega)
          have h_da := hu.keep h_da (by omega)
          have h_me := hu.keep h_me (by omega)
          have h_le := hu.keep h_le (by omega)
          have h_ru := hu.keep h_ru (by omega)
          have h_so := hu.keep h_so (by omega)
          have h_fo := hu.keep h_fo (by omega)
          have h_wn : ws[b + 19]? = some (ad 21, aI cy 38400 (uZ wn3 mny k)) := hu.1
          have hE := hE.tr (hu.eqx (by first | omega | (dsimp only <;> omega)))
          refine r_iinc (lv' := [(2, .int (zI (mny + 1))), (0, .ref aM), (1, .int (zI (d 0))), (3, .int (zI x)), (4, .int (zI k))]) E 2 hl rfl dX11_layAll_159 (by decide) rfl (fun ls hl => ?_)
          have hN : mny + 1 = fb d x + rk d x (k + 1).toNat ∧ (∀ (s9 : Nat) (q : Ky), (s9 : Int) < k + 1 → (KL d)[s9]? = some q → has d q x = true → (uZ wn3 mny k) (fb d x + rk d x s9) = s9) ∧ (∀ (y : Int) (s9 : Nat) (q : Ky), 1 ≤ y → y < x → (KL d)[s9]? = some q → has d q y = true → (uZ wn3 mny k) (fb d y + rk d y s9) = s9) := by
            rw [hek, hrs]
            rcases e_z_142 with hh | hh
            · rw [if_pos hh.2]
              refine ⟨by omega, fun s9 q h1 h2 h3 => ?_, fun y s9 q h0 h1 h2 h3 => ?_⟩
              · by_cases e : (s9 : Int) = k
                · obtain rfl : s9 = k.toNat := by omega
                  rw [e2, uZ_s]; omega
                · have := rk_lt (x := x) (show s9 < k.toNat by omega) h2 h3
                  rw [uZ_n (by omega)]
                  exact e3 s9 q (by omega) h2 h3
              · have g1 := rk_lt (x := y) (lt_of_get h2) h2 h3
                have g2 := fb_s (d := d) (x := y) h0
                have g3 := fb_mono (d := d) (show y + 1 ≤ x by omega)
                rw [uZ_n (by omega)]
                exact e4 y s9 q h0 h1 h2 h3
            · exfalso; omega
          refine r_iinc (lv' := [(4, .int (zI (k + 1))), (2, .int (zI (mny + 1))), (0, .ref aM), (1, .int (zI (d 0))), (3, .int (zI x))]) E 4 hl rfl dX11_layAll_162 (by decide) rfl (fun ls hl => ?_)
          refine r_goto E 129 dX11_layAll_165 (by decide) ?_
          exact ih_129 _ H locs ls (by omega) ⟨ws, (mny + 1), (k + 1), (uZ wn3 mny k), rfl, (by omega), hN.1, hN.2.1, hN.2.2, h, h_mo, h_da, h_me, h_le, h_ru, h_so, h_fo, h_wn, hE, lv_sub hl [2, 3, 1, 4, 0] rfl⟩
        · skip
          refine r_goto E 162 dX11_layAll_148 (by decide) ?_
          have hN : mny = fb d x + rk d x (k + 1).toNat ∧ (∀ (s9 : Nat) (q : Ky), (s9 : Int) < k + 1 → (KL d)[s9]? = some q → has d q x = true → wn3 (fb d x + rk d x s9) = s9) ∧ (∀ (y : Int) (s9 : Nat) (q : Ky), 1 ≤ y → y < x → (KL d)[s9]? = some q → has d q y = true → wn3 (fb d y + rk d y s9) = s9) := by
            rw [hek, hrs]
            rcases e_z_142 with hh | hh
            · exfalso; omega
            rw [if_neg (by rw [hh.2]; exact Bool.false_ne_true)]
            refine ⟨by omega, fun s9 q h1 h2 h3 => ?_, e4⟩
            by_cases e : (s9 : Int) = k
            · exfalso
              obtain rfl : s9 = k.toNat := by omega
              rw [hk9] at h2
              cases h2
              rw [hh.2] at h3
              exact Bool.false_ne_true h3
            · exact e3 s9 q (by omega) h2 h3
          refine r_iinc (lv' := [(4, .int (zI (k + 1))), (0, .ref aM), (1, .int (zI (d 0))), (2, .int (zI mny)), (3, .int (zI x))]) E 4 hl rfl dX11_layAll_162 (by decide) rfl (fun ls hl => ?_)
          refine r_goto E 129 dX11_layAll_165 (by decide) ?_
          exact ih_129 _ H locs ls (by omega) ⟨ws, mny, (k + 1), wn3, rfl, (by omega), hN.1, hN.2.1, hN.2.2, h, h_mo, h_da, h_me, h_le, h_ru, h_so, h_fo, h_wn, hE, lv_sub hl [1, 2, 3, 4, 0] rfl⟩
  · skip
    refine r_aload_n E 0 hl rfl dX11_layAll_26 ?_
    refine r_get (v := .ref (ad 18)) E h h_mo rfl inn_X11_layAll_11 18 (by decide) fl_X11_layAll_41 rfl dX11_layAll_27 ?_
    refine r_iload_n E 3 hl rfl dX11_layAll_30 ?_
    refine r_iconst E dX11_layAll_31 ?_
    refine r_iast E h h_so (by omega) (by decide) dX11_layAll_32 (fun ws H locs h hu => ?_)
    have h_mo := hu.keep h_mo (by omega)
    have h_da := hu.keep h_da (by omega)
    have h_me := hu.keep h_me (by omega)
    have h_le := hu.keep h_le (by omega)
    have h_ru := hu.keep h_ru (by omega)
    have h_so : ws[b + 17]? = some (ad 18, aI cy 4 (uZ so2 r 0)) := hu.1
    have h_fo := hu.keep h_fo (by omega)
    have h_wn := hu.keep h_wn (by omega)
    have hE := hE.tr (hu.eqx (by first | omega | (dsimp only <;> omega)))
    refine r_iconst E dX11_layAll_33 ?_
    refine r_istore (lv' := [(4, .int (zI 1)), (0, .ref aM), (1, .int (zI (d 0))), (2, .int (zI 0)), (3, .int (zI r))]) E hl dX11_layAll_34 (by decide) rfl (fun ls hl => ?_)
    refine r_loop (fun n H locs ls => ∃ (ws : va_W) (x : Int) (I3 : Nat → Int) (me3 : Int → Int) (le3 : Int → Int) (ru3 : Int → Int) (so3 : Int → Int), n = (41 - x).toNat ∧ (1 ≤ x ∧ x ≤ d 0 + 1) ∧ (LKp d me3 le3 ru3 (kR d r.toNat ++ kX d r (x - 1).toNat) (I3 19)) ∧ (so3 r = (kX d r (x - 1).toNat).length ∧ ∀ r9 : Int, 0 ≤ r9 → r9 < r → so3 r9 = (kX d r9 (d 0).toNat).length) ∧ (∀ k : Nat, k ≠ 19 → I3 k = I k) ∧ Hp G ws A s.heap H locs ∧ (ws[b]? = some (aM, mO I3 ad)) ∧ (ws[b + 2]? = some (ad 8, aI cy 1111 d)) ∧ (ws[b + 14]? = some (ad 15, aI cy 38400 me3)) ∧ (ws[b + 15]? = some (ad 16, aI cy 6400 le3)) ∧ (ws[b + 16]? = some (ad 17, aI cy 6400 ru3)) ∧ (ws[b + 17]? = some (ad 18, aI cy 4 so3)) ∧ (ws[b + 18]? = some (ad 20, aI cy 42 fo)) ∧ (ws[b + 19]? = some (ad 21, aI cy 38400 wn)) ∧ Eqx ws0 ws (fun j => j = b ∨ (b + 14 ≤ j ∧ j ≤ b + 19)) ∧ lv_has ls 6 [(0, .ref aM), (1, .int (zI (d 0))), (2, .int (zI 0)), (3, .int (zI r)), (4, .int (zI x))]) _ ⟨ws, 1, I2, me2, le2, ru2, (uZ so2 r 0), rfl, (by omega), (by simpa [kX] using a2), ⟨by rw [uZ_s]; rfl, fun r9 h0 h1 => by rw [uZ_n (by omega)]; exact a3 r9 h0 h1⟩, a4, h, h_mo, h_da, h_me, h_le, h_ru, h_so, h_fo, h_wn, hE, lv_sub hl [1, 2, 3, 4, 0] rfl⟩ ?_
    rintro n H locs ls ⟨ws, x, I3, me3, le3, ru3, so3, hn, b1, b2, b3, b4, h, h_mo, h_da, h_me, h_le, h_ru, h_so, h_fo, h_wn, hE, hl⟩ ih_36
    refine r_iload E 4 hl rfl dX11_layAll_36 ?_
    refine r_iload_n E 1 hl rfl dX11_layAll_38 ?_
    refine r_icmp_gt E 106 dX11_layAll_39 (by decide) (by omega) (fun c_39 => ?_) (fun c_39 => ?_)
    · skip
      have ekr : kR d (r + 1).toNat = kR d r.toNat ++ kX d r (x - 1).toNat := by
        rw [show (r + 1).toNat = r.toNat + 1 by omega, kR_s, show ((r.toNat : Nat) : Int) = r by omega, show (x - 1).toNat = (d 0).toNat by omega]
      refine r_iinc (lv' := [(3, .int (zI (r + 1))), (0, .ref aM), (1, .int (zI (d 0))), (2, .int (zI 0)), (4, .int (zI x))]) E 3 hl rfl dX11_layAll_106 (by decide) rfl (fun ls hl => ?_)
      refine r_goto E 16 dX11_layAll_109 (by decide) ?_
      exact ih_16 _ H locs ls (by omega) ⟨ws, (r + 1), I3, me3, le3, ru3, so3, rfl, (by omega), (by rw [ekr]; exact b2), (fun r9 h0 h1 => by
      by_cases e : r9 = r
      · subst e; rw [b3.1, show (x - 1).toNat = (d 0).toNat by omega]
      · exact b3.2 r9 h0 (by omega)), b4, h, h_mo, h_da, h_me, h_le, h_ru, h_so, h_fo, h_wn, hE, lv_sub hl [1, 2, 3, 0] rfl⟩
    · skip
      refine r_iconst E dX11_layAll_42 ?_
      refine r_istore (lv' := [(5, .int (zI 1)), (0, .ref aM), (1, .int (zI (d 0))), (2, .int (zI 0)), (3, .int (zI r)), (4, .int (zI x))]) E hl dX11_layAll_43 (by decide) rfl (fun ls hl => ?_)
      refine r_loop (fun n H locs ls => ∃ (ws : va_W) (y : Int) (I4 : Nat → Int) (me4 : Int → Int) (le4 : Int → Int) (ru4 : Int → Int) (so4 : Int → Int), n = (41 - y).toNat ∧ (1 ≤ y ∧ y ≤ d 0 + 1) ∧ (LKp d me4 le4 ru4 ((kR d r.toNat ++ kX d r (x - 1).toNat) ++ kY d r x (y - 1).toNat) (I4 19)) ∧ (so4 r = (kX d r (x - 1).toNat).length + (kY d r x (y - 1).toNat).length) ∧ (∀ r9 : Int, 0 ≤ r9 → r9 < r → so4 r9 = (kX d r9 (d 0).toNat).length) ∧ (∀ k : Nat, k ≠ 19 → I4 k = I k) ∧ Hp G ws A s.heap H locs ∧ (ws[b]? = some (aM, mO I4 ad)) ∧ (ws[b + 2]? = some (ad 8, aI cy 1111 d)) ∧ (ws[b + 14]? = some (ad 15, aI cy 38400 me4)) ∧ (ws[b + 15]? = some (ad 16, aI cy 6400 le4)) ∧ (ws[b + 16]? = some (ad 17, aI cy 6400 ru4)) ∧ (ws[b + 17]? = some (ad 18, aI cy 4 so4)) ∧ (ws[b + 18]? = some (ad 20, aI cy 42 fo)) ∧ (ws[b + 19]? = some (ad 21, aI cy 38400 wn)) ∧ Eqx ws0 ws (fun j => j = b ∨ (b + 14 ≤ j ∧ j ≤ b + 19)) ∧ lv_has ls 6 [(0, .ref aM), (1, .int (zI (d 0))), (2, .int (zI 0)), (3, .int (zI r)), (4, .int (zI x)), (5, .int (zI y))]) _ ⟨ws, 1, I3, me3, le3, ru3, so3, rfl, (by omega), (by simpa [kY] using b2), (by rw [b3.1]; simp [kY]), b3.2, b4, h, h_mo, h_da, h_me, h_le, h_ru, h_so, h_fo, h_wn, hE, lv_sub hl [1, 2, 3, 4, 5, 0] rfl⟩ ?_
      rintro n H locs ls ⟨ws, y, I4, me4, le4, ru4, so4, hn, c1, c2, c3, c5, c4, h, h_mo, h_da, h_me, h_le, h_ru, h_so, h_fo, h_wn, hE, hl⟩ ih_45
      refine r_iload E 5 hl rfl dX11_layAll_45 ?_
      refine r_iload_n E 1 hl rfl dX11_layAll_47 ?_
      refine r_icmp_gt E 100 dX11_layAll_48 (by decide) (by omega) (fun c_48 => ?_) (fun c_48 => ?_)
      · skip
        have ekx : kX d r (x + 1 - 1).toNat = kX d r (x - 1).toNat ++ kY d r x (y - 1).toNat := by
          rw [show (x + 1 - 1).toNat = (x - 1).toNat + 1 by omega, kX_s, show (((x - 1).toNat : Int) + 1) = x by omega, show (y - 1).toNat = (d 0).toNat by omega]
        refine r_iinc (lv' := [(4, .int (zI (x + 1))), (0, .ref aM), (1, .int (zI (d 0))), (2, .int (zI 0)), (3, .int (zI r)), (5, .int (zI y))]) E 4 hl rfl dX11_layAll_100 (by decide) rfl (fun ls hl => ?_)
        refine r_goto E 36 dX11_layAll_103 (by decide) ?_
        exact ih_36 _ H locs ls (by omega) ⟨ws, (x + 1), I4, me4, le4, ru4, so4, rfl, (by omega), (by rw [ekx, ← List.append_assoc]; exact c2), ⟨by rw [ekx, List.length_append]; omega, c5⟩, c4, h, h_mo, h_da, h_me, h_le, h_ru, h_so, h_fo, h_wn, hE, lv_sub hl [1, 2, 3, 4, 0] rfl⟩
      · skip
        have eky : kY d r x (y + 1 - 1).toNat = kY d r x (y - 1).toNat ++ (if okK d r x y = true then [(r, x, y)] else []) := by
          rw [show (y + 1 - 1).toNat = (y - 1).toNat + 1 by omega, kY_s, show (((y - 1).toNat : Int) + 1) = y by omega]
        have hk6 : ∀ q : Ky, q ∈ ((kR d r.toNat ++ kX d r (x - 1).toNat) ++ kY d r x (y - 1).toNat) → kl d q ≤ 6 := fun q hq => part_kl hD (by omega) (by omega) hq
        have hl1 := kR_len (d := d) (by omega) r.toNat
        have hl2 := kX_len (d := d) (r := r) (by omega) (x - 1).toNat
        have hl3 := kY_len (d := d) (r := r) (x := x) (y - 1).toNat
        have hl4 := c2.1
        simp only [List.length_append] at hl4
        have hl5 : 0 ≤ I4 19 ∧ I4 19 < 6400 := by omega
        have hru5 : 0 ≤ d (5 + 6 * r) ∧ d (5 + 6 * r) ≤ 6 := by
          rcases hD.rule a1.1 (by omega) with hh | hh
          · omega
          · omega
        refine r_aload_n E 0 hl rfl dX11_layAll_51 ?_
        refine r_get (v := .ref (ad 8)) E h h_mo rfl inn_X11_layAll_11 8 (by decide) fl_X11_layAll_17 rfl dX11_layAll_52 ?_
        refine r_iload_n E 3 hl rfl dX11_layAll_55 ?_
        refine r_callSI E h (As := [.int (zI r)]) (rest := [.ref (ad 8)]) (k_X11_rule l r) gX11_layAll_X11_rule rfl hd_X11_rule (by decide) ⟨by decide, by decide⟩ hl.1 rfl (Nat.le_of_ble_eq_true rfl) dX11_layAll_56 rfl (fun z_56 ws H locs hp h => ?_)
        obtain ⟨rfl, rfl⟩ := hp
        refine r_iald E h h_da (by omega) (by decide) dX11_layAll_59 ?_
        refine r_if_ne E 75 dX11_layAll_60 (by decide) (by omega) (fun c_60 => ?_) (fun c_60 => ?_)
        · skip
          have h50 : d (5 + 6 * r) ≠ 0 := by omega
          refine r_iload E 5 hl rfl dX11_layAll_75 ?_
          refine r_iload E 4 hl rfl dX11_layAll_77 ?_
          refine r_icmp_le E 94 dX11_layAll_79 (by decide) (by omega) (fun c_79 => ?_) (fun c_79 => ?_)
          · skip
            have hN : LKp d me4 le4 ru4 ((kR d r.toNat ++ kX d r (x - 1).toNat) ++ kY d r x (y + 1 - 1).toNat) (I4 19) ∧ so4 r = (kX d r (x - 1).toNat).length + (kY d r x (y + 1 - 1).toNat).length ∧ (∀ r9 : Int, r9 ≠ r → so4 r9 = so4 r9) ∧ ∀ k : Nat, k ≠ 19 → I4 k = I k := by
              rw [eky]
              rw [if_neg (show ¬ okK d r x y = true by
                unfold okK
                rw [if_neg h50]
                intro hh
                have := (okP_iff.mp hh).1
                omega), List.append_nil]
              exact ⟨c2, c3, fun _ _ => rfl, c4⟩
            refine r_iinc (lv' := [(5, .int (zI (y + 1))), (0, .ref aM), (1, .int (zI (d 0))), (2, .int (zI 0)), (3, .int (zI r)), (4, .int (zI x))]) E 5 hl rfl dX11_layAll_94 (by decide) rfl (fun ls hl => ?_)
            refine r_goto E 45 dX11_layAll_97 (by decide) ?_
            exact ih_45 _ H locs ls (by omega) ⟨ws, (y + 1), I4, me4, le4, ru4, so4, rfl, (by omega), hN.1, hN.2.1, (fun r9 h0 h1 => by rw [hN.2.2.1 r9 (by omega)]; exact c5 r9 h0 h1), hN.2.2.2, h, h_mo, h_da, h_me, h_le, h_ru, h_so, h_fo, h_wn, hE, lv_sub hl [1, 2, 3, 4, 5, 0] rfl⟩
          · skip
            refine r_aload_n E 0 hl rfl dX11_layAll_82 ?_
            refine r_iload_n E 3 hl rfl dX11_layAll_83 ?_
            refine r_iload E 4 hl rfl dX11_layAll_84 ?_
            refine r_iload E 5 hl rfl dX11_layAll_86 ?_
            refine r_iload E 4 hl rfl dX11_layAll_88 ?_
            refine r_isub E dX11_layAll_90 ?_
            refine r_callVV E h (As := [.int (zI r), .int (zI x), .int (zI (y - x))]) (rest := []) (k_X11_layProgression l r x y h_mo h_da h_me h_le h_ru h_so hD (by omega) hl5 h50 (by omega) (by omega)) h_mo rfl gX11_layAll_X11_layProgression rfl hd_X11_layProgression (by decide) ⟨by decide, by decide⟩ hl.1 rfl (Nat.le_of_ble_eq_true rfl) dX11_layAll_91 rfl (fun ws H locs hp h => ?_)
            obtain ⟨I_91, me_91, le_91, ru_91, so_91, e_91, h_mo, h_me, h_le, h_ru, h_so, hf⟩ := hp
            have h_da := hf.at h_da (by first | omega | (dsimp only <;> omega))
            have h_fo := hf.at h_fo (by first | omega | (dsimp only <;> omega))
            have h_wn := hf.at h_wn (by first | omega | (dsimp only <;> omega))
            have hE := hE.tr (hf.wk (fun j hj => by first | omega | (dsimp only at hj ⊢ <;> omega)))
            have hN : LKp d me_91 le_91 ru_91 ((kR d r.toNat ++ kX d r (x - 1).toNat) ++ kY d r x (y + 1 - 1).toNat) (I_91 19) ∧ so_91 r = (kX d r (x - 1).toNat).length + (kY d r x (y + 1 - 1).toNat).length ∧ (∀ r9 : Int, r9 ≠ r → so_91 r9 = so4 r9) ∧ ∀ k : Nat, k ≠ 19 → I_91 k = I k := by
              rw [eky]
              rcases e_91 with ⟨g0, g1, g2, g3, g4, g5, g6⟩ | ⟨g0, g1, g2, g3, g4, g5⟩
              · rw [if_pos (show okK d r x y = true by unfold okK; rw [if_neg h50]; exact g0), ← List.append_assoc]
                have hadd := c2.add (r, x, y) g5 g6 hk6
                refine ⟨by rw [g1, g2, g3]; simpa [va_up] using hadd, ?_, fun r9 hr9 => by rw [g4, uZ_n hr9], fun k hk => by rw [g1]; simp [va_up, hk]; exact c4 k hk⟩
                rw [g4, uZ_s, List.length_append]; simp only [List.length_cons, List.length_nil]; omega
              · rw [if_neg (show ¬ okK d r x y = true by unfold okK; rw [if_neg h50, g0]; exact Bool.false_ne_true), List.append_nil, g1, g2, g3, g4, g5]
                exact ⟨c2, c3, fun _ _ => rfl, c4⟩
            refine r_iinc (lv' := [(5, .int (zI (y + 1))), (0, .ref aM), (1, .int (zI (d 0))), (2, .int (zI 0)), (3, .int (zI r)), (4, .int (zI x))]) E 5 hl rfl dX11_layAll_94 (by decide) rfl (fun ls hl => ?_)
            refine r_goto E 45 dX11_layAll_97 (by decide) ?_
            exact ih_45 _ H locs ls (by omega) ⟨ws, (y + 1), I_91, me_91, le_91, ru_91, so_91, rfl, (by omega), hN.1, hN.2.1, (fun r9 h0 h1 => by rw [hN.2.2.1 r9 (by omega)]; exact c5 r9 h0 h1), hN.2.2.2, h, h_mo, h_da, h_me, h_le, h_ru, h_so, h_fo, h_wn, hE, lv_sub hl [1, 2, 3, 4, 5, 0] rfl⟩
        · skip
          have h50 : d (5 + 6 * r) = 0 := by omega
          refine r_aload_n E 0 hl rfl dX11_layAll_63 ?_
          refine r_iload_n E 3 hl rfl dX11_layAll_64 ?_
          refine r_iload E 4 hl rfl dX11_layAll_65 ?_
          refine r_iload E 5 hl rfl dX11_layAll_67 ?_
          refine r_callVV E h (As := [.int (zI r), .int (zI x), .int (zI y)]) (rest := []) (k_X11_layEquation l r x y h_mo h_da h_me h_le h_ru h_so hD (by omega) hl5 h50 (by omega) (by omega)) h_mo rfl gX11_layAll_X11_layEquation rfl hd_X11_layEquation (by decide) ⟨by decide, by decide⟩ hl.1 rfl (Nat.le_of_ble_eq_true rfl) dX11_layAll_69 rfl (fun ws H locs hp h => ?_)
          obtain ⟨I_69, me_69, le_69, ru_69, so_69, e_69, h_mo, h_me, h_le, h_ru, h_so, hf⟩ := hp
          have h_da := hf.at h_da (by first | omega | (dsimp only <;> omega))
          have h_fo := hf.at h_fo (by first | omega | (dsimp only <;> omega))
          have h_wn := hf.at h_wn (by first | omega | (dsimp only <;> omega))
          have hE := hE.tr (hf.wk (fun j hj => by first | omega | (dsimp only at hj ⊢ <;> omega)))
          refine r_goto E 94 dX11_layAll_72 (by decide) ?_
          have hN : LKp d me_69 le_69 ru_69 ((kR d r.toNat ++ kX d r (x - 1).toNat) ++ kY d r x (y + 1 - 1).toNat) (I_69 19) ∧ so_69 r = (kX d r (x - 1).toNat).length + (kY d r x (y + 1 - 1).toNat).length ∧ (∀ r9 : Int, r9 ≠ r → so_69 r9 = so4 r9) ∧ ∀ k : Nat, k ≠ 19 → I_69 k = I k := by
            rw [eky]
            rcases e_69 with ⟨g0, g1, g2, g3, g4, g5, g6⟩ | ⟨g0, g1, g2, g3, g4, g5⟩
            · rw [if_pos (show okK d r x y = true by unfold okK; rw [if_pos h50]; exact g0), ← List.append_assoc]
              have hadd := c2.add (r, x, y) g5 g6 hk6
              refine ⟨by rw [g1, g2, g3]; simpa [va_up] using hadd, ?_, fun r9 hr9 => by rw [g4, uZ_n hr9], fun k hk => by rw [g1]; simp [va_up, hk]; exact c4 k hk⟩
              rw [g4, uZ_s, List.length_append]; simp only [List.length_cons, List.length_nil]; omega
            · rw [if_neg (show ¬ okK d r x y = true by unfold okK; rw [if_pos h50, g0]; exact Bool.false_ne_true), List.append_nil, g1, g2, g3, g4, g5]
              exact ⟨c2, c3, fun _ _ => rfl, c4⟩
          refine r_iinc (lv' := [(5, .int (zI (y + 1))), (0, .ref aM), (1, .int (zI (d 0))), (2, .int (zI 0)), (3, .int (zI r)), (4, .int (zI x))]) E 5 hl rfl dX11_layAll_94 (by decide) rfl (fun ls hl => ?_)
          refine r_goto E 45 dX11_layAll_97 (by decide) ?_
          exact ih_45 _ H locs ls (by omega) ⟨ws, (y + 1), I_69, me_69, le_69, ru_69, so_69, rfl, (by omega), hN.1, hN.2.1, (fun r9 h0 h1 => by rw [hN.2.2.1 r9 (by omega)]; exact c5 r9 h0 h1), hN.2.2.2, h, h_mo, h_da, h_me, h_le, h_ru, h_so, h_fo, h_wn, hE, lv_sub hl [1, 2, 3, 4, 5, 0] rfl⟩
