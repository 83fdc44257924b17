/-- the rows of the solutions hold the list L so far -/
def LKp (d me le ru : Int → Int) (L : List Ky) (laid : Int) : Prop := laid = L.length ∧ ∀ (s : Nat) (q : Ky), L[s]? = some q → ru s = q.1 ∧ le s = kl d q ∧ ∀ k : Int, 0 ≤ k → k < kl d q → me (6 * (s : Int) + k) = km d q k
theorem LKp.add {d me le ru me2 : Int → Int} {L : List Ky} {laid : Int} (h : LKp d me le ru L laid) (q : Ky) (h1 : ∀ k : Int, 0 ≤ k → k < kl d q → me2 (6 * laid + k) = km d q k) (h2 : ∀ j : Int, (j < 6 * laid ∨ 6 * laid + 6 ≤ j) → me2 j = me j) (h3 : ∀ q : Ky, q ∈ L → kl d q ≤ 6) : LKp d me2 (uZ le laid (kl d q)) (uZ ru laid q.1) (L ++ [q]) (laid + 1) := by
  obtain ⟨e, hL⟩ := h
  refine ⟨by simp only [List.length_append, List.length_cons, List.length_nil]; omega, fun s p hs => ?_⟩
  by_cases c : s < L.length
  · rw [List.getElem?_append_left c] at hs
    obtain ⟨a1, a2, a3⟩ := hL s p hs
    have h4 := h3 p (List.mem_of_getElem? hs)
    refine ⟨by rw [uZ_n (by omega)]; exact a1, by rw [uZ_n (by omega)]; exact a2, fun k k0 k1 => by rw [h2 _ (by omega)]; exact a3 k k0 k1⟩
  · rw [List.getElem?_append_right (by omega)] at hs
    have h5 : s - L.length < 1 := (List.getElem?_eq_some_iff.mp hs).1
    rw [show s - L.length = 0 by omega] at hs
    cases hs
    have e9 : (s : Int) = laid := by omega
    refine ⟨by rw [e9, uZ_s], by rw [e9, uZ_s], fun k k0 k1 => by rw [e9]; exact h1 k k0 k1⟩
theorem mul_b {a x A X : Int} (h : 0 ≤ a ∧ a ≤ A) (g : 0 ≤ x ∧ x ≤ X) : 0 ≤ a * x ∧ a * x ≤ A * X :=
  ⟨Int.mul_nonneg h.1 g.1, Int.le_trans (Int.mul_le_mul_of_nonneg_right h.2 g.1) (Int.mul_le_mul_of_nonneg_left g.2 (Int.le_trans h.1 h.2))⟩
theorem tdiv_b {a b B : Int} (h : -B ≤ a ∧ a ≤ B) : -B ≤ Int.tdiv a b ∧ Int.tdiv a b ≤ B := by
  have h1 : (Int.tdiv a b).natAbs ≤ a.natAbs := by rw [Int.natAbs_tdiv]; exact Nat.div_le_self _ _
  omega
theorem fbN_mono {d : Int → Int} : ∀ (k m : Nat), fbN d m ≤ fbN d (m + k)
  | 0, m => Int.le_refl _
  | k + 1, m => by
    have h1 := fbN_mono (d := d) k m
    have h2 : 0 ≤ rk d (((m + k : Nat) : Int) + 1) (KL d).length := cntT_nonneg
    show fbN d m ≤ fbN d (m + k) + rk d (((m + k : Nat) : Int) + 1) _
    omega
theorem fb_mono {d : Int → Int} {x y : Int} (h : x ≤ y) : fb d x ≤ fb d y := by
  have := fbN_mono (d := d) ((y - 1).toNat - (x - 1).toNat) (x - 1).toNat
  unfold fb
  rwa [show (x - 1).toNat + ((y - 1).toNat - (x - 1).toNat) = (y - 1).toNat by omega] at this
theorem rk_lt {d : Int → Int} {x : Int} {s t : Nat} {q : Ky} (h : s < t) (hs : (KL d)[s]? = some q) (hq : has d q x = true) : rk d x s < rk d x t := by
  have h1 := cntT_s (P := fun q => has d q x) hs
  rw [if_pos hq] at h1
  have h2 := cntT_le (P := fun q => has d q x) (l := KL d) (show s + 1 ≤ t by omega)
  unfold rk
  omega
theorem rk_le {d : Int → Int} {x : Int} {s t : Nat} (h : s ≤ t) : rk d x s ≤ rk d x t := cntT_le h
theorem rk_s {d : Int → Int} {x : Int} {s : Nat} {q : Ky} (hs : (KL d)[s]? = some q) : rk d x (s + 1) = rk d x s + (if has d q x = true then 1 else 0) := cntT_s hs
theorem rk_0 {d : Int → Int} {x : Int} : rk d x 0 = 0 := cntT_0
theorem hd_X11_lay : yX11_lay.cls = RX11 ∧ yX11_lay.cls ≠ "java/lang/invoke/MethodHandle" ∧ yX11_lay.cls ≠ "java/lang/invoke/VarHandle" ∧ (parseMethodDescriptor yX11_lay.desc).map (fun d => d.parameters.length) = some 2 := by decide +kernel
theorem fl_X11_lay_35 : Cond.fieldLink RX11 35 (TX11 16).1 (TX11 16).2.1 (TX11 16).2.2.1 ∈ wsX11_lay := List.mem_of_getElem? (i := 1) rfl
theorem inn_X11_lay_11 : ∀ w ∈ wsX110, w ∈ wsX11_lay := fun _ h => List.mem_cons_of_mem _ (List.mem_append_right _ h)
theorem fl_X11_lay_189 : Cond.fieldLink RX11 189 (TX11 19).1 (TX11 19).2.1 (TX11 19).2.2.1 ∈ wsX11_lay := List.mem_of_getElem? (i := 2) rfl
theorem fl_X11_lay_38 : Cond.fieldLink RX11 38 (TX11 17).1 (TX11 17).2.1 (TX11 17).2.2.1 ∈ wsX11_lay := List.mem_of_getElem? (i := 3) rfl
theorem fl_X11_lay_41 : Cond.fieldLink RX11 41 (TX11 18).1 (TX11 18).2.1 (TX11 18).2.2.1 ∈ wsX11_lay := List.mem_of_getElem? (i := 4) rfl
abbrev rm_X11_lay : Room := { frames := 0, cells := 0, slots := 0, locals := 0 }
set_option maxHeartbeats 4000000 in
set_option maxRecDepth 100000 in
theorem k_X11_lay (l : Launch) {G : va_G} {cy : Nat → ClassId} {ws0 : va_W} {b aM : Nat} {I : Nat → Int} {ad : Nat → Nat} {le : Int → Int} {ru : Int → Int} {so : Int → Int} (r len : Int) (h_mo : ws0[b]? = some (aM, mO I ad)) (h_le : ws0[b + 15]? = some (ad 16, aI cy 6400 le)) (h_ru : ws0[b + 16]? = some (ad 17, aI cy 6400 ru)) (h_so : ws0[b + 17]? = some (ad 18, aI cy 4 so)) (hl0 : 0 ≤ I 19 ∧ I 19 < 6400) (hr : 0 ≤ r ∧ r < 4) : MV l yX11_lay wsX11_lay rm_X11_lay G cy [.ref aM, .int (zI r), .int (zI len)] ws0 (fun u => u[b]? = some (aM, mO (va_up I 19 (I 19 + 1)) ad) ∧ u[b + 15]? = some (ad 16, aI cy 6400 (uZ le (I 19) len)) ∧ u[b + 16]? = some (ad 17, aI cy 6400 (uZ ru (I 19) r)) ∧ u[b + 17]? = some (ad 18, aI cy 4 (uZ so r (so r + 1))) ∧ Eqx ws0 u (fun j => j = b ∨ j = b + 15 ∨ j = b + 16 ∨ j = b + 17)) := by
  refine MV.of (own := RX11) (cc := cX11_lay) (nL := 3) (ret := none) (by decide) rfl rfl (Nat.le_of_ble_eq_true rfl) ?_
  intro p e s m below meth c A ls hin E h hl
  have hl : lv_has ls 3 [(0, .ref aM), (1, .int (zI r)), (2, .int (zI len))] := hl
  have hE : Eqx ws0 ws0 (fun j => j = b ∨ j = b + 15 ∨ j = b + 16 ∨ j = b + 17) := Eqx.rf
  refine r_aload_n E 0 hl rfl dX11_lay_0 ?_
  refine r_get (v := .ref (ad 16)) E h h_mo rfl inn_X11_lay_11 16 (by decide) fl_X11_lay_35 rfl dX11_lay_1 ?_
  refine r_aload_n E 0 hl rfl dX11_lay_4 ?_
  refine r_get (v := .int (zI (I 19))) E h h_mo rfl inn_X11_lay_11 19 (by decide) fl_X11_lay_189 rfl dX11_lay_5 ?_
  refine r_iload_n E 2 hl rfl dX11_lay_8 ?_
  refine r_iast E h h_le (by omega) (by decide) dX11_lay_9 (fun ws H locs h hu => ?_)
  have h_mo := hu.keep h_mo (by omega)
  have h_le : ws[b + 15]? = some (ad 16, aI cy 6400 (uZ le (I 19) len)) := hu.1
  have h_ru := hu.keep h_ru (by omega)
  have h_so := hu.keep h_so (by omega)
  have hE := hE.tr (hu.eqx (by first | omega | (dsimp only <;> omega)))
  refine r_aload_n E 0 hl rfl dX11_lay_10 ?_
  refine r_get (v := .ref (ad 17)) E h h_mo rfl inn_X11_lay_11 17 (by decide) fl_X11_lay_38 rfl dX11_lay_11 ?_
  refine r_aload_n E 0 hl rfl dX11_lay_14 ?_
  refine r_get (v := .int (zI (I 19))) E h h_mo rfl inn_X11_lay_11 19 (by decide) fl_X11_lay_189 rfl dX11_lay_15 ?_
  refine r_iload_n E 1 hl rfl dX11_lay_18 ?_
  refine r_iast E h h_ru (by omega) (by decide) dX11_lay_19 (fun ws H locs h hu => ?_)
  have h_mo := hu.keep h_mo (by omega)
  have h_le := hu.keep h_le (by omega)
  have h_ru : ws[b + 16]? = some (ad 17, aI cy 6400 (uZ ru (I 19) r)) := hu.1
  have h_so := hu.keep h_so (by omega)
  have hE := hE.tr (hu.eqx (by first | omega | (dsimp only <;> omega)))
  refine r_aload_n E 0 hl rfl dX11_lay_20 ?_
  refine r_get (v := .ref (ad 18)) E h h_mo rfl inn_X11_lay_11 18 (by decide) fl_X11_lay_41 rfl dX11_lay_21 ?_
  refine r_iload_n E 1 hl rfl dX11_lay_24 ?_
  refine r_dup2 E dX11_lay_25 rfl rfl ?_
  refine r_iald E h h_so (by omega) (by decide) dX11_lay_26 ?_
  refine r_iconst E dX11_lay_27 ?_
  refine r_iadd E dX11_lay_28 ?_
  refine r_iast E h h_so (by omega) (by decide) dX11_lay_29 (fun ws H locs h hu => ?_)
  have h_mo := hu.keep h_mo (by omega)
  have h_le := hu.keep h_le (by omega)
  have h_ru := hu.keep h_ru (by omega)
  have h_so : ws[b + 17]? = some (ad 18, aI cy 4 (uZ so r ((so r) + 1))) := hu.1
  have hE := hE.tr (hu.eqx (by first | omega | (dsimp only <;> omega)))
  refine r_aload_n E 0 hl rfl dX11_lay_30 ?_
  refine r_dup E dX11_lay_31 rfl ?_
  refine r_get (v := .int (zI (I 19))) E h h_mo rfl inn_X11_lay_11 19 (by decide) fl_X11_lay_189 rfl dX11_lay_32 ?_
  refine r_iconst E dX11_lay_35 ?_
  refine r_iadd E dX11_lay_36 ?_
  refine r_put E h h_mo rfl inn_X11_lay_11 19 (by decide) fl_X11_lay_189 tyX11 tyX11_ok nmX11 rfl rfl rfl (Nat.le_of_ble_eq_true rfl) dX11_lay_37 (fun ws H locs h hu => ?_)
  have h_mo : ws[b]? = some (aM, mO (va_up I 19 ((I 19) + 1)) ad) := hu.1
  have h_le := hu.keep h_le (by omega)
  have h_ru := hu.keep h_ru (by omega)
  have h_so := hu.keep h_so (by omega)
  have hE := hE.tr (hu.eqx (by first | omega | (dsimp only <;> omega)))
  exact r_vret E h ⟨h_mo, h_le, h_ru, h_so, hE⟩ dX11_lay_40
theorem hd_X11_layEquation : yX11_layEquation.cls = RX11 ∧ yX11_layEquation.cls ≠ "java/lang/invoke/MethodHandle" ∧ yX11_layEquation.cls ≠ "java/lang/invoke/VarHandle" ∧ (parseMethodDescriptor yX11_layEquation.desc).map (fun d => d.parameters.length) = some 3 := by decide +kernel
theorem fl_X11_layEquation_17 : Cond.fieldLink RX11 17 (TX11 8).1 (TX11 8).2.1 (TX11 8).2.2.1 ∈ wsX11_layEquation := List.mem_of_getElem? (i := 1) rfl
theorem inn_X11_layEquation_11 : ∀ w ∈ wsX110, w ∈ wsX11_layEquation := fun _ h => List.mem_cons_of_mem _ (List.mem_append_right _ h)
theorem fl_X11_layEquation_32 : Cond.fieldLink RX11 32 (TX11 15).1 (TX11 15).2.1 (TX11 15).2.2.1 ∈ wsX11_layEquation := List.mem_of_getElem? (i := 2) rfl
theorem fl_X11_layEquation_189 : Cond.fieldLink RX11 189 (TX11 19).1 (TX11 19).2.1 (TX11 19).2.2.1 ∈ wsX11_layEquation := List.mem_of_getElem? (i := 3) rfl
abbrev rm_X11_layEquation : Room := { frames := 1, cells := 0, slots := 0, locals := 22 }
set_option maxHeartbeats 4000000 in
set_option maxRecDepth 100000 in
theorem k_X11_layEquation (l : Launch) {G : va_G} {cy : Nat → ClassId} {ws0 : va_W} {b aM : Nat} {I : Nat → Int} {ad : Nat → Nat} {me : Int → Int} {le : Int → Int} {ru : Int → Int} {so : Int → Int} {d : Int → Int} {T : List Int} (r x y : Int) (h_mo : ws0[b]? = some (aM, mO I ad)) (h_da : ws0[b + 2]? = some (ad 8, aI cy 1111 d)) (h_me : ws0[b + 14]? = some (ad 15, aI cy 38400 me)) (h_le : ws0[b + 15]? = some (ad 16, aI cy 6400 le)) (h_ru : ws0[b + 16]? = some (ad 17, aI cy 6400 ru)) (h_so : ws0[b + 17]? = some (ad 18, aI cy 4 so)) (hD : DW d T) (hr : 0 ≤ r ∧ r < d 2) (hl0 : 0 ≤ I 19 ∧ I 19 < 6400) (h0 : d (5 + 6 * r) = 0) (hx : 1 ≤ x ∧ x ≤ d 0) (hy : 1 ≤ y ∧ y ≤ d 0) : MV l yX11_layEquation wsX11_layEquation rm_X11_layEquation G cy [.ref aM, .int (zI r), .int (zI x), .int (zI y)] ws0 (fun u => ∃ (I2 : Nat → Int) (me2 le2 ru2 so2 : Int → Int), (okE d r x y = true ∧ I2 = va_up I 19 (I 19 + 1) ∧ le2 = uZ le (I 19) (kl d (r, x, y)) ∧ ru2 = uZ ru (I 19) r ∧ so2 = uZ so r (so r + 1) ∧ (∀ k : Int, 0 ≤ k → k < kl d (r, x, y) → me2 (6 * I 19 + k) = km d (r, x, y) k) ∧ (∀ j : Int, (j < 6 * I 19 ∨ 6 * I 19 + 6 ≤ j) → me2 j = me j) ∨ okE d r x y = false ∧ I2 = I ∧ me2 = me ∧ le2 = le ∧ ru2 = ru ∧ so2 = so) ∧ u[b]? = some (aM, mO I2 ad) ∧ u[b + 14]? = some (ad 15, aI cy 38400 me2) ∧ u[b + 15]? = some (ad 16, aI cy 6400 le2) ∧ u[b + 16]? = some (ad 17, aI cy 6400 ru2) ∧ u[b + 17]? = some (ad 18, aI cy 4 so2) ∧ Eqx ws0 u (fun j => j = b ∨ (b + 14 ≤ j ∧ j ≤ b + 17))) := by
  refine MV.of (own := RX11) (cc := cX11_layEquation) (nL := 8) (ret := none) (by decide) rfl rfl (Nat.le_of_ble_eq_true rfl) ?_
  intro p e s m below meth c A ls hin E h hl
  have hl : lv_has ls 8 [(0, .ref aM), (1, .int (zI r)), (2, .int (zI x)), (3, .int (zI y))] := hl
  have hE : Eqx ws0 ws0 (fun j => j = b ∨ (b + 14 ≤ j ∧ j ≤ b + 17)) := Eqx.rf
  have hn9 := hD.n
  have hr9 := hD.nr
  have hru : (1 ≤ d (6 + 6 * r) ∧ d (6 + 6 * r) ≤ 9) ∧ (1 ≤ d (7 + 6 * r) ∧ d (7 + 6 * r) ≤ 9) ∧ (1 ≤ d (8 + 6 * r) ∧ d (8 + 6 * r) ≤ 9) ∧ (-99 ≤ d (9 + 6 * r) ∧ d (9 + 6 * r) ≤ 99) ∧ (0 ≤ d (10 + 6 * r) ∧ d (10 + 6 * r) ≤ 1) := by
    rcases hD.rule hr.1 hr.2 with hh | hh
    · exact hh.2
    · exfalso; omega
  have hm1 := mul_b (a := d (6 + 6 * r)) (x := x) (A := 9) (X := 40) (by omega) (by omega)
  have hm2 := mul_b (a := d (7 + 6 * r)) (x := y) (A := 9) (X := 40) (by omega) (by omega)
  have hz9 : -1000 ≤ zE d r x y ∧ zE d r x y ≤ 1000 := tdiv_b (by omega)
  have htm : -1000 ≤ Int.tmod (d (6 + 6 * r) * x + d (7 + 6 * r) * y - d (9 + 6 * r)) (d (8 + 6 * r)) ∧ Int.tmod (d (6 + 6 * r) * x + d (7 + 6 * r) * y - d (9 + 6 * r)) (d (8 + 6 * r)) ≤ 1000 := by
    have h1 := Int.tmod_lt_of_pos (d (6 + 6 * r) * x + d (7 + 6 * r) * y - d (9 + 6 * r)) (show 0 < d (8 + 6 * r) by omega)
    have h2 := Int.lt_tmod_of_pos (d (6 + 6 * r) * x + d (7 + 6 * r) * y - d (9 + 6 * r)) (show 0 < d (8 + 6 * r) by omega)
    omega
  have hkl : kl d (r, x, y) = 3 := if_pos h0
  refine r_iload_n E 1 hl rfl dX11_layEquation_0 ?_
  refine r_callSI E h (As := [.int (zI r)]) (rest := []) (k_X11_rule l r) gX11_layEquation_X11_rule rfl hd_X11_rule (by decide) ⟨by decide, by decide⟩ hl.1 rfl (Nat.le_of_ble_eq_true rfl) dX11_layEquation_1 rfl (fun z_1 ws H locs hp h => ?_)
  obtain ⟨rfl, rfl⟩ := hp
  refine r_istore (lv' := [(4, .int (zI (5 + 6 * r))), (0, .ref aM), (1, .int (zI r)), (2, .int (zI x)), (3, .int (zI y))]) E hl dX11_layEquation_4 (by decide) rfl (fun ls hl => ?_)
  refine r_aload_n E 1 hl rfl dX11_layEquation_6 ?_
  refine r_get (v := .ref (ad 8)) E h h_mo rfl inn_X11_layEquation_11 8 (by decide) fl_X11_layEquation_17 rfl dX11_layEquation_7 ?_
  refine r_iload E 0 hl rfl dX11_layEquation_10 ?_
  refine r_iconst E dX11_layEquation_12 ?_
  refine r_iadd E dX11_layEquation_13 ?_
  refine r_iald E h h_da (by omega) (by decide) dX11_layEquation_14 ?_
  rw [show d ((5 + 6 * r) + 1) = d (6 + 6 * r) from (by rw [show (5 + 6 * r) + 1 = 6 + 6 * r by omega])]
  refine r_iload_n E 3 hl rfl dX11_layEquation_15 ?_
  refine r_imul E dX11_layEquation_16 ?_
  refine r_aload_n E 1 hl rfl dX11_layEquation_17 ?_
  refine r_get (v := .ref (ad 8)) E h h_mo rfl inn_X11_layEquation_11 8 (by decide) fl_X11_layEquation_17 rfl dX11_layEquation_18 ?_
  refine r_iload E 0 hl rfl dX11_layEquation_21 ?_
  refine r_iconst E dX11_layEquation_23 ?_
  refine r_iadd E dX11_layEquation_24 ?_
  refine r_iconst E dX11_layEquation_25 ?_
  refine r_iadd E dX11_layEquation_26 ?_
  refine r_iald E h h_da (by omega) (by decide) dX11_layEquation_27 ?_
  rw [show d (((5 + 6 * r) + 1) + 1) = d (7 + 6 * r) from (by rw [show ((5 + 6 * r) + 1) + 1 = 7 + 6 * r by omega])]
  refine r_iload_n E 4 hl rfl dX11_layEquation_28 ?_
  refine r_imul E dX11_layEquation_29 ?_
  refine r_iadd E dX11_layEquation_30 ?_
  refine r_aload_n E 1 hl rfl dX11_layEquation_31 ?_
  refine r_get (v := .ref (ad 8)) E h h_mo rfl inn_X11_layEquation_11 8 (by decide) fl_X11_layEquation_17 rfl dX11_layEquation_32 ?_
  refine r_iload E 0 hl rfl dX11_layEquation_35 ?_
  refine r_iconst E dX11_layEquation_37 ?_
  refine r_iadd E dX11_layEquation_38 ?_
  refine r_iald E h h_da (by omega) (by decide) dX11_layEquation_39 ?_
  rw [show d ((5 + 6 * r) + 4) = d (9 + 6 * r) from (by rw [show (5 + 6 * r) + 4 = 9 + 6 * r by omega])]
  refine r_isub E dX11_layEquation_40 ?_
  refine r_istore (lv' := [(5, .int (zI ((((d (6 + 6 * r)) * x) + ((d (7 + 6 * r)) * y)) - (d (9 + 6 * r))))), (4, .int (zI (5 + 6 * r))), (0, .ref aM), (1, .int (zI r)), (2, .int (zI x)), (3, .int (zI y))]) E hl dX11_layEquation_41 (by decide) rfl (fun ls hl => ?_)
  refine r_aload_n E 2 hl rfl dX11_layEquation_43 ?_
  refine r_get (v := .ref (ad 8)) E h h_mo rfl inn_X11_layEquation_11 8 (by decide) fl_X11_layEquation_17 rfl dX11_layEquation_44 ?_
  refine r_iload E 1 hl rfl dX11_layEquation_47 ?_
  refine r_iconst E dX11_layEquation_49 ?_
  refine r_iadd E dX11_layEquation_50 ?_
  refine r_iconst E dX11_layEquation_51 ?_
  refine r_iadd E dX11_layEquation_52 ?_
  refine r_iald E h h_da (by omega) (by decide) dX11_layEquation_53 ?_
  rw [show d (((5 + 6 * r) + 1) + 2) = d (8 + 6 * r) from (by rw [show ((5 + 6 * r) + 1) + 2 = 8 + 6 * r by omega])]
  refine r_istore (lv' := [(6, .int (zI (d (8 + 6 * r)))), (5, .int (zI ((((d (6 + 6 * r)) * x) + ((d (7 + 6 * r)) * y)) - (d (9 + 6 * r))))), (4, .int (zI (5 + 6 * r))), (0, .ref aM), (1, .int (zI r)), (2, .int (zI x)), (3, .int (zI y))]) E hl dX11_layEquation_54 (by decide) rfl (fun ls hl => ?_)
  refine r_iload E 1 hl rfl dX11_layEquation_56 ?_
  refine r_iload E 0 hl rfl dX11_layEquation_58 ?_
  refine r_idiv E dX11_layEquation_60 (by omega) (by omega) ?_
  rw [show Int.tdiv ((((d (6 + 6 * r)) * x) + ((d (7 + 6 * r)) * y)) - (d (9 + 6 * r))) (d (8 + 6 * r)) = zE d r x y from rfl]
  refine r_istore (lv' := [(7, .int (zI (zE d r x y))), (6, .int (zI (d (8 + 6 * r)))), (5, .int (zI ((((d (6 + 6 * r)) * x) + ((d (7 + 6 * r)) * y)) - (d (9 + 6 * r))))), (4, .int (zI (5 + 6 * r))), (0, .ref aM), (1, .int (zI r)), (2, .int (zI x)), (3, .int (zI y))]) E hl dX11_layEquation_61 (by decide) rfl (fun ls hl => ?_)
  refine r_iload E 2 hl rfl dX11_layEquation_63 ?_
  refine r_iload E 1 hl rfl dX11_layEquation_65 ?_
  refine r_irem E dX11_layEquation_67 (by omega) (by omega) ?_
  refine r_if_ne E 116 dX11_layEquation_68 (by decide) (by omega) (fun c_68 => ?_) (fun c_68 => ?_)
  · skip
    exact r_vret E h ⟨I, me, le, ru, so, Or.inr ⟨by
  by_cases hh : okE d r x y = true
  · exfalso
    obtain ⟨g1, g2, g3⟩ := okE_iff.mp hh
    omega
  · simpa using hh, rfl, rfl, rfl, rfl, rfl⟩, h_mo, h_me, h_le, h_ru, h_so, hE⟩ dX11_layEquation_116
  · skip
    refine r_iload E 0 hl rfl dX11_layEquation_71 ?_
    refine r_iconst E dX11_layEquation_73 ?_
    refine r_aload_n E 4 hl rfl dX11_layEquation_74 ?_
    refine r_get (v := .ref (ad 8)) E h h_mo rfl inn_X11_layEquation_11 8 (by decide) fl_X11_layEquation_17 rfl dX11_layEquation_75 ?_
    refine r_iconst E dX11_layEquation_78 ?_
    refine r_iald E h h_da (by omega) (by decide) dX11_layEquation_79 ?_
    refine r_callSI E h (As := [.int (zI (zE d r x y)), .int (zI 1), .int (zI (d 0))]) (rest := []) (k_X11_in l (zE d r x y) 1 (d 0) (by omega)) gX11_layEquation_X11_in rfl hd_X11_in (by decide) ⟨by decide, by decide⟩ hl.1 rfl (Nat.le_of_ble_eq_true rfl) dX11_layEquation_80 rfl (fun z_80 ws H locs hp h => ?_)
    obtain ⟨e_z_80, rfl⟩ := hp
    refine r_if_eq E 116 dX11_layEquation_83 (by decide) (by omega) (fun c_83 => ?_) (fun c_83 => ?_)
    · skip
      exact r_vret E h ⟨I, me, le, ru, so, Or.inr ⟨by
  by_cases hh : okE d r x y = true
  · exfalso
    obtain ⟨g1, g2, g3⟩ := okE_iff.mp hh
    omega
  · simpa using hh, rfl, rfl, rfl, rfl, rfl⟩, h_mo, h_me, h_le, h_ru, h_so, hE⟩ dX11_layEquation_116
    · skip
      refine r_aload_n E 4 hl rfl dX11_layEquation_86 ?_
      refine r_get (v := .ref (ad 8)) E h h_mo rfl inn_X11_layEquation_11 8 (by decide) fl_X11_layEquation_17 rfl dX11_layEquation_87 ?_
      refine r_iload E 3 hl rfl dX11_layEquation_90 ?_
      refine r_iconst E dX11_layEquation_92 ?_
      refine r_iadd E dX11_layEquation_93 ?_
      refine r_iald E h h_da (by omega) (by decide) dX11_layEquation_94 ?_
      rw [show d ((5 + 6 * r) + 5) = d (10 + 6 * r) from (by rw [show (5 + 6 * r) + 5 = 10 + 6 * r by omega])]
      refine r_iconst E dX11_layEquation_95 ?_
      refine r_icmp_ne E 117 dX11_layEquation_96 (by decide) (by omega) (fun c_96 => ?_) (fun c_96 => ?_)
      · skip
        have hok : okE d r x y = true := okE_iff.mpr ⟨by omega, by omega, by omega⟩
        refine r_aload_n E 4 hl rfl dX11_layEquation_117 ?_
        refine r_get (v := .ref (ad 15)) E h h_mo rfl inn_X11_layEquation_11 15 (by decide) fl_X11_layEquation_32 rfl dX11_layEquation_118 ?_
        refine r_bipush E dX11_layEquation_121 (by decide) ?_
        refine r_aload_n E 4 hl rfl dX11_layEquation_123 ?_
        refine r_get (v := .int (zI (I 19))) E h h_mo rfl inn_X11_layEquation_11 19 (by decide) fl_X11_layEquation_189 rfl dX11_layEquation_124 ?_
        refine r_imul E dX11_layEquation_127 ?_
        refine r_iload_n E 6 hl rfl dX11_layEquation_128 ?_
        refine r_iast E h h_me (by omega) (by decide) dX11_layEquation_129 (fun ws H locs h hu => ?_)
        have h_mo := hu.keep h_mo (by omega)
        have h_da := hu.keep h_da (by omega)
        have h_me : ws[b + 14]? = some (ad 15, aI cy 38400 (uZ me (6 * (I 19)) x)) := hu.1
        have h_le := hu.keep h_le (by omega)
        have h_ru := hu.keep h_ru (by omega)
        have h_so := hu.keep h_so (by omega)
        have hE := hE.tr (hu.eqx (by first | omega | (dsimp only <;> omega)))
        refine r_aload_n E 4 hl rfl dX11_layEquation_130 ?_
        refine r_get (v := .ref (ad 15)) E h h_mo rfl inn_X11_layEquation_11 15 (by decide) fl_X11_layEquation_32 rfl dX11_layEquation_131 ?_
        refine r_bipush E dX11_layEquation_134 (by decide) ?_
        refine r_aload_n E 4 hl rfl dX11_layEquation_136 ?_
        refine r_get (v := .int (zI (I 19))) E h h_mo rfl inn_X11_layEquation_11 19 (by decide) fl_X11_layEquation_189 rfl dX11_layEquation_137 ?_
        refine r_imul E dX11_layEquation_140 ?_
        refine r_iconst E dX11_layEquation_141 ?_
        refine r_iadd E dX11_layEquation_142 ?_
        refine r_iload_n E 7 hl rfl dX11_layEquation_143 ?_
        refine r_iast E h h_me (by omega) (by decide) dX11_layEquation_144 (fun ws H locs h hu => ?_)
        have h_mo := hu.keep h_mo (by omega)
        have h_da := hu.keep h_da (by omega)
        have h_me : ws[b + 14]? = some (ad 15, aI cy 38400 (uZ (uZ me (6 * (I 19)) x) ((6 * (I 19)) + 1) y)) := hu.1
        have h_le := hu.keep h_le (by omega)
        have h_ru := hu.keep h_ru (by omega)
        have h_so := hu.keep h_so (by omega)
        have hE := hE.tr (hu.eqx (by first | omega | (dsimp only <;> omega)))
        refine r_aload_n E 4 hl rfl dX11_layEquation_145 ?_
        refine r_get (v := .ref (ad 15)) E h h_mo rfl inn_X11_layEquation_11 15 (by decide) fl_X11_layEquation_32 rfl dX11_layEquation_146 ?_
        refine r_bipush E dX11_layEquation_149 (by decide) ?_
        refine r_aload_n E 4 hl rfl dX11_layEquation_151 ?_
        refine r_get (v := .int (zI (I 19))) E h h_mo rfl inn_X11_layEquation_11 19 (by decide) fl_X11_layEquation_189 rfl dX11_layEquation_152 ?_
        refine r_imul E dX11_layEquation_155 ?_
        refine r_iconst E dX11_layEquation_156 ?_
        refine r_iadd E dX11_layEquation_157 ?_
        refine r_iload E 0 hl rfl dX11_layEquation_158 ?_
        refine r_iast E h h_me (by omega) (by decide) dX11_layEquation_160 (fun ws H locs h hu => ?_)
        have h_mo := hu.keep h_mo (by omega)
        have h_da := hu.keep h_da (by omega)
        have h_me : ws[b + 14]? = some (ad 15, aI cy 38400 (uZ (uZ (uZ me (6 * (I 19)) x) ((6 * (I 19)) + 1) y) ((6 * (I 19)) + 2) (zE d r x y))) := hu.1
        have h_le := hu.keep h_le (by omega)
        have h_ru := hu.keep h_ru (by omega)
        have h_so := hu.keep h_so (by omega)
        have hE := hE.tr (hu.eqx (by first | omega | (dsimp only <;> omega)))
        refine r_aload_n E 4 hl rfl dX11_layEquation_161 ?_
        refine r_iload_n E 5 hl rfl dX11_layEquation_162 ?_
        refine r_iconst E dX11_layEquation_163 ?_
        refine r_callVV E h (As := [.int (zI r), .int (zI 3)]) (rest := []) (k_X11_lay l r 3 h_mo h_le h_ru h_so (by omega) (by omega)) h_mo rfl gX11_layEquation_X11_lay rfl hd_X11_lay (by decide) ⟨by decide, by decide⟩ hl.1 rfl (Nat.le_of_ble_eq_true rfl) dX11_layEquation_164 rfl (fun ws H locs hp h => ?_)
        obtain ⟨h_mo, h_le, h_ru, h_so, hf⟩ := hp
        have h_da := hf.at h_da (by first | omega | (dsimp only <;> omega))
        have h_me := hf.at h_me (by first | omega | (dsimp only <;> omega))
        have hE := hE.tr (hf.wk (fun j hj => by first | omega | (dsimp only at hj ⊢ <;> omega)))
        exact r_vret E h ⟨_, _, _, _, _, Or.inl ⟨hok, rfl, by rw [hkl], rfl, rfl, fun k k0 k1 => by
  rw [hkl] at k1
  unfold km
  rw [if_pos h0]
  rcases (by omega : k = 0 ∨ k = 1 ∨ k = 2) with rfl | rfl | rfl
  · rw [uZ_n (by omega), uZ_n (by omega), Int.add_zero, uZ_s]; rfl
  · rw [uZ_n (by omega), uZ_s]; rfl
  · rw [uZ_s]; rfl, fun j hj => by rw [uZ_n (by omega), uZ_n (by omega), uZ_n (by omega)]⟩, h_mo, h_me, h_le, h_ru, h_so, hE⟩ dX11_layEquation_167
      · skip
        refine r_iload_n E 6 hl rfl dX11_layEquation_99 ?_
        refine r_iload_n E 7 hl rfl dX11_layEquation_100 ?_
        refine r_icmp_eq E 116 dX11_layEquation_101 (by decide) (by omega) (fun c_101 => ?_) (fun c_101 => ?_)
        · skip
          exact r_vret E h ⟨I, me, le, ru, so, Or.inr ⟨by
  by_cases hh : okE d r x y = true
  · exfalso
    obtain ⟨g1, g2, g3⟩ := okE_iff.mp hh
    omega
  · simpa using hh, rfl, rfl, rfl, rfl, rfl⟩, h_mo, h_me, h_le, h_ru, h_so, hE⟩ dX11_layEquation_116
        · skip
          refine r_iload_n E 6 hl rfl dX11_layEquation_104 ?_
          refine r_iload E 0 hl rfl dX11_layEquation_105 ?_
          refine r_icmp_eq E 116 dX11_layEquation_107 (by decide) (by omega) (fun c_107 => ?_) (fun c_107 => ?_)
          · skip
            exact r_vret E h ⟨I, me, le, ru, so, Or.inr ⟨by
  by_cases hh : okE d r x y = true
  · exfalso
    obtain ⟨g1, g2, g3⟩ := okE_iff.mp hh
    omega
  · simpa using hh, rfl, rfl, rfl, rfl, rfl⟩, h_mo, h_me, h_le, h_ru, h_so, hE⟩ dX11_layEquation_116
          · skip
            refine r_iload_n E 7 hl rfl dX11_layEquation_110 ?_
            refine r_iload E 0 hl rfl dX11_layEquation_111 ?_
            refine r_icmp_ne E 117 dX11_layEquation_113 (by decide) (by omega) (fun c_113 => ?_) (fun c_113 => ?_)
            · skip
              have hok : okE d r x y = true := okE_iff.mpr ⟨by omega, by omega, by omega⟩
              refine r_aload_n E 4 hl rfl dX11_layEquation_117 ?_
              refine r_get (v := .ref (ad 15)) E h h_mo rfl inn_X11_layEquation_11 15 (by decide) fl_X11_layEquation_32 rfl dX11_layEquation_118 ?_
              refine r_bipush E dX11_layEquation_121 (by decide) ?_
              refine r_aload_n E 4 hl rfl dX11_layEquation_123 ?_
              refine r_get (v := .int (zI (I 19))) E h h_mo rfl inn_X11_layEquation_11 19 (by decide) fl_X11_layEquation_189 rfl dX11_layEquation_124 ?_
              refine r_imul E dX11_layEquation_127 ?_
              refine r_iload_n E 6 hl rfl dX11_layEquation_128 ?_
              refine r_iast E h h_me (by omega) (by decide) dX11_layEquation_129 (fun ws H locs h hu => ?_)
              have h_mo := hu.keep h_mo (by omega)
              have h_da := hu.keep h_da (by omega)
              have h_me : ws[b + 14]? = some (ad 15, aI cy 38400 (uZ me (6 * (I 19)) x)) := hu.1
              have h_le := hu.keep h_le (by omega)
              have h_ru := hu.keep h_ru (by omega)
              have h_so := hu.keep h_so (by omega)
              have hE := hE.tr (hu.eqx (by first | omega | (dsimp only <;> omega)))
              refine r_aload_n E 4 hl rfl dX11_layEquation_130 ?_
              refine r_get (v := .ref (ad 15)) E h h_mo rfl inn_X11_layEquation_11 15 (by decide) fl_X11_layEquation_32 rfl dX11_layEquation_131 ?_
              refine r_bipush E dX11_layEquation_134 (by decide) ?_
              refine r_aload_n E 4 hl rfl dX11_layEquation_136 ?_
              refine r_get (v := .int (zI (I 19))) E h h_mo rfl inn_X11_layEquation_11 19 (by decide) fl_X11_layEquation_189 rfl dX11_layEquation_137 ?_
              refine r_imul E dX11_layEquation_140 ?_
              refine r_iconst E dX11_layEquation_141 ?_
              refine r_iadd E dX11_layEquation_142 ?_
              refine r_iload_n E 7 hl rfl dX11_layEquation_143 ?_
              refine r_iast E h h_me (by omega) (by decide) dX11_layEquation_144 (fun ws H locs h hu => ?_)
              have h_mo := hu.keep h_mo (by omega)
              have h_da := hu.keep h_da (by omega)
              have h_me : ws[b + 14]? = some (ad 15, aI cy 38400 (uZ (uZ me (6 * (I 19)) x) ((6 * (I 19)) + 1) y)) := hu.1
              have h_le := hu.keep h_le (by omega)
              have h_ru := hu.keep h_ru (by omega)
              have h_so := hu.keep h_so (by omega)
              have hE := hE.tr (hu.eqx (by first | omega | (dsimp only <;> omega)))
              refine r_aload_n E 4 hl rfl dX11_layEquation_145 ?_
              refine r_get (v := .ref (ad 15)) E h h_mo rfl inn_X11_layEquation_11 15 (by decide) fl_X11_layEquation_32 rfl dX11_layEquation_146 ?_
              refine r_bipush E dX11_layEquation_149 (by decide) ?_
              refine r_aload_n E 4 hl rfl dX11_layEquation_151 ?_
              refine r_get (v := .int (zI (I 19))) E h h_mo rfl inn_X11_layEquation_11 19 (by decide) fl_X11_layEquation_189 rfl dX11_layEquation_152 ?_
              refine r_imul E dX11_layEquation_155 ?_
              refine r_iconst E dX11_layEquation_156 ?_
              refine r_iadd E dX11_layEquation_157 ?_
              refine r_iload E 0 hl rfl dX11_layEquation_158 ?_
              refine r_iast E h h_me (by omega) (by decide) dX11_layEquation_160 (fun ws H locs h hu => ?_)
              have h_mo := hu.keep h_mo (by omega)
              have h_da := hu.keep h_da (by omega)
              have h_me : ws[b + 14]? = some (ad 15, aI cy 38400 (uZ (uZ (uZ me (6 * (I 19)) x) ((6 * (I 19)) + 1) y) ((6 * (I 19)) + 2) (zE d r x y))) := hu.1
              have h_le := hu.keep h_le (by omega)
              have h_ru := hu.keep h_ru (by omega)
              have h_so := hu.keep h_so (by omega)
              have hE := hE.tr (hu.eqx (by first | omega | (dsimp only <;> omega)))
              refine r_aload_n E 4 hl rfl dX11_layEquation_161 ?_
              refine r_iload_n E 5 hl rfl dX11_layEquation_162 ?_
              refine r_iconst E dX11_layEquation_163 ?_
              refine r_callVV E h (As := [.int (zI r), .int (zI 3)]) (rest := []) (k_X11_lay l r 3 h_mo h_le h_ru h_so (by omega) (by omega)) h_mo rfl gX11_layEquation_X11_lay rfl hd_X11_lay (by decide) ⟨by decide, by decide⟩ hl.1 rfl (Nat.le_of_ble_eq_true rfl) dX11_layEquation_164 rfl (fun ws H locs hp h => ?_)
              obtain ⟨h_mo, h_le, h_ru, h_so, hf⟩ := hp
              have h_da := hf.at h_da (by first | omega | (dsimp only <;> omega))
              have h_me := hf.at h_me (by first | omega | (dsimp only <;> omega))
              have hE := hE.tr (hf.wk (fun j hj => by first | omega | (dsimp only at hj ⊢ <;> omega)))
              exact r_vret E h ⟨_, _, _, _, _, Or.inl ⟨hok, rfl, by rw [hkl], rfl, rfl, fun k k0 k1 => by
  rw [hkl] at k1
  unfold km
  rw [if_pos h0]
  rcases (by omega : k = 0 ∨ k = 1 ∨ k = 2) with rfl | rfl | rfl
  · rw [uZ_n (by omega), uZ_n (by omega), Int.add_zero, uZ_s]; rfl
  · rw [uZ_n (by omega), uZ_s]; rfl
  · rw [uZ_s]; rfl, fun j hj => by rw [uZ_n (by omega), uZ_n (by omega), uZ_n (by omega)]⟩, h_mo, h_me, h_le, h_ru, h_so, hE⟩ dX11_layEquation_167
            · skip
              exact r_vret E h ⟨I, me, le, ru, so, Or.inr ⟨by
  by_cases hh : okE d r x y = true
  · exfalso
    obtain ⟨g1, g2, g3⟩ := okE_iff.mp hh
    omega
  · simpa using hh, rfl, rfl, rfl, rfl, rfl⟩, h_mo, h_me, h_le, h_ru, h_so, hE⟩ dX11_layEquation_116
theorem hd_X11_layProgression : yX11_layProgression.cls = RX11 ∧ yX11_layProgression.cls ≠ "java/lang/invoke/MethodHandle" ∧ yX11_layProgression.cls ≠ "java/lang/invoke/VarHandle" ∧ (parseMethodDescriptor yX11_layProgression.desc).map (fun d => d.parameters.length) = some 3 := by decide +kernel
theorem fl_X11_layProgression_17 : Cond.fieldLink RX11 17 (TX11 8).1 (TX11 8).2.1 (TX11 8).2.2.1 ∈ wsX11_layProgression := List.mem_of_getElem? (i := 1) rfl
theorem inn_X11_layProgression_11 : ∀ w ∈ wsX110, w ∈ wsX11_layProgression := fun _ h => List.mem_cons_of_mem _ (List.mem_append_right _ h)
theorem fl_X11_layProgression_32 : Cond.fieldLink RX11 32 (TX11 15).1 (TX11 15).2.1 (TX11 15).2.2.1 ∈ wsX11_layProgression := List.mem_of_getElem? (i := 2) rfl
theorem fl_X11_layProgression_189 : Cond.fieldLink RX11 189 (TX11 19).1 (TX11 19).2.1 (TX11 19).2.2.1 ∈ wsX11_layProgression := List.mem_of_getElem? (i := 3) rfl
abbrev rm_X11_layProgression : Room := { frames := 1, cells := 0, slots := 0, locals := 22 }
set_option maxHeartbeats 4000000 in
set_option maxRecDepth 100000 in
theorem k_X11_layProgression (l : Launch) {G : va_G} {cy : Nat → ClassId} {ws0 : va_W} {b aM : Nat} {I : Nat → Int} {ad : Nat → Nat} {me : Int → Int} {le : Int → Int} {ru : Int → Int} {so : Int → Int} {d : Int → Int} {T : List Int} (r x y : Int) (h_mo : ws0[b]? = some (aM, mO I ad)) (h_da : ws0[b + 2]? = some (ad 8, aI cy 1111 d)) (h_me : ws0[b + 14]? = some (ad 15, aI cy 38400 me)) (h_le : ws0[b + 15]? = some (ad 16, aI cy 6400 le)) (h_ru : ws0[b + 16]? = some (ad 17, aI cy 6400 ru)) (h_so : ws0[b + 17]? = some (ad 18, aI cy 4 so)) (hD : DW d T) (hr : 0 ≤ r ∧ r < d 2) (hl0 : 0 ≤ I 19 ∧ I 19 < 6400) (h0 : d (5 + 6 * r) ≠ 0) (hx : 1 ≤ x ∧ x < y) (hy : y ≤ d 0) : MV l yX11_layProgression wsX11_layProgression rm_X11_layProgression G cy [.ref aM, .int (zI r), .int (zI x), .int (zI (y - x))] ws0 (fun u => ∃ (I2 : Nat → Int) (me2 le2 ru2 so2 : Int → Int), (okP d r x y = true ∧ I2 = va_up I 19 (I 19 + 1) ∧ le2 = uZ le (I 19) (kl d (r, x, y)) ∧ ru2 = uZ ru (I 19) r ∧ so2 = uZ so r (so r + 1) ∧ (∀ k : Int, 0 ≤ k → k < kl d (r, x, y) → me2 (6 * I 19 + k) = km d (r, x, y) k) ∧ (∀ j : Int, (j < 6 * I 19 ∨ 6 * I 19 + 6 ≤ j) → me2 j = me j) ∨ okP d r x y = false ∧ I2 = I ∧ me2 = me ∧ le2 = le ∧ ru2 = ru ∧ so2 = so) ∧ u[b]? = some (aM, mO I2 ad) ∧ u[b + 14]? = some (ad 15, aI cy 38400 me2) ∧ u[b + 15]? = some (ad 16, aI cy 6400 le2) ∧ u[b + 16]? = some (ad 17, aI cy 6400 ru2) ∧ u[b + 17]? = some (ad 18, aI cy 4 so2) ∧ Eqx ws0 u (fun j => j = b ∨ (b + 14 ≤ j ∧ j ≤ b + 17))) := by
  refine MV.of (own := RX11) (cc := cX11_layProgression) (nL := 6) (ret := none) (by decide) rfl rfl (Nat.le_of_ble_eq_true rfl) ?_
  intro p e s m below meth c A ls hin E h hl
  have hl : lv_has ls 6 [(0, .ref aM), (1, .int (zI r)), (2, .int (zI x)), (3, .int (zI (y - x)))] := hl
  have hE : Eqx ws0 ws0 (fun j => j = b ∨ (b + 14 ≤ j ∧ j ≤ b + 17)) := Eqx.rf
  have hn9 := hD.n
  have hr9 := hD.nr
  have hru : 3 ≤ d (5 + 6 * r) ∧ d (5 + 6 * r) ≤ 6 := by
    rcases hD.rule hr.1 hr.2 with hh | hh
    · exfalso; exact h0 hh.1
    · exact hh
  have hm1 := mul_b (a := y - x) (x := d (5 + 6 * r) - 1) (A := 40) (X := 6) (by omega) (by omega)
  have hkl : kl d (r, x, y) = d (5 + 6 * r) := if_neg h0
  refine r_aload_n E 0 hl rfl dX11_layProgression_0 ?_
  refine r_get (v := .ref (ad 8)) E h h_mo rfl inn_X11_layProgression_11 8 (by decide) fl_X11_layProgression_17 rfl dX11_layProgression_1 ?_
  refine r_iload_n E 1 hl rfl dX11_layProgression_4 ?_
  refine r_callSI E h (As := [.int (zI r)]) (rest := [.ref (ad 8)]) (k_X11_rule l r) gX11_layProgression_X11_rule rfl hd_X11_rule (by decide) ⟨by decide, by decide⟩ hl.1 rfl (Nat.le_of_ble_eq_true rfl) dX11_layProgression_5 rfl (fun z_5 ws H locs hp h => ?_)
  obtain ⟨rfl, rfl⟩ := hp
  refine r_iald E h h_da (by omega) (by decide) dX11_layProgression_8 ?_
  refine r_istore (lv' := [(4, .int (zI (d (5 + 6 * r)))), (0, .ref aM), (1, .int (zI r)), (2, .int (zI x)), (3, .int (zI (y - x)))]) E hl dX11_layProgression_9 (by decide) rfl (fun ls hl => ?_)
  refine r_iload_n E 3 hl rfl dX11_layProgression_11 ?_
  refine r_iload_n E 4 hl rfl dX11_layProgression_12 ?_
  refine r_iload E 0 hl rfl dX11_layProgression_13 ?_
  refine r_iconst E dX11_layProgression_15 ?_
  refine r_isub E dX11_layProgression_16 ?_
  refine r_imul E dX11_layProgression_17 ?_
  refine r_iadd E dX11_layProgression_18 ?_
  refine r_aload_n E 1 hl rfl dX11_layProgression_19 ?_
  refine r_get (v := .ref (ad 8)) E h h_mo rfl inn_X11_layProgression_11 8 (by decide) fl_X11_layProgression_17 rfl dX11_layProgression_20 ?_
  refine r_iconst E dX11_layProgression_23 ?_
  refine r_iald E h h_da (by omega) (by decide) dX11_layProgression_24 ?_
  refine r_icmp_le E 29 dX11_layProgression_25 (by decide) (by omega) (fun c_25 => ?_) (fun c_25 => ?_)
  · skip
    have hok : okP d r x y = true := okP_iff.mpr ⟨by omega, by omega⟩
    refine r_iconst E dX11_layProgression_29 ?_
    refine r_istore (lv' := [(5, .int (zI 0)), (4, .int (zI (d (5 + 6 * r)))), (0, .ref aM), (1, .int (zI r)), (2, .int (zI x)), (3, .int (zI (y - x)))]) E hl dX11_layProgression_30 (by decide) rfl (fun ls hl => ?_)
    refine r_loop (fun n H locs ls => ∃ (ws : va_W) (k : Int) (me3 : Int → Int), n = (6 - k).toNat ∧ (0 ≤ k ∧ k ≤ d (5 + 6 * r)) ∧ (∀ j : Int, 0 ≤ j → j < k → me3 (6 * I 19 + j) = x + (y - x) * j) ∧ (∀ j : Int, (j < 6 * I 19 ∨ 6 * I 19 + 6 ≤ j) → me3 j = me j) ∧ Hp G ws A s.heap H locs ∧ (ws[b]? = some (aM, mO I ad)) ∧ (ws[b + 2]? = some (ad 8, aI cy 1111 d)) ∧ (ws[b + 14]? = some (ad 15, aI cy 38400 me3)) ∧ (ws[b + 15]? = some (ad 16, aI cy 6400 le)) ∧ (ws[b + 16]? = some (ad 17, aI cy 6400 ru)) ∧ (ws[b + 17]? = some (ad 18, aI cy 4 so)) ∧ Eqx ws0 ws (fun j => j = b ∨ (b + 14 ≤ j ∧ j ≤ b + 17)) ∧ lv_has ls 6 [(0, .ref aM), (1, .int (zI r)), (2, .int (zI x)), (3, .int (zI (y - x))), (4, .int (zI (d (5 + 6 * r)))), (5, .int (zI k))]) _ ⟨ws0, 0, me, rfl, (by omega), (fun j h0 h1 => absurd h1 (by omega)), (fun j _ => rfl), h, h_mo, h_da, h_me, h_le, h_ru, h_so, hE, lv_sub hl [2, 3, 4, 5, 1, 0] rfl⟩ ?_
    rintro n H locs ls ⟨ws, k, me3, hn, i1, i2, i3, h, h_mo, h_da, h_me, h_le, h_ru, h_so, hE, hl⟩ ih_32
    refine r_iload E 5 hl rfl dX11_layProgression_32 ?_
    refine r_iload E 4 hl rfl dX11_layProgression_34 ?_
    refine r_icmp_ge E 66 dX11_layProgression_36 (by decide) (by omega) (fun c_36 => ?_) (fun c_36 => ?_)
    · skip
      refine r_aload_n E 0 hl rfl dX11_layProgression_66 ?_
      refine r_iload_n E 1 hl rfl dX11_layProgression_67 ?_
      refine r_iload E 4 hl rfl dX11_layProgression_68 ?_
      refine r_callVV E h (As := [.int (zI r), .int (zI (d (5 + 6 * r)))]) (rest := []) (k_X11_lay l r (d (5 + 6 * r)) h_mo h_le h_ru h_so (by omega) (by omega)) h_mo rfl gX11_layProgression_X11_lay rfl hd_X11_lay (by decide) ⟨by decide, by decide⟩ hl.1 rfl (Nat.le_of_ble_eq_true rfl) dX11_layProgression_70 rfl (fun ws H locs hp h => ?_)
      obtain ⟨h_mo, h_le, h_ru, h_so, hf⟩ := hp
      have h_da := hf.at h_da (by first | omega | (dsimp only <;> omega))
      have h_me := hf.at h_me (by first | omega | (dsimp only <;> omega))
      have hE := hE.tr (hf.wk (fun j hj => by first | omega | (dsimp only at hj ⊢ <;> omega)))
      exact r_vret E h ⟨_, _, _, _, _, Or.inl ⟨hok, rfl, by rw [hkl], rfl, rfl, fun k9 k0 k1 => by
      rw [hkl] at k1
      unfold km
      rw [if_neg h0]
      exact i2 k9 k0 (by omega), i3⟩, h_mo, h_me, h_le, h_ru, h_so, hE⟩ dX11_layProgression_73
    · skip
      have hm2 := mul_b (a := y - x) (x := k) (A := 40) (X := 6) (by omega) (by omega)
      refine r_aload_n E 0 hl rfl dX11_layProgression_39 ?_
      refine r_get (v := .ref (ad 15)) E h h_mo rfl inn_X11_layProgression_11 15 (by decide) fl_X11_layProgression_32 rfl dX11_layProgression_40 ?_
      refine r_bipush E dX11_layProgression_43 (by decide) ?_
      refine r_aload_n E 0 hl rfl dX11_layProgression_45 ?_
      refine r_get (v := .int (zI (I 19))) E h h_mo rfl inn_X11_layProgression_11 19 (by decide) fl_X11_layProgression_189 rfl dX11_layProgression_46 ?_
      refine r_imul E dX11_layProgression_49 ?_
      refine r_iload E 5 hl rfl dX11_layProgression_50 ?_
      refine r_iadd E dX11_layProgression_52 ?_
      refine r_iload_n E 2 hl rfl dX11_layProgression_53 ?_
      refine r_iload_n E 3 hl rfl dX11_layProgression_54 ?_
      refine r_iload E 5 hl rfl dX11_layProgression_55 ?_
      refine r_imul E dX11_layProgression_57 ?_
      refine r_iadd E dX11_layProgression_58 ?_
      refine r_iast E h h_me (by omega) (by decide) dX11_layProgression_59 (fun ws H locs h hu => ?_)
      have h_mo := hu.keep h_mo (by omega)
      have h_da := hu.keep h_da (by omega)
      have h_me : ws[b + 14]? = some (ad 15, aI cy 38400 (uZ me3 ((6 * (I 19)) + k) (x + ((y - x) * k)))) := hu.1
      have h_le := hu.keep h_le (by omega)
      have h_ru := hu.keep h_ru (by omega)
      have h_so := hu.keep h_so (by omega)
      have hE := hE.tr (hu.eqx (by first | omega | (dsimp only <;> omega)))
      refine r_iinc (lv' := [(5, .int (zI (k + 1))), (0, .ref aM), (1, .int (zI r)), (2, .int (zI x)), (3, .int (zI (y - x))), (4, .int (zI (d (5 + 6 * r))))]) E 5 hl rfl dX11_layProgression_60 (by decide) rfl (fun ls hl => ?_)
      refine r_goto E 32 dX11_layProgression_63 (by decide) ?_
      exact ih_32 _ H locs ls (by omega) ⟨ws, (k + 1), (uZ me3 ((6 * (I 19)) + k) (x + ((y - x) * k))), rfl, (by omega), (fun j h0 h1 => by
      by_cases e : j = k
      · subst e; exact uZ_s
      · rw [uZ_n (by omega)]; exact i2 j h0 (by omega)), (fun j hj => by rw [uZ_n (by omega)]; exact i3 j hj), h, h_mo, h_da, h_me, h_le, h_ru, h_so, hE, lv_sub hl [1, 2, 3, 4, 5, 0] rfl⟩
  · skip
    exact r_vret E h ⟨I, me, le, ru, so, Or.inr ⟨by
      by_cases hh : okP d r x y = true
      · exfalso
        have g2 := (okP_iff.mp hh).2
        omega
      · simpa using hh, rfl, rfl, rfl, rfl, rfl⟩, h_mo, h_me, h_le, h_ru, h_so, hE⟩ dX11_layProgression_28
