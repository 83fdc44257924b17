/-- the first solutions of the table -/
def TE (d : Int → Int) (KS : List Ky) (se : Int → Int64) (wr : Int → Int) : Prop := ∀ (s : Nat) (q : Ky), KS[s]? = some q → se s = bs (fun x => has d q x) ∧ wr s = 41 * q.1 + big d q
theorem TE.app {d : Int → Int} {KS : List Ky} {se : Int → Int64} {wr : Int → Int} (h : TE d KS se wr) {q : Ky} {v : Int64} {w n : Int} (hn : n = KS.length) (hv : v = bs (fun x => has d q x)) (hw : w = 41 * q.1 + big d q) : TE d (KS ++ [q]) (uZ se n v) (uZ wr n w) := by
  intro s q2 hs
  subst hn
  by_cases c : s < KS.length
  · rw [List.getElem?_append_left c] at hs
    rw [uZ_n (by omega), uZ_n (by omega)]
    exact h s q2 hs
  · have hl := (List.getElem?_eq_some_iff.mp hs).1
    simp only [List.length_append, List.length_cons, List.length_nil] at hl
    have e : s = KS.length := by omega
    subst e
    rw [List.getElem?_append_right (Nat.le_refl _)] at hs
    simp only [Nat.sub_self, List.getElem?_cons_zero, Option.some.injEq] at hs
    subst hs
    rw [uZ_s, uZ_s]
    exact ⟨hv, hw⟩
/-- the solutions laid before the pair x, y of the rule r -/
def lE (d : Int → Int) (r : Int) (KS : List Ky) (x y : Int) : List Ky := KS ++ kX d r (x - 1).toNat ++ kY d r x (y - 1).toNat
theorem lE_ok {d : Int → Int} {r x y : Int} {KS : List Ky} (hy : 1 ≤ y) (h : okK d r x y = true) : lE d r KS x (y + 1) = lE d r KS x y ++ [(r, x, y)] := by
  unfold lE
  rw [show (y + 1 - 1).toNat = (y - 1).toNat + 1 by omega, kY_s, show (((y - 1).toNat : Nat) : Int) + 1 = y by omega, if_pos h]
  simp only [List.append_assoc]
theorem lE_no {d : Int → Int} {r x y : Int} {KS : List Ky} (hy : 1 ≤ y) (h : ¬ okK d r x y = true) : lE d r KS x (y + 1) = lE d r KS x y := by
  unfold lE
  rw [show (y + 1 - 1).toNat = (y - 1).toNat + 1 by omega, kY_s, show (((y - 1).toNat : Nat) : Int) + 1 = y by omega, if_neg h, List.append_nil]
theorem lE_0 {d : Int → Int} {r : Int} {KS : List Ky} : lE d r KS 1 1 = KS := by
  unfold lE
  simp [kX, kY]
theorem lE_end {d : Int → Int} {r x : Int} {KS : List Ky} (hn : 0 ≤ d 0) (h : x = d 0 + 1) : lE d r KS x 1 = KS ++ kX d r (d 0).toNat := by
  unfold lE
  rw [h, show (d 0 + 1 - 1).toNat = (d 0).toNat by omega]
  simp [kY]
theorem lE_row {d : Int → Int} {r x : Int} {KS : List Ky} (hn : 0 ≤ d 0) (h : 1 ≤ x) : lE d r KS x (d 0 + 1) = lE d r KS (x + 1) 1 := by
  unfold lE
  rw [show (x + 1 - 1).toNat = (x - 1).toNat + 1 by omega, show (d 0 + 1 - 1).toNat = (d 0).toNat by omega]
  have e : kX d r ((x - 1).toNat + 1) = kX d r (x - 1).toNat ++ kY d r (((x - 1).toNat : Int) + 1) (d 0).toNat := rfl
  rw [e, show (((x - 1).toNat : Nat) : Int) + 1 = x by omega, show ((1 : Int) - 1).toNat = 0 by omega]
  simp [kY]
theorem lE_len {d : Int → Int} {r x y : Int} {KS : List Ky} (hn : (d 0).toNat ≤ 40) (hx : 1 ≤ x) (hy : 1 ≤ y) : ((lE d r KS x y).length : Int) ≤ KS.length + 40 * (x - 1) + (y - 1) := by
  have h1 := kX_len (d := d) (r := r) hn (x - 1).toNat
  have h2 := kY_len (d := d) (r := r) (x := x) (y - 1).toNat
  unfold lE
  simp only [List.length_append]
  omega
theorem has_eq {d : Int → Int} {r x y v : Int} (h0 : d (5 + 6 * r) = 0) : has d (r, x, y) v = true ↔ v = x ∨ v = y ∨ v = zE d r x y := by
  rw [has_iff]
  have hk : kl d (r, x, y) = 3 := if_pos h0
  have hm : ∀ k : Int, km d (r, x, y) k = if k = 0 then x else if k = 1 then y else zE d r x y := fun k => if_pos h0
  rw [hk]
  constructor
  · rintro ⟨k, a, b, e⟩
    rw [hm] at e
    by_cases c : k = 0
    · rw [if_pos c] at e; exact Or.inl e.symm
    · rw [if_neg c] at e
      by_cases c2 : k = 1
      · rw [if_pos c2] at e; exact Or.inr (Or.inl e.symm)
      · rw [if_neg c2] at e; exact Or.inr (Or.inr e.symm)
  · rintro (e | e | e)
    · exact ⟨0, by omega, by omega, by rw [hm, if_pos rfl, e]⟩
    · exact ⟨1, by omega, by omega, by rw [hm, if_neg (by omega), if_pos rfl, e]⟩
    · exact ⟨2, by omega, by omega, by rw [hm, if_neg (by omega), if_neg (by omega), e]⟩
theorem set_eq {d : Int → Int} {r x y z : Int} (h0 : d (5 + 6 * r) = 0) (hz : z = zE d r x y) : (bs (fun v => decide (v = x)) ||| bs (fun v => decide (v = y))) ||| bs (fun v => decide (v = z)) = bs (fun v => has d (r, x, y) v) := by
  rw [bs_or, bs_or]
  apply bs_congr
  intro v _ _
  by_cases c : has d (r, x, y) v = true
  · rw [c]
    have := (has_eq h0).mp c
    rw [← hz] at this
    rcases this with e | e | e <;> simp [e]
  · have h2 : ¬ (v = x ∨ v = y ∨ v = z) := fun e => c ((has_eq h0).mpr (by rw [← hz]; exact e))
    have c2 : has d (r, x, y) v = false := by simpa using c
    rw [c2]
    have a1 : ¬ v = x := fun e => h2 (Or.inl e)
    have a2 : ¬ v = y := fun e => h2 (Or.inr (Or.inl e))
    have a3 : ¬ v = z := fun e => h2 (Or.inr (Or.inr e))
    simp [a1, a2, a3]
theorem big_eq {d : Int → Int} {r x y z m m2 : Int} (h0 : d (5 + 6 * r) = 0) (hz : z = zE d r x y) (h1 : m = y ∧ z ≤ y ∨ m = z ∧ y < z) (h2 : m2 = x ∧ m ≤ x ∨ m2 = m ∧ x < m) : m2 = big d (r, x, y) := by
  have hk : kl d (r, x, y) = 3 := if_pos h0
  have hm : ∀ k : Int, km d (r, x, y) k = if k = 0 then x else if k = 1 then y else zE d r x y := fun k => if_pos h0
  have hm0 : km d (r, x, y) 0 = x := by rw [hm, if_pos rfl]
  have hm1 : km d (r, x, y) 1 = y := by rw [hm, if_neg (by decide), if_pos rfl]
  have hm2 : km d (r, x, y) 2 = z := by rw [hm, if_neg (by decide), if_neg (by decide), hz]
  unfold big
  rw [hk]
  show m2 = bigN d (r, x, y) 2
  obtain ⟨⟨k, a, b, c⟩, h9⟩ := bigN_iff (d := d) (q := (r, x, y)) 2
  have g0 := h9 0 (by omega) (by omega)
  have g1 := h9 1 (by omega) (by omega)
  have g2 := h9 2 (by omega) (by omega)
  rw [hm0] at g0
  rw [hm1] at g1
  rw [hm2] at g2
  rcases (show k = 0 ∨ k = 1 ∨ k = 2 by omega) with e | e | e
  · rw [e, hm0] at c; omega
  · rw [e, hm1] at c; omega
  · rw [e, hm2] at c; omega
theorem mul_rng {a x A X : Int} (ha : 0 ≤ a ∧ a ≤ A) (hx : 0 ≤ x ∧ x ≤ X) : 0 ≤ a * x ∧ a * x ≤ A * X :=
  ⟨Int.mul_nonneg ha.1 hx.1, Int.le_trans (Int.mul_le_mul_of_nonneg_right ha.2 hx.1) (Int.mul_le_mul_of_nonneg_left hx.2 (Int.le_trans ha.1 ha.2))⟩
theorem hd_X4_fits : yX4_fits.cls = RX4 ∧ yX4_fits.cls ≠ "java/lang/invoke/MethodHandle" ∧ yX4_fits.cls ≠ "java/lang/invoke/VarHandle" ∧ (parseMethodDescriptor yX4_fits.desc).map (fun d => d.parameters.length) = some 3 := by decide +kernel
theorem fl_X4_fits_25 : Cond.fieldLink RX4 25 (TX4 5).1 (TX4 5).2.1 (TX4 5).2.2.1 ∈ wsX4_fits := List.mem_of_getElem? (i := 1) rfl
theorem inn_X4_fits_4 : ∀ w ∈ wsX40, w ∈ wsX4_fits := fun _ h => List.mem_cons_of_mem _ (List.mem_append_right _ h)
abbrev rm_X4_fits : Room := { frames := 0, cells := 0, slots := 0, locals := 0 }
set_option maxHeartbeats 1200000 in
set_option maxRecDepth 100000 in
theorem k_X4_fits (l : Launch) {G : va_G} {cy : Nat → ClassId} {ws0 : va_W} {qr aru : Nat} {f0 f1 f2 f3 f4 f5 : Int} (x y z9 : Int) (h_ru : ws0[qr]? = some (aru, .inr (4, [.int (zI f0), .int (zI f1), .int (zI f2), .int (zI f3), .int (zI f4), .int (zI f5)]))) (hf : f5 = 0 ∨ f5 = 1) (hx : (0 ≤ x ∧ x ≤ 1000) ∧ (0 ≤ y ∧ y ≤ 1000) ∧ (0 ≤ z9 ∧ z9 ≤ 1000)) : MI l yX4_fits wsX4_fits rm_X4_fits G cy [.ref aru, .int (zI x), .int (zI y), .int (zI z9)] ws0 (fun z u => (z = 1 ∧ ¬ (f5 = 1 ∧ (x = y ∨ x = z9 ∨ y = z9)) ∨ z = 0 ∧ (f5 = 1 ∧ (x = y ∨ x = z9 ∨ y = z9))) ∧ ws0 = u) := by
  refine MI.of (own := RX4) (cc := cX4_fits) (nL := 4) (ret := (some .boolean)) (by decide) rfl rfl (Nat.le_of_ble_eq_true rfl) ?_
  intro p e s m below meth c A ls E h hl
  have hl : lv_has ls 4 [(0, .ref aru), (1, .int (zI x)), (2, .int (zI y)), (3, .int (zI z9))] := hl
  refine r_aload_n E 0 hl rfl dX4_fits_0 ?_
  refine r_get (v := .int (zI f5)) E h h_ru rfl inn_X4_fits_4 5 (by decide) fl_X4_fits_25 rfl dX4_fits_1 ?_
  refine r_if_eq E 22 dX4_fits_4 (by decide) (by omega) (fun c_4 => ?_) (fun c_4 => ?_)
  · skip
    refine r_iconst E dX4_fits_22 ?_
    refine r_goto E 27 dX4_fits_23 (by decide) ?_
    exact r_zret E h (by omega) ⟨by omega, rfl⟩ dX4_fits_27
  · skip
    refine r_iload_n E 1 hl rfl dX4_fits_7 ?_
    refine r_iload_n E 2 hl rfl dX4_fits_8 ?_
    refine r_icmp_eq E 26 dX4_fits_9 (by decide) (by omega) (fun c_9 => ?_) (fun c_9 => ?_)
    · skip
      refine r_iconst E dX4_fits_26 ?_
      exact r_zret E h (by omega) ⟨by omega, rfl⟩ dX4_fits_27
    · skip
      refine r_iload_n E 2 hl rfl dX4_fits_12 ?_
      refine r_iload_n E 3 hl rfl dX4_fits_13 ?_
      refine r_icmp_eq E 26 dX4_fits_14 (by decide) (by omega) (fun c_14 => ?_) (fun c_14 => ?_)
      · skip
        refine r_iconst E dX4_fits_26 ?_
        exact r_zret E h (by omega) ⟨by omega, rfl⟩ dX4_fits_27
      · skip
        refine r_iload_n E 1 hl rfl dX4_fits_17 ?_
        refine r_iload_n E 3 hl rfl dX4_fits_18 ?_
        refine r_icmp_eq E 26 dX4_fits_19 (by decide) (by omega) (fun c_19 => ?_) (fun c_19 => ?_)
        · skip
          refine r_iconst E dX4_fits_26 ?_
          exact r_zret E h (by omega) ⟨by omega, rfl⟩ dX4_fits_27
        · skip
          refine r_iconst E dX4_fits_22 ?_
          refine r_goto E 27 dX4_fits_23 (by decide) ?_
          exact r_zret E h (by omega) ⟨by omega, rfl⟩ dX4_fits_27
theorem hd_X4_addTriples : yX4_addTriples.cls = RX4 ∧ yX4_addTriples.cls ≠ "java/lang/invoke/MethodHandle" ∧ yX4_addTriples.cls ≠ "java/lang/invoke/VarHandle" ∧ (parseMethodDescriptor yX4_addTriples.desc).map (fun d => d.parameters.length) = some 2 := by decide +kernel
theorem fl_X4_addTriples_19 : Cond.fieldLink RX4 19 (TX4 3).1 (TX4 3).2.1 (TX4 3).2.2.1 ∈ wsX4_addTriples := List.mem_of_getElem? (i := 1) rfl
theorem inn_X4_addTriples_4 : ∀ w ∈ wsX40, w ∈ wsX4_addTriples := fun _ h => List.mem_cons_of_mem _ (List.mem_append_left _ (List.mem_append_right _ h))
theorem fl_X4_addTriples_13 : Cond.fieldLink RX4 13 (TX4 1).1 (TX4 1).2.1 (TX4 1).2.2.1 ∈ wsX4_addTriples := List.mem_of_getElem? (i := 2) rfl
theorem fl_X4_addTriples_16 : Cond.fieldLink RX4 16 (TX4 2).1 (TX4 2).2.1 (TX4 2).2.2.1 ∈ wsX4_addTriples := List.mem_of_getElem? (i := 3) rfl
theorem fl_X4_addTriples_22 : Cond.fieldLink RX4 22 (TX4 4).1 (TX4 4).2.1 (TX4 4).2.2.1 ∈ wsX4_addTriples := List.mem_of_getElem? (i := 4) rfl
abbrev rm_X4_addTriples : Room := { frames := 1, cells := 0, slots := 0, locals := 23 }
set_option maxHeartbeats 1200000 in
set_option maxRecDepth 100000 in
theorem k_X4_addTriples (l : Launch) {G : va_G} {cy : Nat → ClassId} {ws0 : va_W} {qr aru : Nat} {q a ase awr art awt are ars : Nat} {se : Int → Int64} {wr : Int → Int} {sz riw : Int} {d : Int → Int} {KS : List Ky} (r9 : Int) (nn9 : Int) (h_ru : ws0[qr]? = some (aru, .inr (4, [.int (zI (d (5 + 6 * r9))), .int (zI (d (6 + 6 * r9))), .int (zI (d (7 + 6 * r9))), .int (zI (d (8 + 6 * r9))), .int (zI (d (9 + 6 * r9))), .int (zI (d (10 + 6 * r9)))]))) (h_tb : ws0[q]? = some (a, .inr (8, [.ref ase, .ref awr, .int (zI sz), .ref art, .int (zI riw), .ref awt, .ref are, .ref ars]))) (h_se : ws0[q + 1]? = some (ase, aL cy 6400 se)) (h_wr : ws0[q + 2]? = some (awr, aI cy 6400 wr)) (hqr : qr < q ∨ q + 3 ≤ qr) (hn : 0 ≤ d 0 ∧ d 0 ≤ 40) (hKS : KS.length ≤ 4800) (hsz : sz = KS.length) (hTE : TE d KS se wr) (hriw : riw = r9) (hnn : nn9 = d 0) (hE9 : d (5 + 6 * r9) = 0) (hR9 : (1 ≤ d (6 + 6 * r9) ∧ d (6 + 6 * r9) ≤ 9) ∧ (1 ≤ d (7 + 6 * r9) ∧ d (7 + 6 * r9) ≤ 9) ∧ (1 ≤ d (8 + 6 * r9) ∧ d (8 + 6 * r9) ≤ 9) ∧ (-99 ≤ d (9 + 6 * r9) ∧ d (9 + 6 * r9) ≤ 99) ∧ (0 ≤ d (10 + 6 * r9) ∧ d (10 + 6 * r9) ≤ 1)) : MV l yX4_addTriples wsX4_addTriples rm_X4_addTriples G cy [.ref aru, .int (zI nn9), .ref a] ws0 (fun u => ∃ (se2 : Int → Int64) (wr2 : Int → Int), u[q]? = some (a, .inr (8, [.ref ase, .ref awr, .int (zI (((KS ++ kX d r9 (d 0).toNat).length : Int))), .ref art, .int (zI r9), .ref awt, .ref are, .ref ars])) ∧ u[q + 1]? = some (ase, aL cy 6400 se2) ∧ u[q + 2]? = some (awr, aI cy 6400 wr2) ∧ TE d (KS ++ kX d r9 (d 0).toNat) se2 wr2 ∧ Eqx ws0 u (fun j => j = q ∨ j = q + 1 ∨ j = q + 2)) := by
  refine MV.of (own := RX4) (cc := cX4_addTriples) (nL := 7) (ret := none) (by decide) rfl rfl (Nat.le_of_ble_eq_true rfl) ?_
  intro p e s m below meth c A ls hin E h hl
  have hl : lv_has ls 7 [(0, .ref aru), (1, .int (zI nn9)), (2, .ref a)] := hl
  have hE : Eqx ws0 ws0 (fun j => j = q ∨ j = q + 1 ∨ j = q + 2) := Eqx.rf
  refine r_aload_n E 0 hl rfl dX4_addTriples_0 ?_
  refine r_get (v := .int (zI (d (8 + 6 * r9)))) E h h_ru rfl inn_X4_addTriples_4 3 (by decide) fl_X4_addTriples_19 rfl dX4_addTriples_1 ?_
  refine r_iconst E dX4_addTriples_4 ?_
  refine r_icmp_ge E 9 dX4_addTriples_5 (by decide) (by omega) (fun c_5 => ?_) (fun c_5 => ?_)
  · skip
    rw [hsz, hriw] at h_tb
    skip
    rw [show (KS.length : Int) = ((lE d r9 KS 1 1).length : Int) by rw [lE_0]] at h_tb
    skip
    refine r_iconst E dX4_addTriples_9 ?_
    refine r_istore_n (lv' := [(3, .int (zI 1)), (0, .ref aru), (1, .int (zI nn9)), (2, .ref a)]) E hl dX4_addTriples_10 rfl (by decide) rfl (fun ls hl => ?_)
    refine r_loop (fun n H locs ls => ∃ (ws : va_W) (x : Int) (se2 : Int → Int64) (wr2 : Int → Int), n = (41 - x).toNat ∧ (1 ≤ x ∧ x ≤ d 0 + 1) ∧ (TE d (lE d r9 KS x 1) se2 wr2) ∧ Hp G ws A s.heap H locs ∧ (ws[qr]? = some (aru, .inr (4, [.int (zI (d (5 + 6 * r9))), .int (zI (d (6 + 6 * r9))), .int (zI (d (7 + 6 * r9))), .int (zI (d (8 + 6 * r9))), .int (zI (d (9 + 6 * r9))), .int (zI (d (10 + 6 * r9)))]))) ∧ (ws[q]? = some (a, .inr (8, [.ref ase, .ref awr, .int (zI (((lE d r9 KS x 1).length : Int))), .ref art, .int (zI r9), .ref awt, .ref are, .ref ars]))) ∧ (ws[q + 1]? = some (ase, aL cy 6400 se2)) ∧ (ws[q + 2]? = some (awr, aI cy 6400 wr2)) ∧ Eqx ws0 ws (fun j => j = q ∨ j = q + 1 ∨ j = q + 2) ∧ lv_has ls 7 [(0, .ref aru), (1, .int (zI nn9)), (2, .ref a), (3, .int (zI x))]) _ ⟨ws0, 1, se, wr, rfl, (by omega), (by rw [lE_0]; exact hTE), h, h_ru, h_tb, h_se, h_wr, hE, lv_sub hl [1, 2, 3, 0] rfl⟩ ?_
    rintro n H locs ls ⟨ws, x, se2, wr2, hn, i1, i2, h, h_ru, h_tb, h_se, h_wr, hE, hl⟩ ih_11
    refine r_iload_n E 3 hl rfl dX4_addTriples_11 ?_
    refine r_iload_n E 1 hl rfl dX4_addTriples_12 ?_
    refine r_icmp_gt E 129 dX4_addTriples_13 (by decide) (by omega) (fun c_13 => ?_) (fun c_13 => ?_)
    · skip
      have hxn : x = d 0 + 1 := by omega
      rw [lE_end (by omega) hxn] at h_tb
      exact r_vret E h ⟨se2, wr2, h_tb, h_se, h_wr, by rw [← lE_end (by omega) hxn]; exact i2, hE⟩ dX4_addTriples_129
    · skip
      refine r_iconst E dX4_addTriples_16 ?_
      refine r_istore (lv' := [(4, .int (zI 1)), (0, .ref aru), (1, .int (zI nn9)), (2, .ref a), (3, .int (zI x))]) E hl dX4_addTriples_17 (by decide) rfl (fun ls hl => ?_)
      refine r_loop (fun n H locs ls => ∃ (ws : va_W) (y : Int) (se3 : Int → Int64) (wr3 : Int → Int), n = (41 - y).toNat ∧ (1 ≤ y ∧ y ≤ d 0 + 1) ∧ (TE d (lE d r9 KS x y) se3 wr3) ∧ Hp G ws A s.heap H locs ∧ (ws[qr]? = some (aru, .inr (4, [.int (zI (d (5 + 6 * r9))), .int (zI (d (6 + 6 * r9))), .int (zI (d (7 + 6 * r9))), .int (zI (d (8 + 6 * r9))), .int (zI (d (9 + 6 * r9))), .int (zI (d (10 + 6 * r9)))]))) ∧ (ws[q]? = some (a, .inr (8, [.ref ase, .ref awr, .int (zI (((lE d r9 KS x y).length : Int))), .ref art, .int (zI r9), .ref awt, .ref are, .ref ars]))) ∧ (ws[q + 1]? = some (ase, aL cy 6400 se3)) ∧ (ws[q + 2]? = some (awr, aI cy 6400 wr3)) ∧ Eqx ws0 ws (fun j => j = q ∨ j = q + 1 ∨ j = q + 2) ∧ lv_has ls 7 [(0, .ref aru), (1, .int (zI nn9)), (2, .ref a), (3, .int (zI x)), (4, .int (zI y))]) _ ⟨ws, 1, se2, wr2, rfl, (by omega), i2, h, h_ru, h_tb, h_se, h_wr, hE, lv_sub hl [1, 2, 3, 4, 0] rfl⟩ ?_
      rintro n H locs ls ⟨ws, y, se3, wr3, hn, j1, j2, h, h_ru, h_tb, h_se, h_wr, hE, hl⟩ ih_19
      refine r_iload E 4 hl rfl dX4_addTriples_19 ?_
      refine r_iload_n E 1 hl rfl dX4_addTriples_21 ?_
      refine r_icmp_gt E 123 dX4_addTriples_22 (by decide) (by omega) (fun c_22 => ?_) (fun c_22 => ?_)
      · skip
        have hyn : y = d 0 + 1 := by omega
        rw [hyn, lE_row (by omega) (by omega)] at h_tb
        skip
        refine r_iinc (lv' := [(3, .int (zI (x + 1))), (0, .ref aru), (1, .int (zI nn9)), (2, .ref a), (4, .int (zI y))]) E 3 hl rfl dX4_addTriples_123 (by decide) rfl (fun ls hl => ?_)
        refine r_goto E 11 dX4_addTriples_126 (by decide) ?_
        exact ih_11 _ H locs ls (by omega) ⟨ws, (x + 1), se3, wr3, rfl, (by omega), (by rw [← lE_row (by omega) (by omega), ← hyn]; exact j2), h, h_ru, h_tb, h_se, h_wr, hE, lv_sub hl [1, 2, 3, 0] rfl⟩
      · skip
        have hax := mul_rng (a := d (6 + 6 * r9)) (x := x) (A := 9) (X := 40) (by omega) (by omega)
        have hby := mul_rng (a := d (7 + 6 * r9)) (x := y) (A := 9) (X := 40) (by omega) (by omega)
        have hll := lE_len (d := d) (r := r9) (KS := KS) (x := x) (y := y) (by omega) (by omega) (by omega)
        refine r_aload_n E 0 hl rfl dX4_addTriples_25 ?_
        refine r_get (v := .int (zI (d (6 + 6 * r9)))) E h h_ru rfl inn_X4_addTriples_4 1 (by decide) fl_X4_addTriples_13 rfl dX4_addTriples_26 ?_
        refine r_iload_n E 3 hl rfl dX4_addTriples_29 ?_
        refine r_imul E dX4_addTriples_30 ?_
        refine r_aload_n E 0 hl rfl dX4_addTriples_31 ?_
        refine r_get (v := .int (zI (d (7 + 6 * r9)))) E h h_ru rfl inn_X4_addTriples_4 2 (by decide) fl_X4_addTriples_16 rfl dX4_addTriples_32 ?_
        refine r_iload E 4 hl rfl dX4_addTriples_35 ?_
        refine r_imul E dX4_addTriples_37 ?_
        refine r_iadd E dX4_addTriples_38 ?_
        refine r_aload_n E 0 hl rfl dX4_addTriples_39 ?_
        refine r_get (v := .int (zI (d (9 + 6 * r9)))) E h h_ru rfl inn_X4_addTriples_4 4 (by decide) fl_X4_addTriples_22 rfl dX4_addTriples_40 ?_
        refine r_isub E dX4_addTriples_43 ?_
        refine r_istore (lv' := [(5, .int (zI ((((d (6 + 6 * r9)) * x) + ((d (7 + 6 * r9)) * y)) - (d (9 + 6 * r9))))), (0, .ref aru), (1, .int (zI nn9)), (2, .ref a), (3, .int (zI x)), (4, .int (zI y))]) E hl dX4_addTriples_44 (by decide) rfl (fun ls hl => ?_)
        refine r_iload E 0 hl rfl dX4_addTriples_46 ?_
        refine r_aload_n E 1 hl rfl dX4_addTriples_48 ?_
        refine r_get (v := .int (zI (d (8 + 6 * r9)))) E h h_ru rfl inn_X4_addTriples_4 3 (by decide) fl_X4_addTriples_19 rfl dX4_addTriples_49 ?_
        refine r_idiv E dX4_addTriples_52 (by omega) (by omega) ?_
        refine r_istore (lv' := [(6, .int (zI (Int.tdiv ((((d (6 + 6 * r9)) * x) + ((d (7 + 6 * r9)) * y)) - (d (9 + 6 * r9))) (d (8 + 6 * r9))))), (5, .int (zI ((((d (6 + 6 * r9)) * x) + ((d (7 + 6 * r9)) * y)) - (d (9 + 6 * r9))))), (0, .ref aru), (1, .int (zI nn9)), (2, .ref a), (3, .int (zI x)), (4, .int (zI y))]) E hl dX4_addTriples_53 (by decide) rfl (fun ls hl => ?_)
        have hzz : Int.tdiv ((((d (6 + 6 * r9)) * x) + ((d (7 + 6 * r9)) * y)) - (d (9 + 6 * r9))) (d (8 + 6 * r9)) = zE d r9 x y := rfl
        have hzm1 := Int.tmod_lt_of_pos ((((d (6 + 6 * r9)) * x) + ((d (7 + 6 * r9)) * y)) - (d (9 + 6 * r9))) (show (0 : Int) < d (8 + 6 * r9) by omega)
        have hzm2 := Int.lt_tmod_of_pos ((((d (6 + 6 * r9)) * x) + ((d (7 + 6 * r9)) * y)) - (d (9 + 6 * r9))) (show (0 : Int) < d (8 + 6 * r9) by omega)
        have hzr : (Int.tdiv ((((d (6 + 6 * r9)) * x) + ((d (7 + 6 * r9)) * y)) - (d (9 + 6 * r9))) (d (8 + 6 * r9))).natAbs ≤ ((((d (6 + 6 * r9)) * x) + ((d (7 + 6 * r9)) * y)) - (d (9 + 6 * r9))).natAbs := by rw [Int.natAbs_tdiv]; exact Nat.div_le_self _ _
        refine r_iload E 1 hl rfl dX4_addTriples_55 ?_
        refine r_aload_n E 2 hl rfl dX4_addTriples_57 ?_
        refine r_get (v := .int (zI (d (8 + 6 * r9)))) E h h_ru rfl inn_X4_addTriples_4 3 (by decide) fl_X4_addTriples_19 rfl dX4_addTriples_58 ?_
        refine r_irem E dX4_addTriples_61 (by omega) (by omega) ?_
        refine r_if_ne E 117 dX4_addTriples_62 (by decide) (by omega) (fun c_62 => ?_) (fun c_62 => ?_)
        · skip
          have hok : ¬ okK d r9 x y = true := by
            unfold okK; rw [if_pos hE9]
            exact fun hh => c_62 (okE_iff.mp hh).1
          have hll2 : (lE d r9 KS x (y + 1)) = (lE d r9 KS x y) := lE_no (by omega) hok
          rw [← hll2] at h_tb
          skip
          refine r_iinc (lv' := [(4, .int (zI (y + 1))), (6, .int (zI (Int.tdiv ((((d (6 + 6 * r9)) * x) + ((d (7 + 6 * r9)) * y)) - (d (9 + 6 * r9))) (d (8 + 6 * r9))))), (5, .int (zI ((((d (6 + 6 * r9)) * x) + ((d (7 + 6 * r9)) * y)) - (d (9 + 6 * r9))))), (0, .ref aru), (1, .int (zI nn9)), (2, .ref a), (3, .int (zI x))]) E 6 hl rfl dX4_addTriples_117 (by decide) rfl (fun ls hl => ?_)
          refine r_goto E 19 dX4_addTriples_120 (by decide) ?_
          exact ih_19 _ H locs ls (by omega) ⟨ws, (y + 1), se3, wr3, rfl, (by omega), (by rw [hll2]; exact j2), h, h_ru, h_tb, h_se, h_wr, hE, lv_sub hl [3, 4, 5, 6, 0] rfl⟩
        · skip
          refine r_iload E 0 hl rfl dX4_addTriples_65 ?_
          refine r_iconst E dX4_addTriples_67 ?_
          refine r_icmp_lt E 117 dX4_addTriples_68 (by decide) (by omega) (fun c_68 => ?_) (fun c_68 => ?_)
          · skip
            have hok : ¬ okK d r9 x y = true := by
              unfold okK; rw [if_pos hE9]
              intro hh
              have := (okE_iff.mp hh).2.1
              rw [← hzz] at this; omega
            have hll2 : (lE d r9 KS x (y + 1)) = (lE d r9 KS x y) := lE_no (by omega) hok
            rw [← hll2] at h_tb
            skip
            refine r_iinc (lv' := [(4, .int (zI (y + 1))), (6, .int (zI (Int.tdiv ((((d (6 + 6 * r9)) * x) + ((d (7 + 6 * r9)) * y)) - (d (9 + 6 * r9))) (d (8 + 6 * r9))))), (5, .int (zI ((((d (6 + 6 * r9)) * x) + ((d (7 + 6 * r9)) * y)) - (d (9 + 6 * r9))))), (0, .ref aru), (1, .int (zI nn9)), (2, .ref a), (3, .int (zI x))]) E 6 hl rfl dX4_addTriples_117 (by decide) rfl (fun ls hl => ?_)
            refine r_goto E 19 dX4_addTriples_120 (by decide) ?_
            exact ih_19 _ H locs ls (by omega) ⟨ws, (y + 1), se3, wr3, rfl, (by omega), (by rw [hll2]; exact j2), h, h_ru, h_tb, h_se, h_wr, hE, lv_sub hl [3, 4, 5, 6, 0] rfl⟩
          · skip
            refine r_iload E 0 hl rfl dX4_addTriples_71 ?_
            refine r_iload_n E 3 hl rfl dX4_addTriples_73 ?_
            refine r_icmp_gt E 117 dX4_addTriples_74 (by decide) (by omega) (fun c_74 => ?_) (fun c_74 => ?_)
            · skip
              have hok : ¬ okK d r9 x y = true := by
                unfold okK; rw [if_pos hE9]
                intro hh
                have := (okE_iff.mp hh).2.1
                rw [← hzz] at this; omega
              have hll2 : (lE d r9 KS x (y + 1)) = (lE d r9 KS x y) := lE_no (by omega) hok
              rw [← hll2] at h_tb
              skip
              refine r_iinc (lv' := [(4, .int (zI (y + 1))), (6, .int (zI (Int.tdiv ((((d (6 + 6 * r9)) * x) + ((d (7 + 6 * r9)) * y)) - (d (9 + 6 * r9))) (d (8 + 6 * r9))))), (5, .int (zI ((((d (6 + 6 * r9)) * x) + ((d (7 + 6 * r9)) * y)) - (d (9 + 6 * r9))))), (0, .ref aru), (1, .int (zI nn9)), (2, .ref a), (3, .int (zI x))]) E 6 hl rfl dX4_addTriples_117 (by decide) rfl (fun ls hl => ?_)
              refine r_goto E 19 dX4_addTriples_120 (by decide) ?_
              exact ih_19 _ H locs ls (by omega) ⟨ws, (y + 1), se3, wr3, rfl, (by omega), (by rw [hll2]; exact j2), h, h_ru, h_tb, h_se, h_wr, hE, lv_sub hl [3, 4, 5, 6, 0] rfl⟩
            · skip
              refine r_aload_n E 2 hl rfl dX4_addTriples_77 ?_
              refine r_iload_n E 5 hl rfl dX4_addTriples_78 ?_
              refine r_iload E 6 hl rfl dX4_addTriples_79 ?_
              refine r_iload E 0 hl rfl dX4_addTriples_81 ?_
              refine r_callVI E h (As := [.int (zI x), .int (zI y), .int (zI (Int.tdiv ((((d (6 + 6 * r9)) * x) + ((d (7 + 6 * r9)) * y)) - (d (9 + 6 * r9))) (d (8 + 6 * r9))))]) (rest := []) (k_X4_fits l x y (Int.tdiv ((((d (6 + 6 * r9)) * x) + ((d (7 + 6 * r9)) * y)) - (d (9 + 6 * r9))) (d (8 + 6 * r9))) h_ru (by omega) (by omega)) h_ru rfl gX4_addTriples_X4_fits rfl hd_X4_fits (by decide) ⟨by decide, by decide⟩ hl.1 rfl (Nat.le_of_ble_eq_true rfl) dX4_addTriples_83 rfl (fun z_83 ws H locs hp h => ?_)
              obtain ⟨e_z_83, rfl⟩ := hp
              refine r_if_eq E 117 dX4_addTriples_86 (by decide) (by omega) (fun c_86 => ?_) (fun c_86 => ?_)
              · skip
                have hok : ¬ okK d r9 x y = true := by
                  unfold okK; rw [if_pos hE9]
                  intro hh
                  have := (okE_iff.mp hh).2.2
                  rw [← hzz] at this; omega
                have hll2 : (lE d r9 KS x (y + 1)) = (lE d r9 KS x y) := lE_no (by omega) hok
                rw [← hll2] at h_tb
                skip
                refine r_iinc (lv' := [(4, .int (zI (y + 1))), (6, .int (zI (Int.tdiv ((((d (6 + 6 * r9)) * x) + ((d (7 + 6 * r9)) * y)) - (d (9 + 6 * r9))) (d (8 + 6 * r9))))), (5, .int (zI ((((d (6 + 6 * r9)) * x) + ((d (7 + 6 * r9)) * y)) - (d (9 + 6 * r9))))), (0, .ref aru), (1, .int (zI nn9)), (2, .ref a), (3, .int (zI x))]) E 6 hl rfl dX4_addTriples_117 (by decide) rfl (fun ls hl => ?_)
                refine r_goto E 19 dX4_addTriples_120 (by decide) ?_
                exact ih_19 _ H locs ls (by omega) ⟨ws, (y + 1), se3, wr3, rfl, (by omega), (by rw [hll2]; exact j2), h, h_ru, h_tb, h_se, h_wr, hE, lv_sub hl [3, 4, 5, 6, 0] rfl⟩
              · skip
                have hok : okK d r9 x y = true := by
                  unfold okK; rw [if_pos hE9]
                  refine okE_iff.mpr ⟨c_62, ?_, ?_⟩
                  · rw [← hzz]; omega
                  · rw [← hzz]; omega
                refine r_aload_n E 4 hl rfl dX4_addTriples_89 ?_
                refine r_lconst (v := zL 1) E dX4_addTriples_90 (by decide) ?_
                refine r_iload_n E 5 hl rfl dX4_addTriples_91 ?_
                refine r_lshl E dX4_addTriples_92 (v := bs (fun v8 => decide (v8 = x))) (bs_one (by omega)) ?_
                refine r_lconst (v := zL 1) E dX4_addTriples_93 (by decide) ?_
                refine r_iload E 6 hl rfl dX4_addTriples_94 ?_
                refine r_lshl E dX4_addTriples_96 (v := bs (fun v8 => decide (v8 = y))) (bs_one (by omega)) ?_
                refine r_lor E dX4_addTriples_97 ?_
                refine r_lconst (v := zL 1) E dX4_addTriples_98 (by decide) ?_
                refine r_iload E 0 hl rfl dX4_addTriples_99 ?_
                refine r_lshl E dX4_addTriples_101 (v := bs (fun v8 => decide (v8 = Int.tdiv ((((d (6 + 6 * r9)) * x) + ((d (7 + 6 * r9)) * y)) - (d (9 + 6 * r9))) (d (8 + 6 * r9))))) (bs_one (by omega)) ?_
                refine r_lor E dX4_addTriples_102 ?_
                rw [show (((bs (fun v8 => decide (v8 = x))) ||| (bs (fun v8 => decide (v8 = y)))) ||| (bs (fun v8 => decide (v8 = Int.tdiv ((((d (6 + 6 * r9)) * x) + ((d (7 + 6 * r9)) * y)) - (d (9 + 6 * r9))) (d (8 + 6 * r9)))))) = bs (fun v => has d (r9, x, y) v) from (set_eq hE9 hzz)]
                skip
                refine r_iload_n E 5 hl rfl dX4_addTriples_103 ?_
                refine r_iload E 6 hl rfl dX4_addTriples_104 ?_
                refine r_iload E 0 hl rfl dX4_addTriples_106 ?_
                refine r_mmax E (List.mem_of_getElem? (i := 5) rfl) (List.mem_of_getElem? (i := 6) rfl) (List.mem_of_getElem? (i := 7) rfl) (List.mem_of_getElem? (i := 8) rfl) hl.1 ⟨by decide, Nat.le_of_ble_eq_true rfl⟩ ⟨by decide, by decide⟩ (by omega) dX4_addTriples_108 (fun z_108 e_108 => ?_)
                refine r_mmax E (List.mem_of_getElem? (i := 5) rfl) (List.mem_of_getElem? (i := 6) rfl) (List.mem_of_getElem? (i := 7) rfl) (List.mem_of_getElem? (i := 8) rfl) hl.1 ⟨by decide, Nat.le_of_ble_eq_true rfl⟩ ⟨by decide, by decide⟩ (by omega) dX4_addTriples_111 (fun z_111 e_111 => ?_)
                refine r_callVV E h (As := [.long (bs (fun v => has d (r9, x, y) v)), .int (zI z_111)]) (rest := []) (k_X8_add l (bs (fun v => has d (r9, x, y) v)) z_111 h_tb h_se h_wr (by omega)) h_tb rfl gX4_addTriples_X8_add rfl hd_X8_add (by decide) ⟨by decide, by decide⟩ hl.1 rfl (Nat.le_of_ble_eq_true rfl) dX4_addTriples_114 rfl (fun ws H locs hp h => ?_)
                obtain ⟨h_tb, h_se, h_wr, hf⟩ := hp
                have h_ru := hf.at h_ru (by first | omega | (dsimp only <;> omega))
                have hE := hE.tr (hf.wk (fun j hj => by first | omega | (dsimp only at hj ⊢ <;> omega)))
                have hll2 : (lE d r9 KS x (y + 1)) = (lE d r9 KS x y) ++ [(r9, x, y)] := lE_ok (by omega) hok
                rw [show (((lE d r9 KS x y).length : Int) + 1) = ((lE d r9 KS x (y + 1)).length : Int) by rw [hll2]; simp] at h_tb
                skip
                refine r_iinc (lv' := [(4, .int (zI (y + 1))), (6, .int (zI (Int.tdiv ((((d (6 + 6 * r9)) * x) + ((d (7 + 6 * r9)) * y)) - (d (9 + 6 * r9))) (d (8 + 6 * r9))))), (5, .int (zI ((((d (6 + 6 * r9)) * x) + ((d (7 + 6 * r9)) * y)) - (d (9 + 6 * r9))))), (0, .ref aru), (1, .int (zI nn9)), (2, .ref a), (3, .int (zI x))]) E 6 hl rfl dX4_addTriples_117 (by decide) rfl (fun ls hl => ?_)
                refine r_goto E 19 dX4_addTriples_120 (by decide) ?_
                exact ih_19 _ H locs ls (by omega) ⟨ws, (y + 1), (uZ se3 (((lE d r9 KS x y).length : Int)) (bs (fun v => has d (r9, x, y) v))), (uZ wr3 (((lE d r9 KS x y).length : Int)) (r9 * 41 + z_111)), rfl, (by omega), (by rw [hll2]; exact j2.app rfl rfl (by rw [← big_eq hE9 hzz e_108 e_111]; omega)), h, h_ru, h_tb, h_se, h_wr, hE, lv_sub hl [3, 4, 5, 6, 0] rfl⟩
  · skip
    exfalso; omega
