/-- repairs: so many steps at most, from the row da: how many were made, the row then -/
def rpr (d : Int → Int) (T : List Int) : Nat → (Int → Int) → Int × (Int → Int)
  | 0, da => (0, da)
  | m + 1, da => if (bst d T da).1 ≤ 0 then (0, da) else ((rpr d T m (uZ da (29 + (bst d T da).2.1) ((bst d T da).2.2 + 1))).1 + 1, (rpr d T m (uZ da (29 + (bst d T da).2.1) ((bst d T da).2.2 + 1))).2)
theorem bstC_ok {d : Int → Int} {T : List Int} {da : Int → Int} {x now : Int} (hx : 1 ≤ x ∧ x ≤ da 0) : ∀ (m : Nat) (s : Int × Int × Int), (m : Int) ≤ da 1 → (-1000000 < s.1 → (1 ≤ s.2.1 ∧ s.2.1 ≤ da 0) ∧ (0 ≤ s.2.2 ∧ s.2.2 < da 1)) → -1000000 ≤ s.1 → -1000000 ≤ (bstC d T da x now m s).1 ∧ (-1000000 < (bstC d T da x now m s).1 → (1 ≤ (bstC d T da x now m s).2.1 ∧ (bstC d T da x now m s).2.1 ≤ da 0) ∧ (0 ≤ (bstC d T da x now m s).2.2 ∧ (bstC d T da x now m s).2.2 < da 1))
  | 0, s, _, h, h1 => ⟨h1, h⟩
  | m + 1, s, hm, h, h1 => by
    have ih := bstC_ok (d := d) (T := T) (now := now) hx m s (by omega) h h1
    simp only [bstC]
    by_cases a : (m : Int) = da (29 + x) - 1
    · rw [if_pos a]; exact ih
    · rw [if_neg a]
      by_cases b : now - wgtX d T (cl da) x m ≤ (bstC d T da x now m s).1
      · rw [if_pos b]; exact ih
      · rw [if_neg b]
        refine ⟨?_, fun _ => ⟨hx, ?_⟩⟩
        · show -1000000 ≤ now - _; omega
        · show 0 ≤ (m : Int) ∧ (m : Int) < da 1; omega
theorem bstX_ok {d : Int → Int} {T : List Int} {da : Int → Int} (h1 : 0 ≤ da 1) : ∀ m : Nat, (m : Int) ≤ da 0 → -1000000 ≤ (bstX d T da m).1 ∧ (-1000000 < (bstX d T da m).1 → (1 ≤ (bstX d T da m).2.1 ∧ (bstX d T da m).2.1 ≤ da 0) ∧ (0 ≤ (bstX d T da m).2.2 ∧ (bstX d T da m).2.2 < da 1))
  | 0, _ => ⟨Int.le_refl _, fun h => absurd h (by show ¬ (-1000000 : Int) < (-1000000 : Int); decide)⟩
  | m + 1, hm => by
    have ih := bstX_ok (d := d) (T := T) h1 m (by omega)
    simp only [bstX]
    by_cases a : da (29 + ((m : Int) + 1)) = 0 ∨ da (70 + ((m : Int) + 1)) = 1
    · rw [if_pos a]; exact ih
    · rw [if_neg a]
      exact bstC_ok (by omega) _ _ (by omega) ih.2 ih.1
theorem bst_ok {d : Int → Int} {T : List Int} {da : Int → Int} (h0 : 0 ≤ da 0) (h1 : 0 ≤ da 1) (h : 0 < (bst d T da).1) : (1 ≤ (bst d T da).2.1 ∧ (bst d T da).2.1 ≤ da 0) ∧ (0 ≤ (bst d T da).2.2 ∧ (bst d T da).2.2 < da 1) :=
  (bstX_ok (d := d) (T := T) h1 (da 0).toNat (by omega)).2 (by unfold bst at h; omega)
theorem rpr_keep {d : Int → Int} {T : List Int} : ∀ (m : Nat) (da : Int → Int), DW da T → DW (rpr d T m da).2 T ∧ (∀ i : Int, i < 30 → (rpr d T m da).2 i = da i) ∧ ∀ i : Int, 69 < i → (rpr d T m da).2 i = da i
  | 0, da, h => ⟨h, fun _ _ => rfl, fun _ _ => rfl⟩
  | m + 1, da, h => by
    have hn := h.n
    have hk := h.k
    simp only [rpr]
    by_cases a : (bst d T da).1 ≤ 0
    · rw [if_pos a]; exact ⟨h, fun _ _ => rfl, fun _ _ => rfl⟩
    · rw [if_neg a]
      have hb := bst_ok (d := d) (T := T) hn.1 hk.1 (by omega)
      have ih := rpr_keep (d := d) (T := T) m (uZ da (29 + (bst d T da).2.1) ((bst d T da).2.2 + 1)) (h.setcol (by omega) (by omega))
      exact ⟨ih.1, fun i hi => (ih.2.1 i hi).trans (uZ_n (by omega)), fun i hi => (ih.2.2 i hi).trans (uZ_n (by omega))⟩
theorem wgtA_rng {d : Int → Int} {T : List Int} {e : Int → Int} (hD : DW d T) : 0 ≤ wgtA d T e ∧ wgtA d T e ≤ 6393600 := by
  have h1 := sumL_rng (l := KL d) (f := fun q => w1 d T e q) (B := 999) (fun q _ => w1_rng)
  have h2 := KL_len hD
  unfold wgtA
  omega
def csN (d : Int → Int) : Nat → Int
  | 0 => 0
  | m + 1 => 31 * (31 * csN d m + (d (29 + ((m : Int) + 1)) - 1)) + d (70 + ((m : Int) + 1))
def csum (d : Int → Int) (T : List Int) : Int := 31 * (31 * csN d (d 0).toNat + cnfA d (cl d)) + wgtA d T (cl d)
/-- 20 bytes of five words -/
def wsel (w0 w1 w2 w3 w4 k : Int) : Int := if k < 4 then w0 else if k < 8 then w1 else if k < 12 then w2 else if k < 16 then w3 else w4
def sh8 (w s : Int) : Int := if s = 24 then w / 16777216 else if s = 16 then w / 65536 else if s = 8 then w / 256 else w
def byt (w k : Int) : Int := sh8 w (24 - 8 * (k % 4)) % 256
def apB (bu : Int → Int) (bl w0 w1 w2 w3 w4 : Int) : Int → Int := fun i => if bl ≤ i ∧ i < bl + 20 then byt (wsel w0 w1 w2 w3 w4 (i - bl)) (i - bl) else bu i
theorem zI_sar {w s : Int} (hw : -2147483648 ≤ w ∧ w ≤ 2147483647) (hs : s = 0 ∨ s = 8 ∨ s = 16 ∨ s = 24) : zI w >>> (zI s &&& 31) = zI (sh8 w s) := by
  have key : ∀ (k : Nat), ((zI s &&& 31).toBitVec.smod 32).toNat = k → zI w >>> (zI s &&& 31) = zI (w / 2 ^ k) := by
    intro k hk
    apply Int32.toInt_inj.mp
    rw [pk_shr _ _ k hk, zI_toInt hw, Int.shiftRight_eq_div_pow]
    have h1 : (0 : Int) < 2 ^ k := Int.pow_pos (by decide)
    rw [zI_toInt]
    · rfl
    · constructor
      · exact Int.le_trans (by omega) (Int.le_ediv_of_mul_le h1 (show -2147483648 * 2 ^ k ≤ w from by
          have : (-2147483648 : Int) * 2 ^ k ≤ -2147483648 * 1 := Int.mul_le_mul_of_nonpos_left (by decide) (by omega)
          omega))
      · rcases Int.le_total 0 w with h | h
        · exact Int.le_trans (Int.ediv_le_self _ h) hw.2
        · have h2 : w / 2 ^ k ≤ 0 / 2 ^ k := Int.ediv_le_ediv h1 h
          rw [Int.zero_ediv] at h2
          omega
  rcases hs with rfl | rfl | rfl | rfl
  · rw [key 0 (by decide)]; simp [sh8]
  · rw [key 8 (by decide)]; simp [sh8]
  · rw [key 16 (by decide)]; simp [sh8]
  · rw [key 24 (by decide)]; simp [sh8]
theorem zI_and255 (v : Int) : zI v &&& zI 255 = zI (v % 256) := by
  rw [pk_and (zI v) (m := zI 255) 8 (by decide)]
  show Int32.ofNat _ = _
  rw [← Int32.ofInt_eq_ofNat]
  show zI _ = zI _
  congr 1
  have h1 : (zI v).toBitVec.toNat = (v % 2 ^ 32).toNat := by
    show (BitVec.ofInt 32 v).toNat = _
    rw [BitVec.toNat_ofInt]
    rfl
  rw [h1]
  omega
theorem hd_X11_swapColours : yX11_swapColours.cls = RX11 ∧ yX11_swapColours.cls ≠ "java/lang/invoke/MethodHandle" ∧ yX11_swapColours.cls ≠ "java/lang/invoke/VarHandle" ∧ (parseMethodDescriptor yX11_swapColours.desc).map (fun d => d.parameters.length) = some 2 := by decide +kernel
theorem fl_X11_swapColours_57 : Cond.fieldLink RX11 57 (TX11 0).1 (TX11 0).2.1 (TX11 0).2.2.1 ∈ wsX11_swapColours := List.mem_of_getElem? (i := 1) rfl
theorem inn_X11_swapColours_11 : ∀ w ∈ wsX110, w ∈ wsX11_swapColours := fun _ h => List.mem_cons_of_mem _ (List.mem_append_right _ h)
theorem fl_X11_swapColours_17 : Cond.fieldLink RX11 17 (TX11 8).1 (TX11 8).2.1 (TX11 8).2.2.1 ∈ wsX11_swapColours := List.mem_of_getElem? (i := 2) rfl
abbrev rm_X11_swapColours : Room := { frames := 2, cells := 0, slots := 0, locals := 44 }
set_option maxHeartbeats 4000000 in
set_option maxRecDepth 100000 in
theorem k_X11_swapColours (l : Launch) {G : va_G} {cy : Nat → ClassId} {ws0 : va_W} {b aM : Nat} {I : Nat → Int} {ad : Nat → Nat} {dr : Int → Int} {ke : Int → Int} {st : Int → Int64} {op : Int → Int} {d : Int → Int} {T : List Int} {ru so me le fo wn : Int → Int} {ar : Nat → Nat} {hi : Int → Option Nat} {hs : Nat → Int → Int} (o1 o2 : Int) (h_mo : ws0[b]? = some (aM, mO I ad)) (h_da : ws0[b + 2]? = some (ad 8, aI cy 1111 d)) (h_dr : ws0[b + 3]? = some (ad 9, aI cy 1111 dr)) (h_ke : ws0[b + 4]? = some (ad 10, aI cy 1111 ke)) (h_st : ws0[b + 20]? = some (ad 22, aL cy 1000 st)) (h_op : ws0[b + 21]? = some (ad 25, aI cy 40 op)) (h_hi : ws0[b + 5]? = some (ad 11, aR cy 6 8 hi)) (h_rw : ∀ i : Nat, i < 8 → ws0[b + 6 + i]? = some (ar i, aI cy 1111 (hs i))) (hD : DW d T) (hL : LW d me le ru so fo wn (I 19)) (hhi : ∀ i : Nat, i < 8 → hi (i : Int) = some (ar i)) (hdep : 0 ≤ I 12 ∧ I 12 ≤ 8) (hx : (-2147483648 ≤ o1 ∧ o1 ≤ 2147483647) ∧ (-2147483648 ≤ o2 ∧ o2 ≤ 2147483647)) : MI l yX11_swapColours wsX11_swapColours rm_X11_swapColours G cy [.ref aM, .int (zI o1), .int (zI o2)] ws0 (fun z u => ∃ (t n2 : Int) (d2 : Int → Int) (hs2 : Nat → Int → Int), ((0 ≤ o1 ∧ o1 < d 1) ∧ (0 ≤ o2 ∧ o2 < d 1) ∧ t = 0 ∧ z = sumL (fun y => if d (29 + y) = swD d o1 o2 (29 + y) then 0 else 1) (upto (d 0).toNat) ∧ n2 = rn (I 12) ∧ d2 = swD d o1 o2 ∧ hs2 = rem (I 12) hs d ∨ ((o1 < 0 ∨ d 1 ≤ o1) ∨ (o2 < 0 ∨ d 1 ≤ o2)) ∧ t = 1 ∧ n2 = I 12 ∧ d2 = d ∧ hs2 = hs) ∧ MWO cy b aM ad ar I ws0 u t n2 d2 hs2) := by
  refine MI.of (own := RX11) (cc := cX11_swapColours) (nL := 7) (ret := (some .int)) (by decide) rfl rfl (Nat.le_of_ble_eq_true rfl) ?_
  intro p e s m below meth c A ls E h hl
  have hl : lv_has ls 7 [(0, .ref aM), (1, .int (zI o1)), (2, .int (zI o2))] := hl
  have hE : Eqx ws0 ws0 (fun j => j = b ∨ j = b + 2 ∨ j = b + 3 ∨ j = b + 4 ∨ (b + 6 ≤ j ∧ j < b + 14) ∨ j = b + 20 ∨ j = b + 21) := Eqx.rf
  have hn9 := hD.n
  have hk9 := hD.k
  have hr9 := hD.nr
  refine r_aload_n E 0 hl rfl dX11_swapColours_0 ?_
  refine r_iconst E dX11_swapColours_1 ?_
  refine r_put E h h_mo rfl inn_X11_swapColours_11 0 (by decide) fl_X11_swapColours_57 tyX11 tyX11_ok nmX11 rfl rfl rfl (Nat.le_of_ble_eq_true rfl) dX11_swapColours_2 (fun ws H locs h hu => ?_)
  have h_mo : ws[b]? = some (aM, mO (va_up I 0 0) ad) := hu.1
  have h_da := hu.keep h_da (by omega)
  have h_dr := hu.keep h_dr (by omega)
  have h_ke := hu.keep h_ke (by omega)
  have h_st := hu.keep h_st (by omega)
  have h_op := hu.keep h_op (by omega)
  have h_hi := hu.keep h_hi (by omega)
  have h_rw := fun (i : Nat) (hi : i < 8) => hu.keep (h_rw i hi) (by omega)
  have hE := hE.tr (hu.eqx (by first | omega | (dsimp only <;> omega)))
  refine r_aload_n E 0 hl rfl dX11_swapColours_5 ?_
  refine r_iload_n E 1 hl rfl dX11_swapColours_6 ?_
  refine r_iconst E dX11_swapColours_7 ?_
  refine r_callVI E h (As := [.int (zI o1), .int (zI 0)]) (rest := []) (k_X11_noColour l o1 0 h_mo h_da (by omega) (by have := hD.k; omega) (by first | rfl | (simp [va_up]; done) | (simp [va_up]; omega))) h_mo rfl gX11_swapColours_X11_noColour rfl hd_X11_noColour (by decide) ⟨by decide, by decide⟩ hl.1 rfl (Nat.le_of_ble_eq_true rfl) dX11_swapColours_8 rfl (fun z_8 ws H locs hp h => ?_)
  obtain ⟨t_8, e_8, h_mo, hf⟩ := hp
  have h_da := hf.at h_da (by first | omega | (dsimp only <;> omega))
  have h_dr := hf.at h_dr (by first | omega | (dsimp only <;> omega))
  have h_ke := hf.at h_ke (by first | omega | (dsimp only <;> omega))
  have h_st := hf.at h_st (by first | omega | (dsimp only <;> omega))
  have h_op := hf.at h_op (by first | omega | (dsimp only <;> omega))
  have h_hi := hf.at h_hi (by first | omega | (dsimp only <;> omega))
  have h_rw := fun (i : Nat) (hi : i < 8) => hf.at (h_rw i hi) (by first | omega | (dsimp only <;> omega))
  have hE := hE.tr (hf.wk (fun j hj => by first | omega | (dsimp only at hj ⊢ <;> omega)))
  refine r_if_ne E 23 dX11_swapColours_11 (by decide) (by omega) (fun c_11 => ?_) (fun c_11 => ?_)
  · skip
    refine r_iconst E dX11_swapColours_23 ?_
    exact r_iret E h ⟨t_8, I 12, d, hs, Or.inr ⟨by omega, by omega, rfl, rfl, rfl⟩, va_up (va_up I 0 0) 0 t_8, dr, ke, st, op, h_mo, h_da, h_dr, h_ke, h_rw, h_st, h_op, (by first | (rw [g_26 0 (by decide)]; first | rfl | (simp [va_up]; done) | (simp [va_up]; omega)) | rfl | (simp [va_up]; done)), (by first | exact f_26 | rfl | (simp [va_up]; done)), (fun k h0 h9 h1 h2 h3 h4 => by first | (rw [g_26 k h9]; simp [va_up, h0]; done) | simp [va_up, h0]), hE⟩ dX11_swapColours_24
  · skip
    refine r_aload_n E 0 hl rfl dX11_swapColours_14 ?_
    refine r_iload_n E 2 hl rfl dX11_swapColours_15 ?_
    refine r_iconst E dX11_swapColours_16 ?_
    refine r_callVI E h (As := [.int (zI o2), .int (zI 0)]) (rest := []) (k_X11_noColour l o2 0 h_mo h_da (by omega) (by have := hD.k; omega) (by first | rfl | (simp [va_up]; done) | (simp [va_up]; omega))) h_mo rfl gX11_swapColours_X11_noColour rfl hd_X11_noColour (by decide) ⟨by decide, by decide⟩ hl.1 rfl (Nat.le_of_ble_eq_true rfl) dX11_swapColours_17 rfl (fun z_17 ws H locs hp h => ?_)
    obtain ⟨t_17, e_17, h_mo, hf⟩ := hp
    have h_da := hf.at h_da (by first | omega | (dsimp only <;> omega))
    have h_dr := hf.at h_dr (by first | omega | (dsimp only <;> omega))
    have h_ke := hf.at h_ke (by first | omega | (dsimp only <;> omega))
    have h_st := hf.at h_st (by first | omega | (dsimp only <;> omega))
    have h_op := hf.at h_op (by first | omega | (dsimp only <;> omega))
    have h_hi := hf.at h_hi (by first | omega | (dsimp only <;> omega))
    have h_rw := fun (i : Nat) (hi : i < 8) => hf.at (h_rw i hi) (by first | omega | (dsimp only <;> omega))
    have hE := hE.tr (hf.wk (fun j hj => by first | omega | (dsimp only at hj ⊢ <;> omega)))
    refine r_if_eq E 25 dX11_swapColours_20 (by decide) (by omega) (fun c_20 => ?_) (fun c_20 => ?_)
    · skip
      refine r_aload_n E 0 hl rfl dX11_swapColours_25 ?_
      refine r_callVV E h (As := []) (rest := []) (k_X11_remember l h_mo h_da h_hi h_rw hhi (by simp only [va_up]; exact hdep)) h_mo rfl gX11_swapColours_X11_remember rfl hd_X11_remember (by decide) ⟨by decide, by decide⟩ hl.1 rfl (Nat.le_of_ble_eq_true rfl) dX11_swapColours_26 rfl (fun ws H locs hp h => ?_)
      obtain ⟨I_26, h_mo, h_rw, ⟨f_26, g_26⟩, hf⟩ := hp
      have h_da := hf.at h_da (by first | omega | (dsimp only <;> omega))
      have h_dr := hf.at h_dr (by first | omega | (dsimp only <;> omega))
      have h_ke := hf.at h_ke (by first | omega | (dsimp only <;> omega))
      have h_st := hf.at h_st (by first | omega | (dsimp only <;> omega))
      have h_op := hf.at h_op (by first | omega | (dsimp only <;> omega))
      have h_hi := hf.at h_hi (by first | omega | (dsimp only <;> omega))
      have h_rw : ∀ i : Nat, i < 8 → ws[b + 6 + i]? = some (ar i, aI cy 1111 ((rem (I 12) hs d) i)) := h_rw
      have f_26 : I_26 12 = rn (I 12) := f_26
      have hE := hE.tr (hf.wk (fun j hj => by first | omega | (dsimp only at hj ⊢ <;> omega)))
      refine r_iconst E dX11_swapColours_29 ?_
      refine r_istore_n (lv' := [(3, .int (zI 0)), (0, .ref aM), (1, .int (zI o1)), (2, .int (zI o2))]) E hl dX11_swapColours_30 rfl (by decide) rfl (fun ls hl => ?_)
      refine r_iconst E dX11_swapColours_31 ?_
      refine r_istore (lv' := [(4, .int (zI 1)), (3, .int (zI 0)), (0, .ref aM), (1, .int (zI o1)), (2, .int (zI o2))]) E hl dX11_swapColours_32 (by decide) rfl (fun ls hl => ?_)
      refine r_loop (fun n H locs ls => ∃ (ws : va_W) (n9 : Int) (x : Int) (da2 : Int → Int), n = (41 - x).toNat ∧ (1 ≤ x ∧ x ≤ d 0 + 1) ∧ (∀ j : Int, da2 j = if 30 ≤ j ∧ j < 29 + x then swD d o1 o2 j else d j) ∧ (n9 = sumL (fun y => if d (29 + y) = swD d o1 o2 (29 + y) then 0 else 1) (upto (x - 1).toNat)) ∧ Hp G ws A s.heap H locs ∧ (ws[b]? = some (aM, mO I_26 ad)) ∧ (ws[b + 2]? = some (ad 8, aI cy 1111 da2)) ∧ (ws[b + 3]? = some (ad 9, aI cy 1111 dr)) ∧ (ws[b + 4]? = some (ad 10, aI cy 1111 ke)) ∧ (ws[b + 20]? = some (ad 22, aL cy 1000 st)) ∧ (ws[b + 21]? = some (ad 25, aI cy 40 op)) ∧ (ws[b + 5]? = some (ad 11, aR cy 6 8 hi)) ∧ (∀ i : Nat, i < 8 → ws[b + 6 + i]? = some (ar i, aI cy 1111 ((rem (I 12) hs d) i))) ∧ Eqx ws0 ws (fun j => j = b ∨ j = b + 2 ∨ j = b + 3 ∨ j = b + 4 ∨ (b + 6 ≤ j ∧ j < b + 14) ∨ j = b + 20 ∨ j = b + 21) ∧ lv_has ls 7 [(0, .ref aM), (1, .int (zI o1)), (2, .int (zI o2)), (3, .int (zI n9)), (4, .int (zI x))]) _ ⟨ws, 0, 1, d, rfl, (by omega), (fun j => (if_neg (by omega)).symm), rfl, h, h_mo, h_da, h_dr, h_ke, h_st, h_op, h_hi, h_rw, hE, lv_sub hl [2, 3, 4, 1, 0] rfl⟩ ?_
      rintro n H locs ls ⟨ws, n9, x, da2, hn, i1, i2, i3, h, h_mo, h_da, h_dr, h_ke, h_st, h_op, h_hi, h_rw, hE, hl⟩ ih_34
      refine r_iload E 4 hl rfl dX11_swapColours_34 ?_
      refine r_aload_n E 0 hl rfl dX11_swapColours_36 ?_
      refine r_get (v := .ref (ad 8)) E h h_mo rfl inn_X11_swapColours_11 8 (by decide) fl_X11_swapColours_17 rfl dX11_swapColours_37 ?_
      refine r_iconst E dX11_swapColours_40 ?_
      refine r_iald E h h_da (by omega) (by decide) dX11_swapColours_41 ?_
      rw [show da2 0 = d 0 from (by rw [i2 0]; exact if_neg (by omega))]
      refine r_icmp_gt E 112 dX11_swapColours_42 (by decide) (by omega) (fun c_42 => ?_) (fun c_42 => ?_)
      · skip
        obtain rfl : da2 = swD d o1 o2 := by
          funext j
          rw [i2 j]
          by_cases c : 30 ≤ j ∧ j < 29 + x
          · rw [if_pos c]
          · rw [if_neg c]; unfold swD; rw [if_neg (by omega)]
        skip
        refine r_iload_n E 3 hl rfl dX11_swapColours_112 ?_
        exact r_iret E h ⟨0, rn (I 12), swD d o1 o2, rem (I 12) hs d, Or.inl ⟨by omega, by omega, rfl, by rw [i3, show (x - 1).toNat = (d 0).toNat by omega], rfl, rfl, rfl⟩, I_26, dr, ke, st, op, h_mo, h_da, h_dr, h_ke, h_rw, h_st, h_op, (by first | (rw [g_26 0 (by decide)]; first | rfl | (simp [va_up]; done) | (simp [va_up]; omega)) | rfl | (simp [va_up]; done)), (by first | exact f_26 | rfl | (simp [va_up]; done)), (fun k h0 h9 h1 h2 h3 h4 => by first | (rw [g_26 k h9]; simp [va_up, h0]; done) | simp [va_up, h0]), hE⟩ dX11_swapColours_113
      · skip
        have hcx := hD.c4 x (by omega) (by omega)
        have hdx : da2 (29 + x) = d (29 + x) := by rw [i2, if_neg (by omega)]
        have eup : sumL (fun y => if d (29 + y) = swD d o1 o2 (29 + y) then 0 else 1) (upto (x + 1 - 1).toNat) = sumL (fun y => if d (29 + y) = swD d o1 o2 (29 + y) then 0 else 1) (upto (x - 1).toNat) + (if d (29 + x) = swD d o1 o2 (29 + x) then 0 else 1) := by
          rw [show (x + 1 - 1).toNat = (x - 1).toNat + 1 by omega]
          show sumL _ (upto (x - 1).toNat ++ [((x - 1).toNat : Int) + 1]) = _
          rw [sumL_app, show (((x - 1).toNat : Int) + 1) = x by omega]
          simp [sumL]
        refine r_aload_n E 0 hl rfl dX11_swapColours_45 ?_
        refine r_iload E 4 hl rfl dX11_swapColours_46 ?_
        refine r_callVI E h (As := [.int (zI x)]) (rest := []) (k_X11_colourOf l x h_mo h_da (by omega)) h_mo rfl gX11_swapColours_X11_colourOf rfl hd_X11_colourOf (by decide) ⟨by decide, by decide⟩ hl.1 rfl (Nat.le_of_ble_eq_true rfl) dX11_swapColours_48 rfl (fun z_48 ws H locs hp h => ?_)
        obtain ⟨rfl, rfl⟩ := hp
        refine r_istore (lv' := [(5, .int (zI (da2 (29 + x) - 1))), (0, .ref aM), (1, .int (zI o1)), (2, .int (zI o2)), (3, .int (zI n9)), (4, .int (zI x))]) E hl dX11_swapColours_51 (by decide) rfl (fun ls hl => ?_)
        refine r_iload E 0 hl rfl dX11_swapColours_53 ?_
        refine r_iload_n E 2 hl rfl dX11_swapColours_55 ?_
        refine r_icmp_ne E 63 dX11_swapColours_56 (by decide) (by omega) (fun c_56 => ?_) (fun c_56 => ?_)
        · skip
          refine r_iload E 0 hl rfl dX11_swapColours_63 ?_
          refine r_iload_n E 3 hl rfl dX11_swapColours_65 ?_
          refine r_icmp_ne E 73 dX11_swapColours_66 (by decide) (by omega) (fun c_66 => ?_) (fun c_66 => ?_)
          · skip
            refine r_iload E 0 hl rfl dX11_swapColours_73 ?_
            have hsw : swD d o1 o2 (29 + x) = (da2 (29 + x) - 1) + 1 := by
              unfold swD
              rw [if_pos (by omega)]
              first | (rw [if_pos (by omega)]; done) | (rw [if_neg (by omega), if_pos (by omega)]; done) | (rw [if_neg (by omega), if_neg (by omega)]; omega)
            refine r_istore (lv' := [(6, .int (zI (da2 (29 + x) - 1))), (5, .int (zI (da2 (29 + x) - 1))), (0, .ref aM), (1, .int (zI o1)), (2, .int (zI o2)), (3, .int (zI n9)), (4, .int (zI x))]) E hl dX11_swapColours_75 (by decide) rfl (fun ls hl => ?_)
            refine r_iload_n E 5 hl rfl dX11_swapColours_77 ?_
            refine r_iload E 0 hl rfl dX11_swapColours_78 ?_
            refine r_iload E 1 hl rfl dX11_swapColours_80 ?_
            refine r_cut (α := Int) (fun x_82 H locs ls => (x_82 = 1 ∧ ¬ (da2 (29 + x) - 1) = (da2 (29 + x) - 1) ∨ x_82 = 0 ∧ (da2 (29 + x) - 1) = (da2 (29 + x) - 1)) ∧ Hp G ws A s.heap H locs ∧ lv_has ls 7 [(6, .int (zI (da2 (29 + x) - 1))), (5, .int (zI (da2 (29 + x) - 1))), (0, .ref aM), (1, .int (zI o1)), (2, .int (zI o2)), (3, .int (zI n9)), (4, .int (zI x))]) 90 (fun x_82 => [.int (zI x_82), .int (zI n9)]) ?_ ?_
            · rintro x_82 H locs ls ⟨b_82, h, hl⟩
              refine r_iadd E dX11_swapColours_90 ?_
              refine r_istore_n (lv' := [(3, .int (zI (n9 + x_82))), (6, .int (zI (da2 (29 + x) - 1))), (5, .int (zI (da2 (29 + x) - 1))), (0, .ref aM), (1, .int (zI o1)), (2, .int (zI o2)), (4, .int (zI x))]) E hl dX11_swapColours_91 rfl (by decide) rfl (fun ls hl => ?_)
              refine r_aload_n E 3 hl rfl dX11_swapColours_92 ?_
              refine r_get (v := .ref (ad 8)) E h h_mo rfl inn_X11_swapColours_11 8 (by decide) fl_X11_swapColours_17 rfl dX11_swapColours_93 ?_
              refine r_bipush E dX11_swapColours_96 (by decide) ?_
              refine r_iload E 6 hl rfl dX11_swapColours_98 ?_
              refine r_iadd E dX11_swapColours_100 ?_
              refine r_iload E 1 hl rfl dX11_swapColours_101 ?_
              refine r_iconst E dX11_swapColours_103 ?_
              refine r_iadd E dX11_swapColours_104 ?_
              refine r_iast E h h_da (by omega) (by decide) dX11_swapColours_105 (fun ws H locs h hu => ?_)
              have h_mo := hu.keep h_mo (by omega)
              have h_da : ws[b + 2]? = some (ad 8, aI cy 1111 (uZ da2 (29 + x) ((da2 (29 + x) - 1) + 1))) := hu.1
              have h_dr := hu.keep h_dr (by omega)
              have h_ke := hu.keep h_ke (by omega)
              have h_st := hu.keep h_st (by omega)
              have h_op := hu.keep h_op (by omega)
              have h_hi := hu.keep h_hi (by omega)
              have h_rw := fun (i : Nat) (hi : i < 8) => hu.keep (h_rw i hi) (by omega)
              have hE := hE.tr (hu.eqx (by first | omega | (dsimp only <;> omega)))
              have hcn : x_82 = (if d (29 + x) = swD d o1 o2 (29 + x) then 0 else 1) := by
                rcases b_82 with ⟨a1, a2⟩ | ⟨a1, a2⟩
                · rw [a1, if_neg (by omega)]
                · rw [a1, if_pos (by omega)]
              refine r_iinc (lv' := [(4, .int (zI (x + 1))), (3, .int (zI (n9 + x_82))), (6, .int (zI (da2 (29 + x) - 1))), (5, .int (zI (da2 (29 + x) - 1))), (0, .ref aM), (1, .int (zI o1)), (2, .int (zI o2))]) E 6 hl rfl dX11_swapColours_106 (by decide) rfl (fun ls hl => ?_)
              refine r_goto E 34 dX11_swapColours_109 (by decide) ?_
              exact ih_34 _ H locs ls (by omega) ⟨ws, (n9 + x_82), (x + 1), (uZ da2 (29 + x) ((da2 (29 + x) - 1) + 1)), rfl, (by omega), (fun j => by
      by_cases e : j = 29 + x
      · subst e; rw [uZ_s, if_pos (by omega)]; omega
      · rw [uZ_n e, i2 j]
        by_cases c : 30 ≤ j ∧ j < 29 + x
        · rw [if_pos c, if_pos (by omega)]
        · rw [if_neg c, if_neg (by omega)]), (by rw [eup]; omega), h, h_mo, h_da, h_dr, h_ke, h_st, h_op, h_hi, h_rw, hE, lv_sub hl [4, 5, 6, 1, 0] rfl⟩
            · intro kb_82
              refine r_icmp_ne E 89 dX11_swapColours_82 (by decide) (by omega) (fun c_82 => ?_) (fun c_82 => ?_)
              · refine r_iconst E dX11_swapColours_89 ?_
                exact kb_82 _ H locs ls ⟨Or.inl ⟨rfl, c_82⟩, h, hl⟩
              · refine r_iconst E dX11_swapColours_85 ?_
                refine r_goto E 90 dX11_swapColours_86 (by decide) ?_
                exact kb_82 _ H locs ls ⟨Or.inr ⟨rfl, c_82⟩, h, hl⟩
          · skip
            refine r_iload_n E 2 hl rfl dX11_swapColours_69 ?_
            refine r_goto E 75 dX11_swapColours_70 (by decide) ?_
            have hsw : swD d o1 o2 (29 + x) = o1 + 1 := by
              unfold swD
              rw [if_pos (by omega)]
              first | (rw [if_pos (by omega)]; done) | (rw [if_neg (by omega), if_pos (by omega)]; done) | (rw [if_neg (by omega), if_neg (by omega)]; omega)
            refine r_istore (lv' := [(6, .int (zI o1)), (5, .int (zI (da2 (29 + x) - 1))), (0, .ref aM), (1, .int (zI o1)), (2, .int (zI o2)), (3, .int (zI n9)), (4, .int (zI x))]) E hl dX11_swapColours_75 (by decide) rfl (fun ls hl => ?_)
            refine r_iload_n E 5 hl rfl dX11_swapColours_77 ?_
            refine r_iload E 0 hl rfl dX11_swapColours_78 ?_
            refine r_iload E 1 hl rfl dX11_swapColours_80 ?_
            refine r_cut (α := Int) (fun x_82 H locs ls => (x_82 = 1 ∧ ¬ o1 = (da2 (29 + x) - 1) ∨ x_82 = 0 ∧ o1 = (da2 (29 + x) - 1)) ∧ Hp G ws A s.heap H locs ∧ lv_has ls 7 [(6, .int (zI o1)), (5, .int (zI (da2 (29 + x) - 1))), (0, .ref aM), (1, .int (zI o1)), (2, .int (zI o2)), (3, .int (zI n9)), (4, .int (zI x))]) 90 (fun x_82 => [.int (zI x_82), .int (zI n9)]) ?_ ?_
            · rintro x_82 H locs ls ⟨b_82, h, hl⟩
              refine r_iadd E dX11_swapColours_90 ?_
              refine r_istore_n (lv' := [(3, .int (zI (n9 + x_82))), (6, .int (zI o1)), (5, .int (zI (da2 (29 + x) - 1))), (0, .ref aM), (1, .int (zI o1)), (2, .int (zI o2)), (4, .int (zI x))]) E hl dX11_swapColours_91 rfl (by decide) rfl (fun ls hl => ?_)
              refine r_aload_n E 3 hl rfl dX11_swapColours_92 ?_
              refine r_get (v := .ref (ad 8)) E h h_mo rfl inn_X11_swapColours_11 8 (by decide) fl_X11_swapColours_17 rfl dX11_swapColours_93 ?_
              refine r_bipush E dX11_swapColours_96 (by decide) ?_
              refine r_iload E 6 hl rfl dX11_swapColours_98 ?_
              refine r_iadd E dX11_swapColours_100 ?_
              refine r_iload E 1 hl rfl dX11_swapColours_101 ?_
              refine r_iconst E dX11_swapColours_103 ?_
              refine r_iadd E dX11_swapColours_104 ?_
              refine r_iast E h h_da (by omega) (by decide) dX11_swapColours_105 (fun ws H locs h hu => ?_)
              have h_mo := hu.keep h_mo (by omega)
              have h_da : ws[b + 2]? = some (ad 8, aI cy 1111 (uZ da2 (29 + x) (o1 + 1))) := hu.1
              have h_dr := hu.keep h_dr (by omega)
              have h_ke := hu.keep h_ke (by omega)
              have h_st := hu.keep h_st (by omega)
              have h_op := hu.keep h_op (by omega)
              have h_hi := hu.keep h_hi (by omega)
              have h_rw := fun (i : Nat) (hi : i < 8) => hu.keep (h_rw i hi) (by omega)
              have hE := hE.tr (hu.eqx (by first | omega | (dsimp only <;> omega)))
              have hcn : x_82 = (if d (29 + x) = swD d o1 o2 (29 + x) then 0 else 1) := by
                rcases b_82 with ⟨a1, a2⟩ | ⟨a1, a2⟩
                · rw [a1, if_neg (by omega)]
                · rw [a1, if_pos (by omega)]
              refine r_iinc (lv' := [(4, .int (zI (x + 1))), (3, .int (zI (n9 + x_82))), (6, .int (zI o1)), (5, .int (zI (da2 (29 + x) - 1))), (0, .ref aM), (1, .int (zI o1)), (2, .int (zI o2))]) E 6 hl rfl dX11_swapColours_106 (by decide) rfl (fun ls hl => ?_)
              refine r_goto E 34 dX11_swapColours_109 (by decide) ?_
              exact ih_34 _ H locs ls (by omega) ⟨ws, (n9 + x_82), (x + 1), (uZ da2 (29 + x) (o1 + 1)), rfl, (by omega), (fun j => by
      by_cases e : j = 29 + x
      · subst e; rw [uZ_s, if_pos (by omega)]; omega
      · rw [uZ_n e, i2 j]
        by_cases c : 30 ≤ j ∧ j < 29 + x
        · rw [if_pos c, if_pos (by omega)]
        · rw [if_neg c, if_neg (by omega)]), (by rw [eup]; omega), h, h_mo, h_da, h_dr, h_ke, h_st, h_op, h_hi, h_rw, hE, lv_sub hl [4, 5, 6, 1, 0] rfl⟩
            · intro kb_82
              refine r_icmp_ne E 89 dX11_swapColours_82 (by decide) (by omega) (fun c_82 => ?_) (fun c_82 => ?_)
              · refine r_iconst E dX11_swapColours_89 ?_
                exact kb_82 _ H locs ls ⟨Or.inl ⟨rfl, c_82⟩, h, hl⟩
              · refine r_iconst E dX11_swapColours_85 ?_
                refine r_goto E 90 dX11_swapColours_86 (by decide) ?_
                exact kb_82 _ H locs ls ⟨Or.inr ⟨rfl, c_82⟩, h, hl⟩
        · skip
          refine r_iload_n E 3 hl rfl dX11_swapColours_59 ?_
          refine r_goto E 75 dX11_swapColours_60 (by decide) ?_
          have hsw : swD d o1 o2 (29 + x) = o2 + 1 := by
            unfold swD
            rw [if_pos (by omega)]
            first | (rw [if_pos (by omega)]; done) | (rw [if_neg (by omega), if_pos (by omega)]; done) | (rw [if_neg (by omega), if_neg (by omega)]; omega)
          refine r_istore (lv' := [(6, .int (zI o2)), (5, .int (zI (da2 (29 + x) - 1))), (0, .ref aM), (1, .int (zI o1)), (2, .int (zI o2)), (3, .int (zI n9)), (4, .int (zI x))]) E hl dX11_swapColours_75 (by decide) rfl (fun ls hl => ?_)
          refine r_iload_n E 5 hl rfl dX11_swapColours_77 ?_
          refine r_iload E 0 hl rfl dX11_swapColours_78 ?_
          refine r_iload E 1 hl rfl dX11_swapColours_80 ?_
          refine r_cut (α := Int) (fun x_82 H locs ls => (x_82 = 1 ∧ ¬ o2 = (da2 (29 + x) - 1) ∨ x_82 = 0 ∧ o2 = (da2 (29 + x) - 1)) ∧ Hp G ws A s.heap H locs ∧ lv_has ls 7 [(6, .int (zI o2)), (5, .int (zI (da2 (29 + x) - 1))), (0, .ref aM), (1, .int (zI o1)), (2, .int (zI o2)), (3, .int (zI n9)), (4, .int (zI x))]) 90 (fun x_82 => [.int (zI x_82), .int (zI n9)]) ?_ ?_
          · rintro x_82 H locs ls ⟨b_82, h, hl⟩
            refine r_iadd E dX11_swapColours_90 ?_
            refine r_istore_n (lv' := [(3, .int (zI (n9 + x_82))), (6, .int (zI o2)), (5, .int (zI (da2 (29 + x) - 1))), (0, .ref aM), (1, .int (zI o1)), (2, .int (zI o2)), (4, .int (zI x))]) E hl dX11_swapColours_91 rfl (by decide) rfl (fun ls hl => ?_)
            refine r_aload_n E 3 hl rfl dX11_swapColours_92 ?_
            refine r_get (v := .ref (ad 8)) E h h_mo rfl inn_X11_swapColours_11 8 (by decide) fl_X11_swapColours_17 rfl dX11_swapColours_93 ?_
            refine r_bipush E dX11_swapColours_96 (by decide) ?_
            refine r_iload E 6 hl rfl dX11_swapColours_98 ?_
            refine r_iadd E dX11_swapColours_100 ?_
            refine r_iload E 1 hl rfl dX11_swapColours_101 ?_
            refine r_iconst E dX11_swapColours_103 ?_
            refine r_iadd E dX11_swapColours_104 ?_
            refine r_iast E h h_da (by omega) (by decide) dX11_swapColours_105 (fun ws H locs h hu => ?_)
            have h_mo := hu.keep h_mo (by omega)
            have h_da : ws[b + 2]? = some (ad 8, aI cy 1111 (uZ da2 (29 + x) (o2 + 1))) := hu.1
            have h_dr := hu.keep h_dr (by omega)
            have h_ke := hu.keep h_ke (by omega)
            have h_st := hu.keep h_st (by omega)
            have h_op := hu.keep h_op (by omega)
            have h_hi := hu.keep h_hi (by omega)
            have h_rw := fun (i : Nat) (hi : i < 8) => hu.keep (h_rw i hi) (by omega)
            have hE := hE.tr (hu.eqx (by first | omega | (dsimp only <;> omega)))
            have hcn : x_82 = (if d (29 + x) = swD d o1 o2 (29 + x) then 0 else 1) := by
              rcases b_82 with ⟨a1, a2⟩ | ⟨a1, a2⟩
              · rw [a1, if_neg (by omega)]
              · rw [a1, if_pos (by omega)]
            refine r_iinc (lv' := [(4, .int (zI (x + 1))), (3, .int (zI (n9 + x_82))), (6, .int (zI o2)), (5, .int (zI (da2 (29 + x) - 1))), (0, .ref aM), (1, .int (zI o1)), (2, .int (zI o2))]) E 6 hl rfl dX11_swapColours_106 (by decide) rfl (fun ls hl => ?_)
            refine r_goto E 34 dX11_swapColours_109 (by decide) ?_
            exact ih_34 _ H locs ls (by omega) ⟨ws, (n9 + x_82), (x + 1), (uZ da2 (29 + x) (o2 + 1)), rfl, (by omega), (fun j => by
      by_cases e : j = 29 + x
      · subst e; rw [uZ_s, if_pos (by omega)]; omega
      · rw [uZ_n e, i2 j]
        by_cases c : 30 ≤ j ∧ j < 29 + x
        · rw [if_pos c, if_pos (by omega)]
        · rw [if_neg c, if_neg (by omega)]), (by rw [eup]; omega), h, h_mo, h_da, h_dr, h_ke, h_st, h_op, h_hi, h_rw, hE, lv_sub hl [4, 5, 6, 1, 0] rfl⟩
          · intro kb_82
            refine r_icmp_ne E 89 dX11_swapColours_82 (by decide) (by omega) (fun c_82 => ?_) (fun c_82 => ?_)
            · refine r_iconst E dX11_swapColours_89 ?_
              exact kb_82 _ H locs ls ⟨Or.inl ⟨rfl, c_82⟩, h, hl⟩
            · refine r_iconst E dX11_swapColours_85 ?_
              refine r_goto E 90 dX11_swapColours_86 (by decide) ?_
              exact kb_82 _ H locs ls ⟨Or.inr ⟨rfl, c_82⟩, h, hl⟩
    · skip
      refine r_iconst E dX11_swapColours_23 ?_
      exact r_iret E h ⟨t_17, I 12, d, hs, Or.inr ⟨by omega, by omega, rfl, rfl, rfl⟩, va_up (va_up (va_up I 0 0) 0 t_8) 0 t_17, dr, ke, st, op, h_mo, h_da, h_dr, h_ke, h_rw, h_st, h_op, (by first | (rw [g_26 0 (by decide)]; first | rfl | (simp [va_up]; done) | (simp [va_up]; omega)) | rfl | (simp [va_up]; done)), (by first | exact f_26 | rfl | (simp [va_up]; done)), (fun k h0 h9 h1 h2 h3 h4 => by first | (rw [g_26 k h9]; simp [va_up, h0]; done) | simp [va_up, h0]), hE⟩ dX11_swapColours_24
