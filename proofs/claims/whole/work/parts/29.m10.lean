/-- the undo rows behind one more change, and how many there are -/
def rem (n : Int) (hs : Nat → Int → Int) (d : Int → Int) : Nat → Int → Int := fun j => if n = 8 then (if j = 7 then d else hs (j + 1)) else if (j : Int) = n then d else hs j
def rn (n : Int) : Int := if n = 8 then 8 else n + 1
def MWO (cy : Nat → ClassId) (b aM : Nat) (ad ar : Nat → Nat) (I : Nat → Int) (ws0 u : va_W) (t n2 : Int) (d2 : Int → Int) (hs2 : Nat → Int → Int) : Prop := ∃ (I2 : Nat → Int) (dr2 ke2 : Int → Int) (st2 : Int → Int64) (op2 : Int → Int), u[b]? = some (aM, mO I2 ad) ∧ u[b + 2]? = some (ad 8, aI cy 1111 d2) ∧ u[b + 3]? = some (ad 9, aI cy 1111 dr2) ∧ u[b + 4]? = some (ad 10, aI cy 1111 ke2) ∧ (∀ i : Nat, i < 8 → u[b + 6 + i]? = some (ar i, aI cy 1111 (hs2 i))) ∧ u[b + 20]? = some (ad 22, aL cy 1000 st2) ∧ u[b + 21]? = some (ad 25, aI cy 40 op2) ∧ I2 0 = t ∧ I2 12 = n2 ∧ (∀ k : Nat, k ≠ 0 → k ≠ 12 → k ≠ 23 → k ≠ 24 → k ≠ 26 → k ≠ 27 → I2 k = I k) ∧ Eqx ws0 u (fun j => j = b ∨ j = b + 2 ∨ j = b + 3 ∨ j = b + 4 ∨ (b + 6 ≤ j ∧ j < b + 14) ∨ j = b + 20 ∨ j = b + 21)
/-- two colours exchanged -/
def swD (d : Int → Int) (one other : Int) : Int → Int := fun i => if 30 ≤ i ∧ i < 30 + d 0 then (if d i = one + 1 then other + 1 else if d i = other + 1 then one + 1 else d i) else d i
theorem hd_X11_remember : yX11_remember.cls = RX11 ∧ yX11_remember.cls ≠ "java/lang/invoke/MethodHandle" ∧ yX11_remember.cls ≠ "java/lang/invoke/VarHandle" ∧ (parseMethodDescriptor yX11_remember.desc).map (fun d => d.parameters.length) = some 0 := by decide +kernel
theorem fl_X11_remember_282 : Cond.fieldLink RX11 282 (TX11 12).1 (TX11 12).2.1 (TX11 12).2.2.1 ∈ wsX11_remember := List.mem_of_getElem? (i := 1) rfl
theorem inn_X11_remember_11 : ∀ w ∈ wsX110, w ∈ wsX11_remember := fun _ h => List.mem_cons_of_mem _ (List.mem_append_right _ h)
theorem fl_X11_remember_17 : Cond.fieldLink RX11 17 (TX11 8).1 (TX11 8).2.1 (TX11 8).2.2.1 ∈ wsX11_remember := List.mem_of_getElem? (i := 3) rfl
theorem fl_X11_remember_28 : Cond.fieldLink RX11 28 (TX11 11).1 (TX11 11).2.1 (TX11 11).2.2.1 ∈ wsX11_remember := List.mem_of_getElem? (i := 2) rfl
abbrev rm_X11_remember : Room := { frames := 1, cells := 0, slots := 0, locals := 22 }
set_option maxHeartbeats 4000000 in
set_option maxRecDepth 100000 in
theorem k_X11_remember (l : Launch) {G : va_G} {cy : Nat → ClassId} {ws0 : va_W} {b aM : Nat} {I : Nat → Int} {ad ar : Nat → Nat} {d : Int → Int} {hi : Int → Option Nat} {hs : Nat → Int → Int} (h_mo : ws0[b]? = some (aM, mO I ad)) (h_da : ws0[b + 2]? = some (ad 8, aI cy 1111 d)) (h_hi : ws0[b + 5]? = some (ad 11, aR cy 6 8 hi)) (h_rw : ∀ i : Nat, i < 8 → ws0[b + 6 + i]? = some (ar i, aI cy 1111 (hs i))) (hhi : ∀ i : Nat, i < 8 → hi (i : Int) = some (ar i)) (hdep : 0 ≤ I 12 ∧ I 12 ≤ 8) : MV l yX11_remember wsX11_remember rm_X11_remember G cy [.ref aM] ws0 (fun u => ∃ I2 : Nat → Int, u[b]? = some (aM, mO I2 ad) ∧ (∀ i : Nat, i < 8 → u[b + 6 + i]? = some (ar i, aI cy 1111 (rem (I 12) hs d i))) ∧ (I2 12 = rn (I 12) ∧ ∀ k : Nat, k ≠ 12 → I2 k = I k) ∧ Eqx ws0 u (fun j => j = b ∨ (b + 6 ≤ j ∧ j < b + 14))) := by
  refine MV.of (own := RX11) (cc := cX11_remember) (nL := 2) (ret := none) (by decide) rfl rfl (Nat.le_of_ble_eq_true rfl) ?_
  intro p e s m below meth c A ls hin E h hl
  have hl : lv_has ls 2 [(0, .ref aM)] := hl
  have hE : Eqx ws0 ws0 (fun j => j = b ∨ (b + 6 ≤ j ∧ j < b + 14)) := Eqx.rf
  refine r_aload_n E 0 hl rfl dX11_remember_0 ?_
  refine r_get (v := .int (zI (I 12))) E h h_mo rfl inn_X11_remember_11 12 (by decide) fl_X11_remember_282 rfl dX11_remember_1 ?_
  refine r_bipush E dX11_remember_4 (by decide) ?_
  refine r_icmp_ne E 50 dX11_remember_6 (by decide) (by omega) (fun c_6 => ?_) (fun c_6 => ?_)
  · skip
    refine r_aload_n E 0 hl rfl dX11_remember_50 ?_
    refine r_get (v := .ref (ad 8)) E h h_mo rfl inn_X11_remember_11 8 (by decide) fl_X11_remember_17 rfl dX11_remember_51 ?_
    refine r_aload_n E 0 hl rfl dX11_remember_54 ?_
    refine r_get (v := .ref (ad 11)) E h h_mo rfl inn_X11_remember_11 11 (by decide) fl_X11_remember_28 rfl dX11_remember_55 ?_
    refine r_aload_n E 0 hl rfl dX11_remember_58 ?_
    refine r_get (v := .int (zI (I 12))) E h h_mo rfl inn_X11_remember_11 12 (by decide) fl_X11_remember_282 rfl dX11_remember_59 ?_
    have h_r3 := h_rw (Int.toNat (I 12)) (by omega)
    refine r_aaldA E h h_hi (by omega) (by decide) dX11_remember_62 (r := some (ar (Int.toNat (I 12)))) (by rw [show I 12 = ((Int.toNat (I 12) : Nat) : Int) by omega]; exact hhi _ (by omega)) ?_
    refine r_callSV E h (As := [.ref (ad 8), .ref (ar (Int.toNat (I 12)))]) (rest := []) (k_X11_copy l h_da h_r3 (by omega)) gX11_remember_X11_copy rfl hd_X11_copy (by decide) ⟨by decide, by decide⟩ hl.1 rfl (Nat.le_of_ble_eq_true rfl) dX11_remember_63 rfl (fun ws H locs hp h => ?_)
    obtain ⟨h_r3, hf⟩ := hp
    have h_mo := hf.at h_mo (by first | omega | (dsimp only <;> omega))
    have h_da := hf.at h_da (by first | omega | (dsimp only <;> omega))
    have h_hi := hf.at h_hi (by first | omega | (dsimp only <;> omega))
    have h_rw : ∀ i : Nat, i < 8 → ws[b + 6 + i]? = some (ar i, aI cy 1111 ((rem (I 12) hs d) i)) := fun i hi => by
      by_cases e : i = (Int.toNat (I 12))
      · rw [e]; unfold rem; rw [if_neg (by omega), if_pos (by omega)]; exact h_r3
      · have e9 := hf.at (h_rw i hi) (by first | omega | (dsimp only <;> omega))
        unfold rem; rw [if_neg (by omega), if_neg (by omega)]; exact e9
    have hE := hE.tr (hf.wk (fun j hj => by first | omega | (dsimp only at hj ⊢ <;> omega)))
    refine r_aload_n E 0 hl rfl dX11_remember_66 ?_
    refine r_dup E dX11_remember_67 rfl ?_
    refine r_get (v := .int (zI (I 12))) E h h_mo rfl inn_X11_remember_11 12 (by decide) fl_X11_remember_282 rfl dX11_remember_68 ?_
    refine r_iconst E dX11_remember_71 ?_
    refine r_iadd E dX11_remember_72 ?_
    refine r_put E h h_mo rfl inn_X11_remember_11 12 (by decide) fl_X11_remember_282 tyX11 tyX11_ok nmX11 rfl rfl rfl (Nat.le_of_ble_eq_true rfl) dX11_remember_73 (fun ws H locs h hu => ?_)
    have h_mo : ws[b]? = some (aM, mO (va_up I 12 ((I 12) + 1)) ad) := hu.1
    have h_da := hu.keep h_da (by omega)
    have h_hi := hu.keep h_hi (by omega)
    have h_rw := fun (i : Nat) (hi : i < 8) => hu.keep (h_rw i hi) (by omega)
    have h_r3 := hu.keep h_r3 (by omega)
    have hE := hE.tr (hu.eqx (by first | omega | (dsimp only <;> omega)))
    exact r_vret E h ⟨va_up I 12 ((I 12) + 1), h_mo, h_rw, ⟨by unfold rn; first | (rw [if_pos (by omega)]; simp [va_up]; omega) | (rw [if_neg (by omega)]; simp [va_up]), fun k h1 => by simp [va_up, h1]⟩, hE⟩ dX11_remember_76
  · skip
    refine r_iconst E dX11_remember_9 ?_
    refine r_istore_n (lv' := [(1, .int (zI 1)), (0, .ref aM)]) E hl dX11_remember_10 rfl (by decide) rfl (fun ls hl => ?_)
    refine r_loop (fun n H locs ls => ∃ (ws : va_W) (k : Int) (hs3 : Nat → Int → Int), n = (8 - k).toNat ∧ (1 ≤ k ∧ k ≤ 8) ∧ (∀ j : Nat, j < 8 → hs3 j = if (j : Int) < k - 1 then hs (j + 1) else hs j) ∧ Hp G ws A s.heap H locs ∧ (ws[b]? = some (aM, mO I ad)) ∧ (ws[b + 2]? = some (ad 8, aI cy 1111 d)) ∧ (ws[b + 5]? = some (ad 11, aR cy 6 8 hi)) ∧ (∀ i : Nat, i < 8 → ws[b + 6 + i]? = some (ar i, aI cy 1111 (hs3 i))) ∧ Eqx ws0 ws (fun j => j = b ∨ (b + 6 ≤ j ∧ j < b + 14)) ∧ lv_has ls 2 [(0, .ref aM), (1, .int (zI k))]) _ ⟨ws0, 1, hs, rfl, (by omega), (fun j _ => (if_neg (by omega)).symm), h, h_mo, h_da, h_hi, h_rw, hE, lv_sub hl [1, 0] rfl⟩ ?_
    rintro n H locs ls ⟨ws, k, hs3, hn, i1, i2, h, h_mo, h_da, h_hi, h_rw, hE, hl⟩ ih_11
    refine r_iload_n E 1 hl rfl dX11_remember_11 ?_
    refine r_bipush E dX11_remember_12 (by decide) ?_
    refine r_icmp_ge E 40 dX11_remember_14 (by decide) (by omega) (fun c_14 => ?_) (fun c_14 => ?_)
    · skip
      refine r_aload_n E 0 hl rfl dX11_remember_40 ?_
      refine r_dup E dX11_remember_41 rfl ?_
      refine r_get (v := .int (zI (I 12))) E h h_mo rfl inn_X11_remember_11 12 (by decide) fl_X11_remember_282 rfl dX11_remember_42 ?_
      refine r_iconst E dX11_remember_45 ?_
      refine r_isub E dX11_remember_46 ?_
      refine r_put E h h_mo rfl inn_X11_remember_11 12 (by decide) fl_X11_remember_282 tyX11 tyX11_ok nmX11 rfl rfl rfl (Nat.le_of_ble_eq_true rfl) dX11_remember_47 (fun ws H locs h hu => ?_)
      have h_mo : ws[b]? = some (aM, mO (va_up I 12 ((I 12) - 1)) ad) := hu.1
      have h_da := hu.keep h_da (by omega)
      have h_hi := hu.keep h_hi (by omega)
      have h_rw := fun (i : Nat) (hi : i < 8) => hu.keep (h_rw i hi) (by omega)
      have hE := hE.tr (hu.eqx (by first | omega | (dsimp only <;> omega)))
      refine r_aload_n E 0 hl rfl dX11_remember_50 ?_
      refine r_get (v := .ref (ad 8)) E h h_mo rfl inn_X11_remember_11 8 (by decide) fl_X11_remember_17 rfl dX11_remember_51 ?_
      refine r_aload_n E 0 hl rfl dX11_remember_54 ?_
      refine r_get (v := .ref (ad 11)) E h h_mo rfl inn_X11_remember_11 11 (by decide) fl_X11_remember_28 rfl dX11_remember_55 ?_
      refine r_aload_n E 0 hl rfl dX11_remember_58 ?_
      refine r_get (v := .int (zI ((I 12) - 1))) E h h_mo rfl inn_X11_remember_11 12 (by decide) fl_X11_remember_282 rfl dX11_remember_59 ?_
      have h_r3 := h_rw (Int.toNat ((I 12) - 1)) (by omega)
      refine r_aaldA E h h_hi (by omega) (by decide) dX11_remember_62 (r := some (ar (Int.toNat ((I 12) - 1)))) (by rw [show (I 12) - 1 = ((Int.toNat ((I 12) - 1) : Nat) : Int) by omega]; exact hhi _ (by omega)) ?_
      refine r_callSV E h (As := [.ref (ad 8), .ref (ar (Int.toNat ((I 12) - 1)))]) (rest := []) (k_X11_copy l h_da h_r3 (by omega)) gX11_remember_X11_copy rfl hd_X11_copy (by decide) ⟨by decide, by decide⟩ hl.1 rfl (Nat.le_of_ble_eq_true rfl) dX11_remember_63 rfl (fun ws H locs hp h => ?_)
      obtain ⟨h_r3, hf⟩ := hp
      have h_mo := hf.at h_mo (by first | omega | (dsimp only <;> omega))
      have h_da := hf.at h_da (by first | omega | (dsimp only <;> omega))
      have h_hi := hf.at h_hi (by first | omega | (dsimp only <;> omega))
      have h_rw : ∀ i : Nat, i < 8 → ws[b + 6 + i]? = some (ar i, aI cy 1111 ((rem (I 12) hs d) i)) := fun i hi => by
        by_cases e : i = (Int.toNat ((I 12) - 1))
        · rw [e]; unfold rem; rw [if_pos (by omega), if_pos (by omega)]; exact h_r3
        · have e9 := hf.at (h_rw i hi) (by first | omega | (dsimp only <;> omega))
          unfold rem; rw [if_pos (by omega), if_neg (by omega)]; rw [i2 i hi, if_pos (by omega)] at e9; exact e9
      have hE := hE.tr (hf.wk (fun j hj => by first | omega | (dsimp only at hj ⊢ <;> omega)))
      refine r_aload_n E 0 hl rfl dX11_remember_66 ?_
      refine r_dup E dX11_remember_67 rfl ?_
      refine r_get (v := .int (zI ((I 12) - 1))) E h h_mo rfl inn_X11_remember_11 12 (by decide) fl_X11_remember_282 rfl dX11_remember_68 ?_
      refine r_iconst E dX11_remember_71 ?_
      refine r_iadd E dX11_remember_72 ?_
      refine r_put E h h_mo rfl inn_X11_remember_11 12 (by decide) fl_X11_remember_282 tyX11 tyX11_ok nmX11 rfl rfl rfl (Nat.le_of_ble_eq_true rfl) dX11_remember_73 (fun ws H locs h hu => ?_)
      have h_mo : ws[b]? = some (aM, mO (va_up (va_up I 12 ((I 12) - 1)) 12 (((I 12) - 1) + 1)) ad) := hu.1
      have h_da := hu.keep h_da (by omega)
      have h_hi := hu.keep h_hi (by omega)
      have h_rw := fun (i : Nat) (hi : i < 8) => hu.keep (h_rw i hi) (by omega)
      have h_r3 := hu.keep h_r3 (by omega)
      have hE := hE.tr (hu.eqx (by first | omega | (dsimp only <;> omega)))
      exact r_vret E h ⟨va_up (va_up I 12 ((I 12) - 1)) 12 (((I 12) - 1) + 1), h_mo, h_rw, ⟨by unfold rn; first | (rw [if_pos (by omega)]; simp [va_up]; omega) | (rw [if_neg (by omega)]; simp [va_up]), fun k h1 => by simp [va_up, h1]⟩, hE⟩ dX11_remember_76
    · skip
      have hk9 : (k.toNat : Int) = k := by omega
      have hk8 : ((k - 1).toNat : Int) = k - 1 := by omega
      refine r_aload_n E 0 hl rfl dX11_remember_17 ?_
      refine r_get (v := .ref (ad 11)) E h h_mo rfl inn_X11_remember_11 11 (by decide) fl_X11_remember_28 rfl dX11_remember_18 ?_
      refine r_iload_n E 1 hl rfl dX11_remember_21 ?_
      have h_r1 := h_rw k.toNat (by omega)
      refine r_aaldA E h h_hi (by omega) (by decide) dX11_remember_22 (r := some (ar k.toNat)) (by rw [show k = ((k.toNat : Nat) : Int) by omega]; exact hhi _ (by omega)) ?_
      refine r_aload_n E 0 hl rfl dX11_remember_23 ?_
      refine r_get (v := .ref (ad 11)) E h h_mo rfl inn_X11_remember_11 11 (by decide) fl_X11_remember_28 rfl dX11_remember_24 ?_
      refine r_iload_n E 1 hl rfl dX11_remember_27 ?_
      refine r_iconst E dX11_remember_28 ?_
      refine r_isub E dX11_remember_29 ?_
      have h_r2 := h_rw ((k - 1).toNat) (by omega)
      refine r_aaldA E h h_hi (by omega) (by decide) dX11_remember_30 (r := some (ar ((k - 1).toNat))) (by rw [show k - 1 = (((k - 1).toNat : Nat) : Int) by omega]; exact hhi _ (by omega)) ?_
      refine r_callSV E h (As := [.ref (ar k.toNat), .ref (ar ((k - 1).toNat))]) (rest := []) (k_X11_copy l h_r1 h_r2 (by omega)) gX11_remember_X11_copy rfl hd_X11_copy (by decide) ⟨by decide, by decide⟩ hl.1 rfl (Nat.le_of_ble_eq_true rfl) dX11_remember_31 rfl (fun ws H locs hp h => ?_)
      obtain ⟨h_r2, hf⟩ := hp
      have h_mo := hf.at h_mo (by first | omega | (dsimp only <;> omega))
      have h_da := hf.at h_da (by first | omega | (dsimp only <;> omega))
      have h_hi := hf.at h_hi (by first | omega | (dsimp only <;> omega))
      have h_r1 := hf.at h_r1 (by first | omega | (dsimp only <;> omega))
      have h_rw : ∀ i : Nat, i < 8 → ws[b + 6 + i]? = some (ar i, aI cy 1111 ((va_up hs3 (k - 1).toNat (hs3 k.toNat)) i)) := fun i hi => by
        by_cases e : i = (k - 1).toNat
        · rw [e]; exact (by rw [show va_up hs3 (k - 1).toNat (hs3 k.toNat) (k - 1).toNat = hs3 k.toNat from if_pos rfl]; exact h_r2)
        · rw [show va_up hs3 (k - 1).toNat (hs3 k.toNat) i = hs3 i from if_neg e]; exact hf.at (h_rw i hi) (by first | omega | (dsimp only <;> omega))
      have hE := hE.tr (hf.wk (fun j hj => by first | omega | (dsimp only at hj ⊢ <;> omega)))
      refine r_iinc (lv' := [(1, .int (zI (k + 1))), (0, .ref aM)]) E 1 hl rfl dX11_remember_34 (by decide) rfl (fun ls hl => ?_)
      refine r_goto E 11 dX11_remember_37 (by decide) ?_
      exact ih_11 _ H locs ls (by omega) ⟨ws, (k + 1), (va_up hs3 (k - 1).toNat (hs3 k.toNat)), rfl, (by omega), (fun j hj => by
      by_cases e : j = (k - 1).toNat
      · rw [e, show va_up hs3 (k - 1).toNat (hs3 k.toNat) (k - 1).toNat = hs3 k.toNat from if_pos rfl, i2 _ (by omega), if_neg (by omega), if_pos (by omega), show k.toNat = (k - 1).toNat + 1 by omega]
      · rw [show va_up hs3 (k - 1).toNat (hs3 k.toNat) j = hs3 j from if_neg e, i2 j hj]
        by_cases c : (j : Int) < k - 1
        · rw [if_pos c, if_pos (by omega)]
        · rw [if_neg c, if_neg (by omega)]), h, h_mo, h_da, h_hi, h_rw, hE, lv_sub hl [1, 0] rfl⟩
