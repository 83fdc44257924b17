theorem hd_X2_init : yX2_init.cls ≠ "java/lang/invoke/MethodHandle" ∧ yX2_init.cls ≠ "java/lang/invoke/VarHandle" ∧ (parseMethodDescriptor yX2_init.desc).map (fun d => d.parameters.length) = some 0 := by decide +kernel
theorem fl_X2_init_11 : Cond.fieldLink RX2 11 (TX2 0).1 (TX2 0).2.1 (TX2 0).2.2.1 ∈ wsX2_init := List.mem_of_getElem? (i := 5) rfl
theorem inn_X2_init_2 : ∀ w ∈ wsX20, w ∈ wsX2_init := fun _ h => List.mem_cons_of_mem _ (List.mem_append_left _ (List.mem_append_right _ h))
theorem fl_X2_init_17 : Cond.fieldLink RX2 17 (TX2 1).1 (TX2 1).2.1 (TX2 1).2.2.1 ∈ wsX2_init := List.mem_of_getElem? (i := 7) rfl
theorem fl_X2_init_21 : Cond.fieldLink RX2 21 (TX2 2).1 (TX2 2).2.1 (TX2 2).2.2.1 ∈ wsX2_init := List.mem_of_getElem? (i := 8) rfl
theorem fl_X2_init_25 : Cond.fieldLink RX2 25 (TX2 3).1 (TX2 3).2.1 (TX2 3).2.2.1 ∈ wsX2_init := List.mem_of_getElem? (i := 9) rfl
theorem inn_X2_init_0 : ∀ w ∈ wsX00, w ∈ wsX2_init := fun _ h => List.mem_cons_of_mem _ (List.mem_append_right _ h)
abbrev rm_X2_init : Room := { frames := 2, cells := 18, slots := 64, locals := 44 }
set_option maxHeartbeats 1200000 in
set_option maxRecDepth 100000 in
theorem k_X2_init (l : Launch) {G : va_G} {cy : Nat → ClassId} {ws0 : va_W} {q a B : Nat} (h_t9 : ws0[q]? = some (a, .inr (2, [.null, .null, .int (zI 0), .int (zI 0)]))) (hlen : ws0.length = B) : MVk l yX2_init wsX2_init rm_X2_init G cy [.ref a] ws0 (fun u => ∃ (ahsu ahco : Nat) (hac hap : Nat → Nat) (hcf : Int → Option Nat), u[q]? = some (a, .inr (2, [.ref ahsu, .ref ahco, .int (zI 0), .int (zI 0)])) ∧ u[B]? = some (ahsu, aR cy 5 8 (fun _ => none)) ∧ u[B + 1]? = some (ahco, aR cy 3 8 hcf) ∧ (∀ i : Nat, i < 8 → hcf (i : Int) = some (hac i)) ∧ (∀ i : Nat, i < 8 → u[B + 2 + 2 * i]? = some (hac i, .inr (0, [.ref (hap i), .long (fmk 0 (fun _ => 0))])) ∧ u[B + 2 + 2 * i + 1]? = some (hap i, aL cy 4 (mk 0 (fun _ => 0)))) ∧ u.length = B + 18 ∧ Eqx ws0 u (fun j => j = q)) := by
  refine MVk.of (own := RX2) (cc := cX2_init) (nL := 2) (ret := none) (by decide) rfl rfl (Nat.le_of_ble_eq_true rfl) ?_
  intro p e s m below meth c A ls hX hin E h hl
  have hl : lv_has ls 2 [(0, .ref a)] := hl
  have hE : Eqx ws0 ws0 (fun j => j = q) := Eqx.rf
  have hqB : q < B := by have := lt_of_at h_t9; omega
  have hlen0 := hlen
  refine r_aload_n E 0 hl rfl dX2_init_0 ?_
  refine r_objI E (List.mem_of_getElem? (i := 1) rfl) (List.mem_of_getElem? (i := 2) rfl) (List.mem_of_getElem? (i := 3) rfl) hl.1 ⟨by decide, Nat.le_of_ble_eq_true rfl⟩ dX2_init_1 ?_
  refine r_aload_n E 0 hl rfl dX2_init_4 ?_
  refine r_bipush E dX2_init_5 (by decide) ?_
  refine r_newRk (t := 5) (N := 8) E h rfl ⟨rfl, by decide⟩ (List.mem_of_getElem? (i := 4) rfl) (hX.ao (by decide)) (by decide) (by decide) dX2_init_7 (fun a_7 ws H hu h => ?_)
  have h_t9 := hu.keep h_t9
  have h_n7 : ws[B]? = some (a_7, aR cy 5 8 ((fun _ => none))) := by have h9 := hu.new; rwa [hlen] at h9
  have hlen : ws.length = B + 1 := by have h9 := hu.len; omega
  have hE := hE.tr hu.eqx
  refine r_putF E hin h h_t9 rfl inn_X2_init_2 0 (by decide) fl_X2_init_11 tyX2 tyX2_ok nmX2 rfl rfl rfl rfl (Nat.le_of_ble_eq_true rfl) dX2_init_10 (fun ws H locs h hu => ?_)
  have h_t9 : ws[q]? = some (a, .inr (2, [.ref a_7, .null, .int (zI 0), .int (zI 0)])) := hu.1
  have h_n7 := hu.keep h_n7 (by omega)
  have hE : Eqx ws0 ws (fun j => j = q) := by first | exact hE.tr (hu.eqx (by first | omega | (dsimp only <;> omega))) | exact hE.up hu (by omega)
  have hlen := hu.2.1.trans hlen
  refine r_aload_n E 0 hl rfl dX2_init_13 ?_
  refine r_bipush E dX2_init_14 (by decide) ?_
  refine r_newRk (t := 3) (N := 8) E h rfl ⟨rfl, by decide⟩ (List.mem_of_getElem? (i := 6) rfl) (hX.ao (by decide)) (by decide) (by decide) dX2_init_16 (fun a_16 ws H hu h => ?_)
  have h_t9 := hu.keep h_t9
  have h_n7 := hu.keep h_n7
  have h_n16 : ws[B + 1]? = some (a_16, aR cy 3 8 ((fun _ => none))) := by have h9 := hu.new; rwa [hlen] at h9
  have hlen : ws.length = B + 2 := by have h9 := hu.len; omega
  have hE := hE.tr hu.eqx
  refine r_putF E hin h h_t9 rfl inn_X2_init_2 1 (by decide) fl_X2_init_17 tyX2 tyX2_ok nmX2 rfl rfl rfl rfl (Nat.le_of_ble_eq_true rfl) dX2_init_19 (fun ws H locs h hu => ?_)
  have h_t9 : ws[q]? = some (a, .inr (2, [.ref a_7, .ref a_16, .int (zI 0), .int (zI 0)])) := hu.1
  have h_n7 := hu.keep h_n7 (by omega)
  have h_n16 := hu.keep h_n16 (by omega)
  have hE : Eqx ws0 ws (fun j => j = q) := by first | exact hE.tr (hu.eqx (by first | omega | (dsimp only <;> omega))) | exact hE.up hu (by omega)
  have hlen := hu.2.1.trans hlen
  refine r_aload_n E 0 hl rfl dX2_init_22 ?_
  refine r_iconst E dX2_init_23 ?_
  refine r_put E h h_t9 rfl inn_X2_init_2 2 (by decide) fl_X2_init_21 tyX2 tyX2_ok nmX2 rfl rfl rfl (Nat.le_of_ble_eq_true rfl) dX2_init_24 (fun ws H locs h hu => ?_)
  have h_t9 : ws[q]? = some (a, .inr (2, [.ref a_7, .ref a_16, .int (zI 0), .int (zI 0)])) := hu.1
  have h_n7 := hu.keep h_n7 (by omega)
  have h_n16 := hu.keep h_n16 (by omega)
  have hE : Eqx ws0 ws (fun j => j = q) := by first | exact hE.tr (hu.eqx (by first | omega | (dsimp only <;> omega))) | exact hE.up hu (by omega)
  have hlen := hu.2.1.trans hlen
  refine r_aload_n E 0 hl rfl dX2_init_27 ?_
  refine r_iconst E dX2_init_28 ?_
  refine r_put E h h_t9 rfl inn_X2_init_2 3 (by decide) fl_X2_init_25 tyX2 tyX2_ok nmX2 rfl rfl rfl (Nat.le_of_ble_eq_true rfl) dX2_init_29 (fun ws H locs h hu => ?_)
  have h_t9 : ws[q]? = some (a, .inr (2, [.ref a_7, .ref a_16, .int (zI 0), .int (zI 0)])) := hu.1
  have h_n7 := hu.keep h_n7 (by omega)
  have h_n16 := hu.keep h_n16 (by omega)
  have hE : Eqx ws0 ws (fun j => j = q) := by first | exact hE.tr (hu.eqx (by first | omega | (dsimp only <;> omega))) | exact hE.up hu (by omega)
  have hlen := hu.2.1.trans hlen
  refine r_iconst E dX2_init_32 ?_
  refine r_istore_n (lv' := [(1, .int (zI 0)), (0, .ref a)]) E hl dX2_init_33 rfl (by decide) rfl (fun ls hl => ?_)
  refine r_loopC (fun n k9 H locs ls => ∃ (ws : va_W) (i9 : Int) (hac : Nat → Nat) (hap : Nat → Nat) (hcf : Int → Option Nat), n = (8 - i9).toNat ∧ (0 ≤ i9 ∧ i9 ≤ 8) ∧ ((k9 : Int) = i9) ∧ (∀ j : Nat, (j : Int) < i9 → hcf (j : Int) = some (hac j)) ∧ (∀ j : Nat, (j : Int) < i9 → ws[B + 2 + 2 * j]? = some (hac j, .inr (0, [.ref (hap j), .long (fmk 0 (fun _ => 0))])) ∧ ws[B + 2 + 2 * j + 1]? = some (hap j, aL cy 4 (mk 0 (fun _ => 0)))) ∧ (ws.length = B + 2 + 2 * i9.toNat) ∧ Hp G ws A s.heap H locs ∧ (ws[q]? = some (a, .inr (2, [.ref a_7, .ref a_16, .int (zI 0), .int (zI 0)]))) ∧ (ws[B]? = some (a_7, aR cy 5 8 ((fun _ => none)))) ∧ (ws[B + 1]? = some (a_16, aR cy 3 8 hcf)) ∧ Eqx ws0 ws (fun j => j = q) ∧ lv_has ls 2 [(0, .ref a), (1, .int (zI i9))]) (fun k => 2 + 2 * k) (fun k => 16 + 6 * k) _ 0 ⟨by decide, by decide⟩ ⟨ws, 0, ((fun _ => 0)), ((fun _ => 0)), ((fun _ => none)), rfl, (by omega), rfl, (fun j hj => absurd hj (by omega)), (fun j hj => absurd hj (by omega)), hlen, h, h_t9, h_n7, h_n16, hE, lv_sub hl [1, 0] rfl⟩ ?_
  rintro n k9 H locs ls ⟨ws, i9, hac, hap, hcf, hn, i1, hk9, i2, i3, hlen, h, h_t9, h_n7, h_n16, hE, hl⟩ ih_34
  refine r_iload_n E 1 hl rfl dX2_init_34 ?_
  refine r_bipush E dX2_init_35 (by decide) ?_
  refine r_icmp_ge E 59 dX2_init_37 (by decide) (by omega) (fun c_37 => ?_) (fun c_37 => ?_)
  · skip
    refine W.widen (k := 18) (n := 64) (by show 2 + 2 * k9 ≤ 18; omega) (by show 16 + 6 * k9 ≤ 64; omega) ?_
    exact r_vret E h ⟨_, _, hac, hap, hcf, h_t9, h_n7, h_n16, fun i hi => i2 i (by omega), fun i hi => i3 i (by omega), by omega, hE⟩ dX2_init_59
  · skip
    obtain ⟨B9, hB9⟩ : ∃ b9 : Nat, b9 = B + 2 + 2 * i9.toNat := ⟨_, rfl⟩
    have hlen : ws.length = B9 := by omega
    refine r_aload_n E 0 hl rfl dX2_init_40 ?_
    refine r_get (v := .ref a_16) E h h_t9 rfl inn_X2_init_2 1 (by decide) fl_X2_init_17 rfl dX2_init_41 ?_
    refine r_iload_n E 1 hl rfl dX2_init_44 ?_
    refine r_newO (ci := 0) (fs := [.null, .long ((zL 0))]) E h rfl inn_X2_init_0 tyX0 tyX0_ok (List.mem_of_getElem? (i := 6) rfl) (List.mem_of_getElem? (i := 10) rfl) (List.mem_of_getElem? (i := 11) rfl) (fun j hj => by rcases (show j = 0 ∨ j = 1 by omega) with rfl | rfl <;> rfl) (by show 2 + 2 * k9 + 1 ≤ 18; omega) (by show 16 + 6 * k9 + 2 ≤ 64; omega) dX2_init_45 (fun a_45 ws H hu h => ?_)
    have h_t9 := hu.keep h_t9
    have h_n7 := hu.keep h_n7
    have h_n16 := hu.keep h_n16
    have h_n45 : ws[B9]? = some (a_45, .inr (0, [.null, .long ((zL 0))])) := by have h9 := hu.new; rwa [hlen] at h9
    have hlen : ws.length = B9 + 1 := by have h9 := hu.len; omega
    have hE := hE.tr hu.eqx
    have i3 : ∀ j : Nat, (j : Int) < i9 → ws[B + 2 + 2 * j]? = some (hac j, .inr (0, [.ref (hap j), .long (fmk 0 (fun _ => 0))])) ∧ ws[B + 2 + 2 * j + 1]? = some (hap j, aL cy 4 (mk 0 (fun _ => 0))) := fun j hj => ⟨hu.keep (i3 j hj).1, hu.keep (i3 j hj).2⟩
    refine r_dup E dX2_init_48 rfl ?_
    refine r_callNI E hX h (As := []) (rest := [.ref a_45, .int (zI i9), .ref a_16]) (k_X0_init l h_n45 hlen) gX2_init_X0_init_n28 rfl (by decide +kernel) (List.mem_of_getElem? (i := 11) rfl) (List.mem_of_getElem? (i := 12) rfl) rfl hd_X0_init (by decide) ⟨by show 2 + 2 * k9 + 1 + 1 ≤ 18; omega, by show 16 + 6 * k9 + 2 + 4 ≤ 64; omega⟩ hl.1 rfl (Nat.le_of_ble_eq_true rfl) dX2_init_49 rfl (fun ws H locs hp h => ?_)
    obtain ⟨apn45, h_n45, h_n45p, hlen, hf⟩ := hp
    have h_t9 := hf.at h_t9 (by first | omega | exact (fun q => q) | (dsimp only <;> omega))
    have h_n7 := hf.at h_n7 (by first | omega | exact (fun q => q) | (dsimp only <;> omega))
    have h_n16 := hf.at h_n16 (by first | omega | exact (fun q => q) | (dsimp only <;> omega))
    have hlen : ws.length = B9 + 2 := by omega
    have hE := hE.trG hf (fun j hj hY => by first | omega | (dsimp only at hY ⊢ <;> omega))
    have i3 : ∀ j : Nat, (j : Int) < i9 → ws[B + 2 + 2 * j]? = some (hac j, .inr (0, [.ref (hap j), .long (fmk 0 (fun _ => 0))])) ∧ ws[B + 2 + 2 * j + 1]? = some (hap j, aL cy 4 (mk 0 (fun _ => 0))) := fun j hj => ⟨hf.at (i3 j hj).1 (by first | omega | (dsimp only <;> omega)), hf.at (i3 j hj).2 (by first | omega | (dsimp only <;> omega))⟩
    refine r_aast E h rfl h_n16 h_n45 rfl (by omega) (by decide) dX2_init_52 (fun ws H locs h hu => ?_)
    have h_t9 := hu.keep h_t9 (by omega)
    have h_n7 := hu.keep h_n7 (by omega)
    have h_n16 : ws[B + 1]? = some (a_16, aR cy 3 8 (uZ hcf i9 (some a_45))) := hu.1
    have h_n45 := hu.keep h_n45 (by omega)
    have h_n45p := hu.keep h_n45p (by omega)
    have hE : Eqx ws0 ws (fun j => j = q) := by first | exact hE.tr (hu.eqx (by first | omega | (dsimp only <;> omega))) | exact hE.up hu (by omega)
    have hlen := hu.2.1.trans hlen
    have i3 : ∀ j : Nat, (j : Int) < i9 → ws[B + 2 + 2 * j]? = some (hac j, .inr (0, [.ref (hap j), .long (fmk 0 (fun _ => 0))])) ∧ ws[B + 2 + 2 * j + 1]? = some (hap j, aL cy 4 (mk 0 (fun _ => 0))) := fun j hj => ⟨hu.keep (i3 j hj).1 (by omega), hu.keep (i3 j hj).2 (by omega)⟩
    refine r_iinc (lv' := [(1, .int (zI (i9 + 1))), (0, .ref a)]) E 1 hl rfl dX2_init_53 (by decide) rfl (fun ls hl => ?_)
    refine r_goto E 34 dX2_init_56 (by decide) ?_
    exact ih_34 _ _ _ (k9 + 1) H locs ls (by omega) (by show 2 + 2 * k9 + 1 + 1 ≤ 2 + 2 * (k9 + 1); omega) (by show 16 + 6 * k9 + 2 + 4 ≤ 16 + 6 * (k9 + 1); omega) ⟨ws, (i9 + 1), ((fun j => if j = i9.toNat then a_45 else hac j)), ((fun j => if j = i9.toNat then apn45 else hap j)), (uZ hcf i9 (some a_45)), rfl, (by omega), (by omega), (fun j hj => by
      show uZ hcf i9 (some a_45) (j : Int) = some (if j = i9.toNat then a_45 else hac j)
      by_cases q9 : j = i9.toNat
      · rw [if_pos q9, show ((j : Nat) : Int) = i9 by omega, uZ_s]
      · rw [if_neg q9, uZ_n (by omega)]; exact i2 j (by omega)), (fun j hj => by
      by_cases q9 : j = i9.toNat
      · simp only [if_pos q9]
        rw [q9, show B + 2 + 2 * i9.toNat = B9 by omega]
        exact ⟨h_n45, h_n45p⟩
      · simp only [if_neg q9]
        exact i3 j (by omega)), (by omega), h, h_t9, h_n7, h_n16, hE, lv_sub hl [1, 0] rfl⟩
