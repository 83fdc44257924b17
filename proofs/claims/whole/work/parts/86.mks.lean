/-- a setup's cells stand for d and T: its stack at k, all else at places with P -/
def SUp (cy : Nat → ClassId) (u : va_W) (asu : Nat) (d : Int → Int) (T : List Int) (P : Nat → Prop) (k : Nat) : Prop := ∃ (qs ar9 afo qra qf atk qt9 ask : Nat) (rA : Int → Option Nat) (rr : Nat → Nat) (st9 : Int → Int), u[qs]? = some (asu, .inr (6, [.int (zI (d 0)), .int (zI (d 1)), .ref ar9, .ref afo])) ∧ u[qra]? = some (ar9, aR cy 4 ((d 2).toNat) rA) ∧ u[qf]? = some (afo, .inr (1, [.ref atk, .ref ask])) ∧ u[qt9]? = some (atk, aI cy T.length (tkF T)) ∧ u[k]? = some (ask, aI cy 11 st9) ∧ (P qs ∧ P qra ∧ P qf ∧ P qt9) ∧ (∀ r : Nat, (r : Int) < d 2 → rA (r : Int) = some (rr r)) ∧ ∀ r : Nat, (r : Int) < d 2 → ∃ qq : Nat, P qq ∧ RU1 u qq (rr r) d (r : Int)
theorem SUp.wk {cy : Nat → ClassId} {u : va_W} {asu : Nat} {d : Int → Int} {T : List Int} {P Q : Nat → Prop} {k : Nat} (h : SUp cy u asu d T P k) (hPQ : ∀ j, P j → Q j) : SUp cy u asu d T Q k := by
  obtain ⟨qs, ar9, afo, qra, qf, atk, qt9, ask, rA, rr, st9, h1, h2, h3, h4, h5, ⟨p1, p2, p3, p4⟩, h6, h7⟩ := h
  exact ⟨qs, ar9, afo, qra, qf, atk, qt9, ask, rA, rr, st9, h1, h2, h3, h4, h5, ⟨hPQ _ p1, hPQ _ p2, hPQ _ p3, hPQ _ p4⟩, h6, fun r hr => by
    obtain ⟨qq, a, b⟩ := h7 r hr
    exact ⟨qq, hPQ _ a, b⟩⟩
theorem SUp.keep {cy : Nat → ClassId} {ws u : va_W} {asu : Nat} {d : Int → Int} {T : List Int} {P X : Nat → Prop} {k : Nat} (h : SUp cy ws asu d T P k) (hE : Eqx ws u X) (hP : ∀ j, P j → ¬ X j) (hk : ¬ X k) : SUp cy u asu d T P k := by
  obtain ⟨qs, ar9, afo, qra, qf, atk, qt9, ask, rA, rr, st9, h1, h2, h3, h4, h5, ⟨p1, p2, p3, p4⟩, h6, h7⟩ := h
  exact ⟨qs, ar9, afo, qra, qf, atk, qt9, ask, rA, rr, st9, hE.at h1 (hP _ p1), hE.at h2 (hP _ p2), hE.at h3 (hP _ p3), hE.at h4 (hP _ p4), hE.at h5 hk, ⟨p1, p2, p3, p4⟩, h6, fun r hr => by
    obtain ⟨qq, a, b⟩ := h7 r hr
    exact ⟨qq, a, b.keep hE (hP _ a)⟩⟩
theorem hd_J7_copyOf_59c91 : yJ7_copyOf_59c91.cls ≠ "java/lang/invoke/MethodHandle" ∧ yJ7_copyOf_59c91.cls ≠ "java/lang/invoke/VarHandle" ∧ (parseMethodDescriptor yJ7_copyOf_59c91.desc).map (fun d => d.parameters.length) = some 2 := by decide +kernel
abbrev rm_J7_copyOf_59c91 : Room := { frames := 1, cells := 1, slots := 600, locals := 72 }
set_option maxHeartbeats 1200000 in
set_option maxRecDepth 100000 in
theorem k_J7_copyOf_59c91 (l : Launch) {G : va_G} {cy : Nat → ClassId} {ws0 : va_W} {qo ao9 M B : Nat} {f : Int → Int} (n9 : Int) (h_o9 : ws0[qo]? = some (ao9, aI cy M f)) (hlen : ws0.length = B) (hM : 0 ≤ n9 ∧ n9 < M ∧ M ≤ 600) : MRk l yJ7_copyOf_59c91 wsJ7_copyOf_59c91 rm_J7_copyOf_59c91 G cy [.ref ao9, .int (zI n9)] ws0 (fun r u => ∃ q9 : Nat, r = some q9 ∧ u[B]? = some (q9, aI cy n9.toNat f) ∧ u.length = B + 1 ∧ Eqx ws0 u (fun j => False)) := by
  refine MRk.of (own := RJ7) (cc := cJ7_copyOf_59c91) (nL := 3) (ret := (some (.array .int))) (by decide) rfl rfl (Nat.le_of_ble_eq_true rfl) ?_
  intro p e s m below meth c A ls hX E h hl
  have hl : lv_has ls 3 [(0, .ref ao9), (1, .int (zI n9))] := hl
  have hE : Eqx ws0 ws0 (fun j => False) := Eqx.rf
  have hqo := lt_of_at h_o9
  refine r_iload_n E 1 hl rfl dJ7_copyOf_59c91_0 ?_
  refine r_aload_n E 0 hl rfl dJ7_copyOf_59c91_1 ?_
  refine r_alen E h rfl h_o9 (v := M) rfl dJ7_copyOf_59c91_2 ?_
  refine r_icmp_ne E 14 dJ7_copyOf_59c91_3 (by decide) (by omega) (fun c_3 => ?_) (fun c_3 => ?_)
  · skip
    refine r_iload_n E 1 hl rfl dJ7_copyOf_59c91_14 ?_
    refine r_newI (N := n9.toNat) E h ⟨by omega, by omega⟩ (List.mem_of_getElem? (i := 7) rfl) (by decide) (by show 0 + n9.toNat ≤ 600; omega) dJ7_copyOf_59c91_15 (fun a_15 ws H hu h => ?_)
    have h_o9 := hu.keep h_o9
    have h_n15 : ws[B]? = some (a_15, aI cy n9.toNat ((fun _ => 0))) := by have h9 := hu.new; rwa [hlen] at h9
    have hlen : ws.length = B + 1 := by have h9 := hu.len; omega
    have hE := hE.tr hu.eqx
    refine r_astore_n (lv' := [(2, .ref a_15), (0, .ref ao9), (1, .int (zI n9))]) E hl dJ7_copyOf_59c91_17 rfl (by decide) rfl (fun ls hl => ?_)
    refine r_aload_n E 1 hl rfl dJ7_copyOf_59c91_18 ?_
    refine r_iconst E dJ7_copyOf_59c91_19 ?_
    refine r_aload_n E 0 hl rfl dJ7_copyOf_59c91_20 ?_
    refine r_iconst E dJ7_copyOf_59c91_21 ?_
    refine r_aload_n E 1 hl rfl dJ7_copyOf_59c91_22 ?_
    refine r_alen E h rfl h_o9 (v := M) rfl dJ7_copyOf_59c91_23 ?_
    refine r_iload_n E 2 hl rfl dJ7_copyOf_59c91_24 ?_
    refine r_mmin E (List.mem_of_getElem? (i := 8) rfl) (List.mem_of_getElem? (i := 9) rfl) (List.mem_of_getElem? (i := 10) rfl) (List.mem_of_getElem? (i := 11) rfl) hl.1 ⟨by decide, Nat.le_of_ble_eq_true rfl⟩ ⟨by decide, by show 0 + n9.toNat ≤ 600; omega⟩ (by omega) dJ7_copyOf_59c91_25 (fun z_25 e_25 => ?_)
    rw [show z_25 = n9 from by omega]
    refine r_cpyI (M := M) (N := n9.toNat) E h (List.mem_of_getElem? (i := 12) rfl) (List.mem_of_getElem? (i := 13) rfl) (List.mem_of_getElem? (i := 14) rfl) (List.mem_of_getElem? (i := 15) rfl) h_o9 h_n15 hl.1 ⟨by decide, Nat.le_of_ble_eq_true rfl⟩ (by omega) dJ7_copyOf_59c91_28 (by omega) (fun ws H locs h hu => ?_)
    have h_o9 := hu.keep h_o9 (by omega)
    have h_n15 : ws[B]? = some (a_15, aI cy n9.toNat f) := hu.1
    have hE : Eqx ws0 ws (fun j => False) := by first | exact hE.tr (hu.eqx (by first | omega | (dsimp only <;> omega))) | exact hE.up hu (by omega)
    have hlen := hu.2.1.trans hlen
    refine r_aload_n E 0 hl rfl dJ7_copyOf_59c91_31 ?_
    refine W.widen (k := 1) (n := 600) (by decide) (by show 0 + n9.toNat ≤ 600; omega) ?_
    exact r_aret E (Or.inr ⟨_, rfl⟩) h (r := some a_15) ⟨_, rfl, h_n15, hlen, hE⟩ rfl dJ7_copyOf_59c91_32
  · skip
    exfalso; omega
theorem hd_X7_makeSetup : yX7_makeSetup.cls = RX7 ∧ yX7_makeSetup.cls ≠ "java/lang/invoke/MethodHandle" ∧ yX7_makeSetup.cls ≠ "java/lang/invoke/VarHandle" ∧ (parseMethodDescriptor yX7_makeSetup.desc).map (fun d => d.parameters.length) = some 0 := by decide +kernel
theorem fl_X7_makeSetup_44 : Cond.fieldLink RX7 44 (TX7 7).1 (TX7 7).2.1 (TX7 7).2.2.1 ∈ wsX7_makeSetup := List.mem_of_getElem? (i := 1) rfl
theorem inn_X7_makeSetup_7 : ∀ w ∈ wsX70, w ∈ wsX7_makeSetup := fun _ h => List.mem_cons_of_mem _ (List.mem_append_left _ (List.mem_append_left _ (List.mem_append_right _ h)))
theorem inn_X7_makeSetup_6 : ∀ w ∈ wsX60, w ∈ wsX7_makeSetup := fun _ h => List.mem_cons_of_mem _ (List.mem_append_left _ (List.mem_append_right _ h))
theorem fl_X7_makeSetup_32 : Cond.fieldLink RX7 32 (TX7 4).1 (TX7 4).2.1 (TX7 4).2.2.1 ∈ wsX7_makeSetup := List.mem_of_getElem? (i := 7) rfl
theorem fl_X7_makeSetup_35 : Cond.fieldLink RX7 35 (TX7 5).1 (TX7 5).2.1 (TX7 5).2.2.1 ∈ wsX7_makeSetup := List.mem_of_getElem? (i := 8) rfl
theorem inn_X7_makeSetup_1 : ∀ w ∈ wsX10, w ∈ wsX7_makeSetup := fun _ h => List.mem_cons_of_mem _ (List.mem_append_right _ h)
theorem fl_X7_makeSetup_47 : Cond.fieldLink RX7 47 (TX7 8).1 (TX7 8).2.1 (TX7 8).2.2.1 ∈ wsX7_makeSetup := List.mem_of_getElem? (i := 12) rfl
theorem fl_X7_makeSetup_51 : Cond.fieldLink RX7 51 (TX7 9).1 (TX7 9).2.1 (TX7 9).2.2.1 ∈ wsX7_makeSetup := List.mem_of_getElem? (i := 13) rfl
theorem fl_X7_makeSetup_40 : Cond.fieldLink RX7 40 (TX7 6).1 (TX7 6).2.1 (TX7 6).2.2.1 ∈ wsX7_makeSetup := List.mem_of_getElem? (i := 3) rfl
abbrev rm_X7_makeSetup : Room := { frames := 2, cells := 5, slots := 700, locals := 94 }
set_option maxHeartbeats 1200000 in
set_option maxRecDepth 100000 in
theorem k_X7_makeSetup (l : Launch) {G : va_G} {cy : Nat → ClassId} {ws0 : va_W} {qr ard arc atk arl apg : Nat} {nm9 cs9 rt9 n9 : Int} {ec9 ep9 : Int} {rlf : Int → Option Nat} {pgf g : Int → Int} {B B0 : Nat} (h_rd : ws0[qr]? = some (ard, .inr (7, [.int (zI ec9), .int (zI ep9), .ref arc, .ref atk, .int (zI nm9), .int (zI cs9), .ref arl, .int (zI rt9), .ref apg, .int (zI n9)]))) (h_rl : ws0[qr + 5]? = some (arl, aR cy 4 4 rlf)) (h_pg : ws0[qr + 6]? = some (apg, aI cy 600 pgf)) (hlen : ws0.length = B) (hrt : 0 ≤ rt9 ∧ rt9 ≤ 4) (hn : 0 ≤ n9 ∧ n9 < 600) (hRU : RUL ws0 B0 rlf rt9 g) : MRk l yX7_makeSetup wsX7_makeSetup rm_X7_makeSetup G cy [.ref ard] ws0 (fun r u => ∃ (ar9 asu afo atk9 ask9 : Nat) (kp : Int → Option Nat), r = some asu ∧ u[B]? = some (ar9, aR cy 4 rt9.toNat kp) ∧ (∀ j : Nat, (j : Int) < rt9 → kp (j : Int) = rlf (j : Int)) ∧ u[B + 1]? = some (asu, .inr (6, [.int (zI nm9), .int (zI cs9), .ref ar9, .ref afo])) ∧ u[B + 2]? = some (afo, .inr (1, [.ref atk9, .ref ask9])) ∧ u[B + 3]? = some (atk9, aI cy n9.toNat pgf) ∧ u[B + 4]? = some (ask9, aI cy 11 (fun _ => 0)) ∧ Eqx ws0 u (fun j => False)) := by
  refine MRk.of (own := RX7) (cc := cX7_makeSetup) (nL := 3) (ret := (some (.object "SumColouring$Setup"))) (by decide) rfl rfl (Nat.le_of_ble_eq_true rfl) ?_
  intro p e s m below meth c A ls hX E h hl
  have hl : lv_has ls 3 [(0, .ref ard)] := hl
  have hE : Eqx ws0 ws0 (fun j => False) := Eqx.rf
  have hlen0 := hlen
  have hrdB := lt_of_at h_rd
  have hrlB := lt_of_at h_rl
  have hpgB := lt_of_at h_pg
  refine r_aload_n E 0 hl rfl dX7_makeSetup_0 ?_
  refine r_get (v := .int (zI rt9)) E h h_rd rfl inn_X7_makeSetup_7 7 (by decide) fl_X7_makeSetup_44 rfl dX7_makeSetup_1 ?_
  refine r_newRk (t := 4) (N := rt9.toNat) E h rfl ⟨by omega, by omega⟩ (List.mem_of_getElem? (i := 2) rfl) (hX.ao (by decide)) (by decide) (by show 0 + rt9.toNat ≤ 700; omega) dX7_makeSetup_4 (fun a_4 ws H hu h => ?_)
  have h_rd := hu.keep h_rd
  have h_rl := hu.keep h_rl
  have h_pg := hu.keep h_pg
  have h_n4 : ws[B]? = some (a_4, aR cy 4 rt9.toNat ((fun _ => none))) := by have h9 := hu.new; rwa [hlen] at h9
  have hlen : ws.length = B + 1 := by have h9 := hu.len; omega
  have hE := hE.tr hu.eqx
  refine r_astore_n (lv' := [(1, .ref a_4), (0, .ref ard)]) E hl dX7_makeSetup_7 rfl (by decide) rfl (fun ls hl => ?_)
  refine r_iconst E dX7_makeSetup_8 ?_
  refine r_istore_n (lv' := [(2, .int (zI 0)), (1, .ref a_4), (0, .ref ard)]) E hl dX7_makeSetup_9 rfl (by decide) rfl (fun ls hl => ?_)
  refine r_loop (fun n H locs ls => ∃ (ws : va_W) (i9 : Int) (kp : Int → Option Nat), n = (5 - i9).toNat ∧ (0 ≤ i9 ∧ i9 ≤ rt9) ∧ (∀ j : Nat, (j : Int) < i9 → kp (j : Int) = rlf (j : Int)) ∧ (ws.length = B + 1) ∧ Hp G ws A s.heap H locs ∧ (ws[qr]? = some (ard, .inr (7, [.int (zI ec9), .int (zI ep9), .ref arc, .ref atk, .int (zI nm9), .int (zI cs9), .ref arl, .int (zI rt9), .ref apg, .int (zI n9)]))) ∧ (ws[qr + 5]? = some (arl, aR cy 4 4 rlf)) ∧ (ws[qr + 6]? = some (apg, aI cy 600 pgf)) ∧ (ws[B]? = some (a_4, aR cy 4 rt9.toNat kp)) ∧ Eqx ws0 ws (fun j => False) ∧ lv_has ls 3 [(0, .ref ard), (1, .ref a_4), (2, .int (zI i9))]) _ ⟨ws, 0, ((fun _ => none)), rfl, (by omega), (fun j hj => absurd hj (by omega)), hlen, h, h_rd, h_rl, h_pg, h_n4, hE, lv_sub hl [2, 1, 0] rfl⟩ ?_
  rintro n H locs ls ⟨ws, i9, kp, hn, i1, i2, hlen, h, h_rd, h_rl, h_pg, h_n4, hE, hl⟩ ih_10
  refine r_iload_n E 2 hl rfl dX7_makeSetup_10 ?_
  refine r_aload_n E 0 hl rfl dX7_makeSetup_11 ?_
  refine r_get (v := .int (zI rt9)) E h h_rd rfl inn_X7_makeSetup_7 7 (by decide) fl_X7_makeSetup_44 rfl dX7_makeSetup_12 ?_
  refine r_icmp_ge E 42 dX7_makeSetup_15 (by decide) (by omega) (fun c_15 => ?_) (fun c_15 => ?_)
  · skip
    refine r_newO (ci := 6) (fs := [.int (zI 0), .int (zI 0), .null, .null]) E h rfl inn_X7_makeSetup_6 tyX6 tyX6_ok (List.mem_of_getElem? (i := 4) rfl) (List.mem_of_getElem? (i := 5) rfl) (List.mem_of_getElem? (i := 6) rfl) (fun j hj => by rcases (show j = 0 ∨ j = 1 ∨ j = 2 ∨ j = 3 by omega) with rfl | rfl | rfl | rfl <;> rfl) (by decide) (by show 0 + rt9.toNat + 4 ≤ 700; omega) dX7_makeSetup_42 (fun a_42 ws H hu h => ?_)
    have h_rd := hu.keep h_rd
    have h_rl := hu.keep h_rl
    have h_pg := hu.keep h_pg
    have h_n4 := hu.keep h_n4
    have h_n42 : ws[B + 1]? = some (a_42, .inr (6, [.int (zI 0), .int (zI 0), .null, .null])) := by have h9 := hu.new; rwa [hlen] at h9
    have hlen : ws.length = B + 2 := by have h9 := hu.len; omega
    have hE := hE.tr hu.eqx
    refine r_dup E dX7_makeSetup_45 rfl ?_
    refine r_aload_n E 0 hl rfl dX7_makeSetup_46 ?_
    refine r_get (v := .int (zI nm9)) E h h_rd rfl inn_X7_makeSetup_7 4 (by decide) fl_X7_makeSetup_32 rfl dX7_makeSetup_47 ?_
    refine r_aload_n E 0 hl rfl dX7_makeSetup_50 ?_
    refine r_get (v := .int (zI cs9)) E h h_rd rfl inn_X7_makeSetup_7 5 (by decide) fl_X7_makeSetup_35 rfl dX7_makeSetup_51 ?_
    refine r_aload_n E 1 hl rfl dX7_makeSetup_54 ?_
    refine r_newO (ci := 1) (fs := [.null, .null]) E h rfl inn_X7_makeSetup_1 tyX1 tyX1_ok (List.mem_of_getElem? (i := 9) rfl) (List.mem_of_getElem? (i := 10) rfl) (List.mem_of_getElem? (i := 11) rfl) (fun j hj => by rcases (show j = 0 ∨ j = 1 by omega) with rfl | rfl <;> rfl) (by decide) (by show 0 + rt9.toNat + 4 + 2 ≤ 700; omega) dX7_makeSetup_55 (fun a_55 ws H hu h => ?_)
    have h_rd := hu.keep h_rd
    have h_rl := hu.keep h_rl
    have h_pg := hu.keep h_pg
    have h_n4 := hu.keep h_n4
    have h_n42 := hu.keep h_n42
    have h_n55 : ws[B + 2]? = some (a_55, .inr (1, [.null, .null])) := by have h9 := hu.new; rwa [hlen] at h9
    have hlen : ws.length = B + 3 := by have h9 := hu.len; omega
    have hE := hE.tr hu.eqx
    refine r_dup E dX7_makeSetup_58 rfl ?_
    refine r_aload_n E 0 hl rfl dX7_makeSetup_59 ?_
    refine r_get (v := .ref apg) E h h_rd rfl inn_X7_makeSetup_7 8 (by decide) fl_X7_makeSetup_47 rfl dX7_makeSetup_60 ?_
    refine r_aload_n E 0 hl rfl dX7_makeSetup_63 ?_
    refine r_get (v := .int (zI n9)) E h h_rd rfl inn_X7_makeSetup_7 9 (by decide) fl_X7_makeSetup_51 rfl dX7_makeSetup_64 ?_
    refine r_callSkR E hX h (As := [.ref apg, .int (zI n9)]) (rest := [.ref a_55, .ref a_55, .ref a_4, .int (zI cs9), .int (zI nm9), .ref a_42, .ref a_42]) (k_J7_copyOf_59c91 l n9 h_pg hlen (by omega)) gX7_makeSetup_J7_copyOf_59c91 rfl hd_J7_copyOf_59c91 (by decide) ⟨by decide, by show 0 + rt9.toNat + 4 + 2 + 600 ≤ 700; omega⟩ hl.1 rfl (Nat.le_of_ble_eq_true rfl) dX7_makeSetup_67 rfl (fun z_67 ws H locs hp h => ?_)
    obtain ⟨a_67, rfl, h_n67, hlen, hf⟩ := hp
    have h_rd := hf.at h_rd (by first | omega | exact (fun q => q) | (dsimp only <;> omega))
    have h_rl := hf.at h_rl (by first | omega | exact (fun q => q) | (dsimp only <;> omega))
    have h_pg := hf.at h_pg (by first | omega | exact (fun q => q) | (dsimp only <;> omega))
    have h_n4 := hf.at h_n4 (by first | omega | exact (fun q => q) | (dsimp only <;> omega))
    have h_n42 := hf.at h_n42 (by first | omega | exact (fun q => q) | (dsimp only <;> omega))
    have h_n55 := hf.at h_n55 (by first | omega | exact (fun q => q) | (dsimp only <;> omega))
    have hlen : ws.length = B + 4 := by omega
    have hE := hE.trG hf (fun j hj hY => by first | omega | (dsimp only at hY ⊢ <;> omega))
    refine r_callI E h (As := [.ref a_67]) (rest := [.ref a_55, .ref a_4, .int (zI cs9), .int (zI nm9), .ref a_42, .ref a_42]) (k_X1_init l h_n55 hlen) gX7_makeSetup_X1_init rfl (List.mem_of_getElem? (i := 11) rfl) (List.mem_of_getElem? (i := 33) rfl) (List.mem_of_getElem? (i := 34) rfl) rfl hd_X1_init (by decide) ⟨by decide, by show 0 + rt9.toNat + 4 + 2 + 600 + 11 ≤ 700; omega⟩ hl.1 rfl (Nat.le_of_ble_eq_true rfl) dX7_makeSetup_70 rfl (fun ws H locs hp h => ?_)
    obtain ⟨as_70, h_n55, h_n55s, hlen, hf⟩ := hp
    have h_rd := hf.at h_rd (by first | omega | exact (fun q => q) | (dsimp only <;> omega))
    have h_rl := hf.at h_rl (by first | omega | exact (fun q => q) | (dsimp only <;> omega))
    have h_pg := hf.at h_pg (by first | omega | exact (fun q => q) | (dsimp only <;> omega))
    have h_n4 := hf.at h_n4 (by first | omega | exact (fun q => q) | (dsimp only <;> omega))
    have h_n42 := hf.at h_n42 (by first | omega | exact (fun q => q) | (dsimp only <;> omega))
    have h_n67 := hf.at h_n67 (by first | omega | exact (fun q => q) | (dsimp only <;> omega))
    have hlen : ws.length = B + 5 := by omega
    have hE := hE.trG hf (fun j hj hY => by first | omega | (dsimp only at hY ⊢ <;> omega))
    refine r_callI E h (As := [.int (zI nm9), .int (zI cs9), .ref a_4, .ref a_55]) (rest := [.ref a_42]) (k_X6_init l nm9 cs9 h_n42) gX7_makeSetup_X6_init rfl (List.mem_of_getElem? (i := 6) rfl) (List.mem_of_getElem? (i := 41) rfl) (List.mem_of_getElem? (i := 42) rfl) rfl hd_X6_init (by decide) ⟨by decide, by show 0 + rt9.toNat + 4 + 2 + 600 + 11 + 0 ≤ 700; omega⟩ hl.1 rfl (Nat.le_of_ble_eq_true rfl) dX7_makeSetup_73 rfl (fun ws H locs hp h => ?_)
    obtain ⟨h_n42, hf⟩ := hp
    have h_rd := hf.at h_rd (by first | omega | exact (fun q => q) | (dsimp only <;> omega))
    have h_rl := hf.at h_rl (by first | omega | exact (fun q => q) | (dsimp only <;> omega))
    have h_pg := hf.at h_pg (by first | omega | exact (fun q => q) | (dsimp only <;> omega))
    have h_n4 := hf.at h_n4 (by first | omega | exact (fun q => q) | (dsimp only <;> omega))
    have h_n55 := hf.at h_n55 (by first | omega | exact (fun q => q) | (dsimp only <;> omega))
    have h_n67 := hf.at h_n67 (by first | omega | exact (fun q => q) | (dsimp only <;> omega))
    have h_n55s := hf.at h_n55s (by first | omega | exact (fun q => q) | (dsimp only <;> omega))
    obtain ⟨B9, hlen⟩ : ∃ b9 : Nat, ws.length = b9 := ⟨_, rfl⟩
    have hE := hE.trG hf (fun j hj hY => by first | omega | (dsimp only at hY ⊢ <;> omega))
    refine W.widen (k := 5) (n := 700) (by decide) (by show 0 + rt9.toNat + 4 + 2 + 600 + 11 + 0 ≤ 700; omega) ?_
    exact r_aret E (Or.inl ⟨_, rfl⟩) h (r := some a_42) ⟨_, _, _, _, _, kp, rfl, h_n4, fun j hj => i2 j (by omega), h_n42, h_n55, h_n67, h_n55s, hE⟩ rfl dX7_makeSetup_76
  · skip
    refine r_iload_n E 2 hl rfl dX7_makeSetup_18 ?_
    refine r_aload_n E 0 hl rfl dX7_makeSetup_19 ?_
    refine r_get (v := .ref arl) E h h_rd rfl inn_X7_makeSetup_7 6 (by decide) fl_X7_makeSetup_40 rfl dX7_makeSetup_20 ?_
    refine r_alen E h rfl h_rl (v := 4) rfl dX7_makeSetup_23 ?_
    refine r_icmp_ge E 42 dX7_makeSetup_24 (by decide) (by omega) (fun c_24 => ?_) (fun c_24 => ?_)
    · skip
      exfalso; omega
    · skip
      refine r_aload_n E 1 hl rfl dX7_makeSetup_27 ?_
      obtain ⟨ra9, qq9, x1, x2, w1, w2, w3, w4, w5, h_ru0, x4⟩ := hRU i9.toNat (by omega)
      have hqq := lt_of_at h_ru0
      have h_ru := hE.at h_ru0 (fun q => q)
      rw [show ((i9.toNat : Nat) : Int) = i9 by omega] at x1
      refine r_iload_n E 2 hl rfl dX7_makeSetup_28 ?_
      refine r_aload_n E 0 hl rfl dX7_makeSetup_29 ?_
      refine r_get (v := .ref arl) E h h_rd rfl inn_X7_makeSetup_7 6 (by decide) fl_X7_makeSetup_40 rfl dX7_makeSetup_30 ?_
      refine r_iload_n E 2 hl rfl dX7_makeSetup_33 ?_
      refine r_aald E h rfl h_rl (by omega) (by decide) dX7_makeSetup_34 (r := some ra9) x1 ?_
      refine r_aast E h rfl h_n4 h_ru rfl (by omega) (by omega) dX7_makeSetup_35 (fun ws H locs h hu => ?_)
      have h_rd := hu.keep h_rd (by omega)
      have h_rl := hu.keep h_rl (by omega)
      have h_pg := hu.keep h_pg (by omega)
      have h_n4 : ws[B]? = some (a_4, aR cy 4 rt9.toNat (uZ kp i9 (some ra9))) := hu.1
      have h_ru := hu.keep h_ru (by omega)
      have hE : Eqx ws0 ws (fun j => False) := by first | exact hE.tr (hu.eqx (by first | omega | (dsimp only <;> omega))) | exact hE.up hu (by omega)
      have hlen := hu.2.1.trans hlen
      refine r_iinc (lv' := [(2, .int (zI (i9 + 1))), (0, .ref ard), (1, .ref a_4)]) E 2 hl rfl dX7_makeSetup_36 (by decide) rfl (fun ls hl => ?_)
      refine r_goto E 10 dX7_makeSetup_39 (by decide) ?_
      exact ih_10 _ H locs ls (by omega) ⟨ws, (i9 + 1), (uZ kp i9 (some ra9)), rfl, (by omega), (fun j hj => by
      by_cases q : (j : Int) = i9
      · rw [q, uZ_s]; exact x1.symm
      · rw [uZ_n q]; exact i2 j (by omega)), hlen, h, h_rd, h_rl, h_pg, h_n4, hE, lv_sub hl [1, 2, 0] rfl⟩
