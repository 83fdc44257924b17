theorem st_cls {b : Nat} {s : State} (hts : ∀ w ∈ lw_tbl, w.before #[Value.ref b] s = true) : ∃ (dC : Nat → ClassId) (dI : Nat → Nat → Nat), ∀ (k : Nat) (q : vw_C), vwCl[k]? = some q → u_Kn s q.1 q.2.1 q.2.2 (dC k) (dI k) := by
  have h : ∀ k : Nat, ∃ x : ClassId × (Nat → Nat), ∀ q : vw_C, vwCl[k]? = some q → u_Kn s q.1 q.2.1 q.2.2 x.1 x.2 := fun k => by
    match k with
    | 0 => obtain ⟨c, iS, h⟩ := u_known (C := RX0) (T := TX0) (N := 2) (n := 2) hts inX0 (hts (.instantiable RX0 2) (by decide +kernel)); exact ⟨(c, iS), fun q hq => by cases hq; exact h⟩
    | 1 => obtain ⟨c, iS, h⟩ := u_known (C := RX1) (T := TX1) (N := 2) (n := 2) hts inX1 (hts (.instantiable RX1 2) (by decide +kernel)); exact ⟨(c, iS), fun q hq => by cases hq; exact h⟩
    | 2 => obtain ⟨c, iS, h⟩ := u_known (C := RX2) (T := TX2) (N := 4) (n := 4) hts inX2 (hts (.instantiable RX2 4) (by decide +kernel)); exact ⟨(c, iS), fun q hq => by cases hq; exact h⟩
    | 3 => obtain ⟨c, iS, h⟩ := u_known (C := RX3) (T := TX3) (N := 4) (n := 4) hts inX3 (hts (.instantiable RX3 4) (by decide +kernel)); exact ⟨(c, iS), fun q hq => by cases hq; exact h⟩
    | 4 => obtain ⟨c, iS, h⟩ := u_known (C := RX4) (T := TX4) (N := 6) (n := 6) hts inX4 (hts (.instantiable RX4 6) (by decide +kernel)); exact ⟨(c, iS), fun q hq => by cases hq; exact h⟩
    | 5 => obtain ⟨c, iS, h⟩ := u_known (C := RX5) (T := TX5) (N := 6) (n := 6) hts inX5 (hts (.instantiable RX5 6) (by decide +kernel)); exact ⟨(c, iS), fun q hq => by cases hq; exact h⟩
    | 6 => obtain ⟨c, iS, h⟩ := u_known (C := RX6) (T := TX6) (N := 4) (n := 4) hts inX6 (hts (.instantiable RX6 4) (by decide +kernel)); exact ⟨(c, iS), fun q hq => by cases hq; exact h⟩
    | 7 => obtain ⟨c, iS, h⟩ := u_known (C := RX7) (T := TX7) (N := 10) (n := 10) hts inX7 (hts (.instantiable RX7 10) (by decide +kernel)); exact ⟨(c, iS), fun q hq => by cases hq; exact h⟩
    | 8 => obtain ⟨c, iS, h⟩ := u_known (C := RX8) (T := TX8) (N := 8) (n := 8) hts inX8 (hts (.instantiable RX8 8) (by decide +kernel)); exact ⟨(c, iS), fun q hq => by cases hq; exact h⟩
    | 9 => obtain ⟨c, iS, h⟩ := u_known (C := RX9) (T := TX9) (N := 6) (n := 6) hts inX9 (hts (.instantiable RX9 6) (by decide +kernel)); exact ⟨(c, iS), fun q hq => by cases hq; exact h⟩
    | 10 => obtain ⟨c, iS, h⟩ := u_known (C := RX10) (T := TX10) (N := 10) (n := 10) hts inX10 (hts (.instantiable RX10 10) (by decide +kernel)); exact ⟨(c, iS), fun q hq => by cases hq; exact h⟩
    | 11 => obtain ⟨c, iS, h⟩ := u_known (C := RX11) (T := TX11) (N := 28) (n := 28) hts inX11 (hts (.instantiable RX11 28) (by decide +kernel)); exact ⟨(c, iS), fun q hq => by cases hq; exact h⟩
    | k + 12 => exact ⟨(0, fun _ => 0), fun q hq => by simp at hq⟩
  obtain ⟨x, hx⟩ := Classical.axiomOfChoice h
  exact ⟨fun k => (x k).1, fun k => (x k).2, fun k q hq => hx k q hq⟩
theorem LW_00 : LW (fun _ => 0) (fun _ => 0) (fun _ => 0) (fun _ => 0) (fun _ => 0) (fun _ => 0) (fun _ => 0) 0 := by
  refine ⟨rfl, fun s q hq => ?_, fun r h0 h1 => ?_, fun x h0 h1 => ?_, fun x s q h0 h1 => ?_⟩
  · have hq : (([] : List Ky))[s]? = some q := hq
    simp at hq
  · exact absurd h1 (by show ¬ r < 0; omega)
  · exact fb_00 h0 (by have h1 : x ≤ 0 + 1 := h1; omega)
  · exact absurd h1 (by show ¬ x ≤ 0; omega)
set_option maxHeartbeats 4000000 in
set_option maxRecDepth 100000 in
/-- the law, from its entry -/
theorem whole_start {p : Program} {e : Env} {s : State} {m : MethodId} {below : List Frame} {meth : Method} {c : Code} (l : Launch) (hflags : l.flags = flags0) {b L : Nat} {xs : Nat → Int32} (hL : L ≤ 3072) (C0 : lw_At p s m meth c b L xs) : W p l e room_1 s m #[Value.ref b] below meth c s.heap [] 0 0 (lw_Z below #[Value.ref b] s) (entryFrame m ([Value.ref b] : List Value).toArray 7) := by
  obtain ⟨hx, hb, hr, hml, hown, hts, hX9, hbl, hlocks, hgv⟩ := C0
  have hl9 : l.stackTraces = false := by
    unfold Launch.stackTraces
    rw [hflags]
    decide
  obtain ⟨aK, aV, aT, hsx⟩ := st_sx hts hgv
  obtain ⟨ct, hty⟩ := st_tys hts
  obtain ⟨dC, dI, hcl⟩ := st_cls hts
  obtain ⟨cy, q1, q2, q3⟩ : ∃ cy : Nat → ClassId, (∀ k : Nat, k < 7 → cy k = ct k) ∧ (∀ i : Nat, i < 9 → cy (100 + i) = aK i ∧ cy (200 + i) = aV i) ∧ (∀ k : Nat, k < 10 → cy (300 + k) = aT k) := by
    refine ⟨fun n => if n < 100 then ct n else if n < 200 then aK (n - 100) else if n < 300 then aV (n - 200) else aT (n - 300), fun k hk => ?_, fun i hi => ⟨?_, ?_⟩, fun k hk => ?_⟩
    · exact if_pos (by omega)
    · dsimp only
      rw [if_neg (by omega), if_pos (by omega), Nat.add_sub_cancel_left]
    · dsimp only
      rw [if_neg (by omega), if_neg (by omega), if_pos (by omega), Nat.add_sub_cancel_left]
    · dsimp only
      rw [if_neg (by omega), if_neg (by omega), if_neg (by omega), Nat.add_sub_cancel_left]
  obtain ⟨hSX, hTR⟩ := hsx cy q2 q3
  have hX := st_kx hts hgv hSX hTR
  have hN := st_nc hgv
  have E : Ev p s m meth c #[Value.ref b] cL_law 7 ret wsQ_law RL (dC, dI) cy := ⟨hx, hb, hml, hown, fun w hw => hts w (wsL_law_in w hw), ⟨hcl, hty cy q1⟩, hlocks, hr⟩
  have h : Hp (dC, dI) [] (fun q => s.heap.size ≤ q) s.heap s.heap [] := ⟨fun k q h => by simp at h, ⟨fun i j p q h => by simp at h, fun k q h => by simp at h⟩, va_S.rf, fun q h => h⟩
  have hl := lv_entry ([.ref b]) (n := 7) (Nat.le_of_ble_eq_true rfl)
  rw [lg_entry_eq]
  generalize (lg_sl ([.ref b]) ++ List.replicate (7 - (lg_sl ([.ref b])).length) Slot.unset).toArray = ls at hl ⊢
  have hl : lv_has ls 7 [(0, .ref b)] := hl
  refine r_newO (ci := 10) (fs := [.null, .int (zI 0), .int (zI 0), .null, .null, .null, .null, .null, .null, .null]) E h rfl inlX10 tyX10 tyX10_ok (List.mem_of_getElem? (i := 0) rfl) (List.mem_of_getElem? (i := 1) rfl) (List.mem_of_getElem? (i := 2) rfl) (fun j hj => by rcases (show j = 0 ∨ j = 1 ∨ j = 2 ∨ j = 3 ∨ j = 4 ∨ j = 5 ∨ j = 6 ∨ j = 7 ∨ j = 8 ∨ j = 9 by omega) with rfl | rfl | rfl | rfl | rfl | rfl | rfl | rfl | rfl | rfl <;> rfl) (Nat.le_of_ble_eq_true rfl) (Nat.le_of_ble_eq_true rfl) dL_law_0 (fun a ws H hu h => ?_)
  have h_t9 : ws[0]? = some (a, .inr (10, [.null, .int (zI 0), .int (zI 0), .null, .null, .null, .null, .null, .null, .null])) := hu.new
  have hlen : ws.length = 1 := hu.len
  refine r_dup E dL_law_3 rfl ?_
  refine r_callIk E hX h (As := []) (rest := [.ref a]) (k_X10_init l h_t9 hlen) gL_law_X10_init rfl (List.mem_of_getElem? (i := 2) rfl) (List.mem_of_getElem? (i := 7) rfl) (List.mem_of_getElem? (i := 8) rfl) rfl hd_X10_init ⟨Nat.le_of_ble_eq_true rfl, Nat.le_of_ble_eq_true rfl⟩ ⟨Nat.le_of_ble_eq_true rfl, Nat.le_of_ble_eq_true rfl⟩ hl.1 rfl (Nat.le_of_ble_eq_true rfl) dL_law_4 rfl (fun ws1 H locs hp h1 => ?_)
  obtain ⟨xa, asu, rfl, c1, c2, c3, c4, c5, c6, c7, -⟩ := hp
  refine r_astore_n (lv' := [(1, .ref (xa 0)), (0, .ref b)]) E hl dL_law_7 rfl (by decide) rfl (fun ls hl => ?_)
  refine r_newO (ci := 11) (fs := [.int (zI 0), .null, .int (zI 0), .int (zI 0), .int (zI 0), .int (zI 0), .int (zI 0), .int (zI 0), .null, .null, .null, .null, .int (zI 0), .int (zI 0), .int (zI 0), .null, .null, .null, .null, .int (zI 0), .null, .null, .null, .int (zI 0), .int (zI 0), .null, .int (zI 0), .int (zI 0)]) E h1 rfl inlX11 tyX11 tyX11_ok (List.mem_of_getElem? (i := 3) rfl) (List.mem_of_getElem? (i := 4) rfl) (List.mem_of_getElem? (i := 5) rfl) (fun j hj => by rcases (show j = 0 ∨ j = 1 ∨ j = 2 ∨ j = 3 ∨ j = 4 ∨ j = 5 ∨ j = 6 ∨ j = 7 ∨ j = 8 ∨ j = 9 ∨ j = 10 ∨ j = 11 ∨ j = 12 ∨ j = 13 ∨ j = 14 ∨ j = 15 ∨ j = 16 ∨ j = 17 ∨ j = 18 ∨ j = 19 ∨ j = 20 ∨ j = 21 ∨ j = 22 ∨ j = 23 ∨ j = 24 ∨ j = 25 ∨ j = 26 ∨ j = 27 by omega) with rfl | rfl | rfl | rfl | rfl | rfl | rfl | rfl | rfl | rfl | rfl | rfl | rfl | rfl | rfl | rfl | rfl | rfl | rfl | rfl | rfl | rfl | rfl | rfl | rfl | rfl | rfl | rfl <;> rfl) (Nat.le_of_ble_eq_true rfl) (Nat.le_of_ble_eq_true rfl) dL_law_8 (fun aM ws2 H hu2 h2 => ?_)
  refine r_dup E dL_law_11 rfl ?_
  refine r_callIk E hX h2 (As := []) (rest := [.ref aM]) (k_X11_init l hu2.new hu2.len) gL_law_X11_init rfl (List.mem_of_getElem? (i := 5) rfl) (List.mem_of_getElem? (i := 135) rfl) (List.mem_of_getElem? (i := 136) rfl) rfl hd_X11_init ⟨Nat.le_of_ble_eq_true rfl, Nat.le_of_ble_eq_true rfl⟩ ⟨Nat.le_of_ble_eq_true rfl, Nat.le_of_ble_eq_true rfl⟩ hl.1 rfl (Nat.le_of_ble_eq_true rfl) dL_law_12 rfl (fun ws3 H locs hp h3 => ?_)
  obtain ⟨ad, ar, hi, m0, m1, m2, m3, m4, m14, m15, m16, m17, m18, m19, m20, m21, m5, hhi, mrw, hlen3, hE3⟩ := hp
  refine r_astore_n (lv' := [(2, .ref aM), (1, .ref (xa 0)), (0, .ref b)]) E hl dL_law_15 rfl (by decide) rfl (fun ls hl => ?_)
  refine r_iconst E dL_law_16 ?_
  refine r_newL (N := 1) E h3 ⟨rfl, by decide⟩ (List.mem_of_getElem? (i := 6) rfl) (Nat.le_of_ble_eq_true rfl) (Nat.le_of_ble_eq_true rfl) dL_law_17 (fun ao ws4 H hu4 h4 => ?_)
  refine r_astore_n (lv' := [(3, .ref ao), (2, .ref aM), (1, .ref (xa 0)), (0, .ref b)]) E hl dL_law_19 rfl (by decide) rfl (fun ls hl => ?_)
  refine r_iconst E dL_law_20 ?_
  refine r_istore (lv' := [(4, .int (zI 0)), (3, .ref ao), (2, .ref aM), (1, .ref (xa 0)), (0, .ref b)]) E hl dL_law_21 (by decide) rfl (fun ls hl => ?_)
  refine W.widen (k := 200 + 1000 * 0) (n := 200000 + 12000 * 0) (Nat.le_of_ble_eq_true rfl) (Nat.le_of_ble_eq_true rfl) ?_
  have hb51 : 51 ≤ ws1.length := by
    obtain ⟨qs, ar9, afo, qra, qf, atk, qt9, ask, rA, rr, st9, z1, z2, z3, z4, z5, -⟩ := id c7
    have := lt_of_at z5
    omega
  have hE : Eqx ws1 ws4 (fun j => j = ws1.length) := (hu2.eqx).tr (hE3.tr hu4.eqx)
  have hK50 : ∀ k : Nat, k = 50 → SRo ws1.length ws3.length k := fun k hk => Or.inl ⟨by omega, by omega⟩
  have hs2 : SX2 cy ws1 ws4 ws1.length ws3.length (fun k => k = 50) (fun j => j = ws1.length) := SX2.md (fun j hj => ⟨by omega, by omega⟩) hK50
  have hSU : SUs cy ws1 ws1.length ws3.length (fun k => k = 50) asu d00 [] := ⟨50, rfl, c7.mono (fun q hq => ⟨Or.inl ⟨hq.1, by omega⟩, by omega⟩)⟩
  have hJ : JW cy xa ad ar aM ao ws1.length ws3.length ws4 := by
    refine ⟨fun k => k = 50, 0, 0, -1, 0, fun _ => 0, d00, [], fun _ _ => 0, fun _ => 0, ⟨asu, 0, _, _, _, fun _ => d00, fun _ => [], c1.keep hE (fun j hj => by omega), c2.keep hE (fun j _ hj => by omega), c3.keep hE (fun j _ hj => by omega), c4.keep hE (fun j _ hj => by omega), c5.keep hE (fun j _ hj => by omega), c6.keep hE (fun j _ hj => by omega), hSU.keep hE hs2, ⟨⟨Int.le_refl 0, by decide⟩, ⟨Int.le_refl 0, by decide⟩, fun i hi => absurd hi (by omega)⟩, ⟨se_rf, rfl⟩, fun k hk => by have := hE.1; omega⟩, ⟨⟨DW_00, by decide⟩, fun i => ⟨Int.le_refl 0, by show (0 : Int) ≤ 255; decide⟩, ⟨Int.le_refl 0, by decide⟩, ⟨hb51, by omega⟩, hK50⟩, ⟨fun k => if k = 7 then -1 else 0, fun _ => 0, fun _ => 0, fun _ => 0, fun _ => 0, fun _ => 0, fun _ => 0, fun _ => 0, fun _ => 0, fun _ => 0, fun _ => zL 0, hi, hu4.keep m0, hu4.keep m1, hu4.keep m2, hu4.keep m3, hu4.keep m4, hu4.keep m5, fun i h => hu4.keep (mrw i h), hu4.keep m14, hu4.keep m15, hu4.keep m16, hu4.keep m17, hu4.keep m18, hu4.keep m19, hu4.keep m20, hu4.keep m21, LW_00, hhi, rfl, rfl, rfl, rfl⟩, hu4.new⟩
  exact law_loop hl9 E hX hN hX9 hbl hL 513 0 rfl ws4 H locs ls 0 rfl hJ h4 (lv_sub hl [4, 3, 2, 1, 0] rfl) (by decide)
