theorem mem_up {a : Int} : ∀ {m : Nat}, a ∈ upto m → 1 ≤ a ∧ a ≤ m
  | 0, h => nomatch h
  | m + 1, h => by
    rcases List.mem_append.mp h with h | h
    · have := mem_up h; omega
    · rw [List.mem_singleton.mp h]; omega
theorem upto_len : ∀ m : Nat, (upto m).length = m
  | 0 => rfl
  | m + 1 => by simp [upto, upto_len m]
theorem ct_up {n : Int} {e : Int → Int} {c : Int} (hn : 0 ≤ n) : ∀ k : Nat, sumL (fun x => if mkp n e c x = true then (1 : Int) else 0) (upto (n.toNat + k)) = sumL (fun y => if e y = c + 1 then 1 else 0) (upto n.toNat)
  | 0 => sumL_congr (fun a ha => by
      have h := mem_up ha
      have e9 : mkp n e c a = decide (e a = c + 1) := by
        unfold mkp
        by_cases z : e a = c + 1
        · rw [decide_eq_true z]; exact decide_eq_true ⟨by omega, by omega, z⟩
        · rw [decide_eq_false z]; exact decide_eq_false (fun h => z h.2.2)
      show (if mkp n e c a = true then (1 : Int) else 0) = (if e a = c + 1 then 1 else 0)
      rw [e9]
      by_cases z : e a = c + 1
      · simp [z]
      · simp [z])
  | k + 1 => by
    have ih := ct_up (n := n) (e := e) (c := c) hn k
    show sumL _ (upto (n.toNat + k) ++ [((n.toNat + k : Nat) : Int) + 1]) = _
    rw [sumL_app, ih]
    have z : mkp n e c (((n.toNat + k : Nat) : Int) + 1) = false := decide_eq_false (fun h => by omega)
    simp only [sumL, z]
    simp
theorem ct_mk {n : Int} {e : Int → Int} {c : Int} (hn : 0 ≤ n ∧ n ≤ 40) : (ctN (mkp n e c) 64 : Int) = sumL (fun y => if e y = c + 1 then 1 else 0) (upto n.toNat) := by
  have h := ctN_sum (p := mkp n e c) 63
  have z : mkp n e c 0 = false := decide_eq_false (fun h => by omega)
  rw [z] at h
  have h2 := ct_up (n := n) (e := e) (c := c) hn.1 (63 - n.toNat)
  rw [show n.toNat + (63 - n.toNat) = 63 by omega] at h2
  rw [h2] at h
  simpa using h
/-- the numbers not painted, or painted in a colour from c on -/
def lvC (e : Int → Int) (n : Nat) (c : Int) : Int := sumL (fun y => if e y = 0 ∨ c < e y then 1 else 0) (upto n)
theorem lvC_0 {e : Int → Int} {n : Nat} (h : ∀ x : Int, 1 ≤ x → x ≤ n → 0 ≤ e x) : lvC e n 0 = n := by
  have h1 : lvC e n 0 = sumL (fun _ => 1) (upto n) := sumL_congr (fun a ha => by
    have := mem_up ha
    have := h a (by omega) (by omega)
    exact if_pos (by omega))
  rw [h1, sumL_const, upto_len]; omega
theorem lvC_s {e : Int → Int} {c : Int} (hc : 0 ≤ c) : ∀ n : Nat, lvC e n c = lvC e n (c + 1) + sumL (fun y => if e y = c + 1 then 1 else 0) (upto n)
  | 0 => rfl
  | n + 1 => by
    have ih := lvC_s (e := e) hc n
    unfold lvC at ih ⊢
    simp only [upto, sumL_app, sumL]
    rw [ih]
    generalize e ((n : Int) + 1) = v
    by_cases h1 : v = c + 1
    · rw [if_pos h1, if_pos (show v = 0 ∨ c < v by omega), if_neg (show ¬ (v = 0 ∨ c + 1 < v) by omega)]; omega
    · by_cases h2 : v = 0 ∨ c < v
      · rw [if_neg h1, if_pos h2, if_pos (show v = 0 ∨ c + 1 < v by omega)]; omega
      · rw [if_neg h1, if_neg h2, if_neg (show ¬ (v = 0 ∨ c + 1 < v) by omega)]; omega
theorem lvC_e {e : Int → Int} {n : Nat} {k : Int} (h : ∀ x : Int, 1 ≤ x → x ≤ n → 0 ≤ e x ∧ e x ≤ k) : lvC e n k = sumL (fun y => if e y = -1 + 1 then 1 else 0) (upto n) := sumL_congr (fun a ha => by
  have := mem_up ha
  have := h a (by omega) (by omega)
  by_cases z : e a = 0
  · rw [if_pos (Or.inl z), if_pos (by omega)]
  · rw [if_neg (by omega), if_neg (by omega)])
theorem hd_X10_countPainted : yX10_countPainted.cls = RX10 ∧ yX10_countPainted.cls ≠ "java/lang/invoke/MethodHandle" ∧ yX10_countPainted.cls ≠ "java/lang/invoke/VarHandle" ∧ (parseMethodDescriptor yX10_countPainted.desc).map (fun d => d.parameters.length) = some 1 := by decide +kernel
theorem fl_X10_countPainted_74 : Cond.fieldLink RX10 74 (TX10 3).1 (TX10 3).2.1 (TX10 3).2.2.1 ∈ wsX10_countPainted := List.mem_of_getElem? (i := 2) rfl
theorem inn_X10_countPainted_10 : ∀ w ∈ wsX100, w ∈ wsX10_countPainted := fun _ h => List.mem_cons_of_mem _ (List.mem_append_left _ (List.mem_append_left _ (List.mem_append_right _ h)))
theorem fl_X10_countPainted_118 : Cond.fieldLink RX10 118 (TX6 0).1 (TX6 0).2.1 (TX6 0).2.2.1 ∈ wsX10_countPainted := List.mem_of_getElem? (i := 3) rfl
theorem inn_X10_countPainted_6 : ∀ w ∈ wsX60, w ∈ wsX10_countPainted := fun _ h => List.mem_cons_of_mem _ (List.mem_append_left _ (List.mem_append_right _ h))
theorem fl_X10_countPainted_121 : Cond.fieldLink RX10 121 (TX6 1).1 (TX6 1).2.1 (TX6 1).2.2.1 ∈ wsX10_countPainted := List.mem_of_getElem? (i := 4) rfl
theorem fl_X10_countPainted_37 : Cond.fieldLink RX10 37 (TX10 6).1 (TX10 6).2.1 (TX10 6).2.2.1 ∈ wsX10_countPainted := List.mem_of_getElem? (i := 1) rfl
abbrev rm_X10_countPainted : Room := { frames := 1, cells := 0, slots := 0, locals := 21 }
set_option maxHeartbeats 1200000 in
set_option maxRecDepth 100000 in
theorem k_X10_countPainted (l : Launch) {G : va_G} {cy : Nat → ClassId} {ws0 : va_W} {qx ax ain asu ard a a2 asr arp ahi : Nat} {inl erp : Int} {qs ar9 afo : Nat} {q2 ap2 : Nat} {ce f : Int → Int} {d : Int → Int} {T : List Int} (x : Int) (h_x0 : ws0[qx]? = some (ax, .inr (10, [.ref ain, .int (zI inl), .int (zI erp), .ref asu, .ref ard, .ref a, .ref a2, .ref asr, .ref arp, .ref ahi]))) (h_su : ws0[qs]? = some (asu, .inr (6, [.int (zI (d 0)), .int (zI (d 1)), .ref ar9, .ref afo]))) (h_co : ws0[q2]? = some (a2, .inr (0, [.ref ap2, .long (fmk (d 0) f)]))) (h_cop : ws0[q2 + 1]? = some (ap2, aL cy 4 (mk (d 0) ce))) (hD : DW d T) (he : ∀ x : Int, 1 ≤ x → x ≤ d 0 → 0 ≤ ce x ∧ ce x ≤ d 1) (hx9 : -1 ≤ x ∧ x < d 1) : MIk l yX10_countPainted wsX10_countPainted rm_X10_countPainted G cy [.ref ax, .int (zI x)] ws0 (fun z u => z = sumL (fun y => if ce y = x + 1 then 1 else 0) (upto (d 0).toNat) ∧ ws0 = u) := by
  refine MIk.of (own := RX10) (cc := cX10_countPainted) (nL := 4) (ret := (some .int)) (by decide) rfl rfl (Nat.le_of_ble_eq_true rfl) ?_
  intro p e s m below meth c A ls hX E h hl
  have hl : lv_has ls 4 [(0, .ref ax), (1, .int (zI x))] := hl
  have hn9 := hD.n
  have hk9 := hD.k
  refine r_iload_n E 1 hl rfl dX10_countPainted_0 ?_
  refine r_iconst E dX10_countPainted_1 ?_
  refine r_icmp_eq E 17 dX10_countPainted_2 (by decide) (by omega) (fun c_2 => ?_) (fun c_2 => ?_)
  · skip
    refine r_aload_n E 0 hl rfl dX10_countPainted_17 ?_
    have e0 := lvC_0 (e := ce) (n := (d 0).toNat) (fun x a b => (he x a (by omega)).1)
    refine r_get (v := .ref asu) E h h_x0 rfl inn_X10_countPainted_10 3 (by decide) fl_X10_countPainted_74 rfl dX10_countPainted_18 ?_
    refine r_get (v := .int (zI (d 0))) E h h_su rfl inn_X10_countPainted_6 0 (by decide) fl_X10_countPainted_118 rfl dX10_countPainted_21 ?_
    refine r_istore_n (lv' := [(2, .int (zI (d 0))), (0, .ref ax), (1, .int (zI x))]) E hl dX10_countPainted_24 rfl (by decide) rfl (fun ls hl => ?_)
    refine r_iconst E dX10_countPainted_25 ?_
    refine r_istore_n (lv' := [(3, .int (zI 0)), (2, .int (zI (d 0))), (0, .ref ax), (1, .int (zI x))]) E hl dX10_countPainted_26 rfl (by decide) rfl (fun ls hl => ?_)
    refine r_loop (fun n H locs ls => ∃ (k : Int) (v : Int), n = (d 1 - k).toNat ∧ (0 ≤ k ∧ k ≤ d 1) ∧ (v = lvC ce (d 0).toNat k) ∧ Hp G ws0 A s.heap H locs ∧ lv_has ls 4 [(0, .ref ax), (2, .int (zI v)), (3, .int (zI k))]) _ ⟨0, (d 0), rfl, (by omega), (by omega), h, lv_sub hl [2, 1, 0] rfl⟩ ?_
    rintro n H locs ls ⟨k, v, hn, i1, i2, h, hl⟩ ih_27
    refine r_iload_n E 2 hl rfl dX10_countPainted_27 ?_
    refine r_aload_n E 0 hl rfl dX10_countPainted_28 ?_
    refine r_get (v := .ref asu) E h h_x0 rfl inn_X10_countPainted_10 3 (by decide) fl_X10_countPainted_74 rfl dX10_countPainted_29 ?_
    refine r_get (v := .int (zI (d 1))) E h h_su rfl inn_X10_countPainted_6 1 (by decide) fl_X10_countPainted_121 rfl dX10_countPainted_32 ?_
    refine r_icmp_ge E 58 dX10_countPainted_35 (by decide) (by omega) (fun c_35 => ?_) (fun c_35 => ?_)
    · skip
      have e58 : k = d 1 := by omega
      have e57 : x = -1 := by omega
      have r59 : v = sumL (fun y => if ce y = x + 1 then 1 else 0) (upto (d 0).toNat) := by rw [i2, e58, e57]; exact lvC_e (fun x a b => he x a (by omega))
      refine r_iload_n E 1 hl rfl dX10_countPainted_58 ?_
      exact r_iret E h ⟨r59, rfl⟩ dX10_countPainted_59
    · skip
      refine r_iload_n E 1 hl rfl dX10_countPainted_38 ?_
      refine r_aload_n E 0 hl rfl dX10_countPainted_39 ?_
      refine r_get (v := .ref a2) E h h_x0 rfl inn_X10_countPainted_10 6 (by decide) fl_X10_countPainted_37 rfl dX10_countPainted_40 ?_
      refine r_iload_n E 2 hl rfl dX10_countPainted_43 ?_
      refine r_callVL E h (As := [.int (zI k)]) (rest := [.int (zI v)]) (k_X0_numbersWith l k h_co h_cop (by omega)) h_co rfl gX10_countPainted_X0_numbersWith rfl hd_X0_numbersWith (by decide) ⟨by decide, by decide⟩ hl.1 rfl (Nat.le_of_ble_eq_true rfl) dX10_countPainted_44 rfl (fun z_44 ws H locs hp h => ?_)
      obtain ⟨rfl, rfl⟩ := hp
      have e8 := ct_mk (n := d 0) (e := ce) (c := k) (by omega)
      have e9 := lvC_s (e := ce) (c := k) (by omega) (d 0).toNat
      refine r_callSI E h (As := [.long (mk (d 0) ce k)]) (rest := [.int (zI v)]) (k_J13_bitCount_95d88 l (mkp (d 0) ce k)) gX10_countPainted_J13_bitCount_95d88 rfl hd_J13_bitCount_95d88 (by decide) ⟨by decide, by decide⟩ hl.1 rfl (Nat.le_of_ble_eq_true rfl) dX10_countPainted_47 rfl (fun z_47 ws H locs hp h => ?_)
      obtain ⟨rfl, rfl⟩ := hp
      refine r_isub E dX10_countPainted_50 ?_
      refine r_istore_n (lv' := [(2, .int (zI (v - (((ctN (mkp (d 0) ce k) 64 : Nat) : Int))))), (0, .ref ax), (3, .int (zI k))]) E hl dX10_countPainted_51 rfl (by decide) rfl (fun ls hl => ?_)
      refine r_iinc (lv' := [(3, .int (zI (k + 1))), (2, .int (zI (v - (((ctN (mkp (d 0) ce k) 64 : Nat) : Int))))), (0, .ref ax)]) E 2 hl rfl dX10_countPainted_52 (by decide) rfl (fun ls hl => ?_)
      refine r_goto E 27 dX10_countPainted_55 (by decide) ?_
      exact ih_27 _ H locs ls (by omega) ⟨(k + 1), (v - (((ctN (mkp (d 0) ce k) 64 : Nat) : Int))), rfl, (by omega), (by omega), h, lv_sub hl [2, 1, 0] rfl⟩
  · skip
    refine r_aload_n E 0 hl rfl dX10_countPainted_5 ?_
    refine r_get (v := .ref a2) E h h_x0 rfl inn_X10_countPainted_10 6 (by decide) fl_X10_countPainted_37 rfl dX10_countPainted_6 ?_
    refine r_iload_n E 1 hl rfl dX10_countPainted_9 ?_
    refine r_callVL E h (As := [.int (zI x)]) (rest := []) (k_X0_numbersWith l x h_co h_cop (by omega)) h_co rfl gX10_countPainted_X0_numbersWith rfl hd_X0_numbersWith (by decide) ⟨by decide, by decide⟩ hl.1 rfl (Nat.le_of_ble_eq_true rfl) dX10_countPainted_10 rfl (fun z_10 ws H locs hp h => ?_)
    obtain ⟨rfl, rfl⟩ := hp
    refine r_callSI E h (As := [.long (mk (d 0) ce x)]) (rest := []) (k_J13_bitCount_95d88 l (mkp (d 0) ce x)) gX10_countPainted_J13_bitCount_95d88 rfl hd_J13_bitCount_95d88 (by decide) ⟨by decide, by decide⟩ hl.1 rfl (Nat.le_of_ble_eq_true rfl) dX10_countPainted_13 rfl (fun z_13 ws H locs hp h => ?_)
    obtain ⟨rfl, rfl⟩ := hp
    exact r_iret E h ⟨ct_mk (by omega), rfl⟩ dX10_countPainted_16
theorem hd_X10_count : yX10_count.cls = RX10 ∧ yX10_count.cls ≠ "java/lang/invoke/MethodHandle" ∧ yX10_count.cls ≠ "java/lang/invoke/VarHandle" ∧ (parseMethodDescriptor yX10_count.desc).map (fun d => d.parameters.length) = some 1 := by decide +kernel
abbrev rm_X10_count : Room := { frames := 8, cells := 1, slots := 6, locals := 132 }
set_option maxHeartbeats 1200000 in
set_option maxRecDepth 100000 in
theorem k_X10_count (l : Launch) {G : va_G} {cy : Nat → ClassId} {ws0 : va_W} {qx ax ain asu ard a a2 asr arp ahi : Nat} {inl erp : Int} {qs ar9 afo : Nat} {q2 ap2 : Nat} {ce f : Int → Int} {d : Int → Int} {T : List Int} (x : Int) (h_x0 : ws0[qx]? = some (ax, .inr (10, [.ref ain, .int (zI inl), .int (zI erp), .ref asu, .ref ard, .ref a, .ref a2, .ref asr, .ref arp, .ref ahi]))) (h_su : ws0[qs]? = some (asu, .inr (6, [.int (zI (d 0)), .int (zI (d 1)), .ref ar9, .ref afo]))) (h_co : ws0[q2]? = some (a2, .inr (0, [.ref ap2, .long (fmk (d 0) f)]))) (h_cop : ws0[q2 + 1]? = some (ap2, aL cy 4 (mk (d 0) ce))) (hD : DW d T) (he : ∀ x : Int, 1 ≤ x → x ≤ d 0 → 0 ≤ ce x ∧ ce x ≤ d 1) (hx9 : -2147483648 ≤ x ∧ x ≤ 2147483647) (hl9 : l.stackTraces = false) : TIk l yX10_count wsX10_count rm_X10_count G cy [.ref ax, .int (zI x)] ws0 (fun E9 => E9 = "java/lang/IndexOutOfBoundsException" ∧ ¬ (-1 ≤ x ∧ x < d 1)) (fun z u => (-1 ≤ x ∧ x < d 1) ∧ z = sumL (fun y => if ce y = x + 1 then 1 else 0) (upto (d 0).toNat) ∧ ws0 = u) := by
  refine TIk.of (own := RX10) (cc := cX10_count) (nL := 2) (ret := (some .int)) (by decide) rfl rfl (Nat.le_of_ble_eq_true rfl) ?_
  intro p e s m below meth c A ls hX hxt E h hl
  have hl : lv_has ls 2 [(0, .ref ax), (1, .int (zI x))] := hl
  have hn9 := hD.n
  have hk9 := hD.k
  refine r_aload_n E 0 hl rfl dX10_count_0 ?_
  refine r_iload_n E 1 hl rfl dX10_count_1 ?_
  refine r_callVtV E hX hxt h (As := [.int (zI x)]) (rest := []) (k_X10_requireColourOrNone l x h_x0 h_su hD (by omega) hl9) (fun E9 h9 => h9) h_x0 rfl gX10_count_X10_requireColourOrNone rfl hd_X10_requireColourOrNone (by decide) ⟨by decide, by decide⟩ ⟨by decide, by decide⟩ hl.1 rfl (Nat.le_of_ble_eq_true rfl) dX10_count_2 rfl (fun ws H locs hp h => ?_)
  obtain ⟨hv_z_2, rfl⟩ := hp
  refine r_aload_n E 0 hl rfl dX10_count_5 ?_
  refine r_iload_n E 1 hl rfl dX10_count_6 ?_
  refine r_callVkI E hX h (As := [.int (zI x)]) (rest := []) (k_X10_countPainted l x h_x0 h_su h_co h_cop hD he (by omega)) h_x0 rfl gX10_count_X10_countPainted rfl hd_X10_countPainted (by decide) ⟨by decide, by decide⟩ hl.1 rfl (Nat.le_of_ble_eq_true rfl) dX10_count_7 rfl (fun z_7 ws H locs hp h => ?_)
  obtain ⟨e_z_7, rfl⟩ := hp
  refine W.widen (k := 1) (n := 6) (by decide) (by decide) ?_
  exact vx_ret (r_iret E h ⟨by omega, e_z_7, rfl⟩ dX10_count_10)
theorem w_all {z : Int64} : bs (fun _ => false) &&& z = zL 0 := by rw [bs_0]; exact Int64.zero_and
theorem hW_all {d : Int → Int} : ∀ q9 : Ky, KOk d q9 → (bs (fun _ => false) &&& (bs (fun x => has d q9 x) ^^^ (-1)) = zL 0 ↔ (fun _ : Ky => true) q9 = true) := fun _ _ => ⟨fun _ => rfl, fun _ => w_all⟩
theorem cnf_all {d e : Int → Int} : sumL (fun q : Ky => if (fun _ : Ky => true) q = true then is1 d e q else 0) (KL d) = cnfA d e := sumL_congr (fun a _ => if_pos rfl)
theorem hW_one {d : Int → Int} {x : Int} (hx : 0 ≤ x ∧ x < 64) : ∀ q9 : Ky, KOk d q9 → (bs (fun y => decide (y = x)) &&& (bs (fun y => has d q9 y) ^^^ (-1)) = zL 0 ↔ (fun q : Ky => has d q x) q9 = true) := fun q9 _ => by
  rw [bs_not, bs_and, bs_eq0]
  constructor
  · intro h
    have := h x hx.1 hx.2
    simpa using this
  · intro h y a b
    by_cases z : y = x
    · subst z; simpa using h
    · simp [z]
theorem hd_X10_conflicts : yX10_conflicts.cls = RX10 ∧ yX10_conflicts.cls ≠ "java/lang/invoke/MethodHandle" ∧ yX10_conflicts.cls ≠ "java/lang/invoke/VarHandle" ∧ (parseMethodDescriptor yX10_conflicts.desc).map (fun d => d.parameters.length) = some 0 := by decide +kernel
theorem fl_X10_conflicts_30 : Cond.fieldLink RX10 30 (TX10 5).1 (TX10 5).2.1 (TX10 5).2.2.1 ∈ wsX10_conflicts := List.mem_of_getElem? (i := 1) rfl
theorem inn_X10_conflicts_10 : ∀ w ∈ wsX100, w ∈ wsX10_conflicts := fun _ h => List.mem_cons_of_mem _ (List.mem_append_left _ (List.mem_append_left _ (List.mem_append_right _ h)))
theorem fl_X10_conflicts_37 : Cond.fieldLink RX10 37 (TX10 6).1 (TX10 6).2.1 (TX10 6).2.2.1 ∈ wsX10_conflicts := List.mem_of_getElem? (i := 2) rfl
abbrev rm_X10_conflicts : Room := { frames := 2, cells := 0, slots := 0, locals := 48 }
set_option maxHeartbeats 1200000 in
set_option maxRecDepth 100000 in
theorem k_X10_conflicts (l : Launch) {G : va_G} {cy : Nat → ClassId} {ws0 : va_W} {qx ax ain asu ard a a2 asr arp ahi : Nat} {inl erp : Int} {q ase awr art awt are ars : Nat} {se re : Int → Int64} {wr rt wt rs : Int → Int} {sz riw : Int} {qs ar9 afo : Nat} {q2 ap2 : Nat} {ce f : Int → Int} {d : Int → Int} {T : List Int} (h_x0 : ws0[qx]? = some (ax, .inr (10, [.ref ain, .int (zI inl), .int (zI erp), .ref asu, .ref ard, .ref a, .ref a2, .ref asr, .ref arp, .ref ahi]))) (h_su : ws0[qs]? = some (asu, .inr (6, [.int (zI (d 0)), .int (zI (d 1)), .ref ar9, .ref afo]))) (h_co : ws0[q2]? = some (a2, .inr (0, [.ref ap2, .long (fmk (d 0) f)]))) (h_cop : ws0[q2 + 1]? = some (ap2, aL cy 4 (mk (d 0) ce))) (h_tb : ws0[q]? = some (a, .inr (8, [.ref ase, .ref awr, .int (zI sz), .ref art, .int (zI riw), .ref awt, .ref are, .ref ars]))) (h_se : ws0[q + 1]? = some (ase, aL cy 6400 se)) (hD : DW d T) (hT : TW d T se wr rt wt re rs sz) (he : ∀ x : Int, 1 ≤ x → x ≤ d 0 → 0 ≤ ce x ∧ ce x ≤ d 1) : MIk l yX10_conflicts wsX10_conflicts rm_X10_conflicts G cy [.ref ax] ws0 (fun z u => z = cnfA d ce ∧ ws0 = u) := by
  refine MIk.of (own := RX10) (cc := cX10_conflicts) (nL := 1) (ret := (some .int)) (by decide) rfl rfl (Nat.le_of_ble_eq_true rfl) ?_
  intro p e s m below meth c A ls hX E h hl
  have hl : lv_has ls 1 [(0, .ref ax)] := hl
  have hn9 := hD.n
  have hk9 := hD.k
  refine r_aload_n E 0 hl rfl dX10_conflicts_0 ?_
  refine r_get (v := .ref a) E h h_x0 rfl inn_X10_conflicts_10 5 (by decide) fl_X10_conflicts_30 rfl dX10_conflicts_1 ?_
  refine r_aload_n E 0 hl rfl dX10_conflicts_4 ?_
  refine r_get (v := .ref a2) E h h_x0 rfl inn_X10_conflicts_10 6 (by decide) fl_X10_conflicts_37 rfl dX10_conflicts_5 ?_
  refine r_lconst (v := Int64.ofNat 0) E dX10_conflicts_8 (by decide) ?_
  rw [show (Int64.ofNat 0) = bs (fun _ => false) from bs_0.symm]
  skip
  refine r_callVI E h (As := [.ref a2, .long (bs (fun _ => false))]) (rest := []) (k_X8_countConflicts l (fun _ => false) (fun _ => true) h_tb h_se h_co h_cop hD hT he hW_all) h_tb rfl gX10_conflicts_X8_countConflicts rfl hd_X8_countConflicts (by decide) ⟨by decide, by decide⟩ hl.1 rfl (Nat.le_of_ble_eq_true rfl) dX10_conflicts_9 rfl (fun z_9 ws H locs hp h => ?_)
  obtain ⟨rfl, rfl⟩ := hp
  exact r_iret E h ⟨rfl, rfl⟩ dX10_conflicts_12
theorem hd_X10_totalWeight : yX10_totalWeight.cls = RX10 ∧ yX10_totalWeight.cls ≠ "java/lang/invoke/MethodHandle" ∧ yX10_totalWeight.cls ≠ "java/lang/invoke/VarHandle" ∧ (parseMethodDescriptor yX10_totalWeight.desc).map (fun d => d.parameters.length) = some 0 := by decide +kernel
theorem fl_X10_totalWeight_30 : Cond.fieldLink RX10 30 (TX10 5).1 (TX10 5).2.1 (TX10 5).2.2.1 ∈ wsX10_totalWeight := List.mem_of_getElem? (i := 1) rfl
theorem inn_X10_totalWeight_10 : ∀ w ∈ wsX100, w ∈ wsX10_totalWeight := fun _ h => List.mem_cons_of_mem _ (List.mem_append_left _ (List.mem_append_left _ (List.mem_append_right _ h)))
theorem fl_X10_totalWeight_37 : Cond.fieldLink RX10 37 (TX10 6).1 (TX10 6).2.1 (TX10 6).2.2.1 ∈ wsX10_totalWeight := List.mem_of_getElem? (i := 2) rfl
abbrev rm_X10_totalWeight : Room := { frames := 2, cells := 0, slots := 0, locals := 47 }
set_option maxHeartbeats 1200000 in
set_option maxRecDepth 100000 in
theorem k_X10_totalWeight (l : Launch) {G : va_G} {cy : Nat → ClassId} {ws0 : va_W} {qx ax ain asu ard a a2 asr arp ahi : Nat} {inl erp : Int} {q ase awr art awt are ars : Nat} {se re : Int → Int64} {wr rt wt rs : Int → Int} {sz riw : Int} {qs ar9 afo : Nat} {q2 ap2 : Nat} {ce f : Int → Int} {d : Int → Int} {T : List Int} (h_x0 : ws0[qx]? = some (ax, .inr (10, [.ref ain, .int (zI inl), .int (zI erp), .ref asu, .ref ard, .ref a, .ref a2, .ref asr, .ref arp, .ref ahi]))) (h_su : ws0[qs]? = some (asu, .inr (6, [.int (zI (d 0)), .int (zI (d 1)), .ref ar9, .ref afo]))) (h_co : ws0[q2]? = some (a2, .inr (0, [.ref ap2, .long (fmk (d 0) f)]))) (h_cop : ws0[q2 + 1]? = some (ap2, aL cy 4 (mk (d 0) ce))) (h_tb : ws0[q]? = some (a, .inr (8, [.ref ase, .ref awr, .int (zI sz), .ref art, .int (zI riw), .ref awt, .ref are, .ref ars]))) (h_se : ws0[q + 1]? = some (ase, aL cy 6400 se)) (h_wr : ws0[q + 2]? = some (awr, aI cy 6400 wr)) (h_wt : ws0[q + 4]? = some (awt, aI cy 656 wt)) (hD : DW d T) (hT : TW d T se wr rt wt re rs sz) (he : ∀ x : Int, 1 ≤ x → x ≤ d 0 → 0 ≤ ce x ∧ ce x ≤ d 1) : MIk l yX10_totalWeight wsX10_totalWeight rm_X10_totalWeight G cy [.ref ax] ws0 (fun z u => z = wgtA d T ce ∧ ws0 = u) := by
  refine MIk.of (own := RX10) (cc := cX10_totalWeight) (nL := 1) (ret := (some .int)) (by decide) rfl rfl (Nat.le_of_ble_eq_true rfl) ?_
  intro p e s m below meth c A ls hX E h hl
  have hl : lv_has ls 1 [(0, .ref ax)] := hl
  have hn9 := hD.n
  have hk9 := hD.k
  refine r_aload_n E 0 hl rfl dX10_totalWeight_0 ?_
  refine r_get (v := .ref a) E h h_x0 rfl inn_X10_totalWeight_10 5 (by decide) fl_X10_totalWeight_30 rfl dX10_totalWeight_1 ?_
  refine r_aload_n E 0 hl rfl dX10_totalWeight_4 ?_
  refine r_get (v := .ref a2) E h h_x0 rfl inn_X10_totalWeight_10 6 (by decide) fl_X10_totalWeight_37 rfl dX10_totalWeight_5 ?_
  refine r_callVI E h (As := [.ref a2]) (rest := []) (k_X8_weighConflicts l h_tb h_se h_wr h_wt h_co h_cop hD hT he) h_tb rfl gX10_totalWeight_X8_weighConflicts rfl hd_X8_weighConflicts (by decide) ⟨by decide, by decide⟩ hl.1 rfl (Nat.le_of_ble_eq_true rfl) dX10_totalWeight_8 rfl (fun z_8 ws H locs hp h => ?_)
  obtain ⟨rfl, rfl⟩ := hp
  exact r_iret E h ⟨rfl, rfl⟩ dX10_totalWeight_11
theorem hd_X10_conflictsOf : yX10_conflictsOf.cls = RX10 ∧ yX10_conflictsOf.cls ≠ "java/lang/invoke/MethodHandle" ∧ yX10_conflictsOf.cls ≠ "java/lang/invoke/VarHandle" ∧ (parseMethodDescriptor yX10_conflictsOf.desc).map (fun d => d.parameters.length) = some 1 := by decide +kernel
theorem fl_X10_conflictsOf_30 : Cond.fieldLink RX10 30 (TX10 5).1 (TX10 5).2.1 (TX10 5).2.2.1 ∈ wsX10_conflictsOf := List.mem_of_getElem? (i := 1) rfl
theorem inn_X10_conflictsOf_10 : ∀ w ∈ wsX100, w ∈ wsX10_conflictsOf := fun _ h => List.mem_cons_of_mem _ (List.mem_append_left _ (List.mem_append_left _ (List.mem_append_left _ (List.mem_append_left _ (List.mem_append_right _ h)))))
theorem fl_X10_conflictsOf_37 : Cond.fieldLink RX10 37 (TX10 6).1 (TX10 6).2.1 (TX10 6).2.2.1 ∈ wsX10_conflictsOf := List.mem_of_getElem? (i := 2) rfl
abbrev rm_X10_conflictsOf : Room := { frames := 7, cells := 1, slots := 6, locals := 111 }
set_option maxHeartbeats 1200000 in
set_option maxRecDepth 100000 in
theorem k_X10_conflictsOf (l : Launch) {G : va_G} {cy : Nat → ClassId} {ws0 : va_W} {qx ax ain asu ard a a2 asr arp ahi : Nat} {inl erp : Int} {q ase awr art awt are ars : Nat} {se re : Int → Int64} {wr rt wt rs : Int → Int} {sz riw : Int} {qs ar9 afo : Nat} {q2 ap2 : Nat} {ce f : Int → Int} {d : Int → Int} {T : List Int} (x : Int) (h_x0 : ws0[qx]? = some (ax, .inr (10, [.ref ain, .int (zI inl), .int (zI erp), .ref asu, .ref ard, .ref a, .ref a2, .ref asr, .ref arp, .ref ahi]))) (h_su : ws0[qs]? = some (asu, .inr (6, [.int (zI (d 0)), .int (zI (d 1)), .ref ar9, .ref afo]))) (h_co : ws0[q2]? = some (a2, .inr (0, [.ref ap2, .long (fmk (d 0) f)]))) (h_cop : ws0[q2 + 1]? = some (ap2, aL cy 4 (mk (d 0) ce))) (h_tb : ws0[q]? = some (a, .inr (8, [.ref ase, .ref awr, .int (zI sz), .ref art, .int (zI riw), .ref awt, .ref are, .ref ars]))) (h_se : ws0[q + 1]? = some (ase, aL cy 6400 se)) (hD : DW d T) (hT : TW d T se wr rt wt re rs sz) (he : ∀ x : Int, 1 ≤ x → x ≤ d 0 → 0 ≤ ce x ∧ ce x ≤ d 1) (hx9 : -2147483648 ≤ x ∧ x ≤ 2147483647) (hl9 : l.stackTraces = false) : TIk l yX10_conflictsOf wsX10_conflictsOf rm_X10_conflictsOf G cy [.ref ax, .int (zI x)] ws0 (fun E9 => E9 = "java/lang/IndexOutOfBoundsException" ∧ ¬ (1 ≤ x ∧ x ≤ d 0)) (fun z u => (1 ≤ x ∧ x ≤ d 0) ∧ z = cnfX d ce x ∧ ws0 = u) := by
  refine TIk.of (own := RX10) (cc := cX10_conflictsOf) (nL := 2) (ret := (some .int)) (by decide) rfl rfl (Nat.le_of_ble_eq_true rfl) ?_
  intro p e s m below meth c A ls hX hxt E h hl
  have hl : lv_has ls 2 [(0, .ref ax), (1, .int (zI x))] := hl
  have hn9 := hD.n
  have hk9 := hD.k
  refine r_aload_n E 0 hl rfl dX10_conflictsOf_0 ?_
  refine r_iload_n E 1 hl rfl dX10_conflictsOf_1 ?_
  refine r_callVtV E hX hxt h (As := [.int (zI x)]) (rest := []) (k_X10_requireNumber l x h_x0 h_su hD (by omega) hl9) (fun E9 h9 => h9) h_x0 rfl gX10_conflictsOf_X10_requireNumber rfl hd_X10_requireNumber (by decide) ⟨by decide, by decide⟩ ⟨by decide, by decide⟩ hl.1 rfl (Nat.le_of_ble_eq_true rfl) dX10_conflictsOf_2 rfl (fun ws H locs hp h => ?_)
  obtain ⟨hv_z_2, rfl⟩ := hp
  refine r_aload_n E 0 hl rfl dX10_conflictsOf_5 ?_
  refine r_get (v := .ref a) E h h_x0 rfl inn_X10_conflictsOf_10 5 (by decide) fl_X10_conflictsOf_30 rfl dX10_conflictsOf_6 ?_
  refine r_aload_n E 0 hl rfl dX10_conflictsOf_9 ?_
  refine r_get (v := .ref a2) E h h_x0 rfl inn_X10_conflictsOf_10 6 (by decide) fl_X10_conflictsOf_37 rfl dX10_conflictsOf_10 ?_
  refine r_lconst (v := zL 1) E dX10_conflictsOf_13 (by decide) ?_
  refine r_iload_n E 1 hl rfl dX10_conflictsOf_14 ?_
  refine r_lshl E dX10_conflictsOf_15 (v := bs (fun v8 => decide (v8 = x))) (bs_one (by omega)) ?_
  refine r_callVI E h (As := [.ref a2, .long (bs (fun v8 => decide (v8 = x)))]) (rest := []) (k_X8_countConflicts l (fun v8 => decide (v8 = x)) (fun q => has d q x) h_tb h_se h_co h_cop hD hT he (hW_one (by omega))) h_tb rfl gX10_conflictsOf_X8_countConflicts rfl hd_X8_countConflicts (by decide) ⟨by decide, by decide⟩ hl.1 rfl (Nat.le_of_ble_eq_true rfl) dX10_conflictsOf_16 rfl (fun z_16 ws H locs hp h => ?_)
  obtain ⟨rfl, rfl⟩ := hp
  refine W.widen (k := 1) (n := 6) (by decide) (by decide) ?_
  exact vx_ret (r_iret E h ⟨by omega, rfl, rfl⟩ dX10_conflictsOf_19)
