/-- limited to a range -/
def limI (v lo hi : Int) : Int := if v < lo then lo else if hi < v then hi else v
theorem limI_6 (v : Int) : limI v (-1000000) 1000000 = lim6 v := by
  unfold limI lim6
  by_cases a : 1000000 < v
  · rw [if_pos a, if_neg (by omega), if_pos a]
  · rw [if_neg a, if_neg a]
theorem limI_rng {v lo hi : Int} (h : lo ≤ hi) : lo ≤ limI v lo hi ∧ limI v lo hi ≤ hi := by
  unfold limI
  by_cases a : v < lo
  · rw [if_pos a]; omega
  · rw [if_neg a]
    by_cases b : hi < v
    · rw [if_pos b]; omega
    · rw [if_neg b]; omega
theorem limI_in {v lo hi : Int} (h : lo ≤ v ∧ v ≤ hi) : limI v lo hi = v := by
  unfold limI
  rw [if_neg (by omega), if_neg (by omega)]
/-- the tokens as a row -/
def tkF (T : List Int) (i : Int) : Int := T.getD i.toNat 0
theorem drop_getD {T : List Int} {i : Nat} (h : i < T.length) : T.drop i = T.getD i 0 :: T.drop (i + 1) := by
  rw [List.drop_eq_getElem_cons h, List.getD_eq_getElem?_getD, List.getElem?_eq_getElem h]
  rfl
theorem getD_mem {T : List Int} {i : Nat} (h : i < T.length) : T.getD i 0 ∈ T := List.mem_of_getElem? (getD_at h)
/-- the operands stand in a row of ints, the last one above -/
def StkI (st : Int → Int) : List Int → Prop
  | [] => True
  | a :: s => st (s.length : Int) = a ∧ StkI st s
theorem StkI.set {st : Int → Int} {v : Int} : ∀ {s : List Int} {i : Int}, (s.length : Int) ≤ i → StkI st s → StkI (uZ st i v) s
  | [], _, _, _ => trivial
  | a :: s, i, hi, h => by
    simp only [List.length_cons] at hi
    exact ⟨by rw [uZ_n (by omega)]; exact h.1, StkI.set (by omega) h.2⟩
theorem opd_rng {t r g c : Int} (ht : -7 ≤ t ∧ t ≤ 9999) (hn : ¬ (t ≤ -1 ∧ -4 ≤ t)) (hr : 0 ≤ r ∧ r ≤ 4) (hg : 0 ≤ g ∧ g ≤ 40) (hc : 0 ≤ c ∧ c ≤ 4) : -1000000 ≤ opd t r g c ∧ opd t r g c ≤ 1000000 := by
  unfold opd
  by_cases a : t = -5
  · rw [if_pos a]; omega
  · rw [if_neg a]
    by_cases b : t = -6
    · rw [if_pos b]; omega
    · rw [if_neg b]
      by_cases e : t = -7
      · rw [if_pos e]; omega
      · rw [if_neg e]; omega
theorem hd_X10_limit : yX10_limit.cls ≠ "java/lang/invoke/MethodHandle" ∧ yX10_limit.cls ≠ "java/lang/invoke/VarHandle" ∧ (parseMethodDescriptor yX10_limit.desc).map (fun d => d.parameters.length) = some 3 := by decide +kernel
abbrev rm_X10_limit : Room := { frames := 1, cells := 0, slots := 0, locals := 23 }
set_option maxHeartbeats 1200000 in
set_option maxRecDepth 100000 in
theorem k_X10_limit (l : Launch) {G : va_G} {cy : Nat → ClassId} {ws0 : va_W} (v lo hi : Int)  (hv : (-9223372036854775808 ≤ v ∧ v ≤ 9223372036854775807)) (hr : -2147483648 ≤ lo ∧ lo ≤ hi ∧ hi ≤ 2147483647) : MI l yX10_limit wsX10_limit rm_X10_limit G cy [.long (zL v), .int (zI lo), .int (zI hi)] ws0 (fun z u => z = limI v lo hi ∧ ws0 = u) := by
  refine MI.of (own := RX10) (cc := cX10_limit) (nL := 4) (ret := (some .int)) (by decide) rfl rfl (Nat.le_of_ble_eq_true rfl) ?_
  intro p e s m below meth c A ls E h hl
  have hl : lv_has ls 4 [(0, .long (zL v)), (2, .int (zI lo)), (3, .int (zI hi))] := hl
  refine r_iload_n E 1 hl rfl dX10_limit_0 ?_
  refine r_i2l E dX10_limit_1 (by omega) ?_
  refine r_iload_n E 2 hl rfl dX10_limit_2 ?_
  refine r_i2l E dX10_limit_3 (by omega) ?_
  refine r_lload_n E 0 hl rfl dX10_limit_4 ?_
  refine r_lmin E (List.mem_of_getElem? (i := 1) rfl) (List.mem_of_getElem? (i := 2) rfl) (List.mem_of_getElem? (i := 3) rfl) (List.mem_of_getElem? (i := 4) rfl) hl.1 ⟨by decide, Nat.le_of_ble_eq_true rfl⟩ ⟨by decide, by decide⟩ (by omega) dX10_limit_5 (fun z_5 e_5 => ?_)
  refine r_lmax E (List.mem_of_getElem? (i := 5) rfl) (List.mem_of_getElem? (i := 6) rfl) (List.mem_of_getElem? (i := 3) rfl) (List.mem_of_getElem? (i := 7) rfl) hl.1 ⟨by decide, Nat.le_of_ble_eq_true rfl⟩ ⟨by decide, by decide⟩ (by omega) dX10_limit_8 (fun z_8 e_8 => ?_)
  refine r_l2i E dX10_limit_11 ?_
  exact r_iret E h ⟨by unfold limI; split <;> (first | omega | (split <;> omega)), rfl⟩ dX10_limit_12
theorem hd_X1_operand : yX1_operand.cls ≠ "java/lang/invoke/MethodHandle" ∧ yX1_operand.cls ≠ "java/lang/invoke/VarHandle" ∧ (parseMethodDescriptor yX1_operand.desc).map (fun d => d.parameters.length) = some 4 := by decide +kernel
abbrev rm_X1_operand : Room := { frames := 0, cells := 0, slots := 0, locals := 0 }
set_option maxHeartbeats 1200000 in
set_option maxRecDepth 100000 in
theorem k_X1_operand (l : Launch) {G : va_G} {cy : Nat → ClassId} {ws0 : va_W} (t9 r9 g9 c9 : Int)  (ht : -7 ≤ t9 ∧ t9 ≤ 9999) : MI l yX1_operand wsX1_operand rm_X1_operand G cy [.int (zI t9), .int (zI r9), .int (zI g9), .int (zI c9)] ws0 (fun z u => z = opd t9 r9 g9 c9 ∧ ws0 = u) := by
  refine MI.of (own := RX1) (cc := cX1_operand) (nL := 4) (ret := (some .int)) (by decide) rfl rfl (Nat.le_of_ble_eq_true rfl) ?_
  intro p e s m below meth c A ls E h hl
  have hl : lv_has ls 4 [(0, .int (zI t9)), (1, .int (zI r9)), (2, .int (zI g9)), (3, .int (zI c9))] := hl
  refine r_iload_n E 0 hl rfl dX1_operand_0 ?_
  by_cases t_1 : t9 < (-7) ∨ (-5) < t9
  · refine r_tout E 34 dX1_operand_1 (by omega) t_1 (by decide) ?_
    refine r_iload_n E 0 hl rfl dX1_operand_34 ?_
    exact r_iret E h ⟨by unfold opd; rw [if_neg (by omega), if_neg (by omega), if_neg (by omega)], rfl⟩ dX1_operand_35
  · rcases (show t9 = (-7) ∨ t9 = (-6) ∨ t9 = (-5) by omega) with s_1 | s_1 | s_1
    · refine r_tin (v := (-7)) E 32 dX1_operand_1 s_1 (by decide) rfl (by decide) ?_
      refine r_iload_n E 3 hl rfl dX1_operand_32 ?_
      exact r_iret E h ⟨by unfold opd; rw [if_neg (by omega), if_neg (by omega), if_pos (by omega)], rfl⟩ dX1_operand_33
    · refine r_tin (v := (-6)) E 30 dX1_operand_1 s_1 (by decide) rfl (by decide) ?_
      refine r_iload_n E 2 hl rfl dX1_operand_30 ?_
      exact r_iret E h ⟨by unfold opd; rw [if_neg (by omega), if_pos (by omega)], rfl⟩ dX1_operand_31
    · refine r_tin (v := (-5)) E 28 dX1_operand_1 s_1 (by decide) rfl (by decide) ?_
      refine r_iload_n E 1 hl rfl dX1_operand_28 ?_
      exact r_iret E h ⟨by unfold opd; rw [if_pos (by omega)], rfl⟩ dX1_operand_29
theorem hd_X1_apply : yX1_apply.cls ≠ "java/lang/invoke/MethodHandle" ∧ yX1_apply.cls ≠ "java/lang/invoke/VarHandle" ∧ (parseMethodDescriptor yX1_apply.desc).map (fun d => d.parameters.length) = some 3 := by decide +kernel
abbrev rm_X1_apply : Room := { frames := 2, cells := 0, slots := 0, locals := 46 }
set_option maxHeartbeats 1200000 in
set_option maxRecDepth 100000 in
theorem k_X1_apply (l : Launch) {G : va_G} {cy : Nat → ClassId} {ws0 : va_W} (t9 v1 v2 : Int)  (ht : -4 ≤ t9 ∧ t9 ≤ -1) (hv1 : -1000000 ≤ v1 ∧ v1 ≤ 1000000) (hv2 : -1000000 ≤ v2 ∧ v2 ≤ 1000000) : MIk l yX1_apply wsX1_apply rm_X1_apply G cy [.int (zI t9), .long (zL v1), .long (zL v2)] ws0 (fun z u => z = app t9 v1 v2 ∧ ws0 = u) := by
  refine MIk.of (own := RX1) (cc := cX1_apply) (nL := 5) (ret := (some .int)) (by decide) rfl rfl (Nat.le_of_ble_eq_true rfl) ?_
  intro p e s m below meth c A ls hX E h hl
  have hl : lv_has ls 5 [(0, .int (zI t9)), (1, .long (zL v1)), (3, .long (zL v2))] := hl
  have hm9 : -1000000000000 ≤ v1 * v2 ∧ v1 * v2 ≤ 1000000000000 := by
    have h1 : (v1 * v2).natAbs = v1.natAbs * v2.natAbs := Int.natAbs_mul v1 v2
    have h2 : v1.natAbs * v2.natAbs ≤ 1000000 * 1000000 := Nat.mul_le_mul (by omega) (by omega)
    omega
  have htd := tdiv_rng (a := v1) (b := v2) hv1
  refine r_iload_n E 0 hl rfl dX1_apply_0 ?_
  by_cases t_1 : t9 < (-3) ∨ (-1) < t9
  · refine r_tout E 61 dX1_apply_1 (by omega) t_1 (by decide) ?_
    refine r_lload_n E 2 hl rfl dX1_apply_61 ?_
    refine r_lconst (v := zL 0) E dX1_apply_62 (by decide) ?_
    refine r_lcmp E dX1_apply_63 (by omega) (fun z_63 ze_63 => ?_)
    refine r_if_ne E 71 dX1_apply_64 (by decide) (by omega) (fun c_64 => ?_) (fun c_64 => ?_)
    · skip
      refine r_lload_n E 1 hl rfl dX1_apply_71 ?_
      refine r_lload_n E 2 hl rfl dX1_apply_72 ?_
      refine r_ldiv E dX1_apply_73 (by omega) (by omega) ?_
      refine r_ldc E (v := (-1000000)) (List.mem_of_getElem? (i := 1) rfl) (n := -1000000) (by decide) dX1_apply_74 ?_
      refine r_ldc E (v := 1000000) (List.mem_of_getElem? (i := 2) rfl) (n := 1000000) (by decide) dX1_apply_76 ?_
      refine r_callNSI E hX h (As := [.long (zL (Int.tdiv v1 v2)), .int (zI (-1000000)), .int (zI 1000000)]) (rest := []) (k_X10_limit l (Int.tdiv v1 v2) (-1000000) 1000000 (by omega) (by omega)) gX1_apply_X10_limit_n24 rfl (by decide +kernel) (List.mem_of_getElem? (i := 4) rfl) (List.mem_of_getElem? (i := 3) rfl) hd_X10_limit (by decide) ⟨by decide, by decide⟩ hl.1 rfl (Nat.le_of_ble_eq_true rfl) dX1_apply_78 rfl (fun z_78 ws H locs hp h => ?_)
      obtain ⟨rfl, rfl⟩ := hp
      exact r_iret E h ⟨by unfold app; rw [if_neg (by omega), if_neg (by omega), if_neg (by omega), if_neg (by omega), limI_in (by omega)], rfl⟩ dX1_apply_81
    · skip
      refine r_iconst E dX1_apply_67 ?_
      refine r_goto E 81 dX1_apply_68 (by decide) ?_
      exact r_iret E h ⟨by unfold app; rw [if_neg (by omega), if_neg (by omega), if_neg (by omega), if_pos (by omega)], rfl⟩ dX1_apply_81
  · rcases (show t9 = (-3) ∨ t9 = (-2) ∨ t9 = (-1) by omega) with s_1 | s_1 | s_1
    · refine r_tin (v := (-3)) E 50 dX1_apply_1 s_1 (by decide) rfl (by decide) ?_
      refine r_lload_n E 1 hl rfl dX1_apply_50 ?_
      refine r_lload_n E 2 hl rfl dX1_apply_51 ?_
      refine r_lmul E dX1_apply_52 ?_
      refine r_ldc E (v := (-1000000)) (List.mem_of_getElem? (i := 1) rfl) (n := -1000000) (by decide) dX1_apply_53 ?_
      refine r_ldc E (v := 1000000) (List.mem_of_getElem? (i := 2) rfl) (n := 1000000) (by decide) dX1_apply_55 ?_
      refine r_callNSI E hX h (As := [.long (zL (v1 * v2)), .int (zI (-1000000)), .int (zI 1000000)]) (rest := []) (k_X10_limit l (v1 * v2) (-1000000) 1000000 (by omega) (by omega)) gX1_apply_X10_limit_n24 rfl (by decide +kernel) (List.mem_of_getElem? (i := 4) rfl) (List.mem_of_getElem? (i := 3) rfl) hd_X10_limit (by decide) ⟨by decide, by decide⟩ hl.1 rfl (Nat.le_of_ble_eq_true rfl) dX1_apply_57 rfl (fun z_57 ws H locs hp h => ?_)
      obtain ⟨rfl, rfl⟩ := hp
      exact r_iret E h ⟨by unfold app; rw [if_neg (by omega), if_neg (by omega), if_pos (by omega), limI_6], rfl⟩ dX1_apply_60
    · refine r_tin (v := (-2)) E 39 dX1_apply_1 s_1 (by decide) rfl (by decide) ?_
      refine r_lload_n E 1 hl rfl dX1_apply_39 ?_
      refine r_lload_n E 2 hl rfl dX1_apply_40 ?_
      refine r_lsub E dX1_apply_41 ?_
      refine r_ldc E (v := (-1000000)) (List.mem_of_getElem? (i := 1) rfl) (n := -1000000) (by decide) dX1_apply_42 ?_
      refine r_ldc E (v := 1000000) (List.mem_of_getElem? (i := 2) rfl) (n := 1000000) (by decide) dX1_apply_44 ?_
      refine r_callNSI E hX h (As := [.long (zL (v1 - v2)), .int (zI (-1000000)), .int (zI 1000000)]) (rest := []) (k_X10_limit l (v1 - v2) (-1000000) 1000000 (by omega) (by omega)) gX1_apply_X10_limit_n24 rfl (by decide +kernel) (List.mem_of_getElem? (i := 4) rfl) (List.mem_of_getElem? (i := 3) rfl) hd_X10_limit (by decide) ⟨by decide, by decide⟩ hl.1 rfl (Nat.le_of_ble_eq_true rfl) dX1_apply_46 rfl (fun z_46 ws H locs hp h => ?_)
      obtain ⟨rfl, rfl⟩ := hp
      exact r_iret E h ⟨by unfold app; rw [if_neg (by omega), if_pos (by omega), limI_6], rfl⟩ dX1_apply_49
    · refine r_tin (v := (-1)) E 28 dX1_apply_1 s_1 (by decide) rfl (by decide) ?_
      refine r_lload_n E 1 hl rfl dX1_apply_28 ?_
      refine r_lload_n E 2 hl rfl dX1_apply_29 ?_
      refine r_ladd E dX1_apply_30 ?_
      refine r_ldc E (v := (-1000000)) (List.mem_of_getElem? (i := 1) rfl) (n := -1000000) (by decide) dX1_apply_31 ?_
      refine r_ldc E (v := 1000000) (List.mem_of_getElem? (i := 2) rfl) (n := 1000000) (by decide) dX1_apply_33 ?_
      refine r_callNSI E hX h (As := [.long (zL (v1 + v2)), .int (zI (-1000000)), .int (zI 1000000)]) (rest := []) (k_X10_limit l (v1 + v2) (-1000000) 1000000 (by omega) (by omega)) gX1_apply_X10_limit_n24 rfl (by decide +kernel) (List.mem_of_getElem? (i := 4) rfl) (List.mem_of_getElem? (i := 3) rfl) hd_X10_limit (by decide) ⟨by decide, by decide⟩ hl.1 rfl (Nat.le_of_ble_eq_true rfl) dX1_apply_35 rfl (fun z_35 ws H locs hp h => ?_)
      obtain ⟨rfl, rfl⟩ := hp
      exact r_iret E h ⟨by unfold app; rw [if_pos (by omega), limI_6], rfl⟩ dX1_apply_38
theorem hd_X1_weigh : yX1_weigh.cls = RX1 ∧ yX1_weigh.cls ≠ "java/lang/invoke/MethodHandle" ∧ yX1_weigh.cls ≠ "java/lang/invoke/VarHandle" ∧ (parseMethodDescriptor yX1_weigh.desc).map (fun d => d.parameters.length) = some 3 := by decide +kernel
theorem fl_X1_weigh_13 : Cond.fieldLink RX1 13 (TX1 0).1 (TX1 0).2.1 (TX1 0).2.2.1 ∈ wsX1_weigh := List.mem_of_getElem? (i := 1) rfl
theorem inn_X1_weigh_1 : ∀ w ∈ wsX10, w ∈ wsX1_weigh := fun _ h => List.mem_cons_of_mem _ (List.mem_append_right _ h)
theorem fl_X1_weigh_9 : Cond.fieldLink RX1 9 (TX1 1).1 (TX1 1).2.1 (TX1 1).2.2.1 ∈ wsX1_weigh := List.mem_of_getElem? (i := 2) rfl
abbrev rm_X1_weigh : Room := { frames := 3, cells := 0, slots := 0, locals := 70 }
set_option maxHeartbeats 1200000 in
set_option maxRecDepth 100000 in
theorem k_X1_weigh (l : Launch) {G : va_G} {cy : Nat → ClassId} {ws0 : va_W} {qf afo qt9 atk qs9 ask : Nat} {st9 : Int → Int} {T : List Int} (r9 g9 c9 : Int) (h_fo : ws0[qf]? = some (afo, .inr (1, [.ref atk, .ref ask]))) (h_tk : ws0[qt9]? = some (atk, aI cy T.length (tkF T))) (h_sk : ws0[qs9]? = some (ask, aI cy 11 st9)) (hqf : qf ≠ qs9 ∧ qt9 ≠ qs9) (hTk : T.length ≤ 600 ∧ (∀ t : Int, t ∈ T → -7 ≤ t ∧ t ≤ 9999) ∧ (T = [] ∨ HeightOk 0 T)) (hr : 0 ≤ r9 ∧ r9 ≤ 4) (hg : 0 ≤ g9 ∧ g9 ≤ 40) (hc : 0 ≤ c9 ∧ c9 ≤ 4) : MIk l yX1_weigh wsX1_weigh rm_X1_weigh G cy [.ref afo, .int (zI r9), .int (zI g9), .int (zI c9)] ws0 (fun z u => z = wgt T r9 g9 c9 ∧ ∃ st2 : Int → Int, u[qs9]? = some (ask, aI cy 11 st2) ∧ Eqx ws0 u (fun j => j = qs9)) := by
  refine MIk.of (own := RX1) (cc := cX1_weigh) (nL := 7) (ret := (some .int)) (by decide) rfl rfl (Nat.le_of_ble_eq_true rfl) ?_
  intro p e s m below meth c A ls hX E h hl
  have hl : lv_has ls 7 [(0, .ref afo), (1, .int (zI r9)), (2, .int (zI g9)), (3, .int (zI c9))] := hl
  have hE : Eqx ws0 ws0 (fun j => j = qs9) := Eqx.rf
  obtain ⟨hTl, hTm, hTh⟩ := hTk
  refine r_aload_n E 0 hl rfl dX1_weigh_0 ?_
  refine r_get (v := .ref atk) E h h_fo rfl inn_X1_weigh_1 0 (by decide) fl_X1_weigh_13 rfl dX1_weigh_1 ?_
  refine r_alen E h rfl h_tk (v := T.length) rfl dX1_weigh_4 ?_
  refine r_if_ne E 10 dX1_weigh_5 (by decide) (by omega) (fun c_5 => ?_) (fun c_5 => ?_)
  · skip
    have hTn : T ≠ [] := fun hh => by rw [hh] at c_5; exact c_5 rfl
    have hTH : HeightOk 0 T := hTh.resolve_left hTn
    refine r_iconst E dX1_weigh_10 ?_
    refine r_istore (lv' := [(4, .int (zI 0)), (0, .ref afo), (1, .int (zI r9)), (2, .int (zI g9)), (3, .int (zI c9))]) E hl dX1_weigh_11 (by decide) rfl (fun ls hl => ?_)
    refine r_iconst E dX1_weigh_13 ?_
    refine r_istore (lv' := [(5, .int (zI 0)), (4, .int (zI 0)), (0, .ref afo), (1, .int (zI r9)), (2, .int (zI g9)), (3, .int (zI c9))]) E hl dX1_weigh_14 (by decide) rfl (fun ls hl => ?_)
    refine r_loop (fun n H locs ls => ∃ (ws : va_W) (n8 : Int) (i : Int) (s8 : List Int) (st2 : Int → Int), n = (T.length - i).toNat ∧ (0 ≤ i ∧ i ≤ T.length) ∧ (HeightOk (s8.length : Int) (T.drop i.toNat)) ∧ (evT r9 g9 c9 (T.drop i.toNat) s8 = evT r9 g9 c9 T []) ∧ (StkI st2 s8) ∧ (∀ a : Int, a ∈ s8 → -1000000 ≤ a ∧ a ≤ 1000000) ∧ (n8 = (s8.length : Int) ∧ n8 ≤ 11) ∧ Hp G ws A s.heap H locs ∧ (ws[qf]? = some (afo, .inr (1, [.ref atk, .ref ask]))) ∧ (ws[qt9]? = some (atk, aI cy T.length (tkF T))) ∧ (ws[qs9]? = some (ask, aI cy 11 st2)) ∧ Eqx ws0 ws (fun j => j = qs9) ∧ lv_has ls 7 [(0, .ref afo), (1, .int (zI r9)), (2, .int (zI g9)), (3, .int (zI c9)), (4, .int (zI n8)), (5, .int (zI i))]) _ ⟨ws0, 0, 0, ([]), st9, rfl, (by omega), hTH, rfl, trivial, (fun a ha => absurd ha List.not_mem_nil), ⟨rfl, by decide⟩, h, h_fo, h_tk, h_sk, hE, lv_sub hl [2, 3, 4, 5, 1, 0] rfl⟩ ?_
    rintro n H locs ls ⟨ws, n8, i, s8, st2, hn, i1, i3, i4, i5, i6, i7, h, h_fo, h_tk, h_sk, hE, hl⟩ ih_16
    refine r_iload E 5 hl rfl dX1_weigh_16 ?_
    refine r_aload_n E 0 hl rfl dX1_weigh_18 ?_
    refine r_get (v := .ref atk) E h h_fo rfl inn_X1_weigh_1 0 (by decide) fl_X1_weigh_13 rfl dX1_weigh_19 ?_
    refine r_alen E h rfl h_tk (v := T.length) rfl dX1_weigh_22 ?_
    refine r_icmp_ge E 138 dX1_weigh_23 (by decide) (by omega) (fun c_23 => ?_) (fun c_23 => ?_)
    · skip
      have hTz : T.drop i.toNat = [] := List.drop_eq_nil_of_le (by omega)
      rw [hTz] at i3 i4
      have hh1 : (s8.length : Int) = 1 := i3
      obtain ⟨v1, hs1⟩ : ∃ v1, s8 = [v1] := by
        cases s8 with
        | nil => simp at hh1
        | cons v1 s2 => cases s2 with
          | nil => exact ⟨v1, rfl⟩
          | cons _ _ => simp at hh1; omega
      have hst := i5
      rw [hs1] at hst i4
      have hv1 := i6 v1 (by rw [hs1]; simp)
      have hev : evT r9 g9 c9 T [] = v1 := i4.symm
      have hst0 : st2 0 = v1 := hst.1
      refine r_aload_n E 0 hl rfl dX1_weigh_138 ?_
      refine r_get (v := .ref ask) E h h_fo rfl inn_X1_weigh_1 1 (by decide) fl_X1_weigh_9 rfl dX1_weigh_139 ?_
      refine r_iconst E dX1_weigh_142 ?_
      refine r_iald E h h_sk (by omega) (by decide) dX1_weigh_143 ?_
      rw [show st2 0 = v1 from hst0]
      refine r_i2l E dX1_weigh_144 (by omega) ?_
      refine r_iconst E dX1_weigh_145 ?_
      refine r_sipush E dX1_weigh_146 (by decide) ?_
      refine r_callNSI E hX h (As := [.long (zL v1), .int (zI 0), .int (zI 999)]) (rest := []) (k_X10_limit l v1 0 999 (by omega) (by omega)) gX1_weigh_X10_limit_n24 rfl (by decide +kernel) (List.mem_of_getElem? (i := 10) rfl) (List.mem_of_getElem? (i := 9) rfl) hd_X10_limit (by decide) ⟨by decide, by decide⟩ hl.1 rfl (Nat.le_of_ble_eq_true rfl) dX1_weigh_149 rfl (fun z_149 ws H locs hp h => ?_)
      obtain ⟨rfl, rfl⟩ := hp
      exact r_iret E h ⟨by unfold wgt; rw [if_neg hTn, hev]; rfl, st2, h_sk, hE⟩ dX1_weigh_152
    · skip
      have hil : i.toNat < T.length := by omega
      have hTd := drop_getD hil
      have htm := hTm _ (getD_mem hil)
      have hht := i3
      rw [hTd] at hht
      simp only [HeightOk] at hht
      have hev := i4
      rw [hTd] at hev
      have hi1 : (i + 1).toNat = i.toNat + 1 := by omega
      refine r_aload_n E 0 hl rfl dX1_weigh_26 ?_
      refine r_get (v := .ref atk) E h h_fo rfl inn_X1_weigh_1 0 (by decide) fl_X1_weigh_13 rfl dX1_weigh_27 ?_
      refine r_iload E 5 hl rfl dX1_weigh_30 ?_
      refine r_iald E h h_tk (by omega) (by omega) dX1_weigh_32 ?_
      rw [show (tkF T) i = T.getD i.toNat 0 from rfl]
      refine r_istore (lv' := [(6, .int (zI (T.getD i.toNat 0))), (0, .ref afo), (1, .int (zI r9)), (2, .int (zI g9)), (3, .int (zI c9)), (4, .int (zI n8)), (5, .int (zI i))]) E hl dX1_weigh_33 (by decide) rfl (fun ls hl => ?_)
      refine r_iload E 0 hl rfl dX1_weigh_35 ?_
      refine r_iconst E dX1_weigh_37 ?_
      refine r_icmp_gt E 104 dX1_weigh_38 (by decide) (by omega) (fun c_38 => ?_) (fun c_38 => ?_)
      · skip
        have hop : ¬ (T.getD i.toNat 0 ≤ -1 ∧ -4 ≤ T.getD i.toNat 0) := by omega
        rw [if_neg hop] at hht
        have hor := opd_rng (r := r9) (g := g9) (c := c9) htm hop (by omega) (by omega) (by omega)
        refine r_iload E 5 hl rfl dX1_weigh_104 ?_
        refine r_aload_n E 1 hl rfl dX1_weigh_106 ?_
        refine r_get (v := .ref ask) E h h_fo rfl inn_X1_weigh_1 1 (by decide) fl_X1_weigh_9 rfl dX1_weigh_107 ?_
        refine r_alen E h rfl h_sk (v := 11) rfl dX1_weigh_110 ?_
        refine r_icmp_ge E 132 dX1_weigh_111 (by decide) (by omega) (fun c_111 => ?_) (fun c_111 => ?_)
        · skip
          exfalso; omega
        · skip
          refine r_aload_n E 1 hl rfl dX1_weigh_114 ?_
          refine r_get (v := .ref ask) E h h_fo rfl inn_X1_weigh_1 1 (by decide) fl_X1_weigh_9 rfl dX1_weigh_115 ?_
          refine r_iload E 5 hl rfl dX1_weigh_118 ?_
          refine r_iload E 0 hl rfl dX1_weigh_120 ?_
          refine r_iload_n E 2 hl rfl dX1_weigh_122 ?_
          refine r_iload_n E 3 hl rfl dX1_weigh_123 ?_
          refine r_iload_n E 4 hl rfl dX1_weigh_124 ?_
          refine r_callSI E h (As := [.int (zI (T.getD i.toNat 0)), .int (zI r9), .int (zI g9), .int (zI c9)]) (rest := [.int (zI n8), .ref ask]) (k_X1_operand l (T.getD i.toNat 0) r9 g9 c9 (by omega)) gX1_weigh_X1_operand rfl hd_X1_operand (by decide) ⟨by decide, by decide⟩ hl.1 rfl (Nat.le_of_ble_eq_true rfl) dX1_weigh_125 rfl (fun z_125 ws H locs hp h => ?_)
          obtain ⟨rfl, rfl⟩ := hp
          refine r_iast E h h_sk (by omega) (by decide) dX1_weigh_128 (fun ws H locs h hu => ?_)
          have h_fo := hu.keep h_fo (by omega)
          have h_tk := hu.keep h_tk (by omega)
          have h_sk : ws[qs9]? = some (ask, aI cy 11 (uZ st2 n8 (opd (T.getD i.toNat 0) r9 g9 c9))) := hu.1
          have hE := hE.tr (hu.eqx (by first | omega | (dsimp only <;> omega)))
          refine r_iinc (lv' := [(4, .int (zI (n8 + 1))), (6, .int (zI (T.getD i.toNat 0))), (0, .ref afo), (1, .int (zI r9)), (2, .int (zI g9)), (3, .int (zI c9)), (5, .int (zI i))]) E 5 hl rfl dX1_weigh_129 (by decide) rfl (fun ls hl => ?_)
          have hN : HeightOk ((opd (T.getD i.toNat 0) r9 g9 c9 :: s8).length : Int) (T.drop (i + 1).toNat) ∧ evT r9 g9 c9 (T.drop (i + 1).toNat) (opd (T.getD i.toNat 0) r9 g9 c9 :: s8) = evT r9 g9 c9 T [] ∧ StkI (uZ st2 n8 (opd (T.getD i.toNat 0) r9 g9 c9)) (opd (T.getD i.toNat 0) r9 g9 c9 :: s8) ∧ (∀ a : Int, a ∈ opd (T.getD i.toNat 0) r9 g9 c9 :: s8 → -1000000 ≤ a ∧ a ≤ 1000000) := by
            rw [hi1]
            refine ⟨?_, ?_, ⟨?_, ?_⟩, ?_⟩
            · have := hht.2; rwa [show (s8.length : Int) + 1 = ((opd (T.getD i.toNat 0) r9 g9 c9 :: s8).length : Int) by simp only [List.length_cons]; omega] at this
            · rw [← hev]; exact (if_neg hop).symm
            · rw [show ((s8.length : Nat) : Int) = n8 by omega]; exact uZ_s
            · exact StkI.set (by omega) i5
            · intro a ha; rcases List.mem_cons.mp ha with rfl | ha
              · exact hor
              · exact i6 a ha
          have hN5 : (opd (T.getD i.toNat 0) r9 g9 c9 :: s8).length = s8.length + 1 := rfl
          refine r_iinc (lv' := [(5, .int (zI (i + 1))), (4, .int (zI (n8 + 1))), (6, .int (zI (T.getD i.toNat 0))), (0, .ref afo), (1, .int (zI r9)), (2, .int (zI g9)), (3, .int (zI c9))]) E 6 hl rfl dX1_weigh_132 (by decide) rfl (fun ls hl => ?_)
          refine r_goto E 16 dX1_weigh_135 (by decide) ?_
          exact ih_16 _ H locs ls (by omega) ⟨ws, (n8 + 1), (i + 1), ((opd (T.getD i.toNat 0) r9 g9 c9 :: s8)), (uZ st2 n8 (opd (T.getD i.toNat 0) r9 g9 c9)), rfl, (by omega), hN.1, hN.2.1, hN.2.2.1, hN.2.2.2, (by rw [hN5]; omega), h, h_fo, h_tk, h_sk, hE, lv_sub hl [3, 4, 5, 6, 1, 0] rfl⟩
      · skip
        refine r_iload E 0 hl rfl dX1_weigh_41 ?_
        refine r_bipush E dX1_weigh_43 (by decide) ?_
        refine r_icmp_lt E 104 dX1_weigh_45 (by decide) (by omega) (fun c_45 => ?_) (fun c_45 => ?_)
        · skip
          have hop : ¬ (T.getD i.toNat 0 ≤ -1 ∧ -4 ≤ T.getD i.toNat 0) := by omega
          rw [if_neg hop] at hht
          have hor := opd_rng (r := r9) (g := g9) (c := c9) htm hop (by omega) (by omega) (by omega)
          refine r_iload E 5 hl rfl dX1_weigh_104 ?_
          refine r_aload_n E 1 hl rfl dX1_weigh_106 ?_
          refine r_get (v := .ref ask) E h h_fo rfl inn_X1_weigh_1 1 (by decide) fl_X1_weigh_9 rfl dX1_weigh_107 ?_
          refine r_alen E h rfl h_sk (v := 11) rfl dX1_weigh_110 ?_
          refine r_icmp_ge E 132 dX1_weigh_111 (by decide) (by omega) (fun c_111 => ?_) (fun c_111 => ?_)
          · skip
            exfalso; omega
          · skip
            refine r_aload_n E 1 hl rfl dX1_weigh_114 ?_
            refine r_get (v := .ref ask) E h h_fo rfl inn_X1_weigh_1 1 (by decide) fl_X1_weigh_9 rfl dX1_weigh_115 ?_
            refine r_iload E 5 hl rfl dX1_weigh_118 ?_
            refine r_iload E 0 hl rfl dX1_weigh_120 ?_
            refine r_iload_n E 2 hl rfl dX1_weigh_122 ?_
            refine r_iload_n E 3 hl rfl dX1_weigh_123 ?_
            refine r_iload_n E 4 hl rfl dX1_weigh_124 ?_
            refine r_callSI E h (As := [.int (zI (T.getD i.toNat 0)), .int (zI r9), .int (zI g9), .int (zI c9)]) (rest := [.int (zI n8), .ref ask]) (k_X1_operand l (T.getD i.toNat 0) r9 g9 c9 (by omega)) gX1_weigh_X1_operand rfl hd_X1_operand (by decide) ⟨by decide, by decide⟩ hl.1 rfl (Nat.le_of_ble_eq_true rfl) dX1_weigh_125 rfl (fun z_125 ws H locs hp h => ?_)
            obtain ⟨rfl, rfl⟩ := hp
            refine r_iast E h h_sk (by omega) (by decide) dX1_weigh_128 (fun ws H locs h hu => ?_)
            have h_fo := hu.keep h_fo (by omega)
            have h_tk := hu.keep h_tk (by omega)
            have h_sk : ws[qs9]? = some (ask, aI cy 11 (uZ st2 n8 (opd (T.getD i.toNat 0) r9 g9 c9))) := hu.1
            have hE := hE.tr (hu.eqx (by first | omega | (dsimp only <;> omega)))
            refine r_iinc (lv' := [(4, .int (zI (n8 + 1))), (6, .int (zI (T.getD i.toNat 0))), (0, .ref afo), (1, .int (zI r9)), (2, .int (zI g9)), (3, .int (zI c9)), (5, .int (zI i))]) E 5 hl rfl dX1_weigh_129 (by decide) rfl (fun ls hl => ?_)
            have hN : HeightOk ((opd (T.getD i.toNat 0) r9 g9 c9 :: s8).length : Int) (T.drop (i + 1).toNat) ∧ evT r9 g9 c9 (T.drop (i + 1).toNat) (opd (T.getD i.toNat 0) r9 g9 c9 :: s8) = evT r9 g9 c9 T [] ∧ StkI (uZ st2 n8 (opd (T.getD i.toNat 0) r9 g9 c9)) (opd (T.getD i.toNat 0) r9 g9 c9 :: s8) ∧ (∀ a : Int, a ∈ opd (T.getD i.toNat 0) r9 g9 c9 :: s8 → -1000000 ≤ a ∧ a ≤ 1000000) := by
              rw [hi1]
              refine ⟨?_, ?_, ⟨?_, ?_⟩, ?_⟩
              · have := hht.2; rwa [show (s8.length : Int) + 1 = ((opd (T.getD i.toNat 0) r9 g9 c9 :: s8).length : Int) by simp only [List.length_cons]; omega] at this
              · rw [← hev]; exact (if_neg hop).symm
              · rw [show ((s8.length : Nat) : Int) = n8 by omega]; exact uZ_s
              · exact StkI.set (by omega) i5
              · intro a ha; rcases List.mem_cons.mp ha with rfl | ha
                · exact hor
                · exact i6 a ha
            have hN5 : (opd (T.getD i.toNat 0) r9 g9 c9 :: s8).length = s8.length + 1 := rfl
            refine r_iinc (lv' := [(5, .int (zI (i + 1))), (4, .int (zI (n8 + 1))), (6, .int (zI (T.getD i.toNat 0))), (0, .ref afo), (1, .int (zI r9)), (2, .int (zI g9)), (3, .int (zI c9))]) E 6 hl rfl dX1_weigh_132 (by decide) rfl (fun ls hl => ?_)
            refine r_goto E 16 dX1_weigh_135 (by decide) ?_
            exact ih_16 _ H locs ls (by omega) ⟨ws, (n8 + 1), (i + 1), ((opd (T.getD i.toNat 0) r9 g9 c9 :: s8)), (uZ st2 n8 (opd (T.getD i.toNat 0) r9 g9 c9)), rfl, (by omega), hN.1, hN.2.1, hN.2.2.1, hN.2.2.2, (by rw [hN5]; omega), h, h_fo, h_tk, h_sk, hE, lv_sub hl [3, 4, 5, 6, 1, 0] rfl⟩
        · skip
          have hop : T.getD i.toNat 0 ≤ -1 ∧ -4 ≤ T.getD i.toNat 0 := by omega
          rw [if_pos hop] at hht
          obtain ⟨b1, a1, s1, hs1⟩ : ∃ b1 a1 s1, s8 = b1 :: a1 :: s1 := by
            have hh := hht.1
            cases s8 with
            | nil => simp at hh
            | cons b1 s2 => cases s2 with
              | nil => simp at hh
              | cons a1 s1 => exact ⟨b1, a1, s1, rfl⟩
          have hsl : (s8.length : Int) = (s1.length : Int) + 2 := by rw [hs1]; simp only [List.length_cons]; omega
          have hst := i5
          rw [hs1] at hst
          have ha1 := i6 a1 (by rw [hs1]; simp)
          have hb1 := i6 b1 (by rw [hs1]; simp)
          refine r_iload E 5 hl rfl dX1_weigh_48 ?_
          refine r_iconst E dX1_weigh_50 ?_
          refine r_icmp_lt E 132 dX1_weigh_51 (by decide) (by omega) (fun c_51 => ?_) (fun c_51 => ?_)
          · skip
            exfalso; omega
          · skip
            refine r_iload E 5 hl rfl dX1_weigh_54 ?_
            refine r_aload_n E 1 hl rfl dX1_weigh_56 ?_
            refine r_get (v := .ref ask) E h h_fo rfl inn_X1_weigh_1 1 (by decide) fl_X1_weigh_9 rfl dX1_weigh_57 ?_
            refine r_alen E h rfl h_sk (v := 11) rfl dX1_weigh_60 ?_
            refine r_icmp_gt E 132 dX1_weigh_61 (by decide) (by omega) (fun c_61 => ?_) (fun c_61 => ?_)
            · skip
              exfalso; omega
            · skip
              refine r_aload_n E 1 hl rfl dX1_weigh_64 ?_
              refine r_get (v := .ref ask) E h h_fo rfl inn_X1_weigh_1 1 (by decide) fl_X1_weigh_9 rfl dX1_weigh_65 ?_
              refine r_iload E 5 hl rfl dX1_weigh_68 ?_
              refine r_iconst E dX1_weigh_70 ?_
              refine r_isub E dX1_weigh_71 ?_
              refine r_iload E 0 hl rfl dX1_weigh_72 ?_
              refine r_aload_n E 1 hl rfl dX1_weigh_74 ?_
              refine r_get (v := .ref ask) E h h_fo rfl inn_X1_weigh_1 1 (by decide) fl_X1_weigh_9 rfl dX1_weigh_75 ?_
              refine r_iload E 5 hl rfl dX1_weigh_78 ?_
              refine r_iconst E dX1_weigh_80 ?_
              refine r_isub E dX1_weigh_81 ?_
              refine r_iald E h h_sk (by omega) (by decide) dX1_weigh_82 ?_
              rw [show st2 (n8 - 2) = a1 from (by rw [show n8 - 2 = ((s1.length : Nat) : Int) by omega]; exact hst.2.1)]
              refine r_i2l E dX1_weigh_83 (by omega) ?_
              refine r_aload_n E 1 hl rfl dX1_weigh_84 ?_
              refine r_get (v := .ref ask) E h h_fo rfl inn_X1_weigh_1 1 (by decide) fl_X1_weigh_9 rfl dX1_weigh_85 ?_
              refine r_iload E 5 hl rfl dX1_weigh_88 ?_
              refine r_iconst E dX1_weigh_90 ?_
              refine r_isub E dX1_weigh_91 ?_
              refine r_iald E h h_sk (by omega) (by decide) dX1_weigh_92 ?_
              rw [show st2 (n8 - 1) = b1 from (by have := hst.1; rwa [show (((a1 :: s1).length : Nat) : Int) = n8 - 1 by simp only [List.length_cons]; omega] at this)]
              refine r_i2l E dX1_weigh_93 (by omega) ?_
              refine r_callSkI E hX h (As := [.int (zI (T.getD i.toNat 0)), .long (zL a1), .long (zL b1)]) (rest := [.int (zI (n8 - 2)), .ref ask]) (k_X1_apply l (T.getD i.toNat 0) a1 b1 (by omega) (by omega) (by omega)) gX1_weigh_X1_apply rfl hd_X1_apply (by decide) ⟨by decide, by decide⟩ hl.1 rfl (Nat.le_of_ble_eq_true rfl) dX1_weigh_94 rfl (fun z_94 ws H locs hp h => ?_)
              obtain ⟨rfl, rfl⟩ := hp
              refine r_iast E h h_sk (by omega) (by decide) dX1_weigh_97 (fun ws H locs h hu => ?_)
              have h_fo := hu.keep h_fo (by omega)
              have h_tk := hu.keep h_tk (by omega)
              have h_sk : ws[qs9]? = some (ask, aI cy 11 (uZ st2 (n8 - 2) (app (T.getD i.toNat 0) a1 b1))) := hu.1
              have hE := hE.tr (hu.eqx (by first | omega | (dsimp only <;> omega)))
              refine r_iinc (lv' := [(4, .int (zI (n8 + (-1)))), (6, .int (zI (T.getD i.toNat 0))), (0, .ref afo), (1, .int (zI r9)), (2, .int (zI g9)), (3, .int (zI c9)), (5, .int (zI i))]) E 5 hl rfl dX1_weigh_98 (by decide) rfl (fun ls hl => ?_)
              refine r_goto E 132 dX1_weigh_101 (by decide) ?_
              have hN : HeightOk ((app (T.getD i.toNat 0) a1 b1 :: s1).length : Int) (T.drop (i + 1).toNat) ∧ evT r9 g9 c9 (T.drop (i + 1).toNat) (app (T.getD i.toNat 0) a1 b1 :: s1) = evT r9 g9 c9 T [] ∧ StkI (uZ st2 (n8 - 2) (app (T.getD i.toNat 0) a1 b1)) (app (T.getD i.toNat 0) a1 b1 :: s1) ∧ (∀ a : Int, a ∈ app (T.getD i.toNat 0) a1 b1 :: s1 → -1000000 ≤ a ∧ a ≤ 1000000) := by
                rw [hi1]
                refine ⟨?_, ?_, ⟨?_, ?_⟩, ?_⟩
                · have := hht.2; rwa [show (s8.length : Int) - 1 = ((app (T.getD i.toNat 0) a1 b1 :: s1).length : Int) by simp only [List.length_cons]; omega] at this
                · rw [← hev, hs1]; exact (if_pos hop).symm
                · rw [show ((s1.length : Nat) : Int) = n8 - 2 by omega]; exact uZ_s
                · exact StkI.set (by omega) hst.2.2
                · intro a ha; rcases List.mem_cons.mp ha with rfl | ha
                  · exact app_rng ha1
                  · exact i6 a (by rw [hs1]; simp [ha])
              have hN5 : (app (T.getD i.toNat 0) a1 b1 :: s1).length = s1.length + 1 := rfl
              refine r_iinc (lv' := [(5, .int (zI (i + 1))), (4, .int (zI (n8 + (-1)))), (6, .int (zI (T.getD i.toNat 0))), (0, .ref afo), (1, .int (zI r9)), (2, .int (zI g9)), (3, .int (zI c9))]) E 6 hl rfl dX1_weigh_132 (by decide) rfl (fun ls hl => ?_)
              refine r_goto E 16 dX1_weigh_135 (by decide) ?_
              exact ih_16 _ H locs ls (by omega) ⟨ws, (n8 + (-1)), (i + 1), ((app (T.getD i.toNat 0) a1 b1 :: s1)), (uZ st2 (n8 - 2) (app (T.getD i.toNat 0) a1 b1)), rfl, (by omega), hN.1, hN.2.1, hN.2.2.1, hN.2.2.2, (by rw [hN5]; omega), h, h_fo, h_tk, h_sk, hE, lv_sub hl [3, 4, 5, 6, 1, 0] rfl⟩
  · skip
    refine r_iconst E dX1_weigh_8 ?_
    have hTe : T = [] := List.length_eq_zero_iff.mp (by omega)
    exact r_iret E h ⟨by unfold wgt; rw [if_pos hTe], st9, h_sk, hE⟩ dX1_weigh_9
theorem hd_X8_add : yX8_add.cls = RX8 ∧ yX8_add.cls ≠ "java/lang/invoke/MethodHandle" ∧ yX8_add.cls ≠ "java/lang/invoke/VarHandle" ∧ (parseMethodDescriptor yX8_add.desc).map (fun d => d.parameters.length) = some 2 := by decide +kernel
theorem fl_X8_add_19 : Cond.fieldLink RX8 19 (TX8 2).1 (TX8 2).2.1 (TX8 2).2.2.1 ∈ wsX8_add := List.mem_of_getElem? (i := 1) rfl
theorem inn_X8_add_8 : ∀ w ∈ wsX80, w ∈ wsX8_add := fun _ h => List.mem_cons_of_mem _ (List.mem_append_right _ h)
theorem fl_X8_add_11 : Cond.fieldLink RX8 11 (TX8 0).1 (TX8 0).2.1 (TX8 0).2.2.1 ∈ wsX8_add := List.mem_of_getElem? (i := 2) rfl
theorem fl_X8_add_15 : Cond.fieldLink RX8 15 (TX8 1).1 (TX8 1).2.1 (TX8 1).2.2.1 ∈ wsX8_add := List.mem_of_getElem? (i := 3) rfl
theorem fl_X8_add_26 : Cond.fieldLink RX8 26 (TX8 4).1 (TX8 4).2.1 (TX8 4).2.2.1 ∈ wsX8_add := List.mem_of_getElem? (i := 4) rfl
abbrev rm_X8_add : Room := { frames := 0, cells := 0, slots := 0, locals := 0 }
set_option maxHeartbeats 1200000 in
set_option maxRecDepth 100000 in
theorem k_X8_add (l : Launch) {G : va_G} {cy : Nat → ClassId} {ws0 : va_W} {q a ase awr art awt are ars : Nat} {se : Int → Int64} {wr : Int → Int} {sz riw : Int} (v9 : Int64) (g9 : Int) (h_tb : ws0[q]? = some (a, .inr (8, [.ref ase, .ref awr, .int (zI sz), .ref art, .int (zI riw), .ref awt, .ref are, .ref ars]))) (h_se : ws0[q + 1]? = some (ase, aL cy 6400 se)) (h_wr : ws0[q + 2]? = some (awr, aI cy 6400 wr)) (hsz : 0 ≤ sz ∧ sz < 6400) : MV l yX8_add wsX8_add rm_X8_add G cy [.ref a, .long v9, .int (zI g9)] ws0 (fun u => u[q]? = some (a, .inr (8, [.ref ase, .ref awr, .int (zI (sz + 1)), .ref art, .int (zI riw), .ref awt, .ref are, .ref ars])) ∧ u[q + 1]? = some (ase, aL cy 6400 (uZ se sz v9)) ∧ u[q + 2]? = some (awr, aI cy 6400 (uZ wr sz (riw * 41 + g9))) ∧ Eqx ws0 u (fun j => j = q ∨ j = q + 1 ∨ j = q + 2)) := by
  refine MV.of (own := RX8) (cc := cX8_add) (nL := 4) (ret := none) (by decide) rfl rfl (Nat.le_of_ble_eq_true rfl) ?_
  intro p e s m below meth c A ls hin E h hl
  have hl : lv_has ls 4 [(0, .ref a), (1, .long v9), (3, .int (zI g9))] := hl
  have hE : Eqx ws0 ws0 (fun j => j = q ∨ j = q + 1 ∨ j = q + 2) := Eqx.rf
  refine r_aload_n E 0 hl rfl dX8_add_0 ?_
  refine r_get (v := .int (zI sz)) E h h_tb rfl inn_X8_add_8 2 (by decide) fl_X8_add_19 rfl dX8_add_1 ?_
  refine r_aload_n E 0 hl rfl dX8_add_4 ?_
  refine r_get (v := .ref ase) E h h_tb rfl inn_X8_add_8 0 (by decide) fl_X8_add_11 rfl dX8_add_5 ?_
  refine r_alen E h rfl h_se (v := 6400) rfl dX8_add_8 ?_
  refine r_icmp_ge E 50 dX8_add_9 (by decide) (by omega) (fun c_9 => ?_) (fun c_9 => ?_)
  · skip
    exfalso; omega
  · skip
    refine r_aload_n E 0 hl rfl dX8_add_12 ?_
    refine r_get (v := .ref ase) E h h_tb rfl inn_X8_add_8 0 (by decide) fl_X8_add_11 rfl dX8_add_13 ?_
    refine r_aload_n E 0 hl rfl dX8_add_16 ?_
    refine r_get (v := .int (zI sz)) E h h_tb rfl inn_X8_add_8 2 (by decide) fl_X8_add_19 rfl dX8_add_17 ?_
    refine r_lload_n E 1 hl rfl dX8_add_20 ?_
    refine r_last E h h_se (by omega) (by decide) dX8_add_21 (fun ws H locs h hu => ?_)
    have h_tb := hu.keep h_tb (by omega)
    have h_se : ws[q + 1]? = some (ase, aL cy 6400 (uZ se sz v9)) := hu.1
    have h_wr := hu.keep h_wr (by omega)
    have hE := hE.tr (hu.eqx (by first | omega | (dsimp only <;> omega)))
    refine r_aload_n E 0 hl rfl dX8_add_22 ?_
    refine r_get (v := .ref awr) E h h_tb rfl inn_X8_add_8 1 (by decide) fl_X8_add_15 rfl dX8_add_23 ?_
    refine r_aload_n E 0 hl rfl dX8_add_26 ?_
    refine r_get (v := .int (zI sz)) E h h_tb rfl inn_X8_add_8 2 (by decide) fl_X8_add_19 rfl dX8_add_27 ?_
    refine r_aload_n E 0 hl rfl dX8_add_30 ?_
    refine r_get (v := .int (zI riw)) E h h_tb rfl inn_X8_add_8 4 (by decide) fl_X8_add_26 rfl dX8_add_31 ?_
    refine r_bipush E dX8_add_34 (by decide) ?_
    refine r_imul E dX8_add_36 ?_
    refine r_iload_n E 2 hl rfl dX8_add_37 ?_
    refine r_iadd E dX8_add_38 ?_
    refine r_iast E h h_wr (by omega) (by decide) dX8_add_39 (fun ws H locs h hu => ?_)
    have h_tb := hu.keep h_tb (by omega)
    have h_se := hu.keep h_se (by omega)
    have h_wr : ws[q + 2]? = some (awr, aI cy 6400 (uZ wr sz ((riw * 41) + g9))) := hu.1
    have hE := hE.tr (hu.eqx (by first | omega | (dsimp only <;> omega)))
    refine r_aload_n E 0 hl rfl dX8_add_40 ?_
    refine r_dup E dX8_add_41 rfl ?_
    refine r_get (v := .int (zI sz)) E h h_tb rfl inn_X8_add_8 2 (by decide) fl_X8_add_19 rfl dX8_add_42 ?_
    refine r_iconst E dX8_add_45 ?_
    refine r_iadd E dX8_add_46 ?_
    refine r_put E h h_tb rfl inn_X8_add_8 2 (by decide) fl_X8_add_19 tyX8 tyX8_ok nmX8 rfl rfl rfl (Nat.le_of_ble_eq_true rfl) dX8_add_47 (fun ws H locs h hu => ?_)
    have h_tb : ws[q]? = some (a, .inr (8, [.ref ase, .ref awr, .int (zI (sz + 1)), .ref art, .int (zI riw), .ref awt, .ref are, .ref ars])) := hu.1
    have h_se := hu.keep h_se (by omega)
    have h_wr := hu.keep h_wr (by omega)
    have hE := hE.tr (hu.eqx (by first | omega | (dsimp only <;> omega)))
    exact r_vret E h ⟨h_tb, h_se, h_wr, hE⟩ dX8_add_50
theorem hd_X8_fillWeights : yX8_fillWeights.cls = RX8 ∧ yX8_fillWeights.cls ≠ "java/lang/invoke/MethodHandle" ∧ yX8_fillWeights.cls ≠ "java/lang/invoke/VarHandle" ∧ (parseMethodDescriptor yX8_fillWeights.desc).map (fun d => d.parameters.length) = some 2 := by decide +kernel
theorem fl_X8_fillWeights_50 : Cond.fieldLink RX8 50 (TX6 0).1 (TX6 0).2.1 (TX6 0).2.2.1 ∈ wsX8_fillWeights := List.mem_of_getElem? (i := 1) rfl
theorem inn_X8_fillWeights_6 : ∀ w ∈ wsX60, w ∈ wsX8_fillWeights := fun _ h => List.mem_cons_of_mem _ (List.mem_append_left _ (List.mem_append_left _ (List.mem_append_right _ h)))
theorem fl_X8_fillWeights_67 : Cond.fieldLink RX8 67 (TX6 1).1 (TX6 1).2.1 (TX6 1).2.2.1 ∈ wsX8_fillWeights := List.mem_of_getElem? (i := 2) rfl
theorem fl_X8_fillWeights_29 : Cond.fieldLink RX8 29 (TX8 5).1 (TX8 5).2.1 (TX8 5).2.2.1 ∈ wsX8_fillWeights := List.mem_of_getElem? (i := 3) rfl
theorem inn_X8_fillWeights_8 : ∀ w ∈ wsX80, w ∈ wsX8_fillWeights := fun _ h => List.mem_cons_of_mem _ (List.mem_append_left _ (List.mem_append_right _ h))
theorem fl_X8_fillWeights_70 : Cond.fieldLink RX8 70 (TX6 3).1 (TX6 3).2.1 (TX6 3).2.2.1 ∈ wsX8_fillWeights := List.mem_of_getElem? (i := 4) rfl
abbrev rm_X8_fillWeights : Room := { frames := 4, cells := 0, slots := 0, locals := 96 }
set_option maxHeartbeats 1200000 in
set_option maxRecDepth 100000 in
theorem k_X8_fillWeights (l : Launch) {G : va_G} {cy : Nat → ClassId} {ws0 : va_W} {q a ase awr art awt are ars : Nat}  {wt : Int → Int} {sz riw : Int} {qf afo qt9 atk qs9 ask : Nat} {st9 : Int → Int} {qs asu ar9 : Nat} {d : Int → Int} {T : List Int} (r9 : Int) (h_tb : ws0[q]? = some (a, .inr (8, [.ref ase, .ref awr, .int (zI sz), .ref art, .int (zI riw), .ref awt, .ref are, .ref ars]))) (h_wt : ws0[q + 4]? = some (awt, aI cy 656 wt)) (h_su : ws0[qs]? = some (asu, .inr (6, [.int (zI (d 0)), .int (zI (d 1)), .ref ar9, .ref afo]))) (h_fo : ws0[qf]? = some (afo, .inr (1, [.ref atk, .ref ask]))) (h_tk : ws0[qt9]? = some (atk, aI cy T.length (tkF T))) (h_sk : ws0[qs9]? = some (ask, aI cy 11 st9)) (hqs : qs < q ∨ q + 7 ≤ qs) (hqf : qf ≠ qs9 ∧ qt9 ≠ qs9 ∧ qs ≠ qs9) (hqf2 : (qf < q ∨ q + 7 ≤ qf) ∧ (qt9 < q ∨ q + 7 ≤ qt9) ∧ (qs9 < q ∨ q + 7 ≤ qs9)) (hTk : T.length ≤ 600 ∧ (∀ t : Int, t ∈ T → -7 ≤ t ∧ t ≤ 9999) ∧ (T = [] ∨ HeightOk 0 T)) (hn : 0 ≤ d 0 ∧ d 0 ≤ 40) (hk : 0 ≤ d 1 ∧ d 1 ≤ 4) (hr : 0 ≤ r9 ∧ r9 < 4) : MVk l yX8_fillWeights wsX8_fillWeights rm_X8_fillWeights G cy [.ref a, .ref asu, .int (zI r9)] ws0 (fun u => ∃ (wt2 st2 : Int → Int), u[q + 4]? = some (awt, aI cy 656 wt2) ∧ u[qs9]? = some (ask, aI cy 11 st2) ∧ (∀ g c : Int, 1 ≤ g → g < d 0 + 1 → 0 ≤ c → c < d 1 → wt2 ((41 * r9 + g) * 4 + c) = wgt T r9 g c) ∧ (∀ j : Int, j < 164 * r9 → wt2 j = wt j) ∧ Eqx ws0 u (fun j => j = q + 4 ∨ j = qs9)) := by
  refine MVk.of (own := RX8) (cc := cX8_fillWeights) (nL := 6) (ret := none) (by decide) rfl rfl (Nat.le_of_ble_eq_true rfl) ?_
  intro p e s m below meth c A ls hX hin E h hl
  have hl : lv_has ls 6 [(0, .ref a), (1, .ref asu), (2, .int (zI r9))] := hl
  have hE : Eqx ws0 ws0 (fun j => j = q + 4 ∨ j = qs9) := Eqx.rf
  refine r_iconst E dX8_fillWeights_0 ?_
  refine r_istore_n (lv' := [(3, .int (zI 1)), (0, .ref a), (1, .ref asu), (2, .int (zI r9))]) E hl dX8_fillWeights_1 rfl (by decide) rfl (fun ls hl => ?_)
  refine r_loop (fun n H locs ls => ∃ (ws : va_W) (g : Int) (wt2 : Int → Int) (st2 : Int → Int), n = (41 - g).toNat ∧ (1 ≤ g ∧ g ≤ d 0 + 1) ∧ (∀ g8 c : Int, 1 ≤ g8 → g8 < g → 0 ≤ c → c < d 1 → wt2 ((41 * r9 + g8) * 4 + c) = wgt T r9 g8 c) ∧ (∀ j : Int, j < 164 * r9 → wt2 j = wt j) ∧ Hp G ws A s.heap H locs ∧ (ws[q]? = some (a, .inr (8, [.ref ase, .ref awr, .int (zI sz), .ref art, .int (zI riw), .ref awt, .ref are, .ref ars]))) ∧ (ws[q + 4]? = some (awt, aI cy 656 wt2)) ∧ (ws[qs]? = some (asu, .inr (6, [.int (zI (d 0)), .int (zI (d 1)), .ref ar9, .ref afo]))) ∧ (ws[qf]? = some (afo, .inr (1, [.ref atk, .ref ask]))) ∧ (ws[qt9]? = some (atk, aI cy T.length (tkF T))) ∧ (ws[qs9]? = some (ask, aI cy 11 st2)) ∧ Eqx ws0 ws (fun j => j = q + 4 ∨ j = qs9) ∧ lv_has ls 6 [(0, .ref a), (1, .ref asu), (2, .int (zI r9)), (3, .int (zI g))]) _ ⟨ws0, 1, wt, st9, rfl, (by omega), (fun g8 c8 h0 h1 => absurd h1 (by omega)), (fun _ _ => rfl), h, h_tb, h_wt, h_su, h_fo, h_tk, h_sk, hE, lv_sub hl [1, 2, 3, 0] rfl⟩ ?_
  rintro n H locs ls ⟨ws, g, wt2, st2, hn, i1, i2, i3, h, h_tb, h_wt, h_su, h_fo, h_tk, h_sk, hE, hl⟩ ih_2
  refine r_iload_n E 3 hl rfl dX8_fillWeights_2 ?_
  refine r_aload_n E 1 hl rfl dX8_fillWeights_3 ?_
  refine r_get (v := .int (zI (d 0))) E h h_su rfl inn_X8_fillWeights_6 0 (by decide) fl_X8_fillWeights_50 rfl dX8_fillWeights_4 ?_
  refine r_icmp_gt E 78 dX8_fillWeights_7 (by decide) (by omega) (fun c_7 => ?_) (fun c_7 => ?_)
  · skip
    exact r_vret E h ⟨wt2, st2, h_wt, h_sk, fun g8 c8 h0 h1 h2 h3 => i2 g8 c8 h0 (by omega) h2 h3, i3, hE⟩ dX8_fillWeights_78
  · skip
    refine r_iload_n E 2 hl rfl dX8_fillWeights_10 ?_
    refine r_bipush E dX8_fillWeights_11 (by decide) ?_
    refine r_imul E dX8_fillWeights_13 ?_
    refine r_iload_n E 3 hl rfl dX8_fillWeights_14 ?_
    refine r_iadd E dX8_fillWeights_15 ?_
    refine r_iconst E dX8_fillWeights_16 ?_
    refine r_imul E dX8_fillWeights_17 ?_
    refine r_istore (lv' := [(4, .int (zI (((r9 * 41) + g) * 4))), (0, .ref a), (1, .ref asu), (2, .int (zI r9)), (3, .int (zI g))]) E hl dX8_fillWeights_18 (by decide) rfl (fun ls hl => ?_)
    refine r_iconst E dX8_fillWeights_20 ?_
    refine r_istore (lv' := [(5, .int (zI 0)), (4, .int (zI (((r9 * 41) + g) * 4))), (0, .ref a), (1, .ref asu), (2, .int (zI r9)), (3, .int (zI g))]) E hl dX8_fillWeights_21 (by decide) rfl (fun ls hl => ?_)
    refine r_loop (fun n H locs ls => ∃ (ws : va_W) (c : Int) (wt3 : Int → Int) (st3 : Int → Int), n = (4 - c).toNat ∧ (0 ≤ c ∧ c ≤ d 1) ∧ (∀ g8 c8 : Int, 1 ≤ g8 → g8 < g → 0 ≤ c8 → c8 < d 1 → wt3 ((41 * r9 + g8) * 4 + c8) = wgt T r9 g8 c8) ∧ (∀ j : Int, j < 164 * r9 → wt3 j = wt j) ∧ (∀ c8 : Int, 0 ≤ c8 → c8 < c → wt3 ((41 * r9 + g) * 4 + c8) = wgt T r9 g c8) ∧ Hp G ws A s.heap H locs ∧ (ws[q]? = some (a, .inr (8, [.ref ase, .ref awr, .int (zI sz), .ref art, .int (zI riw), .ref awt, .ref are, .ref ars]))) ∧ (ws[q + 4]? = some (awt, aI cy 656 wt3)) ∧ (ws[qs]? = some (asu, .inr (6, [.int (zI (d 0)), .int (zI (d 1)), .ref ar9, .ref afo]))) ∧ (ws[qf]? = some (afo, .inr (1, [.ref atk, .ref ask]))) ∧ (ws[qt9]? = some (atk, aI cy T.length (tkF T))) ∧ (ws[qs9]? = some (ask, aI cy 11 st3)) ∧ Eqx ws0 ws (fun j => j = q + 4 ∨ j = qs9) ∧ lv_has ls 6 [(0, .ref a), (1, .ref asu), (2, .int (zI r9)), (3, .int (zI g)), (4, .int (zI (((r9 * 41) + g) * 4))), (5, .int (zI c))]) _ ⟨ws, 0, wt2, st2, rfl, (by omega), i2, i3, (fun c8 h0 h1 => absurd h1 (by omega)), h, h_tb, h_wt, h_su, h_fo, h_tk, h_sk, hE, lv_sub hl [2, 3, 4, 5, 1, 0] rfl⟩ ?_
    rintro n H locs ls ⟨ws, c, wt3, st3, hn, j1, j2, j3, j4, h, h_tb, h_wt, h_su, h_fo, h_tk, h_sk, hE, hl⟩ ih_23
    refine r_iload E 5 hl rfl dX8_fillWeights_23 ?_
    refine r_aload_n E 1 hl rfl dX8_fillWeights_25 ?_
    refine r_get (v := .int (zI (d 1))) E h h_su rfl inn_X8_fillWeights_6 1 (by decide) fl_X8_fillWeights_67 rfl dX8_fillWeights_26 ?_
    refine r_icmp_ge E 72 dX8_fillWeights_29 (by decide) (by omega) (fun c_29 => ?_) (fun c_29 => ?_)
    · skip
      refine r_iinc (lv' := [(3, .int (zI (g + 1))), (0, .ref a), (1, .ref asu), (2, .int (zI r9)), (4, .int (zI (((r9 * 41) + g) * 4))), (5, .int (zI c))]) E 3 hl rfl dX8_fillWeights_72 (by decide) rfl (fun ls hl => ?_)
      refine r_goto E 2 dX8_fillWeights_75 (by decide) ?_
      exact ih_2 _ H locs ls (by omega) ⟨ws, (g + 1), wt3, st3, rfl, (by omega), (fun g8 c8 h0 h1 h2 h3 => by
      by_cases e9 : g8 = g
      · subst e9; exact j4 c8 h2 (by omega)
      · exact j2 g8 c8 h0 (by omega) h2 h3), j3, h, h_tb, h_wt, h_su, h_fo, h_tk, h_sk, hE, lv_sub hl [1, 2, 3, 0] rfl⟩
    · skip
      refine r_iload E 4 hl rfl dX8_fillWeights_32 ?_
      refine r_iload E 5 hl rfl dX8_fillWeights_34 ?_
      refine r_iadd E dX8_fillWeights_36 ?_
      refine r_aload_n E 0 hl rfl dX8_fillWeights_37 ?_
      refine r_get (v := .ref awt) E h h_tb rfl inn_X8_fillWeights_8 5 (by decide) fl_X8_fillWeights_29 rfl dX8_fillWeights_38 ?_
      refine r_alen E h rfl h_wt (v := 656) rfl dX8_fillWeights_41 ?_
      refine r_icmp_ge E 72 dX8_fillWeights_42 (by decide) (by omega) (fun c_42 => ?_) (fun c_42 => ?_)
      · skip
        exfalso; omega
      · skip
        refine r_aload_n E 0 hl rfl dX8_fillWeights_45 ?_
        refine r_get (v := .ref awt) E h h_tb rfl inn_X8_fillWeights_8 5 (by decide) fl_X8_fillWeights_29 rfl dX8_fillWeights_46 ?_
        refine r_iload E 4 hl rfl dX8_fillWeights_49 ?_
        refine r_iload E 5 hl rfl dX8_fillWeights_51 ?_
        refine r_iadd E dX8_fillWeights_53 ?_
        refine r_aload_n E 1 hl rfl dX8_fillWeights_54 ?_
        refine r_get (v := .ref afo) E h h_su rfl inn_X8_fillWeights_6 3 (by decide) fl_X8_fillWeights_70 rfl dX8_fillWeights_55 ?_
        refine r_iload_n E 2 hl rfl dX8_fillWeights_58 ?_
        refine r_iload_n E 3 hl rfl dX8_fillWeights_59 ?_
        refine r_iload E 5 hl rfl dX8_fillWeights_60 ?_
        refine r_callVkI E hX h (As := [.int (zI r9), .int (zI g), .int (zI c)]) (rest := [.int (zI ((((r9 * 41) + g) * 4) + c)), .ref awt]) (k_X1_weigh l r9 g c h_fo h_tk h_sk (by omega) hTk (by omega) (by omega) (by omega)) h_fo rfl gX8_fillWeights_X1_weigh rfl hd_X1_weigh (by decide) ⟨by decide, by decide⟩ hl.1 rfl (Nat.le_of_ble_eq_true rfl) dX8_fillWeights_62 rfl (fun z_62 ws H locs hp h => ?_)
        obtain ⟨rfl, st_62, h_sk, hf⟩ := hp
        have h_tb := hf.at h_tb (by first | omega | (dsimp only <;> omega))
        have h_wt := hf.at h_wt (by first | omega | (dsimp only <;> omega))
        have h_su := hf.at h_su (by first | omega | (dsimp only <;> omega))
        have h_fo := hf.at h_fo (by first | omega | (dsimp only <;> omega))
        have h_tk := hf.at h_tk (by first | omega | (dsimp only <;> omega))
        have hE := hE.tr (hf.wk (fun j hj => by first | omega | (dsimp only at hj ⊢ <;> omega)))
        refine r_iast E h h_wt (by omega) (by decide) dX8_fillWeights_65 (fun ws H locs h hu => ?_)
        have h_tb := hu.keep h_tb (by omega)
        have h_wt : ws[q + 4]? = some (awt, aI cy 656 (uZ wt3 ((((r9 * 41) + g) * 4) + c) (wgt T r9 g c))) := hu.1
        have h_su := hu.keep h_su (by omega)
        have h_fo := hu.keep h_fo (by omega)
        have h_tk := hu.keep h_tk (by omega)
        have h_sk := hu.keep h_sk (by omega)
        have hE := hE.tr (hu.eqx (by first | omega | (dsimp only <;> omega)))
        refine r_iinc (lv' := [(5, .int (zI (c + 1))), (0, .ref a), (1, .ref asu), (2, .int (zI r9)), (3, .int (zI g)), (4, .int (zI (((r9 * 41) + g) * 4)))]) E 5 hl rfl dX8_fillWeights_66 (by decide) rfl (fun ls hl => ?_)
        refine r_goto E 23 dX8_fillWeights_69 (by decide) ?_
        exact ih_23 _ H locs ls (by omega) ⟨ws, (c + 1), (uZ wt3 ((((r9 * 41) + g) * 4) + c) (wgt T r9 g c)), st_62, rfl, (by omega), (fun g8 c8 h0 h1 h2 h3 => by rw [uZ_n (by omega)]; exact j2 g8 c8 h0 h1 h2 h3), (fun j hj => by rw [uZ_n (by omega)]; exact j3 j hj), (fun c8 h0 h1 => by
      by_cases e9 : c8 = c
      · subst e9; rw [show (41 * r9 + g) * 4 + c8 = (r9 * 41 + g) * 4 + c8 by omega, uZ_s]
      · rw [uZ_n (by omega)]; exact j4 c8 h0 (by omega)), h, h_tb, h_wt, h_su, h_fo, h_tk, h_sk, hE, lv_sub hl [1, 2, 3, 4, 5, 0] rfl⟩
