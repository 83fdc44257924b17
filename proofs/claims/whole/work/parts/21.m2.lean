theorem hd_X11_limited : yX11_limited.cls ≠ "java/lang/invoke/MethodHandle" ∧ yX11_limited.cls ≠ "java/lang/invoke/VarHandle" ∧ (parseMethodDescriptor yX11_limited.desc).map (fun d => d.parameters.length) = some 1 := by decide +kernel
abbrev rm_X11_limited : Room := { frames := 0, cells := 0, slots := 0, locals := 0 }
set_option maxHeartbeats 4000000 in
set_option maxRecDepth 100000 in
theorem k_X11_limited (l : Launch) {G : va_G} {cy : Nat → ClassId} {ws0 : va_W} (v : Int)  (hv : (-4611686018427387904 ≤ v ∧ v ≤ 4611686018427387904)) : ML l yX11_limited wsX11_limited rm_X11_limited G cy [.long (zL v)] ws0 (fun z u => zL (lim6 v) = z ∧ ws0 = u) := by
  refine ML.of (own := RX11) (cc := cX11_limited) (nL := 2) (ret := (some .long)) (by decide) rfl rfl (Nat.le_of_ble_eq_true rfl) ?_
  intro p e s m below meth c A ls E h hl
  have hl : lv_has ls 2 [(0, .long (zL v))] := hl
  refine r_lload_n E 0 hl rfl dX11_limited_0 ?_
  refine r_ldc2z E (v := 1000000) (List.mem_of_getElem? (i := 1) rfl) (n := 1000000) (by decide) dX11_limited_1 ?_
  refine r_lcmp E dX11_limited_4 (by omega) (fun z_4 ze_4 => ?_)
  refine r_if_le E 14 dX11_limited_5 (by decide) (by omega) (fun c_5 => ?_) (fun c_5 => ?_)
  · skip
    refine r_lload_n E 0 hl rfl dX11_limited_14 ?_
    refine r_ldc2z E (v := (-1000000)) (List.mem_of_getElem? (i := 2) rfl) (n := -1000000) (by decide) dX11_limited_15 ?_
    refine r_lcmp E dX11_limited_18 (by omega) (fun z_18 ze_18 => ?_)
    refine r_if_ge E 28 dX11_limited_19 (by decide) (by omega) (fun c_19 => ?_) (fun c_19 => ?_)
    · skip
      refine r_lload_n E 0 hl rfl dX11_limited_28 ?_
      exact r_lret E h ⟨by unfold lim6; first | (rw [if_pos (by omega)]) | (rw [if_neg (by omega), if_pos (by omega)]) | (rw [if_neg (by omega), if_neg (by omega)]), rfl⟩ dX11_limited_29
    · skip
      refine r_ldc2z E (v := (-1000000)) (List.mem_of_getElem? (i := 2) rfl) (n := -1000000) (by decide) dX11_limited_22 ?_
      refine r_goto E 29 dX11_limited_25 (by decide) ?_
      exact r_lret E h ⟨by unfold lim6; first | (rw [if_pos (by omega)]) | (rw [if_neg (by omega), if_pos (by omega)]) | (rw [if_neg (by omega), if_neg (by omega)]), rfl⟩ dX11_limited_29
  · skip
    refine r_ldc2z E (v := 1000000) (List.mem_of_getElem? (i := 1) rfl) (n := 1000000) (by decide) dX11_limited_8 ?_
    refine r_goto E 29 dX11_limited_11 (by decide) ?_
    exact r_lret E h ⟨by unfold lim6; first | (rw [if_pos (by omega)]) | (rw [if_neg (by omega), if_pos (by omega)]) | (rw [if_neg (by omega), if_neg (by omega)]), rfl⟩ dX11_limited_29
theorem hd_X11_operate : yX11_operate.cls ≠ "java/lang/invoke/MethodHandle" ∧ yX11_operate.cls ≠ "java/lang/invoke/VarHandle" ∧ (parseMethodDescriptor yX11_operate.desc).map (fun d => d.parameters.length) = some 3 := by decide +kernel
abbrev rm_X11_operate : Room := { frames := 1, cells := 0, slots := 0, locals := 21 }
set_option maxHeartbeats 4000000 in
set_option maxRecDepth 100000 in
theorem k_X11_operate (l : Launch) {G : va_G} {cy : Nat → ClassId} {ws0 : va_W} (op v v2 : Int)  (ho : 2 ≤ op ∧ op ≤ 5) (hv : -1000000 ≤ v ∧ v ≤ 1000000) (hv2 : -1000000 ≤ v2 ∧ v2 ≤ 1000000) : ML l yX11_operate wsX11_operate rm_X11_operate G cy [.int (zI op), .long (zL v), .long (zL v2)] ws0 (fun z u => zL (app (1 - op) v v2) = z ∧ ws0 = u) := by
  refine ML.of (own := RX11) (cc := cX11_operate) (nL := 5) (ret := (some .long)) (by decide) rfl rfl (Nat.le_of_ble_eq_true rfl) ?_
  intro p e s m below meth c A ls E h hl
  have hl : lv_has ls 5 [(0, .int (zI op)), (1, .long (zL v)), (3, .long (zL v2))] := hl
  have hm9 : -1000000000000 ≤ v * v2 ∧ v * v2 ≤ 1000000000000 := by
    have h1 : (v * v2).natAbs = v.natAbs * v2.natAbs := Int.natAbs_mul v v2
    have h2 : v.natAbs * v2.natAbs ≤ 1000000 * 1000000 := Nat.mul_le_mul (by omega) (by omega)
    omega
  refine r_iload_n E 0 hl rfl dX11_operate_0 ?_
  refine r_iconst E dX11_operate_1 ?_
  refine r_icmp_ne E 19 dX11_operate_2 (by decide) (by omega) (fun c_2 => ?_) (fun c_2 => ?_)
  · skip
    refine r_iload_n E 0 hl rfl dX11_operate_19 ?_
    refine r_iconst E dX11_operate_20 ?_
    refine r_icmp_ne E 30 dX11_operate_21 (by decide) (by omega) (fun c_21 => ?_) (fun c_21 => ?_)
    · skip
      refine r_iload_n E 0 hl rfl dX11_operate_30 ?_
      refine r_iconst E dX11_operate_31 ?_
      refine r_icmp_ne E 41 dX11_operate_32 (by decide) (by omega) (fun c_32 => ?_) (fun c_32 => ?_)
      · skip
        refine r_lload_n E 1 hl rfl dX11_operate_41 ?_
        refine r_lload_n E 2 hl rfl dX11_operate_42 ?_
        refine r_lmul E dX11_operate_43 ?_
        refine r_callSL E h (As := [.long (zL (v * v2))]) (rest := []) (k_X11_limited l (v * v2) (by omega)) gX11_operate_X11_limited rfl hd_X11_limited (by decide) ⟨by decide, by decide⟩ hl.1 rfl (Nat.le_of_ble_eq_true rfl) dX11_operate_44 rfl (fun z_44 ws H locs hp h => ?_)
        obtain ⟨rfl, rfl⟩ := hp
        exact r_lret E h ⟨by unfold app; first | (rw [if_pos (by omega)]) | (rw [if_neg (by omega), if_pos (by omega)]) | (rw [if_neg (by omega), if_neg (by omega), if_pos (by omega)]), rfl⟩ dX11_operate_47
      · skip
        refine r_lload_n E 1 hl rfl dX11_operate_35 ?_
        refine r_lload_n E 2 hl rfl dX11_operate_36 ?_
        refine r_lsub E dX11_operate_37 ?_
        refine r_goto E 44 dX11_operate_38 (by decide) ?_
        refine r_callSL E h (As := [.long (zL (v - v2))]) (rest := []) (k_X11_limited l (v - v2) (by omega)) gX11_operate_X11_limited rfl hd_X11_limited (by decide) ⟨by decide, by decide⟩ hl.1 rfl (Nat.le_of_ble_eq_true rfl) dX11_operate_44 rfl (fun z_44 ws H locs hp h => ?_)
        obtain ⟨rfl, rfl⟩ := hp
        exact r_lret E h ⟨by unfold app; first | (rw [if_pos (by omega)]) | (rw [if_neg (by omega), if_pos (by omega)]) | (rw [if_neg (by omega), if_neg (by omega), if_pos (by omega)]), rfl⟩ dX11_operate_47
    · skip
      refine r_lload_n E 1 hl rfl dX11_operate_24 ?_
      refine r_lload_n E 2 hl rfl dX11_operate_25 ?_
      refine r_ladd E dX11_operate_26 ?_
      refine r_goto E 44 dX11_operate_27 (by decide) ?_
      refine r_callSL E h (As := [.long (zL (v + v2))]) (rest := []) (k_X11_limited l (v + v2) (by omega)) gX11_operate_X11_limited rfl hd_X11_limited (by decide) ⟨by decide, by decide⟩ hl.1 rfl (Nat.le_of_ble_eq_true rfl) dX11_operate_44 rfl (fun z_44 ws H locs hp h => ?_)
      obtain ⟨rfl, rfl⟩ := hp
      exact r_lret E h ⟨by unfold app; first | (rw [if_pos (by omega)]) | (rw [if_neg (by omega), if_pos (by omega)]) | (rw [if_neg (by omega), if_neg (by omega), if_pos (by omega)]), rfl⟩ dX11_operate_47
  · skip
    refine r_lload_n E 2 hl rfl dX11_operate_5 ?_
    refine r_lconst (v := zL 0) E dX11_operate_6 (by decide) ?_
    refine r_lcmp E dX11_operate_7 (by omega) (fun z_7 ze_7 => ?_)
    refine r_if_ne E 15 dX11_operate_8 (by decide) (by omega) (fun c_8 => ?_) (fun c_8 => ?_)
    · skip
      refine r_lload_n E 1 hl rfl dX11_operate_15 ?_
      refine r_lload_n E 2 hl rfl dX11_operate_16 ?_
      refine r_ldiv E dX11_operate_17 (by omega) (by omega) ?_
      exact r_lret E h ⟨by unfold app; rw [if_neg (by omega), if_neg (by omega), if_neg (by omega)]; first | (rw [if_pos (by omega)]) | (rw [if_neg (by omega)]), rfl⟩ dX11_operate_18
    · skip
      refine r_lconst (v := zL 0) E dX11_operate_11 (by decide) ?_
      refine r_goto E 18 dX11_operate_12 (by decide) ?_
      exact r_lret E h ⟨by unfold app; rw [if_neg (by omega), if_neg (by omega), if_neg (by omega)]; first | (rw [if_pos (by omega)]) | (rw [if_neg (by omega)]), rfl⟩ dX11_operate_18
theorem hd_X11_weightOf : yX11_weightOf.cls = RX11 ∧ yX11_weightOf.cls ≠ "java/lang/invoke/MethodHandle" ∧ yX11_weightOf.cls ≠ "java/lang/invoke/VarHandle" ∧ (parseMethodDescriptor yX11_weightOf.desc).map (fun d => d.parameters.length) = some 2 := by decide +kernel
theorem fl_X11_weightOf_17 : Cond.fieldLink RX11 17 (TX11 8).1 (TX11 8).2.1 (TX11 8).2.2.1 ∈ wsX11_weightOf := List.mem_of_getElem? (i := 1) rfl
theorem inn_X11_weightOf_11 : ∀ w ∈ wsX110, w ∈ wsX11_weightOf := fun _ h => List.mem_cons_of_mem _ (List.mem_append_right _ h)
theorem fl_X11_weightOf_50 : Cond.fieldLink RX11 50 (TX11 22).1 (TX11 22).2.1 (TX11 22).2.2.1 ∈ wsX11_weightOf := List.mem_of_getElem? (i := 2) rfl
theorem fl_X11_weightOf_38 : Cond.fieldLink RX11 38 (TX11 17).1 (TX11 17).2.1 (TX11 17).2.2.1 ∈ wsX11_weightOf := List.mem_of_getElem? (i := 3) rfl
abbrev rm_X11_weightOf : Room := { frames := 2, cells := 0, slots := 0, locals := 45 }
set_option maxHeartbeats 4000000 in
set_option maxRecDepth 100000 in
theorem k_X11_weightOf (l : Launch) {G : va_G} {cy : Nat → ClassId} {ws0 : va_W} {b aM : Nat} {I : Nat → Int} {ad : Nat → Nat} {da : Int → Int} {me : Int → Int} {le : Int → Int} {ru : Int → Int} {st : Int → Int64} {d : Int → Int} {T : List Int} (s9 c9 : Int) (q : Ky) (h_mo : ws0[b]? = some (aM, mO I ad)) (h_da : ws0[b + 2]? = some (ad 8, aI cy 1111 da)) (h_me : ws0[b + 14]? = some (ad 15, aI cy 38400 me)) (h_le : ws0[b + 15]? = some (ad 16, aI cy 6400 le)) (h_ru : ws0[b + 16]? = some (ad 17, aI cy 6400 ru)) (h_st : ws0[b + 20]? = some (ad 22, aL cy 1000 st)) (hD : DW d T) (hA : DW da T) (hs : 0 ≤ s9 ∧ s9 < 6400) (hq : KOk d q) (hru : ru s9 = q.1) (hle : le s9 = kl d q) (hme : ∀ k : Int, 0 ≤ k → k < kl d q → me (6 * s9 + k) = km d q k) (hc9 : -1 ≤ c9 ∧ c9 ≤ 4) : MI l yX11_weightOf wsX11_weightOf rm_X11_weightOf G cy [.ref aM, .int (zI s9), .int (zI c9)] ws0 (fun z u => z = wK d T q c9 ∧ ∃ st2 : Int → Int64, u[b + 20]? = some (ad 22, aL cy 1000 st2) ∧ Eqx ws0 u (fun j => j = b + 20)) := by
  refine MI.of (own := RX11) (cc := cX11_weightOf) (nL := 8) (ret := (some .int)) (by decide) rfl rfl (Nat.le_of_ble_eq_true rfl) ?_
  intro p e s m below meth c A ls E h hl
  have hl : lv_has ls 8 [(0, .ref aM), (1, .int (zI s9)), (2, .int (zI c9))] := hl
  have hE : Eqx ws0 ws0 (fun j => j = b + 20) := Eqx.rf
  have hl3 := kl_rng hD hq
  have hbr := big_rng hD hq
  have hn9 := hD.n
  have hnc := hA.nc
  have hwt := hA.wt
  have hq1 := hq.1
  have hnr := hD.nr
  have hw3 : da 3 = 0 ∨ da 3 = 1 := by rcases hwt with ⟨a, _⟩ | ⟨a, _⟩ <;> omega
  refine r_aload_n E 0 hl rfl dX11_weightOf_0 ?_
  refine r_get (v := .ref (ad 8)) E h h_mo rfl inn_X11_weightOf_11 8 (by decide) fl_X11_weightOf_17 rfl dX11_weightOf_1 ?_
  refine r_iconst E dX11_weightOf_4 ?_
  refine r_iald E h h_da (by omega) (by decide) dX11_weightOf_5 ?_
  refine r_if_ne E 11 dX11_weightOf_6 (by decide) (by omega) (fun c_6 => ?_) (fun c_6 => ?_)
  · skip
    obtain ⟨w3, wT, wC, wH⟩ : da 3 = 1 ∧ T ≠ [] ∧ CodeAt da 0 T ∧ HeightOk 0 T := by
      rcases hwt with ⟨a, _⟩ | hw
      · omega
      · exact hw
    refine r_iconst E dX11_weightOf_11 ?_
    refine r_istore_n (lv' := [(3, .int (zI 0)), (0, .ref aM), (1, .int (zI s9)), (2, .int (zI c9))]) E hl dX11_weightOf_12 rfl (by decide) rfl (fun ls hl => ?_)
    refine r_aload_n E 1 hl rfl dX11_weightOf_13 ?_
    refine r_iload_n E 2 hl rfl dX11_weightOf_14 ?_
    refine r_iconst E dX11_weightOf_15 ?_
    refine r_callVI E h (As := [.int (zI s9), .int (zI 0)]) (rest := []) (k_X11_extreme l s9 0 q h_mo h_me h_le hD hs hq hle hme (Or.inl rfl)) h_mo rfl gX11_weightOf_X11_extreme rfl hd_X11_extreme (by decide) ⟨by decide, by decide⟩ hl.1 rfl (Nat.le_of_ble_eq_true rfl) dX11_weightOf_16 rfl (fun z_16 ws H locs hp h => ?_)
    obtain ⟨-, e_z_16, rfl⟩ := hp
    obtain rfl := (e_z_16 rfl).symm
    refine r_istore (lv' := [(4, .int (zI (big d q))), (3, .int (zI 0)), (0, .ref aM), (1, .int (zI s9)), (2, .int (zI c9))]) E hl dX11_weightOf_19 (by decide) rfl (fun ls hl => ?_)
    refine r_iconst E dX11_weightOf_21 ?_
    refine r_istore (lv' := [(5, .int (zI 0)), (4, .int (zI (big d q))), (3, .int (zI 0)), (0, .ref aM), (1, .int (zI s9)), (2, .int (zI c9))]) E hl dX11_weightOf_22 (by decide) rfl (fun ls hl => ?_)
    refine r_loop (fun n H locs ls => ∃ (ws : va_W) (i : Int) (s8 : List Int) (T8 : List Int) (st2 : Int → Int64) (n8 : Int), n = (1000 - i).toNat ∧ (0 ≤ i ∧ i ≤ da 4) ∧ (CodeAt da i T8) ∧ (HeightOk (s8.length : Int) T8) ∧ (evT q.1 (big d q) c9 T8 s8 = evT q.1 (big d q) c9 T []) ∧ (StkOf st2 s8) ∧ (∀ a : Int, a ∈ s8 → -1000000 ≤ a ∧ a ≤ 1000000) ∧ (n8 = (s8.length : Int) ∧ n8 ≤ 11) ∧ Hp G ws A s.heap H locs ∧ (ws[b]? = some (aM, mO I ad)) ∧ (ws[b + 2]? = some (ad 8, aI cy 1111 da)) ∧ (ws[b + 14]? = some (ad 15, aI cy 38400 me)) ∧ (ws[b + 15]? = some (ad 16, aI cy 6400 le)) ∧ (ws[b + 16]? = some (ad 17, aI cy 6400 ru)) ∧ (ws[b + 20]? = some (ad 22, aL cy 1000 st2)) ∧ Eqx ws0 ws (fun j => j = b + 20) ∧ lv_has ls 8 [(0, .ref aM), (1, .int (zI s9)), (2, .int (zI c9)), (3, .int (zI n8)), (4, .int (zI (big d q))), (5, .int (zI i))]) _ ⟨ws0, 0, ([]), T, st, 0, rfl, (by omega), wC, wH, rfl, trivial, (fun a ha => absurd ha List.not_mem_nil), ⟨rfl, by decide⟩, h, h_mo, h_da, h_me, h_le, h_ru, h_st, hE, lv_sub hl [3, 4, 5, 2, 1, 0] rfl⟩ ?_
    rintro n H locs ls ⟨ws, i, s8, T8, st2, n8, hn, i1, i2, i3, i4, i5, i6, i7, h, h_mo, h_da, h_me, h_le, h_ru, h_st, hE, hl⟩ ih_24
    refine r_iload E 5 hl rfl dX11_weightOf_24 ?_
    refine r_aload_n E 0 hl rfl dX11_weightOf_26 ?_
    refine r_get (v := .ref (ad 8)) E h h_mo rfl inn_X11_weightOf_11 8 (by decide) fl_X11_weightOf_17 rfl dX11_weightOf_27 ?_
    refine r_iconst E dX11_weightOf_30 ?_
    refine r_iald E h h_da (by omega) (by decide) dX11_weightOf_31 ?_
    refine r_icmp_ge E 156 dX11_weightOf_32 (by decide) (by omega) (fun c_32 => ?_) (fun c_32 => ?_)
    · skip
      obtain rfl : T8 = [] := by
        cases T8 with
        | nil => rfl
        | cons t T2 => exfalso; have := CodeAt.le i2; simp only [List.length_cons] at this; omega
      have hh1 : (s8.length : Int) = 1 := i3
      obtain ⟨v1, hs1⟩ : ∃ v1, s8 = [v1] := by
        cases s8 with
        | nil => simp at hh1
        | cons v1 s2 => cases s2 with
          | nil => exact ⟨v1, rfl⟩
          | cons _ _ => simp at hh1; omega
      have hst := i5
      rw [hs1] at hst
      have hv1 := i6 v1 (by rw [hs1]; simp)
      have hev : evT q.1 (big d q) c9 T [] = v1 := by rw [← i4, hs1]; rfl
      have hst0 : st2 0 = zL v1 := by have := hst.1; simpa using this
      refine r_aload_n E 0 hl rfl dX11_weightOf_156 ?_
      refine r_get (v := .ref (ad 22)) E h h_mo rfl inn_X11_weightOf_11 22 (by decide) fl_X11_weightOf_50 rfl dX11_weightOf_157 ?_
      refine r_iconst E dX11_weightOf_160 ?_
      refine r_lald E h h_st (by omega) (by decide) dX11_weightOf_161 ?_
      rw [show st2 0 = zL v1 from hst0]
      refine r_lconst (v := zL 0) E dX11_weightOf_162 (by decide) ?_
      refine r_lcmp E dX11_weightOf_163 (by omega) (fun z_163 ze_163 => ?_)
      refine r_if_ge E 171 dX11_weightOf_164 (by decide) (by omega) (fun c_164 => ?_) (fun c_164 => ?_)
      · skip
        refine r_aload_n E 0 hl rfl dX11_weightOf_171 ?_
        refine r_get (v := .ref (ad 22)) E h h_mo rfl inn_X11_weightOf_11 22 (by decide) fl_X11_weightOf_50 rfl dX11_weightOf_172 ?_
        refine r_iconst E dX11_weightOf_175 ?_
        refine r_lald E h h_st (by omega) (by decide) dX11_weightOf_176 ?_
        rw [show st2 0 = zL v1 from hst0]
        refine r_ldc2z E (v := 999) (List.mem_of_getElem? (i := 4) rfl) (n := 999) (by decide) dX11_weightOf_177 ?_
        refine r_lcmp E dX11_weightOf_180 (by omega) (fun z_180 ze_180 => ?_)
        refine r_if_le E 190 dX11_weightOf_181 (by decide) (by omega) (fun c_181 => ?_) (fun c_181 => ?_)
        · skip
          refine r_aload_n E 0 hl rfl dX11_weightOf_190 ?_
          refine r_get (v := .ref (ad 22)) E h h_mo rfl inn_X11_weightOf_11 22 (by decide) fl_X11_weightOf_50 rfl dX11_weightOf_191 ?_
          refine r_iconst E dX11_weightOf_194 ?_
          refine r_lald E h h_st (by omega) (by decide) dX11_weightOf_195 ?_
          rw [show st2 0 = zL v1 from hst0]
          refine r_l2i E dX11_weightOf_196 ?_
          exact r_iret E h ⟨by unfold wK wgt; rw [if_neg wT, hev]; first | (rw [if_pos (by omega)]) | (rw [if_neg (by omega), if_pos (by omega)]) | (rw [if_neg (by omega), if_neg (by omega)]), st2, h_st, hE⟩ dX11_weightOf_197
        · skip
          refine r_sipush E dX11_weightOf_184 (by decide) ?_
          refine r_goto E 197 dX11_weightOf_187 (by decide) ?_
          exact r_iret E h ⟨by unfold wK wgt; rw [if_neg wT, hev]; first | (rw [if_pos (by omega)]) | (rw [if_neg (by omega), if_pos (by omega)]) | (rw [if_neg (by omega), if_neg (by omega)]), st2, h_st, hE⟩ dX11_weightOf_197
      · skip
        refine r_iconst E dX11_weightOf_167 ?_
        refine r_goto E 197 dX11_weightOf_168 (by decide) ?_
        exact r_iret E h ⟨by unfold wK wgt; rw [if_neg wT, hev]; first | (rw [if_pos (by omega)]) | (rw [if_neg (by omega), if_pos (by omega)]) | (rw [if_neg (by omega), if_neg (by omega)]), st2, h_st, hE⟩ dX11_weightOf_197
    · skip
      obtain ⟨t, T2, hTT⟩ : ∃ t T2, T8 = t :: T2 := by
        cases T8 with
        | nil => exfalso; have : i = da 4 := i2; omega
        | cons t T2 => exact ⟨t, T2, rfl⟩
      have hcode := i2
      rw [hTT] at hcode
      have hle9 := CodeAt.le i2
      rw [hTT] at hle9
      simp only [List.length_cons] at hle9
      have hht := i3
      rw [hTT] at hht
      simp only [HeightOk] at hht
      have hcode : (0 ≤ t ∧ t ≤ 9999 ∧ da (111 + i) = 0 ∧ da (112 + i) = t ∧ CodeAt da (i + 2) T2) ∨ (-7 ≤ t ∧ t ≤ -5 ∧ da (111 + i) = 1 ∧ da (112 + i) = -5 - t ∧ CodeAt da (i + 2) T2) ∨ (-4 ≤ t ∧ t ≤ -1 ∧ da (111 + i) = 1 - t ∧ CodeAt da (i + 1) T2) := hcode
      refine r_aload_n E 0 hl rfl dX11_weightOf_35 ?_
      refine r_get (v := .ref (ad 8)) E h h_mo rfl inn_X11_weightOf_11 8 (by decide) fl_X11_weightOf_17 rfl dX11_weightOf_36 ?_
      refine r_bipush E dX11_weightOf_39 (by decide) ?_
      refine r_iload E 5 hl rfl dX11_weightOf_41 ?_
      refine r_iadd E dX11_weightOf_43 ?_
      refine r_iald E h h_da (by omega) (by decide) dX11_weightOf_44 ?_
      refine r_istore (lv' := [(6, .int (zI (da (111 + i)))), (0, .ref aM), (1, .int (zI s9)), (2, .int (zI c9)), (3, .int (zI n8)), (4, .int (zI (big d q))), (5, .int (zI i))]) E hl dX11_weightOf_45 (by decide) rfl (fun ls hl => ?_)
      refine r_iload E 0 hl rfl dX11_weightOf_47 ?_
      refine r_iconst E dX11_weightOf_49 ?_
      refine r_icmp_gt E 120 dX11_weightOf_50 (by decide) (by omega) (fun c_50 => ?_) (fun c_50 => ?_)
      · skip
        rw [if_pos (by omega)] at hht
        obtain ⟨b1, a1, s1, hs1⟩ : ∃ b1 a1 s1, s8 = b1 :: a1 :: s1 := by
          have hh := hht.1
          cases s8 with
          | nil => simp at hh
          | cons b1 s2 => cases s2 with
            | nil => simp at hh
            | cons a1 s1 => exact ⟨b1, a1, s1, rfl⟩
        have hsl : (s8.length : Int) = (s1.length : Int) + 2 := by rw [hs1]; simp only [List.length_cons]; omega
        have hst := i5
        rw [hs1] at hst
        have ha1 := i6 a1 (by rw [hs1]; simp)
        have hb1 := i6 b1 (by rw [hs1]; simp)
        refine r_iinc (lv' := [(3, .int (zI (n8 + (-1)))), (6, .int (zI (da (111 + i)))), (0, .ref aM), (1, .int (zI s9)), (2, .int (zI c9)), (4, .int (zI (big d q))), (5, .int (zI i))]) E 4 hl rfl dX11_weightOf_120 (by decide) rfl (fun ls hl => ?_)
        refine r_aload_n E 2 hl rfl dX11_weightOf_123 ?_
        refine r_get (v := .ref (ad 22)) E h h_mo rfl inn_X11_weightOf_11 22 (by decide) fl_X11_weightOf_50 rfl dX11_weightOf_124 ?_
        refine r_iload_n E 0 hl rfl dX11_weightOf_127 ?_
        refine r_iconst E dX11_weightOf_128 ?_
        refine r_isub E dX11_weightOf_129 ?_
        refine r_iload E 1 hl rfl dX11_weightOf_130 ?_
        refine r_aload_n E 2 hl rfl dX11_weightOf_132 ?_
        refine r_get (v := .ref (ad 22)) E h h_mo rfl inn_X11_weightOf_11 22 (by decide) fl_X11_weightOf_50 rfl dX11_weightOf_133 ?_
        refine r_iload_n E 0 hl rfl dX11_weightOf_136 ?_
        refine r_iconst E dX11_weightOf_137 ?_
        refine r_isub E dX11_weightOf_138 ?_
        refine r_lald E h h_st (by omega) (by decide) dX11_weightOf_139 ?_
        rw [show st2 ((n8 + (-1)) - 1) = zL a1 from (by rw [show n8 + -1 - 1 = ((s1.length : Nat) : Int) by omega]; exact hst.2.1)]
        refine r_aload_n E 2 hl rfl dX11_weightOf_140 ?_
        refine r_get (v := .ref (ad 22)) E h h_mo rfl inn_X11_weightOf_11 22 (by decide) fl_X11_weightOf_50 rfl dX11_weightOf_141 ?_
        refine r_iload_n E 0 hl rfl dX11_weightOf_144 ?_
        refine r_lald E h h_st (by omega) (by decide) dX11_weightOf_145 ?_
        rw [show st2 (n8 + (-1)) = zL b1 from (by have := hst.1; rwa [show (((a1 :: s1).length : Nat) : Int) = n8 + -1 by simp only [List.length_cons]; omega] at this)]
        refine r_callSL E h (As := [.int (zI (da (111 + i))), .long (zL a1), .long (zL b1)]) (rest := [.int (zI ((n8 + (-1)) - 1)), .ref (ad 22)]) (k_X11_operate l (da (111 + i)) a1 b1 (by omega) (by omega) (by omega)) gX11_weightOf_X11_operate rfl hd_X11_operate (by decide) ⟨by decide, by decide⟩ hl.1 rfl (Nat.le_of_ble_eq_true rfl) dX11_weightOf_146 rfl (fun z_146 ws H locs hp h => ?_)
        obtain ⟨rfl, rfl⟩ := hp
        refine r_last E h h_st (by omega) (by decide) dX11_weightOf_149 (fun ws H locs h hu => ?_)
        have h_mo := hu.keep h_mo (by omega)
        have h_da := hu.keep h_da (by omega)
        have h_me := hu.keep h_me (by omega)
        have h_le := hu.keep h_le (by omega)
        have h_ru := hu.keep h_ru (by omega)
        have h_st : ws[b + 20]? = some (ad 22, aL cy 1000 (uZ st2 ((n8 + (-1)) - 1) (zL (app (1 - (da (111 + i))) a1 b1)))) := hu.1
        have hE := hE.tr (hu.eqx (by dsimp only <;> omega))
        have hh9 : -4 ≤ t ∧ t ≤ -1 ∧ da (111 + i) = 1 - t ∧ CodeAt da (i + 1) T2 := by rcases hcode with hh | hh | hh <;> first | exact hh | (exfalso; omega)
        have ht1 : 1 - da (111 + i) = t := by omega
        rw [ht1] at h_st
        obtain ⟨s7, es7⟩ : ∃ z, z = app t a1 b1 :: s1 := ⟨_, rfl⟩
        have hN : CodeAt da (i + 1) T2 ∧ HeightOk (s7.length : Int) T2 ∧ evT q.1 (big d q) c9 T2 s7 = evT q.1 (big d q) c9 T [] ∧ StkOf (uZ st2 ((n8 + (-1)) - 1) (zL (app t a1 b1))) s7 ∧ (∀ a : Int, a ∈ s7 → -1000000 ≤ a ∧ a ≤ 1000000) ∧ (n8 + (-1) = (s7.length : Int) ∧ n8 + (-1) ≤ 11) := by
          subst es7
          refine ⟨hh9.2.2.2, ?_, ?_, ⟨?_, ?_⟩, ?_, ?_⟩
          · have := hht.2; rwa [show (s8.length : Int) - 1 = ((app t a1 b1 :: s1).length : Int) by simp only [List.length_cons]; omega] at this
          · rw [← i4, hTT, hs1]; exact (if_pos (by omega)).symm
          · rw [show ((s1.length : Nat) : Int) = n8 + -1 - 1 by omega]; exact uZ_s
          · exact StkOf.set (by omega) hst.2.2
          · intro a ha; rcases List.mem_cons.mp ha with rfl | ha
            · exact app_rng ha1
            · exact i6 a (by rw [hs1]; simp [ha])
          · simp only [List.length_cons]; omega
        refine r_iinc (lv' := [(5, .int (zI (i + 1))), (3, .int (zI (n8 + (-1)))), (6, .int (zI (da (111 + i)))), (0, .ref aM), (1, .int (zI s9)), (2, .int (zI c9)), (4, .int (zI (big d q)))]) E 6 hl rfl dX11_weightOf_150 (by decide) rfl (fun ls hl => ?_)
        refine r_goto E 24 dX11_weightOf_153 (by decide) ?_
        exact ih_24 _ H locs ls (by omega) ⟨ws, (i + 1), s7, T2, (uZ st2 ((n8 + (-1)) - 1) (zL (app t a1 b1))), (n8 + (-1)), rfl, (by have := CodeAt.le hN.1; omega), hN.1, hN.2.1, hN.2.2.1, hN.2.2.2.1, hN.2.2.2.2.1, hN.2.2.2.2.2, h, h_mo, h_da, h_me, h_le, h_ru, h_st, hE, lv_sub hl [3, 4, 5, 1, 6, 0] rfl⟩
      · skip
        rw [if_neg (by omega)] at hht
        have hs9 := hht.1
        have hcd : CodeAt da (i + 2) T2 := by
          rcases hcode with hh | hh | hh
          · exact hh.2.2.2.2
          · exact hh.2.2.2.2
          · exfalso; omega
        have hle8 := CodeAt.le hcd
        refine r_iinc (lv' := [(5, .int (zI (i + 1))), (6, .int (zI (da (111 + i)))), (0, .ref aM), (1, .int (zI s9)), (2, .int (zI c9)), (3, .int (zI n8)), (4, .int (zI (big d q)))]) E 6 hl rfl dX11_weightOf_53 (by decide) rfl (fun ls hl => ?_)
        refine r_aload_n E 2 hl rfl dX11_weightOf_56 ?_
        refine r_get (v := .ref (ad 8)) E h h_mo rfl inn_X11_weightOf_11 8 (by decide) fl_X11_weightOf_17 rfl dX11_weightOf_57 ?_
        refine r_bipush E dX11_weightOf_60 (by decide) ?_
        refine r_iload E 0 hl rfl dX11_weightOf_62 ?_
        refine r_iadd E dX11_weightOf_64 ?_
        refine r_iald E h h_da (by omega) (by decide) dX11_weightOf_65 ?_
        rw [show da (111 + (i + 1)) = da (112 + i) from (by rw [show 111 + (i + 1) = 112 + i by omega])]
        refine r_istore (lv' := [(7, .int (zI (da (112 + i)))), (5, .int (zI (i + 1))), (6, .int (zI (da (111 + i)))), (0, .ref aM), (1, .int (zI s9)), (2, .int (zI c9)), (3, .int (zI n8)), (4, .int (zI (big d q)))]) E hl dX11_weightOf_66 (by decide) rfl (fun ls hl => ?_)
        refine r_aload_n E 3 hl rfl dX11_weightOf_68 ?_
        refine r_get (v := .ref (ad 22)) E h h_mo rfl inn_X11_weightOf_11 22 (by decide) fl_X11_weightOf_50 rfl dX11_weightOf_69 ?_
        refine r_iload_n E 6 hl rfl dX11_weightOf_72 ?_
        refine r_iload E 2 hl rfl dX11_weightOf_73 ?_
        refine r_if_ne E 84 dX11_weightOf_75 (by decide) (by omega) (fun c_75 => ?_) (fun c_75 => ?_)
        · skip
          refine r_iload E 0 hl rfl dX11_weightOf_84 ?_
          refine r_if_ne E 99 dX11_weightOf_86 (by decide) (by omega) (fun c_86 => ?_) (fun c_86 => ?_)
          · skip
            refine r_iload E 0 hl rfl dX11_weightOf_99 ?_
            refine r_iconst E dX11_weightOf_101 ?_
            refine r_icmp_ne E 111 dX11_weightOf_102 (by decide) (by omega) (fun c_102 => ?_) (fun c_102 => ?_)
            · skip
              refine r_iload_n E 5 hl rfl dX11_weightOf_111 ?_
              refine r_i2l E dX11_weightOf_112 (by omega) ?_
              refine r_last E h h_st (by omega) (by decide) dX11_weightOf_113 (fun ws H locs h hu => ?_)
              have h_mo := hu.keep h_mo (by omega)
              have h_da := hu.keep h_da (by omega)
              have h_me := hu.keep h_me (by omega)
              have h_le := hu.keep h_le (by omega)
              have h_ru := hu.keep h_ru (by omega)
              have h_st : ws[b + 20]? = some (ad 22, aL cy 1000 (uZ st2 n8 (zL c9))) := hu.1
              have hE := hE.tr (hu.eqx (by dsimp only <;> omega))
              refine r_iinc (lv' := [(3, .int (zI (n8 + 1))), (7, .int (zI (da (112 + i)))), (5, .int (zI (i + 1))), (6, .int (zI (da (111 + i)))), (0, .ref aM), (1, .int (zI s9)), (2, .int (zI c9)), (4, .int (zI (big d q)))]) E 6 hl rfl dX11_weightOf_114 (by decide) rfl (fun ls hl => ?_)
              refine r_goto E 150 dX11_weightOf_117 (by decide) ?_
              obtain ⟨s7, es7⟩ : ∃ z, z = c9 :: s8 := ⟨_, rfl⟩
              have hN : CodeAt da (i + 1 + 1) T2 ∧ HeightOk (s7.length : Int) T2 ∧ evT q.1 (big d q) c9 T2 s7 = evT q.1 (big d q) c9 T [] ∧ StkOf (uZ st2 n8 (zL c9)) s7 ∧ (∀ a : Int, a ∈ s7 → -1000000 ≤ a ∧ a ≤ 1000000) ∧ (n8 + 1 = (s7.length : Int) ∧ n8 + 1 ≤ 11) := by
                subst es7
                have ho : opd t q.1 (big d q) c9 = c9 := by unfold opd; first | (rw [if_pos (by omega)]) | (rw [if_neg (by omega), if_pos (by omega)]) | (rw [if_neg (by omega), if_neg (by omega), if_pos (by omega)]) | (rw [if_neg (by omega), if_neg (by omega), if_neg (by omega)]; omega)
                refine ⟨by rw [show i + 1 + 1 = i + 2 by omega]; exact hcd, ?_, ?_, ⟨?_, ?_⟩, ?_, ?_⟩
                · have := hht.2; rwa [show (s8.length : Int) + 1 = ((c9 :: s8).length : Int) by simp only [List.length_cons]; omega] at this
                · rw [← i4, hTT, show (c9 :: s8) = (opd t q.1 (big d q) c9 :: s8) by rw [ho]]; exact (if_neg (by omega)).symm
                · rw [show ((s8.length : Nat) : Int) = n8 by omega]; exact uZ_s
                · exact StkOf.set (by omega) i5
                · intro a ha; rcases List.mem_cons.mp ha with rfl | ha
                  · omega
                  · exact i6 a ha
                · simp only [List.length_cons]; omega
              refine r_iinc (lv' := [(5, .int (zI (i + 1 + 1))), (3, .int (zI (n8 + 1))), (7, .int (zI (da (112 + i)))), (6, .int (zI (da (111 + i)))), (0, .ref aM), (1, .int (zI s9)), (2, .int (zI c9)), (4, .int (zI (big d q)))]) E 2 hl rfl dX11_weightOf_150 (by decide) rfl (fun ls hl => ?_)
              refine r_goto E 24 dX11_weightOf_153 (by decide) ?_
              exact ih_24 _ H locs ls (by omega) ⟨ws, (i + 1 + 1), s7, T2, (uZ st2 n8 (zL c9)), (n8 + 1), rfl, (by have := CodeAt.le hN.1; omega), hN.1, hN.2.1, hN.2.2.1, hN.2.2.2.1, hN.2.2.2.2.1, hN.2.2.2.2.2, h, h_mo, h_da, h_me, h_le, h_ru, h_st, hE, lv_sub hl [4, 5, 6, 1, 7, 0] rfl⟩
            · skip
              refine r_iload E 7 hl rfl dX11_weightOf_105 ?_
              refine r_i2l E dX11_weightOf_107 (by omega) ?_
              refine r_goto E 113 dX11_weightOf_108 (by decide) ?_
              refine r_last E h h_st (by omega) (by decide) dX11_weightOf_113 (fun ws H locs h hu => ?_)
              have h_mo := hu.keep h_mo (by omega)
              have h_da := hu.keep h_da (by omega)
              have h_me := hu.keep h_me (by omega)
              have h_le := hu.keep h_le (by omega)
              have h_ru := hu.keep h_ru (by omega)
              have h_st : ws[b + 20]? = some (ad 22, aL cy 1000 (uZ st2 n8 (zL (big d q)))) := hu.1
              have hE := hE.tr (hu.eqx (by dsimp only <;> omega))
              refine r_iinc (lv' := [(3, .int (zI (n8 + 1))), (7, .int (zI (da (112 + i)))), (5, .int (zI (i + 1))), (6, .int (zI (da (111 + i)))), (0, .ref aM), (1, .int (zI s9)), (2, .int (zI c9)), (4, .int (zI (big d q)))]) E 6 hl rfl dX11_weightOf_114 (by decide) rfl (fun ls hl => ?_)
              refine r_goto E 150 dX11_weightOf_117 (by decide) ?_
              obtain ⟨s7, es7⟩ : ∃ z, z = (big d q) :: s8 := ⟨_, rfl⟩
              have hN : CodeAt da (i + 1 + 1) T2 ∧ HeightOk (s7.length : Int) T2 ∧ evT q.1 (big d q) c9 T2 s7 = evT q.1 (big d q) c9 T [] ∧ StkOf (uZ st2 n8 (zL (big d q))) s7 ∧ (∀ a : Int, a ∈ s7 → -1000000 ≤ a ∧ a ≤ 1000000) ∧ (n8 + 1 = (s7.length : Int) ∧ n8 + 1 ≤ 11) := by
                subst es7
                have ho : opd t q.1 (big d q) c9 = (big d q) := by unfold opd; first | (rw [if_pos (by omega)]) | (rw [if_neg (by omega), if_pos (by omega)]) | (rw [if_neg (by omega), if_neg (by omega), if_pos (by omega)]) | (rw [if_neg (by omega), if_neg (by omega), if_neg (by omega)]; omega)
                refine ⟨by rw [show i + 1 + 1 = i + 2 by omega]; exact hcd, ?_, ?_, ⟨?_, ?_⟩, ?_, ?_⟩
                · have := hht.2; rwa [show (s8.length : Int) + 1 = (((big d q) :: s8).length : Int) by simp only [List.length_cons]; omega] at this
                · rw [← i4, hTT, show ((big d q) :: s8) = (opd t q.1 (big d q) c9 :: s8) by rw [ho]]; exact (if_neg (by omega)).symm
                · rw [show ((s8.length : Nat) : Int) = n8 by omega]; exact uZ_s
                · exact StkOf.set (by omega) i5
                · intro a ha; rcases List.mem_cons.mp ha with rfl | ha
                  · omega
                  · exact i6 a ha
                · simp only [List.length_cons]; omega
              refine r_iinc (lv' := [(5, .int (zI (i + 1 + 1))), (3, .int (zI (n8 + 1))), (7, .int (zI (da (112 + i)))), (6, .int (zI (da (111 + i)))), (0, .ref aM), (1, .int (zI s9)), (2, .int (zI c9)), (4, .int (zI (big d q)))]) E 2 hl rfl dX11_weightOf_150 (by decide) rfl (fun ls hl => ?_)
              refine r_goto E 24 dX11_weightOf_153 (by decide) ?_
              exact ih_24 _ H locs ls (by omega) ⟨ws, (i + 1 + 1), s7, T2, (uZ st2 n8 (zL (big d q))), (n8 + 1), rfl, (by have := CodeAt.le hN.1; omega), hN.1, hN.2.1, hN.2.2.1, hN.2.2.2.1, hN.2.2.2.2.1, hN.2.2.2.2.2, h, h_mo, h_da, h_me, h_le, h_ru, h_st, hE, lv_sub hl [4, 5, 6, 1, 7, 0] rfl⟩
          · skip
            refine r_aload_n E 3 hl rfl dX11_weightOf_89 ?_
            refine r_get (v := .ref (ad 17)) E h h_mo rfl inn_X11_weightOf_11 17 (by decide) fl_X11_weightOf_38 rfl dX11_weightOf_90 ?_
            refine r_iload_n E 4 hl rfl dX11_weightOf_93 ?_
            refine r_iald E h h_ru (by omega) (by decide) dX11_weightOf_94 ?_
            rw [show ru s9 = q.1 from hru]
            refine r_i2l E dX11_weightOf_95 (by omega) ?_
            refine r_goto E 113 dX11_weightOf_96 (by decide) ?_
            refine r_last E h h_st (by omega) (by decide) dX11_weightOf_113 (fun ws H locs h hu => ?_)
            have h_mo := hu.keep h_mo (by omega)
            have h_da := hu.keep h_da (by omega)
            have h_me := hu.keep h_me (by omega)
            have h_le := hu.keep h_le (by omega)
            have h_ru := hu.keep h_ru (by omega)
            have h_st : ws[b + 20]? = some (ad 22, aL cy 1000 (uZ st2 n8 (zL q.1))) := hu.1
            have hE := hE.tr (hu.eqx (by dsimp only <;> omega))
            refine r_iinc (lv' := [(3, .int (zI (n8 + 1))), (7, .int (zI (da (112 + i)))), (5, .int (zI (i + 1))), (6, .int (zI (da (111 + i)))), (0, .ref aM), (1, .int (zI s9)), (2, .int (zI c9)), (4, .int (zI (big d q)))]) E 6 hl rfl dX11_weightOf_114 (by decide) rfl (fun ls hl => ?_)
            refine r_goto E 150 dX11_weightOf_117 (by decide) ?_
            obtain ⟨s7, es7⟩ : ∃ z, z = q.1 :: s8 := ⟨_, rfl⟩
            have hN : CodeAt da (i + 1 + 1) T2 ∧ HeightOk (s7.length : Int) T2 ∧ evT q.1 (big d q) c9 T2 s7 = evT q.1 (big d q) c9 T [] ∧ StkOf (uZ st2 n8 (zL q.1)) s7 ∧ (∀ a : Int, a ∈ s7 → -1000000 ≤ a ∧ a ≤ 1000000) ∧ (n8 + 1 = (s7.length : Int) ∧ n8 + 1 ≤ 11) := by
              subst es7
              have ho : opd t q.1 (big d q) c9 = q.1 := by unfold opd; first | (rw [if_pos (by omega)]) | (rw [if_neg (by omega), if_pos (by omega)]) | (rw [if_neg (by omega), if_neg (by omega), if_pos (by omega)]) | (rw [if_neg (by omega), if_neg (by omega), if_neg (by omega)]; omega)
              refine ⟨by rw [show i + 1 + 1 = i + 2 by omega]; exact hcd, ?_, ?_, ⟨?_, ?_⟩, ?_, ?_⟩
              · have := hht.2; rwa [show (s8.length : Int) + 1 = ((q.1 :: s8).length : Int) by simp only [List.length_cons]; omega] at this
              · rw [← i4, hTT, show (q.1 :: s8) = (opd t q.1 (big d q) c9 :: s8) by rw [ho]]; exact (if_neg (by omega)).symm
              · rw [show ((s8.length : Nat) : Int) = n8 by omega]; exact uZ_s
              · exact StkOf.set (by omega) i5
              · intro a ha; rcases List.mem_cons.mp ha with rfl | ha
                · omega
                · exact i6 a ha
              · simp only [List.length_cons]; omega
            refine r_iinc (lv' := [(5, .int (zI (i + 1 + 1))), (3, .int (zI (n8 + 1))), (7, .int (zI (da (112 + i)))), (6, .int (zI (da (111 + i)))), (0, .ref aM), (1, .int (zI s9)), (2, .int (zI c9)), (4, .int (zI (big d q)))]) E 2 hl rfl dX11_weightOf_150 (by decide) rfl (fun ls hl => ?_)
            refine r_goto E 24 dX11_weightOf_153 (by decide) ?_
            exact ih_24 _ H locs ls (by omega) ⟨ws, (i + 1 + 1), s7, T2, (uZ st2 n8 (zL q.1)), (n8 + 1), rfl, (by have := CodeAt.le hN.1; omega), hN.1, hN.2.1, hN.2.2.1, hN.2.2.2.1, hN.2.2.2.2.1, hN.2.2.2.2.2, h, h_mo, h_da, h_me, h_le, h_ru, h_st, hE, lv_sub hl [4, 5, 6, 1, 7, 0] rfl⟩
        · skip
          refine r_iload E 0 hl rfl dX11_weightOf_78 ?_
          refine r_i2l E dX11_weightOf_80 (by omega) ?_
          refine r_goto E 113 dX11_weightOf_81 (by decide) ?_
          refine r_last E h h_st (by omega) (by decide) dX11_weightOf_113 (fun ws H locs h hu => ?_)
          have h_mo := hu.keep h_mo (by omega)
          have h_da := hu.keep h_da (by omega)
          have h_me := hu.keep h_me (by omega)
          have h_le := hu.keep h_le (by omega)
          have h_ru := hu.keep h_ru (by omega)
          have h_st : ws[b + 20]? = some (ad 22, aL cy 1000 (uZ st2 n8 (zL (da (112 + i))))) := hu.1
          have hE := hE.tr (hu.eqx (by dsimp only <;> omega))
          refine r_iinc (lv' := [(3, .int (zI (n8 + 1))), (7, .int (zI (da (112 + i)))), (5, .int (zI (i + 1))), (6, .int (zI (da (111 + i)))), (0, .ref aM), (1, .int (zI s9)), (2, .int (zI c9)), (4, .int (zI (big d q)))]) E 6 hl rfl dX11_weightOf_114 (by decide) rfl (fun ls hl => ?_)
          refine r_goto E 150 dX11_weightOf_117 (by decide) ?_
          obtain ⟨s7, es7⟩ : ∃ z, z = (da (112 + i)) :: s8 := ⟨_, rfl⟩
          have hN : CodeAt da (i + 1 + 1) T2 ∧ HeightOk (s7.length : Int) T2 ∧ evT q.1 (big d q) c9 T2 s7 = evT q.1 (big d q) c9 T [] ∧ StkOf (uZ st2 n8 (zL (da (112 + i)))) s7 ∧ (∀ a : Int, a ∈ s7 → -1000000 ≤ a ∧ a ≤ 1000000) ∧ (n8 + 1 = (s7.length : Int) ∧ n8 + 1 ≤ 11) := by
            subst es7
            have ho : opd t q.1 (big d q) c9 = (da (112 + i)) := by unfold opd; first | (rw [if_pos (by omega)]) | (rw [if_neg (by omega), if_pos (by omega)]) | (rw [if_neg (by omega), if_neg (by omega), if_pos (by omega)]) | (rw [if_neg (by omega), if_neg (by omega), if_neg (by omega)]; omega)
            refine ⟨by rw [show i + 1 + 1 = i + 2 by omega]; exact hcd, ?_, ?_, ⟨?_, ?_⟩, ?_, ?_⟩
            · have := hht.2; rwa [show (s8.length : Int) + 1 = (((da (112 + i)) :: s8).length : Int) by simp only [List.length_cons]; omega] at this
            · rw [← i4, hTT, show ((da (112 + i)) :: s8) = (opd t q.1 (big d q) c9 :: s8) by rw [ho]]; exact (if_neg (by omega)).symm
            · rw [show ((s8.length : Nat) : Int) = n8 by omega]; exact uZ_s
            · exact StkOf.set (by omega) i5
            · intro a ha; rcases List.mem_cons.mp ha with rfl | ha
              · omega
              · exact i6 a ha
            · simp only [List.length_cons]; omega
          refine r_iinc (lv' := [(5, .int (zI (i + 1 + 1))), (3, .int (zI (n8 + 1))), (7, .int (zI (da (112 + i)))), (6, .int (zI (da (111 + i)))), (0, .ref aM), (1, .int (zI s9)), (2, .int (zI c9)), (4, .int (zI (big d q)))]) E 2 hl rfl dX11_weightOf_150 (by decide) rfl (fun ls hl => ?_)
          refine r_goto E 24 dX11_weightOf_153 (by decide) ?_
          exact ih_24 _ H locs ls (by omega) ⟨ws, (i + 1 + 1), s7, T2, (uZ st2 n8 (zL (da (112 + i)))), (n8 + 1), rfl, (by have := CodeAt.le hN.1; omega), hN.1, hN.2.1, hN.2.2.1, hN.2.2.2.1, hN.2.2.2.2.1, hN.2.2.2.2.2, h, h_mo, h_da, h_me, h_le, h_ru, h_st, hE, lv_sub hl [4, 5, 6, 1, 7, 0] rfl⟩
  · skip
    refine r_iconst E dX11_weightOf_9 ?_
    exact r_iret E h ⟨by unfold wK wgt; rw [if_pos (hwt.elim (fun a => a.2) (fun a => absurd a.1 (by omega)))], st, h_st, hE⟩ dX11_weightOf_10
