/-- a byte as the class holds it -/
def sg (t : Int) : Int := if t < 128 then t else t - 256
theorem zI_b {z : Int} : (zI z).toInt8.toInt32 = zI (sg (z % 256)) := by
  apply Int32.toInt_inj.mp
  rw [Int8.toInt_toInt32, Int32.toInt_toInt8]
  have h1 : (zI z).toInt = z.bmod (2 ^ 32) := Int32.toInt_ofInt
  rw [h1, zI_toInt (by unfold sg; split <;> omega)]
  rw [Int.bmod_bmod_of_dvd (by decide), Int.bmod_def]
  unfold sg
  split <;> split <;> omega
theorem zI_nat {z : Int} : (zI z).toBitVec.toNat = (z % 2 ^ 32).toNat := by
  show (BitVec.ofInt 32 z).toNat = _
  rw [BitVec.toNat_ofInt]
  rfl
theorem zI_us {w : Int} (k : Nat) (u : UInt32) (hu : u.toNat = k) (hk : k < 32) : ((zI w).toUInt32 >>> u).toInt32 = zI ((w % 4294967296) / ((2 ^ k : Nat) : Int)) := by
  apply Int32.toBitVec_inj.mp
  apply BitVec.eq_of_toNat_eq
  rw [zI_nat]
  have h1 : ((zI w).toUInt32 >>> u).toInt32.toBitVec.toNat = ((zI w).toUInt32 >>> u).toNat := rfl
  have h2 : (zI w).toUInt32.toNat = (w % 2 ^ 32).toNat := zI_nat
  rw [h1, UInt32.toNat_shiftRight, hu, Nat.mod_eq_of_lt hk, Nat.shiftRight_eq_div_pow, h2]
  generalize 2 ^ k = P
  have h3 : 0 ≤ w % 4294967296 := by omega
  obtain ⟨v, hv⟩ : ∃ v : Nat, w % 4294967296 = (v : Int) := ⟨(w % 4294967296).toNat, by omega⟩
  have hv2 : v < 4294967296 := by omega
  have h4 : (w % 2 ^ 32).toNat = v := by omega
  rw [h4, hv]
  have h5 : v / P ≤ v := Nat.div_le_self v P
  have h6 : ((v : Int) / (P : Int)) = ((v / P : Nat) : Int) := rfl
  rw [h6]
  generalize v / P = t at h5 ⊢
  omega
theorem zI_us8 {w s : Int} (hs : s = 0 ∨ s = 8 ∨ s = 16 ∨ s = 24) : ((zI w).toUInt32 >>> ((zI s).toUInt32 &&& Int32.toUInt32 31)).toInt32 = zI (sh8 (w % 4294967296) s) := by
  rcases hs with rfl | rfl | rfl | rfl
  · rw [zI_us 0 _ (by decide) (by decide)]; simp [sh8]
  · rw [zI_us 8 _ (by decide) (by decide)]; simp [sh8]
  · rw [zI_us 16 _ (by decide) (by decide)]; simp [sh8]
  · rw [zI_us 24 _ (by decide) (by decide)]; simp [sh8]
theorem sh8_mod {w s : Int} (hs : s = 0 ∨ s = 8 ∨ s = 16 ∨ s = 24) : sh8 (w % 4294967296) s % 256 = sh8 w s % 256 := by
  rcases hs with rfl | rfl | rfl | rfl
  · show w % 4294967296 % 256 = w % 256; omega
  · show w % 4294967296 / 256 % 256 = w / 256 % 256; omega
  · show w % 4294967296 / 65536 % 256 = w / 65536 % 256; omega
  · show w % 4294967296 / 16777216 % 256 = w / 16777216 % 256; omega
theorem sg_sg {t : Int} (h : 0 ≤ t ∧ t < 256) : sg (sg t % 256) = sg t := by
  unfold sg
  split <;> split <;> omega
/-- a word laid as four bytes -/
def pw4 (bu : Int → Int) (bl w m : Int) : Int → Int := fun i => if bl ≤ i ∧ i < bl + m then sg (byt w (i - bl)) else bu i
theorem hd_X10_putWord : yX10_putWord.cls = RX10 ∧ yX10_putWord.cls ≠ "java/lang/invoke/MethodHandle" ∧ yX10_putWord.cls ≠ "java/lang/invoke/VarHandle" ∧ (parseMethodDescriptor yX10_putWord.desc).map (fun d => d.parameters.length) = some 1 := by decide +kernel
theorem fl_X10_putWord_13 : Cond.fieldLink RX10 13 (TX10 1).1 (TX10 1).2.1 (TX10 1).2.2.1 ∈ wsX10_putWord := List.mem_of_getElem? (i := 1) rfl
theorem inn_X10_putWord_10 : ∀ w ∈ wsX100, w ∈ wsX10_putWord := fun _ h => List.mem_cons_of_mem _ (List.mem_append_right _ h)
theorem fl_X10_putWord_9 : Cond.fieldLink RX10 9 (TX10 0).1 (TX10 0).2.1 (TX10 0).2.2.1 ∈ wsX10_putWord := List.mem_of_getElem? (i := 2) rfl
abbrev rm_X10_putWord : Room := { frames := 0, cells := 0, slots := 0, locals := 0 }
set_option maxHeartbeats 1200000 in
set_option maxRecDepth 100000 in
theorem k_X10_putWord (l : Launch) {G : va_G} {cy : Nat → ClassId} {ws0 : va_W} {qx ax ain asu ard a a2 asr arp ahi : Nat} {erp : Int} {bl : Int} {bu : Int → Int} (w9 : Int) (h_x0 : ws0[qx]? = some (ax, .inr (10, [.ref ain, .int (zI bl), .int (zI erp), .ref asu, .ref ard, .ref a, .ref a2, .ref asr, .ref arp, .ref ahi]))) (h_inp : ws0[qx + 1]? = some (ain, aB cy 600 bu)) (hbl : 0 ≤ bl ∧ bl + 4 ≤ 600) : MVk l yX10_putWord wsX10_putWord rm_X10_putWord G cy [.ref ax, .int (zI w9)] ws0 (fun u => u[qx]? = some (ax, .inr (10, [.ref ain, .int (zI (bl + 4)), .int (zI erp), .ref asu, .ref ard, .ref a, .ref a2, .ref asr, .ref arp, .ref ahi])) ∧ u[qx + 1]? = some (ain, aB cy 600 (pw4 bu bl w9 4)) ∧ Eqx ws0 u (fun j => j = qx ∨ j = qx + 1)) := by
  refine MVk.of (own := RX10) (cc := cX10_putWord) (nL := 3) (ret := none) (by decide) rfl rfl (Nat.le_of_ble_eq_true rfl) ?_
  intro p e s m below meth c A ls hX hin E h hl
  have hl : lv_has ls 3 [(0, .ref ax), (1, .int (zI w9))] := hl
  have hE : Eqx ws0 ws0 (fun j => j = qx ∨ j = qx + 1) := Eqx.rf
  refine r_bipush E dX10_putWord_0 (by decide) ?_
  refine r_istore_n (lv' := [(2, .int (zI 24)), (0, .ref ax), (1, .int (zI w9))]) E hl dX10_putWord_2 rfl (by decide) rfl (fun ls hl => ?_)
  refine r_loop (fun n H locs ls => ∃ (ws : va_W) (s9 : Int) (g9 : Int → Int) (l9 : Int), n = (s9 + 8).toNat ∧ ((s9 = 24 ∨ s9 = 16 ∨ s9 = 8 ∨ s9 = 0 ∨ s9 = -8)) ∧ (l9 = bl + (24 - s9) / 8) ∧ (g9 = pw4 bu bl w9 ((24 - s9) / 8)) ∧ Hp G ws A s.heap H locs ∧ (ws[qx]? = some (ax, .inr (10, [.ref ain, .int (zI l9), .int (zI erp), .ref asu, .ref ard, .ref a, .ref a2, .ref asr, .ref arp, .ref ahi]))) ∧ (ws[qx + 1]? = some (ain, aB cy 600 g9)) ∧ Eqx ws0 ws (fun j => j = qx ∨ j = qx + 1) ∧ lv_has ls 3 [(0, .ref ax), (1, .int (zI w9)), (2, .int (zI s9))]) _ ⟨ws0, 24, bu, bl, rfl, (by omega), (by omega), (funext fun i => by unfold pw4; rw [if_neg (by omega)]), h, h_x0, h_inp, hE, lv_sub hl [1, 2, 0] rfl⟩ ?_
  rintro n H locs ls ⟨ws, s9, g9, l9, hn, i1, i3, i2, h, h_x0, h_inp, hE, hl⟩ ih_3
  refine r_iload_n E 2 hl rfl dX10_putWord_3 ?_
  refine r_if_lt E 48 dX10_putWord_4 (by decide) (by omega) (fun c_4 => ?_) (fun c_4 => ?_)
  · skip
    have es9 : s9 = -8 := by omega
    have el9 : l9 = bl + 4 := by omega
    rw [el9] at h_x0
    rw [i2, es9] at h_inp
    exact r_vret E h ⟨h_x0, h_inp, hE⟩ dX10_putWord_48
  · skip
    refine r_aload_n E 0 hl rfl dX10_putWord_7 ?_
    refine r_get (v := .int (zI l9)) E h h_x0 rfl inn_X10_putWord_10 1 (by decide) fl_X10_putWord_13 rfl dX10_putWord_8 ?_
    refine r_aload_n E 0 hl rfl dX10_putWord_11 ?_
    refine r_get (v := .ref ain) E h h_x0 rfl inn_X10_putWord_10 0 (by decide) fl_X10_putWord_9 rfl dX10_putWord_12 ?_
    refine r_alen E h rfl h_inp (v := 600) rfl dX10_putWord_15 ?_
    refine r_icmp_ge E 48 dX10_putWord_16 (by decide) (by omega) (fun c_16 => ?_) (fun c_16 => ?_)
    · skip
      exfalso; omega
    · skip
      refine r_aload_n E 0 hl rfl dX10_putWord_19 ?_
      refine r_get (v := .ref ain) E h h_x0 rfl inn_X10_putWord_10 0 (by decide) fl_X10_putWord_9 rfl dX10_putWord_20 ?_
      refine r_aload_n E 0 hl rfl dX10_putWord_23 ?_
      refine r_get (v := .int (zI l9)) E h h_x0 rfl inn_X10_putWord_10 1 (by decide) fl_X10_putWord_13 rfl dX10_putWord_24 ?_
      refine r_iload_n E 1 hl rfl dX10_putWord_27 ?_
      refine r_iload_n E 2 hl rfl dX10_putWord_28 ?_
      refine r_iushr E dX10_putWord_29 (z := sh8 (w9 % 4294967296) s9) (zI_us8 (by omega : s9 = 0 ∨ s9 = 8 ∨ s9 = 16 ∨ s9 = 24)) ?_
      refine r_i2b (b := sg (sh8 w9 s9 % 256)) E dX10_putWord_30 (by rw [zI_b, sh8_mod (by omega : s9 = 0 ∨ s9 = 8 ∨ s9 = 16 ∨ s9 = 24)]) ?_
      refine r_bast (y := sg (sh8 w9 s9 % 256)) E h h_inp (by omega) (by decide) (by rw [zI_b, sg_sg (by omega)]) dX10_putWord_31 (fun ws H locs h hu => ?_)
      have h_x0 := hu.keep h_x0 (by omega)
      have h_inp : ws[qx + 1]? = some (ain, aB cy 600 (uZ g9 l9 (sg (sh8 w9 s9 % 256)))) := hu.1
      have hE := hE.tr (hu.eqx (by first | omega | (dsimp only <;> omega)))
      refine r_aload_n E 0 hl rfl dX10_putWord_32 ?_
      refine r_dup E dX10_putWord_33 rfl ?_
      refine r_get (v := .int (zI l9)) E h h_x0 rfl inn_X10_putWord_10 1 (by decide) fl_X10_putWord_13 rfl dX10_putWord_34 ?_
      refine r_iconst E dX10_putWord_37 ?_
      refine r_iadd E dX10_putWord_38 ?_
      refine r_put E h h_x0 rfl inn_X10_putWord_10 1 (by decide) fl_X10_putWord_13 tyX10 tyX10_ok nmX10 rfl rfl rfl (Nat.le_of_ble_eq_true rfl) dX10_putWord_39 (fun ws H locs h hu => ?_)
      have h_x0 : ws[qx]? = some (ax, .inr (10, [.ref ain, .int (zI (l9 + 1)), .int (zI erp), .ref asu, .ref ard, .ref a, .ref a2, .ref asr, .ref arp, .ref ahi])) := hu.1
      have h_inp := hu.keep h_inp (by omega)
      have hE := hE.tr (hu.eqx (by first | omega | (dsimp only <;> omega)))
      refine r_iinc (lv' := [(2, .int (zI (s9 + (-8)))), (0, .ref ax), (1, .int (zI w9))]) E 2 hl rfl dX10_putWord_42 (by decide) rfl (fun ls hl => ?_)
      refine r_goto E 3 dX10_putWord_45 (by decide) ?_
      exact ih_3 _ H locs ls (by omega) ⟨ws, (s9 + (-8)), (uZ g9 l9 (sg (sh8 w9 s9 % 256))), (l9 + 1), rfl, (by omega), (by omega), (funext fun i => by
      rw [i2]
      by_cases e9 : i = l9
      · rw [e9, uZ_s, ← e9]
        unfold pw4
        rw [if_pos (by omega)]
        unfold byt
        rw [show 24 - 8 * ((i - bl) % 4) = s9 by omega]
      · rw [uZ_n e9]
        unfold pw4
        by_cases e8 : bl ≤ i ∧ i < bl + (24 - s9) / 8
        · rw [if_pos e8, if_pos (by omega)]
        · rw [if_neg e8, if_neg (by omega)]), h, h_x0, h_inp, hE, lv_sub hl [1, 2, 0] rfl⟩
theorem pw4_ap {bm : Int → Int} {bl w0 w1 w2 w3 w4 : Int} : pw4 (pw4 (pw4 (pw4 (pw4 (fun i => sg (bm i)) bl w0 4) (bl + 4) w1 4) (bl + 4 + 4) w2 4) (bl + 4 + 4 + 4) w3 4) (bl + 4 + 4 + 4 + 4) w4 4 = fun i => sg (apB bm bl w0 w1 w2 w3 w4 i) := funext fun i => by
  simp only [pw4, apB, wsel]
  by_cases h : bl ≤ i ∧ i < bl + 20
  · rcases (by omega : i < bl + 4 ∨ (bl + 4 ≤ i ∧ i < bl + 8) ∨ (bl + 8 ≤ i ∧ i < bl + 12) ∨ (bl + 12 ≤ i ∧ i < bl + 16) ∨ bl + 16 ≤ i) with c9 | c9 | c9 | c9 | c9
    · rw [if_neg (by omega), if_neg (by omega), if_neg (by omega), if_neg (by omega), if_pos (by omega), if_pos (by omega), if_pos (by omega)]
    · rw [if_neg (by omega), if_neg (by omega), if_neg (by omega), if_pos (by omega), if_pos (by omega), if_neg (by omega), if_pos (by omega)]
      unfold byt
      rw [show (i - (bl + 4)) % 4 = (i - bl) % 4 by omega]
    · rw [if_neg (by omega), if_neg (by omega), if_pos (by omega), if_pos (by omega), if_neg (by omega), if_neg (by omega), if_pos (by omega)]
      unfold byt
      rw [show (i - (bl + 4 + 4)) % 4 = (i - bl) % 4 by omega]
    · rw [if_neg (by omega), if_pos (by omega), if_pos (by omega), if_neg (by omega), if_neg (by omega), if_neg (by omega), if_pos (by omega)]
      unfold byt
      rw [show (i - (bl + 4 + 4 + 4)) % 4 = (i - bl) % 4 by omega]
    · rw [if_pos (by omega), if_pos (by omega), if_neg (by omega), if_neg (by omega), if_neg (by omega), if_neg (by omega)]
      unfold byt
      rw [show (i - (bl + 4 + 4 + 4 + 4)) % 4 = (i - bl) % 4 by omega]
  · rw [if_neg (by omega), if_neg (by omega), if_neg (by omega), if_neg (by omega), if_neg (by omega), if_neg (by omega)]
theorem hd_X10_append : yX10_append.cls = RX10 ∧ yX10_append.cls ≠ "java/lang/invoke/MethodHandle" ∧ yX10_append.cls ≠ "java/lang/invoke/VarHandle" ∧ (parseMethodDescriptor yX10_append.desc).map (fun d => d.parameters.length) = some 5 := by decide +kernel
theorem fl_X10_append_13 : Cond.fieldLink RX10 13 (TX10 1).1 (TX10 1).2.1 (TX10 1).2.2.1 ∈ wsX10_append := List.mem_of_getElem? (i := 1) rfl
theorem inn_X10_append_10 : ∀ w ∈ wsX100, w ∈ wsX10_append := fun _ h => List.mem_cons_of_mem _ (List.mem_append_right _ h)
abbrev rm_X10_append : Room := { frames := 1, cells := 0, slots := 0, locals := 22 }
set_option maxHeartbeats 1200000 in
set_option maxRecDepth 100000 in
theorem k_X10_append (l : Launch) {G : va_G} {cy : Nat → ClassId} {ws0 : va_W} {qx ax ain asu ard a a2 asr arp ahi : Nat} {erp : Int} {bl : Int} {bm : Int → Int} (w0 w1 w2 w3 w4 : Int) (h_x0 : ws0[qx]? = some (ax, .inr (10, [.ref ain, .int (zI bl), .int (zI erp), .ref asu, .ref ard, .ref a, .ref a2, .ref asr, .ref arp, .ref ahi]))) (h_inp : ws0[qx + 1]? = some (ain, aB cy 600 ((fun i => sg (bm i))))) (hbl : 0 ≤ bl ∧ bl ≤ 600) : MIk l yX10_append wsX10_append rm_X10_append G cy [.ref ax, .int (zI w0), .int (zI w1), .int (zI w2), .int (zI w3), .int (zI w4)] ws0 (fun z u => (bl + 20 ≤ 600 ∧ z = bl + 20 ∧ u[qx]? = some (ax, .inr (10, [.ref ain, .int (zI (bl + 20)), .int (zI erp), .ref asu, .ref ard, .ref a, .ref a2, .ref asr, .ref arp, .ref ahi])) ∧ u[qx + 1]? = some (ain, aB cy 600 (fun i => sg (apB bm bl w0 w1 w2 w3 w4 i))) ∨ 600 < bl + 20 ∧ z = -1 ∧ u[qx]? = some (ax, .inr (10, [.ref ain, .int (zI (bl)), .int (zI erp), .ref asu, .ref ard, .ref a, .ref a2, .ref asr, .ref arp, .ref ahi])) ∧ u[qx + 1]? = some (ain, aB cy 600 (fun i => sg (bm i)))) ∧ Eqx ws0 u (fun j => j = qx ∨ j = qx + 1)) := by
  refine MIk.of (own := RX10) (cc := cX10_append) (nL := 6) (ret := (some .int)) (by decide) rfl rfl (Nat.le_of_ble_eq_true rfl) ?_
  intro p e s m below meth c A ls hX E h hl
  have hl : lv_has ls 6 [(0, .ref ax), (1, .int (zI w0)), (2, .int (zI w1)), (3, .int (zI w2)), (4, .int (zI w3)), (5, .int (zI w4))] := hl
  have hE : Eqx ws0 ws0 (fun j => j = qx ∨ j = qx + 1) := Eqx.rf
  refine r_aload_n E 0 hl rfl dX10_append_0 ?_
  refine r_get (v := .int (zI bl)) E h h_x0 rfl inn_X10_append_10 1 (by decide) fl_X10_append_13 rfl dX10_append_1 ?_
  refine r_sipush E dX10_append_4 (by decide) ?_
  refine r_icmp_le E 12 dX10_append_7 (by decide) (by omega) (fun c_7 => ?_) (fun c_7 => ?_)
  · skip
    refine r_aload_n E 0 hl rfl dX10_append_12 ?_
    refine r_iload_n E 1 hl rfl dX10_append_13 ?_
    refine r_callVkV E hX h (As := [.int (zI w0)]) (rest := []) (k_X10_putWord l w0 h_x0 h_inp (by omega)) h_x0 rfl gX10_append_X10_putWord rfl hd_X10_putWord (by decide) ⟨by decide, by decide⟩ hl.1 rfl (Nat.le_of_ble_eq_true rfl) dX10_append_14 rfl (fun ws H locs hp h => ?_)
    obtain ⟨h_x0, h_inp, hf⟩ := hp
    have hE := hE.tr (hf.wk (fun j hj => by first | omega | (dsimp only at hj ⊢ <;> omega)))
    refine r_aload_n E 0 hl rfl dX10_append_17 ?_
    refine r_iload_n E 2 hl rfl dX10_append_18 ?_
    refine r_callVkV E hX h (As := [.int (zI w1)]) (rest := []) (k_X10_putWord l w1 h_x0 h_inp (by omega)) h_x0 rfl gX10_append_X10_putWord rfl hd_X10_putWord (by decide) ⟨by decide, by decide⟩ hl.1 rfl (Nat.le_of_ble_eq_true rfl) dX10_append_19 rfl (fun ws H locs hp h => ?_)
    obtain ⟨h_x0, h_inp, hf⟩ := hp
    have hE := hE.tr (hf.wk (fun j hj => by first | omega | (dsimp only at hj ⊢ <;> omega)))
    refine r_aload_n E 0 hl rfl dX10_append_22 ?_
    refine r_iload_n E 3 hl rfl dX10_append_23 ?_
    refine r_callVkV E hX h (As := [.int (zI w2)]) (rest := []) (k_X10_putWord l w2 h_x0 h_inp (by omega)) h_x0 rfl gX10_append_X10_putWord rfl hd_X10_putWord (by decide) ⟨by decide, by decide⟩ hl.1 rfl (Nat.le_of_ble_eq_true rfl) dX10_append_24 rfl (fun ws H locs hp h => ?_)
    obtain ⟨h_x0, h_inp, hf⟩ := hp
    have hE := hE.tr (hf.wk (fun j hj => by first | omega | (dsimp only at hj ⊢ <;> omega)))
    refine r_aload_n E 0 hl rfl dX10_append_27 ?_
    refine r_iload E 4 hl rfl dX10_append_28 ?_
    refine r_callVkV E hX h (As := [.int (zI w3)]) (rest := []) (k_X10_putWord l w3 h_x0 h_inp (by omega)) h_x0 rfl gX10_append_X10_putWord rfl hd_X10_putWord (by decide) ⟨by decide, by decide⟩ hl.1 rfl (Nat.le_of_ble_eq_true rfl) dX10_append_30 rfl (fun ws H locs hp h => ?_)
    obtain ⟨h_x0, h_inp, hf⟩ := hp
    have hE := hE.tr (hf.wk (fun j hj => by first | omega | (dsimp only at hj ⊢ <;> omega)))
    refine r_aload_n E 0 hl rfl dX10_append_33 ?_
    refine r_iload E 5 hl rfl dX10_append_34 ?_
    refine r_callVkV E hX h (As := [.int (zI w4)]) (rest := []) (k_X10_putWord l w4 h_x0 h_inp (by omega)) h_x0 rfl gX10_append_X10_putWord rfl hd_X10_putWord (by decide) ⟨by decide, by decide⟩ hl.1 rfl (Nat.le_of_ble_eq_true rfl) dX10_append_36 rfl (fun ws H locs hp h => ?_)
    obtain ⟨h_x0, h_inp, hf⟩ := hp
    have hE := hE.tr (hf.wk (fun j hj => by first | omega | (dsimp only at hj ⊢ <;> omega)))
    rw [pw4_ap] at h_inp
    rw [show bl + 4 + 4 + 4 + 4 + 4 = bl + 20 by omega] at h_x0
    skip
    refine r_aload_n E 0 hl rfl dX10_append_39 ?_
    refine r_get (v := .int (zI (bl + 20))) E h h_x0 rfl inn_X10_append_10 1 (by decide) fl_X10_append_13 rfl dX10_append_40 ?_
    exact r_iret E h ⟨Or.inl ⟨by omega, rfl, h_x0, h_inp⟩, hE⟩ dX10_append_43
  · skip
    refine r_iconst E dX10_append_10 ?_
    exact r_iret E h ⟨Or.inr ⟨by omega, rfl, h_x0, h_inp⟩, hE⟩ dX10_append_11
