theorem hd_J0_coder_7d493 : yJ0_coder_7d493.cls = RJ0 ∧ yJ0_coder_7d493.cls ≠ "java/lang/invoke/MethodHandle" ∧ yJ0_coder_7d493.cls ≠ "java/lang/invoke/VarHandle" ∧ (parseMethodDescriptor yJ0_coder_7d493.desc).map (fun d => d.parameters.length) = some 0 := by decide +kernel
abbrev rm_J0_coder_7d493 : Room := { frames := 0, cells := 0, slots := 0, locals := 0 }
set_option maxHeartbeats 4000000 in
set_option maxRecDepth 100000 in
theorem k_J0_coder_7d493 (l : Launch) {G : va_G} {cy : Nat → ClassId} {ws0 : va_W} (i : Nat)  (hi : i < 9) : MIs l yJ0_coder_7d493 wsJ0_coder_7d493 rm_J0_coder_7d493 G cy [.ref (cy (100 + i))] ws0 (fun z u => z = 0 ∧ ws0 = u) := by
  refine MIs.of (own := RJ0) (cc := cJ0_coder_7d493) (nL := 1) (ret := (some .byte)) (by decide) rfl rfl (Nat.le_of_ble_eq_true rfl) ?_
  intro p e s m below meth c A ls hX E h hl
  have hl : lv_has ls 1 [(0, .ref (cy (100 + i)))] := hl
  refine r_staC E hX h (List.mem_of_getElem? (i := 1) rfl) dJ0_coder_7d493_0 ?_
  refine r_if_eq E 13 dJ0_coder_7d493_3 (by decide) (by omega) (fun c_3 => ?_) (fun c_3 => ?_)
  · skip
    exfalso; omega
  · skip
    refine r_aload_n E 0 hl rfl dJ0_coder_7d493_6 ?_
    refine r_getSC E hX h hi (List.mem_of_getElem? (i := 2) rfl) dJ0_coder_7d493_7 ?_
    refine r_goto E 14 dJ0_coder_7d493_10 (by decide) ?_
    exact r_tret E h rfl ⟨rfl, rfl⟩ dJ0_coder_7d493_14
theorem hd_J0_length_8abf5 : yJ0_length_8abf5.cls = RJ0 ∧ yJ0_length_8abf5.cls ≠ "java/lang/invoke/MethodHandle" ∧ yJ0_length_8abf5.cls ≠ "java/lang/invoke/VarHandle" ∧ (parseMethodDescriptor yJ0_length_8abf5.desc).map (fun d => d.parameters.length) = some 0 := by decide +kernel
abbrev rm_J0_length_8abf5 : Room := { frames := 1, cells := 0, slots := 0, locals := 20 }
set_option maxHeartbeats 4000000 in
set_option maxRecDepth 100000 in
theorem k_J0_length_8abf5 (l : Launch) {G : va_G} {cy : Nat → ClassId} {ws0 : va_W} (i : Nat)  (hi : i < 9) : MIs l yJ0_length_8abf5 wsJ0_length_8abf5 rm_J0_length_8abf5 G cy [.ref (cy (100 + i))] ws0 (fun z u => z = (lenST.getD i 0 : Nat) ∧ ws0 = u) := by
  refine MIs.of (own := RJ0) (cc := cJ0_length_8abf5) (nL := 1) (ret := (some .int)) (by decide) rfl rfl (Nat.le_of_ble_eq_true rfl) ?_
  intro p e s m below meth c A ls hX E h hl
  have hl : lv_has ls 1 [(0, .ref (cy (100 + i)))] := hl
  refine r_aload_n E 0 hl rfl dJ0_length_8abf5_0 ?_
  refine r_getSV E hX h hi (List.mem_of_getElem? (i := 1) rfl) dJ0_length_8abf5_1 ?_
  refine r_lenS E hX h hi dJ0_length_8abf5_4 ?_
  refine r_aload_n E 0 hl rfl dJ0_length_8abf5_5 ?_
  refine r_callStr E hX h hi (As := []) (rest := [.int (zI ((lenST.getD i 0 : Nat)))]) (k_J0_coder_7d493 l i hi) gJ0_length_8abf5_J0_coder_7d493 rfl hd_J0_coder_7d493 (by decide) ⟨by decide, by decide⟩ hl.1 rfl (Nat.le_of_ble_eq_true rfl) dJ0_length_8abf5_6 rfl (fun z_6 ws H locs hp h => ?_)
  obtain ⟨rfl, rfl⟩ := hp
  refine r_ishr E dJ0_length_8abf5_9 rfl (z := (lenST.getD i 0 : Nat)) (sb_shr0 _) ?_
  exact r_iret E h ⟨rfl, rfl⟩ dJ0_length_8abf5_10
theorem hd_J0_isLatin1_aae02 : yJ0_isLatin1_aae02.cls = RJ0 ∧ yJ0_isLatin1_aae02.cls ≠ "java/lang/invoke/MethodHandle" ∧ yJ0_isLatin1_aae02.cls ≠ "java/lang/invoke/VarHandle" ∧ (parseMethodDescriptor yJ0_isLatin1_aae02.desc).map (fun d => d.parameters.length) = some 0 := by decide +kernel
abbrev rm_J0_isLatin1_aae02 : Room := { frames := 0, cells := 0, slots := 0, locals := 0 }
set_option maxHeartbeats 4000000 in
set_option maxRecDepth 100000 in
theorem k_J0_isLatin1_aae02 (l : Launch) {G : va_G} {cy : Nat → ClassId} {ws0 : va_W} (i : Nat)  (hi : i < 9) : MIs l yJ0_isLatin1_aae02 wsJ0_isLatin1_aae02 rm_J0_isLatin1_aae02 G cy [.ref (cy (100 + i))] ws0 (fun z u => z = 1 ∧ ws0 = u) := by
  refine MIs.of (own := RJ0) (cc := cJ0_isLatin1_aae02) (nL := 1) (ret := (some .boolean)) (by decide) rfl rfl (Nat.le_of_ble_eq_true rfl) ?_
  intro p e s m below meth c A ls hX E h hl
  have hl : lv_has ls 1 [(0, .ref (cy (100 + i)))] := hl
  refine r_staC E hX h (List.mem_of_getElem? (i := 1) rfl) dJ0_isLatin1_aae02_0 ?_
  refine r_if_eq E 17 dJ0_isLatin1_aae02_3 (by decide) (by omega) (fun c_3 => ?_) (fun c_3 => ?_)
  · skip
    exfalso; omega
  · skip
    refine r_aload_n E 0 hl rfl dJ0_isLatin1_aae02_6 ?_
    refine r_getSC E hX h hi (List.mem_of_getElem? (i := 2) rfl) dJ0_isLatin1_aae02_7 ?_
    refine r_if_ne E 17 dJ0_isLatin1_aae02_10 (by decide) (by omega) (fun c_10 => ?_) (fun c_10 => ?_)
    · skip
      exfalso; omega
    · skip
      refine r_iconst E dJ0_isLatin1_aae02_13 ?_
      refine r_goto E 18 dJ0_isLatin1_aae02_14 (by decide) ?_
      exact r_zret E h (by omega) ⟨rfl, rfl⟩ dJ0_isLatin1_aae02_18
theorem hd_J3_checkIndex_8e157 : yJ3_checkIndex_8e157.cls ≠ "java/lang/invoke/MethodHandle" ∧ yJ3_checkIndex_8e157.cls ≠ "java/lang/invoke/VarHandle" ∧ (parseMethodDescriptor yJ3_checkIndex_8e157.desc).map (fun d => d.parameters.length) = some 3 := by decide +kernel
abbrev rm_J3_checkIndex_8e157 : Room := { frames := 0, cells := 0, slots := 0, locals := 0 }
set_option maxHeartbeats 4000000 in
set_option maxRecDepth 100000 in
theorem k_J3_checkIndex_N (l : Launch) {G : va_G} {cy : Nat → ClassId} {ws0 : va_W} (k n9 : Int)  (hk : 0 ≤ k ∧ k < n9 ∧ n9 ≤ 2147483647) : MI l yJ3_checkIndex_8e157 wsJ3_checkIndex_8e157 rm_J3_checkIndex_8e157 G cy [.int (zI k), .int (zI n9), .null] ws0 (fun z u => z = k ∧ ws0 = u) := by
  refine MI.of (own := RJ3) (cc := cJ3_checkIndex_8e157) (nL := 3) (ret := (some .int)) (by decide) rfl rfl (Nat.le_of_ble_eq_true rfl) ?_
  intro p e s m below meth c A ls E h hl
  have hl : lv_has ls 3 [(0, .int (zI k)), (1, .int (zI n9)), (2, .null)] := hl
  refine r_iload_n E 0 hl rfl dJ3_checkIndex_8e157_0 ?_
  refine r_if_lt E 9 dJ3_checkIndex_8e157_1 (by decide) (by omega) (fun c_1 => ?_) (fun c_1 => ?_)
  · skip
    exfalso; omega
  · skip
    refine r_iload_n E 0 hl rfl dJ3_checkIndex_8e157_4 ?_
    refine r_iload_n E 1 hl rfl dJ3_checkIndex_8e157_5 ?_
    refine r_icmp_lt E 16 dJ3_checkIndex_8e157_6 (by decide) (by omega) (fun c_6 => ?_) (fun c_6 => ?_)
    · skip
      refine r_iload_n E 0 hl rfl dJ3_checkIndex_8e157_16 ?_
      exact r_iret E h ⟨rfl, rfl⟩ dJ3_checkIndex_8e157_17
    · skip
      exfalso; omega
set_option maxHeartbeats 4000000 in
set_option maxRecDepth 100000 in
theorem k_J3_checkIndex_8e157 (l : Launch) {G : va_G} {cy : Nat → ClassId} {ws0 : va_W} (k n9 : Int) (t9 : Nat)  (hk : 0 ≤ k ∧ k < n9 ∧ n9 ≤ 2147483647) : MI l yJ3_checkIndex_8e157 wsJ3_checkIndex_8e157 rm_J3_checkIndex_8e157 G cy [.int (zI k), .int (zI n9), .ref t9] ws0 (fun z u => z = k ∧ ws0 = u) := by
  refine MI.of (own := RJ3) (cc := cJ3_checkIndex_8e157) (nL := 3) (ret := (some .int)) (by decide) rfl rfl (Nat.le_of_ble_eq_true rfl) ?_
  intro p e s m below meth c A ls E h hl
  have hl : lv_has ls 3 [(0, .int (zI k)), (1, .int (zI n9)), (2, .ref t9)] := hl
  refine r_iload_n E 0 hl rfl dJ3_checkIndex_8e157_0 ?_
  refine r_if_lt E 9 dJ3_checkIndex_8e157_1 (by decide) (by omega) (fun c_1 => ?_) (fun c_1 => ?_)
  · skip
    exfalso; omega
  · skip
    refine r_iload_n E 0 hl rfl dJ3_checkIndex_8e157_4 ?_
    refine r_iload_n E 1 hl rfl dJ3_checkIndex_8e157_5 ?_
    refine r_icmp_lt E 16 dJ3_checkIndex_8e157_6 (by decide) (by omega) (fun c_6 => ?_) (fun c_6 => ?_)
    · skip
      refine r_iload_n E 0 hl rfl dJ3_checkIndex_8e157_16 ?_
      exact r_iret E h ⟨rfl, rfl⟩ dJ3_checkIndex_8e157_17
    · skip
      exfalso; omega
theorem hd_J0_checkIndex_df160 : yJ0_checkIndex_df160.cls ≠ "java/lang/invoke/MethodHandle" ∧ yJ0_checkIndex_df160.cls ≠ "java/lang/invoke/VarHandle" ∧ (parseMethodDescriptor yJ0_checkIndex_df160.desc).map (fun d => d.parameters.length) = some 2 := by decide +kernel
abbrev rm_J0_checkIndex_df160 : Room := { frames := 1, cells := 0, slots := 0, locals := 22 }
set_option maxHeartbeats 4000000 in
set_option maxRecDepth 100000 in
theorem k_J0_checkIndex_df160 (l : Launch) {G : va_G} {cy : Nat → ClassId} {ws0 : va_W} (k n9 : Int)  (hk : 0 ≤ k ∧ k < n9 ∧ n9 ≤ 2147483647) : MVs l yJ0_checkIndex_df160 wsJ0_checkIndex_df160 rm_J0_checkIndex_df160 G cy [.int (zI k), .int (zI n9)] ws0 (fun u => ws0 = u) := by
  refine MVs.of (own := RJ0) (cc := cJ0_checkIndex_df160) (nL := 2) (ret := none) (by decide) rfl rfl (Nat.le_of_ble_eq_true rfl) ?_
  intro p e s m below meth c A ls hX E h hl
  have hl : lv_has ls 2 [(0, .int (zI k)), (1, .int (zI n9))] := hl
  refine r_iload_n E 0 hl rfl dJ0_checkIndex_df160_0 ?_
  refine r_iload_n E 1 hl rfl dJ0_checkIndex_df160_1 ?_
  refine r_staF E hX h (List.mem_of_getElem? (i := 1) rfl) dJ0_checkIndex_df160_2 ?_ (fun t_2 => ?_)
  · skip
    refine r_callSI E h (As := [.int (zI k), .int (zI n9), .null]) (rest := []) (k_J3_checkIndex_N l k n9 (by omega)) gJ0_checkIndex_df160_J3_checkIndex_8e157 rfl hd_J3_checkIndex_8e157 (by decide) ⟨by decide, by decide⟩ hl.1 rfl (Nat.le_of_ble_eq_true rfl) dJ0_checkIndex_df160_5 rfl (fun z_5 ws H locs hp h => ?_)
    obtain ⟨-, rfl⟩ := hp
    refine r_pop E dJ0_checkIndex_df160_8 rfl ?_
    exact r_vret E h (rfl) dJ0_checkIndex_df160_9
  · skip
    refine r_callSI E h (As := [.int (zI k), .int (zI n9), .ref t_2]) (rest := []) (k_J3_checkIndex_8e157 l k n9 t_2 (by omega)) gJ0_checkIndex_df160_J3_checkIndex_8e157 rfl hd_J3_checkIndex_8e157 (by decide) ⟨by decide, by decide⟩ hl.1 rfl (Nat.le_of_ble_eq_true rfl) dJ0_checkIndex_df160_5 rfl (fun z_5 ws H locs hp h => ?_)
    obtain ⟨-, rfl⟩ := hp
    refine r_pop E dJ0_checkIndex_df160_8 rfl ?_
    exact r_vret E h (rfl) dJ0_checkIndex_df160_9
theorem hd_J1_charAt_3b067 : yJ1_charAt_3b067.cls ≠ "java/lang/invoke/MethodHandle" ∧ yJ1_charAt_3b067.cls ≠ "java/lang/invoke/VarHandle" ∧ (parseMethodDescriptor yJ1_charAt_3b067.desc).map (fun d => d.parameters.length) = some 2 := by decide +kernel
abbrev rm_J1_charAt_3b067 : Room := { frames := 2, cells := 0, slots := 0, locals := 43 }
set_option maxHeartbeats 4000000 in
set_option maxRecDepth 100000 in
theorem k_J1_charAt_3b067 (l : Launch) {G : va_G} {cy : Nat → ClassId} {ws0 : va_W} (i : Nat) (k : Int)  (hi : i < 9) (hk : 0 ≤ k ∧ k < (lenST.getD i 0 : Nat)) : MIs l yJ1_charAt_3b067 wsJ1_charAt_3b067 rm_J1_charAt_3b067 G cy [.ref (cy (200 + i)), .int (zI k)] ws0 (fun z u => z = chS i k ∧ ws0 = u) := by
  refine MIs.of (own := RJ1) (cc := cJ1_charAt_3b067) (nL := 2) (ret := (some .char)) (by decide) rfl rfl (Nat.le_of_ble_eq_true rfl) ?_
  intro p e s m below meth c A ls hX E h hl
  have hl : lv_has ls 2 [(0, .ref (cy (200 + i))), (1, .int (zI k))] := hl
  have hl9 := lenST_rng i hi
  have hb9 := (ST_byt i hi).2 k.toNat (by omega)
  have hb8 : 97 ≤ chS i k ∧ chS i k ≤ 122 := hb9.2
  refine r_iload_n E 1 hl rfl dJ1_charAt_3b067_0 ?_
  refine r_aload_n E 0 hl rfl dJ1_charAt_3b067_1 ?_
  refine r_lenS E hX h hi dJ1_charAt_3b067_2 ?_
  refine r_callSsV E hX h (As := [.int (zI k), .int (zI ((lenST.getD i 0 : Nat)))]) (rest := []) (k_J0_checkIndex_df160 l k ((lenST.getD i 0 : Nat)) (by omega)) gJ1_charAt_3b067_J0_checkIndex_df160 rfl hd_J0_checkIndex_df160 (by decide) ⟨by decide, by decide⟩ hl.1 rfl (Nat.le_of_ble_eq_true rfl) dJ1_charAt_3b067_3 rfl (fun ws H locs hp h => ?_)
  obtain rfl := hp
  refine r_aload_n E 0 hl rfl dJ1_charAt_3b067_6 ?_
  refine r_iload_n E 1 hl rfl dJ1_charAt_3b067_7 ?_
  refine r_bytS E hX h hi (by omega) dJ1_charAt_3b067_8 ?_
  refine r_sipush E dJ1_charAt_3b067_9 (by decide) ?_
  refine r_iand E dJ1_charAt_3b067_12 (z := chS i k) (by rw [zI_and255, Int.emod_eq_of_lt (by omega) (by omega)]) ?_
  refine r_i2c E (by omega) dJ1_charAt_3b067_13 ?_
  exact r_tret E h (nar_char (by omega)) ⟨rfl, rfl⟩ dJ1_charAt_3b067_14
theorem hd_J0_charAt_5068e : yJ0_charAt_5068e.cls = RJ0 ∧ yJ0_charAt_5068e.cls ≠ "java/lang/invoke/MethodHandle" ∧ yJ0_charAt_5068e.cls ≠ "java/lang/invoke/VarHandle" ∧ (parseMethodDescriptor yJ0_charAt_5068e.desc).map (fun d => d.parameters.length) = some 1 := by decide +kernel
abbrev rm_J0_charAt_5068e : Room := { frames := 3, cells := 0, slots := 0, locals := 64 }
set_option maxHeartbeats 4000000 in
set_option maxRecDepth 100000 in
theorem k_J0_charAt_5068e (l : Launch) {G : va_G} {cy : Nat → ClassId} {ws0 : va_W} (i : Nat) (k : Int)  (hi : i < 9) (hk : 0 ≤ k ∧ k < (lenST.getD i 0 : Nat)) : MIs l yJ0_charAt_5068e wsJ0_charAt_5068e rm_J0_charAt_5068e G cy [.ref (cy (100 + i)), .int (zI k)] ws0 (fun z u => z = chS i k ∧ ws0 = u) := by
  refine MIs.of (own := RJ0) (cc := cJ0_charAt_5068e) (nL := 2) (ret := (some .char)) (by decide) rfl rfl (Nat.le_of_ble_eq_true rfl) ?_
  intro p e s m below meth c A ls hX E h hl
  have hl : lv_has ls 2 [(0, .ref (cy (100 + i))), (1, .int (zI k))] := hl
  have hl9 := lenST_rng i hi
  have hb9 := (ST_byt i hi).2 k.toNat (by omega)
  have hb8 : 97 ≤ chS i k ∧ chS i k ≤ 122 := hb9.2
  refine r_aload_n E 0 hl rfl dJ0_charAt_5068e_0 ?_
  refine r_callStr E hX h hi (As := []) (rest := []) (k_J0_isLatin1_aae02 l i hi) gJ0_charAt_5068e_J0_isLatin1_aae02 rfl hd_J0_isLatin1_aae02 (by decide) ⟨by decide, by decide⟩ hl.1 rfl (Nat.le_of_ble_eq_true rfl) dJ0_charAt_5068e_1 rfl (fun z_1 ws H locs hp h => ?_)
  obtain ⟨rfl, rfl⟩ := hp
  refine r_if_eq E 16 dJ0_charAt_5068e_4 (by decide) (by omega) (fun c_4 => ?_) (fun c_4 => ?_)
  · skip
    exfalso; omega
  · skip
    refine r_aload_n E 0 hl rfl dJ0_charAt_5068e_7 ?_
    refine r_getSV E hX h hi (List.mem_of_getElem? (i := 1) rfl) dJ0_charAt_5068e_8 ?_
    refine r_iload_n E 1 hl rfl dJ0_charAt_5068e_11 ?_
    refine r_callSsI E hX h (As := [.ref (cy (200 + i)), .int (zI k)]) (rest := []) (k_J1_charAt_3b067 l i k hi hk) gJ0_charAt_5068e_J1_charAt_3b067 rfl hd_J1_charAt_3b067 (by decide) ⟨by decide, by decide⟩ hl.1 rfl (Nat.le_of_ble_eq_true rfl) dJ0_charAt_5068e_12 rfl (fun z_12 ws H locs hp h => ?_)
    obtain ⟨rfl, rfl⟩ := hp
    exact r_tret E h (nar_char (by omega)) ⟨rfl, rfl⟩ dJ0_charAt_5068e_15
