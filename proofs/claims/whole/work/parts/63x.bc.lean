theorem hd_J13_bitCount_95d88 : yJ13_bitCount_95d88.cls ≠ "java/lang/invoke/MethodHandle" ∧ yJ13_bitCount_95d88.cls ≠ "java/lang/invoke/VarHandle" ∧ (parseMethodDescriptor yJ13_bitCount_95d88.desc).map (fun d => d.parameters.length) = some 1 := by decide +kernel
abbrev rm_J13_bitCount_95d88 : Room := { frames := 0, cells := 0, slots := 0, locals := 0 }
set_option maxHeartbeats 1200000 in
set_option maxRecDepth 100000 in
theorem k_J13_bitCount_95d88 (l : Launch) {G : va_G} {cy : Nat → ClassId} {ws0 : va_W} (pp : Int → Bool)   : MI l yJ13_bitCount_95d88 wsJ13_bitCount_95d88 rm_J13_bitCount_95d88 G cy [.long (bs pp)] ws0 (fun z u => z = (ctN pp 64 : Nat) ∧ ws0 = u) := by
  refine MI.of (own := RJ13) (cc := cJ13_bitCount_95d88) (nL := 2) (ret := (some .int)) (by decide) rfl rfl (Nat.le_of_ble_eq_true rfl) ?_
  intro p e s m below meth c A ls E h hl
  have hl : lv_has ls 2 [(0, .long (bs pp))] := hl
  rw [bs_lN] at hl
  skip
  have b0 := bsN_lt pp 64
  have b1 : sw1 8 (bsN pp 64) < 18446744073709551616 := by unfold sw1; omega
  have b2 : sw2 8 (sw1 8 (bsN pp 64)) ≤ 7378697629483820646 := by
    have r51 : rep 51 8 = 3689348814741910323 := by decide
    have t1 : sw1 8 (bsN pp 64) &&& rep 51 8 ≤ rep 51 8 := Nat.and_le_right
    have t2 : (sw1 8 (bsN pp 64) / 4) &&& rep 51 8 ≤ rep 51 8 := Nat.and_le_right
    unfold sw2; omega
  obtain ⟨g1, g2⟩ := sw_all pp
  have g3 : (fold (sw3 8 (sw2 8 (sw1 8 (bsN pp 64)))) : Nat) = (((sw3 8 (sw2 8 (sw1 8 (bsN pp 64))) + sw3 8 (sw2 8 (sw1 8 (bsN pp 64))) / 256) + (sw3 8 (sw2 8 (sw1 8 (bsN pp 64))) + sw3 8 (sw2 8 (sw1 8 (bsN pp 64))) / 256) / 65536) + ((sw3 8 (sw2 8 (sw1 8 (bsN pp 64))) + sw3 8 (sw2 8 (sw1 8 (bsN pp 64))) / 256) + (sw3 8 (sw2 8 (sw1 8 (bsN pp 64))) + sw3 8 (sw2 8 (sw1 8 (bsN pp 64))) / 256) / 65536) / 4294967296) := rfl
  refine r_lload_n E 0 hl rfl dJ13_bitCount_95d88_0 ?_
  refine r_lload_n E 0 hl rfl dJ13_bitCount_95d88_1 ?_
  refine r_iconst E dJ13_bitCount_95d88_2 ?_
  refine r_lushr E dJ13_bitCount_95d88_3 (v := lN (bsN pp 64 / 2)) (lN_ushr (k := 1) (by decide) (by decide) (by decide) (by omega)) ?_
  refine r_ldc2 E (v := 6148914691236517205) (List.mem_of_getElem? (i := 1) rfl) dJ13_bitCount_95d88_4 ?_
  refine r_land E dJ13_bitCount_95d88_7 ?_
  rw [show ((lN (bsN pp 64 / 2)) &&& 6148914691236517205) = lN ((bsN pp 64 / 2) &&& rep 85 8) from (lN_and (b := rep 85 8) (by omega) (by decide))]
  skip
  refine r_lsubX E dJ13_bitCount_95d88_8 ?_
  rw [show ((lN (bsN pp 64)) - (lN ((bsN pp 64 / 2) &&& rep 85 8))) = lN (sw1 8 (bsN pp 64)) from (lN_sub (Nat.le_trans Nat.and_le_left (Nat.div_le_self _ _)))]
  skip
  refine r_lstore_n (lv' := [(0, .long (lN (sw1 8 (bsN pp 64))))]) E hl dJ13_bitCount_95d88_9 rfl (by decide) rfl (fun ls hl => ?_)
  refine r_lload_n E 0 hl rfl dJ13_bitCount_95d88_10 ?_
  refine r_ldc2 E (v := 3689348814741910323) (List.mem_of_getElem? (i := 2) rfl) dJ13_bitCount_95d88_11 ?_
  refine r_land E dJ13_bitCount_95d88_14 ?_
  rw [show ((lN (sw1 8 (bsN pp 64))) &&& 3689348814741910323) = lN (sw1 8 (bsN pp 64) &&& rep 51 8) from (lN_and (b := rep 51 8) (by omega) (by decide))]
  skip
  refine r_lload_n E 0 hl rfl dJ13_bitCount_95d88_15 ?_
  refine r_iconst E dJ13_bitCount_95d88_16 ?_
  refine r_lushr E dJ13_bitCount_95d88_17 (v := lN (sw1 8 (bsN pp 64) / 4)) (lN_ushr (k := 2) (by decide) (by decide) (by decide) (by omega)) ?_
  refine r_ldc2 E (v := 3689348814741910323) (List.mem_of_getElem? (i := 2) rfl) dJ13_bitCount_95d88_18 ?_
  refine r_land E dJ13_bitCount_95d88_21 ?_
  rw [show ((lN (sw1 8 (bsN pp 64) / 4)) &&& 3689348814741910323) = lN ((sw1 8 (bsN pp 64) / 4) &&& rep 51 8) from (lN_and (b := rep 51 8) (by omega) (by decide))]
  skip
  refine r_laddX E dJ13_bitCount_95d88_22 ?_
  rw [show ((lN (sw1 8 (bsN pp 64) &&& rep 51 8)) + (lN ((sw1 8 (bsN pp 64) / 4) &&& rep 51 8))) = lN (sw2 8 (sw1 8 (bsN pp 64))) from (lN_add _ _)]
  skip
  refine r_lstore_n (lv' := [(0, .long (lN (sw2 8 (sw1 8 (bsN pp 64)))))]) E hl dJ13_bitCount_95d88_23 rfl (by decide) rfl (fun ls hl => ?_)
  refine r_lload_n E 0 hl rfl dJ13_bitCount_95d88_24 ?_
  refine r_lload_n E 0 hl rfl dJ13_bitCount_95d88_25 ?_
  refine r_iconst E dJ13_bitCount_95d88_26 ?_
  refine r_lushr E dJ13_bitCount_95d88_27 (v := lN (sw2 8 (sw1 8 (bsN pp 64)) / 16)) (lN_ushr (k := 4) (by decide) (by decide) (by decide) (by omega)) ?_
  refine r_laddX E dJ13_bitCount_95d88_28 ?_
  rw [show ((lN (sw2 8 (sw1 8 (bsN pp 64)))) + (lN (sw2 8 (sw1 8 (bsN pp 64)) / 16))) = lN (sw2 8 (sw1 8 (bsN pp 64)) + sw2 8 (sw1 8 (bsN pp 64)) / 16) from (lN_add _ _)]
  skip
  refine r_ldc2 E (v := 1085102592571150095) (List.mem_of_getElem? (i := 3) rfl) dJ13_bitCount_95d88_29 ?_
  refine r_land E dJ13_bitCount_95d88_32 ?_
  rw [show ((lN (sw2 8 (sw1 8 (bsN pp 64)) + sw2 8 (sw1 8 (bsN pp 64)) / 16)) &&& 1085102592571150095) = lN (sw3 8 (sw2 8 (sw1 8 (bsN pp 64)))) from (lN_and (b := rep 15 8) (by omega) (by decide))]
  skip
  refine r_lstore_n (lv' := [(0, .long (lN (sw3 8 (sw2 8 (sw1 8 (bsN pp 64))))))]) E hl dJ13_bitCount_95d88_33 rfl (by decide) rfl (fun ls hl => ?_)
  refine r_lload_n E 0 hl rfl dJ13_bitCount_95d88_34 ?_
  refine r_lload_n E 0 hl rfl dJ13_bitCount_95d88_35 ?_
  refine r_bipush E dJ13_bitCount_95d88_36 (by decide) ?_
  refine r_lushr E dJ13_bitCount_95d88_38 (v := lN (sw3 8 (sw2 8 (sw1 8 (bsN pp 64))) / 256)) (lN_ushr (k := 8) (by decide) (by decide) (by decide) (by omega)) ?_
  refine r_laddX E dJ13_bitCount_95d88_39 ?_
  rw [show ((lN (sw3 8 (sw2 8 (sw1 8 (bsN pp 64))))) + (lN (sw3 8 (sw2 8 (sw1 8 (bsN pp 64))) / 256))) = lN (sw3 8 (sw2 8 (sw1 8 (bsN pp 64))) + sw3 8 (sw2 8 (sw1 8 (bsN pp 64))) / 256) from (lN_add _ _)]
  skip
  refine r_lstore_n (lv' := [(0, .long (lN (sw3 8 (sw2 8 (sw1 8 (bsN pp 64))) + sw3 8 (sw2 8 (sw1 8 (bsN pp 64))) / 256)))]) E hl dJ13_bitCount_95d88_40 rfl (by decide) rfl (fun ls hl => ?_)
  refine r_lload_n E 0 hl rfl dJ13_bitCount_95d88_41 ?_
  refine r_lload_n E 0 hl rfl dJ13_bitCount_95d88_42 ?_
  refine r_bipush E dJ13_bitCount_95d88_43 (by decide) ?_
  refine r_lushr E dJ13_bitCount_95d88_45 (v := lN ((sw3 8 (sw2 8 (sw1 8 (bsN pp 64))) + sw3 8 (sw2 8 (sw1 8 (bsN pp 64))) / 256) / 65536)) (lN_ushr (k := 16) (by decide) (by decide) (by decide) (by omega)) ?_
  refine r_laddX E dJ13_bitCount_95d88_46 ?_
  rw [show ((lN (sw3 8 (sw2 8 (sw1 8 (bsN pp 64))) + sw3 8 (sw2 8 (sw1 8 (bsN pp 64))) / 256)) + (lN ((sw3 8 (sw2 8 (sw1 8 (bsN pp 64))) + sw3 8 (sw2 8 (sw1 8 (bsN pp 64))) / 256) / 65536))) = lN ((sw3 8 (sw2 8 (sw1 8 (bsN pp 64))) + sw3 8 (sw2 8 (sw1 8 (bsN pp 64))) / 256) + (sw3 8 (sw2 8 (sw1 8 (bsN pp 64))) + sw3 8 (sw2 8 (sw1 8 (bsN pp 64))) / 256) / 65536) from (lN_add _ _)]
  skip
  refine r_lstore_n (lv' := [(0, .long (lN ((sw3 8 (sw2 8 (sw1 8 (bsN pp 64))) + sw3 8 (sw2 8 (sw1 8 (bsN pp 64))) / 256) + (sw3 8 (sw2 8 (sw1 8 (bsN pp 64))) + sw3 8 (sw2 8 (sw1 8 (bsN pp 64))) / 256) / 65536)))]) E hl dJ13_bitCount_95d88_47 rfl (by decide) rfl (fun ls hl => ?_)
  refine r_lload_n E 0 hl rfl dJ13_bitCount_95d88_48 ?_
  refine r_lload_n E 0 hl rfl dJ13_bitCount_95d88_49 ?_
  refine r_bipush E dJ13_bitCount_95d88_50 (by decide) ?_
  refine r_lushr E dJ13_bitCount_95d88_52 (v := lN (((sw3 8 (sw2 8 (sw1 8 (bsN pp 64))) + sw3 8 (sw2 8 (sw1 8 (bsN pp 64))) / 256) + (sw3 8 (sw2 8 (sw1 8 (bsN pp 64))) + sw3 8 (sw2 8 (sw1 8 (bsN pp 64))) / 256) / 65536) / 4294967296)) (lN_ushr (k := 32) (by decide) (by decide) (by decide) (by omega)) ?_
  refine r_laddX E dJ13_bitCount_95d88_53 ?_
  rw [show ((lN ((sw3 8 (sw2 8 (sw1 8 (bsN pp 64))) + sw3 8 (sw2 8 (sw1 8 (bsN pp 64))) / 256) + (sw3 8 (sw2 8 (sw1 8 (bsN pp 64))) + sw3 8 (sw2 8 (sw1 8 (bsN pp 64))) / 256) / 65536)) + (lN (((sw3 8 (sw2 8 (sw1 8 (bsN pp 64))) + sw3 8 (sw2 8 (sw1 8 (bsN pp 64))) / 256) + (sw3 8 (sw2 8 (sw1 8 (bsN pp 64))) + sw3 8 (sw2 8 (sw1 8 (bsN pp 64))) / 256) / 65536) / 4294967296))) = zL ((((sw3 8 (sw2 8 (sw1 8 (bsN pp 64))) + sw3 8 (sw2 8 (sw1 8 (bsN pp 64))) / 256) + (sw3 8 (sw2 8 (sw1 8 (bsN pp 64))) + sw3 8 (sw2 8 (sw1 8 (bsN pp 64))) / 256) / 65536) + ((sw3 8 (sw2 8 (sw1 8 (bsN pp 64))) + sw3 8 (sw2 8 (sw1 8 (bsN pp 64))) / 256) + (sw3 8 (sw2 8 (sw1 8 (bsN pp 64))) + sw3 8 (sw2 8 (sw1 8 (bsN pp 64))) / 256) / 65536) / 4294967296 : Nat) : Int) from ((lN_add _ _).trans (zL_lN _).symm)]
  skip
  refine r_lstore_n (lv' := [(0, .long (zL ((((sw3 8 (sw2 8 (sw1 8 (bsN pp 64))) + sw3 8 (sw2 8 (sw1 8 (bsN pp 64))) / 256) + (sw3 8 (sw2 8 (sw1 8 (bsN pp 64))) + sw3 8 (sw2 8 (sw1 8 (bsN pp 64))) / 256) / 65536) + ((sw3 8 (sw2 8 (sw1 8 (bsN pp 64))) + sw3 8 (sw2 8 (sw1 8 (bsN pp 64))) / 256) + (sw3 8 (sw2 8 (sw1 8 (bsN pp 64))) + sw3 8 (sw2 8 (sw1 8 (bsN pp 64))) / 256) / 65536) / 4294967296 : Nat) : Int)))]) E hl dJ13_bitCount_95d88_54 rfl (by decide) rfl (fun ls hl => ?_)
  refine r_lload_n E 0 hl rfl dJ13_bitCount_95d88_55 ?_
  skip
  refine r_l2i E dJ13_bitCount_95d88_56 ?_
  refine r_bipush E dJ13_bitCount_95d88_57 (by decide) ?_
  refine r_iand E dJ13_bitCount_95d88_59 (z := ((ctN pp 64 : Nat) : Int)) (by rw [zI_and127, g3.symm, g1]) ?_
  exact r_iret E h ⟨rfl, rfl⟩ dJ13_bitCount_95d88_60
