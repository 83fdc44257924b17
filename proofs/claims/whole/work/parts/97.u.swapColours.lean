set_option maxHeartbeats 4000000 in
set_option maxRecDepth 100000 in
theorem law_swapColours {p : Program} {l : Launch} {e : Env} {s : State} {m : MethodId} {args : Array Value} {below : List Frame} {meth : Method} {c : Code} {G : va_G} {cy : Nat → ClassId} {H : Heap} {locs : List Loc} {cells slots : Nat} {Q : State → Prop} {ls : Array Slot} {b0 L aM ao b o : Nat} {xa ad ar : Nat → Nat} {xs : Nat → Int32} {k : Int} {ws : va_W} {rt : Option FieldType} (hl9 : l.stackTraces = false) (E : Ev p s m meth c args cL_law 7 rt wsQ_law RL G cy) (hX : KX cy (fun q => s.heap.size ≤ q) s s.heap) (hN : NCk s) (hXs : va_X b0 L xs s s.heap) (hbl : b0 < s.heap.size) (hL : L ≤ 3072) (hk : 0 ≤ k ∧ k + 5 < (L : Int)) (hcs : cells + 1000 ≤ room_1.cells ∧ slots + 12000 ≤ room_1.slots) (hJ : JW cy xa ad ar aM ao b o ws) (h : Hp G ws (fun q => s.heap.size ≤ q) s.heap H locs) (hl : lv_has ls 7 [(0, .ref b0), (1, .ref (xa 0)), (2, .ref aM), (3, .ref ao), (4, .int (zI k))]) (kk : ∀ (ws1 : va_W) (H1 : Heap) (locs1 : List Loc) (ls1 : Array Slot), JW cy xa ad ar aM ao b o ws1 → Hp G ws1 (fun q => s.heap.size ≤ q) s.heap H1 locs1 → lv_has ls1 7 [(0, .ref b0), (1, .ref (xa 0)), (2, .ref aM), (3, .ref ao), (4, .int (zI k))] → W p l e room_1 s m args below meth c H1 locs1 (cells + 1000) (slots + 12000) Q (F0 m 1289 ls1 [])) : W p l e room_1 s m args below meth c H locs cells slots Q (F0 m 1070 ls []) := by
  obtain ⟨K, t0, bl, erp, dep, bm, d, T, hs, g, hCW, hCI, hMW, hout⟩ := hJ
  obtain ⟨fs0, h_x0⟩ := hCW.obj
  obtain ⟨I0, h_m0⟩ := hMW.obj
  have hb9 := hCI.2.2.2.1
  have hD := hCI.1.1
  have hn9 := hD.n
  have hk9 := hD.k
  have hd9 := hCW.dep
  have r1 := SVL_rng xs (k + 1)
  have r2 := SVL_rng xs (k + 2)
  refine r_aload_n E 1 hl rfl dL_law_1070 ?_
  refine r_aload_n E 0 hl rfl dL_law_1071 ?_
  refine r_iload E 4 hl rfl dL_law_1072 ?_
  refine r_iconst E dL_law_1074 ?_
  refine r_iadd E dL_law_1075 ?_
  refine r_sld E h hXs hbl (by omega) hL dL_law_1076 ?_
  refine r_aload_n E 0 hl rfl dL_law_1077 ?_
  refine r_iload E 4 hl rfl dL_law_1078 ?_
  refine r_iconst E dL_law_1080 ?_
  refine r_iadd E dL_law_1081 ?_
  refine r_sld E h hXs hbl (by omega) hL dL_law_1082 ?_
  refine r_aload_n E 3 hl rfl dL_law_1083 ?_
  refine r_callSn E hX hN h (As := [.ref (xa 0), .int (zI (SVL xs (k + 1))), .int (zI (SVL xs (k + 2))), .ref ao]) (rest := []) (k_M_swapColours l (SVL xs (k + 1)) (SVL xs (k + 2)) (c_swapColours l (SVL xs (k + 1)) (SVL xs (k + 2)) hCW hCI ⟨r1, r2⟩ hl9) h_x0 (fun v w hp => by obtain ⟨o1, o2, hv, hCW1, hCI1, hE⟩ := hp; exact hE.at hout (by omega)) (fun E9 hx => by rcases hx with ⟨e9, n1⟩ | ⟨e9, n1, n2⟩ <;> first | exact e9 | exact Or.inl e9 | exact Or.inr e9))  gL_law_L_swapColours rfl hd_L_swapColours ⟨Nat.le_of_ble_eq_true rfl, Nat.le_of_ble_eq_true rfl⟩ ⟨by have q9 : rm_L_swapColours.cells + 0 ≤ 1000 := (by decide); omega, by have q9 : rm_L_swapColours.slots + 0 ≤ 12000 := (by decide); omega⟩ hl.1 rfl (Nat.le_of_ble_eq_true rfl) dL_law_1084 rfl (fun z0 ws1 H locs hp h1 => ?_)
  refine W.widen (k := cells + 900) (n := slots + 11000) (by have q9 : rm_L_swapColours.cells + 0 ≤ 900 := (by decide); omega) (by have q9 : rm_L_swapColours.slots + 0 ≤ 11000 := (by decide); omega) ?_
  refine r_istore (lv' := [(5, .int (zI z0)), (0, .ref b0), (1, .ref (xa 0)), (2, .ref aM), (3, .ref ao), (4, .int (zI k))]) E hl dL_law_1087 (by decide) rfl (fun ls hl => ?_)
  rcases hp with ⟨rfl, v, w, hpost, hu⟩ | ⟨rfl, hx, rfl⟩
  · skip
    obtain ⟨o1, o2, hv, hCW1, hCI1, hE⟩ := hpost
    have hu2 : Eqx w ws1 (fun j => j = o) := hu.eqx rfl
    have hCW2 := hCW1.keep hCI1 hu2 (fun j hj => by omega)
    have hMW2 := (hMW.keep hE (fun j h0 h1 => by omega)).keep hu2 (fun j h0 h1 => by omega)
    have hou2 := hu.1
    obtain ⟨I2, h_m2⟩ := hMW2.obj
    refine r_aload_n E 3 hl rfl dL_law_1089 ?_
    refine r_aload_n E 1 hl rfl dL_law_1090 ?_
    refine r_iload E 5 hl rfl dL_law_1091 ?_
    refine r_iconst E dL_law_1093 ?_
    refine r_iadd E dL_law_1094 ?_
    refine r_sld E h1 hXs hbl (by omega) hL dL_law_1095 ?_
    refine r_aload_n E 1 hl rfl dL_law_1096 ?_
    refine r_iload E 5 hl rfl dL_law_1097 ?_
    refine r_iconst E dL_law_1099 ?_
    refine r_iadd E dL_law_1100 ?_
    refine r_sld E h1 hXs hbl (by omega) hL dL_law_1101 ?_
    refine r_callVI E h1 (As := [.int (zI (SVL xs (k + 1))), .int (zI (SVL xs (k + 2)))]) (rest := []) (m_swapColours l (SVL xs (k + 1)) (SVL xs (k + 2)) hMW2 hD hd9 ⟨r1, r2⟩) h_m2 rfl gL_law_X11_swapColours rfl hd_X11_swapColours ⟨Nat.le_of_ble_eq_true rfl, Nat.le_of_ble_eq_true rfl⟩ ⟨by have q9 : rm_X11_swapColours.cells + 900 ≤ 1000 := (by decide); omega, by have q9 : rm_X11_swapColours.slots + 11000 ≤ 12000 := (by decide); omega⟩ hl.1 rfl (Nat.le_of_ble_eq_true rfl) dL_law_1102 rfl (fun z2 ws2 H locs hq h2 => ?_)
    refine W.widen (k := cells + 950) (n := slots + 11500) (by have q9 : rm_X11_swapColours.cells + 900 ≤ 950 := (by decide); omega) (by have q9 : rm_X11_swapColours.slots + 11000 ≤ 11500 := (by decide); omega) ?_
    obtain ⟨t, n2, d2, hs2, hc, hMW3, hE3⟩ := hq
    obtain ⟨rfl, rfl, rfl, rfl, rfl⟩ : t = 0 ∧ z2 = v ∧ n2 = rn dep ∧ d2 = swD d (SVL xs (k + 1)) (SVL xs (k + 2)) ∧ hs2 = rem dep hs d := by
      rcases hc with ⟨a1, a2, ht, hz, hn, hd, hh⟩ | ⟨a1, ht, hn, hd, hh⟩
      · exact ⟨ht, hz.trans hv.symm, hn, hd, hh⟩
      all_goals (exfalso; omega)
    have hCW3 := hCW2.keep hCI1 hE3 (fun j hj => by omega)
    have hout3 := hE3.at hou2 (by omega)
    refine r_istore (lv' := [(6, .int (zI z2)), (5, .int (zI 0)), (0, .ref b0), (1, .ref (xa 0)), (2, .ref aM), (3, .ref ao), (4, .int (zI k))]) E hl dL_law_1105 (by decide) rfl (fun ls hl => ?_)
    refine r_aload_n E 4 hl rfl dL_law_1107 ?_
    obtain ⟨I3, h_m3⟩ := hMW3.obj
    refine r_callVI E h2 (As := []) (rest := []) (m_thrown l hMW3) h_m3 rfl gL_law_X11_thrown rfl hd_X11_thrown ⟨Nat.le_of_ble_eq_true rfl, Nat.le_of_ble_eq_true rfl⟩ ⟨by have q9 : rm_X11_thrown.cells + 950 ≤ 1000 := (by decide); omega, by have q9 : rm_X11_thrown.slots + 11500 ≤ 12000 := (by decide); omega⟩ hl.1 rfl (Nat.le_of_ble_eq_true rfl) dL_law_1108 rfl (fun z3 ws3 H locs hq3 h3 => ?_)
    obtain ⟨rfl, rfl⟩ := hq3
    refine W.widen (k := cells + 1000) (n := slots + 12000) (by have q9 : rm_X11_thrown.cells + 950 ≤ 1000 := (by decide); omega) (by have q9 : rm_X11_thrown.slots + 11500 ≤ 12000 := (by decide); omega) ?_
    refine r_iload E 1 hl rfl dL_law_1111 ?_
    refine r_icmp_same E 1118 dL_law_1113 (by decide) ?_
    refine r_iload E 1 hl rfl dL_law_1118 ?_
    refine r_if_ne E 1135 dL_law_1120 (by decide) (by decide) (fun c9 => absurd rfl c9) (fun _ => ?_)
    refine r_aload_n E 5 hl rfl dL_law_1123 ?_
    refine r_iconst E dL_law_1124 ?_
    refine r_lald E h3 hout3 (by decide) (by decide) dL_law_1125 ?_
    rw [uZ_s]
    refine r_iload E 0 hl rfl dL_law_1126 ?_
    refine r_i2lX E dL_law_1128 ?_
    refine r_lcmp_same E dL_law_1129 ?_
    refine r_if_eq E 1135 dL_law_1130 (by decide) (by decide) (fun _ => ?_) (fun c9 => absurd rfl c9)
    refine r_goto E 1289 dL_law_1135 (by decide) ?_
    exact kk _ _ _ _ ⟨K, _, _, _, _, _, _, T, _, _, hCW3, hCI1, hMW3, hout3⟩ h3 (lv_sub hl [2, 3, 4, 5, 6] rfl)
  · skip
    have hCW2 := hCW
    have hMW2 := hMW
    have hou2 := hout
    have hCI1 := hCI
    obtain ⟨I2, h_m2⟩ := hMW2.obj
    refine r_aload_n E 3 hl rfl dL_law_1089 ?_
    refine r_aload_n E 1 hl rfl dL_law_1090 ?_
    refine r_iload E 5 hl rfl dL_law_1091 ?_
    refine r_iconst E dL_law_1093 ?_
    refine r_iadd E dL_law_1094 ?_
    refine r_sld E h1 hXs hbl (by omega) hL dL_law_1095 ?_
    refine r_aload_n E 1 hl rfl dL_law_1096 ?_
    refine r_iload E 5 hl rfl dL_law_1097 ?_
    refine r_iconst E dL_law_1099 ?_
    refine r_iadd E dL_law_1100 ?_
    refine r_sld E h1 hXs hbl (by omega) hL dL_law_1101 ?_
    refine r_callVI E h1 (As := [.int (zI (SVL xs (k + 1))), .int (zI (SVL xs (k + 2)))]) (rest := []) (m_swapColours l (SVL xs (k + 1)) (SVL xs (k + 2)) hMW2 hD hd9 ⟨r1, r2⟩) h_m2 rfl gL_law_X11_swapColours rfl hd_X11_swapColours ⟨Nat.le_of_ble_eq_true rfl, Nat.le_of_ble_eq_true rfl⟩ ⟨by have q9 : rm_X11_swapColours.cells + 900 ≤ 1000 := (by decide); omega, by have q9 : rm_X11_swapColours.slots + 11000 ≤ 12000 := (by decide); omega⟩ hl.1 rfl (Nat.le_of_ble_eq_true rfl) dL_law_1102 rfl (fun z2 ws2 H locs hq h2 => ?_)
    refine W.widen (k := cells + 950) (n := slots + 11500) (by have q9 : rm_X11_swapColours.cells + 900 ≤ 950 := (by decide); omega) (by have q9 : rm_X11_swapColours.slots + 11000 ≤ 11500 := (by decide); omega) ?_
    obtain ⟨t, n2, d2, hs2, hc, hMW3, hE3⟩ := hq
    obtain ⟨rfl, rfl, rfl, rfl⟩ : t = 1 ∧ n2 = dep ∧ d2 = d ∧ hs2 = hs := by
      rcases hx with ⟨e9, n1⟩ | ⟨e9, n1, n2⟩ <;> rcases hc with ⟨a1, a2, ht, hz, hn, hd, hh⟩ | ⟨a1, ht, hn, hd, hh⟩ <;> first | exact absurd e9 (by decide) | exact ⟨ht, hn, hd, hh⟩ | (exfalso; omega)
    have hCW3 := hCW2.keep hCI1 hE3 (fun j hj => by omega)
    have hout3 := hE3.at hou2 (by omega)
    refine r_istore (lv' := [(6, .int (zI z2)), (5, .int (zI 1)), (0, .ref b0), (1, .ref (xa 0)), (2, .ref aM), (3, .ref ao), (4, .int (zI k))]) E hl dL_law_1105 (by decide) rfl (fun ls hl => ?_)
    refine r_aload_n E 4 hl rfl dL_law_1107 ?_
    obtain ⟨I3, h_m3⟩ := hMW3.obj
    refine r_callVI E h2 (As := []) (rest := []) (m_thrown l hMW3) h_m3 rfl gL_law_X11_thrown rfl hd_X11_thrown ⟨Nat.le_of_ble_eq_true rfl, Nat.le_of_ble_eq_true rfl⟩ ⟨by have q9 : rm_X11_thrown.cells + 950 ≤ 1000 := (by decide); omega, by have q9 : rm_X11_thrown.slots + 11500 ≤ 12000 := (by decide); omega⟩ hl.1 rfl (Nat.le_of_ble_eq_true rfl) dL_law_1108 rfl (fun z3 ws3 H locs hq3 h3 => ?_)
    obtain ⟨rfl, rfl⟩ := hq3
    refine W.widen (k := cells + 1000) (n := slots + 12000) (by have q9 : rm_X11_thrown.cells + 950 ≤ 1000 := (by decide); omega) (by have q9 : rm_X11_thrown.slots + 11500 ≤ 12000 := (by decide); omega) ?_
    refine r_iload E 1 hl rfl dL_law_1111 ?_
    refine r_icmp_same E 1118 dL_law_1113 (by decide) ?_
    refine r_iload E 1 hl rfl dL_law_1118 ?_
    refine r_if_ne E 1135 dL_law_1120 (by decide) (by decide) (fun _ => ?_) (fun c9 => absurd c9 (by decide))
    refine r_goto E 1289 dL_law_1135 (by decide) ?_
    exact kk _ _ _ _ ⟨K, _, _, _, _, _, _, T, _, _, hCW3, hCI1, hMW3, hout3⟩ h3 (lv_sub hl [2, 3, 4, 5, 6] rfl)
