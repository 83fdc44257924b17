set_option maxHeartbeats 4000000 in
set_option maxRecDepth 100000 in
theorem law_conflicts {p : Program} {l : Launch} {e : Env} {s : State} {m : MethodId} {args : Array Value} {below : List Frame} {meth : Method} {c : Code} {G : va_G} {cy : Nat → ClassId} {H : Heap} {locs : List Loc} {cells slots : Nat} {Q : State → Prop} {ls : Array Slot} {b0 L aM ao b o : Nat} {xa ad ar : Nat → Nat} {xs : Nat → Int32} {k : Int} {ws : va_W} {rt : Option FieldType} (hl9 : l.stackTraces = false) (E : Ev p s m meth c args cL_law 7 rt wsQ_law RL G cy) (hX : KX cy (fun q => s.heap.size ≤ q) s s.heap) (hN : NCk s) (hXs : va_X b0 L xs s s.heap) (hbl : b0 < s.heap.size) (hL : L ≤ 3072) (hk : 0 ≤ k ∧ k + 5 < (L : Int)) (hcs : cells + 1000 ≤ room_1.cells ∧ slots + 12000 ≤ room_1.slots) (hJ : JW cy xa ad ar aM ao b o ws) (h : Hp G ws (fun q => s.heap.size ≤ q) s.heap H locs) (hl : lv_has ls 7 [(0, .ref b0), (1, .ref (xa 0)), (2, .ref aM), (3, .ref ao), (4, .int (zI k))]) (kk : ∀ (ws1 : va_W) (H1 : Heap) (locs1 : List Loc) (ls1 : Array Slot), JW cy xa ad ar aM ao b o ws1 → Hp G ws1 (fun q => s.heap.size ≤ q) s.heap H1 locs1 → lv_has ls1 7 [(0, .ref b0), (1, .ref (xa 0)), (2, .ref aM), (3, .ref ao), (4, .int (zI k))] → W p l e room_1 s m args below meth c H1 locs1 (cells + 1000) (slots + 12000) Q (F0 m 1289 ls1 [])) : W p l e room_1 s m args below meth c H locs cells slots Q (F0 m 568 ls []) := by
  obtain ⟨K, t0, bl, erp, dep, bm, d, T, hs, g, hCW, hCI, hMW, hout⟩ := hJ
  obtain ⟨fs0, h_x0⟩ := hCW.obj
  obtain ⟨I0, h_m0⟩ := hMW.obj
  have hb9 := hCI.2.2.2.1
  have hD := hCI.1.1
  have hn9 := hD.n
  have hk9 := hD.k
  have hd9 := hCW.dep
  refine r_aload_n E 1 hl rfl dL_law_568 ?_
  refine r_callVkI E hX h (As := []) (rest := []) (c_conflicts l hCW hCI) h_x0 rfl gL_law_X10_conflicts rfl hd_X10_conflicts ⟨Nat.le_of_ble_eq_true rfl, Nat.le_of_ble_eq_true rfl⟩ ⟨by have q9 : rm_X10_conflicts.cells + 0 ≤ 1000 := (by decide); omega, by have q9 : rm_X10_conflicts.slots + 0 ≤ 12000 := (by decide); omega⟩ hl.1 rfl (Nat.le_of_ble_eq_true rfl) dL_law_569 rfl (fun z0 ws1 H locs hp h1 => ?_)
  refine W.widen (k := cells + 900) (n := slots + 11000) (by have q9 : rm_X10_conflicts.cells + 0 ≤ 900 := (by decide); omega) (by have q9 : rm_X10_conflicts.slots + 0 ≤ 11000 := (by decide); omega) ?_
  obtain ⟨hv, hCW1, hCI1, hE⟩ := hp
  have hMW2 := hMW.keep hE (fun j h0 h1 => by omega)
  have hou2 := hE.at hout (by omega)
  obtain ⟨I2, h_m2⟩ := hMW2.obj
  refine r_aload_n E 2 hl rfl dL_law_572 ?_
  refine r_callVI E h1 (As := []) (rest := [.int (zI z0)]) (m_conflicts l hMW2 hD) h_m2 rfl gL_law_X11_conflicts rfl hd_X11_conflicts ⟨Nat.le_of_ble_eq_true rfl, Nat.le_of_ble_eq_true rfl⟩ ⟨by have q9 : rm_X11_conflicts.cells + 900 ≤ 1000 := (by decide); omega, by have q9 : rm_X11_conflicts.slots + 11000 ≤ 12000 := (by decide); omega⟩ hl.1 rfl (Nat.le_of_ble_eq_true rfl) dL_law_573 rfl (fun z2 ws2 H locs hq h2 => ?_)
  refine W.widen (k := cells + 1000) (n := slots + 12000) (by have q9 : rm_X11_conflicts.cells + 900 ≤ 1000 := (by decide); omega) (by have q9 : rm_X11_conflicts.slots + 11000 ≤ 12000 := (by decide); omega) ?_
  obtain ⟨t, ⟨ht, hz⟩, hMW3, hE3⟩ := hq
  obtain rfl : z2 = z0 := hz.trans hv.symm
  have hCW3 := hCW1.keep hCI1 hE3 (fun j hj => by omega)
  have hout3 := hE3.at hou2 (by omega)
  refine r_icmp_same E 1289 dL_law_576 (by decide) ?_
  exact kk _ _ _ _ ⟨K, _, _, _, _, _, _, T, _, _, hCW3, hCI1, hMW3, hout3⟩ h2 (lv_sub hl [0, 1, 2, 3, 4] rfl)
