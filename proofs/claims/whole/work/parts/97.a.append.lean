set_option maxHeartbeats 4000000 in
set_option maxRecDepth 100000 in
theorem law_append {p : Program} {l : Launch} {e : Env} {s : State} {m : MethodId} {args : Array Value} {below : List Frame} {meth : Method} {c : Code} {G : va_G} {cy : Nat → ClassId} {H : Heap} {locs : List Loc} {cells slots : Nat} {Q : State → Prop} {ls : Array Slot} {b0 L aM ao b o : Nat} {xa ad ar : Nat → Nat} {xs : Nat → Int32} {k : Int} {ws : va_W} {rt : Option FieldType} (hl9 : l.stackTraces = false) (E : Ev p s m meth c args cL_law 7 rt wsQ_law RL G cy) (hX : KX cy (fun q => s.heap.size ≤ q) s s.heap) (hN : NCk s) (hXs : va_X b0 L xs s s.heap) (hbl : b0 < s.heap.size) (hL : L ≤ 3072) (hk : 0 ≤ k ∧ k + 5 < (L : Int)) (hcs : cells + 1000 ≤ room_1.cells ∧ slots + 12000 ≤ room_1.slots) (hJ : JW cy xa ad ar aM ao b o ws) (h : Hp G ws (fun q => s.heap.size ≤ q) s.heap H locs) (hl : lv_has ls 7 [(0, .ref b0), (1, .ref (xa 0)), (2, .ref aM), (3, .ref ao), (4, .int (zI k))]) (kk : ∀ (ws1 : va_W) (H1 : Heap) (locs1 : List Loc) (ls1 : Array Slot), JW cy xa ad ar aM ao b o ws1 → Hp G ws1 (fun q => s.heap.size ≤ q) s.heap H1 locs1 → lv_has ls1 7 [(0, .ref b0), (1, .ref (xa 0)), (2, .ref aM), (3, .ref ao), (4, .int (zI k))] → W p l e room_1 s m args below meth c H1 locs1 (cells + 1000) (slots + 12000) Q (F0 m 1289 ls1 [])) : W p l e room_1 s m args below meth c H locs cells slots Q (F0 m 156 ls []) := by
  obtain ⟨K, t0, bl, erp, dep, bm, d, T, hs, g, hCW, hCI, hMW, hout⟩ := hJ
  obtain ⟨fs0, h_x0⟩ := hCW.obj
  obtain ⟨I0, h_m0⟩ := hMW.obj
  have hb9 := hCI.2.2.2.1
  have hD := hCI.1.1
  have hn9 := hD.n
  have hk9 := hD.k
  have hd9 := hCW.dep
  have r1 := SVL_rng xs (k + 1)
  have r2 := SVL_rng xs (k + 2)
  have r3 := SVL_rng xs (k + 3)
  have r4 := SVL_rng xs (k + 4)
  have r5 := SVL_rng xs (k + 5)
  refine r_aload_n E 1 hl rfl dL_law_156 ?_
  refine r_aload_n E 0 hl rfl dL_law_157 ?_
  refine r_iload E 4 hl rfl dL_law_158 ?_
  refine r_iconst E dL_law_160 ?_
  refine r_iadd E dL_law_161 ?_
  refine r_sld E h hXs hbl (by omega) hL dL_law_162 ?_
  refine r_aload_n E 0 hl rfl dL_law_163 ?_
  refine r_iload E 4 hl rfl dL_law_164 ?_
  refine r_iconst E dL_law_166 ?_
  refine r_iadd E dL_law_167 ?_
  refine r_sld E h hXs hbl (by omega) hL dL_law_168 ?_
  refine r_aload_n E 0 hl rfl dL_law_169 ?_
  refine r_iload E 4 hl rfl dL_law_170 ?_
  refine r_iconst E dL_law_172 ?_
  refine r_iadd E dL_law_173 ?_
  refine r_sld E h hXs hbl (by omega) hL dL_law_174 ?_
  refine r_aload_n E 0 hl rfl dL_law_175 ?_
  refine r_iload E 4 hl rfl dL_law_176 ?_
  refine r_iconst E dL_law_178 ?_
  refine r_iadd E dL_law_179 ?_
  refine r_sld E h hXs hbl (by omega) hL dL_law_180 ?_
  refine r_aload_n E 0 hl rfl dL_law_181 ?_
  refine r_iload E 4 hl rfl dL_law_182 ?_
  refine r_iconst E dL_law_184 ?_
  refine r_iadd E dL_law_185 ?_
  refine r_sld E h hXs hbl (by omega) hL dL_law_186 ?_
  refine r_callVkI E hX h (As := [.int (zI (SVL xs (k + 1))), .int (zI (SVL xs (k + 2))), .int (zI (SVL xs (k + 3))), .int (zI (SVL xs (k + 4))), .int (zI (SVL xs (k + 5)))]) (rest := []) (c_append l (SVL xs (k + 1)) (SVL xs (k + 2)) (SVL xs (k + 3)) (SVL xs (k + 4)) (SVL xs (k + 5)) hCW hCI) h_x0 rfl gL_law_X10_append rfl hd_X10_append ⟨Nat.le_of_ble_eq_true rfl, Nat.le_of_ble_eq_true rfl⟩ ⟨by have q9 : rm_X10_append.cells + 0 ≤ 1000 := (by decide); omega, by have q9 : rm_X10_append.slots + 0 ≤ 12000 := (by decide); omega⟩ hl.1 rfl (Nat.le_of_ble_eq_true rfl) dL_law_187 rfl (fun z0 ws1 H locs hp h1 => ?_)
  refine W.widen (k := cells + 900) (n := slots + 11000) (by have q9 : rm_X10_append.cells + 0 ≤ 900 := (by decide); omega) (by have q9 : rm_X10_append.slots + 0 ≤ 11000 := (by decide); omega) ?_
  obtain ⟨bl3, bm3, hc3, hCW1, hCI1, hE⟩ := hp
  have hMW2 := hMW.keep hE (fun j h0 h1 => by omega)
  have hou2 := hE.at hout (by omega)
  obtain ⟨I2, h_m2⟩ := hMW2.obj
  refine r_aload_n E 2 hl rfl dL_law_190 ?_
  refine r_aload_n E 0 hl rfl dL_law_191 ?_
  refine r_iload E 4 hl rfl dL_law_192 ?_
  refine r_iconst E dL_law_194 ?_
  refine r_iadd E dL_law_195 ?_
  refine r_sld E h1 hXs hbl (by omega) hL dL_law_196 ?_
  refine r_aload_n E 0 hl rfl dL_law_197 ?_
  refine r_iload E 4 hl rfl dL_law_198 ?_
  refine r_iconst E dL_law_200 ?_
  refine r_iadd E dL_law_201 ?_
  refine r_sld E h1 hXs hbl (by omega) hL dL_law_202 ?_
  refine r_aload_n E 0 hl rfl dL_law_203 ?_
  refine r_iload E 4 hl rfl dL_law_204 ?_
  refine r_iconst E dL_law_206 ?_
  refine r_iadd E dL_law_207 ?_
  refine r_sld E h1 hXs hbl (by omega) hL dL_law_208 ?_
  refine r_aload_n E 0 hl rfl dL_law_209 ?_
  refine r_iload E 4 hl rfl dL_law_210 ?_
  refine r_iconst E dL_law_212 ?_
  refine r_iadd E dL_law_213 ?_
  refine r_sld E h1 hXs hbl (by omega) hL dL_law_214 ?_
  refine r_aload_n E 0 hl rfl dL_law_215 ?_
  refine r_iload E 4 hl rfl dL_law_216 ?_
  refine r_iconst E dL_law_218 ?_
  refine r_iadd E dL_law_219 ?_
  refine r_sld E h1 hXs hbl (by omega) hL dL_law_220 ?_
  refine r_callVI E h1 (As := [.int (zI (SVL xs (k + 1))), .int (zI (SVL xs (k + 2))), .int (zI (SVL xs (k + 3))), .int (zI (SVL xs (k + 4))), .int (zI (SVL xs (k + 5)))]) (rest := [.int (zI z0)]) (m_append l (SVL xs (k + 1)) (SVL xs (k + 2)) (SVL xs (k + 3)) (SVL xs (k + 4)) (SVL xs (k + 5)) hMW2 ⟨r1, r2, r3, r4, r5⟩ hCI.2.2.1) h_m2 rfl gL_law_X11_append rfl hd_X11_append ⟨Nat.le_of_ble_eq_true rfl, Nat.le_of_ble_eq_true rfl⟩ ⟨by have q9 : rm_X11_append.cells + 900 ≤ 1000 := (by decide); omega, by have q9 : rm_X11_append.slots + 11000 ≤ 12000 := (by decide); omega⟩ hl.1 rfl (Nat.le_of_ble_eq_true rfl) dL_law_221 rfl (fun z2 ws2 H locs hq h2 => ?_)
  refine W.widen (k := cells + 1000) (n := slots + 12000) (by have q9 : rm_X11_append.cells + 900 ≤ 1000 := (by decide); omega) (by have q9 : rm_X11_append.slots + 11000 ≤ 12000 := (by decide); omega) ?_
  obtain ⟨bl2, bm2, hc, hMW3, hE3⟩ := hq
  obtain ⟨rfl, rfl, rfl⟩ : z2 = z0 ∧ bl2 = bl3 ∧ bm2 = bm3 := by
    rcases hc3 with ⟨p1, p2, p3, p4⟩ | ⟨p1, p2, p3, p4⟩ <;> rcases hc with ⟨q1, q2, q3, q4⟩ | ⟨q1, q2, q3, q4⟩ <;> first | (exfalso; omega) | exact ⟨q2.trans p2.symm, q3.trans p3.symm, q4.trans p4.symm⟩
  have hCW3 := hCW1.keep hCI1 hE3 (fun j hj => by omega)
  have hout3 := hE3.at hou2 (by omega)
  refine r_icmp_same E 1289 dL_law_224 (by decide) ?_
  exact kk _ _ _ _ ⟨K, _, _, _, _, _, _, T, _, _, hCW3, hCI1, hMW3, hout3⟩ h2 (lv_sub hl [0, 1, 2, 3, 4] rfl)
