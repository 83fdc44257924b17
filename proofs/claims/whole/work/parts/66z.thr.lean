/-! methods that may throw: the world is then as it was -/
def VXN : List String := ["java/lang/RuntimeException", "java/lang/Exception"]
def XBL : List Cond := (XCN.map fun q => Cond.castable q q) ++ XDN.map fun q => Cond.declares (Bundle.initS q)
theorem vxo_128 : (vx_atS RX10 128 "java/lang/IndexOutOfBoundsException" VXN).all vx_ot = true := by decide +kernel
theorem vxb_128 : ((vx_atS RX10 128 "java/lang/IndexOutOfBoundsException" VXN).all fun w => goodWord w || XBL.any fun v => decide (w = v)) = true := by decide +kernel
theorem vxo_175 : (vx_atS RX10 175 "java/util/NoSuchElementException" VXN).all vx_ot = true := by decide +kernel
theorem vxb_175 : ((vx_atS RX10 175 "java/util/NoSuchElementException" VXN).all fun w => goodWord w || XBL.any fun v => decide (w = v)) = true := by decide +kernel
theorem vxo_223 : (vx_atS RX10 223 "java/lang/IllegalStateException" VXN).all vx_ot = true := by decide +kernel
theorem vxb_223 : ((vx_atS RX10 223 "java/lang/IllegalStateException" VXN).all fun w => goodWord w || XBL.any fun v => decide (w = v)) = true := by decide +kernel
theorem vxo_86 : (vx_atS RX10 86 "java/lang/IllegalArgumentException" VXN).all vx_ot = true := by decide +kernel
theorem vxb_86 : ((vx_atS RX10 86 "java/lang/IllegalArgumentException" VXN).all fun w => goodWord w || XBL.any fun v => decide (w = v)) = true := by decide +kernel
theorem KX.xbl {cy : Nat → ClassId} {A : Nat → Prop} {U : State} {H : Heap} {args : Array Value} (h : KX cy A U H) : ∀ w ∈ XBL, w.before args U = true := by
  intro w hw
  rcases List.mem_append.mp hw with hw | hw
  · obtain ⟨q, hq, rfl⟩ := List.mem_map.mp hw
    exact va_Nw.use rfl (h.2.2.2.2.2.1 q hq)
  · obtain ⟨q, hq, rfl⟩ := List.mem_map.mp hw
    exact va_Nw.use rfl (h.2.2.2.2.2.2.1 q hq)
theorem KX.hat {cy : Nat → ClassId} {A : Nat → Prop} {U : State} {H : Heap} {args : Array Value} {L wds : List Cond} (h : KX cy A U H) (hb : (L.all fun w => goodWord w || XBL.any fun v => decide (w = v)) = true) (h1 : ∀ w ∈ L.filter goodWord, w ∈ wds) (h2 : ∀ w ∈ wds, w.before args U = true) : ∀ w ∈ L, w.before args U = true := by
  intro w hw
  by_cases g : goodWord w = true
  · exact h2 w (h1 w (List.mem_filter.mpr ⟨hw, g⟩))
  · have h9 := List.all_eq_true.mp hb w hw
    rw [Bool.or_eq_true] at h9
    rcases h9 with h9 | h9
    · exact absurd h9 g
    · obtain ⟨v, hv, e⟩ := List.any_eq_true.mp h9
      rw [of_decide_eq_true e]
      exact h.xbl v hv
def XK (G : va_G) (cy : Nat → ClassId) (ws : va_W) (A : Nat → Prop) (xp : String → Prop) : String → State → State → Prop := vx_X (fun u : va_W => u = ws) (fun E u t => xp E ∧ BW G cy A u t) A
def TIk (l : Launch) (y : MethodName) (wds : List Cond) (rm : Room) (G : va_G) (cy : Nat → ClassId) (av : List Value) (ws : va_W) (xp : String → Prop) (post : Int → va_W → Prop) : Prop :=
  ∀ sz, vx_Met l y wds rm (PWk G cy av ws sz) (va_Qi (fun r u => ∃ z, r = zI z ∧ post z u) (BW G cy (va_A ws sz)) (va_A ws sz)) (XK G cy ws (va_A ws sz) xp) rm.cells rm.slots (va_A ws sz)
set_option maxHeartbeats 1000000 in
theorem TIk.of {l : Launch} {y : MethodName} {wds ws' : List Cond} {rm : Room} {G : va_G} {cy : Nat → ClassId} {av : List Value} {ws : va_W} {xp : String → Prop} {post : Int → va_W → Prop} {cc : ByteArray} {nL : Nat} {ret : Option FieldType} {own : String} (hy : plainName y.cls = true) (ho : y.cls = own) (hw : wds = .code y cc nL ret :: ws') (hn : (lg_sl av).length ≤ nL)
    (body : ∀ (p : Program) (e : Env) (s : State) (m : MethodId) (below : List Frame) (meth : Method) (c : Code) (A : Nat → Prop) (ls : Array Slot), KX cy A s s.heap → (∀ x ∈ c.exceptionTable.toList, False) → Ev p s m meth c av.toArray cc nL ret wds own G cy → Hp G ws A s.heap s.heap [] → lv_has ls nL (lv_args 0 av) → W p l e rm s m av.toArray below meth c s.heap [] 0 0 (vx_MQ below (va_Qi (fun r u => ∃ z, r = zI z ∧ post z u) (BW G cy A) A) (XK G cy ws A xp) av.toArray s rm.cells rm.slots A) (F0 m 0 ls [])) : TIk l y wds rm G cy av ws xp post := by
  subst ho
  intro sz
  refine vx_ofW (cc := cc) (maxL := nL) (ret := ret) hy hw ?_
  intro p e s m args below meth c s₁ B hml ht hv
  obtain ⟨⟨rfl, hsz, hP, hK, hD0⟩, hX⟩ := hv
  subst hsz
  rw [lg_entry_eq]
  exact body p e s m below meth c _ _ hX ht ⟨B.exec, B.bytes, hml, findClass_of_methodNamed B.named, atoms_spec (ws := wds) B.pre, hK, B.notSynchronized, B.returns⟩ ⟨hP, hD0.self, va_S.rf, fun q h => Or.inr h⟩ (lv_entry av hn)
def TLk (l : Launch) (y : MethodName) (wds : List Cond) (rm : Room) (G : va_G) (cy : Nat → ClassId) (av : List Value) (ws : va_W) (xp : String → Prop) (post : Int64 → va_W → Prop) : Prop :=
  ∀ sz, vx_Met l y wds rm (PWk G cy av ws sz) (va_Ql post (BW G cy (va_A ws sz)) (va_A ws sz)) (XK G cy ws (va_A ws sz) xp) rm.cells rm.slots (va_A ws sz)
set_option maxHeartbeats 1000000 in
theorem TLk.of {l : Launch} {y : MethodName} {wds ws' : List Cond} {rm : Room} {G : va_G} {cy : Nat → ClassId} {av : List Value} {ws : va_W} {xp : String → Prop} {post : Int64 → va_W → Prop} {cc : ByteArray} {nL : Nat} {ret : Option FieldType} {own : String} (hy : plainName y.cls = true) (ho : y.cls = own) (hw : wds = .code y cc nL ret :: ws') (hn : (lg_sl av).length ≤ nL)
    (body : ∀ (p : Program) (e : Env) (s : State) (m : MethodId) (below : List Frame) (meth : Method) (c : Code) (A : Nat → Prop) (ls : Array Slot), KX cy A s s.heap → (∀ x ∈ c.exceptionTable.toList, False) → Ev p s m meth c av.toArray cc nL ret wds own G cy → Hp G ws A s.heap s.heap [] → lv_has ls nL (lv_args 0 av) → W p l e rm s m av.toArray below meth c s.heap [] 0 0 (vx_MQ below (va_Ql post (BW G cy A) A) (XK G cy ws A xp) av.toArray s rm.cells rm.slots A) (F0 m 0 ls [])) : TLk l y wds rm G cy av ws xp post := by
  subst ho
  intro sz
  refine vx_ofW (cc := cc) (maxL := nL) (ret := ret) hy hw ?_
  intro p e s m args below meth c s₁ B hml ht hv
  obtain ⟨⟨rfl, hsz, hP, hK, hD0⟩, hX⟩ := hv
  subst hsz
  rw [lg_entry_eq]
  exact body p e s m below meth c _ _ hX ht ⟨B.exec, B.bytes, hml, findClass_of_methodNamed B.named, atoms_spec (ws := wds) B.pre, hK, B.notSynchronized, B.returns⟩ ⟨hP, hD0.self, va_S.rf, fun q h => Or.inr h⟩ (lv_entry av hn)
def TVk (l : Launch) (y : MethodName) (wds : List Cond) (rm : Room) (G : va_G) (cy : Nat → ClassId) (av : List Value) (ws : va_W) (xp : String → Prop) (post : va_W → Prop) : Prop :=
  ∀ sz, vx_Met l y wds rm (PWk G cy av ws sz) (va_Qv post (BW G cy (va_A ws sz)) (va_A ws sz)) (XK G cy ws (va_A ws sz) xp) rm.cells rm.slots (va_A ws sz)
set_option maxHeartbeats 1000000 in
theorem TVk.of {l : Launch} {y : MethodName} {wds ws' : List Cond} {rm : Room} {G : va_G} {cy : Nat → ClassId} {av : List Value} {ws : va_W} {xp : String → Prop} {post : va_W → Prop} {cc : ByteArray} {nL : Nat} {ret : Option FieldType} {own : String} (hy : plainName y.cls = true) (ho : y.cls = own) (hw : wds = .code y cc nL ret :: ws') (hn : (lg_sl av).length ≤ nL)
    (body : ∀ (p : Program) (e : Env) (s : State) (m : MethodId) (below : List Frame) (meth : Method) (c : Code) (A : Nat → Prop) (ls : Array Slot), KX cy A s s.heap → (∀ x ∈ c.exceptionTable.toList, False) → Ev p s m meth c av.toArray cc nL ret wds own G cy → Hp G ws A s.heap s.heap [] → lv_has ls nL (lv_args 0 av) → W p l e rm s m av.toArray below meth c s.heap [] 0 0 (vx_MQ below (va_Qv post (BW G cy A) A) (XK G cy ws A xp) av.toArray s rm.cells rm.slots A) (F0 m 0 ls [])) : TVk l y wds rm G cy av ws xp post := by
  subst ho
  intro sz
  refine vx_ofW (cc := cc) (maxL := nL) (ret := ret) hy hw ?_
  intro p e s m args below meth c s₁ B hml ht hv
  obtain ⟨⟨rfl, hsz, hP, hK, hD0⟩, hX⟩ := hv
  subst hsz
  rw [lg_entry_eq]
  exact body p e s m below meth c _ _ hX ht ⟨B.exec, B.bytes, hml, findClass_of_methodNamed B.named, atoms_spec (ws := wds) B.pre, hK, B.notSynchronized, B.returns⟩ ⟨hP, hD0.self, va_S.rf, fun q h => Or.inr h⟩ (lv_entry av hn)
section ZT
variable {p : Program} {l : Launch} {e : Env} {R : Room} {s : State} {m : MethodId} {args : Array Value} {below : List Frame} {meth : Method} {c : Code} {H : Heap} {locs : List Loc} {cells slots : Nat} {Q : State → Prop}
variable {cc : ByteArray} {nL pc : Nat} {ret : Option FieldType} {ls : Array Slot} {rest : List Value} {wds : List Cond} {own : String} {G : va_G} {cy : Nat → ClassId} {A : Nat → Prop} {ws : va_W}
variable {Qc : Array Value → State → Outcome → State → Prop} {xp : String → Prop}
theorem XK.mk {E9 : String} {t : State} (h : Hp G ws A s.heap H locs) (hK : va_K G vwCl (tyL cy) s) (hx : xp E9) (hA : s.vm.Alike t.vm) (hz : H.size ≤ t.heap.size) (hk : ∀ q : Nat, q < H.size → t.heap[q]? = H[q]?) : XK G cy ws A xp E9 s t :=
  ⟨ws, rfl, ⟨hx, h.1.kept (fun k q hq => hk q.1 ((h.1 k q hq).lt)), va_K.moved hA hK, h.2.1⟩, Nat.le_trans h.2.2.1.1 hz, fun q h1 h2 => (hk q (Nat.lt_of_lt_of_le h1 h.2.2.1.1)).trans (h.2.2.1.2.1 q h1 h2)⟩
theorem r_throwS (E : Ev p s m meth c args cc nL ret wds own G cy) (hX : KX cy A s s.heap) (hT : ∀ x ∈ c.exceptionTable.toList, False) (h : Hp G ws A s.heap H locs) (hl9 : l.stackTraces = false) {text cls : String} {ik is ic k9 mc ms : Nat} (hcls : Bundle.fit cls = true) (hk : Cond.classLink own ik cls ∈ wds) (hini : Cond.initialized cls ∈ wds) (hq : (own, is, text, k9) ∈ TRL) (hat : ∀ w ∈ (vx_atS own ic cls VXN).filter goodWord, w ∈ wds) (hgb : ((vx_atS own ic cls VXN).all fun w => goodWord w || XBL.any fun v => decide (w = v)) = true) (hgo : (vx_atS own ic cls VXN).all vx_ot = true) (hls : ls.size = nL) (d0 : decode cc pc = .ok (.new ik, 3)) (d3 : decode cc (pc + 3) = .ok (.dup, 1)) (d4 : decode cc (pc + 4) = .ok (.ldc is, 2)) (d6 : decode cc (pc + 6) = .ok (.invokespecial ic, 3)) (d9 : decode cc (pc + 9) = .ok (.athrow, 1)) (hR : 5 < R.frames ∧ (rest.map fun v => v.category).sum + 82 ≤ R.locals) (hc : (cells + 1 ≤ R.cells ∧ slots + 6 ≤ R.slots) ∧ cells + 1 ≤ mc ∧ slots + 6 ≤ ms) (hx : xp cls) : W p l e R s m args below meth c H locs cells slots (vx_MQ below Qc (XK G cy ws A xp) args s mc ms A) (F0 m pc ls rest) :=
  vx_throwS E.1 E.2.1 hl9 E.2.2.2.1 hcls (names := VXN) (by decide) (E.2.2.2.2.1 _ hk) (E.2.2.2.2.1 _ hini) (hX.2.2.2.2.1 _ hq) (hX.hat hgb hat E.2.2.2.2.1) (fun w hw => by
    rcases List.mem_cons.mp hw with rfl | hw
    · rfl
    · rcases List.mem_cons.mp hw with rfl | hw
      · rfl
      · exact List.all_eq_true.mp hgo w hw) hX.2.2.1 hX.2.2.2.1 h.2.2.1 (hls.trans E.2.2.1.symm) d0 d3 d4 d6 d9 (fun x hx => (hT x hx).elim) hR.1 hR.2 hc.1.1 hc.1.2 E.2.2.2.2.2.2.1 (fun t hA hz hk => XK.mk h E.2.2.2.2.2.1 hx hA hz hk) h.2.2.1.2.2 hc.2.1 hc.2.2
theorem r_throwSW (E : Ev p s m meth c args cc nL ret wds own G cy) (hX : KX cy A s s.heap) (hT : ∀ x ∈ c.exceptionTable.toList, False) (h : Hp G ws A s.heap H locs) (hl9 : l.stackTraces = false) {text cls : String} {ik is ic k9 mc ms : Nat} (hcls : Bundle.fit cls = true) (hk : Cond.classLink own ik cls ∈ wds) (hini : Cond.initialized cls ∈ wds) (hq : (own, is, text, k9) ∈ TRL) (hat : ∀ w ∈ (vx_atS own ic cls VXN).filter goodWord, w ∈ wds) (hgb : ((vx_atS own ic cls VXN).all fun w => goodWord w || XBL.any fun v => decide (w = v)) = true) (hgo : (vx_atS own ic cls VXN).all vx_ot = true) (hls : ls.size = nL) (d0 : decode cc pc = .ok (.new ik, 3)) (d3 : decode cc (pc + 3) = .ok (.dup, 1)) (d4 : decode cc (pc + 4) = .ok (.ldc_w is, 3)) (d7 : decode cc (pc + 7) = .ok (.invokespecial ic, 3)) (d10 : decode cc (pc + 10) = .ok (.athrow, 1)) (hR : 5 < R.frames ∧ (rest.map fun v => v.category).sum + 82 ≤ R.locals) (hc : (cells + 1 ≤ R.cells ∧ slots + 6 ≤ R.slots) ∧ cells + 1 ≤ mc ∧ slots + 6 ≤ ms) (hx : xp cls) : W p l e R s m args below meth c H locs cells slots (vx_MQ below Qc (XK G cy ws A xp) args s mc ms A) (F0 m pc ls rest) :=
  vx_throwSW E.1 E.2.1 hl9 E.2.2.2.1 hcls (names := VXN) (by decide) (E.2.2.2.2.1 _ hk) (E.2.2.2.2.1 _ hini) (hX.2.2.2.2.1 _ hq) (hX.hat hgb hat E.2.2.2.2.1) (fun w hw => by
    rcases List.mem_cons.mp hw with rfl | hw
    · rfl
    · rcases List.mem_cons.mp hw with rfl | hw
      · rfl
      · exact List.all_eq_true.mp hgo w hw) hX.2.2.1 hX.2.2.2.1 h.2.2.1 (hls.trans E.2.2.1.symm) d0 d3 d4 d7 d10 (fun x hx => (hT x hx).elim) hR.1 hR.2 hc.1.1 hc.1.2 E.2.2.2.2.2.2.1 (fun t hA hz hk => XK.mk h E.2.2.2.2.2.1 hx hA hz hk) h.2.2.1.2.2 hc.2.1 hc.2.2
theorem r_callVtI (E : Ev p s m meth c args cc nL ret wds own G cy) (hX : KX cy A s s.heap) (hT : ∀ x ∈ c.exceptionTable.toList, False) (h : Hp G ws A s.heap H locs) {b q0 ci mc ms : Nat} {C : String} {T : u_T} {N : Nat} {fs : List Value} {y : MethodName} {bytes : ByteArray} {maxL n index : Nat} {rt : Option FieldType} {wdc wx : List Cond} {rm : Room} {As : List Value} {xq : String → Prop} {post : Int → va_W → Prop} (hM : TIk l y wdc rm G cy (.ref b :: As) ws xq post) (hxp : ∀ E9, xq E9 → xp E9) (he : ws[q0]? = some (b, .inr (ci, fs))) (hc : vwCl[ci]? = some (C, T, N)) (hG : GoodIn wds (wsV own index C y wdc)) (hw : wdc = .code y bytes maxL rt :: wx) (hd : y.cls = C ∧ y.cls ≠ "java/lang/invoke/MethodHandle" ∧ y.cls ≠ "java/lang/invoke/VarHandle" ∧ (parseMethodDescriptor y.desc).map (fun d => d.parameters.length) = some n) (hR : rm.frames + 1 ≤ R.frames ∧ 8 + (maxL + 11) + rm.locals ≤ R.locals) (hf : cells + rm.cells ≤ R.cells ∧ slots + rm.slots ≤ R.slots) (hmc : cells + rm.cells ≤ mc ∧ slots + rm.slots ≤ ms) (hls : ls.size = nL) (hn : As.length = n) (hcat : (rest.map fun v => v.category).sum ≤ 8) (hdg : decode cc pc = .ok (.invokevirtual index, 3)) {st : List Value} (hst : st = As.reverse ++ .ref b :: rest) (kk : ∀ (z : Int) (ws1 : va_W) (H1 : Heap) (locs1 : List Loc), post z ws1 → Hp G ws1 A s.heap H1 locs1 → W p l e R s m args below meth c H1 locs1 (cells + rm.cells) (slots + rm.slots) (vx_MQ below Qc (XK G cy ws A xp) args s mc ms A) (F0 m (pc + 3) ls (.int (zI z) :: rest))) : W p l e R s m args below meth c H locs cells slots (vx_MQ below Qc (XK G cy ws A xp) args s mc ms A) (F0 m pc ls st) :=
  vx_calli (vx_runV (As := As) (rest := rest) ⟨E.1, E.2.1, E.2.2.1, E.2.2.2.1, E.2.2.2.2.1⟩ (hM H.size) (cwV n E.2.2.2.2.1 hG hw rfl rfl hd hR) ⟨PWk.blind, va_recv E.2.2.2.2.2.1 h.1 hc he, h.presk E.2.2.2.2.2.1 hX⟩ rfl hn hls hst (lv_room hcat) hdg hf) h.2.2.1 (fun q _ hq => h.free q hq) h.free (fun q _ hq => h.free q hq) (fun E9 ce q9 u t H1 locs1 ht hvm hp hB hz1 hk1 hS1 hce hcv hcl => by
  obtain rfl := hp
  have h2 : Hp G u A s.heap H1 locs1 := h.back ht hB.2 hS1
  exact vx_out (fun x hx => (hT x hx).elim) E.2.2.2.2.2.2.1 hce hcv hcl (fun t2 ht2 hA2 => XK.mk h2 E.2.2.2.2.2.1 (hxp E9 hB.1) hA2 (by rw [ht2]; exact Nat.le_refl _) (fun q _ => by rw [ht2])) hS1.2.2 hmc.1 hmc.2) (fun r u t H1 locs1 ht hvm hw9 hB hz1 hk1 hS1 => by
  obtain ⟨z, rfl, hp⟩ := hw9
  exact kk z u H1 locs1 hp (h.back ht hB hS1))
theorem r_callVtL (E : Ev p s m meth c args cc nL ret wds own G cy) (hX : KX cy A s s.heap) (hT : ∀ x ∈ c.exceptionTable.toList, False) (h : Hp G ws A s.heap H locs) {b q0 ci mc ms : Nat} {C : String} {T : u_T} {N : Nat} {fs : List Value} {y : MethodName} {bytes : ByteArray} {maxL n index : Nat} {rt : Option FieldType} {wdc wx : List Cond} {rm : Room} {As : List Value} {xq : String → Prop} {post : Int64 → va_W → Prop} (hM : TLk l y wdc rm G cy (.ref b :: As) ws xq post) (hxp : ∀ E9, xq E9 → xp E9) (he : ws[q0]? = some (b, .inr (ci, fs))) (hc : vwCl[ci]? = some (C, T, N)) (hG : GoodIn wds (wsV own index C y wdc)) (hw : wdc = .code y bytes maxL rt :: wx) (hd : y.cls = C ∧ y.cls ≠ "java/lang/invoke/MethodHandle" ∧ y.cls ≠ "java/lang/invoke/VarHandle" ∧ (parseMethodDescriptor y.desc).map (fun d => d.parameters.length) = some n) (hR : rm.frames + 1 ≤ R.frames ∧ 8 + (maxL + 11) + rm.locals ≤ R.locals) (hf : cells + rm.cells ≤ R.cells ∧ slots + rm.slots ≤ R.slots) (hmc : cells + rm.cells ≤ mc ∧ slots + rm.slots ≤ ms) (hls : ls.size = nL) (hn : As.length = n) (hcat : (rest.map fun v => v.category).sum ≤ 8) (hdg : decode cc pc = .ok (.invokevirtual index, 3)) {st : List Value} (hst : st = As.reverse ++ .ref b :: rest) (kk : ∀ (z : Int64) (ws1 : va_W) (H1 : Heap) (locs1 : List Loc), post z ws1 → Hp G ws1 A s.heap H1 locs1 → W p l e R s m args below meth c H1 locs1 (cells + rm.cells) (slots + rm.slots) (vx_MQ below Qc (XK G cy ws A xp) args s mc ms A) (F0 m (pc + 3) ls (.long z :: rest))) : W p l e R s m args below meth c H locs cells slots (vx_MQ below Qc (XK G cy ws A xp) args s mc ms A) (F0 m pc ls st) :=
  vx_calll (vx_runV (As := As) (rest := rest) ⟨E.1, E.2.1, E.2.2.1, E.2.2.2.1, E.2.2.2.2.1⟩ (hM H.size) (cwV n E.2.2.2.2.1 hG hw rfl rfl hd hR) ⟨PWk.blind, va_recv E.2.2.2.2.2.1 h.1 hc he, h.presk E.2.2.2.2.2.1 hX⟩ rfl hn hls hst (lv_room hcat) hdg hf) h.2.2.1 (fun q _ hq => h.free q hq) h.free (fun q _ hq => h.free q hq) (fun E9 ce q9 u t H1 locs1 ht hvm hp hB hz1 hk1 hS1 hce hcv hcl => by
  obtain rfl := hp
  have h2 : Hp G u A s.heap H1 locs1 := h.back ht hB.2 hS1
  exact vx_out (fun x hx => (hT x hx).elim) E.2.2.2.2.2.2.1 hce hcv hcl (fun t2 ht2 hA2 => XK.mk h2 E.2.2.2.2.2.1 (hxp E9 hB.1) hA2 (by rw [ht2]; exact Nat.le_refl _) (fun q _ => by rw [ht2])) hS1.2.2 hmc.1 hmc.2) (fun r u t H1 locs1 ht hvm hw9 hB hz1 hk1 hS1 => kk r u H1 locs1 hw9 (h.back ht hB hS1))
theorem r_callVtV (E : Ev p s m meth c args cc nL ret wds own G cy) (hX : KX cy A s s.heap) (hT : ∀ x ∈ c.exceptionTable.toList, False) (h : Hp G ws A s.heap H locs) {b q0 ci mc ms : Nat} {C : String} {T : u_T} {N : Nat} {fs : List Value} {y : MethodName} {bytes : ByteArray} {maxL n index : Nat} {rt : Option FieldType} {wdc wx : List Cond} {rm : Room} {As : List Value} {xq : String → Prop} {post : va_W → Prop} (hM : TVk l y wdc rm G cy (.ref b :: As) ws xq post) (hxp : ∀ E9, xq E9 → xp E9) (he : ws[q0]? = some (b, .inr (ci, fs))) (hc : vwCl[ci]? = some (C, T, N)) (hG : GoodIn wds (wsV own index C y wdc)) (hw : wdc = .code y bytes maxL rt :: wx) (hd : y.cls = C ∧ y.cls ≠ "java/lang/invoke/MethodHandle" ∧ y.cls ≠ "java/lang/invoke/VarHandle" ∧ (parseMethodDescriptor y.desc).map (fun d => d.parameters.length) = some n) (hR : rm.frames + 1 ≤ R.frames ∧ 8 + (maxL + 11) + rm.locals ≤ R.locals) (hf : cells + rm.cells ≤ R.cells ∧ slots + rm.slots ≤ R.slots) (hmc : cells + rm.cells ≤ mc ∧ slots + rm.slots ≤ ms) (hls : ls.size = nL) (hn : As.length = n) (hcat : (rest.map fun v => v.category).sum ≤ 8) (hdg : decode cc pc = .ok (.invokevirtual index, 3)) {st : List Value} (hst : st = As.reverse ++ .ref b :: rest) (kk : ∀ (ws1 : va_W) (H1 : Heap) (locs1 : List Loc), post ws1 → Hp G ws1 A s.heap H1 locs1 → W p l e R s m args below meth c H1 locs1 (cells + rm.cells) (slots + rm.slots) (vx_MQ below Qc (XK G cy ws A xp) args s mc ms A) (F0 m (pc + 3) ls rest)) : W p l e R s m args below meth c H locs cells slots (vx_MQ below Qc (XK G cy ws A xp) args s mc ms A) (F0 m pc ls st) :=
  vx_callv (vx_runV (As := As) (rest := rest) ⟨E.1, E.2.1, E.2.2.1, E.2.2.2.1, E.2.2.2.2.1⟩ (hM H.size) (cwV n E.2.2.2.2.1 hG hw rfl rfl hd hR) ⟨PWk.blind, va_recv E.2.2.2.2.2.1 h.1 hc he, h.presk E.2.2.2.2.2.1 hX⟩ rfl hn hls hst (lv_room hcat) hdg hf) h.2.2.1 (fun q _ hq => h.free q hq) h.free (fun q _ hq => h.free q hq) (fun E9 ce q9 u t H1 locs1 ht hvm hp hB hz1 hk1 hS1 hce hcv hcl => by
  obtain rfl := hp
  have h2 : Hp G u A s.heap H1 locs1 := h.back ht hB.2 hS1
  exact vx_out (fun x hx => (hT x hx).elim) E.2.2.2.2.2.2.1 hce hcv hcl (fun t2 ht2 hA2 => XK.mk h2 E.2.2.2.2.2.1 (hxp E9 hB.1) hA2 (by rw [ht2]; exact Nat.le_refl _) (fun q _ => by rw [ht2])) hS1.2.2 hmc.1 hmc.2) (fun u t H1 locs1 ht hvm hw9 hB hz1 hk1 hS1 => kk u H1 locs1 hw9 (h.back ht hB hS1))
end ZT
