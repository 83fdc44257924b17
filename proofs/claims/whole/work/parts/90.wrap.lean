/-! the law's wrappers: they catch -/
def NCL : List (String × String) := [("java/lang/IllegalArgumentException", "java/util/NoSuchElementException"), ("java/lang/IllegalArgumentException", "java/lang/IndexOutOfBoundsException"), ("java/lang/IllegalStateException", "java/lang/IndexOutOfBoundsException")]
def NCk (U : State) : Prop := ∀ q ∈ NCL, va_Nc q.1 q.2 U
def PWn (G : va_G) (cy : Nat → ClassId) (av : List Value) (ws : va_W) (sz : Nat) : Array Value → State → Prop := fun v U => PWk G cy av ws sz v U ∧ NCk U
theorem PWn.blind {G : va_G} {cy : Nat → ClassId} {av : List Value} {ws : va_W} {sz : Nat} : FrameBlind (PWn G cy av ws sz) := fun a U g mk q => ⟨PWk.blind a U g mk q.1, fun r hr => va_Nc.moved (u := U) (U := U.calling g mk a) (Vm.Alike.refl U.vm) (q.2 r hr)⟩
theorem Hp.presn {G : va_G} {cy : Nat → ClassId} {av : List Value} {ws : va_W} {A : Nat → Prop} {H : Heap} {locs : List Loc} {s : State} (h : Hp G ws A s.heap H locs) (hK : va_K G vwCl (tyL cy) s) (hX : KX cy A s s.heap) (hN : NCk s) : ∀ U : State, U.heap = H → s.WarmedH U.vm → PWn G cy av ws H.size av.toArray U := fun U hU hW => ⟨h.presk hK hX U hU hW, fun r hr => (hN r hr).moved hW.alike⟩
def TIn (l : Launch) (y : MethodName) (wds : List Cond) (rm : Room) (G : va_G) (cy : Nat → ClassId) (av : List Value) (ws : va_W) (post : Int → va_W → Prop) : Prop :=
  ∀ sz, vx_Met l y wds rm (PWn G cy av ws sz) (va_Qi (fun r u => ∃ z, r = zI z ∧ post z u) (BW G cy (va_A ws sz)) (va_A ws sz)) (XK G cy ws (va_A ws sz) (fun _ => False)) rm.cells rm.slots (va_A ws sz)
set_option maxHeartbeats 1000000 in
theorem TIn.of {l : Launch} {y : MethodName} {wds ws' : List Cond} {rm : Room} {G : va_G} {cy : Nat → ClassId} {av : List Value} {ws : va_W} {post : Int → va_W → Prop} {cc : ByteArray} {nL : Nat} {ret : Option FieldType} {own : String} {hh : List (Nat × Nat × Nat × Nat)} (hy : plainName y.cls = true) (ho : y.cls = own) (hw : wds = .codeWith y cc nL ret hh :: ws') (hn : (lg_sl av).length ≤ nL)
    (body : ∀ (p : Program) (e : Env) (s : State) (m : MethodId) (below : List Frame) (meth : Method) (c : Code) (A : Nat → Prop) (ls : Array Slot), KX cy A s s.heap → NCk s → c.exceptionTable.toList = tableOf hh → Ev p s m meth c av.toArray cc nL ret wds own G cy → Hp G ws A s.heap s.heap [] → lv_has ls nL (lv_args 0 av) → W p l e rm s m av.toArray below meth c s.heap [] 0 0 (vx_MQ below (va_Qi (fun r u => ∃ z, r = zI z ∧ post z u) (BW G cy A) A) (XK G cy ws A (fun _ => False)) av.toArray s rm.cells rm.slots A) (F0 m 0 ls [])) : TIn l y wds rm G cy av ws post := by
  subst ho
  intro sz
  refine vx_ofWH (cc := cc) (maxL := nL) (ret := ret) (hh := hh) hy hw ?_
  intro p e s m args below meth c s₁ B hml hv
  obtain ⟨⟨⟨rfl, hsz, hP, hK, hD0⟩, hX⟩, hN⟩ := hv
  subst hsz
  rw [lg_entry_eq]
  have hat := atoms_spec (ws := wds) B.pre
  exact body p e s m below meth c _ _ hX hN (vx_table (x := y) B (hat _ (by rw [hw]; exact List.mem_cons_self))) ⟨B.exec, B.bytes, hml, findClass_of_methodNamed B.named, hat, hK, B.notSynchronized, B.returns⟩ ⟨hP, hD0.self, va_S.rf, fun q h => Or.inr h⟩ (lv_entry av hn)
section ZW
variable {p : Program} {l : Launch} {e : Env} {R : Room} {s : State} {m : MethodId} {args : Array Value} {below : List Frame} {meth : Method} {c : Code} {H : Heap} {locs : List Loc} {cells slots : Nat} {Q : State → Prop}
variable {cc : ByteArray} {nL pc : Nat} {ret : Option FieldType} {ls : Array Slot} {rest : List Value} {wds : List Cond} {own : String} {G : va_G} {cy : Nat → ClassId} {A : Nat → Prop} {ws : va_W}
theorem r_callVc (E : Ev p s m meth c args cc nL ret wds own G cy) (hX : KX cy A s s.heap) (h : Hp G ws A s.heap H locs) {b q0 ci : Nat} {C : String} {T : u_T} {N : Nat} {fs : List Value} {y : MethodName} {bytes : ByteArray} {maxL n index : Nat} {rt : Option FieldType} {wdc wx : List Cond} {rm : Room} {As : List Value} {xq : String → Prop} {post : Int → va_W → Prop} (hM : TIk l y wdc rm G cy (.ref b :: As) ws xq post) (he : ws[q0]? = some (b, .inr (ci, fs))) (hc : vwCl[ci]? = some (C, T, N)) (hG : GoodIn wds (wsV own index C y wdc)) (hw : wdc = .code y bytes maxL rt :: wx) (hd : y.cls = C ∧ y.cls ≠ "java/lang/invoke/MethodHandle" ∧ y.cls ≠ "java/lang/invoke/VarHandle" ∧ (parseMethodDescriptor y.desc).map (fun d => d.parameters.length) = some n) (hR : rm.frames + 1 ≤ R.frames ∧ 8 + (maxL + 11) + rm.locals ≤ R.locals) (hf : cells + rm.cells ≤ R.cells ∧ slots + rm.slots ≤ R.slots) (hls : ls.size = nL) (hn : As.length = n) (hcat : (rest.map fun v => v.category).sum ≤ 8) (hdg : decode cc pc = .ok (.invokevirtual index, 3)) {st : List Value} (hst : st = As.reverse ++ .ref b :: rest)
    (kx : ∀ (E9 : String) (ce : Cell) (q9 : Nat) (H1 : Heap) (locs1 : List Loc), xq E9 → Hp G ws A s.heap H1 locs1 → H1[q9]? = some ce → ce.vm = .none → s.vm.findClass E9 = some ce.cls → vx_W p l e R s m args below meth c H1 locs1 (cells + rm.cells) (slots + rm.slots) Q (F0 m pc ls rest) q9)
    (kk : ∀ (z : Int) (ws1 : va_W) (H1 : Heap) (locs1 : List Loc), post z ws1 → Hp G ws1 A s.heap H1 locs1 → W p l e R s m args below meth c H1 locs1 (cells + rm.cells) (slots + rm.slots) Q (F0 m (pc + 3) ls (.int (zI z) :: rest))) : W p l e R s m args below meth c H locs cells slots Q (F0 m pc ls st) :=
  vx_calli (vx_runV (As := As) (rest := rest) ⟨E.1, E.2.1, E.2.2.1, E.2.2.2.1, E.2.2.2.2.1⟩ (hM H.size) (cwV n E.2.2.2.2.1 hG hw rfl rfl hd hR) ⟨PWk.blind, va_recv E.2.2.2.2.2.1 h.1 hc he, h.presk E.2.2.2.2.2.1 hX⟩ rfl hn hls hst (lv_room hcat) hdg hf) h.2.2.1 (fun q _ hq => h.free q hq) h.free (fun q _ hq => h.free q hq) (fun E9 ce q9 u t H1 locs1 ht hvm hp hB hz1 hk1 hS1 hce hcv hcl => by
    obtain rfl := hp
    exact kx E9 ce q9 H1 locs1 hB.1 (h.back ht hB.2 hS1) hce hcv hcl) (fun r u t H1 locs1 ht hvm hw9 hB hz1 hk1 hS1 => by
    obtain ⟨z, rfl, hp⟩ := hw9
    exact kk z u H1 locs1 hp (h.back ht hB hS1))
theorem r_catch (E : Ev p s m meth c args cc nL ret wds own G cy) (hX : KX cy A s s.heap) {E9 : String} {ce : Cell} {q9 : Nat} (pre : List ExceptionTableEntry) (x : ExceptionTableEntry) (suf : List ExceptionTableEntry) (hsplit : c.exceptionTable.toList = pre ++ x :: suf) (hpass : ∀ z ∈ pre, covers z pc = false ∨ (z.catchType ≠ 0 ∧ ∃ nm : String, (Cond.classLink own z.catchType nm).before args s = true ∧ va_Nc E9 nm s)) (hx : covers x pc = true) (h0 : x.catchType ≠ 0) (hlink : Cond.classLink own x.catchType E9 ∈ wds) (hE : E9 ∈ XCN) (hcell : H[q9]? = some ce) (hv : ce.vm = .none) (hcl : s.vm.findClass E9 = some ce.cls) (kk : W p l e R s m args below meth c H locs cells slots Q (F0 m x.handlerPc ls [.ref q9])) : vx_W p l e R s m args below meth c H locs cells slots Q (F0 m pc ls rest) q9 :=
  vx_catch E.2.2.2.1 pre x suf hsplit hpass hx h0 (E.2.2.2.2.1 _ hlink) (va_Nw.use rfl (hX.2.2.2.2.2.1 E9 hE)) hcell hv hcl kk
theorem r_callSn (E : Ev p s m meth c args cc nL ret wds own G cy) (hX : KX cy A s s.heap) (hN : NCk s) (h : Hp G ws A s.heap H locs) {y : MethodName} {bytes : ByteArray} {maxL n index : Nat} {rt : Option FieldType} {hh : List (Nat × Nat × Nat × Nat)} {wdc wx : List Cond} {rm : Room} {As : List Value} {post : Int → va_W → Prop} (hM : TIn l y wdc rm G cy As ws post) (hG : GoodIn wds (va_wsS own index y wdc)) (hw : wdc = .codeWith y bytes maxL rt hh :: wx) (hd : y.cls ≠ "java/lang/invoke/MethodHandle" ∧ y.cls ≠ "java/lang/invoke/VarHandle" ∧ (parseMethodDescriptor y.desc).map (fun d => d.parameters.length) = some n) (hR : rm.frames + 1 ≤ R.frames ∧ 8 + (maxL + 11) + rm.locals ≤ R.locals) (hf : cells + rm.cells ≤ R.cells ∧ slots + rm.slots ≤ R.slots) (hls : ls.size = nL) (hn : As.length = n) (hcat : (rest.map fun v => v.category).sum ≤ 8) (hdg : decode cc pc = .ok (.invokestatic index, 3)) {st : List Value} (hst : st = As.reverse ++ rest)
    (kk : ∀ (z : Int) (ws1 : va_W) (H1 : Heap) (locs1 : List Loc), post z ws1 → Hp G ws1 A s.heap H1 locs1 → W p l e R s m args below meth c H1 locs1 (cells + rm.cells) (slots + rm.slots) Q (F0 m (pc + 3) ls (.int (zI z) :: rest))) : W p l e R s m args below meth c H locs cells slots Q (F0 m pc ls st) :=
  vx_calli (vx_runSX (As := As) (rest := rest) ⟨E.1, E.2.1, E.2.2.1, E.2.2.2.1, E.2.2.2.2.1⟩ (hM H.size) (vx_cwSW n E.2.2.2.2.1 hG hw rfl rfl hd hR) ⟨PWn.blind, h.presn E.2.2.2.2.2.1 hX hN⟩ rfl hn hls hst (lv_room hcat) hdg hf) h.2.2.1 (fun q _ hq => h.free q hq) h.free (fun q _ hq => h.free q hq) (fun E9 ce q9 u t H1 locs1 ht hvm hp hB hz1 hk1 hS1 hce hcv hcl => hB.1.elim) (fun r u t H1 locs1 ht hvm hw9 hB hz1 hk1 hS1 => by
    obtain ⟨z, rfl, hp⟩ := hw9
    exact kk z u H1 locs1 hp (h.back ht hB hS1))
end ZW
theorem hd_L_load : yL_load.cls ≠ "java/lang/invoke/MethodHandle" ∧ yL_load.cls ≠ "java/lang/invoke/VarHandle" ∧ (parseMethodDescriptor yL_load.desc).map (fun d => d.parameters.length) = some 3 := by decide +kernel
abbrev rm_L_load : Room := { frames := 33, cells := 630, slots := 4500, locals := 867 }
set_option maxHeartbeats 1200000 in
set_option maxRecDepth 100000 in
theorem k_L_load (l : Launch) {G : va_G} {cy : Nat → ClassId} {ws0 : va_W} {ax q0 ao o : Nat} {fs : List Value} {g : Int → Int64} (a1 : Int) {xq : String → Prop} {post : Int → va_W → Prop} (hM : TIk l yX10_load wsX10_load rm_X10_load G cy [.ref ax, .int (zI a1)] ws0 xq post) (hq0 : ws0[q0]? = some (ax, .inr (10, fs))) (hfr : ∀ v w, post v w → w[o]? = some (ao, aL cy 1 g)) (hrg : ∀ v w, post v w → -2147483648 ≤ v ∧ v ≤ 2147483647) (hxq : ∀ E9, xq E9 → E9 = "java/lang/IllegalArgumentException") : TIn l yL_load wsK_load rm_L_load G cy [.ref ax, .int (zI a1), .ref ao] ws0 (fun z u => (z = 0 ∧ ∃ v w, post v w ∧ Up1 w u o (ao, aL cy 1 (uZ g 0 (zL v)))) ∨ (z = 1 ∧ xq "java/lang/IllegalArgumentException" ∧ u = ws0)) := by
  refine TIn.of (own := RL) (cc := cL_load) (nL := 4) (ret := (some .int)) (hh := [(0, 9, 12, 13)]) (by decide) rfl rfl (Nat.le_of_ble_eq_true rfl) ?_
  intro p e s m below meth c A ls hX hN hT E h hl
  have hl : lv_has ls 4 [(0, .ref ax), (1, .int (zI a1)), (2, .ref ao)] := hl
  refine r_aload_n E 2 hl rfl dL_load_0 ?_
  refine r_iconst E dL_load_1 ?_
  refine r_aload_n E 0 hl rfl dL_load_2 ?_
  refine r_iload_n E 1 hl rfl dL_load_3 ?_
  refine r_callVc E hX h (As := [.int (zI a1)]) (rest := [.int (zI 0), .ref ao]) hM hq0 rfl gK_load_X10_load rfl hd_X10_load (by decide) ⟨by decide, by decide⟩ hl.1 rfl (Nat.le_of_ble_eq_true rfl) dL_load_4 rfl (fun E9 ce q9 H locs hx h hce hcv hcl => ?_) (fun z ws H locs hp h => ?_)
  · rcases hxq E9 hx with rfl
    · refine r_catch E hX [] ⟨0, 9, 12, 13⟩ [] (hT.trans rfl) (fun z hz => absurd hz List.not_mem_nil) (by decide) (by decide) (List.mem_cons_of_mem _ (List.mem_append_right _ (List.mem_singleton.mpr rfl))) (by decide) hce hcv hcl ?_
      refine r_astore_n (lv' := [(3, .ref q9), (0, .ref ax), (1, .int (zI a1)), (2, .ref ao)]) E hl dL_load_12 rfl (by decide) rfl (fun ls hl => ?_)
      refine r_iconst E dL_load_13 ?_
      exact vx_ret (r_iret E h (Or.inr ⟨rfl, hx, rfl⟩) dL_load_14)
  · have ho := hfr z ws hp
    have hr9 := hrg z ws hp
    refine r_i2l E dL_load_7 (by omega) ?_
    refine r_last E h ho (by decide) (by decide) dL_load_8 (fun ws H locs h hu => ?_)
    refine r_goto E 15 dL_load_9 (by decide) ?_
    refine r_iconst E dL_load_15 ?_
    exact vx_ret (r_iret E h (Or.inl ⟨rfl, _, _, hp, hu⟩) dL_load_16)
theorem hd_L_solutions : yL_solutions.cls ≠ "java/lang/invoke/MethodHandle" ∧ yL_solutions.cls ≠ "java/lang/invoke/VarHandle" ∧ (parseMethodDescriptor yL_solutions.desc).map (fun d => d.parameters.length) = some 3 := by decide +kernel
abbrev rm_L_solutions : Room := { frames := 7, cells := 1, slots := 6, locals := 111 }
set_option maxHeartbeats 1200000 in
set_option maxRecDepth 100000 in
theorem k_L_solutions (l : Launch) {G : va_G} {cy : Nat → ClassId} {ws0 : va_W} {ax q0 ao o : Nat} {fs : List Value} {g : Int → Int64} (a1 : Int) {xq : String → Prop} {post : Int → va_W → Prop} (hM : TIk l yX10_solutions wsX10_solutions rm_X10_solutions G cy [.ref ax, .int (zI a1)] ws0 xq post) (hq0 : ws0[q0]? = some (ax, .inr (10, fs))) (hfr : ∀ v w, post v w → w[o]? = some (ao, aL cy 1 g)) (hrg : ∀ v w, post v w → -2147483648 ≤ v ∧ v ≤ 2147483647) (hxq : ∀ E9, xq E9 → E9 = "java/lang/IndexOutOfBoundsException") : TIn l yL_solutions wsL_solutions rm_L_solutions G cy [.ref ax, .int (zI a1), .ref ao] ws0 (fun z u => (z = 0 ∧ ∃ v w, post v w ∧ Up1 w u o (ao, aL cy 1 (uZ g 0 (zL v)))) ∨ (z = 1 ∧ xq "java/lang/IndexOutOfBoundsException" ∧ u = ws0)) := by
  refine TIn.of (own := RL) (cc := cL_solutions) (nL := 4) (ret := (some .int)) (hh := [(0, 9, 12, 18)]) (by decide) rfl rfl (Nat.le_of_ble_eq_true rfl) ?_
  intro p e s m below meth c A ls hX hN hT E h hl
  have hl : lv_has ls 4 [(0, .ref ax), (1, .int (zI a1)), (2, .ref ao)] := hl
  refine r_aload_n E 2 hl rfl dL_solutions_0 ?_
  refine r_iconst E dL_solutions_1 ?_
  refine r_aload_n E 0 hl rfl dL_solutions_2 ?_
  refine r_iload_n E 1 hl rfl dL_solutions_3 ?_
  refine r_callVc E hX h (As := [.int (zI a1)]) (rest := [.int (zI 0), .ref ao]) hM hq0 rfl gL_solutions_X10_solutions rfl hd_X10_solutions (by decide) ⟨by decide, by decide⟩ hl.1 rfl (Nat.le_of_ble_eq_true rfl) dL_solutions_4 rfl (fun E9 ce q9 H locs hx h hce hcv hcl => ?_) (fun z ws H locs hp h => ?_)
  · rcases hxq E9 hx with rfl
    · refine r_catch E hX [] ⟨0, 9, 12, 18⟩ [] (hT.trans rfl) (fun z hz => absurd hz List.not_mem_nil) (by decide) (by decide) (List.mem_of_getElem? (i := 1) rfl) (by decide) hce hcv hcl ?_
      refine r_astore_n (lv' := [(3, .ref q9), (0, .ref ax), (1, .int (zI a1)), (2, .ref ao)]) E hl dL_solutions_12 rfl (by decide) rfl (fun ls hl => ?_)
      refine r_iconst E dL_solutions_13 ?_
      exact vx_ret (r_iret E h (Or.inr ⟨rfl, hx, rfl⟩) dL_solutions_14)
  · have ho := hfr z ws hp
    have hr9 := hrg z ws hp
    refine r_i2l E dL_solutions_7 (by omega) ?_
    refine r_last E h ho (by decide) (by decide) dL_solutions_8 (fun ws H locs h hu => ?_)
    refine r_goto E 15 dL_solutions_9 (by decide) ?_
    refine r_iconst E dL_solutions_15 ?_
    exact vx_ret (r_iret E h (Or.inl ⟨rfl, _, _, hp, hu⟩) dL_solutions_16)
theorem hd_L_colour : yL_colour.cls ≠ "java/lang/invoke/MethodHandle" ∧ yL_colour.cls ≠ "java/lang/invoke/VarHandle" ∧ (parseMethodDescriptor yL_colour.desc).map (fun d => d.parameters.length) = some 3 := by decide +kernel
abbrev rm_L_colour : Room := { frames := 8, cells := 1, slots := 6, locals := 132 }
set_option maxHeartbeats 1200000 in
set_option maxRecDepth 100000 in
theorem k_L_colour (l : Launch) {G : va_G} {cy : Nat → ClassId} {ws0 : va_W} {ax q0 ao o : Nat} {fs : List Value} {g : Int → Int64} (a1 : Int) {xq : String → Prop} {post : Int → va_W → Prop} (hM : TIk l yX10_colour wsX10_colour rm_X10_colour G cy [.ref ax, .int (zI a1)] ws0 xq post) (hq0 : ws0[q0]? = some (ax, .inr (10, fs))) (hfr : ∀ v w, post v w → w[o]? = some (ao, aL cy 1 g)) (hrg : ∀ v w, post v w → -2147483648 ≤ v ∧ v ≤ 2147483647) (hxq : ∀ E9, xq E9 → E9 = "java/lang/IndexOutOfBoundsException") : TIn l yL_colour wsL_colour rm_L_colour G cy [.ref ax, .int (zI a1), .ref ao] ws0 (fun z u => (z = 0 ∧ ∃ v w, post v w ∧ Up1 w u o (ao, aL cy 1 (uZ g 0 (zL v)))) ∨ (z = 1 ∧ xq "java/lang/IndexOutOfBoundsException" ∧ u = ws0)) := by
  refine TIn.of (own := RL) (cc := cL_colour) (nL := 4) (ret := (some .int)) (hh := [(0, 9, 12, 18)]) (by decide) rfl rfl (Nat.le_of_ble_eq_true rfl) ?_
  intro p e s m below meth c A ls hX hN hT E h hl
  have hl : lv_has ls 4 [(0, .ref ax), (1, .int (zI a1)), (2, .ref ao)] := hl
  refine r_aload_n E 2 hl rfl dL_colour_0 ?_
  refine r_iconst E dL_colour_1 ?_
  refine r_aload_n E 0 hl rfl dL_colour_2 ?_
  refine r_iload_n E 1 hl rfl dL_colour_3 ?_
  refine r_callVc E hX h (As := [.int (zI a1)]) (rest := [.int (zI 0), .ref ao]) hM hq0 rfl gL_colour_X10_colour rfl hd_X10_colour (by decide) ⟨by decide, by decide⟩ hl.1 rfl (Nat.le_of_ble_eq_true rfl) dL_colour_4 rfl (fun E9 ce q9 H locs hx h hce hcv hcl => ?_) (fun z ws H locs hp h => ?_)
  · rcases hxq E9 hx with rfl
    · refine r_catch E hX [] ⟨0, 9, 12, 18⟩ [] (hT.trans rfl) (fun z hz => absurd hz List.not_mem_nil) (by decide) (by decide) (List.mem_of_getElem? (i := 1) rfl) (by decide) hce hcv hcl ?_
      refine r_astore_n (lv' := [(3, .ref q9), (0, .ref ax), (1, .int (zI a1)), (2, .ref ao)]) E hl dL_colour_12 rfl (by decide) rfl (fun ls hl => ?_)
      refine r_iconst E dL_colour_13 ?_
      exact vx_ret (r_iret E h (Or.inr ⟨rfl, hx, rfl⟩) dL_colour_14)
  · have ho := hfr z ws hp
    have hr9 := hrg z ws hp
    refine r_i2l E dL_colour_7 (by omega) ?_
    refine r_last E h ho (by decide) (by decide) dL_colour_8 (fun ws H locs h hu => ?_)
    refine r_goto E 15 dL_colour_9 (by decide) ?_
    refine r_iconst E dL_colour_15 ?_
    exact vx_ret (r_iret E h (Or.inl ⟨rfl, _, _, hp, hu⟩) dL_colour_16)
theorem hd_L_isFixed : yL_isFixed.cls ≠ "java/lang/invoke/MethodHandle" ∧ yL_isFixed.cls ≠ "java/lang/invoke/VarHandle" ∧ (parseMethodDescriptor yL_isFixed.desc).map (fun d => d.parameters.length) = some 3 := by decide +kernel
abbrev rm_L_isFixed : Room := { frames := 8, cells := 1, slots := 6, locals := 132 }
set_option maxHeartbeats 1200000 in
set_option maxRecDepth 100000 in
theorem k_L_isFixed (l : Launch) {G : va_G} {cy : Nat → ClassId} {ws0 : va_W} {ax q0 ao o : Nat} {fs : List Value} {g : Int → Int64} (a1 : Int) {xq : String → Prop} {post : Int → va_W → Prop} (hM : TIk l yX10_isFixed wsX10_isFixed rm_X10_isFixed G cy [.ref ax, .int (zI a1)] ws0 xq post) (hq0 : ws0[q0]? = some (ax, .inr (10, fs))) (hfr : ∀ v w, post v w → w[o]? = some (ao, aL cy 1 g)) (hrg : ∀ v w, post v w → v = 0 ∨ v = 1) (hxq : ∀ E9, xq E9 → E9 = "java/lang/IndexOutOfBoundsException") : TIn l yL_isFixed wsL_isFixed rm_L_isFixed G cy [.ref ax, .int (zI a1), .ref ao] ws0 (fun z u => (z = 0 ∧ ∃ v w, post v w ∧ Up1 w u o (ao, aL cy 1 (uZ g 0 (zL v)))) ∨ (z = 1 ∧ xq "java/lang/IndexOutOfBoundsException" ∧ u = ws0)) := by
  refine TIn.of (own := RL) (cc := cL_isFixed) (nL := 4) (ret := (some .int)) (hh := [(0, 16, 19, 18)]) (by decide) rfl rfl (Nat.le_of_ble_eq_true rfl) ?_
  intro p e s m below meth c A ls hX hN hT E h hl
  have hl : lv_has ls 4 [(0, .ref ax), (1, .int (zI a1)), (2, .ref ao)] := hl
  refine r_aload_n E 2 hl rfl dL_isFixed_0 ?_
  refine r_iconst E dL_isFixed_1 ?_
  refine r_aload_n E 0 hl rfl dL_isFixed_2 ?_
  refine r_iload_n E 1 hl rfl dL_isFixed_3 ?_
  refine r_callVc E hX h (As := [.int (zI a1)]) (rest := [.int (zI 0), .ref ao]) hM hq0 rfl gL_isFixed_X10_isFixed rfl hd_X10_isFixed (by decide) ⟨by decide, by decide⟩ hl.1 rfl (Nat.le_of_ble_eq_true rfl) dL_isFixed_4 rfl (fun E9 ce q9 H locs hx h hce hcv hcl => ?_) (fun z ws H locs hp h => ?_)
  · rcases hxq E9 hx with rfl
    · refine r_catch E hX [] ⟨0, 16, 19, 18⟩ [] (hT.trans rfl) (fun z hz => absurd hz List.not_mem_nil) (by decide) (by decide) (List.mem_of_getElem? (i := 1) rfl) (by decide) hce hcv hcl ?_
      refine r_astore_n (lv' := [(3, .ref q9), (0, .ref ax), (1, .int (zI a1)), (2, .ref ao)]) E hl dL_isFixed_19 rfl (by decide) rfl (fun ls hl => ?_)
      refine r_iconst E dL_isFixed_20 ?_
      exact vx_ret (r_iret E h (Or.inr ⟨rfl, hx, rfl⟩) dL_isFixed_21)
  · have ho := hfr z ws hp
    have hr9 := hrg z ws hp
    refine r_if_eq E 14 dL_isFixed_7 (by decide) (by omega) (fun c9 => ?_) (fun c9 => ?_)
    · obtain rfl : z = 0 := by omega
      refine r_lconst (v := zL 0) E dL_isFixed_14 (by decide) ?_
      refine r_last E h ho (by decide) (by decide) dL_isFixed_15 (fun ws H locs h hu => ?_)
      refine r_goto E 22 dL_isFixed_16 (by decide) ?_
      refine r_iconst E dL_isFixed_22 ?_
      exact vx_ret (r_iret E h (Or.inl ⟨rfl, _, _, hp, hu⟩) dL_isFixed_23)
    · obtain rfl : z = 1 := by omega
      refine r_lconst (v := zL 1) E dL_isFixed_10 (by decide) ?_
      refine r_goto E 15 dL_isFixed_11 (by decide) ?_
      refine r_last E h ho (by decide) (by decide) dL_isFixed_15 (fun ws H locs h hu => ?_)
      refine r_goto E 22 dL_isFixed_16 (by decide) ?_
      refine r_iconst E dL_isFixed_22 ?_
      exact vx_ret (r_iret E h (Or.inl ⟨rfl, _, _, hp, hu⟩) dL_isFixed_23)
theorem hd_L_count : yL_count.cls ≠ "java/lang/invoke/MethodHandle" ∧ yL_count.cls ≠ "java/lang/invoke/VarHandle" ∧ (parseMethodDescriptor yL_count.desc).map (fun d => d.parameters.length) = some 3 := by decide +kernel
abbrev rm_L_count : Room := { frames := 9, cells := 1, slots := 6, locals := 153 }
set_option maxHeartbeats 1200000 in
set_option maxRecDepth 100000 in
theorem k_L_count (l : Launch) {G : va_G} {cy : Nat → ClassId} {ws0 : va_W} {ax q0 ao o : Nat} {fs : List Value} {g : Int → Int64} (a1 : Int) {xq : String → Prop} {post : Int → va_W → Prop} (hM : TIk l yX10_count wsX10_count rm_X10_count G cy [.ref ax, .int (zI a1)] ws0 xq post) (hq0 : ws0[q0]? = some (ax, .inr (10, fs))) (hfr : ∀ v w, post v w → w[o]? = some (ao, aL cy 1 g)) (hrg : ∀ v w, post v w → -2147483648 ≤ v ∧ v ≤ 2147483647) (hxq : ∀ E9, xq E9 → E9 = "java/lang/IndexOutOfBoundsException") : TIn l yL_count wsL_count rm_L_count G cy [.ref ax, .int (zI a1), .ref ao] ws0 (fun z u => (z = 0 ∧ ∃ v w, post v w ∧ Up1 w u o (ao, aL cy 1 (uZ g 0 (zL v)))) ∨ (z = 1 ∧ xq "java/lang/IndexOutOfBoundsException" ∧ u = ws0)) := by
  refine TIn.of (own := RL) (cc := cL_count) (nL := 4) (ret := (some .int)) (hh := [(0, 9, 12, 18)]) (by decide) rfl rfl (Nat.le_of_ble_eq_true rfl) ?_
  intro p e s m below meth c A ls hX hN hT E h hl
  have hl : lv_has ls 4 [(0, .ref ax), (1, .int (zI a1)), (2, .ref ao)] := hl
  refine r_aload_n E 2 hl rfl dL_count_0 ?_
  refine r_iconst E dL_count_1 ?_
  refine r_aload_n E 0 hl rfl dL_count_2 ?_
  refine r_iload_n E 1 hl rfl dL_count_3 ?_
  refine r_callVc E hX h (As := [.int (zI a1)]) (rest := [.int (zI 0), .ref ao]) hM hq0 rfl gL_count_X10_count rfl hd_X10_count (by decide) ⟨by decide, by decide⟩ hl.1 rfl (Nat.le_of_ble_eq_true rfl) dL_count_4 rfl (fun E9 ce q9 H locs hx h hce hcv hcl => ?_) (fun z ws H locs hp h => ?_)
  · rcases hxq E9 hx with rfl
    · refine r_catch E hX [] ⟨0, 9, 12, 18⟩ [] (hT.trans rfl) (fun z hz => absurd hz List.not_mem_nil) (by decide) (by decide) (List.mem_of_getElem? (i := 1) rfl) (by decide) hce hcv hcl ?_
      refine r_astore_n (lv' := [(3, .ref q9), (0, .ref ax), (1, .int (zI a1)), (2, .ref ao)]) E hl dL_count_12 rfl (by decide) rfl (fun ls hl => ?_)
      refine r_iconst E dL_count_13 ?_
      exact vx_ret (r_iret E h (Or.inr ⟨rfl, hx, rfl⟩) dL_count_14)
  · have ho := hfr z ws hp
    have hr9 := hrg z ws hp
    refine r_i2l E dL_count_7 (by omega) ?_
    refine r_last E h ho (by decide) (by decide) dL_count_8 (fun ws H locs h hu => ?_)
    refine r_goto E 15 dL_count_9 (by decide) ?_
    refine r_iconst E dL_count_15 ?_
    exact vx_ret (r_iret E h (Or.inl ⟨rfl, _, _, hp, hu⟩) dL_count_16)
theorem hd_L_conflict : yL_conflict.cls ≠ "java/lang/invoke/MethodHandle" ∧ yL_conflict.cls ≠ "java/lang/invoke/VarHandle" ∧ (parseMethodDescriptor yL_conflict.desc).map (fun d => d.parameters.length) = some 4 := by decide +kernel
abbrev rm_L_conflict : Room := { frames := 7, cells := 1, slots := 6, locals := 114 }
set_option maxHeartbeats 1200000 in
set_option maxRecDepth 100000 in
theorem k_L_conflict (l : Launch) {G : va_G} {cy : Nat → ClassId} {ws0 : va_W} {ax q0 ao o : Nat} {fs : List Value} {g : Int → Int64} (a1 a2 : Int) {xq : String → Prop} {post : Int → va_W → Prop} (hM : TIk l yX10_conflict wsX10_conflict rm_X10_conflict G cy [.ref ax, .int (zI a1), .int (zI a2)] ws0 xq post) (hq0 : ws0[q0]? = some (ax, .inr (10, fs))) (hfr : ∀ v w, post v w → w[o]? = some (ao, aL cy 1 g)) (hrg : ∀ v w, post v w → -2147483648 ≤ v ∧ v ≤ 2147483647) (hxq : ∀ E9, xq E9 → E9 = "java/util/NoSuchElementException" ∨ E9 = "java/lang/IllegalArgumentException") : TIn l yL_conflict wsL_conflict rm_L_conflict G cy [.ref ax, .int (zI a1), .int (zI a2), .ref ao] ws0 (fun z u => (z = 0 ∧ ∃ v w, post v w ∧ Up1 w u o (ao, aL cy 1 (uZ g 0 (zL v)))) ∨ (z = 1 ∧ xq "java/util/NoSuchElementException" ∧ u = ws0) ∨ (z = 2 ∧ xq "java/lang/IllegalArgumentException" ∧ u = ws0)) := by
  refine TIn.of (own := RL) (cc := cL_conflict) (nL := 5) (ret := (some .int)) (hh := [(0, 10, 13, 34), (0, 10, 17, 13)]) (by decide) rfl rfl (Nat.le_of_ble_eq_true rfl) ?_
  intro p e s m below meth c A ls hX hN hT E h hl
  have hl : lv_has ls 5 [(0, .ref ax), (1, .int (zI a1)), (2, .int (zI a2)), (3, .ref ao)] := hl
  refine r_aload_n E 3 hl rfl dL_conflict_0 ?_
  refine r_iconst E dL_conflict_1 ?_
  refine r_aload_n E 0 hl rfl dL_conflict_2 ?_
  refine r_iload_n E 1 hl rfl dL_conflict_3 ?_
  refine r_iload_n E 2 hl rfl dL_conflict_4 ?_
  refine r_callVc E hX h (As := [.int (zI a1), .int (zI a2)]) (rest := [.int (zI 0), .ref ao]) hM hq0 rfl gL_conflict_X10_conflict rfl hd_X10_conflict (by decide) ⟨by decide, by decide⟩ hl.1 rfl (Nat.le_of_ble_eq_true rfl) dL_conflict_5 rfl (fun E9 ce q9 H locs hx h hce hcv hcl => ?_) (fun z ws H locs hp h => ?_)
  · rcases hxq E9 hx with rfl | rfl
    · refine r_catch E hX [] ⟨0, 10, 13, 34⟩ [⟨0, 10, 17, 13⟩] (hT.trans rfl) (fun z hz => absurd hz List.not_mem_nil) (by decide) (by decide) (List.mem_of_getElem? (i := 1) rfl) (by decide) hce hcv hcl ?_
      refine r_astore (lv' := [(4, .ref q9), (0, .ref ax), (1, .int (zI a1)), (2, .int (zI a2)), (3, .ref ao)]) E hl dL_conflict_13 (by decide) rfl (fun ls hl => ?_)
      refine r_iconst E dL_conflict_15 ?_
      exact vx_ret (r_iret E h (Or.inr (Or.inl ⟨rfl, hx, rfl⟩)) dL_conflict_16)
    · refine r_catch E hX [⟨0, 10, 13, 34⟩] ⟨0, 10, 17, 13⟩ [] (hT.trans rfl) (fun z hz => by rw [List.mem_singleton.mp hz]; exact Or.inr ⟨by decide, "java/util/NoSuchElementException", E.2.2.2.2.1 _ (List.mem_of_getElem? (i := 1) rfl), hN _ (show ("java/lang/IllegalArgumentException", "java/util/NoSuchElementException") ∈ NCL by decide)⟩) (by decide) (by decide) (List.mem_of_getElem? (i := 2) rfl) (by decide) hce hcv hcl ?_
      refine r_astore (lv' := [(4, .ref q9), (0, .ref ax), (1, .int (zI a1)), (2, .int (zI a2)), (3, .ref ao)]) E hl dL_conflict_17 (by decide) rfl (fun ls hl => ?_)
      refine r_iconst E dL_conflict_19 ?_
      exact vx_ret (r_iret E h (Or.inr (Or.inr ⟨rfl, hx, rfl⟩)) dL_conflict_20)
  · have ho := hfr z ws hp
    have hr9 := hrg z ws hp
    refine r_i2l E dL_conflict_8 (by omega) ?_
    refine r_last E h ho (by decide) (by decide) dL_conflict_9 (fun ws H locs h hu => ?_)
    refine r_goto E 21 dL_conflict_10 (by decide) ?_
    refine r_iconst E dL_conflict_21 ?_
    exact vx_ret (r_iret E h (Or.inl ⟨rfl, _, _, hp, hu⟩) dL_conflict_22)
theorem hd_L_conflictsOf : yL_conflictsOf.cls ≠ "java/lang/invoke/MethodHandle" ∧ yL_conflictsOf.cls ≠ "java/lang/invoke/VarHandle" ∧ (parseMethodDescriptor yL_conflictsOf.desc).map (fun d => d.parameters.length) = some 3 := by decide +kernel
abbrev rm_L_conflictsOf : Room := { frames := 8, cells := 1, slots := 6, locals := 132 }
set_option maxHeartbeats 1200000 in
set_option maxRecDepth 100000 in
theorem k_L_conflictsOf (l : Launch) {G : va_G} {cy : Nat → ClassId} {ws0 : va_W} {ax q0 ao o : Nat} {fs : List Value} {g : Int → Int64} (a1 : Int) {xq : String → Prop} {post : Int → va_W → Prop} (hM : TIk l yX10_conflictsOf wsX10_conflictsOf rm_X10_conflictsOf G cy [.ref ax, .int (zI a1)] ws0 xq post) (hq0 : ws0[q0]? = some (ax, .inr (10, fs))) (hfr : ∀ v w, post v w → w[o]? = some (ao, aL cy 1 g)) (hrg : ∀ v w, post v w → -2147483648 ≤ v ∧ v ≤ 2147483647) (hxq : ∀ E9, xq E9 → E9 = "java/lang/IndexOutOfBoundsException") : TIn l yL_conflictsOf wsL_conflictsOf rm_L_conflictsOf G cy [.ref ax, .int (zI a1), .ref ao] ws0 (fun z u => (z = 0 ∧ ∃ v w, post v w ∧ Up1 w u o (ao, aL cy 1 (uZ g 0 (zL v)))) ∨ (z = 1 ∧ xq "java/lang/IndexOutOfBoundsException" ∧ u = ws0)) := by
  refine TIn.of (own := RL) (cc := cL_conflictsOf) (nL := 4) (ret := (some .int)) (hh := [(0, 9, 12, 18)]) (by decide) rfl rfl (Nat.le_of_ble_eq_true rfl) ?_
  intro p e s m below meth c A ls hX hN hT E h hl
  have hl : lv_has ls 4 [(0, .ref ax), (1, .int (zI a1)), (2, .ref ao)] := hl
  refine r_aload_n E 2 hl rfl dL_conflictsOf_0 ?_
  refine r_iconst E dL_conflictsOf_1 ?_
  refine r_aload_n E 0 hl rfl dL_conflictsOf_2 ?_
  refine r_iload_n E 1 hl rfl dL_conflictsOf_3 ?_
  refine r_callVc E hX h (As := [.int (zI a1)]) (rest := [.int (zI 0), .ref ao]) hM hq0 rfl gL_conflictsOf_X10_conflictsOf rfl hd_X10_conflictsOf (by decide) ⟨by decide, by decide⟩ hl.1 rfl (Nat.le_of_ble_eq_true rfl) dL_conflictsOf_4 rfl (fun E9 ce q9 H locs hx h hce hcv hcl => ?_) (fun z ws H locs hp h => ?_)
  · rcases hxq E9 hx with rfl
    · refine r_catch E hX [] ⟨0, 9, 12, 18⟩ [] (hT.trans rfl) (fun z hz => absurd hz List.not_mem_nil) (by decide) (by decide) (List.mem_of_getElem? (i := 1) rfl) (by decide) hce hcv hcl ?_
      refine r_astore_n (lv' := [(3, .ref q9), (0, .ref ax), (1, .int (zI a1)), (2, .ref ao)]) E hl dL_conflictsOf_12 rfl (by decide) rfl (fun ls hl => ?_)
      refine r_iconst E dL_conflictsOf_13 ?_
      exact vx_ret (r_iret E h (Or.inr ⟨rfl, hx, rfl⟩) dL_conflictsOf_14)
  · have ho := hfr z ws hp
    have hr9 := hrg z ws hp
    refine r_i2l E dL_conflictsOf_7 (by omega) ?_
    refine r_last E h ho (by decide) (by decide) dL_conflictsOf_8 (fun ws H locs h hu => ?_)
    refine r_goto E 15 dL_conflictsOf_9 (by decide) ?_
    refine r_iconst E dL_conflictsOf_15 ?_
    exact vx_ret (r_iret E h (Or.inl ⟨rfl, _, _, hp, hu⟩) dL_conflictsOf_16)
theorem hd_L_allowed : yL_allowed.cls ≠ "java/lang/invoke/MethodHandle" ∧ yL_allowed.cls ≠ "java/lang/invoke/VarHandle" ∧ (parseMethodDescriptor yL_allowed.desc).map (fun d => d.parameters.length) = some 3 := by decide +kernel
abbrev rm_L_allowed : Room := { frames := 8, cells := 1, slots := 6, locals := 134 }
set_option maxHeartbeats 1200000 in
set_option maxRecDepth 100000 in
theorem k_L_allowed (l : Launch) {G : va_G} {cy : Nat → ClassId} {ws0 : va_W} {ax q0 ao o : Nat} {fs : List Value} {g : Int → Int64} (a1 : Int) {xq : String → Prop} {post : Int → va_W → Prop} (hM : TIk l yX10_allowed wsX10_allowed rm_X10_allowed G cy [.ref ax, .int (zI a1)] ws0 xq post) (hq0 : ws0[q0]? = some (ax, .inr (10, fs))) (hfr : ∀ v w, post v w → w[o]? = some (ao, aL cy 1 g)) (hrg : ∀ v w, post v w → -2147483648 ≤ v ∧ v ≤ 2147483647) (hxq : ∀ E9, xq E9 → E9 = "java/lang/IndexOutOfBoundsException") : TIn l yL_allowed wsL_allowed rm_L_allowed G cy [.ref ax, .int (zI a1), .ref ao] ws0 (fun z u => (z = 0 ∧ ∃ v w, post v w ∧ Up1 w u o (ao, aL cy 1 (uZ g 0 (zL v)))) ∨ (z = 1 ∧ xq "java/lang/IndexOutOfBoundsException" ∧ u = ws0)) := by
  refine TIn.of (own := RL) (cc := cL_allowed) (nL := 4) (ret := (some .int)) (hh := [(0, 9, 12, 18)]) (by decide) rfl rfl (Nat.le_of_ble_eq_true rfl) ?_
  intro p e s m below meth c A ls hX hN hT E h hl
  have hl : lv_has ls 4 [(0, .ref ax), (1, .int (zI a1)), (2, .ref ao)] := hl
  refine r_aload_n E 2 hl rfl dL_allowed_0 ?_
  refine r_iconst E dL_allowed_1 ?_
  refine r_aload_n E 0 hl rfl dL_allowed_2 ?_
  refine r_iload_n E 1 hl rfl dL_allowed_3 ?_
  refine r_callVc E hX h (As := [.int (zI a1)]) (rest := [.int (zI 0), .ref ao]) hM hq0 rfl gL_allowed_X10_allowed rfl hd_X10_allowed (by decide) ⟨by decide, by decide⟩ hl.1 rfl (Nat.le_of_ble_eq_true rfl) dL_allowed_4 rfl (fun E9 ce q9 H locs hx h hce hcv hcl => ?_) (fun z ws H locs hp h => ?_)
  · rcases hxq E9 hx with rfl
    · refine r_catch E hX [] ⟨0, 9, 12, 18⟩ [] (hT.trans rfl) (fun z hz => absurd hz List.not_mem_nil) (by decide) (by decide) (List.mem_of_getElem? (i := 1) rfl) (by decide) hce hcv hcl ?_
      refine r_astore_n (lv' := [(3, .ref q9), (0, .ref ax), (1, .int (zI a1)), (2, .ref ao)]) E hl dL_allowed_12 rfl (by decide) rfl (fun ls hl => ?_)
      refine r_iconst E dL_allowed_13 ?_
      exact vx_ret (r_iret E h (Or.inr ⟨rfl, hx, rfl⟩) dL_allowed_14)
  · have ho := hfr z ws hp
    have hr9 := hrg z ws hp
    refine r_i2l E dL_allowed_7 (by omega) ?_
    refine r_last E h ho (by decide) (by decide) dL_allowed_8 (fun ws H locs h hu => ?_)
    refine r_goto E 15 dL_allowed_9 (by decide) ?_
    refine r_iconst E dL_allowed_15 ?_
    exact vx_ret (r_iret E h (Or.inl ⟨rfl, _, _, hp, hu⟩) dL_allowed_16)
theorem hd_L_canExtend : yL_canExtend.cls ≠ "java/lang/invoke/MethodHandle" ∧ yL_canExtend.cls ≠ "java/lang/invoke/VarHandle" ∧ (parseMethodDescriptor yL_canExtend.desc).map (fun d => d.parameters.length) = some 4 := by decide +kernel
abbrev rm_L_canExtend : Room := { frames := 8, cells := 2, slots := 12, locals := 144 }
set_option maxHeartbeats 1200000 in
set_option maxRecDepth 100000 in
theorem k_L_canExtend (l : Launch) {G : va_G} {cy : Nat → ClassId} {ws0 : va_W} {ax q0 ao o : Nat} {fs : List Value} {g : Int → Int64} (a1 a2 : Int) {xq : String → Prop} {post : Int → va_W → Prop} (hM : TIk l yX10_canExtend wsX10_canExtend rm_X10_canExtend G cy [.ref ax, .int (zI a1), .int (zI a2)] ws0 xq post) (hq0 : ws0[q0]? = some (ax, .inr (10, fs))) (hfr : ∀ v w, post v w → w[o]? = some (ao, aL cy 1 g)) (hrg : ∀ v w, post v w → -2147483648 ≤ v ∧ v ≤ 2147483647) (hxq : ∀ E9, xq E9 → E9 = "java/lang/IndexOutOfBoundsException" ∨ E9 = "java/lang/IllegalArgumentException") : TIn l yL_canExtend wsL_canExtend rm_L_canExtend G cy [.ref ax, .int (zI a1), .int (zI a2), .ref ao] ws0 (fun z u => (z = 0 ∧ ∃ v w, post v w ∧ Up1 w u o (ao, aL cy 1 (uZ g 0 (zL v)))) ∨ (z = 1 ∧ xq "java/lang/IndexOutOfBoundsException" ∧ u = ws0) ∨ (z = 2 ∧ xq "java/lang/IllegalArgumentException" ∧ u = ws0)) := by
  refine TIn.of (own := RL) (cc := cL_canExtend) (nL := 5) (ret := (some .int)) (hh := [(0, 10, 13, 18), (0, 10, 17, 13)]) (by decide) rfl rfl (Nat.le_of_ble_eq_true rfl) ?_
  intro p e s m below meth c A ls hX hN hT E h hl
  have hl : lv_has ls 5 [(0, .ref ax), (1, .int (zI a1)), (2, .int (zI a2)), (3, .ref ao)] := hl
  refine r_aload_n E 3 hl rfl dL_canExtend_0 ?_
  refine r_iconst E dL_canExtend_1 ?_
  refine r_aload_n E 0 hl rfl dL_canExtend_2 ?_
  refine r_iload_n E 1 hl rfl dL_canExtend_3 ?_
  refine r_iload_n E 2 hl rfl dL_canExtend_4 ?_
  refine r_callVc E hX h (As := [.int (zI a1), .int (zI a2)]) (rest := [.int (zI 0), .ref ao]) hM hq0 rfl gL_canExtend_X10_canExtend rfl hd_X10_canExtend (by decide) ⟨by decide, by decide⟩ hl.1 rfl (Nat.le_of_ble_eq_true rfl) dL_canExtend_5 rfl (fun E9 ce q9 H locs hx h hce hcv hcl => ?_) (fun z ws H locs hp h => ?_)
  · rcases hxq E9 hx with rfl | rfl
    · refine r_catch E hX [] ⟨0, 10, 13, 18⟩ [⟨0, 10, 17, 13⟩] (hT.trans rfl) (fun z hz => absurd hz List.not_mem_nil) (by decide) (by decide) (List.mem_of_getElem? (i := 1) rfl) (by decide) hce hcv hcl ?_
      refine r_astore (lv' := [(4, .ref q9), (0, .ref ax), (1, .int (zI a1)), (2, .int (zI a2)), (3, .ref ao)]) E hl dL_canExtend_13 (by decide) rfl (fun ls hl => ?_)
      refine r_iconst E dL_canExtend_15 ?_
      exact vx_ret (r_iret E h (Or.inr (Or.inl ⟨rfl, hx, rfl⟩)) dL_canExtend_16)
    · refine r_catch E hX [⟨0, 10, 13, 18⟩] ⟨0, 10, 17, 13⟩ [] (hT.trans rfl) (fun z hz => by rw [List.mem_singleton.mp hz]; exact Or.inr ⟨by decide, "java/lang/IndexOutOfBoundsException", E.2.2.2.2.1 _ (List.mem_of_getElem? (i := 1) rfl), hN _ (show ("java/lang/IllegalArgumentException", "java/lang/IndexOutOfBoundsException") ∈ NCL by decide)⟩) (by decide) (by decide) (List.mem_of_getElem? (i := 2) rfl) (by decide) hce hcv hcl ?_
      refine r_astore (lv' := [(4, .ref q9), (0, .ref ax), (1, .int (zI a1)), (2, .int (zI a2)), (3, .ref ao)]) E hl dL_canExtend_17 (by decide) rfl (fun ls hl => ?_)
      refine r_iconst E dL_canExtend_19 ?_
      exact vx_ret (r_iret E h (Or.inr (Or.inr ⟨rfl, hx, rfl⟩)) dL_canExtend_20)
  · have ho := hfr z ws hp
    have hr9 := hrg z ws hp
    refine r_i2l E dL_canExtend_8 (by omega) ?_
    refine r_last E h ho (by decide) (by decide) dL_canExtend_9 (fun ws H locs h hu => ?_)
    refine r_goto E 21 dL_canExtend_10 (by decide) ?_
    refine r_iconst E dL_canExtend_21 ?_
    exact vx_ret (r_iret E h (Or.inl ⟨rfl, _, _, hp, hu⟩) dL_canExtend_22)
theorem hd_L_longest : yL_longest.cls ≠ "java/lang/invoke/MethodHandle" ∧ yL_longest.cls ≠ "java/lang/invoke/VarHandle" ∧ (parseMethodDescriptor yL_longest.desc).map (fun d => d.parameters.length) = some 3 := by decide +kernel
abbrev rm_L_longest : Room := { frames := 8, cells := 1, slots := 6, locals := 167 }
set_option maxHeartbeats 1200000 in
set_option maxRecDepth 100000 in
theorem k_L_longest (l : Launch) {G : va_G} {cy : Nat → ClassId} {ws0 : va_W} {ax q0 ao o : Nat} {fs : List Value} {g : Int → Int64} (a1 : Int) {xq : String → Prop} {post : Int → va_W → Prop} (hM : TIk l yX10_longest wsX10_longest rm_X10_longest G cy [.ref ax, .int (zI a1)] ws0 xq post) (hq0 : ws0[q0]? = some (ax, .inr (10, fs))) (hfr : ∀ v w, post v w → w[o]? = some (ao, aL cy 1 g)) (hrg : ∀ v w, post v w → -2147483648 ≤ v ∧ v ≤ 2147483647) (hxq : ∀ E9, xq E9 → E9 = "java/lang/IllegalArgumentException") : TIn l yL_longest wsL_longest rm_L_longest G cy [.ref ax, .int (zI a1), .ref ao] ws0 (fun z u => (z = 0 ∧ ∃ v w, post v w ∧ Up1 w u o (ao, aL cy 1 (uZ g 0 (zL v)))) ∨ (z = 1 ∧ xq "java/lang/IllegalArgumentException" ∧ u = ws0)) := by
  refine TIn.of (own := RL) (cc := cL_longest) (nL := 4) (ret := (some .int)) (hh := [(0, 9, 12, 13)]) (by decide) rfl rfl (Nat.le_of_ble_eq_true rfl) ?_
  intro p e s m below meth c A ls hX hN hT E h hl
  have hl : lv_has ls 4 [(0, .ref ax), (1, .int (zI a1)), (2, .ref ao)] := hl
  refine r_aload_n E 2 hl rfl dL_longest_0 ?_
  refine r_iconst E dL_longest_1 ?_
  refine r_aload_n E 0 hl rfl dL_longest_2 ?_
  refine r_iload_n E 1 hl rfl dL_longest_3 ?_
  refine r_callVc E hX h (As := [.int (zI a1)]) (rest := [.int (zI 0), .ref ao]) hM hq0 rfl gL_longest_X10_longest rfl hd_X10_longest (by decide) ⟨by decide, by decide⟩ hl.1 rfl (Nat.le_of_ble_eq_true rfl) dL_longest_4 rfl (fun E9 ce q9 H locs hx h hce hcv hcl => ?_) (fun z ws H locs hp h => ?_)
  · rcases hxq E9 hx with rfl
    · refine r_catch E hX [] ⟨0, 9, 12, 13⟩ [] (hT.trans rfl) (fun z hz => absurd hz List.not_mem_nil) (by decide) (by decide) (List.mem_of_getElem? (i := 1) rfl) (by decide) hce hcv hcl ?_
      refine r_astore_n (lv' := [(3, .ref q9), (0, .ref ax), (1, .int (zI a1)), (2, .ref ao)]) E hl dL_longest_12 rfl (by decide) rfl (fun ls hl => ?_)
      refine r_iconst E dL_longest_13 ?_
      exact vx_ret (r_iret E h (Or.inr ⟨rfl, hx, rfl⟩) dL_longest_14)
  · have ho := hfr z ws hp
    have hr9 := hrg z ws hp
    refine r_i2l E dL_longest_7 (by omega) ?_
    refine r_last E h ho (by decide) (by decide) dL_longest_8 (fun ws H locs h hu => ?_)
    refine r_goto E 15 dL_longest_9 (by decide) ?_
    refine r_iconst E dL_longest_15 ?_
    exact vx_ret (r_iret E h (Or.inl ⟨rfl, _, _, hp, hu⟩) dL_longest_16)
theorem hd_L_setColour : yL_setColour.cls ≠ "java/lang/invoke/MethodHandle" ∧ yL_setColour.cls ≠ "java/lang/invoke/VarHandle" ∧ (parseMethodDescriptor yL_setColour.desc).map (fun d => d.parameters.length) = some 4 := by decide +kernel
abbrev rm_L_setColour : Room := { frames := 9, cells := 3, slots := 18, locals := 155 }
set_option maxHeartbeats 1200000 in
set_option maxRecDepth 100000 in
theorem k_L_setColour (l : Launch) {G : va_G} {cy : Nat → ClassId} {ws0 : va_W} {ax q0 ao o : Nat} {fs : List Value} {g : Int → Int64} (a1 a2 : Int) {xq : String → Prop} {post : Int → va_W → Prop} (hM : TIk l yX10_setColour wsX10_setColour rm_X10_setColour G cy [.ref ax, .int (zI a1), .int (zI a2)] ws0 xq post) (hq0 : ws0[q0]? = some (ax, .inr (10, fs))) (hfr : ∀ v w, post v w → w[o]? = some (ao, aL cy 1 g)) (hrg : ∀ v w, post v w → -2147483648 ≤ v ∧ v ≤ 2147483647) (hxq : ∀ E9, xq E9 → E9 = "java/lang/IndexOutOfBoundsException" ∨ E9 = "java/lang/IllegalStateException") : TIn l yL_setColour wsL_setColour rm_L_setColour G cy [.ref ax, .int (zI a1), .int (zI a2), .ref ao] ws0 (fun z u => (z = 0 ∧ ∃ v w, post v w ∧ Up1 w u o (ao, aL cy 1 (uZ g 0 (zL v)))) ∨ (z = 1 ∧ xq "java/lang/IndexOutOfBoundsException" ∧ u = ws0) ∨ (z = 2 ∧ xq "java/lang/IllegalStateException" ∧ u = ws0)) := by
  refine TIn.of (own := RL) (cc := cL_setColour) (nL := 5) (ret := (some .int)) (hh := [(0, 10, 13, 18), (0, 10, 17, 51)]) (by decide) rfl rfl (Nat.le_of_ble_eq_true rfl) ?_
  intro p e s m below meth c A ls hX hN hT E h hl
  have hl : lv_has ls 5 [(0, .ref ax), (1, .int (zI a1)), (2, .int (zI a2)), (3, .ref ao)] := hl
  refine r_aload_n E 3 hl rfl dL_setColour_0 ?_
  refine r_iconst E dL_setColour_1 ?_
  refine r_aload_n E 0 hl rfl dL_setColour_2 ?_
  refine r_iload_n E 1 hl rfl dL_setColour_3 ?_
  refine r_iload_n E 2 hl rfl dL_setColour_4 ?_
  refine r_callVc E hX h (As := [.int (zI a1), .int (zI a2)]) (rest := [.int (zI 0), .ref ao]) hM hq0 rfl gL_setColour_X10_setColour rfl hd_X10_setColour (by decide) ⟨by decide, by decide⟩ hl.1 rfl (Nat.le_of_ble_eq_true rfl) dL_setColour_5 rfl (fun E9 ce q9 H locs hx h hce hcv hcl => ?_) (fun z ws H locs hp h => ?_)
  · rcases hxq E9 hx with rfl | rfl
    · refine r_catch E hX [] ⟨0, 10, 13, 18⟩ [⟨0, 10, 17, 51⟩] (hT.trans rfl) (fun z hz => absurd hz List.not_mem_nil) (by decide) (by decide) (List.mem_of_getElem? (i := 1) rfl) (by decide) hce hcv hcl ?_
      refine r_astore (lv' := [(4, .ref q9), (0, .ref ax), (1, .int (zI a1)), (2, .int (zI a2)), (3, .ref ao)]) E hl dL_setColour_13 (by decide) rfl (fun ls hl => ?_)
      refine r_iconst E dL_setColour_15 ?_
      exact vx_ret (r_iret E h (Or.inr (Or.inl ⟨rfl, hx, rfl⟩)) dL_setColour_16)
    · refine r_catch E hX [⟨0, 10, 13, 18⟩] ⟨0, 10, 17, 51⟩ [] (hT.trans rfl) (fun z hz => by rw [List.mem_singleton.mp hz]; exact Or.inr ⟨by decide, "java/lang/IndexOutOfBoundsException", E.2.2.2.2.1 _ (List.mem_of_getElem? (i := 1) rfl), hN _ (show ("java/lang/IllegalStateException", "java/lang/IndexOutOfBoundsException") ∈ NCL by decide)⟩) (by decide) (by decide) (List.mem_of_getElem? (i := 2) rfl) (by decide) hce hcv hcl ?_
      refine r_astore (lv' := [(4, .ref q9), (0, .ref ax), (1, .int (zI a1)), (2, .int (zI a2)), (3, .ref ao)]) E hl dL_setColour_17 (by decide) rfl (fun ls hl => ?_)
      refine r_iconst E dL_setColour_19 ?_
      exact vx_ret (r_iret E h (Or.inr (Or.inr ⟨rfl, hx, rfl⟩)) dL_setColour_20)
  · have ho := hfr z ws hp
    have hr9 := hrg z ws hp
    refine r_i2l E dL_setColour_8 (by omega) ?_
    refine r_last E h ho (by decide) (by decide) dL_setColour_9 (fun ws H locs h hu => ?_)
    refine r_goto E 21 dL_setColour_10 (by decide) ?_
    refine r_iconst E dL_setColour_21 ?_
    exact vx_ret (r_iret E h (Or.inl ⟨rfl, _, _, hp, hu⟩) dL_setColour_22)
theorem hd_L_setFixed : yL_setFixed.cls ≠ "java/lang/invoke/MethodHandle" ∧ yL_setFixed.cls ≠ "java/lang/invoke/VarHandle" ∧ (parseMethodDescriptor yL_setFixed.desc).map (fun d => d.parameters.length) = some 4 := by decide +kernel
abbrev rm_L_setFixed : Room := { frames := 8, cells := 2, slots := 12, locals := 138 }
set_option maxHeartbeats 1200000 in
set_option maxRecDepth 100000 in
theorem k_L_setFixed (l : Launch) {G : va_G} {cy : Nat → ClassId} {ws0 : va_W} {ax q0 ao o : Nat} {fs : List Value} {g : Int → Int64} (a1 a2 : Int) {xq : String → Prop} {post : Int → va_W → Prop} (hM : TIk l yX10_setFixed wsX10_setFixed rm_X10_setFixed G cy [.ref ax, .int (zI a1), .int (zI a2)] ws0 xq post) (hq0 : ws0[q0]? = some (ax, .inr (10, fs))) (hfr : ∀ v w, post v w → w[o]? = some (ao, aL cy 1 g)) (hrg : ∀ v w, post v w → v = 0 ∨ v = 1) (hxq : ∀ E9, xq E9 → E9 = "java/lang/IndexOutOfBoundsException" ∨ E9 = "java/lang/IllegalStateException") : TIn l yL_setFixed wsL_setFixed rm_L_setFixed G cy [.ref ax, .int (zI a1), .int (zI a2), .ref ao] ws0 (fun z u => (z = 0 ∧ ∃ v w, post v w ∧ Up1 w u o (ao, aL cy 1 (uZ g 0 (zL v)))) ∨ (z = 1 ∧ xq "java/lang/IndexOutOfBoundsException" ∧ u = ws0) ∨ (z = 2 ∧ xq "java/lang/IllegalStateException" ∧ u = ws0)) := by
  refine TIn.of (own := RL) (cc := cL_setFixed) (nL := 5) (ret := (some .int)) (hh := [(0, 17, 20, 18), (0, 17, 24, 51)]) (by decide) rfl rfl (Nat.le_of_ble_eq_true rfl) ?_
  intro p e s m below meth c A ls hX hN hT E h hl
  have hl : lv_has ls 5 [(0, .ref ax), (1, .int (zI a1)), (2, .int (zI a2)), (3, .ref ao)] := hl
  refine r_aload_n E 3 hl rfl dL_setFixed_0 ?_
  refine r_iconst E dL_setFixed_1 ?_
  refine r_aload_n E 0 hl rfl dL_setFixed_2 ?_
  refine r_iload_n E 1 hl rfl dL_setFixed_3 ?_
  refine r_iload_n E 2 hl rfl dL_setFixed_4 ?_
  refine r_callVc E hX h (As := [.int (zI a1), .int (zI a2)]) (rest := [.int (zI 0), .ref ao]) hM hq0 rfl gL_setFixed_X10_setFixed rfl hd_X10_setFixed (by decide) ⟨by decide, by decide⟩ hl.1 rfl (Nat.le_of_ble_eq_true rfl) dL_setFixed_5 rfl (fun E9 ce q9 H locs hx h hce hcv hcl => ?_) (fun z ws H locs hp h => ?_)
  · rcases hxq E9 hx with rfl | rfl
    · refine r_catch E hX [] ⟨0, 17, 20, 18⟩ [⟨0, 17, 24, 51⟩] (hT.trans rfl) (fun z hz => absurd hz List.not_mem_nil) (by decide) (by decide) (List.mem_of_getElem? (i := 1) rfl) (by decide) hce hcv hcl ?_
      refine r_astore (lv' := [(4, .ref q9), (0, .ref ax), (1, .int (zI a1)), (2, .int (zI a2)), (3, .ref ao)]) E hl dL_setFixed_20 (by decide) rfl (fun ls hl => ?_)
      refine r_iconst E dL_setFixed_22 ?_
      exact vx_ret (r_iret E h (Or.inr (Or.inl ⟨rfl, hx, rfl⟩)) dL_setFixed_23)
    · refine r_catch E hX [⟨0, 17, 20, 18⟩] ⟨0, 17, 24, 51⟩ [] (hT.trans rfl) (fun z hz => by rw [List.mem_singleton.mp hz]; exact Or.inr ⟨by decide, "java/lang/IndexOutOfBoundsException", E.2.2.2.2.1 _ (List.mem_of_getElem? (i := 1) rfl), hN _ (show ("java/lang/IllegalStateException", "java/lang/IndexOutOfBoundsException") ∈ NCL by decide)⟩) (by decide) (by decide) (List.mem_of_getElem? (i := 2) rfl) (by decide) hce hcv hcl ?_
      refine r_astore (lv' := [(4, .ref q9), (0, .ref ax), (1, .int (zI a1)), (2, .int (zI a2)), (3, .ref ao)]) E hl dL_setFixed_24 (by decide) rfl (fun ls hl => ?_)
      refine r_iconst E dL_setFixed_26 ?_
      exact vx_ret (r_iret E h (Or.inr (Or.inr ⟨rfl, hx, rfl⟩)) dL_setFixed_27)
  · have ho := hfr z ws hp
    have hr9 := hrg z ws hp
    refine r_if_eq E 15 dL_setFixed_8 (by decide) (by omega) (fun c9 => ?_) (fun c9 => ?_)
    · obtain rfl : z = 0 := by omega
      refine r_lconst (v := zL 0) E dL_setFixed_15 (by decide) ?_
      refine r_last E h ho (by decide) (by decide) dL_setFixed_16 (fun ws H locs h hu => ?_)
      refine r_goto E 28 dL_setFixed_17 (by decide) ?_
      refine r_iconst E dL_setFixed_28 ?_
      exact vx_ret (r_iret E h (Or.inl ⟨rfl, _, _, hp, hu⟩) dL_setFixed_29)
    · obtain rfl : z = 1 := by omega
      refine r_lconst (v := zL 1) E dL_setFixed_11 (by decide) ?_
      refine r_goto E 16 dL_setFixed_12 (by decide) ?_
      refine r_last E h ho (by decide) (by decide) dL_setFixed_16 (fun ws H locs h hu => ?_)
      refine r_goto E 28 dL_setFixed_17 (by decide) ?_
      refine r_iconst E dL_setFixed_28 ?_
      exact vx_ret (r_iret E h (Or.inl ⟨rfl, _, _, hp, hu⟩) dL_setFixed_29)
theorem hd_L_swapColours : yL_swapColours.cls ≠ "java/lang/invoke/MethodHandle" ∧ yL_swapColours.cls ≠ "java/lang/invoke/VarHandle" ∧ (parseMethodDescriptor yL_swapColours.desc).map (fun d => d.parameters.length) = some 4 := by decide +kernel
abbrev rm_L_swapColours : Room := { frames := 8, cells := 2, slots := 12, locals := 137 }
set_option maxHeartbeats 1200000 in
set_option maxRecDepth 100000 in
theorem k_L_swapColours (l : Launch) {G : va_G} {cy : Nat → ClassId} {ws0 : va_W} {ax q0 ao o : Nat} {fs : List Value} {g : Int → Int64} (a1 a2 : Int) {xq : String → Prop} {post : Int → va_W → Prop} (hM : TIk l yX10_swapColours wsX10_swapColours rm_X10_swapColours G cy [.ref ax, .int (zI a1), .int (zI a2)] ws0 xq post) (hq0 : ws0[q0]? = some (ax, .inr (10, fs))) (hfr : ∀ v w, post v w → w[o]? = some (ao, aL cy 1 g)) (hrg : ∀ v w, post v w → -2147483648 ≤ v ∧ v ≤ 2147483647) (hxq : ∀ E9, xq E9 → E9 = "java/lang/IndexOutOfBoundsException") : TIn l yL_swapColours wsL_swapColours rm_L_swapColours G cy [.ref ax, .int (zI a1), .int (zI a2), .ref ao] ws0 (fun z u => (z = 0 ∧ ∃ v w, post v w ∧ Up1 w u o (ao, aL cy 1 (uZ g 0 (zL v)))) ∨ (z = 1 ∧ xq "java/lang/IndexOutOfBoundsException" ∧ u = ws0)) := by
  refine TIn.of (own := RL) (cc := cL_swapColours) (nL := 5) (ret := (some .int)) (hh := [(0, 10, 13, 18)]) (by decide) rfl rfl (Nat.le_of_ble_eq_true rfl) ?_
  intro p e s m below meth c A ls hX hN hT E h hl
  have hl : lv_has ls 5 [(0, .ref ax), (1, .int (zI a1)), (2, .int (zI a2)), (3, .ref ao)] := hl
  refine r_aload_n E 3 hl rfl dL_swapColours_0 ?_
  refine r_iconst E dL_swapColours_1 ?_
  refine r_aload_n E 0 hl rfl dL_swapColours_2 ?_
  refine r_iload_n E 1 hl rfl dL_swapColours_3 ?_
  refine r_iload_n E 2 hl rfl dL_swapColours_4 ?_
  refine r_callVc E hX h (As := [.int (zI a1), .int (zI a2)]) (rest := [.int (zI 0), .ref ao]) hM hq0 rfl gL_swapColours_X10_swapColours rfl hd_X10_swapColours (by decide) ⟨by decide, by decide⟩ hl.1 rfl (Nat.le_of_ble_eq_true rfl) dL_swapColours_5 rfl (fun E9 ce q9 H locs hx h hce hcv hcl => ?_) (fun z ws H locs hp h => ?_)
  · rcases hxq E9 hx with rfl
    · refine r_catch E hX [] ⟨0, 10, 13, 18⟩ [] (hT.trans rfl) (fun z hz => absurd hz List.not_mem_nil) (by decide) (by decide) (List.mem_of_getElem? (i := 1) rfl) (by decide) hce hcv hcl ?_
      refine r_astore (lv' := [(4, .ref q9), (0, .ref ax), (1, .int (zI a1)), (2, .int (zI a2)), (3, .ref ao)]) E hl dL_swapColours_13 (by decide) rfl (fun ls hl => ?_)
      refine r_iconst E dL_swapColours_15 ?_
      exact vx_ret (r_iret E h (Or.inr ⟨rfl, hx, rfl⟩) dL_swapColours_16)
  · have ho := hfr z ws hp
    have hr9 := hrg z ws hp
    refine r_i2l E dL_swapColours_8 (by omega) ?_
    refine r_last E h ho (by decide) (by decide) dL_swapColours_9 (fun ws H locs h hu => ?_)
    refine r_goto E 17 dL_swapColours_10 (by decide) ?_
    refine r_iconst E dL_swapColours_17 ?_
    exact vx_ret (r_iret E h (Or.inl ⟨rfl, _, _, hp, hu⟩) dL_swapColours_18)
theorem hd_L_extend : yL_extend.cls ≠ "java/lang/invoke/MethodHandle" ∧ yL_extend.cls ≠ "java/lang/invoke/VarHandle" ∧ (parseMethodDescriptor yL_extend.desc).map (fun d => d.parameters.length) = some 4 := by decide +kernel
abbrev rm_L_extend : Room := { frames := 8, cells := 2, slots := 12, locals := 145 }
set_option maxHeartbeats 1200000 in
set_option maxRecDepth 100000 in
theorem k_L_extend (l : Launch) {G : va_G} {cy : Nat → ClassId} {ws0 : va_W} {ax q0 ao o : Nat} {fs : List Value} {g : Int → Int64} (a1 a2 : Int) {xq : String → Prop} {post : Int → va_W → Prop} (hM : TIk l yX10_extend wsX10_extend rm_X10_extend G cy [.ref ax, .int (zI a1), .int (zI a2)] ws0 xq post) (hq0 : ws0[q0]? = some (ax, .inr (10, fs))) (hfr : ∀ v w, post v w → w[o]? = some (ao, aL cy 1 g)) (hrg : ∀ v w, post v w → -2147483648 ≤ v ∧ v ≤ 2147483647) (hxq : ∀ E9, xq E9 → E9 = "java/lang/IndexOutOfBoundsException" ∨ E9 = "java/lang/IllegalArgumentException") : TIn l yL_extend wsL_extend rm_L_extend G cy [.ref ax, .int (zI a1), .int (zI a2), .ref ao] ws0 (fun z u => (z = 0 ∧ ∃ v w, post v w ∧ Up1 w u o (ao, aL cy 1 (uZ g 0 (zL v)))) ∨ (z = 1 ∧ xq "java/lang/IndexOutOfBoundsException" ∧ u = ws0) ∨ (z = 2 ∧ xq "java/lang/IllegalArgumentException" ∧ u = ws0)) := by
  refine TIn.of (own := RL) (cc := cL_extend) (nL := 5) (ret := (some .int)) (hh := [(0, 10, 13, 18), (0, 10, 17, 13)]) (by decide) rfl rfl (Nat.le_of_ble_eq_true rfl) ?_
  intro p e s m below meth c A ls hX hN hT E h hl
  have hl : lv_has ls 5 [(0, .ref ax), (1, .int (zI a1)), (2, .int (zI a2)), (3, .ref ao)] := hl
  refine r_aload_n E 3 hl rfl dL_extend_0 ?_
  refine r_iconst E dL_extend_1 ?_
  refine r_aload_n E 0 hl rfl dL_extend_2 ?_
  refine r_iload_n E 1 hl rfl dL_extend_3 ?_
  refine r_iload_n E 2 hl rfl dL_extend_4 ?_
  refine r_callVc E hX h (As := [.int (zI a1), .int (zI a2)]) (rest := [.int (zI 0), .ref ao]) hM hq0 rfl gL_extend_X10_extend rfl hd_X10_extend (by decide) ⟨by decide, by decide⟩ hl.1 rfl (Nat.le_of_ble_eq_true rfl) dL_extend_5 rfl (fun E9 ce q9 H locs hx h hce hcv hcl => ?_) (fun z ws H locs hp h => ?_)
  · rcases hxq E9 hx with rfl | rfl
    · refine r_catch E hX [] ⟨0, 10, 13, 18⟩ [⟨0, 10, 17, 13⟩] (hT.trans rfl) (fun z hz => absurd hz List.not_mem_nil) (by decide) (by decide) (List.mem_of_getElem? (i := 1) rfl) (by decide) hce hcv hcl ?_
      refine r_astore (lv' := [(4, .ref q9), (0, .ref ax), (1, .int (zI a1)), (2, .int (zI a2)), (3, .ref ao)]) E hl dL_extend_13 (by decide) rfl (fun ls hl => ?_)
      refine r_iconst E dL_extend_15 ?_
      exact vx_ret (r_iret E h (Or.inr (Or.inl ⟨rfl, hx, rfl⟩)) dL_extend_16)
    · refine r_catch E hX [⟨0, 10, 13, 18⟩] ⟨0, 10, 17, 13⟩ [] (hT.trans rfl) (fun z hz => by rw [List.mem_singleton.mp hz]; exact Or.inr ⟨by decide, "java/lang/IndexOutOfBoundsException", E.2.2.2.2.1 _ (List.mem_of_getElem? (i := 1) rfl), hN _ (show ("java/lang/IllegalArgumentException", "java/lang/IndexOutOfBoundsException") ∈ NCL by decide)⟩) (by decide) (by decide) (List.mem_of_getElem? (i := 2) rfl) (by decide) hce hcv hcl ?_
      refine r_astore (lv' := [(4, .ref q9), (0, .ref ax), (1, .int (zI a1)), (2, .int (zI a2)), (3, .ref ao)]) E hl dL_extend_17 (by decide) rfl (fun ls hl => ?_)
      refine r_iconst E dL_extend_19 ?_
      exact vx_ret (r_iret E h (Or.inr (Or.inr ⟨rfl, hx, rfl⟩)) dL_extend_20)
  · have ho := hfr z ws hp
    have hr9 := hrg z ws hp
    refine r_i2l E dL_extend_8 (by omega) ?_
    refine r_last E h ho (by decide) (by decide) dL_extend_9 (fun ws H locs h hu => ?_)
    refine r_goto E 21 dL_extend_10 (by decide) ?_
    refine r_iconst E dL_extend_21 ?_
    exact vx_ret (r_iret E h (Or.inl ⟨rfl, _, _, hp, hu⟩) dL_extend_22)
theorem hd_L_repair : yL_repair.cls ≠ "java/lang/invoke/MethodHandle" ∧ yL_repair.cls ≠ "java/lang/invoke/VarHandle" ∧ (parseMethodDescriptor yL_repair.desc).map (fun d => d.parameters.length) = some 3 := by decide +kernel
abbrev rm_L_repair : Room := { frames := 7, cells := 1, slots := 6, locals := 148 }
set_option maxHeartbeats 1200000 in
set_option maxRecDepth 100000 in
theorem k_L_repair (l : Launch) {G : va_G} {cy : Nat → ClassId} {ws0 : va_W} {ax q0 ao o : Nat} {fs : List Value} {g : Int → Int64} (a1 : Int) {xq : String → Prop} {post : Int → va_W → Prop} (hM : TIk l yX10_repair wsX10_repair rm_X10_repair G cy [.ref ax, .int (zI a1)] ws0 xq post) (hq0 : ws0[q0]? = some (ax, .inr (10, fs))) (hfr : ∀ v w, post v w → w[o]? = some (ao, aL cy 1 g)) (hrg : ∀ v w, post v w → -2147483648 ≤ v ∧ v ≤ 2147483647) (hxq : ∀ E9, xq E9 → E9 = "java/lang/IllegalArgumentException") : TIn l yL_repair wsL_repair rm_L_repair G cy [.ref ax, .int (zI a1), .ref ao] ws0 (fun z u => (z = 0 ∧ ∃ v w, post v w ∧ Up1 w u o (ao, aL cy 1 (uZ g 0 (zL v)))) ∨ (z = 1 ∧ xq "java/lang/IllegalArgumentException" ∧ u = ws0)) := by
  refine TIn.of (own := RL) (cc := cL_repair) (nL := 4) (ret := (some .int)) (hh := [(0, 9, 12, 13)]) (by decide) rfl rfl (Nat.le_of_ble_eq_true rfl) ?_
  intro p e s m below meth c A ls hX hN hT E h hl
  have hl : lv_has ls 4 [(0, .ref ax), (1, .int (zI a1)), (2, .ref ao)] := hl
  refine r_aload_n E 2 hl rfl dL_repair_0 ?_
  refine r_iconst E dL_repair_1 ?_
  refine r_aload_n E 0 hl rfl dL_repair_2 ?_
  refine r_iload_n E 1 hl rfl dL_repair_3 ?_
  refine r_callVc E hX h (As := [.int (zI a1)]) (rest := [.int (zI 0), .ref ao]) hM hq0 rfl gL_repair_X10_repair rfl hd_X10_repair (by decide) ⟨by decide, by decide⟩ hl.1 rfl (Nat.le_of_ble_eq_true rfl) dL_repair_4 rfl (fun E9 ce q9 H locs hx h hce hcv hcl => ?_) (fun z ws H locs hp h => ?_)
  · rcases hxq E9 hx with rfl
    · refine r_catch E hX [] ⟨0, 9, 12, 13⟩ [] (hT.trans rfl) (fun z hz => absurd hz List.not_mem_nil) (by decide) (by decide) (List.mem_of_getElem? (i := 1) rfl) (by decide) hce hcv hcl ?_
      refine r_astore_n (lv' := [(3, .ref q9), (0, .ref ax), (1, .int (zI a1)), (2, .ref ao)]) E hl dL_repair_12 rfl (by decide) rfl (fun ls hl => ?_)
      refine r_iconst E dL_repair_13 ?_
      exact vx_ret (r_iret E h (Or.inr ⟨rfl, hx, rfl⟩) dL_repair_14)
  · have ho := hfr z ws hp
    have hr9 := hrg z ws hp
    refine r_i2l E dL_repair_7 (by omega) ?_
    refine r_last E h ho (by decide) (by decide) dL_repair_8 (fun ws H locs h hu => ?_)
    refine r_goto E 15 dL_repair_9 (by decide) ?_
    refine r_iconst E dL_repair_15 ?_
    exact vx_ret (r_iret E h (Or.inl ⟨rfl, _, _, hp, hu⟩) dL_repair_16)
