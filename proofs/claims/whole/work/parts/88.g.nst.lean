section NST
variable {p : Program} {l : Launch} {e : Env} {R : Room} {s : State} {m : MethodId} {args : Array Value} {below : List Frame} {meth : Method} {c : Code} {H : Heap} {locs : List Loc} {cells slots : Nat}
variable {cc : ByteArray} {nL pc : Nat} {ret : Option FieldType} {ls : Array Slot} {rest : List Value} {wds : List Cond} {G : va_G} {cy : Nat → ClassId} {A : Nat → Prop} {ws : va_W} {xp : String → Prop} {Qc : Array Value → State → Outcome → State → Prop}
set_option maxHeartbeats 1000000 in
theorem r_throwN (E : Ev p s m meth c args cc nL ret wds RX10 G cy) (hX : KX cy A s s.heap) (hT0 : ∀ x ∈ c.exceptionTable.toList, False) (h : Hp G ws A s.heap H locs) (hl9 : l.stackTraces = false) {text : String} {is k9 mc ms : Nat} (hk : Cond.classLink RX10 171 nsX ∈ wds) (hini : Cond.initialized nsX ∈ wds) (hq : (RX10, is, text, k9) ∈ TRL) (hat : ∀ w ∈ nsF, w ∈ wds) (hls : ls.size = nL) (d0 : decode cc pc = .ok (.new 171, 3)) (d3 : decode cc (pc + 3) = .ok (.dup, 1)) (d4 : decode cc (pc + 4) = .ok (.ldc is, 2)) (d6 : decode cc (pc + 6) = .ok (.invokespecial 175, 3)) (d9 : decode cc (pc + 9) = .ok (.athrow, 1)) (hR : 5 < R.frames ∧ (rest.map fun v => v.category).sum + 82 ≤ R.locals) (hc : (cells + 1 ≤ R.cells ∧ slots + 6 ≤ R.slots) ∧ cells + 1 ≤ mc ∧ slots + 6 ≤ ms) (hx : xp nsX) : W p l e R s m args below meth c H locs cells slots (vx_MQ below Qc (XK G cy ws A xp) args s mc ms A) (F0 m pc ls rest) := by
  intro T hT X
  have hexec := E.1
  have hb := E.2.1
  have hS := h.2.2.1
  have htr : e.platform.stackTraces = false := (show e.platform.stackTraces = l.stackTraces by rw [X.admits.platform]).trans hl9
  have Y := vx_rebase X (R' := { frames := R.frames, locals := R.locals, cells := 1, slots := 6 }) (Nat.le_refl _) (Nat.le_refl _) hc.1.1 hc.1.2
  obtain ⟨s', hA⟩ : ∃ z, z = (T.setVm s.vm).setFrames (.invoking m args :: below) := ⟨_, rfl⟩
  rw [← hA] at Y
  have hvm : s'.vm = s.vm := by rw [hA]; rfl
  have hhp : s'.heap = H := by rw [hA]; exact hT
  have hW0 : s.WarmedH s'.vm := by rw [hvm]; exact State.WarmedH.refl s
  have w1 : ∀ w ∈ nsL.filter vx_no, w.before args s = true := hX.hat nsVb hat E.2.2.2.2.1
  have w2 : ∀ w ∈ nsL.filter vx_no, w.before args s' = true := fun w hw => vx_ot_at hW0 hvm.symm (List.all_eq_true.mp nsVo w hw) (w1 w hw)
  have hk' : (Cond.classLink RX10 171 nsX).before args s' = true := vx_ot_at hW0 hvm.symm (by rfl) (E.2.2.2.2.1 _ hk)
  have hini' : (Cond.initialized nsX).before args s' = true := vx_ot_at hW0 hvm.symm (by rfl) (E.2.2.2.2.1 _ hini)
  have hU' : vx_Zq Bundle.tN "UNASSIGNED_STACK" Bundle.steD A s' s'.heap := by rw [hhp]; exact vx_Zq.moved hW0.alike (hX.2.2.1.kept hS.2.1)
  have hN' : vx_Zq Bundle.tN "SUPPRESSED_SENTINEL" Bundle.listD A s' s'.heap := by rw [hhp]; exact vx_Zq.moved hW0.alike (hX.2.2.2.1.kept hS.2.1)
  have w3 : ∀ w ∈ nsL, w.before args s' = true := vx_own w2 (vx_isRefq hU'.1) (vx_isRefq hN'.1) hU'.2.word hN'.2.word
  have hown' : s'.vm.findClass RX10 = some m.cls := by rw [hvm]; exact E.2.2.2.1
  have hins : (Cond.instantiable nsX 6).before args s' = true := w3 _ (nsM5 _ (by decide))
  obtain ⟨vm₁, cX, kX, hfX, hkX, -, -, X₁, st1⟩ := Y.newCold hexec (own := RX10) (C := nsX) (index := 171) (n := 6) hown' hk' hins hini'
    (g := F0 m pc ls rest) rfl (by rw [hb]; exact d0) (Nat.le_refl _) (Nat.le_refl _)
  generalize hT1 : (T.setVm vm₁).pushCell { cls := cX, slots := kX.instanceTypes.map defaultValue, vm := .none } = T1 at X₁ st1
  have hcat : (Value.ref T.heap.size).category = 1 := rfl
  have hcellA : T1.heap[T.heap.size]? = some (freshCell cX kX) := by rw [← hT1]; exact State.heap_pushCell_size _ _
  have d3' : decode c.code (pc + 3) = .ok (.dup, 1) := by rw [hb]; exact d3
  have d4' : decode c.code (pc + 4) = .ok (.ldc is, 2) := by rw [hb]; exact d4
  have hstr' := vk_R.warm hW0 (hX.2.2.2.2.1 _ hq)
  obtain ⟨U, hsteps, hrun, hend, hW, hsame, ce, hce, hO1, hO2⟩ := ns_run X₁ hexec htr hown' w3 (fun x hx => nomatch hx) hfX hkX hcellA (by rw [hhp, hT]; exact Nat.le_refl _) (msg := .ref (cy (300 + k9))) rfl
    (g := { method := m, pc := pc + 6, locals := ls, stack := .ref (cy (300 + k9)) :: .ref T.heap.size :: .ref T.heap.size :: rest, locked := none }) rfl (hls.trans E.2.2.1.symm) rfl rfl (rest := rest) rfl
    (by rw [hb]; exact d6) (by rw [hb]; exact d9) (fun x hx => (hT0 x hx).elim) hR.1 (by simp only [List.map_cons, List.sum_cons, hcat]; have := hR.2; show 2 * 0 + _ + 81 ≤ R.locals; omega) E.2.2.2.2.2.2.1
  obtain ⟨f1, f2⟩ := vx_frame hsame
  rw [hhp] at f1 f2
  have hWs : s.WarmedH U.vm := State.WarmedH.trans hW0 hW
  have hcl : s.vm.findClass nsX = some ce.cls := by
    rw [hvm] at hO1
    exact hO1
  have hall : s.sameButNew ({ U with vm := s.vm } : State) locs mc ms := by
    subst hA
    obtain ⟨e1, e2⟩ := hsame
    rw [State.setFrames_setFrames] at e1
    have h2 : (T.setVm s.vm).sameButNew ({ U with vm := s.vm } : State) [] (0 + 1) (0 + 6) := ⟨e1, e2⟩
    have h3 := X.same.trans h2
    rw [List.append_nil] at h3
    exact h3.mono hc.2.1 hc.2.2
  refine ⟨U, ?_, .threw T.heap.size, hrun, hend, Or.inr ⟨T.heap.size, rfl, nsX, ce, locs, XK.mk h E.2.2.2.2.2.1 hx hWs.alike f1 (fun q hq => f2 q hq (fun z hz => nomatch hz)), hce, hO2, hcl, hWs, hall, hS.2.2⟩⟩
  refine st1 _ ?_
  show Steps p.tables e below (T1.setTop { method := m, pc := pc + 3, locals := ls, stack := .ref T.heap.size :: rest, locked := none }) _
  jvm_step X₁.here [X₁.here.top, hexec, d3', Value.category]
  exact X₁.ldcString hexec (own := RX10) (text := text) (index := is) (a := cy (300 + k9)) hown' hstr'.1 hstr'.2
    (g := { method := m, pc := pc + 4, locals := ls, stack := .ref T.heap.size :: .ref T.heap.size :: rest, locked := none }) rfl d4' _ hsteps
end NST
