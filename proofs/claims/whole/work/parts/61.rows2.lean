/-- the content of a row of longs is what it holds at its places -/
theorem Hp.reconL {G : va_G} {ws : va_W} {A : Nat → Prop} {H0 H : Heap} {locs : List Loc} (h : Hp G ws A H0 H locs) {cy : Nat → ClassId} {q a n : Nat} {f g : Int → Int64} (hq : ws[q]? = some (a, aL cy n f)) (e : ∀ j : Int, 0 ≤ j → j < n → f j = g j) : ∃ u : va_W, Hp G u A H0 H locs ∧ Up1 ws u q (a, aL cy n g) := by
  refine ⟨ws.set q (a, aL cy n g), ⟨?_, h.2.1.set hq, h.2.2⟩, Up1.of hq⟩
  refine h.1.set h.2.1 hq ?_ (fun _ _ => rfl)
  have h1 := h.1 q _ hq
  show H[a]? = some (vp_cell (cy 1) (n, .inr (.inl _)))
  have h2 : H[a]? = some (vp_cell (cy 1) (n, .inr (.inl fun j : Nat => f (j : Int)))) := h1
  rw [h2, vp_cell_l, vp_cell_l]
  congr 1
  unfold arrV
  congr 1
  apply Array.ext
  · simp
  · intro i h3 h4
    simp only [Array.getElem_ofFn]
    rw [e i (by omega) (by simp at h3; omega)]
theorem Hp.reconB {G : va_G} {ws : va_W} {A : Nat → Prop} {H0 H : Heap} {locs : List Loc} (h : Hp G ws A H0 H locs) {cy : Nat → ClassId} {q a n : Nat} {f g : Int → Int} (hq : ws[q]? = some (a, aB cy n f)) (e : ∀ j : Int, 0 ≤ j → j < n → f j = g j) : ∃ u : va_W, Hp G u A H0 H locs ∧ Up1 ws u q (a, aB cy n g) := by
  refine ⟨ws.set q (a, aB cy n g), ⟨?_, h.2.1.set hq, h.2.2⟩, Up1.of hq⟩
  refine h.1.set h.2.1 hq ?_ (fun _ _ => rfl)
  have h1 := h.1 q _ hq
  show H[a]? = some (vp_cell (cy 2) (n, .inl _))
  have h2 : H[a]? = some (vp_cell (cy 2) (n, .inl fun j : Nat => zI (f (j : Int)))) := h1
  rw [h2, vp_cell_i, vp_cell_i]
  congr 1
  unfold arrV
  congr 1
  apply Array.ext
  · simp
  · intro i h3 h4
    simp only [Array.getElem_ofFn]
    rw [e i (by omega) (by simp at h3; omega)]
section ZC
variable {p : Program} {l : Launch} {e : Env} {R : Room} {s : State} {m : MethodId} {args : Array Value} {below : List Frame} {meth : Method} {c : Code} {H : Heap} {locs : List Loc} {cells slots : Nat} {Q : State → Prop}
variable {cc : ByteArray} {nL pc : Nat} {ret : Option FieldType} {ls : Array Slot} {rest : List Value} {wds : List Cond} {own : String} {G : va_G} {cy : Nat → ClassId} {A : Nat → Prop} {ws : va_W} {H0 : Heap}
theorem r_mmax (E : Ev p s m meth c args cc nL ret wds own G cy) {index : Nat} (h1 : Cond.methodLink own index Lib.Math.max.name ∈ wds) (h2 : Cond.static Lib.Math.max.name ∈ wds) (h3 : Cond.initialized "java/lang/Math" ∈ wds) (h4 : Cond.code Lib.Math.max.name Lib.Math.max.code 2 (some .int) ∈ wds) (hls : ls.size = nL) (hR : 1 ≤ R.frames ∧ (rest.map fun v => v.category).sum + 13 ≤ R.locals) (hc : cells ≤ R.cells ∧ slots ≤ R.slots) {a b : Int} (hb : (-2147483648 ≤ a ∧ a ≤ 2147483647) ∧ (-2147483648 ≤ b ∧ b ≤ 2147483647)) (hdg : decode cc pc = .ok (.invokestatic index, 3)) (k : ∀ z : Int, (z = a ∧ b ≤ a ∨ z = b ∧ a < b) → W p l e R s m args below meth c H locs cells slots Q (F0 m (pc + 3) ls (.int (zI z) :: rest))) : W p l e R s m args below meth c H locs cells slots Q (F0 m pc ls (.int (zI b) :: .int (zI a) :: rest)) :=
  va_mmax E.1 E.2.1 (E.2.2.1.trans hls.symm) E.2.2.2.1 (E.2.2.2.2.1 _ h1) (E.2.2.2.2.1 _ h2) (E.2.2.2.2.1 _ h3) (E.2.2.2.2.1 _ h4) hR.1 hR.2 hc.1 hc.2 hdg (by
    by_cases q : a < b
    · rw [if_pos ((zI_lt hb).mpr q)]; exact k b (Or.inr ⟨rfl, q⟩)
    · rw [if_neg (fun e => q ((zI_lt hb).mp e))]; exact k a (Or.inl ⟨rfl, by omega⟩))
theorem r_mmin (E : Ev p s m meth c args cc nL ret wds own G cy) {index : Nat} (h1 : Cond.methodLink own index Lib.Math.min.name ∈ wds) (h2 : Cond.static Lib.Math.min.name ∈ wds) (h3 : Cond.initialized "java/lang/Math" ∈ wds) (h4 : Cond.code Lib.Math.min.name Lib.Math.min.code 2 (some .int) ∈ wds) (hls : ls.size = nL) (hR : 1 ≤ R.frames ∧ (rest.map fun v => v.category).sum + 13 ≤ R.locals) (hc : cells ≤ R.cells ∧ slots ≤ R.slots) {a b : Int} (hb : (-2147483648 ≤ a ∧ a ≤ 2147483647) ∧ (-2147483648 ≤ b ∧ b ≤ 2147483647)) (hdg : decode cc pc = .ok (.invokestatic index, 3)) (k : ∀ z : Int, (z = a ∧ a ≤ b ∨ z = b ∧ b < a) → W p l e R s m args below meth c H locs cells slots Q (F0 m (pc + 3) ls (.int (zI z) :: rest))) : W p l e R s m args below meth c H locs cells slots Q (F0 m pc ls (.int (zI b) :: .int (zI a) :: rest)) :=
  va_mmin E.1 E.2.1 (E.2.2.1.trans hls.symm) E.2.2.2.1 (E.2.2.2.2.1 _ h1) (E.2.2.2.2.1 _ h2) (E.2.2.2.2.1 _ h3) (E.2.2.2.2.1 _ h4) hR.1 hR.2 hc.1 hc.2 hdg (by
    first
    | (by_cases q : a ≤ b
       · rw [if_pos ((zI_le hb).mpr q)]; exact k a (Or.inl ⟨rfl, q⟩)
       · rw [if_neg (fun e => q ((zI_le hb).mp e))]; exact k b (Or.inr ⟨rfl, by omega⟩))
    | (by_cases q : b < a
       · rw [if_pos ((zI_lt hb.symm).mpr q)]; exact k b (Or.inr ⟨rfl, q⟩)
       · rw [if_neg (fun e => q ((zI_lt hb.symm).mp e))]; exact k a (Or.inl ⟨rfl, by omega⟩))
    | (by_cases q : a < b
       · rw [if_pos ((zI_lt hb).mpr q)]; exact k a (Or.inl ⟨rfl, by omega⟩)
       · rw [if_neg (fun e => q ((zI_lt hb).mp e))]
         by_cases q2 : a = b
         · subst q2; exact k a (Or.inl ⟨rfl, by omega⟩)
         · exact k b (Or.inr ⟨rfl, by omega⟩)))
theorem r_lmax (E : Ev p s m meth c args cc nL ret wds own G cy) {index : Nat} (h1 : Cond.methodLink own index Lib.MathLoose.max_long.x ∈ wds) (h2 : Cond.static Lib.MathLoose.max_long.x ∈ wds) (h3 : Cond.initialized "java/lang/Math" ∈ wds) (h4 : Cond.code Lib.MathLoose.max_long.x Lib.MathLoose.max_long.code 4 (some .long) ∈ wds) (hls : ls.size = nL) (hR : 1 ≤ R.frames ∧ (rest.map fun v => v.category).sum + 15 ≤ R.locals) (hc : cells ≤ R.cells ∧ slots ≤ R.slots) {a b : Int} (hb : (-9223372036854775808 ≤ a ∧ a ≤ 9223372036854775807) ∧ (-9223372036854775808 ≤ b ∧ b ≤ 9223372036854775807)) (hdg : decode cc pc = .ok (.invokestatic index, 3)) (k : ∀ z : Int, (z = a ∧ b ≤ a ∨ z = b ∧ a < b) → W p l e R s m args below meth c H locs cells slots Q (F0 m (pc + 3) ls (.long (zL z) :: rest))) : W p l e R s m args below meth c H locs cells slots Q (F0 m pc ls (.long (zL b) :: .long (zL a) :: rest)) :=
  va_mmax_long E.1 E.2.1 (E.2.2.1.trans hls.symm) E.2.2.2.1 (E.2.2.2.2.1 _ h1) (E.2.2.2.2.1 _ h2) (E.2.2.2.2.1 _ h3) (E.2.2.2.2.1 _ h4) hR.1 hR.2 hc.1 hc.2 hdg (by
    by_cases q : b < a
    · rw [if_pos ((zL_lt hb.symm).mpr q)]; exact k a (Or.inl ⟨rfl, by omega⟩)
    · rw [if_neg (fun e => q ((zL_lt hb.symm).mp e))]
      by_cases q2 : a = b
      · subst q2; exact k a (Or.inl ⟨rfl, by omega⟩)
      · exact k b (Or.inr ⟨rfl, by omega⟩))
theorem r_lmin (E : Ev p s m meth c args cc nL ret wds own G cy) {index : Nat} (h1 : Cond.methodLink own index Lib.MathLoose.min_long.x ∈ wds) (h2 : Cond.static Lib.MathLoose.min_long.x ∈ wds) (h3 : Cond.initialized "java/lang/Math" ∈ wds) (h4 : Cond.code Lib.MathLoose.min_long.x Lib.MathLoose.min_long.code 4 (some .long) ∈ wds) (hls : ls.size = nL) (hR : 1 ≤ R.frames ∧ (rest.map fun v => v.category).sum + 15 ≤ R.locals) (hc : cells ≤ R.cells ∧ slots ≤ R.slots) {a b : Int} (hb : (-9223372036854775808 ≤ a ∧ a ≤ 9223372036854775807) ∧ (-9223372036854775808 ≤ b ∧ b ≤ 9223372036854775807)) (hdg : decode cc pc = .ok (.invokestatic index, 3)) (k : ∀ z : Int, (z = a ∧ a ≤ b ∨ z = b ∧ b < a) → W p l e R s m args below meth c H locs cells slots Q (F0 m (pc + 3) ls (.long (zL z) :: rest))) : W p l e R s m args below meth c H locs cells slots Q (F0 m pc ls (.long (zL b) :: .long (zL a) :: rest)) :=
  va_mmin_long E.1 E.2.1 (E.2.2.1.trans hls.symm) E.2.2.2.1 (E.2.2.2.2.1 _ h1) (E.2.2.2.2.1 _ h2) (E.2.2.2.2.1 _ h3) (E.2.2.2.2.1 _ h4) hR.1 hR.2 hc.1 hc.2 hdg (by
    first
    | (by_cases q : a < b
       · rw [if_pos ((zL_lt hb).mpr q)]; exact k a (Or.inl ⟨rfl, by omega⟩)
       · rw [if_neg (fun e => q ((zL_lt hb).mp e))]
         by_cases q2 : a = b
         · subst q2; exact k a (Or.inl ⟨rfl, by omega⟩)
         · exact k b (Or.inr ⟨rfl, by omega⟩))
    | (by_cases q : b < a
       · rw [if_pos ((zL_lt hb.symm).mpr q)]; exact k b (Or.inr ⟨rfl, q⟩)
       · rw [if_neg (fun e => q ((zL_lt hb.symm).mp e))]; exact k a (Or.inl ⟨rfl, by omega⟩))
    | (by_cases q : a ≤ b
       · rw [if_pos ((zL_le hb).mpr q)]; exact k a (Or.inl ⟨rfl, q⟩)
       · rw [if_neg (fun e => q ((zL_le hb).mp e))]; exact k b (Or.inr ⟨rfl, by omega⟩)))
/-- a whole row of longs copied over another -/
theorem r_cpyL (E : Ev p s m meth c args cc nL ret wds own G cy) (h : Hp G ws A H0 H locs) {index : Nat} (h1 : Cond.methodLink own index arraycopyName ∈ wds) (h2 : Cond.native arraycopyName ∈ wds) (h3 : Cond.static arraycopyName ∈ wds) (h4 : Cond.initialized "java/lang/System" ∈ wds) {q0 q1 a0 a1 N : Nat} {f g : Int → Int64} (he0 : ws[q0]? = some (a0, aL cy N f)) (he1 : ws[q1]? = some (a1, aL cy N g)) (hls : ls.size = nL) (hR : 1 ≤ R.frames ∧ (rest.map fun v => v.category).sum + (nativeFrameWords "java/lang/System" "arraycopy" 5 + 11) ≤ R.locals) (hN : N ≤ 100000) (hdg : decode cc pc = .ok (.invokestatic index, 3))
    (kk : ∀ (ws1 : va_W) (H1 : Heap) (locs1 : List Loc), Hp G ws1 A H0 H1 locs1 → Up1 ws ws1 q1 (a1, aL cy N f) → W p l e R s m args below meth c H1 locs1 cells slots Q (F0 m (pc + 3) ls rest)) : W p l e R s m args below meth c H locs cells slots Q (F0 m pc ls (.int (zI (N : Int)) :: .int (zI 0) :: .ref a1 :: .int (zI 0) :: .ref a0 :: rest)) := by
  have z0 : (zI 0).toNatClampNeg = 0 := by decide
  have zN : (zI (N : Int)).toNatClampNeg = N := by rw [zI_clamp (by omega)]; omega
  refine va_copyl E.1 E.2.1 (E.2.2.1.trans hls.symm) E.2.2.2.1 (E.2.2.2.2.1 _ h1) (E.2.2.2.2.1 _ h2) (E.2.2.2.2.1 _ h3) (E.2.2.2.2.1 _ h4) E.2.2.2.2.2.1 h.1 h.2.1 h.2.2.1 q0 q1 1 1 he0 he1 rfl rfl rfl (by decide) (by decide) ?_ (by rw [z0, zN]; omega) (by rw [z0, zN]; omega) (fun _ _ => rfl) hR.1 hR.2 hdg (fun H1 locs1 hP hD hS => ?_)
  · intro hh
    rw [Int32.lt_iff_toInt_lt, zI_toInt (by omega)] at hh
    simp at hh; omega
  · rw [z0, zN, show va_cpy (fun j : Nat => f (j : Int)) (fun j : Nat => g (j : Int)) 0 0 N = (fun j : Nat => (fun x : Int => if x < (N : Int) then f x else g x) (j : Int)) from by
      funext j
      unfold va_cpy
      by_cases q : j < N
      · rw [if_pos ⟨Nat.zero_le _, by omega⟩]
        show f ((0 + (j - 0) : Nat) : Int) = if (j : Int) < (N : Int) then _ else _
        rw [if_pos (by omega), show 0 + (j - 0) = j by omega]
      · rw [if_neg (by omega)]
        show g (j : Int) = if (j : Int) < (N : Int) then _ else _
        rw [if_neg (by omega)]] at hP hD
    have hh : Hp G (ws.set q1 (a1, aL cy N (fun x : Int => if x < (N : Int) then f x else g x))) A H0 H1 locs1 := ⟨hP, hD, hS, h.2.2.2⟩
    have hu := Up1.of (x := (a1, aL cy N (fun x : Int => if x < (N : Int) then f x else g x))) he1
    obtain ⟨u, k1, k2⟩ := hh.reconL (g := f) hu.1 (fun j h0 h1 => if_pos h1)
    exact kk u H1 locs1 k1 ⟨k2.1, by rw [k2.2.1, hu.2.1], fun j hj => (k2.2.2 j hj).trans (hu.2.2 j hj)⟩
/-- the beginning of a row of ints copied to another -/
theorem r_cpyI (E : Ev p s m meth c args cc nL ret wds own G cy) (h : Hp G ws A H0 H locs) {index : Nat} (h1 : Cond.methodLink own index arraycopyName ∈ wds) (h2 : Cond.native arraycopyName ∈ wds) (h3 : Cond.static arraycopyName ∈ wds) (h4 : Cond.initialized "java/lang/System" ∈ wds) {q0 q1 a0 a1 M N : Nat} {f g : Int → Int} (he0 : ws[q0]? = some (a0, aI cy M f)) (he1 : ws[q1]? = some (a1, aI cy N g)) (hls : ls.size = nL) (hR : 1 ≤ R.frames ∧ (rest.map fun v => v.category).sum + (nativeFrameWords "java/lang/System" "arraycopy" 5 + 11) ≤ R.locals) (hN : N ≤ M ∧ M ≤ 100000) (hdg : decode cc pc = .ok (.invokestatic index, 3)) {n : Int} (hn : n = (N : Int))
    (kk : ∀ (ws1 : va_W) (H1 : Heap) (locs1 : List Loc), Hp G ws1 A H0 H1 locs1 → Up1 ws ws1 q1 (a1, aI cy N f) → W p l e R s m args below meth c H1 locs1 cells slots Q (F0 m (pc + 3) ls rest)) : W p l e R s m args below meth c H locs cells slots Q (F0 m pc ls (.int (zI n) :: .int (zI 0) :: .ref a1 :: .int (zI 0) :: .ref a0 :: rest)) := by
  subst hn
  have z0 : (zI 0).toNatClampNeg = 0 := by decide
  have zN : (zI (N : Int)).toNatClampNeg = N := by rw [zI_clamp (by omega)]; omega
  refine va_copyi E.1 E.2.1 (E.2.2.1.trans hls.symm) E.2.2.2.1 (E.2.2.2.2.1 _ h1) (E.2.2.2.2.1 _ h2) (E.2.2.2.2.1 _ h3) (E.2.2.2.2.1 _ h4) E.2.2.2.2.2.1 h.1 h.2.1 h.2.2.1 q0 q1 0 0 he0 he1 rfl rfl rfl (by decide) (by decide) ?_ (by rw [z0, zN]; omega) (by rw [z0, zN]; omega) (fun _ _ => rfl) hR.1 hR.2 hdg (fun H1 locs1 hP hD hS => ?_)
  · intro hh
    rw [Int32.lt_iff_toInt_lt, zI_toInt (by omega)] at hh
    simp at hh; omega
  · rw [z0, zN, show va_cpy (fun j : Nat => zI (f (j : Int))) (fun j : Nat => zI (g (j : Int))) 0 0 N = (fun j : Nat => zI ((fun x : Int => if x < (N : Int) then f x else g x) (j : Int))) from by
      funext j
      unfold va_cpy
      by_cases q : j < N
      · rw [if_pos ⟨Nat.zero_le _, by omega⟩]
        show zI (f ((0 + (j - 0) : Nat) : Int)) = zI (if (j : Int) < (N : Int) then _ else _)
        rw [if_pos (by omega), show 0 + (j - 0) = j by omega]
      · rw [if_neg (by omega)]
        show zI (g (j : Int)) = zI (if (j : Int) < (N : Int) then _ else _)
        rw [if_neg (by omega)]] at hP hD
    have hh : Hp G (ws.set q1 (a1, aI cy N (fun x : Int => if x < (N : Int) then f x else g x))) A H0 H1 locs1 := ⟨hP, hD, hS, h.2.2.2⟩
    have hu := Up1.of (x := (a1, aI cy N (fun x : Int => if x < (N : Int) then f x else g x))) he1
    obtain ⟨u, k1, k2⟩ := hh.recon (g := f) hu.1 (fun j h0 h1 => if_pos h1)
    exact kk u H1 locs1 k1 ⟨k2.1, by rw [k2.2.1, hu.2.1], fun j hj => (k2.2.2 j hj).trans (hu.2.2 j hj)⟩
/-- a new object -/
theorem r_newO (E : Ev p s m meth c args cc nL ret wds own G cy) (h : Hp G ws A H0 H locs) {C : String} {T : u_T} {N ci index : Nat} (hc : vwCl[ci]? = some (C, T, N)) (hin : ∀ w ∈ u_ws C T N, w ∈ wds) (ty : Nat → FieldType) (hty : ∀ k, k < N → parseFieldDescriptor (T k).2.2.1 = some (ty k)) (hcl : Cond.classLink own index C ∈ wds) (hinst : Cond.instantiable C N ∈ wds) (hini : Cond.initialized C ∈ wds) {fs : List Value} (hfs : ∀ j, j < N → defaultValue (ty j) = vp_V fs j) (hcells : cells + 1 ≤ R.cells) (hslots : slots + N ≤ R.slots) (hdg : decode cc pc = .ok (.new index, 3))
    (kk : ∀ (q : Nat) (ws1 : va_W) (H1 : Heap), Ap1 ws ws1 (q, .inr (ci, fs)) → Hp G ws1 A H0 H1 locs → W p l e R s m args below meth c H1 locs (cells + 1) (slots + N) Q (F0 m (pc + 3) ls (.ref q :: rest))) : W p l e R s m args below meth c H locs cells slots Q (F0 m pc ls rest) :=
  va_new E.1 E.2.1 E.2.2.2.2.1 hin ty hty E.2.2.2.1 (E.2.2.2.2.1 _ hcl) (E.2.2.2.2.1 _ hinst) (E.2.2.2.2.1 _ hini) E.2.2.2.2.2.1 h.1 h.2.1 h.2.2.1 h.2.2.2 hc hfs hcells hslots hdg (fun q H1 hP hD hS => kk q _ H1 rfl ⟨hP, hD, hS, h.2.2.2⟩)
theorem r_objI (E : Ev p s m meth c args cc nL ret wds own G cy) {idx a : Nat} (h1 : Cond.methodLink own idx Lib.objectInit ∈ wds) (h2 : Cond.instanceMethod Lib.objectInit ∈ wds) (h3 : Cond.code Lib.objectInit ⟨#[0xb1]⟩ 1 none ∈ wds) (hls : ls.size = nL) (hR : 1 ≤ R.frames ∧ (rest.map fun v => v.category).sum + 12 ≤ R.locals) (hdg : decode cc pc = .ok (.invokespecial idx, 3)) (k : W p l e R s m args below meth c H locs cells slots Q (F0 m (pc + 3) ls rest)) : W p l e R s m args below meth c H locs cells slots Q (F0 m pc ls (.ref a :: rest)) :=
  W.objInit E.1 E.2.1 E.2.2.2.1 (E.2.2.2.2.1 _ h1) (E.2.2.2.2.1 _ h2) (E.2.2.2.2.1 _ h3) rfl (by show ls.size = _; rw [hls, E.2.2.1]) rfl hdg hR.1 (by show 2 * 0 + _ + 12 ≤ _; have := hR.2; omega) k
/-- a new row of references -/
theorem r_newR (E : Ev p s m meth c args cc nL ret wds own G cy) (h : Hp G ws A H0 H locs) {C : String} {t index : Nat} (ht : (tyL cy)[t]? = some (cy t, .object C)) {n : Int} {N : Nat} (hn : n = (N : Int) ∧ N ≤ 100000) (hcl : Cond.classLink own index C ∈ wds) (hov : Cond.arrayOver (.object C) ∈ wds) (hcells : cells + 1 ≤ R.cells) (hslots : slots + N ≤ R.slots) (hdg : decode cc pc = .ok (.anewarray index, 3))
    (kk : ∀ (q : Nat) (ws1 : va_W) (H1 : Heap), Ap1 ws ws1 (q, aR cy t N (fun _ => none)) → Hp G ws1 A H0 H1 locs → W p l e R s m args below meth c H1 locs (cells + 1) (slots + N) Q (F0 m (pc + 3) ls (.ref q :: rest))) : W p l e R s m args below meth c H locs cells slots Q (F0 m pc ls (.int (zI n) :: rest)) := by
  have hK := E.2.2.2.2.2.1
  obtain ⟨_, _, _, _, _, hc0⟩ := hK.2 t _ ht
  have hz : (zI n).toNatClampNeg = N := by rw [zI_clamp (by omega)]; omega
  refine va_newq E.1 E.2.1 E.2.2.2.1 (E.2.2.2.2.1 _ hcl) (va_AO.of (E.2.2.2.2.1 _ hov)) hK h.1 h.2.1 h.2.2.1 h.2.2.2 ?_ hz (by omega) hcells hslots hdg (fun q cA H1 hK1 hP1 hD1 hS1 => ?_)
  · intro hh
    rw [Int32.lt_iff_toInt_lt] at hh
    rw [zI_toInt (by omega)] at hh
    simp at hh; omega
  · obtain ⟨_, _, _, _, _, h9⟩ := hK1.2 (tyL cy).length (cA, .object C) (by simp)
    have e9 : some cA = some (cy t) := h9.2.symm.trans hc0.2
    cases e9
    exact kk q _ H1 rfl ⟨hP1, hD1, hS1, h.2.2.2⟩
theorem r_newB (E : Ev p s m meth c args cc nL ret wds own G cy) (h : Hp G ws A H0 H locs) {n : Int} {N : Nat} (hn : n = (N : Int) ∧ N ≤ 100000) (hw : Cond.arrayClass .byte ∈ wds) (hcells : cells + 1 ≤ R.cells) (hslots : slots + N ≤ R.slots) (hdg : decode cc pc = .ok (.newarray .byte, 2))
    (kk : ∀ (q : Nat) (ws1 : va_W) (H1 : Heap), Ap1 ws ws1 (q, aB cy N (fun _ => 0)) → Hp G ws1 A H0 H1 locs → W p l e R s m args below meth c H1 locs (cells + 1) (slots + N) Q (F0 m (pc + 2) ls (.ref q :: rest))) : W p l e R s m args below meth c H locs cells slots Q (F0 m pc ls (.int (zI n) :: rest)) := by
  have hK := E.2.2.2.2.2.1
  have hc0 := (hK.2 2 _ (show (tyL cy)[2]? = some (cy 2, .byte) from rfl)).2
  have hz : (zI n).toNatClampNeg = N := by rw [zI_clamp (by omega)]; omega
  refine va_newa (atype := .byte) (a0 := (N, .inl (fun j : Nat => zI ((fun _ => (0 : Int)) (j : Int))))) (ty := .byte) E.1 E.2.1 (E.2.2.2.2.1 _ hw) rfl hK h.1 h.2.1 h.2.2.1 h.2.2.2 (fun cA => by rw [vp_cell_i]; rfl) ?_ hz (by show N * 1 ≤ _; omega) hcells hslots hdg (fun q cA H1 hK1 hP1 hD1 hS1 => ?_)
  · intro hh
    rw [Int32.lt_iff_toInt_lt] at hh
    rw [zI_toInt (by omega)] at hh
    simp at hh; omega
  · have h9 := (hK1.2 (tyL cy).length (cA, .byte) (by simp)).2
    have e9 : some cA = some (cy 2) := h9.symm.trans hc0
    cases e9
    exact kk q _ H1 rfl ⟨hP1, hD1, hS1, h.2.2.2⟩
theorem r_tout (E : Ev p s m meth c args cc nL ret wds own G cy) {dflt lo hi : Int} {offs : Array Int} {len : Nat} {a : Int} (tgt : Nat) (hdg : decode cc pc = .ok (.tableswitch dflt lo hi offs, len)) (hb : -2147483648 ≤ a ∧ a ≤ 2147483647) (h : a < lo ∨ hi < a) (ht : (pc : Int) + dflt = (tgt : Int)) (k : W p l e R s m args below meth c H locs cells slots Q (F0 m tgt ls rest)) : W p l e R s m args below meth c H locs cells slots Q (F0 m pc ls (.int (zI a) :: rest)) := lv_tableOut E.1 E.2.1 hdg (by rw [zI_toInt hb]; exact h) ht k
theorem r_tin (E : Ev p s m meth c args cc nL ret wds own G cy) {dflt lo hi : Int} {offs : Array Int} {len : Nat} {a v off : Int} (tgt : Nat) (hdg : decode cc pc = .ok (.tableswitch dflt lo hi offs, len)) (hv : a = v) (hb : (-2147483648 ≤ v ∧ v ≤ 2147483647) ∧ lo ≤ v ∧ v ≤ hi) (ho : offs[(v - lo).toNat]? = some off) (ht : (pc : Int) + off = (tgt : Int)) (k : W p l e R s m args below meth c H locs cells slots Q (F0 m tgt ls rest)) : W p l e R s m args below meth c H locs cells slots Q (F0 m pc ls (.int (zI a) :: rest)) := by
  subst hv
  exact lv_tableIn E.1 E.2.1 hdg (by rw [zI_toInt hb.1]; omega) (by rw [zI_toInt hb.1]; omega) (by rw [zI_toInt hb.1]; exact ho) ht k
theorem r_acmp_eq (E : Ev p s m meth c args cc nL ret wds own G cy) {x y : Nat} {off : Int} (tgt : Nat) (hdg : decode cc pc = .ok (.if_acmp .eq off, 3)) (ht : (pc : Int) + off = (tgt : Int)) (kt : x = y → W p l e R s m args below meth c H locs cells slots Q (F0 m tgt ls rest)) (kf : ¬ x = y → W p l e R s m args below meth c H locs cells slots Q (F0 m (pc + 3) ls rest)) : W p l e R s m args below meth c H locs cells slots Q (F0 m pc ls (.ref y :: .ref x :: rest)) := lv_acmp_eq (rx := some x) (ry := some y) E.1 E.2.1 hdg ht (fun h => kt (Option.some.inj h)) (fun h => kf (fun e => h (congrArg some e)))
theorem r_ifnull (E : Ev p s m meth c args cc nL ret wds own G cy) {x : Nat} {off : Int} (hdg : decode cc pc = .ok (.ifnull off, 3)) (k : W p l e R s m args below meth c H locs cells slots Q (F0 m (pc + 3) ls rest)) : W p l e R s m args below meth c H locs cells slots Q (F0 m pc ls (.ref x :: rest)) := lv_ifnull E.1 E.2.1 hdg k
theorem r_ifnn (E : Ev p s m meth c args cc nL ret wds own G cy) {x : Nat} {off : Int} (tgt : Nat) (hdg : decode cc pc = .ok (.ifnonnull off, 3)) (ht : (pc : Int) + off = (tgt : Int)) (k : W p l e R s m args below meth c H locs cells slots Q (F0 m tgt ls rest)) : W p l e R s m args below meth c H locs cells slots Q (F0 m pc ls (.ref x :: rest)) := lv_ifnonnull E.1 E.2.1 hdg ht k
theorem r_ifnnN (E : Ev p s m meth c args cc nL ret wds own G cy) {off : Int} (hdg : decode cc pc = .ok (.ifnonnull off, 3)) (k : W p l e R s m args below meth c H locs cells slots Q (F0 m (pc + 3) ls rest)) : W p l e R s m args below meth c H locs cells slots Q (F0 m pc ls (.null :: rest)) := lv_ifnonnullN E.1 E.2.1 hdg k
theorem r_i2b (E : Ev p s m meth c args cc nL ret wds own G cy) {a : Int32} {b : Int} (hdg : decode cc pc = .ok (.i2b, 1)) (hv : a.toInt8.toInt32 = zI b) (k : W p l e R s m args below meth c H locs cells slots Q (F0 m (pc + 1) ls (.int (zI b) :: rest))) : W p l e R s m args below meth c H locs cells slots Q (F0 m pc ls (.int a :: rest)) := lv_i2b E.1 E.2.1 hdg hv k
theorem r_astore_nN (E : Ev p s m meth c args cc nL ret wds own G cy) {lv lv' : List (Nat × Value)} {k : Fin 4} {i : Nat} (h : lv_has ls nL lv) (hdg : decode cc pc = .ok (.astore_n k, 1)) (hi : (k : Nat) = i) (hn : i < nL) (hl : (i, Value.null) :: (lv.filter (fun q => !(q.1 == i) && !(q.1 + 1 == i && q.2.category == 2))) = lv') (kk : ∀ ls' : Array Slot, lv_has ls' nL lv' → W p l e R s m args below meth c H locs cells slots Q (F0 m (pc + 1) ls' rest)) : W p l e R s m args below meth c H locs cells slots Q (F0 m pc ls (.null :: rest)) := lv_astore_nN E.1 E.2.1 hdg hi h hn hl kk
end ZC
