section ZN
variable {p : Program} {l : Launch} {e : Env} {R : Room} {s : State} {m : MethodId} {args : Array Value} {below : List Frame} {meth : Method} {c : Code} {H : Heap} {locs : List Loc} {cells slots : Nat} {Q : State → Prop}
variable {cc : ByteArray} {nL pc : Nat} {ret : Option FieldType} {ls : Array Slot} {rest : List Value} {wds : List Cond} {own : String} {G : va_G} {cy : Nat → ClassId} {A : Nat → Prop} {ws : va_W} {H0 : Heap}
/-- a new row of ints -/
theorem r_newI (E : Ev p s m meth c args cc nL ret wds own G cy) (h : Hp G ws A H0 H locs) {n : Int} {N : Nat} (hn : n = (N : Int) ∧ N ≤ 100000) (hw : Cond.arrayClass .int ∈ wds) (hcells : cells + 1 ≤ R.cells) (hslots : slots + N ≤ R.slots) (hdg : decode cc pc = .ok (.newarray .int, 2))
    (kk : ∀ (q : Nat) (ws1 : va_W) (H1 : Heap), Ap1 ws ws1 (q, aI cy N (fun _ => 0)) → Hp G ws1 A H0 H1 locs → W p l e R s m args below meth c H1 locs (cells + 1) (slots + N) Q (F0 m (pc + 2) ls (.ref q :: rest))) : W p l e R s m args below meth c H locs cells slots Q (F0 m pc ls (.int (zI n) :: rest)) := by
  have hK := E.2.2.2.2.2.1
  have hc0 := (hK.2 0 _ (show (tyL cy)[0]? = some (cy 0, .int) from rfl)).2
  have hz : (zI n).toNatClampNeg = N := by rw [zI_clamp (by omega)]; omega
  refine va_newa (atype := .int) (a0 := (N, .inl (fun j : Nat => zI ((fun _ => (0 : Int)) (j : Int))))) (ty := .int) E.1 E.2.1 (E.2.2.2.2.1 _ hw) rfl hK h.1 h.2.1 h.2.2.1 h.2.2.2 (fun cA => by rw [vp_cell_i]; rfl) ?_ hz (by show N * 4 ≤ _; omega) hcells hslots hdg (fun q cA H1 hK1 hP1 hD1 hS1 => ?_)
  · intro hh
    rw [Int32.lt_iff_toInt_lt] at hh
    rw [zI_toInt (by omega)] at hh
    simp at hh; omega
  · have h9 := (hK1.2 (tyL cy).length (cA, .int) (by simp)).2
    have e9 : some cA = some (cy 0) := h9.symm.trans hc0
    cases e9
    exact kk q _ H1 rfl ⟨hP1, hD1, hS1, h.2.2.2⟩
theorem r_newL (E : Ev p s m meth c args cc nL ret wds own G cy) (h : Hp G ws A H0 H locs) {n : Int} {N : Nat} (hn : n = (N : Int) ∧ N ≤ 100000) (hw : Cond.arrayClass .long ∈ wds) (hcells : cells + 1 ≤ R.cells) (hslots : slots + N ≤ R.slots) (hdg : decode cc pc = .ok (.newarray .long, 2))
    (kk : ∀ (q : Nat) (ws1 : va_W) (H1 : Heap), Ap1 ws ws1 (q, aL cy N (fun _ => 0)) → Hp G ws1 A H0 H1 locs → W p l e R s m args below meth c H1 locs (cells + 1) (slots + N) Q (F0 m (pc + 2) ls (.ref q :: rest))) : W p l e R s m args below meth c H locs cells slots Q (F0 m pc ls (.int (zI n) :: rest)) := by
  have hK := E.2.2.2.2.2.1
  have hc0 := (hK.2 1 _ (show (tyL cy)[1]? = some (cy 1, .long) from rfl)).2
  have hz : (zI n).toNatClampNeg = N := by rw [zI_clamp (by omega)]; omega
  refine va_newa (atype := .long) (a0 := (N, .inr (.inl (fun j : Nat => (fun _ => (0 : Int64)) (j : Int))))) (ty := .long) E.1 E.2.1 (E.2.2.2.2.1 _ hw) rfl hK h.1 h.2.1 h.2.2.1 h.2.2.2 (fun cA => by rw [vp_cell_l]; rfl) ?_ hz (by show N * 8 ≤ _; omega) hcells hslots hdg (fun q cA H1 hK1 hP1 hD1 hS1 => ?_)
  · intro hh
    rw [Int32.lt_iff_toInt_lt] at hh
    rw [zI_toInt (by omega)] at hh
    simp at hh; omega
  · have h9 := (hK1.2 (tyL cy).length (cA, .long) (by simp)).2
    have e9 : some cA = some (cy 1) := h9.symm.trans hc0
    cases e9
    exact kk q _ H1 rfl ⟨hP1, hD1, hS1, h.2.2.2⟩
end ZN
