/-! classes and array classes at the law's start -/
theorem st_aC {args : Array Value} {s : State} {ty : FieldType} (h : (Cond.arrayClass ty).before args s = true) : ∃ cA : ClassId, ArrOfT s cA ty ∧ s.vm.findClass ("[" ++ ty.toString) = some cA := by
  obtain ⟨c, k, comp, h1, h2, h3⟩ := Cond.arrayClass_spec (args := args) (first := s) (o := none) (s := s) (idx := []) h
  exact ⟨c, fun n z => ⟨fun k h => (by cases h), k, h2, comp, h3⟩, h1⟩
theorem st_aO {args : Array Value} {s : State} {C : String} (h : (Cond.arrayOver (.object C)).before args s = true) : ∃ cA : ClassId, ArrOfT s cA (.object C) ∧ va_RA s cA (.object C) := by
  obtain ⟨comp, c, k, h1, h2, h3, h4, h5⟩ := Cond.arrayOver_spec (args := args) (first := s) (o := none) (s := s) (idx := []) h
  exact ⟨c, fun n z => ⟨fun k h => (by cases h), k, h3, comp, h4⟩, k, comp, h3, h4, h1, h5⟩
theorem st_aA {args : Array Value} {s : State} {ty : FieldType} (h : (Cond.arrayOver (.array ty)).before args s = true) : ∃ cA : ClassId, ArrOfT s cA (.array ty) ∧ va_RA s cA (.array ty) := by
  obtain ⟨comp, c, k, h1, h2, h3, h4, h5⟩ := arrayOverA_spec (args := args) (first := s) (o := none) (s := s) (idx := []) h
  exact ⟨c, fun n z => ⟨fun k h => (by cases h), k, h3, comp, h4⟩, h5⟩
theorem sk1 : Cond.arrayClass .int ∈ lw_tbl ∧ Cond.arrayClass .long ∈ lw_tbl ∧ Cond.arrayClass .byte ∈ lw_tbl ∧ Cond.arrayOver (.object RX0) ∈ lw_tbl ∧ Cond.arrayOver (.object RX4) ∈ lw_tbl ∧ Cond.arrayOver (.object RX6) ∈ lw_tbl ∧ Cond.arrayOver (.array .int) ∈ lw_tbl := by decide +kernel
theorem st_tys {b : Nat} {s : State} (hts : ∀ w ∈ lw_tbl, w.before #[Value.ref b] s = true) : ∃ ct : Nat → ClassId, ∀ cy : Nat → ClassId, (∀ k : Nat, k < 7 → cy k = ct k) → ∀ (k : Nat) (q : ClassId × FieldType), (tyL cy)[k]? = some q → ArrOfT s q.1 q.2 ∧ va_RA s q.1 q.2 := by
  obtain ⟨k1, k2, k3, k4, k5, k6, k7⟩ := sk1
  obtain ⟨c0, a0, b0⟩ := st_aC (hts _ k1)
  obtain ⟨c1, a1, b1⟩ := st_aC (hts _ k2)
  obtain ⟨c2, a2, b2⟩ := st_aC (hts _ k3)
  obtain ⟨c3, a3, b3⟩ := st_aO (hts _ k4)
  obtain ⟨c4, a4, b4⟩ := st_aO (hts _ k5)
  obtain ⟨c5, a5, b5⟩ := st_aO (hts _ k6)
  obtain ⟨c6, a6, b6⟩ := st_aA (hts _ k7)
  refine ⟨fun k => match k with | 0 => c0 | 1 => c1 | 2 => c2 | 3 => c3 | 4 => c4 | 5 => c5 | _ => c6, fun cy hcy k q hq => ?_⟩
  have e0 : cy 0 = c0 := hcy 0 (by decide)
  have e1 : cy 1 = c1 := hcy 1 (by decide)
  have e2 : cy 2 = c2 := hcy 2 (by decide)
  have e3 : cy 3 = c3 := hcy 3 (by decide)
  have e4 : cy 4 = c4 := hcy 4 (by decide)
  have e5 : cy 5 = c5 := hcy 5 (by decide)
  have e6 : cy 6 = c6 := hcy 6 (by decide)
  unfold tyL at hq
  rw [e0, e1, e2, e3, e4, e5, e6] at hq
  match k, hq with
  | 0, hq => cases hq; exact ⟨a0, b0⟩
  | 1, hq => cases hq; exact ⟨a1, b1⟩
  | 2, hq => cases hq; exact ⟨a2, b2⟩
  | 3, hq => cases hq; exact ⟨a3, b3⟩
  | 4, hq => cases hq; exact ⟨a4, b4⟩
  | 5, hq => cases hq; exact ⟨a5, b5⟩
  | 6, hq => cases hq; exact ⟨a6, b6⟩
  | k + 7, hq => simp at hq
