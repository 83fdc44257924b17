/-! the texts at the law's start -/
def nrF : List Cond := flatC (Jvm.Cond.and given_1 narrow_1)
def ixT : List Nat := [123, 129, 131, 150, 152, 154, 160, 165, 174]
def ixR : List Nat := [168, 170, 117, 134, 150, 107, 112, 122, 87]
def tmT (i : Nat) : Term := .string "SumColouringModel" (ixT.getD i 0)
theorem sx1 : ∀ i : Nat, i < 9 → Cond.exactly (tmT i) "java/lang/String" ∈ nrF := by decide +kernel
theorem sx2 : ∀ i : Nat, i < 9 → Cond.eq (.field (tmT i) "java/lang/String" "coder" "B") (.int 0) ∈ nrF := by decide +kernel
theorem sx3 : ∀ i : Nat, i < 9 → Cond.arrayOf (.field (tmT i) "java/lang/String" "value" "[B") .byte ∈ nrF := by decide +kernel
theorem sx4 : ∀ i : Nat, i < 9 → Cond.eq (.length (.field (tmT i) "java/lang/String" "value" "[B")) (.int (Int32.ofNat (lenST.getD i 0))) ∈ nrF := by decide +kernel
theorem sx5_0 : ∀ j : Nat, j < lenST.getD 0 0 → Cond.eq (.elem (.field (tmT 0) "java/lang/String" "value" "[B") (.int (Int32.ofNat j))) (.int ((bytST.getD 0 []).getD j 0)) ∈ nrF := by decide +kernel
theorem sx5_1 : ∀ j : Nat, j < lenST.getD 1 0 → Cond.eq (.elem (.field (tmT 1) "java/lang/String" "value" "[B") (.int (Int32.ofNat j))) (.int ((bytST.getD 1 []).getD j 0)) ∈ nrF := by decide +kernel
theorem sx5_2 : ∀ j : Nat, j < lenST.getD 2 0 → Cond.eq (.elem (.field (tmT 2) "java/lang/String" "value" "[B") (.int (Int32.ofNat j))) (.int ((bytST.getD 2 []).getD j 0)) ∈ nrF := by decide +kernel
theorem sx5_3 : ∀ j : Nat, j < lenST.getD 3 0 → Cond.eq (.elem (.field (tmT 3) "java/lang/String" "value" "[B") (.int (Int32.ofNat j))) (.int ((bytST.getD 3 []).getD j 0)) ∈ nrF := by decide +kernel
theorem sx5_4 : ∀ j : Nat, j < lenST.getD 4 0 → Cond.eq (.elem (.field (tmT 4) "java/lang/String" "value" "[B") (.int (Int32.ofNat j))) (.int ((bytST.getD 4 []).getD j 0)) ∈ nrF := by decide +kernel
theorem sx5_5 : ∀ j : Nat, j < lenST.getD 5 0 → Cond.eq (.elem (.field (tmT 5) "java/lang/String" "value" "[B") (.int (Int32.ofNat j))) (.int ((bytST.getD 5 []).getD j 0)) ∈ nrF := by decide +kernel
theorem sx5_6 : ∀ j : Nat, j < lenST.getD 6 0 → Cond.eq (.elem (.field (tmT 6) "java/lang/String" "value" "[B") (.int (Int32.ofNat j))) (.int ((bytST.getD 6 []).getD j 0)) ∈ nrF := by decide +kernel
theorem sx5_7 : ∀ j : Nat, j < lenST.getD 7 0 → Cond.eq (.elem (.field (tmT 7) "java/lang/String" "value" "[B") (.int (Int32.ofNat j))) (.int ((bytST.getD 7 []).getD j 0)) ∈ nrF := by decide +kernel
theorem sx5_8 : ∀ j : Nat, j < lenST.getD 8 0 → Cond.eq (.elem (.field (tmT 8) "java/lang/String" "value" "[B") (.int (Int32.ofNat j))) (.int ((bytST.getD 8 []).getD j 0)) ∈ nrF := by decide +kernel
theorem sx5 : ∀ i : Nat, i < 9 → ∀ j : Nat, j < lenST.getD i 0 → Cond.eq (.elem (.field (tmT i) "java/lang/String" "value" "[B") (.int (Int32.ofNat j))) (.int ((bytST.getD i []).getD j 0)) ∈ nrF := fun i hi => by
  match i, hi with
  | 0, _ => exact sx5_0
  | 1, _ => exact sx5_1
  | 2, _ => exact sx5_2
  | 3, _ => exact sx5_3
  | 4, _ => exact sx5_4
  | 5, _ => exact sx5_5
  | 6, _ => exact sx5_6
  | 7, _ => exact sx5_7
  | 8, _ => exact sx5_8
  | n + 9, h => exact absurd h (by omega)
theorem sx6 : ∀ i : Nat, i < 9 → Cond.eq (.string "SumColouring$SetupReader" (ixR.getD i 0)) (tmT i) ∈ nrF := by decide +kernel
theorem sx7 : ∀ q ∈ SRL, Cond.stringRef q.1 q.2.1 q.2.2.1 ∈ lw_tbl := by decide +kernel
theorem sx8 : ∀ q ∈ SRL, q.2.2.2 < 9 ∧ (q.1 = "SumColouringModel" ∧ q.2.1 = ixT.getD q.2.2.2 0 ∨ q.1 = "SumColouring$SetupReader" ∧ q.2.1 = ixR.getD q.2.2.2 0) := by decide +kernel
theorem sx9 : ∀ i : Nat, i < 9 → ∀ j : Nat, j < 9 → Int32.ofNat (lenST.getD i 0) = Int32.ofNat (lenST.getD j 0) → (∀ k : Nat, k < lenST.getD i 0 → (bytST.getD i []).getD k 0 = (bytST.getD j []).getD k 0) → i = j := by decide +kernel
theorem sxA : ∀ i : Nat, i < 9 → ∀ j : Nat, j < 9 → Int32.ofNat (lenST.getD i 0) = Int32.ofNat (lenST.getD j 0) → lenST.getD i 0 = lenST.getD j 0 := by decide +kernel
theorem sxB : ∀ i : Nat, i < 9 → lenST.getD i 0 < 2 ^ 31 := by decide +kernel
theorem sxC : ∀ q ∈ TRL, Cond.stringRef q.1 q.2.1 q.2.2.1 ∈ lw_tbl := by decide +kernel
theorem sxD : ∀ q ∈ TRL, ∀ r ∈ TRL, q.2.2.2 = r.2.2.2 → q = r := by decide +kernel
theorem sxG : ∀ q ∈ TRL, q.2.2.2 < 10 := by decide +kernel
/-- what one constant text is -/
def SOne (A : Nat → Prop) (s : State) (i k v : Nat) : Prop := va_O "java/lang/String" k A s s.heap ∧ va_OF "java/lang/String" "coder" "B" (.int 0) k A s s.heap ∧ va_OF "java/lang/String" "value" "[B" (.ref v) k A s s.heap ∧ va_T .byte v (lenST.getD i 0) (fun j => .int ((bytST.getD i []).getD j 0)) A s s.heap
theorem st_one {b : Nat} {s : State} (hgv : (Jvm.Cond.and given_1 narrow_1).before #[Value.ref b] s = true) {i : Nat} (hi : i < 9) : ∃ k v : Nat, SOne (fun q => s.heap.size ≤ q) s i k v ∧ (tmT i).eval #[Value.ref b] s none [] s = some (.ref k) := by
  have hf : ∀ w ∈ nrF, w.before #[Value.ref b] s = true := flat_of_before _ hgv
  obtain ⟨aK, aV, h1, h2⟩ := vk_Sof (args := #[Value.ref b]) (s := s) (N := 1) (tm := fun _ => tmT i) (len := [lenST.getD i 0]) (byt := [bytST.getD i []]) (A := fun q => s.heap.size ≤ q)
    (fun j hj => by obtain rfl : j = 0 := by omega
                    exact sxB i hi)
    (fun j hj => hf _ (sx1 i hi)) (fun j hj => hf _ (sx2 i hi)) (fun j hj => hf _ (sx3 i hi))
    (fun j hj => by obtain rfl : j = 0 := by omega
                    exact hf _ (sx4 i hi))
    (fun j hj k hk => by obtain rfl : j = 0 := by omega
                         exact hf _ (sx5 i hi k hk))
    (fun j k hj hk hne => absurd (by omega) hne) (fun a h => Nat.not_le.mpr h)
  exact ⟨aK 0, aV 0, h1.1 0 (by decide), h2 0 (by decide)⟩
theorem SOne.inj {A : Nat → Prop} {s : State} {i j k v v2 : Nat} (hi : i < 9) (hj : j < 9) (h : SOne A s i k v) (h2 : SOne A s j k v2) : i = j := by
  obtain ⟨-, -, ⟨cf, kk, fi, f, cell, a1, a2, a3, a4, a5, a6⟩, t1, c1, c2, c3, c4, c5, c6, c7⟩ := h
  obtain ⟨-, -, ⟨cf', kk', fi', f', cell', b1, b2, b3, b4, b5, b6⟩, t2, d1, d2, d3, d4, d5, d6, d7⟩ := h2
  have e1 := a1.symm.trans b1
  simp only [Option.some.injEq, Prod.mk.injEq] at e1
  obtain ⟨-, -, -, rfl⟩ := e1
  obtain rfl : cell = cell' := Option.some.inj (a3.symm.trans b3)
  have e2 := a5.symm.trans b5
  simp only [Option.some.injEq, Value.ref.injEq] at e2
  subst e2
  obtain rfl : t1 = t2 := Option.some.inj (c1.symm.trans d1)
  have e3 : Int32.ofNat (lenST.getD i 0) = Int32.ofNat (lenST.getD j 0) := c5.symm.trans d5
  have e4 := sxA i hi j hj e3
  refine sx9 i hi j hj e3 (fun n hn => ?_)
  have e5 := (c6 n hn).symm.trans (d6 n (by omega))
  simp only [Option.some.injEq, Value.int.injEq] at e5
  exact e5
theorem st_str {args : Array Value} {s : State} {own tx : String} {k : Nat} (h : (Cond.stringRef own k tx).before args s = true) : ∃ a : Nat, (Term.string own k).eval args s none [] s = some (.ref a) := by
  cases hc : s.vm.findClass own with
  | none => simp [Cond.before, Cond.holds, Cond.value, hc] at h
  | some cur =>
    obtain ⟨kk, cf, i, a, -, -, -, -, -, he⟩ := Cond.stringRef_spec (args := args) (first := s) (o := none) (s := s) (idx := []) hc h
    exact ⟨a, he⟩
theorem sxE : Cond.laysStatic "java/lang/String" "COMPACT_STRINGS" "Z" ∈ lw_tbl ∧ Cond.initialized "java/lang/String" ∈ lw_tbl ∧ Cond.laysStatic "jdk/internal/util/Preconditions" "SIOOBE_FORMATTER" "Ljava/util/function/BiFunction;" ∈ lw_tbl ∧ Cond.initialized "jdk/internal/util/Preconditions" ∈ lw_tbl := by decide +kernel
theorem sxF : Cond.eq (.static "java/lang/String" "COMPACT_STRINGS" "Z") (.int 1) ∈ nrF ∧ Cond.isRef (.static "jdk/internal/util/Preconditions" "SIOOBE_FORMATTER" "Ljava/util/function/BiFunction;") ∈ nrF := by decide +kernel
/-- the texts' addresses, and what holds of them -/
theorem st_sx {b : Nat} {s : State} (hts : ∀ w ∈ lw_tbl, w.before #[Value.ref b] s = true) (hgv : (Jvm.Cond.and given_1 narrow_1).before #[Value.ref b] s = true) : ∃ aK aV aT : Nat → Nat, ∀ cy : Nat → ClassId, (∀ i : Nat, i < 9 → cy (100 + i) = aK i ∧ cy (200 + i) = aV i) → (∀ k : Nat, k < 10 → cy (300 + k) = aT k) → SX cy (fun q => s.heap.size ≤ q) s s.heap ∧ ∀ q ∈ TRL, vk_R q.1 q.2.1 q.2.2.1 (cy (300 + q.2.2.2)) s := by
  have hf : ∀ w ∈ nrF, w.before #[Value.ref b] s = true := flat_of_before _ hgv
  have hA : ∀ a : Nat, a < s.heap.size → ¬ (fun q : Nat => s.heap.size ≤ q) a := fun a h => Nat.not_le.mpr h
  have h0 : ∀ i : Nat, ∃ q : Nat × Nat, i < 9 → SOne (fun q => s.heap.size ≤ q) s i q.1 q.2 ∧ (tmT i).eval #[Value.ref b] s none [] s = some (.ref q.1) := fun i => by
    by_cases hi : i < 9
    · obtain ⟨k, v, h1, h2⟩ := st_one hgv hi
      exact ⟨(k, v), fun _ => ⟨h1, h2⟩⟩
    · exact ⟨(0, 0), fun h => absurd h hi⟩
  obtain ⟨ad, had⟩ := Classical.axiomOfChoice h0
  have h1 : ∀ k : Nat, ∃ a : Nat, ∀ q ∈ TRL, q.2.2.2 = k → (Term.string q.1 q.2.1).eval #[Value.ref b] s none [] s = some (.ref a) := fun k => by
    by_cases hk : ∃ q ∈ TRL, q.2.2.2 = k
    · obtain ⟨q, hq, e⟩ := hk
      obtain ⟨a, ha⟩ := st_str (hts _ (sxC q hq))
      exact ⟨a, fun r hr er => by rw [← sxD q hq r hr (e.trans er.symm)]; exact ha⟩
    · exact ⟨0, fun q hq e => absurd ⟨q, hq, e⟩ hk⟩
  obtain ⟨aT, haT⟩ := Classical.axiomOfChoice h1
  refine ⟨fun i => (ad i).1, fun i => (ad i).2, aT, fun cy hcy hct => ⟨⟨⟨fun i hi => ?_, fun i j hi hj e => ?_⟩, va_Zof (hts _ sxE.1) (hts _ sxE.2.1) (va_eqt (hf _ sxF.1)) hA, va_Zqof (hts _ sxE.2.2.1) (hts _ sxE.2.2.2) (hf _ sxF.2) hA, fun q hq => ?_⟩, fun q hq => ?_⟩⟩
  · have e1 : cy (100 + i) = (ad i).1 := (hcy i hi).1
    have e2 : cy (200 + i) = (ad i).2 := (hcy i hi).2
    show SOne _ s i (cy (100 + i)) (cy (200 + i))
    rw [e1, e2]
    exact (had i hi).1
  · have e1 : cy (100 + i) = (ad i).1 := (hcy i hi).1
    have e2 : cy (100 + j) = (ad j).1 := (hcy j hj).1
    have e3 : (ad i).1 = (ad j).1 := e1.symm.trans (Eq.trans e e2)
    have h2 := (had j hj).1
    rw [← e3] at h2
    exact (had i hi).1.inj hi hj h2
  · obtain ⟨h9, h2⟩ := sx8 q hq
    refine vk_R.of (hts _ (sx7 q hq)) ?_
    have e0 : cy (100 + q.2.2.2) = (ad q.2.2.2).1 := (hcy _ h9).1
    rw [e0]
    rcases h2 with ⟨e1, e2⟩ | ⟨e1, e2⟩
    · rw [e1, e2]
      exact (had _ h9).2
    · obtain ⟨a, ha⟩ := st_str (hts _ (sx7 q hq))
      rw [e1, e2] at ha ⊢
      have h3 := va_eqR (hf _ (sx6 _ h9)) ha
      have h4 := h3.symm.trans (had _ h9).2
      simp only [Option.some.injEq, Value.ref.injEq] at h4
      rw [ha, h4]
  · refine vk_R.of (hts _ (sxC q hq)) ?_
    have hk : q.2.2.2 < 10 := by
      have := sxG q hq
      exact this
    rw [hct _ hk]
    exact haT _ q hq rfl
