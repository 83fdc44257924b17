/-! what the law's start gives -/
theorem st_N : ∀ q ∈ NRL, Cond.methodLinkNest q.1 q.2.1 q.2.2 "SumColouring" ∈ lw_tbl := by decide +kernel
theorem st_C : ∀ q ∈ XCN, Cond.castable q q ∈ lw_tbl := by decide +kernel
theorem st_D : ∀ q ∈ XDN, Cond.declares (Bundle.initS q) ∈ lw_tbl := by decide +kernel
theorem st_A : ∀ q ∈ AOL, Cond.arrayOver (.object q) ∈ lw_tbl := by decide +kernel
theorem st_AA : Cond.arrayOver (.array .int) ∈ lw_tbl := by decide +kernel
theorem st_Z : Cond.laysStatic Bundle.tN "UNASSIGNED_STACK" Bundle.steD ∈ lw_tbl ∧ Cond.laysStatic Bundle.tN "SUPPRESSED_SENTINEL" Bundle.listD ∈ lw_tbl ∧ Cond.initialized Bundle.tN ∈ lw_tbl := by decide +kernel
theorem st_nc {b : Nat} {s : State} (hgv : (Jvm.Cond.and given_1 narrow_1).before #[Value.ref b] s = true) : NCk s := by
  have hf := flat_of_before _ hgv
  intro q hq
  simp only [NCL, List.mem_cons, List.not_mem_nil, or_false] at hq
  rcases hq with rfl | rfl | rfl
  · exact va_Nc.of (hf _ (by decide +kernel))
  · exact va_Nc.of (hf _ (by decide +kernel))
  · exact va_Nc.of (hf _ (by decide +kernel))
theorem st_kx {cy : Nat → ClassId} {b : Nat} {s : State} (hts : ∀ w ∈ lw_tbl, w.before #[Value.ref b] s = true) (hgv : (Jvm.Cond.and given_1 narrow_1).before #[Value.ref b] s = true) (hS : SX cy (fun q => s.heap.size ≤ q) s s.heap) (hT : ∀ q ∈ TRL, vk_R q.1 q.2.1 q.2.2.1 (cy (300 + q.2.2.2)) s) : KX cy (fun q => s.heap.size ≤ q) s s.heap := by
  have hf := flat_of_before _ hgv
  have hA : ∀ a : Nat, a < s.heap.size → ¬ (fun q : Nat => s.heap.size ≤ q) a := fun a h => Nat.not_le.mpr h
  exact ⟨hS, fun q hq => va_Nw.of rfl (hts _ (st_N q hq)), vx_Zqof (hts _ st_Z.1) (hts _ st_Z.2.2) (hf _ (by decide +kernel)) hA, vx_Zqof (hts _ st_Z.2.1) (hts _ st_Z.2.2) (hf _ (by decide +kernel)) hA, hT, fun q hq => va_Nw.of rfl (hts _ (st_C q hq)), fun q hq => va_Nw.of rfl (hts _ (st_D q hq)), fun q hq => va_AO.of (hts _ (st_A q hq)), va_AOA.of (hts _ st_AA)⟩
