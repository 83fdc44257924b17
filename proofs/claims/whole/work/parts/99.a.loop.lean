/-! the law's loop -/
theorem and31 (a : Int32) : ∃ z : Int, (a &&& zI 31) = zI z ∧ 0 ≤ z ∧ z ≤ 31 := by
  have e : (zI 31).toBitVec = 31#32 := by decide
  have h1 : ((a &&& zI 31).toBitVec).toNat ≤ 31 := by
    rw [Int32.toBitVec_and, e, BitVec.toNat_and]
    exact Nat.and_le_right
  have h2 : (a &&& zI 31).toInt = (((a &&& zI 31).toBitVec).toNat : Int) := BitVec.toInt_eq_toNat_of_lt (by omega)
  exact ⟨(a &&& zI 31).toInt, (Int32.ofInt_toInt _).symm, by omega, by omega⟩
set_option maxHeartbeats 4000000 in
set_option maxRecDepth 100000 in
theorem law_loop {p : Program} {l : Launch} {e : Env} {s : State} {m : MethodId} {below : List Frame} {meth : Method} {c : Code} {G : va_G} {cy : Nat → ClassId} {b0 L aM ao b o : Nat} {xa ad ar : Nat → Nat} {xs : Nat → Int32} (hl9 : l.stackTraces = false) (E : Ev p s m meth c #[Value.ref b0] cL_law 7 ret wsQ_law RL G cy) (hX : KX cy (fun q => s.heap.size ≤ q) s s.heap) (hN : NCk s) (hXs : va_X b0 L xs s s.heap) (hbl : b0 < s.heap.size) (hL : L ≤ 3072) :
    ∀ (n kn : Nat), n + kn = 513 → ∀ (ws : va_W) (H : Heap) (locs : List Loc) (ls : Array Slot) (k : Int), k = 6 * (kn : Int) → JW cy xa ad ar aM ao b o ws → Hp G ws (fun q => s.heap.size ≤ q) s.heap H locs → lv_has ls 7 [(0, .ref b0), (1, .ref (xa 0)), (2, .ref aM), (3, .ref ao), (4, .int (zI k))] → kn ≤ 512 → W p l e room_1 s m #[Value.ref b0] below meth c H locs (200 + 1000 * kn) (200000 + 12000 * kn) (lw_Z below #[Value.ref b0] s) (F0 m 23 ls []) := by
  intro n
  induction n with
  | zero =>
    intro kn h1 ws H locs ls k hk hJ h hl hkn
    exact absurd h1 (by omega)
  | succ n ih =>
    intro kn h1 ws H locs ls k hk hJ h hl hkn
    refine r_iload E 4 hl rfl dL_law_23 ?_
    refine r_aload_n E 0 hl rfl dL_law_25 ?_
    refine r_slen E h hXs hbl dL_law_26 ?_
    refine r_bipush E dL_law_27 (by decide) ?_
    refine r_isub E dL_law_29 ?_
    refine r_icmp_gt E 1295 dL_law_30 (by decide) ⟨by omega, by omega⟩ (fun c9 => ?_) (fun c9 => ?_)
    · refine lv_iconst (v := 1) E.1 E.2.1 dL_law_1295 (by decide) ?_
      refine va_forget (fun q hq => h.2.2.1.2.2 q hq) ?_
      refine W.widen (k := 601024) (n := 7293034) (by omega) (by omega) ?_
      exact lw_ret E.1 E.2.1 E.2.2.2.2.2.2.2 E.2.2.2.2.2.2.1 dL_law_1296
    · have hk5 : 0 ≤ k ∧ k + 5 < (L : Int) := by omega
      have hcs : 200 + 1000 * kn + 1000 ≤ room_1.cells ∧ 200000 + 12000 * kn + 12000 ≤ room_1.slots := by
        show 200 + 1000 * kn + 1000 ≤ 601024 ∧ 200000 + 12000 * kn + 12000 ≤ 7293034
        omega
      have tail : ∀ (ws1 : va_W) (H1 : Heap) (locs1 : List Loc) (ls1 : Array Slot), JW cy xa ad ar aM ao b o ws1 → Hp G ws1 (fun q => s.heap.size ≤ q) s.heap H1 locs1 → lv_has ls1 7 [(0, .ref b0), (1, .ref (xa 0)), (2, .ref aM), (3, .ref ao), (4, .int (zI k))] → W p l e room_1 s m #[Value.ref b0] below meth c H1 locs1 (200 + 1000 * kn + 1000) (200000 + 12000 * kn + 12000) (lw_Z below #[Value.ref b0] s) (F0 m 1289 ls1 []) := fun ws1 H1 locs1 ls1 hJ1 h1' hl1 => by
        refine r_iinc (lv' := [(4, .int (zI (k + 6))), (0, .ref b0), (1, .ref (xa 0)), (2, .ref aM), (3, .ref ao)]) E 4 hl1 rfl dL_law_1289 (by decide) rfl (fun ls2 hl2 => ?_)
        refine r_goto E 23 dL_law_1292 (by decide) ?_
        refine W.widen (k := 200 + 1000 * (kn + 1)) (n := 200000 + 12000 * (kn + 1)) (by omega) (by omega) ?_
        exact ih (kn + 1) (by omega) ws1 H1 locs1 ls2 (k + 6) (by omega) hJ1 h1' (lv_sub hl2 [1, 2, 3, 4, 0] rfl) (by omega)
      refine r_aload_n E 0 hl rfl dL_law_33 ?_
      refine r_iload E 4 hl rfl dL_law_34 ?_
      refine r_sld E h hXs hbl (by omega) hL dL_law_36 ?_
      refine r_bipush E dL_law_37 (by decide) ?_
      obtain ⟨z, hz, z0, z1⟩ := and31 (zI (SVL xs k))
      refine r_iand E dL_law_39 hz ?_
      rcases (show z = 0 ∨ z = 1 ∨ z = 2 ∨ z = 3 ∨ z = 4 ∨ z = 5 ∨ z = 6 ∨ z = 7 ∨ z = 8 ∨ z = 9 ∨ z = 10 ∨ z = 11 ∨ z = 12 ∨ z = 13 ∨ z = 14 ∨ z = 15 ∨ z = 16 ∨ z = 17 ∨ z = 18 ∨ z = 19 ∨ z = 20 ∨ z = 21 ∨ z = 22 ∨ z = 23 ∨ z = 24 ∨ 25 ≤ z by omega) with rfl | rfl | rfl | rfl | rfl | rfl | rfl | rfl | rfl | rfl | rfl | rfl | rfl | rfl | rfl | rfl | rfl | rfl | rfl | rfl | rfl | rfl | rfl | rfl | rfl | hz9
      · refine r_tin E 156 dL_law_40 (v := 0) rfl ⟨⟨by decide, by decide⟩, by decide, by decide⟩ rfl (by decide) ?_
        exact law_append hl9 E hX hN hXs hbl hL hk5 hcs hJ h hl tail
      · refine r_tin E 229 dL_law_40 (v := 1) rfl ⟨⟨by decide, by decide⟩, by decide, by decide⟩ rfl (by decide) ?_
        exact law_load hl9 E hX hN hXs hbl hL hk5 hcs hJ h hl tail
      · refine r_tin E 285 dL_law_40 (v := 2) rfl ⟨⟨by decide, by decide⟩, by decide, by decide⟩ rfl (by decide) ?_
        exact law_errorOffset hl9 E hX hN hXs hbl hL hk5 hcs hJ h hl tail
      · refine r_tin E 298 dL_law_40 (v := 3) rfl ⟨⟨by decide, by decide⟩, by decide, by decide⟩ rfl (by decide) ?_
        exact law_numberCount hl9 E hX hN hXs hbl hL hk5 hcs hJ h hl tail
      · refine r_tin E 311 dL_law_40 (v := 4) rfl ⟨⟨by decide, by decide⟩, by decide, by decide⟩ rfl (by decide) ?_
        exact law_colourCount hl9 E hX hN hXs hbl hL hk5 hcs hJ h hl tail
      · refine r_tin E 324 dL_law_40 (v := 5) rfl ⟨⟨by decide, by decide⟩, by decide, by decide⟩ rfl (by decide) ?_
        exact law_ruleCount hl9 E hX hN hXs hbl hL hk5 hcs hJ h hl tail
      · refine r_tin E 337 dL_law_40 (v := 6) rfl ⟨⟨by decide, by decide⟩, by decide, by decide⟩ rfl (by decide) ?_
        exact law_solutions hl9 E hX hN hXs hbl hL hk5 hcs hJ h hl tail
      · refine r_tin E 393 dL_law_40 (v := 7) rfl ⟨⟨by decide, by decide⟩, by decide, by decide⟩ rfl (by decide) ?_
        exact law_colour hl9 E hX hN hXs hbl hL hk5 hcs hJ h hl tail
      · refine r_tin E 449 dL_law_40 (v := 8) rfl ⟨⟨by decide, by decide⟩, by decide, by decide⟩ rfl (by decide) ?_
        exact law_isFixed hl9 E hX hN hXs hbl hL hk5 hcs hJ h hl tail
      · refine r_tin E 512 dL_law_40 (v := 9) rfl ⟨⟨by decide, by decide⟩, by decide, by decide⟩ rfl (by decide) ?_
        exact law_count hl9 E hX hN hXs hbl hL hk5 hcs hJ h hl tail
      · refine r_tin E 568 dL_law_40 (v := 10) rfl ⟨⟨by decide, by decide⟩, by decide, by decide⟩ rfl (by decide) ?_
        exact law_conflicts hl9 E hX hN hXs hbl hL hk5 hcs hJ h hl tail
      · refine r_tin E 581 dL_law_40 (v := 11) rfl ⟨⟨by decide, by decide⟩, by decide, by decide⟩ rfl (by decide) ?_
        exact law_totalWeight hl9 E hX hN hXs hbl hL hk5 hcs hJ h hl tail
      · refine r_tin E 594 dL_law_40 (v := 12) rfl ⟨⟨by decide, by decide⟩, by decide, by decide⟩ rfl (by decide) ?_
        exact law_conflict hl9 E hX hN hXs hbl hL hk5 hcs hJ h hl tail
      · refine r_tin E 662 dL_law_40 (v := 13) rfl ⟨⟨by decide, by decide⟩, by decide, by decide⟩ rfl (by decide) ?_
        exact law_conflictsOf hl9 E hX hN hXs hbl hL hk5 hcs hJ h hl tail
      · refine r_tin E 718 dL_law_40 (v := 14) rfl ⟨⟨by decide, by decide⟩, by decide, by decide⟩ rfl (by decide) ?_
        exact law_allowed hl9 E hX hN hXs hbl hL hk5 hcs hJ h hl tail
      · refine r_tin E 774 dL_law_40 (v := 15) rfl ⟨⟨by decide, by decide⟩, by decide, by decide⟩ rfl (by decide) ?_
        exact law_canExtend hl9 E hX hN hXs hbl hL hk5 hcs hJ h hl tail
      · refine r_tin E 842 dL_law_40 (v := 16) rfl ⟨⟨by decide, by decide⟩, by decide, by decide⟩ rfl (by decide) ?_
        exact law_longest hl9 E hX hN hXs hbl hL hk5 hcs hJ h hl tail
      · refine r_tin E 898 dL_law_40 (v := 17) rfl ⟨⟨by decide, by decide⟩, by decide, by decide⟩ rfl (by decide) ?_
        exact law_bestGain hl9 E hX hN hXs hbl hL hk5 hcs hJ h hl tail
      · refine r_tin E 911 dL_law_40 (v := 18) rfl ⟨⟨by decide, by decide⟩, by decide, by decide⟩ rfl (by decide) ?_
        exact law_setColour hl9 E hX hN hXs hbl hL hk5 hcs hJ h hl tail
      · refine r_tin E 979 dL_law_40 (v := 19) rfl ⟨⟨by decide, by decide⟩, by decide, by decide⟩ rfl (by decide) ?_
        exact law_setFixed hl9 E hX hN hXs hbl hL hk5 hcs hJ h hl tail
      · refine r_tin E 1070 dL_law_40 (v := 20) rfl ⟨⟨by decide, by decide⟩, by decide, by decide⟩ rfl (by decide) ?_
        exact law_swapColours hl9 E hX hN hXs hbl hL hk5 hcs hJ h hl tail
      · refine r_tin E 1138 dL_law_40 (v := 21) rfl ⟨⟨by decide, by decide⟩, by decide, by decide⟩ rfl (by decide) ?_
        exact law_extend hl9 E hX hN hXs hbl hL hk5 hcs hJ h hl tail
      · refine r_tin E 1206 dL_law_40 (v := 22) rfl ⟨⟨by decide, by decide⟩, by decide, by decide⟩ rfl (by decide) ?_
        exact law_repair hl9 E hX hN hXs hbl hL hk5 hcs hJ h hl tail
      · refine r_tin E 1262 dL_law_40 (v := 23) rfl ⟨⟨by decide, by decide⟩, by decide, by decide⟩ rfl (by decide) ?_
        exact law_undo hl9 E hX hN hXs hbl hL hk5 hcs hJ h hl tail
      · refine r_tin E 1275 dL_law_40 (v := 24) rfl ⟨⟨by decide, by decide⟩, by decide, by decide⟩ rfl (by decide) ?_
        exact law_checksum hl9 E hX hN hXs hbl hL hk5 hcs hJ h hl tail
      · refine r_tout E 1289 dL_law_40 (by omega) (Or.inr (by omega)) (by decide) ?_
        refine W.widen (k := 200 + 1000 * kn + 1000) (n := 200000 + 12000 * kn + 12000) (by omega) (by omega) ?_
        exact tail _ _ _ _ hJ h hl
