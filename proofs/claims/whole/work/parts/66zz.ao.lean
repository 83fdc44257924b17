section ZN
variable {p : Program} {l : Launch} {e : Env} {R : Room} {s : State} {m : MethodId} {args : Array Value} {below : List Frame} {meth : Method} {c : Code} {H : Heap} {locs : List Loc} {cells slots : Nat} {Q : State → Prop}
variable {cc : ByteArray} {nL pc : Nat} {ret : Option FieldType} {ls : Array Slot} {rest : List Value} {wds : List Cond} {own : String} {G : va_G} {cy : Nat → ClassId} {A : Nat → Prop} {ws : va_W} {H0 : Heap}
theorem r_newRk (E : Ev p s m meth c args cc nL ret wds own G cy) (h : Hp G ws A H0 H locs) {C : String} {t index : Nat} (ht : (tyL cy)[t]? = some (cy t, .object C)) {n : Int} {N : Nat} (hn : n = (N : Int) ∧ N ≤ 100000) (hcl : Cond.classLink own index C ∈ wds) (hov : va_AO C s) (hcells : cells + 1 ≤ R.cells) (hslots : slots + N ≤ R.slots) (hdg : decode cc pc = .ok (.anewarray index, 3))
    (kk : ∀ (q : Nat) (ws1 : va_W) (H1 : Heap), Ap1 ws ws1 (q, aR cy t N (fun _ => none)) → Hp G ws1 A H0 H1 locs → W p l e R s m args below meth c H1 locs (cells + 1) (slots + N) Q (F0 m (pc + 3) ls (.ref q :: rest))) : W p l e R s m args below meth c H locs cells slots Q (F0 m pc ls (.int (zI n) :: rest)) := by
  have hK := E.2.2.2.2.2.1
  obtain ⟨_, _, _, _, _, hc0⟩ := hK.2 t _ ht
  have hz : (zI n).toNatClampNeg = N := by rw [zI_clamp (by omega)]; omega
  refine va_newq E.1 E.2.1 E.2.2.2.1 (E.2.2.2.2.1 _ hcl) hov hK h.1 h.2.1 h.2.2.1 h.2.2.2 ?_ hz (by omega) hcells hslots hdg (fun q cA H1 hK1 hP1 hD1 hS1 => ?_)
  · intro hh
    rw [Int32.lt_iff_toInt_lt] at hh
    rw [zI_toInt (by omega)] at hh
    simp at hh; omega
  · obtain ⟨_, _, _, _, _, h9⟩ := hK1.2 (tyL cy).length (cA, .object C) (by simp)
    have e9 : some cA = some (cy t) := h9.2.symm.trans hc0.2
    cases e9
    exact kk q _ H1 rfl ⟨hP1, hD1, hS1, h.2.2.2⟩
theorem r_mna8k (E : Ev p s m meth c args cc nL ret wds own G cy) (h : Hp G ws A H0 H locs) {index : Nat} (hcl : Cond.classLink own index "[[I" ∈ wds) (hov : va_AOA .int s) (harr : Cond.arrayClass .int ∈ wds) (hcells : cells + 9 ≤ R.cells) (hslots : slots + 8896 ≤ R.slots) (hdg : decode cc pc = .ok (.multianewarray index 2, 4))
    (kk : ∀ (q : Nat) (r : Nat → Nat) (ws1 : va_W) (H1 : Heap), ws1.length = ws.length + 9 → (∀ j : Nat, j < ws.length → ws1[j]? = ws[j]?) → ws1[ws.length]? = some (q, aR cy 6 8 (fun i => if i < 8 then some (r i.toNat) else none)) → (∀ i : Nat, i < 8 → ws1[ws.length + 1 + i]? = some (r i, aI cy 1111 (fun _ => 0))) → Hp G ws1 A H0 H1 locs → W p l e R s m args below meth c H1 locs (cells + 1 + 8) (slots + 8 + 8 * 1111) Q (F0 m (pc + 4) ls (.ref q :: rest))) : W p l e R s m args below meth c H locs cells slots Q (F0 m pc ls (.int (zI 1111) :: .int (zI 8) :: rest)) := by
  have hK := E.2.2.2.2.2.1
  have hc0 := (hK.2 0 _ (show (tyL cy)[0]? = some (cy 0, .int) from rfl)).2
  have hc6 := (hK.2 6 _ (show (tyL cy)[6]? = some (cy 6, .array .int) from rfl)).2
  have e0 : ws ++ va_pl [] (fun _ => aI cy 1111 (fun _ => 0)) = ws := by simp [va_pl]
  refine va_mna (X := ws) (L := []) (f := fun _ => aI cy 1111 (fun _ => 0)) (ty := .int) (cy := cy 0) (z := (1111, .inl (fun j : Nat => zI ((fun _ => (0 : Int)) (j : Int))))) E.1 E.2.1 E.2.2.2.1 (E.2.2.2.2.1 _ hcl) hov (E.2.2.2.2.1 _ harr) hc0 hK (by rw [e0]; exact h.1) (by rw [e0]; exact h.2.1) h.2.2.1 h.2.2.2 (n := zI 8) (k := zI 1111) (N' := 8) (K' := 1111) (by decide) (by decide) (by rw [zI_clamp (by omega)]; omega) (by rw [zI_clamp (by omega)]; omega) (by omega) (by show 1111 * 4 ≤ _; omega) (by omega) rfl rfl (by omega) (by omega) (fun cA => by rw [vp_cell_i, show (fun j : Nat => Value.int (zI ((fun _ => (0 : Int)) (j : Int)))) = (fun _ => Value.int 0) from rfl, ← arrV_new]; rfl) hdg (fun q r cA H1 hinj hnL hK1 hP1 hD1 hS1 => ?_)
  have h9 := (hK1.2 (tyL cy).length (cA, .array .int) (by simp)).2
  have e9 : some cA = some (cy 6) := h9.symm.trans hc6
  cases e9
  refine kk q r _ H1 ?_ (fun j hj => ?_) ?_ (fun i hi => ?_) ⟨hP1, hD1, hS1, h.2.2.2⟩
  · simp [va_pl]
  · rw [List.getElem?_append_left (by simp; omega), List.getElem?_append_left hj]
  · rw [List.getElem?_append_left (by simp), List.getElem?_append_right (Nat.le_refl _)]
    simp
    funext j
    by_cases c : j < 8
    · rw [if_pos c, if_pos (by omega)]
    · rw [if_neg c, if_neg (by omega)]
  · rw [List.getElem?_append_right (by simp)]
    simp [va_pl]
    exact ⟨i, by simp [hi], rfl, vr_up_in (List.mem_map.mpr ⟨i, by simp [hi], rfl⟩)⟩
end ZN
