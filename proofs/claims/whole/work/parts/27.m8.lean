/-- the powers of two of the colours -/
def pw2 (c : Int) : Int := if c = 0 then 1 else if c = 1 then 2 else if c = 2 then 4 else 8
theorem zI_sh {c : Int} (h : 0 ≤ c ∧ c ≤ 3) : zI 1 <<< (zI c &&& 31) = zI (pw2 c) := by
  rcases (by omega : c = 0 ∨ c = 1 ∨ c = 2 ∨ c = 3) with rfl | rfl | rfl | rfl <;> decide
theorem zI_or0 {v : Int} : zI v ||| zI 0 = zI v := by
  show zI v ||| 0 = zI v
  simp
theorem zI_orp {c v : Int} (h : 0 ≤ c ∧ c ≤ 3) (hv : 0 ≤ v ∧ v < pw2 c) : zI v ||| zI (pw2 c) = zI (v + pw2 c) := by
  rcases (by omega : c = 0 ∨ c = 1 ∨ c = 2 ∨ c = 3) with rfl | rfl | rfl | rfl
  · have : v = 0 := by simp [pw2] at hv; omega
    subst this; decide
  · have : v = 0 ∨ v = 1 := by simp [pw2] at hv; omega
    rcases this with rfl | rfl <;> decide
  · have : v = 0 ∨ v = 1 ∨ v = 2 ∨ v = 3 := by simp [pw2] at hv; omega
    rcases this with rfl | rfl | rfl | rfl <;> decide
  · have : v = 0 ∨ v = 1 ∨ v = 2 ∨ v = 3 ∨ v = 4 ∨ v = 5 ∨ v = 6 ∨ v = 7 := by simp [pw2] at hv; omega
    rcases this with rfl | rfl | rfl | rfl | rfl | rfl | rfl | rfl <;> decide
theorem pw2_s {c : Int} (h : 0 ≤ c ∧ c ≤ 2) : pw2 (c + 1) = 2 * pw2 c := by
  rcases (by omega : c = 0 ∨ c = 1 ∨ c = 2) with rfl | rfl | rfl <;> decide
theorem pw2_pos {c : Int} : 1 ≤ pw2 c ∧ pw2 c ≤ 8 := by
  unfold pw2
  by_cases h0 : c = 0
  · rw [if_pos h0]; omega
  · rw [if_neg h0]
    by_cases h1 : c = 1
    · rw [if_pos h1]; omega
    · rw [if_neg h1]
      by_cases h2 : c = 2
      · rw [if_pos h2]; omega
      · rw [if_neg h2]; omega
/-- the set of the allowed colours below m -/
def setN (d : Int → Int) (x : Int) : Nat → Int
  | 0 => 0
  | m + 1 => setN d x m + (if alw d (cl d) x (m : Int) = true then pw2 (m : Int) else 0)
/-- no number has a colour -/
def blk (d : Int → Int) : Int → Int := fun i => if 30 ≤ i ∧ i < 30 + d 0 then 0 else d i
theorem DW.toblk {d : Int → Int} {T : List Int} (h : DW d T) : DW (blk d) T := by
  have hn := h.n
  have hk := h.k
  refine h.recol (fun i _ _ => if_neg (by omega)) (fun i _ => if_neg (by omega)) (fun y h0 h1 => ?_) (fun y h0 h1 => ?_)
  · unfold blk
    by_cases c : 30 ≤ 29 + y ∧ 29 + y < 30 + d 0
    · rw [if_pos c]; omega
    · rw [if_neg c]; exact h.col h0 h1
  · unfold blk
    rw [if_neg (by omega)]; exact h.fix h0 h1
/-- what longest tells -/
def lng (d : Int → Int) (tr : Int) : Int := if d 0 = 0 then 0 else if 0 < (sr d (opL (cl (blk d)) (d 0).toNat) tr 0 0 0 0 (blk d)).1 then d 0 else farF (opL (cl (blk d)) (d 0).toNat) (d 0) (sr d (opL (cl (blk d)) (d 0).toNat) tr 0 0 0 0 (blk d)).2.1
theorem cnfA_rng {d e : Int → Int} {T : List Int} (hD : DW d T) : 0 ≤ cnfA d e ∧ cnfA d e ≤ 6400 := by
  have h1 := sumL_rng (l := KL d) (f := fun q => is1 d e q) (B := 1) (fun q _ => is1_rng)
  have h2 := KL_len hD
  unfold cnfA
  omega
theorem hd_X11_conflicts : yX11_conflicts.cls = RX11 ∧ yX11_conflicts.cls ≠ "java/lang/invoke/MethodHandle" ∧ yX11_conflicts.cls ≠ "java/lang/invoke/VarHandle" ∧ (parseMethodDescriptor yX11_conflicts.desc).map (fun d => d.parameters.length) = some 0 := by decide +kernel
theorem fl_X11_conflicts_57 : Cond.fieldLink RX11 57 (TX11 0).1 (TX11 0).2.1 (TX11 0).2.2.1 ∈ wsX11_conflicts := List.mem_of_getElem? (i := 1) rfl
theorem inn_X11_conflicts_11 : ∀ w ∈ wsX110, w ∈ wsX11_conflicts := fun _ h => List.mem_cons_of_mem _ (List.mem_append_right _ h)
abbrev rm_X11_conflicts : Room := { frames := 3, cells := 0, slots := 0, locals := 66 }
set_option maxHeartbeats 4000000 in
set_option maxRecDepth 100000 in
theorem k_X11_conflicts (l : Launch) {G : va_G} {cy : Nat → ClassId} {ws0 : va_W} {b aM : Nat} {I : Nat → Int} {ad : Nat → Nat} {ke : Int → Int} {st : Int → Int64} {op : Int → Int} {me : Int → Int} {le : Int → Int} {d : Int → Int} {T : List Int} {ru so fo wn : Int → Int}  (h_mo : ws0[b]? = some (aM, mO I ad)) (h_da : ws0[b + 2]? = some (ad 8, aI cy 1111 d)) (h_ke : ws0[b + 4]? = some (ad 10, aI cy 1111 ke)) (h_st : ws0[b + 20]? = some (ad 22, aL cy 1000 st)) (h_op : ws0[b + 21]? = some (ad 25, aI cy 40 op)) (h_me : ws0[b + 14]? = some (ad 15, aI cy 38400 me)) (h_le : ws0[b + 15]? = some (ad 16, aI cy 6400 le)) (hD : DW d T) (hL : LW d me le ru so fo wn (I 19)) : MI l yX11_conflicts wsX11_conflicts rm_X11_conflicts G cy [.ref aM] ws0 (fun z u => ∃ t : Int, (t = 0 ∧ z = cnfA d (cl d)) ∧ MRO cy b aM ad I d ws0 u t) := by
  refine MI.of (own := RX11) (cc := cX11_conflicts) (nL := 1) (ret := (some .int)) (by decide) rfl rfl (Nat.le_of_ble_eq_true rfl) ?_
  intro p e s m below meth c A ls E h hl
  have hl : lv_has ls 1 [(0, .ref aM)] := hl
  have hE : Eqx ws0 ws0 (fun j => j = b ∨ j = b + 2 ∨ j = b + 4 ∨ j = b + 20 ∨ j = b + 21) := Eqx.rf
  have hn9 := hD.n
  have hk9 := hD.k
  have hr9 := hD.nr
  refine r_aload_n E 0 hl rfl dX11_conflicts_0 ?_
  refine r_iconst E dX11_conflicts_1 ?_
  refine r_put E h h_mo rfl inn_X11_conflicts_11 0 (by decide) fl_X11_conflicts_57 tyX11 tyX11_ok nmX11 rfl rfl rfl (Nat.le_of_ble_eq_true rfl) dX11_conflicts_2 (fun ws H locs h hu => ?_)
  have h_mo : ws[b]? = some (aM, mO (va_up I 0 0) ad) := hu.1
  have h_da := hu.keep h_da (by omega)
  have h_ke := hu.keep h_ke (by omega)
  have h_st := hu.keep h_st (by omega)
  have h_op := hu.keep h_op (by omega)
  have h_me := hu.keep h_me (by omega)
  have h_le := hu.keep h_le (by omega)
  have hE := hE.tr (hu.eqx (by first | omega | (dsimp only <;> omega)))
  refine r_aload_n E 0 hl rfl dX11_conflicts_5 ?_
  refine r_callVI E h (As := []) (rest := []) (k_X11_countAll l h_mo h_da h_me h_le hD hD (by first | exact hL | (simp only [va_up]; exact hL))) h_mo rfl gX11_conflicts_X11_countAll rfl hd_X11_countAll (by decide) ⟨by decide, by decide⟩ hl.1 rfl (Nat.le_of_ble_eq_true rfl) dX11_conflicts_6 rfl (fun z_6 ws H locs hp h => ?_)
  obtain ⟨rfl, rfl⟩ := hp
  exact r_iret E h ⟨0, ⟨rfl, rfl⟩, va_up I 0 0, ke, st, op, h_mo, h_da, h_ke, h_st, h_op, (by first | rfl | (simp [va_up]) | assumption), (fun k h0 h1 h2 h3 h4 => by first | rfl | simp [va_up, h0, h1, h2, h3, h4]), hE⟩ dX11_conflicts_9
theorem hd_X11_totalWeight : yX11_totalWeight.cls = RX11 ∧ yX11_totalWeight.cls ≠ "java/lang/invoke/MethodHandle" ∧ yX11_totalWeight.cls ≠ "java/lang/invoke/VarHandle" ∧ (parseMethodDescriptor yX11_totalWeight.desc).map (fun d => d.parameters.length) = some 0 := by decide +kernel
theorem fl_X11_totalWeight_57 : Cond.fieldLink RX11 57 (TX11 0).1 (TX11 0).2.1 (TX11 0).2.2.1 ∈ wsX11_totalWeight := List.mem_of_getElem? (i := 1) rfl
theorem inn_X11_totalWeight_11 : ∀ w ∈ wsX110, w ∈ wsX11_totalWeight := fun _ h => List.mem_cons_of_mem _ (List.mem_append_right _ h)
abbrev rm_X11_totalWeight : Room := { frames := 4, cells := 0, slots := 0, locals := 94 }
set_option maxHeartbeats 4000000 in
set_option maxRecDepth 100000 in
theorem k_X11_totalWeight (l : Launch) {G : va_G} {cy : Nat → ClassId} {ws0 : va_W} {b aM : Nat} {I : Nat → Int} {ad : Nat → Nat} {ke : Int → Int} {st : Int → Int64} {op : Int → Int} {me : Int → Int} {le : Int → Int} {ru : Int → Int} {d : Int → Int} {T : List Int} {so fo wn : Int → Int}  (h_mo : ws0[b]? = some (aM, mO I ad)) (h_da : ws0[b + 2]? = some (ad 8, aI cy 1111 d)) (h_ke : ws0[b + 4]? = some (ad 10, aI cy 1111 ke)) (h_st : ws0[b + 20]? = some (ad 22, aL cy 1000 st)) (h_op : ws0[b + 21]? = some (ad 25, aI cy 40 op)) (h_me : ws0[b + 14]? = some (ad 15, aI cy 38400 me)) (h_le : ws0[b + 15]? = some (ad 16, aI cy 6400 le)) (h_ru : ws0[b + 16]? = some (ad 17, aI cy 6400 ru)) (hD : DW d T) (hL : LW d me le ru so fo wn (I 19)) : MI l yX11_totalWeight wsX11_totalWeight rm_X11_totalWeight G cy [.ref aM] ws0 (fun z u => ∃ t : Int, (t = 0 ∧ z = wgtA d T (cl d)) ∧ MRO cy b aM ad I d ws0 u t) := by
  refine MI.of (own := RX11) (cc := cX11_totalWeight) (nL := 1) (ret := (some .int)) (by decide) rfl rfl (Nat.le_of_ble_eq_true rfl) ?_
  intro p e s m below meth c A ls E h hl
  have hl : lv_has ls 1 [(0, .ref aM)] := hl
  have hE : Eqx ws0 ws0 (fun j => j = b ∨ j = b + 2 ∨ j = b + 4 ∨ j = b + 20 ∨ j = b + 21) := Eqx.rf
  have hn9 := hD.n
  have hk9 := hD.k
  have hr9 := hD.nr
  refine r_aload_n E 0 hl rfl dX11_totalWeight_0 ?_
  refine r_iconst E dX11_totalWeight_1 ?_
  refine r_put E h h_mo rfl inn_X11_totalWeight_11 0 (by decide) fl_X11_totalWeight_57 tyX11 tyX11_ok nmX11 rfl rfl rfl (Nat.le_of_ble_eq_true rfl) dX11_totalWeight_2 (fun ws H locs h hu => ?_)
  have h_mo : ws[b]? = some (aM, mO (va_up I 0 0) ad) := hu.1
  have h_da := hu.keep h_da (by omega)
  have h_ke := hu.keep h_ke (by omega)
  have h_st := hu.keep h_st (by omega)
  have h_op := hu.keep h_op (by omega)
  have h_me := hu.keep h_me (by omega)
  have h_le := hu.keep h_le (by omega)
  have h_ru := hu.keep h_ru (by omega)
  have hE := hE.tr (hu.eqx (by first | omega | (dsimp only <;> omega)))
  refine r_aload_n E 0 hl rfl dX11_totalWeight_5 ?_
  refine r_callVI E h (As := []) (rest := []) (k_X11_weightAll l h_mo h_da h_me h_le h_ru h_st hD hD (by first | exact hL | (simp only [va_up]; exact hL))) h_mo rfl gX11_totalWeight_X11_weightAll rfl hd_X11_weightAll (by decide) ⟨by decide, by decide⟩ hl.1 rfl (Nat.le_of_ble_eq_true rfl) dX11_totalWeight_6 rfl (fun z_6 ws H locs hp h => ?_)
  obtain ⟨e_6, st_6, h_st, hf⟩ := hp
  have h_mo := hf.at h_mo (by first | omega | (dsimp only <;> omega))
  have h_da := hf.at h_da (by first | omega | (dsimp only <;> omega))
  have h_ke := hf.at h_ke (by first | omega | (dsimp only <;> omega))
  have h_op := hf.at h_op (by first | omega | (dsimp only <;> omega))
  have h_me := hf.at h_me (by first | omega | (dsimp only <;> omega))
  have h_le := hf.at h_le (by first | omega | (dsimp only <;> omega))
  have h_ru := hf.at h_ru (by first | omega | (dsimp only <;> omega))
  have hE := hE.tr (hf.wk (fun j hj => by first | omega | (dsimp only at hj ⊢ <;> omega)))
  exact r_iret E h ⟨0, ⟨rfl, e_6⟩, va_up I 0 0, ke, st_6, op, h_mo, h_da, h_ke, h_st, h_op, (by first | rfl | (simp [va_up]) | assumption), (fun k h0 h1 h2 h3 h4 => by first | rfl | simp [va_up, h0, h1, h2, h3, h4]), hE⟩ dX11_totalWeight_9
theorem hd_X11_bestGain : yX11_bestGain.cls = RX11 ∧ yX11_bestGain.cls ≠ "java/lang/invoke/MethodHandle" ∧ yX11_bestGain.cls ≠ "java/lang/invoke/VarHandle" ∧ (parseMethodDescriptor yX11_bestGain.desc).map (fun d => d.parameters.length) = some 0 := by decide +kernel
theorem fl_X11_bestGain_57 : Cond.fieldLink RX11 57 (TX11 0).1 (TX11 0).2.1 (TX11 0).2.2.1 ∈ wsX11_bestGain := List.mem_of_getElem? (i := 1) rfl
theorem inn_X11_bestGain_11 : ∀ w ∈ wsX110, w ∈ wsX11_bestGain := fun _ h => List.mem_cons_of_mem _ (List.mem_append_right _ h)
abbrev rm_X11_bestGain : Room := { frames := 5, cells := 0, slots := 0, locals := 122 }
set_option maxHeartbeats 4000000 in
set_option maxRecDepth 100000 in
theorem k_X11_bestGain (l : Launch) {G : va_G} {cy : Nat → ClassId} {ws0 : va_W} {b aM : Nat} {I : Nat → Int} {ad : Nat → Nat} {ke : Int → Int} {st : Int → Int64} {op : Int → Int} {me : Int → Int} {le : Int → Int} {ru : Int → Int} {fo : Int → Int} {wn : Int → Int} {d : Int → Int} {T : List Int} {so : Int → Int}  (h_mo : ws0[b]? = some (aM, mO I ad)) (h_da : ws0[b + 2]? = some (ad 8, aI cy 1111 d)) (h_ke : ws0[b + 4]? = some (ad 10, aI cy 1111 ke)) (h_st : ws0[b + 20]? = some (ad 22, aL cy 1000 st)) (h_op : ws0[b + 21]? = some (ad 25, aI cy 40 op)) (h_me : ws0[b + 14]? = some (ad 15, aI cy 38400 me)) (h_le : ws0[b + 15]? = some (ad 16, aI cy 6400 le)) (h_ru : ws0[b + 16]? = some (ad 17, aI cy 6400 ru)) (h_fo : ws0[b + 18]? = some (ad 20, aI cy 42 fo)) (h_wn : ws0[b + 19]? = some (ad 21, aI cy 38400 wn)) (hD : DW d T) (hL : LW d me le ru so fo wn (I 19)) : MI l yX11_bestGain wsX11_bestGain rm_X11_bestGain G cy [.ref aM] ws0 (fun z u => ∃ t : Int, (t = 0 ∧ z = (bst d T d).1) ∧ MRO cy b aM ad I d ws0 u t) := by
  refine MI.of (own := RX11) (cc := cX11_bestGain) (nL := 1) (ret := (some .int)) (by decide) rfl rfl (Nat.le_of_ble_eq_true rfl) ?_
  intro p e s m below meth c A ls E h hl
  have hl : lv_has ls 1 [(0, .ref aM)] := hl
  have hE : Eqx ws0 ws0 (fun j => j = b ∨ j = b + 2 ∨ j = b + 4 ∨ j = b + 20 ∨ j = b + 21) := Eqx.rf
  have hn9 := hD.n
  have hk9 := hD.k
  have hr9 := hD.nr
  refine r_aload_n E 0 hl rfl dX11_bestGain_0 ?_
  refine r_iconst E dX11_bestGain_1 ?_
  refine r_put E h h_mo rfl inn_X11_bestGain_11 0 (by decide) fl_X11_bestGain_57 tyX11 tyX11_ok nmX11 rfl rfl rfl (Nat.le_of_ble_eq_true rfl) dX11_bestGain_2 (fun ws H locs h hu => ?_)
  have h_mo : ws[b]? = some (aM, mO (va_up I 0 0) ad) := hu.1
  have h_da := hu.keep h_da (by omega)
  have h_ke := hu.keep h_ke (by omega)
  have h_st := hu.keep h_st (by omega)
  have h_op := hu.keep h_op (by omega)
  have h_me := hu.keep h_me (by omega)
  have h_le := hu.keep h_le (by omega)
  have h_ru := hu.keep h_ru (by omega)
  have h_fo := hu.keep h_fo (by omega)
  have h_wn := hu.keep h_wn (by omega)
  have hE := hE.tr (hu.eqx (by first | omega | (dsimp only <;> omega)))
  refine r_aload_n E 0 hl rfl dX11_bestGain_5 ?_
  refine r_callVI E h (As := []) (rest := []) (k_X11_findStep l h_mo h_da h_me h_le h_ru h_fo h_wn h_st hD hD (by first | exact hL | (simp only [va_up]; exact hL)) rfl rfl) h_mo rfl gX11_bestGain_X11_findStep rfl hd_X11_findStep (by decide) ⟨by decide, by decide⟩ hl.1 rfl (Nat.le_of_ble_eq_true rfl) dX11_bestGain_6 rfl (fun z_6 ws H locs hp h => ?_)
  obtain ⟨e_6, I_6, st_6, h_mo, h_da, h_st, ⟨f_6, g_6⟩, hf⟩ := hp
  have h_ke := hf.at h_ke (by first | omega | (dsimp only <;> omega))
  have h_op := hf.at h_op (by first | omega | (dsimp only <;> omega))
  have h_me := hf.at h_me (by first | omega | (dsimp only <;> omega))
  have h_le := hf.at h_le (by first | omega | (dsimp only <;> omega))
  have h_ru := hf.at h_ru (by first | omega | (dsimp only <;> omega))
  have h_fo := hf.at h_fo (by first | omega | (dsimp only <;> omega))
  have h_wn := hf.at h_wn (by first | omega | (dsimp only <;> omega))
  have hE := hE.tr (hf.wk (fun j hj => by first | omega | (dsimp only at hj ⊢ <;> omega)))
  exact r_iret E h ⟨0, ⟨rfl, e_6⟩, I_6, ke, st_6, op, h_mo, h_da, h_ke, h_st, h_op, (by rw [g_6 0 (by decide) (by decide)]; simp [va_up]), (fun k h0 h1 h2 h3 h4 => by rw [g_6 k h3 h4]; simp [va_up, h0]), hE⟩ dX11_bestGain_9
theorem hd_X11_conflictsOf : yX11_conflictsOf.cls = RX11 ∧ yX11_conflictsOf.cls ≠ "java/lang/invoke/MethodHandle" ∧ yX11_conflictsOf.cls ≠ "java/lang/invoke/VarHandle" ∧ (parseMethodDescriptor yX11_conflictsOf.desc).map (fun d => d.parameters.length) = some 1 := by decide +kernel
theorem fl_X11_conflictsOf_57 : Cond.fieldLink RX11 57 (TX11 0).1 (TX11 0).2.1 (TX11 0).2.2.1 ∈ wsX11_conflictsOf := List.mem_of_getElem? (i := 1) rfl
theorem inn_X11_conflictsOf_11 : ∀ w ∈ wsX110, w ∈ wsX11_conflictsOf := fun _ h => List.mem_cons_of_mem _ (List.mem_append_right _ h)
theorem fl_X11_conflictsOf_44 : Cond.fieldLink RX11 44 (TX11 20).1 (TX11 20).2.1 (TX11 20).2.2.1 ∈ wsX11_conflictsOf := List.mem_of_getElem? (i := 2) rfl
theorem fl_X11_conflictsOf_47 : Cond.fieldLink RX11 47 (TX11 21).1 (TX11 21).2.1 (TX11 21).2.2.1 ∈ wsX11_conflictsOf := List.mem_of_getElem? (i := 3) rfl
abbrev rm_X11_conflictsOf : Room := { frames := 2, cells := 0, slots := 0, locals := 44 }
set_option maxHeartbeats 4000000 in
set_option maxRecDepth 100000 in
theorem k_X11_conflictsOf (l : Launch) {G : va_G} {cy : Nat → ClassId} {ws0 : va_W} {b aM : Nat} {I : Nat → Int} {ad : Nat → Nat} {ke : Int → Int} {st : Int → Int64} {op : Int → Int} {me : Int → Int} {le : Int → Int} {fo : Int → Int} {wn : Int → Int} {d : Int → Int} {T : List Int} {ru so : Int → Int} (x : Int) (h_mo : ws0[b]? = some (aM, mO I ad)) (h_da : ws0[b + 2]? = some (ad 8, aI cy 1111 d)) (h_ke : ws0[b + 4]? = some (ad 10, aI cy 1111 ke)) (h_st : ws0[b + 20]? = some (ad 22, aL cy 1000 st)) (h_op : ws0[b + 21]? = some (ad 25, aI cy 40 op)) (h_me : ws0[b + 14]? = some (ad 15, aI cy 38400 me)) (h_le : ws0[b + 15]? = some (ad 16, aI cy 6400 le)) (h_fo : ws0[b + 18]? = some (ad 20, aI cy 42 fo)) (h_wn : ws0[b + 19]? = some (ad 21, aI cy 38400 wn)) (hD : DW d T) (hL : LW d me le ru so fo wn (I 19)) (hr : (-2147483648 ≤ x ∧ x ≤ 2147483647)) : MI l yX11_conflictsOf wsX11_conflictsOf rm_X11_conflictsOf G cy [.ref aM, .int (zI x)] ws0 (fun z u => ∃ t : Int, ((1 ≤ x ∧ x ≤ d 0) ∧ t = 0 ∧ z = cnfX d (cl d) x ∨ (x < 1 ∨ d 0 < x) ∧ t = 1) ∧ MRO cy b aM ad I d ws0 u t) := by
  refine MI.of (own := RX11) (cc := cX11_conflictsOf) (nL := 4) (ret := (some .int)) (by decide) rfl rfl (Nat.le_of_ble_eq_true rfl) ?_
  intro p e s m below meth c A ls E h hl
  have hl : lv_has ls 4 [(0, .ref aM), (1, .int (zI x))] := hl
  have hE : Eqx ws0 ws0 (fun j => j = b ∨ j = b + 2 ∨ j = b + 4 ∨ j = b + 20 ∨ j = b + 21) := Eqx.rf
  have hn9 := hD.n
  have hk9 := hD.k
  have hlen := KL_len hD
  refine r_aload_n E 0 hl rfl dX11_conflictsOf_0 ?_
  refine r_iconst E dX11_conflictsOf_1 ?_
  refine r_put E h h_mo rfl inn_X11_conflictsOf_11 0 (by decide) fl_X11_conflictsOf_57 tyX11 tyX11_ok nmX11 rfl rfl rfl (Nat.le_of_ble_eq_true rfl) dX11_conflictsOf_2 (fun ws H locs h hu => ?_)
  have h_mo : ws[b]? = some (aM, mO (va_up I 0 0) ad) := hu.1
  have h_da := hu.keep h_da (by omega)
  have h_ke := hu.keep h_ke (by omega)
  have h_st := hu.keep h_st (by omega)
  have h_op := hu.keep h_op (by omega)
  have h_me := hu.keep h_me (by omega)
  have h_le := hu.keep h_le (by omega)
  have h_fo := hu.keep h_fo (by omega)
  have h_wn := hu.keep h_wn (by omega)
  have hE := hE.tr (hu.eqx (by first | omega | (dsimp only <;> omega)))
  refine r_aload_n E 0 hl rfl dX11_conflictsOf_5 ?_
  refine r_iload_n E 1 hl rfl dX11_conflictsOf_6 ?_
  refine r_callVI E h (As := [.int (zI x)]) (rest := []) (k_X11_noNumber l x h_mo h_da (by omega) (by have := hD.n; omega) (by first | rfl | (simp [va_up]; done) | (simp [va_up]; omega))) h_mo rfl gX11_conflictsOf_X11_noNumber rfl hd_X11_noNumber (by decide) ⟨by decide, by decide⟩ hl.1 rfl (Nat.le_of_ble_eq_true rfl) dX11_conflictsOf_7 rfl (fun z_7 ws H locs hp h => ?_)
  obtain ⟨t_7, e_7, h_mo, hf⟩ := hp
  have h_da := hf.at h_da (by first | omega | (dsimp only <;> omega))
  have h_ke := hf.at h_ke (by first | omega | (dsimp only <;> omega))
  have h_st := hf.at h_st (by first | omega | (dsimp only <;> omega))
  have h_op := hf.at h_op (by first | omega | (dsimp only <;> omega))
  have h_me := hf.at h_me (by first | omega | (dsimp only <;> omega))
  have h_le := hf.at h_le (by first | omega | (dsimp only <;> omega))
  have h_fo := hf.at h_fo (by first | omega | (dsimp only <;> omega))
  have h_wn := hf.at h_wn (by first | omega | (dsimp only <;> omega))
  have hE := hE.tr (hf.wk (fun j hj => by first | omega | (dsimp only at hj ⊢ <;> omega)))
  refine r_if_eq E 15 dX11_conflictsOf_10 (by decide) (by omega) (fun c_10 => ?_) (fun c_10 => ?_)
  · skip
    refine r_iconst E dX11_conflictsOf_15 ?_
    refine r_istore_n (lv' := [(2, .int (zI 0)), (0, .ref aM), (1, .int (zI x))]) E hl dX11_conflictsOf_16 rfl (by decide) rfl (fun ls hl => ?_)
    have hfb := fb_le hD (x + 1)
    have hfb0 := fb_nonneg (d := d) (x := x)
    have hrk0 := fb_s (d := d) (x := x) (by omega)
    have hA9 := hD
    refine r_aload_n E 1 hl rfl dX11_conflictsOf_17 ?_
    refine r_get (v := .ref (ad 20)) E h h_mo rfl inn_X11_conflictsOf_11 20 (by decide) fl_X11_conflictsOf_44 rfl dX11_conflictsOf_18 ?_
    refine r_iload_n E 2 hl rfl dX11_conflictsOf_21 ?_
    refine r_iald E h h_fo (by omega) (by decide) dX11_conflictsOf_22 ?_
    rw [show fo x = fb d x from (hL.2.2.2.1 x (by omega) (by omega))]
    refine r_istore_n (lv' := [(3, .int (zI (fb d x))), (2, .int (zI 0)), (0, .ref aM), (1, .int (zI x))]) E hl dX11_conflictsOf_23 rfl (by decide) rfl (fun ls hl => ?_)
    refine r_loop (fun n H locs ls => ∃ (a9 : Int) (i : Int) (s9 : Nat), n = (20000 - i).toNat ∧ (s9 ≤ (KL d).length ∧ 0 ≤ i) ∧ (i = fb d x + rk d x s9) ∧ (a9 = sumL (fun q => if has d q x = true then is1 d (cl d) q else 0) ((KL d).take s9)) ∧ (rk d x s9 ≤ rk d x (KL d).length) ∧ Hp G ws A s.heap H locs ∧ lv_has ls 4 [(0, .ref aM), (1, .int (zI x)), (2, .int (zI a9)), (3, .int (zI i))]) _ ⟨0, (fb d x), 0, rfl, ⟨Nat.zero_le _, by omega⟩, (by show fb d x = fb d x + cntT _ _ 0; rw [cntT_0]; omega), rfl, (cntT_le (Nat.zero_le _)), h, lv_sub hl [2, 3, 1, 0] rfl⟩ ?_
    rintro n H locs ls ⟨a9, i, s9, hn, i1, i2, i3, i4, h, hl⟩ ih_24
    refine r_iload_n E 3 hl rfl dX11_conflictsOf_24 ?_
    refine r_aload_n E 0 hl rfl dX11_conflictsOf_25 ?_
    refine r_get (v := .ref (ad 20)) E h h_mo rfl inn_X11_conflictsOf_11 20 (by decide) fl_X11_conflictsOf_44 rfl dX11_conflictsOf_26 ?_
    refine r_iload_n E 1 hl rfl dX11_conflictsOf_29 ?_
    refine r_iconst E dX11_conflictsOf_30 ?_
    refine r_iadd E dX11_conflictsOf_31 ?_
    refine r_iald E h h_fo (by omega) (by decide) dX11_conflictsOf_32 ?_
    rw [show fo (x + 1) = fb d x + rk d x (KL d).length from (by rw [hL.2.2.2.1 (x + 1) (by omega) (by omega), fb_s (by omega)])]
    refine r_icmp_ge E 64 dX11_conflictsOf_33 (by decide) (by omega) (fun c_33 => ?_) (fun c_33 => ?_)
    · skip
      refine r_iload_n E 2 hl rfl dX11_conflictsOf_64 ?_
      exact r_iret E h ⟨t_7, Or.inl ⟨by omega, by omega, by
  rw [i3]
  exact cnt_end (P := fun q => has d q x) (l := KL d) ((KL d).length - s9) s9 (by omega) (by show rk d x s9 = rk d x _; omega) (fun q => is1 d (cl d) q)⟩, va_up (va_up I 0 0) 0 t_7, ke, st, op, h_mo, h_da, h_ke, h_st, h_op, (by first | rfl | (simp [va_up]) | assumption), (fun k h0 h1 h2 h3 h4 => by first | rfl | simp [va_up, h0, h1, h2, h3, h4]), hE⟩ dX11_conflictsOf_65
    · skip
      obtain ⟨t9, q9, b1, b2, b3, b4, b5⟩ := cnt_next (P := fun q => has d q x) (l := KL d) ((KL d).length - s9) s9 (by omega) (by show rk d x s9 < rk d x _; omega)
      have b6 : rk d x t9 = rk d x s9 := b4
      have hq9 := KL_at hD b2
      have hl9 := hL.2.1 _ q9 b2
      have ht9 := lt_of_get b2
      have b7 := cntT_s (P := fun q => has d q x) b2
      rw [if_pos b3] at b7
      have b8 : rk d x (t9 + 1) = rk d x t9 + 1 := b7
      have b9 := hL.2.2.2.2 x t9 q9 (by omega) (by omega) b2 b3
      have hcb := cAll_b hD hA9 hq9
      have e9 := sumL_take (f := fun q => if has d q x = true then is1 d (cl d) q else 0) b2
      rw [b5 (fun q => is1 d (cl d) q), if_pos b3] at e9
      refine r_iload_n E 2 hl rfl dX11_conflictsOf_36 ?_
      refine r_aload_n E 0 hl rfl dX11_conflictsOf_37 ?_
      refine r_aload_n E 0 hl rfl dX11_conflictsOf_38 ?_
      refine r_get (v := .ref (ad 21)) E h h_mo rfl inn_X11_conflictsOf_11 21 (by decide) fl_X11_conflictsOf_47 rfl dX11_conflictsOf_39 ?_
      refine r_iload_n E 3 hl rfl dX11_conflictsOf_42 ?_
      refine r_iald E h h_wn (by omega) (by decide) dX11_conflictsOf_43 ?_
      rw [show wn i = (t9 : Int) from (by rw [i2, ← b6]; exact b9)]
      refine r_callVI E h (As := [.int (zI ((t9 : Int)))]) (rest := [.int (zI a9)]) (k_X11_colourAll l ((t9 : Int)) q9 h_mo h_da h_me h_le hD (DW.c4 hD) (by omega) hq9 hl9.2.1 hl9.2.2) h_mo rfl gX11_conflictsOf_X11_colourAll rfl hd_X11_colourAll (by decide) ⟨by decide, by decide⟩ hl.1 rfl (Nat.le_of_ble_eq_true rfl) dX11_conflictsOf_44 rfl (fun z_44 ws H locs hp h => ?_)
      obtain ⟨rfl, rfl⟩ := hp
      refine r_iconst E dX11_conflictsOf_47 ?_
      refine r_icmp_ne E 55 dX11_conflictsOf_48 (by decide) (by omega) (fun c_48 => ?_) (fun c_48 => ?_)
      · skip
        have e8 : is1 d (cl d) q9 = 1 := if_neg c_48
        refine r_iconst E dX11_conflictsOf_55 ?_
        refine r_iadd E dX11_conflictsOf_56 ?_
        refine r_istore_n (lv' := [(2, .int (zI (a9 + 1))), (0, .ref aM), (1, .int (zI x)), (3, .int (zI i))]) E hl dX11_conflictsOf_57 rfl (by decide) rfl (fun ls hl => ?_)
        refine r_iinc (lv' := [(3, .int (zI (i + 1))), (2, .int (zI (a9 + 1))), (0, .ref aM), (1, .int (zI x))]) E 3 hl rfl dX11_conflictsOf_58 (by decide) rfl (fun ls hl => ?_)
        refine r_goto E 24 dX11_conflictsOf_61 (by decide) ?_
        exact ih_24 _ H locs ls (by omega) ⟨(a9 + 1), (i + 1), (t9 + 1), rfl, ⟨by omega, by omega⟩, (by omega), (by rw [e9]; omega), (cntT_le (by omega)), h, lv_sub hl [2, 3, 1, 0] rfl⟩
      · skip
        have e8 : is1 d (cl d) q9 = 0 := if_pos c_48
        refine r_iconst E dX11_conflictsOf_51 ?_
        refine r_goto E 56 dX11_conflictsOf_52 (by decide) ?_
        refine r_iadd E dX11_conflictsOf_56 ?_
        refine r_istore_n (lv' := [(2, .int (zI (a9 + 0))), (0, .ref aM), (1, .int (zI x)), (3, .int (zI i))]) E hl dX11_conflictsOf_57 rfl (by decide) rfl (fun ls hl => ?_)
        refine r_iinc (lv' := [(3, .int (zI (i + 1))), (2, .int (zI (a9 + 0))), (0, .ref aM), (1, .int (zI x))]) E 3 hl rfl dX11_conflictsOf_58 (by decide) rfl (fun ls hl => ?_)
        refine r_goto E 24 dX11_conflictsOf_61 (by decide) ?_
        exact ih_24 _ H locs ls (by omega) ⟨(a9 + 0), (i + 1), (t9 + 1), rfl, ⟨by omega, by omega⟩, (by omega), (by rw [e9]; omega), (cntT_le (by omega)), h, lv_sub hl [2, 3, 1, 0] rfl⟩
  · skip
    refine r_iconst E dX11_conflictsOf_13 ?_
    exact r_iret E h ⟨t_7, by omega, va_up (va_up I 0 0) 0 t_7, ke, st, op, h_mo, h_da, h_ke, h_st, h_op, (by first | rfl | (simp [va_up]) | assumption), (fun k h0 h1 h2 h3 h4 => by first | rfl | simp [va_up, h0, h1, h2, h3, h4]), hE⟩ dX11_conflictsOf_14
theorem hd_X11_allowed : yX11_allowed.cls = RX11 ∧ yX11_allowed.cls ≠ "java/lang/invoke/MethodHandle" ∧ yX11_allowed.cls ≠ "java/lang/invoke/VarHandle" ∧ (parseMethodDescriptor yX11_allowed.desc).map (fun d => d.parameters.length) = some 1 := by decide +kernel
theorem fl_X11_allowed_57 : Cond.fieldLink RX11 57 (TX11 0).1 (TX11 0).2.1 (TX11 0).2.2.1 ∈ wsX11_allowed := List.mem_of_getElem? (i := 1) rfl
theorem inn_X11_allowed_11 : ∀ w ∈ wsX110, w ∈ wsX11_allowed := fun _ h => List.mem_cons_of_mem _ (List.mem_append_right _ h)
theorem fl_X11_allowed_17 : Cond.fieldLink RX11 17 (TX11 8).1 (TX11 8).2.1 (TX11 8).2.2.1 ∈ wsX11_allowed := List.mem_of_getElem? (i := 2) rfl
abbrev rm_X11_allowed : Room := { frames := 3, cells := 0, slots := 0, locals := 69 }
set_option maxHeartbeats 4000000 in
set_option maxRecDepth 100000 in
theorem k_X11_allowed (l : Launch) {G : va_G} {cy : Nat → ClassId} {ws0 : va_W} {b aM : Nat} {I : Nat → Int} {ad : Nat → Nat} {ke : Int → Int} {st : Int → Int64} {op : Int → Int} {me : Int → Int} {le : Int → Int} {fo : Int → Int} {wn : Int → Int} {d : Int → Int} {T : List Int} {ru so : Int → Int} (x : Int) (h_mo : ws0[b]? = some (aM, mO I ad)) (h_da : ws0[b + 2]? = some (ad 8, aI cy 1111 d)) (h_ke : ws0[b + 4]? = some (ad 10, aI cy 1111 ke)) (h_st : ws0[b + 20]? = some (ad 22, aL cy 1000 st)) (h_op : ws0[b + 21]? = some (ad 25, aI cy 40 op)) (h_me : ws0[b + 14]? = some (ad 15, aI cy 38400 me)) (h_le : ws0[b + 15]? = some (ad 16, aI cy 6400 le)) (h_fo : ws0[b + 18]? = some (ad 20, aI cy 42 fo)) (h_wn : ws0[b + 19]? = some (ad 21, aI cy 38400 wn)) (hD : DW d T) (hL : LW d me le ru so fo wn (I 19)) (hr : (-2147483648 ≤ x ∧ x ≤ 2147483647)) : MI l yX11_allowed wsX11_allowed rm_X11_allowed G cy [.ref aM, .int (zI x)] ws0 (fun z u => ∃ t : Int, ((1 ≤ x ∧ x ≤ d 0) ∧ t = 0 ∧ z = setN d x (d 1).toNat ∨ (x < 1 ∨ d 0 < x) ∧ t = 1) ∧ MRO cy b aM ad I d ws0 u t) := by
  refine MI.of (own := RX11) (cc := cX11_allowed) (nL := 4) (ret := (some .int)) (by decide) rfl rfl (Nat.le_of_ble_eq_true rfl) ?_
  intro p e s m below meth c A ls E h hl
  have hl : lv_has ls 4 [(0, .ref aM), (1, .int (zI x))] := hl
  have hE : Eqx ws0 ws0 (fun j => j = b ∨ j = b + 2 ∨ j = b + 4 ∨ j = b + 20 ∨ j = b + 21) := Eqx.rf
  have hn9 := hD.n
  have hk9 := hD.k
  have hlen := KL_len hD
  refine r_aload_n E 0 hl rfl dX11_allowed_0 ?_
  refine r_iconst E dX11_allowed_1 ?_
  refine r_put E h h_mo rfl inn_X11_allowed_11 0 (by decide) fl_X11_allowed_57 tyX11 tyX11_ok nmX11 rfl rfl rfl (Nat.le_of_ble_eq_true rfl) dX11_allowed_2 (fun ws H locs h hu => ?_)
  have h_mo : ws[b]? = some (aM, mO (va_up I 0 0) ad) := hu.1
  have h_da := hu.keep h_da (by omega)
  have h_ke := hu.keep h_ke (by omega)
  have h_st := hu.keep h_st (by omega)
  have h_op := hu.keep h_op (by omega)
  have h_me := hu.keep h_me (by omega)
  have h_le := hu.keep h_le (by omega)
  have h_fo := hu.keep h_fo (by omega)
  have h_wn := hu.keep h_wn (by omega)
  have hE := hE.tr (hu.eqx (by first | omega | (dsimp only <;> omega)))
  refine r_aload_n E 0 hl rfl dX11_allowed_5 ?_
  refine r_iload_n E 1 hl rfl dX11_allowed_6 ?_
  refine r_callVI E h (As := [.int (zI x)]) (rest := []) (k_X11_noNumber l x h_mo h_da (by omega) (by have := hD.n; omega) (by first | rfl | (simp [va_up]; done) | (simp [va_up]; omega))) h_mo rfl gX11_allowed_X11_noNumber rfl hd_X11_noNumber (by decide) ⟨by decide, by decide⟩ hl.1 rfl (Nat.le_of_ble_eq_true rfl) dX11_allowed_7 rfl (fun z_7 ws H locs hp h => ?_)
  obtain ⟨t_7, e_7, h_mo, hf⟩ := hp
  have h_da := hf.at h_da (by first | omega | (dsimp only <;> omega))
  have h_ke := hf.at h_ke (by first | omega | (dsimp only <;> omega))
  have h_st := hf.at h_st (by first | omega | (dsimp only <;> omega))
  have h_op := hf.at h_op (by first | omega | (dsimp only <;> omega))
  have h_me := hf.at h_me (by first | omega | (dsimp only <;> omega))
  have h_le := hf.at h_le (by first | omega | (dsimp only <;> omega))
  have h_fo := hf.at h_fo (by first | omega | (dsimp only <;> omega))
  have h_wn := hf.at h_wn (by first | omega | (dsimp only <;> omega))
  have hE := hE.tr (hf.wk (fun j hj => by first | omega | (dsimp only at hj ⊢ <;> omega)))
  refine r_if_eq E 15 dX11_allowed_10 (by decide) (by omega) (fun c_10 => ?_) (fun c_10 => ?_)
  · skip
    refine r_iconst E dX11_allowed_15 ?_
    refine r_istore_n (lv' := [(2, .int (zI 0)), (0, .ref aM), (1, .int (zI x))]) E hl dX11_allowed_16 rfl (by decide) rfl (fun ls hl => ?_)
    refine r_iconst E dX11_allowed_17 ?_
    refine r_istore_n (lv' := [(3, .int (zI 0)), (2, .int (zI 0)), (0, .ref aM), (1, .int (zI x))]) E hl dX11_allowed_18 rfl (by decide) rfl (fun ls hl => ?_)
    refine r_loop (fun n H locs ls => ∃ (s8 : Int) (c8 : Int), n = (4 - c8).toNat ∧ (0 ≤ c8 ∧ c8 ≤ d 1) ∧ (s8 = setN d x c8.toNat) ∧ (0 ≤ s8 ∧ (c8 ≤ 3 → s8 < pw2 c8)) ∧ Hp G ws A s.heap H locs ∧ lv_has ls 4 [(0, .ref aM), (1, .int (zI x)), (2, .int (zI s8)), (3, .int (zI c8))]) _ ⟨0, 0, rfl, (by omega), rfl, ⟨by decide, fun _ => by decide⟩, h, lv_sub hl [2, 3, 1, 0] rfl⟩ ?_
    rintro n H locs ls ⟨s8, c8, hn, i1, i2, i3, h, hl⟩ ih_19
    refine r_iload_n E 3 hl rfl dX11_allowed_19 ?_
    refine r_aload_n E 0 hl rfl dX11_allowed_20 ?_
    refine r_get (v := .ref (ad 8)) E h h_mo rfl inn_X11_allowed_11 8 (by decide) fl_X11_allowed_17 rfl dX11_allowed_21 ?_
    refine r_iconst E dX11_allowed_24 ?_
    refine r_iald E h h_da (by omega) (by decide) dX11_allowed_25 ?_
    refine r_icmp_ge E 54 dX11_allowed_26 (by decide) (by omega) (fun c_26 => ?_) (fun c_26 => ?_)
    · skip
      refine r_iload_n E 2 hl rfl dX11_allowed_54 ?_
      exact r_iret E h ⟨t_7, Or.inl ⟨by omega, by omega, by rw [i2, show c8.toNat = (d 1).toNat by omega]⟩, va_up (va_up I 0 0) 0 t_7, ke, st, op, h_mo, h_da, h_ke, h_st, h_op, (by first | rfl | (simp [va_up]) | assumption), (fun k h0 h1 h2 h3 h4 => by first | rfl | simp [va_up, h0, h1, h2, h3, h4]), hE⟩ dX11_allowed_55
    · skip
      have hp9 := pw2_pos (c := c8)
      have e9 : setN d x (c8 + 1).toNat = setN d x c8.toNat + (if alw d (cl d) x c8 = true then pw2 c8 else 0) := by
        rw [show (c8 + 1).toNat = c8.toNat + 1 by omega]
        show setN d x c8.toNat + (if alw d (cl d) x (c8.toNat : Int) = true then pw2 (c8.toNat : Int) else 0) = _
        rw [show (c8.toNat : Int) = c8 by omega]
      refine r_iload_n E 2 hl rfl dX11_allowed_29 ?_
      refine r_aload_n E 0 hl rfl dX11_allowed_30 ?_
      refine r_iload_n E 1 hl rfl dX11_allowed_31 ?_
      refine r_iload_n E 3 hl rfl dX11_allowed_32 ?_
      refine r_callVI E h (As := [.int (zI x), .int (zI c8)]) (rest := [.int (zI s8)]) (k_X11_isAllowed l x c8 h_mo h_da h_me h_le h_fo h_wn hD hD (by simp only [va_up]; exact hL) (by omega) (by omega)) h_mo rfl gX11_allowed_X11_isAllowed rfl hd_X11_isAllowed (by decide) ⟨by decide, by decide⟩ hl.1 rfl (Nat.le_of_ble_eq_true rfl) dX11_allowed_33 rfl (fun z_33 ws H locs hp h => ?_)
      obtain ⟨e_z_33, rfl⟩ := hp
      refine r_if_eq E 45 dX11_allowed_36 (by decide) (by omega) (fun c_36 => ?_) (fun c_36 => ?_)
      · skip
        rw [if_neg (e_z_33.elim (fun hh => absurd hh.1 (by omega)) (fun hh => by rw [hh.2]; exact Bool.false_ne_true))] at e9
        refine r_iconst E dX11_allowed_45 ?_
        refine r_ior E dX11_allowed_46 (z := s8) zI_or0 ?_
        refine r_istore_n (lv' := [(2, .int (zI s8)), (0, .ref aM), (1, .int (zI x)), (3, .int (zI c8))]) E hl dX11_allowed_47 rfl (by decide) rfl (fun ls hl => ?_)
        refine r_iinc (lv' := [(3, .int (zI (c8 + 1))), (2, .int (zI s8)), (0, .ref aM), (1, .int (zI x))]) E 3 hl rfl dX11_allowed_48 (by decide) rfl (fun ls hl => ?_)
        refine r_goto E 19 dX11_allowed_51 (by decide) ?_
        exact ih_19 _ H locs ls (by omega) ⟨s8, (c8 + 1), rfl, (by omega), (by rw [e9]; omega), ⟨by omega, fun hh => by have := pw2_s (c := c8) (by omega); have := i3.2 (by omega); omega⟩, h, lv_sub hl [2, 3, 1, 0] rfl⟩
      · skip
        rw [if_pos (e_z_33.elim (fun hh => hh.2) (fun hh => absurd hh.1 (by omega)))] at e9
        refine r_iconst E dX11_allowed_39 ?_
        refine r_iload_n E 3 hl rfl dX11_allowed_40 ?_
        refine r_ishl E dX11_allowed_41 (z := pw2 c8) (zI_sh (by omega)) ?_
        refine r_goto E 46 dX11_allowed_42 (by decide) ?_
        refine r_ior E dX11_allowed_46 (z := s8 + pw2 c8) (zI_orp (by omega) (by omega)) ?_
        refine r_istore_n (lv' := [(2, .int (zI (s8 + pw2 c8))), (0, .ref aM), (1, .int (zI x)), (3, .int (zI c8))]) E hl dX11_allowed_47 rfl (by decide) rfl (fun ls hl => ?_)
        refine r_iinc (lv' := [(3, .int (zI (c8 + 1))), (2, .int (zI (s8 + pw2 c8))), (0, .ref aM), (1, .int (zI x))]) E 3 hl rfl dX11_allowed_48 (by decide) rfl (fun ls hl => ?_)
        refine r_goto E 19 dX11_allowed_51 (by decide) ?_
        exact ih_19 _ H locs ls (by omega) ⟨(s8 + pw2 c8), (c8 + 1), rfl, (by omega), (by rw [e9]; omega), ⟨by omega, fun hh => by have := pw2_s (c := c8) (by omega); have := i3.2 (by omega); omega⟩, h, lv_sub hl [2, 3, 1, 0] rfl⟩
  · skip
    refine r_iconst E dX11_allowed_13 ?_
    exact r_iret E h ⟨t_7, by omega, va_up (va_up I 0 0) 0 t_7, ke, st, op, h_mo, h_da, h_ke, h_st, h_op, (by first | rfl | (simp [va_up]) | assumption), (fun k h0 h1 h2 h3 h4 => by first | rfl | simp [va_up, h0, h1, h2, h3, h4]), hE⟩ dX11_allowed_14
theorem hd_X11_conflict : yX11_conflict.cls = RX11 ∧ yX11_conflict.cls ≠ "java/lang/invoke/MethodHandle" ∧ yX11_conflict.cls ≠ "java/lang/invoke/VarHandle" ∧ (parseMethodDescriptor yX11_conflict.desc).map (fun d => d.parameters.length) = some 2 := by decide +kernel
theorem fl_X11_conflict_57 : Cond.fieldLink RX11 57 (TX11 0).1 (TX11 0).2.1 (TX11 0).2.2.1 ∈ wsX11_conflict := List.mem_of_getElem? (i := 1) rfl
theorem inn_X11_conflict_11 : ∀ w ∈ wsX110, w ∈ wsX11_conflict := fun _ h => List.mem_cons_of_mem _ (List.mem_append_right _ h)
theorem fl_X11_conflict_38 : Cond.fieldLink RX11 38 (TX11 17).1 (TX11 17).2.1 (TX11 17).2.2.1 ∈ wsX11_conflict := List.mem_of_getElem? (i := 2) rfl
abbrev rm_X11_conflict : Room := { frames := 3, cells := 0, slots := 0, locals := 72 }
set_option maxHeartbeats 4000000 in
set_option maxRecDepth 100000 in
theorem k_X11_conflict (l : Launch) {G : va_G} {cy : Nat → ClassId} {ws0 : va_W} {b aM : Nat} {I : Nat → Int} {ad : Nat → Nat} {ke : Int → Int} {st : Int → Int64} {op : Int → Int} {me : Int → Int} {le : Int → Int} {ru : Int → Int} {d : Int → Int} {T : List Int} {so fo wn : Int → Int} (ix wh : Int) (h_mo : ws0[b]? = some (aM, mO I ad)) (h_da : ws0[b + 2]? = some (ad 8, aI cy 1111 d)) (h_ke : ws0[b + 4]? = some (ad 10, aI cy 1111 ke)) (h_st : ws0[b + 20]? = some (ad 22, aL cy 1000 st)) (h_op : ws0[b + 21]? = some (ad 25, aI cy 40 op)) (h_me : ws0[b + 14]? = some (ad 15, aI cy 38400 me)) (h_le : ws0[b + 15]? = some (ad 16, aI cy 6400 le)) (h_ru : ws0[b + 16]? = some (ad 17, aI cy 6400 ru)) (hD : DW d T) (hL : LW d me le ru so fo wn (I 19)) (hr : (-2147483648 ≤ ix ∧ ix ≤ 2147483647) ∧ (-2147483648 ≤ wh ∧ wh ≤ 2147483647)) : MI l yX11_conflict wsX11_conflict rm_X11_conflict G cy [.ref aM, .int (zI ix), .int (zI wh)] ws0 (fun z u => ∃ t : Int, ((0 ≤ ix ∧ ix < cnfA d (cl d)) ∧ (0 ≤ wh ∧ wh ≤ 4) ∧ t = 0 ∧ (∃ (s : Nat) (q : Ky), (KL d)[s]? = some q ∧ cAll d (cl d) q ≠ -1 ∧ sumL (fun q => is1 d (cl d) q) ((KL d).take s) = ix ∧ z = (if wh = 0 then q.1 else if wh = 3 then cAll d (cl d) q else if wh = 4 then wK d T q (cAll d (cl d) q) else if wh = 1 then lil d q else big d q)) ∨ (ix < 0 ∨ cnfA d (cl d) ≤ ix) ∧ t = 1 ∨ (0 ≤ ix ∧ ix < cnfA d (cl d)) ∧ (wh < 0 ∨ 4 < wh) ∧ t = 2) ∧ MRO cy b aM ad I d ws0 u t) := by
  refine MI.of (own := RX11) (cc := cX11_conflict) (nL := 5) (ret := (some .int)) (by decide) rfl rfl (Nat.le_of_ble_eq_true rfl) ?_
  intro p e s m below meth c A ls E h hl
  have hl : lv_has ls 5 [(0, .ref aM), (1, .int (zI ix)), (2, .int (zI wh))] := hl
  have hE : Eqx ws0 ws0 (fun j => j = b ∨ j = b + 2 ∨ j = b + 4 ∨ j = b + 20 ∨ j = b + 21) := Eqx.rf
  have hn9 := hD.n
  have hk9 := hD.k
  have hlen := KL_len hD
  have hca := cnfA_rng (e := cl d) hD
  have hlaid := hL.1
  refine r_aload_n E 0 hl rfl dX11_conflict_0 ?_
  refine r_iconst E dX11_conflict_1 ?_
  refine r_put E h h_mo rfl inn_X11_conflict_11 0 (by decide) fl_X11_conflict_57 tyX11 tyX11_ok nmX11 rfl rfl rfl (Nat.le_of_ble_eq_true rfl) dX11_conflict_2 (fun ws H locs h hu => ?_)
  have h_mo : ws[b]? = some (aM, mO (va_up I 0 0) ad) := hu.1
  have h_da := hu.keep h_da (by omega)
  have h_ke := hu.keep h_ke (by omega)
  have h_st := hu.keep h_st (by omega)
  have h_op := hu.keep h_op (by omega)
  have h_me := hu.keep h_me (by omega)
  have h_le := hu.keep h_le (by omega)
  have h_ru := hu.keep h_ru (by omega)
  have hE := hE.tr (hu.eqx (by first | omega | (dsimp only <;> omega)))
  refine r_aload_n E 0 hl rfl dX11_conflict_5 ?_
  refine r_iload_n E 1 hl rfl dX11_conflict_6 ?_
  refine r_iconst E dX11_conflict_7 ?_
  refine r_aload_n E 0 hl rfl dX11_conflict_8 ?_
  refine r_callVI E h (As := []) (rest := [.int (zI 0), .int (zI ix), .ref aM]) (k_X11_countAll l h_mo h_da h_me h_le hD hD (by first | exact hL | (simp only [va_up]; exact hL))) h_mo rfl gX11_conflict_X11_countAll rfl hd_X11_countAll (by decide) ⟨by decide, by decide⟩ hl.1 rfl (Nat.le_of_ble_eq_true rfl) dX11_conflict_9 rfl (fun z_9 ws H locs hp h => ?_)
  obtain ⟨rfl, rfl⟩ := hp
  refine r_iconst E dX11_conflict_12 ?_
  refine r_isub E dX11_conflict_13 ?_
  refine r_callSI E h (As := [.int (zI ix), .int (zI 0), .int (zI ((cnfA d (cl d)) - 1))]) (rest := [.ref aM]) (k_X11_in l ix 0 ((cnfA d (cl d)) - 1) (by omega)) gX11_conflict_X11_in rfl hd_X11_in (by decide) ⟨by decide, by decide⟩ hl.1 rfl (Nat.le_of_ble_eq_true rfl) dX11_conflict_14 rfl (fun z_14 ws H locs hp h => ?_)
  obtain ⟨e_z_14, rfl⟩ := hp
  refine r_cut (α := Int) (fun x_17 H locs ls => (x_17 = 0 ∧ ¬ z_14 = 0 ∨ x_17 = 1 ∧ z_14 = 0) ∧ Hp G ws A s.heap H locs ∧ lv_has ls 5 [(0, .ref aM), (1, .int (zI ix)), (2, .int (zI wh))]) 25 (fun x_17 => [.int (zI x_17), .ref aM]) ?_ ?_
  · rintro x_17 H locs ls ⟨b_17, h, hl⟩
    refine r_iconst E dX11_conflict_25 ?_
    refine r_callVI E h (As := [.int (zI x_17), .int (zI 1)]) (rest := []) (k_X11_fails l x_17 1 h_mo (by omega) (by omega) (by first | rfl | (simp [va_up]; done) | (simp [va_up]; omega))) h_mo rfl gX11_conflict_X11_fails rfl hd_X11_fails (by decide) ⟨by decide, by decide⟩ hl.1 rfl (Nat.le_of_ble_eq_true rfl) dX11_conflict_26 rfl (fun z_26 ws H locs hp h => ?_)
    obtain ⟨t_26, e_26, h_mo, hf⟩ := hp
    have h_da := hf.at h_da (by first | omega | (dsimp only <;> omega))
    have h_ke := hf.at h_ke (by first | omega | (dsimp only <;> omega))
    have h_st := hf.at h_st (by first | omega | (dsimp only <;> omega))
    have h_op := hf.at h_op (by first | omega | (dsimp only <;> omega))
    have h_me := hf.at h_me (by first | omega | (dsimp only <;> omega))
    have h_le := hf.at h_le (by first | omega | (dsimp only <;> omega))
    have h_ru := hf.at h_ru (by first | omega | (dsimp only <;> omega))
    have hE := hE.tr (hf.wk (fun j hj => by first | omega | (dsimp only at hj ⊢ <;> omega)))
    refine r_if_ne E 54 dX11_conflict_29 (by decide) (by omega) (fun c_29 => ?_) (fun c_29 => ?_)
    · skip
      refine r_iconst E dX11_conflict_54 ?_
      exact r_iret E h ⟨t_26, by omega, va_up (va_up I 0 0) 0 t_26, ke, st, op, h_mo, h_da, h_ke, h_st, h_op, (by first | rfl | (simp [va_up]) | assumption), (fun k h0 h1 h2 h3 h4 => by first | rfl | simp [va_up, h0, h1, h2, h3, h4]), hE⟩ dX11_conflict_55
    · skip
      refine r_aload_n E 0 hl rfl dX11_conflict_32 ?_
      refine r_iload_n E 2 hl rfl dX11_conflict_33 ?_
      refine r_iconst E dX11_conflict_34 ?_
      refine r_iconst E dX11_conflict_35 ?_
      refine r_callSI E h (As := [.int (zI wh), .int (zI 0), .int (zI 4)]) (rest := [.ref aM]) (k_X11_in l wh 0 4 (by omega)) gX11_conflict_X11_in rfl hd_X11_in (by decide) ⟨by decide, by decide⟩ hl.1 rfl (Nat.le_of_ble_eq_true rfl) dX11_conflict_36 rfl (fun z_36 ws H locs hp h => ?_)
      obtain ⟨e_z_36, rfl⟩ := hp
      refine r_cut (α := Int) (fun x_39 H locs ls => (x_39 = 0 ∧ ¬ z_36 = 0 ∨ x_39 = 1 ∧ z_36 = 0) ∧ Hp G ws A s.heap H locs ∧ lv_has ls 5 [(0, .ref aM), (1, .int (zI ix)), (2, .int (zI wh))]) 47 (fun x_39 => [.int (zI x_39), .ref aM]) ?_ ?_
      · rintro x_39 H locs ls ⟨b_39, h, hl⟩
        refine r_iconst E dX11_conflict_47 ?_
        refine r_callVI E h (As := [.int (zI x_39), .int (zI 2)]) (rest := []) (k_X11_fails l x_39 2 h_mo (by omega) (by omega) (by first | rfl | (simp [va_up]; done) | (simp [va_up]; omega))) h_mo rfl gX11_conflict_X11_fails rfl hd_X11_fails (by decide) ⟨by decide, by decide⟩ hl.1 rfl (Nat.le_of_ble_eq_true rfl) dX11_conflict_48 rfl (fun z_48 ws H locs hp h => ?_)
        obtain ⟨t_48, e_48, h_mo, hf⟩ := hp
        have h_da := hf.at h_da (by first | omega | (dsimp only <;> omega))
        have h_ke := hf.at h_ke (by first | omega | (dsimp only <;> omega))
        have h_st := hf.at h_st (by first | omega | (dsimp only <;> omega))
        have h_op := hf.at h_op (by first | omega | (dsimp only <;> omega))
        have h_me := hf.at h_me (by first | omega | (dsimp only <;> omega))
        have h_le := hf.at h_le (by first | omega | (dsimp only <;> omega))
        have h_ru := hf.at h_ru (by first | omega | (dsimp only <;> omega))
        have hE := hE.tr (hf.wk (fun j hj => by first | omega | (dsimp only at hj ⊢ <;> omega)))
        refine r_if_eq E 56 dX11_conflict_51 (by decide) (by omega) (fun c_51 => ?_) (fun c_51 => ?_)
        · skip
          refine r_iconst E dX11_conflict_56 ?_
          refine r_istore_n (lv' := [(3, .int (zI 0)), (0, .ref aM), (1, .int (zI ix)), (2, .int (zI wh))]) E hl dX11_conflict_57 rfl (by decide) rfl (fun ls hl => ?_)
          refine r_iload_n E 2 hl rfl dX11_conflict_58 ?_
          refine r_istore (lv' := [(4, .int (zI ix)), (3, .int (zI 0)), (0, .ref aM), (1, .int (zI ix)), (2, .int (zI wh))]) E hl dX11_conflict_59 (by decide) rfl (fun ls hl => ?_)
          refine r_loop (fun n H locs ls => ∃ (s8 : Int) (lf : Int), n = (6400 - s8).toNat ∧ ((0 ≤ s8 ∧ s8 ≤ (KL d).length) ∧ 0 ≤ lf) ∧ (lf + sumL (fun q => is1 d (cl d) q) ((KL d).take s8.toNat) = ix) ∧ Hp G ws A s.heap H locs ∧ lv_has ls 5 [(0, .ref aM), (1, .int (zI ix)), (2, .int (zI wh)), (3, .int (zI s8)), (4, .int (zI lf))]) _ ⟨0, ix, rfl, (by omega), (by show ix + sumL _ ((KL d).take 0) = ix; simp [sumL]), h, lv_sub hl [2, 3, 4, 1, 0] rfl⟩ ?_
          rintro n H locs ls ⟨s8, lf, hn, i1, i2, h, hl⟩ ih_61
          have hsl : s8 < (KL d).length := by
            rcases (by omega : s8 < (KL d).length ∨ s8 = (KL d).length) with hh | hh
            · exact hh
            · exfalso
              have i9 := i2
              rw [List.take_of_length_le (by omega)] at i9
              have i8 : lf + cnfA d (cl d) = ix := i9
              omega
          obtain ⟨q9, hk9⟩ : ∃ q, (KL d)[Int.toNat s8]? = some q := ⟨_, List.getElem?_eq_getElem (by have := hL.1; omega)⟩
          have hq9 := KL_at hD hk9
          have hl9 := hL.2.1 _ q9 hk9
          rw [show (((Int.toNat s8) : Nat) : Int) = s8 by omega] at hl9
          have hcb := cAll_b hD hD hq9
          have e9 := sumL_take (f := fun q => is1 d (cl d) q) hk9
          rw [show s8.toNat + 1 = (s8 + 1).toNat by omega] at e9
          have hsn := (sumT_le (s := s8.toNat) (f := fun q => is1 d (cl d) q) (l := KL d) (fun q _ => is1_rng.1)).1
          have hw9 := wgt_rng (T := T) (r := q9.1) (g := big d q9) (c := cAll d (cl d) q9)
          refine r_aload_n E 0 hl rfl dX11_conflict_61 ?_
          refine r_iload_n E 3 hl rfl dX11_conflict_62 ?_
          refine r_callVI E h (As := [.int (zI s8)]) (rest := []) (k_X11_colourAll l s8 q9 h_mo h_da h_me h_le hD (DW.c4 hD) (by omega) hq9 hl9.2.1 hl9.2.2) h_mo rfl gX11_conflict_X11_colourAll rfl hd_X11_colourAll (by decide) ⟨by decide, by decide⟩ hl.1 rfl (Nat.le_of_ble_eq_true rfl) dX11_conflict_63 rfl (fun z_63 ws H locs hp h => ?_)
          obtain ⟨rfl, rfl⟩ := hp
          refine r_iconst E dX11_conflict_66 ?_
          refine r_icmp_eq E 75 dX11_conflict_67 (by decide) (by omega) (fun c_67 => ?_) (fun c_67 => ?_)
          · skip
            refine r_iload E 4 hl rfl dX11_conflict_75 ?_
            refine r_aload_n E 0 hl rfl dX11_conflict_77 ?_
            refine r_iload_n E 3 hl rfl dX11_conflict_78 ?_
            refine r_callVI E h (As := [.int (zI s8)]) (rest := [.int (zI lf)]) (k_X11_colourAll l s8 q9 h_mo h_da h_me h_le hD (DW.c4 hD) (by omega) hq9 hl9.2.1 hl9.2.2) h_mo rfl gX11_conflict_X11_colourAll rfl hd_X11_colourAll (by decide) ⟨by decide, by decide⟩ hl.1 rfl (Nat.le_of_ble_eq_true rfl) dX11_conflict_79 rfl (fun z_79 ws H locs hp h => ?_)
            obtain ⟨rfl, rfl⟩ := hp
            refine r_iconst E dX11_conflict_82 ?_
            refine r_cut (α := Int) (fun x_83 H locs ls => (x_83 = 1 ∧ ¬ (cAll d (cl d) q9) = (-1) ∨ x_83 = 0 ∧ (cAll d (cl d) q9) = (-1)) ∧ Hp G ws A s.heap H locs ∧ lv_has ls 5 [(0, .ref aM), (1, .int (zI ix)), (2, .int (zI wh)), (3, .int (zI s8)), (4, .int (zI lf))]) 91 (fun x_83 => [.int (zI x_83), .int (zI lf)]) ?_ ?_
            · rintro x_83 H locs ls ⟨b_83, h, hl⟩
              have e8 : is1 d (cl d) q9 = x_83 := by
                rcases b_83 with ⟨a1, a2⟩ | ⟨a1, a2⟩
                · rw [a1]; exact if_neg a2
                · rw [a1]; exact if_pos a2
              refine r_isub E dX11_conflict_91 ?_
              refine r_istore (lv' := [(4, .int (zI (lf - x_83))), (0, .ref aM), (1, .int (zI ix)), (2, .int (zI wh)), (3, .int (zI s8))]) E hl dX11_conflict_92 (by decide) rfl (fun ls hl => ?_)
              refine r_iinc (lv' := [(3, .int (zI (s8 + 1))), (4, .int (zI (lf - x_83))), (0, .ref aM), (1, .int (zI ix)), (2, .int (zI wh))]) E 4 hl rfl dX11_conflict_94 (by decide) rfl (fun ls hl => ?_)
              refine r_goto E 61 dX11_conflict_97 (by decide) ?_
              exact ih_61 _ H locs ls (by omega) ⟨(s8 + 1), (lf - x_83), rfl, (by omega), (by rw [e9]; omega), h, lv_sub hl [2, 3, 4, 0, 1] rfl⟩
            · intro kb_83
              refine r_icmp_ne E 90 dX11_conflict_83 (by decide) (by omega) (fun c_83 => ?_) (fun c_83 => ?_)
              · refine r_iconst E dX11_conflict_90 ?_
                exact kb_83 _ H locs ls ⟨Or.inl ⟨rfl, c_83⟩, h, hl⟩
              · refine r_iconst E dX11_conflict_86 ?_
                refine r_goto E 91 dX11_conflict_87 (by decide) ?_
                exact kb_83 _ H locs ls ⟨Or.inr ⟨rfl, c_83⟩, h, hl⟩
          · skip
            refine r_iload E 4 hl rfl dX11_conflict_70 ?_
            refine r_if_le E 100 dX11_conflict_72 (by decide) (by omega) (fun c_72 => ?_) (fun c_72 => ?_)
            · skip
              refine r_iload_n E 2 hl rfl dX11_conflict_100 ?_
              refine r_if_ne E 113 dX11_conflict_101 (by decide) (by omega) (fun c_101 => ?_) (fun c_101 => ?_)
              · skip
                refine r_iload_n E 2 hl rfl dX11_conflict_113 ?_
                refine r_iconst E dX11_conflict_114 ?_
                refine r_icmp_ne E 126 dX11_conflict_115 (by decide) (by omega) (fun c_115 => ?_) (fun c_115 => ?_)
                · skip
                  refine r_iload_n E 2 hl rfl dX11_conflict_126 ?_
                  refine r_iconst E dX11_conflict_127 ?_
                  refine r_icmp_ne E 144 dX11_conflict_128 (by decide) (by omega) (fun c_128 => ?_) (fun c_128 => ?_)
                  · skip
                    refine r_aload_n E 0 hl rfl dX11_conflict_144 ?_
                    refine r_iload_n E 3 hl rfl dX11_conflict_145 ?_
                    refine r_iload_n E 2 hl rfl dX11_conflict_146 ?_
                    refine r_iconst E dX11_conflict_147 ?_
                    refine r_cut (α := Int) (fun x_148 H locs ls => (x_148 = 0 ∧ ¬ wh = 1 ∨ x_148 = 1 ∧ wh = 1) ∧ Hp G ws A s.heap H locs ∧ lv_has ls 5 [(0, .ref aM), (1, .int (zI ix)), (2, .int (zI wh)), (3, .int (zI s8)), (4, .int (zI lf))]) 156 (fun x_148 => [.int (zI x_148), .int (zI s8), .ref aM]) ?_ ?_
                    · rintro x_148 H locs ls ⟨b_148, h, hl⟩
                      refine r_callVI E h (As := [.int (zI s8), .int (zI x_148)]) (rest := []) (k_X11_extreme l s8 x_148 q9 h_mo h_me h_le hD (by omega) hq9 hl9.2.1 hl9.2.2 (by omega)) h_mo rfl gX11_conflict_X11_extreme rfl hd_X11_extreme (by decide) ⟨by decide, by decide⟩ hl.1 rfl (Nat.le_of_ble_eq_true rfl) dX11_conflict_156 rfl (fun z_156 ws H locs hp h => ?_)
                      obtain ⟨e_z_156, f_z_156, rfl⟩ := hp
                      exact r_iret E h ⟨t_48, Or.inl ⟨by omega, by omega, by omega, s8.toNat, q9, hk9, by omega, by omega, by first | (rw [if_pos (by omega)]; exact hl9.1) | (rw [if_neg (by omega), if_pos (by omega)]) | (rw [if_neg (by omega), if_neg (by omega), if_pos (by omega)]; exact e_138) | (rw [if_neg (by omega), if_neg (by omega), if_neg (by omega)]; exact b_148.elim (fun a => by rw [if_neg a.2]; exact f_z_156 a.1) (fun a => by rw [if_pos a.2]; exact e_z_156 a.1))⟩, va_up (va_up (va_up I 0 0) 0 t_26) 0 t_48, ke, st, op, h_mo, h_da, h_ke, h_st, h_op, (by first | rfl | (simp [va_up]) | assumption), (fun k h0 h1 h2 h3 h4 => by first | rfl | simp [va_up, h0, h1, h2, h3, h4]), hE⟩ dX11_conflict_159
                    · intro kb_148
                      refine r_icmp_ne E 155 dX11_conflict_148 (by decide) (by omega) (fun c_148 => ?_) (fun c_148 => ?_)
                      · refine r_iconst E dX11_conflict_155 ?_
                        exact kb_148 _ H locs ls ⟨Or.inl ⟨rfl, c_148⟩, h, hl⟩
                      · refine r_iconst E dX11_conflict_151 ?_
                        refine r_goto E 156 dX11_conflict_152 (by decide) ?_
                        exact kb_148 _ H locs ls ⟨Or.inr ⟨rfl, c_148⟩, h, hl⟩
                  · skip
                    refine r_aload_n E 0 hl rfl dX11_conflict_131 ?_
                    refine r_iload_n E 3 hl rfl dX11_conflict_132 ?_
                    refine r_aload_n E 0 hl rfl dX11_conflict_133 ?_
                    refine r_iload_n E 3 hl rfl dX11_conflict_134 ?_
                    refine r_callVI E h (As := [.int (zI s8)]) (rest := [.int (zI s8), .ref aM]) (k_X11_colourAll l s8 q9 h_mo h_da h_me h_le hD (DW.c4 hD) (by omega) hq9 hl9.2.1 hl9.2.2) h_mo rfl gX11_conflict_X11_colourAll rfl hd_X11_colourAll (by decide) ⟨by decide, by decide⟩ hl.1 rfl (Nat.le_of_ble_eq_true rfl) dX11_conflict_135 rfl (fun z_135 ws H locs hp h => ?_)
                    obtain ⟨rfl, rfl⟩ := hp
                    refine r_callVI E h (As := [.int (zI s8), .int (zI (cAll d (cl d) q9))]) (rest := []) (k_X11_weightOf l s8 (cAll d (cl d) q9) q9 h_mo h_da h_me h_le h_ru h_st hD hD (by omega) hq9 hl9.1 hl9.2.1 hl9.2.2 (by omega)) h_mo rfl gX11_conflict_X11_weightOf rfl hd_X11_weightOf (by decide) ⟨by decide, by decide⟩ hl.1 rfl (Nat.le_of_ble_eq_true rfl) dX11_conflict_138 rfl (fun z_138 ws H locs hp h => ?_)
                    obtain ⟨e_138, st_138, h_st, hf⟩ := hp
                    have h_mo := hf.at h_mo (by first | omega | (dsimp only <;> omega))
                    have h_da := hf.at h_da (by first | omega | (dsimp only <;> omega))
                    have h_ke := hf.at h_ke (by first | omega | (dsimp only <;> omega))
                    have h_op := hf.at h_op (by first | omega | (dsimp only <;> omega))
                    have h_me := hf.at h_me (by first | omega | (dsimp only <;> omega))
                    have h_le := hf.at h_le (by first | omega | (dsimp only <;> omega))
                    have h_ru := hf.at h_ru (by first | omega | (dsimp only <;> omega))
                    have hE := hE.tr (hf.wk (fun j hj => by first | omega | (dsimp only at hj ⊢ <;> omega)))
                    refine r_goto E 159 dX11_conflict_141 (by decide) ?_
                    exact r_iret E h ⟨t_48, Or.inl ⟨by omega, by omega, by omega, s8.toNat, q9, hk9, by omega, by omega, by first | (rw [if_pos (by omega)]; exact hl9.1) | (rw [if_neg (by omega), if_pos (by omega)]) | (rw [if_neg (by omega), if_neg (by omega), if_pos (by omega)]; exact e_138) | (rw [if_neg (by omega), if_neg (by omega), if_neg (by omega)]; exact b_148.elim (fun a => by rw [if_neg a.2]; exact f_z_156 a.1) (fun a => by rw [if_pos a.2]; exact e_z_156 a.1))⟩, va_up (va_up (va_up I 0 0) 0 t_26) 0 t_48, ke, st_138, op, h_mo, h_da, h_ke, h_st, h_op, (by first | rfl | (simp [va_up]) | assumption), (fun k h0 h1 h2 h3 h4 => by first | rfl | simp [va_up, h0, h1, h2, h3, h4]), hE⟩ dX11_conflict_159
                · skip
                  refine r_aload_n E 0 hl rfl dX11_conflict_118 ?_
                  refine r_iload_n E 3 hl rfl dX11_conflict_119 ?_
                  refine r_callVI E h (As := [.int (zI s8)]) (rest := []) (k_X11_colourAll l s8 q9 h_mo h_da h_me h_le hD (DW.c4 hD) (by omega) hq9 hl9.2.1 hl9.2.2) h_mo rfl gX11_conflict_X11_colourAll rfl hd_X11_colourAll (by decide) ⟨by decide, by decide⟩ hl.1 rfl (Nat.le_of_ble_eq_true rfl) dX11_conflict_120 rfl (fun z_120 ws H locs hp h => ?_)
                  obtain ⟨rfl, rfl⟩ := hp
                  refine r_goto E 159 dX11_conflict_123 (by decide) ?_
                  exact r_iret E h ⟨t_48, Or.inl ⟨by omega, by omega, by omega, s8.toNat, q9, hk9, by omega, by omega, by first | (rw [if_pos (by omega)]; exact hl9.1) | (rw [if_neg (by omega), if_pos (by omega)]) | (rw [if_neg (by omega), if_neg (by omega), if_pos (by omega)]; exact e_138) | (rw [if_neg (by omega), if_neg (by omega), if_neg (by omega)]; exact b_148.elim (fun a => by rw [if_neg a.2]; exact f_z_156 a.1) (fun a => by rw [if_pos a.2]; exact e_z_156 a.1))⟩, va_up (va_up (va_up I 0 0) 0 t_26) 0 t_48, ke, st, op, h_mo, h_da, h_ke, h_st, h_op, (by first | rfl | (simp [va_up]) | assumption), (fun k h0 h1 h2 h3 h4 => by first | rfl | simp [va_up, h0, h1, h2, h3, h4]), hE⟩ dX11_conflict_159
              · skip
                refine r_aload_n E 0 hl rfl dX11_conflict_104 ?_
                refine r_get (v := .ref (ad 17)) E h h_mo rfl inn_X11_conflict_11 17 (by decide) fl_X11_conflict_38 rfl dX11_conflict_105 ?_
                refine r_iload_n E 3 hl rfl dX11_conflict_108 ?_
                refine r_iald E h h_ru (by omega) (by decide) dX11_conflict_109 ?_
                rw [show ru s8 = ru s8 from rfl]
                refine r_goto E 159 dX11_conflict_110 (by decide) ?_
                exact r_iret E h ⟨t_48, Or.inl ⟨by omega, by omega, by omega, s8.toNat, q9, hk9, by omega, by omega, by first | (rw [if_pos (by omega)]; exact hl9.1) | (rw [if_neg (by omega), if_pos (by omega)]) | (rw [if_neg (by omega), if_neg (by omega), if_pos (by omega)]; exact e_138) | (rw [if_neg (by omega), if_neg (by omega), if_neg (by omega)]; exact b_148.elim (fun a => by rw [if_neg a.2]; exact f_z_156 a.1) (fun a => by rw [if_pos a.2]; exact e_z_156 a.1))⟩, va_up (va_up (va_up I 0 0) 0 t_26) 0 t_48, ke, st, op, h_mo, h_da, h_ke, h_st, h_op, (by first | rfl | (simp [va_up]) | assumption), (fun k h0 h1 h2 h3 h4 => by first | rfl | simp [va_up, h0, h1, h2, h3, h4]), hE⟩ dX11_conflict_159
            · skip
              refine r_iload E 4 hl rfl dX11_conflict_75 ?_
              refine r_aload_n E 0 hl rfl dX11_conflict_77 ?_
              refine r_iload_n E 3 hl rfl dX11_conflict_78 ?_
              refine r_callVI E h (As := [.int (zI s8)]) (rest := [.int (zI lf)]) (k_X11_colourAll l s8 q9 h_mo h_da h_me h_le hD (DW.c4 hD) (by omega) hq9 hl9.2.1 hl9.2.2) h_mo rfl gX11_conflict_X11_colourAll rfl hd_X11_colourAll (by decide) ⟨by decide, by decide⟩ hl.1 rfl (Nat.le_of_ble_eq_true rfl) dX11_conflict_79 rfl (fun z_79 ws H locs hp h => ?_)
              obtain ⟨rfl, rfl⟩ := hp
              refine r_iconst E dX11_conflict_82 ?_
              refine r_cut (α := Int) (fun x_83 H locs ls => (x_83 = 1 ∧ ¬ (cAll d (cl d) q9) = (-1) ∨ x_83 = 0 ∧ (cAll d (cl d) q9) = (-1)) ∧ Hp G ws A s.heap H locs ∧ lv_has ls 5 [(0, .ref aM), (1, .int (zI ix)), (2, .int (zI wh)), (3, .int (zI s8)), (4, .int (zI lf))]) 91 (fun x_83 => [.int (zI x_83), .int (zI lf)]) ?_ ?_
              · rintro x_83 H locs ls ⟨b_83, h, hl⟩
                have e8 : is1 d (cl d) q9 = x_83 := by
                  rcases b_83 with ⟨a1, a2⟩ | ⟨a1, a2⟩
                  · rw [a1]; exact if_neg a2
                  · rw [a1]; exact if_pos a2
                refine r_isub E dX11_conflict_91 ?_
                refine r_istore (lv' := [(4, .int (zI (lf - x_83))), (0, .ref aM), (1, .int (zI ix)), (2, .int (zI wh)), (3, .int (zI s8))]) E hl dX11_conflict_92 (by decide) rfl (fun ls hl => ?_)
                refine r_iinc (lv' := [(3, .int (zI (s8 + 1))), (4, .int (zI (lf - x_83))), (0, .ref aM), (1, .int (zI ix)), (2, .int (zI wh))]) E 4 hl rfl dX11_conflict_94 (by decide) rfl (fun ls hl => ?_)
                refine r_goto E 61 dX11_conflict_97 (by decide) ?_
                exact ih_61 _ H locs ls (by omega) ⟨(s8 + 1), (lf - x_83), rfl, (by omega), (by rw [e9]; omega), h, lv_sub hl [2, 3, 4, 0, 1] rfl⟩
              · intro kb_83
                refine r_icmp_ne E 90 dX11_conflict_83 (by decide) (by omega) (fun c_83 => ?_) (fun c_83 => ?_)
                · refine r_iconst E dX11_conflict_90 ?_
                  exact kb_83 _ H locs ls ⟨Or.inl ⟨rfl, c_83⟩, h, hl⟩
                · refine r_iconst E dX11_conflict_86 ?_
                  refine r_goto E 91 dX11_conflict_87 (by decide) ?_
                  exact kb_83 _ H locs ls ⟨Or.inr ⟨rfl, c_83⟩, h, hl⟩
        · skip
          refine r_iconst E dX11_conflict_54 ?_
          exact r_iret E h ⟨t_48, by omega, va_up (va_up (va_up I 0 0) 0 t_26) 0 t_48, ke, st, op, h_mo, h_da, h_ke, h_st, h_op, (by first | rfl | (simp [va_up]) | assumption), (fun k h0 h1 h2 h3 h4 => by first | rfl | simp [va_up, h0, h1, h2, h3, h4]), hE⟩ dX11_conflict_55
      · intro kb_39
        refine r_if_ne E 46 dX11_conflict_39 (by decide) (by omega) (fun c_39 => ?_) (fun c_39 => ?_)
        · refine r_iconst E dX11_conflict_46 ?_
          exact kb_39 _ H locs ls ⟨Or.inl ⟨rfl, c_39⟩, h, hl⟩
        · refine r_iconst E dX11_conflict_42 ?_
          refine r_goto E 47 dX11_conflict_43 (by decide) ?_
          exact kb_39 _ H locs ls ⟨Or.inr ⟨rfl, c_39⟩, h, hl⟩
  · intro kb_17
    refine r_if_ne E 24 dX11_conflict_17 (by decide) (by omega) (fun c_17 => ?_) (fun c_17 => ?_)
    · refine r_iconst E dX11_conflict_24 ?_
      exact kb_17 _ H locs ls ⟨Or.inl ⟨rfl, c_17⟩, h, hl⟩
    · refine r_iconst E dX11_conflict_20 ?_
      refine r_goto E 25 dX11_conflict_21 (by decide) ?_
      exact kb_17 _ H locs ls ⟨Or.inr ⟨rfl, c_17⟩, h, hl⟩
