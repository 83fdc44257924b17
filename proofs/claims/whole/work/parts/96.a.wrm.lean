/-! the wrappers once more: what is stored is the long of the int, whatever it is -/
theorem r_i2lX {p : Program} {l : Launch} {e : Env} {R : Room} {s : State} {m : MethodId} {args : Array Value} {below : List Frame} {meth : Method} {c : Code} {H : Heap} {locs : List Loc} {cells slots : Nat} {Q : State → Prop} {cc : ByteArray} {nL pc : Nat} {ret : Option FieldType} {ls : Array Slot} {rest : List Value} {wds : List Cond} {own : String} {G : va_G} {cy : Nat → ClassId} (E : Ev p s m meth c args cc nL ret wds own G cy) {a : Int} (hdg : decode cc pc = .ok (.i2l, 1)) (k : W p l e R s m args below meth c H locs cells slots Q (F0 m (pc + 1) ls (.long (zI a).toInt64 :: rest))) : W p l e R s m args below meth c H locs cells slots Q (F0 m pc ls (.int (zI a) :: rest)) := lv_i2l E.1 E.2.1 hdg rfl k
set_option maxHeartbeats 1200000 in
set_option maxRecDepth 100000 in
theorem k_M_load (l : Launch) {G : va_G} {cy : Nat → ClassId} {ws0 : va_W} {ax q0 ao o : Nat} {fs : List Value} {g : Int → Int64} (a1 : Int) {xq : String → Prop} {post : Int → va_W → Prop} (hM : TIk l yX10_load wsX10_load rm_X10_load G cy [.ref ax, .int (zI a1)] ws0 xq post) (hq0 : ws0[q0]? = some (ax, .inr (10, fs))) (hfr : ∀ v w, post v w → w[o]? = some (ao, aL cy 1 g)) (hxq : ∀ E9, xq E9 → E9 = "java/lang/IllegalArgumentException") : TIn l yL_load wsK_load rm_L_load G cy [.ref ax, .int (zI a1), .ref ao] ws0 (fun z u => (z = 0 ∧ ∃ v w, post v w ∧ Up1 w u o (ao, aL cy 1 (uZ g 0 (zI v).toInt64))) ∨ (z = 1 ∧ xq "java/lang/IllegalArgumentException" ∧ u = ws0)) := by
  refine TIn.of (own := RL) (cc := cL_load) (nL := 4) (ret := (some .int)) (hh := [(0, 9, 12, 13)]) (by decide) rfl rfl (Nat.le_of_ble_eq_true rfl) ?_
  intro p e s m below meth c A ls hX hN hT E h hl
  have hl : lv_has ls 4 [(0, .ref ax), (1, .int (zI a1)), (2, .ref ao)] := hl
  refine r_aload_n E 2 hl rfl dL_load_0 ?_
  refine r_iconst E dL_load_1 ?_
  refine r_aload_n E 0 hl rfl dL_load_2 ?_
  refine r_iload_n E 1 hl rfl dL_load_3 ?_
  refine r_callVc E hX h (As := [.int (zI a1)]) (rest := [.int (zI 0), .ref ao]) hM hq0 rfl gK_load_X10_load rfl hd_X10_load (by decide) ⟨by decide, by decide⟩ hl.1 rfl (Nat.le_of_ble_eq_true rfl) dL_load_4 rfl (fun E9 ce q9 H locs hx h hce hcv hcl => ?_) (fun z ws H locs hp h => ?_)
  · rcases hxq E9 hx with rfl
    · refine r_catch E hX [] ⟨0, 9, 12, 13⟩ [] (hT.trans rfl) (fun z hz => absurd hz List.not_mem_nil) (by decide) (by decide) (List.mem_cons_of_mem _ (List.mem_append_right _ (List.mem_singleton.mpr rfl))) (by decide) hce hcv hcl ?_
      refine r_astore_n (lv' := [(3, .ref q9), (0, .ref ax), (1, .int (zI a1)), (2, .ref ao)]) E hl dL_load_12 rfl (by decide) rfl (fun ls hl => ?_)
      refine r_iconst E dL_load_13 ?_
      exact vx_ret (r_iret E h (Or.inr ⟨rfl, hx, rfl⟩) dL_load_14)
  · have ho := hfr z ws hp
    refine r_i2lX E dL_load_7 ?_
    refine r_last E h ho (by decide) (by decide) dL_load_8 (fun ws H locs h hu => ?_)
    refine r_goto E 15 dL_load_9 (by decide) ?_
    refine r_iconst E dL_load_15 ?_
    exact vx_ret (r_iret E h (Or.inl ⟨rfl, _, _, hp, hu⟩) dL_load_16)
set_option maxHeartbeats 1200000 in
set_option maxRecDepth 100000 in
theorem k_M_solutions (l : Launch) {G : va_G} {cy : Nat → ClassId} {ws0 : va_W} {ax q0 ao o : Nat} {fs : List Value} {g : Int → Int64} (a1 : Int) {xq : String → Prop} {post : Int → va_W → Prop} (hM : TIk l yX10_solutions wsX10_solutions rm_X10_solutions G cy [.ref ax, .int (zI a1)] ws0 xq post) (hq0 : ws0[q0]? = some (ax, .inr (10, fs))) (hfr : ∀ v w, post v w → w[o]? = some (ao, aL cy 1 g)) (hxq : ∀ E9, xq E9 → E9 = "java/lang/IndexOutOfBoundsException") : TIn l yL_solutions wsL_solutions rm_L_solutions G cy [.ref ax, .int (zI a1), .ref ao] ws0 (fun z u => (z = 0 ∧ ∃ v w, post v w ∧ Up1 w u o (ao, aL cy 1 (uZ g 0 (zI v).toInt64))) ∨ (z = 1 ∧ xq "java/lang/IndexOutOfBoundsException" ∧ u = ws0)) := by
  refine TIn.of (own := RL) (cc := cL_solutions) (nL := 4) (ret := (some .int)) (hh := [(0, 9, 12, 18)]) (by decide) rfl rfl (Nat.le_of_ble_eq_true rfl) ?_
  intro p e s m below meth c A ls hX hN hT E h hl
  have hl : lv_has ls 4 [(0, .ref ax), (1, .int (zI a1)), (2, .ref ao)] := hl
  refine r_aload_n E 2 hl rfl dL_solutions_0 ?_
  refine r_iconst E dL_solutions_1 ?_
  refine r_aload_n E 0 hl rfl dL_solutions_2 ?_
  refine r_iload_n E 1 hl rfl dL_solutions_3 ?_
  refine r_callVc E hX h (As := [.int (zI a1)]) (rest := [.int (zI 0), .ref ao]) hM hq0 rfl gL_solutions_X10_solutions rfl hd_X10_solutions (by decide) ⟨by decide, by decide⟩ hl.1 rfl (Nat.le_of_ble_eq_true rfl) dL_solutions_4 rfl (fun E9 ce q9 H locs hx h hce hcv hcl => ?_) (fun z ws H locs hp h => ?_)
  · rcases hxq E9 hx with rfl
    · refine r_catch E hX [] ⟨0, 9, 12, 18⟩ [] (hT.trans rfl) (fun z hz => absurd hz List.not_mem_nil) (by decide) (by decide) (List.mem_of_getElem? (i := 1) rfl) (by decide) hce hcv hcl ?_
      refine r_astore_n (lv' := [(3, .ref q9), (0, .ref ax), (1, .int (zI a1)), (2, .ref ao)]) E hl dL_solutions_12 rfl (by decide) rfl (fun ls hl => ?_)
      refine r_iconst E dL_solutions_13 ?_
      exact vx_ret (r_iret E h (Or.inr ⟨rfl, hx, rfl⟩) dL_solutions_14)
  · have ho := hfr z ws hp
    refine r_i2lX E dL_solutions_7 ?_
    refine r_last E h ho (by decide) (by decide) dL_solutions_8 (fun ws H locs h hu => ?_)
    refine r_goto E 15 dL_solutions_9 (by decide) ?_
    refine r_iconst E dL_solutions_15 ?_
    exact vx_ret (r_iret E h (Or.inl ⟨rfl, _, _, hp, hu⟩) dL_solutions_16)
set_option maxHeartbeats 1200000 in
set_option maxRecDepth 100000 in
theorem k_M_colour (l : Launch) {G : va_G} {cy : Nat → ClassId} {ws0 : va_W} {ax q0 ao o : Nat} {fs : List Value} {g : Int → Int64} (a1 : Int) {xq : String → Prop} {post : Int → va_W → Prop} (hM : TIk l yX10_colour wsX10_colour rm_X10_colour G cy [.ref ax, .int (zI a1)] ws0 xq post) (hq0 : ws0[q0]? = some (ax, .inr (10, fs))) (hfr : ∀ v w, post v w → w[o]? = some (ao, aL cy 1 g)) (hxq : ∀ E9, xq E9 → E9 = "java/lang/IndexOutOfBoundsException") : TIn l yL_colour wsL_colour rm_L_colour G cy [.ref ax, .int (zI a1), .ref ao] ws0 (fun z u => (z = 0 ∧ ∃ v w, post v w ∧ Up1 w u o (ao, aL cy 1 (uZ g 0 (zI v).toInt64))) ∨ (z = 1 ∧ xq "java/lang/IndexOutOfBoundsException" ∧ u = ws0)) := by
  refine TIn.of (own := RL) (cc := cL_colour) (nL := 4) (ret := (some .int)) (hh := [(0, 9, 12, 18)]) (by decide) rfl rfl (Nat.le_of_ble_eq_true rfl) ?_
  intro p e s m below meth c A ls hX hN hT E h hl
  have hl : lv_has ls 4 [(0, .ref ax), (1, .int (zI a1)), (2, .ref ao)] := hl
  refine r_aload_n E 2 hl rfl dL_colour_0 ?_
  refine r_iconst E dL_colour_1 ?_
  refine r_aload_n E 0 hl rfl dL_colour_2 ?_
  refine r_iload_n E 1 hl rfl dL_colour_3 ?_
  refine r_callVc E hX h (As := [.int (zI a1)]) (rest := [.int (zI 0), .ref ao]) hM hq0 rfl gL_colour_X10_colour rfl hd_X10_colour (by decide) ⟨by decide, by decide⟩ hl.1 rfl (Nat.le_of_ble_eq_true rfl) dL_colour_4 rfl (fun E9 ce q9 H locs hx h hce hcv hcl => ?_) (fun z ws H locs hp h => ?_)
  · rcases hxq E9 hx with rfl
    · refine r_catch E hX [] ⟨0, 9, 12, 18⟩ [] (hT.trans rfl) (fun z hz => absurd hz List.not_mem_nil) (by decide) (by decide) (List.mem_of_getElem? (i := 1) rfl) (by decide) hce hcv hcl ?_
      refine r_astore_n (lv' := [(3, .ref q9), (0, .ref ax), (1, .int (zI a1)), (2, .ref ao)]) E hl dL_colour_12 rfl (by decide) rfl (fun ls hl => ?_)
      refine r_iconst E dL_colour_13 ?_
      exact vx_ret (r_iret E h (Or.inr ⟨rfl, hx, rfl⟩) dL_colour_14)
  · have ho := hfr z ws hp
    refine r_i2lX E dL_colour_7 ?_
    refine r_last E h ho (by decide) (by decide) dL_colour_8 (fun ws H locs h hu => ?_)
    refine r_goto E 15 dL_colour_9 (by decide) ?_
    refine r_iconst E dL_colour_15 ?_
    exact vx_ret (r_iret E h (Or.inl ⟨rfl, _, _, hp, hu⟩) dL_colour_16)
set_option maxHeartbeats 1200000 in
set_option maxRecDepth 100000 in
theorem k_M_count (l : Launch) {G : va_G} {cy : Nat → ClassId} {ws0 : va_W} {ax q0 ao o : Nat} {fs : List Value} {g : Int → Int64} (a1 : Int) {xq : String → Prop} {post : Int → va_W → Prop} (hM : TIk l yX10_count wsX10_count rm_X10_count G cy [.ref ax, .int (zI a1)] ws0 xq post) (hq0 : ws0[q0]? = some (ax, .inr (10, fs))) (hfr : ∀ v w, post v w → w[o]? = some (ao, aL cy 1 g)) (hxq : ∀ E9, xq E9 → E9 = "java/lang/IndexOutOfBoundsException") : TIn l yL_count wsL_count rm_L_count G cy [.ref ax, .int (zI a1), .ref ao] ws0 (fun z u => (z = 0 ∧ ∃ v w, post v w ∧ Up1 w u o (ao, aL cy 1 (uZ g 0 (zI v).toInt64))) ∨ (z = 1 ∧ xq "java/lang/IndexOutOfBoundsException" ∧ u = ws0)) := by
  refine TIn.of (own := RL) (cc := cL_count) (nL := 4) (ret := (some .int)) (hh := [(0, 9, 12, 18)]) (by decide) rfl rfl (Nat.le_of_ble_eq_true rfl) ?_
  intro p e s m below meth c A ls hX hN hT E h hl
  have hl : lv_has ls 4 [(0, .ref ax), (1, .int (zI a1)), (2, .ref ao)] := hl
  refine r_aload_n E 2 hl rfl dL_count_0 ?_
  refine r_iconst E dL_count_1 ?_
  refine r_aload_n E 0 hl rfl dL_count_2 ?_
  refine r_iload_n E 1 hl rfl dL_count_3 ?_
  refine r_callVc E hX h (As := [.int (zI a1)]) (rest := [.int (zI 0), .ref ao]) hM hq0 rfl gL_count_X10_count rfl hd_X10_count (by decide) ⟨by decide, by decide⟩ hl.1 rfl (Nat.le_of_ble_eq_true rfl) dL_count_4 rfl (fun E9 ce q9 H locs hx h hce hcv hcl => ?_) (fun z ws H locs hp h => ?_)
  · rcases hxq E9 hx with rfl
    · refine r_catch E hX [] ⟨0, 9, 12, 18⟩ [] (hT.trans rfl) (fun z hz => absurd hz List.not_mem_nil) (by decide) (by decide) (List.mem_of_getElem? (i := 1) rfl) (by decide) hce hcv hcl ?_
      refine r_astore_n (lv' := [(3, .ref q9), (0, .ref ax), (1, .int (zI a1)), (2, .ref ao)]) E hl dL_count_12 rfl (by decide) rfl (fun ls hl => ?_)
      refine r_iconst E dL_count_13 ?_
      exact vx_ret (r_iret E h (Or.inr ⟨rfl, hx, rfl⟩) dL_count_14)
  · have ho := hfr z ws hp
    refine r_i2lX E dL_count_7 ?_
    refine r_last E h ho (by decide) (by decide) dL_count_8 (fun ws H locs h hu => ?_)
    refine r_goto E 15 dL_count_9 (by decide) ?_
    refine r_iconst E dL_count_15 ?_
    exact vx_ret (r_iret E h (Or.inl ⟨rfl, _, _, hp, hu⟩) dL_count_16)
set_option maxHeartbeats 1200000 in
set_option maxRecDepth 100000 in
theorem k_M_conflict (l : Launch) {G : va_G} {cy : Nat → ClassId} {ws0 : va_W} {ax q0 ao o : Nat} {fs : List Value} {g : Int → Int64} (a1 a2 : Int) {xq : String → Prop} {post : Int → va_W → Prop} (hM : TIk l yX10_conflict wsQ10_conflict rm_X10_conflict G cy [.ref ax, .int (zI a1), .int (zI a2)] ws0 xq post) (hq0 : ws0[q0]? = some (ax, .inr (10, fs))) (hfr : ∀ v w, post v w → w[o]? = some (ao, aL cy 1 g)) (hxq : ∀ E9, xq E9 → E9 = "java/util/NoSuchElementException" ∨ E9 = "java/lang/IllegalArgumentException") : TIn l yL_conflict wsQL_conflict rm_L_conflict G cy [.ref ax, .int (zI a1), .int (zI a2), .ref ao] ws0 (fun z u => (z = 0 ∧ ∃ v w, post v w ∧ Up1 w u o (ao, aL cy 1 (uZ g 0 (zI v).toInt64))) ∨ (z = 1 ∧ xq "java/util/NoSuchElementException" ∧ u = ws0) ∨ (z = 2 ∧ xq "java/lang/IllegalArgumentException" ∧ u = ws0)) := by
  refine TIn.of (own := RL) (cc := cL_conflict) (nL := 5) (ret := (some .int)) (hh := [(0, 10, 13, 34), (0, 10, 17, 13)]) (by decide) rfl rfl (Nat.le_of_ble_eq_true rfl) ?_
  intro p e s m below meth c A ls hX hN hT E h hl
  have hl : lv_has ls 5 [(0, .ref ax), (1, .int (zI a1)), (2, .int (zI a2)), (3, .ref ao)] := hl
  refine r_aload_n E 3 hl rfl dL_conflict_0 ?_
  refine r_iconst E dL_conflict_1 ?_
  refine r_aload_n E 0 hl rfl dL_conflict_2 ?_
  refine r_iload_n E 1 hl rfl dL_conflict_3 ?_
  refine r_iload_n E 2 hl rfl dL_conflict_4 ?_
  refine r_callVc E hX h (As := [.int (zI a1), .int (zI a2)]) (rest := [.int (zI 0), .ref ao]) hM hq0 rfl gQL_conflict_X10_conflict rfl hd_X10_conflict (by decide) ⟨by decide, by decide⟩ hl.1 rfl (Nat.le_of_ble_eq_true rfl) dL_conflict_5 rfl (fun E9 ce q9 H locs hx h hce hcv hcl => ?_) (fun z ws H locs hp h => ?_)
  · rcases hxq E9 hx with rfl | rfl
    · refine r_catch E hX [] ⟨0, 10, 13, 34⟩ [⟨0, 10, 17, 13⟩] (hT.trans rfl) (fun z hz => absurd hz List.not_mem_nil) (by decide) (by decide) (List.mem_of_getElem? (i := 1) rfl) (by decide) hce hcv hcl ?_
      refine r_astore (lv' := [(4, .ref q9), (0, .ref ax), (1, .int (zI a1)), (2, .int (zI a2)), (3, .ref ao)]) E hl dL_conflict_13 (by decide) rfl (fun ls hl => ?_)
      refine r_iconst E dL_conflict_15 ?_
      exact vx_ret (r_iret E h (Or.inr (Or.inl ⟨rfl, hx, rfl⟩)) dL_conflict_16)
    · refine r_catch E hX [⟨0, 10, 13, 34⟩] ⟨0, 10, 17, 13⟩ [] (hT.trans rfl) (fun z hz => by rw [List.mem_singleton.mp hz]; exact Or.inr ⟨by decide, "java/util/NoSuchElementException", E.2.2.2.2.1 _ (List.mem_of_getElem? (i := 1) rfl), hN _ (show ("java/lang/IllegalArgumentException", "java/util/NoSuchElementException") ∈ NCL by decide)⟩) (by decide) (by decide) (List.mem_of_getElem? (i := 2) rfl) (by decide) hce hcv hcl ?_
      refine r_astore (lv' := [(4, .ref q9), (0, .ref ax), (1, .int (zI a1)), (2, .int (zI a2)), (3, .ref ao)]) E hl dL_conflict_17 (by decide) rfl (fun ls hl => ?_)
      refine r_iconst E dL_conflict_19 ?_
      exact vx_ret (r_iret E h (Or.inr (Or.inr ⟨rfl, hx, rfl⟩)) dL_conflict_20)
  · have ho := hfr z ws hp
    refine r_i2lX E dL_conflict_8 ?_
    refine r_last E h ho (by decide) (by decide) dL_conflict_9 (fun ws H locs h hu => ?_)
    refine r_goto E 21 dL_conflict_10 (by decide) ?_
    refine r_iconst E dL_conflict_21 ?_
    exact vx_ret (r_iret E h (Or.inl ⟨rfl, _, _, hp, hu⟩) dL_conflict_22)
set_option maxHeartbeats 1200000 in
set_option maxRecDepth 100000 in
theorem k_M_conflictsOf (l : Launch) {G : va_G} {cy : Nat → ClassId} {ws0 : va_W} {ax q0 ao o : Nat} {fs : List Value} {g : Int → Int64} (a1 : Int) {xq : String → Prop} {post : Int → va_W → Prop} (hM : TIk l yX10_conflictsOf wsX10_conflictsOf rm_X10_conflictsOf G cy [.ref ax, .int (zI a1)] ws0 xq post) (hq0 : ws0[q0]? = some (ax, .inr (10, fs))) (hfr : ∀ v w, post v w → w[o]? = some (ao, aL cy 1 g)) (hxq : ∀ E9, xq E9 → E9 = "java/lang/IndexOutOfBoundsException") : TIn l yL_conflictsOf wsL_conflictsOf rm_L_conflictsOf G cy [.ref ax, .int (zI a1), .ref ao] ws0 (fun z u => (z = 0 ∧ ∃ v w, post v w ∧ Up1 w u o (ao, aL cy 1 (uZ g 0 (zI v).toInt64))) ∨ (z = 1 ∧ xq "java/lang/IndexOutOfBoundsException" ∧ u = ws0)) := by
  refine TIn.of (own := RL) (cc := cL_conflictsOf) (nL := 4) (ret := (some .int)) (hh := [(0, 9, 12, 18)]) (by decide) rfl rfl (Nat.le_of_ble_eq_true rfl) ?_
  intro p e s m below meth c A ls hX hN hT E h hl
  have hl : lv_has ls 4 [(0, .ref ax), (1, .int (zI a1)), (2, .ref ao)] := hl
  refine r_aload_n E 2 hl rfl dL_conflictsOf_0 ?_
  refine r_iconst E dL_conflictsOf_1 ?_
  refine r_aload_n E 0 hl rfl dL_conflictsOf_2 ?_
  refine r_iload_n E 1 hl rfl dL_conflictsOf_3 ?_
  refine r_callVc E hX h (As := [.int (zI a1)]) (rest := [.int (zI 0), .ref ao]) hM hq0 rfl gL_conflictsOf_X10_conflictsOf rfl hd_X10_conflictsOf (by decide) ⟨by decide, by decide⟩ hl.1 rfl (Nat.le_of_ble_eq_true rfl) dL_conflictsOf_4 rfl (fun E9 ce q9 H locs hx h hce hcv hcl => ?_) (fun z ws H locs hp h => ?_)
  · rcases hxq E9 hx with rfl
    · refine r_catch E hX [] ⟨0, 9, 12, 18⟩ [] (hT.trans rfl) (fun z hz => absurd hz List.not_mem_nil) (by decide) (by decide) (List.mem_of_getElem? (i := 1) rfl) (by decide) hce hcv hcl ?_
      refine r_astore_n (lv' := [(3, .ref q9), (0, .ref ax), (1, .int (zI a1)), (2, .ref ao)]) E hl dL_conflictsOf_12 rfl (by decide) rfl (fun ls hl => ?_)
      refine r_iconst E dL_conflictsOf_13 ?_
      exact vx_ret (r_iret E h (Or.inr ⟨rfl, hx, rfl⟩) dL_conflictsOf_14)
  · have ho := hfr z ws hp
    refine r_i2lX E dL_conflictsOf_7 ?_
    refine r_last E h ho (by decide) (by decide) dL_conflictsOf_8 (fun ws H locs h hu => ?_)
    refine r_goto E 15 dL_conflictsOf_9 (by decide) ?_
    refine r_iconst E dL_conflictsOf_15 ?_
    exact vx_ret (r_iret E h (Or.inl ⟨rfl, _, _, hp, hu⟩) dL_conflictsOf_16)
set_option maxHeartbeats 1200000 in
set_option maxRecDepth 100000 in
theorem k_M_allowed (l : Launch) {G : va_G} {cy : Nat → ClassId} {ws0 : va_W} {ax q0 ao o : Nat} {fs : List Value} {g : Int → Int64} (a1 : Int) {xq : String → Prop} {post : Int → va_W → Prop} (hM : TIk l yX10_allowed wsX10_allowed rm_X10_allowed G cy [.ref ax, .int (zI a1)] ws0 xq post) (hq0 : ws0[q0]? = some (ax, .inr (10, fs))) (hfr : ∀ v w, post v w → w[o]? = some (ao, aL cy 1 g)) (hxq : ∀ E9, xq E9 → E9 = "java/lang/IndexOutOfBoundsException") : TIn l yL_allowed wsL_allowed rm_L_allowed G cy [.ref ax, .int (zI a1), .ref ao] ws0 (fun z u => (z = 0 ∧ ∃ v w, post v w ∧ Up1 w u o (ao, aL cy 1 (uZ g 0 (zI v).toInt64))) ∨ (z = 1 ∧ xq "java/lang/IndexOutOfBoundsException" ∧ u = ws0)) := by
  refine TIn.of (own := RL) (cc := cL_allowed) (nL := 4) (ret := (some .int)) (hh := [(0, 9, 12, 18)]) (by decide) rfl rfl (Nat.le_of_ble_eq_true rfl) ?_
  intro p e s m below meth c A ls hX hN hT E h hl
  have hl : lv_has ls 4 [(0, .ref ax), (1, .int (zI a1)), (2, .ref ao)] := hl
  refine r_aload_n E 2 hl rfl dL_allowed_0 ?_
  refine r_iconst E dL_allowed_1 ?_
  refine r_aload_n E 0 hl rfl dL_allowed_2 ?_
  refine r_iload_n E 1 hl rfl dL_allowed_3 ?_
  refine r_callVc E hX h (As := [.int (zI a1)]) (rest := [.int (zI 0), .ref ao]) hM hq0 rfl gL_allowed_X10_allowed rfl hd_X10_allowed (by decide) ⟨by decide, by decide⟩ hl.1 rfl (Nat.le_of_ble_eq_true rfl) dL_allowed_4 rfl (fun E9 ce q9 H locs hx h hce hcv hcl => ?_) (fun z ws H locs hp h => ?_)
  · rcases hxq E9 hx with rfl
    · refine r_catch E hX [] ⟨0, 9, 12, 18⟩ [] (hT.trans rfl) (fun z hz => absurd hz List.not_mem_nil) (by decide) (by decide) (List.mem_of_getElem? (i := 1) rfl) (by decide) hce hcv hcl ?_
      refine r_astore_n (lv' := [(3, .ref q9), (0, .ref ax), (1, .int (zI a1)), (2, .ref ao)]) E hl dL_allowed_12 rfl (by decide) rfl (fun ls hl => ?_)
      refine r_iconst E dL_allowed_13 ?_
      exact vx_ret (r_iret E h (Or.inr ⟨rfl, hx, rfl⟩) dL_allowed_14)
  · have ho := hfr z ws hp
    refine r_i2lX E dL_allowed_7 ?_
    refine r_last E h ho (by decide) (by decide) dL_allowed_8 (fun ws H locs h hu => ?_)
    refine r_goto E 15 dL_allowed_9 (by decide) ?_
    refine r_iconst E dL_allowed_15 ?_
    exact vx_ret (r_iret E h (Or.inl ⟨rfl, _, _, hp, hu⟩) dL_allowed_16)
set_option maxHeartbeats 1200000 in
set_option maxRecDepth 100000 in
theorem k_M_canExtend (l : Launch) {G : va_G} {cy : Nat → ClassId} {ws0 : va_W} {ax q0 ao o : Nat} {fs : List Value} {g : Int → Int64} (a1 a2 : Int) {xq : String → Prop} {post : Int → va_W → Prop} (hM : TIk l yX10_canExtend wsX10_canExtend rm_X10_canExtend G cy [.ref ax, .int (zI a1), .int (zI a2)] ws0 xq post) (hq0 : ws0[q0]? = some (ax, .inr (10, fs))) (hfr : ∀ v w, post v w → w[o]? = some (ao, aL cy 1 g)) (hxq : ∀ E9, xq E9 → E9 = "java/lang/IndexOutOfBoundsException" ∨ E9 = "java/lang/IllegalArgumentException") : TIn l yL_canExtend wsL_canExtend rm_L_canExtend G cy [.ref ax, .int (zI a1), .int (zI a2), .ref ao] ws0 (fun z u => (z = 0 ∧ ∃ v w, post v w ∧ Up1 w u o (ao, aL cy 1 (uZ g 0 (zI v).toInt64))) ∨ (z = 1 ∧ xq "java/lang/IndexOutOfBoundsException" ∧ u = ws0) ∨ (z = 2 ∧ xq "java/lang/IllegalArgumentException" ∧ u = ws0)) := by
  refine TIn.of (own := RL) (cc := cL_canExtend) (nL := 5) (ret := (some .int)) (hh := [(0, 10, 13, 18), (0, 10, 17, 13)]) (by decide) rfl rfl (Nat.le_of_ble_eq_true rfl) ?_
  intro p e s m below meth c A ls hX hN hT E h hl
  have hl : lv_has ls 5 [(0, .ref ax), (1, .int (zI a1)), (2, .int (zI a2)), (3, .ref ao)] := hl
  refine r_aload_n E 3 hl rfl dL_canExtend_0 ?_
  refine r_iconst E dL_canExtend_1 ?_
  refine r_aload_n E 0 hl rfl dL_canExtend_2 ?_
  refine r_iload_n E 1 hl rfl dL_canExtend_3 ?_
  refine r_iload_n E 2 hl rfl dL_canExtend_4 ?_
  refine r_callVc E hX h (As := [.int (zI a1), .int (zI a2)]) (rest := [.int (zI 0), .ref ao]) hM hq0 rfl gL_canExtend_X10_canExtend rfl hd_X10_canExtend (by decide) ⟨by decide, by decide⟩ hl.1 rfl (Nat.le_of_ble_eq_true rfl) dL_canExtend_5 rfl (fun E9 ce q9 H locs hx h hce hcv hcl => ?_) (fun z ws H locs hp h => ?_)
  · rcases hxq E9 hx with rfl | rfl
    · refine r_catch E hX [] ⟨0, 10, 13, 18⟩ [⟨0, 10, 17, 13⟩] (hT.trans rfl) (fun z hz => absurd hz List.not_mem_nil) (by decide) (by decide) (List.mem_of_getElem? (i := 1) rfl) (by decide) hce hcv hcl ?_
      refine r_astore (lv' := [(4, .ref q9), (0, .ref ax), (1, .int (zI a1)), (2, .int (zI a2)), (3, .ref ao)]) E hl dL_canExtend_13 (by decide) rfl (fun ls hl => ?_)
      refine r_iconst E dL_canExtend_15 ?_
      exact vx_ret (r_iret E h (Or.inr (Or.inl ⟨rfl, hx, rfl⟩)) dL_canExtend_16)
    · refine r_catch E hX [⟨0, 10, 13, 18⟩] ⟨0, 10, 17, 13⟩ [] (hT.trans rfl) (fun z hz => by rw [List.mem_singleton.mp hz]; exact Or.inr ⟨by decide, "java/lang/IndexOutOfBoundsException", E.2.2.2.2.1 _ (List.mem_of_getElem? (i := 1) rfl), hN _ (show ("java/lang/IllegalArgumentException", "java/lang/IndexOutOfBoundsException") ∈ NCL by decide)⟩) (by decide) (by decide) (List.mem_of_getElem? (i := 2) rfl) (by decide) hce hcv hcl ?_
      refine r_astore (lv' := [(4, .ref q9), (0, .ref ax), (1, .int (zI a1)), (2, .int (zI a2)), (3, .ref ao)]) E hl dL_canExtend_17 (by decide) rfl (fun ls hl => ?_)
      refine r_iconst E dL_canExtend_19 ?_
      exact vx_ret (r_iret E h (Or.inr (Or.inr ⟨rfl, hx, rfl⟩)) dL_canExtend_20)
  · have ho := hfr z ws hp
    refine r_i2lX E dL_canExtend_8 ?_
    refine r_last E h ho (by decide) (by decide) dL_canExtend_9 (fun ws H locs h hu => ?_)
    refine r_goto E 21 dL_canExtend_10 (by decide) ?_
    refine r_iconst E dL_canExtend_21 ?_
    exact vx_ret (r_iret E h (Or.inl ⟨rfl, _, _, hp, hu⟩) dL_canExtend_22)
set_option maxHeartbeats 1200000 in
set_option maxRecDepth 100000 in
theorem k_M_longest (l : Launch) {G : va_G} {cy : Nat → ClassId} {ws0 : va_W} {ax q0 ao o : Nat} {fs : List Value} {g : Int → Int64} (a1 : Int) {xq : String → Prop} {post : Int → va_W → Prop} (hM : TIk l yX10_longest wsX10_longest rm_X10_longest G cy [.ref ax, .int (zI a1)] ws0 xq post) (hq0 : ws0[q0]? = some (ax, .inr (10, fs))) (hfr : ∀ v w, post v w → w[o]? = some (ao, aL cy 1 g)) (hxq : ∀ E9, xq E9 → E9 = "java/lang/IllegalArgumentException") : TIn l yL_longest wsL_longest rm_L_longest G cy [.ref ax, .int (zI a1), .ref ao] ws0 (fun z u => (z = 0 ∧ ∃ v w, post v w ∧ Up1 w u o (ao, aL cy 1 (uZ g 0 (zI v).toInt64))) ∨ (z = 1 ∧ xq "java/lang/IllegalArgumentException" ∧ u = ws0)) := by
  refine TIn.of (own := RL) (cc := cL_longest) (nL := 4) (ret := (some .int)) (hh := [(0, 9, 12, 13)]) (by decide) rfl rfl (Nat.le_of_ble_eq_true rfl) ?_
  intro p e s m below meth c A ls hX hN hT E h hl
  have hl : lv_has ls 4 [(0, .ref ax), (1, .int (zI a1)), (2, .ref ao)] := hl
  refine r_aload_n E 2 hl rfl dL_longest_0 ?_
  refine r_iconst E dL_longest_1 ?_
  refine r_aload_n E 0 hl rfl dL_longest_2 ?_
  refine r_iload_n E 1 hl rfl dL_longest_3 ?_
  refine r_callVc E hX h (As := [.int (zI a1)]) (rest := [.int (zI 0), .ref ao]) hM hq0 rfl gL_longest_X10_longest rfl hd_X10_longest (by decide) ⟨by decide, by decide⟩ hl.1 rfl (Nat.le_of_ble_eq_true rfl) dL_longest_4 rfl (fun E9 ce q9 H locs hx h hce hcv hcl => ?_) (fun z ws H locs hp h => ?_)
  · rcases hxq E9 hx with rfl
    · refine r_catch E hX [] ⟨0, 9, 12, 13⟩ [] (hT.trans rfl) (fun z hz => absurd hz List.not_mem_nil) (by decide) (by decide) (List.mem_of_getElem? (i := 1) rfl) (by decide) hce hcv hcl ?_
      refine r_astore_n (lv' := [(3, .ref q9), (0, .ref ax), (1, .int (zI a1)), (2, .ref ao)]) E hl dL_longest_12 rfl (by decide) rfl (fun ls hl => ?_)
      refine r_iconst E dL_longest_13 ?_
      exact vx_ret (r_iret E h (Or.inr ⟨rfl, hx, rfl⟩) dL_longest_14)
  · have ho := hfr z ws hp
    refine r_i2lX E dL_longest_7 ?_
    refine r_last E h ho (by decide) (by decide) dL_longest_8 (fun ws H locs h hu => ?_)
    refine r_goto E 15 dL_longest_9 (by decide) ?_
    refine r_iconst E dL_longest_15 ?_
    exact vx_ret (r_iret E h (Or.inl ⟨rfl, _, _, hp, hu⟩) dL_longest_16)
set_option maxHeartbeats 1200000 in
set_option maxRecDepth 100000 in
theorem k_M_setColour (l : Launch) {G : va_G} {cy : Nat → ClassId} {ws0 : va_W} {ax q0 ao o : Nat} {fs : List Value} {g : Int → Int64} (a1 a2 : Int) {xq : String → Prop} {post : Int → va_W → Prop} (hM : TIk l yX10_setColour wsX10_setColour rm_X10_setColour G cy [.ref ax, .int (zI a1), .int (zI a2)] ws0 xq post) (hq0 : ws0[q0]? = some (ax, .inr (10, fs))) (hfr : ∀ v w, post v w → w[o]? = some (ao, aL cy 1 g)) (hxq : ∀ E9, xq E9 → E9 = "java/lang/IndexOutOfBoundsException" ∨ E9 = "java/lang/IllegalStateException") : TIn l yL_setColour wsL_setColour rm_L_setColour G cy [.ref ax, .int (zI a1), .int (zI a2), .ref ao] ws0 (fun z u => (z = 0 ∧ ∃ v w, post v w ∧ Up1 w u o (ao, aL cy 1 (uZ g 0 (zI v).toInt64))) ∨ (z = 1 ∧ xq "java/lang/IndexOutOfBoundsException" ∧ u = ws0) ∨ (z = 2 ∧ xq "java/lang/IllegalStateException" ∧ u = ws0)) := by
  refine TIn.of (own := RL) (cc := cL_setColour) (nL := 5) (ret := (some .int)) (hh := [(0, 10, 13, 18), (0, 10, 17, 51)]) (by decide) rfl rfl (Nat.le_of_ble_eq_true rfl) ?_
  intro p e s m below meth c A ls hX hN hT E h hl
  have hl : lv_has ls 5 [(0, .ref ax), (1, .int (zI a1)), (2, .int (zI a2)), (3, .ref ao)] := hl
  refine r_aload_n E 3 hl rfl dL_setColour_0 ?_
  refine r_iconst E dL_setColour_1 ?_
  refine r_aload_n E 0 hl rfl dL_setColour_2 ?_
  refine r_iload_n E 1 hl rfl dL_setColour_3 ?_
  refine r_iload_n E 2 hl rfl dL_setColour_4 ?_
  refine r_callVc E hX h (As := [.int (zI a1), .int (zI a2)]) (rest := [.int (zI 0), .ref ao]) hM hq0 rfl gL_setColour_X10_setColour rfl hd_X10_setColour (by decide) ⟨by decide, by decide⟩ hl.1 rfl (Nat.le_of_ble_eq_true rfl) dL_setColour_5 rfl (fun E9 ce q9 H locs hx h hce hcv hcl => ?_) (fun z ws H locs hp h => ?_)
  · rcases hxq E9 hx with rfl | rfl
    · refine r_catch E hX [] ⟨0, 10, 13, 18⟩ [⟨0, 10, 17, 51⟩] (hT.trans rfl) (fun z hz => absurd hz List.not_mem_nil) (by decide) (by decide) (List.mem_of_getElem? (i := 1) rfl) (by decide) hce hcv hcl ?_
      refine r_astore (lv' := [(4, .ref q9), (0, .ref ax), (1, .int (zI a1)), (2, .int (zI a2)), (3, .ref ao)]) E hl dL_setColour_13 (by decide) rfl (fun ls hl => ?_)
      refine r_iconst E dL_setColour_15 ?_
      exact vx_ret (r_iret E h (Or.inr (Or.inl ⟨rfl, hx, rfl⟩)) dL_setColour_16)
    · refine r_catch E hX [⟨0, 10, 13, 18⟩] ⟨0, 10, 17, 51⟩ [] (hT.trans rfl) (fun z hz => by rw [List.mem_singleton.mp hz]; exact Or.inr ⟨by decide, "java/lang/IndexOutOfBoundsException", E.2.2.2.2.1 _ (List.mem_of_getElem? (i := 1) rfl), hN _ (show ("java/lang/IllegalStateException", "java/lang/IndexOutOfBoundsException") ∈ NCL by decide)⟩) (by decide) (by decide) (List.mem_of_getElem? (i := 2) rfl) (by decide) hce hcv hcl ?_
      refine r_astore (lv' := [(4, .ref q9), (0, .ref ax), (1, .int (zI a1)), (2, .int (zI a2)), (3, .ref ao)]) E hl dL_setColour_17 (by decide) rfl (fun ls hl => ?_)
      refine r_iconst E dL_setColour_19 ?_
      exact vx_ret (r_iret E h (Or.inr (Or.inr ⟨rfl, hx, rfl⟩)) dL_setColour_20)
  · have ho := hfr z ws hp
    refine r_i2lX E dL_setColour_8 ?_
    refine r_last E h ho (by decide) (by decide) dL_setColour_9 (fun ws H locs h hu => ?_)
    refine r_goto E 21 dL_setColour_10 (by decide) ?_
    refine r_iconst E dL_setColour_21 ?_
    exact vx_ret (r_iret E h (Or.inl ⟨rfl, _, _, hp, hu⟩) dL_setColour_22)
set_option maxHeartbeats 1200000 in
set_option maxRecDepth 100000 in
theorem k_M_swapColours (l : Launch) {G : va_G} {cy : Nat → ClassId} {ws0 : va_W} {ax q0 ao o : Nat} {fs : List Value} {g : Int → Int64} (a1 a2 : Int) {xq : String → Prop} {post : Int → va_W → Prop} (hM : TIk l yX10_swapColours wsX10_swapColours rm_X10_swapColours G cy [.ref ax, .int (zI a1), .int (zI a2)] ws0 xq post) (hq0 : ws0[q0]? = some (ax, .inr (10, fs))) (hfr : ∀ v w, post v w → w[o]? = some (ao, aL cy 1 g)) (hxq : ∀ E9, xq E9 → E9 = "java/lang/IndexOutOfBoundsException") : TIn l yL_swapColours wsL_swapColours rm_L_swapColours G cy [.ref ax, .int (zI a1), .int (zI a2), .ref ao] ws0 (fun z u => (z = 0 ∧ ∃ v w, post v w ∧ Up1 w u o (ao, aL cy 1 (uZ g 0 (zI v).toInt64))) ∨ (z = 1 ∧ xq "java/lang/IndexOutOfBoundsException" ∧ u = ws0)) := by
  refine TIn.of (own := RL) (cc := cL_swapColours) (nL := 5) (ret := (some .int)) (hh := [(0, 10, 13, 18)]) (by decide) rfl rfl (Nat.le_of_ble_eq_true rfl) ?_
  intro p e s m below meth c A ls hX hN hT E h hl
  have hl : lv_has ls 5 [(0, .ref ax), (1, .int (zI a1)), (2, .int (zI a2)), (3, .ref ao)] := hl
  refine r_aload_n E 3 hl rfl dL_swapColours_0 ?_
  refine r_iconst E dL_swapColours_1 ?_
  refine r_aload_n E 0 hl rfl dL_swapColours_2 ?_
  refine r_iload_n E 1 hl rfl dL_swapColours_3 ?_
  refine r_iload_n E 2 hl rfl dL_swapColours_4 ?_
  refine r_callVc E hX h (As := [.int (zI a1), .int (zI a2)]) (rest := [.int (zI 0), .ref ao]) hM hq0 rfl gL_swapColours_X10_swapColours rfl hd_X10_swapColours (by decide) ⟨by decide, by decide⟩ hl.1 rfl (Nat.le_of_ble_eq_true rfl) dL_swapColours_5 rfl (fun E9 ce q9 H locs hx h hce hcv hcl => ?_) (fun z ws H locs hp h => ?_)
  · rcases hxq E9 hx with rfl
    · refine r_catch E hX [] ⟨0, 10, 13, 18⟩ [] (hT.trans rfl) (fun z hz => absurd hz List.not_mem_nil) (by decide) (by decide) (List.mem_of_getElem? (i := 1) rfl) (by decide) hce hcv hcl ?_
      refine r_astore (lv' := [(4, .ref q9), (0, .ref ax), (1, .int (zI a1)), (2, .int (zI a2)), (3, .ref ao)]) E hl dL_swapColours_13 (by decide) rfl (fun ls hl => ?_)
      refine r_iconst E dL_swapColours_15 ?_
      exact vx_ret (r_iret E h (Or.inr ⟨rfl, hx, rfl⟩) dL_swapColours_16)
  · have ho := hfr z ws hp
    refine r_i2lX E dL_swapColours_8 ?_
    refine r_last E h ho (by decide) (by decide) dL_swapColours_9 (fun ws H locs h hu => ?_)
    refine r_goto E 17 dL_swapColours_10 (by decide) ?_
    refine r_iconst E dL_swapColours_17 ?_
    exact vx_ret (r_iret E h (Or.inl ⟨rfl, _, _, hp, hu⟩) dL_swapColours_18)
set_option maxHeartbeats 1200000 in
set_option maxRecDepth 100000 in
theorem k_M_extend (l : Launch) {G : va_G} {cy : Nat → ClassId} {ws0 : va_W} {ax q0 ao o : Nat} {fs : List Value} {g : Int → Int64} (a1 a2 : Int) {xq : String → Prop} {post : Int → va_W → Prop} (hM : TIk l yX10_extend wsX10_extend rm_X10_extend G cy [.ref ax, .int (zI a1), .int (zI a2)] ws0 xq post) (hq0 : ws0[q0]? = some (ax, .inr (10, fs))) (hfr : ∀ v w, post v w → w[o]? = some (ao, aL cy 1 g)) (hxq : ∀ E9, xq E9 → E9 = "java/lang/IndexOutOfBoundsException" ∨ E9 = "java/lang/IllegalArgumentException") : TIn l yL_extend wsL_extend rm_L_extend G cy [.ref ax, .int (zI a1), .int (zI a2), .ref ao] ws0 (fun z u => (z = 0 ∧ ∃ v w, post v w ∧ Up1 w u o (ao, aL cy 1 (uZ g 0 (zI v).toInt64))) ∨ (z = 1 ∧ xq "java/lang/IndexOutOfBoundsException" ∧ u = ws0) ∨ (z = 2 ∧ xq "java/lang/IllegalArgumentException" ∧ u = ws0)) := by
  refine TIn.of (own := RL) (cc := cL_extend) (nL := 5) (ret := (some .int)) (hh := [(0, 10, 13, 18), (0, 10, 17, 13)]) (by decide) rfl rfl (Nat.le_of_ble_eq_true rfl) ?_
  intro p e s m below meth c A ls hX hN hT E h hl
  have hl : lv_has ls 5 [(0, .ref ax), (1, .int (zI a1)), (2, .int (zI a2)), (3, .ref ao)] := hl
  refine r_aload_n E 3 hl rfl dL_extend_0 ?_
  refine r_iconst E dL_extend_1 ?_
  refine r_aload_n E 0 hl rfl dL_extend_2 ?_
  refine r_iload_n E 1 hl rfl dL_extend_3 ?_
  refine r_iload_n E 2 hl rfl dL_extend_4 ?_
  refine r_callVc E hX h (As := [.int (zI a1), .int (zI a2)]) (rest := [.int (zI 0), .ref ao]) hM hq0 rfl gL_extend_X10_extend rfl hd_X10_extend (by decide) ⟨by decide, by decide⟩ hl.1 rfl (Nat.le_of_ble_eq_true rfl) dL_extend_5 rfl (fun E9 ce q9 H locs hx h hce hcv hcl => ?_) (fun z ws H locs hp h => ?_)
  · rcases hxq E9 hx with rfl | rfl
    · refine r_catch E hX [] ⟨0, 10, 13, 18⟩ [⟨0, 10, 17, 13⟩] (hT.trans rfl) (fun z hz => absurd hz List.not_mem_nil) (by decide) (by decide) (List.mem_of_getElem? (i := 1) rfl) (by decide) hce hcv hcl ?_
      refine r_astore (lv' := [(4, .ref q9), (0, .ref ax), (1, .int (zI a1)), (2, .int (zI a2)), (3, .ref ao)]) E hl dL_extend_13 (by decide) rfl (fun ls hl => ?_)
      refine r_iconst E dL_extend_15 ?_
      exact vx_ret (r_iret E h (Or.inr (Or.inl ⟨rfl, hx, rfl⟩)) dL_extend_16)
    · refine r_catch E hX [⟨0, 10, 13, 18⟩] ⟨0, 10, 17, 13⟩ [] (hT.trans rfl) (fun z hz => by rw [List.mem_singleton.mp hz]; exact Or.inr ⟨by decide, "java/lang/IndexOutOfBoundsException", E.2.2.2.2.1 _ (List.mem_of_getElem? (i := 1) rfl), hN _ (show ("java/lang/IllegalArgumentException", "java/lang/IndexOutOfBoundsException") ∈ NCL by decide)⟩) (by decide) (by decide) (List.mem_of_getElem? (i := 2) rfl) (by decide) hce hcv hcl ?_
      refine r_astore (lv' := [(4, .ref q9), (0, .ref ax), (1, .int (zI a1)), (2, .int (zI a2)), (3, .ref ao)]) E hl dL_extend_17 (by decide) rfl (fun ls hl => ?_)
      refine r_iconst E dL_extend_19 ?_
      exact vx_ret (r_iret E h (Or.inr (Or.inr ⟨rfl, hx, rfl⟩)) dL_extend_20)
  · have ho := hfr z ws hp
    refine r_i2lX E dL_extend_8 ?_
    refine r_last E h ho (by decide) (by decide) dL_extend_9 (fun ws H locs h hu => ?_)
    refine r_goto E 21 dL_extend_10 (by decide) ?_
    refine r_iconst E dL_extend_21 ?_
    exact vx_ret (r_iret E h (Or.inl ⟨rfl, _, _, hp, hu⟩) dL_extend_22)
set_option maxHeartbeats 1200000 in
set_option maxRecDepth 100000 in
theorem k_M_repair (l : Launch) {G : va_G} {cy : Nat → ClassId} {ws0 : va_W} {ax q0 ao o : Nat} {fs : List Value} {g : Int → Int64} (a1 : Int) {xq : String → Prop} {post : Int → va_W → Prop} (hM : TIk l yX10_repair wsX10_repair rm_X10_repair G cy [.ref ax, .int (zI a1)] ws0 xq post) (hq0 : ws0[q0]? = some (ax, .inr (10, fs))) (hfr : ∀ v w, post v w → w[o]? = some (ao, aL cy 1 g)) (hxq : ∀ E9, xq E9 → E9 = "java/lang/IllegalArgumentException") : TIn l yL_repair wsL_repair rm_L_repair G cy [.ref ax, .int (zI a1), .ref ao] ws0 (fun z u => (z = 0 ∧ ∃ v w, post v w ∧ Up1 w u o (ao, aL cy 1 (uZ g 0 (zI v).toInt64))) ∨ (z = 1 ∧ xq "java/lang/IllegalArgumentException" ∧ u = ws0)) := by
  refine TIn.of (own := RL) (cc := cL_repair) (nL := 4) (ret := (some .int)) (hh := [(0, 9, 12, 13)]) (by decide) rfl rfl (Nat.le_of_ble_eq_true rfl) ?_
  intro p e s m below meth c A ls hX hN hT E h hl
  have hl : lv_has ls 4 [(0, .ref ax), (1, .int (zI a1)), (2, .ref ao)] := hl
  refine r_aload_n E 2 hl rfl dL_repair_0 ?_
  refine r_iconst E dL_repair_1 ?_
  refine r_aload_n E 0 hl rfl dL_repair_2 ?_
  refine r_iload_n E 1 hl rfl dL_repair_3 ?_
  refine r_callVc E hX h (As := [.int (zI a1)]) (rest := [.int (zI 0), .ref ao]) hM hq0 rfl gL_repair_X10_repair rfl hd_X10_repair (by decide) ⟨by decide, by decide⟩ hl.1 rfl (Nat.le_of_ble_eq_true rfl) dL_repair_4 rfl (fun E9 ce q9 H locs hx h hce hcv hcl => ?_) (fun z ws H locs hp h => ?_)
  · rcases hxq E9 hx with rfl
    · refine r_catch E hX [] ⟨0, 9, 12, 13⟩ [] (hT.trans rfl) (fun z hz => absurd hz List.not_mem_nil) (by decide) (by decide) (List.mem_of_getElem? (i := 1) rfl) (by decide) hce hcv hcl ?_
      refine r_astore_n (lv' := [(3, .ref q9), (0, .ref ax), (1, .int (zI a1)), (2, .ref ao)]) E hl dL_repair_12 rfl (by decide) rfl (fun ls hl => ?_)
      refine r_iconst E dL_repair_13 ?_
      exact vx_ret (r_iret E h (Or.inr ⟨rfl, hx, rfl⟩) dL_repair_14)
  · have ho := hfr z ws hp
    refine r_i2lX E dL_repair_7 ?_
    refine r_last E h ho (by decide) (by decide) dL_repair_8 (fun ws H locs h hu => ?_)
    refine r_goto E 15 dL_repair_9 (by decide) ?_
    refine r_iconst E dL_repair_15 ?_
    exact vx_ret (r_iret E h (Or.inl ⟨rfl, _, _, hp, hu⟩) dL_repair_16)
