/-- the history's cells -/
def HPs (u : va_W) (cy : Nat → ClassId) (q7 ahi ahsu : Nat) (nx kp : Int) (hs9 : Int → Option Nat) (hac hap : Nat → Nat) (hF : Nat → Int64) (hP : Nat → Int → Int64) (ahco : Nat) : Prop :=
  u[q7]? = some (ahi, .inr (2, [.ref ahsu, .ref ahco, .int (zI nx), .int (zI kp)])) ∧ u[q7 + 1]? = some (ahsu, aR cy 5 8 hs9) ∧ ∀ i : Nat, i < 8 → u[q7 + 3 + 2 * i]? = some (hac i, .inr (0, [.ref (hap i), .long (hF i)])) ∧ u[q7 + 3 + 2 * i + 1]? = some (hap i, aL cy 4 (hP i))
theorem HPs.of {ws0 u : va_W} {cy : Nat → ClassId} {q7 ahi ahsu ahco : Nat} {nx n9 k9 : Int} {hs9 : Int → Option Nat} {hac hap : Nat → Nat} {hF : Nat → Int64} {hP : Nat → Int → Int64} {F : Int64} {P : Int → Int64} {X : Nat → Prop} (hnx : 0 ≤ nx ∧ nx < 8)
    (h1 : u[q7]? = some (ahi, .inr (2, [.ref ahsu, .ref ahco, .int (zI n9), .int (zI k9)]))) (h2 : u[q7 + 1]? = some (ahsu, aR cy 5 8 hs9)) (h3 : u[q7 + 3 + 2 * nx.toNat]? = some (hac nx.toNat, .inr (0, [.ref (hap nx.toNat), .long F]))) (h4 : u[q7 + 3 + 2 * nx.toNat + 1]? = some (hap nx.toNat, aL cy 4 P))
    (hFc : ∀ i : Nat, i < 8 → ws0[q7 + 3 + 2 * i]? = some (hac i, .inr (0, [.ref (hap i), .long (hF i)])) ∧ ws0[q7 + 3 + 2 * i + 1]? = some (hap i, aL cy 4 (hP i))) (hE : Eqx ws0 u X) (hX : ∀ i : Nat, i < 8 → i ≠ nx.toNat → ¬ X (q7 + 3 + 2 * i) ∧ ¬ X (q7 + 3 + 2 * i + 1)) :
    HPs u cy q7 ahi ahsu n9 k9 hs9 hac hap (fun i => if i = nx.toNat then F else hF i) (fun i => if i = nx.toNat then P else hP i) ahco := by
  refine ⟨h1, h2, fun i hi => ?_⟩
  by_cases e : i = nx.toNat
  · subst e
    simp only [if_true]
    exact ⟨h3, h4⟩
  · simp only [e, if_false]
    exact ⟨hE.at (hFc i hi).1 (hX i hi e).1, hE.at (hFc i hi).2 (hX i hi e).2⟩
theorem cl_set9 {d : Int → Int} {x v : Int} : cl (uZ d (29 + x) v) = uZ (cl d) x v := funext fun y => by
  by_cases e : y = x
  · subst e; show uZ d (29 + y) v (29 + y) = _; rw [uZ_s, uZ_s]
  · show uZ d (29 + x) v (29 + y) = _; rw [uZ_n (by omega), uZ_n e]; rfl
theorem fx_set {d : Int → Int} {x v : Int} : fx (uZ d (70 + x) v) = uZ (fx d) x v := funext fun y => by
  by_cases e : y = x
  · subst e; show uZ d (70 + y) v (70 + y) = _; rw [uZ_s, uZ_s]
  · show uZ d (70 + x) v (70 + y) = _; rw [uZ_n (by omega), uZ_n e]; rfl
theorem swE_rng {e : Int → Int} {o1 o2 k y : Int} (h : 0 ≤ e y ∧ e y ≤ k) (h1 : 0 ≤ o1 ∧ o1 < k) (h2 : 0 ≤ o2 ∧ o2 < k) : 0 ≤ swE e o1 o2 y ∧ swE e o1 o2 y ≤ k := by
  unfold swE
  split
  · omega
  · split <;> omega
theorem sumL_ind {p : Int → Prop} [DecidablePred p] : ∀ n : Nat, 0 ≤ sumL (fun y => if p y then (1 : Int) else 0) (upto n) ∧ sumL (fun y => if p y then (1 : Int) else 0) (upto n) ≤ n := fun n => by
  have h := sumL_rng (f := fun y => if p y then (1 : Int) else 0) (B := 1) (l := upto n) (fun a _ => by
    show 0 ≤ (if p a then (1 : Int) else 0) ∧ (if p a then (1 : Int) else 0) ≤ 1
    split <;> omega)
  rw [upto_len] at h
  omega
theorem fmk_setc {d : Int → Int} {n x v : Int} (hx : x ≤ 40) : fmk n (fx (uZ d (29 + x) v)) = fmk n (fx d) := fmk_congr (fun y y0 y1 => by
  show uZ d (29 + x) v (70 + y) = 1 ↔ d (70 + y) = 1
  rw [uZ_n (by omega)])
theorem mk_setf {d : Int → Int} {n x v c : Int} (hx : 1 ≤ x) (hn : n ≤ 40) : mk n (cl (uZ d (70 + x) v)) c = mk n (cl d) c := mk_congr (fun y y0 y1 => by
  show uZ d (70 + x) v (29 + y) = c + 1 ↔ d (29 + y) = c + 1
  rw [uZ_n (by omega)])
theorem hd_X10_setColour : yX10_setColour.cls = RX10 ∧ yX10_setColour.cls ≠ "java/lang/invoke/MethodHandle" ∧ yX10_setColour.cls ≠ "java/lang/invoke/VarHandle" ∧ (parseMethodDescriptor yX10_setColour.desc).map (fun d => d.parameters.length) = some 2 := by decide +kernel
theorem fl_X10_setColour_37 : Cond.fieldLink RX10 37 (TX10 6).1 (TX10 6).2.1 (TX10 6).2.2.1 ∈ wsX10_setColour := List.mem_of_getElem? (i := 3) rfl
theorem inn_X10_setColour_10 : ∀ w ∈ wsX100, w ∈ wsX10_setColour := fun _ h => List.mem_cons_of_mem _ (List.mem_append_left _ (List.mem_append_left _ (List.mem_append_left _ (List.mem_append_left _ (List.mem_append_left _ (List.mem_append_right _ h))))))
theorem fl_X10_setColour_58 : Cond.fieldLink RX10 58 (TX10 9).1 (TX10 9).2.1 (TX10 9).2.2.1 ∈ wsX10_setColour := List.mem_of_getElem? (i := 4) rfl
theorem fl_X10_setColour_74 : Cond.fieldLink RX10 74 (TX10 3).1 (TX10 3).2.1 (TX10 3).2.2.1 ∈ wsX10_setColour := List.mem_of_getElem? (i := 5) rfl
theorem xnn_X10_setColour_223 : ∀ w ∈ (vx_atS RX10 223 "java/lang/IllegalStateException" VXN).filter goodWord, w ∈ wsX10_setColour := fun _ h => List.mem_cons_of_mem _ (List.mem_append_left _ (List.mem_append_right _ h))
abbrev rm_X10_setColour : Room := { frames := 8, cells := 3, slots := 18, locals := 132 }
set_option maxHeartbeats 1200000 in
set_option maxRecDepth 100000 in
theorem k_X10_setColour (l : Launch) {G : va_G} {cy : Nat → ClassId} {ws0 : va_W} {qx ax ain asu ard a a2 asr arp ahi : Nat} {inl erp : Int} {qs ar9 afo : Nat} {q2 ap2 : Nat} {d : Int → Int} {T : List Int} {q7 ahsu ahco : Nat} {nx kp : Int} {hs9 hcf : Int → Option Nat} {hac hap : Nat → Nat} {hF : Nat → Int64} {hP : Nat → Int → Int64} (x c9 : Int) (h_x0 : ws0[qx]? = some (ax, .inr (10, [.ref ain, .int (zI inl), .int (zI erp), .ref asu, .ref ard, .ref a, .ref a2, .ref asr, .ref arp, .ref ahi]))) (h_su : ws0[qs]? = some (asu, .inr (6, [.int (zI (d 0)), .int (zI (d 1)), .ref ar9, .ref afo]))) (h_co : ws0[q2]? = some (a2, .inr (0, [.ref ap2, .long (fmk (d 0) (fx d))]))) (h_cop : ws0[q2 + 1]? = some (ap2, aL cy 4 (mk (d 0) (cl d)))) (h_hi : ws0[q7]? = some (ahi, .inr (2, [.ref ahsu, .ref ahco, .int (zI nx), .int (zI kp)]))) (h_hsu : ws0[q7 + 1]? = some (ahsu, aR cy 5 8 hs9)) (h_hco : ws0[q7 + 2]? = some (ahco, aR cy 3 8 hcf)) (hD : DW d T) (hlay : q2 = qx + 16 ∧ q7 = qx + 27) (hqs : qs < qx ∨ qx + 46 ≤ qs) (hx9 : -2147483648 ≤ x ∧ x ≤ 2147483647) (hc9 : -2147483648 ≤ c9 ∧ c9 ≤ 2147483647) (hnx : 0 ≤ nx ∧ nx < 8) (hkp : 0 ≤ kp ∧ kp ≤ 8) (hcc : ∀ i : Nat, i < 8 → hcf (i : Int) = some (hac i)) (hFc : ∀ i : Nat, i < 8 → ws0[q7 + 3 + 2 * i]? = some (hac i, .inr (0, [.ref (hap i), .long (hF i)])) ∧ ws0[q7 + 3 + 2 * i + 1]? = some (hap i, aL cy 4 (hP i))) (hl9 : l.stackTraces = false) : TIk l yX10_setColour wsX10_setColour rm_X10_setColour G cy [.ref ax, .int (zI x), .int (zI c9)] ws0 (fun E9 => E9 = "java/lang/IndexOutOfBoundsException" ∧ ¬ (1 ≤ x ∧ x ≤ d 0) ∨ E9 = "java/lang/IndexOutOfBoundsException" ∧ (1 ≤ x ∧ x ≤ d 0) ∧ ¬ (-1 ≤ c9 ∧ c9 < d 1) ∨ E9 = "java/lang/IllegalStateException" ∧ (1 ≤ x ∧ x ≤ d 0) ∧ (-1 ≤ c9 ∧ c9 < d 1) ∧ d (70 + x) = 1) (fun z u => (1 ≤ x ∧ x ≤ d 0) ∧ (-1 ≤ c9 ∧ c9 < d 1) ∧ d (70 + x) ≠ 1 ∧ z = d (29 + x) - 1 ∧ u[q2]? = some (a2, .inr (0, [.ref ap2, .long (fmk (d 0) (fx (uZ d (29 + x) (c9 + 1))))])) ∧ u[q2 + 1]? = some (ap2, aL cy 4 (mk (d 0) (cl (uZ d (29 + x) (c9 + 1))))) ∧ HPs u cy q7 ahi ahsu ((nx + 1) % 8) (if kp < 8 then kp + 1 else 8) (uZ hs9 nx (some asu)) hac hap (fun i => if i = nx.toNat then fmk (d 0) (fx d) else hF i) (fun i => if i = nx.toNat then mk (d 0) (cl d) else hP i) ahco ∧ Eqx ws0 u (fun j => j = q7 ∨ j = q7 + 1 ∨ j = q7 + 3 + 2 * nx.toNat ∨ j = q7 + 3 + 2 * nx.toNat + 1 ∨ j = q2 + 1)) := by
  refine TIk.of (own := RX10) (cc := cX10_setColour) (nL := 4) (ret := (some .int)) (by decide) rfl rfl (Nat.le_of_ble_eq_true rfl) ?_
  intro p e s m below meth c A ls hX hxt E h hl
  have hl : lv_has ls 4 [(0, .ref ax), (1, .int (zI x)), (2, .int (zI c9))] := hl
  have hE : Eqx ws0 ws0 (fun j => j = q7 ∨ j = q7 + 1 ∨ j = q7 + 3 + 2 * nx.toNat ∨ j = q7 + 3 + 2 * nx.toNat + 1 ∨ j = q2 + 1) := Eqx.rf
  have hn9 := hD.n
  have hk9 := hD.k
  have he9 : ∀ x : Int, 1 ≤ x → x ≤ d 0 → 0 ≤ cl d x ∧ cl d x ≤ d 1 := fun x a b => hD.col a (by omega)
  refine r_aload_n E 0 hl rfl dX10_setColour_0 ?_
  refine r_iload_n E 1 hl rfl dX10_setColour_1 ?_
  refine r_callVtV E hX hxt h (As := [.int (zI x)]) (rest := []) (k_X10_requireNumber l x h_x0 h_su hD (by omega) hl9) (fun E9 h9 => Or.inl h9) h_x0 rfl gX10_setColour_X10_requireNumber rfl hd_X10_requireNumber (by decide) ⟨by decide, by decide⟩ ⟨by decide, by decide⟩ hl.1 rfl (Nat.le_of_ble_eq_true rfl) dX10_setColour_2 rfl (fun ws H locs hp h => ?_)
  obtain ⟨hv_z_2, rfl⟩ := hp
  refine r_aload_n E 0 hl rfl dX10_setColour_5 ?_
  refine r_iload_n E 2 hl rfl dX10_setColour_6 ?_
  refine r_callVtV E hX hxt h (As := [.int (zI c9)]) (rest := []) (k_X10_requireColourOrNone l c9 h_x0 h_su hD (by omega) hl9) (fun E9 h9 => Or.inr (Or.inl ⟨h9.1, by omega, h9.2⟩)) h_x0 rfl gX10_setColour_X10_requireColourOrNone rfl hd_X10_requireColourOrNone (by decide) ⟨by decide, by decide⟩ ⟨by decide, by decide⟩ hl.1 rfl (Nat.le_of_ble_eq_true rfl) dX10_setColour_7 rfl (fun ws H locs hp h => ?_)
  obtain ⟨hv_z_7, rfl⟩ := hp
  have hclx : cl d x = d (29 + x) := rfl
  have hfx9 : fx d x = d (70 + x) := rfl
  have hcx := he9 x (by omega) (by omega)
  refine r_aload_n E 0 hl rfl dX10_setColour_10 ?_
  refine r_get (v := .ref a2) E h h_x0 rfl inn_X10_setColour_10 6 (by decide) fl_X10_setColour_37 rfl dX10_setColour_11 ?_
  refine r_iload_n E 1 hl rfl dX10_setColour_14 ?_
  refine r_callVI E h (As := [.int (zI x)]) (rest := []) (k_X0_hasFixed l x h_co h_cop (by omega) (by omega)) h_co rfl gX10_setColour_X0_hasFixed rfl hd_X0_hasFixed (by decide) ⟨by decide, by decide⟩ hl.1 rfl (Nat.le_of_ble_eq_true rfl) dX10_setColour_15 rfl (fun z_15 ws H locs hp h => ?_)
  obtain ⟨e_z_15, rfl⟩ := hp
  refine r_if_eq E 31 dX10_setColour_18 (by decide) (by omega) (fun c_18 => ?_) (fun c_18 => ?_)
  · skip
    refine r_aload_n E 0 hl rfl dX10_setColour_31 ?_
    refine r_get (v := .ref ahi) E h h_x0 rfl inn_X10_setColour_10 9 (by decide) fl_X10_setColour_58 rfl dX10_setColour_32 ?_
    refine r_aload_n E 0 hl rfl dX10_setColour_35 ?_
    refine r_get (v := .ref asu) E h h_x0 rfl inn_X10_setColour_10 3 (by decide) fl_X10_setColour_74 rfl dX10_setColour_36 ?_
    refine r_aload_n E 0 hl rfl dX10_setColour_39 ?_
    refine r_get (v := .ref a2) E h h_x0 rfl inn_X10_setColour_10 6 (by decide) fl_X10_setColour_37 rfl dX10_setColour_40 ?_
    refine r_callVV E h (As := [.ref asu, .ref a2]) (rest := []) (k_X2_remember l h_hi h_hsu h_hco h_su h_co h_cop hnx hkp hcc hFc (by omega) (by omega)) h_hi rfl gX10_setColour_X2_remember rfl hd_X2_remember (by decide) ⟨by decide, by decide⟩ hl.1 rfl (Nat.le_of_ble_eq_true rfl) dX10_setColour_43 rfl (fun ws H locs hp h => ?_)
    obtain ⟨h_hi, h_hsu, h_hc, h_hcp, hf⟩ := hp
    have h_x0 := hf.at h_x0 (by first | omega | (dsimp only <;> omega))
    have h_su := hf.at h_su (by first | omega | (dsimp only <;> omega))
    have h_co := hf.at h_co (by first | omega | (dsimp only <;> omega))
    have h_cop := hf.at h_cop (by first | omega | (dsimp only <;> omega))
    have h_hco := hf.at h_hco (by first | omega | (dsimp only <;> omega))
    have hE := hE.tr (hf.wk (fun j hj => by first | omega | (dsimp only at hj ⊢ <;> omega)))
    refine r_aload_n E 0 hl rfl dX10_setColour_46 ?_
    refine r_get (v := .ref a2) E h h_x0 rfl inn_X10_setColour_10 6 (by decide) fl_X10_setColour_37 rfl dX10_setColour_47 ?_
    refine r_iload_n E 1 hl rfl dX10_setColour_50 ?_
    refine r_callVI E h (As := [.int (zI x)]) (rest := []) (k_X0_colourOf l x h_co h_cop (by omega) (by omega) (by omega)) h_co rfl gX10_setColour_X0_colourOf rfl hd_X0_colourOf (by decide) ⟨by decide, by decide⟩ hl.1 rfl (Nat.le_of_ble_eq_true rfl) dX10_setColour_51 rfl (fun z_51 ws H locs hp h => ?_)
    obtain ⟨rfl, rfl⟩ := hp
    refine r_istore_n (lv' := [(3, .int (zI ((cl d) x - 1))), (0, .ref ax), (1, .int (zI x)), (2, .int (zI c9))]) E hl dX10_setColour_54 rfl (by decide) rfl (fun ls hl => ?_)
    refine r_aload_n E 1 hl rfl dX10_setColour_55 ?_
    refine r_get (v := .ref a2) E h h_x0 rfl inn_X10_setColour_10 6 (by decide) fl_X10_setColour_37 rfl dX10_setColour_56 ?_
    refine r_iload_n E 2 hl rfl dX10_setColour_59 ?_
    refine r_iload_n E 3 hl rfl dX10_setColour_60 ?_
    refine r_callVV E h (As := [.int (zI x), .int (zI c9)]) (rest := []) (k_X0_paint l x c9 h_co h_cop (by omega) (by omega) (by omega)) h_co rfl gX10_setColour_X0_paint rfl hd_X0_paint (by decide) ⟨by decide, by decide⟩ hl.1 rfl (Nat.le_of_ble_eq_true rfl) dX10_setColour_61 rfl (fun ws H locs hp h => ?_)
    obtain ⟨h_cop, hf⟩ := hp
    have h_x0 := hf.at h_x0 (by first | omega | (dsimp only <;> omega))
    have h_su := hf.at h_su (by first | omega | (dsimp only <;> omega))
    have h_co := hf.at h_co (by first | omega | (dsimp only <;> omega))
    have h_hi := hf.at h_hi (by first | omega | (dsimp only <;> omega))
    have h_hsu := hf.at h_hsu (by first | omega | (dsimp only <;> omega))
    have h_hco := hf.at h_hco (by first | omega | (dsimp only <;> omega))
    have h_hc := hf.at h_hc (by first | omega | (dsimp only <;> omega))
    have h_hcp := hf.at h_hcp (by first | omega | (dsimp only <;> omega))
    have hE := hE.tr (hf.wk (fun j hj => by first | omega | (dsimp only at hj ⊢ <;> omega)))
    refine r_iload_n E 0 hl rfl dX10_setColour_64 ?_
    refine W.widen (k := 3) (n := 18) (by decide) (by decide) ?_
    exact vx_ret (r_iret E h ⟨by omega, by omega, by omega, rfl, by rw [fmk_setc (by omega)]; exact h_co, by rw [cl_set9]; exact h_cop, (HPs.of hnx h_hi h_hsu h_hc h_hcp hFc hE (fun i h0 h1 => ⟨by omega, by omega⟩)), hE⟩ dX10_setColour_65)
  · skip
    exact r_throwS E hX hxt h hl9 (text := "the number is fixed") (cls := "java/lang/IllegalStateException") (k9 := 3) (by decide) (List.mem_of_getElem? (i := 1) rfl) (List.mem_of_getElem? (i := 2) rfl) (by decide +kernel) xnn_X10_setColour_223 vxb_223 vxo_223 hl.1 dX10_setColour_21 dX10_setColour_24 dX10_setColour_25 dX10_setColour_27 dX10_setColour_30 ⟨by decide, by decide⟩ ⟨⟨by decide, by decide⟩, by decide, by decide⟩ (Or.inr (Or.inr ⟨rfl, by omega, by omega, by omega⟩))
theorem hd_X10_setFixed : yX10_setFixed.cls = RX10 ∧ yX10_setFixed.cls ≠ "java/lang/invoke/MethodHandle" ∧ yX10_setFixed.cls ≠ "java/lang/invoke/VarHandle" ∧ (parseMethodDescriptor yX10_setFixed.desc).map (fun d => d.parameters.length) = some 2 := by decide +kernel
theorem fl_X10_setFixed_58 : Cond.fieldLink RX10 58 (TX10 9).1 (TX10 9).2.1 (TX10 9).2.2.1 ∈ wsX10_setFixed := List.mem_of_getElem? (i := 4) rfl
theorem inn_X10_setFixed_10 : ∀ w ∈ wsX100, w ∈ wsX10_setFixed := fun _ h => List.mem_cons_of_mem _ (List.mem_append_left _ (List.mem_append_left _ (List.mem_append_left _ (List.mem_append_left _ (List.mem_append_left _ (List.mem_append_right _ h))))))
theorem fl_X10_setFixed_74 : Cond.fieldLink RX10 74 (TX10 3).1 (TX10 3).2.1 (TX10 3).2.2.1 ∈ wsX10_setFixed := List.mem_of_getElem? (i := 5) rfl
theorem fl_X10_setFixed_37 : Cond.fieldLink RX10 37 (TX10 6).1 (TX10 6).2.1 (TX10 6).2.2.1 ∈ wsX10_setFixed := List.mem_of_getElem? (i := 3) rfl
theorem xnn_X10_setFixed_223 : ∀ w ∈ (vx_atS RX10 223 "java/lang/IllegalStateException" VXN).filter goodWord, w ∈ wsX10_setFixed := fun _ h => List.mem_cons_of_mem _ (List.mem_append_left _ (List.mem_append_right _ h))
abbrev rm_X10_setFixed : Room := { frames := 7, cells := 2, slots := 12, locals := 115 }
set_option maxHeartbeats 1200000 in
set_option maxRecDepth 100000 in
theorem k_X10_setFixed (l : Launch) {G : va_G} {cy : Nat → ClassId} {ws0 : va_W} {qx ax ain asu ard a a2 asr arp ahi : Nat} {inl erp : Int} {qs ar9 afo : Nat} {q2 ap2 : Nat} {d : Int → Int} {T : List Int} {q7 ahsu ahco : Nat} {nx kp : Int} {hs9 hcf : Int → Option Nat} {hac hap : Nat → Nat} {hF : Nat → Int64} {hP : Nat → Int → Int64} (x v : Int) (h_x0 : ws0[qx]? = some (ax, .inr (10, [.ref ain, .int (zI inl), .int (zI erp), .ref asu, .ref ard, .ref a, .ref a2, .ref asr, .ref arp, .ref ahi]))) (h_su : ws0[qs]? = some (asu, .inr (6, [.int (zI (d 0)), .int (zI (d 1)), .ref ar9, .ref afo]))) (h_co : ws0[q2]? = some (a2, .inr (0, [.ref ap2, .long (fmk (d 0) (fx d))]))) (h_cop : ws0[q2 + 1]? = some (ap2, aL cy 4 (mk (d 0) (cl d)))) (h_hi : ws0[q7]? = some (ahi, .inr (2, [.ref ahsu, .ref ahco, .int (zI nx), .int (zI kp)]))) (h_hsu : ws0[q7 + 1]? = some (ahsu, aR cy 5 8 hs9)) (h_hco : ws0[q7 + 2]? = some (ahco, aR cy 3 8 hcf)) (hD : DW d T) (hlay : q2 = qx + 16 ∧ q7 = qx + 27) (hqs : qs < qx ∨ qx + 46 ≤ qs) (hx9 : -2147483648 ≤ x ∧ x ≤ 2147483647) (hv : v = 0 ∨ v = 1) (hnx : 0 ≤ nx ∧ nx < 8) (hkp : 0 ≤ kp ∧ kp ≤ 8) (hcc : ∀ i : Nat, i < 8 → hcf (i : Int) = some (hac i)) (hFc : ∀ i : Nat, i < 8 → ws0[q7 + 3 + 2 * i]? = some (hac i, .inr (0, [.ref (hap i), .long (hF i)])) ∧ ws0[q7 + 3 + 2 * i + 1]? = some (hap i, aL cy 4 (hP i))) (hl9 : l.stackTraces = false) : TIk l yX10_setFixed wsX10_setFixed rm_X10_setFixed G cy [.ref ax, .int (zI x), .int (zI v)] ws0 (fun E9 => E9 = "java/lang/IndexOutOfBoundsException" ∧ ¬ (1 ≤ x ∧ x ≤ d 0) ∨ E9 = "java/lang/IllegalStateException" ∧ (1 ≤ x ∧ x ≤ d 0) ∧ v = 1 ∧ d (29 + x) = 0) (fun z u => (1 ≤ x ∧ x ≤ d 0) ∧ ¬ (v = 1 ∧ d (29 + x) = 0) ∧ (z = 1 ∧ d (70 + x) = 1 ∨ z = 0 ∧ d (70 + x) ≠ 1) ∧ u[q2]? = some (a2, .inr (0, [.ref ap2, .long (fmk (d 0) (fx (uZ d (70 + x) v)))])) ∧ u[q2 + 1]? = some (ap2, aL cy 4 (mk (d 0) (cl (uZ d (70 + x) v)))) ∧ HPs u cy q7 ahi ahsu ((nx + 1) % 8) (if kp < 8 then kp + 1 else 8) (uZ hs9 nx (some asu)) hac hap (fun i => if i = nx.toNat then fmk (d 0) (fx d) else hF i) (fun i => if i = nx.toNat then mk (d 0) (cl d) else hP i) ahco ∧ Eqx ws0 u (fun j => j = q7 ∨ j = q7 + 1 ∨ j = q7 + 3 + 2 * nx.toNat ∨ j = q7 + 3 + 2 * nx.toNat + 1 ∨ j = q2)) := by
  refine TIk.of (own := RX10) (cc := cX10_setFixed) (nL := 4) (ret := (some .boolean)) (by decide) rfl rfl (Nat.le_of_ble_eq_true rfl) ?_
  intro p e s m below meth c A ls hX hxt E h hl
  have hl : lv_has ls 4 [(0, .ref ax), (1, .int (zI x)), (2, .int (zI v))] := hl
  have hE : Eqx ws0 ws0 (fun j => j = q7 ∨ j = q7 + 1 ∨ j = q7 + 3 + 2 * nx.toNat ∨ j = q7 + 3 + 2 * nx.toNat + 1 ∨ j = q2) := Eqx.rf
  have hn9 := hD.n
  have hk9 := hD.k
  have he9 : ∀ x : Int, 1 ≤ x → x ≤ d 0 → 0 ≤ cl d x ∧ cl d x ≤ d 1 := fun x a b => hD.col a (by omega)
  refine r_aload_n E 0 hl rfl dX10_setFixed_0 ?_
  refine r_iload_n E 1 hl rfl dX10_setFixed_1 ?_
  refine r_callVtV E hX hxt h (As := [.int (zI x)]) (rest := []) (k_X10_requireNumber l x h_x0 h_su hD (by omega) hl9) (fun E9 h9 => Or.inl h9) h_x0 rfl gX10_setFixed_X10_requireNumber rfl hd_X10_requireNumber (by decide) ⟨by decide, by decide⟩ ⟨by decide, by decide⟩ hl.1 rfl (Nat.le_of_ble_eq_true rfl) dX10_setFixed_2 rfl (fun ws H locs hp h => ?_)
  obtain ⟨hv_z_2, rfl⟩ := hp
  have hclx : cl d x = d (29 + x) := rfl
  have hfx9 : fx d x = d (70 + x) := rfl
  have hcx := he9 x (by omega) (by omega)
  refine r_iload_n E 2 hl rfl dX10_setFixed_5 ?_
  refine r_if_eq E 31 dX10_setFixed_6 (by decide) (by omega) (fun c_6 => ?_) (fun c_6 => ?_)
  · skip
    refine r_aload_n E 0 hl rfl dX10_setFixed_31 ?_
    refine r_get (v := .ref ahi) E h h_x0 rfl inn_X10_setFixed_10 9 (by decide) fl_X10_setFixed_58 rfl dX10_setFixed_32 ?_
    refine r_aload_n E 0 hl rfl dX10_setFixed_35 ?_
    refine r_get (v := .ref asu) E h h_x0 rfl inn_X10_setFixed_10 3 (by decide) fl_X10_setFixed_74 rfl dX10_setFixed_36 ?_
    refine r_aload_n E 0 hl rfl dX10_setFixed_39 ?_
    refine r_get (v := .ref a2) E h h_x0 rfl inn_X10_setFixed_10 6 (by decide) fl_X10_setFixed_37 rfl dX10_setFixed_40 ?_
    refine r_callVV E h (As := [.ref asu, .ref a2]) (rest := []) (k_X2_remember l h_hi h_hsu h_hco h_su h_co h_cop hnx hkp hcc hFc (by omega) (by omega)) h_hi rfl gX10_setFixed_X2_remember rfl hd_X2_remember (by decide) ⟨by decide, by decide⟩ hl.1 rfl (Nat.le_of_ble_eq_true rfl) dX10_setFixed_43 rfl (fun ws H locs hp h => ?_)
    obtain ⟨h_hi, h_hsu, h_hc, h_hcp, hf⟩ := hp
    have h_x0 := hf.at h_x0 (by first | omega | (dsimp only <;> omega))
    have h_su := hf.at h_su (by first | omega | (dsimp only <;> omega))
    have h_co := hf.at h_co (by first | omega | (dsimp only <;> omega))
    have h_cop := hf.at h_cop (by first | omega | (dsimp only <;> omega))
    have h_hco := hf.at h_hco (by first | omega | (dsimp only <;> omega))
    have hE := hE.tr (hf.wk (fun j hj => by first | omega | (dsimp only at hj ⊢ <;> omega)))
    refine r_aload_n E 0 hl rfl dX10_setFixed_46 ?_
    refine r_get (v := .ref a2) E h h_x0 rfl inn_X10_setFixed_10 6 (by decide) fl_X10_setFixed_37 rfl dX10_setFixed_47 ?_
    refine r_iload_n E 1 hl rfl dX10_setFixed_50 ?_
    refine r_callVI E h (As := [.int (zI x)]) (rest := []) (k_X0_hasFixed l x h_co h_cop (by omega) (by omega)) h_co rfl gX10_setFixed_X0_hasFixed rfl hd_X0_hasFixed (by decide) ⟨by decide, by decide⟩ hl.1 rfl (Nat.le_of_ble_eq_true rfl) dX10_setFixed_51 rfl (fun z_51 ws H locs hp h => ?_)
    obtain ⟨e_z_51, rfl⟩ := hp
    refine r_istore_n (lv' := [(3, .int (zI z_51)), (0, .ref ax), (1, .int (zI x)), (2, .int (zI v))]) E hl dX10_setFixed_54 rfl (by decide) rfl (fun ls hl => ?_)
    refine r_aload_n E 1 hl rfl dX10_setFixed_55 ?_
    refine r_get (v := .ref a2) E h h_x0 rfl inn_X10_setFixed_10 6 (by decide) fl_X10_setFixed_37 rfl dX10_setFixed_56 ?_
    refine r_iload_n E 2 hl rfl dX10_setFixed_59 ?_
    refine r_iload_n E 3 hl rfl dX10_setFixed_60 ?_
    refine r_callVV E h (As := [.int (zI x), .int (zI v)]) (rest := []) (k_X0_fix l x v h_co h_cop (by omega) (by omega) (by omega)) h_co rfl gX10_setFixed_X0_fix rfl hd_X0_fix (by decide) ⟨by decide, by decide⟩ hl.1 rfl (Nat.le_of_ble_eq_true rfl) dX10_setFixed_61 rfl (fun ws H locs hp h => ?_)
    obtain ⟨h_co, hf⟩ := hp
    have h_x0 := hf.at h_x0 (by first | omega | (dsimp only <;> omega))
    have h_su := hf.at h_su (by first | omega | (dsimp only <;> omega))
    have h_cop := hf.at h_cop (by first | omega | (dsimp only <;> omega))
    have h_hi := hf.at h_hi (by first | omega | (dsimp only <;> omega))
    have h_hsu := hf.at h_hsu (by first | omega | (dsimp only <;> omega))
    have h_hco := hf.at h_hco (by first | omega | (dsimp only <;> omega))
    have h_hc := hf.at h_hc (by first | omega | (dsimp only <;> omega))
    have h_hcp := hf.at h_hcp (by first | omega | (dsimp only <;> omega))
    have hE := hE.tr (hf.wk (fun j hj => by first | omega | (dsimp only at hj ⊢ <;> omega)))
    refine r_iload_n E 0 hl rfl dX10_setFixed_64 ?_
    refine W.widen (k := 2) (n := 12) (by decide) (by decide) ?_
    exact vx_ret (r_zret E h (by omega) ⟨by omega, by omega, e_z_51, by rw [fx_set]; exact h_co, by rw [show aL cy 4 (mk (d 0) (cl (uZ d (70 + x) v))) = aL cy 4 (mk (d 0) (cl d)) from congrArg (aL cy 4) (funext fun c => mk_setf (by omega) (by omega))]; exact h_cop, (HPs.of hnx h_hi h_hsu h_hc h_hcp hFc hE (fun i h0 h1 => ⟨by omega, by omega⟩)), hE⟩ dX10_setFixed_65)
  · skip
    refine r_aload_n E 0 hl rfl dX10_setFixed_9 ?_
    refine r_get (v := .ref a2) E h h_x0 rfl inn_X10_setFixed_10 6 (by decide) fl_X10_setFixed_37 rfl dX10_setFixed_10 ?_
    refine r_iload_n E 1 hl rfl dX10_setFixed_13 ?_
    refine r_callVI E h (As := [.int (zI x)]) (rest := []) (k_X0_colourOf l x h_co h_cop (by omega) (by omega) (by omega)) h_co rfl gX10_setFixed_X0_colourOf rfl hd_X0_colourOf (by decide) ⟨by decide, by decide⟩ hl.1 rfl (Nat.le_of_ble_eq_true rfl) dX10_setFixed_14 rfl (fun z_14 ws H locs hp h => ?_)
    obtain ⟨rfl, rfl⟩ := hp
    refine r_iconst E dX10_setFixed_17 ?_
    refine r_icmp_ne E 31 dX10_setFixed_18 (by decide) (by omega) (fun c_18 => ?_) (fun c_18 => ?_)
    · skip
      refine r_aload_n E 0 hl rfl dX10_setFixed_31 ?_
      refine r_get (v := .ref ahi) E h h_x0 rfl inn_X10_setFixed_10 9 (by decide) fl_X10_setFixed_58 rfl dX10_setFixed_32 ?_
      refine r_aload_n E 0 hl rfl dX10_setFixed_35 ?_
      refine r_get (v := .ref asu) E h h_x0 rfl inn_X10_setFixed_10 3 (by decide) fl_X10_setFixed_74 rfl dX10_setFixed_36 ?_
      refine r_aload_n E 0 hl rfl dX10_setFixed_39 ?_
      refine r_get (v := .ref a2) E h h_x0 rfl inn_X10_setFixed_10 6 (by decide) fl_X10_setFixed_37 rfl dX10_setFixed_40 ?_
      refine r_callVV E h (As := [.ref asu, .ref a2]) (rest := []) (k_X2_remember l h_hi h_hsu h_hco h_su h_co h_cop hnx hkp hcc hFc (by omega) (by omega)) h_hi rfl gX10_setFixed_X2_remember rfl hd_X2_remember (by decide) ⟨by decide, by decide⟩ hl.1 rfl (Nat.le_of_ble_eq_true rfl) dX10_setFixed_43 rfl (fun ws H locs hp h => ?_)
      obtain ⟨h_hi, h_hsu, h_hc, h_hcp, hf⟩ := hp
      have h_x0 := hf.at h_x0 (by first | omega | (dsimp only <;> omega))
      have h_su := hf.at h_su (by first | omega | (dsimp only <;> omega))
      have h_co := hf.at h_co (by first | omega | (dsimp only <;> omega))
      have h_cop := hf.at h_cop (by first | omega | (dsimp only <;> omega))
      have h_hco := hf.at h_hco (by first | omega | (dsimp only <;> omega))
      have hE := hE.tr (hf.wk (fun j hj => by first | omega | (dsimp only at hj ⊢ <;> omega)))
      refine r_aload_n E 0 hl rfl dX10_setFixed_46 ?_
      refine r_get (v := .ref a2) E h h_x0 rfl inn_X10_setFixed_10 6 (by decide) fl_X10_setFixed_37 rfl dX10_setFixed_47 ?_
      refine r_iload_n E 1 hl rfl dX10_setFixed_50 ?_
      refine r_callVI E h (As := [.int (zI x)]) (rest := []) (k_X0_hasFixed l x h_co h_cop (by omega) (by omega)) h_co rfl gX10_setFixed_X0_hasFixed rfl hd_X0_hasFixed (by decide) ⟨by decide, by decide⟩ hl.1 rfl (Nat.le_of_ble_eq_true rfl) dX10_setFixed_51 rfl (fun z_51 ws H locs hp h => ?_)
      obtain ⟨e_z_51, rfl⟩ := hp
      refine r_istore_n (lv' := [(3, .int (zI z_51)), (0, .ref ax), (1, .int (zI x)), (2, .int (zI v))]) E hl dX10_setFixed_54 rfl (by decide) rfl (fun ls hl => ?_)
      refine r_aload_n E 1 hl rfl dX10_setFixed_55 ?_
      refine r_get (v := .ref a2) E h h_x0 rfl inn_X10_setFixed_10 6 (by decide) fl_X10_setFixed_37 rfl dX10_setFixed_56 ?_
      refine r_iload_n E 2 hl rfl dX10_setFixed_59 ?_
      refine r_iload_n E 3 hl rfl dX10_setFixed_60 ?_
      refine r_callVV E h (As := [.int (zI x), .int (zI v)]) (rest := []) (k_X0_fix l x v h_co h_cop (by omega) (by omega) (by omega)) h_co rfl gX10_setFixed_X0_fix rfl hd_X0_fix (by decide) ⟨by decide, by decide⟩ hl.1 rfl (Nat.le_of_ble_eq_true rfl) dX10_setFixed_61 rfl (fun ws H locs hp h => ?_)
      obtain ⟨h_co, hf⟩ := hp
      have h_x0 := hf.at h_x0 (by first | omega | (dsimp only <;> omega))
      have h_su := hf.at h_su (by first | omega | (dsimp only <;> omega))
      have h_cop := hf.at h_cop (by first | omega | (dsimp only <;> omega))
      have h_hi := hf.at h_hi (by first | omega | (dsimp only <;> omega))
      have h_hsu := hf.at h_hsu (by first | omega | (dsimp only <;> omega))
      have h_hco := hf.at h_hco (by first | omega | (dsimp only <;> omega))
      have h_hc := hf.at h_hc (by first | omega | (dsimp only <;> omega))
      have h_hcp := hf.at h_hcp (by first | omega | (dsimp only <;> omega))
      have hE := hE.tr (hf.wk (fun j hj => by first | omega | (dsimp only at hj ⊢ <;> omega)))
      refine r_iload_n E 0 hl rfl dX10_setFixed_64 ?_
      refine W.widen (k := 2) (n := 12) (by decide) (by decide) ?_
      exact vx_ret (r_zret E h (by omega) ⟨by omega, by omega, e_z_51, by rw [fx_set]; exact h_co, by rw [show aL cy 4 (mk (d 0) (cl (uZ d (70 + x) v))) = aL cy 4 (mk (d 0) (cl d)) from congrArg (aL cy 4) (funext fun c => mk_setf (by omega) (by omega))]; exact h_cop, (HPs.of hnx h_hi h_hsu h_hc h_hcp hFc hE (fun i h0 h1 => ⟨by omega, by omega⟩)), hE⟩ dX10_setFixed_65)
    · skip
      exact r_throwS E hX hxt h hl9 (text := "the number has no colour") (cls := "java/lang/IllegalStateException") (k9 := 4) (by decide) (List.mem_of_getElem? (i := 1) rfl) (List.mem_of_getElem? (i := 2) rfl) (by decide +kernel) xnn_X10_setFixed_223 vxb_223 vxo_223 hl.1 dX10_setFixed_21 dX10_setFixed_24 dX10_setFixed_25 dX10_setFixed_27 dX10_setFixed_30 ⟨by decide, by decide⟩ ⟨⟨by decide, by decide⟩, by decide, by decide⟩ (Or.inr ⟨rfl, by omega, by omega, by omega⟩)
theorem hd_X10_swapColours : yX10_swapColours.cls = RX10 ∧ yX10_swapColours.cls ≠ "java/lang/invoke/MethodHandle" ∧ yX10_swapColours.cls ≠ "java/lang/invoke/VarHandle" ∧ (parseMethodDescriptor yX10_swapColours.desc).map (fun d => d.parameters.length) = some 2 := by decide +kernel
theorem fl_X10_swapColours_58 : Cond.fieldLink RX10 58 (TX10 9).1 (TX10 9).2.1 (TX10 9).2.2.1 ∈ wsX10_swapColours := List.mem_of_getElem? (i := 1) rfl
theorem inn_X10_swapColours_10 : ∀ w ∈ wsX100, w ∈ wsX10_swapColours := fun _ h => List.mem_cons_of_mem _ (List.mem_append_left _ (List.mem_append_left _ (List.mem_append_left _ (List.mem_append_left _ (List.mem_append_right _ h)))))
theorem fl_X10_swapColours_74 : Cond.fieldLink RX10 74 (TX10 3).1 (TX10 3).2.1 (TX10 3).2.2.1 ∈ wsX10_swapColours := List.mem_of_getElem? (i := 2) rfl
theorem fl_X10_swapColours_37 : Cond.fieldLink RX10 37 (TX10 6).1 (TX10 6).2.1 (TX10 6).2.2.1 ∈ wsX10_swapColours := List.mem_of_getElem? (i := 3) rfl
abbrev rm_X10_swapColours : Room := { frames := 7, cells := 2, slots := 12, locals := 115 }
set_option maxHeartbeats 1200000 in
set_option maxRecDepth 100000 in
theorem k_X10_swapColours (l : Launch) {G : va_G} {cy : Nat → ClassId} {ws0 : va_W} {qx ax ain asu ard a a2 asr arp ahi : Nat} {inl erp : Int} {qs ar9 afo : Nat} {q2 ap2 : Nat} {d : Int → Int} {T : List Int} {q7 ahsu ahco : Nat} {nx kp : Int} {hs9 hcf : Int → Option Nat} {hac hap : Nat → Nat} {hF : Nat → Int64} {hP : Nat → Int → Int64} (o1 o2 : Int) (h_x0 : ws0[qx]? = some (ax, .inr (10, [.ref ain, .int (zI inl), .int (zI erp), .ref asu, .ref ard, .ref a, .ref a2, .ref asr, .ref arp, .ref ahi]))) (h_su : ws0[qs]? = some (asu, .inr (6, [.int (zI (d 0)), .int (zI (d 1)), .ref ar9, .ref afo]))) (h_co : ws0[q2]? = some (a2, .inr (0, [.ref ap2, .long (fmk (d 0) (fx d))]))) (h_cop : ws0[q2 + 1]? = some (ap2, aL cy 4 (mk (d 0) (cl d)))) (h_hi : ws0[q7]? = some (ahi, .inr (2, [.ref ahsu, .ref ahco, .int (zI nx), .int (zI kp)]))) (h_hsu : ws0[q7 + 1]? = some (ahsu, aR cy 5 8 hs9)) (h_hco : ws0[q7 + 2]? = some (ahco, aR cy 3 8 hcf)) (hD : DW d T) (hlay : q2 = qx + 16 ∧ q7 = qx + 27) (hqs : qs < qx ∨ qx + 46 ≤ qs) (hx9 : (-2147483648 ≤ o1 ∧ o1 ≤ 2147483647) ∧ (-2147483648 ≤ o2 ∧ o2 ≤ 2147483647)) (hnx : 0 ≤ nx ∧ nx < 8) (hkp : 0 ≤ kp ∧ kp ≤ 8) (hcc : ∀ i : Nat, i < 8 → hcf (i : Int) = some (hac i)) (hFc : ∀ i : Nat, i < 8 → ws0[q7 + 3 + 2 * i]? = some (hac i, .inr (0, [.ref (hap i), .long (hF i)])) ∧ ws0[q7 + 3 + 2 * i + 1]? = some (hap i, aL cy 4 (hP i))) (hl9 : l.stackTraces = false) : TIk l yX10_swapColours wsX10_swapColours rm_X10_swapColours G cy [.ref ax, .int (zI o1), .int (zI o2)] ws0 (fun E9 => E9 = "java/lang/IndexOutOfBoundsException" ∧ ¬ (0 ≤ o1 ∧ o1 < d 1) ∨ E9 = "java/lang/IndexOutOfBoundsException" ∧ (0 ≤ o1 ∧ o1 < d 1) ∧ ¬ (0 ≤ o2 ∧ o2 < d 1)) (fun z u => (0 ≤ o1 ∧ o1 < d 1) ∧ (0 ≤ o2 ∧ o2 < d 1) ∧ (o1 = o2 ∧ z = 0 ∧ u[q2 + 1]? = some (ap2, aL cy 4 (mk (d 0) (cl d))) ∨ o1 ≠ o2 ∧ z = sumL (fun y => if swE (cl d) o1 o2 y = o1 + 1 then 1 else 0) (upto (d 0).toNat) + sumL (fun y => if swE (cl d) o1 o2 y = o2 + 1 then 1 else 0) (upto (d 0).toNat) ∧ u[q2 + 1]? = some (ap2, aL cy 4 (mk (d 0) (swE (cl d) o1 o2)))) ∧ u[q2]? = some (a2, .inr (0, [.ref ap2, .long (fmk (d 0) (fx d))])) ∧ HPs u cy q7 ahi ahsu ((nx + 1) % 8) (if kp < 8 then kp + 1 else 8) (uZ hs9 nx (some asu)) hac hap (fun i => if i = nx.toNat then fmk (d 0) (fx d) else hF i) (fun i => if i = nx.toNat then mk (d 0) (cl d) else hP i) ahco ∧ Eqx ws0 u (fun j => j = q7 ∨ j = q7 + 1 ∨ j = q7 + 3 + 2 * nx.toNat ∨ j = q7 + 3 + 2 * nx.toNat + 1 ∨ j = q2 + 1)) := by
  refine TIk.of (own := RX10) (cc := cX10_swapColours) (nL := 3) (ret := (some .int)) (by decide) rfl rfl (Nat.le_of_ble_eq_true rfl) ?_
  intro p e s m below meth c A ls hX hxt E h hl
  have hl : lv_has ls 3 [(0, .ref ax), (1, .int (zI o1)), (2, .int (zI o2))] := hl
  have hE : Eqx ws0 ws0 (fun j => j = q7 ∨ j = q7 + 1 ∨ j = q7 + 3 + 2 * nx.toNat ∨ j = q7 + 3 + 2 * nx.toNat + 1 ∨ j = q2 + 1) := Eqx.rf
  have hn9 := hD.n
  have hk9 := hD.k
  have he9 : ∀ x : Int, 1 ≤ x → x ≤ d 0 → 0 ≤ cl d x ∧ cl d x ≤ d 1 := fun x a b => hD.col a (by omega)
  refine r_aload_n E 0 hl rfl dX10_swapColours_0 ?_
  refine r_iload_n E 1 hl rfl dX10_swapColours_1 ?_
  refine r_callVtV E hX hxt h (As := [.int (zI o1)]) (rest := []) (k_X10_requireColour l o1 h_x0 h_su hD (by omega) hl9) (fun E9 h9 => Or.inl h9) h_x0 rfl gX10_swapColours_X10_requireColour rfl hd_X10_requireColour (by decide) ⟨by decide, by decide⟩ ⟨by decide, by decide⟩ hl.1 rfl (Nat.le_of_ble_eq_true rfl) dX10_swapColours_2 rfl (fun ws H locs hp h => ?_)
  obtain ⟨hv_z_2, rfl⟩ := hp
  refine r_aload_n E 0 hl rfl dX10_swapColours_5 ?_
  refine r_iload_n E 2 hl rfl dX10_swapColours_6 ?_
  refine r_callVtV E hX hxt h (As := [.int (zI o2)]) (rest := []) (k_X10_requireColour l o2 h_x0 h_su hD (by omega) hl9) (fun E9 h9 => Or.inr ⟨h9.1, by omega, h9.2⟩) h_x0 rfl gX10_swapColours_X10_requireColour rfl hd_X10_requireColour (by decide) ⟨by decide, by decide⟩ ⟨by decide, by decide⟩ hl.1 rfl (Nat.le_of_ble_eq_true rfl) dX10_swapColours_7 rfl (fun ws H locs hp h => ?_)
  obtain ⟨hv_z_7, rfl⟩ := hp
  refine r_aload_n E 0 hl rfl dX10_swapColours_10 ?_
  refine r_get (v := .ref ahi) E h h_x0 rfl inn_X10_swapColours_10 9 (by decide) fl_X10_swapColours_58 rfl dX10_swapColours_11 ?_
  refine r_aload_n E 0 hl rfl dX10_swapColours_14 ?_
  refine r_get (v := .ref asu) E h h_x0 rfl inn_X10_swapColours_10 3 (by decide) fl_X10_swapColours_74 rfl dX10_swapColours_15 ?_
  refine r_aload_n E 0 hl rfl dX10_swapColours_18 ?_
  refine r_get (v := .ref a2) E h h_x0 rfl inn_X10_swapColours_10 6 (by decide) fl_X10_swapColours_37 rfl dX10_swapColours_19 ?_
  refine r_callVV E h (As := [.ref asu, .ref a2]) (rest := []) (k_X2_remember l h_hi h_hsu h_hco h_su h_co h_cop hnx hkp hcc hFc (by omega) (by omega)) h_hi rfl gX10_swapColours_X2_remember rfl hd_X2_remember (by decide) ⟨by decide, by decide⟩ hl.1 rfl (Nat.le_of_ble_eq_true rfl) dX10_swapColours_22 rfl (fun ws H locs hp h => ?_)
  obtain ⟨h_hi, h_hsu, h_hc, h_hcp, hf⟩ := hp
  have h_x0 := hf.at h_x0 (by first | omega | (dsimp only <;> omega))
  have h_su := hf.at h_su (by first | omega | (dsimp only <;> omega))
  have h_co := hf.at h_co (by first | omega | (dsimp only <;> omega))
  have h_cop := hf.at h_cop (by first | omega | (dsimp only <;> omega))
  have h_hco := hf.at h_hco (by first | omega | (dsimp only <;> omega))
  have hE := hE.tr (hf.wk (fun j hj => by first | omega | (dsimp only at hj ⊢ <;> omega)))
  refine r_iload_n E 1 hl rfl dX10_swapColours_25 ?_
  refine r_iload_n E 2 hl rfl dX10_swapColours_26 ?_
  refine r_icmp_ne E 32 dX10_swapColours_27 (by decide) (by omega) (fun c_27 => ?_) (fun c_27 => ?_)
  · skip
    refine r_aload_n E 0 hl rfl dX10_swapColours_32 ?_
    refine r_get (v := .ref a2) E h h_x0 rfl inn_X10_swapColours_10 6 (by decide) fl_X10_swapColours_37 rfl dX10_swapColours_33 ?_
    refine r_iload_n E 1 hl rfl dX10_swapColours_36 ?_
    refine r_iload_n E 2 hl rfl dX10_swapColours_37 ?_
    refine r_callVV E h (As := [.int (zI o1), .int (zI o2)]) (rest := []) (k_X0_exchange l o1 o2 h_co h_cop (by omega)) h_co rfl gX10_swapColours_X0_exchange rfl hd_X0_exchange (by decide) ⟨by decide, by decide⟩ hl.1 rfl (Nat.le_of_ble_eq_true rfl) dX10_swapColours_38 rfl (fun ws H locs hp h => ?_)
    obtain ⟨h_cop, hf⟩ := hp
    have h_x0 := hf.at h_x0 (by first | omega | (dsimp only <;> omega))
    have h_su := hf.at h_su (by first | omega | (dsimp only <;> omega))
    have h_co := hf.at h_co (by first | omega | (dsimp only <;> omega))
    have h_hi := hf.at h_hi (by first | omega | (dsimp only <;> omega))
    have h_hsu := hf.at h_hsu (by first | omega | (dsimp only <;> omega))
    have h_hco := hf.at h_hco (by first | omega | (dsimp only <;> omega))
    have h_hc := hf.at h_hc (by first | omega | (dsimp only <;> omega))
    have h_hcp := hf.at h_hcp (by first | omega | (dsimp only <;> omega))
    have hE := hE.tr (hf.wk (fun j hj => by first | omega | (dsimp only at hj ⊢ <;> omega)))
    have hsw := fun (y : Int) (h0 : 1 ≤ y) (h1 : y ≤ d 0) => swE_rng (o1 := o1) (o2 := o2) (he9 y h0 h1) (by omega) (by omega)
    have hq1 := sumL_ind (p := fun y => swE (cl d) o1 o2 y = o1 + 1) (d 0).toNat
    have hq2 := sumL_ind (p := fun y => swE (cl d) o1 o2 y = o2 + 1) (d 0).toNat
    refine r_aload_n E 0 hl rfl dX10_swapColours_41 ?_
    refine r_iload_n E 1 hl rfl dX10_swapColours_42 ?_
    refine r_callVkI E hX h (As := [.int (zI o1)]) (rest := []) (k_X10_countPainted l o1 h_x0 h_su h_co h_cop hD hsw (by omega)) h_x0 rfl gX10_swapColours_X10_countPainted rfl hd_X10_countPainted (by decide) ⟨by decide, by decide⟩ hl.1 rfl (Nat.le_of_ble_eq_true rfl) dX10_swapColours_43 rfl (fun z_43 ws H locs hp h => ?_)
    obtain ⟨e_z_43, rfl⟩ := hp
    refine r_aload_n E 0 hl rfl dX10_swapColours_46 ?_
    refine r_iload_n E 2 hl rfl dX10_swapColours_47 ?_
    refine r_callVkI E hX h (As := [.int (zI o2)]) (rest := [.int (zI z_43)]) (k_X10_countPainted l o2 h_x0 h_su h_co h_cop hD hsw (by omega)) h_x0 rfl gX10_swapColours_X10_countPainted rfl hd_X10_countPainted (by decide) ⟨by decide, by decide⟩ hl.1 rfl (Nat.le_of_ble_eq_true rfl) dX10_swapColours_48 rfl (fun z_48 ws H locs hp h => ?_)
    obtain ⟨e_z_48, rfl⟩ := hp
    refine r_iadd E dX10_swapColours_51 ?_
    refine W.widen (k := 2) (n := 12) (by decide) (by decide) ?_
    exact vx_ret (r_iret E h ⟨by omega, by omega, Or.inr ⟨by omega, by rw [e_z_43, e_z_48], h_cop⟩, h_co, (HPs.of hnx h_hi h_hsu h_hc h_hcp hFc hE (fun i h0 h1 => ⟨by omega, by omega⟩)), hE⟩ dX10_swapColours_52)
  · skip
    refine r_iconst E dX10_swapColours_30 ?_
    refine W.widen (k := 2) (n := 12) (by decide) (by decide) ?_
    exact vx_ret (r_iret E h ⟨by omega, by omega, Or.inl ⟨by omega, rfl, h_cop⟩, h_co, (HPs.of hnx h_hi h_hsu h_hc h_hcp hFc hE (fun i h0 h1 => ⟨by omega, by omega⟩)), hE⟩ dX10_swapColours_31)

