theorem ctN_sum {p : Int → Bool} : ∀ m : Nat, (ctN p (m + 1) : Int) = (if p 0 = true then 1 else 0) + sumL (fun x => if p x = true then 1 else 0) (upto m)
  | 0 => by
    simp only [ctN, upto, sumL]
    by_cases c : p 0 = true
    · rw [if_pos c]; simp [c]
    · rw [if_neg c]; simp [c]
  | m + 1 => by
    have ih := ctN_sum (p := p) m
    have hc : ((m + 1 : Nat) : Int) = (m : Int) + 1 := by omega
    show ((ctN p (m + 1) + (if p ((m + 1 : Nat) : Int) = true then 1 else 0) : Nat) : Int) = _
    rw [hc]
    simp only [upto, sumL_app, sumL]
    rw [Int.natCast_add, ih]
    by_cases c : p ((m : Int) + 1) = true
    · rw [if_pos c, if_pos c]; omega
    · rw [if_neg c, if_neg c]; omega
theorem ct_has {d : Int → Int} {T : List Int} (hD : DW d T) {q : Ky} (hq : KOk d q) : ctN (fun x => has d q x) 64 ≤ 6 := by
  have hl := kl_rng hD hq
  have h1 := hasN_sum (d := d) (q := q) (kl d q).toNat 63
  have h2 := ctN_sum (p := fun x => has d q x) 63
  have h3 : has d q 0 = false := by
    by_cases c : has d q 0 = true
    · have := has_rng hD hq c; omega
    · simpa using c
  rw [h3] at h2
  have h4 : sumL (fun x => if has d q x = true then (1 : Int) else 0) (upto 63) = sumL (fun x => if hasN d q x (kl d q).toNat = true then 1 else 0) (upto 63) := rfl
  simp only [Bool.false_eq_true, if_false] at h2
  show ctN (fun x => has d q x) (63 + 1) ≤ 6
  omega
theorem ctN_mono {p q : Int → Bool} (h : ∀ x : Int, p x = true → q x = true) : ∀ n : Nat, ctN p n ≤ ctN q n
  | 0 => Nat.le_refl _
  | n + 1 => by
    have ih := ctN_mono h n
    simp only [ctN]
    by_cases c : p (n : Int) = true
    · rw [if_pos c, if_pos (h _ c)]; omega
    · rw [if_neg c]; omega
theorem ctN_clr {p : Int → Bool} {m : Int} (h : p m = true) (h0 : 0 ≤ m) : ∀ n : Nat, ctN (fun x => p x && decide (x ≠ m)) n + (if m < n then 1 else 0) = ctN p n
  | 0 => by rw [if_neg (by omega)]; rfl
  | n + 1 => by
    have ih := ctN_clr h h0 n
    have key : ctN (fun x => p x && decide (x ≠ m)) (n + 1) = ctN (fun x => p x && decide (x ≠ m)) n + (if (p (n : Int) && decide ((n : Int) ≠ m)) = true then 1 else 0) := rfl
    have key2 : ctN p (n + 1) = ctN p n + (if p (n : Int) = true then 1 else 0) := rfl
    rw [key, key2]
    by_cases c : (n : Int) = m
    · have e : (p (n : Int) && decide ((n : Int) ≠ m)) = false := by simp [c]
      rw [if_neg (show ¬ m < (n : Int) by omega)] at ih
      rw [e, if_pos (show m < ((n + 1 : Nat) : Int) by omega), if_neg (show ¬ false = true by decide), c, if_pos h]
      omega
    · have e : (p (n : Int) && decide ((n : Int) ≠ m)) = p (n : Int) := by simp [c]
      rw [e]
      by_cases c2 : m < (n : Int)
      · rw [if_pos c2] at ih
        rw [if_pos (show m < ((n + 1 : Nat) : Int) by omega)]
        omega
      · rw [if_neg c2] at ih
        rw [if_neg (show ¬ m < ((n + 1 : Nat) : Int) by omega)]
        omega
theorem ct_none {p : Int → Bool} (h : ctN p 64 = 0) : bs p = zL 0 := by
  apply bs_eq0.mpr
  intro x h0 h1
  by_cases c : p x = true
  · have h9 := ctN_clr c h0 64
    rw [if_pos (by omega)] at h9
    omega
  · simpa using c
/-- what a solution weighs for a number and a colour -/
def gX (d : Int → Int) (T : List Int) (e : Int → Int) (x c : Int) (q : Ky) : Int := if has d q x = true then (if cAll d (uZ e x (c + 1)) q = -1 then 0 else wK d T q c) else 0
theorem gX_all {d e : Int → Int} {T : List Int} (hD : DW d T) {q : Ky} (hq : KOk d q) {c : Int} (hc : 0 ≤ c) (h : bs (fun y => has d q y) &&& (mk (d 0) e c ^^^ (-1)) = zL 0) (x : Int) : gX d T e x c q = if has d q x = true then wK d T q c else 0 := by
  unfold gX
  by_cases a : has d q x = true
  · rw [if_pos a, if_pos a]
    have hn := hD.n
    have h1 := (rest_all (e := e) hD hq a hc).mp (by
      rw [← h]
      unfold mk at h ⊢
      rw [h, bs_sub]
      intro y y0 y1 hy
      exact bs_sub.mp h y y0 y1 (by simp at hy; exact hy.1))
    rw [if_neg h1]
  · rw [if_neg a, if_neg a]
def mis (d e : Int → Int) (q : Ky) (c : Int) : Int → Bool := fun y => has d q y && !mkp (d 0) e c y
theorem mis_bs {d e : Int → Int} {q : Ky} {c : Int} : bs (fun y => has d q y) &&& (mk (d 0) e c ^^^ (-1)) = bs (mis d e q c) := by
  unfold mk mis
  rw [bs_not, bs_and]
theorem mis_rng {d e : Int → Int} {T : List Int} (hD : DW d T) {q : Ky} (hq : KOk d q) {c x : Int} (h : mis d e q c x = true) : 1 ≤ x ∧ x ≤ d 0 := by
  unfold mis at h
  rw [Bool.and_eq_true] at h
  exact has_rng hD hq h.1
/-- no colour for it: some other number has another one -/
theorem gX_no {d e : Int → Int} {T : List Int} (hD : DW d T) {q : Ky} (hq : KOk d q) {c x y : Int} (hc : 0 ≤ c) (hy : mis d e q c y = true) (hxy : y ≠ x) : gX d T e x c q = 0 := by
  have hr := mis_rng hD hq hy
  have hn := hD.n
  unfold gX
  by_cases a : has d q x = true
  · rw [if_pos a]
    by_cases z : cAll d (uZ e x (c + 1)) q = -1
    · rw [if_pos z]
    · have h1 := (rest_all (e := e) hD hq a hc).mpr z
      unfold mk at h1
      unfold mis at hy
      rw [Bool.and_eq_true] at hy
      have h2 := bs_sub.mp h1 y (by omega) (by omega) (by simp [hy.1, hxy])
      rw [h2] at hy
      exact absurd hy.2 (by decide)
  · rw [if_neg a]
theorem gX_one {d e : Int → Int} {T : List Int} (hD : DW d T) {q : Ky} (hq : KOk d q) {c m : Int} (hc : 0 ≤ c) (hl : Low (mis d e q c) m) (h : bs (mis d e q c) &&& (bs (mis d e q c) - zL 1) = zL 0) (x : Int) : gX d T e x c q = if mis d e q c x = true then wK d T q c else 0 := by
  have hn := hD.n
  rw [bs_clr hl] at h
  have h1 := bs_eq0.mp h
  have h2 : ∀ y : Int, mis d e q c y = true → y = m := by
    intro y hy
    have hr := mis_rng hD hq hy
    have := h1 y (by omega) (by omega)
    rw [hy] at this
    simpa using this
  by_cases a : mis d e q c x = true
  · rw [if_pos a]
    have e1 := h2 x a
    unfold gX
    have a1 : has d q x = true := by
      unfold mis at a
      rw [Bool.and_eq_true] at a
      exact a.1
    rw [if_pos a1]
    have h3 := (rest_all (e := e) (c := c) hD hq a1 hc).mp (by
      unfold mk
      rw [bs_sub]
      intro y _ _ hy
      rw [Bool.and_eq_true, decide_eq_true_eq] at hy
      by_cases g : mkp (d 0) e c y = true
      · exact g
      · exact absurd ((h2 y (by unfold mis; rw [hy.1]; simpa using g)).trans e1.symm) hy.2)
    rw [if_neg h3]
  · rw [if_neg a]
    exact gX_no hD hq hc hl.2.1 (fun e => a (e ▸ hl.2.1))
theorem gX_two {d e : Int → Int} {T : List Int} (hD : DW d T) {q : Ky} (hq : KOk d q) {c m : Int} (hc : 0 ≤ c) (hl : Low (mis d e q c) m) (h : ¬ bs (mis d e q c) &&& (bs (mis d e q c) - zL 1) = zL 0) (x : Int) : gX d T e x c q = 0 := by
  rw [bs_clr hl] at h
  by_cases a : x = m
  · obtain ⟨m2, h2⟩ := Low.of h
    have h3 := h2.2.1
    rw [Bool.and_eq_true, decide_eq_true_eq] at h3
    exact gX_no hD hq hc h3.1 (by rw [a]; exact h3.2)
  · exact gX_no hD hq hc hl.2.1 (fun e => a e.symm)
theorem wgtX_g {d e : Int → Int} {T : List Int} {x c : Int} : wgtX d T e x c = sumL (gX d T e x c) (KL d) := rfl
theorem bstC_s {d : Int → Int} {T : List Int} {da : Int → Int} {x now c : Int} {s : Int × Int × Int} (h : 0 ≤ c) : bstC d T da x now (c + 1).toNat s = if c = da (29 + x) - 1 then bstC d T da x now c.toNat s else if now - wgtX d T (cl da) x c ≤ (bstC d T da x now c.toNat s).1 then bstC d T da x now c.toNat s else (now - wgtX d T (cl da) x c, x, c) := by
  rw [show (c + 1).toNat = c.toNat + 1 by omega]
  simp only [bstC]
  rw [show ((c.toNat : Nat) : Int) = c by omega]
theorem bstX_s {d : Int → Int} {T : List Int} {da : Int → Int} {x : Int} (h : 1 ≤ x) : bstX d T da x.toNat = if da (29 + x) = 0 ∨ da (70 + x) = 1 then bstX d T da (x - 1).toNat else bstC d T da x (wgtX d T (cl da) x (da (29 + x) - 1)) (da 1).toNat (bstX d T da (x - 1).toNat) := by
  rw [show x.toNat = (x - 1).toNat + 1 by omega]
  simp only [bstX]
  rw [show (((x - 1).toNat : Nat) : Int) + 1 = x by omega]
theorem hd_X3_charge : yX3_charge.cls = RX3 ∧ yX3_charge.cls ≠ "java/lang/invoke/MethodHandle" ∧ yX3_charge.cls ≠ "java/lang/invoke/VarHandle" ∧ (parseMethodDescriptor yX3_charge.desc).map (fun d => d.parameters.length) = some 3 := by decide +kernel
theorem fl_X3_charge_22 : Cond.fieldLink RX3 22 (TX3 3).1 (TX3 3).2.1 (TX3 3).2.2.1 ∈ wsX3_charge := List.mem_of_getElem? (i := 1) rfl
theorem inn_X3_charge_3 : ∀ w ∈ wsX30, w ∈ wsX3_charge := fun _ h => List.mem_cons_of_mem _ (List.mem_append_right _ h)
abbrev rm_X3_charge : Room := { frames := 2, cells := 0, slots := 0, locals := 42 }
set_option maxHeartbeats 1200000 in
set_option maxRecDepth 100000 in
theorem k_X3_charge (l : Launch) {G : va_G} {cy : Nat → ClassId} {ws0 : va_W} {q6 arp ach : Nat} {gn nu co : Int} {ch : Int → Int} (pp : Int → Bool) (c9 w9 : Int) (h_rp : ws0[q6]? = some (arp, .inr (3, [.int (zI gn), .int (zI nu), .int (zI co), .ref ach]))) (h_ch : ws0[q6 + 1]? = some (ach, aI cy 164 ch)) (hp : ∀ x : Int, 0 ≤ x → x < 64 → pp x = true → 1 ≤ x ∧ x ≤ 40) (hct : ctN pp 64 ≤ 6) (hc9 : 0 ≤ c9 ∧ c9 < 4) : MV l yX3_charge wsX3_charge rm_X3_charge G cy [.ref arp, .long (bs pp), .int (zI c9), .int (zI w9)] ws0 (fun u => ∃ ch2 : Int → Int, u[q6 + 1]? = some (ach, aI cy 164 ch2) ∧ (∀ x c : Int, 1 ≤ x → x ≤ 40 → 0 ≤ c → c < 4 → ch2 (4 * x + c) = ch (4 * x + c) + (if pp x = true ∧ c = c9 then w9 else 0)) ∧ Eqx ws0 u (fun j => j = q6 + 1)) := by
  refine MV.of (own := RX3) (cc := cX3_charge) (nL := 9) (ret := none) (by decide) rfl rfl (Nat.le_of_ble_eq_true rfl) ?_
  intro p e s m below meth c A ls hin E h hl
  have hl : lv_has ls 9 [(0, .ref arp), (1, .long (bs pp)), (3, .int (zI c9)), (4, .int (zI w9))] := hl
  have hE : Eqx ws0 ws0 (fun j => j = q6 + 1) := Eqx.rf
  refine r_lload_n E 1 hl rfl dX3_charge_0 ?_
  refine r_lstore (lv' := [(5, .long (bs pp)), (0, .ref arp), (1, .long (bs pp)), (3, .int (zI c9)), (4, .int (zI w9))]) E hl dX3_charge_1 (by decide) rfl (fun ls hl => ?_)
  refine r_iconst E dX3_charge_3 ?_
  refine r_istore (lv' := [(7, .int (zI 0)), (5, .long (bs pp)), (0, .ref arp), (1, .long (bs pp)), (3, .int (zI c9)), (4, .int (zI w9))]) E hl dX3_charge_4 (by decide) rfl (fun ls hl => ?_)
  refine r_loop (fun n H locs ls => ∃ (ws : va_W) (i : Int) (pr : Int → Bool) (ch2 : Int → Int), n = (6 - i).toNat ∧ (0 ≤ i ∧ i ≤ 6) ∧ ((ctN pr 64 : Int) + i ≤ 6) ∧ (∀ x : Int, pr x = true → pp x = true) ∧ (∀ x c : Int, 1 ≤ x → x ≤ 40 → 0 ≤ c → c < 4 → ch2 (4 * x + c) = ch (4 * x + c) + (if (pp x = true ∧ pr x = false) ∧ c = c9 then w9 else 0)) ∧ Hp G ws A s.heap H locs ∧ (ws[q6]? = some (arp, .inr (3, [.int (zI gn), .int (zI nu), .int (zI co), .ref ach]))) ∧ (ws[q6 + 1]? = some (ach, aI cy 164 ch2)) ∧ Eqx ws0 ws (fun j => j = q6 + 1) ∧ lv_has ls 9 [(0, .ref arp), (1, .long (bs pp)), (3, .int (zI c9)), (4, .int (zI w9)), (5, .long (bs pr)), (7, .int (zI i))]) _ ⟨ws0, 0, pp, ch, rfl, (by omega), (by omega), (fun _ hh => hh), (fun x c _ _ _ _ => by
      by_cases q : pp x = true
      · simp [q]
      · simp [q]), h, h_rp, h_ch, hE, lv_sub hl [2, 3, 4, 5, 1, 0] rfl⟩ ?_
  rintro n H locs ls ⟨ws, i, pr, ch2, hn, i1, i2, i3, i4, h, h_rp, h_ch, hE, hl⟩ ih_6
  refine r_iload E 5 hl rfl dX3_charge_6 ?_
  refine r_bipush E dX3_charge_8 (by decide) ?_
  refine r_icmp_ge E 73 dX3_charge_10 (by decide) (by omega) (fun c_10 => ?_) (fun c_10 => ?_)
  · skip
    have hz := bs_eq0.mp (ct_none (p := pr) (by omega))
    exact r_vret E h ⟨ch2, h_ch, fun x c x0 x1 c0 c1 => by
  rw [i4 x c x0 x1 c0 c1]
  simp [hz x (by omega) (by omega)], hE⟩ dX3_charge_73
  · skip
    refine r_lload E 4 hl rfl dX3_charge_13 ?_
    refine r_lconst (v := zL 0) E dX3_charge_15 (by decide) ?_
    refine r_lcmpX E dX3_charge_16 (fun z_16 zb_16 ze_16 => ?_)
    refine r_if_eq E 73 dX3_charge_17 (by decide) (by omega) (fun c_17 => ?_) (fun c_17 => ?_)
    · skip
      have hz := bs_eq0.mp (ze_16.mp c_17)
      exact r_vret E h ⟨ch2, h_ch, fun x c x0 x1 c0 c1 => by
  rw [i4 x c x0 x1 c0 c1]
  simp [hz x (by omega) (by omega)], hE⟩ dX3_charge_73
    · skip
      obtain ⟨v, hl9⟩ := Low.of (p := pr) (fun hh => c_17 (ze_16.mpr hh))
      have hv := hp v hl9.1.1 hl9.1.2 (i3 v hl9.2.1)
      have hcl := ctN_clr hl9.2.1 hl9.1.1 64
      rw [if_pos (by omega)] at hcl
      refine r_lload E 4 hl rfl dX3_charge_20 ?_
      refine r_callSI E h (As := [.long (bs pr)]) (rest := []) (k_X8_firstNumber l pr v hl9) gX3_charge_X8_firstNumber rfl hd_X8_firstNumber (by decide) ⟨by decide, by decide⟩ hl.1 rfl (Nat.le_of_ble_eq_true rfl) dX3_charge_22 rfl (fun z_22 ws H locs hp h => ?_)
      obtain ⟨e_z_22, rfl⟩ := hp
      rw [e_z_22]
      skip
      refine r_iconst E dX3_charge_25 ?_
      refine r_imul E dX3_charge_26 ?_
      refine r_iload_n E 2 hl rfl dX3_charge_27 ?_
      refine r_iadd E dX3_charge_28 ?_
      refine r_istore (lv' := [(8, .int (zI ((v * 4) + c9))), (0, .ref arp), (1, .long (bs pp)), (3, .int (zI c9)), (4, .int (zI w9)), (5, .long (bs pr)), (7, .int (zI i))]) E hl dX3_charge_29 (by decide) rfl (fun ls hl => ?_)
      refine r_iload E 0 hl rfl dX3_charge_31 ?_
      refine r_if_lt E 58 dX3_charge_33 (by decide) (by omega) (fun c_33 => ?_) (fun c_33 => ?_)
      · skip
        exfalso; omega
      · skip
        refine r_iload E 0 hl rfl dX3_charge_36 ?_
        refine r_aload_n E 1 hl rfl dX3_charge_38 ?_
        refine r_get (v := .ref ach) E h h_rp rfl inn_X3_charge_3 3 (by decide) fl_X3_charge_22 rfl dX3_charge_39 ?_
        refine r_alen E h rfl h_ch (v := 164) rfl dX3_charge_42 ?_
        refine r_icmp_ge E 58 dX3_charge_43 (by decide) (by omega) (fun c_43 => ?_) (fun c_43 => ?_)
        · skip
          exfalso; omega
        · skip
          refine r_aload_n E 1 hl rfl dX3_charge_46 ?_
          refine r_get (v := .ref ach) E h h_rp rfl inn_X3_charge_3 3 (by decide) fl_X3_charge_22 rfl dX3_charge_47 ?_
          refine r_iload E 0 hl rfl dX3_charge_50 ?_
          refine r_dup2 E dX3_charge_52 rfl rfl ?_
          refine r_iald E h h_ch (by omega) (by decide) dX3_charge_53 ?_
          refine r_iload E 4 hl rfl dX3_charge_54 ?_
          refine r_iadd E dX3_charge_56 ?_
          refine r_iast E h h_ch (by omega) (by decide) dX3_charge_57 (fun ws H locs h hu => ?_)
          have h_rp := hu.keep h_rp (by omega)
          have h_ch : ws[q6 + 1]? = some (ach, aI cy 164 (uZ ch2 ((v * 4) + c9) ((ch2 ((v * 4) + c9)) + w9))) := hu.1
          have hE := hE.tr (hu.eqx (by first | omega | (dsimp only <;> omega)))
          refine r_lload E 5 hl rfl dX3_charge_58 ?_
          refine r_lload E 5 hl rfl dX3_charge_60 ?_
          refine r_lconst (v := zL 1) E dX3_charge_62 (by decide) ?_
          refine r_lsubX E dX3_charge_63 ?_
          refine r_land E dX3_charge_64 ?_
          rw [show ((bs pr) &&& ((bs pr) - (zL 1))) = bs (fun x => pr x && decide (x ≠ v)) from (bs_clr hl9)]
          skip
          refine r_lstore (lv' := [(5, .long (bs (fun x => pr x && decide (x ≠ v)))), (8, .int (zI ((v * 4) + c9))), (0, .ref arp), (1, .long (bs pp)), (3, .int (zI c9)), (4, .int (zI w9)), (7, .int (zI i))]) E hl dX3_charge_65 (by decide) rfl (fun ls hl => ?_)
          refine r_iinc (lv' := [(7, .int (zI (i + 1))), (5, .long (bs (fun x => pr x && decide (x ≠ v)))), (8, .int (zI ((v * 4) + c9))), (0, .ref arp), (1, .long (bs pp)), (3, .int (zI c9)), (4, .int (zI w9))]) E 6 hl rfl dX3_charge_67 (by decide) rfl (fun ls hl => ?_)
          refine r_goto E 6 dX3_charge_70 (by decide) ?_
          exact ih_6 _ H locs ls (by omega) ⟨ws, (i + 1), ((fun x => pr x && decide (x ≠ v))), (uZ ch2 ((v * 4) + c9) ((ch2 ((v * 4) + c9)) + w9)), rfl, (by omega), (by omega), (fun x hh => i3 x (by rw [Bool.and_eq_true] at hh; exact hh.1)), (fun x c x0 x1 c0 c1 => by
      have h4 := i4 x c x0 x1 c0 c1
      by_cases q : 4 * x + c = v * 4 + c9
      · have e1 : x = v := by omega
        have e2 : c = c9 := by omega
        rw [q, uZ_s, ← q, h4]
        subst e1 e2
        simp [hl9.2.1, i3 x hl9.2.1]
      · rw [uZ_n q, h4]
        congr 1
        by_cases e1 : x = v
        · have e2 : ¬ c = c9 := by omega
          simp [e2]
        · simp [e1]), h, h_rp, h_ch, hE, lv_sub hl [3, 4, 5, 6, 1, 0] rfl⟩
theorem hd_X3_chargeOf : yX3_chargeOf.cls = RX3 ∧ yX3_chargeOf.cls ≠ "java/lang/invoke/MethodHandle" ∧ yX3_chargeOf.cls ≠ "java/lang/invoke/VarHandle" ∧ (parseMethodDescriptor yX3_chargeOf.desc).map (fun d => d.parameters.length) = some 2 := by decide +kernel
theorem fl_X3_chargeOf_22 : Cond.fieldLink RX3 22 (TX3 3).1 (TX3 3).2.1 (TX3 3).2.2.1 ∈ wsX3_chargeOf := List.mem_of_getElem? (i := 1) rfl
theorem inn_X3_chargeOf_3 : ∀ w ∈ wsX30, w ∈ wsX3_chargeOf := fun _ h => List.mem_cons_of_mem _ (List.mem_append_right _ h)
abbrev rm_X3_chargeOf : Room := { frames := 0, cells := 0, slots := 0, locals := 0 }
set_option maxHeartbeats 1200000 in
set_option maxRecDepth 100000 in
theorem k_X3_chargeOf (l : Launch) {G : va_G} {cy : Nat → ClassId} {ws0 : va_W} {q6 arp ach : Nat} {gn nu co : Int} {ch : Int → Int} (x c8 : Int) (h_rp : ws0[q6]? = some (arp, .inr (3, [.int (zI gn), .int (zI nu), .int (zI co), .ref ach]))) (h_ch : ws0[q6 + 1]? = some (ach, aI cy 164 ch)) (hx : 1 ≤ x ∧ x ≤ 40) (hc : 0 ≤ c8 ∧ c8 < 4) : MI l yX3_chargeOf wsX3_chargeOf rm_X3_chargeOf G cy [.ref arp, .int (zI x), .int (zI c8)] ws0 (fun z u => z = ch (4 * x + c8) ∧ ws0 = u) := by
  refine MI.of (own := RX3) (cc := cX3_chargeOf) (nL := 4) (ret := (some .int)) (by decide) rfl rfl (Nat.le_of_ble_eq_true rfl) ?_
  intro p e s m below meth c A ls E h hl
  have hl : lv_has ls 4 [(0, .ref arp), (1, .int (zI x)), (2, .int (zI c8))] := hl
  refine r_iload_n E 1 hl rfl dX3_chargeOf_0 ?_
  refine r_iconst E dX3_chargeOf_1 ?_
  refine r_imul E dX3_chargeOf_2 ?_
  refine r_iload_n E 2 hl rfl dX3_chargeOf_3 ?_
  refine r_iadd E dX3_chargeOf_4 ?_
  refine r_istore_n (lv' := [(3, .int (zI ((x * 4) + c8))), (0, .ref arp), (1, .int (zI x)), (2, .int (zI c8))]) E hl dX3_chargeOf_5 rfl (by decide) rfl (fun ls hl => ?_)
  refine r_iload_n E 0 hl rfl dX3_chargeOf_6 ?_
  refine r_if_lt E 28 dX3_chargeOf_7 (by decide) (by omega) (fun c_7 => ?_) (fun c_7 => ?_)
  · skip
    exfalso; omega
  · skip
    refine r_iload_n E 0 hl rfl dX3_chargeOf_10 ?_
    refine r_aload_n E 1 hl rfl dX3_chargeOf_11 ?_
    refine r_get (v := .ref ach) E h h_rp rfl inn_X3_chargeOf_3 3 (by decide) fl_X3_chargeOf_22 rfl dX3_chargeOf_12 ?_
    refine r_alen E h rfl h_ch (v := 164) rfl dX3_chargeOf_15 ?_
    refine r_icmp_ge E 28 dX3_chargeOf_16 (by decide) (by omega) (fun c_16 => ?_) (fun c_16 => ?_)
    · skip
      exfalso; omega
    · skip
      refine r_aload_n E 1 hl rfl dX3_chargeOf_19 ?_
      refine r_get (v := .ref ach) E h h_rp rfl inn_X3_chargeOf_3 3 (by decide) fl_X3_chargeOf_22 rfl dX3_chargeOf_20 ?_
      refine r_iload_n E 0 hl rfl dX3_chargeOf_23 ?_
      refine r_iald E h h_ch (by omega) (by decide) dX3_chargeOf_24 ?_
      refine r_goto E 29 dX3_chargeOf_25 (by decide) ?_
      exact r_iret E h ⟨by rw [show x * 4 + c8 = 4 * x + c8 by omega], rfl⟩ dX3_chargeOf_29
theorem hd_X3_fillCharges : yX3_fillCharges.cls = RX3 ∧ yX3_fillCharges.cls ≠ "java/lang/invoke/MethodHandle" ∧ yX3_fillCharges.cls ≠ "java/lang/invoke/VarHandle" ∧ (parseMethodDescriptor yX3_fillCharges.desc).map (fun d => d.parameters.length) = some 3 := by decide +kernel
theorem fl_X3_fillCharges_22 : Cond.fieldLink RX3 22 (TX3 3).1 (TX3 3).2.1 (TX3 3).2.2.1 ∈ wsX3_fillCharges := List.mem_of_getElem? (i := 1) rfl
theorem inn_X3_fillCharges_3 : ∀ w ∈ wsX30, w ∈ wsX3_fillCharges := fun _ h => List.mem_cons_of_mem _ (List.mem_append_left _ (List.mem_append_left _ (List.mem_append_left _ (List.mem_append_right _ h))))
theorem fl_X3_fillCharges_45 : Cond.fieldLink RX3 45 (TX6 1).1 (TX6 1).2.1 (TX6 1).2.2.1 ∈ wsX3_fillCharges := List.mem_of_getElem? (i := 2) rfl
theorem inn_X3_fillCharges_6 : ∀ w ∈ wsX60, w ∈ wsX3_fillCharges := fun _ h => List.mem_cons_of_mem _ (List.mem_append_left _ (List.mem_append_left _ (List.mem_append_right _ h)))
abbrev rm_X3_fillCharges : Room := { frames := 3, cells := 0, slots := 0, locals := 70 }
set_option maxHeartbeats 1200000 in
set_option maxRecDepth 100000 in
theorem k_X3_fillCharges (l : Launch) {G : va_G} {cy : Nat → ClassId} {ws0 : va_W} {q6 arp ach : Nat} {gn nu co : Int} {ch : Int → Int} {qs asu ar9 af9 : Nat} {q a ase awr art awt are ars : Nat} {se re : Int → Int64} {wr rt wt rs : Int → Int} {sz riw : Int} {q2 a2 ap2 : Nat} {ce f : Int → Int} {d : Int → Int} {T : List Int} (h_rp : ws0[q6]? = some (arp, .inr (3, [.int (zI gn), .int (zI nu), .int (zI co), .ref ach]))) (h_ch : ws0[q6 + 1]? = some (ach, aI cy 164 ch)) (h_su : ws0[qs]? = some (asu, .inr (6, [.int (zI (d 0)), .int (zI (d 1)), .ref ar9, .ref af9]))) (h_tb : ws0[q]? = some (a, .inr (8, [.ref ase, .ref awr, .int (zI sz), .ref art, .int (zI riw), .ref awt, .ref are, .ref ars]))) (h_se : ws0[q + 1]? = some (ase, aL cy 6400 se)) (h_wr : ws0[q + 2]? = some (awr, aI cy 6400 wr)) (h_wt : ws0[q + 4]? = some (awt, aI cy 656 wt)) (h_co : ws0[q2]? = some (a2, .inr (0, [.ref ap2, .long (fmk (d 0) f)]))) (h_cop : ws0[q2 + 1]? = some (ap2, aL cy 4 (mk (d 0) ce))) (hq2 : q2 + 2 ≤ q6 ∨ q6 + 2 ≤ q2) (hqt : q + 7 ≤ q6 ∨ q6 + 2 ≤ q) (hqs : qs < q6 ∨ q6 + 2 ≤ qs) (hD : DW d T) (hT : TW d T se wr rt wt re rs sz) (he : ∀ x : Int, 1 ≤ x → x ≤ d 0 → 0 ≤ ce x ∧ ce x ≤ d 1) : MV l yX3_fillCharges wsX3_fillCharges rm_X3_fillCharges G cy [.ref arp, .ref asu, .ref a, .ref a2] ws0 (fun u => ∃ ch2 : Int → Int, u[q6 + 1]? = some (ach, aI cy 164 ch2) ∧ (∀ x c : Int, 1 ≤ x → x ≤ 40 → 0 ≤ c → c < d 1 → ch2 (4 * x + c) = wgtX d T ce x c) ∧ Eqx ws0 u (fun j => j = q6 + 1)) := by
  refine MV.of (own := RX3) (cc := cX3_fillCharges) (nL := 10) (ret := none) (by decide) rfl rfl (Nat.le_of_ble_eq_true rfl) ?_
  intro p e s m below meth c A ls hin E h hl
  have hl : lv_has ls 10 [(0, .ref arp), (1, .ref asu), (2, .ref a), (3, .ref a2)] := hl
  have hE : Eqx ws0 ws0 (fun j => j = q6 + 1) := Eqx.rf
  have hsz := hT.1
  have hlen := KL_len hD
  have hkk := hD.k
  have hn9 := hD.n
  refine r_aload_n E 0 hl rfl dX3_fillCharges_0 ?_
  refine r_get (v := .ref ach) E h h_rp rfl inn_X3_fillCharges_3 3 (by decide) fl_X3_fillCharges_22 rfl dX3_fillCharges_1 ?_
  refine r_iconst E dX3_fillCharges_4 ?_
  refine r_callSV E h (As := [.ref ach, .int (zI 0)]) (rest := []) (k_J7_fill_53178 l 0 h_ch (by omega)) gX3_fillCharges_J7_fill_53178 rfl hd_J7_fill_53178 (by decide) ⟨by decide, by decide⟩ hl.1 rfl (Nat.le_of_ble_eq_true rfl) dX3_fillCharges_5 rfl (fun ws H locs hp h => ?_)
  obtain ⟨h_ch, hf⟩ := hp
  have h_rp := hf.at h_rp (by first | omega | (dsimp only <;> omega))
  have h_su := hf.at h_su (by first | omega | (dsimp only <;> omega))
  have h_tb := hf.at h_tb (by first | omega | (dsimp only <;> omega))
  have h_se := hf.at h_se (by first | omega | (dsimp only <;> omega))
  have h_wr := hf.at h_wr (by first | omega | (dsimp only <;> omega))
  have h_wt := hf.at h_wt (by first | omega | (dsimp only <;> omega))
  have h_co := hf.at h_co (by first | omega | (dsimp only <;> omega))
  have h_cop := hf.at h_cop (by first | omega | (dsimp only <;> omega))
  have hE := hE.tr (hf.wk (fun j hj => by first | omega | (dsimp only at hj ⊢ <;> omega)))
  refine r_iconst E dX3_fillCharges_8 ?_
  refine r_istore (lv' := [(4, .int (zI 0)), (0, .ref arp), (1, .ref asu), (2, .ref a), (3, .ref a2)]) E hl dX3_fillCharges_9 (by decide) rfl (fun ls hl => ?_)
  refine r_loop (fun n H locs ls => ∃ (ws : va_W) (c9 : Int) (chA : Int → Int), n = (d 1 - c9).toNat ∧ (0 ≤ c9 ∧ c9 ≤ d 1) ∧ (∀ x c : Int, 1 ≤ x → x ≤ 40 → 0 ≤ c → c < 4 → chA (4 * x + c) = if c < c9 then sumL (gX d T ce x c) (KL d) else 0) ∧ Hp G ws A s.heap H locs ∧ (ws[q6]? = some (arp, .inr (3, [.int (zI gn), .int (zI nu), .int (zI co), .ref ach]))) ∧ (ws[q6 + 1]? = some (ach, aI cy 164 chA)) ∧ (ws[qs]? = some (asu, .inr (6, [.int (zI (d 0)), .int (zI (d 1)), .ref ar9, .ref af9]))) ∧ (ws[q]? = some (a, .inr (8, [.ref ase, .ref awr, .int (zI sz), .ref art, .int (zI riw), .ref awt, .ref are, .ref ars]))) ∧ (ws[q + 1]? = some (ase, aL cy 6400 se)) ∧ (ws[q + 2]? = some (awr, aI cy 6400 wr)) ∧ (ws[q + 4]? = some (awt, aI cy 656 wt)) ∧ (ws[q2]? = some (a2, .inr (0, [.ref ap2, .long (fmk (d 0) f)]))) ∧ (ws[q2 + 1]? = some (ap2, aL cy 4 (mk (d 0) ce))) ∧ Eqx ws0 ws (fun j => j = q6 + 1) ∧ lv_has ls 10 [(0, .ref arp), (1, .ref asu), (2, .ref a), (3, .ref a2), (4, .int (zI c9))]) _ ⟨ws, 0, ((fun _ => 0)), rfl, (by omega), (fun x c _ _ c0 _ => by rw [if_neg (by omega)]), h, h_rp, h_ch, h_su, h_tb, h_se, h_wr, h_wt, h_co, h_cop, hE, lv_sub hl [1, 2, 3, 4, 0] rfl⟩ ?_
  rintro n H locs ls ⟨ws, c9, chA, hn, j1, j2, h, h_rp, h_ch, h_su, h_tb, h_se, h_wr, h_wt, h_co, h_cop, hE, hl⟩ ih_11
  refine r_iload E 4 hl rfl dX3_fillCharges_11 ?_
  refine r_aload_n E 1 hl rfl dX3_fillCharges_13 ?_
  refine r_get (v := .int (zI (d 1))) E h h_su rfl inn_X3_fillCharges_6 1 (by decide) fl_X3_fillCharges_45 rfl dX3_fillCharges_14 ?_
  refine r_icmp_ge E 125 dX3_fillCharges_17 (by decide) (by omega) (fun c_17 => ?_) (fun c_17 => ?_)
  · skip
    exact r_vret E h ⟨chA, h_ch, fun x c x0 x1 c0 c1 => by rw [j2 x c x0 x1 c0 (by omega), if_pos (by omega)]; exact wgtX_g.symm, hE⟩ dX3_fillCharges_125
  · skip
    refine r_aload_n E 3 hl rfl dX3_fillCharges_20 ?_
    refine r_iload E 4 hl rfl dX3_fillCharges_21 ?_
    refine r_callVL E h (As := [.int (zI c9)]) (rest := []) (k_X0_numbersWith l c9 h_co h_cop (by omega)) h_co rfl gX3_fillCharges_X0_numbersWith rfl hd_X0_numbersWith (by decide) ⟨by decide, by decide⟩ hl.1 rfl (Nat.le_of_ble_eq_true rfl) dX3_fillCharges_23 rfl (fun z_23 ws H locs hp h => ?_)
    obtain ⟨rfl, rfl⟩ := hp
    refine r_ldc2 E (v := (-1)) (List.mem_of_getElem? (i := 3) rfl) dX3_fillCharges_26 ?_
    refine r_lxor E dX3_fillCharges_29 ?_
    refine r_lstore (lv' := [(5, .long ((mk (d 0) ce c9) ^^^ ((-1)))), (0, .ref arp), (1, .ref asu), (2, .ref a), (3, .ref a2), (4, .int (zI c9))]) E hl dX3_fillCharges_30 (by decide) rfl (fun ls hl => ?_)
    refine r_iconst E dX3_fillCharges_32 ?_
    refine r_istore (lv' := [(7, .int (zI 0)), (5, .long ((mk (d 0) ce c9) ^^^ ((-1)))), (0, .ref arp), (1, .ref asu), (2, .ref a), (3, .ref a2), (4, .int (zI c9))]) E hl dX3_fillCharges_33 (by decide) rfl (fun ls hl => ?_)
    refine r_loop (fun n H locs ls => ∃ (ws : va_W) (k : Int) (chB : Int → Int), n = (6400 - k).toNat ∧ (0 ≤ k ∧ k ≤ (KL d).length) ∧ (∀ x c : Int, 1 ≤ x → x ≤ 40 → 0 ≤ c → c < 4 → chB (4 * x + c) = (if c < c9 then sumL (gX d T ce x c) (KL d) else if c = c9 then sumL (gX d T ce x c) ((KL d).take k.toNat) else 0)) ∧ Hp G ws A s.heap H locs ∧ (ws[q6]? = some (arp, .inr (3, [.int (zI gn), .int (zI nu), .int (zI co), .ref ach]))) ∧ (ws[q6 + 1]? = some (ach, aI cy 164 chB)) ∧ (ws[qs]? = some (asu, .inr (6, [.int (zI (d 0)), .int (zI (d 1)), .ref ar9, .ref af9]))) ∧ (ws[q]? = some (a, .inr (8, [.ref ase, .ref awr, .int (zI sz), .ref art, .int (zI riw), .ref awt, .ref are, .ref ars]))) ∧ (ws[q + 1]? = some (ase, aL cy 6400 se)) ∧ (ws[q + 2]? = some (awr, aI cy 6400 wr)) ∧ (ws[q + 4]? = some (awt, aI cy 656 wt)) ∧ (ws[q2]? = some (a2, .inr (0, [.ref ap2, .long (fmk (d 0) f)]))) ∧ (ws[q2 + 1]? = some (ap2, aL cy 4 (mk (d 0) ce))) ∧ Eqx ws0 ws (fun j => j = q6 + 1) ∧ lv_has ls 10 [(0, .ref arp), (1, .ref asu), (2, .ref a), (3, .ref a2), (4, .int (zI c9)), (5, .long ((mk (d 0) ce c9) ^^^ ((-1)))), (7, .int (zI k))]) _ ⟨ws, 0, chA, rfl, (by omega), (fun x c x0 x1 c0 c1 => by
      rw [j2 x c x0 x1 c0 c1]
      by_cases q : c < c9
      · rw [if_pos q, if_pos q]
      · rw [if_neg q, if_neg q]
        by_cases q2 : c = c9
        · rw [if_pos q2]; rfl
        · rw [if_neg q2]), h, h_rp, h_ch, h_su, h_tb, h_se, h_wr, h_wt, h_co, h_cop, hE, lv_sub hl [2, 3, 4, 5, 6, 1, 0] rfl⟩ ?_
    rintro n H locs ls ⟨ws, k, chB, hn, i1, i7, h, h_rp, h_ch, h_su, h_tb, h_se, h_wr, h_wt, h_co, h_cop, hE, hl⟩ ih_35
    refine r_iload E 6 hl rfl dX3_fillCharges_35 ?_
    refine r_aload_n E 2 hl rfl dX3_fillCharges_37 ?_
    refine r_callVI E h (As := []) (rest := [.int (zI k)]) (k_X8_size l h_tb) h_tb rfl gX3_fillCharges_X8_size rfl hd_X8_size (by decide) ⟨by decide, by decide⟩ hl.1 rfl (Nat.le_of_ble_eq_true rfl) dX3_fillCharges_38 rfl (fun z_38 ws H locs hp h => ?_)
    obtain ⟨rfl, rfl⟩ := hp
    refine r_icmp_ge E 119 dX3_fillCharges_41 (by decide) (by omega) (fun c_41 => ?_) (fun c_41 => ?_)
    · skip
      refine r_iinc (lv' := [(4, .int (zI (c9 + 1))), (0, .ref arp), (1, .ref asu), (2, .ref a), (3, .ref a2), (5, .long ((mk (d 0) ce c9) ^^^ ((-1)))), (7, .int (zI k))]) E 4 hl rfl dX3_fillCharges_119 (by decide) rfl (fun ls hl => ?_)
      refine r_goto E 11 dX3_fillCharges_122 (by decide) ?_
      exact ih_11 _ H locs ls (by omega) ⟨ws, (c9 + 1), chB, rfl, (by omega), (fun x c x0 x1 c0 c1 => by
      rw [i7 x c x0 x1 c0 c1]
      by_cases q : c < c9
      · rw [if_pos q, if_pos (by omega)]
      · rw [if_neg q]
        by_cases q2 : c = c9
        · rw [if_pos q2, if_pos (by omega), List.take_of_length_le (by omega)]
        · rw [if_neg q2, if_neg (by omega)]), h, h_rp, h_ch, h_su, h_tb, h_se, h_wr, h_wt, h_co, h_cop, hE, lv_sub hl [1, 2, 3, 4, 0] rfl⟩
    · skip
      obtain ⟨q9, hk9⟩ : ∃ q, (KL d)[Int.toNat k]? = some q := ⟨_, List.getElem?_eq_getElem (by omega)⟩
      have hq9 := KL_at hD hk9
      have hnk : ((Int.toNat k : Nat) : Int) = k := by omega
      have hct := ct_has hD hq9
      have e9 := fun (x c : Int) => sumL_take (f := gX d T ce x c) hk9
      rw [show k.toNat + 1 = (k + 1).toNat by omega] at e9
      skip
      refine r_aload_n E 2 hl rfl dX3_fillCharges_44 ?_
      refine r_iload E 6 hl rfl dX3_fillCharges_45 ?_
      refine r_callVL E h (As := [.int (zI k)]) (rest := []) (k_X8_setOf l k q9 h_tb h_se hD hT (by omega) hk9) h_tb rfl gX3_fillCharges_X8_setOf rfl hd_X8_setOf (by decide) ⟨by decide, by decide⟩ hl.1 rfl (Nat.le_of_ble_eq_true rfl) dX3_fillCharges_47 rfl (fun z_47 ws H locs hp h => ?_)
      obtain ⟨rfl, rfl⟩ := hp
      refine r_lload E 5 hl rfl dX3_fillCharges_50 ?_
      refine r_land E dX3_fillCharges_52 ?_
      rw [show ((bs (fun x => has d q9 x)) &&& ((mk (d 0) ce c9) ^^^ ((-1)))) = bs (mis d ce q9 c9) from mis_bs]
      skip
      refine r_lstore (lv' := [(8, .long (bs (mis d ce q9 c9))), (0, .ref arp), (1, .ref asu), (2, .ref a), (3, .ref a2), (4, .int (zI c9)), (5, .long ((mk (d 0) ce c9) ^^^ ((-1)))), (7, .int (zI k))]) E hl dX3_fillCharges_53 (by decide) rfl (fun ls hl => ?_)
      refine r_lload E 0 hl rfl dX3_fillCharges_55 ?_
      refine r_lconst (v := zL 0) E dX3_fillCharges_57 (by decide) ?_
      refine r_lcmpX E dX3_fillCharges_58 (fun z_58 zb_58 ze_58 => ?_)
      refine r_if_ne E 85 dX3_fillCharges_59 (by decide) (by omega) (fun c_59 => ?_) (fun c_59 => ?_)
      · skip
        obtain ⟨v9, hl9⟩ := Low.of (p := mis d ce q9 c9) (fun hh => c_59 (ze_58.mpr hh))
        refine r_lload E 0 hl rfl dX3_fillCharges_85 ?_
        refine r_lload E 0 hl rfl dX3_fillCharges_87 ?_
        refine r_lconst (v := zL 1) E dX3_fillCharges_89 (by decide) ?_
        refine r_lsubX E dX3_fillCharges_90 ?_
        refine r_land E dX3_fillCharges_91 ?_
        refine r_lconst (v := zL 0) E dX3_fillCharges_92 (by decide) ?_
        refine r_lcmpX E dX3_fillCharges_93 (fun z_93 zb_93 ze_93 => ?_)
        refine r_if_ne E 113 dX3_fillCharges_94 (by decide) (by omega) (fun c_94 => ?_) (fun c_94 => ?_)
        · skip
          have hg := gX_two (T := T) hD hq9 (by omega) hl9 (fun hh => c_94 (ze_93.mpr hh))
          refine r_iinc (lv' := [(7, .int (zI (k + 1))), (8, .long (bs (mis d ce q9 c9))), (0, .ref arp), (1, .ref asu), (2, .ref a), (3, .ref a2), (4, .int (zI c9)), (5, .long ((mk (d 0) ce c9) ^^^ ((-1))))]) E 7 hl rfl dX3_fillCharges_113 (by decide) rfl (fun ls hl => ?_)
          refine r_goto E 35 dX3_fillCharges_116 (by decide) ?_
          exact ih_35 _ H locs ls (by omega) ⟨ws, (k + 1), chB, rfl, (by omega), (fun x c x0 x1 c0 c1 => by
        have h9 := i7 x c x0 x1 c0 c1
        have h8 := e9 x c
        rw [h9]
        by_cases q : c < c9
        · rw [if_pos q, if_pos q]
        · rw [if_neg q, if_neg q]
          by_cases q2 : c = c9
          · rw [if_pos q2, if_pos q2, h8, q2, hg x]; omega
          · rw [if_neg q2, if_neg q2]), h, h_rp, h_ch, h_su, h_tb, h_se, h_wr, h_wt, h_co, h_cop, hE, lv_sub hl [2, 3, 4, 5, 6, 7, 0] rfl⟩
        · skip
          have hg := gX_one (T := T) hD hq9 (by omega) hl9 (ze_93.mp c_94)
          refine r_aload_n E 1 hl rfl dX3_fillCharges_97 ?_
          refine r_lload E 0 hl rfl dX3_fillCharges_98 ?_
          refine r_iload E 5 hl rfl dX3_fillCharges_100 ?_
          refine r_aload_n E 3 hl rfl dX3_fillCharges_102 ?_
          refine r_iload E 7 hl rfl dX3_fillCharges_103 ?_
          refine r_iload E 5 hl rfl dX3_fillCharges_105 ?_
          refine r_callVI E h (As := [.int (zI k), .int (zI c9)]) (rest := [.int (zI c9), .long (bs (mis d ce q9 c9)), .ref arp]) (k_X8_weightOf l k q9 c9 h_tb h_wr h_wt hD hT (by omega) hk9 (by omega)) h_tb rfl gX3_fillCharges_X8_weightOf rfl hd_X8_weightOf (by decide) ⟨by decide, by decide⟩ hl.1 rfl (Nat.le_of_ble_eq_true rfl) dX3_fillCharges_107 rfl (fun z_107 ws H locs hp h => ?_)
          obtain ⟨rfl, rfl⟩ := hp
          refine r_callVV E h (As := [.long (bs (mis d ce q9 c9)), .int (zI c9), .int (zI (wK d T q9 c9))]) (rest := []) (k_X3_charge l (mis d ce q9 c9) c9 (wK d T q9 c9) h_rp h_ch (fun x x0 x1 hx => by have := mis_rng hD hq9 hx; omega) (Nat.le_trans (ctN_mono (fun x hx => by unfold mis at hx; rw [Bool.and_eq_true] at hx; exact hx.1) 64) hct) (by omega)) h_rp rfl gX3_fillCharges_X3_charge rfl hd_X3_charge (by decide) ⟨by decide, by decide⟩ hl.1 rfl (Nat.le_of_ble_eq_true rfl) dX3_fillCharges_110 rfl (fun ws H locs hp h => ?_)
          obtain ⟨ch_110, h_ch, e_110, hf⟩ := hp
          have h_rp := hf.at h_rp (by first | omega | (dsimp only <;> omega))
          have h_su := hf.at h_su (by first | omega | (dsimp only <;> omega))
          have h_tb := hf.at h_tb (by first | omega | (dsimp only <;> omega))
          have h_se := hf.at h_se (by first | omega | (dsimp only <;> omega))
          have h_wr := hf.at h_wr (by first | omega | (dsimp only <;> omega))
          have h_wt := hf.at h_wt (by first | omega | (dsimp only <;> omega))
          have h_co := hf.at h_co (by first | omega | (dsimp only <;> omega))
          have h_cop := hf.at h_cop (by first | omega | (dsimp only <;> omega))
          have hE := hE.tr (hf.wk (fun j hj => by first | omega | (dsimp only at hj ⊢ <;> omega)))
          refine r_iinc (lv' := [(7, .int (zI (k + 1))), (8, .long (bs (mis d ce q9 c9))), (0, .ref arp), (1, .ref asu), (2, .ref a), (3, .ref a2), (4, .int (zI c9)), (5, .long ((mk (d 0) ce c9) ^^^ ((-1))))]) E 7 hl rfl dX3_fillCharges_113 (by decide) rfl (fun ls hl => ?_)
          refine r_goto E 35 dX3_fillCharges_116 (by decide) ?_
          exact ih_35 _ H locs ls (by omega) ⟨ws, (k + 1), ch_110, rfl, (by omega), (fun x c x0 x1 c0 c1 => by
        have h9 := i7 x c x0 x1 c0 c1
        have h8 := e9 x c
        rw [e_110 x c x0 x1 c0 c1, h9]
        by_cases q : c < c9
        · rw [if_pos q, if_pos q, if_neg (by omega)]; omega
        · rw [if_neg q, if_neg q]
          by_cases q2 : c = c9
          · rw [if_pos q2, if_pos q2, h8, q2, hg x]; simp
          · rw [if_neg q2, if_neg q2, if_neg (by omega)]; omega), h, h_rp, h_ch, h_su, h_tb, h_se, h_wr, h_wt, h_co, h_cop, hE, lv_sub hl [2, 3, 4, 5, 6, 7, 0] rfl⟩
      · skip
        have hg := gX_all (T := T) (e := ce) hD hq9 (c := c9) (by omega) (mis_bs.trans (ze_58.mp c_59))
        refine r_aload_n E 1 hl rfl dX3_fillCharges_62 ?_
        refine r_aload_n E 3 hl rfl dX3_fillCharges_63 ?_
        refine r_iload E 7 hl rfl dX3_fillCharges_64 ?_
        refine r_callVL E h (As := [.int (zI k)]) (rest := [.ref arp]) (k_X8_setOf l k q9 h_tb h_se hD hT (by omega) hk9) h_tb rfl gX3_fillCharges_X8_setOf rfl hd_X8_setOf (by decide) ⟨by decide, by decide⟩ hl.1 rfl (Nat.le_of_ble_eq_true rfl) dX3_fillCharges_66 rfl (fun z_66 ws H locs hp h => ?_)
        obtain ⟨rfl, rfl⟩ := hp
        refine r_iload E 5 hl rfl dX3_fillCharges_69 ?_
        refine r_aload_n E 3 hl rfl dX3_fillCharges_71 ?_
        refine r_iload E 7 hl rfl dX3_fillCharges_72 ?_
        refine r_iload E 5 hl rfl dX3_fillCharges_74 ?_
        refine r_callVI E h (As := [.int (zI k), .int (zI c9)]) (rest := [.int (zI c9), .long (bs (fun x => has d q9 x)), .ref arp]) (k_X8_weightOf l k q9 c9 h_tb h_wr h_wt hD hT (by omega) hk9 (by omega)) h_tb rfl gX3_fillCharges_X8_weightOf rfl hd_X8_weightOf (by decide) ⟨by decide, by decide⟩ hl.1 rfl (Nat.le_of_ble_eq_true rfl) dX3_fillCharges_76 rfl (fun z_76 ws H locs hp h => ?_)
        obtain ⟨rfl, rfl⟩ := hp
        refine r_callVV E h (As := [.long (bs (fun x => has d q9 x)), .int (zI c9), .int (zI (wK d T q9 c9))]) (rest := []) (k_X3_charge l (fun x => has d q9 x) c9 (wK d T q9 c9) h_rp h_ch (fun x x0 x1 hx => by have := has_rng hD hq9 hx; omega) hct (by omega)) h_rp rfl gX3_fillCharges_X3_charge rfl hd_X3_charge (by decide) ⟨by decide, by decide⟩ hl.1 rfl (Nat.le_of_ble_eq_true rfl) dX3_fillCharges_79 rfl (fun ws H locs hp h => ?_)
        obtain ⟨ch_79, h_ch, e_79, hf⟩ := hp
        have h_rp := hf.at h_rp (by first | omega | (dsimp only <;> omega))
        have h_su := hf.at h_su (by first | omega | (dsimp only <;> omega))
        have h_tb := hf.at h_tb (by first | omega | (dsimp only <;> omega))
        have h_se := hf.at h_se (by first | omega | (dsimp only <;> omega))
        have h_wr := hf.at h_wr (by first | omega | (dsimp only <;> omega))
        have h_wt := hf.at h_wt (by first | omega | (dsimp only <;> omega))
        have h_co := hf.at h_co (by first | omega | (dsimp only <;> omega))
        have h_cop := hf.at h_cop (by first | omega | (dsimp only <;> omega))
        have hE := hE.tr (hf.wk (fun j hj => by first | omega | (dsimp only at hj ⊢ <;> omega)))
        refine r_goto E 113 dX3_fillCharges_82 (by decide) ?_
        refine r_iinc (lv' := [(7, .int (zI (k + 1))), (8, .long (bs (mis d ce q9 c9))), (0, .ref arp), (1, .ref asu), (2, .ref a), (3, .ref a2), (4, .int (zI c9)), (5, .long ((mk (d 0) ce c9) ^^^ ((-1))))]) E 7 hl rfl dX3_fillCharges_113 (by decide) rfl (fun ls hl => ?_)
        refine r_goto E 35 dX3_fillCharges_116 (by decide) ?_
        exact ih_35 _ H locs ls (by omega) ⟨ws, (k + 1), ch_79, rfl, (by omega), (fun x c x0 x1 c0 c1 => by
        have h9 := i7 x c x0 x1 c0 c1
        have h8 := e9 x c
        rw [e_79 x c x0 x1 c0 c1, h9]
        by_cases q : c < c9
        · rw [if_pos q, if_pos q, if_neg (by omega)]; omega
        · rw [if_neg q, if_neg q]
          by_cases q2 : c = c9
          · rw [if_pos q2, if_pos q2, h8, q2, hg x]; simp
          · rw [if_neg q2, if_neg q2, if_neg (by omega)]; omega), h, h_rp, h_ch, h_su, h_tb, h_se, h_wr, h_wt, h_co, h_cop, hE, lv_sub hl [2, 3, 4, 5, 6, 7, 0] rfl⟩
theorem hd_X3_find : yX3_find.cls = RX3 ∧ yX3_find.cls ≠ "java/lang/invoke/MethodHandle" ∧ yX3_find.cls ≠ "java/lang/invoke/VarHandle" ∧ (parseMethodDescriptor yX3_find.desc).map (fun d => d.parameters.length) = some 3 := by decide +kernel
theorem fl_X3_find_12 : Cond.fieldLink RX3 12 (TX3 0).1 (TX3 0).2.1 (TX3 0).2.2.1 ∈ wsX3_find := List.mem_of_getElem? (i := 2) rfl
theorem inn_X3_find_3 : ∀ w ∈ wsX30, w ∈ wsX3_find := fun _ h => List.mem_cons_of_mem _ (List.mem_append_left _ (List.mem_append_left _ (List.mem_append_left _ (List.mem_append_right _ h))))
theorem fl_X3_find_30 : Cond.fieldLink RX3 30 (TX6 0).1 (TX6 0).2.1 (TX6 0).2.2.1 ∈ wsX3_find := List.mem_of_getElem? (i := 3) rfl
theorem inn_X3_find_6 : ∀ w ∈ wsX60, w ∈ wsX3_find := fun _ h => List.mem_cons_of_mem _ (List.mem_append_left _ (List.mem_append_left _ (List.mem_append_right _ h)))
theorem fl_X3_find_45 : Cond.fieldLink RX3 45 (TX6 1).1 (TX6 1).2.1 (TX6 1).2.2.1 ∈ wsX3_find := List.mem_of_getElem? (i := 4) rfl
theorem fl_X3_find_16 : Cond.fieldLink RX3 16 (TX3 1).1 (TX3 1).2.1 (TX3 1).2.2.1 ∈ wsX3_find := List.mem_of_getElem? (i := 5) rfl
theorem fl_X3_find_19 : Cond.fieldLink RX3 19 (TX3 2).1 (TX3 2).2.1 (TX3 2).2.2.1 ∈ wsX3_find := List.mem_of_getElem? (i := 6) rfl
abbrev rm_X3_find : Room := { frames := 4, cells := 0, slots := 0, locals := 99 }
set_option maxHeartbeats 1200000 in
set_option maxRecDepth 100000 in
theorem k_X3_find (l : Launch) {G : va_G} {cy : Nat → ClassId} {ws0 : va_W} {q6 arp ach : Nat} {gn nu co : Int} {ch : Int → Int} {qs asu ar9 af9 : Nat} {q a ase awr art awt are ars : Nat} {se re : Int → Int64} {wr rt wt rs : Int → Int} {sz riw : Int} {q2 a2 ap2 : Nat} {d da : Int → Int} {T : List Int} (h_rp : ws0[q6]? = some (arp, .inr (3, [.int (zI gn), .int (zI nu), .int (zI co), .ref ach]))) (h_ch : ws0[q6 + 1]? = some (ach, aI cy 164 ch)) (h_su : ws0[qs]? = some (asu, .inr (6, [.int (zI (d 0)), .int (zI (d 1)), .ref ar9, .ref af9]))) (h_tb : ws0[q]? = some (a, .inr (8, [.ref ase, .ref awr, .int (zI sz), .ref art, .int (zI riw), .ref awt, .ref are, .ref ars]))) (h_se : ws0[q + 1]? = some (ase, aL cy 6400 se)) (h_wr : ws0[q + 2]? = some (awr, aI cy 6400 wr)) (h_wt : ws0[q + 4]? = some (awt, aI cy 656 wt)) (h_co : ws0[q2]? = some (a2, .inr (0, [.ref ap2, .long (fmk (d 0) (fx da))]))) (h_cop : ws0[q2 + 1]? = some (ap2, aL cy 4 (mk (d 0) (cl da)))) (hq2 : q2 + 2 ≤ q6 ∨ q6 + 2 ≤ q2) (hqt : q + 7 ≤ q6 ∨ q6 + 2 ≤ q) (hqs : qs < q6 ∨ q6 + 2 ≤ qs) (hD : DW d T) (hT : TW d T se wr rt wt re rs sz) (hA : DW da T) (hd0 : da 0 = d 0) (hd1 : da 1 = d 1) : MV l yX3_find wsX3_find rm_X3_find G cy [.ref arp, .ref asu, .ref a, .ref a2] ws0 (fun u => ∃ (nu2 co2 : Int) (ch2 : Int → Int), u[q6]? = some (arp, .inr (3, [.int (zI (bst d T da).1), .int (zI nu2), .int (zI co2), .ref ach])) ∧ u[q6 + 1]? = some (ach, aI cy 164 ch2) ∧ (-1000000 < (bst d T da).1 → nu2 = (bst d T da).2.1 ∧ co2 = (bst d T da).2.2) ∧ Eqx ws0 u (fun j => j = q6 ∨ j = q6 + 1)) := by
  refine MV.of (own := RX3) (cc := cX3_find) (nL := 8) (ret := none) (by decide) rfl rfl (Nat.le_of_ble_eq_true rfl) ?_
  intro p e s m below meth c A ls hin E h hl
  have hl : lv_has ls 8 [(0, .ref arp), (1, .ref asu), (2, .ref a), (3, .ref a2)] := hl
  have hE : Eqx ws0 ws0 (fun j => j = q6 ∨ j = q6 + 1) := Eqx.rf
  have hn9 := hD.n
  have hkk := hD.k
  have he : ∀ x : Int, 1 ≤ x → x ≤ d 0 → 0 ≤ cl da x ∧ cl da x ≤ d 1 := fun x x0 x1 => by
    have := hA.col (x := x) x0 (by omega)
    rw [hd1] at this
    exact this
  refine r_aload_n E 0 hl rfl dX3_find_0 ?_
  refine r_aload_n E 1 hl rfl dX3_find_1 ?_
  refine r_aload_n E 2 hl rfl dX3_find_2 ?_
  refine r_aload_n E 3 hl rfl dX3_find_3 ?_
  refine r_callVV E h (As := [.ref asu, .ref a, .ref a2]) (rest := []) (k_X3_fillCharges l h_rp h_ch h_su h_tb h_se h_wr h_wt h_co h_cop (by omega) (by omega) (by omega) hD hT he) h_rp rfl gX3_find_X3_fillCharges rfl hd_X3_fillCharges (by decide) ⟨by decide, by decide⟩ hl.1 rfl (Nat.le_of_ble_eq_true rfl) dX3_find_4 rfl (fun ws H locs hp h => ?_)
  obtain ⟨ch_4, h_ch, e_4, hf⟩ := hp
  have h_rp := hf.at h_rp (by first | omega | (dsimp only <;> omega))
  have h_su := hf.at h_su (by first | omega | (dsimp only <;> omega))
  have h_tb := hf.at h_tb (by first | omega | (dsimp only <;> omega))
  have h_se := hf.at h_se (by first | omega | (dsimp only <;> omega))
  have h_wr := hf.at h_wr (by first | omega | (dsimp only <;> omega))
  have h_wt := hf.at h_wt (by first | omega | (dsimp only <;> omega))
  have h_co := hf.at h_co (by first | omega | (dsimp only <;> omega))
  have h_cop := hf.at h_cop (by first | omega | (dsimp only <;> omega))
  have hE := hE.tr (hf.wk (fun j hj => by first | omega | (dsimp only at hj ⊢ <;> omega)))
  refine r_aload_n E 0 hl rfl dX3_find_7 ?_
  refine r_ldc E (v := (-1000000)) (List.mem_of_getElem? (i := 1) rfl) (n := -1000000) (by decide) dX3_find_8 ?_
  refine r_put E h h_rp rfl inn_X3_find_3 0 (by decide) fl_X3_find_12 tyX3 tyX3_ok nmX3 rfl rfl rfl (Nat.le_of_ble_eq_true rfl) dX3_find_10 (fun ws H locs h hu => ?_)
  have h_rp : ws[q6]? = some (arp, .inr (3, [.int (zI (-1000000)), .int (zI nu), .int (zI co), .ref ach])) := hu.1
  have h_ch := hu.keep h_ch (by omega)
  have h_su := hu.keep h_su (by omega)
  have h_tb := hu.keep h_tb (by omega)
  have h_se := hu.keep h_se (by omega)
  have h_wr := hu.keep h_wr (by omega)
  have h_wt := hu.keep h_wt (by omega)
  have h_co := hu.keep h_co (by omega)
  have h_cop := hu.keep h_cop (by omega)
  have hE := hE.tr (hu.eqx (by first | omega | (dsimp only <;> omega)))
  refine r_iconst E dX3_find_13 ?_
  refine r_istore (lv' := [(4, .int (zI 1)), (0, .ref arp), (1, .ref asu), (2, .ref a), (3, .ref a2)]) E hl dX3_find_14 (by decide) rfl (fun ls hl => ?_)
  refine r_loop (fun n H locs ls => ∃ (ws : va_W) (v : Int) (gn2 : Int) (nu2 : Int) (co2 : Int), n = (41 - v).toNat ∧ (1 ≤ v ∧ v ≤ d 0 + 1) ∧ (gn2 = (bstX d T da (v - 1).toNat).1 ∧ (-1000000 < (bstX d T da (v - 1).toNat).1 → nu2 = (bstX d T da (v - 1).toNat).2.1 ∧ co2 = (bstX d T da (v - 1).toNat).2.2)) ∧ Hp G ws A s.heap H locs ∧ (ws[q6]? = some (arp, .inr (3, [.int (zI gn2), .int (zI nu2), .int (zI co2), .ref ach]))) ∧ (ws[q6 + 1]? = some (ach, aI cy 164 ch_4)) ∧ (ws[qs]? = some (asu, .inr (6, [.int (zI (d 0)), .int (zI (d 1)), .ref ar9, .ref af9]))) ∧ (ws[q]? = some (a, .inr (8, [.ref ase, .ref awr, .int (zI sz), .ref art, .int (zI riw), .ref awt, .ref are, .ref ars]))) ∧ (ws[q + 1]? = some (ase, aL cy 6400 se)) ∧ (ws[q + 2]? = some (awr, aI cy 6400 wr)) ∧ (ws[q + 4]? = some (awt, aI cy 656 wt)) ∧ (ws[q2]? = some (a2, .inr (0, [.ref ap2, .long (fmk (d 0) (fx da))]))) ∧ (ws[q2 + 1]? = some (ap2, aL cy 4 (mk (d 0) (cl da)))) ∧ Eqx ws0 ws (fun j => j = q6 ∨ j = q6 + 1) ∧ lv_has ls 8 [(0, .ref arp), (1, .ref asu), (2, .ref a), (3, .ref a2), (4, .int (zI v))]) _ ⟨ws, 1, (-1000000), nu, co, rfl, (by omega), ⟨rfl, fun hh => absurd hh (by show ¬ (-1000000 : Int) < -1000000; decide)⟩, h, h_rp, h_ch, h_su, h_tb, h_se, h_wr, h_wt, h_co, h_cop, hE, lv_sub hl [1, 2, 3, 4, 0] rfl⟩ ?_
  rintro n H locs ls ⟨ws, v, gn2, nu2, co2, hn, i1, i2, h, h_rp, h_ch, h_su, h_tb, h_se, h_wr, h_wt, h_co, h_cop, hE, hl⟩ ih_16
  refine r_iload E 4 hl rfl dX3_find_16 ?_
  refine r_aload_n E 1 hl rfl dX3_find_18 ?_
  refine r_get (v := .int (zI (d 0))) E h h_su rfl inn_X3_find_6 0 (by decide) fl_X3_find_30 rfl dX3_find_19 ?_
  refine r_icmp_gt E 125 dX3_find_22 (by decide) (by omega) (fun c_22 => ?_) (fun c_22 => ?_)
  · skip
    exact r_vret E h ⟨nu2, co2, ch_4, by rw [show bst d T da = bstX d T da (v - 1).toNat by unfold bst; rw [show (v - 1).toNat = (da 0).toNat by omega], ← i2.1]; exact h_rp, h_ch, by rw [show bst d T da = bstX d T da (v - 1).toNat by unfold bst; rw [show (v - 1).toNat = (da 0).toNat by omega]]; exact i2.2, hE⟩ dX3_find_125
  · skip
    have hcv := hA.col (x := v) (by omega) (by omega)
    have hclv : cl da v = da (29 + v) := rfl
    have hbs := bstX_s (d := d) (T := T) (da := da) (x := v) (by omega)
    refine r_aload_n E 3 hl rfl dX3_find_25 ?_
    refine r_iload E 4 hl rfl dX3_find_26 ?_
    refine r_callVI E h (As := [.int (zI v)]) (rest := []) (k_X0_colourOf l v h_co h_cop (by omega) (by omega) (hA.c4 v (by omega) (by omega))) h_co rfl gX3_find_X0_colourOf rfl hd_X0_colourOf (by decide) ⟨by decide, by decide⟩ hl.1 rfl (Nat.le_of_ble_eq_true rfl) dX3_find_28 rfl (fun z_28 ws H locs hp h => ?_)
    obtain ⟨rfl, rfl⟩ := hp
    refine r_istore (lv' := [(5, .int (zI ((cl da) v - 1))), (0, .ref arp), (1, .ref asu), (2, .ref a), (3, .ref a2), (4, .int (zI v))]) E hl dX3_find_31 (by decide) rfl (fun ls hl => ?_)
    refine r_iconst E dX3_find_33 ?_
    refine r_istore (lv' := [(6, .int (zI 0)), (5, .int (zI ((cl da) v - 1))), (0, .ref arp), (1, .ref asu), (2, .ref a), (3, .ref a2), (4, .int (zI v))]) E hl dX3_find_34 (by decide) rfl (fun ls hl => ?_)
    refine r_loop (fun n H locs ls => ∃ (ws : va_W) (c : Int) (gn2 : Int) (nu2 : Int) (co2 : Int), n = (d 1 - c).toNat ∧ (0 ≤ c ∧ c ≤ d 1) ∧ (gn2 = (bstC d T da v (wgtX d T (cl da) v (da (29 + v) - 1)) c.toNat (bstX d T da (v - 1).toNat)).1 ∧ (-1000000 < (bstC d T da v (wgtX d T (cl da) v (da (29 + v) - 1)) c.toNat (bstX d T da (v - 1).toNat)).1 → nu2 = (bstC d T da v (wgtX d T (cl da) v (da (29 + v) - 1)) c.toNat (bstX d T da (v - 1).toNat)).2.1 ∧ co2 = (bstC d T da v (wgtX d T (cl da) v (da (29 + v) - 1)) c.toNat (bstX d T da (v - 1).toNat)).2.2)) ∧ (da (29 + v) = 0 ∨ da (70 + v) = 1 → c = 0) ∧ Hp G ws A s.heap H locs ∧ (ws[q6]? = some (arp, .inr (3, [.int (zI gn2), .int (zI nu2), .int (zI co2), .ref ach]))) ∧ (ws[q6 + 1]? = some (ach, aI cy 164 ch_4)) ∧ (ws[qs]? = some (asu, .inr (6, [.int (zI (d 0)), .int (zI (d 1)), .ref ar9, .ref af9]))) ∧ (ws[q]? = some (a, .inr (8, [.ref ase, .ref awr, .int (zI sz), .ref art, .int (zI riw), .ref awt, .ref are, .ref ars]))) ∧ (ws[q + 1]? = some (ase, aL cy 6400 se)) ∧ (ws[q + 2]? = some (awr, aI cy 6400 wr)) ∧ (ws[q + 4]? = some (awt, aI cy 656 wt)) ∧ (ws[q2]? = some (a2, .inr (0, [.ref ap2, .long (fmk (d 0) (fx da))]))) ∧ (ws[q2 + 1]? = some (ap2, aL cy 4 (mk (d 0) (cl da)))) ∧ Eqx ws0 ws (fun j => j = q6 ∨ j = q6 + 1) ∧ lv_has ls 8 [(0, .ref arp), (1, .ref asu), (2, .ref a), (3, .ref a2), (4, .int (zI v)), (5, .int (zI ((cl da) v - 1))), (6, .int (zI c))]) _ ⟨ws, 0, gn2, nu2, co2, rfl, (by omega), i2, (fun _ => rfl), h, h_rp, h_ch, h_su, h_tb, h_se, h_wr, h_wt, h_co, h_cop, hE, lv_sub hl [2, 3, 4, 5, 6, 1, 0] rfl⟩ ?_
    rintro n H locs ls ⟨ws, c, gn2, nu2, co2, hn, j1, j2, j3, h, h_rp, h_ch, h_su, h_tb, h_se, h_wr, h_wt, h_co, h_cop, hE, hl⟩ ih_36
    refine r_iload E 5 hl rfl dX3_find_36 ?_
    refine r_iconst E dX3_find_38 ?_
    refine r_icmp_eq E 119 dX3_find_39 (by decide) (by omega) (fun c_39 => ?_) (fun c_39 => ?_)
    · skip
      refine r_iinc (lv' := [(4, .int (zI (v + 1))), (0, .ref arp), (1, .ref asu), (2, .ref a), (3, .ref a2), (5, .int (zI ((cl da) v - 1))), (6, .int (zI c))]) E 4 hl rfl dX3_find_119 (by decide) rfl (fun ls hl => ?_)
      refine r_goto E 16 dX3_find_122 (by decide) ?_
      exact ih_16 _ H locs ls (by omega) ⟨ws, (v + 1), gn2, nu2, co2, rfl, (by omega), (by
      rw [show (v + 1 - 1).toNat = v.toNat by omega, hbs]
      first
      | (rw [if_pos (by first | exact Or.inr hff | exact Or.inl (by omega))]; rw [show c = 0 from j3 (by first | exact Or.inr hff | exact Or.inl (by omega))] at j2; exact j2)
      | (rw [if_neg (by omega)]; rw [show c = d 1 by omega, ← hd1] at j2; exact j2)), h, h_rp, h_ch, h_su, h_tb, h_se, h_wr, h_wt, h_co, h_cop, hE, lv_sub hl [1, 2, 3, 4, 0] rfl⟩
    · skip
      refine r_aload_n E 3 hl rfl dX3_find_42 ?_
      refine r_iload E 4 hl rfl dX3_find_43 ?_
      refine r_callVI E h (As := [.int (zI v)]) (rest := []) (k_X0_hasFixed l v h_co h_cop (by omega) (by omega)) h_co rfl gX3_find_X0_hasFixed rfl hd_X0_hasFixed (by decide) ⟨by decide, by decide⟩ hl.1 rfl (Nat.le_of_ble_eq_true rfl) dX3_find_45 rfl (fun z_45 ws H locs hp h => ?_)
      obtain ⟨e_z_45, rfl⟩ := hp
      refine r_if_ne E 119 dX3_find_48 (by decide) (by omega) (fun c_48 => ?_) (fun c_48 => ?_)
      · skip
        have hff : da (70 + v) = 1 := by
          rcases e_z_45 with q | q
          · exact q.2
          · omega
        refine r_iinc (lv' := [(4, .int (zI (v + 1))), (0, .ref arp), (1, .ref asu), (2, .ref a), (3, .ref a2), (5, .int (zI ((cl da) v - 1))), (6, .int (zI c))]) E 4 hl rfl dX3_find_119 (by decide) rfl (fun ls hl => ?_)
        refine r_goto E 16 dX3_find_122 (by decide) ?_
        exact ih_16 _ H locs ls (by omega) ⟨ws, (v + 1), gn2, nu2, co2, rfl, (by omega), (by
      rw [show (v + 1 - 1).toNat = v.toNat by omega, hbs]
      first
      | (rw [if_pos (by first | exact Or.inr hff | exact Or.inl (by omega))]; rw [show c = 0 from j3 (by first | exact Or.inr hff | exact Or.inl (by omega))] at j2; exact j2)
      | (rw [if_neg (by omega)]; rw [show c = d 1 by omega, ← hd1] at j2; exact j2)), h, h_rp, h_ch, h_su, h_tb, h_se, h_wr, h_wt, h_co, h_cop, hE, lv_sub hl [1, 2, 3, 4, 0] rfl⟩
      · skip
        have hnf : da (70 + v) ≠ 1 := by
          rcases e_z_45 with q | q
          · omega
          · exact q.2
        refine r_iload E 6 hl rfl dX3_find_51 ?_
        refine r_aload_n E 1 hl rfl dX3_find_53 ?_
        refine r_get (v := .int (zI (d 1))) E h h_su rfl inn_X3_find_6 1 (by decide) fl_X3_find_45 rfl dX3_find_54 ?_
        refine r_icmp_ge E 119 dX3_find_57 (by decide) (by omega) (fun c_57 => ?_) (fun c_57 => ?_)
        · skip
          refine r_iinc (lv' := [(4, .int (zI (v + 1))), (0, .ref arp), (1, .ref asu), (2, .ref a), (3, .ref a2), (5, .int (zI ((cl da) v - 1))), (6, .int (zI c))]) E 4 hl rfl dX3_find_119 (by decide) rfl (fun ls hl => ?_)
          refine r_goto E 16 dX3_find_122 (by decide) ?_
          exact ih_16 _ H locs ls (by omega) ⟨ws, (v + 1), gn2, nu2, co2, rfl, (by omega), (by
      rw [show (v + 1 - 1).toNat = v.toNat by omega, hbs]
      first
      | (rw [if_pos (by first | exact Or.inr hff | exact Or.inl (by omega))]; rw [show c = 0 from j3 (by first | exact Or.inr hff | exact Or.inl (by omega))] at j2; exact j2)
      | (rw [if_neg (by omega)]; rw [show c = d 1 by omega, ← hd1] at j2; exact j2)), h, h_rp, h_ch, h_su, h_tb, h_se, h_wr, h_wt, h_co, h_cop, hE, lv_sub hl [1, 2, 3, 4, 0] rfl⟩
        · skip
          have hst := bstC_s (d := d) (T := T) (da := da) (x := v) (now := wgtX d T (cl da) v (da (29 + v) - 1)) (c := c) (s := bstX d T da (v - 1).toNat) (by omega)
          have hw1 : ch_4 (4 * v + (cl da v - 1)) = wgtX d T (cl da) v (da (29 + v) - 1) := e_4 v (cl da v - 1) (by omega) (by omega) (by omega) (by omega)
          have hw2 := e_4 v c (by omega) (by omega) (by omega) (by omega)
          have hr1 := wgtX_rng (T := T) (e := cl da) (x := v) (c := da (29 + v) - 1) hD
          have hr2 := wgtX_rng (T := T) (e := cl da) (x := v) (c := c) hD
          have hbr := bstC_rng (da := da) (x := v) (now := wgtX d T (cl da) v (da (29 + v) - 1)) (T := T) hD hr1 c.toNat _ (bstX_rng (da := da) (T := T) hD (v - 1).toNat)
          refine r_aload_n E 0 hl rfl dX3_find_60 ?_
          refine r_iload E 4 hl rfl dX3_find_61 ?_
          refine r_iload E 5 hl rfl dX3_find_63 ?_
          refine r_callVI E h (As := [.int (zI v), .int (zI ((cl da) v - 1))]) (rest := []) (k_X3_chargeOf l v ((cl da) v - 1) h_rp h_ch (by omega) (by omega)) h_rp rfl gX3_find_X3_chargeOf rfl hd_X3_chargeOf (by decide) ⟨by decide, by decide⟩ hl.1 rfl (Nat.le_of_ble_eq_true rfl) dX3_find_65 rfl (fun z_65 ws H locs hp h => ?_)
          obtain ⟨rfl, rfl⟩ := hp
          refine r_aload_n E 0 hl rfl dX3_find_68 ?_
          refine r_iload E 4 hl rfl dX3_find_69 ?_
          refine r_iload E 6 hl rfl dX3_find_71 ?_
          refine r_callVI E h (As := [.int (zI v), .int (zI c)]) (rest := [.int (zI (ch_4 (4 * v + ((cl da) v - 1))))]) (k_X3_chargeOf l v c h_rp h_ch (by omega) (by omega)) h_rp rfl gX3_find_X3_chargeOf rfl hd_X3_chargeOf (by decide) ⟨by decide, by decide⟩ hl.1 rfl (Nat.le_of_ble_eq_true rfl) dX3_find_73 rfl (fun z_73 ws H locs hp h => ?_)
          obtain ⟨rfl, rfl⟩ := hp
          refine r_isub E dX3_find_76 ?_
          refine r_istore (lv' := [(7, .int (zI ((ch_4 (4 * v + ((cl da) v - 1))) - (ch_4 (4 * v + c))))), (0, .ref arp), (1, .ref asu), (2, .ref a), (3, .ref a2), (4, .int (zI v)), (5, .int (zI ((cl da) v - 1))), (6, .int (zI c))]) E hl dX3_find_77 (by decide) rfl (fun ls hl => ?_)
          skip
          refine r_iload E 7 hl rfl dX3_find_79 ?_
          refine r_iload E 6 hl rfl dX3_find_81 ?_
          refine r_icmp_eq E 113 dX3_find_83 (by decide) (by omega) (fun c_83 => ?_) (fun c_83 => ?_)
          · skip
            refine r_iinc (lv' := [(6, .int (zI (c + 1))), (7, .int (zI ((ch_4 (4 * v + ((cl da) v - 1))) - (ch_4 (4 * v + c))))), (0, .ref arp), (1, .ref asu), (2, .ref a), (3, .ref a2), (4, .int (zI v)), (5, .int (zI ((cl da) v - 1)))]) E 7 hl rfl dX3_find_113 (by decide) rfl (fun ls hl => ?_)
            refine r_goto E 36 dX3_find_116 (by decide) ?_
            exact ih_36 _ H locs ls (by omega) ⟨ws, (c + 1), gn2, nu2, co2, rfl, (by omega), (by
        rw [hst]
        first
        | (rw [if_pos (by omega)]; exact j2)
        | (rw [if_neg (by omega), if_pos (by omega)]; exact j2)), (fun hh => absurd hh (by omega)), h, h_rp, h_ch, h_su, h_tb, h_se, h_wr, h_wt, h_co, h_cop, hE, lv_sub hl [2, 3, 4, 5, 6, 7, 0] rfl⟩
          · skip
            refine r_iload E 0 hl rfl dX3_find_86 ?_
            refine r_aload_n E 1 hl rfl dX3_find_88 ?_
            refine r_get (v := .int (zI gn2)) E h h_rp rfl inn_X3_find_3 0 (by decide) fl_X3_find_12 rfl dX3_find_89 ?_
            refine r_icmp_le E 113 dX3_find_92 (by decide) (by omega) (fun c_92 => ?_) (fun c_92 => ?_)
            · skip
              refine r_iinc (lv' := [(6, .int (zI (c + 1))), (7, .int (zI ((ch_4 (4 * v + ((cl da) v - 1))) - (ch_4 (4 * v + c))))), (0, .ref arp), (1, .ref asu), (2, .ref a), (3, .ref a2), (4, .int (zI v)), (5, .int (zI ((cl da) v - 1)))]) E 7 hl rfl dX3_find_113 (by decide) rfl (fun ls hl => ?_)
              refine r_goto E 36 dX3_find_116 (by decide) ?_
              exact ih_36 _ H locs ls (by omega) ⟨ws, (c + 1), gn2, nu2, co2, rfl, (by omega), (by
        rw [hst]
        first
        | (rw [if_pos (by omega)]; exact j2)
        | (rw [if_neg (by omega), if_pos (by omega)]; exact j2)), (fun hh => absurd hh (by omega)), h, h_rp, h_ch, h_su, h_tb, h_se, h_wr, h_wt, h_co, h_cop, hE, lv_sub hl [2, 3, 4, 5, 6, 7, 0] rfl⟩
            · skip
              refine r_aload_n E 1 hl rfl dX3_find_95 ?_
              refine r_iload E 0 hl rfl dX3_find_96 ?_
              refine r_put E h h_rp rfl inn_X3_find_3 0 (by decide) fl_X3_find_12 tyX3 tyX3_ok nmX3 rfl rfl rfl (Nat.le_of_ble_eq_true rfl) dX3_find_98 (fun ws H locs h hu => ?_)
              have h_rp : ws[q6]? = some (arp, .inr (3, [.int (zI ((ch_4 (4 * v + ((cl da) v - 1))) - (ch_4 (4 * v + c)))), .int (zI nu2), .int (zI co2), .ref ach])) := hu.1
              have h_ch := hu.keep h_ch (by omega)
              have h_su := hu.keep h_su (by omega)
              have h_tb := hu.keep h_tb (by omega)
              have h_se := hu.keep h_se (by omega)
              have h_wr := hu.keep h_wr (by omega)
              have h_wt := hu.keep h_wt (by omega)
              have h_co := hu.keep h_co (by omega)
              have h_cop := hu.keep h_cop (by omega)
              have hE := hE.tr (hu.eqx (by first | omega | (dsimp only <;> omega)))
              refine r_aload_n E 1 hl rfl dX3_find_101 ?_
              refine r_iload E 5 hl rfl dX3_find_102 ?_
              refine r_put E h h_rp rfl inn_X3_find_3 1 (by decide) fl_X3_find_16 tyX3 tyX3_ok nmX3 rfl rfl rfl (Nat.le_of_ble_eq_true rfl) dX3_find_104 (fun ws H locs h hu => ?_)
              have h_rp : ws[q6]? = some (arp, .inr (3, [.int (zI ((ch_4 (4 * v + ((cl da) v - 1))) - (ch_4 (4 * v + c)))), .int (zI v), .int (zI co2), .ref ach])) := hu.1
              have h_ch := hu.keep h_ch (by omega)
              have h_su := hu.keep h_su (by omega)
              have h_tb := hu.keep h_tb (by omega)
              have h_se := hu.keep h_se (by omega)
              have h_wr := hu.keep h_wr (by omega)
              have h_wt := hu.keep h_wt (by omega)
              have h_co := hu.keep h_co (by omega)
              have h_cop := hu.keep h_cop (by omega)
              have hE := hE.tr (hu.eqx (by first | omega | (dsimp only <;> omega)))
              refine r_aload_n E 1 hl rfl dX3_find_107 ?_
              refine r_iload E 7 hl rfl dX3_find_108 ?_
              refine r_put E h h_rp rfl inn_X3_find_3 2 (by decide) fl_X3_find_19 tyX3 tyX3_ok nmX3 rfl rfl rfl (Nat.le_of_ble_eq_true rfl) dX3_find_110 (fun ws H locs h hu => ?_)
              have h_rp : ws[q6]? = some (arp, .inr (3, [.int (zI ((ch_4 (4 * v + ((cl da) v - 1))) - (ch_4 (4 * v + c)))), .int (zI v), .int (zI c), .ref ach])) := hu.1
              have h_ch := hu.keep h_ch (by omega)
              have h_su := hu.keep h_su (by omega)
              have h_tb := hu.keep h_tb (by omega)
              have h_se := hu.keep h_se (by omega)
              have h_wr := hu.keep h_wr (by omega)
              have h_wt := hu.keep h_wt (by omega)
              have h_co := hu.keep h_co (by omega)
              have h_cop := hu.keep h_cop (by omega)
              have hE := hE.tr (hu.eqx (by first | omega | (dsimp only <;> omega)))
              refine r_iinc (lv' := [(6, .int (zI (c + 1))), (7, .int (zI ((ch_4 (4 * v + ((cl da) v - 1))) - (ch_4 (4 * v + c))))), (0, .ref arp), (1, .ref asu), (2, .ref a), (3, .ref a2), (4, .int (zI v)), (5, .int (zI ((cl da) v - 1)))]) E 7 hl rfl dX3_find_113 (by decide) rfl (fun ls hl => ?_)
              refine r_goto E 36 dX3_find_116 (by decide) ?_
              exact ih_36 _ H locs ls (by omega) ⟨ws, (c + 1), ((ch_4 (4 * v + ((cl da) v - 1))) - (ch_4 (4 * v + c))), v, c, rfl, (by omega), (by
        rw [hst]
        rw [if_neg (by omega), if_neg (by omega)]; exact ⟨by rw [hw1, hw2], fun _ => ⟨rfl, rfl⟩⟩), (fun hh => absurd hh (by omega)), h, h_rp, h_ch, h_su, h_tb, h_se, h_wr, h_wt, h_co, h_cop, hE, lv_sub hl [2, 3, 4, 5, 6, 7, 0] rfl⟩
