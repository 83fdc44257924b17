theorem pc7_all (l : Launch) (G : va_G) (cy : Nat → ClassId) : ∀ n : Nat, PCon7 l G cy yX7_readFactor wsX7_readFactor (rmF7 n) 0 n ∧ PCon7 l G cy yX7_readTerm wsX7_readTerm (rmT7 n) 1 n ∧ PCon7 l G cy yX7_readSum wsX7_readSum (rmS7 n) 3 n := by
  have fin : ∀ n : Nat, PCon7 l G cy yX7_readFactor wsX7_readFactor (rmF7 n) 0 n → PCon7 l G cy yX7_readFactor wsX7_readFactor (rmF7 n) 0 n ∧ PCon7 l G cy yX7_readTerm wsX7_readTerm (rmT7 n) 1 n ∧ PCon7 l G cy yX7_readSum wsX7_readSum (rmS7 n) 3 n := by
    intro n hf
    have ht : PCon7 l G cy yX7_readTerm wsX7_readTerm (rmT7 n) 1 n := fun h1 h2 h3 h4 h5 h6 h7 h8 h9 hA hB hC hD hE => k_X7_readTerm l n h1 h2 h3 h4 hf h5 h6 h7 h8 h9 hA hB hC hD hE
    exact ⟨hf, ht, fun h1 h2 h3 h4 h5 h6 h7 h8 h9 hA hB hC hD hE => k_X7_readSum l n h1 h2 h3 h4 ht h5 h6 h7 h8 h9 hA hB hC hD hE⟩
  intro n
  induction n with
  | zero => exact fin 0 (fun h1 h2 h3 h4 h5 h6 h7 h8 h9 hA hB hC hD hE => k_X7_readFactor l 0 h1 h2 h3 h4 (fun k hk => absurd hk (by omega)) h5 h6 h7 h8 h9 hA hB hC hD hE)
  | succ k ih => exact fin (k + 1) (fun h1 h2 h3 h4 h5 h6 h7 h8 h9 hA hB hC hD hE => k_X7_readFactor l (k + 1) h1 h2 h3 h4 (fun j hj => Nat.succ.inj hj ▸ ih.2.2) h5 h6 h7 h8 h9 hA hB hC hD hE)
theorem pset_1 {k v : Int} {S : PSt} (h : S.1 = 0) : (pset k v S).1 = S.1 := by rw [pset_g h]; exact h.symm
theorem pset_2 {k v : Int} {S : PSt} : (pset k v S).2.1 = S.2.1 := by
  unfold pset
  split <;> rfl
theorem pset_3 {k v : Int} {S : PSt} : (pset k v S).2.2.1 = S.2.2.1 := by
  unfold pset
  split <;> rfl
theorem pset_4 {k v : Int} {S : PSt} (h : S.1 = 0) : (pset k v S).2.2.2 = uZ S.2.2.2 k v := by rw [pset_g h]
theorem pnum_b {t : Int → Int} {L lo hi : Int} {S : PSt} (h : S.1 ≠ 0) : pnum t L lo hi S = S := if_pos h
theorem pnumA_b {t : Int → Int} {L k lo hi : Int} {S : PSt} (h : S.1 ≠ 0) : pnumA t L k lo hi S = S := by
  unfold pnumA
  rw [pnum_b h, pset_bad h]
theorem pnumA_f {t : Int → Int} {L k lo hi : Int} {S : PSt} (h : (pnum t L lo hi S).1 ≠ 0) : pnumA t L k lo hi S = pnum t L lo hi S := pset_bad h
theorem pminS_b {t : Int → Int} {L : Int} {S : PSt} (h : S.1 ≠ 0) : pminS t L S = S := if_neg (fun q => h q.1)
theorem pminS_y {t : Int → Int} {L : Int} {S : PSt} (h : S.1 = 0) (hb : byA t L S.2.2.1 = 45) : pminS t L S = (0, S.2.1, sk t L (S.2.2.1 + 1), S.2.2.2) ∧ ∀ v : Int, pminB t L S v = -v := ⟨if_pos ⟨h, hb⟩, fun _ => if_pos ⟨h, hb⟩⟩
theorem pminS_n {t : Int → Int} {L : Int} {S : PSt} (hb : byA t L S.2.2.1 ≠ 45) : pminS t L S = S ∧ ∀ v : Int, pminB t L S v = v := ⟨if_neg (fun q => hb q.2), fun _ => if_neg (fun q => hb q.2)⟩
theorem pEqB_b {t : Int → Int} {L b : Int} {S : PSt} (h : S.1 ≠ 0) : pEqB t L b S = S := by
  unfold pEqB
  rw [pminS_b h, pnum_b h, pset_bad h]
theorem pEqB_f {t : Int → Int} {L b : Int} {S : PSt} (h : (pnum t L 0 99 (pminS t L S)).1 ≠ 0) : pEqB t L b S = pnum t L 0 99 (pminS t L S) := pset_bad h
theorem pEqC_b {t : Int → Int} {L b : Int} {S : PSt} (h : S.1 ≠ 0) : pEqC t L b S = S := by
  unfold pEqC
  rw [pwrd_bad h, pset_bad h]
theorem pinc_b {S : PSt} (h : S.1 ≠ 0) : pinc S = S := pset_bad h
theorem pwrd_y {t : Int → Int} {L : Int} {i : Nat} {S : PSt} (h : S.1 = 0) (hw : isW t L S.2.2.1 (ST i) = true) : pwrd t L i S = padv t L i S ∧ pwb t L i S = 1 := ⟨if_pos ⟨h, hw⟩, if_pos ⟨h, hw⟩⟩
theorem pwrd_n {t : Int → Int} {L : Int} {i : Nat} {S : PSt} (hw : isW t L S.2.2.1 (ST i) = false) : pwrd t L i S = S ∧ pwb t L i S = 0 := ⟨if_neg (fun q => by rw [hw] at q; exact absurd q.2 (by decide)), if_neg (fun q => by rw [hw] at q; exact absurd q.2 (by decide))⟩
theorem pinc_1 {S : PSt} (h : S.1 = 0) : (pinc S).1 = 0 ∧ (pinc S).2.1 = S.2.1 ∧ (pinc S).2.2.1 = S.2.2.1 ∧ (pinc S).2.2.2 = uZ S.2.2.2 2 (S.2.2.2 2 + 1) := by
  unfold pinc
  exact ⟨by rw [pset_1 h, h], pset_2, pset_3, pset_4 h⟩
/-- a rule of the class stands for the row's r-th rule -/
def RU1 (u : va_W) (qq ra : Nat) (g : Int → Int) (r : Int) : Prop := ∃ v1 v2 v3 v4 v5 : Int, u[qq]? = some (ra, .inr (4, [.int (zI (g (5 + 6 * r))), .int (zI v1), .int (zI v2), .int (zI v3), .int (zI v4), .int (zI v5)])) ∧ (g (5 + 6 * r) = 0 → v1 = g (6 + 6 * r) ∧ v2 = g (7 + 6 * r) ∧ v3 = g (8 + 6 * r) ∧ v4 = g (9 + 6 * r) ∧ v5 = g (10 + 6 * r))
def RUL (u : va_W) (B0 : Nat) (rlf : Int → Option Nat) (rt : Int) (g : Int → Int) : Prop := ∀ r : Nat, (r : Int) < rt → ∃ ra qq : Nat, rlf (r : Int) = some ra ∧ B0 ≤ qq ∧ RU1 u qq ra g (r : Int)
theorem RU1.keep {ws u : va_W} {qq ra : Nat} {g : Int → Int} {r : Int} {X : Nat → Prop} (h : RU1 ws qq ra g r) (hE : Eqx ws u X) (hX : ¬ X qq) : RU1 u qq ra g r := by
  obtain ⟨v1, v2, v3, v4, v5, h1, h2⟩ := h
  exact ⟨v1, v2, v3, v4, v5, hE.at h1 hX, h2⟩
theorem RUL.keep {ws u : va_W} {B0 : Nat} {rlf : Int → Option Nat} {rt : Int} {g : Int → Int} {X : Nat → Prop} (h : RUL ws B0 rlf rt g) (hE : Eqx ws u X) (hX : ∀ j, B0 ≤ j → ¬ X j) : RUL u B0 rlf rt g := fun r hr => by
  obtain ⟨ra, qq, h1, h2, h3⟩ := h r hr
  exact ⟨ra, qq, h1, h2, h3.keep hE (hX qq h2)⟩
theorem RU1.cg {u : va_W} {qq ra : Nat} {g e : Int → Int} {r : Int} (h : RU1 u qq ra g r) (hk : ∀ j : Int, 5 + 6 * r ≤ j → j ≤ 10 + 6 * r → e j = g j) : RU1 u qq ra e r := by
  obtain ⟨v1, v2, v3, v4, v5, h1, h2⟩ := h
  refine ⟨v1, v2, v3, v4, v5, ?_, ?_⟩
  · rw [hk _ (by omega) (by omega)]; exact h1
  · rw [hk (5 + 6 * r) (by omega) (by omega), hk (6 + 6 * r) (by omega) (by omega), hk (7 + 6 * r) (by omega) (by omega), hk (8 + 6 * r) (by omega) (by omega), hk (9 + 6 * r) (by omega) (by omega), hk (10 + 6 * r) (by omega) (by omega)]; exact h2
theorem RUL.cg {u : va_W} {B0 : Nat} {rlf : Int → Option Nat} {rt : Int} {g e : Int → Int} (h : RUL u B0 rlf rt g) (hk : ∀ j : Int, 5 ≤ j → j < 5 + 6 * rt → e j = g j) : RUL u B0 rlf rt e := fun r hr => by
  obtain ⟨ra, qq, h1, h2, h3⟩ := h r hr
  exact ⟨ra, qq, h1, h2, h3.cg (fun j a b => hk j (by omega) (by omega))⟩
theorem RUL.snoc {u : va_W} {B0 : Nat} {rlf : Int → Option Nat} {rt : Int} {g : Int → Int} {ra qq : Nat} (h : RUL u B0 rlf rt g) (h0 : 0 ≤ rt) (hq : B0 ≤ qq) (hn : RU1 u qq ra g rt) : RUL u B0 (uZ rlf rt (some ra)) (rt + 1) g := fun r hr => by
  by_cases c : (r : Int) = rt
  · exact ⟨ra, qq, by rw [c]; exact uZ_s, hq, by rw [c]; exact hn⟩
  · obtain ⟨ra2, qq2, h1, h2, h3⟩ := h r (by omega)
    exact ⟨ra2, qq2, by rw [uZ_n c]; exact h1, h2, h3⟩
/-- what an equation and a progression promise -/
def KQ (cy : Nat → ClassId) (ws0 : va_W) (qr ard arc atk arl apg ain : Nat) (nm9 cs9 rt9 n9 : Int) (rlf : Int → Option Nat) (bm : Int → Int) (L : Int) (B0 : Nat) (g9 : Int → Int) (R : PSt) (z : Int) (u : va_W) : Prop := ∃ (p2 rt2 : Int) (rl2 : Int → Option Nat), (z = 1 ∧ R.1 = 0 ∧ p2 = R.2.2.1 ∧ rt2 = rt9 + 1 ∧ (R.2.2.2 2 = g9 2 + 1 ∧ ∀ j : Int, j ≠ 2 → (j < 5 + 6 * rt9 ∨ 10 + 6 * rt9 < j) → R.2.2.2 j = g9 j) ∧ (∃ ra qq : Nat, rl2 = uZ rlf rt9 (some ra) ∧ B0 ≤ qq ∧ RU1 u qq ra R.2.2.2 rt9) ∨ z = 0 ∧ R.1 ≠ 0) ∧ u[qr]? = some (ard, .inr (7, [.int (zI R.1), .int (zI R.2.1), .ref arc, .ref atk, .int (zI nm9), .int (zI cs9), .ref arl, .int (zI rt2), .ref apg, .int (zI n9)])) ∧ u[qr + 3]? = some (atk, .inr (9, [.int (zI (tkK bm L p2)), .int (zI p2), .int (zI (tkV bm L p2)), .ref ain, .int (zI L), .int (zI (tkE bm L p2))])) ∧ u[qr + 5]? = some (arl, aR cy 4 4 rl2) ∧ Eqx ws0 u (fun j => j = qr ∨ j = qr + 3 ∨ j = qr + 5)
theorem hd_X7_keepRule : yX7_keepRule.cls = RX7 ∧ yX7_keepRule.cls ≠ "java/lang/invoke/MethodHandle" ∧ yX7_keepRule.cls ≠ "java/lang/invoke/VarHandle" ∧ (parseMethodDescriptor yX7_keepRule.desc).map (fun d => d.parameters.length) = some 1 := by decide +kernel
theorem fl_X7_keepRule_44 : Cond.fieldLink RX7 44 (TX7 7).1 (TX7 7).2.1 (TX7 7).2.2.1 ∈ wsX7_keepRule := List.mem_of_getElem? (i := 1) rfl
theorem inn_X7_keepRule_7 : ∀ w ∈ wsX70, w ∈ wsX7_keepRule := fun _ h => List.mem_cons_of_mem _ (List.mem_append_right _ h)
theorem fl_X7_keepRule_40 : Cond.fieldLink RX7 40 (TX7 6).1 (TX7 6).2.1 (TX7 6).2.2.1 ∈ wsX7_keepRule := List.mem_of_getElem? (i := 2) rfl
abbrev rm_X7_keepRule : Room := { frames := 0, cells := 0, slots := 0, locals := 0 }
set_option maxHeartbeats 1200000 in
set_option maxRecDepth 100000 in
theorem k_X7_keepRule (l : Launch) {G : va_G} {cy : Nat → ClassId} {ws0 : va_W} {qr ard arc atk arl apg : Nat} {nm9 cs9 rt9 n9 : Int} {ec9 ep9 : Int} {rlf : Int → Option Nat} {qq aru : Nat} {v0 v1 v2 v3 v4 v5 : Int} (h_rd : ws0[qr]? = some (ard, .inr (7, [.int (zI ec9), .int (zI ep9), .ref arc, .ref atk, .int (zI nm9), .int (zI cs9), .ref arl, .int (zI rt9), .ref apg, .int (zI n9)]))) (h_rl : ws0[qr + 5]? = some (arl, aR cy 4 4 rlf)) (h_ru : ws0[qq]? = some (aru, .inr (4, [.int (zI v0), .int (zI v1), .int (zI v2), .int (zI v3), .int (zI v4), .int (zI v5)]))) (hrt : 0 ≤ rt9 ∧ rt9 < 4) (hqq : qr + 7 ≤ qq) : MV l yX7_keepRule wsX7_keepRule rm_X7_keepRule G cy [.ref ard, .ref aru] ws0 (fun u => u[qr]? = some (ard, .inr (7, [.int (zI ec9), .int (zI ep9), .ref arc, .ref atk, .int (zI nm9), .int (zI cs9), .ref arl, .int (zI (rt9 + 1)), .ref apg, .int (zI n9)])) ∧ u[qr + 5]? = some (arl, aR cy 4 4 (uZ rlf rt9 (some aru))) ∧ Eqx ws0 u (fun j => j = qr ∨ j = qr + 5)) := by
  refine MV.of (own := RX7) (cc := cX7_keepRule) (nL := 2) (ret := none) (by decide) rfl rfl (Nat.le_of_ble_eq_true rfl) ?_
  intro p e s m below meth c A ls hin E h hl
  have hl : lv_has ls 2 [(0, .ref ard), (1, .ref aru)] := hl
  have hE : Eqx ws0 ws0 (fun j => j = qr ∨ j = qr + 5) := Eqx.rf
  refine r_aload_n E 0 hl rfl dX7_keepRule_0 ?_
  refine r_get (v := .int (zI rt9)) E h h_rd rfl inn_X7_keepRule_7 7 (by decide) fl_X7_keepRule_44 rfl dX7_keepRule_1 ?_
  refine r_aload_n E 0 hl rfl dX7_keepRule_4 ?_
  refine r_get (v := .ref arl) E h h_rd rfl inn_X7_keepRule_7 6 (by decide) fl_X7_keepRule_40 rfl dX7_keepRule_5 ?_
  refine r_alen E h rfl h_rl (v := 4) rfl dX7_keepRule_8 ?_
  refine r_icmp_ge E 32 dX7_keepRule_9 (by decide) (by omega) (fun c_9 => ?_) (fun c_9 => ?_)
  · skip
    exfalso; omega
  · skip
    refine r_aload_n E 0 hl rfl dX7_keepRule_12 ?_
    refine r_get (v := .ref arl) E h h_rd rfl inn_X7_keepRule_7 6 (by decide) fl_X7_keepRule_40 rfl dX7_keepRule_13 ?_
    refine r_aload_n E 0 hl rfl dX7_keepRule_16 ?_
    refine r_get (v := .int (zI rt9)) E h h_rd rfl inn_X7_keepRule_7 7 (by decide) fl_X7_keepRule_44 rfl dX7_keepRule_17 ?_
    refine r_aload_n E 1 hl rfl dX7_keepRule_20 ?_
    refine r_aast E h rfl h_rl h_ru rfl (by omega) (by decide) dX7_keepRule_21 (fun ws H locs h hu => ?_)
    have h_rd := hu.keep h_rd (by omega)
    have h_rl : ws[qr + 5]? = some (arl, aR cy 4 4 (uZ rlf rt9 (some aru))) := hu.1
    have h_ru := hu.keep h_ru (by omega)
    have hE := hE.tr (hu.eqx (by first | omega | (dsimp only <;> omega)))
    refine r_aload_n E 0 hl rfl dX7_keepRule_22 ?_
    refine r_dup E dX7_keepRule_23 rfl ?_
    refine r_get (v := .int (zI rt9)) E h h_rd rfl inn_X7_keepRule_7 7 (by decide) fl_X7_keepRule_44 rfl dX7_keepRule_24 ?_
    refine r_iconst E dX7_keepRule_27 ?_
    refine r_iadd E dX7_keepRule_28 ?_
    refine r_put E h h_rd rfl inn_X7_keepRule_7 7 (by decide) fl_X7_keepRule_44 tyX7 tyX7_ok nmX7 rfl rfl rfl (Nat.le_of_ble_eq_true rfl) dX7_keepRule_29 (fun ws H locs h hu => ?_)
    have h_rd : ws[qr]? = some (ard, .inr (7, [.int (zI ec9), .int (zI ep9), .ref arc, .ref atk, .int (zI nm9), .int (zI cs9), .ref arl, .int (zI (rt9 + 1)), .ref apg, .int (zI n9)])) := hu.1
    have h_rl := hu.keep h_rl (by omega)
    have h_ru := hu.keep h_ru (by omega)
    have hE := hE.tr (hu.eqx (by first | omega | (dsimp only <;> omega)))
    exact r_vret E h ⟨h_rd, h_rl, hE⟩ dX7_keepRule_32
theorem hd_X7_readEquation : yX7_readEquation.cls = RX7 ∧ yX7_readEquation.cls ≠ "java/lang/invoke/MethodHandle" ∧ yX7_readEquation.cls ≠ "java/lang/invoke/VarHandle" ∧ (parseMethodDescriptor yX7_readEquation.desc).map (fun d => d.parameters.length) = some 0 := by decide +kernel
theorem fl_X7_readEquation_44 : Cond.fieldLink RX7 44 (TX7 7).1 (TX7 7).2.1 (TX7 7).2.2.1 ∈ wsX7_readEquation := List.mem_of_getElem? (i := 1) rfl
theorem inn_X7_readEquation_7 : ∀ w ∈ wsX70, w ∈ wsX7_readEquation := fun _ h => List.mem_cons_of_mem _ (List.mem_append_left _ (List.mem_append_left _ (List.mem_append_right _ h)))
theorem fl_X7_readEquation_28 : Cond.fieldLink RX7 28 (TX7 3).1 (TX7 3).2.1 (TX7 3).2.2.1 ∈ wsX7_readEquation := List.mem_of_getElem? (i := 2) rfl
theorem inn_X7_readEquation_4 : ∀ w ∈ wsX40, w ∈ wsX7_readEquation := fun _ h => List.mem_cons_of_mem _ (List.mem_append_left _ (List.mem_append_right _ h))
abbrev rm_X7_readEquation : Room := { frames := 5, cells := 1, slots := 6, locals := 107 }
set_option maxHeartbeats 1200000 in
set_option maxRecDepth 100000 in
theorem k_X7_readEquation (l : Launch) {G : va_G} {cy : Nat → ClassId} {ws0 : va_W} {qr qi ard arc atk arl apg ain : Nat} {nm9 cs9 rt9 n9 : Int}{bu bm : Int → Int} {L : Int} {rlf : Int → Option Nat} {S : PSt} {B B0 : Nat} (h_rd : ws0[qr]? = some (ard, .inr (7, [.int (zI S.1), .int (zI S.2.1), .ref arc, .ref atk, .int (zI nm9), .int (zI cs9), .ref arl, .int (zI rt9), .ref apg, .int (zI n9)]))) (h_tk : ws0[qr + 3]? = some (atk, .inr (9, [.int (zI (tkK bm L S.2.2.1)), .int (zI S.2.2.1), .int (zI (tkV bm L S.2.2.1)), .ref ain, .int (zI L), .int (zI (tkE bm L S.2.2.1))]))) (h_in : ws0[qi]? = some (ain, aB cy 600 bu)) (h_rl : ws0[qr + 5]? = some (arl, aR cy 4 4 rlf)) (htx : TXok bm) (hbm : ∀ i : Int, bu i = sg (bm i)) (hL : 0 ≤ L ∧ L ≤ 600) (hqi : qi < qr ∨ qr + 7 ≤ qi) (h0 : S.1 = 0) (hG : PG L S) (hV : RV S.2.2.2) (hrt : rt9 = S.2.2.2 2) (hw : isW bm L S.2.2.1 (ST 5) = true) (hlen : ws0.length = B) (hB0 : qr + 7 ≤ B0 ∧ qi < B0 ∧ B0 ≤ B) : MIk l yX7_readEquation wsX7_readEquation rm_X7_readEquation G cy [.ref ard] ws0 (KQ cy ws0 qr ard arc atk arl apg ain nm9 cs9 rt9 n9 rlf bm L B0 S.2.2.2 (pRule bm L S.2.2.1 1 (padv bm L 5 S))) := by
  refine MIk.of (own := RX7) (cc := cX7_readEquation) (nL := 7) (ret := (some .boolean)) (by decide) rfl rfl (Nat.le_of_ble_eq_true rfl) ?_
  intro p e s m below meth c A ls hX E h hl
  have hl : lv_has ls 7 [(0, .ref ard)] := hl
  have hE : Eqx ws0 ws0 (fun j => j = qr ∨ j = qr + 3 ∨ j = qr + 5) := Eqx.rf
  have hlen0 := hlen
  have hgp := (hG.2 h0).1
  have htr := tk_rng htx hgp.2
  have hvr := hV.r
  refine r_aload_n E 0 hl rfl dX7_readEquation_0 ?_
  refine r_get (v := .int (zI rt9)) E h h_rd rfl inn_X7_readEquation_7 7 (by decide) fl_X7_readEquation_44 rfl dX7_readEquation_1 ?_
  refine r_iconst E dX7_readEquation_4 ?_
  refine r_icmp_lt E 15 dX7_readEquation_5 (by decide) (by omega) (fun c_5 => ?_) (fun c_5 => ?_)
  · skip
    have h24 : S.2.2.2 2 ≠ 4 := by omega
    refine r_aload_n E 0 hl rfl dX7_readEquation_15 ?_
    refine r_get (v := .ref atk) E h h_rd rfl inn_X7_readEquation_7 3 (by decide) fl_X7_readEquation_28 rfl dX7_readEquation_16 ?_
    refine r_callVV E h (As := []) (rest := []) (k_X9_advance l h_tk h_in htx hbm hL (by omega) (by omega)) h_tk rfl gX7_readEquation_X9_advance rfl hd_X9_advance (by decide) ⟨by decide, by decide⟩ hl.1 rfl (Nat.le_of_ble_eq_true rfl) dX7_readEquation_19 rfl (fun ws H locs hp h => ?_)
    obtain ⟨h_tk, hf⟩ := hp
    have h_rd := hf.at h_rd (by first | omega | (dsimp only <;> omega))
    have h_in := hf.at h_in (by first | omega | (dsimp only <;> omega))
    have h_rl := hf.at h_rl (by first | omega | (dsimp only <;> omega))
    have hE := hE.tr (hf.wk (fun j hj => by first | omega | (dsimp only at hj ⊢ <;> omega)))
    rw [tk_wE (by decide) hgp.2 hw] at h_tk
    have h_tk : ws[qr + 3]? = some (atk, .inr (9, [.int (zI (tkK bm L ((padv bm L 5 S).2.2.1))), .int (zI ((padv bm L 5 S).2.2.1)), .int (zI (tkV bm L ((padv bm L 5 S).2.2.1))), .ref ain, .int (zI L), .int (zI (tkE bm L ((padv bm L 5 S).2.2.1)))])) := h_tk
    have h_rd : ws[qr]? = some (ard, .inr (7, [.int (zI ((padv bm L 5 S).1)), .int (zI ((padv bm L 5 S).2.1)), .ref arc, .ref atk, .int (zI nm9), .int (zI cs9), .ref arl, .int (zI rt9), .ref apg, .int (zI n9)])) := h_rd
    have h0s := h0
    have hGs := hG
    have h0 : (padv bm L 5 S).1 = 0 := h0
    have hG := (padv_PL hG h0s (by decide) hw).1
    have hgp := (hG.2 h0).1
    have htr := tk_rng htx hgp.2
    have h_rd : ws[qr]? = some (ard, .inr (7, [.int (zI ((pE bm L (5 + 6 * S.2.2.2 2) 0 (padv bm L 5 S)).1)), .int (zI ((pE bm L (5 + 6 * S.2.2.2 2) 0 (padv bm L 5 S)).2.1)), .ref arc, .ref atk, .int (zI nm9), .int (zI cs9), .ref arl, .int (zI rt9), .ref apg, .int (zI n9)])) := by rw [show (pE bm L (5 + 6 * S.2.2.2 2) 0 (padv bm L 5 S)).1 = (padv bm L 5 S).1 from rfl, show (pE bm L (5 + 6 * S.2.2.2 2) 0 (padv bm L 5 S)).2.1 = (padv bm L 5 S).2.1 from rfl]; exact h_rd
    have h_tk : ws[qr + 3]? = some (atk, .inr (9, [.int (zI (tkK bm L ((pE bm L (5 + 6 * S.2.2.2 2) 0 (padv bm L 5 S)).2.2.1))), .int (zI ((pE bm L (5 + 6 * S.2.2.2 2) 0 (padv bm L 5 S)).2.2.1)), .int (zI (tkV bm L ((pE bm L (5 + 6 * S.2.2.2 2) 0 (padv bm L 5 S)).2.2.1))), .ref ain, .int (zI L), .int (zI (tkE bm L ((pE bm L (5 + 6 * S.2.2.2 2) 0 (padv bm L 5 S)).2.2.1)))])) := by rw [show (pE bm L (5 + 6 * S.2.2.2 2) 0 (padv bm L 5 S)).2.2.1 = (padv bm L 5 S).2.2.1 from rfl]; exact h_tk
    refine r_aload_n E 0 hl rfl dX7_readEquation_22 ?_
    refine r_iconst E dX7_readEquation_23 ?_
    refine r_bipush E dX7_readEquation_24 (by decide) ?_
    refine r_callVI E h (As := [.int (zI 1), .int (zI 9)]) (rest := []) (k_X7_takeNumber (S := pE bm L (5 + 6 * S.2.2.2 2) 0 (padv bm L 5 S)) l 1 9 h_rd h_tk h_in htx hbm hL hqi h0 hG (by omega)) h_rd rfl gX7_readEquation_X7_takeNumber rfl hd_X7_takeNumber (by decide) ⟨by decide, by decide⟩ hl.1 rfl (Nat.le_of_ble_eq_true rfl) dX7_readEquation_26 rfl (fun z_26 ws H locs hp h => ?_)
    obtain ⟨p_26, e_26, h_rd, h_tk, hf⟩ := hp
    have h_in := hf.at h_in (by first | omega | (dsimp only <;> omega))
    have h_rl := hf.at h_rl (by first | omega | (dsimp only <;> omega))
    have hE := hE.tr (hf.wk (fun j hj => by first | omega | (dsimp only at hj ⊢ <;> omega)))
    refine r_istore_n (lv' := [(1, .int (zI z_26)), (0, .ref ard)]) E hl dX7_readEquation_29 rfl (by decide) rfl (fun ls hl => ?_)
    refine r_iload_n E 0 hl rfl dX7_readEquation_30 ?_
    refine r_iconst E dX7_readEquation_31 ?_
    refine r_icmp_ne E 37 dX7_readEquation_32 (by decide) (by omega) (fun c_32 => ?_) (fun c_32 => ?_)
    · skip
      have hT0 : (pnum bm L 1 9 (pE bm L (5 + 6 * S.2.2.2 2) 0 (padv bm L 5 S))).1 = 0 := by omega
      have ep_26 : p_26 = (pnum bm L 1 9 (pE bm L (5 + 6 * S.2.2.2 2) 0 (padv bm L 5 S))).2.2.1 := by omega
      rw [ep_26] at h_tk
      have hzv0 : z_26 = pval bm L (pE bm L (5 + 6 * S.2.2.2 2) 0 (padv bm L 5 S)) := by omega
      have hGk := (PL.set (k := (5 + 6 * S.2.2.2 2) + 1 + (((0 : Nat) : Int))) (v := pval bm L (pE bm L (5 + 6 * S.2.2.2 2) 0 (padv bm L 5 S))) (pnum_PL (t := bm) (lo := 1) (hi := 9) hG).1 (by omega)).1
      have hG : PG L (pE bm L (5 + 6 * S.2.2.2 2) 1 (padv bm L 5 S)) := hGk
      have h0 : (pE bm L (5 + 6 * S.2.2.2 2) 1 (padv bm L 5 S)).1 = 0 := (pset_1 hT0).trans hT0
      have h_rd : ws[qr]? = some (ard, .inr (7, [.int (zI ((pE bm L (5 + 6 * S.2.2.2 2) 1 (padv bm L 5 S)).1)), .int (zI ((pE bm L (5 + 6 * S.2.2.2 2) 1 (padv bm L 5 S)).2.1)), .ref arc, .ref atk, .int (zI nm9), .int (zI cs9), .ref arl, .int (zI rt9), .ref apg, .int (zI n9)])) := by rw [show (pE bm L (5 + 6 * S.2.2.2 2) 1 (padv bm L 5 S)).1 = (pnum bm L 1 9 (pE bm L (5 + 6 * S.2.2.2 2) 0 (padv bm L 5 S))).1 from pset_1 hT0, show (pE bm L (5 + 6 * S.2.2.2 2) 1 (padv bm L 5 S)).2.1 = (pnum bm L 1 9 (pE bm L (5 + 6 * S.2.2.2 2) 0 (padv bm L 5 S))).2.1 from pset_2]; exact h_rd
      have h_tk : ws[qr + 3]? = some (atk, .inr (9, [.int (zI (tkK bm L ((pE bm L (5 + 6 * S.2.2.2 2) 1 (padv bm L 5 S)).2.2.1))), .int (zI ((pE bm L (5 + 6 * S.2.2.2 2) 1 (padv bm L 5 S)).2.2.1)), .int (zI (tkV bm L ((pE bm L (5 + 6 * S.2.2.2 2) 1 (padv bm L 5 S)).2.2.1))), .ref ain, .int (zI L), .int (zI (tkE bm L ((pE bm L (5 + 6 * S.2.2.2 2) 1 (padv bm L 5 S)).2.2.1)))])) := by rw [show (pE bm L (5 + 6 * S.2.2.2 2) 1 (padv bm L 5 S)).2.2.1 = (pnum bm L 1 9 (pE bm L (5 + 6 * S.2.2.2 2) 0 (padv bm L 5 S))).2.2.1 from pset_3]; exact h_tk
      have hgp := (hG.2 h0).1
      have htr := tk_rng htx hgp.2
      have hrow0 : (pE bm L (5 + 6 * S.2.2.2 2) 1 (padv bm L 5 S)).2.2.2 = uZ (pE bm L (5 + 6 * S.2.2.2 2) 0 (padv bm L 5 S)).2.2.2 ((5 + 6 * S.2.2.2 2) + 1 + ((0 : Nat) : Int)) (pval bm L (pE bm L (5 + 6 * S.2.2.2 2) 0 (padv bm L 5 S))) := (pset_4 hT0).trans (by rw [pnum_row])
      refine r_aload_n E 1 hl rfl dX7_readEquation_37 ?_
      refine r_iconst E dX7_readEquation_38 ?_
      refine r_bipush E dX7_readEquation_39 (by decide) ?_
      refine r_callVI E h (As := [.int (zI 1), .int (zI 9)]) (rest := []) (k_X7_takeNumber (S := pE bm L (5 + 6 * S.2.2.2 2) 1 (padv bm L 5 S)) l 1 9 h_rd h_tk h_in htx hbm hL hqi h0 hG (by omega)) h_rd rfl gX7_readEquation_X7_takeNumber rfl hd_X7_takeNumber (by decide) ⟨by decide, by decide⟩ hl.1 rfl (Nat.le_of_ble_eq_true rfl) dX7_readEquation_41 rfl (fun z_41 ws H locs hp h => ?_)
      obtain ⟨p_41, e_41, h_rd, h_tk, hf⟩ := hp
      have h_in := hf.at h_in (by first | omega | (dsimp only <;> omega))
      have h_rl := hf.at h_rl (by first | omega | (dsimp only <;> omega))
      have hE := hE.tr (hf.wk (fun j hj => by first | omega | (dsimp only at hj ⊢ <;> omega)))
      refine r_istore_n (lv' := [(2, .int (zI z_41)), (1, .int (zI z_26)), (0, .ref ard)]) E hl dX7_readEquation_44 rfl (by decide) rfl (fun ls hl => ?_)
      refine r_iload_n E 0 hl rfl dX7_readEquation_45 ?_
      refine r_iconst E dX7_readEquation_46 ?_
      refine r_icmp_ne E 52 dX7_readEquation_47 (by decide) (by omega) (fun c_47 => ?_) (fun c_47 => ?_)
      · skip
        have hT1 : (pnum bm L 1 9 (pE bm L (5 + 6 * S.2.2.2 2) 1 (padv bm L 5 S))).1 = 0 := by omega
        have ep_41 : p_41 = (pnum bm L 1 9 (pE bm L (5 + 6 * S.2.2.2 2) 1 (padv bm L 5 S))).2.2.1 := by omega
        rw [ep_41] at h_tk
        have hzv1 : z_41 = pval bm L (pE bm L (5 + 6 * S.2.2.2 2) 1 (padv bm L 5 S)) := by omega
        have hGk := (PL.set (k := (5 + 6 * S.2.2.2 2) + 1 + (((1 : Nat) : Int))) (v := pval bm L (pE bm L (5 + 6 * S.2.2.2 2) 1 (padv bm L 5 S))) (pnum_PL (t := bm) (lo := 1) (hi := 9) hG).1 (by omega)).1
        have hG : PG L (pE bm L (5 + 6 * S.2.2.2 2) 2 (padv bm L 5 S)) := hGk
        have h0 : (pE bm L (5 + 6 * S.2.2.2 2) 2 (padv bm L 5 S)).1 = 0 := (pset_1 hT1).trans hT1
        have h_rd : ws[qr]? = some (ard, .inr (7, [.int (zI ((pE bm L (5 + 6 * S.2.2.2 2) 2 (padv bm L 5 S)).1)), .int (zI ((pE bm L (5 + 6 * S.2.2.2 2) 2 (padv bm L 5 S)).2.1)), .ref arc, .ref atk, .int (zI nm9), .int (zI cs9), .ref arl, .int (zI rt9), .ref apg, .int (zI n9)])) := by rw [show (pE bm L (5 + 6 * S.2.2.2 2) 2 (padv bm L 5 S)).1 = (pnum bm L 1 9 (pE bm L (5 + 6 * S.2.2.2 2) 1 (padv bm L 5 S))).1 from pset_1 hT1, show (pE bm L (5 + 6 * S.2.2.2 2) 2 (padv bm L 5 S)).2.1 = (pnum bm L 1 9 (pE bm L (5 + 6 * S.2.2.2 2) 1 (padv bm L 5 S))).2.1 from pset_2]; exact h_rd
        have h_tk : ws[qr + 3]? = some (atk, .inr (9, [.int (zI (tkK bm L ((pE bm L (5 + 6 * S.2.2.2 2) 2 (padv bm L 5 S)).2.2.1))), .int (zI ((pE bm L (5 + 6 * S.2.2.2 2) 2 (padv bm L 5 S)).2.2.1)), .int (zI (tkV bm L ((pE bm L (5 + 6 * S.2.2.2 2) 2 (padv bm L 5 S)).2.2.1))), .ref ain, .int (zI L), .int (zI (tkE bm L ((pE bm L (5 + 6 * S.2.2.2 2) 2 (padv bm L 5 S)).2.2.1)))])) := by rw [show (pE bm L (5 + 6 * S.2.2.2 2) 2 (padv bm L 5 S)).2.2.1 = (pnum bm L 1 9 (pE bm L (5 + 6 * S.2.2.2 2) 1 (padv bm L 5 S))).2.2.1 from pset_3]; exact h_tk
        have hgp := (hG.2 h0).1
        have htr := tk_rng htx hgp.2
        have hrow1 : (pE bm L (5 + 6 * S.2.2.2 2) 2 (padv bm L 5 S)).2.2.2 = uZ (pE bm L (5 + 6 * S.2.2.2 2) 1 (padv bm L 5 S)).2.2.2 ((5 + 6 * S.2.2.2 2) + 1 + ((1 : Nat) : Int)) (pval bm L (pE bm L (5 + 6 * S.2.2.2 2) 1 (padv bm L 5 S))) := (pset_4 hT1).trans (by rw [pnum_row])
        refine r_aload_n E 2 hl rfl dX7_readEquation_52 ?_
        refine r_iconst E dX7_readEquation_53 ?_
        refine r_bipush E dX7_readEquation_54 (by decide) ?_
        refine r_callVI E h (As := [.int (zI 1), .int (zI 9)]) (rest := []) (k_X7_takeNumber (S := pE bm L (5 + 6 * S.2.2.2 2) 2 (padv bm L 5 S)) l 1 9 h_rd h_tk h_in htx hbm hL hqi h0 hG (by omega)) h_rd rfl gX7_readEquation_X7_takeNumber rfl hd_X7_takeNumber (by decide) ⟨by decide, by decide⟩ hl.1 rfl (Nat.le_of_ble_eq_true rfl) dX7_readEquation_56 rfl (fun z_56 ws H locs hp h => ?_)
        obtain ⟨p_56, e_56, h_rd, h_tk, hf⟩ := hp
        have h_in := hf.at h_in (by first | omega | (dsimp only <;> omega))
        have h_rl := hf.at h_rl (by first | omega | (dsimp only <;> omega))
        have hE := hE.tr (hf.wk (fun j hj => by first | omega | (dsimp only at hj ⊢ <;> omega)))
        refine r_istore_n (lv' := [(3, .int (zI z_56)), (2, .int (zI z_41)), (1, .int (zI z_26)), (0, .ref ard)]) E hl dX7_readEquation_59 rfl (by decide) rfl (fun ls hl => ?_)
        refine r_iload_n E 0 hl rfl dX7_readEquation_60 ?_
        refine r_iconst E dX7_readEquation_61 ?_
        refine r_icmp_ne E 67 dX7_readEquation_62 (by decide) (by omega) (fun c_62 => ?_) (fun c_62 => ?_)
        · skip
          have hT2 : (pnum bm L 1 9 (pE bm L (5 + 6 * S.2.2.2 2) 2 (padv bm L 5 S))).1 = 0 := by omega
          have ep_56 : p_56 = (pnum bm L 1 9 (pE bm L (5 + 6 * S.2.2.2 2) 2 (padv bm L 5 S))).2.2.1 := by omega
          rw [ep_56] at h_tk
          have hzv2 : z_56 = pval bm L (pE bm L (5 + 6 * S.2.2.2 2) 2 (padv bm L 5 S)) := by omega
          have hGk := (PL.set (k := (5 + 6 * S.2.2.2 2) + 1 + (((2 : Nat) : Int))) (v := pval bm L (pE bm L (5 + 6 * S.2.2.2 2) 2 (padv bm L 5 S))) (pnum_PL (t := bm) (lo := 1) (hi := 9) hG).1 (by omega)).1
          have hG : PG L (pE bm L (5 + 6 * S.2.2.2 2) 3 (padv bm L 5 S)) := hGk
          have h0 : (pE bm L (5 + 6 * S.2.2.2 2) 3 (padv bm L 5 S)).1 = 0 := (pset_1 hT2).trans hT2
          have h_rd : ws[qr]? = some (ard, .inr (7, [.int (zI ((pE bm L (5 + 6 * S.2.2.2 2) 3 (padv bm L 5 S)).1)), .int (zI ((pE bm L (5 + 6 * S.2.2.2 2) 3 (padv bm L 5 S)).2.1)), .ref arc, .ref atk, .int (zI nm9), .int (zI cs9), .ref arl, .int (zI rt9), .ref apg, .int (zI n9)])) := by rw [show (pE bm L (5 + 6 * S.2.2.2 2) 3 (padv bm L 5 S)).1 = (pnum bm L 1 9 (pE bm L (5 + 6 * S.2.2.2 2) 2 (padv bm L 5 S))).1 from pset_1 hT2, show (pE bm L (5 + 6 * S.2.2.2 2) 3 (padv bm L 5 S)).2.1 = (pnum bm L 1 9 (pE bm L (5 + 6 * S.2.2.2 2) 2 (padv bm L 5 S))).2.1 from pset_2]; exact h_rd
          have h_tk : ws[qr + 3]? = some (atk, .inr (9, [.int (zI (tkK bm L ((pE bm L (5 + 6 * S.2.2.2 2) 3 (padv bm L 5 S)).2.2.1))), .int (zI ((pE bm L (5 + 6 * S.2.2.2 2) 3 (padv bm L 5 S)).2.2.1)), .int (zI (tkV bm L ((pE bm L (5 + 6 * S.2.2.2 2) 3 (padv bm L 5 S)).2.2.1))), .ref ain, .int (zI L), .int (zI (tkE bm L ((pE bm L (5 + 6 * S.2.2.2 2) 3 (padv bm L 5 S)).2.2.1)))])) := by rw [show (pE bm L (5 + 6 * S.2.2.2 2) 3 (padv bm L 5 S)).2.2.1 = (pnum bm L 1 9 (pE bm L (5 + 6 * S.2.2.2 2) 2 (padv bm L 5 S))).2.2.1 from pset_3]; exact h_tk
          have hgp := (hG.2 h0).1
          have htr := tk_rng htx hgp.2
          have hrow2 : (pE bm L (5 + 6 * S.2.2.2 2) 3 (padv bm L 5 S)).2.2.2 = uZ (pE bm L (5 + 6 * S.2.2.2 2) 2 (padv bm L 5 S)).2.2.2 ((5 + 6 * S.2.2.2 2) + 1 + ((2 : Nat) : Int)) (pval bm L (pE bm L (5 + 6 * S.2.2.2 2) 2 (padv bm L 5 S))) := (pset_4 hT2).trans (by rw [pnum_row])
          refine r_aload_n E 3 hl rfl dX7_readEquation_67 ?_
          refine r_aload_n E 3 hl rfl dX7_readEquation_68 ?_
          refine r_get (v := .ref atk) E h h_rd rfl inn_X7_readEquation_7 3 (by decide) fl_X7_readEquation_28 rfl dX7_readEquation_69 ?_
          refine r_bipush E dX7_readEquation_72 (by decide) ?_
          refine r_callVI E h (As := [.int (zI 45)]) (rest := [.ref ard]) (k_X9_isSign l 45 h_tk htx (by omega) (by omega)) h_tk rfl gX7_readEquation_X9_isSign rfl hd_X9_isSign (by decide) ⟨by decide, by decide⟩ hl.1 rfl (Nat.le_of_ble_eq_true rfl) dX7_readEquation_74 rfl (fun z_74 ws H locs hp h => ?_)
          obtain ⟨e_z_74, rfl⟩ := hp
          refine r_callVI E h (As := [.int (zI z_74)]) (rest := []) (k_X7_skipIf l z_74 h_rd h_tk h_in htx hbm hL hqi (by omega) (by omega)) h_rd rfl gX7_readEquation_X7_skipIf rfl hd_X7_skipIf (by decide) ⟨by decide, by decide⟩ hl.1 rfl (Nat.le_of_ble_eq_true rfl) dX7_readEquation_77 rfl (fun z_77 ws H locs hp h => ?_)
          obtain ⟨p_77, e_77z, e_77, h_tk, hf⟩ := hp
          have h_rd := hf.at h_rd (by first | omega | (dsimp only <;> omega))
          have h_in := hf.at h_in (by first | omega | (dsimp only <;> omega))
          have h_rl := hf.at h_rl (by first | omega | (dsimp only <;> omega))
          have hE := hE.tr (hf.wk (fun j hj => by first | omega | (dsimp only at hj ⊢ <;> omega)))
          have hmin : ((pminS bm L (pE bm L (5 + 6 * S.2.2.2 2) 3 (padv bm L 5 S))).1 = (pE bm L (5 + 6 * S.2.2.2 2) 3 (padv bm L 5 S)).1 ∧ (pminS bm L (pE bm L (5 + 6 * S.2.2.2 2) 3 (padv bm L 5 S))).2.1 = (pE bm L (5 + 6 * S.2.2.2 2) 3 (padv bm L 5 S)).2.1 ∧ (pminS bm L (pE bm L (5 + 6 * S.2.2.2 2) 3 (padv bm L 5 S))).2.2.1 = p_77 ∧ (pminS bm L (pE bm L (5 + 6 * S.2.2.2 2) 3 (padv bm L 5 S))).2.2.2 = (pE bm L (5 + 6 * S.2.2.2 2) 3 (padv bm L 5 S)).2.2.2) ∧ (z_77 = 1 ∧ (∀ v : Int, pminB bm L (pE bm L (5 + 6 * S.2.2.2 2) 3 (padv bm L 5 S)) v = -v) ∨ z_77 = 0 ∧ ∀ v : Int, pminB bm L (pE bm L (5 + 6 * S.2.2.2 2) 3 (padv bm L 5 S)) v = v) := by
            rcases e_z_74 with ⟨q1, q2⟩ | ⟨q1, q2⟩
            · obtain ⟨q3, q4⟩ := pminS_y h0 q2
              rcases e_77 with ⟨q5, q6⟩ | ⟨q5, q6⟩
              · rw [q3, q6, tk_sE (by decide) q2]
                exact ⟨⟨h0.symm, rfl, rfl, rfl⟩, Or.inl ⟨by omega, q4⟩⟩
              · exact absurd q5 (by omega)
            · obtain ⟨q3, q4⟩ := pminS_n q2
              rcases e_77 with ⟨q5, q6⟩ | ⟨q5, q6⟩
              · exact absurd q5 (by omega)
              · rw [q3, q6]
                exact ⟨⟨rfl, rfl, rfl, rfl⟩, Or.inr ⟨by omega, q4⟩⟩
          clear e_77
          obtain ⟨⟨m1, m2, m3, m4⟩, hmb⟩ := hmin
          rw [← m3] at h_tk
          have h0A := h0
          have hG := (PL.min (t := bm) hG).1
          have h0 : (pminS bm L (pE bm L (5 + 6 * S.2.2.2 2) 3 (padv bm L 5 S))).1 = 0 := m1.trans h0
          have h_rd : ws[qr]? = some (ard, .inr (7, [.int (zI ((pminS bm L (pE bm L (5 + 6 * S.2.2.2 2) 3 (padv bm L 5 S))).1)), .int (zI ((pminS bm L (pE bm L (5 + 6 * S.2.2.2 2) 3 (padv bm L 5 S))).2.1)), .ref arc, .ref atk, .int (zI nm9), .int (zI cs9), .ref arl, .int (zI rt9), .ref apg, .int (zI n9)])) := by rw [m1, m2]; exact h_rd
          have h_tk : ws[qr + 3]? = some (atk, .inr (9, [.int (zI (tkK bm L ((pminS bm L (pE bm L (5 + 6 * S.2.2.2 2) 3 (padv bm L 5 S))).2.2.1))), .int (zI ((pminS bm L (pE bm L (5 + 6 * S.2.2.2 2) 3 (padv bm L 5 S))).2.2.1)), .int (zI (tkV bm L ((pminS bm L (pE bm L (5 + 6 * S.2.2.2 2) 3 (padv bm L 5 S))).2.2.1))), .ref ain, .int (zI L), .int (zI (tkE bm L ((pminS bm L (pE bm L (5 + 6 * S.2.2.2 2) 3 (padv bm L 5 S))).2.2.1)))])) := by rw [show (pminS bm L (pE bm L (5 + 6 * S.2.2.2 2) 3 (padv bm L 5 S))).2.2.1 = (pminS bm L (pE bm L (5 + 6 * S.2.2.2 2) 3 (padv bm L 5 S))).2.2.1 from rfl]; exact h_tk
          have hgp := (hG.2 h0).1
          have htr := tk_rng htx hgp.2
          refine r_istore (lv' := [(4, .int (zI z_77)), (3, .int (zI z_56)), (2, .int (zI z_41)), (1, .int (zI z_26)), (0, .ref ard)]) E hl dX7_readEquation_80 (by decide) rfl (fun ls hl => ?_)
          refine r_aload_n E 4 hl rfl dX7_readEquation_82 ?_
          refine r_iconst E dX7_readEquation_83 ?_
          refine r_bipush E dX7_readEquation_84 (by decide) ?_
          refine r_callVI E h (As := [.int (zI 0), .int (zI 99)]) (rest := []) (k_X7_takeNumber (S := pminS bm L (pE bm L (5 + 6 * S.2.2.2 2) 3 (padv bm L 5 S))) l 0 99 h_rd h_tk h_in htx hbm hL hqi h0 hG (by omega)) h_rd rfl gX7_readEquation_X7_takeNumber rfl hd_X7_takeNumber (by decide) ⟨by decide, by decide⟩ hl.1 rfl (Nat.le_of_ble_eq_true rfl) dX7_readEquation_86 rfl (fun z_86 ws H locs hp h => ?_)
          obtain ⟨p_86, e_86, h_rd, h_tk, hf⟩ := hp
          have h_in := hf.at h_in (by first | omega | (dsimp only <;> omega))
          have h_rl := hf.at h_rl (by first | omega | (dsimp only <;> omega))
          have hE := hE.tr (hf.wk (fun j hj => by first | omega | (dsimp only at hj ⊢ <;> omega)))
          refine r_istore (lv' := [(5, .int (zI z_86)), (4, .int (zI z_77)), (3, .int (zI z_56)), (2, .int (zI z_41)), (1, .int (zI z_26)), (0, .ref ard)]) E hl dX7_readEquation_89 (by decide) rfl (fun ls hl => ?_)
          refine r_iload E 0 hl rfl dX7_readEquation_91 ?_
          refine r_iconst E dX7_readEquation_93 ?_
          refine r_icmp_ne E 99 dX7_readEquation_94 (by decide) (by omega) (fun c_94 => ?_) (fun c_94 => ?_)
          · skip
            have hT4 : (pnum bm L 0 99 (pminS bm L (pE bm L (5 + 6 * S.2.2.2 2) 3 (padv bm L 5 S)))).1 = 0 := by omega
            have ep_86 : p_86 = (pnum bm L 0 99 (pminS bm L (pE bm L (5 + 6 * S.2.2.2 2) 3 (padv bm L 5 S)))).2.2.1 := by omega
            rw [ep_86] at h_tk
            have hzv4 : z_86 = pval bm L (pminS bm L (pE bm L (5 + 6 * S.2.2.2 2) 3 (padv bm L 5 S))) := by omega
            have hGk := (PL.set (k := (5 + 6 * S.2.2.2 2) + 4) (v := pminB bm L (pE bm L (5 + 6 * S.2.2.2 2) 3 (padv bm L 5 S)) (pval bm L (pminS bm L (pE bm L (5 + 6 * S.2.2.2 2) 3 (padv bm L 5 S))))) (pnum_PL (t := bm) (lo := 0) (hi := 99) hG).1 (by omega)).1
            have hG : PG L (pEqB bm L (5 + 6 * S.2.2.2 2) (pE bm L (5 + 6 * S.2.2.2 2) 3 (padv bm L 5 S))) := hGk
            have h0 : (pEqB bm L (5 + 6 * S.2.2.2 2) (pE bm L (5 + 6 * S.2.2.2 2) 3 (padv bm L 5 S))).1 = 0 := (pset_1 hT4).trans hT4
            have h_rd : ws[qr]? = some (ard, .inr (7, [.int (zI ((pEqB bm L (5 + 6 * S.2.2.2 2) (pE bm L (5 + 6 * S.2.2.2 2) 3 (padv bm L 5 S))).1)), .int (zI ((pEqB bm L (5 + 6 * S.2.2.2 2) (pE bm L (5 + 6 * S.2.2.2 2) 3 (padv bm L 5 S))).2.1)), .ref arc, .ref atk, .int (zI nm9), .int (zI cs9), .ref arl, .int (zI rt9), .ref apg, .int (zI n9)])) := by rw [show (pEqB bm L (5 + 6 * S.2.2.2 2) (pE bm L (5 + 6 * S.2.2.2 2) 3 (padv bm L 5 S))).1 = (pnum bm L 0 99 (pminS bm L (pE bm L (5 + 6 * S.2.2.2 2) 3 (padv bm L 5 S)))).1 from pset_1 hT4, show (pEqB bm L (5 + 6 * S.2.2.2 2) (pE bm L (5 + 6 * S.2.2.2 2) 3 (padv bm L 5 S))).2.1 = (pnum bm L 0 99 (pminS bm L (pE bm L (5 + 6 * S.2.2.2 2) 3 (padv bm L 5 S)))).2.1 from pset_2]; exact h_rd
            have h_tk : ws[qr + 3]? = some (atk, .inr (9, [.int (zI (tkK bm L ((pEqB bm L (5 + 6 * S.2.2.2 2) (pE bm L (5 + 6 * S.2.2.2 2) 3 (padv bm L 5 S))).2.2.1))), .int (zI ((pEqB bm L (5 + 6 * S.2.2.2 2) (pE bm L (5 + 6 * S.2.2.2 2) 3 (padv bm L 5 S))).2.2.1)), .int (zI (tkV bm L ((pEqB bm L (5 + 6 * S.2.2.2 2) (pE bm L (5 + 6 * S.2.2.2 2) 3 (padv bm L 5 S))).2.2.1))), .ref ain, .int (zI L), .int (zI (tkE bm L ((pEqB bm L (5 + 6 * S.2.2.2 2) (pE bm L (5 + 6 * S.2.2.2 2) 3 (padv bm L 5 S))).2.2.1)))])) := by rw [show (pEqB bm L (5 + 6 * S.2.2.2 2) (pE bm L (5 + 6 * S.2.2.2 2) 3 (padv bm L 5 S))).2.2.1 = (pnum bm L 0 99 (pminS bm L (pE bm L (5 + 6 * S.2.2.2 2) 3 (padv bm L 5 S)))).2.2.1 from pset_3]; exact h_tk
            have hgp := (hG.2 h0).1
            have htr := tk_rng htx hgp.2
            have hrowB : (pEqB bm L (5 + 6 * S.2.2.2 2) (pE bm L (5 + 6 * S.2.2.2 2) 3 (padv bm L 5 S))).2.2.2 = uZ (pE bm L (5 + 6 * S.2.2.2 2) 3 (padv bm L 5 S)).2.2.2 ((5 + 6 * S.2.2.2 2) + 4) (pminB bm L (pE bm L (5 + 6 * S.2.2.2 2) 3 (padv bm L 5 S)) (pval bm L (pminS bm L (pE bm L (5 + 6 * S.2.2.2 2) 3 (padv bm L 5 S))))) := (pset_4 hT4).trans (by rw [pnum_row, m4])
            refine r_aload_n E 5 hl rfl dX7_readEquation_99 ?_
            refine r_aload_n E 5 hl rfl dX7_readEquation_100 ?_
            refine r_get (v := .ref atk) E h h_rd rfl inn_X7_readEquation_7 3 (by decide) fl_X7_readEquation_28 rfl dX7_readEquation_101 ?_
            refine r_ldcS E hX.1 (i := 3) (tx := "distinct") (by decide +kernel) dX7_readEquation_104 ?_
            refine r_callVkI E hX h (As := [.ref (cy (100 + 3))]) (rest := [.ref ard]) (k_X9_isWord l 3 h_tk h_in htx hbm hL (by omega) (by decide)) h_tk rfl gX7_readEquation_X9_isWord rfl hd_X9_isWord (by decide) ⟨by decide, by decide⟩ hl.1 rfl (Nat.le_of_ble_eq_true rfl) dX7_readEquation_106 rfl (fun z_106 ws H locs hp h => ?_)
            obtain ⟨e_z_106, rfl⟩ := hp
            refine r_callVI E h (As := [.int (zI z_106)]) (rest := []) (k_X7_skipIf l z_106 h_rd h_tk h_in htx hbm hL hqi (by omega) (by omega)) h_rd rfl gX7_readEquation_X7_skipIf rfl hd_X7_skipIf (by decide) ⟨by decide, by decide⟩ hl.1 rfl (Nat.le_of_ble_eq_true rfl) dX7_readEquation_109 rfl (fun z_109 ws H locs hp h => ?_)
            obtain ⟨p_109, e_109z, e_109, h_tk, hf⟩ := hp
            have h_rd := hf.at h_rd (by first | omega | (dsimp only <;> omega))
            have h_in := hf.at h_in (by first | omega | (dsimp only <;> omega))
            have h_rl := hf.at h_rl (by first | omega | (dsimp only <;> omega))
            have hE := hE.tr (hf.wk (fun j hj => by first | omega | (dsimp only at hj ⊢ <;> omega)))
            have hwd : (((pwrd bm L 3 (pEqB bm L (5 + 6 * S.2.2.2 2) (pE bm L (5 + 6 * S.2.2.2 2) 3 (padv bm L 5 S)))).1 = (pEqB bm L (5 + 6 * S.2.2.2 2) (pE bm L (5 + 6 * S.2.2.2 2) 3 (padv bm L 5 S))).1 ∧ (pwrd bm L 3 (pEqB bm L (5 + 6 * S.2.2.2 2) (pE bm L (5 + 6 * S.2.2.2 2) 3 (padv bm L 5 S)))).2.1 = (pEqB bm L (5 + 6 * S.2.2.2 2) (pE bm L (5 + 6 * S.2.2.2 2) 3 (padv bm L 5 S))).2.1 ∧ (pwrd bm L 3 (pEqB bm L (5 + 6 * S.2.2.2 2) (pE bm L (5 + 6 * S.2.2.2 2) 3 (padv bm L 5 S)))).2.2.1 = p_109 ∧ (pwrd bm L 3 (pEqB bm L (5 + 6 * S.2.2.2 2) (pE bm L (5 + 6 * S.2.2.2 2) 3 (padv bm L 5 S)))).2.2.2 = (pEqB bm L (5 + 6 * S.2.2.2 2) (pE bm L (5 + 6 * S.2.2.2 2) 3 (padv bm L 5 S))).2.2.2) ∧ z_109 = pwb bm L 3 (pEqB bm L (5 + 6 * S.2.2.2 2) (pE bm L (5 + 6 * S.2.2.2 2) 3 (padv bm L 5 S))) ∧ (z_109 = 0 ∨ z_109 = 1)) := by
              rcases e_z_106 with ⟨q1, q2⟩ | ⟨q1, q2⟩
              · obtain ⟨q3, q4⟩ := pwrd_y h0 q2
                rcases e_109 with ⟨q5, q6⟩ | ⟨q5, q6⟩
                · rw [q3, q4, q6, tk_wE (by decide) hgp.2 q2]
                  exact ⟨⟨rfl, rfl, rfl, rfl⟩, by omega, by omega⟩
                · exact absurd q5 (by omega)
              · obtain ⟨q3, q4⟩ := pwrd_n q2
                rcases e_109 with ⟨q5, q6⟩ | ⟨q5, q6⟩
                · exact absurd q5 (by omega)
                · rw [q3, q4, q6]
                  exact ⟨⟨rfl, rfl, rfl, rfl⟩, by omega, by omega⟩
            clear e_109
            obtain ⟨⟨w1, w2, w3, w4⟩, hwb, hw01⟩ := hwd
            rw [← w3] at h_tk
            have hWD : (pwrd bm L 3 (pEqB bm L (5 + 6 * S.2.2.2 2) (pE bm L (5 + 6 * S.2.2.2 2) 3 (padv bm L 5 S)))).1 = 0 := w1.trans h0
            have hCC : (pEqC bm L (5 + 6 * S.2.2.2 2) (pEqB bm L (5 + 6 * S.2.2.2 2) (pE bm L (5 + 6 * S.2.2.2 2) 3 (padv bm L 5 S)))).1 = 0 := (pset_1 hWD).trans hWD
            have hrowC : (pEqC bm L (5 + 6 * S.2.2.2 2) (pEqB bm L (5 + 6 * S.2.2.2 2) (pE bm L (5 + 6 * S.2.2.2 2) 3 (padv bm L 5 S)))).2.2.2 = uZ (pEqB bm L (5 + 6 * S.2.2.2 2) (pE bm L (5 + 6 * S.2.2.2 2) 3 (padv bm L 5 S))).2.2.2 ((5 + 6 * S.2.2.2 2) + 5) (pwb bm L 3 (pEqB bm L (5 + 6 * S.2.2.2 2) (pE bm L (5 + 6 * S.2.2.2 2) 3 (padv bm L 5 S)))) := (pset_4 hWD).trans (by rw [w4])
            have h_rd : ws[qr]? = some (ard, .inr (7, [.int (zI ((pEqC bm L (5 + 6 * S.2.2.2 2) (pEqB bm L (5 + 6 * S.2.2.2 2) (pE bm L (5 + 6 * S.2.2.2 2) 3 (padv bm L 5 S)))).1)), .int (zI ((pEqC bm L (5 + 6 * S.2.2.2 2) (pEqB bm L (5 + 6 * S.2.2.2 2) (pE bm L (5 + 6 * S.2.2.2 2) 3 (padv bm L 5 S)))).2.1)), .ref arc, .ref atk, .int (zI nm9), .int (zI cs9), .ref arl, .int (zI rt9), .ref apg, .int (zI n9)])) := by rw [show (pEqC bm L (5 + 6 * S.2.2.2 2) (pEqB bm L (5 + 6 * S.2.2.2 2) (pE bm L (5 + 6 * S.2.2.2 2) 3 (padv bm L 5 S)))).1 = (pEqB bm L (5 + 6 * S.2.2.2 2) (pE bm L (5 + 6 * S.2.2.2 2) 3 (padv bm L 5 S))).1 from (pset_1 hWD).trans w1, show (pEqC bm L (5 + 6 * S.2.2.2 2) (pEqB bm L (5 + 6 * S.2.2.2 2) (pE bm L (5 + 6 * S.2.2.2 2) 3 (padv bm L 5 S)))).2.1 = (pEqB bm L (5 + 6 * S.2.2.2 2) (pE bm L (5 + 6 * S.2.2.2 2) 3 (padv bm L 5 S))).2.1 from pset_2.trans w2]; exact h_rd
            have h_tk : ws[qr + 3]? = some (atk, .inr (9, [.int (zI (tkK bm L ((pEqC bm L (5 + 6 * S.2.2.2 2) (pEqB bm L (5 + 6 * S.2.2.2 2) (pE bm L (5 + 6 * S.2.2.2 2) 3 (padv bm L 5 S)))).2.2.1))), .int (zI ((pEqC bm L (5 + 6 * S.2.2.2 2) (pEqB bm L (5 + 6 * S.2.2.2 2) (pE bm L (5 + 6 * S.2.2.2 2) 3 (padv bm L 5 S)))).2.2.1)), .int (zI (tkV bm L ((pEqC bm L (5 + 6 * S.2.2.2 2) (pEqB bm L (5 + 6 * S.2.2.2 2) (pE bm L (5 + 6 * S.2.2.2 2) 3 (padv bm L 5 S)))).2.2.1))), .ref ain, .int (zI L), .int (zI (tkE bm L ((pEqC bm L (5 + 6 * S.2.2.2 2) (pEqB bm L (5 + 6 * S.2.2.2 2) (pE bm L (5 + 6 * S.2.2.2 2) 3 (padv bm L 5 S)))).2.2.1)))])) := by rw [show (pEqC bm L (5 + 6 * S.2.2.2 2) (pEqB bm L (5 + 6 * S.2.2.2 2) (pE bm L (5 + 6 * S.2.2.2 2) 3 (padv bm L 5 S)))).2.2.1 = (pwrd bm L 3 (pEqB bm L (5 + 6 * S.2.2.2 2) (pE bm L (5 + 6 * S.2.2.2 2) 3 (padv bm L 5 S)))).2.2.1 from pset_3]; exact h_tk
            refine r_istore (lv' := [(6, .int (zI z_109)), (5, .int (zI z_86)), (4, .int (zI z_77)), (3, .int (zI z_56)), (2, .int (zI z_41)), (1, .int (zI z_26)), (0, .ref ard)]) E hl dX7_readEquation_112 (by decide) rfl (fun ls hl => ?_)
            refine r_aload_n E 6 hl rfl dX7_readEquation_114 ?_
            obtain ⟨B1, hlen⟩ : ∃ b9 : Nat, ws.length = b9 := ⟨_, rfl⟩
            have hB1 : B ≤ B1 := by have := hE.1; omega
            refine r_newO (ci := 4) (fs := [.int (zI 0), .int (zI 0), .int (zI 0), .int (zI 0), .int (zI 0), .int (zI 0)]) E h rfl inn_X7_readEquation_4 tyX4 tyX4_ok (List.mem_of_getElem? (i := 3) rfl) (List.mem_of_getElem? (i := 4) rfl) (List.mem_of_getElem? (i := 5) rfl) (fun j hj => by rcases (show j = 0 ∨ j = 1 ∨ j = 2 ∨ j = 3 ∨ j = 4 ∨ j = 5 by omega) with rfl | rfl | rfl | rfl | rfl | rfl <;> rfl) (by decide) (by decide) dX7_readEquation_115 (fun a_115 ws H hu h => ?_)
            have h_rd := hu.keep h_rd
            have h_tk := hu.keep h_tk
            have h_in := hu.keep h_in
            have h_rl := hu.keep h_rl
            have h_n115 : ws[B1]? = some (a_115, .inr (4, [.int (zI 0), .int (zI 0), .int (zI 0), .int (zI 0), .int (zI 0), .int (zI 0)])) := by have h9 := hu.new; rwa [hlen] at h9
            have hlen : ws.length = B1 + 1 := by have h9 := hu.len; omega
            have hE := hE.tr hu.eqx
            refine r_dup E dX7_readEquation_118 rfl ?_
            refine r_iload_n E 5 hl rfl dX7_readEquation_119 ?_
            refine r_iload_n E 4 hl rfl dX7_readEquation_120 ?_
            refine r_iload_n E 3 hl rfl dX7_readEquation_121 ?_
            refine r_iload E 2 hl rfl dX7_readEquation_122 ?_
            refine r_if_eq E 133 dX7_readEquation_124 (by decide) (by omega) (fun c_124 => ?_) (fun c_124 => ?_)
            · skip
              refine r_iload E 1 hl rfl dX7_readEquation_133 ?_
              refine r_iload E 0 hl rfl dX7_readEquation_135 ?_
              refine r_callI E h (As := [.int (zI z_26), .int (zI z_41), .int (zI z_56), .int (zI z_86), .int (zI z_109)]) (rest := [.ref a_115, .ref ard]) (k_X4_init_ l z_26 z_41 z_56 z_86 z_109 h_n115 (by omega)) gX7_readEquation_X4_init_ rfl (List.mem_of_getElem? (i := 5) rfl) (List.mem_of_getElem? (i := 97) rfl) (List.mem_of_getElem? (i := 98) rfl) rfl hd_X4_init_ (by decide) ⟨by decide, by decide⟩ hl.1 rfl (Nat.le_of_ble_eq_true rfl) dX7_readEquation_137 rfl (fun ws H locs hp h => ?_)
              obtain ⟨h_n115, hf⟩ := hp
              have h_rd := hf.at h_rd (by first | omega | (dsimp only <;> omega))
              have h_tk := hf.at h_tk (by first | omega | (dsimp only <;> omega))
              have h_in := hf.at h_in (by first | omega | (dsimp only <;> omega))
              have h_rl := hf.at h_rl (by first | omega | (dsimp only <;> omega))
              obtain ⟨B9, hlen⟩ : ∃ b9 : Nat, ws.length = b9 := ⟨_, rfl⟩
              have hE := hE.trG hf (fun j hj hY => by first | omega | (dsimp only at hY ⊢ <;> omega))
              refine r_callVV E h (As := [.ref a_115]) (rest := []) (k_X7_keepRule l h_rd h_rl h_n115 (by omega) (by omega)) h_rd rfl gX7_readEquation_X7_keepRule rfl hd_X7_keepRule (by decide) ⟨by decide, by decide⟩ hl.1 rfl (Nat.le_of_ble_eq_true rfl) dX7_readEquation_140 rfl (fun ws H locs hp h => ?_)
              obtain ⟨h_rd, h_rl, hf⟩ := hp
              have h_tk := hf.at h_tk (by first | omega | (dsimp only <;> omega))
              have h_in := hf.at h_in (by first | omega | (dsimp only <;> omega))
              have h_n115 := hf.at h_n115 (by first | omega | (dsimp only <;> omega))
              have hE := hE.tr (hf.wk (fun j hj => by first | omega | (dsimp only at hj ⊢ <;> omega)))
              refine r_iconst E dX7_readEquation_143 ?_
              refine W.widen (k := 1) (n := 6) (by decide) (by decide) ?_
              exact r_zret E h (by omega) (by
  rw [pRule_e (S := padv bm L 5 S) h0s h24 rfl]
  show KQ cy ws0 qr ard arc atk arl apg ain nm9 cs9 rt9 n9 rlf bm L B0 S.2.2.2 (pinc (pEqC bm L (5 + 6 * S.2.2.2 2) (pEqB bm L (5 + 6 * S.2.2.2 2) (pE bm L (5 + 6 * S.2.2.2 2) 3 (padv bm L 5 S))))) _ _
  obtain ⟨i1, i2, i3, i4⟩ := pinc_1 hCC
  have hg2 : (pEqC bm L (5 + 6 * S.2.2.2 2) (pEqB bm L (5 + 6 * S.2.2.2 2) (pE bm L (5 + 6 * S.2.2.2 2) 3 (padv bm L 5 S)))).2.2.2 = uZ (uZ (uZ (uZ (uZ S.2.2.2 ((5 + 6 * S.2.2.2 2) + 1 + ((0 : Nat) : Int)) (pval bm L (pE bm L (5 + 6 * S.2.2.2 2) 0 (padv bm L 5 S)))) ((5 + 6 * S.2.2.2 2) + 1 + ((1 : Nat) : Int)) (pval bm L (pE bm L (5 + 6 * S.2.2.2 2) 1 (padv bm L 5 S)))) ((5 + 6 * S.2.2.2 2) + 1 + ((2 : Nat) : Int)) (pval bm L (pE bm L (5 + 6 * S.2.2.2 2) 2 (padv bm L 5 S)))) ((5 + 6 * S.2.2.2 2) + 4) (pminB bm L (pE bm L (5 + 6 * S.2.2.2 2) 3 (padv bm L 5 S)) (pval bm L (pminS bm L (pE bm L (5 + 6 * S.2.2.2 2) 3 (padv bm L 5 S)))))) ((5 + 6 * S.2.2.2 2) + 5) (pwb bm L 3 (pEqB bm L (5 + 6 * S.2.2.2 2) (pE bm L (5 + 6 * S.2.2.2 2) 3 (padv bm L 5 S)))) := by
    rw [hrowC, hrowB, hrow2, hrow1, hrow0]
    rfl
  have hz5 := hV.2.2.2.2 (5 + 6 * S.2.2.2 2) (by omega) (by omega)
  have j0 : (pinc (pEqC bm L (5 + 6 * S.2.2.2 2) (pEqB bm L (5 + 6 * S.2.2.2 2) (pE bm L (5 + 6 * S.2.2.2 2) 3 (padv bm L 5 S))))).2.2.2 (5 + 6 * rt9) = 0 := by
    rw [i4, hg2, hrt, uZ_n (by omega), uZ_n (by omega), uZ_n (by omega), uZ_n (by omega), uZ_n (by omega), uZ_n (by omega)]; exact hz5
  have j1 : (pinc (pEqC bm L (5 + 6 * S.2.2.2 2) (pEqB bm L (5 + 6 * S.2.2.2 2) (pE bm L (5 + 6 * S.2.2.2 2) 3 (padv bm L 5 S))))).2.2.2 (6 + 6 * rt9) = z_26 := by
    rw [i4, hg2, hrt, uZ_n (by omega), uZ_n (by omega), uZ_n (by omega), uZ_n (by omega), uZ_n (by omega), show 6 + 6 * S.2.2.2 2 = (5 + 6 * S.2.2.2 2) + 1 + ((0 : Nat) : Int) by omega, uZ_s]; exact hzv0.symm
  have j2 : (pinc (pEqC bm L (5 + 6 * S.2.2.2 2) (pEqB bm L (5 + 6 * S.2.2.2 2) (pE bm L (5 + 6 * S.2.2.2 2) 3 (padv bm L 5 S))))).2.2.2 (7 + 6 * rt9) = z_41 := by
    rw [i4, hg2, hrt, uZ_n (by omega), uZ_n (by omega), uZ_n (by omega), uZ_n (by omega), show 7 + 6 * S.2.2.2 2 = (5 + 6 * S.2.2.2 2) + 1 + ((1 : Nat) : Int) by omega, uZ_s]; exact hzv1.symm
  have j3 : (pinc (pEqC bm L (5 + 6 * S.2.2.2 2) (pEqB bm L (5 + 6 * S.2.2.2 2) (pE bm L (5 + 6 * S.2.2.2 2) 3 (padv bm L 5 S))))).2.2.2 (8 + 6 * rt9) = z_56 := by
    rw [i4, hg2, hrt, uZ_n (by omega), uZ_n (by omega), uZ_n (by omega), show 8 + 6 * S.2.2.2 2 = (5 + 6 * S.2.2.2 2) + 1 + ((2 : Nat) : Int) by omega, uZ_s]; exact hzv2.symm
  have j4 : (pinc (pEqC bm L (5 + 6 * S.2.2.2 2) (pEqB bm L (5 + 6 * S.2.2.2 2) (pE bm L (5 + 6 * S.2.2.2 2) 3 (padv bm L 5 S))))).2.2.2 (9 + 6 * rt9) = z_86 := by
    rw [i4, hg2, hrt, uZ_n (by omega), uZ_n (by omega), show 9 + 6 * S.2.2.2 2 = (5 + 6 * S.2.2.2 2) + 4 by omega, uZ_s, ← hzv4]
    rcases hmb with ⟨q1, q2⟩ | ⟨q1, q2⟩
    · first | exact q2 _ | exact absurd q1 (by omega)
    · first | exact q2 _ | exact absurd q1 (by omega)
  have j5 : (pinc (pEqC bm L (5 + 6 * S.2.2.2 2) (pEqB bm L (5 + 6 * S.2.2.2 2) (pE bm L (5 + 6 * S.2.2.2 2) 3 (padv bm L 5 S))))).2.2.2 (10 + 6 * rt9) = z_109 := by
    rw [i4, hg2, hrt, uZ_n (by omega), show 10 + 6 * S.2.2.2 2 = (5 + 6 * S.2.2.2 2) + 5 by omega, uZ_s]; exact hwb.symm
  have hfr : (pinc (pEqC bm L (5 + 6 * S.2.2.2 2) (pEqB bm L (5 + 6 * S.2.2.2 2) (pE bm L (5 + 6 * S.2.2.2 2) 3 (padv bm L 5 S))))).2.2.2 2 = S.2.2.2 2 + 1 ∧ ∀ j : Int, j ≠ 2 → (j < 5 + 6 * rt9 ∨ 10 + 6 * rt9 < j) → (pinc (pEqC bm L (5 + 6 * S.2.2.2 2) (pEqB bm L (5 + 6 * S.2.2.2 2) (pE bm L (5 + 6 * S.2.2.2 2) 3 (padv bm L 5 S))))).2.2.2 j = S.2.2.2 j := by
    refine ⟨?_, fun j q1 q2 => ?_⟩
    · rw [i4, uZ_s, hg2, uZ_n (by omega), uZ_n (by omega), uZ_n (by omega), uZ_n (by omega), uZ_n (by omega)]
    · rw [i4, uZ_n q1, hg2, uZ_n (by omega), uZ_n (by omega), uZ_n (by omega), uZ_n (by omega), uZ_n (by omega)]
  refine ⟨_, _, _, Or.inl ⟨rfl, i1, i3.symm, rfl, hfr, _, _, rfl, (by omega : B0 ≤ B1), ?_⟩, ?_, h_tk, h_rl, hE⟩
  · exact ⟨_, _, _, _, _, by rw [j0]; exact h_n115, fun _ => ⟨j1.symm, j2.symm, j3.symm, j4.symm, j5.symm⟩⟩
  · rw [i1, i2, ← hCC]; exact h_rd) dX7_readEquation_144
            · skip
              refine r_iload E 1 hl rfl dX7_readEquation_127 ?_
              refine r_ineg E dX7_readEquation_129 ?_
              refine r_goto E 135 dX7_readEquation_130 (by decide) ?_
              refine r_iload E 0 hl rfl dX7_readEquation_135 ?_
              refine r_callI E h (As := [.int (zI z_26), .int (zI z_41), .int (zI z_56), .int (zI (-z_86)), .int (zI z_109)]) (rest := [.ref a_115, .ref ard]) (k_X4_init_ l z_26 z_41 z_56 (-z_86) z_109 h_n115 (by omega)) gX7_readEquation_X4_init_ rfl (List.mem_of_getElem? (i := 5) rfl) (List.mem_of_getElem? (i := 97) rfl) (List.mem_of_getElem? (i := 98) rfl) rfl hd_X4_init_ (by decide) ⟨by decide, by decide⟩ hl.1 rfl (Nat.le_of_ble_eq_true rfl) dX7_readEquation_137 rfl (fun ws H locs hp h => ?_)
              obtain ⟨h_n115, hf⟩ := hp
              have h_rd := hf.at h_rd (by first | omega | (dsimp only <;> omega))
              have h_tk := hf.at h_tk (by first | omega | (dsimp only <;> omega))
              have h_in := hf.at h_in (by first | omega | (dsimp only <;> omega))
              have h_rl := hf.at h_rl (by first | omega | (dsimp only <;> omega))
              obtain ⟨B9, hlen⟩ : ∃ b9 : Nat, ws.length = b9 := ⟨_, rfl⟩
              have hE := hE.trG hf (fun j hj hY => by first | omega | (dsimp only at hY ⊢ <;> omega))
              refine r_callVV E h (As := [.ref a_115]) (rest := []) (k_X7_keepRule l h_rd h_rl h_n115 (by omega) (by omega)) h_rd rfl gX7_readEquation_X7_keepRule rfl hd_X7_keepRule (by decide) ⟨by decide, by decide⟩ hl.1 rfl (Nat.le_of_ble_eq_true rfl) dX7_readEquation_140 rfl (fun ws H locs hp h => ?_)
              obtain ⟨h_rd, h_rl, hf⟩ := hp
              have h_tk := hf.at h_tk (by first | omega | (dsimp only <;> omega))
              have h_in := hf.at h_in (by first | omega | (dsimp only <;> omega))
              have h_n115 := hf.at h_n115 (by first | omega | (dsimp only <;> omega))
              have hE := hE.tr (hf.wk (fun j hj => by first | omega | (dsimp only at hj ⊢ <;> omega)))
              refine r_iconst E dX7_readEquation_143 ?_
              refine W.widen (k := 1) (n := 6) (by decide) (by decide) ?_
              exact r_zret E h (by omega) (by
  rw [pRule_e (S := padv bm L 5 S) h0s h24 rfl]
  show KQ cy ws0 qr ard arc atk arl apg ain nm9 cs9 rt9 n9 rlf bm L B0 S.2.2.2 (pinc (pEqC bm L (5 + 6 * S.2.2.2 2) (pEqB bm L (5 + 6 * S.2.2.2 2) (pE bm L (5 + 6 * S.2.2.2 2) 3 (padv bm L 5 S))))) _ _
  obtain ⟨i1, i2, i3, i4⟩ := pinc_1 hCC
  have hg2 : (pEqC bm L (5 + 6 * S.2.2.2 2) (pEqB bm L (5 + 6 * S.2.2.2 2) (pE bm L (5 + 6 * S.2.2.2 2) 3 (padv bm L 5 S)))).2.2.2 = uZ (uZ (uZ (uZ (uZ S.2.2.2 ((5 + 6 * S.2.2.2 2) + 1 + ((0 : Nat) : Int)) (pval bm L (pE bm L (5 + 6 * S.2.2.2 2) 0 (padv bm L 5 S)))) ((5 + 6 * S.2.2.2 2) + 1 + ((1 : Nat) : Int)) (pval bm L (pE bm L (5 + 6 * S.2.2.2 2) 1 (padv bm L 5 S)))) ((5 + 6 * S.2.2.2 2) + 1 + ((2 : Nat) : Int)) (pval bm L (pE bm L (5 + 6 * S.2.2.2 2) 2 (padv bm L 5 S)))) ((5 + 6 * S.2.2.2 2) + 4) (pminB bm L (pE bm L (5 + 6 * S.2.2.2 2) 3 (padv bm L 5 S)) (pval bm L (pminS bm L (pE bm L (5 + 6 * S.2.2.2 2) 3 (padv bm L 5 S)))))) ((5 + 6 * S.2.2.2 2) + 5) (pwb bm L 3 (pEqB bm L (5 + 6 * S.2.2.2 2) (pE bm L (5 + 6 * S.2.2.2 2) 3 (padv bm L 5 S)))) := by
    rw [hrowC, hrowB, hrow2, hrow1, hrow0]
    rfl
  have hz5 := hV.2.2.2.2 (5 + 6 * S.2.2.2 2) (by omega) (by omega)
  have j0 : (pinc (pEqC bm L (5 + 6 * S.2.2.2 2) (pEqB bm L (5 + 6 * S.2.2.2 2) (pE bm L (5 + 6 * S.2.2.2 2) 3 (padv bm L 5 S))))).2.2.2 (5 + 6 * rt9) = 0 := by
    rw [i4, hg2, hrt, uZ_n (by omega), uZ_n (by omega), uZ_n (by omega), uZ_n (by omega), uZ_n (by omega), uZ_n (by omega)]; exact hz5
  have j1 : (pinc (pEqC bm L (5 + 6 * S.2.2.2 2) (pEqB bm L (5 + 6 * S.2.2.2 2) (pE bm L (5 + 6 * S.2.2.2 2) 3 (padv bm L 5 S))))).2.2.2 (6 + 6 * rt9) = z_26 := by
    rw [i4, hg2, hrt, uZ_n (by omega), uZ_n (by omega), uZ_n (by omega), uZ_n (by omega), uZ_n (by omega), show 6 + 6 * S.2.2.2 2 = (5 + 6 * S.2.2.2 2) + 1 + ((0 : Nat) : Int) by omega, uZ_s]; exact hzv0.symm
  have j2 : (pinc (pEqC bm L (5 + 6 * S.2.2.2 2) (pEqB bm L (5 + 6 * S.2.2.2 2) (pE bm L (5 + 6 * S.2.2.2 2) 3 (padv bm L 5 S))))).2.2.2 (7 + 6 * rt9) = z_41 := by
    rw [i4, hg2, hrt, uZ_n (by omega), uZ_n (by omega), uZ_n (by omega), uZ_n (by omega), show 7 + 6 * S.2.2.2 2 = (5 + 6 * S.2.2.2 2) + 1 + ((1 : Nat) : Int) by omega, uZ_s]; exact hzv1.symm
  have j3 : (pinc (pEqC bm L (5 + 6 * S.2.2.2 2) (pEqB bm L (5 + 6 * S.2.2.2 2) (pE bm L (5 + 6 * S.2.2.2 2) 3 (padv bm L 5 S))))).2.2.2 (8 + 6 * rt9) = z_56 := by
    rw [i4, hg2, hrt, uZ_n (by omega), uZ_n (by omega), uZ_n (by omega), show 8 + 6 * S.2.2.2 2 = (5 + 6 * S.2.2.2 2) + 1 + ((2 : Nat) : Int) by omega, uZ_s]; exact hzv2.symm
  have j4 : (pinc (pEqC bm L (5 + 6 * S.2.2.2 2) (pEqB bm L (5 + 6 * S.2.2.2 2) (pE bm L (5 + 6 * S.2.2.2 2) 3 (padv bm L 5 S))))).2.2.2 (9 + 6 * rt9) = -z_86 := by
    rw [i4, hg2, hrt, uZ_n (by omega), uZ_n (by omega), show 9 + 6 * S.2.2.2 2 = (5 + 6 * S.2.2.2 2) + 4 by omega, uZ_s, ← hzv4]
    rcases hmb with ⟨q1, q2⟩ | ⟨q1, q2⟩
    · first | exact q2 _ | exact absurd q1 (by omega)
    · first | exact q2 _ | exact absurd q1 (by omega)
  have j5 : (pinc (pEqC bm L (5 + 6 * S.2.2.2 2) (pEqB bm L (5 + 6 * S.2.2.2 2) (pE bm L (5 + 6 * S.2.2.2 2) 3 (padv bm L 5 S))))).2.2.2 (10 + 6 * rt9) = z_109 := by
    rw [i4, hg2, hrt, uZ_n (by omega), show 10 + 6 * S.2.2.2 2 = (5 + 6 * S.2.2.2 2) + 5 by omega, uZ_s]; exact hwb.symm
  have hfr : (pinc (pEqC bm L (5 + 6 * S.2.2.2 2) (pEqB bm L (5 + 6 * S.2.2.2 2) (pE bm L (5 + 6 * S.2.2.2 2) 3 (padv bm L 5 S))))).2.2.2 2 = S.2.2.2 2 + 1 ∧ ∀ j : Int, j ≠ 2 → (j < 5 + 6 * rt9 ∨ 10 + 6 * rt9 < j) → (pinc (pEqC bm L (5 + 6 * S.2.2.2 2) (pEqB bm L (5 + 6 * S.2.2.2 2) (pE bm L (5 + 6 * S.2.2.2 2) 3 (padv bm L 5 S))))).2.2.2 j = S.2.2.2 j := by
    refine ⟨?_, fun j q1 q2 => ?_⟩
    · rw [i4, uZ_s, hg2, uZ_n (by omega), uZ_n (by omega), uZ_n (by omega), uZ_n (by omega), uZ_n (by omega)]
    · rw [i4, uZ_n q1, hg2, uZ_n (by omega), uZ_n (by omega), uZ_n (by omega), uZ_n (by omega), uZ_n (by omega)]
  refine ⟨_, _, _, Or.inl ⟨rfl, i1, i3.symm, rfl, hfr, _, _, rfl, (by omega : B0 ≤ B1), ?_⟩, ?_, h_tk, h_rl, hE⟩
  · exact ⟨_, _, _, _, _, by rw [j0]; exact h_n115, fun _ => ⟨j1.symm, j2.symm, j3.symm, j4.symm, j5.symm⟩⟩
  · rw [i1, i2, ← hCC]; exact h_rd) dX7_readEquation_144
          · skip
            refine r_iconst E dX7_readEquation_97 ?_
            refine W.widen (k := 1) (n := 6) (by decide) (by decide) ?_
            exact r_zret E h (by omega) (by
  have hb : (pnum bm L 0 99 (pminS bm L (pE bm L (5 + 6 * S.2.2.2 2) 3 (padv bm L 5 S)))).1 ≠ 0 := by omega
  rw [pRule_e (S := padv bm L 5 S) h0s h24 rfl]
  show KQ cy ws0 qr ard arc atk arl apg ain nm9 cs9 rt9 n9 rlf bm L B0 S.2.2.2 (pinc (pEqC bm L (5 + 6 * S.2.2.2 2) (pEqB bm L (5 + 6 * S.2.2.2 2) (pE bm L (5 + 6 * S.2.2.2 2) 3 (padv bm L 5 S))))) _ _
  rw [pEqB_f hb, pEqC_b hb, pinc_b hb]
  exact ⟨_, _, _, Or.inr ⟨rfl, hb⟩, h_rd, h_tk, h_rl, hE⟩) dX7_readEquation_98
        · skip
          refine r_iconst E dX7_readEquation_65 ?_
          refine W.widen (k := 1) (n := 6) (by decide) (by decide) ?_
          exact r_zret E h (by omega) (by
  have hb : (pnum bm L 1 9 (pE bm L (5 + 6 * S.2.2.2 2) 2 (padv bm L 5 S))).1 ≠ 0 := by omega
  have e9 : pE bm L (5 + 6 * S.2.2.2 2) 3 (padv bm L 5 S) = pnum bm L 1 9 (pE bm L (5 + 6 * S.2.2.2 2) 2 (padv bm L 5 S)) := by
    exact pset_bad hb
  rw [pRule_e (S := padv bm L 5 S) h0s h24 rfl]
  show KQ cy ws0 qr ard arc atk arl apg ain nm9 cs9 rt9 n9 rlf bm L B0 S.2.2.2 (pinc (pEqC bm L (5 + 6 * S.2.2.2 2) (pEqB bm L (5 + 6 * S.2.2.2 2) (pE bm L (5 + 6 * S.2.2.2 2) 3 (padv bm L 5 S))))) _ _
  rw [e9, pEqB_b hb, pEqC_b hb, pinc_b hb]
  exact ⟨_, _, _, Or.inr ⟨rfl, hb⟩, h_rd, h_tk, h_rl, hE⟩) dX7_readEquation_66
      · skip
        refine r_iconst E dX7_readEquation_50 ?_
        refine W.widen (k := 1) (n := 6) (by decide) (by decide) ?_
        exact r_zret E h (by omega) (by
  have hb : (pnum bm L 1 9 (pE bm L (5 + 6 * S.2.2.2 2) 1 (padv bm L 5 S))).1 ≠ 0 := by omega
  have e9 : pE bm L (5 + 6 * S.2.2.2 2) 3 (padv bm L 5 S) = pnum bm L 1 9 (pE bm L (5 + 6 * S.2.2.2 2) 1 (padv bm L 5 S)) := by
    show pnumA bm L _ 1 9 (pE bm L (5 + 6 * S.2.2.2 2) 2 (padv bm L 5 S)) = _
    rw [show pE bm L (5 + 6 * S.2.2.2 2) 2 (padv bm L 5 S) = pnum bm L 1 9 (pE bm L (5 + 6 * S.2.2.2 2) 1 (padv bm L 5 S)) from pset_bad hb]
    exact pnumA_b hb
  rw [pRule_e (S := padv bm L 5 S) h0s h24 rfl]
  show KQ cy ws0 qr ard arc atk arl apg ain nm9 cs9 rt9 n9 rlf bm L B0 S.2.2.2 (pinc (pEqC bm L (5 + 6 * S.2.2.2 2) (pEqB bm L (5 + 6 * S.2.2.2 2) (pE bm L (5 + 6 * S.2.2.2 2) 3 (padv bm L 5 S))))) _ _
  rw [e9, pEqB_b hb, pEqC_b hb, pinc_b hb]
  exact ⟨_, _, _, Or.inr ⟨rfl, hb⟩, h_rd, h_tk, h_rl, hE⟩) dX7_readEquation_51
    · skip
      refine r_iconst E dX7_readEquation_35 ?_
      refine W.widen (k := 1) (n := 6) (by decide) (by decide) ?_
      exact r_zret E h (by omega) (by
  have hb : (pnum bm L 1 9 (pE bm L (5 + 6 * S.2.2.2 2) 0 (padv bm L 5 S))).1 ≠ 0 := by omega
  have e9 : pE bm L (5 + 6 * S.2.2.2 2) 3 (padv bm L 5 S) = pnum bm L 1 9 (pE bm L (5 + 6 * S.2.2.2 2) 0 (padv bm L 5 S)) := by
    show pnumA bm L _ 1 9 (pnumA bm L _ 1 9 (pE bm L (5 + 6 * S.2.2.2 2) 1 (padv bm L 5 S))) = _
    rw [show pE bm L (5 + 6 * S.2.2.2 2) 1 (padv bm L 5 S) = pnum bm L 1 9 (pE bm L (5 + 6 * S.2.2.2 2) 0 (padv bm L 5 S)) from pset_bad hb, pnumA_b hb]
    exact pnumA_b hb
  rw [pRule_e (S := padv bm L 5 S) h0s h24 rfl]
  show KQ cy ws0 qr ard arc atk arl apg ain nm9 cs9 rt9 n9 rlf bm L B0 S.2.2.2 (pinc (pEqC bm L (5 + 6 * S.2.2.2 2) (pEqB bm L (5 + 6 * S.2.2.2 2) (pE bm L (5 + 6 * S.2.2.2 2) 3 (padv bm L 5 S))))) _ _
  rw [e9, pEqB_b hb, pEqC_b hb, pinc_b hb]
  exact ⟨_, _, _, Or.inr ⟨rfl, hb⟩, h_rd, h_tk, h_rl, hE⟩) dX7_readEquation_36
  · skip
    refine r_aload_n E 0 hl rfl dX7_readEquation_8 ?_
    refine r_bipush E dX7_readEquation_9 (by decide) ?_
    refine r_callVI E h (As := [.int (zI (-4))]) (rest := []) (k_X7_fail l (-4) h_rd h_tk) h_rd rfl gX7_readEquation_X7_fail rfl hd_X7_fail (by decide) ⟨by decide, by decide⟩ hl.1 rfl (Nat.le_of_ble_eq_true rfl) dX7_readEquation_11 rfl (fun z_11 ws H locs hp h => ?_)
    obtain ⟨rfl, h_rd, hf⟩ := hp
    have h_tk := hf.at h_tk (by first | omega | (dsimp only <;> omega))
    have h_in := hf.at h_in (by first | omega | (dsimp only <;> omega))
    have h_rl := hf.at h_rl (by first | omega | (dsimp only <;> omega))
    have hE := hE.tr (hf.wk (fun j hj => by first | omega | (dsimp only at hj ⊢ <;> omega)))
    refine W.widen (k := 1) (n := 6) (by decide) (by decide) ?_
    exact r_zret E h (by omega) (by
  have e9 : pRule bm L S.2.2.1 1 (padv bm L 5 S) = (-4, S.2.2.1, (padv bm L 5 S).2.2.1, S.2.2.2) := pRule_4 (S := padv bm L 5 S) h0 (by show S.2.2.2 2 = 4; omega)
  rw [e9]
  exact ⟨_, _, _, Or.inr ⟨rfl, by show (-4 : Int) ≠ 0; decide⟩, h_rd, h_tk, h_rl, hE⟩) dX7_readEquation_14
theorem hd_X7_readProgression : yX7_readProgression.cls = RX7 ∧ yX7_readProgression.cls ≠ "java/lang/invoke/MethodHandle" ∧ yX7_readProgression.cls ≠ "java/lang/invoke/VarHandle" ∧ (parseMethodDescriptor yX7_readProgression.desc).map (fun d => d.parameters.length) = some 0 := by decide +kernel
theorem fl_X7_readProgression_44 : Cond.fieldLink RX7 44 (TX7 7).1 (TX7 7).2.1 (TX7 7).2.2.1 ∈ wsX7_readProgression := List.mem_of_getElem? (i := 1) rfl
theorem inn_X7_readProgression_7 : ∀ w ∈ wsX70, w ∈ wsX7_readProgression := fun _ h => List.mem_cons_of_mem _ (List.mem_append_left _ (List.mem_append_left _ (List.mem_append_right _ h)))
theorem fl_X7_readProgression_28 : Cond.fieldLink RX7 28 (TX7 3).1 (TX7 3).2.1 (TX7 3).2.2.1 ∈ wsX7_readProgression := List.mem_of_getElem? (i := 2) rfl
theorem inn_X7_readProgression_4 : ∀ w ∈ wsX40, w ∈ wsX7_readProgression := fun _ h => List.mem_cons_of_mem _ (List.mem_append_left _ (List.mem_append_right _ h))
abbrev rm_X7_readProgression : Room := { frames := 3, cells := 1, slots := 6, locals := 66 }
set_option maxHeartbeats 1200000 in
set_option maxRecDepth 100000 in
theorem k_X7_readProgression (l : Launch) {G : va_G} {cy : Nat → ClassId} {ws0 : va_W} {qr qi ard arc atk arl apg ain : Nat} {nm9 cs9 rt9 n9 : Int}{bu bm : Int → Int} {L : Int} {rlf : Int → Option Nat} {S : PSt} {B B0 : Nat} (h_rd : ws0[qr]? = some (ard, .inr (7, [.int (zI S.1), .int (zI S.2.1), .ref arc, .ref atk, .int (zI nm9), .int (zI cs9), .ref arl, .int (zI rt9), .ref apg, .int (zI n9)]))) (h_tk : ws0[qr + 3]? = some (atk, .inr (9, [.int (zI (tkK bm L S.2.2.1)), .int (zI S.2.2.1), .int (zI (tkV bm L S.2.2.1)), .ref ain, .int (zI L), .int (zI (tkE bm L S.2.2.1))]))) (h_in : ws0[qi]? = some (ain, aB cy 600 bu)) (h_rl : ws0[qr + 5]? = some (arl, aR cy 4 4 rlf)) (htx : TXok bm) (hbm : ∀ i : Int, bu i = sg (bm i)) (hL : 0 ≤ L ∧ L ≤ 600) (hqi : qi < qr ∨ qr + 7 ≤ qi) (h0 : S.1 = 0) (hG : PG L S) (hV : RV S.2.2.2) (hrt : rt9 = S.2.2.2 2) (hw : isW bm L S.2.2.1 (ST 6) = true) (hlen : ws0.length = B) (hB0 : qr + 7 ≤ B0 ∧ qi < B0 ∧ B0 ≤ B) : MI l yX7_readProgression wsX7_readProgression rm_X7_readProgression G cy [.ref ard] ws0 (KQ cy ws0 qr ard arc atk arl apg ain nm9 cs9 rt9 n9 rlf bm L B0 S.2.2.2 (pRule bm L S.2.2.1 0 (padv bm L 6 S))) := by
  refine MI.of (own := RX7) (cc := cX7_readProgression) (nL := 2) (ret := (some .boolean)) (by decide) rfl rfl (Nat.le_of_ble_eq_true rfl) ?_
  intro p e s m below meth c A ls E h hl
  have hl : lv_has ls 2 [(0, .ref ard)] := hl
  have hE : Eqx ws0 ws0 (fun j => j = qr ∨ j = qr + 3 ∨ j = qr + 5) := Eqx.rf
  have hlen0 := hlen
  have hgp := (hG.2 h0).1
  have htr := tk_rng htx hgp.2
  have hvr := hV.r
  refine r_aload_n E 0 hl rfl dX7_readProgression_0 ?_
  refine r_get (v := .int (zI rt9)) E h h_rd rfl inn_X7_readProgression_7 7 (by decide) fl_X7_readProgression_44 rfl dX7_readProgression_1 ?_
  refine r_iconst E dX7_readProgression_4 ?_
  refine r_icmp_lt E 15 dX7_readProgression_5 (by decide) (by omega) (fun c_5 => ?_) (fun c_5 => ?_)
  · skip
    have h24 : S.2.2.2 2 ≠ 4 := by omega
    refine r_aload_n E 0 hl rfl dX7_readProgression_15 ?_
    refine r_get (v := .ref atk) E h h_rd rfl inn_X7_readProgression_7 3 (by decide) fl_X7_readProgression_28 rfl dX7_readProgression_16 ?_
    refine r_callVV E h (As := []) (rest := []) (k_X9_advance l h_tk h_in htx hbm hL (by omega) (by omega)) h_tk rfl gX7_readProgression_X9_advance rfl hd_X9_advance (by decide) ⟨by decide, by decide⟩ hl.1 rfl (Nat.le_of_ble_eq_true rfl) dX7_readProgression_19 rfl (fun ws H locs hp h => ?_)
    obtain ⟨h_tk, hf⟩ := hp
    have h_rd := hf.at h_rd (by first | omega | (dsimp only <;> omega))
    have h_in := hf.at h_in (by first | omega | (dsimp only <;> omega))
    have h_rl := hf.at h_rl (by first | omega | (dsimp only <;> omega))
    have hE := hE.tr (hf.wk (fun j hj => by first | omega | (dsimp only at hj ⊢ <;> omega)))
    rw [tk_wE (by decide) hgp.2 hw] at h_tk
    have h_tk : ws[qr + 3]? = some (atk, .inr (9, [.int (zI (tkK bm L ((padv bm L 6 S).2.2.1))), .int (zI ((padv bm L 6 S).2.2.1)), .int (zI (tkV bm L ((padv bm L 6 S).2.2.1))), .ref ain, .int (zI L), .int (zI (tkE bm L ((padv bm L 6 S).2.2.1)))])) := h_tk
    have h_rd : ws[qr]? = some (ard, .inr (7, [.int (zI ((padv bm L 6 S).1)), .int (zI ((padv bm L 6 S).2.1)), .ref arc, .ref atk, .int (zI nm9), .int (zI cs9), .ref arl, .int (zI rt9), .ref apg, .int (zI n9)])) := h_rd
    have h0s := h0
    have hGs := hG
    have h0 : (padv bm L 6 S).1 = 0 := h0
    have hG := (padv_PL hG h0s (by decide) hw).1
    have hgp := (hG.2 h0).1
    have htr := tk_rng htx hgp.2
    refine r_aload_n E 0 hl rfl dX7_readProgression_22 ?_
    refine r_iconst E dX7_readProgression_23 ?_
    refine r_bipush E dX7_readProgression_24 (by decide) ?_
    refine r_callVI E h (As := [.int (zI 3), .int (zI 6)]) (rest := []) (k_X7_takeNumber (S := padv bm L 6 S) l 3 6 h_rd h_tk h_in htx hbm hL hqi h0 hG (by omega)) h_rd rfl gX7_readProgression_X7_takeNumber rfl hd_X7_takeNumber (by decide) ⟨by decide, by decide⟩ hl.1 rfl (Nat.le_of_ble_eq_true rfl) dX7_readProgression_26 rfl (fun z_26 ws H locs hp h => ?_)
    obtain ⟨p_26, e_26, h_rd, h_tk, hf⟩ := hp
    have h_in := hf.at h_in (by first | omega | (dsimp only <;> omega))
    have h_rl := hf.at h_rl (by first | omega | (dsimp only <;> omega))
    have hE := hE.tr (hf.wk (fun j hj => by first | omega | (dsimp only at hj ⊢ <;> omega)))
    refine r_istore_n (lv' := [(1, .int (zI z_26)), (0, .ref ard)]) E hl dX7_readProgression_29 rfl (by decide) rfl (fun ls hl => ?_)
    refine r_iload_n E 0 hl rfl dX7_readProgression_30 ?_
    refine r_iconst E dX7_readProgression_31 ?_
    refine r_icmp_ne E 37 dX7_readProgression_32 (by decide) (by omega) (fun c_32 => ?_) (fun c_32 => ?_)
    · skip
      have hT : (pnum bm L 3 6 (padv bm L 6 S)).1 = 0 := by omega
      have ep_26 : p_26 = (pnum bm L 3 6 (padv bm L 6 S)).2.2.1 := by omega
      rw [ep_26] at h_tk
      have hzv : z_26 = pval bm L (padv bm L 6 S) := by omega
      have hNG : (pnumA bm L (5 + 6 * S.2.2.2 2) 3 6 (padv bm L 6 S)).1 = 0 := (pset_1 hT).trans hT
      have hrow : (pnumA bm L (5 + 6 * S.2.2.2 2) 3 6 (padv bm L 6 S)).2.2.2 = uZ S.2.2.2 (5 + 6 * S.2.2.2 2) (pval bm L (padv bm L 6 S)) := (pset_4 hT).trans (by rw [pnum_row]; rfl)
      have h_rd : ws[qr]? = some (ard, .inr (7, [.int (zI ((pnumA bm L (5 + 6 * S.2.2.2 2) 3 6 (padv bm L 6 S)).1)), .int (zI ((pnumA bm L (5 + 6 * S.2.2.2 2) 3 6 (padv bm L 6 S)).2.1)), .ref arc, .ref atk, .int (zI nm9), .int (zI cs9), .ref arl, .int (zI rt9), .ref apg, .int (zI n9)])) := by rw [show (pnumA bm L (5 + 6 * S.2.2.2 2) 3 6 (padv bm L 6 S)).1 = (pnum bm L 3 6 (padv bm L 6 S)).1 from pset_1 hT, show (pnumA bm L (5 + 6 * S.2.2.2 2) 3 6 (padv bm L 6 S)).2.1 = (pnum bm L 3 6 (padv bm L 6 S)).2.1 from pset_2]; exact h_rd
      have h_tk : ws[qr + 3]? = some (atk, .inr (9, [.int (zI (tkK bm L ((pnumA bm L (5 + 6 * S.2.2.2 2) 3 6 (padv bm L 6 S)).2.2.1))), .int (zI ((pnumA bm L (5 + 6 * S.2.2.2 2) 3 6 (padv bm L 6 S)).2.2.1)), .int (zI (tkV bm L ((pnumA bm L (5 + 6 * S.2.2.2 2) 3 6 (padv bm L 6 S)).2.2.1))), .ref ain, .int (zI L), .int (zI (tkE bm L ((pnumA bm L (5 + 6 * S.2.2.2 2) 3 6 (padv bm L 6 S)).2.2.1)))])) := by rw [show (pnumA bm L (5 + 6 * S.2.2.2 2) 3 6 (padv bm L 6 S)).2.2.1 = (pnum bm L 3 6 (padv bm L 6 S)).2.2.1 from pset_3]; exact h_tk
      refine r_aload_n E 1 hl rfl dX7_readProgression_37 ?_
      obtain ⟨B1, hlen⟩ : ∃ b9 : Nat, ws.length = b9 := ⟨_, rfl⟩
      have hB1 : B ≤ B1 := by have := hE.1; omega
      refine r_newO (ci := 4) (fs := [.int (zI 0), .int (zI 0), .int (zI 0), .int (zI 0), .int (zI 0), .int (zI 0)]) E h rfl inn_X7_readProgression_4 tyX4 tyX4_ok (List.mem_of_getElem? (i := 3) rfl) (List.mem_of_getElem? (i := 4) rfl) (List.mem_of_getElem? (i := 5) rfl) (fun j hj => by rcases (show j = 0 ∨ j = 1 ∨ j = 2 ∨ j = 3 ∨ j = 4 ∨ j = 5 by omega) with rfl | rfl | rfl | rfl | rfl | rfl <;> rfl) (by decide) (by decide) dX7_readProgression_38 (fun a_38 ws H hu h => ?_)
      have h_rd := hu.keep h_rd
      have h_tk := hu.keep h_tk
      have h_in := hu.keep h_in
      have h_rl := hu.keep h_rl
      have h_n38 : ws[B1]? = some (a_38, .inr (4, [.int (zI 0), .int (zI 0), .int (zI 0), .int (zI 0), .int (zI 0), .int (zI 0)])) := by have h9 := hu.new; rwa [hlen] at h9
      have hlen : ws.length = B1 + 1 := by have h9 := hu.len; omega
      have hE := hE.tr hu.eqx
      refine r_dup E dX7_readProgression_41 rfl ?_
      refine r_iload_n E 0 hl rfl dX7_readProgression_42 ?_
      refine r_callI E h (As := [.int (zI z_26)]) (rest := [.ref a_38, .ref ard]) (k_X4_init l z_26 h_n38) gX7_readProgression_X4_init rfl (List.mem_of_getElem? (i := 5) rfl) (List.mem_of_getElem? (i := 36) rfl) (List.mem_of_getElem? (i := 37) rfl) rfl hd_X4_init (by decide) ⟨by decide, by decide⟩ hl.1 rfl (Nat.le_of_ble_eq_true rfl) dX7_readProgression_43 rfl (fun ws H locs hp h => ?_)
      obtain ⟨h_n38, hf⟩ := hp
      have h_rd := hf.at h_rd (by first | omega | (dsimp only <;> omega))
      have h_tk := hf.at h_tk (by first | omega | (dsimp only <;> omega))
      have h_in := hf.at h_in (by first | omega | (dsimp only <;> omega))
      have h_rl := hf.at h_rl (by first | omega | (dsimp only <;> omega))
      obtain ⟨B9, hlen⟩ : ∃ b9 : Nat, ws.length = b9 := ⟨_, rfl⟩
      have hE := hE.trG hf (fun j hj hY => by first | omega | (dsimp only at hY ⊢ <;> omega))
      refine r_callVV E h (As := [.ref a_38]) (rest := []) (k_X7_keepRule l h_rd h_rl h_n38 (by omega) (by omega)) h_rd rfl gX7_readProgression_X7_keepRule rfl hd_X7_keepRule (by decide) ⟨by decide, by decide⟩ hl.1 rfl (Nat.le_of_ble_eq_true rfl) dX7_readProgression_46 rfl (fun ws H locs hp h => ?_)
      obtain ⟨h_rd, h_rl, hf⟩ := hp
      have h_tk := hf.at h_tk (by first | omega | (dsimp only <;> omega))
      have h_in := hf.at h_in (by first | omega | (dsimp only <;> omega))
      have h_n38 := hf.at h_n38 (by first | omega | (dsimp only <;> omega))
      have hE := hE.tr (hf.wk (fun j hj => by first | omega | (dsimp only at hj ⊢ <;> omega)))
      refine r_iconst E dX7_readProgression_49 ?_
      refine W.widen (k := 1) (n := 6) (by decide) (by decide) ?_
      exact r_zret E h (by omega) (by
  rw [pRule_p (S := padv bm L 6 S) h0s h24 (by decide)]
  show KQ cy ws0 qr ard arc atk arl apg ain nm9 cs9 rt9 n9 rlf bm L B0 S.2.2.2 (pinc (pnumA bm L (5 + 6 * S.2.2.2 2) 3 6 (padv bm L 6 S))) _ _
  obtain ⟨i1, i2, i3, i4⟩ := pinc_1 hNG
  have j0 : (pinc (pnumA bm L (5 + 6 * S.2.2.2 2) 3 6 (padv bm L 6 S))).2.2.2 (5 + 6 * rt9) = z_26 := by
    rw [i4, hrow, hrt, uZ_n (by omega), uZ_s]; exact hzv.symm
  have hfr : (pinc (pnumA bm L (5 + 6 * S.2.2.2 2) 3 6 (padv bm L 6 S))).2.2.2 2 = S.2.2.2 2 + 1 ∧ ∀ j : Int, j ≠ 2 → (j < 5 + 6 * rt9 ∨ 10 + 6 * rt9 < j) → (pinc (pnumA bm L (5 + 6 * S.2.2.2 2) 3 6 (padv bm L 6 S))).2.2.2 j = S.2.2.2 j := by
    refine ⟨?_, fun j q1 q2 => ?_⟩
    · rw [i4, uZ_s, hrow, uZ_n (by omega)]
    · rw [i4, uZ_n q1, hrow, uZ_n (by omega)]
  refine ⟨_, _, _, Or.inl ⟨rfl, i1, i3.symm, rfl, hfr, _, _, rfl, (by omega : B0 ≤ B1), ?_⟩, ?_, h_tk, h_rl, hE⟩
  · exact ⟨_, _, _, _, _, by rw [j0]; exact h_n38, fun hh => absurd hh (by rw [j0]; omega)⟩
  · rw [i1, i2, ← hNG]; exact h_rd) dX7_readProgression_50
    · skip
      refine r_iconst E dX7_readProgression_35 ?_
      refine W.widen (k := 1) (n := 6) (by decide) (by decide) ?_
      exact r_zret E h (by omega) (by
  have hb : (pnum bm L 3 6 (padv bm L 6 S)).1 ≠ 0 := by omega
  rw [pRule_p (S := padv bm L 6 S) h0s h24 (by decide)]
  show KQ cy ws0 qr ard arc atk arl apg ain nm9 cs9 rt9 n9 rlf bm L B0 S.2.2.2 (pinc (pnumA bm L (5 + 6 * S.2.2.2 2) 3 6 (padv bm L 6 S))) _ _
  rw [show pnumA bm L (5 + 6 * S.2.2.2 2) 3 6 (padv bm L 6 S) = pnum bm L 3 6 (padv bm L 6 S) from pset_bad hb, pinc_b hb]
  exact ⟨_, _, _, Or.inr ⟨rfl, hb⟩, h_rd, h_tk, h_rl, hE⟩) dX7_readProgression_36
  · skip
    refine r_aload_n E 0 hl rfl dX7_readProgression_8 ?_
    refine r_bipush E dX7_readProgression_9 (by decide) ?_
    refine r_callVI E h (As := [.int (zI (-4))]) (rest := []) (k_X7_fail l (-4) h_rd h_tk) h_rd rfl gX7_readProgression_X7_fail rfl hd_X7_fail (by decide) ⟨by decide, by decide⟩ hl.1 rfl (Nat.le_of_ble_eq_true rfl) dX7_readProgression_11 rfl (fun z_11 ws H locs hp h => ?_)
    obtain ⟨rfl, h_rd, hf⟩ := hp
    have h_tk := hf.at h_tk (by first | omega | (dsimp only <;> omega))
    have h_in := hf.at h_in (by first | omega | (dsimp only <;> omega))
    have h_rl := hf.at h_rl (by first | omega | (dsimp only <;> omega))
    have hE := hE.tr (hf.wk (fun j hj => by first | omega | (dsimp only at hj ⊢ <;> omega)))
    refine W.widen (k := 1) (n := 6) (by decide) (by decide) ?_
    exact r_zret E h (by omega) (by
  have e9 : pRule bm L S.2.2.1 0 (padv bm L 6 S) = (-4, S.2.2.1, (padv bm L 6 S).2.2.1, S.2.2.2) := pRule_4 (S := padv bm L 6 S) h0 (by show S.2.2.2 2 = 4; omega)
  rw [e9]
  exact ⟨_, _, _, Or.inr ⟨rfl, by show (-4 : Int) ≠ 0; decide⟩, h_rd, h_tk, h_rl, hE⟩) dX7_readProgression_14
