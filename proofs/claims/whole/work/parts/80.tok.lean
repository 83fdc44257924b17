/-! the class's tokens: t the bytes, L the length, p the place of the token -/
def lwN (t : Int → Int) (L : Int) : Nat → Int → Int
  | 0, p => p
  | f + 1, p => if 97 ≤ byA t L p ∧ byA t L p ≤ 122 then lwN t L f (p + 1) else p
/-- the end of a run of letters -/
def lw (t : Int → Int) (L p : Int) : Int := lwN t L (L - p).toNat p
theorem lw_stop {t : Int → Int} {L p : Int} (h : ¬ (97 ≤ byA t L p ∧ byA t L p ≤ 122)) : lw t L p = p := by
  unfold lw
  cases hh : (L - p).toNat with
  | zero => rfl
  | succ f => exact if_neg h
theorem lw_step {t : Int → Int} {L p : Int} (h : 97 ≤ byA t L p ∧ byA t L p ≤ 122) : lw t L p = lw t L (p + 1) := by
  have hp : p < L := byA_in (t := t) (by omega)
  unfold lw
  rw [show (L - p).toNat = (L - (p + 1)).toNat + 1 by omega]
  exact if_pos h
theorem lw_all {t : Int → Int} {L : Int} : ∀ (m : Nat) (p : Int), (L - p).toNat ≤ m → p ≤ L → (p ≤ lw t L p ∧ lw t L p ≤ L) ∧ ¬ (97 ≤ byA t L (lw t L p) ∧ byA t L (lw t L p) ≤ 122)
  | 0, p, h, h1 => by
    have e : byA t L p = -1 := if_neg (by omega)
    rw [lw_stop (by omega)]
    exact ⟨by omega, by omega⟩
  | m + 1, p, h, h1 => by
    by_cases c : 97 ≤ byA t L p ∧ byA t L p ≤ 122
    · have hp : p < L := byA_in (t := t) (by omega)
      have ih := lw_all (t := t) (L := L) m (p + 1) (by omega) (by omega)
      rw [lw_step c]
      exact ⟨by omega, ih.2⟩
    · rw [lw_stop c]
      exact ⟨by omega, c⟩
theorem lw_at {t : Int → Int} {L : Int} : ∀ (n : Nat) (p : Int), (∀ k : Nat, k < n → 97 ≤ byA t L (p + k) ∧ byA t L (p + k) ≤ 122) → ¬ (97 ≤ byA t L (p + n) ∧ byA t L (p + n) ≤ 122) → lw t L p = p + n
  | 0, p, _, h => by
    rw [show p + ((0 : Nat) : Int) = p by omega] at h ⊢
    exact lw_stop h
  | n + 1, p, h, h1 => by
    have h0 := h 0 (by omega)
    rw [show p + ((0 : Nat) : Int) = p by omega] at h0
    rw [lw_step h0, lw_at n (p + 1) (fun k hk => by
      have := h (k + 1) (by omega)
      rw [show p + ((k + 1 : Nat) : Int) = p + 1 + (k : Int) by omega] at this
      exact this) (by rw [show p + 1 + (n : Int) = p + ((n + 1 : Nat) : Int) by omega]; exact h1)]
    omega
def tkK (t : Int → Int) (L p : Int) : Int := if byA t L p = -1 then 0 else if 48 ≤ byA t L p ∧ byA t L p ≤ 57 then 1 else if 97 ≤ byA t L p ∧ byA t L p ≤ 122 then 2 else 3
def tkV (t : Int → Int) (L p : Int) : Int := if byA t L p = -1 then 0 else if 48 ≤ byA t L p ∧ byA t L p ≤ 57 then (nm t L 0 p).1 else if 97 ≤ byA t L p ∧ byA t L p ≤ 122 then 0 else sg (byA t L p)
def tkE (t : Int → Int) (L p : Int) : Int := if byA t L p = -1 then p else if 48 ≤ byA t L p ∧ byA t L p ≤ 57 then (nm t L 0 p).2 else if 97 ≤ byA t L p ∧ byA t L p ≤ 122 then lw t L p else p + 1
theorem tk_end {t : Int → Int} {L p : Int} (h : byA t L p = -1) : tkK t L p = 0 ∧ tkV t L p = 0 ∧ tkE t L p = p := ⟨if_pos h, if_pos h, if_pos h⟩
theorem tk_num {t : Int → Int} {L p : Int} (h : 48 ≤ byA t L p ∧ byA t L p ≤ 57) : tkK t L p = 1 ∧ tkV t L p = (nm t L 0 p).1 ∧ tkE t L p = (nm t L 0 p).2 :=
  ⟨(if_neg (by omega)).trans (if_pos h), (if_neg (by omega)).trans (if_pos h), (if_neg (by omega)).trans (if_pos h)⟩
theorem tk_wrd {t : Int → Int} {L p : Int} (h : 97 ≤ byA t L p ∧ byA t L p ≤ 122) : tkK t L p = 2 ∧ tkV t L p = 0 ∧ tkE t L p = lw t L p :=
  ⟨(if_neg (by omega)).trans ((if_neg (by omega)).trans (if_pos h)), (if_neg (by omega)).trans ((if_neg (by omega)).trans (if_pos h)), (if_neg (by omega)).trans ((if_neg (by omega)).trans (if_pos h))⟩
theorem tk_sgn {t : Int → Int} {L p : Int} (h0 : byA t L p ≠ -1) (h1 : ¬ (48 ≤ byA t L p ∧ byA t L p ≤ 57)) (h2 : ¬ (97 ≤ byA t L p ∧ byA t L p ≤ 122)) : tkK t L p = 3 ∧ tkV t L p = sg (byA t L p) ∧ tkE t L p = p + 1 :=
  ⟨(if_neg h0).trans ((if_neg h1).trans (if_neg h2)), (if_neg h0).trans ((if_neg h1).trans (if_neg h2)), (if_neg h0).trans ((if_neg h1).trans (if_neg h2))⟩
theorem sg_or {x : Int} : x < 128 ∧ sg x = x ∨ 128 ≤ x ∧ sg x = x - 256 := by
  unfold sg
  by_cases c : x < 128
  · rw [if_pos c]; omega
  · rw [if_neg c]; omega
theorem tk_rng {t : Int → Int} (htx : TXok t) {L p : Int} (hp : p ≤ L) : (0 ≤ tkK t L p ∧ tkK t L p ≤ 3) ∧ (-128 ≤ tkV t L p ∧ tkV t L p ≤ 1000000) ∧ p ≤ tkE t L p ∧ tkE t L p ≤ L := by
  have hb := byA_rng htx (L := L) (p := p)
  by_cases c0 : byA t L p = -1
  · obtain ⟨a, b, c⟩ := tk_end c0; omega
  · have hlt := byA_in c0
    by_cases c1 : 48 ≤ byA t L p ∧ byA t L p ≤ 57
    · obtain ⟨a, b, c⟩ := tk_num c1
      have hn := nm_rng (t := t) (v := 0) hp (by omega)
      omega
    · by_cases c2 : 97 ≤ byA t L p ∧ byA t L p ≤ 122
      · obtain ⟨a, b, c⟩ := tk_wrd c2
        have hn := lw_all (t := t) (L := L) _ p (Nat.le_refl _) hp
        omega
      · obtain ⟨a, b, c⟩ := tk_sgn c0 c1 c2
        have := sg_or (x := byA t L p)
        omega
theorem tk_0 {t : Int → Int} {L p : Int} : tkK t L p = 0 ↔ byA t L p = -1 := by
  unfold tkK
  split
  · omega
  · split
    · omega
    · split <;> omega
theorem tk_1 {t : Int → Int} {L p : Int} : tkK t L p = 1 ↔ 48 ≤ byA t L p ∧ byA t L p ≤ 57 := by
  unfold tkK
  split
  · omega
  · split
    · omega
    · split <;> omega
theorem tk_2 {t : Int → Int} {L p : Int} : tkK t L p = 2 ↔ 97 ≤ byA t L p ∧ byA t L p ≤ 122 := by
  unfold tkK
  split
  · omega
  · split
    · omega
    · split <;> omega
theorem tk_sign {t : Int → Int} (htx : TXok t) {L p c : Int} (hc : 33 ≤ c ∧ c ≤ 47 ∨ c = 59) : (tkK t L p = 3 ∧ tkV t L p = c) ↔ byA t L p = c := by
  have hb := byA_rng htx (L := L) (p := p)
  have hs := sg_or (x := byA t L p)
  by_cases c0 : byA t L p = -1
  · obtain ⟨a, b, _⟩ := tk_end c0; omega
  · by_cases c1 : 48 ≤ byA t L p ∧ byA t L p ≤ 57
    · obtain ⟨a, b, _⟩ := tk_num c1
      omega
    · by_cases c2 : 97 ≤ byA t L p ∧ byA t L p ≤ 122
      · obtain ⟨a, b, _⟩ := tk_wrd c2
        omega
      · obtain ⟨a, b, _⟩ := tk_sgn c0 c1 c2
        omega
theorem ST_let {i : Nat} (hi : i < 9) {k : Nat} (hk : k < lenST.getD i 0) : 97 ≤ (ST i).getD k 0 ∧ (ST i).getD k 0 ≤ 122 := ((ST_byt i hi).2 k hk).2
theorem isW_tk {t : Int → Int} {L p : Int} {i : Nat} (hi : i < 9) (hp : p ≤ L) : isW t L p (ST i) = true ↔ tkK t L p = 2 ∧ tkE t L p - p = (lenST.getD i 0 : Nat) ∧ ∀ k : Nat, k < lenST.getD i 0 → byA t L (p + k) = (ST i).getD k 0 := by
  have hl := (ST_byt i hi).1
  have hr := lenST_rng i hi
  rw [isW_iff, hl]
  constructor
  · rintro ⟨h1, h2⟩
    have hlet : ∀ k : Nat, k < lenST.getD i 0 → 97 ≤ byA t L (p + k) ∧ byA t L (p + k) ≤ 122 := fun k hk => by rw [h1 k hk]; exact ST_let hi hk
    have h0 := hlet 0 (by omega)
    rw [show p + ((0 : Nat) : Int) = p by omega] at h0
    obtain ⟨a, _, c⟩ := tk_wrd h0
    rw [lw_at _ p hlet h2] at c
    exact ⟨a, by omega, h1⟩
  · rintro ⟨h1, h2, h3⟩
    have h0 := tk_2.mp h1
    obtain ⟨_, _, c⟩ := tk_wrd h0
    have hn := lw_all (t := t) (L := L) _ p (Nat.le_refl _) hp
    refine ⟨h3, ?_⟩
    rw [show p + ((lenST.getD i 0 : Nat) : Int) = lw t L p by omega]
    exact hn.2
theorem hd_X9_advance : yX9_advance.cls = RX9 ∧ yX9_advance.cls ≠ "java/lang/invoke/MethodHandle" ∧ yX9_advance.cls ≠ "java/lang/invoke/VarHandle" ∧ (parseMethodDescriptor yX9_advance.desc).map (fun d => d.parameters.length) = some 0 := by decide +kernel
theorem fl_X9_advance_26 : Cond.fieldLink RX9 26 (TX9 5).1 (TX9 5).2.1 (TX9 5).2.2.1 ∈ wsX9_advance := List.mem_of_getElem? (i := 1) rfl
theorem inn_X9_advance_9 : ∀ w ∈ wsX90, w ∈ wsX9_advance := fun _ h => List.mem_cons_of_mem _ (List.mem_append_right _ h)
theorem fl_X9_advance_13 : Cond.fieldLink RX9 13 (TX9 1).1 (TX9 1).2.1 (TX9 1).2.2.1 ∈ wsX9_advance := List.mem_of_getElem? (i := 4) rfl
theorem fl_X9_advance_16 : Cond.fieldLink RX9 16 (TX9 2).1 (TX9 2).2.1 (TX9 2).2.2.1 ∈ wsX9_advance := List.mem_of_getElem? (i := 5) rfl
theorem fl_X9_advance_23 : Cond.fieldLink RX9 23 (TX9 4).1 (TX9 4).2.1 (TX9 4).2.2.1 ∈ wsX9_advance := List.mem_of_getElem? (i := 2) rfl
theorem fl_X9_advance_19 : Cond.fieldLink RX9 19 (TX9 3).1 (TX9 3).2.1 (TX9 3).2.2.1 ∈ wsX9_advance := List.mem_of_getElem? (i := 3) rfl
theorem fl_X9_advance_9 : Cond.fieldLink RX9 9 (TX9 0).1 (TX9 0).2.1 (TX9 0).2.2.1 ∈ wsX9_advance := List.mem_of_getElem? (i := 6) rfl
abbrev rm_X9_advance : Room := { frames := 1, cells := 0, slots := 0, locals := 23 }
set_option maxHeartbeats 1200000 in
set_option maxRecDepth 100000 in
theorem k_X9_advance (l : Launch) {G : va_G} {cy : Nat → ClassId} {ws0 : va_W} {bu bm : Int → Int} {L : Int} {qi ain atk : Nat} {qk : Nat} {k0 s0 v0 e5 : Int} (h_tk : ws0[qk]? = some (atk, .inr (9, [.int (zI k0), .int (zI s0), .int (zI v0), .ref ain, .int (zI L), .int (zI e5)]))) (h_in : ws0[qi]? = some (ain, aB cy 600 bu)) (htx : TXok bm) (hbm : ∀ i : Int, bu i = sg (bm i)) (hL : 0 ≤ L ∧ L ≤ 600) (hqi : qi ≠ qk) (he : 0 ≤ e5 ∧ e5 ≤ L) : MV l yX9_advance wsX9_advance rm_X9_advance G cy [.ref atk] ws0 (fun u => u[qk]? = some (atk, .inr (9, [.int (zI (tkK bm L (sk bm L e5))), .int (zI (sk bm L e5)), .int (zI (tkV bm L (sk bm L e5))), .ref ain, .int (zI L), .int (zI (tkE bm L (sk bm L e5)))])) ∧ Eqx ws0 u (fun j => j = qk)) := by
  refine MV.of (own := RX9) (cc := cX9_advance) (nL := 1) (ret := none) (by decide) rfl rfl (Nat.le_of_ble_eq_true rfl) ?_
  intro p e s m below meth c A ls hin E h hl
  have hl : lv_has ls 1 [(0, .ref atk)] := hl
  have hE : Eqx ws0 ws0 (fun j => j = qk) := Eqx.rf
  refine r_loop (fun n H locs ls => ∃ (ws : va_W) (e9 : Int), n = (L - e9).toNat ∧ (0 ≤ e9 ∧ e9 ≤ L) ∧ (sk bm L e9 = sk bm L e5) ∧ Hp G ws A s.heap H locs ∧ (ws[qk]? = some (atk, .inr (9, [.int (zI k0), .int (zI s0), .int (zI v0), .ref ain, .int (zI L), .int (zI e9)]))) ∧ (ws[qi]? = some (ain, aB cy 600 bu)) ∧ Eqx ws0 ws (fun j => j = qk) ∧ lv_has ls 1 [(0, .ref atk)]) _ ⟨ws0, e5, rfl, (by omega), rfl, h, h_tk, h_in, hE, lv_sub hl [0] rfl⟩ ?_
  rintro n H locs ls ⟨ws, e9, hn, i1, i2, h, h_tk, h_in, hE, hl⟩ ih_0
  refine r_cut (α := Unit) (fun x H locs ls => (sk bm L e5 = e9) ∧ Hp G ws A s.heap H locs ∧ lv_has ls 1 [(0, .ref atk)]) 38 (fun x => []) ?_ ?_
  · rintro x H locs ls ⟨hpe, h, hl⟩
    refine r_aload_n E 0 hl rfl dX9_advance_38 ?_
    refine r_aload_n E 0 hl rfl dX9_advance_39 ?_
    refine r_get (v := .int (zI e9)) E h h_tk rfl inn_X9_advance_9 5 (by decide) fl_X9_advance_26 rfl dX9_advance_40 ?_
    refine r_put E h h_tk rfl inn_X9_advance_9 1 (by decide) fl_X9_advance_13 tyX9 tyX9_ok nmX9 rfl rfl rfl (Nat.le_of_ble_eq_true rfl) dX9_advance_43 (fun ws H locs h hu => ?_)
    have h_tk : ws[qk]? = some (atk, .inr (9, [.int (zI k0), .int (zI e9), .int (zI v0), .ref ain, .int (zI L), .int (zI e9)])) := hu.1
    have h_in := hu.keep h_in (by omega)
    have hE := hE.tr (hu.eqx (by first | omega | (dsimp only <;> omega)))
    refine r_aload_n E 0 hl rfl dX9_advance_46 ?_
    refine r_iconst E dX9_advance_47 ?_
    refine r_put E h h_tk rfl inn_X9_advance_9 2 (by decide) fl_X9_advance_16 tyX9 tyX9_ok nmX9 rfl rfl rfl (Nat.le_of_ble_eq_true rfl) dX9_advance_48 (fun ws H locs h hu => ?_)
    have h_tk : ws[qk]? = some (atk, .inr (9, [.int (zI k0), .int (zI e9), .int (zI 0), .ref ain, .int (zI L), .int (zI e9)])) := hu.1
    have h_in := hu.keep h_in (by omega)
    have hE := hE.tr (hu.eqx (by first | omega | (dsimp only <;> omega)))
    refine r_aload_n E 0 hl rfl dX9_advance_51 ?_
    refine r_get (v := .int (zI e9)) E h h_tk rfl inn_X9_advance_9 5 (by decide) fl_X9_advance_26 rfl dX9_advance_52 ?_
    refine r_aload_n E 0 hl rfl dX9_advance_55 ?_
    refine r_get (v := .int (zI L)) E h h_tk rfl inn_X9_advance_9 4 (by decide) fl_X9_advance_23 rfl dX9_advance_56 ?_
    refine r_icmp_lt E 70 dX9_advance_59 (by decide) (by omega) (fun c_59 => ?_) (fun c_59 => ?_)
    · skip
      have hy9 : byA bm L e9 = bm e9 := if_pos (by omega)
      have hs9 := sg_or (x := bm e9)
      have hb9 := hbm e9
      have hr9 := htx e9
      refine r_aload_n E 0 hl rfl dX9_advance_70 ?_
      refine r_get (v := .ref ain) E h h_tk rfl inn_X9_advance_9 3 (by decide) fl_X9_advance_19 rfl dX9_advance_71 ?_
      refine r_aload_n E 0 hl rfl dX9_advance_74 ?_
      refine r_get (v := .int (zI e9)) E h h_tk rfl inn_X9_advance_9 5 (by decide) fl_X9_advance_26 rfl dX9_advance_75 ?_
      refine r_bald E h h_in (by omega) (by decide) dX9_advance_78 ?_
      refine r_bipush E dX9_advance_79 (by decide) ?_
      refine r_icmp_lt E 184 dX9_advance_81 (by decide) (by omega) (fun c_81 => ?_) (fun c_81 => ?_)
      · skip
        refine r_aload_n E 0 hl rfl dX9_advance_184 ?_
        refine r_get (v := .ref ain) E h h_tk rfl inn_X9_advance_9 3 (by decide) fl_X9_advance_19 rfl dX9_advance_185 ?_
        refine r_aload_n E 0 hl rfl dX9_advance_188 ?_
        refine r_get (v := .int (zI e9)) E h h_tk rfl inn_X9_advance_9 5 (by decide) fl_X9_advance_26 rfl dX9_advance_189 ?_
        refine r_bald E h h_in (by omega) (by decide) dX9_advance_192 ?_
        refine r_bipush E dX9_advance_193 (by decide) ?_
        refine r_icmp_lt E 269 dX9_advance_195 (by decide) (by omega) (fun c_195 => ?_) (fun c_195 => ?_)
        · skip
          refine r_aload_n E 0 hl rfl dX9_advance_269 ?_
          refine r_iconst E dX9_advance_270 ?_
          refine r_put E h h_tk rfl inn_X9_advance_9 0 (by decide) fl_X9_advance_9 tyX9 tyX9_ok nmX9 rfl rfl rfl (Nat.le_of_ble_eq_true rfl) dX9_advance_271 (fun ws H locs h hu => ?_)
          have h_tk : ws[qk]? = some (atk, .inr (9, [.int (zI 3), .int (zI e9), .int (zI 0), .ref ain, .int (zI L), .int (zI e9)])) := hu.1
          have h_in := hu.keep h_in (by omega)
          have hE := hE.tr (hu.eqx (by first | omega | (dsimp only <;> omega)))
          refine r_aload_n E 0 hl rfl dX9_advance_274 ?_
          refine r_aload_n E 0 hl rfl dX9_advance_275 ?_
          refine r_get (v := .ref ain) E h h_tk rfl inn_X9_advance_9 3 (by decide) fl_X9_advance_19 rfl dX9_advance_276 ?_
          refine r_aload_n E 0 hl rfl dX9_advance_279 ?_
          refine r_get (v := .int (zI e9)) E h h_tk rfl inn_X9_advance_9 5 (by decide) fl_X9_advance_26 rfl dX9_advance_280 ?_
          refine r_bald E h h_in (by omega) (by decide) dX9_advance_283 ?_
          refine r_put E h h_tk rfl inn_X9_advance_9 2 (by decide) fl_X9_advance_16 tyX9 tyX9_ok nmX9 rfl rfl rfl (Nat.le_of_ble_eq_true rfl) dX9_advance_284 (fun ws H locs h hu => ?_)
          have h_tk : ws[qk]? = some (atk, .inr (9, [.int (zI 3), .int (zI e9), .int (zI (bu e9)), .ref ain, .int (zI L), .int (zI e9)])) := hu.1
          have h_in := hu.keep h_in (by omega)
          have hE := hE.tr (hu.eqx (by first | omega | (dsimp only <;> omega)))
          refine r_aload_n E 0 hl rfl dX9_advance_287 ?_
          refine r_dup E dX9_advance_288 rfl ?_
          refine r_get (v := .int (zI e9)) E h h_tk rfl inn_X9_advance_9 5 (by decide) fl_X9_advance_26 rfl dX9_advance_289 ?_
          refine r_iconst E dX9_advance_292 ?_
          refine r_iadd E dX9_advance_293 ?_
          refine r_put E h h_tk rfl inn_X9_advance_9 5 (by decide) fl_X9_advance_26 tyX9 tyX9_ok nmX9 rfl rfl rfl (Nat.le_of_ble_eq_true rfl) dX9_advance_294 (fun ws H locs h hu => ?_)
          have h_tk : ws[qk]? = some (atk, .inr (9, [.int (zI 3), .int (zI e9), .int (zI (bu e9)), .ref ain, .int (zI L), .int (zI (e9 + 1))])) := hu.1
          have h_in := hu.keep h_in (by omega)
          have hE := hE.tr (hu.eqx (by first | omega | (dsimp only <;> omega)))
          obtain ⟨q1, q2, q3⟩ := tk_sgn (t := bm) (L := L) (p := e9) (by omega) (by omega) (by omega)
          have hn : bu e9 = sg (byA bm L e9) := by rw [hy9]; exact hbm e9
          exact r_vret E h ⟨by rw [hpe, q1, q2, q3, ← hn]; exact h_tk, hE⟩ dX9_advance_297
        · skip
          refine r_aload_n E 0 hl rfl dX9_advance_198 ?_
          refine r_get (v := .ref ain) E h h_tk rfl inn_X9_advance_9 3 (by decide) fl_X9_advance_19 rfl dX9_advance_199 ?_
          refine r_aload_n E 0 hl rfl dX9_advance_202 ?_
          refine r_get (v := .int (zI e9)) E h h_tk rfl inn_X9_advance_9 5 (by decide) fl_X9_advance_26 rfl dX9_advance_203 ?_
          refine r_bald E h h_in (by omega) (by decide) dX9_advance_206 ?_
          refine r_bipush E dX9_advance_207 (by decide) ?_
          refine r_icmp_gt E 269 dX9_advance_209 (by decide) (by omega) (fun c_209 => ?_) (fun c_209 => ?_)
          · skip
            refine r_aload_n E 0 hl rfl dX9_advance_269 ?_
            refine r_iconst E dX9_advance_270 ?_
            refine r_put E h h_tk rfl inn_X9_advance_9 0 (by decide) fl_X9_advance_9 tyX9 tyX9_ok nmX9 rfl rfl rfl (Nat.le_of_ble_eq_true rfl) dX9_advance_271 (fun ws H locs h hu => ?_)
            have h_tk : ws[qk]? = some (atk, .inr (9, [.int (zI 3), .int (zI e9), .int (zI 0), .ref ain, .int (zI L), .int (zI e9)])) := hu.1
            have h_in := hu.keep h_in (by omega)
            have hE := hE.tr (hu.eqx (by first | omega | (dsimp only <;> omega)))
            refine r_aload_n E 0 hl rfl dX9_advance_274 ?_
            refine r_aload_n E 0 hl rfl dX9_advance_275 ?_
            refine r_get (v := .ref ain) E h h_tk rfl inn_X9_advance_9 3 (by decide) fl_X9_advance_19 rfl dX9_advance_276 ?_
            refine r_aload_n E 0 hl rfl dX9_advance_279 ?_
            refine r_get (v := .int (zI e9)) E h h_tk rfl inn_X9_advance_9 5 (by decide) fl_X9_advance_26 rfl dX9_advance_280 ?_
            refine r_bald E h h_in (by omega) (by decide) dX9_advance_283 ?_
            refine r_put E h h_tk rfl inn_X9_advance_9 2 (by decide) fl_X9_advance_16 tyX9 tyX9_ok nmX9 rfl rfl rfl (Nat.le_of_ble_eq_true rfl) dX9_advance_284 (fun ws H locs h hu => ?_)
            have h_tk : ws[qk]? = some (atk, .inr (9, [.int (zI 3), .int (zI e9), .int (zI (bu e9)), .ref ain, .int (zI L), .int (zI e9)])) := hu.1
            have h_in := hu.keep h_in (by omega)
            have hE := hE.tr (hu.eqx (by first | omega | (dsimp only <;> omega)))
            refine r_aload_n E 0 hl rfl dX9_advance_287 ?_
            refine r_dup E dX9_advance_288 rfl ?_
            refine r_get (v := .int (zI e9)) E h h_tk rfl inn_X9_advance_9 5 (by decide) fl_X9_advance_26 rfl dX9_advance_289 ?_
            refine r_iconst E dX9_advance_292 ?_
            refine r_iadd E dX9_advance_293 ?_
            refine r_put E h h_tk rfl inn_X9_advance_9 5 (by decide) fl_X9_advance_26 tyX9 tyX9_ok nmX9 rfl rfl rfl (Nat.le_of_ble_eq_true rfl) dX9_advance_294 (fun ws H locs h hu => ?_)
            have h_tk : ws[qk]? = some (atk, .inr (9, [.int (zI 3), .int (zI e9), .int (zI (bu e9)), .ref ain, .int (zI L), .int (zI (e9 + 1))])) := hu.1
            have h_in := hu.keep h_in (by omega)
            have hE := hE.tr (hu.eqx (by first | omega | (dsimp only <;> omega)))
            obtain ⟨q1, q2, q3⟩ := tk_sgn (t := bm) (L := L) (p := e9) (by omega) (by omega) (by omega)
            have hn : bu e9 = sg (byA bm L e9) := by rw [hy9]; exact hbm e9
            exact r_vret E h ⟨by rw [hpe, q1, q2, q3, ← hn]; exact h_tk, hE⟩ dX9_advance_297
          · skip
            refine r_aload_n E 0 hl rfl dX9_advance_212 ?_
            refine r_iconst E dX9_advance_213 ?_
            refine r_put E h h_tk rfl inn_X9_advance_9 0 (by decide) fl_X9_advance_9 tyX9 tyX9_ok nmX9 rfl rfl rfl (Nat.le_of_ble_eq_true rfl) dX9_advance_214 (fun ws H locs h hu => ?_)
            have h_tk : ws[qk]? = some (atk, .inr (9, [.int (zI 2), .int (zI e9), .int (zI 0), .ref ain, .int (zI L), .int (zI e9)])) := hu.1
            have h_in := hu.keep h_in (by omega)
            have hE := hE.tr (hu.eqx (by first | omega | (dsimp only <;> omega)))
            refine r_loop (fun n H locs ls => ∃ (ws : va_W) (e8 : Int), n = (L - e8).toNat ∧ (e9 ≤ e8 ∧ e8 ≤ L) ∧ (lw bm L e8 = lw bm L e9) ∧ (97 ≤ byA bm L e9 ∧ byA bm L e9 ≤ 122) ∧ Hp G ws A s.heap H locs ∧ (ws[qk]? = some (atk, .inr (9, [.int (zI 2), .int (zI e9), .int (zI 0), .ref ain, .int (zI L), .int (zI e8)]))) ∧ (ws[qi]? = some (ain, aB cy 600 bu)) ∧ Eqx ws0 ws (fun j => j = qk) ∧ lv_has ls 1 [(0, .ref atk)]) _ ⟨ws, e9, rfl, (by omega), rfl, (by omega), h, h_tk, h_in, hE, lv_sub hl [0] rfl⟩ ?_
            rintro n H locs ls ⟨ws, e8, hn, i3, i9, hd, h, h_tk, h_in, hE, hl⟩ ih_217
            refine r_aload_n E 0 hl rfl dX9_advance_217 ?_
            refine r_get (v := .int (zI e8)) E h h_tk rfl inn_X9_advance_9 5 (by decide) fl_X9_advance_26 rfl dX9_advance_218 ?_
            refine r_aload_n E 0 hl rfl dX9_advance_221 ?_
            refine r_get (v := .int (zI L)) E h h_tk rfl inn_X9_advance_9 4 (by decide) fl_X9_advance_23 rfl dX9_advance_222 ?_
            refine r_icmp_ge E 297 dX9_advance_225 (by decide) (by omega) (fun c_225 => ?_) (fun c_225 => ?_)
            · skip
              have hy8 : byA bm L e8 = -1 := if_neg (by omega)
              obtain ⟨q1, q2, q3⟩ := tk_wrd hd
              have hn : lw bm L e9 = e8 := i9.symm.trans (lw_stop (by omega))
              exact r_vret E h ⟨by rw [hpe, q1, q2, q3, hn]; exact h_tk, hE⟩ dX9_advance_297
            · skip
              have hy8 : byA bm L e8 = bm e8 := if_pos (by omega)
              have hs8 := sg_or (x := bm e8)
              have hb8 := hbm e8
              have hr8 := htx e8
              refine r_aload_n E 0 hl rfl dX9_advance_228 ?_
              refine r_get (v := .ref ain) E h h_tk rfl inn_X9_advance_9 3 (by decide) fl_X9_advance_19 rfl dX9_advance_229 ?_
              refine r_aload_n E 0 hl rfl dX9_advance_232 ?_
              refine r_get (v := .int (zI e8)) E h h_tk rfl inn_X9_advance_9 5 (by decide) fl_X9_advance_26 rfl dX9_advance_233 ?_
              refine r_bald E h h_in (by omega) (by decide) dX9_advance_236 ?_
              refine r_bipush E dX9_advance_237 (by decide) ?_
              refine r_icmp_lt E 297 dX9_advance_239 (by decide) (by omega) (fun c_239 => ?_) (fun c_239 => ?_)
              · skip
                obtain ⟨q1, q2, q3⟩ := tk_wrd hd
                have hn : lw bm L e9 = e8 := i9.symm.trans (lw_stop (by omega))
                exact r_vret E h ⟨by rw [hpe, q1, q2, q3, hn]; exact h_tk, hE⟩ dX9_advance_297
              · skip
                refine r_aload_n E 0 hl rfl dX9_advance_242 ?_
                refine r_get (v := .ref ain) E h h_tk rfl inn_X9_advance_9 3 (by decide) fl_X9_advance_19 rfl dX9_advance_243 ?_
                refine r_aload_n E 0 hl rfl dX9_advance_246 ?_
                refine r_get (v := .int (zI e8)) E h h_tk rfl inn_X9_advance_9 5 (by decide) fl_X9_advance_26 rfl dX9_advance_247 ?_
                refine r_bald E h h_in (by omega) (by decide) dX9_advance_250 ?_
                refine r_bipush E dX9_advance_251 (by decide) ?_
                refine r_icmp_gt E 297 dX9_advance_253 (by decide) (by omega) (fun c_253 => ?_) (fun c_253 => ?_)
                · skip
                  obtain ⟨q1, q2, q3⟩ := tk_wrd hd
                  have hn : lw bm L e9 = e8 := i9.symm.trans (lw_stop (by omega))
                  exact r_vret E h ⟨by rw [hpe, q1, q2, q3, hn]; exact h_tk, hE⟩ dX9_advance_297
                · skip
                  refine r_aload_n E 0 hl rfl dX9_advance_256 ?_
                  refine r_dup E dX9_advance_257 rfl ?_
                  refine r_get (v := .int (zI e8)) E h h_tk rfl inn_X9_advance_9 5 (by decide) fl_X9_advance_26 rfl dX9_advance_258 ?_
                  refine r_iconst E dX9_advance_261 ?_
                  refine r_iadd E dX9_advance_262 ?_
                  refine r_put E h h_tk rfl inn_X9_advance_9 5 (by decide) fl_X9_advance_26 tyX9 tyX9_ok nmX9 rfl rfl rfl (Nat.le_of_ble_eq_true rfl) dX9_advance_263 (fun ws H locs h hu => ?_)
                  have h_tk : ws[qk]? = some (atk, .inr (9, [.int (zI 2), .int (zI e9), .int (zI 0), .ref ain, .int (zI L), .int (zI (e8 + 1))])) := hu.1
                  have h_in := hu.keep h_in (by omega)
                  have hE := hE.tr (hu.eqx (by first | omega | (dsimp only <;> omega)))
                  refine r_goto E 217 dX9_advance_266 (by decide) ?_
                  exact ih_217 _ H locs ls (by omega) ⟨ws, (e8 + 1), rfl, (by omega), (by rw [← i9]; exact (lw_step (by omega)).symm), (by omega), h, h_tk, h_in, hE, lv_sub hl [0] rfl⟩
      · skip
        refine r_aload_n E 0 hl rfl dX9_advance_84 ?_
        refine r_get (v := .ref ain) E h h_tk rfl inn_X9_advance_9 3 (by decide) fl_X9_advance_19 rfl dX9_advance_85 ?_
        refine r_aload_n E 0 hl rfl dX9_advance_88 ?_
        refine r_get (v := .int (zI e9)) E h h_tk rfl inn_X9_advance_9 5 (by decide) fl_X9_advance_26 rfl dX9_advance_89 ?_
        refine r_bald E h h_in (by omega) (by decide) dX9_advance_92 ?_
        refine r_bipush E dX9_advance_93 (by decide) ?_
        refine r_icmp_gt E 184 dX9_advance_95 (by decide) (by omega) (fun c_95 => ?_) (fun c_95 => ?_)
        · skip
          refine r_aload_n E 0 hl rfl dX9_advance_184 ?_
          refine r_get (v := .ref ain) E h h_tk rfl inn_X9_advance_9 3 (by decide) fl_X9_advance_19 rfl dX9_advance_185 ?_
          refine r_aload_n E 0 hl rfl dX9_advance_188 ?_
          refine r_get (v := .int (zI e9)) E h h_tk rfl inn_X9_advance_9 5 (by decide) fl_X9_advance_26 rfl dX9_advance_189 ?_
          refine r_bald E h h_in (by omega) (by decide) dX9_advance_192 ?_
          refine r_bipush E dX9_advance_193 (by decide) ?_
          refine r_icmp_lt E 269 dX9_advance_195 (by decide) (by omega) (fun c_195 => ?_) (fun c_195 => ?_)
          · skip
            refine r_aload_n E 0 hl rfl dX9_advance_269 ?_
            refine r_iconst E dX9_advance_270 ?_
            refine r_put E h h_tk rfl inn_X9_advance_9 0 (by decide) fl_X9_advance_9 tyX9 tyX9_ok nmX9 rfl rfl rfl (Nat.le_of_ble_eq_true rfl) dX9_advance_271 (fun ws H locs h hu => ?_)
            have h_tk : ws[qk]? = some (atk, .inr (9, [.int (zI 3), .int (zI e9), .int (zI 0), .ref ain, .int (zI L), .int (zI e9)])) := hu.1
            have h_in := hu.keep h_in (by omega)
            have hE := hE.tr (hu.eqx (by first | omega | (dsimp only <;> omega)))
            refine r_aload_n E 0 hl rfl dX9_advance_274 ?_
            refine r_aload_n E 0 hl rfl dX9_advance_275 ?_
            refine r_get (v := .ref ain) E h h_tk rfl inn_X9_advance_9 3 (by decide) fl_X9_advance_19 rfl dX9_advance_276 ?_
            refine r_aload_n E 0 hl rfl dX9_advance_279 ?_
            refine r_get (v := .int (zI e9)) E h h_tk rfl inn_X9_advance_9 5 (by decide) fl_X9_advance_26 rfl dX9_advance_280 ?_
            refine r_bald E h h_in (by omega) (by decide) dX9_advance_283 ?_
            refine r_put E h h_tk rfl inn_X9_advance_9 2 (by decide) fl_X9_advance_16 tyX9 tyX9_ok nmX9 rfl rfl rfl (Nat.le_of_ble_eq_true rfl) dX9_advance_284 (fun ws H locs h hu => ?_)
            have h_tk : ws[qk]? = some (atk, .inr (9, [.int (zI 3), .int (zI e9), .int (zI (bu e9)), .ref ain, .int (zI L), .int (zI e9)])) := hu.1
            have h_in := hu.keep h_in (by omega)
            have hE := hE.tr (hu.eqx (by first | omega | (dsimp only <;> omega)))
            refine r_aload_n E 0 hl rfl dX9_advance_287 ?_
            refine r_dup E dX9_advance_288 rfl ?_
            refine r_get (v := .int (zI e9)) E h h_tk rfl inn_X9_advance_9 5 (by decide) fl_X9_advance_26 rfl dX9_advance_289 ?_
            refine r_iconst E dX9_advance_292 ?_
            refine r_iadd E dX9_advance_293 ?_
            refine r_put E h h_tk rfl inn_X9_advance_9 5 (by decide) fl_X9_advance_26 tyX9 tyX9_ok nmX9 rfl rfl rfl (Nat.le_of_ble_eq_true rfl) dX9_advance_294 (fun ws H locs h hu => ?_)
            have h_tk : ws[qk]? = some (atk, .inr (9, [.int (zI 3), .int (zI e9), .int (zI (bu e9)), .ref ain, .int (zI L), .int (zI (e9 + 1))])) := hu.1
            have h_in := hu.keep h_in (by omega)
            have hE := hE.tr (hu.eqx (by first | omega | (dsimp only <;> omega)))
            obtain ⟨q1, q2, q3⟩ := tk_sgn (t := bm) (L := L) (p := e9) (by omega) (by omega) (by omega)
            have hn : bu e9 = sg (byA bm L e9) := by rw [hy9]; exact hbm e9
            exact r_vret E h ⟨by rw [hpe, q1, q2, q3, ← hn]; exact h_tk, hE⟩ dX9_advance_297
          · skip
            refine r_aload_n E 0 hl rfl dX9_advance_198 ?_
            refine r_get (v := .ref ain) E h h_tk rfl inn_X9_advance_9 3 (by decide) fl_X9_advance_19 rfl dX9_advance_199 ?_
            refine r_aload_n E 0 hl rfl dX9_advance_202 ?_
            refine r_get (v := .int (zI e9)) E h h_tk rfl inn_X9_advance_9 5 (by decide) fl_X9_advance_26 rfl dX9_advance_203 ?_
            refine r_bald E h h_in (by omega) (by decide) dX9_advance_206 ?_
            refine r_bipush E dX9_advance_207 (by decide) ?_
            refine r_icmp_gt E 269 dX9_advance_209 (by decide) (by omega) (fun c_209 => ?_) (fun c_209 => ?_)
            · skip
              refine r_aload_n E 0 hl rfl dX9_advance_269 ?_
              refine r_iconst E dX9_advance_270 ?_
              refine r_put E h h_tk rfl inn_X9_advance_9 0 (by decide) fl_X9_advance_9 tyX9 tyX9_ok nmX9 rfl rfl rfl (Nat.le_of_ble_eq_true rfl) dX9_advance_271 (fun ws H locs h hu => ?_)
              have h_tk : ws[qk]? = some (atk, .inr (9, [.int (zI 3), .int (zI e9), .int (zI 0), .ref ain, .int (zI L), .int (zI e9)])) := hu.1
              have h_in := hu.keep h_in (by omega)
              have hE := hE.tr (hu.eqx (by first | omega | (dsimp only <;> omega)))
              refine r_aload_n E 0 hl rfl dX9_advance_274 ?_
              refine r_aload_n E 0 hl rfl dX9_advance_275 ?_
              refine r_get (v := .ref ain) E h h_tk rfl inn_X9_advance_9 3 (by decide) fl_X9_advance_19 rfl dX9_advance_276 ?_
              refine r_aload_n E 0 hl rfl dX9_advance_279 ?_
              refine r_get (v := .int (zI e9)) E h h_tk rfl inn_X9_advance_9 5 (by decide) fl_X9_advance_26 rfl dX9_advance_280 ?_
              refine r_bald E h h_in (by omega) (by decide) dX9_advance_283 ?_
              refine r_put E h h_tk rfl inn_X9_advance_9 2 (by decide) fl_X9_advance_16 tyX9 tyX9_ok nmX9 rfl rfl rfl (Nat.le_of_ble_eq_true rfl) dX9_advance_284 (fun ws H locs h hu => ?_)
              have h_tk : ws[qk]? = some (atk, .inr (9, [.int (zI 3), .int (zI e9), .int (zI (bu e9)), .ref ain, .int (zI L), .int (zI e9)])) := hu.1
              have h_in := hu.keep h_in (by omega)
              have hE := hE.tr (hu.eqx (by first | omega | (dsimp only <;> omega)))
              refine r_aload_n E 0 hl rfl dX9_advance_287 ?_
              refine r_dup E dX9_advance_288 rfl ?_
              refine r_get (v := .int (zI e9)) E h h_tk rfl inn_X9_advance_9 5 (by decide) fl_X9_advance_26 rfl dX9_advance_289 ?_
              refine r_iconst E dX9_advance_292 ?_
              refine r_iadd E dX9_advance_293 ?_
              refine r_put E h h_tk rfl inn_X9_advance_9 5 (by decide) fl_X9_advance_26 tyX9 tyX9_ok nmX9 rfl rfl rfl (Nat.le_of_ble_eq_true rfl) dX9_advance_294 (fun ws H locs h hu => ?_)
              have h_tk : ws[qk]? = some (atk, .inr (9, [.int (zI 3), .int (zI e9), .int (zI (bu e9)), .ref ain, .int (zI L), .int (zI (e9 + 1))])) := hu.1
              have h_in := hu.keep h_in (by omega)
              have hE := hE.tr (hu.eqx (by first | omega | (dsimp only <;> omega)))
              obtain ⟨q1, q2, q3⟩ := tk_sgn (t := bm) (L := L) (p := e9) (by omega) (by omega) (by omega)
              have hn : bu e9 = sg (byA bm L e9) := by rw [hy9]; exact hbm e9
              exact r_vret E h ⟨by rw [hpe, q1, q2, q3, ← hn]; exact h_tk, hE⟩ dX9_advance_297
            · skip
              refine r_aload_n E 0 hl rfl dX9_advance_212 ?_
              refine r_iconst E dX9_advance_213 ?_
              refine r_put E h h_tk rfl inn_X9_advance_9 0 (by decide) fl_X9_advance_9 tyX9 tyX9_ok nmX9 rfl rfl rfl (Nat.le_of_ble_eq_true rfl) dX9_advance_214 (fun ws H locs h hu => ?_)
              have h_tk : ws[qk]? = some (atk, .inr (9, [.int (zI 2), .int (zI e9), .int (zI 0), .ref ain, .int (zI L), .int (zI e9)])) := hu.1
              have h_in := hu.keep h_in (by omega)
              have hE := hE.tr (hu.eqx (by first | omega | (dsimp only <;> omega)))
              refine r_loop (fun n H locs ls => ∃ (ws : va_W) (e8 : Int), n = (L - e8).toNat ∧ (e9 ≤ e8 ∧ e8 ≤ L) ∧ (lw bm L e8 = lw bm L e9) ∧ (97 ≤ byA bm L e9 ∧ byA bm L e9 ≤ 122) ∧ Hp G ws A s.heap H locs ∧ (ws[qk]? = some (atk, .inr (9, [.int (zI 2), .int (zI e9), .int (zI 0), .ref ain, .int (zI L), .int (zI e8)]))) ∧ (ws[qi]? = some (ain, aB cy 600 bu)) ∧ Eqx ws0 ws (fun j => j = qk) ∧ lv_has ls 1 [(0, .ref atk)]) _ ⟨ws, e9, rfl, (by omega), rfl, (by omega), h, h_tk, h_in, hE, lv_sub hl [0] rfl⟩ ?_
              rintro n H locs ls ⟨ws, e8, hn, i3, i9, hd, h, h_tk, h_in, hE, hl⟩ ih_217
              refine r_aload_n E 0 hl rfl dX9_advance_217 ?_
              refine r_get (v := .int (zI e8)) E h h_tk rfl inn_X9_advance_9 5 (by decide) fl_X9_advance_26 rfl dX9_advance_218 ?_
              refine r_aload_n E 0 hl rfl dX9_advance_221 ?_
              refine r_get (v := .int (zI L)) E h h_tk rfl inn_X9_advance_9 4 (by decide) fl_X9_advance_23 rfl dX9_advance_222 ?_
              refine r_icmp_ge E 297 dX9_advance_225 (by decide) (by omega) (fun c_225 => ?_) (fun c_225 => ?_)
              · skip
                have hy8 : byA bm L e8 = -1 := if_neg (by omega)
                obtain ⟨q1, q2, q3⟩ := tk_wrd hd
                have hn : lw bm L e9 = e8 := i9.symm.trans (lw_stop (by omega))
                exact r_vret E h ⟨by rw [hpe, q1, q2, q3, hn]; exact h_tk, hE⟩ dX9_advance_297
              · skip
                have hy8 : byA bm L e8 = bm e8 := if_pos (by omega)
                have hs8 := sg_or (x := bm e8)
                have hb8 := hbm e8
                have hr8 := htx e8
                refine r_aload_n E 0 hl rfl dX9_advance_228 ?_
                refine r_get (v := .ref ain) E h h_tk rfl inn_X9_advance_9 3 (by decide) fl_X9_advance_19 rfl dX9_advance_229 ?_
                refine r_aload_n E 0 hl rfl dX9_advance_232 ?_
                refine r_get (v := .int (zI e8)) E h h_tk rfl inn_X9_advance_9 5 (by decide) fl_X9_advance_26 rfl dX9_advance_233 ?_
                refine r_bald E h h_in (by omega) (by decide) dX9_advance_236 ?_
                refine r_bipush E dX9_advance_237 (by decide) ?_
                refine r_icmp_lt E 297 dX9_advance_239 (by decide) (by omega) (fun c_239 => ?_) (fun c_239 => ?_)
                · skip
                  obtain ⟨q1, q2, q3⟩ := tk_wrd hd
                  have hn : lw bm L e9 = e8 := i9.symm.trans (lw_stop (by omega))
                  exact r_vret E h ⟨by rw [hpe, q1, q2, q3, hn]; exact h_tk, hE⟩ dX9_advance_297
                · skip
                  refine r_aload_n E 0 hl rfl dX9_advance_242 ?_
                  refine r_get (v := .ref ain) E h h_tk rfl inn_X9_advance_9 3 (by decide) fl_X9_advance_19 rfl dX9_advance_243 ?_
                  refine r_aload_n E 0 hl rfl dX9_advance_246 ?_
                  refine r_get (v := .int (zI e8)) E h h_tk rfl inn_X9_advance_9 5 (by decide) fl_X9_advance_26 rfl dX9_advance_247 ?_
                  refine r_bald E h h_in (by omega) (by decide) dX9_advance_250 ?_
                  refine r_bipush E dX9_advance_251 (by decide) ?_
                  refine r_icmp_gt E 297 dX9_advance_253 (by decide) (by omega) (fun c_253 => ?_) (fun c_253 => ?_)
                  · skip
                    obtain ⟨q1, q2, q3⟩ := tk_wrd hd
                    have hn : lw bm L e9 = e8 := i9.symm.trans (lw_stop (by omega))
                    exact r_vret E h ⟨by rw [hpe, q1, q2, q3, hn]; exact h_tk, hE⟩ dX9_advance_297
                  · skip
                    refine r_aload_n E 0 hl rfl dX9_advance_256 ?_
                    refine r_dup E dX9_advance_257 rfl ?_
                    refine r_get (v := .int (zI e8)) E h h_tk rfl inn_X9_advance_9 5 (by decide) fl_X9_advance_26 rfl dX9_advance_258 ?_
                    refine r_iconst E dX9_advance_261 ?_
                    refine r_iadd E dX9_advance_262 ?_
                    refine r_put E h h_tk rfl inn_X9_advance_9 5 (by decide) fl_X9_advance_26 tyX9 tyX9_ok nmX9 rfl rfl rfl (Nat.le_of_ble_eq_true rfl) dX9_advance_263 (fun ws H locs h hu => ?_)
                    have h_tk : ws[qk]? = some (atk, .inr (9, [.int (zI 2), .int (zI e9), .int (zI 0), .ref ain, .int (zI L), .int (zI (e8 + 1))])) := hu.1
                    have h_in := hu.keep h_in (by omega)
                    have hE := hE.tr (hu.eqx (by first | omega | (dsimp only <;> omega)))
                    refine r_goto E 217 dX9_advance_266 (by decide) ?_
                    exact ih_217 _ H locs ls (by omega) ⟨ws, (e8 + 1), rfl, (by omega), (by rw [← i9]; exact (lw_step (by omega)).symm), (by omega), h, h_tk, h_in, hE, lv_sub hl [0] rfl⟩
        · skip
          refine r_aload_n E 0 hl rfl dX9_advance_98 ?_
          refine r_iconst E dX9_advance_99 ?_
          refine r_put E h h_tk rfl inn_X9_advance_9 0 (by decide) fl_X9_advance_9 tyX9 tyX9_ok nmX9 rfl rfl rfl (Nat.le_of_ble_eq_true rfl) dX9_advance_100 (fun ws H locs h hu => ?_)
          have h_tk : ws[qk]? = some (atk, .inr (9, [.int (zI 1), .int (zI e9), .int (zI 0), .ref ain, .int (zI L), .int (zI e9)])) := hu.1
          have h_in := hu.keep h_in (by omega)
          have hE := hE.tr (hu.eqx (by first | omega | (dsimp only <;> omega)))
          refine r_loop (fun n H locs ls => ∃ (ws : va_W) (v9 : Int) (e8 : Int), n = (L - e8).toNat ∧ (e9 ≤ e8 ∧ e8 ≤ L) ∧ (0 ≤ v9 ∧ v9 ≤ 1000000) ∧ (nm bm L v9 e8 = nm bm L 0 e9) ∧ (48 ≤ byA bm L e9 ∧ byA bm L e9 ≤ 57) ∧ Hp G ws A s.heap H locs ∧ (ws[qk]? = some (atk, .inr (9, [.int (zI 1), .int (zI e9), .int (zI v9), .ref ain, .int (zI L), .int (zI e8)]))) ∧ (ws[qi]? = some (ain, aB cy 600 bu)) ∧ Eqx ws0 ws (fun j => j = qk) ∧ lv_has ls 1 [(0, .ref atk)]) _ ⟨ws, 0, e9, rfl, (by omega), (by omega), rfl, (by omega), h, h_tk, h_in, hE, lv_sub hl [0] rfl⟩ ?_
          rintro n H locs ls ⟨ws, v9, e8, hn, i3, i4, i9, hd, h, h_tk, h_in, hE, hl⟩ ih_103
          refine r_aload_n E 0 hl rfl dX9_advance_103 ?_
          refine r_get (v := .int (zI e8)) E h h_tk rfl inn_X9_advance_9 5 (by decide) fl_X9_advance_26 rfl dX9_advance_104 ?_
          refine r_aload_n E 0 hl rfl dX9_advance_107 ?_
          refine r_get (v := .int (zI L)) E h h_tk rfl inn_X9_advance_9 4 (by decide) fl_X9_advance_23 rfl dX9_advance_108 ?_
          refine r_icmp_ge E 297 dX9_advance_111 (by decide) (by omega) (fun c_111 => ?_) (fun c_111 => ?_)
          · skip
            have hy8 : byA bm L e8 = -1 := if_neg (by omega)
            obtain ⟨q1, q2, q3⟩ := tk_num hd
            have hn : nm bm L 0 e9 = (v9, e8) := i9.symm.trans (nm_stop (by omega))
            exact r_vret E h ⟨by rw [hpe, q1, q2, q3, hn]; exact h_tk, hE⟩ dX9_advance_297
          · skip
            have hy8 : byA bm L e8 = bm e8 := if_pos (by omega)
            have hs8 := sg_or (x := bm e8)
            have hb8 := hbm e8
            have hr8 := htx e8
            refine r_aload_n E 0 hl rfl dX9_advance_114 ?_
            refine r_get (v := .ref ain) E h h_tk rfl inn_X9_advance_9 3 (by decide) fl_X9_advance_19 rfl dX9_advance_115 ?_
            refine r_aload_n E 0 hl rfl dX9_advance_118 ?_
            refine r_get (v := .int (zI e8)) E h h_tk rfl inn_X9_advance_9 5 (by decide) fl_X9_advance_26 rfl dX9_advance_119 ?_
            refine r_bald E h h_in (by omega) (by decide) dX9_advance_122 ?_
            refine r_bipush E dX9_advance_123 (by decide) ?_
            refine r_icmp_lt E 297 dX9_advance_125 (by decide) (by omega) (fun c_125 => ?_) (fun c_125 => ?_)
            · skip
              obtain ⟨q1, q2, q3⟩ := tk_num hd
              have hn : nm bm L 0 e9 = (v9, e8) := i9.symm.trans (nm_stop (by omega))
              exact r_vret E h ⟨by rw [hpe, q1, q2, q3, hn]; exact h_tk, hE⟩ dX9_advance_297
            · skip
              refine r_aload_n E 0 hl rfl dX9_advance_128 ?_
              refine r_get (v := .ref ain) E h h_tk rfl inn_X9_advance_9 3 (by decide) fl_X9_advance_19 rfl dX9_advance_129 ?_
              refine r_aload_n E 0 hl rfl dX9_advance_132 ?_
              refine r_get (v := .int (zI e8)) E h h_tk rfl inn_X9_advance_9 5 (by decide) fl_X9_advance_26 rfl dX9_advance_133 ?_
              refine r_bald E h h_in (by omega) (by decide) dX9_advance_136 ?_
              refine r_bipush E dX9_advance_137 (by decide) ?_
              refine r_icmp_gt E 297 dX9_advance_139 (by decide) (by omega) (fun c_139 => ?_) (fun c_139 => ?_)
              · skip
                obtain ⟨q1, q2, q3⟩ := tk_num hd
                have hn : nm bm L 0 e9 = (v9, e8) := i9.symm.trans (nm_stop (by omega))
                exact r_vret E h ⟨by rw [hpe, q1, q2, q3, hn]; exact h_tk, hE⟩ dX9_advance_297
              · skip
                refine r_aload_n E 0 hl rfl dX9_advance_142 ?_
                refine r_ldc E (v := 1000000) (List.mem_of_getElem? (i := 7) rfl) (n := 1000000) (by decide) dX9_advance_143 ?_
                refine r_aload_n E 0 hl rfl dX9_advance_145 ?_
                refine r_get (v := .int (zI v9)) E h h_tk rfl inn_X9_advance_9 2 (by decide) fl_X9_advance_16 rfl dX9_advance_146 ?_
                refine r_bipush E dX9_advance_149 (by decide) ?_
                refine r_imul E dX9_advance_151 ?_
                refine r_aload_n E 0 hl rfl dX9_advance_152 ?_
                refine r_get (v := .ref ain) E h h_tk rfl inn_X9_advance_9 3 (by decide) fl_X9_advance_19 rfl dX9_advance_153 ?_
                refine r_aload_n E 0 hl rfl dX9_advance_156 ?_
                refine r_get (v := .int (zI e8)) E h h_tk rfl inn_X9_advance_9 5 (by decide) fl_X9_advance_26 rfl dX9_advance_157 ?_
                refine r_bald E h h_in (by omega) (by decide) dX9_advance_160 ?_
                refine r_bipush E dX9_advance_161 (by decide) ?_
                refine r_isub E dX9_advance_163 ?_
                refine r_iadd E dX9_advance_164 ?_
                refine r_mmin E (List.mem_of_getElem? (i := 8) rfl) (List.mem_of_getElem? (i := 9) rfl) (List.mem_of_getElem? (i := 10) rfl) (List.mem_of_getElem? (i := 11) rfl) hl.1 ⟨by decide, Nat.le_of_ble_eq_true rfl⟩ ⟨by decide, by decide⟩ (by omega) dX9_advance_165 (fun z_165 e_165 => ?_)
                have hm : z_165 = mn6 (10 * v9 + byA bm L e8 - 48) := by unfold mn6; split <;> omega
                refine r_put E h h_tk rfl inn_X9_advance_9 2 (by decide) fl_X9_advance_16 tyX9 tyX9_ok nmX9 rfl rfl rfl (Nat.le_of_ble_eq_true rfl) dX9_advance_168 (fun ws H locs h hu => ?_)
                have h_tk : ws[qk]? = some (atk, .inr (9, [.int (zI 1), .int (zI e9), .int (zI z_165), .ref ain, .int (zI L), .int (zI e8)])) := hu.1
                have h_in := hu.keep h_in (by omega)
                have hE := hE.tr (hu.eqx (by first | omega | (dsimp only <;> omega)))
                refine r_aload_n E 0 hl rfl dX9_advance_171 ?_
                refine r_dup E dX9_advance_172 rfl ?_
                refine r_get (v := .int (zI e8)) E h h_tk rfl inn_X9_advance_9 5 (by decide) fl_X9_advance_26 rfl dX9_advance_173 ?_
                refine r_iconst E dX9_advance_176 ?_
                refine r_iadd E dX9_advance_177 ?_
                refine r_put E h h_tk rfl inn_X9_advance_9 5 (by decide) fl_X9_advance_26 tyX9 tyX9_ok nmX9 rfl rfl rfl (Nat.le_of_ble_eq_true rfl) dX9_advance_178 (fun ws H locs h hu => ?_)
                have h_tk : ws[qk]? = some (atk, .inr (9, [.int (zI 1), .int (zI e9), .int (zI z_165), .ref ain, .int (zI L), .int (zI (e8 + 1))])) := hu.1
                have h_in := hu.keep h_in (by omega)
                have hE := hE.tr (hu.eqx (by first | omega | (dsimp only <;> omega)))
                refine r_goto E 103 dX9_advance_181 (by decide) ?_
                exact ih_103 _ H locs ls (by omega) ⟨ws, z_165, (e8 + 1), rfl, (by omega), (by omega), (by rw [← i9, hm]; exact (nm_step (by omega)).symm), (by omega), h, h_tk, h_in, hE, lv_sub hl [0] rfl⟩
    · skip
      have hy9 : byA bm L e9 = -1 := if_neg (by omega)
      refine r_aload_n E 0 hl rfl dX9_advance_62 ?_
      refine r_iconst E dX9_advance_63 ?_
      refine r_put E h h_tk rfl inn_X9_advance_9 0 (by decide) fl_X9_advance_9 tyX9 tyX9_ok nmX9 rfl rfl rfl (Nat.le_of_ble_eq_true rfl) dX9_advance_64 (fun ws H locs h hu => ?_)
      have h_tk : ws[qk]? = some (atk, .inr (9, [.int (zI 0), .int (zI e9), .int (zI 0), .ref ain, .int (zI L), .int (zI e9)])) := hu.1
      have h_in := hu.keep h_in (by omega)
      have hE := hE.tr (hu.eqx (by first | omega | (dsimp only <;> omega)))
      refine r_goto E 297 dX9_advance_67 (by decide) ?_
      obtain ⟨q1, q2, q3⟩ := tk_end hy9
      exact r_vret E h ⟨by rw [hpe, q1, q2, q3]; exact h_tk, hE⟩ dX9_advance_297
  · intro kc_38
    refine r_aload_n E 0 hl rfl dX9_advance_0 ?_
    refine r_get (v := .int (zI e9)) E h h_tk rfl inn_X9_advance_9 5 (by decide) fl_X9_advance_26 rfl dX9_advance_1 ?_
    refine r_aload_n E 0 hl rfl dX9_advance_4 ?_
    refine r_get (v := .int (zI L)) E h h_tk rfl inn_X9_advance_9 4 (by decide) fl_X9_advance_23 rfl dX9_advance_5 ?_
    refine r_icmp_ge E 38 dX9_advance_8 (by decide) (by omega) (fun c_8 => ?_) (fun c_8 => ?_)
    · skip
      have hy8 : byA bm L e9 = -1 := if_neg (by omega)
      exact kc_38 (()) H locs ls ⟨(by rw [← i2]; exact sk_stop (by omega)), h, lv_sub hl [0] rfl⟩
    · skip
      have hy8 : byA bm L e9 = bm e9 := if_pos (by omega)
      have hs8 := sg_or (x := bm e9)
      have hb8 := hbm e9
      have hr8 := htx e9
      refine r_aload_n E 0 hl rfl dX9_advance_11 ?_
      refine r_get (v := .ref ain) E h h_tk rfl inn_X9_advance_9 3 (by decide) fl_X9_advance_19 rfl dX9_advance_12 ?_
      refine r_aload_n E 0 hl rfl dX9_advance_15 ?_
      refine r_get (v := .int (zI e9)) E h h_tk rfl inn_X9_advance_9 5 (by decide) fl_X9_advance_26 rfl dX9_advance_16 ?_
      refine r_bald E h h_in (by omega) (by decide) dX9_advance_19 ?_
      refine r_bipush E dX9_advance_20 (by decide) ?_
      refine r_icmp_ne E 38 dX9_advance_22 (by decide) (by omega) (fun c_22 => ?_) (fun c_22 => ?_)
      · skip
        exact kc_38 (()) H locs ls ⟨(by rw [← i2]; exact sk_stop (by omega)), h, lv_sub hl [0] rfl⟩
      · skip
        refine r_aload_n E 0 hl rfl dX9_advance_25 ?_
        refine r_dup E dX9_advance_26 rfl ?_
        refine r_get (v := .int (zI e9)) E h h_tk rfl inn_X9_advance_9 5 (by decide) fl_X9_advance_26 rfl dX9_advance_27 ?_
        refine r_iconst E dX9_advance_30 ?_
        refine r_iadd E dX9_advance_31 ?_
        refine r_put E h h_tk rfl inn_X9_advance_9 5 (by decide) fl_X9_advance_26 tyX9 tyX9_ok nmX9 rfl rfl rfl (Nat.le_of_ble_eq_true rfl) dX9_advance_32 (fun ws H locs h hu => ?_)
        have h_tk : ws[qk]? = some (atk, .inr (9, [.int (zI k0), .int (zI s0), .int (zI v0), .ref ain, .int (zI L), .int (zI (e9 + 1))])) := hu.1
        have h_in := hu.keep h_in (by omega)
        have hE := hE.tr (hu.eqx (by first | omega | (dsimp only <;> omega)))
        refine r_goto E 0 dX9_advance_35 (by decide) ?_
        exact ih_0 _ H locs ls (by omega) ⟨ws, (e9 + 1), rfl, (by omega), (by rw [← i2]; exact (sk_step (by omega)).symm), h, h_tk, h_in, hE, lv_sub hl [0] rfl⟩
theorem hd_X9_begin : yX9_begin.cls = RX9 ∧ yX9_begin.cls ≠ "java/lang/invoke/MethodHandle" ∧ yX9_begin.cls ≠ "java/lang/invoke/VarHandle" ∧ (parseMethodDescriptor yX9_begin.desc).map (fun d => d.parameters.length) = some 2 := by decide +kernel
theorem fl_X9_begin_19 : Cond.fieldLink RX9 19 (TX9 3).1 (TX9 3).2.1 (TX9 3).2.2.1 ∈ wsX9_begin := List.mem_of_getElem? (i := 1) rfl
theorem inn_X9_begin_9 : ∀ w ∈ wsX90, w ∈ wsX9_begin := fun _ h => List.mem_cons_of_mem _ (List.mem_append_right _ h)
theorem fl_X9_begin_23 : Cond.fieldLink RX9 23 (TX9 4).1 (TX9 4).2.1 (TX9 4).2.2.1 ∈ wsX9_begin := List.mem_of_getElem? (i := 6) rfl
theorem fl_X9_begin_26 : Cond.fieldLink RX9 26 (TX9 5).1 (TX9 5).2.1 (TX9 5).2.2.1 ∈ wsX9_begin := List.mem_of_getElem? (i := 7) rfl
abbrev rm_X9_begin : Room := { frames := 2, cells := 0, slots := 0, locals := 43 }
set_option maxHeartbeats 1200000 in
set_option maxRecDepth 100000 in
theorem k_X9_begin (l : Launch) {G : va_G} {cy : Nat → ClassId} {ws0 : va_W} {bu bm : Int → Int} {L : Int} {qi ain atk : Nat} {qk aol : Nat} {k0 s0 v0 l0 e0 : Int} (h_tk : ws0[qk]? = some (atk, .inr (9, [.int (zI k0), .int (zI s0), .int (zI v0), .ref aol, .int (zI l0), .int (zI e0)]))) (h_in : ws0[qi]? = some (ain, aB cy 600 bu)) (htx : TXok bm) (hbm : ∀ i : Int, bu i = sg (bm i)) (hL : 0 ≤ L ∧ L ≤ 600) (hqi : qi ≠ qk) : MV l yX9_begin wsX9_begin rm_X9_begin G cy [.ref atk, .ref ain, .int (zI L)] ws0 (fun u => u[qk]? = some (atk, .inr (9, [.int (zI (tkK bm L (sk bm L 0))), .int (zI (sk bm L 0)), .int (zI (tkV bm L (sk bm L 0))), .ref ain, .int (zI L), .int (zI (tkE bm L (sk bm L 0)))])) ∧ Eqx ws0 u (fun j => j = qk)) := by
  refine MV.of (own := RX9) (cc := cX9_begin) (nL := 3) (ret := none) (by decide) rfl rfl (Nat.le_of_ble_eq_true rfl) ?_
  intro p e s m below meth c A ls hin E h hl
  have hl : lv_has ls 3 [(0, .ref atk), (1, .ref ain), (2, .int (zI L))] := hl
  have hE : Eqx ws0 ws0 (fun j => j = qk) := Eqx.rf
  refine r_aload_n E 0 hl rfl dX9_begin_0 ?_
  refine r_aload_n E 1 hl rfl dX9_begin_1 ?_
  refine r_put E h h_tk rfl inn_X9_begin_9 3 (by decide) fl_X9_begin_19 tyX9 tyX9_ok nmX9 rfl rfl rfl (Nat.le_of_ble_eq_true rfl) dX9_begin_2 (fun ws H locs h hu => ?_)
  have h_tk : ws[qk]? = some (atk, .inr (9, [.int (zI k0), .int (zI s0), .int (zI v0), .ref ain, .int (zI l0), .int (zI e0)])) := hu.1
  have h_in := hu.keep h_in (by omega)
  have hE := hE.tr (hu.eqx (by first | omega | (dsimp only <;> omega)))
  refine r_aload_n E 0 hl rfl dX9_begin_5 ?_
  refine r_iload_n E 2 hl rfl dX9_begin_6 ?_
  refine r_aload_n E 1 hl rfl dX9_begin_7 ?_
  refine r_alen E h rfl h_in (v := 600) rfl dX9_begin_8 ?_
  refine r_mmin E (List.mem_of_getElem? (i := 2) rfl) (List.mem_of_getElem? (i := 3) rfl) (List.mem_of_getElem? (i := 4) rfl) (List.mem_of_getElem? (i := 5) rfl) hl.1 ⟨by decide, Nat.le_of_ble_eq_true rfl⟩ ⟨by decide, by decide⟩ (by omega) dX9_begin_9 (fun z_9 e_9 => ?_)
  rw [show z_9 = L from (by omega)]
  skip
  refine r_put E h h_tk rfl inn_X9_begin_9 4 (by decide) fl_X9_begin_23 tyX9 tyX9_ok nmX9 rfl rfl rfl (Nat.le_of_ble_eq_true rfl) dX9_begin_12 (fun ws H locs h hu => ?_)
  have h_tk : ws[qk]? = some (atk, .inr (9, [.int (zI k0), .int (zI s0), .int (zI v0), .ref ain, .int (zI L), .int (zI e0)])) := hu.1
  have h_in := hu.keep h_in (by omega)
  have hE := hE.tr (hu.eqx (by first | omega | (dsimp only <;> omega)))
  refine r_aload_n E 0 hl rfl dX9_begin_15 ?_
  refine r_iconst E dX9_begin_16 ?_
  refine r_put E h h_tk rfl inn_X9_begin_9 5 (by decide) fl_X9_begin_26 tyX9 tyX9_ok nmX9 rfl rfl rfl (Nat.le_of_ble_eq_true rfl) dX9_begin_17 (fun ws H locs h hu => ?_)
  have h_tk : ws[qk]? = some (atk, .inr (9, [.int (zI k0), .int (zI s0), .int (zI v0), .ref ain, .int (zI L), .int (zI 0)])) := hu.1
  have h_in := hu.keep h_in (by omega)
  have hE := hE.tr (hu.eqx (by first | omega | (dsimp only <;> omega)))
  refine r_aload_n E 0 hl rfl dX9_begin_20 ?_
  refine r_callVV E h (As := []) (rest := []) (k_X9_advance l h_tk h_in htx hbm hL (by omega) (by omega)) h_tk rfl gX9_begin_X9_advance rfl hd_X9_advance (by decide) ⟨by decide, by decide⟩ hl.1 rfl (Nat.le_of_ble_eq_true rfl) dX9_begin_21 rfl (fun ws H locs hp h => ?_)
  obtain ⟨h_tk, hf⟩ := hp
  have h_in := hf.at h_in (by first | omega | (dsimp only <;> omega))
  have hE := hE.tr (hf.wk (fun j hj => by first | omega | (dsimp only at hj ⊢ <;> omega)))
  exact r_vret E h ⟨h_tk, hE⟩ dX9_begin_24
theorem hd_X9_isSign : yX9_isSign.cls = RX9 ∧ yX9_isSign.cls ≠ "java/lang/invoke/MethodHandle" ∧ yX9_isSign.cls ≠ "java/lang/invoke/VarHandle" ∧ (parseMethodDescriptor yX9_isSign.desc).map (fun d => d.parameters.length) = some 1 := by decide +kernel
theorem fl_X9_isSign_9 : Cond.fieldLink RX9 9 (TX9 0).1 (TX9 0).2.1 (TX9 0).2.2.1 ∈ wsX9_isSign := List.mem_of_getElem? (i := 1) rfl
theorem inn_X9_isSign_9 : ∀ w ∈ wsX90, w ∈ wsX9_isSign := fun _ h => List.mem_cons_of_mem _ (List.mem_append_right _ h)
theorem fl_X9_isSign_16 : Cond.fieldLink RX9 16 (TX9 2).1 (TX9 2).2.1 (TX9 2).2.2.1 ∈ wsX9_isSign := List.mem_of_getElem? (i := 2) rfl
abbrev rm_X9_isSign : Room := { frames := 0, cells := 0, slots := 0, locals := 0 }
set_option maxHeartbeats 1200000 in
set_option maxRecDepth 100000 in
theorem k_X9_isSign (l : Launch) {G : va_G} {cy : Nat → ClassId} {ws0 : va_W} {bm : Int → Int} {L : Int} {ain atk qk : Nat} {p5 : Int} (c9 : Int) (h_tk : ws0[qk]? = some (atk, .inr (9, [.int (zI (tkK bm L p5)), .int (zI p5), .int (zI (tkV bm L p5)), .ref ain, .int (zI L), .int (zI (tkE bm L p5))]))) (htx : TXok bm) (hpL : p5 ≤ L) (hc : 33 ≤ c9 ∧ c9 ≤ 47 ∨ c9 = 59) : MI l yX9_isSign wsX9_isSign rm_X9_isSign G cy [.ref atk, .int (zI c9)] ws0 (fun z u => (z = 1 ∧ byA bm L p5 = c9 ∨ z = 0 ∧ byA bm L p5 ≠ c9) ∧ ws0 = u) := by
  refine MI.of (own := RX9) (cc := cX9_isSign) (nL := 2) (ret := (some .boolean)) (by decide) rfl rfl (Nat.le_of_ble_eq_true rfl) ?_
  intro p e s m below meth c A ls E h hl
  have hl : lv_has ls 2 [(0, .ref atk), (1, .int (zI c9))] := hl
  have htr := tk_rng htx hpL
  have hts := tk_sign htx (L := L) (p := p5) hc
  refine r_aload_n E 0 hl rfl dX9_isSign_0 ?_
  refine r_get (v := .int (zI (tkK bm L p5))) E h h_tk rfl inn_X9_isSign_9 0 (by decide) fl_X9_isSign_9 rfl dX9_isSign_1 ?_
  refine r_iconst E dX9_isSign_4 ?_
  refine r_icmp_ne E 20 dX9_isSign_5 (by decide) (by omega) (fun c_5 => ?_) (fun c_5 => ?_)
  · skip
    refine r_iconst E dX9_isSign_20 ?_
    exact r_zret E h (by omega) ⟨by omega, rfl⟩ dX9_isSign_21
  · skip
    refine r_aload_n E 0 hl rfl dX9_isSign_8 ?_
    refine r_get (v := .int (zI (tkV bm L p5))) E h h_tk rfl inn_X9_isSign_9 2 (by decide) fl_X9_isSign_16 rfl dX9_isSign_9 ?_
    refine r_iload_n E 1 hl rfl dX9_isSign_12 ?_
    refine r_icmp_ne E 20 dX9_isSign_13 (by decide) (by omega) (fun c_13 => ?_) (fun c_13 => ?_)
    · skip
      refine r_iconst E dX9_isSign_20 ?_
      exact r_zret E h (by omega) ⟨by omega, rfl⟩ dX9_isSign_21
    · skip
      refine r_iconst E dX9_isSign_16 ?_
      refine r_goto E 21 dX9_isSign_17 (by decide) ?_
      exact r_zret E h (by omega) ⟨by omega, rfl⟩ dX9_isSign_21
theorem hd_X9_isWord : yX9_isWord.cls = RX9 ∧ yX9_isWord.cls ≠ "java/lang/invoke/MethodHandle" ∧ yX9_isWord.cls ≠ "java/lang/invoke/VarHandle" ∧ (parseMethodDescriptor yX9_isWord.desc).map (fun d => d.parameters.length) = some 1 := by decide +kernel
theorem fl_X9_isWord_9 : Cond.fieldLink RX9 9 (TX9 0).1 (TX9 0).2.1 (TX9 0).2.2.1 ∈ wsX9_isWord := List.mem_of_getElem? (i := 1) rfl
theorem inn_X9_isWord_9 : ∀ w ∈ wsX90, w ∈ wsX9_isWord := fun _ h => List.mem_cons_of_mem _ (List.mem_append_right _ h)
theorem fl_X9_isWord_26 : Cond.fieldLink RX9 26 (TX9 5).1 (TX9 5).2.1 (TX9 5).2.2.1 ∈ wsX9_isWord := List.mem_of_getElem? (i := 2) rfl
theorem fl_X9_isWord_13 : Cond.fieldLink RX9 13 (TX9 1).1 (TX9 1).2.1 (TX9 1).2.2.1 ∈ wsX9_isWord := List.mem_of_getElem? (i := 3) rfl
theorem fl_X9_isWord_19 : Cond.fieldLink RX9 19 (TX9 3).1 (TX9 3).2.1 (TX9 3).2.2.1 ∈ wsX9_isWord := List.mem_of_getElem? (i := 4) rfl
abbrev rm_X9_isWord : Room := { frames := 4, cells := 0, slots := 0, locals := 85 }
set_option maxHeartbeats 1200000 in
set_option maxRecDepth 100000 in
theorem k_X9_isWord (l : Launch) {G : va_G} {cy : Nat → ClassId} {ws0 : va_W} {bu bm : Int → Int} {L : Int} {qi ain atk : Nat} {qk : Nat} {p5 : Int} (i : Nat) (h_tk : ws0[qk]? = some (atk, .inr (9, [.int (zI (tkK bm L p5)), .int (zI p5), .int (zI (tkV bm L p5)), .ref ain, .int (zI L), .int (zI (tkE bm L p5))]))) (h_in : ws0[qi]? = some (ain, aB cy 600 bu)) (htx : TXok bm) (hbm : ∀ i : Int, bu i = sg (bm i)) (hL : 0 ≤ L ∧ L ≤ 600) (hpL : 0 ≤ p5 ∧ p5 ≤ L) (hi : i < 9) : MIk l yX9_isWord wsX9_isWord rm_X9_isWord G cy [.ref atk, .ref (cy (100 + i))] ws0 (fun z u => (z = 1 ∧ isW bm L p5 (ST i) = true ∨ z = 0 ∧ isW bm L p5 (ST i) = false) ∧ ws0 = u) := by
  refine MIk.of (own := RX9) (cc := cX9_isWord) (nL := 3) (ret := (some .boolean)) (by decide) rfl rfl (Nat.le_of_ble_eq_true rfl) ?_
  intro p e s m below meth c A ls hX E h hl
  have hl : lv_has ls 3 [(0, .ref atk), (1, .ref (cy (100 + i)))] := hl
  have htr := tk_rng htx hpL.2
  have hlr := lenST_rng i hi
  have hiw := isW_tk (t := bm) (L := L) (p := p5) hi hpL.2
  refine r_aload_n E 0 hl rfl dX9_isWord_0 ?_
  refine r_get (v := .int (zI (tkK bm L p5))) E h h_tk rfl inn_X9_isWord_9 0 (by decide) fl_X9_isWord_9 rfl dX9_isWord_1 ?_
  refine r_iconst E dX9_isWord_4 ?_
  refine r_icmp_ne E 24 dX9_isWord_5 (by decide) (by omega) (fun c_5 => ?_) (fun c_5 => ?_)
  · skip
    refine r_iconst E dX9_isWord_24 ?_
    exact r_zret E h (by omega) ⟨Or.inr ⟨rfl, by
    by_cases q : isW bm L p5 (ST i) = true
    · have := hiw.mp q; omega
    · simpa using q⟩, rfl⟩ dX9_isWord_25
  · skip
    refine r_aload_n E 0 hl rfl dX9_isWord_8 ?_
    refine r_get (v := .int (zI (tkE bm L p5))) E h h_tk rfl inn_X9_isWord_9 5 (by decide) fl_X9_isWord_26 rfl dX9_isWord_9 ?_
    refine r_aload_n E 0 hl rfl dX9_isWord_12 ?_
    refine r_get (v := .int (zI p5)) E h h_tk rfl inn_X9_isWord_9 1 (by decide) fl_X9_isWord_13 rfl dX9_isWord_13 ?_
    refine r_isub E dX9_isWord_16 ?_
    refine r_aload_n E 1 hl rfl dX9_isWord_17 ?_
    refine r_callStr E hX.1 h hi (As := []) (rest := [.int (zI ((tkE bm L p5) - p5))]) (k_J0_length_8abf5 l i hi) gX9_isWord_J0_length_8abf5 rfl hd_J0_length_8abf5 (by decide) ⟨by decide, by decide⟩ hl.1 rfl (Nat.le_of_ble_eq_true rfl) dX9_isWord_18 rfl (fun z_18 ws H locs hp h => ?_)
    obtain ⟨rfl, rfl⟩ := hp
    refine r_icmp_eq E 26 dX9_isWord_21 (by decide) (by omega) (fun c_21 => ?_) (fun c_21 => ?_)
    · skip
      refine r_iconst E dX9_isWord_26 ?_
      refine r_istore_n (lv' := [(2, .int (zI 0)), (0, .ref atk), (1, .ref (cy (100 + i)))]) E hl dX9_isWord_27 rfl (by decide) rfl (fun ls hl => ?_)
      refine r_loop (fun n H locs ls => ∃ (k : Int), n = (12 - k).toNat ∧ (0 ≤ k ∧ k ≤ (lenST.getD i 0 : Nat)) ∧ (tkK bm L p5 = 2 ∧ tkE bm L p5 - p5 = (lenST.getD i 0 : Nat)) ∧ (∀ j : Nat, (j : Int) < k → byA bm L (p5 + j) = (ST i).getD j 0) ∧ Hp G ws0 A s.heap H locs ∧ lv_has ls 3 [(0, .ref atk), (1, .ref (cy (100 + i))), (2, .int (zI k))]) _ ⟨0, rfl, (by omega), (by omega), (fun j hj => absurd hj (by omega)), h, lv_sub hl [1, 2, 0] rfl⟩ ?_
      rintro n H locs ls ⟨k, hn, i1, i2, i3, h, hl⟩ ih_28
      refine r_iload_n E 2 hl rfl dX9_isWord_28 ?_
      refine r_aload_n E 1 hl rfl dX9_isWord_29 ?_
      refine r_callStr E hX.1 h hi (As := []) (rest := [.int (zI k)]) (k_J0_length_8abf5 l i hi) gX9_isWord_J0_length_8abf5 rfl hd_J0_length_8abf5 (by decide) ⟨by decide, by decide⟩ hl.1 rfl (Nat.le_of_ble_eq_true rfl) dX9_isWord_30 rfl (fun z_30 ws H locs hp h => ?_)
      obtain ⟨rfl, rfl⟩ := hp
      refine r_icmp_ge E 77 dX9_isWord_33 (by decide) (by omega) (fun c_33 => ?_) (fun c_33 => ?_)
      · skip
        refine r_iconst E dX9_isWord_77 ?_
        exact r_zret E h (by omega) ⟨Or.inl ⟨rfl, hiw.mpr ⟨i2.1, i2.2, fun j hj => i3 j (by omega)⟩⟩, rfl⟩ dX9_isWord_78
      · skip
        refine r_aload_n E 0 hl rfl dX9_isWord_36 ?_
        refine r_get (v := .int (zI p5)) E h h_tk rfl inn_X9_isWord_9 1 (by decide) fl_X9_isWord_13 rfl dX9_isWord_37 ?_
        refine r_iload_n E 2 hl rfl dX9_isWord_40 ?_
        refine r_iadd E dX9_isWord_41 ?_
        refine r_aload_n E 0 hl rfl dX9_isWord_42 ?_
        refine r_get (v := .ref ain) E h h_tk rfl inn_X9_isWord_9 3 (by decide) fl_X9_isWord_19 rfl dX9_isWord_43 ?_
        refine r_alen E h rfl h_in (v := 600) rfl dX9_isWord_46 ?_
        refine r_icmp_ge E 77 dX9_isWord_47 (by decide) (by omega) (fun c_47 => ?_) (fun c_47 => ?_)
        · skip
          exfalso; omega
        · skip
          refine r_aload_n E 0 hl rfl dX9_isWord_50 ?_
          refine r_get (v := .ref ain) E h h_tk rfl inn_X9_isWord_9 3 (by decide) fl_X9_isWord_19 rfl dX9_isWord_51 ?_
          refine r_aload_n E 0 hl rfl dX9_isWord_54 ?_
          refine r_get (v := .int (zI p5)) E h h_tk rfl inn_X9_isWord_9 1 (by decide) fl_X9_isWord_13 rfl dX9_isWord_55 ?_
          refine r_iload_n E 2 hl rfl dX9_isWord_58 ?_
          refine r_iadd E dX9_isWord_59 ?_
          have hy8 : byA bm L (p5 + k) = bm (p5 + k) := if_pos (by omega)
          have hs8 := sg_or (x := bm (p5 + k))
          have hb8 := hbm (p5 + k)
          have hr8 := htx (p5 + k)
          have hch := (ST_byt i hi).2 k.toNat (by omega)
          have hce : chS i k = (ST i).getD k.toNat 0 := rfl
          refine r_bald E h h_in (by omega) (by decide) dX9_isWord_60 ?_
          refine r_aload_n E 1 hl rfl dX9_isWord_61 ?_
          refine r_iload_n E 2 hl rfl dX9_isWord_62 ?_
          refine r_callStr E hX.1 h hi (As := [.int (zI k)]) (rest := [.int (zI (bu (p5 + k)))]) (k_J0_charAt_5068e l i k hi (by omega)) gX9_isWord_J0_charAt_5068e rfl hd_J0_charAt_5068e (by decide) ⟨by decide, by decide⟩ hl.1 rfl (Nat.le_of_ble_eq_true rfl) dX9_isWord_63 rfl (fun z_63 ws H locs hp h => ?_)
          obtain ⟨rfl, rfl⟩ := hp
          refine r_icmp_eq E 71 dX9_isWord_66 (by decide) (by omega) (fun c_66 => ?_) (fun c_66 => ?_)
          · skip
            refine r_iinc (lv' := [(2, .int (zI (k + 1))), (0, .ref atk), (1, .ref (cy (100 + i)))]) E 2 hl rfl dX9_isWord_71 (by decide) rfl (fun ls hl => ?_)
            refine r_goto E 28 dX9_isWord_74 (by decide) ?_
            exact ih_28 _ H locs ls (by omega) ⟨(k + 1), rfl, (by omega), (by omega), (fun j hj => by
      by_cases q : (j : Int) = k
      · rw [q, hy8, show j = k.toNat by omega]; omega
      · exact i3 j (by omega)), h, lv_sub hl [1, 2, 0] rfl⟩
          · skip
            refine r_iconst E dX9_isWord_69 ?_
            exact r_zret E h (by omega) ⟨Or.inr ⟨rfl, by
    by_cases q : isW bm L p5 (ST i) = true
    · have h9 := (hiw.mp q).2.2 k.toNat (by omega)
      rw [show ((k.toNat : Nat) : Int) = k by omega] at h9
      exfalso; omega
    · simpa using q⟩, rfl⟩ dX9_isWord_70
    · skip
      refine r_iconst E dX9_isWord_24 ?_
      exact r_zret E h (by omega) ⟨Or.inr ⟨rfl, by
    by_cases q : isW bm L p5 (ST i) = true
    · have := hiw.mp q; omega
    · simpa using q⟩, rfl⟩ dX9_isWord_25
