/-! what the two sides say of one another -/
theorem cu_mono {α : Type} {f : α → Int} (hf : ∀ a, 0 ≤ f a) {l : List α} {s : Nat} : ∀ k : Nat, sumL f (l.take s) ≤ sumL f (l.take (s + k))
  | 0 => Int.le_refl _
  | k + 1 => by
    refine Int.le_trans (cu_mono hf k) ?_
    by_cases h : s + k < l.length
    · have e := sumL_take (f := f) (List.getElem?_eq_getElem h)
      have := hf (l[s + k])
      show sumL f (l.take (s + k)) ≤ sumL f (l.take (s + k + 1))
      omega
    · rw [List.take_of_length_le (i := s + k) (by omega), List.take_of_length_le (i := s + (k + 1)) (by omega)]
      exact Int.le_refl _
theorem cu_lt {d e : Int → Int} {s s2 : Nat} {q q2 : Ky} {ix : Int} (h : (KL d)[s]? = some q) (hc : cAll d e q ≠ -1) (hx : sumL (fun q => is1 d e q) ((KL d).take s) = ix) (h2 : (KL d)[s2]? = some q2) (hx2 : sumL (fun q => is1 d e q) ((KL d).take s2) = ix) : ¬ s < s2 := fun hl => by
  have e1 := sumL_take (f := fun q => is1 d e q) h
  have e2 := cu_mono (f := fun q => is1 d e q) (fun a => (is1_rng (d := d) (e := e) (q := a)).1) (l := KL d) (s := s + 1) (s2 - (s + 1))
  have e3 : is1 d e q = 1 := if_neg hc
  rw [show s + 1 + (s2 - (s + 1)) = s2 by omega] at e2
  omega
/-- one conflict has one place -/
theorem cu_one {d e : Int → Int} {T : List Int} {ix wh z z2 : Int}
    (h : ∃ (s : Nat) (q : Ky), (KL d)[s]? = some q ∧ cAll d e q ≠ -1 ∧ sumL (fun q => is1 d e q) ((KL d).take s) = ix ∧ z = (if wh = 0 then q.1 else if wh = 3 then cAll d e q else if wh = 4 then wK d T q (cAll d e q) else if wh = 1 then lil d q else big d q))
    (h2 : ∃ (s : Nat) (q : Ky), (KL d)[s]? = some q ∧ cAll d e q ≠ -1 ∧ sumL (fun q => is1 d e q) ((KL d).take s) = ix ∧ z2 = (if wh = 0 then q.1 else if wh = 3 then cAll d e q else if wh = 4 then wK d T q (cAll d e q) else if wh = 1 then lil d q else big d q)) : z = z2 := by
  obtain ⟨s, q, a1, a2, a3, a4⟩ := h
  obtain ⟨s2, q2, b1, b2, b3, b4⟩ := h2
  have n1 := cu_lt a1 a2 a3 b1 b3
  have n2 := cu_lt b1 b2 b3 a1 a3
  obtain rfl : s = s2 := by omega
  obtain rfl : q = q2 := Option.some.inj (a1.symm.trans b1)
  rw [a4, b4]
theorem upto_add {f g h : Int → Int} : ∀ m : Nat, (∀ x : Int, 1 ≤ x → x ≤ m → f x = g x + h x) → sumL f (upto m) = sumL g (upto m) + sumL h (upto m)
  | 0, _ => rfl
  | m + 1, hx => by
    show sumL f (upto m ++ [(m : Int) + 1]) = sumL g (upto m ++ [(m : Int) + 1]) + sumL h (upto m ++ [(m : Int) + 1])
    rw [sumL_app, sumL_app, sumL_app, upto_add m (fun x h0 h1 => hx x h0 (by omega))]
    have := hx ((m : Int) + 1) (by omega) (by omega)
    simp only [sumL]
    omega
theorem upto_zero {f : Int → Int} : ∀ m : Nat, (∀ x : Int, 1 ≤ x → x ≤ m → f x = 0) → sumL f (upto m) = 0
  | 0, _ => rfl
  | m + 1, hx => by
    show sumL f (upto m ++ [(m : Int) + 1]) = 0
    rw [sumL_app, upto_zero m (fun x h0 h1 => hx x h0 (by omega))]
    have := hx ((m : Int) + 1) (by omega) (by omega)
    simp only [sumL]
    omega
theorem swD_at {d : Int → Int} {o1 o2 x : Int} (h : 1 ≤ x ∧ x ≤ d 0) : swD d o1 o2 (29 + x) = (if d (29 + x) = o1 + 1 then o2 + 1 else if d (29 + x) = o2 + 1 then o1 + 1 else d (29 + x)) := by
  unfold swD
  rw [if_pos (by omega)]
theorem swD_self {d : Int → Int} {o1 : Int} : swD d o1 o1 = d := by
  funext i
  unfold swD
  by_cases c : 30 ≤ i ∧ i < 30 + d 0
  · rw [if_pos c]
    by_cases c1 : d i = o1 + 1
    · rw [if_pos c1, c1]
    · rw [if_neg c1, if_neg c1]
  · rw [if_neg c]
theorem swD_cnt {d : Int → Int} {o1 o2 : Int} (hn : 0 ≤ d 0) (h : o1 ≠ o2) : sumL (fun y => if d (29 + y) = swD d o1 o2 (29 + y) then (0 : Int) else 1) (upto (d 0).toNat) = sumL (fun y => if swE (cl d) o1 o2 y = o1 + 1 then (1 : Int) else 0) (upto (d 0).toNat) + sumL (fun y => if swE (cl d) o1 o2 y = o2 + 1 then (1 : Int) else 0) (upto (d 0).toNat) := by
  refine upto_add _ (fun x h0 h1 => ?_)
  rw [swD_at ⟨h0, by omega⟩]
  unfold swE cl
  repeat' split
  all_goals omega
theorem swD_cnt0 {d : Int → Int} {o1 : Int} : sumL (fun y => if d (29 + y) = swD d o1 o1 (29 + y) then (0 : Int) else 1) (upto (d 0).toNat) = 0 := upto_zero _ (fun x _ _ => by rw [swD_self]; exact if_pos rfl)
theorem swD_mk {d : Int → Int} {T : List Int} (hD : DW d T) {o1 o2 : Int} : mk (d 0) (swE (cl d) o1 o2) = mk (d 0) (cl (swD d o1 o2)) := by
  funext c
  refine mk_congr (fun x h0 h1 => ?_)
  have e : cl (swD d o1 o2) x = swE (cl d) o1 o2 x := swD_at ⟨h0, h1⟩
  rw [e]
theorem swD_fmk {d : Int → Int} {T : List Int} (hD : DW d T) {o1 o2 : Int} : fmk (d 0) (fx d) = fmk (d 0) (fx (swD d o1 o2)) := by
  refine fmk_congr (fun x h0 h1 => ?_)
  have hn := hD.n
  have e : fx (swD d o1 o2) x = fx d x := by
    show swD d o1 o2 (70 + x) = d (70 + x)
    unfold swD
    rw [if_neg (by omega)]
  rw [e]
theorem dw_swD {d : Int → Int} {T : List Int} (hD : DW d T) {o1 o2 : Int} (h1 : 0 ≤ o1 ∧ o1 < d 1) (h2 : 0 ≤ o2 ∧ o2 < d 1) : DW (swD d o1 o2) T := by
  have hn := hD.n
  have hs := se_swD hD o1 o2
  refine hD.recol (fun i _ hi => hs i (by omega)) (fun i hi => hs i (by omega)) (fun x h0 h3 => ?_) (fun x h0 h3 => ?_)
  · have := hD.col h0 h3
    by_cases c : x ≤ d 0
    · rw [swD_at ⟨h0, c⟩]
      split
      · omega
      · split
        · omega
        · omega
    · have e : swD d o1 o2 (29 + x) = d (29 + x) := by
        unfold swD
        rw [if_neg (by omega)]
      rw [e]; omega
  · have := hD.fix h0 h3
    have e : swD d o1 o2 (70 + x) = d (70 + x) := by
      unfold swD
      rw [if_neg (by omega)]
    rw [e]; omega
theorem apB_ok {bu : Int → Int} (h : TXok bu) {bl w0 w1 w2 w3 w4 : Int} : TXok (apB bu bl w0 w1 w2 w3 w4) := fun i => by
  unfold apB
  split
  · unfold byt
    omega
  · exact h i
/-- how deep a search has been -/
theorem srch_dp {d : Int → Int} {ol : List Int} {most : Int} : ∀ (f at9 : Nat) (from9 tr : Int) (dp : Nat) (da : Int → Int), at9 ≤ dp → dp ≤ ol.length → 0 ≤ tr → (srch d ol most f at9 from9 tr dp da).2.1 ≤ ol.length ∧ (0 ≤ (srch d ol most f at9 from9 tr dp da).1 → (srch d ol most f at9 from9 tr dp da).2.1 = ol.length)
  | 0, at9, from9, tr, dp, da, h1, h2, h3 => ⟨h2, fun h => absurd h (by show ¬ (0 : Int) ≤ -2; omega)⟩
  | f + 1, at9, from9, tr, dp, da, h1, h2, h3 => by
    unfold srch
    by_cases a : at9 < ol.length
    · rw [if_pos a]
      by_cases b1 : nxt da from9 = da 1
      · rw [if_pos b1]
        by_cases c : at9 = 0
        · rw [if_pos c]
          exact ⟨h2, fun h => absurd h (by show ¬ (0 : Int) ≤ -1; omega)⟩
        · rw [if_neg c]
          exact srch_dp f _ _ _ _ _ (by omega) h2 h3
      · rw [if_neg b1]
        by_cases c : tr = most
        · rw [if_pos c]
          exact ⟨h2, fun h => absurd h (by show ¬ (0 : Int) ≤ -2; omega)⟩
        · rw [if_neg c]
          by_cases g : alw d (cl da) (ol.getD at9 0) (nxt da from9) = true
          · rw [if_pos g]
            exact srch_dp f _ _ _ _ _ (by split <;> omega) (by split <;> omega) (by omega)
          · rw [if_neg g]
            exact srch_dp f _ _ _ _ _ h1 h2 (by omega)
    · rw [if_neg a]
      exact ⟨h2, fun _ => by show dp = ol.length; omega⟩
theorem opL_all {e : Int → Int} : ∀ m : Nat, (∀ x : Int, 1 ≤ x → x ≤ m → e x = 0) → (opL e m).length = m ∧ ∀ j : Nat, j < m → (opL e m).getD j 0 = (j : Int) + 1
  | 0, _ => ⟨rfl, fun j h => absurd h (Nat.not_lt_zero j)⟩
  | m + 1, h => by
    obtain ⟨i1, i2⟩ := opL_all m (fun x h0 h1 => h x h0 (by omega))
    obtain ⟨n1, n2⟩ := opL_new (h ((m : Int) + 1) (by omega) (by omega))
    refine ⟨by rw [n1, i1], fun j hj => ?_⟩
    by_cases c : j < m
    · rw [opL_get (by rw [i1]; exact c)]
      exact i2 j c
    · obtain rfl : j = m := by omega
      rw [i1] at n2
      exact n2
theorem lng_sr {d : Int → Int} {T : List Int} (hD : DW d T) {y : Int} : lng d y = ((sr d (opL (cl (blk d)) (d 0).toNat) y 0 0 0 0 (blk d)).2.1 : Int) := by
  have hn := hD.n
  have hb : ∀ x : Int, 1 ≤ x → x ≤ ((d 0).toNat : Int) → cl (blk d) x = 0 := fun x h0 h1 => by
    show blk d (29 + x) = 0
    unfold blk
    rw [if_pos (by omega)]
  obtain ⟨o1, o2⟩ := opL_all (d 0).toNat hb
  have hs := srch_dp (d := d) (ol := opL (cl (blk d)) (d 0).toNat) (most := y) ((2 * (y - 0) + ((0 : Nat) : Int)).toNat + 1) 0 0 0 0 (blk d) (Nat.le_refl _) (Nat.zero_le _) (Int.le_refl _)
  change (sr d (opL (cl (blk d)) (d 0).toNat) y 0 0 0 0 (blk d)).2.1 ≤ _ ∧ (0 ≤ (sr d (opL (cl (blk d)) (d 0).toNat) y 0 0 0 0 (blk d)).1 → (sr d (opL (cl (blk d)) (d 0).toNat) y 0 0 0 0 (blk d)).2.1 = _) at hs
  unfold lng
  generalize sr d (opL (cl (blk d)) (d 0).toNat) y 0 0 0 0 (blk d) = r at hs ⊢
  obtain ⟨h1, h2⟩ := hs
  rw [o1] at h1 h2
  by_cases c : d 0 = 0
  · rw [if_pos c]
    omega
  · rw [if_neg c]
    by_cases g : 0 < r.1
    · rw [if_pos g]
      have := h2 (by omega)
      omega
    · rw [if_neg g]
      unfold farF
      rw [o1]
      by_cases k : r.2.1 < (d 0).toNat
      · rw [if_pos k, o2 _ k]
        omega
      · rw [if_neg k]
        omega
