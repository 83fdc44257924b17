/-- the search with as many steps as it can need -/
def sr (d : Int → Int) (ol : List Int) (most : Int) (at9 : Nat) (from9 tr : Int) (dp : Nat) (da : Int → Int) : Int × Nat × (Int → Int) := srch d ol most ((2 * (most - tr) + at9).toNat + 1) at9 from9 tr dp da
theorem sr_any {d : Int → Int} {ol : List Int} {most : Int} {f at9 : Nat} {from9 tr : Int} {dp : Nat} {da : Int → Int} (h : tr ≤ most) (hf : 2 * (most - tr) + at9 < f) : srch d ol most f at9 from9 tr dp da = sr d ol most at9 from9 tr dp da := srch_fuel _ _ _ _ _ _ _ h hf (by omega)
theorem SR_sr {d : Int → Int} {to most : Int} (h : 0 ≤ most) : SR d to most = sr d (opL (cl d) to.toNat) most 0 0 0 0 d := sr_any h (by omega)
theorem sr_end {d : Int → Int} {ol : List Int} {most : Int} {at9 : Nat} {from9 tr : Int} {dp : Nat} {da : Int → Int} (h : ol.length ≤ at9) : sr d ol most at9 from9 tr dp da = (tr, dp, da) := by
  unfold sr
  simp only [srch]
  rw [if_neg (by omega)]
theorem sr_fail {d : Int → Int} {ol : List Int} {most : Int} {from9 tr : Int} {dp : Nat} {da : Int → Int} (h : 0 < ol.length) (hn : nxt da from9 = da 1) : sr d ol most 0 from9 tr dp da = (-1, dp, da) := by
  unfold sr
  simp only [srch]
  rw [if_pos h, if_pos hn]
  rfl
theorem sr_back {d : Int → Int} {ol : List Int} {most : Int} {at9 : Nat} {from9 tr : Int} {dp : Nat} {da : Int → Int} (ht : tr ≤ most) (h : at9 < ol.length) (h0 : at9 ≠ 0) (hn : nxt da from9 = da 1) : sr d ol most at9 from9 tr dp da = sr d ol most (at9 - 1) (da (29 + ol.getD (at9 - 1) 0)) tr dp (uZ da (29 + ol.getD (at9 - 1) 0) 0) := by
  refine Eq.trans ?_ (sr_any (f := (2 * (most - tr) + at9).toNat) ht (by omega))
  unfold sr
  simp only [srch]
  rw [if_pos h, if_pos hn, if_neg h0]
theorem sr_stop {d : Int → Int} {ol : List Int} {most : Int} {at9 : Nat} {from9 : Int} {dp : Nat} {da : Int → Int} (h : at9 < ol.length) (hn : nxt da from9 ≠ da 1) : sr d ol most at9 from9 most dp da = (-2, dp, da) := by
  unfold sr
  simp only [srch]
  rw [if_pos h, if_neg hn]
  rfl
theorem sr_ok {d : Int → Int} {ol : List Int} {most : Int} {at9 : Nat} {from9 tr : Int} {dp : Nat} {da : Int → Int} (ht : tr < most) (h : at9 < ol.length) (hn : nxt da from9 ≠ da 1) (ha : alw d (cl da) (ol.getD at9 0) (nxt da from9) = true) : sr d ol most at9 from9 tr dp da = sr d ol most (at9 + 1) 0 (tr + 1) (if dp ≤ at9 then at9 + 1 else dp) (uZ da (29 + ol.getD at9 0) (nxt da from9 + 1)) := by
  rw [← sr_any (f := (2 * (most - tr) + at9).toNat) (show tr + 1 ≤ most by omega) (by omega)]
  unfold sr
  simp only [srch]
  rw [if_pos h, if_neg hn, if_neg (by omega), if_pos ha]
theorem sr_no {d : Int → Int} {ol : List Int} {most : Int} {at9 : Nat} {from9 tr : Int} {dp : Nat} {da : Int → Int} (ht : tr < most) (h : at9 < ol.length) (hn : nxt da from9 ≠ da 1) (ha : alw d (cl da) (ol.getD at9 0) (nxt da from9) = false) : sr d ol most at9 from9 tr dp da = sr d ol most at9 (nxt da from9 + 1) (tr + 1) dp da := by
  rw [← sr_any (f := (2 * (most - tr) + at9).toNat) (show tr + 1 ≤ most by omega) (by omega)]
  unfold sr
  simp only [srch]
  rw [if_pos h, if_neg hn, if_neg (by omega), if_neg (by rw [ha]; exact Bool.false_ne_true)]
theorem opL_rng {e : Int → Int} {m : Nat} {j : Nat} (h : j < (opL e m).length) : 1 ≤ (opL e m).getD j 0 ∧ (opL e m).getD j 0 ≤ m := by
  have := opL_mem.mp (List.mem_of_getElem? (getD_at h))
  omega
/-- farther by one success -/
theorem farF_next {ol : List Int} {to : Int} (ha : Asc ol) (hto : ∀ x, x ∈ ol → x ≤ to) {dp at9 : Nat} (h : at9 < ol.length) {v : Int} (hv : v = farF ol to (at9 + 1)) {z : Int} (hz : z = farF ol to dp ∧ v < farF ol to dp ∨ z = v ∧ farF ol to dp ≤ v) : z = farF ol to (if dp ≤ at9 then at9 + 1 else dp) := by
  by_cases c : dp ≤ at9
  · rw [if_pos c]
    have := farF_mono ha hto (show dp ≤ at9 + 1 by omega)
    omega
  · rw [if_neg c]
    have := farF_mono ha hto (show at9 + 1 ≤ dp by omega)
    omega
/-- what a search leaves is a row of the same setup -/
theorem srch_keep {d : Int → Int} {T : List Int} {ol : List Int} {most : Int} (hol : ∀ j : Nat, j < ol.length → 1 ≤ ol.getD j 0 ∧ ol.getD j 0 ≤ 40) : ∀ (f at9 : Nat) (from9 tr : Int) (dp : Nat) (da : Int → Int), 0 ≤ from9 → from9 ≤ da 1 → DW da T → at9 ≤ ol.length → DW (srch d ol most f at9 from9 tr dp da).2.2 T ∧ (∀ i : Int, i < 30 → (srch d ol most f at9 from9 tr dp da).2.2 i = da i) ∧ (∀ i : Int, 69 < i → (srch d ol most f at9 from9 tr dp da).2.2 i = da i)
  | 0, at9, from9, tr, dp, da, _, _, h, _ => ⟨h, fun _ _ => rfl, fun _ _ => rfl⟩
  | f + 1, at9, from9, tr, dp, da, hf, hf2, h, hle => by
    simp only [srch]
    by_cases a : at9 < ol.length
    · rw [if_pos a]
      have hr := nxt_rng (d := da) (da 1 - from9).toNat from9 (by omega) hf2
      by_cases b : nxt da from9 = da 1
      · rw [if_pos b]
        by_cases c : at9 = 0
        · rw [if_pos c]; exact ⟨h, fun _ _ => rfl, fun _ _ => rfl⟩
        · rw [if_neg c]
          have h9 := hol (at9 - 1) (by omega)
          have hc9 := h.col h9.1 h9.2
          have hk := h.k
          have ih := srch_keep (d := d) (most := most) hol f (at9 - 1) (da (29 + ol.getD (at9 - 1) 0)) tr dp (uZ da (29 + ol.getD (at9 - 1) 0) 0) (by omega) (by rw [uZ_n (by omega)]; omega) (h.setcol h9 (by omega)) (by omega)
          exact ⟨ih.1, fun i hi => (ih.2.1 i hi).trans (uZ_n (by omega)), fun i hi => (ih.2.2 i hi).trans (uZ_n (by omega))⟩
      · rw [if_neg b]
        by_cases c : tr = most
        · rw [if_pos c]; exact ⟨h, fun _ _ => rfl, fun _ _ => rfl⟩
        · rw [if_neg c]
          have h9 := hol at9 a
          have hk := h.k
          by_cases e : alw d (cl da) (ol.getD at9 0) (nxt da from9) = true
          · rw [if_pos e]
            have ih := srch_keep (d := d) (most := most) hol f (at9 + 1) 0 (tr + 1) (if dp ≤ at9 then at9 + 1 else dp) (uZ da (29 + ol.getD at9 0) (nxt da from9 + 1)) (by omega) (by rw [uZ_n (by omega)]; omega) (h.setcol h9 (by omega)) (by omega)
            exact ⟨ih.1, fun i hi => (ih.2.1 i hi).trans (uZ_n (by omega)), fun i hi => (ih.2.2 i hi).trans (uZ_n (by omega))⟩
          · rw [if_neg e]
            exact srch_keep hol f at9 (nxt da from9 + 1) (tr + 1) dp da (by omega) (by omega) h hle
    · rw [if_neg a]; exact ⟨h, fun _ _ => rfl, fun _ _ => rfl⟩
theorem SR_keep {d : Int → Int} {T : List Int} (h : DW d T) {to most : Int} (hto : 0 ≤ to ∧ to ≤ d 0) : DW (SR d to most).2.2 T ∧ (∀ i : Int, i < 30 → (SR d to most).2.2 i = d i) ∧ (∀ i : Int, 69 < i → (SR d to most).2.2 i = d i) := by
  have hk := h.k
  have hn := h.n
  exact srch_keep (fun j hj => by have := opL_rng hj; omega) _ _ _ _ _ _ (by omega) (by omega) h (Nat.zero_le _)
