theorem DW.c4 {d : Int → Int} {T : List Int} (h : DW d T) : ∀ x : Int, 1 ≤ x → x ≤ 40 → 0 ≤ d (29 + x) ∧ d (29 + x) ≤ 4 := fun x a b => by
  have h1 := h.col a b
  have h2 := h.k
  omega
theorem cAll_b {d da : Int → Int} {T : List Int} (hD : DW d T) (hA : DW da T) {q : Ky} (hq : KOk d q) : -1 ≤ cAll d (cl da) q ∧ cAll d (cl da) q ≤ 3 := by
  have h1 := kl_rng hD hq
  have h2 := km_rng hD hq (k := 0) (by omega) (by omega)
  have h3 := hD.n
  have h4 := hA.c4 (km d q 0) (by omega) (by omega)
  have h5 : -1 ≤ cl da (km d q 0) - 1 ∧ cl da (km d q 0) - 1 ≤ 3 := by show -1 ≤ da _ - 1 ∧ da _ - 1 ≤ 3; omega
  unfold cAll
  by_cases h : allN d (cl da) q (cl da (km d q 0) - 1) (kl d q).toNat = true
  · rw [if_pos h]; exact h5
  · rw [if_neg h]; omega
theorem CodeAt.le {d : Int → Int} : ∀ {T : List Int} {i : Int}, CodeAt d i T → i + T.length ≤ d 4
  | [], i, h => by have : i = d 4 := h; simp; omega
  | t :: T, i, h => by
    simp only [List.length_cons]
    rcases h with ⟨a, b, c, f, g⟩ | ⟨a, b, c, f, g⟩ | ⟨a, b, c, g⟩
    · have := CodeAt.le g; omega
    · have := CodeAt.le g; omega
    · have := CodeAt.le g; omega
/-- the weight's operands stand in a row of longs, the last one above -/
def StkOf (st : Int → Int64) : List Int → Prop
  | [] => True
  | a :: s => st (s.length : Int) = zL a ∧ StkOf st s
theorem StkOf.set {st : Int → Int64} {v : Int64} : ∀ {s : List Int} {i : Int}, (s.length : Int) ≤ i → StkOf st s → StkOf (uZ st i v) s
  | [], _, _, _ => trivial
  | a :: s, i, hi, h => by
    simp only [List.length_cons] at hi
    exact ⟨by rw [uZ_n (by omega)]; exact h.1, StkOf.set (by omega) h.2⟩
/-- the numbers of 1 to m without a colour (e: the colours and 1) -/
def opL (e : Int → Int) : Nat → List Int
  | 0 => []
  | m + 1 => opL e m ++ (if e ((m : Int) + 1) = 0 then [(m : Int) + 1] else [])
theorem opL_mem {e : Int → Int} {x : Int} : ∀ {m : Nat}, x ∈ opL e m ↔ 1 ≤ x ∧ x ≤ m ∧ e x = 0
  | 0 => by simp only [opL, List.not_mem_nil, false_iff]; omega
  | m + 1 => by
    simp only [opL, List.mem_append, opL_mem (m := m)]
    by_cases h : e ((m : Int) + 1) = 0
    · rw [if_pos h, List.mem_singleton]
      constructor
      · rintro (⟨a, b, c⟩ | rfl)
        · exact ⟨a, by omega, c⟩
        · exact ⟨by omega, by omega, h⟩
      · rintro ⟨a, b, c⟩
        by_cases f : x = (m : Int) + 1
        · exact Or.inr f
        · exact Or.inl ⟨a, by omega, c⟩
    · rw [if_neg h]
      simp only [List.not_mem_nil, or_false]
      constructor
      · rintro ⟨a, b, c⟩; exact ⟨a, by omega, c⟩
      · rintro ⟨a, b, c⟩
        by_cases f : x = (m : Int) + 1
        · subst f; exact absurd c h
        · exact ⟨a, by omega, c⟩
theorem opL_len {e : Int → Int} : ∀ m : Nat, (opL e m).length ≤ m
  | 0 => Nat.le_refl _
  | m + 1 => by
    have := opL_len (e := e) m
    simp only [opL, List.length_append]
    by_cases h : e ((m : Int) + 1) = 0
    · rw [if_pos h]; simp only [List.length_cons, List.length_nil]; omega
    · rw [if_neg h]; simp only [List.length_nil]; omega
/-- in ascending order -/
def Asc (l : List Int) : Prop := ∀ (i j : Nat) (a b : Int), i < j → l[i]? = some a → l[j]? = some b → a < b
theorem Asc.app {l : List Int} {b : Int} (h : Asc l) (hb : ∀ a, a ∈ l → a < b) : Asc (l ++ [b]) := by
  intro i j x y hij hi hj
  by_cases c : j < l.length
  · rw [List.getElem?_append_left c] at hj
    rw [List.getElem?_append_left (by omega)] at hi
    exact h i j x y hij hi hj
  · rw [List.getElem?_append_right (by omega)] at hj
    have hj0 : j - l.length < 1 := (List.getElem?_eq_some_iff.mp hj).1
    rw [show j - l.length = 0 by omega] at hj
    cases hj
    rw [List.getElem?_append_left (by omega)] at hi
    exact hb x (List.mem_of_getElem? hi)
theorem opL_asc {e : Int → Int} : ∀ m : Nat, Asc (opL e m)
  | 0 => fun i j a b _ h => by simp [opL] at h
  | m + 1 => by
    have h1 := opL_asc (e := e) m
    by_cases h : e ((m : Int) + 1) = 0
    · show Asc (opL e m ++ if e ((m : Int) + 1) = 0 then [(m : Int) + 1] else [])
      rw [if_pos h]
      exact h1.app (fun a ha => by have := (opL_mem.mp ha).2.1; omega)
    · show Asc (opL e m ++ if e ((m : Int) + 1) = 0 then [(m : Int) + 1] else [])
      rw [if_neg h, List.append_nil]
      exact h1
/-- how far a search has come that has given colours to so many of its numbers -/
def farF (ol : List Int) (to : Int) (dp : Nat) : Int := if dp < ol.length then ol.getD dp 0 - 1 else to
theorem getD_at {l : List Int} {i : Nat} (h : i < l.length) : l[i]? = some (l.getD i 0) := by
  rw [List.getD_eq_getElem?_getD, List.getElem?_eq_getElem h]
  rfl
theorem farF_mono {ol : List Int} {to : Int} (ha : Asc ol) (hto : ∀ x, x ∈ ol → x ≤ to) {i j : Nat} (h : i ≤ j) : farF ol to i ≤ farF ol to j := by
  unfold farF
  by_cases hi : i < ol.length
  · rw [if_pos hi]
    have h1 := hto _ (List.mem_of_getElem? (getD_at hi))
    by_cases hj : j < ol.length
    · rw [if_pos hj]
      by_cases e : i = j
      · subst e; exact Int.le_refl _
      · have := ha i j _ _ (by omega) (getD_at hi) (getD_at hj); omega
    · rw [if_neg hj]; omega
  · rw [if_neg hi, if_neg (by omega)]; exact Int.le_refl _
/-- the search: at the place at of the open numbers ol, the next colour to look at, the trials, the deepest place, the row of the moment; it answers what it tells, the deepest place, the row -/
def srch (d : Int → Int) (ol : List Int) (most : Int) : Nat → Nat → Int → Int → Nat → (Int → Int) → Int × Nat × (Int → Int)
  | 0, _, _, _, dp, da => (-2, dp, da)
  | f + 1, at9, from9, tr, dp, da =>
    if at9 < ol.length then
      if nxt da from9 = da 1 then
        if at9 = 0 then (-1, dp, da)
        else srch d ol most f (at9 - 1) (da (29 + ol.getD (at9 - 1) 0)) tr dp (uZ da (29 + ol.getD (at9 - 1) 0) 0)
      else if tr = most then (-2, dp, da)
      else if alw d (cl da) (ol.getD at9 0) (nxt da from9) = true then srch d ol most f (at9 + 1) 0 (tr + 1) (if dp ≤ at9 then at9 + 1 else dp) (uZ da (29 + ol.getD at9 0) (nxt da from9 + 1))
      else srch d ol most f at9 (nxt da from9 + 1) (tr + 1) dp da
    else (tr, dp, da)
theorem srch_fuel {d : Int → Int} {ol : List Int} {most : Int} : ∀ (f g at9 : Nat) (from9 tr : Int) (dp : Nat) (da : Int → Int), tr ≤ most → 2 * (most - tr) + at9 < f → 2 * (most - tr) + at9 < g → srch d ol most f at9 from9 tr dp da = srch d ol most g at9 from9 tr dp da
  | 0, g, at9, from9, tr, dp, da, h, h1, _ => by omega
  | f + 1, 0, at9, from9, tr, dp, da, h, _, h2 => by omega
  | f + 1, g + 1, at9, from9, tr, dp, da, h, h1, h2 => by
    simp only [srch]
    by_cases a : at9 < ol.length
    · rw [if_pos a, if_pos a]
      by_cases b : nxt da from9 = da 1
      · rw [if_pos b, if_pos b]
        by_cases c : at9 = 0
        · rw [if_pos c, if_pos c]
        · rw [if_neg c, if_neg c]
          exact srch_fuel f g _ _ _ _ _ h (by omega) (by omega)
      · rw [if_neg b, if_neg b]
        by_cases c : tr = most
        · rw [if_pos c, if_pos c]
        · rw [if_neg c, if_neg c]
          by_cases e : alw d (cl da) (ol.getD at9 0) (nxt da from9) = true
          · rw [if_pos e, if_pos e]
            exact srch_fuel f g _ _ _ _ _ (by omega) (by omega) (by omega)
          · rw [if_neg e, if_neg e]
            exact srch_fuel f g _ _ _ _ _ (by omega) (by omega) (by omega)
    · rw [if_neg a, if_neg a]
/-- the search from a row -/
def SR (d : Int → Int) (to most : Int) : Int × Nat × (Int → Int) := srch d (opL (cl d) to.toNat) most (2 * most.toNat + 1) 0 0 0 0 d
/-- the best repair step: gain, number, colour; over the colours below m, the numbers up to m -/
def bstC (d : Int → Int) (T : List Int) (da : Int → Int) (x now : Int) : Nat → Int × Int × Int → Int × Int × Int
  | 0, s => s
  | m + 1, s => if (m : Int) = da (29 + x) - 1 then bstC d T da x now m s else if now - wgtX d T (cl da) x m ≤ (bstC d T da x now m s).1 then bstC d T da x now m s else (now - wgtX d T (cl da) x m, x, (m : Int))
def bstX (d : Int → Int) (T : List Int) (da : Int → Int) : Nat → Int × Int × Int
  | 0 => (-1000000, 0, 0)
  | m + 1 => if da (29 + ((m : Int) + 1)) = 0 ∨ da (70 + ((m : Int) + 1)) = 1 then bstX d T da m else bstC d T da ((m : Int) + 1) (wgtX d T (cl da) ((m : Int) + 1) (da (29 + ((m : Int) + 1)) - 1)) (da 1).toNat (bstX d T da m)
def bst (d : Int → Int) (T : List Int) (da : Int → Int) : Int × Int × Int := bstX d T da (da 0).toNat
theorem wgtX_rng {d : Int → Int} {T : List Int} {e : Int → Int} {x c : Int} (hD : DW d T) : 0 ≤ wgtX d T e x c ∧ wgtX d T e x c ≤ 6393600 := by
  have h1 := KL_len hD
  have h2 := sumL_rng (l := KL d) (f := fun q => if has d q x = true then (if cAll d (uZ e x (c + 1)) q = -1 then 0 else wK d T q c) else 0) (B := 999) (fun q _ => by
    by_cases a : has d q x = true
    · rw [if_pos a]
      by_cases b : cAll d (uZ e x (c + 1)) q = -1
      · rw [if_pos b]; omega
      · rw [if_neg b]; exact wgt_rng
    · rw [if_neg a]; omega)
  unfold wgtX
  omega
theorem bstC_rng {d : Int → Int} {T : List Int} {da : Int → Int} {x now : Int} (hD : DW d T) (hn : 0 ≤ now ∧ now ≤ 6393600) : ∀ (m : Nat) (s : Int × Int × Int), (-1000000 ≤ s.1 ∧ s.1 ≤ 6393600) → -1000000 ≤ (bstC d T da x now m s).1 ∧ (bstC d T da x now m s).1 ≤ 6393600
  | 0, s, h => h
  | m + 1, s, h => by
    have h1 := bstC_rng (da := da) (x := x) hD hn m s h
    have h2 := wgtX_rng (e := cl da) (x := x) (c := m) hD
    simp only [bstC]
    by_cases a : (m : Int) = da (29 + x) - 1
    · rw [if_pos a]; exact h1
    · rw [if_neg a]
      by_cases b : now - wgtX d T (cl da) x m ≤ (bstC d T da x now m s).1
      · rw [if_pos b]; exact h1
      · rw [if_neg b]; show -1000000 ≤ now - _ ∧ now - _ ≤ 6393600; omega
theorem bstX_rng {d : Int → Int} {T : List Int} {da : Int → Int} (hD : DW d T) : ∀ m : Nat, -1000000 ≤ (bstX d T da m).1 ∧ (bstX d T da m).1 ≤ 6393600
  | 0 => by show -1000000 ≤ (-1000000 : Int) ∧ (-1000000 : Int) ≤ _; omega
  | m + 1 => by
    have h1 := bstX_rng (da := da) hD m
    simp only [bstX]
    by_cases a : da (29 + ((m : Int) + 1)) = 0 ∨ da (70 + ((m : Int) + 1)) = 1
    · rw [if_pos a]; exact h1
    · rw [if_neg a]; exact bstC_rng hD (wgtX_rng hD) _ _ h1
