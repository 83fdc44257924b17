/-! two rows with the same setup: only colours and fixed marks differ -/
def SE (d e : Int → Int) : Prop := ∀ j : Int, j < 30 ∨ 111 ≤ j → e j = d j
theorem se_rf {d : Int → Int} : SE d d := fun _ _ => rfl
theorem se_tr {d e f : Int → Int} (h : SE d e) (k : SE e f) : SE d f := fun j hj => (k j hj).trans (h j hj)
theorem se_sm {d e : Int → Int} (h : SE d e) : SE e d := fun j hj => (h j hj).symm
theorem se_zE {d e : Int → Int} (h : SE d e) {r : Int} (hr : 0 ≤ r ∧ r < 4) (x y : Int) : zE e r x y = zE d r x y := by
  unfold zE
  rw [h (6 + 6 * r) (by omega), h (7 + 6 * r) (by omega), h (9 + 6 * r) (by omega), h (8 + 6 * r) (by omega)]
theorem se_okK {d e : Int → Int} (h : SE d e) {r : Int} (hr : 0 ≤ r ∧ r < 4) (x y : Int) : okK e r x y = okK d r x y := by
  unfold okK okE okP
  rw [se_zE h hr, h (5 + 6 * r) (by omega), h (6 + 6 * r) (by omega), h (7 + 6 * r) (by omega), h (8 + 6 * r) (by omega), h (9 + 6 * r) (by omega), h (10 + 6 * r) (by omega), h 0 (by omega)]
theorem se_kY {d e : Int → Int} (h : SE d e) {r : Int} (hr : 0 ≤ r ∧ r < 4) (x : Int) : ∀ m : Nat, kY e r x m = kY d r x m
  | 0 => rfl
  | m + 1 => by
    show kY e r x m ++ (if okK e r x ((m : Int) + 1) = true then [(r, x, (m : Int) + 1)] else []) = kY d r x m ++ (if okK d r x ((m : Int) + 1) = true then [(r, x, (m : Int) + 1)] else [])
    rw [se_kY h hr x m, se_okK h hr]
theorem se_kX {d e : Int → Int} (h : SE d e) {r : Int} (hr : 0 ≤ r ∧ r < 4) : ∀ m : Nat, kX e r m = kX d r m
  | 0 => rfl
  | m + 1 => by
    show kX e r m ++ kY e r ((m : Int) + 1) (e 0).toNat = kX d r m ++ kY d r ((m : Int) + 1) (d 0).toNat
    rw [se_kX h hr m, se_kY h hr, h 0 (by omega)]
theorem se_kR {d e : Int → Int} (h : SE d e) : ∀ m : Nat, m ≤ 4 → kR e m = kR d m
  | 0, _ => rfl
  | m + 1, hm => by
    show kR e m ++ kX e (m : Int) (e 0).toNat = kR d m ++ kX d (m : Int) (d 0).toNat
    rw [se_kR h m (by omega), se_kX h (by omega), h 0 (by omega)]
theorem se_KL {d e : Int → Int} {T : List Int} (h : SE d e) (hD : DW d T) : KL e = KL d := by
  have := hD.nr
  unfold KL
  rw [h 2 (by omega)]
  exact se_kR h _ (by omega)
theorem se_kl {d e : Int → Int} (h : SE d e) {q : Ky} (hr : 0 ≤ q.1 ∧ q.1 < 4) : kl e q = kl d q := by
  unfold kl
  rw [h (5 + 6 * q.1) (by omega)]
theorem se_km {d e : Int → Int} (h : SE d e) {q : Ky} (hr : 0 ≤ q.1 ∧ q.1 < 4) (k : Int) : km e q k = km d q k := by
  unfold km
  rw [h (5 + 6 * q.1) (by omega), se_zE h hr]
theorem se_hasN {d e : Int → Int} (h : SE d e) {q : Ky} (hr : 0 ≤ q.1 ∧ q.1 < 4) (x : Int) : ∀ m : Nat, hasN e q x m = hasN d q x m
  | 0 => rfl
  | m + 1 => by
    show (hasN e q x m || decide (km e q m = x)) = (hasN d q x m || decide (km d q m = x))
    rw [se_hasN h hr x m, se_km h hr]
theorem se_has {d e : Int → Int} (h : SE d e) {q : Ky} (hr : 0 ≤ q.1 ∧ q.1 < 4) (x : Int) : has e q x = has d q x := by
  unfold has
  rw [se_kl h hr, se_hasN h hr]
theorem se_bigN {d e : Int → Int} (h : SE d e) {q : Ky} (hr : 0 ≤ q.1 ∧ q.1 < 4) : ∀ m : Nat, bigN e q m = bigN d q m
  | 0 => se_km h hr 0
  | m + 1 => by
    show (if bigN e q m < km e q ((m : Int) + 1) then km e q ((m : Int) + 1) else bigN e q m) = (if bigN d q m < km d q ((m : Int) + 1) then km d q ((m : Int) + 1) else bigN d q m)
    rw [se_bigN h hr m, se_km h hr]
theorem se_big {d e : Int → Int} (h : SE d e) {q : Ky} (hr : 0 ≤ q.1 ∧ q.1 < 4) : big e q = big d q := by
  unfold big
  rw [se_kl h hr, se_bigN h hr]
theorem KL_r {d : Int → Int} {T : List Int} (hD : DW d T) {q : Ky} (h : q ∈ KL d) : 0 ≤ q.1 ∧ q.1 < 4 := by
  have h1 := (KL_ok hD h).1
  have := hD.nr
  omega
theorem se_rk {d e : Int → Int} {T : List Int} (h : SE d e) (hD : DW d T) (x : Int) (s : Nat) : rk e x s = rk d x s := by
  unfold rk cntT
  rw [se_KL h hD]
  exact sumL_congr (fun q hq => by
    have hr := KL_r hD (List.mem_of_mem_take hq)
    show (if has e q x = true then (1 : Int) else 0) = if has d q x = true then 1 else 0
    rw [se_has h hr])
theorem se_fbN {d e : Int → Int} {T : List Int} (h : SE d e) (hD : DW d T) : ∀ m : Nat, fbN e m = fbN d m
  | 0 => rfl
  | m + 1 => by
    show fbN e m + rk e ((m : Int) + 1) (KL e).length = fbN d m + rk d ((m : Int) + 1) (KL d).length
    rw [se_fbN h hD m, se_rk h hD, se_KL h hD]
theorem se_fb {d e : Int → Int} {T : List Int} (h : SE d e) (hD : DW d T) (x : Int) : fb e x = fb d x := se_fbN h hD _
theorem se_TW {d e : Int → Int} {T : List Int} (h : SE d e) (hD : DW d T) {se re : Int → Int64} {wr rt wt rs : Int → Int} {sz : Int} (hT : TW d T se wr rt wt re rs sz) : TW e T se wr rt wt re rs sz := by
  have hnr := hD.nr
  obtain ⟨h1, h2, h3, h4, h5, h6⟩ := hT
  have e0 := h 0 (by omega)
  have e1 := h 1 (by omega)
  have e2 := h 2 (by omega)
  refine ⟨by rw [se_KL h hD]; exact h1, fun s q hq => ?_, fun r r0 r1 => ?_, fun r g c r0 r1 => ?_, fun x x0 x1 => ?_, fun x s q x0 x1 hq hx => ?_⟩
  · rw [se_KL h hD] at hq
    have hr := KL_r hD (List.mem_of_getElem? hq)
    rw [se_big h hr, show (fun x => has e q x) = (fun x => has d q x) from funext fun x => se_has h hr x]
    exact h2 s q hq
  · rw [se_kX h (by omega), e0]
    exact h3 r r0 (by omega)
  · rw [e0, e1]
    exact h4 r g c r0 (by omega)
  · rw [se_fb h hD]
    exact h5 x x0 (by omega)
  · rw [se_KL h hD] at hq
    have hr := KL_r hD (List.mem_of_getElem? hq)
    rw [se_has h hr] at hx
    rw [se_fb h hD, se_rk h hD, show (fun y => has e q y && decide (y ≠ x)) = (fun y => has d q y && decide (y ≠ x)) from funext fun y => by rw [se_has h hr]]
    exact h6 x s q x0 (by omega) hq hx
theorem se_LW {d e : Int → Int} {T : List Int} (h : SE d e) (hD : DW d T) {me le ru so fo wn : Int → Int} {laid : Int} (hL : LW d me le ru so fo wn laid) : LW e me le ru so fo wn laid := by
  have hnr := hD.nr
  obtain ⟨h1, h2, h3, h4, h5⟩ := hL
  have e0 := h 0 (by omega)
  have e2 := h 2 (by omega)
  refine ⟨by rw [se_KL h hD]; exact h1, fun s q hq => ?_, fun r r0 r1 => ?_, fun x x0 x1 => ?_, fun x s q x0 x1 hq hx => ?_⟩
  · rw [se_KL h hD] at hq
    have hr := KL_r hD (List.mem_of_getElem? hq)
    rw [se_kl h hr]
    obtain ⟨a, b, c⟩ := h2 s q hq
    exact ⟨a, b, fun k k0 k1 => by rw [se_km h hr]; exact c k k0 k1⟩
  · rw [se_kX h (by omega), e0]
    exact h3 r r0 (by omega)
  · rw [se_fb h hD]
    exact h4 x x0 (by omega)
  · rw [se_KL h hD] at hq
    have hr := KL_r hD (List.mem_of_getElem? hq)
    rw [se_has h hr] at hx
    rw [se_fb h hD, se_rk h hD]
    exact h5 x s q x0 (by omega) hq hx
