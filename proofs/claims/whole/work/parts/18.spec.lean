theorem cAll_pos {d e : Int → Int} {q : Ky} (h : ∀ k : Int, 0 ≤ k → k < kl d q → e (km d q k) = e (km d q 0)) : cAll d e q = e (km d q 0) - 1 := by
  unfold cAll
  rw [if_pos (allN_iff.mpr (fun k h0 h1 => by have := h k h0 (by omega); omega))]
theorem cAll_neg {d e : Int → Int} {q : Ky} {k : Int} (h0 : 0 ≤ k) (h1 : k < kl d q) (h : e (km d q k) ≠ e (km d q 0)) : cAll d e q = -1 := by
  apply cAll_none
  intro h9
  have := allN_iff.mp h9 k h0 (by omega)
  omega
/-- the colours and 1 -/
def cl (d : Int → Int) : Int → Int := fun x => d (29 + x)
theorem cl_set {d : Int → Int} {x v : Int} : cl (uZ d (29 + x) v) = uZ (cl d) x v := by
  funext y
  unfold cl uZ
  by_cases h : y = x
  · subst h; rw [if_pos rfl, if_pos rfl]
  · rw [if_neg (by omega), if_neg h]
theorem uZ_back {α : Type} {f : Int → α} {i : Int} {v : α} : uZ (uZ f i v) i (f i) = f := by
  funext j
  unfold uZ
  by_cases h : j = i
  · subst h; rw [if_pos rfl]
  · rw [if_neg h, if_neg h]
theorem uZ_uZ {α : Type} {f : Int → α} {i : Int} {v w : α} : uZ (uZ f i v) i w = uZ f i w := by
  funext j
  unfold uZ
  by_cases h : j = i
  · rw [if_pos h, if_pos h]
  · rw [if_neg h, if_neg h, if_neg h]
theorem uZ_id {α : Type} {f : Int → α} {i : Int} {v : α} (h : f i = v) : uZ f i v = f := by
  funext j
  unfold uZ
  by_cases e : j = i
  · subst e; rw [if_pos rfl, h]
  · rw [if_neg e]
theorem va_up_id {α : Type} {f : Nat → α} {i : Nat} {v : α} (h : f i = v) : va_up f i v = f := by
  funext j
  unfold va_up
  by_cases e : j = i
  · subst e; rw [if_pos rfl, h]
  · rw [if_neg e]
/-- 1 for a conflict, 0 for none -/
def is1 (d e : Int → Int) (q : Ky) : Int := if cAll d e q = -1 then 0 else 1
theorem is1_rng {d e : Int → Int} {q : Ky} : 0 ≤ is1 d e q ∧ is1 d e q ≤ 1 := by
  unfold is1
  by_cases h : cAll d e q = -1 <;> simp [h]
/-- the number of conflicts; of those that contain x -/
def cnfA (d e : Int → Int) : Int := sumL (fun q => is1 d e q) (KL d)
def cnfX (d e : Int → Int) (x : Int) : Int := sumL (fun q => if has d q x = true then is1 d e q else 0) (KL d)
/-- whether the colour c is allowed for x -/
def alw (d e : Int → Int) (x c : Int) : Bool := decide (cnfX d (uZ e x (c + 1)) x = 0)
/-- the greatest, the smallest number of a solution -/
def bigN (d : Int → Int) (q : Ky) : Nat → Int
  | 0 => km d q 0
  | m + 1 => if bigN d q m < km d q ((m : Int) + 1) then km d q ((m : Int) + 1) else bigN d q m
def lilN (d : Int → Int) (q : Ky) : Nat → Int
  | 0 => km d q 0
  | m + 1 => if km d q ((m : Int) + 1) < lilN d q m then km d q ((m : Int) + 1) else lilN d q m
def big (d : Int → Int) (q : Ky) : Int := bigN d q (kl d q - 1).toNat
def lil (d : Int → Int) (q : Ky) : Int := lilN d q (kl d q - 1).toNat
theorem bigN_iff {d : Int → Int} {q : Ky} : ∀ m : Nat, (∃ k : Int, 0 ≤ k ∧ k ≤ m ∧ bigN d q m = km d q k) ∧ ∀ k : Int, 0 ≤ k → k ≤ m → km d q k ≤ bigN d q m
  | 0 => ⟨⟨0, by omega, by omega, rfl⟩, fun k h0 h1 => by rw [show k = 0 by omega]; exact Int.le_refl _⟩
  | m + 1 => by
    obtain ⟨⟨k, a, b, c⟩, h⟩ := bigN_iff (d := d) (q := q) m
    by_cases g : bigN d q m < km d q ((m : Int) + 1)
    · have e : bigN d q (m + 1) = km d q ((m : Int) + 1) := if_pos g
      refine ⟨⟨(m : Int) + 1, by omega, by omega, e⟩, fun j h0 h1 => ?_⟩
      rw [e]
      by_cases f : j = (m : Int) + 1
      · rw [f]; exact Int.le_refl _
      · have := h j h0 (by omega); omega
    · have e : bigN d q (m + 1) = bigN d q m := if_neg g
      refine ⟨⟨k, a, by omega, e.trans c⟩, fun j h0 h1 => ?_⟩
      rw [e]
      by_cases f : j = (m : Int) + 1
      · rw [f]; omega
      · exact h j h0 (by omega)
theorem lilN_iff {d : Int → Int} {q : Ky} : ∀ m : Nat, (∃ k : Int, 0 ≤ k ∧ k ≤ m ∧ lilN d q m = km d q k) ∧ ∀ k : Int, 0 ≤ k → k ≤ m → lilN d q m ≤ km d q k
  | 0 => ⟨⟨0, by omega, by omega, rfl⟩, fun k h0 h1 => by rw [show k = 0 by omega]; exact Int.le_refl _⟩
  | m + 1 => by
    obtain ⟨⟨k, a, b, c⟩, h⟩ := lilN_iff (d := d) (q := q) m
    by_cases g : km d q ((m : Int) + 1) < lilN d q m
    · have e : lilN d q (m + 1) = km d q ((m : Int) + 1) := if_pos g
      refine ⟨⟨(m : Int) + 1, by omega, by omega, e⟩, fun j h0 h1 => ?_⟩
      rw [e]
      by_cases f : j = (m : Int) + 1
      · rw [f]; exact Int.le_refl _
      · have := h j h0 (by omega); omega
    · have e : lilN d q (m + 1) = lilN d q m := if_neg g
      refine ⟨⟨k, a, by omega, e.trans c⟩, fun j h0 h1 => ?_⟩
      rw [e]
      by_cases f : j = (m : Int) + 1
      · rw [f]; omega
      · exact h j h0 (by omega)
theorem big_rng {d : Int → Int} {T : List Int} (hD : DW d T) {q : Ky} (h : KOk d q) : 1 ≤ big d q ∧ big d q ≤ d 0 := by
  obtain ⟨⟨k, a, b, c⟩, _⟩ := bigN_iff (d := d) (q := q) (kl d q - 1).toNat
  have := kl_rng hD h
  unfold big
  rw [c]
  exact km_rng hD h a (by omega)
theorem lil_rng {d : Int → Int} {T : List Int} (hD : DW d T) {q : Ky} (h : KOk d q) : 1 ≤ lil d q ∧ lil d q ≤ d 0 := by
  obtain ⟨⟨k, a, b, c⟩, _⟩ := lilN_iff (d := d) (q := q) (kl d q - 1).toNat
  have := kl_rng hD h
  unfold lil
  rw [c]
  exact km_rng hD h a (by omega)
/-- the weight: tokens from 0 on are numbers, -5, -6, -7 the rule, the largest number, the colour, -1 to -4 the operations -/
def lim6 (v : Int) : Int := if 1000000 < v then 1000000 else if v < -1000000 then -1000000 else v
theorem lim6_rng (v : Int) : -1000000 ≤ lim6 v ∧ lim6 v ≤ 1000000 := by
  unfold lim6
  by_cases h : 1000000 < v
  · rw [if_pos h]; omega
  · rw [if_neg h]
    by_cases g : v < -1000000
    · rw [if_pos g]; omega
    · rw [if_neg g]; omega
def app (t a b : Int) : Int := if t = -1 then lim6 (a + b) else if t = -2 then lim6 (a - b) else if t = -3 then lim6 (a * b) else if b = 0 then 0 else Int.tdiv a b
theorem tdiv_rng {a b : Int} (h : -1000000 ≤ a ∧ a ≤ 1000000) : -1000000 ≤ Int.tdiv a b ∧ Int.tdiv a b ≤ 1000000 := by
  have h1 : (Int.tdiv a b).natAbs ≤ a.natAbs := by rw [Int.natAbs_tdiv]; exact Nat.div_le_self _ _
  omega
theorem app_rng {t a b : Int} (ha : -1000000 ≤ a ∧ a ≤ 1000000) : -1000000 ≤ app t a b ∧ app t a b ≤ 1000000 := by
  unfold app
  by_cases h1 : t = -1
  · rw [if_pos h1]; exact lim6_rng _
  · rw [if_neg h1]
    by_cases h2 : t = -2
    · rw [if_pos h2]; exact lim6_rng _
    · rw [if_neg h2]
      by_cases h3 : t = -3
      · rw [if_pos h3]; exact lim6_rng _
      · rw [if_neg h3]
        by_cases h4 : b = 0
        · rw [if_pos h4]; omega
        · rw [if_neg h4]; exact tdiv_rng ha
def opd (t r g c : Int) : Int := if t = -5 then r else if t = -6 then g else if t = -7 then c else t
def evT (r g c : Int) : List Int → List Int → Int
  | [], s => s.headD 0
  | t :: T, s => if t ≤ -1 ∧ -4 ≤ t then (match s with
    | b :: a :: s' => evT r g c T (app t a b :: s')
    | _ => 0) else evT r g c T (opd t r g c :: s)
def wgt (T : List Int) (r g c : Int) : Int := if T = [] then 1 else (if evT r g c T [] < 0 then 0 else if 999 < evT r g c T [] then 999 else evT r g c T [])
theorem wgt_rng {T : List Int} {r g c : Int} : 0 ≤ wgt T r g c ∧ wgt T r g c ≤ 999 := by
  unfold wgt
  by_cases h : T = []
  · rw [if_pos h]; omega
  · rw [if_neg h]
    by_cases h1 : evT r g c T [] < 0
    · rw [if_pos h1]; omega
    · rw [if_neg h1]
      by_cases h2 : 999 < evT r g c T []
      · rw [if_pos h2]; omega
      · rw [if_neg h2]; omega
def wK (d : Int → Int) (T : List Int) (q : Ky) (c : Int) : Int := wgt T q.1 (big d q) c
/-- the weight of a conflict; 0 for none -/
def w1 (d : Int → Int) (T : List Int) (e : Int → Int) (q : Ky) : Int := if cAll d e q = -1 then 0 else wK d T q (cAll d e q)
theorem w1_rng {d : Int → Int} {T : List Int} {e : Int → Int} {q : Ky} : 0 ≤ w1 d T e q ∧ w1 d T e q ≤ 999 := by
  unfold w1
  by_cases h : cAll d e q = -1
  · rw [if_pos h]; omega
  · rw [if_neg h]; exact wgt_rng
def wgtA (d : Int → Int) (T : List Int) (e : Int → Int) : Int := sumL (fun q => w1 d T e q) (KL d)
/-- the weights of all conflicts with x if it had the colour c -/
def wgtX (d : Int → Int) (T : List Int) (e : Int → Int) (x c : Int) : Int := sumL (fun q => if has d q x = true then (if cAll d (uZ e x (c + 1)) q = -1 then 0 else wK d T q c) else 0) (KL d)
theorem sumL_rng {α : Type} {f : α → Int} {B : Int} {l : List α} (h : ∀ a, a ∈ l → 0 ≤ f a ∧ f a ≤ B) : 0 ≤ sumL f l ∧ sumL f l ≤ B * l.length := by
  refine ⟨sumL_nonneg (fun a ha => (h a ha).1), ?_⟩
  rw [← sumL_const]
  exact sumL_le (fun a ha => (h a ha).2)
theorem sumT_le {α : Type} {f : α → Int} {l : List α} {s : Nat} (h : ∀ a, a ∈ l → 0 ≤ f a) : 0 ≤ sumL f (l.take s) ∧ sumL f (l.take s) ≤ sumL f l := by
  have e : sumL f l = sumL f (l.take s) + sumL f (l.drop s) := by rw [← sumL_app, List.take_append_drop]
  have h1 : 0 ≤ sumL f (l.drop s) := sumL_nonneg (fun a ha => h a (List.mem_of_mem_drop ha))
  have h2 : 0 ≤ sumL f (l.take s) := sumL_nonneg (fun a ha => h a (List.mem_of_mem_take ha))
  omega
/-- the world came back -/
theorem Up1.back {ws u v : va_W} {q : Nat} {x y : Nat × va_E} (h : Up1 ws u q x) (k : Up1 u v q y) (hy : ws[q]? = some y) : ws = v := by
  apply List.ext_getElem?
  intro j
  by_cases e : j = q
  · subst e; rw [hy, k.1]
  · rw [k.2.2 j e, h.2.2 j e]
/-- two flags -/
theorem zI_and {a b : Int} (ha : a = 0 ∨ a = 1) (hb : b = 0 ∨ b = 1) : ∃ w : Int, zI a &&& zI b = zI w ∧ (a = 1 ∧ b = 1 ∧ w = 1 ∨ (a = 0 ∨ b = 0) ∧ w = 0) := by
  rcases ha with rfl | rfl <;> rcases hb with rfl | rfl
  · exact ⟨0, by decide, by omega⟩
  · exact ⟨0, by decide, by omega⟩
  · exact ⟨0, by decide, by omega⟩
  · exact ⟨1, by decide, by omega⟩
/-- the content of a row is what it holds at its places -/
theorem Hp.recon {G : va_G} {ws : va_W} {A : Nat → Prop} {H0 H : Heap} {locs : List Loc} (h : Hp G ws A H0 H locs) {cy : Nat → ClassId} {q a n : Nat} {f g : Int → Int} (hq : ws[q]? = some (a, aI cy n f)) (e : ∀ j : Int, 0 ≤ j → j < n → f j = g j) : ∃ u : va_W, Hp G u A H0 H locs ∧ Up1 ws u q (a, aI cy n g) := by
  refine ⟨ws.set q (a, aI cy n g), ⟨?_, h.2.1.set hq, h.2.2⟩, Up1.of hq⟩
  refine h.1.set h.2.1 hq ?_ (fun _ _ => rfl)
  have h1 := h.1 q _ hq
  show H[a]? = some (vp_cell (cy 0) (n, .inl _))
  have h2 : H[a]? = some (vp_cell (cy 0) (n, .inl fun j : Nat => zI (f (j : Int)))) := h1
  rw [h2, vp_cell_i, vp_cell_i]
  congr 1
  unfold arrV
  congr 1
  apply Array.ext
  · simp
  · intro i h3 h4
    simp only [Array.getElem_ofFn]
    rw [e i (by omega) (by simp at h3; omega)]
