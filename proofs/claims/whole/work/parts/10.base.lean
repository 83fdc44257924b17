/-! the machine's numbers as whole numbers -/
def zI (e : Int) : Int32 := Int32.ofInt e
def zL (e : Int) : Int64 := Int64.ofInt e
theorem zI_add (a b : Int) : zI a + zI b = zI (a + b) := (Int32.ofInt_add a b).symm
theorem zI_sub (a b : Int) : zI a - zI b = zI (a - b) := (Int32.ofInt_sub a b).symm
theorem zI_mul (a b : Int) : zI a * zI b = zI (a * b) := (Int32.ofInt_mul a b).symm
theorem zI_neg (a : Int) : -zI a = zI (-a) := Int32.neg_ofInt
theorem zI_toInt {a : Int} (h : -2147483648 ≤ a ∧ a ≤ 2147483647) : (zI a).toInt = a := Int32.toInt_ofInt_of_le (by omega) (by omega)
theorem zI_of (x : Int32) : x = zI x.toInt := (Int32.ofInt_toInt x).symm
theorem zI_rng (x : Int32) : -2147483648 ≤ x.toInt ∧ x.toInt ≤ 2147483647 := by
  have h1 := Int32.le_toInt x
  have h2 := Int32.toInt_lt x
  omega
theorem zI_le {a b : Int} (h : (-2147483648 ≤ a ∧ a ≤ 2147483647) ∧ (-2147483648 ≤ b ∧ b ≤ 2147483647)) : zI a ≤ zI b ↔ a ≤ b := by
  rw [Int32.le_iff_toInt_le, zI_toInt h.1, zI_toInt h.2]
theorem zI_lt {a b : Int} (h : (-2147483648 ≤ a ∧ a ≤ 2147483647) ∧ (-2147483648 ≤ b ∧ b ≤ 2147483647)) : zI a < zI b ↔ a < b := by
  rw [Int32.lt_iff_toInt_lt, zI_toInt h.1, zI_toInt h.2]
theorem zI_eq {a b : Int} (h : (-2147483648 ≤ a ∧ a ≤ 2147483647) ∧ (-2147483648 ≤ b ∧ b ≤ 2147483647)) : zI a = zI b ↔ a = b := by
  rw [← Int32.toInt_inj, zI_toInt h.1, zI_toInt h.2]
theorem zI_clamp {a : Int} (h : 0 ≤ a ∧ a ≤ 2147483647) : (zI a).toNatClampNeg = a.toNat := Int32.toNatClampNeg_ofInt_of_le (by omega) (by omega)
theorem zI_in {a : Int} {n : Nat} (h : 0 ≤ a ∧ a < (n : Int)) (hn : (n : Int) ≤ 2147483648) : vp_in (zI a) n := vp_in_iff.mpr (by rw [zI_toInt (by omega)]; exact h)
theorem zI_div {a b : Int} (h : (-2147483648 ≤ a ∧ a ≤ 2147483647) ∧ (-2147483648 ≤ b ∧ b ≤ 2147483647)) : zI a / zI b = zI (a.tdiv b) :=
  Int32.toInt_inj.mp (by rw [Int32.toInt_div, zI_toInt h.1, zI_toInt h.2]; exact Int32.toInt_ofInt.symm)
theorem zI_rem {a b : Int} (h : (-2147483648 ≤ a ∧ a ≤ 2147483647) ∧ (-2147483648 ≤ b ∧ b ≤ 2147483647)) : zI a - zI a / zI b * zI b = zI (a.tmod b) := by
  rw [zI_div h, zI_mul, zI_sub, Int.tmod_def, Int.mul_comm]
theorem zI_min : Int32.minValue.toInt = -2147483648 := by decide
theorem zI_max : Int32.maxValue.toInt = 2147483647 := by decide
theorem zI_long {a : Int} (h : -2147483648 ≤ a ∧ a ≤ 2147483647) : (zI a).toInt64 = zL a := Int32.toInt64_ofInt (by rw [zI_min]; omega) (by rw [zI_max]; omega)
theorem zL_int (a : Int) : (zL a).toInt32 = zI a := Int64.toInt32_ofInt
theorem zL_add (a b : Int) : zL a + zL b = zL (a + b) := (Int64.ofInt_add a b).symm
theorem zL_sub (a b : Int) : zL a - zL b = zL (a - b) := (Int64.ofInt_sub a b).symm
theorem zL_mul (a b : Int) : zL a * zL b = zL (a * b) := (Int64.ofInt_mul a b).symm
theorem zL_toInt {a : Int} (h : -9223372036854775808 ≤ a ∧ a ≤ 9223372036854775807) : (zL a).toInt = a := Int64.toInt_ofInt_of_le (by omega) (by omega)
theorem zL_le {a b : Int} (h : (-9223372036854775808 ≤ a ∧ a ≤ 9223372036854775807) ∧ (-9223372036854775808 ≤ b ∧ b ≤ 9223372036854775807)) : zL a ≤ zL b ↔ a ≤ b := by
  rw [Int64.le_iff_toInt_le, zL_toInt h.1, zL_toInt h.2]
theorem zL_lt {a b : Int} (h : (-9223372036854775808 ≤ a ∧ a ≤ 9223372036854775807) ∧ (-9223372036854775808 ≤ b ∧ b ≤ 9223372036854775807)) : zL a < zL b ↔ a < b := by
  rw [Int64.lt_iff_toInt_lt, zL_toInt h.1, zL_toInt h.2]
theorem zL_eq {a b : Int} (h : (-9223372036854775808 ≤ a ∧ a ≤ 9223372036854775807) ∧ (-9223372036854775808 ≤ b ∧ b ≤ 9223372036854775807)) : zL a = zL b ↔ a = b := by
  rw [← Int64.toInt_inj, zL_toInt h.1, zL_toInt h.2]
theorem zL_div {a b : Int} (h : (-9223372036854775808 ≤ a ∧ a ≤ 9223372036854775807) ∧ (-9223372036854775808 ≤ b ∧ b ≤ 9223372036854775807)) : zL a / zL b = zL (a.tdiv b) :=
  Int64.toInt_inj.mp (by rw [Int64.toInt_div, zL_toInt h.1, zL_toInt h.2]; exact Int64.toInt_ofInt.symm)
theorem zL_cmp {a b : Int} (h : (-9223372036854775808 ≤ a ∧ a ≤ 9223372036854775807) ∧ (-9223372036854775808 ≤ b ∧ b ≤ 9223372036854775807)) : lg_cmp (zL a) (zL b) = zI (if a < b then -1 else if a = b then 0 else 1) := by
  have e1 := zL_lt h.symm
  have e2 := zL_eq h
  unfold lg_cmp
  by_cases h1 : a < b
  · have n1 : ¬ zL b < zL a := fun e => absurd (e1.mp e) (by omega)
    have n2 : ¬ zL a = zL b := fun e => absurd (e2.mp e) (by omega)
    simp [n1, n2, h1]; rfl
  · by_cases h2 : a = b
    · subst h2
      have n1 : ¬ zL a < zL a := fun e => absurd (e1.mp e) (by omega)
      simp [n1]; rfl
    · have n1 : zL b < zL a := e1.mpr (by omega)
      simp [n1, h1, h2]; rfl
/-- one place changed -/
def uZ {α : Type} (f : Int → α) (i : Int) (x : α) : Int → α := fun j => if j = i then x else f j
theorem uZ_s {α : Type} {f : Int → α} {i : Int} {x : α} : uZ f i x i = x := if_pos rfl
theorem uZ_n {α : Type} {f : Int → α} {i j : Int} {x : α} (h : j ≠ i) : uZ f i x j = f j := if_neg h
theorem uZ_int {f : Int → Int} {i x : Int} (h : 0 ≤ i ∧ i ≤ 2147483647) : upd (fun j : Nat => zI (f (j : Int))) (zI i).toNatClampNeg (zI x) = fun j : Nat => zI (uZ f i x (j : Int)) := by
  funext j
  rw [zI_clamp h]
  unfold upd uZ
  by_cases e : j = i.toNat
  · rw [if_pos e, if_pos (by omega)]
  · rw [if_neg e, if_neg (by omega)]
theorem uZ_long {f : Int → Int64} {i : Int} {x : Int64} (h : 0 ≤ i ∧ i ≤ 2147483647) : vp_updL (fun j : Nat => f (j : Int)) (zI i).toNatClampNeg x = fun j : Nat => uZ f i x (j : Int) := by
  funext j
  rw [zI_clamp h]
  unfold vp_updL uZ
  by_cases e : j = i.toNat
  · rw [if_pos e, if_pos (by omega)]
  · rw [if_neg e, if_neg (by omega)]
theorem uZ_opt {f : Int → Option Nat} {i : Int} {x : Option Nat} (h : 0 ≤ i ∧ i ≤ 2147483647) : va_up (fun j : Nat => f (j : Int)) (zI i).toNatClampNeg x = fun j : Nat => uZ f i x (j : Int) := by
  funext j
  rw [zI_clamp h]
  unfold va_up uZ
  by_cases e : j = i.toNat
  · rw [if_pos e, if_pos (by omega)]
  · rw [if_neg e, if_neg (by omega)]
theorem zI_byte : ∀ a : Int, -128 ≤ a ∧ a ≤ 127 → (Int8.ofInt a).toInt32 = zI a := by
  intro a h
  apply Int32.toInt_inj.mp
  rw [zI_toInt (by omega), Int8.toInt_toInt32, Int8.toInt_ofInt_of_le (by omega) (by omega)]
theorem zI_short : ∀ a : Int, -32768 ≤ a ∧ a ≤ 32767 → (Int16.ofInt a).toInt32 = zI a := by
  intro a h
  apply Int32.toInt_inj.mp
  rw [zI_toInt (by omega), Int16.toInt_toInt32, Int16.toInt_ofInt_of_le (by omega) (by omega)]
/-! worlds: one list of cells, by place; the arrays' classes -/
def tyL (cy : Nat → ClassId) : List (ClassId × FieldType) := [(cy 0, .int), (cy 1, .long), (cy 2, .byte), (cy 3, .object RX0), (cy 4, .object RX4), (cy 5, .object RX6), (cy 6, .array .int)]
abbrev aI (cy : Nat → ClassId) (n : Nat) (f : Int → Int) : va_E := .inl (cy 0, n, .inl (fun j : Nat => zI (f (j : Int))))
abbrev aL (cy : Nat → ClassId) (n : Nat) (f : Int → Int64) : va_E := .inl (cy 1, n, .inr (.inl (fun j : Nat => f (j : Int))))
abbrev aB (cy : Nat → ClassId) (n : Nat) (f : Int → Int) : va_E := .inl (cy 2, n, .inl (fun j : Nat => zI (f (j : Int))))
abbrev aR (cy : Nat → ClassId) (t n : Nat) (f : Int → Option Nat) : va_E := .inl (cy t, n, .inr (.inr (.inr (.inr (fun j : Nat => f (j : Int))))))
/-- what holds all through a method's body -/
def Ev (p : Program) (s : State) (m : MethodId) (meth : Method) (c : Code) (args : Array Value) (cc : ByteArray) (nL : Nat) (ret : Option FieldType) (wds : List Cond) (own : String) (G : va_G) (cy : Nat → ClassId) : Prop :=
  p.tables.exec = Jvm.exec ∧ c.code = cc ∧ c.maxLocals = nL ∧ s.vm.findClass own = some m.cls ∧ (∀ w ∈ wds, w.before args s = true) ∧ va_K G vwCl (tyL cy) s ∧ meth.locks = false ∧ meth.sig.returnType = ret
/-- the heap of the moment -/
def Hp (G : va_G) (ws : va_W) (A : Nat → Prop) (H0 H : Heap) (locs : List Loc) : Prop := va_P G vwCl ws H ∧ va_D A ws ∧ va_S A H0 H locs ∧ ∀ q, H0.size ≤ q → A q
/-- u is ws, but at the places X -/
def Eqx (ws u : va_W) (X : Nat → Prop) : Prop := ws.length ≤ u.length ∧ ∀ j, j < ws.length → ¬ X j → u[j]? = ws[j]?
theorem Eqx.rf {ws : va_W} {X : Nat → Prop} : Eqx ws ws X := ⟨Nat.le_refl _, fun _ _ _ => rfl⟩
theorem Eqx.tr {ws u v : va_W} {X : Nat → Prop} (h : Eqx ws u X) (k : Eqx u v X) : Eqx ws v X := ⟨Nat.le_trans h.1 k.1, fun j hj hX => (k.2 j (Nat.lt_of_lt_of_le hj h.1) hX).trans (h.2 j hj hX)⟩
theorem Eqx.wk {ws u : va_W} {X Y : Nat → Prop} (h : Eqx ws u X) (hXY : ∀ j, X j → Y j) : Eqx ws u Y := ⟨h.1, fun j hj hY => h.2 j hj (fun hx => hY (hXY j hx))⟩
theorem lt_of_at {ws : va_W} {j : Nat} {x : Nat × va_E} (h : ws[j]? = some x) : j < ws.length := (List.getElem?_eq_some_iff.mp h).1
theorem Eqx.at {ws u : va_W} {X : Nat → Prop} (h : Eqx ws u X) {j : Nat} {x : Nat × va_E} (hj : ws[j]? = some x) (hX : ¬ X j) : u[j]? = some x := (h.2 j (lt_of_at hj) hX).trans hj
/-- one place changed -/
def Up1 (ws u : va_W) (q : Nat) (x : Nat × va_E) : Prop := u[q]? = some x ∧ u.length = ws.length ∧ ∀ j, j ≠ q → u[j]? = ws[j]?
theorem Up1.of {ws : va_W} {q : Nat} {x y : Nat × va_E} (h : ws[q]? = some y) : Up1 ws (ws.set q x) q x := ⟨by rw [List.getElem?_set_self (lt_of_at h)], by simp, fun j hj => List.getElem?_set_ne (Ne.symm hj)⟩
theorem Up1.keep {ws u : va_W} {q : Nat} {x : Nat × va_E} (h : Up1 ws u q x) {j : Nat} {y : Nat × va_E} (hj : ws[j]? = some y) (n : j ≠ q) : u[j]? = some y := (h.2.2 j n).trans hj
theorem Up1.eqx {ws u : va_W} {q : Nat} {x : Nat × va_E} {X : Nat → Prop} (h : Up1 ws u q x) (hX : X q) : Eqx ws u X := ⟨by rw [h.2.1]; exact Nat.le_refl _, fun j _ n => h.2.2 j (fun e => n (e ▸ hX))⟩
/-- one cell more -/
def Ap1 (ws u : va_W) (x : Nat × va_E) : Prop := u = ws ++ [x]
theorem Ap1.new {ws u : va_W} {x : Nat × va_E} (h : Ap1 ws u x) : u[ws.length]? = some x := by rw [h]; simp
theorem Ap1.len {ws u : va_W} {x : Nat × va_E} (h : Ap1 ws u x) : u.length = ws.length + 1 := by rw [h]; simp
theorem Ap1.keep {ws u : va_W} {x : Nat × va_E} (h : Ap1 ws u x) {j : Nat} {y : Nat × va_E} (hj : ws[j]? = some y) : u[j]? = some y := by rw [h, List.getElem?_append_left (lt_of_at hj)]; exact hj
theorem Ap1.eqx {ws u : va_W} {x : Nat × va_E} {X : Nat → Prop} (h : Ap1 ws u x) : Eqx ws u X := ⟨by rw [h.len]; omega, fun j hj _ => by rw [h, List.getElem?_append_left hj]⟩
def BW (G : va_G) (cy : Nat → ClassId) (A : Nat → Prop) (u : va_W) (t : State) : Prop := va_P G vwCl u t.heap ∧ va_K G vwCl (tyL cy) t ∧ va_D A u
def PW (G : va_G) (cy : Nat → ClassId) (av : List Value) (ws : va_W) (sz : Nat) : Array Value → State → Prop := va_Pc av (fun U => U.heap.size = sz ∧ va_P G vwCl ws U.heap ∧ va_K G vwCl (tyL cy) U ∧ va_D (fun _ => True) ws)
/-- the contracts: a method that answers an int, a long, a reference or null, nothing -/
def MI (l : Launch) (y : MethodName) (wds : List Cond) (rm : Room) (G : va_G) (cy : Nat → ClassId) (av : List Value) (ws : va_W) (post : Int → va_W → Prop) : Prop :=
  ∀ sz, Met l y wds rm (PW G cy av ws sz) (va_Qi (fun r u => ∃ z, r = zI z ∧ post z u) (BW G cy (va_A ws sz)) (va_A ws sz)) rm.cells rm.slots (va_A ws sz)
def ML (l : Launch) (y : MethodName) (wds : List Cond) (rm : Room) (G : va_G) (cy : Nat → ClassId) (av : List Value) (ws : va_W) (post : Int64 → va_W → Prop) : Prop :=
  ∀ sz, Met l y wds rm (PW G cy av ws sz) (va_Ql post (BW G cy (va_A ws sz)) (va_A ws sz)) rm.cells rm.slots (va_A ws sz)
def MV (l : Launch) (y : MethodName) (wds : List Cond) (rm : Room) (G : va_G) (cy : Nat → ClassId) (av : List Value) (ws : va_W) (post : va_W → Prop) : Prop :=
  ∀ sz, Met l y wds rm (PW G cy av ws sz) (va_Qv post (BW G cy (va_A ws sz)) (va_A ws sz)) rm.cells rm.slots (va_A ws sz)
def MR (l : Launch) (y : MethodName) (wds : List Cond) (rm : Room) (G : va_G) (cy : Nat → ClassId) (av : List Value) (ws : va_W) (post : Option Nat → va_W → Prop) : Prop :=
  ∀ sz, Met l y wds rm (PW G cy av ws sz) (va_Qq post (BW G cy (va_A ws sz)) (va_A ws sz)) rm.cells rm.slots (va_A ws sz)
set_option maxHeartbeats 1000000 in
theorem MI.of {l : Launch} {y : MethodName} {wds ws' : List Cond} {rm : Room} {G : va_G} {cy : Nat → ClassId} {av : List Value} {ws : va_W} {post : Int → va_W → Prop} {cc : ByteArray} {nL : Nat} {ret : Option FieldType} {own : String} (hy : plainName y.cls = true) (ho : y.cls = own) (hw : wds = .code y cc nL ret :: ws') (hn : (lg_sl av).length ≤ nL)
    (body : ∀ (p : Program) (e : Env) (s : State) (m : MethodId) (below : List Frame) (meth : Method) (c : Code) (A : Nat → Prop) (ls : Array Slot), Ev p s m meth c av.toArray cc nL ret wds own G cy → Hp G ws A s.heap s.heap [] → lv_has ls nL (lv_args 0 av) → W p l e rm s m av.toArray below meth c s.heap [] 0 0 (MQ below (va_Qi (fun r u => ∃ z, r = zI z ∧ post z u) (BW G cy A) A) av.toArray s rm.cells rm.slots A) (F0 m 0 ls [])) : MI l y wds rm G cy av ws post := by
  subst ho
  intro sz
  refine Met.ofW (cc := cc) (maxL := nL) (ret := ret) hy hw ?_
  intro p e s m args below meth c s₁ B hml hv
  obtain ⟨rfl, hsz, hP, hK, hD0⟩ := hv
  subst hsz
  rw [lg_entry_eq]
  exact body p e s m below meth c _ _ ⟨B.exec, B.bytes, hml, findClass_of_methodNamed B.named, atoms_spec (ws := wds) B.pre, hK, B.notSynchronized, B.returns⟩ ⟨hP, hD0.self, va_S.rf, fun q h => Or.inr h⟩ (lv_entry av hn)
set_option maxHeartbeats 1000000 in
theorem ML.of {l : Launch} {y : MethodName} {wds ws' : List Cond} {rm : Room} {G : va_G} {cy : Nat → ClassId} {av : List Value} {ws : va_W} {post : Int64 → va_W → Prop} {cc : ByteArray} {nL : Nat} {ret : Option FieldType} {own : String} (hy : plainName y.cls = true) (ho : y.cls = own) (hw : wds = .code y cc nL ret :: ws') (hn : (lg_sl av).length ≤ nL)
    (body : ∀ (p : Program) (e : Env) (s : State) (m : MethodId) (below : List Frame) (meth : Method) (c : Code) (A : Nat → Prop) (ls : Array Slot), Ev p s m meth c av.toArray cc nL ret wds own G cy → Hp G ws A s.heap s.heap [] → lv_has ls nL (lv_args 0 av) → W p l e rm s m av.toArray below meth c s.heap [] 0 0 (MQ below (va_Ql post (BW G cy A) A) av.toArray s rm.cells rm.slots A) (F0 m 0 ls [])) : ML l y wds rm G cy av ws post := by
  subst ho
  intro sz
  refine Met.ofW (cc := cc) (maxL := nL) (ret := ret) hy hw ?_
  intro p e s m args below meth c s₁ B hml hv
  obtain ⟨rfl, hsz, hP, hK, hD0⟩ := hv
  subst hsz
  rw [lg_entry_eq]
  exact body p e s m below meth c _ _ ⟨B.exec, B.bytes, hml, findClass_of_methodNamed B.named, atoms_spec (ws := wds) B.pre, hK, B.notSynchronized, B.returns⟩ ⟨hP, hD0.self, va_S.rf, fun q h => Or.inr h⟩ (lv_entry av hn)
set_option maxHeartbeats 1000000 in
theorem MV.of {l : Launch} {y : MethodName} {wds ws' : List Cond} {rm : Room} {G : va_G} {cy : Nat → ClassId} {av : List Value} {ws : va_W} {post : va_W → Prop} {cc : ByteArray} {nL : Nat} {ret : Option FieldType} {own : String} (hy : plainName y.cls = true) (ho : y.cls = own) (hw : wds = .code y cc nL ret :: ws') (hn : (lg_sl av).length ≤ nL)
    (body : ∀ (p : Program) (e : Env) (s : State) (m : MethodId) (below : List Frame) (meth : Method) (c : Code) (A : Nat → Prop) (ls : Array Slot), (meth.name = y.name) → Ev p s m meth c av.toArray cc nL ret wds own G cy → Hp G ws A s.heap s.heap [] → lv_has ls nL (lv_args 0 av) → W p l e rm s m av.toArray below meth c s.heap [] 0 0 (MQ below (va_Qv post (BW G cy A) A) av.toArray s rm.cells rm.slots A) (F0 m 0 ls [])) : MV l y wds rm G cy av ws post := by
  subst ho
  intro sz
  refine Met.ofW (cc := cc) (maxL := nL) (ret := ret) hy hw ?_
  intro p e s m args below meth c s₁ B hml hv
  obtain ⟨rfl, hsz, hP, hK, hD0⟩ := hv
  subst hsz
  rw [lg_entry_eq]
  exact body p e s m below meth c _ _ (name_of_methodNamed B.named B.method).1 ⟨B.exec, B.bytes, hml, findClass_of_methodNamed B.named, atoms_spec (ws := wds) B.pre, hK, B.notSynchronized, B.returns⟩ ⟨hP, hD0.self, va_S.rf, fun q h => Or.inr h⟩ (lv_entry av hn)
set_option maxHeartbeats 1000000 in
theorem MR.of {l : Launch} {y : MethodName} {wds ws' : List Cond} {rm : Room} {G : va_G} {cy : Nat → ClassId} {av : List Value} {ws : va_W} {post : Option Nat → va_W → Prop} {cc : ByteArray} {nL : Nat} {ret : Option FieldType} {own : String} (hy : plainName y.cls = true) (ho : y.cls = own) (hw : wds = .code y cc nL ret :: ws') (hn : (lg_sl av).length ≤ nL)
    (body : ∀ (p : Program) (e : Env) (s : State) (m : MethodId) (below : List Frame) (meth : Method) (c : Code) (A : Nat → Prop) (ls : Array Slot), Ev p s m meth c av.toArray cc nL ret wds own G cy → Hp G ws A s.heap s.heap [] → lv_has ls nL (lv_args 0 av) → W p l e rm s m av.toArray below meth c s.heap [] 0 0 (MQ below (va_Qq post (BW G cy A) A) av.toArray s rm.cells rm.slots A) (F0 m 0 ls [])) : MR l y wds rm G cy av ws post := by
  subst ho
  intro sz
  refine Met.ofW (cc := cc) (maxL := nL) (ret := ret) hy hw ?_
  intro p e s m args below meth c s₁ B hml hv
  obtain ⟨rfl, hsz, hP, hK, hD0⟩ := hv
  subst hsz
  rw [lg_entry_eq]
  exact body p e s m below meth c _ _ ⟨B.exec, B.bytes, hml, findClass_of_methodNamed B.named, atoms_spec (ws := wds) B.pre, hK, B.notSynchronized, B.returns⟩ ⟨hP, hD0.self, va_S.rf, fun q h => Or.inr h⟩ (lv_entry av hn)
