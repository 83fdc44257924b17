/-- a byte everywhere -/
def rep (b : Nat) : Nat → Nat
  | 0 => 0
  | k + 1 => b + 256 * rep b k
theorem and_256 {a b y z : Nat} (ha : a < 256) (hb : b < 256) : (a + 256 * y) &&& (b + 256 * z) = (a &&& b) + 256 * (y &&& z) := by
  have hab : a &&& b < 2 ^ 8 := Nat.and_lt_two_pow a hb
  apply Nat.eq_of_testBit_eq
  intro i
  rw [Nat.testBit_and, Nat.add_comm a, Nat.add_comm b, Nat.add_comm (a &&& b), show (256 : Nat) = 2 ^ 8 from rfl, Nat.testBit_two_pow_mul_add y (show a < 2 ^ 8 from ha), Nat.testBit_two_pow_mul_add z (show b < 2 ^ 8 from hb), Nat.testBit_two_pow_mul_add (y &&& z) hab]
  by_cases h : i < 8
  · rw [if_pos h, if_pos h, if_pos h, Nat.testBit_and]
  · rw [if_neg h, if_neg h, if_neg h, Nat.testBit_and]
def sw1 (k x : Nat) : Nat := x - ((x / 2) &&& rep 85 k)
def sw2 (k x : Nat) : Nat := (x &&& rep 51 k) + ((x / 4) &&& rep 51 k)
def sw3 (k x : Nat) : Nat := (x + x / 16) &&& rep 15 k
def pc8 (a : Nat) : Nat := a % 2 + a / 2 % 2 + a / 4 % 2 + a / 8 % 2 + a / 16 % 2 + a / 32 % 2 + a / 64 % 2 + a / 128 % 2
def bf1 (a : Nat) : Nat := a - ((a / 2) &&& 85)
def bf2 (a : Nat) : Nat := (a &&& 51) + ((a / 4) &&& 51)
theorem by1 : ∀ a : Nat, a < 256 → ∀ e : Nat, e < 2 → (a / 2 + 128 * e) &&& 85 = (a / 2) &&& 85 := by decide +kernel
theorem by2 : ∀ a : Nat, a < 256 → ∀ e : Nat, e < 4 → (a / 4 + 64 * e) &&& 51 = (a / 4) &&& 51 := by decide +kernel
theorem by3 : ∀ a : Nat, a < 256 → (bf1 a < 256 ∧ bf2 (bf1 a) < 256 ∧ bf2 (bf1 a) % 16 ≤ 4) ∧ ∀ e : Nat, e < 5 → (bf2 (bf1 a) + bf2 (bf1 a) / 16 + 16 * e) &&& 15 = pc8 a ∧ bf2 (bf1 a) + bf2 (bf1 a) / 16 + 16 * e < 256 := by decide +kernel
theorem sw1_s {k a y : Nat} (ha : a < 256) : sw1 (k + 1) (a + 256 * y) = bf1 a + 256 * sw1 k y := by
  have h1 : (a + 256 * y) / 2 = (a / 2 + 128 * (y % 2)) + 256 * (y / 2) := by omega
  have h2 : a / 2 &&& 85 ≤ a / 2 := Nat.and_le_left
  have h3 : y / 2 &&& rep 85 k ≤ y / 2 := Nat.and_le_left
  unfold sw1 bf1
  rw [h1]
  show _ - (_ &&& (85 + 256 * rep 85 k)) = _
  rw [and_256 (by omega) (by decide), by1 a ha _ (by omega)]
  omega
theorem sw2_s {k a y : Nat} (ha : a < 256) : sw2 (k + 1) (a + 256 * y) = bf2 a + 256 * sw2 k y := by
  have h1 : (a + 256 * y) / 4 = (a / 4 + 64 * (y % 4)) + 256 * (y / 4) := by omega
  unfold sw2 bf2
  rw [h1]
  show (_ &&& (51 + 256 * rep 51 k)) + (_ &&& (51 + 256 * rep 51 k)) = _
  rw [and_256 (by omega) (by decide), and_256 (by omega) (by decide), by2 a ha _ (by omega)]
  omega
theorem sw21_r (k y : Nat) : sw2 k (sw1 k y) % 16 ≤ 4 := by
  cases k with
  | zero => show (((sw1 0 y) &&& 0) + ((sw1 0 y / 4) &&& 0)) % 16 ≤ 4; simp
  | succ k =>
    have e : y = y % 256 + 256 * (y / 256) := by omega
    have h := (by3 (y % 256) (by omega)).1
    rw [e, sw1_s (by omega), sw2_s h.1]
    omega
theorem sw_s {k a y : Nat} (ha : a < 256) : sw3 (k + 1) (sw2 (k + 1) (sw1 (k + 1) (a + 256 * y))) = pc8 a + 256 * sw3 k (sw2 k (sw1 k y)) := by
  obtain ⟨h1, h2⟩ := by3 a ha
  have h3 := sw21_r k y
  rw [sw1_s ha, sw2_s h1.1]
  obtain ⟨h4, h5⟩ := h2 (sw2 k (sw1 k y) % 16) (by omega)
  generalize sw2 k (sw1 k y) = z at *
  have e : (bf2 (bf1 a) + 256 * z) + (bf2 (bf1 a) + 256 * z) / 16 = (bf2 (bf1 a) + bf2 (bf1 a) / 16 + 16 * (z % 16)) + 256 * (z + z / 16) := by omega
  unfold sw3
  rw [e]
  show _ &&& (15 + 256 * rep 15 k) = _
  rw [and_256 h5 (by decide), h4]
theorem bsN_8 (p : Int → Bool) : ∀ n : Nat, bsN p (8 + n) = bsN p 8 + 256 * bsN (fun x => p (x + 8)) n
  | 0 => by simp [bsN]
  | n + 1 => by
    rw [show 8 + (n + 1) = (8 + n) + 1 by omega]
    simp only [bsN]
    have ih := bsN_8 p n
    simp only [bsN] at ih
    rw [ih, show (((8 + n : Nat) : Int)) = (n : Int) + 8 by omega]
    by_cases c : p ((n : Int) + 8) = true
    · rw [if_pos c, if_pos c, show 2 ^ (8 + n) = 256 * 2 ^ n by rw [Nat.pow_add]]; omega
    · rw [if_neg c, if_neg c]; omega
theorem ctN_8 (p : Int → Bool) : ∀ n : Nat, ctN p (8 + n) = ctN p 8 + ctN (fun x => p (x + 8)) n
  | 0 => by simp [ctN]
  | n + 1 => by
    rw [show 8 + (n + 1) = (8 + n) + 1 by omega]
    simp only [ctN]
    have ih := ctN_8 p n
    simp only [ctN] at ih
    rw [ih, show (((8 + n : Nat) : Int)) = (n : Int) + 8 by omega]
    omega
theorem pc8_b : ∀ b0 b1 b2 b3 b4 b5 b6 b7 : Bool, pc8 (0 + (if b0 = true then 2 ^ 0 else 0) + (if b1 = true then 2 ^ 1 else 0) + (if b2 = true then 2 ^ 2 else 0) + (if b3 = true then 2 ^ 3 else 0) + (if b4 = true then 2 ^ 4 else 0) + (if b5 = true then 2 ^ 5 else 0) + (if b6 = true then 2 ^ 6 else 0) + (if b7 = true then 2 ^ 7 else 0)) = 0 + (if b0 = true then 1 else 0) + (if b1 = true then 1 else 0) + (if b2 = true then 1 else 0) + (if b3 = true then 1 else 0) + (if b4 = true then 1 else 0) + (if b5 = true then 1 else 0) + (if b6 = true then 1 else 0) + (if b7 = true then 1 else 0) := by decide +kernel
theorem pc8_ct (p : Int → Bool) : pc8 (bsN p 8) = ctN p 8 := by
  simp only [bsN, ctN]
  generalize p ((0 : Nat) : Int) = b0
  generalize p ((1 : Nat) : Int) = b1
  generalize p ((2 : Nat) : Int) = b2
  generalize p ((3 : Nat) : Int) = b3
  generalize p ((4 : Nat) : Int) = b4
  generalize p ((5 : Nat) : Int) = b5
  generalize p ((6 : Nat) : Int) = b6
  generalize p ((7 : Nat) : Int) = b7
  exact pc8_b b0 b1 b2 b3 b4 b5 b6 b7
theorem ct8_le (p : Int → Bool) : ∀ n : Nat, ctN p n ≤ n
  | 0 => Nat.le_refl _
  | n + 1 => by
    have := ct8_le p n
    simp only [ctN]
    by_cases c : p (n : Int) = true
    · rw [if_pos c]; omega
    · rw [if_neg c]; omega
theorem sw_0 (x : Nat) : sw3 0 (sw2 0 (sw1 0 x)) = 0 := by unfold sw3; show _ &&& 0 = 0; simp
theorem sw_n (p : Int → Bool) (k n : Nat) : sw3 (k + 1) (sw2 (k + 1) (sw1 (k + 1) (bsN p (8 + n)))) = ctN p 8 + 256 * sw3 k (sw2 k (sw1 k (bsN (fun x => p (x + 8)) n))) := by
  rw [bsN_8, sw_s (bsN_lt p 8), pc8_ct]
def fold (w : Nat) : Nat := (w + w / 256 + (w + w / 256) / 65536) + (w + w / 256 + (w + w / 256) / 65536) / 4294967296
theorem dvk {k : Nat} (hk : 0 < k) (a X : Nat) (h : a < k) : (a + k * X) / k = X := by
  rw [Nat.add_mul_div_left _ _ hk, Nat.div_eq_of_lt h, Nat.zero_add]
theorem fs1 {c0 c1 c2 X1 X2 X3 : Nat} (e1 : X1 = c1 + 256 * X2) (e2 : X2 = c2 + 256 * X3) : c0 + 256 * X1 + X1 = ((c0 + c1) + 256 * (c1 + c2)) + 65536 * (X2 + X3) := by omega
theorem fs2 {c2 c3 c4 X2 X3 X4 X5 : Nat} (e2 : X2 = c2 + 256 * X3) (e3 : X3 = c3 + 256 * X4) (e4 : X4 = c4 + 256 * X5) : X2 + X3 = (c2 + c3) + 256 * (c3 + c4) + 65536 * (X4 + X5) := by omega
theorem fs3 {a b c d Y Z : Nat} (h : Y = c + 256 * d + 65536 * Z) (ha : a ≤ 16) (hb : b ≤ 16) (hc : c ≤ 16) (hd : d ≤ 16) : a + 256 * b + 65536 * Y + Y = ((a + c) + 256 * (b + d) + 65536 * (c + 256 * d)) + 4294967296 * Z + 65536 * Z := by omega
theorem fs4 {a b c d e f Z V : Nat} (h : Z = e + 256 * f + 65536 * V) (ha : a ≤ 32) (hb : b ≤ 32) (hc : c ≤ 16) (hd : d ≤ 16) (he : e ≤ 16) (hf : f ≤ 16) : a + 256 * b + 65536 * (c + 256 * d) + 4294967296 * Z + 65536 * Z = (a + 256 * b + 65536 * ((c + e) + 256 * (d + f))) + 4294967296 * (Z + V) := by omega
theorem fs5 {a b c e f V : Nat} (Z : Nat) (h : Z = e + 256 * f + 65536 * V) (s t : Nat) (hV : V = s + 256 * t) (hs : a + e + s ≤ 64) : (a + 256 * b + 65536 * c + 4294967296 * (Z + V) + (Z + V)) % 128 = a + e + s := by omega
theorem fold_sum (c0 c1 c2 c3 c4 c5 c6 c7 : Nat) (g0 : c0 ≤ 8) (g1 : c1 ≤ 8) (g2 : c2 ≤ 8) (g3 : c3 ≤ 8) (g4 : c4 ≤ 8) (g5 : c5 ≤ 8) (g6 : c6 ≤ 8) (g7 : c7 ≤ 8) : fold (c0 + 256 * (c1 + 256 * (c2 + 256 * (c3 + 256 * (c4 + 256 * (c5 + 256 * (c6 + 256 * (c7 + 256 * 0)))))))) % 128 = c0 + c1 + c2 + c3 + c4 + c5 + c6 + c7 := by
  obtain ⟨X6, e6⟩ : ∃ X, X = c6 + 256 * (c7 + 256 * 0) := ⟨_, rfl⟩
  rw [← e6]
  obtain ⟨X5, e5⟩ : ∃ X, X = c5 + 256 * X6 := ⟨_, rfl⟩
  rw [← e5]
  obtain ⟨X4, e4⟩ : ∃ X, X = c4 + 256 * X5 := ⟨_, rfl⟩
  rw [← e4]
  obtain ⟨X3, e3⟩ : ∃ X, X = c3 + 256 * X4 := ⟨_, rfl⟩
  rw [← e3]
  obtain ⟨X2, e2⟩ : ∃ X, X = c2 + 256 * X3 := ⟨_, rfl⟩
  rw [← e2]
  obtain ⟨X1, e1⟩ : ∃ X, X = c1 + 256 * X2 := ⟨_, rfl⟩
  rw [← e1]
  have hY := fs2 e2 e3 e4
  have hZ : X4 + X5 = (c4 + c5) + 256 * (c5 + c6) + 65536 * (X6 + c7) := by clear e1 e2 e3 hY; omega
  have hV : X6 + c7 = (c6 + c7) + 256 * c7 := by clear e1 e2 e3 e4 e5 hY hZ; omega
  unfold fold
  rw [dvk (by decide) c0 X1 (by clear e1 e2 e3 e4 e5 e6 hY hZ hV; omega), fs1 (c0 := c0) e1 e2, dvk (by decide) _ (X2 + X3) (by clear e1 e2 e3 e4 e5 e6 hY hZ hV; omega), fs3 hY (by clear e1 e2 e3 e4 e5 e6 hY hZ hV; omega) (by clear e1 e2 e3 e4 e5 e6 hY hZ hV; omega) (by clear e1 e2 e3 e4 e5 e6 hY hZ hV; omega) (by clear e1 e2 e3 e4 e5 e6 hY hZ hV; omega),
    fs4 hZ (by clear e1 e2 e3 e4 e5 e6 hY hZ hV; omega) (by clear e1 e2 e3 e4 e5 e6 hY hZ hV; omega) (by clear e1 e2 e3 e4 e5 e6 hY hZ hV; omega) (by clear e1 e2 e3 e4 e5 e6 hY hZ hV; omega) (by clear e1 e2 e3 e4 e5 e6 hY hZ hV; omega) (by clear e1 e2 e3 e4 e5 e6 hY hZ hV; omega),
    dvk (by decide) _ (X4 + X5 + (X6 + c7)) (by clear e1 e2 e3 e4 e5 e6 hY hZ hV; omega)]
  have h9 := fs5 (a := c0 + c1 + (c2 + c3)) (b := c1 + c2 + (c3 + c4)) (c := c2 + c3 + (c4 + c5) + 256 * (c3 + c4 + (c5 + c6))) (X4 + X5) hZ (c6 + c7) c7 hV (by clear e1 e2 e3 e4 e5 e6 hY hZ hV; omega)
  rw [h9]
  clear e1 e2 e3 e4 e5 e6 hY hZ hV h9
  omega
theorem rp_lt (c0 c1 c2 c3 c4 c5 c6 c7 : Nat) (g0 : c0 ≤ 8) (g1 : c1 ≤ 8) (g2 : c2 ≤ 8) (g3 : c3 ≤ 8) (g4 : c4 ≤ 8) (g5 : c5 ≤ 8) (g6 : c6 ≤ 8) (g7 : c7 ≤ 8) : c0 + 256 * (c1 + 256 * (c2 + 256 * (c3 + 256 * (c4 + 256 * (c5 + 256 * (c6 + 256 * (c7 + 256 * 0))))))) < 2 ^ 60 := by omega
theorem sw_all (p : Int → Bool) : fold (sw3 8 (sw2 8 (sw1 8 (bsN p 64)))) % 128 = ctN p 64 ∧ sw3 8 (sw2 8 (sw1 8 (bsN p 64))) < 2 ^ 60 := by
  have e1 : ctN p 64 = ctN p 8 + ctN (fun x => p (x + 8)) 56 := ctN_8 p 56
  have e2 : ctN (fun x => p (x + 8)) 56 = ctN (fun x => p (x + 8)) 8 + ctN (fun x => p (x + 8 + 8)) 48 := ctN_8 _ 48
  have e3 : ctN (fun x => p (x + 8 + 8)) 48 = ctN (fun x => p (x + 8 + 8)) 8 + ctN (fun x => p (x + 8 + 8 + 8)) 40 := ctN_8 _ 40
  have e4 : ctN (fun x => p (x + 8 + 8 + 8)) 40 = ctN (fun x => p (x + 8 + 8 + 8)) 8 + ctN (fun x => p (x + 8 + 8 + 8 + 8)) 32 := ctN_8 _ 32
  have e5 : ctN (fun x => p (x + 8 + 8 + 8 + 8)) 32 = ctN (fun x => p (x + 8 + 8 + 8 + 8)) 8 + ctN (fun x => p (x + 8 + 8 + 8 + 8 + 8)) 24 := ctN_8 _ 24
  have e6 : ctN (fun x => p (x + 8 + 8 + 8 + 8 + 8)) 24 = ctN (fun x => p (x + 8 + 8 + 8 + 8 + 8)) 8 + ctN (fun x => p (x + 8 + 8 + 8 + 8 + 8 + 8)) 16 := ctN_8 _ 16
  have e7 : ctN (fun x => p (x + 8 + 8 + 8 + 8 + 8 + 8)) 16 = ctN (fun x => p (x + 8 + 8 + 8 + 8 + 8 + 8)) 8 + ctN (fun x => p (x + 8 + 8 + 8 + 8 + 8 + 8 + 8)) 8 := ctN_8 _ 8
  have f1 : sw3 8 (sw2 8 (sw1 8 (bsN p 64))) = ctN p 8 + 256 * sw3 7 (sw2 7 (sw1 7 (bsN (fun x => p (x + 8)) 56))) := sw_n p 7 56
  have f2 : sw3 7 (sw2 7 (sw1 7 (bsN (fun x => p (x + 8)) 56))) = ctN (fun x => p (x + 8)) 8 + 256 * sw3 6 (sw2 6 (sw1 6 (bsN (fun x => p (x + 8 + 8)) 48))) := sw_n _ 6 48
  have f3 : sw3 6 (sw2 6 (sw1 6 (bsN (fun x => p (x + 8 + 8)) 48))) = ctN (fun x => p (x + 8 + 8)) 8 + 256 * sw3 5 (sw2 5 (sw1 5 (bsN (fun x => p (x + 8 + 8 + 8)) 40))) := sw_n _ 5 40
  have f4 : sw3 5 (sw2 5 (sw1 5 (bsN (fun x => p (x + 8 + 8 + 8)) 40))) = ctN (fun x => p (x + 8 + 8 + 8)) 8 + 256 * sw3 4 (sw2 4 (sw1 4 (bsN (fun x => p (x + 8 + 8 + 8 + 8)) 32))) := sw_n _ 4 32
  have f5 : sw3 4 (sw2 4 (sw1 4 (bsN (fun x => p (x + 8 + 8 + 8 + 8)) 32))) = ctN (fun x => p (x + 8 + 8 + 8 + 8)) 8 + 256 * sw3 3 (sw2 3 (sw1 3 (bsN (fun x => p (x + 8 + 8 + 8 + 8 + 8)) 24))) := sw_n _ 3 24
  have f6 : sw3 3 (sw2 3 (sw1 3 (bsN (fun x => p (x + 8 + 8 + 8 + 8 + 8)) 24))) = ctN (fun x => p (x + 8 + 8 + 8 + 8 + 8)) 8 + 256 * sw3 2 (sw2 2 (sw1 2 (bsN (fun x => p (x + 8 + 8 + 8 + 8 + 8 + 8)) 16))) := sw_n _ 2 16
  have f7 : sw3 2 (sw2 2 (sw1 2 (bsN (fun x => p (x + 8 + 8 + 8 + 8 + 8 + 8)) 16))) = ctN (fun x => p (x + 8 + 8 + 8 + 8 + 8 + 8)) 8 + 256 * sw3 1 (sw2 1 (sw1 1 (bsN (fun x => p (x + 8 + 8 + 8 + 8 + 8 + 8 + 8)) 8))) := sw_n _ 1 8
  have f8 : sw3 1 (sw2 1 (sw1 1 (bsN (fun x => p (x + 8 + 8 + 8 + 8 + 8 + 8 + 8)) 8))) = ctN (fun x => p (x + 8 + 8 + 8 + 8 + 8 + 8 + 8)) 8 + 256 * 0 := (sw_n _ 0 0).trans (by rw [sw_0])
  rw [f8] at f7
  rw [f7] at f6
  rw [f6] at f5
  rw [f5] at f4
  rw [f4] at f3
  rw [f3] at f2
  rw [f2] at f1
  have h9 := fold_sum (ctN p 8) _ _ _ _ _ _ _ (ct8_le _ 8) (ct8_le (fun x => p (x + 8)) 8) (ct8_le (fun x => p (x + 8 + 8)) 8) (ct8_le (fun x => p (x + 8 + 8 + 8)) 8) (ct8_le (fun x => p (x + 8 + 8 + 8 + 8)) 8) (ct8_le (fun x => p (x + 8 + 8 + 8 + 8 + 8)) 8) (ct8_le (fun x => p (x + 8 + 8 + 8 + 8 + 8 + 8)) 8) (ct8_le (fun x => p (x + 8 + 8 + 8 + 8 + 8 + 8 + 8)) 8)
  have h8 := rp_lt (ctN p 8) _ _ _ _ _ _ _ (ct8_le _ 8) (ct8_le (fun x => p (x + 8)) 8) (ct8_le (fun x => p (x + 8 + 8)) 8) (ct8_le (fun x => p (x + 8 + 8 + 8)) 8) (ct8_le (fun x => p (x + 8 + 8 + 8 + 8)) 8) (ct8_le (fun x => p (x + 8 + 8 + 8 + 8 + 8)) 8) (ct8_le (fun x => p (x + 8 + 8 + 8 + 8 + 8 + 8)) 8) (ct8_le (fun x => p (x + 8 + 8 + 8 + 8 + 8 + 8 + 8)) 8)
  rw [← f1] at h9 h8
  exact ⟨by rw [h9, e1, e2, e3, e4, e5, e6, e7]; simp only [Nat.add_assoc], h8⟩
/-- the rows of the count -/
theorem lN_and {a b : Nat} (ha : a < 2 ^ 64) (hb : b < 2 ^ 64) : lN a &&& lN b = lN (a &&& b) := by
  apply Int64.toBitVec_inj.mp
  rw [Int64.toBitVec_and]
  show BitVec.ofNat 64 a &&& BitVec.ofNat 64 b = BitVec.ofNat 64 (a &&& b)
  apply BitVec.eq_of_toNat_eq
  rw [BitVec.toNat_and, BitVec.toNat_ofNat, BitVec.toNat_ofNat, BitVec.toNat_ofNat, Nat.mod_eq_of_lt ha, Nat.mod_eq_of_lt hb, Nat.mod_eq_of_lt (Nat.and_lt_two_pow _ hb)]
theorem lN_ushr {a k p : Nat} {y : UInt64} (hy : y = UInt64.ofNat k) (hk : k < 64) (hp : 2 ^ k = p) (ha : a < 2 ^ 64) : ((lN a).toUInt64 >>> y).toInt64 = lN (a / p) := by
  subst hy hp
  have h : UInt64.ofNat a >>> UInt64.ofNat k = UInt64.ofNat (a / 2 ^ k) := UInt64.toNat_inj.mp (by
    have t : ∀ n : Nat, n < 2 ^ 64 → (UInt64.ofNat n).toNat = n := fun n h => Nat.mod_eq_of_lt h
    rw [UInt64.toNat_shiftRight, t a ha, t k (by omega), t _ (Nat.lt_of_le_of_lt (Nat.div_le_self _ _) ha), Nat.mod_eq_of_lt hk, Nat.shiftRight_eq_div_pow])
  exact congrArg UInt64.toInt64 h
theorem zI_and127 (n : Nat) : zI (n : Int) &&& zI 127 = zI ((n % 128 : Nat) : Int) := by
  have h := pk_and (zI (n : Int)) (m := zI 127) 7 (by decide)
  rw [h]
  have h2 : (zI (n : Int)).toBitVec.toNat = n % 4294967296 := by
    show (BitVec.ofInt 32 (n : Int)).toNat = _
    rw [BitVec.toNat_ofInt]
    show ((n : Int) % 4294967296).toNat = _
    omega
  rw [h2]
  show Int32.ofNat _ = Int32.ofInt _
  rw [Int32.ofInt_eq_ofNat]
  congr 1
  omega
