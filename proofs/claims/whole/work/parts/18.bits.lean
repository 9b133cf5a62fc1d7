/-! ===== the bits of a number, counted as Long.bitCount counts them ===== -/
def bc (x : Nat) : Nat → Nat
  | 0 => 0
  | n + 1 => bc x n + (x / 2 ^ n) % 2
/-- a byte's worth of the mask b, k times -/
def bm (b : Nat) : Nat → Nat
  | 0 => 0
  | k + 1 => 256 * bm b k + b
theorem b_dig {a b s u : Nat} (hs : s < 256) (hu : u < 256) : (256 * a + s) &&& (256 * b + u) = 256 * (a &&& b) + (s &&& u) := by
  have hsu : s &&& u < 2 ^ 8 := Nat.and_lt_two_pow s (by omega)
  apply Nat.eq_of_testBit_eq
  intro j
  rw [Nat.testBit_and]
  rw [show (256 : Nat) = 2 ^ 8 from rfl]
  rw [Nat.testBit_two_pow_mul_add a (by omega : s < 2 ^ 8), Nat.testBit_two_pow_mul_add b (by omega : u < 2 ^ 8), Nat.testBit_two_pow_mul_add (a &&& b) hsu]
  by_cases h : j < 8
  · simp only [if_pos h, Nat.testBit_and]
  · simp only [if_neg h, Nat.testBit_and]
def b_s1 (k x : Nat) : Nat := x - ((x / 2) &&& bm 0x55 k)
def b_t1 (b : Nat) : Nat := b - ((b / 2) &&& 0x55)
theorem b_d1 : ∀ t, t < 2 → ∀ e, e < 128 → (128 * t + e) &&& 0x55 = e &&& 0x55 := by decide +kernel
theorem b_le1 : ∀ b, b < 256 → (b / 2) &&& 0x55 ≤ b ∧ b_t1 b < 256 := by decide +kernel
theorem b_le (x m : Nat) : (x / 2) &&& m ≤ x := Nat.le_trans Nat.and_le_left (Nat.div_le_self x 2)
theorem b_step1 (k y b : Nat) (hb : b < 256) : b_s1 (k + 1) (256 * y + b) = 256 * b_s1 k y + b_t1 b := by
  have e : (256 * y + b) / 2 = 256 * (y / 2) + (128 * (y % 2) + b / 2) := by omega
  unfold b_s1 b_t1
  rw [e]
  show 256 * y + b - ((256 * (y / 2) + (128 * (y % 2) + b / 2)) &&& (256 * bm 0x55 k + 0x55)) = _
  rw [b_dig (by omega) (by decide), b_d1 (y % 2) (by omega) (b / 2) (by omega)]
  have h1 := b_le y (bm 0x55 k)
  have h2 := (b_le1 b hb).1
  omega
def b_s2 (k x : Nat) : Nat := (x &&& bm 0x33 k) + ((x / 4) &&& bm 0x33 k)
def b_t2 (c : Nat) : Nat := (c &&& 0x33) + ((c / 4) &&& 0x33)
theorem b_d2 : ∀ t, t < 4 → ∀ e, e < 64 → (64 * t + e) &&& 0x33 = e &&& 0x33 := by decide +kernel
theorem b_step2 (k y c : Nat) (hc : c < 256) : b_s2 (k + 1) (256 * y + c) = 256 * b_s2 k y + b_t2 c := by
  have e : (256 * y + c) / 4 = 256 * (y / 4) + (64 * (y % 4) + c / 4) := by omega
  unfold b_s2 b_t2
  rw [e]
  show ((256 * y + c) &&& (256 * bm 0x33 k + 0x33)) + ((256 * (y / 4) + (64 * (y % 4) + c / 4)) &&& (256 * bm 0x33 k + 0x33)) = _
  rw [b_dig hc (by decide), b_dig (by omega) (by decide), b_d2 (y % 4) (by omega) (c / 4) (by omega)]
  omega
def b_s3 (k x : Nat) : Nat := (x + x / 16) &&& bm 0x0f k
theorem b_d3 : ∀ t, t < 5 → ∀ b, b < 256 → b_t2 (b_t1 b) + b_t2 (b_t1 b) / 16 + 16 * t < 256 ∧ (b_t2 (b_t1 b) + b_t2 (b_t1 b) / 16 + 16 * t) &&& 0x0f = bc b 8 := by decide +kernel
theorem b_d4 : ∀ b, b < 256 → b_t2 (b_t1 b) % 16 < 5 ∧ b_t2 (b_t1 b) < 256 := by decide +kernel
theorem b_step3 (k Y b : Nat) (hb : b < 256) (hY : Y % 16 < 5) : b_s3 (k + 1) (256 * Y + b_t2 (b_t1 b)) = 256 * b_s3 k Y + bc b 8 := by
  obtain ⟨h1, h2⟩ := b_d3 (Y % 16) hY b hb
  generalize b_t2 (b_t1 b) = c at h1 h2 ⊢
  have e : 256 * Y + c + (256 * Y + c) / 16 = 256 * (Y + Y / 16) + (c + c / 16 + 16 * (Y % 16)) := by omega
  unfold b_s3
  rw [e]
  show (256 * (Y + Y / 16) + (c + c / 16 + 16 * (Y % 16))) &&& (256 * bm 0x0f k + 0x0f) = _
  rw [b_dig h1 (by decide), h2]
/-- all three stages, byte by byte -/
def b_all (k x : Nat) : Nat := b_s3 k (b_s2 k (b_s1 k x))
theorem b_low (k x : Nat) : b_s2 k (b_s1 k x) % 16 < 5 := by
  cases k with
  | zero =>
    have h : b_s2 0 (b_s1 0 x) = 0 := by simp [b_s2, bm]
    rw [h]; decide
  | succ k =>
    have e : x = 256 * (x / 256) + x % 256 := by omega
    rw [e, b_step1 k _ _ (by omega), b_step2 k _ _ ((b_le1 _ (by omega)).2)]
    have := (b_d4 (x % 256) (by omega)).1
    omega
theorem b_all_step (k x : Nat) : b_all (k + 1) x = 256 * b_all k (x / 256) + bc (x % 256) 8 := by
  have e : x = 256 * (x / 256) + x % 256 := by omega
  unfold b_all
  conv => lhs; rw [e]
  rw [b_step1 k _ _ (by omega), b_step2 k _ _ ((b_le1 _ (by omega)).2), b_step3 k _ _ (by omega) (b_low k _)]
theorem b_all_0 (x : Nat) : b_all 0 x = 0 := by simp [b_all, b_s3, bm]
theorem bc_lo : ∀ j, j < 8 → ∀ x : Nat, (x / 2 ^ j) % 2 = (x % 256 / 2 ^ j) % 2 := by
  intro j hj x
  rcases (show j = 0 ∨ j = 1 ∨ j = 2 ∨ j = 3 ∨ j = 4 ∨ j = 5 ∨ j = 6 ∨ j = 7 by omega) with h | h | h | h | h | h | h | h <;> subst h <;> simp only [Nat.reducePow] <;> omega
theorem bc_split8 (x : Nat) : bc x 8 = bc (x % 256) 8 := by
  simp only [bc]
  rw [bc_lo 0 (by decide) x, bc_lo 1 (by decide) x, bc_lo 2 (by decide) x, bc_lo 3 (by decide) x, bc_lo 4 (by decide) x, bc_lo 5 (by decide) x, bc_lo 6 (by decide) x, bc_lo 7 (by decide) x]
theorem bc_split (x n : Nat) : bc x (n + 8) = bc (x % 256) 8 + bc (x / 256) n := by
  induction n with
  | zero => rw [Nat.zero_add, bc_split8]; rfl
  | succ n ih =>
    have e : x / 2 ^ (n + 8) = x / 256 / 2 ^ n := by
      rw [Nat.div_div_eq_div_mul, Nat.pow_add, Nat.mul_comm]
    show bc x (n + 8) + (x / 2 ^ (n + 8)) % 2 = _ + (bc (x / 256) n + (x / 256 / 2 ^ n) % 2)
    rw [ih, e]
    omega
theorem bc_le (x n : Nat) : bc x n ≤ n := by
  induction n with
  | zero => exact Nat.le_refl 0
  | succ n ih =>
    show bc x n + (x / 2 ^ n) % 2 ≤ n + 1
    have := Nat.mod_lt (x / 2 ^ n) (by decide : 0 < 2)
    omega
theorem b_dm (m q r : Nat) (hm : 0 < m) (hr : r < m) : (m * q + r) / m = q := by
  rw [Nat.mul_add_div hm, Nat.div_eq_of_lt hr, Nat.add_zero]
theorem b_e2 (q1 q3 p0 p1 p2 A : Nat) (h1 : q1 = 256 * (256 * q3 + p2) + p1) (hA : A = 257 * q3 + p2) : 256 * q1 + p0 + q1 = 65536 * A + (256 * (p1 + p2) + (p0 + p1)) := by omega
theorem b_eA (q3 q4 q5 p2 p3 p4 A : Nat) (h3 : q3 = 256 * q4 + p3) (h4 : q4 = 256 * q5 + p4) (hA : A = 257 * q3 + p2) : A = 65536 * (q4 + q5) + (256 * (p3 + p4) + (p2 + p3)) := by omega
theorem b_eC (q4 q5 q6 p4 p5 p6 p7 : Nat) (h4 : q4 = 256 * q5 + p4) (h5 : q5 = 256 * q6 + p5) (h6 : q6 = 256 * p7 + p6) : q4 + q5 = 65536 * (q6 + p7) + (256 * (p5 + p6) + (p4 + p5)) := by omega
theorem b_e3 (S C E A p0 p1 p2 p3 p4 p5 p6 : Nat) (e2 : S = 65536 * A + (256 * (p1 + p2) + (p0 + p1))) (eA : A = 65536 * C + (256 * (p3 + p4) + (p2 + p3))) (eC : C = 65536 * E + (256 * (p5 + p6) + (p4 + p5))) : S + A = 4294967296 * (C + E) + (65536 * (256 * (p3 + p4 + p5 + p6) + (p2 + p3 + p4 + p5)) + (256 * (p1 + p2 + p3 + p4) + (p0 + p1 + p2 + p3))) := by omega
theorem b_r3 (p0 p1 p2 p3 p4 p5 p6 : Nat) (l0 : p0 ≤ 8) (l1 : p1 ≤ 8) (l2 : p2 ≤ 8) (l3 : p3 ≤ 8) (l4 : p4 ≤ 8) (l5 : p5 ≤ 8) (l6 : p6 ≤ 8) : 65536 * (256 * (p3 + p4 + p5 + p6) + (p2 + p3 + p4 + p5)) + (256 * (p1 + p2 + p3 + p4) + (p0 + p1 + p2 + p3)) < 4294967296 := by omega
theorem b_eB (q4 q5 q6 p4 p5 p6 p7 : Nat) (h4 : q4 = 256 * q5 + p4) (h5 : q5 = 256 * q6 + p5) (h6 : q6 = 256 * p7 + p6) : q4 + q5 + (q6 + p7) = 256 * (q5 + q6 + p7) + (p4 + p5 + p6 + p7) := by omega
theorem b_e4 (B Z X p0 p1 p2 p3 p4 p5 p6 p7 : Nat) (eB : B = 256 * Z + (p4 + p5 + p6 + p7)) : 4294967296 * B + (65536 * X + (256 * (p1 + p2 + p3 + p4) + (p0 + p1 + p2 + p3))) + B = 128 * (33554432 * B + 512 * X + 2 * (p1 + p2 + p3 + p4) + 2 * Z) + (p0 + (p1 + (p2 + (p3 + (p4 + (p5 + (p6 + p7))))))) := by omega
def b_fold (s3 : Nat) : Nat := let s4 := s3 + s3 / 256; let s5 := s4 + s4 / 65536; (s5 + s5 / 4294967296) % 128
theorem b_sum (p0 p1 p2 p3 p4 p5 p6 p7 : Nat) (l0 : p0 ≤ 8) (l1 : p1 ≤ 8) (l2 : p2 ≤ 8) (l3 : p3 ≤ 8) (l4 : p4 ≤ 8) (l5 : p5 ≤ 8) (l6 : p6 ≤ 8) (l7 : p7 ≤ 8) :
    b_fold (256 * (256 * (256 * (256 * (256 * (256 * (256 * (256 * 0 + p7) + p6) + p5) + p4) + p3) + p2) + p1) + p0) = p0 + (p1 + (p2 + (p3 + (p4 + (p5 + (p6 + p7)))))) := by
  rw [Nat.mul_zero, Nat.zero_add]
  generalize h6 : 256 * p7 + p6 = q6
  generalize h5 : 256 * q6 + p5 = q5
  generalize h4 : 256 * q5 + p4 = q4
  generalize h3 : 256 * q4 + p3 = q3
  generalize h1 : 256 * (256 * q3 + p2) + p1 = q1
  have d1 : (256 * q1 + p0) / 256 = q1 := b_dm 256 q1 p0 (by decide) (Nat.lt_of_le_of_lt l0 (by decide))
  generalize hA : 257 * q3 + p2 = A
  have e2 := b_e2 q1 q3 p0 p1 p2 A h1.symm hA.symm
  have d2 : (256 * q1 + p0 + q1) / 65536 = A := by
    rw [e2]
    refine b_dm 65536 A _ (by decide) ?_
    clear e2 d1 hA h1 h3 h4 h5 h6
    omega
  have eA := b_eA q3 q4 q5 p2 p3 p4 A h3.symm h4.symm hA.symm
  have eC := b_eC q4 q5 q6 p4 p5 p6 p7 h4.symm h5.symm h6.symm
  have e3 := b_e3 (256 * q1 + p0 + q1) (q4 + q5) (q6 + p7) A p0 p1 p2 p3 p4 p5 p6 e2 eA eC
  have d3 : (256 * q1 + p0 + q1 + A) / 4294967296 = q4 + q5 + (q6 + p7) := by
    rw [e3]
    exact b_dm 4294967296 _ _ (by decide) (b_r3 p0 p1 p2 p3 p4 p5 p6 l0 l1 l2 l3 l4 l5 l6)
  simp only [b_fold]
  rw [d1, d2, d3, e3, b_e4 _ _ _ p0 p1 p2 p3 p4 p5 p6 p7 (b_eB q4 q5 q6 p4 p5 p6 p7 h4.symm h5.symm h6.symm), Nat.mul_add_mod]
  refine Nat.mod_eq_of_lt ?_
  clear d1 d2 d3 e3 e2 eA eC hA h1 h3 h4 h5 h6
  omega
theorem b_count (x : Nat) : b_fold (b_all 8 x) = bc x 64 := by
  rw [bc_split x 56, bc_split _ 48, bc_split _ 40, bc_split _ 32, bc_split _ 24, bc_split _ 16, bc_split _ 8, bc_split8 (x / 256 / 256 / 256 / 256 / 256 / 256 / 256)]
  rw [b_all_step, b_all_step, b_all_step, b_all_step, b_all_step, b_all_step, b_all_step, b_all_step, b_all_0]
  exact b_sum _ _ _ _ _ _ _ _ (bc_le _ 8) (bc_le _ 8) (bc_le _ 8) (bc_le _ 8) (bc_le _ 8) (bc_le _ 8) (bc_le _ 8) (bc_le _ 8)
def f_b1 (x : Int64) : Int64 := x - ((x.toUInt64 >>> ((1 : Int32).toInt64.toUInt64 &&& Int64.toUInt64 63)).toInt64 &&& 6148914691236517205)
def f_b2 (x : Int64) : Int64 := (x &&& 3689348814741910323) + ((x.toUInt64 >>> ((2 : Int32).toInt64.toUInt64 &&& Int64.toUInt64 63)).toInt64 &&& 3689348814741910323)
def f_b3 (x : Int64) : Int64 := (x + (x.toUInt64 >>> ((4 : Int32).toInt64.toUInt64 &&& Int64.toUInt64 63)).toInt64) &&& 1085102592571150095
def f_b4 (n : Int32) (x : Int64) : Int64 := x + (x.toUInt64 >>> (n.toInt64.toUInt64 &&& Int64.toUInt64 63)).toInt64
def f_pop (x : Int64) : Int32 := (f_b4 32 (f_b4 16 (f_b4 8 (f_b3 (f_b2 (f_b1 x)))))).toInt32 &&& 127
def f_nat (x : Int64) : Nat := x.toBitVec.toNat
theorem f_nlt (x : Int64) : f_nat x < 2 ^ 64 := x.toBitVec.isLt
theorem f_n_and (x y : Int64) : f_nat (x &&& y) = f_nat x &&& f_nat y := by unfold f_nat; rw [Int64.toBitVec_and, BitVec.toNat_and]
theorem f_n_add (x y : Int64) (h : f_nat x + f_nat y < 2 ^ 64) : f_nat (x + y) = f_nat x + f_nat y := by
  unfold f_nat at h ⊢
  rw [Int64.toBitVec_add, BitVec.toNat_add, Nat.mod_eq_of_lt h]
theorem f_n_sub (x y : Int64) (h : f_nat y ≤ f_nat x) : f_nat (x - y) = f_nat x - f_nat y := by
  unfold f_nat at h ⊢
  rw [Int64.toBitVec_sub, BitVec.toNat_sub_of_le (BitVec.le_def.mpr h)]
theorem f_n_shr (n : Nat) (hn : n < 64) (k : Int32) (hk : (k.toInt64.toUInt64 &&& Int64.toUInt64 63).toNat = n) (x : Int64) : f_nat ((x.toUInt64 >>> (k.toInt64.toUInt64 &&& Int64.toUInt64 63)).toInt64) = f_nat x / 2 ^ n := by
  show (x.toUInt64 >>> (k.toInt64.toUInt64 &&& Int64.toUInt64 63)).toNat = x.toUInt64.toNat / 2 ^ n
  rw [UInt64.toNat_shiftRight, hk, Nat.mod_eq_of_lt hn, Nat.shiftRight_eq_div_pow]
theorem f_pop_eq (x : Int64) : f_pop x = nI (bc (f_nat x) 64) := by
  have e5 : f_nat 6148914691236517205 = bm 0x55 8 := by decide +kernel
  have e3 : f_nat 3689348814741910323 = bm 0x33 8 := by decide +kernel
  have ef : f_nat 1085102592571150095 = bm 0x0f 8 := by decide +kernel
  have b1 : f_nat (f_b1 x) = b_s1 8 (f_nat x) := by
    unfold f_b1 b_s1
    have h1 : f_nat ((x.toUInt64 >>> ((1 : Int32).toInt64.toUInt64 &&& Int64.toUInt64 63)).toInt64 &&& 6148914691236517205) = (f_nat x / 2) &&& bm 0x55 8 := by
      rw [f_n_and, e5, f_n_shr 1 (by decide) 1 (by decide)]
    rw [f_n_sub _ _ (by rw [h1]; exact b_le _ _), h1]
  have l3 : ∀ y : Nat, y &&& bm 0x33 8 ≤ 0x3333333333333333 := fun y => Nat.and_le_right
  have b2 : f_nat (f_b2 (f_b1 x)) = b_s2 8 (b_s1 8 (f_nat x)) := by
    unfold f_b2 b_s2
    have h1 : f_nat (f_b1 x &&& 3689348814741910323) = b_s1 8 (f_nat x) &&& bm 0x33 8 := by rw [f_n_and, e3, b1]
    have h2 : f_nat (((f_b1 x).toUInt64 >>> ((2 : Int32).toInt64.toUInt64 &&& Int64.toUInt64 63)).toInt64 &&& 3689348814741910323) = (b_s1 8 (f_nat x) / 4) &&& bm 0x33 8 := by rw [f_n_and, e3, f_n_shr 2 (by decide) 2 (by decide), b1]
    have h3 := l3 (b_s1 8 (f_nat x))
    have h4 := l3 (b_s1 8 (f_nat x) / 4)
    rw [f_n_add _ _ (by rw [h1, h2]; omega), h1, h2]
  have b3 : f_nat (f_b3 (f_b2 (f_b1 x))) = b_all 8 (f_nat x) := by
    unfold f_b3 b_all b_s3
    have h1 : f_nat (((f_b2 (f_b1 x)).toUInt64 >>> ((4 : Int32).toInt64.toUInt64 &&& Int64.toUInt64 63)).toInt64) = b_s2 8 (b_s1 8 (f_nat x)) / 16 := by rw [f_n_shr 4 (by decide) 4 (by decide), b2]
    have h2 : b_s2 8 (b_s1 8 (f_nat x)) ≤ 0x6666666666666666 := by
      have h3 := l3 (b_s1 8 (f_nat x))
      have h4 := l3 (b_s1 8 (f_nat x) / 4)
      unfold b_s2
      omega
    rw [f_n_and, ef, f_n_add _ _ (by rw [h1, b2]; omega), h1, b2]
  have lf : b_all 8 (f_nat x) ≤ 0x0f0f0f0f0f0f0f0f := by
    unfold b_all b_s3
    exact Nat.and_le_right
  have hb := b_count (f_nat x)
  generalize b_all 8 (f_nat x) = a3 at b3 lf hb
  have b4 : f_nat (f_b4 8 (f_b3 (f_b2 (f_b1 x)))) = a3 + a3 / 256 := by
    unfold f_b4
    have h1 : f_nat (((f_b3 (f_b2 (f_b1 x))).toUInt64 >>> ((8 : Int32).toInt64.toUInt64 &&& Int64.toUInt64 63)).toInt64) = a3 / 256 := by rw [f_n_shr 8 (by decide) 8 (by decide), b3]
    rw [f_n_add _ _ (by rw [h1, b3]; omega), h1, b3]
  have b5 : f_nat (f_b4 16 (f_b4 8 (f_b3 (f_b2 (f_b1 x))))) = a3 + a3 / 256 + (a3 + a3 / 256) / 65536 := by
    rw [show f_b4 16 (f_b4 8 (f_b3 (f_b2 (f_b1 x)))) = f_b4 8 (f_b3 (f_b2 (f_b1 x))) + ((f_b4 8 (f_b3 (f_b2 (f_b1 x)))).toUInt64 >>> ((16 : Int32).toInt64.toUInt64 &&& Int64.toUInt64 63)).toInt64 from rfl]
    have h1 : f_nat (((f_b4 8 (f_b3 (f_b2 (f_b1 x)))).toUInt64 >>> ((16 : Int32).toInt64.toUInt64 &&& Int64.toUInt64 63)).toInt64) = (a3 + a3 / 256) / 65536 := by rw [f_n_shr 16 (by decide) 16 (by decide), b4]
    rw [f_n_add _ _ (by rw [h1, b4]; omega), h1, b4]
  have b6 : f_nat (f_b4 32 (f_b4 16 (f_b4 8 (f_b3 (f_b2 (f_b1 x)))))) = a3 + a3 / 256 + (a3 + a3 / 256) / 65536 + (a3 + a3 / 256 + (a3 + a3 / 256) / 65536) / 4294967296 := by
    rw [show f_b4 32 (f_b4 16 (f_b4 8 (f_b3 (f_b2 (f_b1 x))))) = f_b4 16 (f_b4 8 (f_b3 (f_b2 (f_b1 x)))) + ((f_b4 16 (f_b4 8 (f_b3 (f_b2 (f_b1 x))))).toUInt64 >>> ((32 : Int32).toInt64.toUInt64 &&& Int64.toUInt64 63)).toInt64 from rfl]
    have h1 : f_nat (((f_b4 16 (f_b4 8 (f_b3 (f_b2 (f_b1 x))))).toUInt64 >>> ((32 : Int32).toInt64.toUInt64 &&& Int64.toUInt64 63)).toInt64) = (a3 + a3 / 256 + (a3 + a3 / 256) / 65536) / 4294967296 := by rw [f_n_shr 32 (by decide) 32 (by decide), b5]
    rw [f_n_add _ _ (by rw [h1, b5]; omega), h1, b5]
  unfold f_pop
  generalize f_b4 32 (f_b4 16 (f_b4 8 (f_b3 (f_b2 (f_b1 x))))) = y at b6 ⊢
  have hy : y.toInt32 &&& 127 = nI (f_nat y % 128) := by
    apply Int32.toBitVec_inj.1
    apply BitVec.eq_of_toNat_eq
    rw [Int32.toBitVec_and, BitVec.toNat_and, Int64.toBitVec_toInt32, BitVec.signExtend_eq_setWidth_of_le _ (by decide), BitVec.toNat_setWidth]
    show (y.toBitVec.toNat % 2 ^ 32) &&& (2 ^ 7 - 1) = (BitVec.ofNat 32 (y.toBitVec.toNat % 128)).toNat
    rw [Nat.and_two_pow_sub_one_eq_mod, BitVec.toNat_ofNat]
    omega
  rw [hy, b6, ← hb]
  rfl
abbrev rm_LG_bitCount : Room := { frames := 0, cells := 0, slots := 0, locals := 0 }
set_option maxHeartbeats 4000000 in
set_option maxRecDepth 100000 in
theorem k_LG_bitCount (l : Launch) (dC : Nat → ClassId) (dI : Nat → Nat → Nat) (cI cJ cG cZ : ClassId) (x : Int64) : k_M l yLG_bitCount wsLG_bitCount rm_LG_bitCount (dC, dI) vwCl [(cI, .int), (cJ, .long), (cG, .array .long), (cZ, .boolean)] [.long x] [] (some (.int (nI (bc (f_nat x) 64)))) [] := by
  refine k_of (cc := cLG_bitCount) (maxL := 2) (ret := (some .int)) (by decide) rfl (Nat.le_of_ble_eq_true rfl) ?_
  intro p e s m below meth c A ls hx hb hr hlocks hml hown hts hA hP hD hK hF hl hS
  have hown : s.vm.findClass RLG = some m.cls := hown
  have hl : lv_has ls 2 [(0, .long x)] := hl
  refine lv_lload_n hx hb dLG_bitCount_0 rfl (lv_at hl 0 rfl) ?_
  refine lv_lload_n hx hb dLG_bitCount_1 rfl (lv_at hl 0 rfl) ?_
  refine lv_iconst (v := 1) hx hb dLG_bitCount_2 (by decide) ?_
  refine lv_lushr hx hb dLG_bitCount_3 rfl ?_
  refine lv_ldc2 (v := 6148914691236517205) hx hb hown (hts _ m_k_LG_314) dLG_bitCount_4 ?_
  refine lv_land hx hb dLG_bitCount_7 ?_
  refine lv_lsub hx hb dLG_bitCount_8 ?_
  refine k_topl (y := f_b1 x) rfl ?_
  refine lv_lstore_n (lv' := [(0, .long (f_b1 x))]) hx hb dLG_bitCount_9 rfl hl (by decide) rfl (fun ls hl => ?_)
  refine lv_lload_n hx hb dLG_bitCount_10 rfl (lv_at hl 0 rfl) ?_
  refine lv_ldc2 (v := 3689348814741910323) hx hb hown (hts _ m_k_LG_316) dLG_bitCount_11 ?_
  refine lv_land hx hb dLG_bitCount_14 ?_
  refine lv_lload_n hx hb dLG_bitCount_15 rfl (lv_at hl 0 rfl) ?_
  refine lv_iconst (v := 2) hx hb dLG_bitCount_16 (by decide) ?_
  refine lv_lushr hx hb dLG_bitCount_17 rfl ?_
  refine lv_ldc2 (v := 3689348814741910323) hx hb hown (hts _ m_k_LG_316) dLG_bitCount_18 ?_
  refine lv_land hx hb dLG_bitCount_21 ?_
  refine lv_ladd hx hb dLG_bitCount_22 ?_
  refine k_topl (y := f_b2 (f_b1 x)) rfl ?_
  refine lv_lstore_n (lv' := [(0, .long (f_b2 (f_b1 x)))]) hx hb dLG_bitCount_23 rfl hl (by decide) rfl (fun ls hl => ?_)
  refine lv_lload_n hx hb dLG_bitCount_24 rfl (lv_at hl 0 rfl) ?_
  refine lv_lload_n hx hb dLG_bitCount_25 rfl (lv_at hl 0 rfl) ?_
  refine lv_iconst (v := 4) hx hb dLG_bitCount_26 (by decide) ?_
  refine lv_lushr hx hb dLG_bitCount_27 rfl ?_
  refine lv_ladd hx hb dLG_bitCount_28 ?_
  refine lv_ldc2 (v := 1085102592571150095) hx hb hown (hts _ m_k_LG_318) dLG_bitCount_29 ?_
  refine lv_land hx hb dLG_bitCount_32 ?_
  refine k_topl (y := f_b3 (f_b2 (f_b1 x))) rfl ?_
  refine lv_lstore_n (lv' := [(0, .long (f_b3 (f_b2 (f_b1 x))))]) hx hb dLG_bitCount_33 rfl hl (by decide) rfl (fun ls hl => ?_)
  refine lv_lload_n hx hb dLG_bitCount_34 rfl (lv_at hl 0 rfl) ?_
  refine lv_lload_n hx hb dLG_bitCount_35 rfl (lv_at hl 0 rfl) ?_
  refine lv_bipush (v := 8) hx hb dLG_bitCount_36 (by decide) ?_
  refine lv_lushr hx hb dLG_bitCount_38 rfl ?_
  refine lv_ladd hx hb dLG_bitCount_39 ?_
  refine k_topl (y := f_b4 8 (f_b3 (f_b2 (f_b1 x)))) rfl ?_
  refine lv_lstore_n (lv' := [(0, .long (f_b4 8 (f_b3 (f_b2 (f_b1 x)))))]) hx hb dLG_bitCount_40 rfl hl (by decide) rfl (fun ls hl => ?_)
  refine lv_lload_n hx hb dLG_bitCount_41 rfl (lv_at hl 0 rfl) ?_
  refine lv_lload_n hx hb dLG_bitCount_42 rfl (lv_at hl 0 rfl) ?_
  refine lv_bipush (v := 16) hx hb dLG_bitCount_43 (by decide) ?_
  refine lv_lushr hx hb dLG_bitCount_45 rfl ?_
  refine lv_ladd hx hb dLG_bitCount_46 ?_
  refine k_topl (y := f_b4 16 (f_b4 8 (f_b3 (f_b2 (f_b1 x))))) rfl ?_
  refine lv_lstore_n (lv' := [(0, .long (f_b4 16 (f_b4 8 (f_b3 (f_b2 (f_b1 x))))))]) hx hb dLG_bitCount_47 rfl hl (by decide) rfl (fun ls hl => ?_)
  refine lv_lload_n hx hb dLG_bitCount_48 rfl (lv_at hl 0 rfl) ?_
  refine lv_lload_n hx hb dLG_bitCount_49 rfl (lv_at hl 0 rfl) ?_
  refine lv_bipush (v := 32) hx hb dLG_bitCount_50 (by decide) ?_
  refine lv_lushr hx hb dLG_bitCount_52 rfl ?_
  refine lv_ladd hx hb dLG_bitCount_53 ?_
  refine k_topl (y := f_b4 32 (f_b4 16 (f_b4 8 (f_b3 (f_b2 (f_b1 x)))))) rfl ?_
  refine lv_lstore_n (lv' := [(0, .long (f_b4 32 (f_b4 16 (f_b4 8 (f_b3 (f_b2 (f_b1 x)))))))]) hx hb dLG_bitCount_54 rfl hl (by decide) rfl (fun ls hl => ?_)
  refine lv_lload_n hx hb dLG_bitCount_55 rfl (lv_at hl 0 rfl) ?_
  refine lv_l2i hx hb dLG_bitCount_56 rfl ?_
  refine lv_bipush (v := 127) hx hb dLG_bitCount_57 (by decide) ?_
  refine lv_iand hx hb dLG_bitCount_59 ?_
  exact k_iret hx hb hr hlocks hP hK hD hS (f_pop_eq x) dLG_bitCount_60 ⟨Nat.le_of_ble_eq_true rfl, Nat.le_of_ble_eq_true rfl⟩

abbrev rm_NU_countKnown : Room := { frames := 1, cells := 0, slots := 0, locals := 21 }
set_option maxHeartbeats 4000000 in
set_option maxRecDepth 100000 in
theorem k_NU_countKnown (l : Launch) (dC : Nat → ClassId) (dI : Nat → Nat → Nat) (cI cJ cG cZ : ClassId) (h0 : Nat) (h1 : Nat) (h2 : Nat) (md : Nat → Int32) (kn : Nat → Int64) (k : Nat) (hk : k < 8) : k_M l yNU_countKnown wsNU_countKnown rm_NU_countKnown (dC, dI) vwCl [(cI, .int), (cJ, .long), (cG, .array .long), (cZ, .boolean)] [.ref h0, .int (nI k)] [(h0, .inr (3, [.ref h1, .ref h2])), (h1, .inl (cI, 8, .inl md)), (h2, .inl (cJ, 8, .inr (.inl kn)))] (some (.int (nI (bc (f_nat (kn k)) 64)))) [(h0, .inr (3, [.ref h1, .ref h2])), (h1, .inl (cI, 8, .inl md)), (h2, .inl (cJ, 8, .inr (.inl kn)))] := by
  refine k_of (cc := cNU_countKnown) (maxL := 2) (ret := (some .int)) (by decide) rfl (Nat.le_of_ble_eq_true rfl) ?_
  intro p e s m below meth c A ls hx hb hr hlocks hml hown hts hA hP hD hK hF hl hS
  have hown : s.vm.findClass RNU = some m.cls := hown
  have hl : lv_has ls 2 [(0, .ref h0), (1, .int (nI k))] := hl
  refine lv_aload_n hx hb dNU_countKnown_0 rfl (lv_at hl 0 rfl) ?_
  refine va_get (D := (dC, dI)) (ci := 3) (v := .ref h2) (C := RNU) (T := TNU) (N := 2) hx hb hts inNU hown hK hP 0 rfl rfl 1 (by decide) (hts _ m_f_NU_15) (fun _ h9 => h9) rfl dNU_countKnown_1 ?_
  refine lv_iload_n hx hb dNU_countKnown_4 rfl (lv_at hl 1 rfl) ?_
  refine k_lld (v := kn k) hx hb hK hP 2 1 rfl rfl (j := k) rfl hk (by decide) rfl dNU_countKnown_5 ?_
  refine k_S (wr := [(h0, .inr (3, [.ref h1, .ref h2])), (h1, .inl (cI, 8, .inl md)), (h2, .inl (cJ, 8, .inr (.inl kn)))]) (W1 := [(h0, .inr (3, [.ref h1, .ref h2])), (h1, .inl (cI, 8, .inl md)), (h2, .inl (cJ, 8, .inr (.inl kn)))]) (st1 := [.int (nI (bc (f_nat (kn k)) 64))]) ⟨hx, hb, hml, hown, hts⟩ (k_LG_bitCount l dC dI cI cJ cG cZ (kn k)) (va_cwS 1 hts (k_gS m_l_NU_29 m_st_LG_bitCount m_in_LG m_c_LG_bitCount) rfl rfl rfl (by decide +kernel) ⟨Nat.le_of_ble_eq_true rfl, Nat.le_of_ble_eq_true rfl⟩) hK hF hP hD hS hA [] [0, 1, 2] [0, 1, 2] rfl rfl (by decide) (by decide) (by decide) rfl (by decide) rfl hl.1 rfl (Nat.le_of_ble_eq_true rfl) dNU_countKnown_6 ⟨Nat.le_of_ble_eq_true rfl, Nat.le_of_ble_eq_true rfl⟩ rfl (fun H locs hP hD hS => ?_)
  exact k_iret hx hb hr hlocks hP hK hD hS rfl dNU_countKnown_9 ⟨Nat.le_of_ble_eq_true rfl, Nat.le_of_ble_eq_true rfl⟩
