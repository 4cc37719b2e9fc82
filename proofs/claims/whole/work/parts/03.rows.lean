/-! numbers: every int of the machine is written as an integer, zI z; every long as zL z -/
def zI (z : Int) : Int32 := Int32.ofInt z
def zL (z : Int) : Int64 := Int64.ofInt z
abbrev iR (z : Int) : Prop := -2147483648 ≤ z ∧ z < 2147483648
abbrev lR (z : Int) : Prop := -9223372036854775808 ≤ z ∧ z < 9223372036854775808
theorem zI_toInt {z : Int} (h : iR z) : (zI z).toInt = z := Int32.toInt_ofInt_of_le (by have := h.1; omega) (by have := h.2; omega)
theorem zL_toInt {z : Int} (h : lR z) : (zL z).toInt = z := Int64.toInt_ofInt_of_le (by have := h.1; omega) (by have := h.2; omega)
theorem zI_of (x : Int32) : zI x.toInt = x := Int32.ofInt_toInt x
theorem zL_of (x : Int64) : zL x.toInt = x := Int64.ofInt_toInt x
theorem zI_rng (x : Int32) : iR x.toInt := ⟨by have := x.le_toInt; omega, by have := x.toInt_lt; omega⟩
theorem zL_rng (x : Int64) : lR x.toInt := ⟨by have := x.le_toInt; omega, by have := x.toInt_lt; omega⟩
theorem zI_add (a b : Int) : zI (a + b) = zI a + zI b := Int32.ofInt_add a b
theorem zI_sub (a b : Int) : zI (a - b) = zI a - zI b := Int32.ofInt_sub a b
theorem zI_mul (a b : Int) : zI (a * b) = zI a * zI b := Int32.ofInt_mul a b
theorem zI_neg (a : Int) : zI (-a) = - zI a := Int32.ofInt_neg a
theorem zL_add (a b : Int) : zL (a + b) = zL a + zL b := Int64.ofInt_add a b
theorem zL_sub (a b : Int) : zL (a - b) = zL a - zL b := Int64.ofInt_sub a b
theorem zL_mul (a b : Int) : zL (a * b) = zL a * zL b := Int64.ofInt_mul a b
theorem zL_neg (a : Int) : zL (-a) = - zL a := Int64.ofInt_neg a
theorem zI_lt {a b : Int} (ha : iR a) (hb : iR b) : zI a < zI b ↔ a < b := by rw [Int32.lt_iff_toInt_lt, zI_toInt ha, zI_toInt hb]
theorem zI_le {a b : Int} (ha : iR a) (hb : iR b) : zI a ≤ zI b ↔ a ≤ b := by rw [Int32.le_iff_toInt_le, zI_toInt ha, zI_toInt hb]
theorem zI_eq {a b : Int} (ha : iR a) (hb : iR b) : zI a = zI b ↔ a = b := by rw [← Int32.toInt_inj, zI_toInt ha, zI_toInt hb]
theorem zL_lt {a b : Int} (ha : lR a) (hb : lR b) : zL a < zL b ↔ a < b := by rw [Int64.lt_iff_toInt_lt, zL_toInt ha, zL_toInt hb]
theorem zL_eq {a b : Int} (ha : lR a) (hb : lR b) : zL a = zL b ↔ a = b := by rw [← Int64.toInt_inj, zL_toInt ha, zL_toInt hb]
theorem zI_0 : zI 0 = 0 := rfl
theorem zI_i2l {a : Int} (ha : iR a) : (zI a).toInt64 = zL a := by
  apply Int64.toInt_inj.mp
  rw [Int32.toInt_toInt64, zI_toInt ha, zL_toInt ⟨by have := ha.1; omega, by have := ha.2; omega⟩]
theorem zL_l2i {a : Int} : (zL a).toInt32 = zI a := Int64.toInt32_ofInt
theorem zI_clamp {a : Int} (h0 : 0 ≤ a) (h1 : a < 2147483648) : (zI a).toNatClampNeg = a.toNat := by
  show (zI a).toInt.toNat = _
  rw [zI_toInt ⟨by omega, h1⟩]
theorem zI_in {a : Int} {n : Nat} (h0 : 0 ≤ a) (h1 : a < (n : Int)) (hn : (n : Int) < 2147483648) : vp_in (zI a) n := by
  rw [vp_in_iff, zI_toInt ⟨by omega, by omega⟩]
  exact ⟨h0, h1⟩
theorem zI_div {a b : Int} (ha : 0 ≤ a ∧ a < 2147483648) (hb : 0 < b ∧ b < 2147483648) : zI a / zI b = zI (a / b) := by
  apply Int32.toInt_inj.mp
  have h1 : a / b ≤ a := Int.ediv_le_self b ha.1
  have h2 : 0 ≤ a / b := Int.ediv_nonneg ha.1 (by omega)
  have hb' : (zI b).toInt = b := zI_toInt ⟨by omega, by omega⟩
  have hn : zI b ≠ -1 := by
    intro h
    rw [h] at hb'
    have h3 : (-1 : Int32).toInt = -1 := by decide
    rw [h3] at hb'
    omega
  rw [Int32.toInt_div_of_ne_right _ _ hn, hb', zI_toInt ⟨by omega, by omega⟩, zI_toInt ⟨by omega, by omega⟩, Int.tdiv_eq_ediv_of_nonneg ha.1]
theorem zI_rem {a b : Int} (ha : 0 ≤ a ∧ a < 2147483648) (hb : 0 < b ∧ b < 2147483648) : zI a % zI b = zI (a % b) := by
  apply Int32.toInt_inj.mp
  have h1 : a % b < b := Int.emod_lt_of_pos a (by omega)
  have h2 : 0 ≤ a % b := Int.emod_nonneg a (by omega)
  rw [Int32.toInt_mod, zI_toInt ⟨by omega, by omega⟩, zI_toInt ⟨by omega, by omega⟩, zI_toInt ⟨by omega, by omega⟩, Int.tmod_eq_emod_of_nonneg ha.1]
theorem zL_div {a b : Int} (ha : 0 ≤ a ∧ a < 9223372036854775808) (hb : 0 < b ∧ b < 9223372036854775808) : zL a / zL b = zL (a / b) := by
  apply Int64.toInt_inj.mp
  have h1 : a / b ≤ a := Int.ediv_le_self b ha.1
  have h2 : 0 ≤ a / b := Int.ediv_nonneg ha.1 (by omega)
  have hb' : (zL b).toInt = b := zL_toInt ⟨by omega, by omega⟩
  have hn : zL b ≠ -1 := by
    intro h
    rw [h] at hb'
    have h3 : (-1 : Int64).toInt = -1 := by decide
    rw [h3] at hb'
    omega
  rw [Int64.toInt_div_of_ne_right _ _ hn, hb', zL_toInt ⟨by omega, by omega⟩, zL_toInt ⟨by omega, by omega⟩, Int.tdiv_eq_ediv_of_nonneg ha.1]
theorem zL_rem {a b : Int} (ha : 0 ≤ a ∧ a < 9223372036854775808) (hb : 0 < b ∧ b < 9223372036854775808) : zL a % zL b = zL (a % b) := by
  apply Int64.toInt_inj.mp
  have h1 : a % b < b := Int.emod_lt_of_pos a (by omega)
  have h2 : 0 ≤ a % b := Int.emod_nonneg a (by omega)
  rw [Int64.toInt_mod, zL_toInt ⟨by omega, by omega⟩, zL_toInt ⟨by omega, by omega⟩, zL_toInt ⟨by omega, by omega⟩, Int.tmod_eq_emod_of_nonneg ha.1]

theorem zI_and31 : ∀ k : Nat, k < 32 → ((zI k &&& 31).toBitVec.smod 32).toNat = k := by decide
theorem zI_and63 : ∀ k : Nat, k < 64 → (((zI k).toInt64 &&& 63).toBitVec.smod 64).toNat = k := by decide
theorem bv_shl {w : Nat} (a : Int) (k : Nat) : BitVec.ofInt w a <<< k = BitVec.ofInt w (a * 2 ^ k) := by
  have h2 : BitVec.ofInt w (2 ^ k) = BitVec.twoPow w k := by
    rw [show (2 ^ k : Int) = ((2 ^ k : Nat) : Int) by simp, BitVec.ofInt_natCast]
    apply BitVec.eq_of_toNat_eq
    simp
  rw [BitVec.shiftLeft_eq_mul_twoPow, BitVec.ofInt_mul, h2]
theorem ediv_rng {a B x : Int} (hx : 1 ≤ x) (h1 : -B ≤ a) (h2 : a < B) (hB : 0 ≤ B) : -B ≤ a / x ∧ a / x < B := by
  have hm : B * 1 ≤ B * x := Int.mul_le_mul_of_nonneg_left hx hB
  have hn : -B * x = -(B * x) := Int.neg_mul B x
  exact ⟨Int.le_ediv_of_mul_le (by omega) (by omega), Int.ediv_lt_of_lt_mul (by omega) (by omega)⟩
theorem two_pow_pos (n : Nat) : (1 : Int) ≤ 2 ^ n := by
  have h : 0 < 2 ^ n := Nat.two_pow_pos n
  have e : (2 ^ n : Int) = ((2 ^ n : Nat) : Int) := by simp
  omega
theorem zI_shl {a k : Int} (h : 0 ≤ k ∧ k < 32) : zI a <<< (zI k &&& 31) = zI (a * 2 ^ k.toNat) := by
  apply Int32.toBitVec_inj.mp
  obtain ⟨n, rfl⟩ := Int.eq_ofNat_of_zero_le h.1
  show (zI a).toBitVec <<< ((zI n &&& 31).toBitVec.smod 32).toNat = _
  rw [zI_and31 n (by omega)]
  exact bv_shl a n
theorem zL_shl {a k : Int} (h : 0 ≤ k ∧ k < 64) : zL a <<< ((zI k).toInt64 &&& 63) = zL (a * 2 ^ k.toNat) := by
  apply Int64.toBitVec_inj.mp
  obtain ⟨n, rfl⟩ := Int.eq_ofNat_of_zero_le h.1
  show (zL a).toBitVec <<< (((zI n).toInt64 &&& 63).toBitVec.smod 64).toNat = _
  rw [zI_and63 n (by omega)]
  exact bv_shl a n
theorem zL_shr {a k : Int} (ha : lR a) (h : 0 ≤ k ∧ k < 64) : zL a >>> ((zI k).toInt64 &&& 63) = zL (a / 2 ^ k.toNat) := by
  apply Int64.toInt_inj.mp
  obtain ⟨n, rfl⟩ := Int.eq_ofNat_of_zero_le h.1
  have e : (zL a >>> ((zI n).toInt64 &&& 63)).toInt = (zL a).toInt >>> n := by
    show ((zL a).toBitVec.sshiftRight (((zI n).toInt64 &&& 63).toBitVec.smod 64).toNat).toInt = _
    rw [zI_and63 n (by omega), BitVec.toInt_sshiftRight]
    rfl
  rw [e, zL_toInt ha, Int.shiftRight_eq_div_pow]
  have hr := ediv_rng (two_pow_pos n) ha.1 ha.2 (by decide)
  rw [show ((2 ^ n : Nat) : Int) = 2 ^ n by simp]
  exact (zL_toInt hr).symm
