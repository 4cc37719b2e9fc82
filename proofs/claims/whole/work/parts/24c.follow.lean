/-! one map behind another, as the model does it -/
theorem zL_orN (n m : Nat) : zL (n : Int) ||| zL (m : Int) = zL ((n ||| m : Nat) : Int) := by
  apply Int64.toBitVec_inj.mp
  rw [Int64.toBitVec_or]
  show BitVec.ofInt 64 (n : Int) ||| BitVec.ofInt 64 (m : Int) = BitVec.ofInt 64 ((n ||| m : Nat) : Int)
  rw [BitVec.ofInt_natCast, BitVec.ofInt_natCast, BitVec.ofInt_natCast, BitVec.ofNat_or]
theorem zL_lor {u b : Int} {k : Nat} (hu : 0 ≤ u) (hb : 0 ≤ b ∧ b < 2 ^ k) : zL (u * 2 ^ k) ||| zL b = zL (u * 2 ^ k + b) := by
  obtain ⟨n, rfl⟩ := Int.eq_ofNat_of_zero_le hu
  obtain ⟨m, rfl⟩ := Int.eq_ofNat_of_zero_le hb.1
  have e : ((n : Int) * 2 ^ k) = ((2 ^ k * n : Nat) : Int) := by rw [Int.natCast_mul, Int.natCast_pow, Int.mul_comm]; rfl
  have hm : m < 2 ^ k := by
    have := hb.2
    have e2 : (2 : Int) ^ k = ((2 ^ k : Nat) : Int) := by rw [Int.natCast_pow]; rfl
    rw [e2] at this
    exact Int.ofNat_lt.mp this
  rw [e, zL_orN, ← Nat.two_pow_add_eq_or_of_lt hm, Int.natCast_add]
theorem shr_R {b : Int} {k : Nat} (h : 0 ≤ b ∧ b < 70368744177664) : lR (b / 2 ^ k) := by
  have h1 : 0 ≤ b / 2 ^ k := Int.ediv_nonneg h.1 (by have := two_pow_pos k; omega)
  have h2 : b / 2 ^ k ≤ b := Int.ediv_le_self _ h.1
  exact ⟨by omega, by omega⟩
theorem rest_b {b c K : Int} (hK : 0 < K) (h : b / K = c) : 0 ≤ b - c * K ∧ b - c * K < K := by
  have := (div_iff hK).mp h
  rw [Int.add_mul, Int.one_mul] at this
  omega
theorem piece_1 {x y : Q4} (h : y.1 ≤ x.2.2.1) (hd : x.2.2.2 / 2 ^ (x.2.2.1 - y.1).toNat = y.2.1) : pieceF x y = (x.1, x.2.1, y.2.2.1 + (x.2.2.1 - y.1), y.2.2.2 * 2 ^ (x.2.2.1 - y.1).toNat + (x.2.2.2 - y.2.1 * 2 ^ (x.2.2.1 - y.1).toNat)) := by
  unfold pieceF
  by_cases e : x.2.2.1 = y.1
  · rw [if_pos (by omega), show (y.1 - x.2.2.1).toNat = 0 by omega, show (x.2.2.1 - y.1).toNat = 0 by omega]
    rw [show (x.2.2.1 - y.1).toNat = 0 by omega, Int.pow_zero, Int.ediv_one] at hd
    rw [hd, Int.pow_zero, Int.mul_one, Int.mul_one, Int.mul_one, e, Int.sub_self, Int.sub_self, Int.add_zero, Int.add_zero, Int.add_zero, Int.add_zero]
  · rw [if_neg (by omega), show -(y.1 - x.2.2.1) = x.2.2.1 - y.1 by omega, show y.2.2.1 - (y.1 - x.2.2.1) = y.2.2.1 + (x.2.2.1 - y.1) by omega]
theorem piece_2 {x y : Q4} (h : x.2.2.1 ≤ y.1) : pieceF x y = (x.1 + (y.1 - x.2.2.1), x.2.1 * 2 ^ (y.1 - x.2.2.1).toNat + (y.2.1 - x.2.2.2 * 2 ^ (y.1 - x.2.2.1).toNat), y.2.2.1, y.2.2.2) := by
  unfold pieceF
  rw [if_pos (by omega)]
theorem row_y {x y : Q4} {B : List Q4} {j : Int} (j0 : 0 ≤ j) (j1 : j < B.length) (hy : qat B j = y) (h : ovl x y) : rowF x (B.take (j + 1).toNat) = rowF x (B.take j.toNat) ++ [pieceF x y] := by rw [take_q B j0 j1, rowF_app, hy, rowF_1 h]
theorem row_n {x y : Q4} {B : List Q4} {j : Int} (j0 : 0 ≤ j) (j1 : j < B.length) (hy : qat B j = y) (h : ¬ ovl x y) : rowF x (B.take (j + 1).toNat) = rowF x (B.take j.toNat) := by
  rw [take_q B j0 j1, rowF_app, hy, rowF_no (B := [y]) (fun z hz => by rw [List.mem_singleton.mp hz]; exact h), List.append_nil]
theorem row_all {A B : List Q4} {i j : Int} (i0 : 0 ≤ i) (i1 : i < A.length) (j1 : (B.length : Int) ≤ j) : prodF (A.take i.toNat) B ++ rowF (qat A i) (B.take j.toNat) = prodF (A.take (i + 1).toNat) B := by rw [take_all B j1, ← prodF_s i0 i1]
theorem row_len {A B : List Q4} {i j : Int} (i0 : 0 ≤ i) (i1 : i < A.length) : (prodF (A.take i.toNat) B ++ rowF (qat A i) (B.take j.toNat)).length ≤ (prodF A B).length := by
  obtain ⟨T, hT⟩ := prodF_pre (B := B) i0 i1
  obtain ⟨U, hU⟩ := rowF_pre (qat A i) B j
  rw [hT, hU]
  simp only [List.length_append]
  omega
