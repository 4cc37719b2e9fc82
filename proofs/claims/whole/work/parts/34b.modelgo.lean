/-! where a point goes, as the model does it -/
theorem lowF_sh : ∀ (k n : Nat) (c : Int), lowF (n + k) (c * 2 ^ k) = lowF n c
  | 0, n, c => by rw [Int.pow_zero, Int.mul_one]; rfl
  | k + 1, n, c => by
    have e : c * 2 ^ (k + 1) = c * 2 ^ k * 2 := by rw [Int.pow_succ, Int.mul_assoc]
    show (if c * 2 ^ (k + 1) % 2 = 0 then lowF (n + k) (c * 2 ^ (k + 1) / 2) else _) = _
    rw [e, if_pos (by omega), show c * 2 ^ k * 2 / 2 = c * 2 ^ k by omega, lowF_sh k n c]
theorem go_match {q : Q4} {d c D : Int} (h : LQ 23 q) (hg : goP d c) (h1 : d ≤ D) (h2 : q.1 ≤ D) (h3 : D ≤ 30) : c * 2 ^ (D - d).toNat / 2 ^ (D - q.1).toNat = q.2.1 ↔ st1 q ≤ c * 2 ^ (30 - d).toNat / 128 ∧ c * 2 ^ (30 - d).toNat / 128 < en1 q := by
  obtain ⟨e1, e2⟩ := st1_30 h
  have b1 := h.1.b23
  have p1 := two_pow_pos (D - q.1).toNat
  have p2 := two_pow_pos (30 - D).toNat
  have e3 : c * 2 ^ (30 - d).toNat = c * 2 ^ (D - d).toNat * 2 ^ (30 - D).toNat := by
    rw [Int.mul_assoc, ← Int.pow_add, show (D - d).toNat + (30 - D).toNat = (30 - d).toNat by have := hg.1; omega]
  have e4 : ∀ z : Int, z * 2 ^ (30 - q.1).toNat = z * 2 ^ (D - q.1).toNat * 2 ^ (30 - D).toNat := fun z => by
    rw [Int.mul_assoc, ← Int.pow_add, show (D - q.1).toNat + (30 - D).toNat = (30 - q.1).toNat by omega]
  rw [div_iff (by omega)]
  have k1 : q.2.1 * 2 ^ (D - q.1).toNat ≤ c * 2 ^ (D - d).toNat ↔ st1 q * 128 ≤ c * 2 ^ (30 - d).toNat := by
    rw [← e1, e3, e4]
    exact ⟨fun z => Int.mul_le_mul_of_nonneg_right z (by omega), fun z => Int.le_of_mul_le_mul_right z (by omega)⟩
  have k2 : c * 2 ^ (D - d).toNat < (q.2.1 + 1) * 2 ^ (D - q.1).toNat ↔ c * 2 ^ (30 - d).toNat < en1 q * 128 := by
    rw [← e2, e3, e4]
    exact (sc_lt (by omega)).symm
  rw [k2]
  constructor
  · intro ⟨z1, z2⟩
    have := k1.mp (by omega)
    omega
  · intro ⟨z1, z2⟩
    have := k1.mpr (by omega)
    omega
theorem go_val {q : Q4} {d c D : Int} (h : LQ 23 q) (hg : goP d c) (h1 : d ≤ D) (h2 : q.1 ≤ D) (h3 : D ≤ 30) : (q.2.2.2 * 2 ^ (D - q.1).toNat + (c * 2 ^ (D - d).toNat - q.2.1 * 2 ^ (D - q.1).toNat)) * 2 ^ (53 - (q.2.2.1 + (D - q.1))).toNat = goC q d c := by
  have b1 := h.1.b23
  have b2 := h.2.b23
  have hd := hg.1
  unfold goC
  have e3 : c * 2 ^ (30 - d).toNat = c * 2 ^ (D - d).toNat * 2 ^ (30 - D).toNat := by
    rw [Int.mul_assoc, ← Int.pow_add, show (D - d).toNat + (30 - D).toNat = (30 - d).toNat by omega]
  have e4 : q.2.1 * 2 ^ (30 - q.1).toNat = q.2.1 * 2 ^ (D - q.1).toNat * 2 ^ (30 - D).toNat := by
    rw [Int.mul_assoc, ← Int.pow_add, show (D - q.1).toNat + (30 - D).toNat = (30 - q.1).toNat by omega]
  have e5 : (2 : Int) ^ (53 - (q.2.2.1 + (D - q.1))).toNat = 2 ^ (30 - D).toNat * 2 ^ (23 + q.1 - q.2.2.1).toNat := by
    rw [← Int.pow_add, show (30 - D).toNat + (23 + q.1 - q.2.2.1).toNat = (53 - (q.2.2.1 + (D - q.1))).toNat by omega]
  have e6 : q.2.2.2 * 2 ^ (D - q.1).toNat * 2 ^ (53 - (q.2.2.1 + (D - q.1))).toNat = q.2.2.2 * 2 ^ (53 - q.2.2.1).toNat := by
    rw [Int.mul_assoc, ← Int.pow_add, show (D - q.1).toNat + (53 - (q.2.2.1 + (D - q.1))).toNat = (53 - q.2.2.1).toNat by omega]
  rw [e3, e4, ← Int.sub_mul, Int.add_mul, e6, e5, Int.mul_assoc]
theorem go_low {q : Q4} {d c D : Int} (h : LQ 23 q) (hg : goP d c) (h1 : d ≤ D) (h2 : q.1 ≤ D) (h3 : D ≤ 30) : lowF (q.2.2.1 + (D - q.1)).toNat (q.2.2.2 * 2 ^ (D - q.1).toNat + (c * 2 ^ (D - d).toNat - q.2.1 * 2 ^ (D - q.1).toNat)) = lowF 53 (goC q d c) := by
  have b1 := h.1.b23
  have b2 := h.2.b23
  rw [← go_val h hg h1 h2 h3, ← lowF_sh (53 - (q.2.2.1 + (D - q.1))).toNat (q.2.2.1 + (D - q.1)).toNat]
  rw [show (q.2.2.1 + (D - q.1)).toNat + (53 - (q.2.2.1 + (D - q.1))).toNat = 53 by omega]
theorem go_rng {q : Q4} {d c D : Int} (h : LQ 23 q) (hg : goP d c) (h1 : d ≤ D) (h2 : q.1 ≤ D) (h3 : D ≤ 30) (hm : st1 q ≤ c * 2 ^ (30 - d).toNat / 128 ∧ c * 2 ^ (30 - d).toNat / 128 < en1 q) {z : Int} (hz : z = q.2.2.2 * 2 ^ (D - q.1).toNat + (c * 2 ^ (D - d).toNat - q.2.1 * 2 ^ (D - q.1).toNat)) : 0 ≤ z ∧ z < 9007199254740992 := by
  have hb := goC_b h hg hm.1 hm.2
  rw [← go_val h hg h1 h2 h3, ← hz] at hb
  have hp := two_pow_pos (53 - (q.2.2.1 + (D - q.1))).toNat
  refine ⟨?_, ?_⟩
  · rcases Int.lt_or_le z 0 with g | g
    · have := Int.mul_neg_of_neg_of_pos g (show (0 : Int) < 2 ^ (53 - (q.2.2.1 + (D - q.1))).toNat by omega); omega
    · exact g
  · rcases Int.lt_or_le z 9007199254740992 with g | g
    · exact g
    · have : 9007199254740992 * 1 ≤ z * 2 ^ (53 - (q.2.2.1 + (D - q.1))).toNat := Int.mul_le_mul g (by omega) (by omega) (by omega); omega
theorem lowF_end {d c : Int} (h0 : 0 ≤ d) (h : d = 0 ∨ c % 2 ≠ 0) : lowF d.toNat c = (d, c) := by
  obtain ⟨n, rfl⟩ := Int.eq_ofNat_of_zero_le h0
  show lowF n c = _
  cases n with
  | zero => rfl
  | succ n =>
    show (if c % 2 = 0 then _ else ((n : Int) + 1, c)) = _
    rw [if_neg (by rcases h with h | h; omega; exact h)]
    rfl
theorem lowF_go {d c : Int} (h0 : 0 < d) (h : c % 2 = 0) : lowF (d - 1).toNat (c / 2) = lowF d.toNat c := by
  obtain ⟨n, rfl⟩ := Int.eq_ofNat_of_zero_le (Int.le_of_lt h0)
  cases n with
  | zero => omega
  | succ n =>
    show _ = (if c % 2 = 0 then lowF n (c / 2) else _)
    rw [if_pos h, show (((n + 1 : Nat) : Int) - 1).toNat = n by omega]
/-- every place has its leaf -/
theorem cut_has {L : List Q4} (h : cutF L) {y : Int} (h0 : 0 ≤ y) (h1 : y < 8388608) : ∃ i : Int, (0 ≤ i ∧ i < L.length) ∧ st1 (qat L i) ≤ y ∧ y < en1 (qat L i) := by
  have hl := cut_ne h
  have hz := cut_0 h
  have hk : ∀ n : Nat, (n : Int) < L.length → (∃ i : Int, (0 ≤ i ∧ i < L.length) ∧ st1 (qat L i) ≤ y ∧ y < en1 (qat L i)) ∨ en1 (qat L n) ≤ y := by
    intro n
    induction n with
    | zero =>
      intro hn
      rcases Int.lt_or_le y (en1 (qat L ((0 : Nat) : Int))) with g | g
      · exact Or.inl ⟨0, ⟨by omega, by omega⟩, by rw [hz]; exact h0, g⟩
      · exact Or.inr g
    | succ n ih =>
      intro hn
      rcases ih (by omega) with g | g
      · exact Or.inl g
      · have hs := cut_s h (j := (n : Int)) (by omega) (by omega)
        rcases Int.lt_or_le y (en1 (qat L ((n + 1 : Nat) : Int))) with g2 | g2
        · exact Or.inl ⟨((n + 1 : Nat) : Int), ⟨by omega, by omega⟩, by rw [Int.natCast_add]; show st1 (qat L ((n : Int) + 1)) ≤ y; omega, g2⟩
        · exact Or.inr g2
  rcases hk (L.length - 1) (by omega) with g | g
  · exact g
  · have := cut_e h
    rw [show ((L.length - 1 : Nat) : Int) = (L.length : Int) - 1 by omega] at g
    omega
theorem go_x {d c D : Int} (hg : goP d c) (h1 : d ≤ D) (h3 : D ≤ 30) : c * 2 ^ (D - d).toNat ≤ 1073741824 := by
  have hc := go_c hg
  have e3 : c * 2 ^ (30 - d).toNat = c * 2 ^ (D - d).toNat * 2 ^ (30 - D).toNat := by
    rw [Int.mul_assoc, ← Int.pow_add, show (D - d).toNat + (30 - D).toNat = (30 - d).toNat by have := hg.1; omega]
  rw [e3] at hc
  rcases Int.lt_or_le 1073741824 (c * 2 ^ (D - d).toNat) with g | g
  · have hp := two_pow_pos (30 - D).toNat
    have : 1073741824 * 1 ≤ c * 2 ^ (D - d).toNat * 2 ^ (30 - D).toNat := Int.mul_le_mul (by omega) (by omega) (by omega) (by omega)
    omega
  · exact g
