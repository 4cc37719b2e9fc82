/-! rows copied, rows changed -/
/-- j numbers of g from b on -/
def cpf (f g : Int → Int) (b j : Int) : Int → Int := fun k => if b ≤ k ∧ k < b + j then g (k - b) else f k
theorem cpf_0 (f g : Int → Int) (b : Int) : cpf f g b 0 = f := funext fun k => if_neg (by omega)
theorem cpf_s (f g : Int → Int) (b : Int) {j : Int} (h : 0 ≤ j) : iup (cpf f g b j) (b + j) (g j) = cpf f g b (j + 1) := funext fun k => by
  by_cases e : k = b + j
  · subst e; rw [iup_s]; unfold cpf; rw [if_pos (by omega), show b + j - b = j by omega]
  · rw [iup_n e]; unfold cpf
    by_cases h1 : b ≤ k ∧ k < b + j
    · rw [if_pos h1, if_pos (by omega)]
    · rw [if_neg h1, if_neg (by omega)]
theorem cpf_in {f g : Int → Int} {b j k : Int} (h : b ≤ k ∧ k < b + j) : cpf f g b j k = g (k - b) := if_pos h
theorem cpf_out {f g : Int → Int} {b j k : Int} (h : ¬ (b ≤ k ∧ k < b + j)) : cpf f g b j k = f k := if_neg h
/-- two fours change places -/
def sw4 (f : Int → Int) (i j k : Int) : Int → Int := cpf (cpf f (fun q => f (4 * j + q)) (4 * i) k) (fun q => f (4 * i + q)) (4 * j) k
theorem sw4_0 (f : Int → Int) (i j : Int) : sw4 f i j 0 = f := by unfold sw4; rw [cpf_0, cpf_0]
theorem sw4_i (f : Int → Int) {i j k : Int} (hij : i ≠ j) (h0 : 0 ≤ k) (h4 : k < 4) : sw4 f i j k (4 * i + k) = f (4 * i + k) := by unfold sw4; rw [cpf_out (by omega), cpf_out (by omega)]
theorem sw4_j (f : Int → Int) {i j k : Int} (hij : i ≠ j) (h0 : 0 ≤ k) (h4 : k < 4) : sw4 f i j k (4 * j + k) = f (4 * j + k) := by unfold sw4; rw [cpf_out (by omega), cpf_out (by omega)]
theorem sw4_s (f : Int → Int) {i j k : Int} (hij : i ≠ j) (h0 : 0 ≤ k) (h4 : k < 4) : iup (iup (sw4 f i j k) (4 * i + k) (f (4 * j + k))) (4 * j + k) (f (4 * i + k)) = sw4 f i j (k + 1) := by
  unfold sw4
  rw [← cpf_s (cpf f (fun q => f (4 * j + q)) (4 * i) (k + 1)) (fun q => f (4 * i + q)) (4 * j) h0, ← cpf_s f (fun q => f (4 * j + q)) (4 * i) h0]
  congr 1
  funext q
  by_cases e : q = 4 * i + k
  · subst e; rw [iup_s, cpf_out (by omega), iup_s]
  · rw [iup_n e]
    by_cases h : 4 * j ≤ q ∧ q < 4 * j + k
    · rw [cpf_in h, cpf_in h]
    · rw [cpf_out h, cpf_out h, iup_n e]
theorem R4.swap {M T : List Q4} {t q : Q4} {f : Int → Int} {i : Int} (h : R4 (M ++ t :: q :: T) f) (hi : i = M.length + 1) : R4 (M ++ q :: t :: T) (sw4 f i (i - 1) 4) := by
  subst hi
  intro k h0 h1
  simp only [List.length_append, List.length_cons] at h1
  have hl : ((M ++ t :: q :: T).length : Int) = M.length + (T.length + 2) := by simp only [List.length_append, List.length_cons]; omega
  have e : ∀ r : Int, 0 ≤ r → r < 4 → (sw4 f ((M.length : Int) + 1) ((M.length : Int) + 1 - 1) 4 (4 * k + r) = if k = M.length then f (4 * (M.length + 1) + r) else if k = M.length + 1 then f (4 * M.length + r) else f (4 * k + r)) := by
    intro r r0 r1
    unfold sw4
    by_cases a : k = M.length
    · subst a; rw [if_pos rfl, cpf_in (by omega)]; congr 1; omega
    · rw [if_neg a, cpf_out (by omega)]
      by_cases b : k = M.length + 1
      · subst b; rw [if_pos rfl, cpf_in (by omega)]; congr 1; omega
      · rw [if_neg b, cpf_out (by omega)]
  have e0 := e 0 (by omega) (by omega)
  rw [Int.add_zero] at e0
  rw [e0, e 1 (by omega) (by omega), e 2 (by omega) (by omega), e 3 (by omega) (by omega)]
  by_cases a : k = M.length
  · subst a
    rw [if_pos rfl, if_pos rfl, if_pos rfl, if_pos rfl, qat_app (by omega), if_neg (by omega), Int.sub_self, qat_0]
    have := h ((M.length : Int) + 1) (by omega) (by omega)
    rw [qat_app (by omega), if_neg (by omega), show (M.length : Int) + 1 - M.length = 1 by omega, qat_1] at this
    rw [this, Int.add_zero]
  · rw [if_neg a, if_neg a, if_neg a, if_neg a]
    by_cases b : k = M.length + 1
    · subst b
      rw [if_pos rfl, if_pos rfl, if_pos rfl, if_pos rfl, qat_app (by omega), if_neg (by omega), show (M.length : Int) + 1 - M.length = 1 by omega, qat_1]
      have := h (M.length : Int) (by omega) (by omega)
      rw [qat_app (by omega), if_neg (by omega), Int.sub_self, qat_0] at this
      rw [this, Int.add_zero]
    · rw [if_neg b, if_neg b, if_neg b, if_neg b]
      have := h k h0 (by omega)
      rw [← this, qat_app h0, qat_app h0]
      by_cases c : k < M.length
      · rw [if_pos c, if_pos c]
      · rw [if_neg c, if_neg c, qat_s (by omega), qat_s (by omega), qat_s (by omega), qat_s (by omega)]
theorem R4.set {M T : List Q4} {t : Q4} {f : Int → Int} {n x y z w : Int} (h : R4 (M ++ t :: T) f) (hn : n = M.length) : R4 (M ++ (x, y, z, w) :: T) (iup (iup (iup (iup f (4 * n) x) (4 * n + 1) y) (4 * n + 2) z) (4 * n + 3) w) := by
  subst hn
  intro i h0 h1
  simp only [List.length_append, List.length_cons] at h1
  have hl : ((M ++ t :: T).length : Int) = M.length + (T.length + 1) := by simp only [List.length_append, List.length_cons]; omega
  by_cases hi : i = M.length
  · subst hi
    rw [qat_app (by omega), if_neg (by omega), Int.sub_self, qat_0, iup_s, iup_n (j := 4 * (M.length : Int)) (by omega), iup_n (j := 4 * (M.length : Int)) (by omega), iup_n (j := 4 * (M.length : Int)) (by omega), iup_s, iup_n (j := 4 * (M.length : Int) + 1) (by omega), iup_n (j := 4 * (M.length : Int) + 1) (by omega), iup_s, iup_n (j := 4 * (M.length : Int) + 2) (by omega), iup_s]
  · have e : ∀ k : Int, (k < 4 * M.length ∨ 4 * M.length + 4 ≤ k) → iup (iup (iup (iup f (4 * (M.length : Int)) x) (4 * (M.length : Int) + 1) y) (4 * (M.length : Int) + 2) z) (4 * (M.length : Int) + 3) w k = f k := fun k hk => by rw [iup_n (by omega), iup_n (by omega), iup_n (by omega), iup_n (by omega)]
    rw [e _ (by omega), e _ (by omega), e _ (by omega), e _ (by omega), ← h i h0 (by omega), qat_app h0, qat_app h0]
    by_cases c : i < M.length
    · rw [if_pos c, if_pos c]
    · rw [if_neg c, if_neg c, qat_s (by omega), qat_s (by omega)]
/-! the order of the model: by the left end, counted by 2^46 -/
theorem lo_sh {d c D : Int} (h1 : d ≤ D) (h2 : D ≤ 46) : lo46 d c = c * 2 ^ (D - d).toNat * 2 ^ (46 - D).toNat := by
  unfold lo46
  rw [Int.mul_assoc, ← Int.pow_add, show (D - d).toNat + (46 - D).toNat = (46 - d).toNat by omega]
theorem lo_iff {d c e b D : Int} (hd : Lf 46 d c) (he : Lf 46 e b) (h1 : d ≤ D) (h2 : e ≤ D) (h3 : D ≤ 46) : lR (c * 2 ^ (D - d).toNat) ∧ lR (b * 2 ^ (D - e).toNat) ∧ (c * 2 ^ (D - d).toNat < b * 2 ^ (D - e).toNat ↔ lo46 d c < lo46 e b) := by
  have b1 := lo46_b hd
  have b2 := lo46_b he
  rw [lo_sh (c := c) h1 h3] at b1 ⊢
  rw [lo_sh (c := b) h2 h3] at b2 ⊢
  have hp := two_pow_pos (46 - D).toNat
  have g : ∀ x : Int, 0 ≤ x * 2 ^ (46 - D).toNat ∧ x * 2 ^ (46 - D).toNat < 70368744177664 → 0 ≤ x ∧ x < 70368744177664 := by
    intro x hx
    refine ⟨?_, ?_⟩
    · rcases Int.lt_or_le x 0 with q | q
      · have : x * 2 ^ (46 - D).toNat < 0 := Int.mul_neg_of_neg_of_pos q (by omega)
        omega
      · exact q
    · rcases Int.lt_or_le x 70368744177664 with q | q
      · exact q
      · have : 70368744177664 * 1 ≤ x * 2 ^ (46 - D).toNat := Int.mul_le_mul q (by omega) (by omega) (by omega)
        omega
  have g1 := g _ b1
  have g2 := g _ b2
  refine ⟨⟨by omega, by omega⟩, ⟨by omega, by omega⟩, ⟨fun h => Int.mul_lt_mul_of_pos_right h (by omega), fun h => Int.lt_of_mul_lt_mul_right h (by omega)⟩⟩
theorem R4.mid {M X : List Q4} {q : Q4} {f : Int → Int} {j : Int} (h : R4 (M ++ q :: X) f) (hj : j = M.length) : q = (f (4 * j), f (4 * j + 1), f (4 * j + 2), f (4 * j + 3)) := by
  have := h j (by omega) (by simp only [List.length_append, List.length_cons]; omega)
  rw [qat_app_at hj] at this
  exact this
theorem R4.midL {M X : List Q4} {q : Q4} {f : Int → Int} {j : Int} (h : R4 (M ++ q :: X) f) (hj : j = M.length) (hB : LQ 46 q) : Lf 46 (f (4 * j + 0)) (f (4 * j + 0 + 1)) ∧ lo46 (f (4 * j + 0)) (f (4 * j + 0 + 1)) = kq q := by
  have := h.mid hj
  rw [Int.add_zero]
  rw [this] at hB ⊢
  exact ⟨hB.1, rfl⟩