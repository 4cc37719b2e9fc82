/-! the single points, as the model seeks them -/
theorem ptG_app : ∀ (M : List Q4) (q : Q4) (k w : Int), ptG (M ++ [q]) k w = if hsP q ∧ k = hsC M then partF q w else ptG M k w
  | [], q, k, w => by
    show (if hsP q then (if k = 0 then partF q w else -1) else -1) = if hsP q ∧ k = 0 then partF q w else -1
    by_cases h : hsP q
    · by_cases e : k = 0
      · rw [if_pos h, if_pos e, if_pos ⟨h, e⟩]
      · rw [if_pos h, if_neg e, if_neg (fun z => e z.2)]
    · rw [if_neg h, if_neg (fun z => h z.1)]
  | p :: M, q, k, w => by
    show (if hsP p then (if k = 0 then partF p w else ptG (M ++ [q]) (k - 1) w) else ptG (M ++ [q]) k w) = if hsP q ∧ k = hsC (p :: M) then partF q w else (if hsP p then (if k = 0 then partF p w else ptG M (k - 1) w) else ptG M k w)
    have hc : hsC (p :: M) = hsC M + if hsP p then 1 else 0 := by
      unfold hsC
      rw [List.countP_cons]
      by_cases h : hsP p
      · rw [if_pos (decide_eq_true h), if_pos h]; rfl
      · rw [if_neg (by rw [decide_eq_false h]; decide), if_neg h]; rfl
    have hm : 0 ≤ hsC M := Int.natCast_nonneg _
    rw [hc]
    by_cases h : hsP p
    · rw [if_pos h, if_pos h, if_pos h, ptG_app M q (k - 1) w]
      by_cases e : k = 0
      · rw [if_pos e, if_neg (fun z => by have := z.2; omega), if_pos e]
      · rw [if_neg e, if_neg e]
        by_cases f : hsP q ∧ k - 1 = hsC M
        · rw [if_pos f, if_pos ⟨f.1, by have := f.2; omega⟩]
        · rw [if_neg f, if_neg (fun z => f ⟨z.1, by have := z.2; omega⟩)]
    · rw [if_neg h, if_neg h, if_neg h, Int.add_zero, ptG_app M q k w]
theorem ptG_s {L : List Q4} {i : Int} (h0 : 0 ≤ i) (h1 : i < L.length) (k w : Int) : ptG (L.take (i + 1).toNat) k w = if hsP (qat L i) ∧ k = hsC (L.take i.toNat) then partF (qat L i) w else ptG (L.take i.toNat) k w := by rw [take_q L h0 h1, ptG_app]
theorem hsC_b (L : List Q4) (i : Int) (h0 : 0 ≤ i) : 0 ≤ hsC (L.take i.toNat) ∧ hsC (L.take i.toNat) ≤ i := by
  have h1 : (L.take i.toNat).countP (fun q => decide (hsP q)) ≤ (L.take i.toNat).length := List.countP_le_length
  have h2 : (L.take i.toNat).length ≤ i.toNat := by rw [List.length_take]; omega
  unfold hsC
  omega
theorem pow_lt2 {m n : Nat} (h : m < n) : (2 : Int) ^ m < 2 ^ n := by
  have h1 := pow_le_pow2 (m := m + 1) (n := n) (by omega)
  have h2 := two_pow_pos m
  rw [Int.pow_succ] at h1
  omega
