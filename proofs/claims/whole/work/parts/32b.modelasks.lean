/-! what the model's asks count -/
noncomputable def cntM (maps : Int → List Q4) (w : Int) : Nat → Int
  | 0 => 0
  | n + 1 => cntM maps w n + if thP maps (n : Int) ∧ (w = 0 ∨ kindF (maps (n : Int)) = w - 2) then 1 else 0
theorem cntM_s {maps : Int → List Q4} {w i : Int} (h : 0 ≤ i) : cntM maps w (i + 1).toNat = cntM maps w i.toNat + if thP maps i ∧ (w = 0 ∨ kindF (maps i) = w - 2) then 1 else 0 := by
  rw [show (i + 1).toNat = i.toNat + 1 by omega]
  show cntM maps w i.toNat + (if thP maps ((i.toNat : Nat) : Int) ∧ _ then _ else _) = _
  rw [show ((i.toNat : Nat) : Int) = i by omega]
theorem cntM_K {maps : Int → List Q4} {w : Int} (hw : w ≠ 0) : ∀ n : Nat, cntM maps w n = cntK maps (w - 2) n
  | 0 => rfl
  | n + 1 => by
    show cntM maps w n + _ = cntK maps (w - 2) n + _
    rw [cntM_K hw n]
    congr 1
    by_cases h : thP maps (n : Int) ∧ kindF (maps (n : Int)) = w - 2
    · rw [if_pos h, if_pos ⟨h.1, Or.inr h.2⟩]
    · rw [if_neg h, if_neg (fun q => h ⟨q.1, q.2.resolve_left hw⟩)]
theorem cntM_0 {maps : Int → List Q4} : ∀ n : Nat, cntM maps 0 n = cntK maps 0 n + cntK maps 1 n + cntK maps 2 n
  | 0 => rfl
  | n + 1 => by
    show cntM maps 0 n + _ = (cntK maps 0 n + _) + (cntK maps 1 n + _) + (cntK maps 2 n + _)
    rw [cntM_0 n]
    have hk := kindF_b (maps (n : Int))
    by_cases h : thP maps (n : Int)
    · rw [if_pos ⟨h, Or.inl rfl⟩]
      have : kindF (maps (n : Int)) = 0 ∨ kindF (maps (n : Int)) = 1 ∨ kindF (maps (n : Int)) = 2 := by omega
      rcases this with e | e | e
      · rw [if_pos ⟨h, e⟩, if_neg (fun q => by have := q.2; omega), if_neg (fun q => by have := q.2; omega)]; omega
      · rw [if_neg (fun q => by have := q.2; omega), if_pos ⟨h, e⟩, if_neg (fun q => by have := q.2; omega)]; omega
      · rw [if_neg (fun q => by have := q.2; omega), if_neg (fun q => by have := q.2; omega), if_pos ⟨h, e⟩]; omega
    · rw [if_neg (fun q => h q.1), if_neg (fun q => h q.1), if_neg (fun q => h q.1), if_neg (fun q => h q.1)]; omega
/-- numbers mixed one by one -/
def hmk (h : Int) (f : Int → Int) : Nat → Int
  | 0 => h
  | n + 1 => 31 * hmk h f n + f (n : Int)
theorem hmk_s {h : Int} {f : Int → Int} {k : Int} (k0 : 0 ≤ k) : hmk h f (k + 1).toNat = 31 * hmk h f k.toNat + f k := by
  rw [show (k + 1).toNat = k.toNat + 1 by omega]
  show 31 * hmk h f k.toNat + f ((k.toNat : Nat) : Int) = _
  rw [show ((k.toNat : Nat) : Int) = k by omega]
theorem hmk_4 {L : List Q4} {f : Int → Int} (hR : R4 L f) (h : Int) : ∀ n : Nat, n ≤ L.length → hmk h f (4 * n) = hmix h (L.take n)
  | 0, _ => rfl
  | n + 1, hn => by
    have ih := hmk_4 hR h n (by omega)
    have hq := hR (n : Int) (by omega) (by omega)
    have ht := take_q L (i := (n : Int)) (by omega) (by omega)
    rw [show ((n : Int) + 1).toNat = n + 1 by omega, show ((n : Int)).toNat = n by omega, hq] at ht
    rw [ht]
    unfold hmix at ih ⊢
    rw [List.foldl_append, ← ih, show 4 * (n + 1) = 4 * n + 1 + 1 + 1 + 1 by omega]
    show 31 * (31 * (31 * (31 * hmk h f (4 * n) + f ((4 * n : Nat) : Int)) + f ((4 * n + 1 : Nat) : Int)) + f ((4 * n + 1 + 1 : Nat) : Int)) + f ((4 * n + 1 + 1 + 1 : Nat) : Int) = hmix1 (hmk h f (4 * n)) _
    unfold hmix1
    simp only [Int.natCast_add, Int.natCast_mul]
    rfl
theorem hmk_all {L : List Q4} {f : Int → Int} (hR : R4 L f) (h : Int) {k : Int} (hk : k = 4 * L.length) : hmk h f k.toNat = hmix h L := by
  have := hmk_4 hR h L.length (Nat.le_refl _)
  rw [List.take_length] at this
  rw [← this, show k.toNat = 4 * L.length by omega]
theorem steep_at {L : List Q4} {m1 : Int → Int} {x i : Int} (h : R4 L (fun k => m1 (96 * x + k))) (i0 : 0 ≤ i) (i1 : i < L.length) : m1 (96 * x + 4 * i) - m1 (96 * x + 4 * i + 2) = steep (qat L i) := by
  rw [h i i0 i1, Int.add_assoc (96 * x) (4 * i) 2]
  rfl
