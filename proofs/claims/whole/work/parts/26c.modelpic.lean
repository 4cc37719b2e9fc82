/-! the ball -/
def genW (g : Int) : List Q4 := if g % 2 = 1 then turnF (strongF (g / 2)) else strongF (g / 2)
def noteW (W : List (List Q4)) (x : List Q4) : List (List Q4) := if x ∈ W then W else W ++ [x]
def fourW (V : List (List Q4)) (x : List Q4) : List (List Q4) := noteW (noteW (noteW (noteW V (compF x (genW 0))) (compF x (genW 1))) (compF x (genW 2))) (compF x (genW 3))
/-- the words up to a length, and how many are shorter -/
def ballN : Nat → List (List Q4) × Nat
  | 0 => ([[(0, 0, 0, 0)]], 0)
  | n + 1 => (((ballN n).1.drop (ballN n).2).foldl fourW (ballN n).1, (ballN n).1.length)
def ballL (n : Nat) : List (List Q4) := (ballN n).1
/-- how many words are shorter than n -/
def firstF (n : Nat) : Nat := match n with
  | 0 => 0
  | n + 1 => (ballL n).length
def wat (W : List (List Q4)) (w : Int) : List Q4 := W.getD w.toNat []
def WT (W : List (List Q4)) (uw : Int) (m12 m13 : Int → Int) : Prop := uw = W.length ∧ ∀ w : Int, 0 ≤ w → w < W.length → m12 w = (wat W w).length ∧ R4 (wat W w) (fun k => m13 (96 * w + k))
def BL (ub uw : Int) (m12 m13 m14 : Int → Int) : Prop := ub = 0 ∨ (ub = 1 ∧ WT (ballL 4) uw m12 m13 ∧ ∀ k : Int, 0 ≤ k → k ≤ 5 → m14 k = firstF k.toNat)
/-- the model, as its calls show it -/
def MX (G : Gx) (H : Heap) (o : Nat) (maps : Int → List Q4) (hand : List Q4) (ud uc : Int) : Prop := ∃ (us uo ub uw ua ue ux : Int) (m0 m1 m3 m7 m8 m12 m13 m14 m15 m16 : Int → Int), MP G H o hand.length ud uc us uo ub uw ua ue ux m0 m1 m3 m7 m8 m12 m13 m14 m15 m16 ∧ MT maps m0 m1 ∧ R4 hand m3 ∧ BL ub uw m12 m13 m14
theorem shI {b : Int} {k : Nat} (h : 0 ≤ b ∧ b < 8388608) : iR (b / 2 ^ k) := by
  have h1 : 0 ≤ b / 2 ^ k := Int.ediv_nonneg h.1 (by have := two_pow_pos k; omega)
  have h2 : b / 2 ^ k ≤ b := Int.ediv_le_self _ h.1
  exact ⟨by omega, by omega⟩
theorem qat_map {L : List Q4} {i : Int} (h0 : 0 ≤ i) (h1 : i < L.length) : qat (L.map swp4) i = swp4 (qat L i) := by
  unfold qat
  rw [List.getD_eq_getElem?_getD, List.getD_eq_getElem?_getD, List.getElem?_map, List.getElem?_eq_getElem (by omega)]
  rfl
