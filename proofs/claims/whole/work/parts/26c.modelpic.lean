/-! the ball -/
def genW (g : Int) : List Q4 := if g % 2 = 1 then turnF (strongF (g / 2)) else strongF (g / 2)
def noteW (W : List (List Q4)) (x : List Q4) : List (List Q4) := if x ∈ W then W else W ++ [x]
def fourW (V : List (List Q4)) (x : List Q4) : List (List Q4) := noteW (noteW (noteW (noteW V (compF x (genW 0))) (compF x (genW 1))) (compF x (genW 2))) (compF x (genW 3))
/-- the words up to a length, and how many are shorter -/
def ballN : Nat → List (List Q4) × Nat
  | 0 => ([[(0, 0, 0, 0)]], 0)
  | n + 1 => (((ballN n).1.drop (ballN n).2).foldl fourW (ballN n).1, (ballN n).1.length)
def ballL (n : Nat) : List (List Q4) := (ballN n).1
/-- how many words are shorter than n -/
def firstF (n : Nat) : Nat := match n with
  | 0 => 0
  | n + 1 => (ballL n).length
def wat (W : List (List Q4)) (w : Int) : List Q4 := W.getD w.toNat []
def WT (W : List (List Q4)) (uw : Int) (m12 m13 : Int → Int) : Prop := uw = W.length ∧ ∀ w : Int, 0 ≤ w → w < W.length → m12 w = (wat W w).length ∧ R4 (wat W w) (fun k => m13 (96 * w + k))
def BL (ub uw : Int) (m12 m13 m14 : Int → Int) : Prop := (ub = 0 ∧ uw = 0) ∨ (ub = 1 ∧ WT (ballL 4) uw m12 m13 ∧ ∀ k : Int, 0 ≤ k → k ≤ 5 → m14 k = firstF k.toNat)
/-- the model, as its calls show it -/
def MX (G : Gx) (H : Heap) (o : Nat) (maps : Int → List Q4) (hand : List Q4) (ud uc : Int) : Prop := ∃ (us uo ub uw ua ue ux : Int) (m0 m1 m3 m7 m8 m12 m13 m14 m15 m16 : Int → Int), MP G H o hand.length ud uc us uo ub uw ua ue ux m0 m1 m3 m7 m8 m12 m13 m14 m15 m16 ∧ MT maps m0 m1 ∧ R4 hand m3 ∧ BL ub uw m12 m13 m14
theorem shI {b : Int} {k : Nat} (h : 0 ≤ b ∧ b < 8388608) : iR (b / 2 ^ k) := by
  have h1 : 0 ≤ b / 2 ^ k := Int.ediv_nonneg h.1 (by have := two_pow_pos k; omega)
  have h2 : b / 2 ^ k ≤ b := Int.ediv_le_self _ h.1
  exact ⟨by omega, by omega⟩
theorem qat_map {L : List Q4} {i : Int} (h0 : 0 ≤ i) (h1 : i < L.length) : qat (L.map swp4) i = swp4 (qat L i) := by
  unfold qat
  rw [List.getD_eq_getElem?_getD, List.getD_eq_getElem?_getD, List.getElem?_map, List.getElem?_eq_getElem (by omega)]
  rfl
theorem R4.ext {A B : List Q4} {f g : Int → Int} (hA : R4 A f) (hB : R4 B g) (hl : A.length = B.length) (h : ∀ k : Int, 0 ≤ k → k < 4 * A.length → f k = g k) : A = B := qat_ext hl (fun i i0 i1 => by
  rw [hA i i0 i1, hB i i0 (by omega), h _ (by omega) (by omega), h _ (by omega) (by omega), h _ (by omega) (by omega), h _ (by omega) (by omega)])
theorem R4.eqv {A : List Q4} {f g : Int → Int} (hA : R4 A f) (hB : R4 A g) {k : Int} (k0 : 0 ≤ k) (k1 : k < 4 * A.length) : f k = g k := by
  have h := (hA (k / 4) (by omega) (by omega)).symm.trans (hB (k / 4) (by omega) (by omega))
  simp only [Prod.mk.injEq] at h
  obtain ⟨h1, h2, h3, h4⟩ := h
  have : k = 4 * (k / 4) ∨ k = 4 * (k / 4) + 1 ∨ k = 4 * (k / 4) + 2 ∨ k = 4 * (k / 4) + 3 := by omega
  rcases this with e | e | e | e <;> rw [e] <;> assumption
theorem MT.drop {maps : Int → List Q4} {m0 m1 : Int → Int} {t : Int} (h : MT maps m0 m1) : MT (iup maps t []) (iup m0 t 0) m1 := fun u u0 u1 => by
  by_cases e : u = t
  · subst e; rw [iup_s, iup_s]; exact ⟨rfl, R4.nil⟩
  · rw [iup_n e, iup_n e]; exact h u u0 u1
/-- how often the second leaves turn back -/
def trn (L : List Q4) (i : Int) : Bool := decide (kq2 (qat L i) < kq2 (qat L (if i = 0 then (L.length : Int) - 1 else i - 1)))
def trnC (L : List Q4) (n : Nat) : Int := (((List.range n).filter (fun k : Nat => trn L k)).length : Int)
theorem trnC_s {L : List Q4} {i : Int} (h : 0 ≤ i) : trnC L (i + 1).toNat = trnC L i.toNat + (if trn L i then 1 else 0) := by
  unfold trnC
  rw [show (i + 1).toNat = i.toNat + 1 by omega, List.range_succ, List.filter_append, List.length_append]
  by_cases e : trn L i = true
  · rw [if_pos e]
    have : [i.toNat].filter (fun k : Nat => trn L k) = [i.toNat] := by
      rw [List.filter_cons, show trn L ((i.toNat : Nat) : Int) = true by rw [show ((i.toNat : Nat) : Int) = i by omega]; exact e]; rfl
    rw [this]; rfl
  · rw [if_neg e]
    have : [i.toNat].filter (fun k : Nat => trn L k) = [] := by
      rw [List.filter_cons, show trn L ((i.toNat : Nat) : Int) = false by rw [show ((i.toNat : Nat) : Int) = i by omega]; exact Bool.eq_false_iff.mpr e]; rfl
    rw [this]; rfl
abbrev ordM (L : List Q4) : Prop := L.length = 1 ∨ (kq2 (qat L 0) < kq2 (qat L (L.length - 1)) ∧ trnC L L.length = 1)
def kindM (L : List Q4) : Int := if ordM L then 0 else if trnC L L.length = 1 then 1 else 2
theorem R4.iR4 {L : List Q4} {f : Int → Int} (h : R4 L f) (hB : ∀ q ∈ L, LQ 23 q) {k : Int} (k0 : 0 ≤ k) (k1 : k < 4 * L.length) : iR (f k) := by
  obtain ⟨h1, h2⟩ := h.bnd hB (i := k / 4) (by omega) (by omega)
  have h1 := h1.b23
  have h2 := h2.b23
  have : k = 4 * (k / 4) ∨ k = 4 * (k / 4) + 1 ∨ k = 4 * (k / 4) + 2 ∨ k = 4 * (k / 4) + 3 := by omega
  rcases this with e | e | e | e <;> rw [e] <;> exact ⟨by omega, by omega⟩
theorem leaf_at {L : List Q4} {m1 : Int → Int} {x i w : Int} (h : R4 L (fun k => m1 (96 * x + k))) (i0 : 0 ≤ i) (i1 : i < L.length) (hw : 0 ≤ w ∧ w ≤ 3) : m1 (96 * x + 4 * i + w) = if w = 0 then (qat L i).1 else if w = 1 then (qat L i).2.1 else if w = 2 then (qat L i).2.2.1 else (qat L i).2.2.2 := by
  rw [h i i0 i1]
  have : w = 0 ∨ w = 1 ∨ w = 2 ∨ w = 3 := by omega
  rcases this with rfl | rfl | rfl | rfl
  · rw [if_pos rfl, Int.add_zero]
  · rw [if_neg (by decide), if_pos rfl, Int.add_assoc]
  · rw [if_neg (by decide), if_neg (by decide), if_pos rfl, Int.add_assoc]
  · rw [if_neg (by decide), if_neg (by decide), if_neg (by decide), Int.add_assoc]
theorem R4.left2 {L : List Q4} {f : Int → Int} (h : R4 L f) (hB : ∀ q ∈ L, LQ 46 q) {i : Int} (i0 : 0 ≤ i) (i1 : i < L.length) : Lf 46 (f (4 * i + 2)) (f (4 * i + 2 + 1)) ∧ lo46 (f (4 * i + 2)) (f (4 * i + 2 + 1)) = kq2 (qat L i) := by
  have h2 := (h.bnd hB i0 i1).2
  rw [h i i0 i1, show 4 * i + 2 + 1 = 4 * i + 3 by omega]
  exact ⟨h2, rfl⟩
theorem R4.lR4 {L : List Q4} {f : Int → Int} (h : R4 L f) (hB : ∀ q ∈ L, LQ 46 q) {k : Int} (k0 : 0 ≤ k) (k1 : k < 4 * L.length) : lR (f k) := by
  obtain ⟨h1, h2⟩ := h.bnd hB (i := k / 4) (by omega) (by omega)
  have h1 := h1.b46
  have h2 := h2.b46
  have : k = 4 * (k / 4) ∨ k = 4 * (k / 4) + 1 ∨ k = 4 * (k / 4) + 2 ∨ k = 4 * (k / 4) + 3 := by omega
  rcases this with e | e | e | e <;> rw [e] <;> exact ⟨by omega, by omega⟩
