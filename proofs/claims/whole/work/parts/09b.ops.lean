/-! what the calls do to the state, as both sides do it -/
abbrev nmP (t : Int) : Prop := 0 ≤ t ∧ t < 12
noncomputable def cdec (p : Prop) : Decidable p := Classical.propDecidable p
def compF (A B : List Q4) : List Q4 := redF (prodF A B)
def opThen (maps : Int → List Q4) (t x y : Int) : Int × (Int → List Q4) :=
  if nmP t ∧ thP maps x ∧ thP maps y then (if (compF (maps x) (maps y)).length ≤ 24 then (((compF (maps x) (maps y)).length : Int), iup maps t (compF (maps x) (maps y))) else (-104, maps)) else (-101, maps)
def opTurn (maps : Int → List Q4) (t x : Int) : Int × (Int → List Q4) := if nmP t ∧ thP maps x then (((turnF (maps x)).length : Int), iup maps t (turnF (maps x))) else (-101, maps)
def opStrong (maps : Int → List Q4) (t i : Int) : Int × (Int → List Q4) := if nmP t then (if 0 ≤ i ∧ i ≤ 6 then (((strongF i).length : Int), iup maps t (strongF i)) else (-102, maps)) else (-101, maps)
def opDrop (maps : Int → List Q4) (x : Int) : Int × (Int → List Q4) := if thP maps x then (((maps x).length : Int), iup maps x []) else (-101, maps)
noncomputable def opPair (hand : List Q4) (x y z w : Int) : Int × List Q4 := @ite _ (Lf 23 x y ∧ Lf 23 z w) (cdec _) (if 24 ≤ hand.length then (-104, hand) else ((hand.length : Int) + 1, hand ++ [(x, y, z, w)])) (-102, hand)
noncomputable def opMake (maps : Int → List Q4) (hand : List Q4) (t : Int) : Int × (Int → List Q4) × List Q4 := if nmP t then @ite _ (cutF (turnF hand) ∧ cutF (turnF (turnF hand))) (cdec _) (((redF (turnF (turnF hand))).length : Int), iup maps t (redF (turnF (turnF hand))), []) (-103, maps, hand) else (-101, maps, hand)
def anCommute (maps : Int → List Q4) (x y : Int) : Int := if thP maps x ∧ thP maps y then (if 24 < (compF (maps x) (maps y)).length ∨ 24 < (compF (maps y) (maps x)).length then -104 else if compF (maps x) (maps y) = compF (maps y) (maps x) then 1 else 0) else -101
def powF (B : List Q4) : Nat → Option (List Q4)
  | 0 => some [(0, 0, 0, 0)]
  | n + 1 => match powF B n with
    | none => none
    | some R => if (compF R B).length ≤ 24 then some (compF R B) else none
def opPower (maps : Int → List Q4) (t x k : Int) : Int × (Int → List Q4) :=
  if nmP t ∧ thP maps x then (if -12 ≤ k ∧ k ≤ 12 then (match powF (if k < 0 then turnF (maps x) else maps x) k.natAbs with
    | some R => ((R.length : Int), iup maps t R)
    | none => (-104, maps)) else (-102, maps)) else (-101, maps)
def ordG (B : List Q4) : Nat → Int → List Q4 → Int
  | 0, _, _ => 0
  | n + 1, k, R => if (compF R B).length ≤ 24 then (if (compF R B).length = 1 then k else ordG B n (k + 1) (compF R B)) else 0
def anOrder (maps : Int → List Q4) (x : Int) : Int := if thP maps x then ordG (maps x) 40 1 [(0, 0, 0, 0)] else -101
/-- the point behind: counted by 2^53 -/
def goC (q : Q4) (d c : Int) : Int := q.2.2.2 * 2 ^ (53 - q.2.2.1).toNat + (c * 2 ^ (30 - d).toNat - q.2.1 * 2 ^ (30 - q.1).toNat) * 2 ^ (23 + q.1 - q.2.2.1).toNat
abbrev goP (d c : Int) : Prop := 0 ≤ d ∧ d ≤ 30 ∧ 0 ≤ c ∧ c < 2 ^ d.toNat
theorem go_c {d c : Int} (h : goP d c) : 0 ≤ c * 2 ^ (30 - d).toNat ∧ c * 2 ^ (30 - d).toNat < 1073741824 := by
  obtain ⟨h1, h2, h3, h4⟩ := h
  have e : (2 : Int) ^ d.toNat * 2 ^ (30 - d).toNat = 1073741824 := by
    rw [← Int.pow_add, show d.toNat + (30 - d).toNat = 30 by omega]
    rfl
  have hp := two_pow_pos (30 - d).toNat
  have h5 : (c + 1) * 2 ^ (30 - d).toNat ≤ 2 ^ d.toNat * 2 ^ (30 - d).toNat := Int.mul_le_mul_of_nonneg_right (by omega) (by omega)
  have h6 : 0 ≤ c * 2 ^ (30 - d).toNat := Int.mul_nonneg h3 (by omega)
  have h7 : (c + 1) * 2 ^ (30 - d).toNat = c * 2 ^ (30 - d).toNat + 2 ^ (30 - d).toNat := by rw [Int.add_mul, Int.one_mul]
  omega
theorem st1_30 {q : Q4} (h : LQ 23 q) : q.2.1 * 2 ^ (30 - q.1).toNat = st1 q * 128 ∧ (q.2.1 + 1) * 2 ^ (30 - q.1).toNat = en1 q * 128 := by
  have h1 := h.1.b23
  have e : (2 : Int) ^ (30 - q.1).toNat = 2 ^ (23 - q.1).toNat * 128 := by
    rw [show (30 - q.1).toNat = (23 - q.1).toNat + 7 by omega, Int.pow_add]
    rfl
  unfold st1 en1
  rw [e, ← Int.mul_assoc, ← Int.mul_assoc]
  exact ⟨rfl, rfl⟩
theorem goC_b {q : Q4} {d c : Int} (h : LQ 23 q) (hg : goP d c) (h1 : st1 q ≤ c * 2 ^ (30 - d).toNat / 128) (h2 : c * 2 ^ (30 - d).toNat / 128 < en1 q) : 0 ≤ goC q d c ∧ goC q d c < 9007199254740992 := by
  obtain ⟨e1, e2⟩ := st1_30 h
  have b1 := h.1.b23
  have b2 := h.2.b23
  have hc := go_c hg
  have p0 : 0 ≤ c * 2 ^ (30 - d).toNat - q.2.1 * 2 ^ (30 - q.1).toNat := by omega
  have p1 : c * 2 ^ (30 - d).toNat - q.2.1 * 2 ^ (30 - q.1).toNat < 2 ^ (30 - q.1).toNat := by
    have : (q.2.1 + 1) * 2 ^ (30 - q.1).toNat = q.2.1 * 2 ^ (30 - q.1).toNat + 2 ^ (30 - q.1).toNat := by rw [Int.add_mul, Int.one_mul]
    omega
  have k1 := two_pow_pos (23 + q.1 - q.2.2.1).toNat
  have k2 := two_pow_pos (53 - q.2.2.1).toNat
  have e3 : (2 : Int) ^ (30 - q.1).toNat * 2 ^ (23 + q.1 - q.2.2.1).toNat = 2 ^ (53 - q.2.2.1).toNat := by
    rw [← Int.pow_add, show (30 - q.1).toNat + (23 + q.1 - q.2.2.1).toNat = (53 - q.2.2.1).toNat by omega]
  have m1 : 0 ≤ (c * 2 ^ (30 - d).toNat - q.2.1 * 2 ^ (30 - q.1).toNat) * 2 ^ (23 + q.1 - q.2.2.1).toNat := Int.mul_nonneg p0 (by omega)
  have m2 : (c * 2 ^ (30 - d).toNat - q.2.1 * 2 ^ (30 - q.1).toNat) * 2 ^ (23 + q.1 - q.2.2.1).toNat < 2 ^ (30 - q.1).toNat * 2 ^ (23 + q.1 - q.2.2.1).toNat := Int.mul_lt_mul_of_pos_right p1 (by omega)
  have m3 : 0 ≤ q.2.2.2 * 2 ^ (53 - q.2.2.1).toNat := Int.mul_nonneg b2.2.2.1 (by omega)
  have m4 : (q.2.2.2 + 1) * 2 ^ (53 - q.2.2.1).toNat ≤ 2 ^ q.2.2.1.toNat * 2 ^ (53 - q.2.2.1).toNat := Int.mul_le_mul_of_nonneg_right (by have := h.2.2.2.2; omega) (by omega)
  have e4 : (2 : Int) ^ q.2.2.1.toNat * 2 ^ (53 - q.2.2.1).toNat = 9007199254740992 := by
    rw [← Int.pow_add, show q.2.2.1.toNat + (53 - q.2.2.1).toNat = 53 by omega]
    rfl
  have e5 : (q.2.2.2 + 1) * 2 ^ (53 - q.2.2.1).toNat = q.2.2.2 * 2 ^ (53 - q.2.2.1).toNat + 2 ^ (53 - q.2.2.1).toNat := by rw [Int.add_mul, Int.one_mul]
  unfold goC
  omega
theorem VM.comp {A B : List Q4} (hA : VM A) (hB : VM B) (h : (compF A B).length ≤ 24) : VM (compF A B) := VM.red hA hB h
theorem VM.compB {A B : List Q4} (hA : VM A) (hB : VM B) : ∀ q ∈ compF A B, LQ 46 q := redF_B _ _ (fun x h => absurd h List.not_mem_nil) (VM.prod_B hA hB)
theorem strongF_len {i : Int} (h : 0 ≤ i) : ((strongF i).length : Int) = i + 3 := by
  unfold strongF
  rw [List.length_append, strongP_len]
  simp only [List.length_cons, List.length_nil]
  omega
theorem mpA_b (o : Nat) {t : Int} (h : 0 ≤ t ∧ t < 12) : o + 2 ≤ mpA o t ∧ mpA o t + 5 ≤ o + 62 := by unfold mpA; omega
theorem powF_s {B R : List Q4} {n : Int} (h0 : 0 ≤ n) (h : powF B n.toNat = some R) : powF B (n + 1).toNat = if (compF R B).length ≤ 24 then some (compF R B) else none := by
  rw [show (n + 1).toNat = n.toNat + 1 by omega]
  show (match powF B n.toNat with
    | none => none
    | some R => if (compF R B).length ≤ 24 then some (compF R B) else none) = _
  rw [h]
theorem powF_none {B : List Q4} {n : Nat} (h : powF B n = none) : ∀ k : Nat, powF B (n + k) = none
  | 0 => h
  | k + 1 => by
    show (match powF B (n + k) with
      | none => none
      | some R => if (compF R B).length ≤ 24 then some (compF R B) else none) = none
    rw [powF_none h k]
theorem ordG_s (B R : List Q4) {k : Int} (h : k ≤ 40) : ordG B (41 - k).toNat k R = if (compF R B).length ≤ 24 then (if (compF R B).length = 1 then k else ordG B (41 - (k + 1)).toNat (k + 1) (compF R B)) else 0 := by
  rw [show (41 - k).toNat = (41 - (k + 1)).toNat + 1 by omega]
  rfl
theorem powF_len {B R : List Q4} {n : Nat} (h : powF B n = some R) : R.length ≤ 24 := by
  cases n with
  | zero => cases h; decide
  | succ n =>
    have e : powF B (n + 1) = (match powF B n with
      | none => none
      | some R => if (compF R B).length ≤ 24 then some (compF R B) else none) := rfl
    rw [e] at h
    cases hp : powF B n with
    | none => rw [hp] at h; cases h
    | some S =>
      rw [hp] at h
      by_cases c : (compF S B).length ≤ 24
      · simp only [if_pos c, Option.some.injEq] at h
        rw [← h]; exact c
      · simp only [if_neg c] at h
        cases h
theorem ho1 {B : List Q4} (h : cutF B) (hB : ∀ q ∈ B, LQ 23 q) {x : Int} {j0 : Int} (h0 : 0 ≤ j0) (h1 : j0 < B.length) (hx : x < 8388608) (hk : ∀ k, j0 < k → k < (B.length : Int) → x < st1 (qat B k)) : x < en1 (qat B j0) := by
  by_cases h5 : j0 + 1 < B.length
  · rw [cut_s h h0 h5]; exact hk _ (by omega) h5
  · rw [show j0 = (B.length : Int) - 1 by omega, cut_e h]; exact hx
