theorem PL.ob {G : Gx} {H : Heap} {a cap : Nat} {L : List Q4} (h : PL G H a cap L) : ob G a 2 [.ref (a + 1), .ref (a + 2), .ref (a + 3), .ref (a + 4), .int (zI (L.length : Int))] H := by
  obtain ⟨d, c, e, b, h1, h2⟩ := h
  exact h1.1
theorem PL.cap {G : Gx} {H : Heap} {a cap : Nat} {L : List Q4} (h : PL G H a cap L) : L.length ≤ cap := by
  obtain ⟨d, c, e, b, h1, h2, h3⟩ := h
  exact h3
theorem take_s {α : Type} (L : List α) {i : Int} (h0 : 0 ≤ i) (h1 : i < L.length) (x : α) : L.take (i + 1).toNat = L.take i.toNat ++ [L.getD i.toNat x] := by
  rw [show (i + 1).toNat = i.toNat + 1 by omega, List.take_succ_eq_append_getElem (by omega)]
  congr 2
  rw [List.getD_eq_getElem?_getD, List.getElem?_eq_getElem (by omega)]
  rfl
theorem take_q (L : List Q4) {i : Int} (h0 : 0 ≤ i) (h1 : i < L.length) : L.take (i + 1).toNat = L.take i.toNat ++ [qat L i] := take_s L h0 h1 _
theorem drop_q (L : List Q4) {i : Int} (h0 : 0 ≤ i) (h1 : i < L.length) : L.drop i.toNat = qat L i :: L.drop (i + 1).toNat := by
  rw [show (i + 1).toNat = i.toNat + 1 by omega, List.drop_eq_getElem_cons (by omega)]
  congr 1
  unfold qat
  rw [List.getD_eq_getElem?_getD, List.getElem?_eq_getElem (by omega)]
  rfl
theorem take_all (L : List Q4) {i : Int} (h : (L.length : Int) ≤ i) : L.take i.toNat = L := List.take_of_length_le (by omega)
theorem drop_all (L : List Q4) {i : Int} (h : (L.length : Int) ≤ i) : L.drop i.toNat = [] := List.drop_of_length_le (by omega)
theorem take_len (L : List Q4) {i : Int} (h0 : 0 ≤ i) (h1 : i ≤ L.length) : ((L.take i.toNat).length : Int) = i := by
  rw [List.length_take]; omega
theorem qat_ext {L M : List Q4} (hl : L.length = M.length) (h : ∀ i : Int, 0 ≤ i → i < L.length → qat L i = qat M i) : L = M := by
  apply List.ext_getElem hl
  intro i h1 h2
  have := h (i : Int) (by omega) (by omega)
  unfold qat at this
  rw [List.getD_eq_getElem?_getD, List.getD_eq_getElem?_getD, show (i : Int).toNat = i by omega, List.getElem?_eq_getElem h1, List.getElem?_eq_getElem h2] at this
  exact this
/-! a cut, from left to right -/
def cutAt : Int → List Q4 → Prop
  | r, [] => r = 8388608
  | r, q :: T => st1 q = r ∧ cutAt (en1 q) T
def cutF (L : List Q4) : Prop := cutAt 0 L
/-! the digest -/
def hmix1 (h : Int) (q : Q4) : Int := 31 * (31 * (31 * (31 * h + q.1) + q.2.1) + q.2.2.1) + q.2.2.2
def hmix (h : Int) (L : List Q4) : Int := L.foldl hmix1 h
/-! the kinds of maps -/
def inO (L : List Q4) (n : Int) : Prop := ∀ j : Int, 1 ≤ j → j < n → st2 (qat L j) = en2 (qat L (j - 1))
def rnD (L : List Q4) (n : Int) : Prop := ∀ j : Int, 1 ≤ j → j < n → st2 (qat L j) = if en2 (qat L (j - 1)) = 8388608 then 0 else en2 (qat L (j - 1))
noncomputable def kindF (L : List Q4) : Int := @ite _ (inO L L.length) (Classical.propDecidable _) 0 (@ite _ (rnD L L.length) (Classical.propDecidable _) 1 2)
theorem inO_s {L : List Q4} {n : Int} : (inO L n ∧ (1 ≤ n → st2 (qat L n) = en2 (qat L (n - 1)))) ↔ inO L (n + 1) := by
  constructor
  · intro ⟨h1, h2⟩ j h3 h4
    by_cases e : j = n
    · subst e; exact h2 h3
    · exact h1 j h3 (by omega)
  · intro h
    exact ⟨fun j h1 h2 => h j h1 (by omega), fun h1 => h n h1 (by omega)⟩
theorem rnD_s {L : List Q4} {n : Int} : (rnD L n ∧ (1 ≤ n → st2 (qat L n) = if en2 (qat L (n - 1)) = 8388608 then 0 else en2 (qat L (n - 1)))) ↔ rnD L (n + 1) := by
  constructor
  · intro ⟨h1, h2⟩ j h3 h4
    by_cases e : j = n
    · subst e; exact h2 h3
    · exact h1 j h3 (by omega)
  · intro h
    exact ⟨fun j h1 h2 => h j h1 (by omega), fun h1 => h n h1 (by omega)⟩
/-! the strong ones -/
def strongP (n : Int) : List Q4 := (List.range n.toNat).map (fun k : Nat => (((k : Int) + 1, (2 : Int) ^ (k + 1) - 2, (k : Int) + 1, (2 : Int) ^ (k + 1) - 2) : Q4))
def strongF (i : Int) : List Q4 := strongP i ++ [(i + 1, 2 * (2 ^ i.toNat - 1), i + 2, 4 * (2 ^ i.toNat - 1)), (i + 2, 4 * (2 ^ i.toNat - 1) + 2, i + 2, 4 * (2 ^ i.toNat - 1) + 1), (i + 2, 4 * (2 ^ i.toNat - 1) + 3, i + 1, 2 * (2 ^ i.toNat - 1) + 1)]
theorem strongP_s {n : Int} (h : 1 ≤ n) : strongP n = strongP (n - 1) ++ [(n, 2 ^ n.toNat - 2, n, 2 ^ n.toNat - 2)] := by
  unfold strongP
  rw [show n.toNat = (n - 1).toNat + 1 by omega, List.range_succ, List.map_append, List.map_singleton, show (((n - 1).toNat : Nat) : Int) + 1 = n by omega]
theorem strongP_len (n : Int) : (strongP n).length = n.toNat := by unfold strongP; rw [List.length_map, List.length_range]
/-! one behind the other -/
def pieceF (x y : Q4) : Q4 :=
  if 0 ≤ y.1 - x.2.2.1 then (x.1 + (y.1 - x.2.2.1), x.2.1 * 2 ^ (y.1 - x.2.2.1).toNat + (y.2.1 - x.2.2.2 * 2 ^ (y.1 - x.2.2.1).toNat), y.2.2.1, y.2.2.2)
  else (x.1, x.2.1, y.2.2.1 - (y.1 - x.2.2.1), y.2.2.2 * 2 ^ (-(y.1 - x.2.2.1)).toNat + (x.2.2.2 - y.2.1 * 2 ^ (-(y.1 - x.2.2.1)).toNat))
abbrev ovl (x y : Q4) : Prop := st1 y < en2 x ∧ st2 x < en1 y
def rowF (x : Q4) (B : List Q4) : List Q4 := (B.filter (fun y => decide (ovl x y))).map (pieceF x)
def prodF (A B : List Q4) : List Q4 := A.flatMap (fun x => rowF x B)
/-- the first leaves stand from left to right and apart, from 0 on -/
def ltr (B : List Q4) : Prop := (∀ i j : Int, 0 ≤ i → i < j → j < B.length → en1 (qat B i) ≤ st1 (qat B j)) ∧ st1 (qat B 0) = 0
theorem redF_len (P S : List Q4) : (P.foldl pushL S).length ≤ S.length + P.length := by
  induction P generalizing S with
  | nil => exact Nat.le_refl _
  | cons q P ih =>
    have h1 := ih (pushL S q)
    have h2 := pushL_len S q
    simp only [List.foldl_cons, List.length_cons]
    omega
theorem redF_B {N : Int} (P S : List Q4) (hS : ∀ x ∈ S, LQ N x) (hP : ∀ x ∈ P, LQ N x) : ∀ x ∈ P.foldl pushL S, LQ N x := by
  induction P generalizing S with
  | nil => exact hS
  | cons q P ih => exact ih _ (pushL_B hS (hP q List.mem_cons_self)) (fun x hx => hP x (List.mem_cons_of_mem _ hx))
theorem rowF_app (x : Q4) (B C : List Q4) : rowF x (B ++ C) = rowF x B ++ rowF x C := by unfold rowF; rw [List.filter_append, List.map_append]
theorem rowF_no {x : Q4} {B : List Q4} (h : ∀ y ∈ B, ¬ ovl x y) : rowF x B = [] := by
  unfold rowF
  rw [List.filter_eq_nil_iff.mpr (fun y hy => by simpa using h y hy)]
  rfl
theorem rowF_1 {x y : Q4} (h : ovl x y) : rowF x [y] = [pieceF x y] := by
  unfold rowF
  rw [List.filter_cons_of_pos (by simpa using h)]
  rfl
theorem rowF_pre (x : Q4) (B : List Q4) (j : Int) : ∃ T, rowF x B = rowF x (B.take j.toNat) ++ T := by
  refine ⟨rowF x (B.drop j.toNat), ?_⟩
  rw [← rowF_app, List.take_append_drop]
theorem prodF_s {A B : List Q4} {i : Int} (h0 : 0 ≤ i) (h1 : i < A.length) : prodF (A.take (i + 1).toNat) B = prodF (A.take i.toNat) B ++ rowF (qat A i) B := by
  unfold prodF
  rw [take_q A h0 h1, List.flatMap_append]
  simp
theorem prodF_pre {A B : List Q4} {i : Int} (h0 : 0 ≤ i) (h1 : i < A.length) : ∃ T, prodF A B = prodF (A.take i.toNat) B ++ (rowF (qat A i) B ++ T) := by
  refine ⟨prodF (A.drop (i + 1).toNat) B, ?_⟩
  rw [← List.append_assoc, ← prodF_s h0 h1]
  unfold prodF
  rw [← List.flatMap_append, List.take_append_drop]
theorem en1_gt {q : Q4} (h : LQ 23 q) : st1 q < en1 q := h.1.st.2.2.2.2
theorem ltr.lt {B : List Q4} (h : ltr B) (hB : ∀ q ∈ B, LQ 23 q) {i j : Int} (h0 : 0 ≤ i) (h1 : i < j) (h2 : j < B.length) : st1 (qat B i) < st1 (qat B j) := Int.lt_of_lt_of_le (en1_gt (hB _ (qat_mem h0 (by omega)))) (h.1 i j h0 h1 h2)
/-- ahead of the holder nothing overlaps -/
theorem rowF_before {x : Q4} {B : List Q4} (hl : ltr B) {h : Int} (h0 : 0 ≤ h) (h1 : h < B.length) (hs : st1 (qat B h) ≤ st2 x) : rowF x (B.take h.toNat) = [] := by
  apply rowF_no
  intro y hy ho
  obtain ⟨k, hk, rfl⟩ := List.mem_iff_getElem.mp hy
  rw [List.length_take] at hk
  have e : (B.take h.toNat)[k]'(by rw [List.length_take]; exact hk) = qat B (k : Int) := by
    unfold qat
    rw [List.getElem_take, List.getD_eq_getElem?_getD, show (k : Int).toNat = k by omega, List.getElem?_eq_getElem (by omega)]
    rfl
  rw [e] at ho
  have := hl.1 (k : Int) h (by omega) (by omega) h1
  have := ho.2
  omega
/-- from where a leaf starts behind the end, nothing overlaps -/
theorem rowF_after {x : Q4} {B : List Q4} (hl : ltr B) (hB : ∀ q ∈ B, LQ 23 q) {j : Int} (h0 : 0 ≤ j) (hj : j < B.length → en2 x ≤ st1 (qat B j)) : rowF x (B.drop j.toNat) = [] := by
  apply rowF_no
  intro y hy ho
  obtain ⟨k, hk, rfl⟩ := List.mem_iff_getElem.mp hy
  rw [List.length_drop] at hk
  have e : (B.drop j.toNat)[k]'(by rw [List.length_drop]; exact hk) = qat B (j + k : Int) := by
    unfold qat
    rw [List.getElem_drop, List.getD_eq_getElem?_getD, show (j + k : Int).toNat = j.toNat + k by omega, List.getElem?_eq_getElem (by omega)]
    rfl
  rw [e] at ho
  have h3 := hj (by omega)
  have h4 : st1 (qat B j) ≤ st1 (qat B (j + k : Int)) := by
    by_cases hk0 : k = 0
    · subst hk0; rw [show (j + (0 : Nat) : Int) = j by omega]; exact Int.le_refl _
    · exact Int.le_of_lt (hl.lt hB h0 (by omega) (by omega))
  have := ho.1
  omega
theorem turnF_aux (L S : List Q4) : (L.foldl (fun S q => insL S (swp4 q)) S).length = S.length + L.length := by
  induction L generalizing S with
  | nil => rfl
  | cons q L ih => rw [List.foldl_cons, ih, insL_len, List.length_cons]; omega
theorem turnF_len (L : List Q4) : (turnF L).length = L.length := by unfold turnF; rw [turnF_aux]; simp
theorem turnF_auxB {N : Int} (L S : List Q4) (hS : ∀ x ∈ S, LQ N x) (hL : ∀ x ∈ L, LQ N x) : ∀ x ∈ L.foldl (fun S q => insL S (swp4 q)) S, LQ N x := by
  induction L generalizing S with
  | nil => exact hS
  | cons q L ih =>
    exact ih _ (fun x hx => by
      rcases insL_mem hx with rfl | h
      · exact (hL q List.mem_cons_self).swp
      · exact hS x h) (fun x hx => hL x (List.mem_cons_of_mem _ hx))
theorem turnF_B {N : Int} {L : List Q4} (hL : ∀ x ∈ L, LQ N x) : ∀ x ∈ turnF L, LQ N x := turnF_auxB L [] (fun x h => absurd h List.not_mem_nil) hL
/-! a cut, place by place -/
theorem cut_at : ∀ (B : List Q4) (r : Int) (q : Q4), cutAt r (q :: B) → st1 q = r ∧ (∀ j : Int, 0 ≤ j → j + 1 < (q :: B).length → en1 (qat (q :: B) j) = st1 (qat (q :: B) (j + 1))) ∧ en1 (qat (q :: B) ((q :: B).length - 1)) = 8388608
  | [], r, q, h => ⟨h.1, fun j h0 h1 => absurd h1 (by simp only [List.length_cons, List.length_nil]; omega), h.2⟩
  | x :: B, r, q, h => by
    obtain ⟨h1, h2, h3⟩ := cut_at B (en1 q) x h.2
    refine ⟨h.1, fun j h0 hj => ?_, ?_⟩
    · by_cases c : j = 0
      · subst c; exact h1.symm
      · rw [qat_s (q := q) (i := j) (by omega), qat_s (q := q) (i := j + 1) (by omega), show j + 1 - 1 = (j - 1) + 1 by omega]
        exact h2 (j - 1) (by omega) (by simp only [List.length_cons] at hj ⊢; omega)
    · rw [qat_s (by simp only [List.length_cons]; omega), show ((q :: x :: B).length : Int) - 1 - 1 = ((x :: B).length : Int) - 1 by simp only [List.length_cons]; omega]
      exact h3
theorem cut_ne {B : List Q4} (h : cutF B) : 1 ≤ B.length := by
  cases B with
  | nil => exact absurd (show (0 : Int) = 8388608 from h) (by decide)
  | cons q T => simp
theorem cut_0 {B : List Q4} (h : cutF B) : st1 (qat B 0) = 0 := by
  cases B with
  | nil => exact absurd (show (0 : Int) = 8388608 from h) (by decide)
  | cons q T => exact (cut_at T 0 q h).1
theorem cut_s {B : List Q4} (h : cutF B) {j : Int} (h0 : 0 ≤ j) (h1 : j + 1 < B.length) : en1 (qat B j) = st1 (qat B (j + 1)) := by
  cases B with
  | nil => simp at h1; omega
  | cons q T => exact (cut_at T 0 q h).2.1 j h0 h1
theorem cut_e {B : List Q4} (h : cutF B) : en1 (qat B (B.length - 1)) = 8388608 := by
  cases B with
  | nil => exact absurd (show (0 : Int) = 8388608 from h) (by decide)
  | cons q T => exact (cut_at T 0 q h).2.2
theorem cut_ltr {B : List Q4} (h : cutF B) (hB : ∀ q ∈ B, LQ 23 q) : ltr B := by
  refine ⟨?_, cut_0 h⟩
  have key : ∀ (n : Nat) (i : Int), 0 ≤ i → i + n + 1 < B.length → en1 (qat B i) ≤ st1 (qat B (i + n + 1)) := by
    intro n
    induction n with
    | zero => intro i h0 h1; rw [show i + (0 : Nat) + 1 = i + 1 by omega]; rw [cut_s h h0 (by omega)]; exact Int.le_refl _
    | succ n ih =>
      intro i h0 h1
      have h2 := ih i h0 (by omega)
      have h3 := en1_gt (hB _ (qat_mem (L := B) (i := i + n + 1) (by omega) (by omega)))
      have h4 := cut_s h (j := i + n + 1) (by omega) (by omega)
      rw [show i + ((n + 1 : Nat) : Int) + 1 = i + n + 1 + 1 by omega, ← h4]
      omega
  intro i j h0 h1 h2
  have := key (j - i - 1).toNat i h0 (by omega)
  rw [show i + ((j - i - 1).toNat : Int) + 1 = j by omega] at this
  exact this
/-- from the holder on the leaves end behind the place -/
theorem hov_of {B : List Q4} (h : cutF B) (hB : ∀ q ∈ B, LQ 23 q) {x : Q4} {j0 : Int} (h0 : 0 ≤ j0) (h1 : j0 < B.length) (hx : st2 x < 8388608) (hk : ∀ k, j0 < k → k < (B.length : Int) → st2 x < st1 (qat B k)) : ∀ k, j0 ≤ k → k < (B.length : Int) → st2 x < en1 (qat B k) := by
  intro k h2 h3
  rcases Int.lt_or_eq_of_le h2 with h4 | h4
  · exact Int.lt_trans (hk k h4 h3) (en1_gt (hB _ (qat_mem (by omega) h3)))
  · subst h4
    by_cases h5 : j0 + 1 < B.length
    · rw [cut_s h h0 h5]; exact hk _ (by omega) h5
    · rw [show j0 = (B.length : Int) - 1 by omega, cut_e h]; exact hx
