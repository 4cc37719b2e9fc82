/-! depths are bounded by the count -/
def sumP : List Nat → Nat
  | [] => 0
  | a :: T => 2 ^ a + sumP T
theorem sumP_perm {L M : List Nat} (h : L.Perm M) : sumP L = sumP M := by
  induction h with
  | nil => rfl
  | cons x _ ih => show 2 ^ x + _ = 2 ^ x + _; rw [ih]
  | swap x y l => show 2 ^ y + (2 ^ x + sumP l) = 2 ^ x + (2 ^ y + sumP l); omega
  | trans _ _ a b => rw [a, b]
theorem sumP_dvd {k : Nat} : ∀ {L : List Nat}, (∀ a ∈ L, k ≤ a) → 2 ^ k ∣ sumP L
  | [], _ => Nat.dvd_zero _
  | a :: T, h => Nat.dvd_add (Nat.pow_dvd_pow 2 (h a List.mem_cons_self)) (sumP_dvd (fun x hx => h x (List.mem_cons_of_mem _ hx)))
theorem least : ∀ (L : List Nat), L ≠ [] → ∃ m ∈ L, ∀ x ∈ L, m ≤ x
  | [], h => absurd rfl h
  | [a], _ => ⟨a, List.mem_cons_self, fun x hx => by rw [List.mem_singleton.mp hx]; exact Nat.le_refl _⟩
  | a :: b :: T, _ => by
    obtain ⟨m, hm, h⟩ := least (b :: T) (by simp)
    by_cases c : a ≤ m
    · refine ⟨a, List.mem_cons_self, fun x hx => ?_⟩
      rcases List.mem_cons.mp hx with e | e
      · omega
      · have := h x e; omega
    · refine ⟨m, List.mem_cons_of_mem _ hm, fun x hx => ?_⟩
      rcases List.mem_cons.mp hx with e | e
      · omega
      · exact h x e
theorem kraft : ∀ (n : Nat) (L : List Nat) (A : Nat), L.length = n + 1 → 2 ^ A ∣ sumP L → ∀ a ∈ L, A ≤ a + n
  | 0, L, A, hl, hd, a, ha => by
    match L, hl with
    | [b], _ =>
      rw [List.mem_singleton.mp ha]
      have : 2 ^ A ∣ 2 ^ b := by have h : sumP [b] = 2 ^ b := Nat.add_zero _; rw [h] at hd; exact hd
      exact (Nat.pow_dvd_pow_iff_le_right (by decide)).mp this
  | n + 1, L, A, hl, hd, a, ha => by
    obtain ⟨m, hm, hmin⟩ := least L (by intro e; rw [e] at hl; simp at hl)
    have hma := hmin a ha
    have pL := List.perm_cons_erase hm
    have lL := pL.length_eq
    rw [List.length_cons] at lL
    rcases Nat.lt_or_ge m A with g | g
    · have hdm : 2 ^ (m + 1) ∣ sumP L := Nat.dvd_trans (Nat.pow_dvd_pow 2 g) hd
      rw [sumP_perm pL] at hdm
      have hmT : m ∈ L.erase m := by
        refine Classical.byContradiction fun no => ?_
        have hT : ∀ x ∈ L.erase m, m + 1 ≤ x := fun x hx => by
          have h1 := hmin x (pL.mem_iff.mpr (List.mem_cons_of_mem _ hx))
          have h2 : x ≠ m := fun e => no (by subst e; exact hx)
          omega
        have h3 := sumP_dvd hT
        have h4 : 2 ^ (m + 1) ∣ 2 ^ m := (Nat.dvd_add_iff_left h3).mpr hdm
        have h5 := (Nat.pow_dvd_pow_iff_le_right (x := 2) (k := m + 1) (l := m) (by decide)).mp h4
        omega
      have pT := List.perm_cons_erase hmT
      have lT := pT.length_eq
      rw [List.length_cons] at lT
      have hs : sumP L = sumP ((m + 1) :: (L.erase m).erase m) := by
        rw [sumP_perm (pL.trans (pT.cons m))]
        show 2 ^ m + (2 ^ m + sumP _) = 2 ^ (m + 1) + sumP _
        rw [Nat.pow_succ]; omega
      rw [hs] at hd
      have := kraft n ((m + 1) :: (L.erase m).erase m) A (by rw [List.length_cons]; omega) hd (m + 1) List.mem_cons_self
      omega
    · omega
theorem run_sum : ∀ {L : List Q4} {r s : Int}, run46 r L s → (sumP (L.map (fun q => (46 - q.1).toNat)) : Int) = s - r
  | [], r, s, h => by have h : r = s := h; show (0 : Int) = _; omega
  | q :: T, r, s, h => by
    have ih := run_sum h.2
    show ((2 ^ (46 - q.1).toNat + sumP _ : Nat) : Int) = _
    have e : ((2 ^ (46 - q.1).toNat : Nat) : Int) = wd46 q.1 := by rw [Int.natCast_pow]; rfl
    rw [Int.natCast_add, e, ih]; omega
theorem cut_depth {L : List Q4} (h : cut46 0 L) {q : Q4} (hq : q ∈ L) (hB : LQ 46 q) : q.1 ≤ L.length - 1 := by
  have hs := run_sum (run_cut.mp h)
  have hs2 : sumP (L.map (fun q => (46 - q.1).toNat)) = 2 ^ 46 := by
    have : (2 : Nat) ^ 46 = 70368744177664 := rfl
    omega
  have hl := List.length_pos_of_mem hq
  have := kraft (L.length - 1) _ 46 (by rw [List.length_map]; omega) (by rw [hs2]; exact Nat.dvd_refl _) _ (List.mem_map_of_mem (f := fun q : Q4 => (46 - q.1).toNat) hq)
  have := hB.1.1
  have := hB.1.2.1
  omega
theorem cov_depth {L : List Q4} (hB : ∀ q ∈ L, LQ 46 q) (h : cov1 L) {q : Q4} (hq : q ∈ L) : q.1 ≤ L.length - 1 := by
  have := cut_depth (arr_cut hB h) ((arr_perm L).mem_iff.mpr hq) (hB q hq)
  rw [arr_len] at this
  exact this
theorem swp_swp (q : Q4) : swp4 (swp4 q) = q := rfl
theorem cov2_depth {L : List Q4} (hB : ∀ q ∈ L, LQ 46 q) (h : cov2 L) {q : Q4} (hq : q ∈ L) : q.2.2.1 ≤ L.length - 1 := by
  have := cov_depth (L := L.map swp4) (fun x hx => by obtain ⟨y, hy, rfl⟩ := List.mem_map.mp hx; exact (hB y hy).swp) (cov_swp.mpr h) (List.mem_map_of_mem hq)
  rw [List.length_map] at this
  exact this
theorem div_div {x y z : Int} (h : 0 ≤ y) : x / y / z = x / (y * z) := by
  rw [Int.ediv_ediv, if_neg (by omega), Int.sub_zero]
/-! the product covers -/
theorem ovl_1 {x y : Q4} (hx : LQ 23 x) (hy : LQ 23 y) (h : y.1 ≤ x.2.2.1) : ovl x y ↔ x.2.2.2 / 2 ^ (x.2.2.1 - y.1).toNat = y.2.1 := by
  have b1 := hx.2.b23
  have b2 := hy.1.b23
  have e : (2 : Int) ^ (23 - y.1).toNat = 2 ^ (x.2.2.1 - y.1).toNat * 2 ^ (23 - x.2.2.1).toNat := by
    rw [← Int.pow_add, show (x.2.2.1 - y.1).toNat + (23 - x.2.2.1).toNat = (23 - y.1).toNat by omega]
  have p1 := two_pow_pos (23 - x.2.2.1).toNat
  have p2 := two_pow_pos (x.2.2.1 - y.1).toNat
  rw [div_iff (by omega)]
  unfold ovl st1 st2 en1 en2
  rw [e, ← Int.mul_assoc, ← Int.mul_assoc, sc_lt (by omega), sc_lt (by omega)]
theorem ovl_2 {x y : Q4} (hx : LQ 23 x) (hy : LQ 23 y) (h : x.2.2.1 ≤ y.1) : ovl x y ↔ y.2.1 / 2 ^ (y.1 - x.2.2.1).toNat = x.2.2.2 := by
  have b1 := hx.2.b23
  have b2 := hy.1.b23
  have e : (2 : Int) ^ (23 - x.2.2.1).toNat = 2 ^ (y.1 - x.2.2.1).toNat * 2 ^ (23 - y.1).toNat := by
    rw [← Int.pow_add, show (y.1 - x.2.2.1).toNat + (23 - y.1).toNat = (23 - x.2.2.1).toNat by omega]
  have p1 := two_pow_pos (23 - y.1).toNat
  have p2 := two_pow_pos (y.1 - x.2.2.1).toNat
  rw [div_iff (by omega)]
  unfold ovl st1 st2 en1 en2
  rw [e, ← Int.mul_assoc, ← Int.mul_assoc, sc_lt (by omega), sc_lt (by omega)]
  exact And.comm
/-- the point behind: from the first leaf onto the second -/
def trp (x : Q4) (y : Int) : Int := lo46 x.2.2.1 x.2.2.2 + (y - lo46 x.1 x.2.1) * wd46 x.2.2.1 / wd46 x.1
theorem trp_in {x : Q4} {y : Int} (h : isIn x.1 x.2.1 y) : isIn x.2.2.1 x.2.2.2 (trp x y) := by
  have h := isIn_iff.mp h
  rw [isIn_iff]
  have w1 := wd46_pos x.1
  have w2 := wd46_pos x.2.2.1
  unfold trp
  have a : 0 ≤ (y - lo46 x.1 x.2.1) * wd46 x.2.2.1 / wd46 x.1 := Int.ediv_nonneg (Int.mul_nonneg (by omega) (by omega)) (by omega)
  have b : (y - lo46 x.1 x.2.1) * wd46 x.2.2.1 / wd46 x.1 < wd46 x.2.2.1 := by
    refine Int.ediv_lt_of_lt_mul (by omega) ?_
    rw [Int.mul_comm (wd46 x.2.2.1)]
    exact Int.mul_lt_mul_of_pos_right (by omega) (by omega)
  omega
theorem trp_mono {x : Q4} {y y' : Int} (h : y ≤ y') : trp x y ≤ trp x y' := by
  have w1 := wd46_pos x.1
  have w2 := wd46_pos x.2.2.1
  unfold trp
  have : (y - lo46 x.1 x.2.1) * wd46 x.2.2.1 / wd46 x.1 ≤ (y' - lo46 x.1 x.2.1) * wd46 x.2.2.1 / wd46 x.1 := Int.ediv_le_ediv (by omega) (Int.mul_le_mul_of_nonneg_right (by omega) (by omega))
  omega
theorem piece_mem {x z : Q4} (hx : LQ 23 x) (hz : LQ 23 z) (y : Int) : (ovl x z ∧ isIn (pieceF x z).1 (pieceF x z).2.1 y) ↔ (isIn x.1 x.2.1 y ∧ isIn z.1 z.2.1 (trp x y)) := by
  have b1 := hx.1.b23
  have b2 := hx.2.b23
  have b3 := hz.1.b23
  by_cases h : x.2.2.1 ≤ z.1
  · have eP : (pieceF x z).1 = x.1 + (z.1 - x.2.2.1) ∧ (pieceF x z).2.1 = x.2.1 * 2 ^ (z.1 - x.2.2.1).toNat + (z.2.1 - x.2.2.2 * 2 ^ (z.1 - x.2.2.1).toNat) := by
      unfold pieceF; rw [if_pos (by omega)]; exact ⟨rfl, rfl⟩
    rw [eP.1, eP.2, ovl_2 hx hz h]
    have pk := two_pow_pos (z.1 - x.2.2.1).toNat
    have pw := two_pow_pos (46 - (x.1 + (z.1 - x.2.2.1))).toNat
    have pf := two_pow_pos (46 - z.1).toNat
    have pe := two_pow_pos (46 - x.2.2.1).toNat
    have e1 : (2 : Int) ^ (46 - x.1).toNat = 2 ^ (z.1 - x.2.2.1).toNat * 2 ^ (46 - (x.1 + (z.1 - x.2.2.1))).toNat := by
      rw [← Int.pow_add, show (z.1 - x.2.2.1).toNat + (46 - (x.1 + (z.1 - x.2.2.1))).toNat = (46 - x.1).toNat by omega]
    have e2 : (2 : Int) ^ (46 - x.2.2.1).toNat = 2 ^ (z.1 - x.2.2.1).toNat * 2 ^ (46 - z.1).toNat := by
      rw [← Int.pow_add, show (z.1 - x.2.2.1).toNat + (46 - z.1).toNat = (46 - x.2.2.1).toNat by omega]
    have e3 : (2 : Int) ^ (46 - x.1).toNat * 2 ^ (46 - z.1).toNat = 2 ^ (46 - (x.1 + (z.1 - x.2.2.1))).toNat * 2 ^ (46 - x.2.2.1).toNat := by
      rw [← Int.pow_add, ← Int.pow_add, show (46 - x.1).toNat + (46 - z.1).toNat = (46 - (x.1 + (z.1 - x.2.2.1))).toNat + (46 - x.2.2.1).toNat by omega]
    obtain ⟨t, ht⟩ : ∃ t, t = y - lo46 x.1 x.2.1 := ⟨_, rfl⟩
    obtain ⟨u, hu⟩ : ∃ u, u = t / 2 ^ (46 - (x.1 + (z.1 - x.2.2.1))).toNat := ⟨_, rfl⟩
    have i1 : y / 2 ^ (46 - (x.1 + (z.1 - x.2.2.1))).toNat = x.2.1 * 2 ^ (z.1 - x.2.2.1).toNat + u := by
      have : y = t + x.2.1 * 2 ^ (z.1 - x.2.2.1).toNat * 2 ^ (46 - (x.1 + (z.1 - x.2.2.1))).toNat := by
        rw [Int.mul_assoc, ← e1]; unfold lo46 at ht; omega
      rw [this, Int.add_mul_ediv_right _ _ (by omega), hu]; omega
    have i2 : trp x y / 2 ^ (46 - z.1).toNat = x.2.2.2 * 2 ^ (z.1 - x.2.2.1).toNat + u := by
      unfold trp
      rw [← ht]
      have : lo46 x.2.2.1 x.2.2.2 = x.2.2.2 * 2 ^ (z.1 - x.2.2.1).toNat * 2 ^ (46 - z.1).toNat := by
        unfold lo46; rw [e2, Int.mul_assoc]
      rw [this, Int.add_comm, Int.add_mul_ediv_right _ _ (by omega)]
      unfold wd46
      rw [div_div (Int.le_trans (by decide) (two_pow_pos _)), e3, Int.mul_ediv_mul_of_pos_left _ _ (by omega), ← hu]
      omega
    have i3 : isIn x.1 x.2.1 y ↔ 0 ≤ u ∧ u < 2 ^ (z.1 - x.2.2.1).toNat := by
      rw [isIn_iff]
      have k1 := Int.le_ediv_iff_mul_le (a := 0) (b := t) (c := 2 ^ (46 - (x.1 + (z.1 - x.2.2.1))).toNat) (by omega)
      have k2 := Int.ediv_lt_iff_lt_mul (a := t) (b := 2 ^ (z.1 - x.2.2.1).toNat) (c := 2 ^ (46 - (x.1 + (z.1 - x.2.2.1))).toNat) (by omega)
      rw [← hu] at k1 k2
      rw [← e1] at k2
      rw [Int.zero_mul] at k1
      rw [k1, k2]
      unfold wd46
      omega
    have i4 : z.2.1 / 2 ^ (z.1 - x.2.2.1).toNat = x.2.2.2 ↔ 0 ≤ z.2.1 - x.2.2.2 * 2 ^ (z.1 - x.2.2.1).toNat ∧ z.2.1 - x.2.2.2 * 2 ^ (z.1 - x.2.2.1).toNat < 2 ^ (z.1 - x.2.2.1).toNat := by
      rw [div_iff (by omega), Int.add_mul, Int.one_mul]; omega
    rw [i3, i4]
    unfold isIn
    rw [i1, i2]
    omega
  · have eP : (pieceF x z).1 = x.1 ∧ (pieceF x z).2.1 = x.2.1 := by
      unfold pieceF; rw [if_neg (by omega)]; exact ⟨rfl, rfl⟩
    rw [eP.1, eP.2, ovl_1 hx hz (by omega)]
    constructor
    · intro ⟨h1, h2⟩
      refine ⟨h2, ?_⟩
      have h3 := trp_in h2
      unfold isIn at h3 ⊢
      have e : (2 : Int) ^ (46 - z.1).toNat = 2 ^ (46 - x.2.2.1).toNat * 2 ^ (x.2.2.1 - z.1).toNat := by
        rw [← Int.pow_add, show (46 - x.2.2.1).toNat + (x.2.2.1 - z.1).toNat = (46 - z.1).toNat by omega]
      have pe := two_pow_pos (46 - x.2.2.1).toNat
      rw [e, ← div_div (Int.le_trans (by decide) (two_pow_pos _)), h3]
      exact h1
    · intro ⟨h2, h4⟩
      refine ⟨?_, h2⟩
      have h3 := trp_in h2
      unfold isIn at h3 h4
      have e : (2 : Int) ^ (46 - z.1).toNat = 2 ^ (46 - x.2.2.1).toNat * 2 ^ (x.2.2.1 - z.1).toNat := by
        rw [← Int.pow_add, show (46 - x.2.2.1).toNat + (x.2.2.1 - z.1).toNat = (46 - z.1).toNat by omega]
      have pe := two_pow_pos (46 - x.2.2.1).toNat
      rw [e, ← div_div (Int.le_trans (by decide) (two_pow_pos _)), h3] at h4
      exact h4
