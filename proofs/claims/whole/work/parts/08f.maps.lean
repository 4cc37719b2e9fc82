/-! counting over the product -/
def sumC (f : Q4 → Nat) : List Q4 → Nat
  | [] => 0
  | x :: A => f x + sumC f A
theorem sumC_congr {f g : Q4 → Nat} : ∀ {A : List Q4}, (∀ x ∈ A, f x = g x) → sumC f A = sumC g A
  | [], _ => rfl
  | x :: A, h => by
    show f x + _ = g x + _
    rw [h x List.mem_cons_self, sumC_congr (fun y hy => h y (List.mem_cons_of_mem _ hy))]
theorem sumC_le {f g : Q4 → Nat} : ∀ {A : List Q4}, (∀ x ∈ A, f x ≤ g x) → sumC f A ≤ sumC g A
  | [], _ => Nat.le_refl _
  | x :: A, h => by
    show f x + _ ≤ g x + _
    have := h x List.mem_cons_self
    have := sumC_le (A := A) (fun y hy => h y (List.mem_cons_of_mem _ hy))
    omega
theorem sumC_add (f g : Q4 → Nat) : ∀ A : List Q4, sumC (fun x => f x + g x) A = sumC f A + sumC g A
  | [] => rfl
  | x :: A => by
    show f x + g x + _ = (f x + _) + (g x + _)
    rw [sumC_add f g A]; omega
theorem sumC_ite (p : Q4 → Bool) : ∀ A : List Q4, sumC (fun x => if p x = true then 1 else 0) A = A.countP p
  | [] => rfl
  | x :: A => by
    show (if p x = true then 1 else 0) + _ = _
    rw [sumC_ite p A, List.countP_cons]; omega
theorem sumC_one : ∀ A : List Q4, sumC (fun _ => 1) A = A.length
  | [] => rfl
  | x :: A => by show 1 + _ = _; rw [sumC_one A, List.length_cons]; omega
theorem sumC_zero : ∀ A : List Q4, sumC (fun _ => 0) A = 0
  | [] => rfl
  | x :: A => by show 0 + _ = _; rw [sumC_zero A]
theorem sumC_swap (p : Q4 → Q4 → Bool) : ∀ A B : List Q4, sumC (fun x => B.countP (p x)) A = sumC (fun z => A.countP (fun x => p x z)) B
  | [], B => by show 0 = _; rw [show (fun z : Q4 => ([] : List Q4).countP (fun x => p x z)) = fun _ => 0 from rfl, sumC_zero]
  | x :: A, B => by
    show B.countP (p x) + _ = _
    rw [sumC_swap p A B, ← sumC_ite (p x) B, ← sumC_add]
    exact sumC_congr (fun z _ => by rw [List.countP_cons]; omega)
theorem row_count (x : Q4) (B : List Q4) (p : Q4 → Bool) : (rowF x B).countP p = B.countP (fun z => decide (ovl x z) && p (pieceF x z)) := by
  unfold rowF
  rw [List.countP_map, List.countP_filter]
  congr 1
  funext z
  exact Bool.and_comm _ _
theorem prod_count (A B : List Q4) (p : Q4 → Bool) : (prodF A B).countP p = sumC (fun x => B.countP (fun z => decide (ovl x z) && p (pieceF x z))) A := by
  induction A with
  | nil => rfl
  | cons x A ih =>
    show (rowF x B ++ prodF A B).countP p = _ + _
    rw [List.countP_append, ih, row_count]
theorem cov_prod1 {A B : List Q4} (hA : ∀ x ∈ A, LQ 23 x) (hB : ∀ x ∈ B, LQ 23 x) (cA : cov1 A) (cB : cov1 B) : cov1 (prodF A B) := fun y y0 y1 => by
  rw [prod_count, ← cA y y0 y1, ← sumC_ite]
  refine sumC_congr (fun x hx => ?_)
  have hpm := fun z (hz : z ∈ B) => piece_mem (hA x hx) (hB z hz) y
  by_cases c : in1 y x = true
  · rw [if_pos c]
    have ci : isIn x.1 x.2.1 y := of_decide_eq_true c
    have h1 := isIn_iff.mp (trp_in ci)
    have h2 := lo46_b ((hA x hx).2.mono (M := 46) (by decide))
    have h3 := hi46_b ((hA x hx).2.mono (M := 46) (by decide))
    rw [← cB (trp x y) (by omega) (by omega)]
    refine List.countP_congr (fun z hz => ?_)
    rw [Bool.and_eq_true, decide_eq_true_iff, decide_eq_true_iff, decide_eq_true_iff]
    exact (hpm z hz).trans ⟨fun h => h.2, fun h => ⟨ci, h⟩⟩
  · rw [if_neg c]
    refine List.countP_eq_zero.mpr (fun z hz => ?_)
    rw [Bool.and_eq_true, decide_eq_true_iff, decide_eq_true_iff]
    exact fun h => c (decide_eq_true ((hpm z hz).mp h).1)
theorem ovl_swp {x z : Q4} : ovl (swp4 z) (swp4 x) ↔ ovl x z := ⟨fun h => ⟨h.2, h.1⟩, fun h => ⟨h.2, h.1⟩⟩
theorem piece_swp {x z : Q4} (hx : LQ 23 x) (hz : LQ 23 z) (h : ovl x z) : pieceF (swp4 z) (swp4 x) = swp4 (pieceF x z) := by
  unfold pieceF swp4
  dsimp only
  by_cases e : z.1 = x.2.2.1
  · have ho := (ovl_2 hx hz (by omega)).mp h
    rw [e] at ho
    rw [show (x.2.2.1 - x.2.2.1).toNat = 0 by omega, Int.pow_zero, Int.ediv_one] at ho
    rw [if_pos (by omega), if_pos (by omega), e, ho]
    simp only [Int.sub_self, Int.add_zero, show (0 : Int).toNat = 0 from rfl, Int.pow_zero, Int.mul_one]
  · by_cases f : x.2.2.1 ≤ z.1
    · rw [if_neg (by omega), if_pos (by omega)]
      simp only [Prod.mk.injEq, and_true, true_and]
      rw [show -(x.2.2.1 - z.1) = z.1 - x.2.2.1 by omega]
      exact ⟨by omega, rfl⟩
    · rw [if_pos (by omega), if_neg (by omega)]
      simp only [Prod.mk.injEq, and_true, true_and]
      rw [show -(z.1 - x.2.2.1) = x.2.2.1 - z.1 by omega]
      exact ⟨by omega, rfl⟩
theorem piece_mem2 {x z : Q4} (hx : LQ 23 x) (hz : LQ 23 z) (y : Int) : (ovl x z ∧ isIn (pieceF x z).2.2.1 (pieceF x z).2.2.2 y) ↔ (isIn z.2.2.1 z.2.2.2 y ∧ isIn x.2.2.1 x.2.2.2 (trp (swp4 z) y)) := by
  have h := piece_mem hz.swp hx.swp y
  rw [ovl_swp] at h
  refine Iff.trans ?_ h
  constructor
  · intro ⟨h1, h2⟩
    refine ⟨h1, ?_⟩
    rw [piece_swp hx hz h1]; exact h2
  · intro ⟨h1, h2⟩
    refine ⟨h1, ?_⟩
    rw [piece_swp hx hz h1] at h2; exact h2
theorem cov_prod2 {A B : List Q4} (hA : ∀ x ∈ A, LQ 23 x) (hB : ∀ x ∈ B, LQ 23 x) (cA : cov2 A) (cB : cov2 B) : cov2 (prodF A B) := fun y y0 y1 => by
  rw [prod_count, sumC_swap (fun x z => decide (ovl x z) && in2 y (pieceF x z)), ← cB y y0 y1, ← sumC_ite]
  refine sumC_congr (fun z hz => ?_)
  have hpm := fun x (hx : x ∈ A) => piece_mem2 (hA x hx) (hB z hz) y
  by_cases c : in2 y z = true
  · rw [if_pos c]
    have ci : isIn z.2.2.1 z.2.2.2 y := of_decide_eq_true c
    have h1 := isIn_iff.mp (trp_in (x := swp4 z) ci)
    have h2 := lo46_b ((hB z hz).1.mono (M := 46) (by decide))
    have h3 := hi46_b ((hB z hz).1.mono (M := 46) (by decide))
    have h1 : lo46 z.1 z.2.1 ≤ trp (swp4 z) y ∧ trp (swp4 z) y < lo46 z.1 z.2.1 + wd46 z.1 := h1
    rw [← cA (trp (swp4 z) y) (by omega) (by omega)]
    refine List.countP_congr (fun x hx => ?_)
    rw [Bool.and_eq_true, decide_eq_true_iff, decide_eq_true_iff, decide_eq_true_iff]
    exact (hpm x hx).trans ⟨fun h => h.2, fun h => ⟨ci, h⟩⟩
  · rw [if_neg c]
    refine List.countP_eq_zero.mpr (fun x hx => ?_)
    rw [Bool.and_eq_true, decide_eq_true_iff, decide_eq_true_iff]
    exact fun h => c (decide_eq_true ((hpm x hx).mp h).1)
theorem ovl_46 {x z : Q4} (hx : LQ 23 x) (hz : LQ 23 z) : ovl x z ↔ kq z < kq2 x + wd46 x.2.2.1 ∧ kq2 x < kq z + wd46 z.1 := by
  have b2 := hx.2.b23
  have b3 := hz.1.b23
  have e1 : kq z = st1 z * 8388608 := st_lo b3.1 b3.2.1
  have e2 : kq z + wd46 z.1 = en1 z * 8388608 := en_hi b3.1 b3.2.1
  have e3 : kq2 x = st2 x * 8388608 := st_lo b2.1 b2.2.1
  have e4 : kq2 x + wd46 x.2.2.1 = en2 x * 8388608 := en_hi b2.1 b2.2.1
  unfold ovl
  rw [e2, e4, e1, e3]
  omega
theorem prod_len {A B : List Q4} (hA : ∀ x ∈ A, LQ 23 x) (hB : ∀ x ∈ B, LQ 23 x) (cA : cov2 A) (cB : cov1 B) : (prodF A B).length ≤ A.length + B.length := by
  have h0 : (prodF A B).length = (prodF A B).countP (fun _ => true) := (List.countP_true ▸ rfl)
  rw [h0, prod_count]
  have h1 : sumC (fun x => B.countP (fun z => decide (ovl x z) && true)) A ≤ sumC (fun x => B.countP (in1 (kq2 x)) + B.countP (fun z => in2 (kq z) x)) A := by
    refine sumC_le (fun x hx => ?_)
    have : ∀ C : List Q4, (∀ z ∈ C, LQ 23 z) → C.countP (fun z => decide (ovl x z) && true) ≤ C.countP (in1 (kq2 x)) + C.countP (fun z => in2 (kq z) x) := by
      intro C hC
      induction C with
      | nil => exact Nat.le_refl _
      | cons z C ih =>
        have ih := ih (fun y hy => hC y (List.mem_cons_of_mem _ hy))
        rw [List.countP_cons, List.countP_cons, List.countP_cons]
        by_cases o : ovl x z
        · have o2 := (ovl_46 (hA x hx) (hC z List.mem_cons_self)).mp o
          by_cases g : kq z ≤ kq2 x
          · have : in1 (kq2 x) z = true := in1_iff.mpr ⟨g, o2.2⟩
            rw [if_pos this]
            split <;> split <;> omega
          · have : in2 (kq z) x = true := in2_iff.mpr ⟨by omega, o2.1⟩
            rw [if_pos this]
            split <;> split <;> omega
        · rw [if_neg (by rw [Bool.and_true, decide_eq_true_iff]; exact o)]
          omega
    exact this B hB
  rw [sumC_add, sumC_swap (fun x z => in2 (kq z) x)] at h1
  have h2 : sumC (fun x => B.countP (in1 (kq2 x))) A = A.length := by
    rw [← sumC_one A]
    refine sumC_congr (fun x hx => ?_)
    have := lo46_b ((hA x hx).2.mono (M := 46) (by decide))
    exact cB _ this.1 this.2
  have h3 : sumC (fun z => A.countP (fun x => in2 (kq z) x)) B = B.length := by
    rw [← sumC_one B]
    refine sumC_congr (fun z hz => ?_)
    have := lo46_b ((hB z hz).1.mono (M := 46) (by decide))
    exact cA _ this.1 this.2
  omega
theorem sub_b {d c k u : Int} (h : Lf 23 d c) (k0 : 0 ≤ k) (k1 : k ≤ 23) (u0 : 0 ≤ u) (u1 : u < 2 ^ k.toNat) : Lf 46 (d + k) (c * 2 ^ k.toNat + u) := by
  obtain ⟨h1, h2, h3, h4⟩ := h
  have e : (2 : Int) ^ (d + k).toNat = 2 ^ d.toNat * 2 ^ k.toNat := by rw [← Int.pow_add, show d.toNat + k.toNat = (d + k).toNat by omega]
  have hp := two_pow_pos k.toNat
  have h5 : (c + 1) * 2 ^ k.toNat ≤ 2 ^ d.toNat * 2 ^ k.toNat := Int.mul_le_mul_of_nonneg_right (by omega) (by omega)
  have h6 : 0 ≤ c * 2 ^ k.toNat := Int.mul_nonneg h3 (by omega)
  rw [Int.add_mul, Int.one_mul] at h5
  refine ⟨by omega, by omega, by omega, ?_⟩
  rw [e]; omega
theorem piece_B1 {x z : Q4} (hx : LQ 23 x) (hz : LQ 23 z) (h : ovl x z) : Lf 46 (pieceF x z).1 (pieceF x z).2.1 := by
  have b1 := hx.1.b23
  have b2 := hx.2.b23
  have b3 := hz.1.b23
  unfold pieceF
  by_cases c : 0 ≤ z.1 - x.2.2.1
  · rw [if_pos c]
    have ho := (ovl_2 hx hz (by omega)).mp h
    have pk := two_pow_pos (z.1 - x.2.2.1).toNat
    rw [div_iff (by omega), Int.add_mul, Int.one_mul] at ho
    exact sub_b hx.1 (by omega) (by omega) (by omega) (by omega)
  · rw [if_neg c]
    exact hx.1.mono (by decide)
theorem piece_B {x z : Q4} (hx : LQ 23 x) (hz : LQ 23 z) (h : ovl x z) : LQ 46 (pieceF x z) := by
  refine ⟨piece_B1 hx hz h, ?_⟩
  have := piece_B1 hz.swp hx.swp (ovl_swp.mpr h)
  rw [piece_swp hx hz h] at this
  exact this
theorem mem_row {x p : Q4} {B : List Q4} (h : p ∈ rowF x B) : ∃ z ∈ B, ovl x z ∧ p = pieceF x z := by
  unfold rowF at h
  obtain ⟨z, hz, e⟩ := List.mem_map.mp h
  obtain ⟨h1, h2⟩ := List.mem_filter.mp hz
  exact ⟨z, h1, of_decide_eq_true h2, e.symm⟩
theorem mem_prod {p : Q4} {A B : List Q4} (h : p ∈ prodF A B) : ∃ x ∈ A, p ∈ rowF x B := by
  unfold prodF at h
  obtain ⟨x, hx, e⟩ := List.mem_flatMap.mp h
  exact ⟨x, hx, e⟩
theorem piece_lo {x z : Q4} (hx : LQ 23 x) (hz : LQ 23 z) (h : ovl x z) : isIn x.1 x.2.1 (kq (pieceF x z)) ∧ isIn z.1 z.2.1 (trp x (kq (pieceF x z))) :=
  (piece_mem hx hz _).mp ⟨h, isIn_iff.mpr ⟨Int.le_refl _, by have := wd46_pos (pieceF x z).1; unfold kq; omega⟩⟩
theorem cut46_hi : ∀ {L : List Q4} {r : Int}, cut46 r L → L.Pairwise (fun a b => kq a + wd46 a.1 ≤ kq b)
  | [], _, _ => List.Pairwise.nil
  | q :: T, r, h => List.pairwise_cons.mpr ⟨fun x hx => by have := cut46_ge h.2 x hx; have := h.1; omega, cut46_hi h.2⟩
theorem row_srt {x : Q4} (hx : LQ 23 x) : ∀ {B : List Q4}, (∀ z ∈ B, LQ 23 z) → B.Pairwise (fun a b => kq a + wd46 a.1 ≤ kq b) → (rowF x B).Pairwise (fun a b => kq a ≤ kq b)
  | [], _, _ => List.Pairwise.nil
  | z :: B, hB, hp => by
    obtain ⟨p1, p2⟩ := List.pairwise_cons.mp hp
    have ih := row_srt hx (fun y hy => hB y (List.mem_cons_of_mem _ hy)) p2
    rw [show z :: B = [z] ++ B from rfl, rowF_app]
    by_cases o : ovl x z
    · rw [rowF_1 o]
      refine List.pairwise_cons.mpr ⟨fun p hpm => ?_, ih⟩
      obtain ⟨z', hz', o', e⟩ := mem_row hpm
      subst e
      have l1 := isIn_iff.mp (piece_lo hx (hB z List.mem_cons_self) o).2
      have l2 := isIn_iff.mp (piece_lo hx (hB z' (List.mem_cons_of_mem _ hz')) o').2
      have l3 := p1 z' hz'
      rcases Int.lt_or_le (kq (pieceF x z')) (kq (pieceF x z)) with g | g
      · have := trp_mono (x := x) (Int.le_of_lt g)
        unfold kq at l3
        omega
      · exact g
    · rw [rowF_no (B := [z]) (fun y hy => by rw [List.mem_singleton.mp hy]; exact o)]
      exact ih
theorem prod_srt {B : List Q4} (hB : ∀ z ∈ B, LQ 23 z) (pB : B.Pairwise (fun a b => kq a + wd46 a.1 ≤ kq b)) : ∀ {A : List Q4}, (∀ x ∈ A, LQ 23 x) → A.Pairwise (fun a b => kq a + wd46 a.1 ≤ kq b) → (prodF A B).Pairwise (fun a b => kq a ≤ kq b)
  | [], _, _ => List.Pairwise.nil
  | x :: A, hA, pA => by
    obtain ⟨p1, p2⟩ := List.pairwise_cons.mp pA
    show (rowF x B ++ prodF A B).Pairwise _
    refine List.pairwise_append.mpr ⟨row_srt (hA x List.mem_cons_self) hB pB, prod_srt hB pB (fun y hy => hA y (List.mem_cons_of_mem _ hy)) p2, fun p hp q hq => ?_⟩
    obtain ⟨z, hz, o, e⟩ := mem_row hp
    obtain ⟨x', hx', hq'⟩ := mem_prod hq
    obtain ⟨z', hz', o', e'⟩ := mem_row hq'
    subst e e'
    have l1 := isIn_iff.mp (piece_lo (hA x List.mem_cons_self) (hB z hz) o).1
    have l2 := isIn_iff.mp (piece_lo (hA x' (List.mem_cons_of_mem _ hx')) (hB z' hz') o').1
    have l3 := p1 x' hx'
    unfold kq at l3 ⊢
    unfold kq at l1 l2
    omega
