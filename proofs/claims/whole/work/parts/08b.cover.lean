/-! cuts of the unit, counted by 2^46 -/
def lo46 (d c : Int) : Int := c * 2 ^ (46 - d).toNat
def wd46 (d : Int) : Int := 2 ^ (46 - d).toNat
def kq (q : Q4) : Int := lo46 q.1 q.2.1
def kq2 (q : Q4) : Int := lo46 q.2.2.1 q.2.2.2
theorem wd46_pos (d : Int) : 1 ≤ wd46 d := two_pow_pos _
theorem lo46_b {d c : Int} (h : Lf 46 d c) : 0 ≤ lo46 d c ∧ lo46 d c < 70368744177664 := by
  obtain ⟨h1, h2, h3, h4⟩ := h
  unfold lo46
  have e : (2 : Int) ^ d.toNat * 2 ^ (46 - d).toNat = 70368744177664 := by
    rw [← Int.pow_add, show d.toNat + (46 - d).toNat = 46 by omega]; rfl
  have hp := two_pow_pos (46 - d).toNat
  have h5 : (c + 1) * 2 ^ (46 - d).toNat ≤ 2 ^ d.toNat * 2 ^ (46 - d).toNat := Int.mul_le_mul_of_nonneg_right (by omega) (by omega)
  have h6 : 0 ≤ c * 2 ^ (46 - d).toNat := Int.mul_nonneg h3 (by omega)
  rw [Int.add_mul, Int.one_mul] at h5
  omega
theorem hi46_b {d c : Int} (h : Lf 46 d c) : lo46 d c + wd46 d ≤ 70368744177664 := by
  obtain ⟨h1, h2, h3, h4⟩ := h
  unfold lo46 wd46
  have e : (2 : Int) ^ d.toNat * 2 ^ (46 - d).toNat = 70368744177664 := by
    rw [← Int.pow_add, show d.toNat + (46 - d).toNat = 46 by omega]; rfl
  have h5 : (c + 1) * 2 ^ (46 - d).toNat ≤ 2 ^ d.toNat * 2 ^ (46 - d).toNat := Int.mul_le_mul_of_nonneg_right (by omega) (by have := two_pow_pos (46 - d).toNat; omega)
  rw [Int.add_mul, Int.one_mul] at h5
  omega
theorem div_iff {b c K : Int} (hK : 0 < K) : b / K = c ↔ c * K < b + 1 ∧ b < (c + 1) * K := by
  have h1 := Int.le_ediv_iff_mul_le (a := c) (b := b) hK
  have h2 := Int.ediv_lt_iff_lt_mul (a := b) (b := c + 1) hK
  omega
theorem sc_lt {a b K : Int} (hK : 0 < K) : a * K < b * K ↔ a < b := ⟨fun h => Int.lt_of_mul_lt_mul_right h (by omega), fun h => Int.mul_lt_mul_of_pos_right h hK⟩
/-- the point lies in the leaf -/
abbrev isIn (d c y : Int) : Prop := y / 2 ^ (46 - d).toNat = c
theorem isIn_iff {d c y : Int} : isIn d c y ↔ lo46 d c ≤ y ∧ y < lo46 d c + wd46 d := by
  have hp := two_pow_pos (46 - d).toNat
  unfold isIn lo46 wd46
  rw [div_iff (by omega), Int.add_mul, Int.one_mul]
  omega
abbrev in1 (y : Int) (q : Q4) : Bool := decide (y / 2 ^ (46 - q.1).toNat = q.2.1)
abbrev in2 (y : Int) (q : Q4) : Bool := decide (y / 2 ^ (46 - q.2.2.1).toNat = q.2.2.2)
theorem in1_iff {q : Q4} {y : Int} : in1 y q = true ↔ kq q ≤ y ∧ y < kq q + wd46 q.1 := by
  rw [decide_eq_true_iff]; exact isIn_iff
def cov1 (L : List Q4) : Prop := ∀ y : Int, 0 ≤ y → y < 70368744177664 → L.countP (in1 y) = 1
def cov2 (L : List Q4) : Prop := ∀ y : Int, 0 ≤ y → y < 70368744177664 → L.countP (in2 y) = 1
theorem cov_swp {L : List Q4} : cov1 (L.map swp4) ↔ cov2 L := by
  unfold cov1 cov2
  constructor
  · intro h y h0 h1
    have := h y h0 h1
    rw [List.countP_map] at this
    exact this
  · intro h y h0 h1
    rw [List.countP_map]
    exact h y h0 h1
theorem cov1_perm {L M : List Q4} (h : L.Perm M) (c : cov1 L) : cov1 M := fun y h0 h1 => by rw [← h.countP_eq]; exact c y h0 h1
theorem count_two {α : Type} {p : α → Bool} : ∀ {L : List α} {a b : α}, a ∈ L → b ∈ L → a ≠ b → p a = true → p b = true → 2 ≤ L.countP p
  | [], a, _, h, _, _, _, _ => absurd h List.not_mem_nil
  | x :: L, a, b, ha, hb, hne, pa, pb => by
    rw [List.countP_cons]
    rcases List.mem_cons.mp ha with e | e
    · subst e
      rw [if_pos pa]
      rcases List.mem_cons.mp hb with f | f
      · exact absurd f.symm hne
      · have : 0 < L.countP p := List.countP_pos_iff.mpr ⟨b, f, pb⟩
        omega
    · rcases List.mem_cons.mp hb with f | f
      · subst f
        rw [if_pos pb]
        have : 0 < L.countP p := List.countP_pos_iff.mpr ⟨a, e, pa⟩
        omega
      · have := count_two e f hne pa pb
        omega
/-- the first leaves stand from r on to the end, one behind the other -/
def cut46 : Int → List Q4 → Prop
  | r, [] => r = 70368744177664
  | r, q :: T => kq q = r ∧ cut46 (r + wd46 q.1) T
theorem cut46_ge : ∀ {L : List Q4} {r : Int}, cut46 r L → ∀ q ∈ L, r ≤ kq q
  | [], _, _, q, hq => absurd hq List.not_mem_nil
  | p :: T, r, h, q, hq => by
    have hp := wd46_pos p.1
    rcases List.mem_cons.mp hq with e | e
    · rw [e, h.1]; exact Int.le_refl _
    · have := cut46_ge h.2 q e; omega
theorem cut46_count : ∀ {L : List Q4} {r y : Int}, cut46 r L → y < 70368744177664 → L.countP (in1 y) = if r ≤ y then 1 else 0
  | [], r, y, h, hy => by
    have h : r = 70368744177664 := h
    rw [if_neg (by omega)]; rfl
  | q :: T, r, y, h, hy => by
    have hp := wd46_pos q.1
    have ih := cut46_count h.2 hy
    have hi := in1_iff (q := q) (y := y)
    rw [h.1] at hi
    rw [List.countP_cons, ih]
    by_cases c : in1 y q = true
    · rw [if_pos c]
      have := hi.mp c
      rw [if_neg (by omega), if_pos (by omega)]
    · rw [if_neg c]
      have : ¬ (r ≤ y ∧ y < r + wd46 q.1) := fun z => c (hi.mpr z)
      by_cases d : r ≤ y
      · rw [if_pos d, if_pos (by omega)]
      · rw [if_neg d, if_neg (by omega)]
theorem cut46_cov {L : List Q4} (h : cut46 0 L) : cov1 L := fun y h0 h1 => by
  rw [cut46_count h h1, if_pos h0]
theorem cov_cut : ∀ (L : List Q4) (r : Int), 0 ≤ r → r ≤ 70368744177664 → (∀ q ∈ L, LQ 46 q) → (∀ q ∈ L, r ≤ kq q) → L.Pairwise (fun a b => kq a ≤ kq b) → (∀ y : Int, r ≤ y → y < 70368744177664 → L.countP (in1 y) = 1) → cut46 r L
  | [], r, h0, h1, _, _, _, hc => by
    show r = 70368744177664
    rcases Int.lt_or_le r 70368744177664 with g | g
    · exact absurd (hc r (Int.le_refl _) g) (by simp)
    · omega
  | q :: T, r, h0, h1, hB, hr, hp, hc => by
    have hq := lo46_b (hB q List.mem_cons_self).1
    have hqr : r ≤ kq q := hr q List.mem_cons_self
    have hw := wd46_pos q.1
    have hk : kq q = lo46 q.1 q.2.1 := rfl
    obtain ⟨hp1, hp2⟩ := List.pairwise_cons.mp hp
    have h1r := hc r (Int.le_refl _) (by omega)
    have hpos : 0 < (q :: T).countP (in1 r) := by omega
    obtain ⟨p, hpm, hpi⟩ := List.countP_pos_iff.mp hpos
    have hpi := in1_iff.mp hpi
    have hqe : kq q = r := by
      rcases List.mem_cons.mp hpm with e | e
      · rw [e] at hpi; omega
      · have := hp1 p e; omega
    refine ⟨hqe, ?_⟩
    have hT : ∀ y : Int, r + wd46 q.1 ≤ y → y < 70368744177664 → T.countP (in1 y) = 1 := fun y y0 y1 => by
      have := hc y (by omega) y1
      rw [List.countP_cons, if_neg (fun z => by have := in1_iff.mp z; omega)] at this
      exact this
    refine cov_cut T (r + wd46 q.1) (by omega) (by have := hi46_b (hB q List.mem_cons_self).1; omega) (fun x hx => hB x (List.mem_cons_of_mem _ hx)) (fun x hx => ?_) hp2 hT
    have hx1 := hr x (List.mem_cons_of_mem _ hx)
    have hx2 := lo46_b (hB x (List.mem_cons_of_mem _ hx)).1
    rcases Int.lt_or_le (kq x) (r + wd46 q.1) with g | g
    · have hcx := hc (kq x) hx1 hx2.2
      have i1 : in1 (kq x) q = true := in1_iff.mpr ⟨by omega, by omega⟩
      have i2 : in1 (kq x) x = true := in1_iff.mpr ⟨Int.le_refl _, by have := wd46_pos x.1; omega⟩
      rw [List.countP_cons, if_pos i1] at hcx
      have : 0 < T.countP (in1 (kq x)) := List.countP_pos_iff.mpr ⟨x, hx, i2⟩
      omega
    · exact g
theorem st_lo {d c : Int} (h0 : 0 ≤ d) (h : d ≤ 23) : lo46 d c = c * 2 ^ (23 - d).toNat * 8388608 := by
  unfold lo46
  rw [Int.mul_assoc, show (46 - d).toNat = (23 - d).toNat + 23 by omega, Int.pow_add]
  rfl
theorem en_hi {d c : Int} (h0 : 0 ≤ d) (h : d ≤ 23) : lo46 d c + wd46 d = (c + 1) * 2 ^ (23 - d).toNat * 8388608 := by
  rw [← st_lo h0 h]
  unfold lo46 wd46
  rw [Int.add_mul, Int.one_mul]
theorem cut_46 : ∀ (L : List Q4) (r : Int), (∀ q ∈ L, LQ 23 q) → (cutAt r L ↔ cut46 (r * 8388608) L)
  | [], r, _ => by
    show r = 8388608 ↔ r * 8388608 = 70368744177664
    omega
  | q :: T, r, hB => by
    have hb := (hB q List.mem_cons_self).1.b23
    have e1 : kq q = st1 q * 8388608 := st_lo hb.1 hb.2.1
    have e2 : kq q + wd46 q.1 = en1 q * 8388608 := en_hi hb.1 hb.2.1
    have ih := cut_46 T (en1 q) (fun x hx => hB x (List.mem_cons_of_mem _ hx))
    show (st1 q = r ∧ cutAt (en1 q) T) ↔ (kq q = r * 8388608 ∧ cut46 (r * 8388608 + wd46 q.1) T)
    rw [ih, e1]
    constructor
    · intro ⟨h1, h2⟩
      refine ⟨by omega, ?_⟩
      rw [show r * 8388608 + wd46 q.1 = en1 q * 8388608 by omega]
      exact h2
    · intro ⟨h1, h2⟩
      refine ⟨by omega, ?_⟩
      rw [show r * 8388608 + wd46 q.1 = en1 q * 8388608 by omega] at h2
      exact h2
theorem cutF_46 {L : List Q4} (hB : ∀ q ∈ L, LQ 23 q) : cutF L ↔ cut46 0 L := by
  have := cut_46 L 0 hB
  rw [Int.zero_mul] at this
  exact this
