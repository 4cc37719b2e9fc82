/-! sorting by left ends: as the class counts them -/
theorem kq_st {q : Q4} (h : LQ 23 q) : kq q = st1 q * 8388608 := st_lo h.1.b23.1 h.1.b23.2.1
theorem insRk_R : ∀ (S : List Q4) (q : Q4), (∀ x ∈ S, LQ 23 x) → LQ 23 q → insRk S q = insR S q
  | [], q, _, _ => rfl
  | t :: S, q, hS, hq => by
    have h1 := kq_st hq
    have h2 := kq_st (hS t List.mem_cons_self)
    have ih := insRk_R S q (fun x hx => hS x (List.mem_cons_of_mem _ hx)) hq
    unfold insRk insR
    by_cases h : st1 q < st1 t
    · rw [if_pos h, if_pos (by omega), ih]
    · rw [if_neg h, if_neg (by omega)]
theorem insK_L {S : List Q4} {q : Q4} (hS : ∀ x ∈ S, LQ 23 x) (hq : LQ 23 q) : insK S q = insL S q := by
  unfold insK insL
  rw [insRk_R _ _ (fun x hx => hS x (List.mem_reverse.mp hx)) hq]
theorem arr_turn_aux : ∀ (L S : List Q4), (∀ x ∈ L, LQ 23 x) → (∀ x ∈ S, LQ 23 x) → (L.map swp4).foldl insK S = L.foldl (fun S q => insL S (swp4 q)) S
  | [], S, _, _ => rfl
  | q :: L, S, hL, hS => by
    have hq : LQ 23 (swp4 q) := (hL q List.mem_cons_self).swp
    show (L.map swp4).foldl insK (insK S (swp4 q)) = L.foldl _ (insL S (swp4 q))
    rw [← insK_L hS hq]
    exact arr_turn_aux L _ (fun x hx => hL x (List.mem_cons_of_mem _ hx)) (insK_B hS hq)
theorem arr_turn {L : List Q4} (h : ∀ x ∈ L, LQ 23 x) : arrF (L.map swp4) = turnF L := arr_turn_aux L [] h (fun x hx => absurd hx List.not_mem_nil)
theorem map_swp_B {N : Int} {L : List Q4} (h : ∀ x ∈ L, LQ N x) : ∀ x ∈ L.map swp4, LQ N x := fun x hx => by
  obtain ⟨y, hy, rfl⟩ := List.mem_map.mp hx
  exact (h y hy).swp
theorem map_swp2 (L : List Q4) : (L.map swp4).map swp4 = L := by
  rw [List.map_map]
  exact List.map_id L
theorem turn_perm {L : List Q4} (h : ∀ x ∈ L, LQ 23 x) : (turnF L).Perm (L.map swp4) := by
  rw [← arr_turn h]; exact arr_perm _
theorem toB46 {L : List Q4} (h : ∀ x ∈ L, LQ 23 x) : ∀ x ∈ L, LQ 46 x := fun x hx => (h x hx).mono (by decide)
/-- a map of at most 24 leaves -/
def VM (L : List Q4) : Prop := (∀ q ∈ L, LQ 23 q) ∧ cutF L ∧ L.length ≤ 24 ∧ cov2 L
theorem VM.B {L : List Q4} (h : VM L) : ∀ q ∈ L, LQ 23 q := h.1
theorem VM.B46 {L : List Q4} (h : VM L) : ∀ q ∈ L, LQ 46 q := fun q hq => (h.1 q hq).mono (by decide)
theorem VM.cut {L : List Q4} (h : VM L) : cutF L := h.2.1
theorem VM.len {L : List Q4} (h : VM L) : 1 ≤ L.length ∧ L.length ≤ 24 := ⟨cut_ne h.2.1, h.2.2.1⟩
theorem VM.c46 {L : List Q4} (h : VM L) : cut46 0 L := (cutF_46 h.B).mp h.cut
theorem VM.cov1 {L : List Q4} (h : VM L) : cov1 L := cut46_cov h.c46
theorem VM.prod_len {A B : List Q4} (hA : VM A) (hB : VM B) : (prodF A B).length ≤ 48 := by
  have := Jvm.Pilot.CTreePairsLaw_law_r4267_5b42db.prod_len hA.B hB.B hA.2.2.2 hB.cov1
  have := hA.len
  have := hB.len
  omega
theorem VM.prod_B {A B : List Q4} (hA : VM A) (hB : VM B) : ∀ q ∈ prodF A B, LQ 46 q := fun q hq => by
  obtain ⟨x, hx, h⟩ := mem_prod hq
  obtain ⟨z, hz, o, e⟩ := mem_row h
  rw [e]; exact piece_B (hA.B x hx) (hB.B z hz) o
theorem VM.prod_cut {A B : List Q4} (hA : VM A) (hB : VM B) : cut46 0 (prodF A B) :=
  cov_cut _ 0 (Int.le_refl _) (by decide) (VM.prod_B hA hB) (fun q hq => (lo46_b (VM.prod_B hA hB q hq).1).1) (prod_srt hB.B (cut46_hi hB.c46) hA.B (cut46_hi hA.c46)) (fun y h0 h1 => cov_prod1 hA.B hB.B hA.cov1 hB.cov1 y h0 h1)
theorem LQ_less {L : List Q4} (hB : ∀ q ∈ L, LQ 46 q) (h1 : cov1 L) (h2 : cov2 L) (hl : L.length ≤ 24) : ∀ q ∈ L, LQ 23 q := fun q hq => by
  have d1 := cov_depth hB h1 hq
  have d2 := cov2_depth hB h2 hq
  have hl2 := List.length_pos_of_mem hq
  obtain ⟨⟨a1, a2, a3, a4⟩, ⟨b1, b2, b3, b4⟩⟩ := hB q hq
  exact ⟨⟨a1, by omega, a3, a4⟩, ⟨b1, by omega, b3, b4⟩⟩
theorem VM.red {A B : List Q4} (hA : VM A) (hB : VM B) (h : (redF (prodF A B)).length ≤ 24) : VM (redF (prodF A B)) := by
  have hPB := VM.prod_B hA hB
  obtain ⟨g1, g2, g3, g4⟩ := redF_ok (prodF A B) [] (fun x hx => absurd hx List.not_mem_nil) hPB trivial
  have hc : cut46 0 (redF (prodF A B)) := run_cut.mpr (g3 0 _ (run_cut.mp (VM.prod_cut hA hB)))
  have hBr : ∀ x ∈ redF (prodF A B), LQ 46 x := redF_B (prodF A B) [] (fun x hx => absurd hx List.not_mem_nil) hPB
  have h2 : cov2 (redF (prodF A B)) := fun y y0 y1 => (g4 y).trans (cov_prod2 hA.B hB.B hA.2.2.2 hB.2.2.2 y y0 y1)
  have h23 := LQ_less hBr (cut46_cov hc) h2 h
  exact ⟨h23, (cutF_46 h23).mpr hc, h, h2⟩
theorem turn_cut {L : List Q4} (hB : ∀ q ∈ L, LQ 23 q) : cov2 L ↔ cutF (turnF L) := by
  rw [cutF_46 (turnF_B hB)]
  constructor
  · intro h
    rw [← arr_turn hB]
    exact arr_cut (toB46 (map_swp_B hB)) (cov_swp.mpr h)
  · intro h
    exact cov_swp.mp (cov1_perm (turn_perm hB) (cut46_cov h))
theorem cov2_turn {L : List Q4} (hB : ∀ q ∈ L, LQ 23 q) (h : cov1 L) : cov2 (turnF L) := by
  refine cov_swp.mp (cov1_perm ?_ h)
  have := (turn_perm hB).map swp4
  rw [map_swp2] at this
  exact this.symm
theorem VM.turn {L : List Q4} (h : VM L) : VM (turnF L) := by
  refine ⟨turnF_B h.B, (turn_cut h.B).mp h.2.2.2, by rw [turnF_len]; exact h.2.2.1, cov2_turn h.B h.cov1⟩
def decCut : (r : Int) → (L : List Q4) → Decidable (cutAt r L)
  | r, [] => (inferInstance : Decidable (r = 8388608))
  | r, q :: T => @instDecidableAnd _ _ (inferInstance : Decidable (st1 q = r)) (decCut (en1 q) T)
theorem cut_dec {L : List Q4} (h : @decide (cutF L) (decCut 0 L) = true) : cutF L := @of_decide_eq_true _ (decCut 0 L) h
theorem VM_of {L : List Q4} (hB : ∀ q ∈ L, LQ 23 q) (h1 : cutF L) (h2 : cutF (turnF L)) (hl : L.length ≤ 24) : VM L := ⟨hB, h1, hl, (turn_cut hB).mpr h2⟩
theorem VM.nothing : VM [(0, 0, 0, 0)] := VM_of (by unfold LQ Lf; decide +kernel) (cut_dec (by decide +kernel)) (cut_dec (by decide +kernel)) (by decide)
theorem VM.strong {i : Int} (h0 : 0 ≤ i) (h1 : i ≤ 6) : VM (strongF i) := by
  have : i = 0 ∨ i = 1 ∨ i = 2 ∨ i = 3 ∨ i = 4 ∨ i = 5 ∨ i = 6 := by omega
  rcases this with rfl | rfl | rfl | rfl | rfl | rfl | rfl <;> exact VM_of (by unfold LQ Lf; decide +kernel) (cut_dec (by decide +kernel)) (cut_dec (by decide +kernel)) (by decide +kernel)
/-! the model's normal forms are the class's -/
theorem comp_norm {A B M : List Q4} (hA : VM A) (hB : VM B) (hG : Mg (prodF A B) M) (hN : nrm M) : arrF M = redF (prodF A B) :=
  arr_norm (VM.prod_cut hA hB) (VM.prod_B hA hB) (List.Perm.refl _) hG hN
/-! the cells at hand: apart, and together all -/
def apM (L : List Q4) : Prop := ∀ i j : Int, 0 ≤ i → i < L.length → 0 ≤ j → j < L.length → i ≠ j → (qat L i).1 ≤ (qat L j).1 → (qat L j).2.1 / 2 ^ ((qat L j).1 - (qat L i).1).toNat ≠ (qat L i).2.1
def wdF (L : List Q4) : Int := L.foldl (fun s q => s + 2 ^ (23 - q.1).toNat) 0
def cutM (L : List Q4) : Prop := apM L ∧ wdF L = 8388608
def sumW : List Q4 → Int
  | [] => 0
  | q :: T => wd46 q.1 + sumW T
theorem sumW_perm {L M : List Q4} (h : L.Perm M) : sumW L = sumW M := by
  induction h with
  | nil => rfl
  | cons x _ ih => show _ + _ = _ + _; rw [ih]
  | swap x y l => show wd46 y.1 + (wd46 x.1 + sumW l) = wd46 x.1 + (wd46 y.1 + sumW l); omega
  | trans _ _ a b => rw [a, b]
theorem wd_sum_aux : ∀ (L : List Q4) (s : Int), (∀ q ∈ L, LQ 23 q) → L.foldl (fun s q => s + 2 ^ (23 - q.1).toNat) s * 8388608 = s * 8388608 + sumW L
  | [], s, _ => (Int.add_zero _).symm
  | q :: T, s, h => by
    have hb := (h q List.mem_cons_self).1.b23
    have ih := wd_sum_aux T (s + 2 ^ (23 - q.1).toNat) (fun x hx => h x (List.mem_cons_of_mem _ hx))
    have e : wd46 q.1 = 2 ^ (23 - q.1).toNat * 8388608 := by
      unfold wd46
      rw [show (46 - q.1).toNat = (23 - q.1).toNat + 23 by omega, Int.pow_add]; rfl
    rw [List.foldl_cons, ih]
    show _ = s * 8388608 + (wd46 q.1 + sumW T)
    rw [e, Int.add_mul]; omega
theorem wd_sum {L : List Q4} (h : ∀ q ∈ L, LQ 23 q) : wdF L * 8388608 = sumW L := by
  have := wd_sum_aux L 0 h
  unfold wdF; omega
/-- apart -/
def dsj (a b : Q4) : Prop := kq a + wd46 a.1 ≤ kq b ∨ kq b + wd46 b.1 ≤ kq a
theorem dsj_symm {a b : Q4} (h : dsj a b) : dsj b a := h.symm
theorem dsj_iff {a b : Q4} (ha : LQ 23 a) (hb : LQ 23 b) (h : a.1 ≤ b.1) : dsj a b ↔ b.2.1 / 2 ^ (b.1 - a.1).toNat ≠ a.2.1 := by
  have h1 := ha.1.b23
  have h2 := hb.1.b23
  have pk := two_pow_pos (b.1 - a.1).toNat
  have pb := two_pow_pos (46 - b.1).toNat
  have e : (2 : Int) ^ (46 - a.1).toNat = 2 ^ (b.1 - a.1).toNat * 2 ^ (46 - b.1).toNat := by
    rw [← Int.pow_add, show (b.1 - a.1).toNat + (46 - b.1).toNat = (46 - a.1).toNat by omega]
  have k1 : kq a = a.2.1 * 2 ^ (b.1 - a.1).toNat * 2 ^ (46 - b.1).toNat := by unfold kq lo46; rw [e, Int.mul_assoc]
  have k2 : kq a + wd46 a.1 = (a.2.1 + 1) * 2 ^ (b.1 - a.1).toNat * 2 ^ (46 - b.1).toNat := by
    unfold kq lo46 wd46; rw [Int.mul_assoc, ← e, Int.add_mul, Int.one_mul]
  have k3 : kq b = b.2.1 * 2 ^ (46 - b.1).toNat := rfl
  have k4 : kq b + wd46 b.1 = (b.2.1 + 1) * 2 ^ (46 - b.1).toNat := by unfold kq lo46 wd46; rw [Int.add_mul, Int.one_mul]
  have l1 : kq a + wd46 a.1 ≤ kq b ↔ (a.2.1 + 1) * 2 ^ (b.1 - a.1).toNat ≤ b.2.1 := by
    rw [k2, k3]
    exact ⟨fun z => Int.le_of_mul_le_mul_right z (by omega), fun z => Int.mul_le_mul_of_nonneg_right z (by omega)⟩
  have l2 : kq b + wd46 b.1 ≤ kq a ↔ b.2.1 + 1 ≤ a.2.1 * 2 ^ (b.1 - a.1).toNat := by
    rw [k4, k1]
    exact ⟨fun z => Int.le_of_mul_le_mul_right z (by omega), fun z => Int.mul_le_mul_of_nonneg_right z (by omega)⟩
  unfold dsj
  rw [l1, l2, Ne, div_iff (by omega)]
  omega
theorem apM_iff {L : List Q4} (hB : ∀ q ∈ L, LQ 23 q) : apM L ↔ L.Pairwise dsj := by
  have hq : ∀ (i : Nat) (hi : i < L.length), qat L (i : Int) = L[i] := fun i hi => by
    unfold qat
    rw [show ((i : Int)).toNat = i by omega, List.getD_eq_getElem?_getD, List.getElem?_eq_getElem hi]; rfl
  rw [List.pairwise_iff_getElem]
  constructor
  · intro h i j hi hj hij
    have h1 := h i j (by omega) (by omega) (by omega) (by omega) (by omega)
    have h2 := h j i (by omega) (by omega) (by omega) (by omega) (by omega)
    rw [hq i hi, hq j hj] at h1 h2
    rcases Int.le_total L[i].1 L[j].1 with g | g
    · exact (dsj_iff (hB _ (List.getElem_mem hi)) (hB _ (List.getElem_mem hj)) g).mpr (h1 g)
    · exact dsj_symm ((dsj_iff (hB _ (List.getElem_mem hj)) (hB _ (List.getElem_mem hi)) g).mpr (h2 g))
  · intro h i j i0 i1 j0 j1 hne hle
    obtain ⟨i, rfl⟩ := Int.eq_ofNat_of_zero_le i0
    obtain ⟨j, rfl⟩ := Int.eq_ofNat_of_zero_le j0
    have hi : i < L.length := by omega
    have hj : j < L.length := by omega
    rw [hq i hi, hq j hj] at hle ⊢
    refine (dsj_iff (hB _ (List.getElem_mem hi)) (hB _ (List.getElem_mem hj)) hle).mp ?_
    rcases Nat.lt_or_ge i j with g | g
    · exact h i j hi hj g
    · exact dsj_symm (h j i hj hi (by omega))
theorem gap : ∀ (L : List Q4) (r : Int), r ≤ 70368744177664 → (∀ q ∈ L, LQ 46 q) → (∀ q ∈ L, r ≤ kq q) → L.Pairwise (fun a b => kq a + wd46 a.1 ≤ kq b) → sumW L ≤ 70368744177664 - r ∧ (sumW L = 70368744177664 - r → cut46 r L)
  | [], r, h1, _, _, _ => by
    refine ⟨by show (0 : Int) ≤ _; omega, fun h => ?_⟩
    have h : (0 : Int) = 70368744177664 - r := h
    show r = 70368744177664
    omega
  | q :: T, r, h1, hB, hr, hp => by
    obtain ⟨p1, p2⟩ := List.pairwise_cons.mp hp
    have hh := hi46_b (hB q List.mem_cons_self).1
    have hq := hr q List.mem_cons_self
    have ek : kq q = lo46 q.1 q.2.1 := rfl
    obtain ⟨g1, g2⟩ := gap T (kq q + wd46 q.1) (by omega) (fun x hx => hB x (List.mem_cons_of_mem _ hx)) p1 p2
    have es : sumW (q :: T) = wd46 q.1 + sumW T := rfl
    refine ⟨by omega, fun h => ?_⟩
    have e : kq q = r := by omega
    refine ⟨e, ?_⟩
    rw [← e]
    exact g2 (by omega)
theorem cut_sumW : ∀ {L : List Q4} {r : Int}, cut46 r L → sumW L = 70368744177664 - r
  | [], r, h => by have h : r = 70368744177664 := h; show (0 : Int) = _; omega
  | q :: T, r, h => by
    have := cut_sumW h.2
    show wd46 q.1 + sumW T = _; omega
theorem cutM_iff {L : List Q4} (hB : ∀ q ∈ L, LQ 23 q) : cutM L ↔ cutF (arrF L) := by
  have hs := wd_sum hB
  have hp := sumW_perm (arr_perm L)
  have hpw := (arr_perm L).pairwise_iff (R := dsj) dsj_symm
  unfold cutM
  rw [apM_iff hB, ← hpw, cutF_46 (arr_B hB)]
  constructor
  · intro ⟨h1, h2⟩
    have h3 : (arrF L).Pairwise (fun a b => kq a + wd46 a.1 ≤ kq b) := by
      refine List.Pairwise.imp₂ (R := dsj) (S := fun a b => kq a ≤ kq b) (fun {a b} g1 g2 => ?_) h1 (arr_srt L)
      rcases g1 with g | g
      · exact g
      · have := wd46_pos b.1; omega
    have := gap (arrF L) 0 (by decide) (toB46 (arr_B hB)) (fun q hq => (lo46_b (toB46 (arr_B hB) q hq).1).1) h3
    exact this.2 (by omega)
  · intro h
    refine ⟨(cut46_hi h).imp (fun g => Or.inl g), ?_⟩
    have := cut_sumW h
    omega
theorem turn_turn {L : List Q4} (hB : ∀ q ∈ L, LQ 23 q) : cutF (turnF (turnF L)) ↔ cutF (arrF L) := by
  rw [← turn_cut (turnF_B hB), cutF_46 (arr_B hB)]
  constructor
  · intro h
    refine arr_cut (toB46 hB) (cov1_perm ?_ (cov_swp.mpr h))
    have := (turn_perm hB).map swp4
    rw [map_swp2] at this
    exact this
  · intro h
    exact cov2_turn hB (cov1_perm (arr_perm L) (cut46_cov h))
theorem make_iff {hand : List Q4} (hH : ∀ q ∈ hand, LQ 23 q) : (cutM hand ∧ cutM (hand.map swp4)) ↔ (cutF (turnF hand) ∧ cutF (turnF (turnF hand))) := by
  rw [cutM_iff hH, cutM_iff (map_swp_B hH), arr_turn hH, turn_turn hH]
  exact And.comm
theorem turn2_perm {L : List Q4} (hB : ∀ q ∈ L, LQ 23 q) : L.Perm (turnF (turnF L)) := by
  have h1 := turn_perm (turnF_B hB)
  have h2 := (turn_perm hB).map swp4
  rw [map_swp2] at h2
  exact (h1.trans h2).symm
theorem make_of {hand M : List Q4} (hH : ∀ q ∈ hand, LQ 23 q) (h1 : cutM hand) (h2 : cutM (hand.map swp4)) (hG : Mg hand M) (hN : nrm M) : arrF M = redF (turnF (turnF hand)) := by
  have hc := ((make_iff hH).mp ⟨h1, h2⟩).2
  have hB2 := turnF_B (turnF_B hH)
  exact arr_norm ((cutF_46 hB2).mp hc) (toB46 hB2) (turn2_perm hH) hG hN
/-- what is made is a map -/
theorem VM.made {hand : List Q4} (hH : ∀ q ∈ hand, LQ 23 q) (hl : hand.length ≤ 24) (h1 : cutF (turnF hand)) (h2 : cutF (turnF (turnF hand))) : VM (redF (turnF (turnF hand))) := by
  have hB2 := turnF_B (turnF_B hH)
  obtain ⟨g1, g2, g3, g4⟩ := redF_ok (turnF (turnF hand)) [] (fun x hx => absurd hx List.not_mem_nil) (toB46 hB2) trivial
  have hc : cut46 0 (redF (turnF (turnF hand))) := run_cut.mpr (g3 0 _ (run_cut.mp ((cutF_46 hB2).mp h2)))
  have hBr : ∀ x ∈ redF (turnF (turnF hand)), LQ 46 x := redF_B _ [] (fun x hx => absurd hx List.not_mem_nil) (toB46 hB2)
  have hcov : cov2 (turnF (turnF hand)) := cov2_turn (turnF_B hH) (cut46_cov ((cutF_46 (turnF_B hH)).mp h1))
  have h3 : cov2 (redF (turnF (turnF hand))) := fun y y0 y1 => (g4 y).trans (hcov y y0 y1)
  have hl2 : (redF (turnF (turnF hand))).length ≤ 24 := by
    have : (redF (turnF (turnF hand))).length ≤ 0 + (turnF (turnF hand)).length := redF_len _ []
    rw [turnF_len, turnF_len] at this
    omega
  have h23 := LQ_less hBr (cut46_cov hc) h3 hl2
  exact ⟨h23, (cutF_46 h23).mpr hc, hl2, h3⟩
