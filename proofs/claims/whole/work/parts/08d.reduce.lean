/-! reducing keeps the cuts -/
theorem hlv_pos {x y : Q4} (hx : LQ 46 x) (hy : LQ 46 y) (h : hlv x y) : hlv3 x y := by
  refine ⟨⟨?_, ?_⟩, h⟩
  · have b1 := hy.1
    obtain ⟨e1, e2, e3, e4, e5, e6⟩ := h
    rcases Int.lt_or_le 0 x.1 with g | g
    · exact g
    · have h0 : x.1 = 0 := by have := hx.1.1; omega
      have hb := b1.2.2.2
      rw [← e1, h0] at hb
      have : (2 : Int) ^ (0 : Int).toNat = 1 := rfl
      have := hx.1.2.2.1
      omega
  · have b1 := hy.2
    obtain ⟨e1, e2, e3, e4, e5, e6⟩ := h
    rcases Int.lt_or_le 0 x.2.2.1 with g | g
    · exact g
    · have h0 : x.2.2.1 = 0 := by have := hx.2.1; omega
      have hb := b1.2.2.2
      rw [← e2, h0] at hb
      have : (2 : Int) ^ (0 : Int).toNat = 1 := rfl
      have := hx.2.2.2.1
      omega
/-- a half's place -/
theorem half_lo {d c c' : Int} (h0 : 0 < d) (h1 : d ≤ 46) (h2 : c % 2 = 0) (h3 : c + 1 = c') : lo46 (d - 1) (c / 2) = lo46 d c ∧ wd46 (d - 1) = wd46 d + wd46 d ∧ lo46 d c' = lo46 d c + wd46 d := by
  unfold lo46 wd46
  rw [show (46 - (d - 1)).toNat = (46 - d).toNat + 1 by omega, Int.pow_succ]
  refine ⟨?_, by omega, by rw [← h3, Int.add_mul, Int.one_mul]⟩
  rw [← Int.mul_assoc, Int.mul_comm (c / 2), Int.mul_assoc, show c / 2 * 2 = c by omega, Int.mul_comm]
theorem hlv_lo {x y : Q4} (hx : LQ 46 x) (h : hlv3 x y) : kq (par4 x) = kq x ∧ wd46 (par4 x).1 = wd46 x.1 + wd46 y.1 ∧ kq y = kq x + wd46 x.1 := by
  obtain ⟨⟨p1, p2⟩, e1, e2, e3, e4, e5, e6⟩ := h
  obtain ⟨a, b, c⟩ := half_lo p1 hx.1.2.1 e3 e4
  unfold kq
  rw [← e1]
  exact ⟨a, b, c⟩
theorem hlv_lo2 {x y : Q4} (hx : LQ 46 x) (h : hlv3 x y) : kq2 (par4 x) = kq2 x ∧ wd46 (par4 x).2.2.1 = wd46 x.2.2.1 + wd46 y.2.2.1 ∧ kq2 y = kq2 x + wd46 x.2.2.1 := by
  obtain ⟨⟨p1, p2⟩, e1, e2, e3, e4, e5, e6⟩ := h
  obtain ⟨a, b, c⟩ := half_lo p2 hx.2.2.1 e5 e6
  unfold kq2
  rw [← e2]
  exact ⟨a, b, c⟩
theorem in2_iff {q : Q4} {y : Int} : in2 y q = true ↔ kq2 q ≤ y ∧ y < kq2 q + wd46 q.2.2.1 := by
  rw [decide_eq_true_iff]; exact isIn_iff
theorem par_count1 {x y : Q4} (hx : LQ 46 x) (h : hlv3 x y) (z : Int) : [par4 x].countP (in1 z) = [x, y].countP (in1 z) := by
  obtain ⟨a, b, c⟩ := hlv_lo hx h
  have i1 := in1_iff (q := par4 x) (y := z)
  have i2 := in1_iff (q := x) (y := z)
  have i3 := in1_iff (q := y) (y := z)
  have w1 := wd46_pos x.1
  have w2 := wd46_pos y.1
  rw [a, b] at i1
  rw [c] at i3
  simp only [List.countP_cons, List.countP_nil]
  by_cases c1 : in1 z x = true
  · have c2 : ¬ in1 z y = true := fun q => by have := i2.mp c1; have := i3.mp q; omega
    have c3 : in1 z (par4 x) = true := i1.mpr (by have := i2.mp c1; omega)
    rw [if_pos c1, if_neg c2, if_pos c3]
  · by_cases c2 : in1 z y = true
    · have c3 : in1 z (par4 x) = true := i1.mpr (by have := i3.mp c2; omega)
      rw [if_neg c1, if_pos c2, if_pos c3]
    · have c3 : ¬ in1 z (par4 x) = true := fun q => by
        have := i1.mp q
        by_cases g : z < kq x + wd46 x.1
        · exact c1 (i2.mpr (by omega))
        · exact c2 (i3.mpr (by omega))
      rw [if_neg c1, if_neg c2, if_neg c3]
theorem par_count2 {x y : Q4} (hx : LQ 46 x) (h : hlv3 x y) (z : Int) : [par4 x].countP (in2 z) = [x, y].countP (in2 z) := by
  obtain ⟨a, b, c⟩ := hlv_lo2 hx h
  have i1 := in2_iff (q := par4 x) (y := z)
  have i2 := in2_iff (q := x) (y := z)
  have i3 := in2_iff (q := y) (y := z)
  have w1 := wd46_pos x.2.2.1
  have w2 := wd46_pos y.2.2.1
  rw [a, b] at i1
  rw [c] at i3
  simp only [List.countP_cons, List.countP_nil]
  by_cases c1 : in2 z x = true
  · have c2 : ¬ in2 z y = true := fun q => by have := i2.mp c1; have := i3.mp q; omega
    have c3 : in2 z (par4 x) = true := i1.mpr (by have := i2.mp c1; omega)
    rw [if_pos c1, if_neg c2, if_pos c3]
  · by_cases c2 : in2 z y = true
    · have c3 : in2 z (par4 x) = true := i1.mpr (by have := i3.mp c2; omega)
      rw [if_neg c1, if_pos c2, if_pos c3]
    · have c3 : ¬ in2 z (par4 x) = true := fun q => by
        have := i1.mp q
        by_cases g : z < kq2 x + wd46 x.2.2.1
        · exact c1 (i2.mpr (by omega))
        · exact c2 (i3.mpr (by omega))
      rw [if_neg c1, if_neg c2, if_neg c3]
/-- cells one behind the other, from r to s -/
def run46 : Int → List Q4 → Int → Prop
  | r, [], s => r = s
  | r, q :: T, s => kq q = r ∧ run46 (r + wd46 q.1) T s
theorem run_cut {L : List Q4} {r : Int} : cut46 r L ↔ run46 r L 70368744177664 := by
  induction L generalizing r with
  | nil => exact Iff.rfl
  | cons q T ih => exact ⟨fun h => ⟨h.1, ih.mp h.2⟩, fun h => ⟨h.1, ih.mpr h.2⟩⟩
theorem run_app {L M : List Q4} {r s : Int} : run46 r (L ++ M) s ↔ ∃ t, run46 r L t ∧ run46 t M s := by
  induction L generalizing r with
  | nil => exact ⟨fun h => ⟨r, rfl, h⟩, fun ⟨t, h1, h2⟩ => by have h1 : r = t := h1; rw [h1]; exact h2⟩
  | cons q T ih =>
    constructor
    · intro ⟨h1, h2⟩
      obtain ⟨t, h3, h4⟩ := ih.mp h2
      exact ⟨t, ⟨h1, h3⟩, h4⟩
    · intro ⟨t, ⟨h1, h3⟩, h4⟩
      exact ⟨h1, ih.mpr ⟨t, h3, h4⟩⟩
/-- no two neighbours are halves -/
def adj : List Q4 → Prop
  | [] => True
  | [_] => True
  | x :: y :: T => ¬ hlv x y ∧ adj (y :: T)
theorem adj_app : ∀ {M : List Q4} {t : Q4} {T : List Q4}, adj (M ++ t :: T) ↔ adj (M ++ [t]) ∧ adj (t :: T)
  | [], t, T => ⟨fun h => ⟨trivial, h⟩, fun h => h.2⟩
  | [x], t, T => ⟨fun h => ⟨⟨h.1, trivial⟩, h.2⟩, fun h => ⟨h.1.1, h.2⟩⟩
  | x :: y :: M, t, T => by
    have ih := adj_app (M := y :: M) (t := t) (T := T)
    show (¬ hlv x y ∧ adj ((y :: M) ++ t :: T)) ↔ (¬ hlv x y ∧ adj ((y :: M) ++ [t])) ∧ adj (t :: T)
    rw [ih, and_assoc]
/-- one cell more: what it keeps -/
theorem pushL_ok : ∀ (n : Nat) (M : List Q4) (q : Q4), M.length ≤ n → (∀ x ∈ M, LQ 46 x) → LQ 46 q → adj M →
    Mg (M ++ [q]) (pushL M q) ∧ adj (pushL M q) ∧ (∀ r s, run46 r (M ++ [q]) s → run46 r (pushL M q) s) ∧ (∀ z, (pushL M q).countP (in2 z) = (M ++ [q]).countP (in2 z))
  | n, M, q, hn, hB, hq, ha => by
    rcases Nat.eq_zero_or_pos M.length with e | e
    · have e := List.eq_nil_of_length_eq_zero e
      subst e
      rw [pushL_nil]
      exact ⟨Mg.refl (List.Perm.refl _), trivial, fun r s h => h, fun z => rfl⟩
    · obtain ⟨M', t, rfl⟩ := snoc_of e
      have ht := hB t (List.mem_append_right _ List.mem_cons_self)
      by_cases c : hlv t q
      · rw [pushL_t c]
        rw [List.length_append, List.length_singleton] at hn
        match n, hn with
        | n + 1, hn =>
          have h3 := hlv_pos ht hq c
          have haM : adj M' := by
            rcases Nat.eq_zero_or_pos M'.length with f | f
            · rw [List.eq_nil_of_length_eq_zero f]; trivial
            · obtain ⟨M'', u, rfl⟩ := snoc_of f
              rw [List.append_assoc] at ha
              exact (adj_app.mp ha).1
          obtain ⟨g1, g2, g3, g4⟩ := pushL_ok n M' (par4 t) (by omega) (fun x hx => hB x (List.mem_append_left _ hx)) (ht.par hq c) haM
          refine ⟨Mg.head ⟨t, q, M', ?_, h3, ?_⟩ g1, g2, ?_, ?_⟩
          · rw [List.append_assoc]
            exact (List.perm_append_comm (l₁ := M') (l₂ := [t, q]))
          · exact List.perm_append_comm
          · intro r s h
            refine g3 r s ?_
            rw [List.append_assoc] at h
            obtain ⟨v, v1, v2⟩ := run_app.mp h
            obtain ⟨a, b, d⟩ := hlv_lo ht h3
            obtain ⟨w1, w2, w3⟩ := v2
            have w3 : v + wd46 t.1 + wd46 q.1 = s := w3
            refine run_app.mpr ⟨v, v1, by rw [a]; exact w1, ?_⟩
            show v + wd46 (par4 t).1 = s
            rw [b]; omega
          · intro z
            rw [g4 z, List.append_assoc, List.countP_append, List.countP_append, par_count2 ht h3 z]
            rfl
      · rw [pushL_f c]
        refine ⟨Mg.refl (List.Perm.refl _), ?_, fun r s h => h, fun z => rfl⟩
        rw [List.append_assoc]
        exact adj_app.mpr ⟨ha, ⟨c, trivial⟩⟩
theorem redF_ok : ∀ (P S : List Q4), (∀ x ∈ S, LQ 46 x) → (∀ x ∈ P, LQ 46 x) → adj S →
    Mg (S ++ P) (P.foldl pushL S) ∧ adj (P.foldl pushL S) ∧ (∀ r s, run46 r (S ++ P) s → run46 r (P.foldl pushL S) s) ∧ (∀ z, (P.foldl pushL S).countP (in2 z) = (S ++ P).countP (in2 z))
  | [], S, hS, hP, ha => by
    rw [List.append_nil]
    exact ⟨Mg.refl (List.Perm.refl _), ha, fun r s h => h, fun z => rfl⟩
  | q :: P, S, hS, hP, ha => by
    have hq := hP q List.mem_cons_self
    obtain ⟨g1, g2, g3, g4⟩ := pushL_ok S.length S q (Nat.le_refl _) hS hq ha
    obtain ⟨k1, k2, k3, k4⟩ := redF_ok P (pushL S q) (pushL_B hS hq) (fun x hx => hP x (List.mem_cons_of_mem _ hx)) g2
    rw [show S ++ q :: P = (S ++ [q]) ++ P by rw [List.append_assoc]; rfl]
    refine ⟨?_, k2, ?_, ?_⟩
    · refine Mg.trans ?_ k1
      exact Mg_app g1 P
    · intro r s h
      obtain ⟨t, t1, t2⟩ := run_app.mp h
      exact k3 r s (run_app.mpr ⟨t, g3 r t t1, t2⟩)
    · intro z
      show (P.foldl pushL (pushL S q)).countP (in2 z) = _
      rw [k4 z, List.countP_append, g4 z, ← List.countP_append]
where
  Mg_app {L M : List Q4} (h : Mg L M) (P : List Q4) : Mg (L ++ P) (M ++ P) := by
    induction h using Mg.ind with
    | refl p => exact Mg.refl (p.append_right P)
    | step _ b c d ih => exact Mg.step ih (b.append_right P) c (d.append_right P)
theorem adj_cons {x : Q4} {T : List Q4} (h : adj (x :: T)) : adj T := by
  cases T with
  | nil => trivial
  | cons y T => exact h.2
/-- in a cut, halves are neighbours -/
theorem cut_nrm : ∀ {L : List Q4} {r : Int}, cut46 r L → (∀ x ∈ L, LQ 46 x) → adj L → nrm L := by
  intro L r hc hB ha x hx y hy h
  obtain ⟨a, b, e⟩ := hlv_lo (hB x hx) h
  have : ∀ {L : List Q4} {r : Int}, cut46 r L → adj L → x ∈ L → y ∈ L → kq y = kq x + wd46 x.1 → False := by
    intro L
    induction L with
    | nil => intro r _ _ hx; exact absurd hx List.not_mem_nil
    | cons q T ih =>
      intro r hc ha hx hy e
      have wq := wd46_pos q.1
      have wx := wd46_pos x.1
      rcases List.mem_cons.mp hx with f | f
      · subst f
        rcases List.mem_cons.mp hy with g | g
        · rw [g] at e; omega
        · cases T with
          | nil => exact absurd g List.not_mem_nil
          | cons b T =>
            have h1 := hc.2.1
            have hb : y = b := by
              rcases List.mem_cons.mp g with k | k
              · exact k
              · have := cut46_ge hc.2.2 y k
                have := wd46_pos b.1
                have := hc.1
                omega
            rw [← hb] at ha
            exact ha.1 h.2
      · rcases List.mem_cons.mp hy with g | g
        · have := cut46_ge hc.2 x f
          have := hc.1
          rw [g] at e
          omega
        · exact ih hc.2 (adj_cons ha) f g e
  exact this hc ha hx hy e
/-- sorted normal forms of a cut are what pushing makes -/
theorem arr_norm {P L M : List Q4} (hP : cut46 0 P) (hB : ∀ x ∈ P, LQ 46 x) (hL : L.Perm P) (hG : Mg L M) (hN : nrm M) : arrF M = redF P := by
  obtain ⟨g1, g2, g3, g4⟩ := redF_ok P [] (fun x hx => absurd hx List.not_mem_nil) hB trivial
  have hc : cut46 0 (redF P) := run_cut.mpr (g3 0 _ (run_cut.mp hP))
  have hBr : ∀ x ∈ redF P, LQ 46 x := redF_B P [] (fun x hx => absurd hx List.not_mem_nil) hB
  have hp := nrm_uniq L.length L M (redF P) (Nat.le_refl _) hG hN (Mg.permL hL g1) (cut_nrm hc hBr g2)
  exact srt_uniq (cut46_lt hc) (arr_srt M) ((arr_perm M).trans hp)
