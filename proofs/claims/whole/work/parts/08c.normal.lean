/-! sorting by the left end -/
def insRk : List Q4 → Q4 → List Q4
  | [], q => [q]
  | t :: S, q => if kq q < kq t then t :: insRk S q else q :: t :: S
def insK (L : List Q4) (q : Q4) : List Q4 := (insRk L.reverse q).reverse
/-- what the model's arrange makes of a list -/
def arrF (L : List Q4) : List Q4 := L.foldl insK []
theorem insK_nil (q : Q4) : insK [] q = [q] := rfl
theorem insK_t {M : List Q4} {t q : Q4} (h : kq q < kq t) : insK (M ++ [t]) q = insK M q ++ [t] := by
  unfold insK
  rw [List.reverse_append]
  show (insRk (t :: M.reverse) q).reverse = _
  rw [show insRk (t :: M.reverse) q = t :: insRk M.reverse q from if_pos h, List.reverse_cons]
theorem insK_f {M : List Q4} {t q : Q4} (h : ¬ kq q < kq t) : insK (M ++ [t]) q = M ++ [t] ++ [q] := by
  unfold insK
  rw [List.reverse_append]
  show (insRk (t :: M.reverse) q).reverse = _
  rw [show insRk (t :: M.reverse) q = q :: t :: M.reverse from if_neg h, List.reverse_cons, List.reverse_cons, List.reverse_reverse]
theorem insRk_perm : ∀ (S : List Q4) (q : Q4), (insRk S q).Perm (q :: S)
  | [], q => List.Perm.refl _
  | t :: S, q => by
    unfold insRk
    split
    · exact ((insRk_perm S q).cons t).trans (List.Perm.swap q t S)
    · exact List.Perm.refl _
theorem insK_perm (L : List Q4) (q : Q4) : (insK L q).Perm (L ++ [q]) := by
  unfold insK
  refine (List.reverse_perm _).trans ((insRk_perm _ q).trans ?_)
  exact ((List.reverse_perm L).cons q).trans (List.perm_append_singleton q L).symm
theorem arr_perm_aux (T S : List Q4) : (T.foldl insK S).Perm (S ++ T) := by
  induction T generalizing S with
  | nil => rw [List.append_nil]; exact List.Perm.refl _
  | cons q T ih =>
    refine (ih (insK S q)).trans ?_
    have := (insK_perm S q).append_right T
    rw [List.append_assoc] at this
    exact this
theorem arr_perm (L : List Q4) : (arrF L).Perm L := arr_perm_aux L []
theorem arr_len (L : List Q4) : (arrF L).length = L.length := (arr_perm L).length_eq
theorem arr_start (L : List Q4) : (L.drop 1).foldl insK (L.take 1) = arrF L := by cases L <;> rfl
theorem insRk_srt : ∀ (S : List Q4) (q : Q4), S.Pairwise (fun a b => kq b ≤ kq a) → (insRk S q).Pairwise (fun a b => kq b ≤ kq a)
  | [], q, _ => List.pairwise_singleton _ _
  | t :: S, q, h => by
    obtain ⟨h1, h2⟩ := List.pairwise_cons.mp h
    unfold insRk
    by_cases c : kq q < kq t
    · rw [if_pos c]
      refine List.pairwise_cons.mpr ⟨fun x hx => ?_, insRk_srt S q h2⟩
      rcases List.mem_cons.mp ((insRk_perm S q).mem_iff.mp hx) with e | e
      · rw [e]; omega
      · exact h1 x e
    · rw [if_neg c]
      refine List.pairwise_cons.mpr ⟨fun x hx => ?_, h⟩
      rcases List.mem_cons.mp hx with e | e
      · rw [e]; omega
      · have := h1 x e; omega
theorem insK_srt {S : List Q4} {q : Q4} (h : S.Pairwise (fun a b => kq a ≤ kq b)) : (insK S q).Pairwise (fun a b => kq a ≤ kq b) := by
  unfold insK
  rw [List.pairwise_reverse]
  exact insRk_srt _ _ (by rw [List.pairwise_reverse]; exact h)
theorem arr_srt_aux : ∀ (T S : List Q4), S.Pairwise (fun a b => kq a ≤ kq b) → (T.foldl insK S).Pairwise (fun a b => kq a ≤ kq b)
  | [], S, h => h
  | q :: T, S, h => arr_srt_aux T (insK S q) (insK_srt h)
theorem arr_srt (L : List Q4) : (arrF L).Pairwise (fun a b => kq a ≤ kq b) := arr_srt_aux L [] List.Pairwise.nil
theorem insK_B {N : Int} {S : List Q4} {q : Q4} (hS : ∀ x ∈ S, LQ N x) (hq : LQ N q) : ∀ x ∈ insK S q, LQ N x := fun x hx => by
  have := (insK_perm S q).mem_iff.mp hx
  rcases List.mem_append.mp this with h | h
  · exact hS x h
  · rw [List.mem_singleton.mp h]; exact hq
theorem insK_len (S : List Q4) (q : Q4) : (insK S q).length = S.length + 1 := by
  have := (insK_perm S q).length_eq
  rw [List.length_append] at this
  exact this
theorem arr_B {N : Int} {L : List Q4} (h : ∀ x ∈ L, LQ N x) : ∀ x ∈ arrF L, LQ N x := fun x hx => h x ((arr_perm L).mem_iff.mp hx)
theorem arr_cut {L : List Q4} (hB : ∀ q ∈ L, LQ 46 q) (hc : cov1 L) : cut46 0 (arrF L) :=
  cov_cut (arrF L) 0 (Int.le_refl _) (by decide) (arr_B hB) (fun q hq => (lo46_b (arr_B hB q hq).1).1) (arr_srt L) (fun y h0 h1 => cov1_perm (arr_perm L).symm hc y h0 h1)
theorem cut46_lt : ∀ {L : List Q4} {r : Int}, cut46 r L → L.Pairwise (fun a b => kq a < kq b)
  | [], _, _ => List.Pairwise.nil
  | q :: T, r, h => List.pairwise_cons.mpr ⟨fun x hx => by have := cut46_ge h.2 x hx; have := h.1; have := wd46_pos q.1; omega, cut46_lt h.2⟩
/-- a list in strict order is what any list of the same cells is sorted to -/
theorem srt_uniq : ∀ {L M : List Q4}, L.Pairwise (fun a b => kq a < kq b) → M.Pairwise (fun a b => kq a ≤ kq b) → M.Perm L → M = L
  | [], M, _, _, p => List.perm_nil.mp p
  | x :: L, [], _, _, p => absurd p.length_eq (by simp)
  | x :: L, y :: M, hL, hM, p => by
    obtain ⟨l1, l2⟩ := List.pairwise_cons.mp hL
    obtain ⟨m1, m2⟩ := List.pairwise_cons.mp hM
    have hxy : y = x := by
      have hy := p.mem_iff.mp (List.mem_cons_self (a := y) (l := M))
      have hx := p.mem_iff.mpr (List.mem_cons_self (a := x) (l := L))
      rcases List.mem_cons.mp hy with e | e
      · exact e
      · rcases List.mem_cons.mp hx with f | f
        · exact f.symm
        · have := l1 y e; have := m1 x f; omega
    subst hxy
    rw [srt_uniq l2 m2 (List.Perm.cons_inv p)]
/-! two halves become one -/
abbrev hlv3 (x y : Q4) : Prop := (0 < x.1 ∧ 0 < x.2.2.1) ∧ hlv x y
def MgN (L : List Q4) : Nat → List Q4 → Prop
  | 0, M => M.Perm L
  | n + 1, M' => ∃ (M T : List Q4) (x y : Q4), MgN L n M ∧ M.Perm (x :: y :: T) ∧ hlv3 x y ∧ M'.Perm (par4 x :: T)
/-- some steps down from L -/
def Mg (L M : List Q4) : Prop := ∃ n, MgN L n M
theorem Mg.refl {L M : List Q4} (p : M.Perm L) : Mg L M := ⟨0, p⟩
theorem Mg.step {L M M' T : List Q4} {x y : Q4} (h : Mg L M) (a : M.Perm (x :: y :: T)) (b : hlv3 x y) (c : M'.Perm (par4 x :: T)) : Mg L M' := by
  obtain ⟨n, hn⟩ := h
  exact ⟨n + 1, M, T, x, y, hn, a, b, c⟩
theorem Mg.ind {L : List Q4} {motive : (M : List Q4) → Mg L M → Prop} (refl : ∀ {M : List Q4} (p : M.Perm L), motive M (Mg.refl p)) (step : ∀ {M M' T : List Q4} {x y : Q4} (h : Mg L M) (a : M.Perm (x :: y :: T)) (b : hlv3 x y) (c : M'.Perm (par4 x :: T)), motive M h → motive M' (Mg.step h a b c)) {M : List Q4} (h : Mg L M) : motive M h := by
  obtain ⟨n, hn⟩ := h
  induction n generalizing M with
  | zero => exact refl hn
  | succ n ih =>
    obtain ⟨K, T, x, y, h1, h2, h3, h4⟩ := hn
    exact step ⟨n, h1⟩ h2 h3 h4 (ih h1)
def nrm (M : List Q4) : Prop := ∀ x ∈ M, ∀ y ∈ M, ¬ hlv3 x y
theorem Mg.len {L M : List Q4} (h : Mg L M) : M.length ≤ L.length := by
  induction h using Mg.ind with
  | refl p => exact Nat.le_of_eq p.length_eq
  | step _ p _ p' ih => have := p.length_eq; have := p'.length_eq; simp only [List.length_cons] at *; omega
/-- one step -/
def M1 (M M' : List Q4) : Prop := ∃ x y T, M.Perm (x :: y :: T) ∧ hlv3 x y ∧ M'.Perm (par4 x :: T)
theorem M1.len {M M' : List Q4} (h : M1 M M') : M'.length + 1 = M.length := by
  obtain ⟨x, y, T, p, _, p'⟩ := h
  rw [p.length_eq, p'.length_eq]; rfl
theorem M1.permL {M N M' : List Q4} (h : M1 M M') (p : N.Perm M) : M1 N M' := by
  obtain ⟨x, y, T, q, g, q'⟩ := h
  exact ⟨x, y, T, p.trans q, g, q'⟩
theorem M1.permR {M N M' : List Q4} (h : M1 M M') (p : N.Perm M') : M1 M N := by
  obtain ⟨x, y, T, q, g, q'⟩ := h
  exact ⟨x, y, T, q, g, p.trans q'⟩
theorem Mg.perm {L M N : List Q4} (h : Mg L M) (p : N.Perm M) : Mg L N := by
  induction h using Mg.ind with
  | refl q => exact Mg.refl (p.trans q)
  | step a b c d _ => exact Mg.step a b c (p.trans d)
theorem Mg.head {L L' M : List Q4} (s : M1 L L') (h : Mg L' M) : Mg L M := by
  induction h using Mg.ind with
  | refl p =>
    obtain ⟨x, y, T, q, g, q'⟩ := s
    exact Mg.step (Mg.refl (List.Perm.refl _)) q g (p.trans q')
  | step _ b c d ih => exact Mg.step ih b c d
theorem Mg.permL {L L' M : List Q4} (p : L'.Perm L) (h : Mg L M) : Mg L' M := by
  induction h using Mg.ind with
  | refl q => exact Mg.refl (q.trans p.symm)
  | step _ b c d ih => exact Mg.step ih b c d
theorem Mg.trans {L M N : List Q4} (h1 : Mg L M) (h2 : Mg M N) : Mg L N := by
  induction h2 using Mg.ind with
  | refl p => exact h1.perm p
  | step _ b c d ih => exact Mg.step ih b c d
/-- from the front: nothing, or one step first -/
theorem Mg.cases1 {L M : List Q4} (h : Mg L M) : M.Perm L ∨ ∃ L', M1 L L' ∧ Mg L' M := by
  induction h using Mg.ind with
  | refl p => exact Or.inl p
  | step _ b c d ih =>
    rcases ih with e | ⟨L', s, g⟩
    · exact Or.inr ⟨_, ⟨_, _, _, e.symm.trans b, c, d⟩, Mg.refl (List.Perm.refl _)⟩
    · exact Or.inr ⟨L', s, Mg.step g b c d⟩
theorem hlv3_y {x y y' : Q4} (h : hlv3 x y) (h' : hlv3 x y') : y = y' := by
  obtain ⟨_, a1, a2, a3, a4, a5, a6⟩ := h
  obtain ⟨_, b1, b2, b3, b4, b5, b6⟩ := h'
  obtain ⟨y1, y2, y3, y4⟩ := y
  obtain ⟨z1, z2, z3, z4⟩ := y'
  simp only [Prod.mk.injEq] at *
  exact ⟨by omega, by omega, by omega, by omega⟩
theorem hlv3_x {x x' y : Q4} (h : hlv3 x y) (h' : hlv3 x' y) : x = x' := by
  obtain ⟨_, a1, a2, a3, a4, a5, a6⟩ := h
  obtain ⟨_, b1, b2, b3, b4, b5, b6⟩ := h'
  obtain ⟨y1, y2, y3, y4⟩ := x
  obtain ⟨z1, z2, z3, z4⟩ := x'
  simp only [Prod.mk.injEq] at *
  exact ⟨by omega, by omega, by omega, by omega⟩
theorem hlv3_xy {x y x' : Q4} (h : hlv3 x y) (h' : hlv3 y x') : False := by
  have a := h.2.2.2.1
  have b := h.2.2.2.2.1
  have c := h'.2.2.2.1
  omega
theorem perm_two {x y a b : Q4} {T U : List Q4} (p : (x :: y :: T).Perm (a :: b :: U)) (h1 : x ≠ a) (h2 : x ≠ b) (h3 : y ≠ a) (h4 : y ≠ b) : ∃ V, T.Perm (a :: b :: V) ∧ U.Perm (x :: y :: V) := by
  have hx : x ∈ U := by
    have := p.mem_iff.mp (List.mem_cons_self (a := x) (l := y :: T))
    rcases List.mem_cons.mp this with e | e
    · exact absurd e h1
    · rcases List.mem_cons.mp e with f | f
      · exact absurd f h2
      · exact f
  have pU := List.perm_cons_erase hx
  have p2 : (y :: T).Perm (a :: b :: U.erase x) := by
    refine List.Perm.cons_inv (a := x) ?_
    refine p.trans ?_
    refine ((pU.cons b).cons a).trans ?_
    exact ((List.Perm.swap x b _).cons a).trans (List.Perm.swap x a _)
  have hy : y ∈ U.erase x := by
    have := p2.mem_iff.mp (List.mem_cons_self (a := y) (l := T))
    rcases List.mem_cons.mp this with e | e
    · exact absurd e h3
    · rcases List.mem_cons.mp e with f | f
      · exact absurd f h4
      · exact f
  have pV := List.perm_cons_erase hy
  refine ⟨(U.erase x).erase y, ?_, pU.trans (pV.cons x)⟩
  refine List.Perm.cons_inv (a := y) ?_
  refine p2.trans ?_
  refine ((pV.cons b).cons a).trans ?_
  exact ((List.Perm.swap y b _).cons a).trans (List.Perm.swap y a _)
theorem M1.diamond {M N1 N2 : List Q4} (h1 : M1 M N1) (h2 : M1 M N2) : N1.Perm N2 ∨ ∃ K, M1 N1 K ∧ M1 N2 K := by
  obtain ⟨x, y, T, p, g, p'⟩ := h1
  obtain ⟨a, b, U, q, k, q'⟩ := h2
  have pq := p.symm.trans q
  by_cases e : x = a
  · subst e
    have := hlv3_y g k
    subst this
    have : T.Perm U := List.Perm.cons_inv (List.Perm.cons_inv pq)
    exact Or.inl (p'.trans ((this.cons _).trans q'.symm))
  · have hyb : y ≠ b := fun f => e (by subst f; exact hlv3_x g k)
    have hxb : x ≠ b := fun f => by subst f; exact hlv3_xy k g
    have hya : y ≠ a := fun f => by subst f; exact hlv3_xy g k
    obtain ⟨V, v1, v2⟩ := perm_two pq e hxb hya hyb
    refine Or.inr ⟨par4 x :: par4 a :: V, ⟨a, b, par4 x :: V, ?_, k, List.Perm.swap _ _ _⟩, ⟨x, y, par4 a :: V, ?_, g, List.Perm.refl _⟩⟩
    · refine p'.trans ((v1.cons _).trans ?_)
      exact (List.Perm.swap a (par4 x) _).trans ((List.Perm.swap b (par4 x) _).cons a)
    · refine q'.trans ((v2.cons _).trans ?_)
      exact (List.Perm.swap x (par4 a) _).trans ((List.Perm.swap y (par4 a) _).cons x)
theorem nrm_no {M M' : List Q4} (h : nrm M) (s : M1 M M') : False := by
  obtain ⟨x, y, T, p, g, _⟩ := s
  exact h x (p.mem_iff.mpr List.mem_cons_self) y (p.mem_iff.mpr (List.mem_cons_of_mem _ List.mem_cons_self)) g
/-- every list goes down to a list in which there are no halves -/
theorem nrm_ex : ∀ (n : Nat) (M : List Q4), M.length ≤ n → ∃ N, Mg M N ∧ nrm N
  | 0, M, h => ⟨M, Mg.refl (List.Perm.refl _), fun x hx => by have := List.length_pos_of_mem hx; omega⟩
  | n + 1, M, h => by
    by_cases c : nrm M
    · exact ⟨M, Mg.refl (List.Perm.refl _), c⟩
    · have : ∃ M', M1 M M' := by
        refine Classical.byContradiction fun no => c fun x hx y hy g => no ?_
        have hxy : x ≠ y := fun e => by subst e; exact hlv3_xy g g
        have p1 := List.perm_cons_erase hx
        have hy2 : y ∈ M.erase x := by
          rcases List.mem_cons.mp (p1.mem_iff.mp hy) with e | e
          · exact absurd e.symm hxy
          · exact e
        exact ⟨_, x, y, _, p1.trans ((List.perm_cons_erase hy2).cons x), g, List.Perm.refl _⟩
      obtain ⟨M', s⟩ := this
      have := s.len
      obtain ⟨N, g, hN⟩ := nrm_ex n M' (by omega)
      exact ⟨N, Mg.head s g, hN⟩
theorem nrm_uniq : ∀ (n : Nat) (M N1 N2 : List Q4), M.length ≤ n → Mg M N1 → nrm N1 → Mg M N2 → nrm N2 → N1.Perm N2
  | n, M, N1, N2, hn, g1, h1, g2, h2 => by
    rcases g1.cases1 with e1 | ⟨L1, s1, k1⟩
    · rcases g2.cases1 with e2 | ⟨L2, s2, k2⟩
      · exact e1.trans e2.symm
      · exact (nrm_no h1 (s2.permL e1)).elim
    · rcases g2.cases1 with e2 | ⟨L2, s2, k2⟩
      · exact (nrm_no h2 (s1.permL e2)).elim
      · match n, hn with
        | 0, hn => exact absurd s1.len (by omega)
        | n + 1, hn =>
          have l1 := s1.len
          have l2 := s2.len
          rcases M1.diamond s1 s2 with e | ⟨K, a, b⟩
          · exact nrm_uniq n L1 N1 N2 (by omega) k1 h1 (Mg.permL e k2) h2
          · obtain ⟨N, gN, hN⟩ := nrm_ex K.length K (Nat.le_refl _)
            exact (nrm_uniq n L1 N1 N (by omega) k1 h1 (Mg.head a gN) hN).trans (nrm_uniq n L2 N N2 (by omega) (Mg.head b gN) hN k2 h2)
