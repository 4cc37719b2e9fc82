/-! two halves become one -/
theorem qat_of_mem {M : List Q4} {x : Q4} (h : x ∈ M) : ∃ i : Int, 0 ≤ i ∧ i < M.length ∧ qat M i = x := by
  obtain ⟨n, hn, e⟩ := List.mem_iff_getElem.mp h
  refine ⟨n, by omega, by omega, ?_⟩
  unfold qat
  rw [show ((n : Int)).toNat = n by omega, List.getD_eq_getElem?_getD, List.getElem?_eq_getElem hn]
  exact e
theorem nrm_of {M : List Q4} (h : ∀ a : Int, 0 ≤ a → a < M.length → ∀ b : Int, 0 ≤ b → b < M.length → ¬ hlv3 (qat M a) (qat M b)) : nrm M := fun x hx y hy => by
  obtain ⟨a, a0, a1, ea⟩ := qat_of_mem hx
  obtain ⟨b, b0, b1, eb⟩ := qat_of_mem hy
  rw [← ea, ← eb]
  exact h a a0 a1 b b0 b1
theorem split_at {M : List Q4} {i : Int} (h0 : 0 ≤ i) (h1 : i < M.length) : ∃ A B, M = A ++ qat M i :: B ∧ (A.length : Int) = i :=
  ⟨M.take i.toNat, M.drop (i + 1).toNat, by rw [← drop_q M h0 h1, List.take_append_drop], take_len M h0 (by omega)⟩
theorem R4.rm {A B : List Q4} {y : Q4} {f : Int → Int} {j n : Int} (h : R4 (A ++ y :: B) f) (hj : j = A.length) (hn : n = (A ++ y :: B).length) : ∃ Y, R4 Y (cpf f (fun q => f (4 * (n - 1) + q)) (4 * j) 4) ∧ (A ++ y :: B).Perm (y :: Y) := by
  subst hj
  rcases Nat.eq_zero_or_pos B.length with e | e
  · have e := List.eq_nil_of_length_eq_zero e
    subst e
    refine ⟨A, ?_, List.perm_append_comm⟩
    intro k h0 h1
    rw [cpf_out (by omega), cpf_out (by omega), cpf_out (by omega), cpf_out (by omega), ← h k h0 (by simp only [List.length_append]; omega), qat_app_lt h0 h1]
  · obtain ⟨B3, z, rfl⟩ := snoc_of e
    have hl : (A ++ y :: (B3 ++ [z])).length = A.length + (B3.length + 2) := by simp only [List.length_append, List.length_cons, List.length_nil]
    rw [hl] at hn
    have hz := h (A.length + 1 + B3.length : Int) (by omega) (by omega)
    rw [show A ++ y :: (B3 ++ [z]) = (A ++ y :: B3) ++ z :: [] by simp only [List.append_assoc, List.cons_append], qat_app_at (by simp only [List.length_append, List.length_cons]; omega)] at hz
    refine ⟨A ++ z :: B3, ?_, ?_⟩
    · intro k h0 h1
      simp only [List.length_append, List.length_cons] at h1
      by_cases hk : k = A.length
      · subst hk
        rw [qat_app_at rfl, cpf_in (by omega), cpf_in (by omega), cpf_in (by omega), cpf_in (by omega), hz]
        simp only [Prod.mk.injEq]
        refine ⟨?_, ?_, ?_, ?_⟩ <;> (congr 1; omega)
      · rw [cpf_out (by omega), cpf_out (by omega), cpf_out (by omega), cpf_out (by omega), ← h k h0 (by omega), qat_app h0, qat_app h0]
        by_cases c : k < A.length
        · rw [if_pos c, if_pos c]
        · rw [if_neg c, if_neg c, qat_s (by omega), qat_s (by omega), qat_app (by omega), if_pos (by omega)]
    · have p1 : (A ++ y :: (B3 ++ [z])).Perm (y :: (A ++ (B3 ++ [z]))) := List.perm_middle
      refine p1.trans (List.Perm.cons y ?_)
      exact (List.perm_append_singleton z B3).append_left A
theorem Mg.merge {L M : List Q4} {f : Int → Int} {i j n : Int} (hG : Mg L M) (h : R4 M f) (i0 : 0 ≤ i) (i1 : i < M.length) (j0 : 0 ≤ j) (j1 : j < M.length) (hij : i ≠ j) (hn : n = M.length) (hh : hlv3 (qat M i) (qat M j)) {x y z w : Int} (hx : (x, y, z, w) = par4 (qat M i)) {g : Int → Int} (hg : g = iup (iup (iup (iup f (4 * i) x) (4 * i + 1) y) (4 * i + 2) z) (4 * i + 3) w) :
    ∃ Y, R4 Y (cpf g (fun q => g (4 * (n - 1) + q)) (4 * j) 4) ∧ Mg L Y ∧ Y.length + 1 = M.length ∧ ((∀ q ∈ M, LQ 46 q) → ∀ q ∈ Y, LQ 46 q) := by
  obtain ⟨A, B, hM, hA⟩ := split_at i0 i1
  generalize ex : qat M i = u at *
  subst hM
  have h2 : R4 (A ++ par4 u :: B) g := by rw [hg, ← hx]; exact h.set hA.symm
  have hl : ((A ++ par4 u :: B).length : Int) = (A ++ u :: B).length := by simp only [List.length_append, List.length_cons]
  have hjq : qat (A ++ par4 u :: B) j = qat (A ++ u :: B) j := by
    rw [qat_app j0, qat_app j0]
    by_cases c : j < A.length
    · rw [if_pos c, if_pos c]
    · rw [if_neg c, if_neg c, qat_s (by omega), qat_s (by omega)]
  obtain ⟨A2, B2, hM2, hA2⟩ := split_at (M := A ++ par4 u :: B) j0 (by omega)
  rw [hjq] at hM2
  have p2 : (A ++ par4 u :: B).Perm (par4 u :: (A ++ B)) := List.perm_middle
  have p3 : (A ++ u :: B).Perm (u :: (A ++ B)) := List.perm_middle
  have hvm : qat (A ++ u :: B) j ∈ A ++ u :: B := qat_mem j0 (by omega)
  generalize qat (A ++ u :: B) j = v at *
  rw [hM2] at h2 p2
  obtain ⟨Y, hY, pY⟩ := h2.rm hA2.symm (hn.trans (hl.symm.trans (by rw [hM2])))
  have hne : v ≠ par4 u := by
    intro e
    have h1 := hh.2.1
    rw [e] at h1
    unfold par4 at h1
    dsimp only at h1
    omega
  have hv : v ∈ A ++ B := by
    have := (pY.symm.trans p2).mem_iff.mp List.mem_cons_self
    rcases List.mem_cons.mp this with q | q
    · exact absurd q hne
    · exact q
  have pT := List.perm_cons_erase hv
  have pF : Y.Perm (par4 u :: (A ++ B).erase v) := by
    refine List.Perm.cons_inv (a := v) ?_
    exact pY.symm.trans (p2.trans ((pT.cons (par4 u)).trans (List.Perm.swap v (par4 u) _)))
  have pM : (A ++ u :: B).Perm (u :: v :: (A ++ B).erase v) := p3.trans (pT.cons u)
  refine ⟨Y, hY, Mg.step hG pM hh pF, ?_, ?_⟩
  · rw [pF.length_eq, pM.length_eq]; rfl
  · intro hB q hq
    have hm : ∀ q ∈ u :: v :: (A ++ B).erase v, LQ 46 q := fun q hq => hB q (pM.mem_iff.mpr hq)
    rcases List.mem_cons.mp (pF.mem_iff.mp hq) with e | e
    · rw [e]; exact (hm u List.mem_cons_self).par (hm v (List.mem_cons_of_mem _ List.mem_cons_self)) hh.2
    · exact hm q (List.mem_cons_of_mem _ (List.mem_cons_of_mem _ e))