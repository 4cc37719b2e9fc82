/-! the words of the ball -/
theorem noteW_pre (W : List (List Q4)) (x : List Q4) : W <+: noteW W x := by
  unfold noteW
  split
  · exact List.prefix_refl _
  · exact List.prefix_append _ _
theorem noteW_mem (W : List (List Q4)) (x : List Q4) : x ∈ noteW W x := by
  unfold noteW
  split
  · assumption
  · exact List.mem_append_right _ List.mem_cons_self
theorem mem_noteW {W : List (List Q4)} {x y : List Q4} (h : y ∈ noteW W x) : y ∈ W ∨ y = x := by
  unfold noteW at h
  split at h
  · exact Or.inl h
  · rcases List.mem_append.mp h with g | g
    · exact Or.inl g
    · exact Or.inr (List.mem_singleton.mp g)
/-- the first g of the four behind a word -/
def fourK (W : List (List Q4)) (x : List Q4) : Nat → List (List Q4)
  | 0 => W
  | g + 1 => noteW (fourK W x g) (compF x (genW (g : Int)))
theorem fourK_4 (W : List (List Q4)) (x : List Q4) : fourK W x 4 = fourW W x := rfl
theorem fourK_pre (W : List (List Q4)) (x : List Q4) : ∀ g n : Nat, fourK W x g <+: fourK W x (g + n)
  | g, 0 => List.prefix_refl _
  | g, n + 1 => (fourK_pre W x g n).trans (noteW_pre _ _)
theorem fourW_pre (W : List (List Q4)) (x : List Q4) (g : Nat) (h : g ≤ 4) : fourK W x g <+: fourW W x := by
  have := fourK_pre W x g (4 - g)
  rw [show g + (4 - g) = 4 by omega] at this
  exact this
theorem fold_pre : ∀ (T : List (List Q4)) (W : List (List Q4)), W <+: T.foldl fourW W
  | [], W => List.prefix_refl _
  | x :: T, W => ((fourW_pre W x 0 (by omega)).trans (List.prefix_refl _)).trans (fold_pre T (fourW W x))
theorem ballL_s (n : Nat) : ballL (n + 1) = ((ballL n).drop (firstF n)).foldl fourW (ballL n) := by
  cases n <;> rfl
theorem ballL_pre (n m : Nat) : ballL n <+: ballL (n + m) := by
  induction m with
  | zero => exact List.prefix_refl _
  | succ m ih =>
    refine ih.trans ?_
    show ballL (n + m) <+: ballL (n + m + 1)
    rw [ballL_s]
    exact fold_pre _ _
theorem ballL_4 {n : Nat} (h : n ≤ 4) : ballL n <+: ballL 4 := by
  have := ballL_pre n (4 - n)
  rw [show n + (4 - n) = 4 by omega] at this
  exact this
theorem ball_count : (ballL 4).length = 161 ∧ (ballL 4).all (fun L => decide (L.length ≤ 24)) = true := by decide +kernel
theorem ball_small {L : List Q4} (h : L ∈ ballL 4) : L.length ≤ 24 := of_decide_eq_true (List.all_eq_true.mp ball_count.2 L h)
theorem genW_VM {g : Int} (h0 : 0 ≤ g) (h1 : g < 4) : VM (genW g) := by
  unfold genW
  split
  · exact (VM.strong (by omega) (by omega)).turn
  · exact VM.strong (by omega) (by omega)
theorem four_VM {W : List (List Q4)} {x : List Q4} (hx : VM x) (hW : ∀ L ∈ W, VM L) : ∀ g : Nat, g ≤ 4 → (∀ L ∈ fourK W x g, L.length ≤ 24) → ∀ L ∈ fourK W x g, VM L
  | 0, _, _ => hW
  | g + 1, hg, h => fun L hL => by
    rcases mem_noteW hL with e | e
    · exact four_VM hx hW g (by omega) (fun L hL => h L ((noteW_pre _ _).subset hL)) L e
    · have := h L hL
      rw [e] at this ⊢
      exact VM.comp hx (genW_VM (by omega) (by omega)) this
theorem fold_VM : ∀ (T W : List (List Q4)), (∀ x ∈ T, VM x) → (∀ L ∈ W, VM L) → (∀ L ∈ T.foldl fourW W, L.length ≤ 24) → ∀ L ∈ T.foldl fourW W, VM L
  | [], W, _, hW, _ => hW
  | x :: T, W, hT, hW, h => fold_VM T (fourW W x) (fun y hy => hT y (List.mem_cons_of_mem _ hy)) (four_VM (hT x List.mem_cons_self) hW 4 (Nat.le_refl _) (fun L hL => h L ((fold_pre T (fourW W x)).subset hL))) h
theorem ball_VM : ∀ n : Nat, n ≤ 4 → ∀ L ∈ ballL n, VM L
  | 0, _ => fun L hL => by rw [List.mem_singleton.mp hL]; exact VM.nothing
  | n + 1, hn => fun L hL => by
    have ih := ball_VM n (by omega)
    have hp := ballL_4 (n := n + 1) hn
    rw [ballL_s] at hL hp
    exact fold_VM _ _ (fun x hx => ih x (List.mem_of_mem_drop hx)) ih (fun L hL => ball_small (hp.subset hL)) L hL
theorem pre_VM {W : List (List Q4)} (h : W <+: ballL 4) : ∀ L ∈ W, VM L := fun L hL => ball_VM 4 (Nat.le_refl _) L (h.subset hL)
theorem pre_len {W : List (List Q4)} (h : W <+: ballL 4) : W.length ≤ 161 := by
  have := h.length_le
  rw [ball_count.1] at this
  exact this
theorem wat_pre {V W : List (List Q4)} (h : V <+: W) {w : Int} (h0 : 0 ≤ w) (h1 : w < V.length) : wat W w = wat V w := by
  obtain ⟨T, rfl⟩ := h
  unfold wat
  rw [List.getD_eq_getElem?_getD, List.getD_eq_getElem?_getD, List.getElem?_append_left (by omega)]
theorem wat_mem {W : List (List Q4)} {w : Int} (h0 : 0 ≤ w) (h1 : w < W.length) : wat W w ∈ W := by
  unfold wat
  rw [List.getD_eq_getElem?_getD, List.getElem?_eq_getElem (by omega)]
  exact List.getElem_mem _
theorem wat_of_mem {W : List (List Q4)} {L : List Q4} (h : L ∈ W) : ∃ w : Int, 0 ≤ w ∧ w < W.length ∧ wat W w = L := by
  obtain ⟨n, hn, e⟩ := List.mem_iff_getElem.mp h
  refine ⟨n, by omega, by omega, ?_⟩
  unfold wat
  rw [show ((n : Int)).toNat = n by omega, List.getD_eq_getElem?_getD, List.getElem?_eq_getElem hn]
  exact e
/-- after the words lo .. w - 1 -/
def fromW (V : List (List Q4)) (lo : Nat) (w : Int) : List (List Q4) := ((V.drop lo).take (w - lo).toNat).foldl fourW V
theorem fromW_0 (V : List (List Q4)) (lo : Nat) : fromW V lo lo = V := by
  unfold fromW
  rw [Int.sub_self]
  rfl
theorem fromW_s {V : List (List Q4)} {lo : Nat} {w : Int} (h0 : (lo : Int) ≤ w) (h1 : w < V.length) : fromW V lo (w + 1) = fourW (fromW V lo w) (wat V w) := by
  unfold fromW
  have ht := take_s (V.drop lo) (i := w - lo) (by omega) (by rw [List.length_drop]; omega) []
  rw [show w - (lo : Int) + 1 = w + 1 - lo by omega] at ht
  rw [ht, List.foldl_append]
  have e : (V.drop lo).getD (w - lo).toNat [] = wat V w := by
    unfold wat
    rw [List.getD_eq_getElem?_getD, List.getD_eq_getElem?_getD, List.getElem?_drop, show lo + (w - lo).toNat = w.toNat by omega]
  rw [e]
  rfl
theorem fromW_all {n : Nat} {w : Int} (h : ((ballL n).length : Int) ≤ w) : fromW (ballL n) (firstF n) w = ballL (n + 1) := by
  rw [ballL_s]
  unfold fromW
  rw [List.take_of_length_le (by rw [List.length_drop]; omega)]
theorem fromW_pre0 (V : List (List Q4)) (lo : Nat) (w : Int) : V <+: fromW V lo w := fold_pre _ _
theorem fromW_pre {n : Nat} (hn : n + 1 ≤ 4) (w : Int) : fromW (ballL n) (firstF n) w <+: ballL 4 := by
  have h := ballL_4 hn
  refine List.IsPrefix.trans ?_ h
  rw [ballL_s]
  unfold fromW
  have e : (ballL n).drop (firstF n) = ((ballL n).drop (firstF n)).take (w - (firstF n : Nat)).toNat ++ ((ballL n).drop (firstF n)).drop (w - (firstF n : Nat)).toNat := (List.take_append_drop _ _).symm
  generalize (ballL n).drop (firstF n) = D at *
  rw [e, List.foldl_append]
  rw [← e]
  exact fold_pre _ _
theorem firstF_le {n : Nat} (h : n ≤ 4) : firstF n ≤ (ballL n).length := by
  cases n with
  | zero => exact Nat.zero_le _
  | succ n => exact (ballL_pre n 1).length_le
/-! the rows of words -/
theorem WT.add {W : List (List Q4)} {uw us : Int} {L : List Q4} {m12 m13 m7 : Int → Int} (h : WT W uw m12 m13) (hW : ∀ x ∈ W, x.length ≤ 24) (hus : us = L.length) (hL : R4 L m7) : WT (W ++ [L]) (uw + 1) (iup m12 uw us) (cpf m13 m7 (96 * uw) (4 * us)) := by
  have hu := h.1
  refine ⟨by rw [hu, List.length_append, List.length_singleton]; rfl, fun w w0 w1 => ?_⟩
  rw [List.length_append, List.length_singleton] at w1
  by_cases e : w = uw
  · have hw : wat (W ++ [L]) w = L := by
      unfold wat
      rw [List.getD_eq_getElem?_getD, List.getElem?_append_right (by omega), show w.toNat - W.length = 0 by omega]
      rfl
    subst e
    rw [hw, iup_s]
    exact ⟨hus, hL.congr (fun k k0 k1 => by rw [cpf_in (by omega), show 96 * w + k - 96 * w = k by omega])⟩
  · have hp := wat_pre (V := W) (W := W ++ [L]) (List.prefix_append _ _) w0 (by omega)
    rw [hp, iup_n e]
    have h2 := h.2 w w0 (by omega)
    have h3 := hW _ (wat_mem w0 (show w < W.length by omega))
    exact ⟨h2.1, h2.2.congr (fun k k0 k1 => by rw [cpf_out (by omega)])⟩
theorem WT.note {W : List (List Q4)} {uw us : Int} {L : List Q4} {m12 m13 m7 : Int → Int} (h : WT W uw m12 m13) (hW : ∀ x ∈ W, x.length ≤ 24) (hus : us = L.length) (hL : R4 L m7) (hn : L ∉ W) : WT (noteW W L) (uw + 1) (iup m12 uw us) (cpf m13 m7 (96 * uw) (4 * us)) := by
  unfold noteW
  rw [if_neg hn]
  exact h.add hW hus hL
theorem WT.nil {m12 m13 : Int → Int} : WT [] 0 m12 m13 := ⟨rfl, fun w w0 w1 => absurd w1 (by simp; omega)⟩
