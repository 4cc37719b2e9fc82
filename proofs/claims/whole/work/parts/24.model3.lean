set_option maxHeartbeats 4000000 in
set_option maxRecDepth 100000 in
/-- X3_arrange -/
theorem c_X3_arrange (l : Launch) (G : Gx) (o : Nat) (uh ud uc us uo ub uw ua ue ux : Int) (m0 m1 m3 m7 m8 m12 m13 m14 m15 m16 : Int → Int) (L : List Q4) : Met l yX3_arrange wsX3_arrange ({ frames := 1, cells := 0, slots := 0, locals := 29 } : Room) (cPc G [.ref o] (fun H => MP G H o uh ud uc us uo ub uw ua ue ux m0 m1 m3 m7 m8 m12 m13 m14 m15 m16 ∧ us = L.length ∧ L.length ≤ 64 ∧ R4 L m7 ∧ (∀ q ∈ L, LQ 46 q))) (qmV (fun H => ∃ m7', MP G H o uh ud uc us uo ub uw ua ue ux m0 m1 m3 m7' m8 m12 m13 m14 m15 m16 ∧ R4 (arrF L) m7') (fun q : Nat => o ≤ q ∧ q < o + 11)) 0 0 (fun q : Nat => o ≤ q ∧ q < o + 11) := by
  refine Met.ofJ (cc := cX3_arrange) (maxL := 3) (ret := none) (lv0 := [(0, .ref o)]) (by decide) rfl (Nat.le_of_ble_eq_true rfl) rfl ?_
  intro p e s m args below meth c C hr hnm hpre
  obtain ⟨hM, hus, hll, hL0, hB0⟩ := hpre
  have hwX3 : ∀ w ∈ u_ws RX3 TX3 20, w ∈ wsX3_arrange := by decide +kernel
  have htd := List.take_append_drop 1 L
  have hld : (L.take 1).length + (L.drop 1).length = L.length := (by rw [← List.length_append, htd])
  have hl1 : (L.take 1).length = min 1 L.length := List.length_take
  refine j_iconst C dX3_arrange_0 ?_
  refine j_istore_n (lv' := [(0, .ref o), (1, .int (zI 1))]) C dX3_arrange_1 (by decide) rfl ?_
  have K2 : ∀ (fu2 : Nat) (i : Int) (S T : List Q4) (m7 : Int → Int) (Hl1 : Heap), T.length < fu2 → MP G Hl1 o uh ud uc us uo ub uw ua ue ux m0 m1 m3 m7 m8 m12 m13 m14 m15 m16 → us = S.length + T.length → (0 ≤ i ∧ i ≤ 65) ∧ (i = S.length ∨ (us ≤ i ∧ T = [])) → R4 (S ++ T) m7 → (∀ x ∈ S, LQ 46 x) → (∀ x ∈ T, LQ 46 x) → T.foldl insK S = arrF L → JJ p l e ({ frames := 1, cells := 0, slots := 0, locals := 29 } : Room) s m args below meth c (MQ below (qmV (fun H => ∃ m7', MP G H o uh ud uc us uo ub uw ua ue ux m0 m1 m3 m7' m8 m12 m13 m14 m15 m16 ∧ R4 (arrF L) m7') (fun q : Nat => o ≤ q ∧ q < o + 11)) args s 0 0 (fun q : Nat => o ≤ q ∧ q < o + 11)) (fun q : Nat => o ≤ q ∧ q < o + 11) 3 Hl1 0 0 2 [(0, .ref o), (1, .int (zI i))] [] := by
    intro fu2
    induction fu2 with
    | zero => intro i S T m7 Hl1 hm2 hM hs hi hL hBS hBT hf; exact absurd hm2 (Nat.not_lt_zero _)
    | succ fu2 ih2 =>
      intro i S T m7 Hl1 hm2 hM hs hi hL hBS hBT hf
      refine j_iload_n C dX3_arrange_2 rfl ?_
      refine j_aload_n C dX3_arrange_3 rfl ?_
      refine j_get (T := TX3) (N := 20) (fs := _) (v := .int (zI us)) C hwX3 hM.1 6 (by decide) rfl (index := 51) (ref := "TreePairsModel") (by decide +kernel) rfl rfl dX3_arrange_4 ?_
      refine j_icmp_ge (tgt := 48) C dX3_arrange_7 (by decide) ⟨by omega, by omega⟩ ⟨by omega, by omega⟩ (fun c7 => ?_) (fun c7 => ?_)
      · skip
        have hT : T = [] := (by rcases hi.2 with h | h; exact List.eq_nil_of_length_eq_zero (by omega); exact h.2)
        subst hT
        exact j_vret C hr (Nat.le_refl _) (Nat.zero_le _) ⟨m7, hM, (by rw [List.append_nil] at hL; rw [← hf]; exact hL)⟩ dX3_arrange_48
      · skip
        obtain ⟨q, T, rfl⟩ : ∃ q T', T = q :: T' := (by cases T with | nil => exact absurd c7 (by rw [List.length_nil] at hs; rcases hi.2 with h | h <;> omega) | cons q T => exact ⟨q, T, rfl⟩)
        have hBq := hBT q List.mem_cons_self
        have hiS : i = S.length := (by rcases hi.2 with h | h; exact h; omega)
        have hle : (q :: T).length = T.length + 1 := List.length_cons
        refine j_iload_n C dX3_arrange_10 rfl ?_
        refine j_istore_n (lv' := [(0, .ref o), (1, .int (zI i)), (2, .int (zI i))]) C dX3_arrange_11 (by decide) rfl ?_
        have K12 : ∀ (fu12 : Nat) (j : Int) (M N : List Q4) (m7 : Int → Int) (Hl2 : Heap), M.length < fu12 → MP G Hl2 o uh ud uc us uo ub uw ua ue ux m0 m1 m3 m7 m8 m12 m13 m14 m15 m16 → j = M.length → M.length + N.length = S.length → R4 (M ++ q :: (N ++ T)) m7 → (∀ x ∈ M, LQ 46 x) → insK M q ++ N = insK S q → JJ p l e ({ frames := 1, cells := 0, slots := 0, locals := 29 } : Room) s m args below meth c (MQ below (qmV (fun H => ∃ m7', MP G H o uh ud uc us uo ub uw ua ue ux m0 m1 m3 m7' m8 m12 m13 m14 m15 m16 ∧ R4 (arrF L) m7') (fun q : Nat => o ≤ q ∧ q < o + 11)) args s 0 0 (fun q : Nat => o ≤ q ∧ q < o + 11)) (fun q : Nat => o ≤ q ∧ q < o + 11) 3 Hl2 0 0 12 [(0, .ref o), (1, .int (zI i)), (2, .int (zI j))] [] := by
          intro fu12
          induction fu12 with
          | zero => intro j M N m7 Hl2 hm12 hM hj hln hL hBM hin; exact absurd hm12 (Nat.not_lt_zero _)
          | succ fu12 ih12 =>
            intro j M N m7 Hl2 hm12 hM hj hln hL hBM hin
            refine j_iload_n C dX3_arrange_12 rfl ?_
            refine j_if_le (tgt := 42) C dX3_arrange_13 (by decide) ⟨by omega, by omega⟩ (fun c13 => ?_) (fun c13 => ?_)
            · skip
              have hX : R4 (insK S q ++ T) m7 := (by have e : M = [] := List.eq_nil_of_length_eq_zero (by omega); subst e; rw [← hin]; exact hL)
              refine j_iinc (lv' := [(0, .ref o), (1, .int (zI (i + 1))), (2, .int (zI j))]) C dX3_arrange_42 rfl (by decide) rfl ?_
              refine j_goto (tgt := 2) C dX3_arrange_45 (by decide) ?_
              exact JJ.drop (lv' := [(0, .ref o), (1, .int (zI (i + 1)))]) rfl (ih2 (i + 1) (insK S q) T m7 Hl2 (by rw [List.length_cons] at hm2; omega) hM (by rw [insK_len]; rw [List.length_cons] at hs; omega) ⟨⟨by omega, by omega⟩, Or.inl (by rw [insK_len]; omega)⟩ hX (insK_B hBS hBq) (fun x hx => hBT x (List.mem_cons_of_mem _ hx)) hf)
            · skip
              obtain ⟨M', t, rfl⟩ := snoc_of (M := M) (by omega)
              rw [app_cons] at hL
              have hBt := hBM t (List.mem_append_right _ List.mem_cons_self)
              rw [List.length_append, List.length_singleton] at hj
              obtain ⟨ha1, ha2⟩ := hL.midL (j := j - 1) (by omega) hBt
              rw [← app_cons] at hL
              obtain ⟨hb1, hb2⟩ := hL.midL (j := j) (by rw [List.length_append, List.length_singleton]; omega) hBq
              rw [app_cons] at hL
              have hlt : M'.length + 1 + N.length = S.length := (by rw [List.length_append, List.length_singleton] at hln; exact hln)
              have hle : (q :: T).length = T.length + 1 := List.length_cons
              refine j_aload_n C dX3_arrange_16 rfl ?_
              refine j_iload_n C dX3_arrange_17 rfl ?_
              refine j_iload_n C dX3_arrange_18 rfl ?_
              refine j_iconst C dX3_arrange_19 ?_
              refine j_isub C dX3_arrange_20 ?_
              refine j_iconst C dX3_arrange_21 ?_
              refine j_callI (jrunV (rest := []) (As := [.int (zI j), .int (zI (j - 1)), .int (zI 0)]) C (c_X3_isLeft l G o uh ud uc us uo ub uw ua ue ux m0 m1 m3 m7 m8 m12 m13 m14 m15 m16 j (j - 1) 0) gX3_arrange_X3_isLeft rfl 3 (by decide +kernel) rfl rfl ⟨Nat.le_of_ble_eq_true rfl, Nat.le_of_ble_eq_true rfl⟩ hM.1 rfl ⟨hM, ⟨by omega, by omega⟩, ⟨by omega, by omega⟩, ⟨by decide, by decide⟩, hb1, ha1⟩ rfl rfl (Nat.le_of_ble_eq_true rfl) ⟨Nat.le_of_ble_eq_true rfl, Nat.le_of_ble_eq_true rfl⟩ dX3_arrange_22) (fun r22 h22 => ?_)
              rcases h22 with ⟨h22, rfl⟩ | ⟨h22, rfl⟩
              · skip
                rw [ha2, hb2] at h22
                refine j_if_eq (tgt := 42) C dX3_arrange_25 (by decide) ⟨by decide, by decide⟩ (fun c25 => absurd c25 (by decide)) (fun c25 => ?_)
                refine j_aload_n C dX3_arrange_28 rfl ?_
                refine j_iload_n C dX3_arrange_29 rfl ?_
                refine j_iload_n C dX3_arrange_30 rfl ?_
                refine j_iconst C dX3_arrange_31 ?_
                refine j_isub C dX3_arrange_32 ?_
                refine j_callmV (jrunV (rest := []) (As := [.int (zI j), .int (zI (j - 1))]) C (c_X3_swap l G o uh ud uc us uo ub uw ua ue ux m0 m1 m3 m7 m8 m12 m13 m14 m15 m16 j (j - 1)) gX3_arrange_X3_swap rfl 2 (by decide +kernel) rfl rfl ⟨Nat.le_of_ble_eq_true rfl, Nat.le_of_ble_eq_true rfl⟩ hM.1 rfl ⟨hM, ⟨by omega, by omega⟩, ⟨by omega, by omega⟩, by omega⟩ rfl rfl (Nat.le_of_ble_eq_true rfl) ⟨Nat.le_of_ble_eq_true rfl, Nat.le_of_ble_eq_true rfl⟩ dX3_arrange_33) (by intro q hq; (try dsimp only at hq ⊢); omega) (fun H1 h33 hF => ?_)
                have hM := h33
                have hL := hL.swap (i := j) (by omega)
                refine j_iinc (lv' := [(0, .ref o), (1, .int (zI i)), (2, .int (zI (j + (-1))))]) C dX3_arrange_36 rfl (by decide) rfl ?_
                refine j_goto (tgt := 12) C dX3_arrange_39 (by decide) ?_
                exact JJ.drop (lv' := [(0, .ref o), (1, .int (zI i)), (2, .int (zI (j + (-1))))]) rfl (ih12 (j + (-1)) M' (t :: N) (sw4 m7 j (j - 1) 4) H1 (by rw [List.length_append] at hm12; simp only [List.length_cons, List.length_nil] at hm12; omega) hM (by omega) (by rw [List.length_append, List.length_singleton] at hln; rw [List.length_cons]; omega) hL (fun x hx => hBM x (List.mem_append_left _ hx)) (by rw [← hin, insK_t h22, List.append_assoc]; rfl))
              · skip
                rw [ha2, hb2] at h22
                have hX : R4 (insK S q ++ T) m7 := (by rw [← hin, insK_f h22, List.append_assoc, List.append_assoc]; rw [app_cons]; exact hL)
                refine j_if_eq (tgt := 42) C dX3_arrange_25 (by decide) ⟨by decide, by decide⟩ (fun c25 => ?_) (fun c25 => absurd c25 (by decide))
                refine j_iinc (lv' := [(0, .ref o), (1, .int (zI (i + 1))), (2, .int (zI j))]) C dX3_arrange_42 rfl (by decide) rfl ?_
                refine j_goto (tgt := 2) C dX3_arrange_45 (by decide) ?_
                exact JJ.drop (lv' := [(0, .ref o), (1, .int (zI (i + 1)))]) rfl (ih2 (i + 1) (insK S q) T m7 Hl2 (by rw [List.length_cons] at hm2; omega) hM (by rw [insK_len]; rw [List.length_cons] at hs; omega) ⟨⟨by omega, by omega⟩, Or.inl (by rw [insK_len]; omega)⟩ hX (insK_B hBS hBq) (fun x hx => hBT x (List.mem_cons_of_mem _ hx)) hf)
        exact JJ.drop (lv' := [(0, .ref o), (1, .int (zI i)), (2, .int (zI i))]) rfl (K12 ((S.length) + 1) i S ([]) m7 Hl1 (Nat.lt_succ_self _) hM (by omega) rfl hL hBS (List.append_nil _))
  exact JJ.drop (lv' := [(0, .ref o), (1, .int (zI 1))]) rfl (K2 (((L.drop 1).length) + 1) 1 (L.take 1) (L.drop 1) m7 s.heap (Nat.lt_succ_self _) hM (by omega) ⟨⟨by omega, by omega⟩, (by rcases Nat.lt_or_ge L.length 1 with h | h; exact Or.inr ⟨by omega, List.eq_nil_of_length_eq_zero (by omega)⟩; exact Or.inl (by omega))⟩ (by rw [htd]; exact hL0) (fun x hx => hB0 x (List.mem_of_mem_take hx)) (fun x hx => hB0 x (List.mem_of_mem_drop hx)) (arr_start L))
