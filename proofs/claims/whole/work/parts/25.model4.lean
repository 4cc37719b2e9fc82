set_option maxHeartbeats 4000000 in
set_option maxRecDepth 100000 in
/-- X3_reduce -/
theorem c_X3_reduce (l : Launch) (G : Gx) (o : Nat) (uh ud uc us uo ub uw ua ue ux : Int) (m0 m1 m3 m7 m8 m12 m13 m14 m15 m16 : Int → Int) (L : List Q4) : Met l yX3_reduce wsX3_reduce ({ frames := 2, cells := 0, slots := 0, locals := 51 } : Room) (cPc G [.ref o] (fun H => MP G H o uh ud uc us uo ub uw ua ue ux m0 m1 m3 m7 m8 m12 m13 m14 m15 m16 ∧ us = L.length ∧ L.length ≤ 64 ∧ R4 L m7 ∧ (∀ q ∈ L, LQ 46 q))) (qmV (fun H => ∃ M m7', MP G H o uh ud uc (M.length : Int) uo ub uw ua ue ux m0 m1 m3 m7' m8 m12 m13 m14 m15 m16 ∧ R4 (arrF M) m7' ∧ Mg L M ∧ nrm M) (fun q : Nat => o ≤ q ∧ q < o + 11)) 0 0 (fun q : Nat => o ≤ q ∧ q < o + 11) := by
  refine Met.ofJ (cc := cX3_reduce) (maxL := 4) (ret := none) (lv0 := [(0, .ref o)]) (by decide) rfl (Nat.le_of_ble_eq_true rfl) rfl ?_
  intro p e s m args below meth c C hr hnm hpre
  obtain ⟨hM, hus, hll, hL0, hB0⟩ := hpre
  have hwX3 : ∀ w ∈ u_ws RX3 TX3 20, w ∈ wsX3_reduce := by decide +kernel
  subst hus
  refine j_iconst C dX3_reduce_0 ?_
  refine j_istore_n (lv' := [(0, .ref o), (1, .int (zI 1))]) C dX3_reduce_1 (by decide) rfl ?_
  have K2 : ∀ (fu2 : Nat) (g : Int) (M : List Q4) (m7 : Int → Int) (Hl1 : Heap), 2 * M.length + g.toNat < fu2 → MP G Hl1 o uh ud uc (M.length : Int) uo ub uw ua ue ux m0 m1 m3 m7 m8 m12 m13 m14 m15 m16 → 0 ≤ g ∧ g ≤ 1 → R4 M m7 → (∀ x ∈ M, LQ 46 x) → Mg L M → (g = 0 → nrm M) → JJ p l e ({ frames := 2, cells := 0, slots := 0, locals := 51 } : Room) s m args below meth c (MQ below (qmV (fun H => ∃ M m7', MP G H o uh ud uc (M.length : Int) uo ub uw ua ue ux m0 m1 m3 m7' m8 m12 m13 m14 m15 m16 ∧ R4 (arrF M) m7' ∧ Mg L M ∧ nrm M) (fun q : Nat => o ≤ q ∧ q < o + 11)) args s 0 0 (fun q : Nat => o ≤ q ∧ q < o + 11)) (fun q : Nat => o ≤ q ∧ q < o + 11) 4 Hl1 0 0 2 [(0, .ref o), (1, .int (zI g))] [] := by
    intro fu2
    induction fu2 with
    | zero => intro g M m7 Hl1 hm2 hM hg hL hB hG hN; exact absurd hm2 (Nat.not_lt_zero _)
    | succ fu2 ih2 =>
      intro g M m7 Hl1 hm2 hM hg hL hB hG hN
      have hlB := Mg.len hG
      refine j_iload_n C dX3_reduce_2 rfl ?_
      refine j_if_eq (tgt := 278) C dX3_reduce_3 (by decide) ⟨by omega, by omega⟩ (fun c3 => ?_) (fun c3 => ?_)
      · skip
        refine j_aload_n C dX3_reduce_278 rfl ?_
        have hN := hN (by omega)
        have hlB := Mg.len hG
        refine j_callmV (jrunV (rest := []) (As := []) C (c_X3_arrange l G o uh ud uc (M.length : Int) uo ub uw ua ue ux m0 m1 m3 m7 m8 m12 m13 m14 m15 m16 M) gX3_reduce_X3_arrange rfl 0 (by decide +kernel) rfl rfl ⟨Nat.le_of_ble_eq_true rfl, Nat.le_of_ble_eq_true rfl⟩ hM.1 rfl ⟨hM, rfl, by omega, hL, hB⟩ rfl rfl (Nat.le_of_ble_eq_true rfl) ⟨Nat.le_of_ble_eq_true rfl, Nat.le_of_ble_eq_true rfl⟩ dX3_reduce_279) (by intro q hq; (try dsimp only at hq ⊢); omega) (fun H1 h279 hF => ?_)
        obtain ⟨w7, hM, hL⟩ := h279
        exact j_vret C hr (Nat.le_refl _) (Nat.zero_le _) ⟨M, w7, hM, hL, hG, hN⟩ dX3_reduce_282
      · skip
        refine j_iconst C dX3_reduce_6 ?_
        refine j_istore_n (lv' := [(0, .ref o), (1, .int (zI 0))]) C dX3_reduce_7 (by decide) rfl ?_
        refine j_iconst C dX3_reduce_8 ?_
        refine j_istore_n (lv' := [(0, .ref o), (1, .int (zI 0)), (2, .int (zI 0))]) C dX3_reduce_9 (by decide) rfl ?_
        have K10 : ∀ (fu10 : Nat) (g i : Int) (M' : List Q4) (m7 : Int → Int) (Hl2 : Heap), (66 - i).toNat < fu10 → MP G Hl2 o uh ud uc (M'.length : Int) uo ub uw ua ue ux m0 m1 m3 m7 m8 m12 m13 m14 m15 m16 → 0 ≤ i ∧ i ≤ M'.length + g → R4 M' m7 → (∀ x ∈ M', LQ 46 x) → Mg L M' → ((g = 0 ∧ M'.length ≤ M.length ∧ (∀ a : Int, 0 ≤ a → a < i → ∀ b : Int, 0 ≤ b → b < M'.length → ¬ hlv3 (qat M' a) (qat M' b))) ∨ (g = 1 ∧ M'.length + 1 ≤ M.length)) → JJ p l e ({ frames := 2, cells := 0, slots := 0, locals := 51 } : Room) s m args below meth c (MQ below (qmV (fun H => ∃ M m7', MP G H o uh ud uc (M.length : Int) uo ub uw ua ue ux m0 m1 m3 m7' m8 m12 m13 m14 m15 m16 ∧ R4 (arrF M) m7' ∧ Mg L M ∧ nrm M) (fun q : Nat => o ≤ q ∧ q < o + 11)) args s 0 0 (fun q : Nat => o ≤ q ∧ q < o + 11)) (fun q : Nat => o ≤ q ∧ q < o + 11) 4 Hl2 0 0 10 [(0, .ref o), (1, .int (zI g)), (2, .int (zI i))] [] := by
          intro fu10
          induction fu10 with
          | zero => intro g i M' m7 Hl2 hm10 hM hi hL hB hG hd; exact absurd hm10 (Nat.not_lt_zero _)
          | succ fu10 ih10 =>
            intro g i M' m7 Hl2 hm10 hM hi hL hB hG hd
            have hlB := Mg.len hG
            refine j_iload_n C dX3_reduce_10 rfl ?_
            refine j_aload_n C dX3_reduce_11 rfl ?_
            refine j_get (T := TX3) (N := 20) (fs := _) (v := .int (zI (M'.length : Int))) C hwX3 hM.1 6 (by decide) rfl (index := 51) (ref := "TreePairsModel") (by decide +kernel) rfl rfl dX3_reduce_12 ?_
            refine j_icmp_ge (tgt := 275) C dX3_reduce_15 (by decide) ⟨by omega, by omega⟩ ⟨by omega, by omega⟩ (fun c15 => ?_) (fun c15 => ?_)
            · skip
              have hN : g = 0 → nrm M' := (fun e => by rcases hd with hd | hd; exact nrm_of (fun a a0 a1 b b0 b1 => hd.2.2 a a0 (by omega) b b0 b1); omega)
              refine j_goto (tgt := 2) C dX3_reduce_275 (by decide) ?_
              exact JJ.drop (lv' := [(0, .ref o), (1, .int (zI g))]) rfl (ih2 g M' m7 Hl2 (by omega) hM (by omega) hL hB hG hN)
            · skip
              refine j_iload_n C dX3_reduce_18 rfl ?_
              refine j_if_ne (tgt := 275) C dX3_reduce_19 (by decide) ⟨by omega, by omega⟩ (fun c19 => ?_) (fun c19 => ?_)
              · skip
                have hN : g = 0 → nrm M' := (fun e => absurd e c19)
                refine j_goto (tgt := 2) C dX3_reduce_275 (by decide) ?_
                exact JJ.drop (lv' := [(0, .ref o), (1, .int (zI g))]) rfl (ih2 g M' m7 Hl2 (by omega) hM (by omega) hL hB hG hN)
              · skip
                have hg0 : g = 0 := by omega
                refine j_iconst C dX3_reduce_22 ?_
                refine j_istore_n (lv' := [(0, .ref o), (1, .int (zI g)), (2, .int (zI i)), (3, .int (zI 0))]) C dX3_reduce_23 (by decide) rfl ?_
                have K24 : ∀ (fu24 : Nat) (g j : Int) (M' : List Q4) (m7 : Int → Int) (Hl3 : Heap), (66 - j).toNat < fu24 → MP G Hl3 o uh ud uc (M'.length : Int) uo ub uw ua ue ux m0 m1 m3 m7 m8 m12 m13 m14 m15 m16 → 0 ≤ j ∧ j ≤ M'.length + g → 0 ≤ i ∧ i < M'.length + g → R4 M' m7 → (∀ x ∈ M', LQ 46 x) → Mg L M' → ((g = 0 ∧ M'.length ≤ M.length ∧ (∀ a : Int, 0 ≤ a → a < i → ∀ b : Int, 0 ≤ b → b < M'.length → ¬ hlv3 (qat M' a) (qat M' b)) ∧ (∀ b : Int, 0 ≤ b → b < j → ¬ hlv3 (qat M' i) (qat M' b))) ∨ (g = 1 ∧ M'.length + 1 ≤ M.length)) → JJ p l e ({ frames := 2, cells := 0, slots := 0, locals := 51 } : Room) s m args below meth c (MQ below (qmV (fun H => ∃ M m7', MP G H o uh ud uc (M.length : Int) uo ub uw ua ue ux m0 m1 m3 m7' m8 m12 m13 m14 m15 m16 ∧ R4 (arrF M) m7' ∧ Mg L M ∧ nrm M) (fun q : Nat => o ≤ q ∧ q < o + 11)) args s 0 0 (fun q : Nat => o ≤ q ∧ q < o + 11)) (fun q : Nat => o ≤ q ∧ q < o + 11) 4 Hl3 0 0 24 [(0, .ref o), (1, .int (zI g)), (2, .int (zI i)), (3, .int (zI j))] [] := by
                  intro fu24
                  induction fu24 with
                  | zero => intro g j M' m7 Hl3 hm24 hM hj hii hL hB hG hd; exact absurd hm24 (Nat.not_lt_zero _)
                  | succ fu24 ih24 =>
                    intro g j M' m7 Hl3 hm24 hM hj hii hL hB hG hd
                    have hlB := Mg.len hG
                    refine j_iload_n C dX3_reduce_24 rfl ?_
                    refine j_aload_n C dX3_reduce_25 rfl ?_
                    refine j_get (T := TX3) (N := 20) (fs := _) (v := .int (zI (M'.length : Int))) C hwX3 hM.1 6 (by decide) rfl (index := 51) (ref := "TreePairsModel") (by decide +kernel) rfl rfl dX3_reduce_26 ?_
                    refine j_icmp_ge (tgt := 269) C dX3_reduce_29 (by decide) ⟨by omega, by omega⟩ ⟨by omega, by omega⟩ (fun c29 => ?_) (fun c29 => ?_)
                    · skip
                      have hd2 : ((g = 0 ∧ M'.length ≤ M.length ∧ (∀ a : Int, 0 ≤ a → a < (i + 1) → ∀ b : Int, 0 ≤ b → b < M'.length → ¬ hlv3 (qat M' a) (qat M' b))) ∨ (g = 1 ∧ M'.length + 1 ≤ M.length)) := (by rcases hd with hd | hd; exact Or.inl ⟨hd.1, hd.2.1, fun a a0 a1 b b0 b1 => (by rcases Int.lt_or_le a i with q | q; exact hd.2.2.1 a a0 q b b0 b1; rw [show a = i by omega]; exact hd.2.2.2 b b0 (by omega))⟩; exact Or.inr hd)
                      refine j_iinc (lv' := [(0, .ref o), (1, .int (zI g)), (2, .int (zI (i + 1))), (3, .int (zI j))]) C dX3_reduce_269 rfl (by decide) rfl ?_
                      refine j_goto (tgt := 10) C dX3_reduce_272 (by decide) ?_
                      exact JJ.drop (lv' := [(0, .ref o), (1, .int (zI g)), (2, .int (zI (i + 1)))]) rfl (ih10 g (i + 1) M' m7 Hl3 (by omega) hM (by omega) hL hB hG hd2)
                    · skip
                      refine j_iload_n C dX3_reduce_32 rfl ?_
                      refine j_if_ne (tgt := 269) C dX3_reduce_33 (by decide) ⟨by omega, by omega⟩ (fun c33 => ?_) (fun c33 => ?_)
                      · skip
                        have hd2 : ((g = 0 ∧ M'.length ≤ M.length ∧ (∀ a : Int, 0 ≤ a → a < (i + 1) → ∀ b : Int, 0 ≤ b → b < M'.length → ¬ hlv3 (qat M' a) (qat M' b))) ∨ (g = 1 ∧ M'.length + 1 ≤ M.length)) := (by rcases hd with hd | hd; exact absurd hd.1 c33; exact Or.inr hd)
                        refine j_iinc (lv' := [(0, .ref o), (1, .int (zI g)), (2, .int (zI (i + 1))), (3, .int (zI j))]) C dX3_reduce_269 rfl (by decide) rfl ?_
                        refine j_goto (tgt := 10) C dX3_reduce_272 (by decide) ?_
                        exact JJ.drop (lv' := [(0, .ref o), (1, .int (zI g)), (2, .int (zI (i + 1)))]) rfl (ih10 g (i + 1) M' m7 Hl3 (by omega) hM (by omega) hL hB hG hd2)
                      · skip
                        have hg0 : g = 0 := by omega
                        obtain ⟨hd1, hd2, hd3, hd4⟩ : (g = 0 ∧ M'.length ≤ M.length ∧ (∀ a : Int, 0 ≤ a → a < i → ∀ b : Int, 0 ≤ b → b < M'.length → ¬ hlv3 (qat M' a) (qat M' b)) ∧ (∀ b : Int, 0 ≤ b → b < j → ¬ hlv3 (qat M' i) (qat M' b))) := (by rcases hd with hd | hd; exact hd; omega)
                        have hqi := hL i (by omega) (by omega)
                        have hqj := hL j (by omega) (by omega)
                        obtain ⟨hi1, hi2⟩ := R4.bnd hL hB (i := i) (by omega) (by omega)
                        obtain ⟨hj1, hj2⟩ := R4.bnd hL hB (i := j) (by omega) (by omega)
                        have hi1 := hi1.b46
                        have hi2 := hi2.b46
                        have hj1 := hj1.b46
                        have hj2 := hj2.b46
                        refine j_aload_n C dX3_reduce_36 rfl ?_
                        refine j_get (T := TX3) (N := 20) (fs := _) (v := .ref (o + 4)) C hwX3 hM.1 7 (by decide) rfl (index := 19) (ref := "TreePairsModel") (by decide +kernel) rfl rfl dX3_reduce_37 ?_
                        refine j_iconst C dX3_reduce_40 ?_
                        refine j_iload_n C dX3_reduce_41 rfl ?_
                        refine j_imul C dX3_reduce_42 ?_
                        refine j_lald C hM.2.2.2.2.1 ⟨by omega, by omega⟩ dX3_reduce_43 ?_
                        refine j_lconst (z := 0) C dX3_reduce_44 rfl ?_
                        refine j_lcmp_le (tgt := 263) C dX3_reduce_45 dX3_reduce_46 (by decide) ⟨by omega, by omega⟩ ⟨by decide, by decide⟩ (fun c45 => ?_) (fun c45 => ?_)
                        · skip
                          have hn : ¬ hlv3 (qat M' i) (qat M' j) := (by rw [hqi, hqj]; intro hz; obtain ⟨⟨z1, z2⟩, z3, z4, z5, z6, z7, z8⟩ := hz; dsimp only at z1 z2 z3 z4 z5 z6 z7 z8; omega)
                          refine j_iinc (lv' := [(0, .ref o), (1, .int (zI g)), (2, .int (zI i)), (3, .int (zI (j + 1)))]) C dX3_reduce_263 rfl (by decide) rfl ?_
                          refine j_goto (tgt := 24) C dX3_reduce_266 (by decide) ?_
                          exact JJ.drop (lv' := [(0, .ref o), (1, .int (zI g)), (2, .int (zI i)), (3, .int (zI (j + 1)))]) rfl (ih24 g (j + 1) M' m7 Hl3 (by omega) hM (by omega) (by omega) hL hB hG (Or.inl ⟨hd1, hd2, hd3, fun b b0 b1 => (by rcases Int.lt_or_le b j with q | q; exact hd4 b b0 q; rw [show b = j by omega]; exact hn)⟩))
                        · skip
                          refine j_aload_n C dX3_reduce_49 rfl ?_
                          refine j_get (T := TX3) (N := 20) (fs := _) (v := .ref (o + 4)) C hwX3 hM.1 7 (by decide) rfl (index := 19) (ref := "TreePairsModel") (by decide +kernel) rfl rfl dX3_reduce_50 ?_
                          refine j_iconst C dX3_reduce_53 ?_
                          refine j_iload_n C dX3_reduce_54 rfl ?_
                          refine j_imul C dX3_reduce_55 ?_
                          refine j_iconst C dX3_reduce_56 ?_
                          refine j_iadd C dX3_reduce_57 ?_
                          refine j_lald C hM.2.2.2.2.1 ⟨by omega, by omega⟩ dX3_reduce_58 ?_
                          refine j_lconst (z := 0) C dX3_reduce_59 rfl ?_
                          refine j_lcmp_le (tgt := 263) C dX3_reduce_60 dX3_reduce_61 (by decide) ⟨by omega, by omega⟩ ⟨by decide, by decide⟩ (fun c60 => ?_) (fun c60 => ?_)
                          · skip
                            have hn : ¬ hlv3 (qat M' i) (qat M' j) := (by rw [hqi, hqj]; intro hz; obtain ⟨⟨z1, z2⟩, z3, z4, z5, z6, z7, z8⟩ := hz; dsimp only at z1 z2 z3 z4 z5 z6 z7 z8; omega)
                            refine j_iinc (lv' := [(0, .ref o), (1, .int (zI g)), (2, .int (zI i)), (3, .int (zI (j + 1)))]) C dX3_reduce_263 rfl (by decide) rfl ?_
                            refine j_goto (tgt := 24) C dX3_reduce_266 (by decide) ?_
                            exact JJ.drop (lv' := [(0, .ref o), (1, .int (zI g)), (2, .int (zI i)), (3, .int (zI (j + 1)))]) rfl (ih24 g (j + 1) M' m7 Hl3 (by omega) hM (by omega) (by omega) hL hB hG (Or.inl ⟨hd1, hd2, hd3, fun b b0 b1 => (by rcases Int.lt_or_le b j with q | q; exact hd4 b b0 q; rw [show b = j by omega]; exact hn)⟩))
                          · skip
                            refine j_aload_n C dX3_reduce_64 rfl ?_
                            refine j_get (T := TX3) (N := 20) (fs := _) (v := .ref (o + 4)) C hwX3 hM.1 7 (by decide) rfl (index := 19) (ref := "TreePairsModel") (by decide +kernel) rfl rfl dX3_reduce_65 ?_
                            refine j_iconst C dX3_reduce_68 ?_
                            refine j_iload_n C dX3_reduce_69 rfl ?_
                            refine j_imul C dX3_reduce_70 ?_
                            refine j_lald C hM.2.2.2.2.1 ⟨by omega, by omega⟩ dX3_reduce_71 ?_
                            refine j_aload_n C dX3_reduce_72 rfl ?_
                            refine j_get (T := TX3) (N := 20) (fs := _) (v := .ref (o + 4)) C hwX3 hM.1 7 (by decide) rfl (index := 19) (ref := "TreePairsModel") (by decide +kernel) rfl rfl dX3_reduce_73 ?_
                            refine j_iconst C dX3_reduce_76 ?_
                            refine j_iload_n C dX3_reduce_77 rfl ?_
                            refine j_imul C dX3_reduce_78 ?_
                            refine j_lald C hM.2.2.2.2.1 ⟨by omega, by omega⟩ dX3_reduce_79 ?_
                            refine j_lcmp_ne (tgt := 263) C dX3_reduce_80 dX3_reduce_81 (by decide) ⟨by omega, by omega⟩ ⟨by omega, by omega⟩ (fun c80 => ?_) (fun c80 => ?_)
                            · skip
                              have hn : ¬ hlv3 (qat M' i) (qat M' j) := (by rw [hqi, hqj]; intro hz; obtain ⟨⟨z1, z2⟩, z3, z4, z5, z6, z7, z8⟩ := hz; dsimp only at z1 z2 z3 z4 z5 z6 z7 z8; omega)
                              refine j_iinc (lv' := [(0, .ref o), (1, .int (zI g)), (2, .int (zI i)), (3, .int (zI (j + 1)))]) C dX3_reduce_263 rfl (by decide) rfl ?_
                              refine j_goto (tgt := 24) C dX3_reduce_266 (by decide) ?_
                              exact JJ.drop (lv' := [(0, .ref o), (1, .int (zI g)), (2, .int (zI i)), (3, .int (zI (j + 1)))]) rfl (ih24 g (j + 1) M' m7 Hl3 (by omega) hM (by omega) (by omega) hL hB hG (Or.inl ⟨hd1, hd2, hd3, fun b b0 b1 => (by rcases Int.lt_or_le b j with q | q; exact hd4 b b0 q; rw [show b = j by omega]; exact hn)⟩))
                            · skip
                              refine j_aload_n C dX3_reduce_84 rfl ?_
                              refine j_get (T := TX3) (N := 20) (fs := _) (v := .ref (o + 4)) C hwX3 hM.1 7 (by decide) rfl (index := 19) (ref := "TreePairsModel") (by decide +kernel) rfl rfl dX3_reduce_85 ?_
                              refine j_iconst C dX3_reduce_88 ?_
                              refine j_iload_n C dX3_reduce_89 rfl ?_
                              refine j_imul C dX3_reduce_90 ?_
                              refine j_iconst C dX3_reduce_91 ?_
                              refine j_iadd C dX3_reduce_92 ?_
                              refine j_lald C hM.2.2.2.2.1 ⟨by omega, by omega⟩ dX3_reduce_93 ?_
                              refine j_aload_n C dX3_reduce_94 rfl ?_
                              refine j_get (T := TX3) (N := 20) (fs := _) (v := .ref (o + 4)) C hwX3 hM.1 7 (by decide) rfl (index := 19) (ref := "TreePairsModel") (by decide +kernel) rfl rfl dX3_reduce_95 ?_
                              refine j_iconst C dX3_reduce_98 ?_
                              refine j_iload_n C dX3_reduce_99 rfl ?_
                              refine j_imul C dX3_reduce_100 ?_
                              refine j_iconst C dX3_reduce_101 ?_
                              refine j_iadd C dX3_reduce_102 ?_
                              refine j_lald C hM.2.2.2.2.1 ⟨by omega, by omega⟩ dX3_reduce_103 ?_
                              refine j_lcmp_ne (tgt := 263) C dX3_reduce_104 dX3_reduce_105 (by decide) ⟨by omega, by omega⟩ ⟨by omega, by omega⟩ (fun c104 => ?_) (fun c104 => ?_)
                              · skip
                                have hn : ¬ hlv3 (qat M' i) (qat M' j) := (by rw [hqi, hqj]; intro hz; obtain ⟨⟨z1, z2⟩, z3, z4, z5, z6, z7, z8⟩ := hz; dsimp only at z1 z2 z3 z4 z5 z6 z7 z8; omega)
                                refine j_iinc (lv' := [(0, .ref o), (1, .int (zI g)), (2, .int (zI i)), (3, .int (zI (j + 1)))]) C dX3_reduce_263 rfl (by decide) rfl ?_
                                refine j_goto (tgt := 24) C dX3_reduce_266 (by decide) ?_
                                exact JJ.drop (lv' := [(0, .ref o), (1, .int (zI g)), (2, .int (zI i)), (3, .int (zI (j + 1)))]) rfl (ih24 g (j + 1) M' m7 Hl3 (by omega) hM (by omega) (by omega) hL hB hG (Or.inl ⟨hd1, hd2, hd3, fun b b0 b1 => (by rcases Int.lt_or_le b j with q | q; exact hd4 b b0 q; rw [show b = j by omega]; exact hn)⟩))
                              · skip
                                refine j_aload_n C dX3_reduce_108 rfl ?_
                                refine j_get (T := TX3) (N := 20) (fs := _) (v := .ref (o + 4)) C hwX3 hM.1 7 (by decide) rfl (index := 19) (ref := "TreePairsModel") (by decide +kernel) rfl rfl dX3_reduce_109 ?_
                                refine j_iconst C dX3_reduce_112 ?_
                                refine j_iload_n C dX3_reduce_113 rfl ?_
                                refine j_imul C dX3_reduce_114 ?_
                                refine j_iconst C dX3_reduce_115 ?_
                                refine j_iadd C dX3_reduce_116 ?_
                                refine j_lald C hM.2.2.2.2.1 ⟨by omega, by omega⟩ dX3_reduce_117 ?_
                                refine j_ldc2 (z := 2) C (index := 65) (v := 2) (by decide +kernel) (by decide) dX3_reduce_118 ?_
                                refine j_lrem C dX3_reduce_121 ⟨by omega, by omega⟩ ⟨by decide, by decide⟩ ?_
                                refine j_lconst (z := 0) C dX3_reduce_122 rfl ?_
                                refine j_lcmp_ne (tgt := 263) C dX3_reduce_123 dX3_reduce_124 (by decide) ⟨by omega, by omega⟩ ⟨by decide, by decide⟩ (fun c123 => ?_) (fun c123 => ?_)
                                · skip
                                  have hn : ¬ hlv3 (qat M' i) (qat M' j) := (by rw [hqi, hqj]; intro hz; obtain ⟨⟨z1, z2⟩, z3, z4, z5, z6, z7, z8⟩ := hz; dsimp only at z1 z2 z3 z4 z5 z6 z7 z8; omega)
                                  refine j_iinc (lv' := [(0, .ref o), (1, .int (zI g)), (2, .int (zI i)), (3, .int (zI (j + 1)))]) C dX3_reduce_263 rfl (by decide) rfl ?_
                                  refine j_goto (tgt := 24) C dX3_reduce_266 (by decide) ?_
                                  exact JJ.drop (lv' := [(0, .ref o), (1, .int (zI g)), (2, .int (zI i)), (3, .int (zI (j + 1)))]) rfl (ih24 g (j + 1) M' m7 Hl3 (by omega) hM (by omega) (by omega) hL hB hG (Or.inl ⟨hd1, hd2, hd3, fun b b0 b1 => (by rcases Int.lt_or_le b j with q | q; exact hd4 b b0 q; rw [show b = j by omega]; exact hn)⟩))
                                · skip
                                  refine j_aload_n C dX3_reduce_127 rfl ?_
                                  refine j_get (T := TX3) (N := 20) (fs := _) (v := .ref (o + 4)) C hwX3 hM.1 7 (by decide) rfl (index := 19) (ref := "TreePairsModel") (by decide +kernel) rfl rfl dX3_reduce_128 ?_
                                  refine j_iconst C dX3_reduce_131 ?_
                                  refine j_iload_n C dX3_reduce_132 rfl ?_
                                  refine j_imul C dX3_reduce_133 ?_
                                  refine j_iconst C dX3_reduce_134 ?_
                                  refine j_iadd C dX3_reduce_135 ?_
                                  refine j_lald C hM.2.2.2.2.1 ⟨by omega, by omega⟩ dX3_reduce_136 ?_
                                  refine j_aload_n C dX3_reduce_137 rfl ?_
                                  refine j_get (T := TX3) (N := 20) (fs := _) (v := .ref (o + 4)) C hwX3 hM.1 7 (by decide) rfl (index := 19) (ref := "TreePairsModel") (by decide +kernel) rfl rfl dX3_reduce_138 ?_
                                  refine j_iconst C dX3_reduce_141 ?_
                                  refine j_iload_n C dX3_reduce_142 rfl ?_
                                  refine j_imul C dX3_reduce_143 ?_
                                  refine j_iconst C dX3_reduce_144 ?_
                                  refine j_iadd C dX3_reduce_145 ?_
                                  refine j_lald C hM.2.2.2.2.1 ⟨by omega, by omega⟩ dX3_reduce_146 ?_
                                  refine j_lconst (z := 1) C dX3_reduce_147 rfl ?_
                                  refine j_ladd C dX3_reduce_148 ?_
                                  refine j_lcmp_ne (tgt := 263) C dX3_reduce_149 dX3_reduce_150 (by decide) ⟨by omega, by omega⟩ ⟨by omega, by omega⟩ (fun c149 => ?_) (fun c149 => ?_)
                                  · skip
                                    have hn : ¬ hlv3 (qat M' i) (qat M' j) := (by rw [hqi, hqj]; intro hz; obtain ⟨⟨z1, z2⟩, z3, z4, z5, z6, z7, z8⟩ := hz; dsimp only at z1 z2 z3 z4 z5 z6 z7 z8; omega)
                                    refine j_iinc (lv' := [(0, .ref o), (1, .int (zI g)), (2, .int (zI i)), (3, .int (zI (j + 1)))]) C dX3_reduce_263 rfl (by decide) rfl ?_
                                    refine j_goto (tgt := 24) C dX3_reduce_266 (by decide) ?_
                                    exact JJ.drop (lv' := [(0, .ref o), (1, .int (zI g)), (2, .int (zI i)), (3, .int (zI (j + 1)))]) rfl (ih24 g (j + 1) M' m7 Hl3 (by omega) hM (by omega) (by omega) hL hB hG (Or.inl ⟨hd1, hd2, hd3, fun b b0 b1 => (by rcases Int.lt_or_le b j with q | q; exact hd4 b b0 q; rw [show b = j by omega]; exact hn)⟩))
                                  · skip
                                    refine j_aload_n C dX3_reduce_153 rfl ?_
                                    refine j_get (T := TX3) (N := 20) (fs := _) (v := .ref (o + 4)) C hwX3 hM.1 7 (by decide) rfl (index := 19) (ref := "TreePairsModel") (by decide +kernel) rfl rfl dX3_reduce_154 ?_
                                    refine j_iconst C dX3_reduce_157 ?_
                                    refine j_iload_n C dX3_reduce_158 rfl ?_
                                    refine j_imul C dX3_reduce_159 ?_
                                    refine j_iconst C dX3_reduce_160 ?_
                                    refine j_iadd C dX3_reduce_161 ?_
                                    refine j_lald C hM.2.2.2.2.1 ⟨by omega, by omega⟩ dX3_reduce_162 ?_
                                    refine j_ldc2 (z := 2) C (index := 65) (v := 2) (by decide +kernel) (by decide) dX3_reduce_163 ?_
                                    refine j_lrem C dX3_reduce_166 ⟨by omega, by omega⟩ ⟨by decide, by decide⟩ ?_
                                    refine j_lconst (z := 0) C dX3_reduce_167 rfl ?_
                                    refine j_lcmp_ne (tgt := 263) C dX3_reduce_168 dX3_reduce_169 (by decide) ⟨by omega, by omega⟩ ⟨by decide, by decide⟩ (fun c168 => ?_) (fun c168 => ?_)
                                    · skip
                                      have hn : ¬ hlv3 (qat M' i) (qat M' j) := (by rw [hqi, hqj]; intro hz; obtain ⟨⟨z1, z2⟩, z3, z4, z5, z6, z7, z8⟩ := hz; dsimp only at z1 z2 z3 z4 z5 z6 z7 z8; omega)
                                      refine j_iinc (lv' := [(0, .ref o), (1, .int (zI g)), (2, .int (zI i)), (3, .int (zI (j + 1)))]) C dX3_reduce_263 rfl (by decide) rfl ?_
                                      refine j_goto (tgt := 24) C dX3_reduce_266 (by decide) ?_
                                      exact JJ.drop (lv' := [(0, .ref o), (1, .int (zI g)), (2, .int (zI i)), (3, .int (zI (j + 1)))]) rfl (ih24 g (j + 1) M' m7 Hl3 (by omega) hM (by omega) (by omega) hL hB hG (Or.inl ⟨hd1, hd2, hd3, fun b b0 b1 => (by rcases Int.lt_or_le b j with q | q; exact hd4 b b0 q; rw [show b = j by omega]; exact hn)⟩))
                                    · skip
                                      refine j_aload_n C dX3_reduce_172 rfl ?_
                                      refine j_get (T := TX3) (N := 20) (fs := _) (v := .ref (o + 4)) C hwX3 hM.1 7 (by decide) rfl (index := 19) (ref := "TreePairsModel") (by decide +kernel) rfl rfl dX3_reduce_173 ?_
                                      refine j_iconst C dX3_reduce_176 ?_
                                      refine j_iload_n C dX3_reduce_177 rfl ?_
                                      refine j_imul C dX3_reduce_178 ?_
                                      refine j_iconst C dX3_reduce_179 ?_
                                      refine j_iadd C dX3_reduce_180 ?_
                                      refine j_lald C hM.2.2.2.2.1 ⟨by omega, by omega⟩ dX3_reduce_181 ?_
                                      refine j_aload_n C dX3_reduce_182 rfl ?_
                                      refine j_get (T := TX3) (N := 20) (fs := _) (v := .ref (o + 4)) C hwX3 hM.1 7 (by decide) rfl (index := 19) (ref := "TreePairsModel") (by decide +kernel) rfl rfl dX3_reduce_183 ?_
                                      refine j_iconst C dX3_reduce_186 ?_
                                      refine j_iload_n C dX3_reduce_187 rfl ?_
                                      refine j_imul C dX3_reduce_188 ?_
                                      refine j_iconst C dX3_reduce_189 ?_
                                      refine j_iadd C dX3_reduce_190 ?_
                                      refine j_lald C hM.2.2.2.2.1 ⟨by omega, by omega⟩ dX3_reduce_191 ?_
                                      refine j_lconst (z := 1) C dX3_reduce_192 rfl ?_
                                      refine j_ladd C dX3_reduce_193 ?_
                                      refine j_lcmp_ne (tgt := 263) C dX3_reduce_194 dX3_reduce_195 (by decide) ⟨by omega, by omega⟩ ⟨by omega, by omega⟩ (fun c194 => ?_) (fun c194 => ?_)
                                      · skip
                                        have hn : ¬ hlv3 (qat M' i) (qat M' j) := (by rw [hqi, hqj]; intro hz; obtain ⟨⟨z1, z2⟩, z3, z4, z5, z6, z7, z8⟩ := hz; dsimp only at z1 z2 z3 z4 z5 z6 z7 z8; omega)
                                        refine j_iinc (lv' := [(0, .ref o), (1, .int (zI g)), (2, .int (zI i)), (3, .int (zI (j + 1)))]) C dX3_reduce_263 rfl (by decide) rfl ?_
                                        refine j_goto (tgt := 24) C dX3_reduce_266 (by decide) ?_
                                        exact JJ.drop (lv' := [(0, .ref o), (1, .int (zI g)), (2, .int (zI i)), (3, .int (zI (j + 1)))]) rfl (ih24 g (j + 1) M' m7 Hl3 (by omega) hM (by omega) (by omega) hL hB hG (Or.inl ⟨hd1, hd2, hd3, fun b b0 b1 => (by rcases Int.lt_or_le b j with q | q; exact hd4 b b0 q; rw [show b = j by omega]; exact hn)⟩))
                                      · skip
                                        have hh : hlv3 (qat M' i) (qat M' j) := (by rw [hqi, hqj]; refine ⟨⟨?_, ?_⟩, ?_, ?_, ?_, ?_, ?_, ?_⟩ <;> dsimp only <;> omega)
                                        have hij : i ≠ j := (fun e => by subst e; omega)
                                        have e1 : (iup m7 (4 * i) (m7 (4 * i) - 1)) (4 * i + 1) = m7 (4 * i + 1) := iup_n (by omega)
                                        have e2 : (iup (iup m7 (4 * i) (m7 (4 * i) - 1)) (4 * i + 1) ((iup m7 (4 * i) (m7 (4 * i) - 1)) (4 * i + 1) / 2)) (4 * i + 2) = m7 (4 * i + 2) := (by rw [iup_n (by omega), iup_n (by omega)])
                                        have e3 : (iup (iup (iup m7 (4 * i) (m7 (4 * i) - 1)) (4 * i + 1) ((iup m7 (4 * i) (m7 (4 * i) - 1)) (4 * i + 1) / 2)) (4 * i + 2) ((iup (iup m7 (4 * i) (m7 (4 * i) - 1)) (4 * i + 1) ((iup m7 (4 * i) (m7 (4 * i) - 1)) (4 * i + 1) / 2)) (4 * i + 2) - 1)) (4 * i + 3) = m7 (4 * i + 3) := (by rw [iup_n (by omega), iup_n (by omega), iup_n (by omega)])
                                        refine j_aload_n C dX3_reduce_198 rfl ?_
                                        refine j_get (T := TX3) (N := 20) (fs := _) (v := .ref (o + 4)) C hwX3 hM.1 7 (by decide) rfl (index := 19) (ref := "TreePairsModel") (by decide +kernel) rfl rfl dX3_reduce_199 ?_
                                        refine j_iconst C dX3_reduce_202 ?_
                                        refine j_iload_n C dX3_reduce_203 rfl ?_
                                        refine j_imul C dX3_reduce_204 ?_
                                        refine j_dup2_11 C dX3_reduce_205 rfl rfl ?_
                                        refine j_lald C hM.2.2.2.2.1 ⟨by omega, by omega⟩ dX3_reduce_206 ?_
                                        refine j_lconst (z := 1) C dX3_reduce_207 rfl ?_
                                        refine j_lsub C dX3_reduce_208 ?_
                                        refine j_last C hM.2.2.2.2.1 ⟨by omega, by omega⟩ (by omega) dX3_reduce_209 (fun H2 hR hC => ?_)
                                        have hM := hM.st_work hR hC
                                        refine j_aload_n C dX3_reduce_210 rfl ?_
                                        refine j_get (T := TX3) (N := 20) (fs := _) (v := .ref (o + 4)) C hwX3 hM.1 7 (by decide) rfl (index := 19) (ref := "TreePairsModel") (by decide +kernel) rfl rfl dX3_reduce_211 ?_
                                        refine j_iconst C dX3_reduce_214 ?_
                                        refine j_iload_n C dX3_reduce_215 rfl ?_
                                        refine j_imul C dX3_reduce_216 ?_
                                        refine j_iconst C dX3_reduce_217 ?_
                                        refine j_iadd C dX3_reduce_218 ?_
                                        refine j_dup2_11 C dX3_reduce_219 rfl rfl ?_
                                        refine j_lald C hM.2.2.2.2.1 ⟨by omega, by omega⟩ dX3_reduce_220 ?_
                                        refine j_ldc2 (z := 2) C (index := 65) (v := 2) (by decide +kernel) (by decide) dX3_reduce_221 ?_
                                        refine j_ldiv C dX3_reduce_224 ⟨by omega, by omega⟩ ⟨by decide, by decide⟩ ?_
                                        refine j_last C hM.2.2.2.2.1 ⟨by omega, by omega⟩ (by omega) dX3_reduce_225 (fun H3 hR hC => ?_)
                                        have hM := hM.st_work hR hC
                                        refine j_aload_n C dX3_reduce_226 rfl ?_
                                        refine j_get (T := TX3) (N := 20) (fs := _) (v := .ref (o + 4)) C hwX3 hM.1 7 (by decide) rfl (index := 19) (ref := "TreePairsModel") (by decide +kernel) rfl rfl dX3_reduce_227 ?_
                                        refine j_iconst C dX3_reduce_230 ?_
                                        refine j_iload_n C dX3_reduce_231 rfl ?_
                                        refine j_imul C dX3_reduce_232 ?_
                                        refine j_iconst C dX3_reduce_233 ?_
                                        refine j_iadd C dX3_reduce_234 ?_
                                        refine j_dup2_11 C dX3_reduce_235 rfl rfl ?_
                                        refine j_lald C hM.2.2.2.2.1 ⟨by omega, by omega⟩ dX3_reduce_236 ?_
                                        refine j_lconst (z := 1) C dX3_reduce_237 rfl ?_
                                        refine j_lsub C dX3_reduce_238 ?_
                                        refine j_last C hM.2.2.2.2.1 ⟨by omega, by omega⟩ (by omega) dX3_reduce_239 (fun H4 hR hC => ?_)
                                        have hM := hM.st_work hR hC
                                        refine j_aload_n C dX3_reduce_240 rfl ?_
                                        refine j_get (T := TX3) (N := 20) (fs := _) (v := .ref (o + 4)) C hwX3 hM.1 7 (by decide) rfl (index := 19) (ref := "TreePairsModel") (by decide +kernel) rfl rfl dX3_reduce_241 ?_
                                        refine j_iconst C dX3_reduce_244 ?_
                                        refine j_iload_n C dX3_reduce_245 rfl ?_
                                        refine j_imul C dX3_reduce_246 ?_
                                        refine j_iconst C dX3_reduce_247 ?_
                                        refine j_iadd C dX3_reduce_248 ?_
                                        refine j_dup2_11 C dX3_reduce_249 rfl rfl ?_
                                        refine j_lald C hM.2.2.2.2.1 ⟨by omega, by omega⟩ dX3_reduce_250 ?_
                                        refine j_ldc2 (z := 2) C (index := 65) (v := 2) (by decide +kernel) (by decide) dX3_reduce_251 ?_
                                        refine j_ldiv C dX3_reduce_254 ⟨by omega, by omega⟩ ⟨by decide, by decide⟩ ?_
                                        refine j_last C hM.2.2.2.2.1 ⟨by omega, by omega⟩ (by omega) dX3_reduce_255 (fun H5 hR hC => ?_)
                                        have hM := hM.st_work hR hC
                                        refine j_aload_n C dX3_reduce_256 rfl ?_
                                        refine j_iload_n C dX3_reduce_257 rfl ?_
                                        refine j_callmV (jrunV (rest := []) (As := [.int (zI j)]) C (c_X3_remove l G o uh ud uc (M'.length : Int) uo ub uw ua ue ux m0 m1 m3 (iup (iup (iup (iup m7 (4 * i) ((m7 (4 * i)) - 1)) ((4 * i) + 1) (((iup m7 (4 * i) ((m7 (4 * i)) - 1)) ((4 * i) + 1)) / 2)) ((4 * i) + 2) (((iup (iup m7 (4 * i) ((m7 (4 * i)) - 1)) ((4 * i) + 1) (((iup m7 (4 * i) ((m7 (4 * i)) - 1)) ((4 * i) + 1)) / 2)) ((4 * i) + 2)) - 1)) ((4 * i) + 3) (((iup (iup (iup m7 (4 * i) ((m7 (4 * i)) - 1)) ((4 * i) + 1) (((iup m7 (4 * i) ((m7 (4 * i)) - 1)) ((4 * i) + 1)) / 2)) ((4 * i) + 2) (((iup (iup m7 (4 * i) ((m7 (4 * i)) - 1)) ((4 * i) + 1) (((iup m7 (4 * i) ((m7 (4 * i)) - 1)) ((4 * i) + 1)) / 2)) ((4 * i) + 2)) - 1)) ((4 * i) + 3)) / 2)) m8 m12 m13 m14 m15 m16 j) gX3_reduce_X3_remove rfl 1 (by decide +kernel) rfl rfl ⟨Nat.le_of_ble_eq_true rfl, Nat.le_of_ble_eq_true rfl⟩ hM.1 rfl ⟨hM, ⟨by omega, by omega⟩, by omega, by omega⟩ rfl rfl (Nat.le_of_ble_eq_true rfl) ⟨Nat.le_of_ble_eq_true rfl, Nat.le_of_ble_eq_true rfl⟩ dX3_reduce_258) (by intro q hq; (try dsimp only at hq ⊢); omega) (fun H6 h258 hF => ?_)
                                        have hM := h258
                                        obtain ⟨Y, hL2, hG2, hlen2, hB2⟩ := hG.merge hL (n := (M'.length : Int)) (by omega) (by omega) (by omega) (by omega) hij rfl hh (x := m7 (4 * i) - 1) (y := (iup m7 (4 * i) (m7 (4 * i) - 1)) (4 * i + 1) / 2) (z := (iup (iup m7 (4 * i) (m7 (4 * i) - 1)) (4 * i + 1) ((iup m7 (4 * i) (m7 (4 * i) - 1)) (4 * i + 1) / 2)) (4 * i + 2) - 1) (w := (iup (iup (iup m7 (4 * i) (m7 (4 * i) - 1)) (4 * i + 1) ((iup m7 (4 * i) (m7 (4 * i) - 1)) (4 * i + 1) / 2)) (4 * i + 2) ((iup (iup m7 (4 * i) (m7 (4 * i) - 1)) (4 * i + 1) ((iup m7 (4 * i) (m7 (4 * i) - 1)) (4 * i + 1) / 2)) (4 * i + 2) - 1)) (4 * i + 3) / 2) (by rw [hqi, e3, e2, e1]; rfl) (g := (iup (iup (iup (iup m7 (4 * i) (m7 (4 * i) - 1)) (4 * i + 1) ((iup m7 (4 * i) (m7 (4 * i) - 1)) (4 * i + 1) / 2)) (4 * i + 2) ((iup (iup m7 (4 * i) (m7 (4 * i) - 1)) (4 * i + 1) ((iup m7 (4 * i) (m7 (4 * i) - 1)) (4 * i + 1) / 2)) (4 * i + 2) - 1)) (4 * i + 3) ((iup (iup (iup m7 (4 * i) (m7 (4 * i) - 1)) (4 * i + 1) ((iup m7 (4 * i) (m7 (4 * i) - 1)) (4 * i + 1) / 2)) (4 * i + 2) ((iup (iup m7 (4 * i) (m7 (4 * i) - 1)) (4 * i + 1) ((iup m7 (4 * i) (m7 (4 * i) - 1)) (4 * i + 1) / 2)) (4 * i + 2) - 1)) (4 * i + 3) / 2))) rfl
                                        have eU : (M'.length : Int) - 1 = (Y.length : Int) := by omega
                                        rw [eU] at hM hL2
                                        have hB2 := hB2 hB
                                        refine j_iconst C dX3_reduce_261 ?_
                                        refine j_istore_n (lv' := [(0, .ref o), (1, .int (zI 1)), (2, .int (zI i)), (3, .int (zI j))]) C dX3_reduce_262 (by decide) rfl ?_
                                        refine j_iinc (lv' := [(0, .ref o), (1, .int (zI 1)), (2, .int (zI i)), (3, .int (zI (j + 1)))]) C dX3_reduce_263 rfl (by decide) rfl ?_
                                        refine j_goto (tgt := 24) C dX3_reduce_266 (by decide) ?_
                                        exact JJ.drop (lv' := [(0, .ref o), (1, .int (zI 1)), (2, .int (zI i)), (3, .int (zI (j + 1)))]) rfl (ih24 1 (j + 1) Y _ H6 (by omega) hM (by omega) (by omega) hL2 hB2 hG2 (Or.inr ⟨rfl, by omega⟩))
                exact JJ.drop (lv' := [(0, .ref o), (1, .int (zI g)), (2, .int (zI i)), (3, .int (zI 0))]) rfl (K24 (((66 - (0 : Int)).toNat) + 1) g 0 M' m7 Hl2 (Nat.lt_succ_self _) hM ⟨by omega, by omega⟩ (by omega) hL hB hG (by rcases hd with hd | hd; exact Or.inl ⟨hd.1, hd.2.1, hd.2.2, fun b b0 b1 => absurd b0 (by omega)⟩; exact Or.inr hd))
        exact JJ.drop (lv' := [(0, .ref o), (1, .int (zI 0)), (2, .int (zI 0))]) rfl (K10 (((66 - (0 : Int)).toNat) + 1) 0 0 M m7 Hl1 (Nat.lt_succ_self _) hM ⟨by omega, by omega⟩ hL hB hG (Or.inl ⟨rfl, Nat.le_refl _, fun a a0 a1 => absurd a0 (by omega)⟩))
  exact JJ.drop (lv' := [(0, .ref o), (1, .int (zI 1))]) rfl (K2 ((2 * L.length + (1 : Int).toNat) + 1) 1 L m7 s.heap (Nat.lt_succ_self _) hM ⟨by omega, by omega⟩ hL0 hB0 (Mg.refl (List.Perm.refl _)) (fun e => absurd e (by decide)))
