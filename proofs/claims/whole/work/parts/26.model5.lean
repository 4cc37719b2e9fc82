set_option maxHeartbeats 4000000 in
set_option maxRecDepth 100000 in
/-- X3_follow -/
theorem c_X3_follow (l : Launch) (G : Gx) (o : Nat) (uh ud uc us uo ub uw ua ue ux : Int) (m0 m1 m3 m7 m8 m12 m13 m14 m15 m16 : Int → Int) (A B : List Q4) : Met l yX3_follow wsX3_follow ({ frames := 3, cells := 0, slots := 0, locals := 74 } : Room) (cPc G [.ref o] (fun H => MP G H o uh ud uc us uo ub uw ua ue ux m0 m1 m3 m7 m8 m12 m13 m14 m15 m16 ∧ us = B.length ∧ uo = A.length ∧ (A.length ≤ 64 ∧ B.length ≤ 64) ∧ R4 A m8 ∧ R4 B m7 ∧ (∀ q ∈ A, LQ 23 q) ∧ (∀ q ∈ B, LQ 23 q) ∧ (prodF A B).length ≤ 64 ∧ (∀ q ∈ prodF A B, LQ 46 q))) (qmV (fun H => ∃ M m7' m15', MP G H o uh ud uc (M.length : Int) (A.length : Int) ub uw ua ue ux m0 m1 m3 m7' m8 m12 m13 m14 m15' m16 ∧ R4 (arrF M) m7' ∧ Mg (prodF A B) M ∧ nrm M) (fun q : Nat => o ≤ q ∧ q < o + 11)) 0 0 (fun q : Nat => o ≤ q ∧ q < o + 11) := by
  refine Met.ofJ (cc := cX3_follow) (maxL := 14) (ret := none) (lv0 := [(0, .ref o)]) (by decide) rfl (Nat.le_of_ble_eq_true rfl) rfl ?_
  intro p e s m args below meth c C hr hnm hpre
  obtain ⟨hM, hus, huo, hll, hA, hB, hBA, hBB, hPl, hPB⟩ := hpre
  have hwX3 : ∀ w ∈ u_ws RX3 TX3 20, w ∈ wsX3_follow := by decide +kernel
  subst hus
  subst huo
  refine j_iconst C dX3_follow_0 ?_
  refine j_istore_n (lv' := [(0, .ref o), (1, .int (zI 0))]) C dX3_follow_1 (by decide) rfl ?_
  refine j_iconst C dX3_follow_2 ?_
  refine j_istore_n (lv' := [(0, .ref o), (1, .int (zI 0)), (2, .int (zI 0))]) C dX3_follow_3 (by decide) rfl ?_
  have K4 : ∀ (fu4 : Nat) (n i : Int) (m15 : Int → Int) (Hl1 : Heap), (A.length - i).toNat < fu4 → MP G Hl1 o uh ud uc (B.length : Int) (A.length : Int) ub uw ua ue ux m0 m1 m3 m7 m8 m12 m13 m14 m15 m16 → n = (prodF (A.take i.toNat) B).length → 0 ≤ i ∧ i ≤ A.length → R4 (prodF (A.take i.toNat) B) m15 → JJ p l e ({ frames := 3, cells := 0, slots := 0, locals := 74 } : Room) s m args below meth c (MQ below (qmV (fun H => ∃ M m7' m15', MP G H o uh ud uc (M.length : Int) (A.length : Int) ub uw ua ue ux m0 m1 m3 m7' m8 m12 m13 m14 m15' m16 ∧ R4 (arrF M) m7' ∧ Mg (prodF A B) M ∧ nrm M) (fun q : Nat => o ≤ q ∧ q < o + 11)) args s 0 0 (fun q : Nat => o ≤ q ∧ q < o + 11)) (fun q : Nat => o ≤ q ∧ q < o + 11) 14 Hl1 0 0 4 [(0, .ref o), (1, .int (zI n)), (2, .int (zI i))] [] := by
    intro fu4
    induction fu4 with
    | zero => intro n i m15 Hl1 hm4 hM hn hii hT; exact absurd hm4 (Nat.not_lt_zero _)
    | succ fu4 ih4 =>
      intro n i m15 Hl1 hm4 hM hn hii hT
      refine j_iload_n C dX3_follow_4 rfl ?_
      refine j_aload_n C dX3_follow_5 rfl ?_
      refine j_get (T := TX3) (N := 20) (fs := _) (v := .int (zI (A.length : Int))) C hwX3 hM.1 9 (by decide) rfl (index := 59) (ref := "TreePairsModel") (by decide +kernel) rfl rfl dX3_follow_6 ?_
      refine j_icmp_ge (tgt := 335) C dX3_follow_9 (by decide) ⟨by omega, by omega⟩ ⟨by omega, by omega⟩ (fun c9 => ?_) (fun c9 => ?_)
      · skip
        rw [take_all A (by omega)] at hn hT
        refine j_aload_n C dX3_follow_335 rfl ?_
        refine j_iload_n C dX3_follow_336 rfl ?_
        refine j_put (T := TX3) (N := 20) (fs' := [.ref (o + 1), .ref (o + 2), .int (zI uh), .ref (o + 3), .int (zI ud), .long (zL uc), .int (zI n), .ref (o + 4), .ref (o + 5), .int (zI (A.length : Int)), .int (zI ub), .int (zI uw), .ref (o + 6), .ref (o + 7), .ref (o + 8), .ref (o + 9), .ref (o + 10), .long (zL ua), .long (zL ue), .long (zL ux)]) (ty := .int) C tyX3 tyX3_ok nmX3 hwX3 hM.1 6 (by decide) rfl (index := 51) (ref := "TreePairsModel") (by decide +kernel) rfl rfl (by decide +kernel) rfl rfl (Nat.le_of_ble_eq_true rfl) rfl (by omega) dX3_follow_337 (fun H1 hO hC => ?_)
        have hM := hM.put_size hO hC
        refine j_iconst C dX3_follow_340 ?_
        refine j_istore_n (lv' := [(0, .ref o), (1, .int (zI n)), (2, .int (zI 0))]) C dX3_follow_341 (by decide) rfl ?_
        have K342 : ∀ (fu342 : Nat) (k : Int) (Hl2 : Heap), (4 * n - k).toNat < fu342 → MP G Hl2 o uh ud uc n (A.length : Int) ub uw ua ue ux m0 m1 m3 (cpf m7 m15 0 k) m8 m12 m13 m14 m15 m16 → 0 ≤ k ∧ k ≤ 4 * n → JJ p l e ({ frames := 3, cells := 0, slots := 0, locals := 74 } : Room) s m args below meth c (MQ below (qmV (fun H => ∃ M m7' m15', MP G H o uh ud uc (M.length : Int) (A.length : Int) ub uw ua ue ux m0 m1 m3 m7' m8 m12 m13 m14 m15' m16 ∧ R4 (arrF M) m7' ∧ Mg (prodF A B) M ∧ nrm M) (fun q : Nat => o ≤ q ∧ q < o + 11)) args s 0 0 (fun q : Nat => o ≤ q ∧ q < o + 11)) (fun q : Nat => o ≤ q ∧ q < o + 11) 14 Hl2 0 0 342 [(0, .ref o), (1, .int (zI n)), (2, .int (zI k))] [] := by
          intro fu342
          induction fu342 with
          | zero => intro k Hl2 hm342 hM hk; exact absurd hm342 (Nat.not_lt_zero _)
          | succ fu342 ih342 =>
            intro k Hl2 hm342 hM hk
            refine j_iload_n C dX3_follow_342 rfl ?_
            refine j_iconst C dX3_follow_343 ?_
            refine j_iload_n C dX3_follow_344 rfl ?_
            refine j_imul C dX3_follow_345 ?_
            refine j_icmp_ge (tgt := 367) C dX3_follow_346 (by decide) ⟨by omega, by omega⟩ ⟨by omega, by omega⟩ (fun c346 => ?_) (fun c346 => ?_)
            · skip
              refine j_aload_n C dX3_follow_367 rfl ?_
              have hk : k = 4 * n := by omega
              refine j_callmV (jrunV (rest := []) (As := []) C (c_X3_reduce l G o uh ud uc n (A.length : Int) ub uw ua ue ux m0 m1 m3 (cpf m7 m15 0 k) m8 m12 m13 m14 m15 m16 (prodF A B)) gX3_follow_X3_reduce rfl 0 (by decide +kernel) rfl rfl ⟨Nat.le_of_ble_eq_true rfl, Nat.le_of_ble_eq_true rfl⟩ hM.1 rfl ⟨hM, by omega, by omega, hT.congr (fun q q0 q1 => by rw [cpf_in (by omega), Int.sub_zero]), hPB⟩ rfl rfl (Nat.le_of_ble_eq_true rfl) ⟨Nat.le_of_ble_eq_true rfl, Nat.le_of_ble_eq_true rfl⟩ dX3_follow_368) (by intro q hq; (try dsimp only at hq ⊢); omega) (fun H2 h368 hF => ?_)
              obtain ⟨M, w7, hM, hL, hG, hN⟩ := h368
              exact j_vret C hr (Nat.le_refl _) (Nat.zero_le _) ⟨M, w7, _, hM, hL, hG, hN⟩ dX3_follow_371
            · skip
              refine j_aload_n C dX3_follow_349 rfl ?_
              refine j_get (T := TX3) (N := 20) (fs := _) (v := .ref (o + 4)) C hwX3 hM.1 7 (by decide) rfl (index := 19) (ref := "TreePairsModel") (by decide +kernel) rfl rfl dX3_follow_350 ?_
              refine j_iload_n C dX3_follow_353 rfl ?_
              refine j_aload_n C dX3_follow_354 rfl ?_
              refine j_get (T := TX3) (N := 20) (fs := _) (v := .ref (o + 9)) C hwX3 hM.1 15 (by decide) rfl (index := 35) (ref := "TreePairsModel") (by decide +kernel) rfl rfl dX3_follow_355 ?_
              refine j_iload_n C dX3_follow_358 rfl ?_
              refine j_lald C hM.2.2.2.2.2.2.2.2.2.1 ⟨by omega, by omega⟩ dX3_follow_359 ?_
              refine j_last C hM.2.2.2.2.1 ⟨by omega, by omega⟩ (by omega) dX3_follow_360 (fun H3 hR hC => ?_)
              have hM := hM.st_work hR hC
              refine j_iinc (lv' := [(0, .ref o), (1, .int (zI n)), (2, .int (zI (k + 1)))]) C dX3_follow_361 rfl (by decide) rfl ?_
              refine j_goto (tgt := 342) C dX3_follow_364 (by decide) ?_
              exact JJ.drop (lv' := [(0, .ref o), (1, .int (zI n)), (2, .int (zI (k + 1)))]) rfl (ih342 (k + 1) H3 (by omega) (by rw [← cpf_s _ _ _ hk.1, Int.zero_add]; exact hM) ⟨by omega, by omega⟩)
        exact JJ.drop (lv' := [(0, .ref o), (1, .int (zI n)), (2, .int (zI 0))]) rfl (K342 (((4 * n - (0 : Int)).toNat) + 1) 0 H1 (Nat.lt_succ_self _) (by rw [cpf_0]; exact hM) ⟨by omega, by omega⟩)
      · skip
        refine j_iconst C dX3_follow_12 ?_
        refine j_istore_n (lv' := [(0, .ref o), (1, .int (zI n)), (2, .int (zI i)), (3, .int (zI 0))]) C dX3_follow_13 (by decide) rfl ?_
        have K14 : ∀ (fu14 : Nat) (n j : Int) (m15 : Int → Int) (Hl3 : Heap), (B.length - j).toNat < fu14 → MP G Hl3 o uh ud uc (B.length : Int) (A.length : Int) ub uw ua ue ux m0 m1 m3 m7 m8 m12 m13 m14 m15 m16 → n = (prodF (A.take i.toNat) B ++ rowF (qat A i) (B.take j.toNat)).length → 0 ≤ j ∧ j ≤ B.length → R4 (prodF (A.take i.toNat) B ++ rowF (qat A i) (B.take j.toNat)) m15 → JJ p l e ({ frames := 3, cells := 0, slots := 0, locals := 74 } : Room) s m args below meth c (MQ below (qmV (fun H => ∃ M m7' m15', MP G H o uh ud uc (M.length : Int) (A.length : Int) ub uw ua ue ux m0 m1 m3 m7' m8 m12 m13 m14 m15' m16 ∧ R4 (arrF M) m7' ∧ Mg (prodF A B) M ∧ nrm M) (fun q : Nat => o ≤ q ∧ q < o + 11)) args s 0 0 (fun q : Nat => o ≤ q ∧ q < o + 11)) (fun q : Nat => o ≤ q ∧ q < o + 11) 14 Hl3 0 0 14 [(0, .ref o), (1, .int (zI n)), (2, .int (zI i)), (3, .int (zI j))] [] := by
          intro fu14
          induction fu14 with
          | zero => intro n j m15 Hl3 hm14 hM hn hjj hT; exact absurd hm14 (Nat.not_lt_zero _)
          | succ fu14 ih14 =>
            intro n j m15 Hl3 hm14 hM hn hjj hT
            refine j_iload_n C dX3_follow_14 rfl ?_
            refine j_aload_n C dX3_follow_15 rfl ?_
            refine j_get (T := TX3) (N := 20) (fs := _) (v := .int (zI (B.length : Int))) C hwX3 hM.1 6 (by decide) rfl (index := 51) (ref := "TreePairsModel") (by decide +kernel) rfl rfl dX3_follow_16 ?_
            refine j_icmp_ge (tgt := 329) C dX3_follow_19 (by decide) ⟨by omega, by omega⟩ ⟨by omega, by omega⟩ (fun c19 => ?_) (fun c19 => ?_)
            · skip
              rw [row_all hii.1 (by omega) (by omega)] at hn hT
              have hn2 := hn
              have hT2 := hT
              refine j_iinc (lv' := [(0, .ref o), (1, .int (zI n)), (2, .int (zI (i + 1))), (3, .int (zI j))]) C dX3_follow_329 rfl (by decide) rfl ?_
              refine j_goto (tgt := 4) C dX3_follow_332 (by decide) ?_
              exact JJ.drop (lv' := [(0, .ref o), (1, .int (zI n)), (2, .int (zI (i + 1)))]) rfl (ih4 n (i + 1) m15 Hl3 (by omega) hM hn2 (by omega) hT2)
            · skip
              have hqi := hA i (by omega) (by omega)
              have hqj := hB j (by omega) (by omega)
              have hLi := hBA _ (qat_mem (L := A) (i := i) (by omega) (by omega))
              have hLj := hBB _ (qat_mem (L := B) (i := j) (by omega) (by omega))
              obtain ⟨hi1, hi2⟩ := R4.bnd hA hBA (i := i) (by omega) (by omega)
              obtain ⟨hj1, hj2⟩ := R4.bnd hB hBB (i := j) (by omega) (by omega)
              have hi1 := hi1.b23
              have hi2 := hi2.b23
              have hj1 := hj1.b23
              have hj2 := hj2.b23
              have hrl := row_len (A := A) (B := B) (i := i) (j := j + 1) (by omega) (by omega)
              have ho1 : m7 (4 * j) ≤ m8 (4 * i + 2) → (ovl (qat A i) (qat B j) ↔ m8 (4 * i + 3) / 2 ^ (m8 (4 * i + 2) - m7 (4 * j)).toNat = m7 (4 * j + 1)) := (fun h => by have := ovl_1 hLi hLj (by rw [hqi, hqj]; exact h); rw [this, hqi, hqj])
              have ho2 : m8 (4 * i + 2) ≤ m7 (4 * j) → (ovl (qat A i) (qat B j) ↔ m7 (4 * j + 1) / 2 ^ (m7 (4 * j) - m8 (4 * i + 2)).toNat = m8 (4 * i + 3)) := (fun h => by have := ovl_2 hLi hLj (by rw [hqi, hqj]; exact h); rw [this, hqi, hqj])
              refine j_aload_n C dX3_follow_22 rfl ?_
              refine j_get (T := TX3) (N := 20) (fs := _) (v := .ref (o + 5)) C hwX3 hM.1 8 (by decide) rfl (index := 23) (ref := "TreePairsModel") (by decide +kernel) rfl rfl dX3_follow_23 ?_
              refine j_iconst C dX3_follow_26 ?_
              refine j_iload_n C dX3_follow_27 rfl ?_
              refine j_imul C dX3_follow_28 ?_
              refine j_iconst C dX3_follow_29 ?_
              refine j_iadd C dX3_follow_30 ?_
              refine j_lald C hM.2.2.2.2.2.1 ⟨by omega, by omega⟩ dX3_follow_31 ?_
              refine j_lstore (lv' := [(0, .ref o), (1, .int (zI n)), (2, .int (zI i)), (3, .int (zI j)), (4, .long (zL (m8 ((4 * i) + 2))))]) C dX3_follow_32 (by decide) rfl ?_
              refine j_aload_n C dX3_follow_34 rfl ?_
              refine j_get (T := TX3) (N := 20) (fs := _) (v := .ref (o + 5)) C hwX3 hM.1 8 (by decide) rfl (index := 23) (ref := "TreePairsModel") (by decide +kernel) rfl rfl dX3_follow_35 ?_
              refine j_iconst C dX3_follow_38 ?_
              refine j_iload_n C dX3_follow_39 rfl ?_
              refine j_imul C dX3_follow_40 ?_
              refine j_iconst C dX3_follow_41 ?_
              refine j_iadd C dX3_follow_42 ?_
              refine j_lald C hM.2.2.2.2.2.1 ⟨by omega, by omega⟩ dX3_follow_43 ?_
              refine j_lstore (lv' := [(0, .ref o), (1, .int (zI n)), (2, .int (zI i)), (3, .int (zI j)), (4, .long (zL (m8 ((4 * i) + 2)))), (6, .long (zL (m8 ((4 * i) + 3))))]) C dX3_follow_44 (by decide) rfl ?_
              refine j_aload_n C dX3_follow_46 rfl ?_
              refine j_get (T := TX3) (N := 20) (fs := _) (v := .ref (o + 4)) C hwX3 hM.1 7 (by decide) rfl (index := 19) (ref := "TreePairsModel") (by decide +kernel) rfl rfl dX3_follow_47 ?_
              refine j_iconst C dX3_follow_50 ?_
              refine j_iload_n C dX3_follow_51 rfl ?_
              refine j_imul C dX3_follow_52 ?_
              refine j_lald C hM.2.2.2.2.1 ⟨by omega, by omega⟩ dX3_follow_53 ?_
              refine j_lstore (lv' := [(0, .ref o), (1, .int (zI n)), (2, .int (zI i)), (3, .int (zI j)), (4, .long (zL (m8 ((4 * i) + 2)))), (6, .long (zL (m8 ((4 * i) + 3)))), (8, .long (zL (m7 (4 * j))))]) C dX3_follow_54 (by decide) rfl ?_
              refine j_aload_n C dX3_follow_56 rfl ?_
              refine j_get (T := TX3) (N := 20) (fs := _) (v := .ref (o + 4)) C hwX3 hM.1 7 (by decide) rfl (index := 19) (ref := "TreePairsModel") (by decide +kernel) rfl rfl dX3_follow_57 ?_
              refine j_iconst C dX3_follow_60 ?_
              refine j_iload_n C dX3_follow_61 rfl ?_
              refine j_imul C dX3_follow_62 ?_
              refine j_iconst C dX3_follow_63 ?_
              refine j_iadd C dX3_follow_64 ?_
              refine j_lald C hM.2.2.2.2.1 ⟨by omega, by omega⟩ dX3_follow_65 ?_
              refine j_lstore (lv' := [(0, .ref o), (1, .int (zI n)), (2, .int (zI i)), (3, .int (zI j)), (4, .long (zL (m8 ((4 * i) + 2)))), (6, .long (zL (m8 ((4 * i) + 3)))), (8, .long (zL (m7 (4 * j)))), (10, .long (zL (m7 ((4 * j) + 1))))]) C dX3_follow_66 (by decide) rfl ?_
              refine j_lload C dX3_follow_68 rfl ?_
              refine j_lload C dX3_follow_70 rfl ?_
              refine j_lcmp_lt (tgt := 197) C dX3_follow_72 dX3_follow_73 (by decide) ⟨by omega, by omega⟩ ⟨by omega, by omega⟩ (fun c72 => ?_) (fun c72 => ?_)
              · skip
                refine j_lload C dX3_follow_197 rfl ?_
                refine j_lload C dX3_follow_199 rfl ?_
                refine j_lcmp_le (tgt := 323) C dX3_follow_201 dX3_follow_202 (by decide) ⟨by omega, by omega⟩ ⟨by omega, by omega⟩ (fun c201 => ?_) (fun c201 => ?_)
                · skip
                  have hno : ¬ ovl (qat A i) (qat B j) := (by first | exact absurd c201 (by omega) | exact fun h => c87 ((ho1 (by omega)).mp h))
                  have hrow := row_n (x := qat A i) hjj.1 (by omega) rfl hno
                  refine j_iinc (lv' := [(0, .ref o), (1, .int (zI n)), (2, .int (zI i)), (3, .int (zI (j + 1))), (4, .long (zL (m8 ((4 * i) + 2)))), (6, .long (zL (m8 ((4 * i) + 3)))), (8, .long (zL (m7 (4 * j)))), (10, .long (zL (m7 ((4 * j) + 1))))]) C dX3_follow_323 rfl (by decide) rfl ?_
                  refine j_goto (tgt := 14) C dX3_follow_326 (by decide) ?_
                  exact JJ.drop (lv' := [(0, .ref o), (1, .int (zI n)), (2, .int (zI i)), (3, .int (zI (j + 1)))]) rfl (ih14 n (j + 1) m15 Hl3 (by omega) hM (by rw [hrow]; exact hn) (by omega) (by rw [hrow]; exact hT))
                · skip
                  refine j_lload C dX3_follow_205 rfl ?_
                  refine j_lload C dX3_follow_207 rfl ?_
                  refine j_lload C dX3_follow_209 rfl ?_
                  refine j_lsub C dX3_follow_211 ?_
                  refine j_l2i C dX3_follow_212 ?_
                  refine j_lshr C dX3_follow_213 ⟨by omega, by omega⟩ ⟨by omega, by omega⟩ ?_
                  refine j_lload C dX3_follow_214 rfl ?_
                  refine j_lcmp_ne (tgt := 323) C dX3_follow_216 dX3_follow_217 (by decide) (shr_R ⟨by omega, by omega⟩) ⟨by omega, by omega⟩ (fun c216 => ?_) (fun c216 => ?_)
                  · skip
                    have hno : ¬ ovl (qat A i) (qat B j) := (fun h => c216 ((ho2 (by omega)).mp h))
                    have hrow := row_n (x := qat A i) hjj.1 (by omega) rfl hno
                    refine j_iinc (lv' := [(0, .ref o), (1, .int (zI n)), (2, .int (zI i)), (3, .int (zI (j + 1))), (4, .long (zL (m8 ((4 * i) + 2)))), (6, .long (zL (m8 ((4 * i) + 3)))), (8, .long (zL (m7 (4 * j)))), (10, .long (zL (m7 ((4 * j) + 1))))]) C dX3_follow_323 rfl (by decide) rfl ?_
                    refine j_goto (tgt := 14) C dX3_follow_326 (by decide) ?_
                    exact JJ.drop (lv' := [(0, .ref o), (1, .int (zI n)), (2, .int (zI i)), (3, .int (zI (j + 1)))]) rfl (ih14 n (j + 1) m15 Hl3 (by omega) hM (by rw [hrow]; exact hn) (by omega) (by rw [hrow]; exact hT))
                  · skip
                    have hle : m8 (4 * i + 2) ≤ m7 (4 * j) := by omega
                    have hdv : m7 (4 * j + 1) / 2 ^ (m7 (4 * j) - m8 (4 * i + 2)).toNat = m8 (4 * i + 3) := by omega
                    have hrow := row_y (x := qat A i) hjj.1 (by omega) rfl ((ho2 hle).mpr hdv)
                    rw [hrow] at hrl
                    have hpc := piece_2 (x := qat A i) (y := qat B j) (by rw [hqi, hqj]; exact hle)
                    rw [hqi, hqj] at hpc
                    dsimp only at hpc
                    rw [← hqi, ← hqj] at hpc
                    have hrs := rest_b (by have := two_pow_pos (m7 (4 * j) - m8 (4 * i + 2)).toNat; omega) hdv
                    simp only [List.length_append, List.length_singleton] at hrl hn
                    refine j_lload C dX3_follow_220 rfl ?_
                    refine j_lload C dX3_follow_222 rfl ?_
                    refine j_lsub C dX3_follow_224 ?_
                    refine j_lstore (lv' := [(0, .ref o), (1, .int (zI n)), (2, .int (zI i)), (3, .int (zI j)), (4, .long (zL (m8 ((4 * i) + 2)))), (6, .long (zL (m8 ((4 * i) + 3)))), (8, .long (zL (m7 (4 * j)))), (10, .long (zL (m7 ((4 * j) + 1)))), (12, .long (zL ((m7 (4 * j)) - (m8 ((4 * i) + 2)))))]) C dX3_follow_225 (by decide) rfl ?_
                    refine j_aload_n C dX3_follow_227 rfl ?_
                    refine j_get (T := TX3) (N := 20) (fs := _) (v := .ref (o + 9)) C hwX3 hM.1 15 (by decide) rfl (index := 35) (ref := "TreePairsModel") (by decide +kernel) rfl rfl dX3_follow_228 ?_
                    refine j_iconst C dX3_follow_231 ?_
                    refine j_iload_n C dX3_follow_232 rfl ?_
                    refine j_imul C dX3_follow_233 ?_
                    refine j_aload_n C dX3_follow_234 rfl ?_
                    refine j_get (T := TX3) (N := 20) (fs := _) (v := .ref (o + 5)) C hwX3 hM.1 8 (by decide) rfl (index := 23) (ref := "TreePairsModel") (by decide +kernel) rfl rfl dX3_follow_235 ?_
                    refine j_iconst C dX3_follow_238 ?_
                    refine j_iload_n C dX3_follow_239 rfl ?_
                    refine j_imul C dX3_follow_240 ?_
                    refine j_lald C hM.2.2.2.2.2.1 ⟨by omega, by omega⟩ dX3_follow_241 ?_
                    refine j_lload C dX3_follow_242 rfl ?_
                    refine j_ladd C dX3_follow_244 ?_
                    refine j_last C hM.2.2.2.2.2.2.2.2.2.1 ⟨by omega, by omega⟩ (by omega) dX3_follow_245 (fun H4 hR hC => ?_)
                    have hM := hM.st_then hR hC
                    refine j_aload_n C dX3_follow_246 rfl ?_
                    refine j_get (T := TX3) (N := 20) (fs := _) (v := .ref (o + 9)) C hwX3 hM.1 15 (by decide) rfl (index := 35) (ref := "TreePairsModel") (by decide +kernel) rfl rfl dX3_follow_247 ?_
                    refine j_iconst C dX3_follow_250 ?_
                    refine j_iload_n C dX3_follow_251 rfl ?_
                    refine j_imul C dX3_follow_252 ?_
                    refine j_iconst C dX3_follow_253 ?_
                    refine j_iadd C dX3_follow_254 ?_
                    refine j_aload_n C dX3_follow_255 rfl ?_
                    refine j_get (T := TX3) (N := 20) (fs := _) (v := .ref (o + 5)) C hwX3 hM.1 8 (by decide) rfl (index := 23) (ref := "TreePairsModel") (by decide +kernel) rfl rfl dX3_follow_256 ?_
                    refine j_iconst C dX3_follow_259 ?_
                    refine j_iload_n C dX3_follow_260 rfl ?_
                    refine j_imul C dX3_follow_261 ?_
                    refine j_iconst C dX3_follow_262 ?_
                    refine j_iadd C dX3_follow_263 ?_
                    refine j_lald C hM.2.2.2.2.2.1 ⟨by omega, by omega⟩ dX3_follow_264 ?_
                    refine j_lload C dX3_follow_265 rfl ?_
                    refine j_l2i C dX3_follow_267 ?_
                    refine j_lshl C dX3_follow_268 ⟨by omega, by omega⟩ ?_
                    refine j_lload C dX3_follow_269 rfl ?_
                    refine j_lload C dX3_follow_271 rfl ?_
                    refine j_lload C dX3_follow_273 rfl ?_
                    refine j_l2i C dX3_follow_275 ?_
                    refine j_lshl C dX3_follow_276 ⟨by omega, by omega⟩ ?_
                    refine j_lsub C dX3_follow_277 ?_
                    refine j_lor (r := (m8 (4 * i + 1) * 2 ^ (m7 (4 * j) - m8 (4 * i + 2)).toNat + (m7 (4 * j + 1) - m8 (4 * i + 3) * 2 ^ (m7 (4 * j) - m8 (4 * i + 2)).toNat))) C dX3_follow_278 (zL_lor (by omega) hrs) ?_
                    refine j_last C hM.2.2.2.2.2.2.2.2.2.1 ⟨by omega, by omega⟩ (by omega) dX3_follow_279 (fun H5 hR hC => ?_)
                    have hM := hM.st_then hR hC
                    refine j_aload_n C dX3_follow_280 rfl ?_
                    refine j_get (T := TX3) (N := 20) (fs := _) (v := .ref (o + 9)) C hwX3 hM.1 15 (by decide) rfl (index := 35) (ref := "TreePairsModel") (by decide +kernel) rfl rfl dX3_follow_281 ?_
                    refine j_iconst C dX3_follow_284 ?_
                    refine j_iload_n C dX3_follow_285 rfl ?_
                    refine j_imul C dX3_follow_286 ?_
                    refine j_iconst C dX3_follow_287 ?_
                    refine j_iadd C dX3_follow_288 ?_
                    refine j_aload_n C dX3_follow_289 rfl ?_
                    refine j_get (T := TX3) (N := 20) (fs := _) (v := .ref (o + 4)) C hwX3 hM.1 7 (by decide) rfl (index := 19) (ref := "TreePairsModel") (by decide +kernel) rfl rfl dX3_follow_290 ?_
                    refine j_iconst C dX3_follow_293 ?_
                    refine j_iload_n C dX3_follow_294 rfl ?_
                    refine j_imul C dX3_follow_295 ?_
                    refine j_iconst C dX3_follow_296 ?_
                    refine j_iadd C dX3_follow_297 ?_
                    refine j_lald C hM.2.2.2.2.1 ⟨by omega, by omega⟩ dX3_follow_298 ?_
                    refine j_last C hM.2.2.2.2.2.2.2.2.2.1 ⟨by omega, by omega⟩ (by omega) dX3_follow_299 (fun H6 hR hC => ?_)
                    have hM := hM.st_then hR hC
                    refine j_aload_n C dX3_follow_300 rfl ?_
                    refine j_get (T := TX3) (N := 20) (fs := _) (v := .ref (o + 9)) C hwX3 hM.1 15 (by decide) rfl (index := 35) (ref := "TreePairsModel") (by decide +kernel) rfl rfl dX3_follow_301 ?_
                    refine j_iconst C dX3_follow_304 ?_
                    refine j_iload_n C dX3_follow_305 rfl ?_
                    refine j_imul C dX3_follow_306 ?_
                    refine j_iconst C dX3_follow_307 ?_
                    refine j_iadd C dX3_follow_308 ?_
                    refine j_aload_n C dX3_follow_309 rfl ?_
                    refine j_get (T := TX3) (N := 20) (fs := _) (v := .ref (o + 4)) C hwX3 hM.1 7 (by decide) rfl (index := 19) (ref := "TreePairsModel") (by decide +kernel) rfl rfl dX3_follow_310 ?_
                    refine j_iconst C dX3_follow_313 ?_
                    refine j_iload_n C dX3_follow_314 rfl ?_
                    refine j_imul C dX3_follow_315 ?_
                    refine j_iconst C dX3_follow_316 ?_
                    refine j_iadd C dX3_follow_317 ?_
                    refine j_lald C hM.2.2.2.2.1 ⟨by omega, by omega⟩ dX3_follow_318 ?_
                    refine j_last C hM.2.2.2.2.2.2.2.2.2.1 ⟨by omega, by omega⟩ (by omega) dX3_follow_319 (fun H7 hR hC => ?_)
                    have hM := hM.st_then hR hC
                    refine j_iinc (lv' := [(0, .ref o), (1, .int (zI (n + 1))), (2, .int (zI i)), (3, .int (zI j)), (4, .long (zL (m8 ((4 * i) + 2)))), (6, .long (zL (m8 ((4 * i) + 3)))), (8, .long (zL (m7 (4 * j)))), (10, .long (zL (m7 ((4 * j) + 1)))), (12, .long (zL ((m7 (4 * j)) - (m8 ((4 * i) + 2)))))]) C dX3_follow_320 rfl (by decide) rfl ?_
                    refine j_iinc (lv' := [(0, .ref o), (1, .int (zI (n + 1))), (2, .int (zI i)), (3, .int (zI (j + 1))), (4, .long (zL (m8 ((4 * i) + 2)))), (6, .long (zL (m8 ((4 * i) + 3)))), (8, .long (zL (m7 (4 * j)))), (10, .long (zL (m7 ((4 * j) + 1)))), (12, .long (zL ((m7 (4 * j)) - (m8 ((4 * i) + 2)))))]) C dX3_follow_323 rfl (by decide) rfl ?_
                    refine j_goto (tgt := 14) C dX3_follow_326 (by decide) ?_
                    exact JJ.drop (lv' := [(0, .ref o), (1, .int (zI (n + 1))), (2, .int (zI i)), (3, .int (zI (j + 1)))]) rfl (ih14 (n + 1) (j + 1) _ H7 (by omega) hM (by rw [hrow]; simp only [List.length_append, List.length_singleton]; omega) (by omega) (by rw [hrow, ← List.append_assoc, hpc]; exact hT.app (by simp only [List.length_append]; omega)))
              · skip
                refine j_lload C dX3_follow_76 rfl ?_
                refine j_lload C dX3_follow_78 rfl ?_
                refine j_lload C dX3_follow_80 rfl ?_
                refine j_lsub C dX3_follow_82 ?_
                refine j_l2i C dX3_follow_83 ?_
                refine j_lshr C dX3_follow_84 ⟨by omega, by omega⟩ ⟨by omega, by omega⟩ ?_
                refine j_lload C dX3_follow_85 rfl ?_
                refine j_lcmp_ne (tgt := 197) C dX3_follow_87 dX3_follow_88 (by decide) (shr_R ⟨by omega, by omega⟩) ⟨by omega, by omega⟩ (fun c87 => ?_) (fun c87 => ?_)
                · skip
                  refine j_lload C dX3_follow_197 rfl ?_
                  refine j_lload C dX3_follow_199 rfl ?_
                  refine j_lcmp_le (tgt := 323) C dX3_follow_201 dX3_follow_202 (by decide) ⟨by omega, by omega⟩ ⟨by omega, by omega⟩ (fun c201 => ?_) (fun c201 => ?_)
                  · skip
                    have hno : ¬ ovl (qat A i) (qat B j) := (by first | exact absurd c201 (by omega) | exact fun h => c87 ((ho1 (by omega)).mp h))
                    have hrow := row_n (x := qat A i) hjj.1 (by omega) rfl hno
                    refine j_iinc (lv' := [(0, .ref o), (1, .int (zI n)), (2, .int (zI i)), (3, .int (zI (j + 1))), (4, .long (zL (m8 ((4 * i) + 2)))), (6, .long (zL (m8 ((4 * i) + 3)))), (8, .long (zL (m7 (4 * j)))), (10, .long (zL (m7 ((4 * j) + 1))))]) C dX3_follow_323 rfl (by decide) rfl ?_
                    refine j_goto (tgt := 14) C dX3_follow_326 (by decide) ?_
                    exact JJ.drop (lv' := [(0, .ref o), (1, .int (zI n)), (2, .int (zI i)), (3, .int (zI (j + 1)))]) rfl (ih14 n (j + 1) m15 Hl3 (by omega) hM (by rw [hrow]; exact hn) (by omega) (by rw [hrow]; exact hT))
                  · skip
                    refine j_lload C dX3_follow_205 rfl ?_
                    refine j_lload C dX3_follow_207 rfl ?_
                    refine j_lload C dX3_follow_209 rfl ?_
                    refine j_lsub C dX3_follow_211 ?_
                    refine j_l2i C dX3_follow_212 ?_
                    refine j_lshr C dX3_follow_213 ⟨by omega, by omega⟩ ⟨by omega, by omega⟩ ?_
                    refine j_lload C dX3_follow_214 rfl ?_
                    refine j_lcmp_ne (tgt := 323) C dX3_follow_216 dX3_follow_217 (by decide) (shr_R ⟨by omega, by omega⟩) ⟨by omega, by omega⟩ (fun c216 => ?_) (fun c216 => ?_)
                    · skip
                      have hno : ¬ ovl (qat A i) (qat B j) := (fun h => c216 ((ho2 (by omega)).mp h))
                      have hrow := row_n (x := qat A i) hjj.1 (by omega) rfl hno
                      refine j_iinc (lv' := [(0, .ref o), (1, .int (zI n)), (2, .int (zI i)), (3, .int (zI (j + 1))), (4, .long (zL (m8 ((4 * i) + 2)))), (6, .long (zL (m8 ((4 * i) + 3)))), (8, .long (zL (m7 (4 * j)))), (10, .long (zL (m7 ((4 * j) + 1))))]) C dX3_follow_323 rfl (by decide) rfl ?_
                      refine j_goto (tgt := 14) C dX3_follow_326 (by decide) ?_
                      exact JJ.drop (lv' := [(0, .ref o), (1, .int (zI n)), (2, .int (zI i)), (3, .int (zI (j + 1)))]) rfl (ih14 n (j + 1) m15 Hl3 (by omega) hM (by rw [hrow]; exact hn) (by omega) (by rw [hrow]; exact hT))
                    · skip
                      have hle : m8 (4 * i + 2) ≤ m7 (4 * j) := by omega
                      have hdv : m7 (4 * j + 1) / 2 ^ (m7 (4 * j) - m8 (4 * i + 2)).toNat = m8 (4 * i + 3) := by omega
                      have hrow := row_y (x := qat A i) hjj.1 (by omega) rfl ((ho2 hle).mpr hdv)
                      rw [hrow] at hrl
                      have hpc := piece_2 (x := qat A i) (y := qat B j) (by rw [hqi, hqj]; exact hle)
                      rw [hqi, hqj] at hpc
                      dsimp only at hpc
                      rw [← hqi, ← hqj] at hpc
                      have hrs := rest_b (by have := two_pow_pos (m7 (4 * j) - m8 (4 * i + 2)).toNat; omega) hdv
                      simp only [List.length_append, List.length_singleton] at hrl hn
                      refine j_lload C dX3_follow_220 rfl ?_
                      refine j_lload C dX3_follow_222 rfl ?_
                      refine j_lsub C dX3_follow_224 ?_
                      refine j_lstore (lv' := [(0, .ref o), (1, .int (zI n)), (2, .int (zI i)), (3, .int (zI j)), (4, .long (zL (m8 ((4 * i) + 2)))), (6, .long (zL (m8 ((4 * i) + 3)))), (8, .long (zL (m7 (4 * j)))), (10, .long (zL (m7 ((4 * j) + 1)))), (12, .long (zL ((m7 (4 * j)) - (m8 ((4 * i) + 2)))))]) C dX3_follow_225 (by decide) rfl ?_
                      refine j_aload_n C dX3_follow_227 rfl ?_
                      refine j_get (T := TX3) (N := 20) (fs := _) (v := .ref (o + 9)) C hwX3 hM.1 15 (by decide) rfl (index := 35) (ref := "TreePairsModel") (by decide +kernel) rfl rfl dX3_follow_228 ?_
                      refine j_iconst C dX3_follow_231 ?_
                      refine j_iload_n C dX3_follow_232 rfl ?_
                      refine j_imul C dX3_follow_233 ?_
                      refine j_aload_n C dX3_follow_234 rfl ?_
                      refine j_get (T := TX3) (N := 20) (fs := _) (v := .ref (o + 5)) C hwX3 hM.1 8 (by decide) rfl (index := 23) (ref := "TreePairsModel") (by decide +kernel) rfl rfl dX3_follow_235 ?_
                      refine j_iconst C dX3_follow_238 ?_
                      refine j_iload_n C dX3_follow_239 rfl ?_
                      refine j_imul C dX3_follow_240 ?_
                      refine j_lald C hM.2.2.2.2.2.1 ⟨by omega, by omega⟩ dX3_follow_241 ?_
                      refine j_lload C dX3_follow_242 rfl ?_
                      refine j_ladd C dX3_follow_244 ?_
                      refine j_last C hM.2.2.2.2.2.2.2.2.2.1 ⟨by omega, by omega⟩ (by omega) dX3_follow_245 (fun H8 hR hC => ?_)
                      have hM := hM.st_then hR hC
                      refine j_aload_n C dX3_follow_246 rfl ?_
                      refine j_get (T := TX3) (N := 20) (fs := _) (v := .ref (o + 9)) C hwX3 hM.1 15 (by decide) rfl (index := 35) (ref := "TreePairsModel") (by decide +kernel) rfl rfl dX3_follow_247 ?_
                      refine j_iconst C dX3_follow_250 ?_
                      refine j_iload_n C dX3_follow_251 rfl ?_
                      refine j_imul C dX3_follow_252 ?_
                      refine j_iconst C dX3_follow_253 ?_
                      refine j_iadd C dX3_follow_254 ?_
                      refine j_aload_n C dX3_follow_255 rfl ?_
                      refine j_get (T := TX3) (N := 20) (fs := _) (v := .ref (o + 5)) C hwX3 hM.1 8 (by decide) rfl (index := 23) (ref := "TreePairsModel") (by decide +kernel) rfl rfl dX3_follow_256 ?_
                      refine j_iconst C dX3_follow_259 ?_
                      refine j_iload_n C dX3_follow_260 rfl ?_
                      refine j_imul C dX3_follow_261 ?_
                      refine j_iconst C dX3_follow_262 ?_
                      refine j_iadd C dX3_follow_263 ?_
                      refine j_lald C hM.2.2.2.2.2.1 ⟨by omega, by omega⟩ dX3_follow_264 ?_
                      refine j_lload C dX3_follow_265 rfl ?_
                      refine j_l2i C dX3_follow_267 ?_
                      refine j_lshl C dX3_follow_268 ⟨by omega, by omega⟩ ?_
                      refine j_lload C dX3_follow_269 rfl ?_
                      refine j_lload C dX3_follow_271 rfl ?_
                      refine j_lload C dX3_follow_273 rfl ?_
                      refine j_l2i C dX3_follow_275 ?_
                      refine j_lshl C dX3_follow_276 ⟨by omega, by omega⟩ ?_
                      refine j_lsub C dX3_follow_277 ?_
                      refine j_lor (r := (m8 (4 * i + 1) * 2 ^ (m7 (4 * j) - m8 (4 * i + 2)).toNat + (m7 (4 * j + 1) - m8 (4 * i + 3) * 2 ^ (m7 (4 * j) - m8 (4 * i + 2)).toNat))) C dX3_follow_278 (zL_lor (by omega) hrs) ?_
                      refine j_last C hM.2.2.2.2.2.2.2.2.2.1 ⟨by omega, by omega⟩ (by omega) dX3_follow_279 (fun H9 hR hC => ?_)
                      have hM := hM.st_then hR hC
                      refine j_aload_n C dX3_follow_280 rfl ?_
                      refine j_get (T := TX3) (N := 20) (fs := _) (v := .ref (o + 9)) C hwX3 hM.1 15 (by decide) rfl (index := 35) (ref := "TreePairsModel") (by decide +kernel) rfl rfl dX3_follow_281 ?_
                      refine j_iconst C dX3_follow_284 ?_
                      refine j_iload_n C dX3_follow_285 rfl ?_
                      refine j_imul C dX3_follow_286 ?_
                      refine j_iconst C dX3_follow_287 ?_
                      refine j_iadd C dX3_follow_288 ?_
                      refine j_aload_n C dX3_follow_289 rfl ?_
                      refine j_get (T := TX3) (N := 20) (fs := _) (v := .ref (o + 4)) C hwX3 hM.1 7 (by decide) rfl (index := 19) (ref := "TreePairsModel") (by decide +kernel) rfl rfl dX3_follow_290 ?_
                      refine j_iconst C dX3_follow_293 ?_
                      refine j_iload_n C dX3_follow_294 rfl ?_
                      refine j_imul C dX3_follow_295 ?_
                      refine j_iconst C dX3_follow_296 ?_
                      refine j_iadd C dX3_follow_297 ?_
                      refine j_lald C hM.2.2.2.2.1 ⟨by omega, by omega⟩ dX3_follow_298 ?_
                      refine j_last C hM.2.2.2.2.2.2.2.2.2.1 ⟨by omega, by omega⟩ (by omega) dX3_follow_299 (fun H10 hR hC => ?_)
                      have hM := hM.st_then hR hC
                      refine j_aload_n C dX3_follow_300 rfl ?_
                      refine j_get (T := TX3) (N := 20) (fs := _) (v := .ref (o + 9)) C hwX3 hM.1 15 (by decide) rfl (index := 35) (ref := "TreePairsModel") (by decide +kernel) rfl rfl dX3_follow_301 ?_
                      refine j_iconst C dX3_follow_304 ?_
                      refine j_iload_n C dX3_follow_305 rfl ?_
                      refine j_imul C dX3_follow_306 ?_
                      refine j_iconst C dX3_follow_307 ?_
                      refine j_iadd C dX3_follow_308 ?_
                      refine j_aload_n C dX3_follow_309 rfl ?_
                      refine j_get (T := TX3) (N := 20) (fs := _) (v := .ref (o + 4)) C hwX3 hM.1 7 (by decide) rfl (index := 19) (ref := "TreePairsModel") (by decide +kernel) rfl rfl dX3_follow_310 ?_
                      refine j_iconst C dX3_follow_313 ?_
                      refine j_iload_n C dX3_follow_314 rfl ?_
                      refine j_imul C dX3_follow_315 ?_
                      refine j_iconst C dX3_follow_316 ?_
                      refine j_iadd C dX3_follow_317 ?_
                      refine j_lald C hM.2.2.2.2.1 ⟨by omega, by omega⟩ dX3_follow_318 ?_
                      refine j_last C hM.2.2.2.2.2.2.2.2.2.1 ⟨by omega, by omega⟩ (by omega) dX3_follow_319 (fun H11 hR hC => ?_)
                      have hM := hM.st_then hR hC
                      refine j_iinc (lv' := [(0, .ref o), (1, .int (zI (n + 1))), (2, .int (zI i)), (3, .int (zI j)), (4, .long (zL (m8 ((4 * i) + 2)))), (6, .long (zL (m8 ((4 * i) + 3)))), (8, .long (zL (m7 (4 * j)))), (10, .long (zL (m7 ((4 * j) + 1)))), (12, .long (zL ((m7 (4 * j)) - (m8 ((4 * i) + 2)))))]) C dX3_follow_320 rfl (by decide) rfl ?_
                      refine j_iinc (lv' := [(0, .ref o), (1, .int (zI (n + 1))), (2, .int (zI i)), (3, .int (zI (j + 1))), (4, .long (zL (m8 ((4 * i) + 2)))), (6, .long (zL (m8 ((4 * i) + 3)))), (8, .long (zL (m7 (4 * j)))), (10, .long (zL (m7 ((4 * j) + 1)))), (12, .long (zL ((m7 (4 * j)) - (m8 ((4 * i) + 2)))))]) C dX3_follow_323 rfl (by decide) rfl ?_
                      refine j_goto (tgt := 14) C dX3_follow_326 (by decide) ?_
                      exact JJ.drop (lv' := [(0, .ref o), (1, .int (zI (n + 1))), (2, .int (zI i)), (3, .int (zI (j + 1)))]) rfl (ih14 (n + 1) (j + 1) _ H11 (by omega) hM (by rw [hrow]; simp only [List.length_append, List.length_singleton]; omega) (by omega) (by rw [hrow, ← List.append_assoc, hpc]; exact hT.app (by simp only [List.length_append]; omega)))
                · skip
                  have hle : m7 (4 * j) ≤ m8 (4 * i + 2) := by omega
                  have hdv : m8 (4 * i + 3) / 2 ^ (m8 (4 * i + 2) - m7 (4 * j)).toNat = m7 (4 * j + 1) := by omega
                  have hrow := row_y (x := qat A i) hjj.1 (by omega) rfl ((ho1 hle).mpr hdv)
                  rw [hrow] at hrl
                  have hpc := piece_1 (x := qat A i) (y := qat B j) (by rw [hqi, hqj]; exact hle) (by rw [hqi, hqj]; exact hdv)
                  rw [hqi, hqj] at hpc
                  dsimp only at hpc
                  rw [← hqi, ← hqj] at hpc
                  have hrs := rest_b (by have := two_pow_pos (m8 (4 * i + 2) - m7 (4 * j)).toNat; omega) hdv
                  simp only [List.length_append, List.length_singleton] at hrl hn
                  refine j_lload C dX3_follow_91 rfl ?_
                  refine j_lload C dX3_follow_93 rfl ?_
                  refine j_lsub C dX3_follow_95 ?_
                  refine j_lstore (lv' := [(0, .ref o), (1, .int (zI n)), (2, .int (zI i)), (3, .int (zI j)), (4, .long (zL (m8 ((4 * i) + 2)))), (6, .long (zL (m8 ((4 * i) + 3)))), (8, .long (zL (m7 (4 * j)))), (10, .long (zL (m7 ((4 * j) + 1)))), (12, .long (zL ((m8 ((4 * i) + 2)) - (m7 (4 * j)))))]) C dX3_follow_96 (by decide) rfl ?_
                  refine j_aload_n C dX3_follow_98 rfl ?_
                  refine j_get (T := TX3) (N := 20) (fs := _) (v := .ref (o + 9)) C hwX3 hM.1 15 (by decide) rfl (index := 35) (ref := "TreePairsModel") (by decide +kernel) rfl rfl dX3_follow_99 ?_
                  refine j_iconst C dX3_follow_102 ?_
                  refine j_iload_n C dX3_follow_103 rfl ?_
                  refine j_imul C dX3_follow_104 ?_
                  refine j_aload_n C dX3_follow_105 rfl ?_
                  refine j_get (T := TX3) (N := 20) (fs := _) (v := .ref (o + 5)) C hwX3 hM.1 8 (by decide) rfl (index := 23) (ref := "TreePairsModel") (by decide +kernel) rfl rfl dX3_follow_106 ?_
                  refine j_iconst C dX3_follow_109 ?_
                  refine j_iload_n C dX3_follow_110 rfl ?_
                  refine j_imul C dX3_follow_111 ?_
                  refine j_lald C hM.2.2.2.2.2.1 ⟨by omega, by omega⟩ dX3_follow_112 ?_
                  refine j_last C hM.2.2.2.2.2.2.2.2.2.1 ⟨by omega, by omega⟩ (by omega) dX3_follow_113 (fun H12 hR hC => ?_)
                  have hM := hM.st_then hR hC
                  refine j_aload_n C dX3_follow_114 rfl ?_
                  refine j_get (T := TX3) (N := 20) (fs := _) (v := .ref (o + 9)) C hwX3 hM.1 15 (by decide) rfl (index := 35) (ref := "TreePairsModel") (by decide +kernel) rfl rfl dX3_follow_115 ?_
                  refine j_iconst C dX3_follow_118 ?_
                  refine j_iload_n C dX3_follow_119 rfl ?_
                  refine j_imul C dX3_follow_120 ?_
                  refine j_iconst C dX3_follow_121 ?_
                  refine j_iadd C dX3_follow_122 ?_
                  refine j_aload_n C dX3_follow_123 rfl ?_
                  refine j_get (T := TX3) (N := 20) (fs := _) (v := .ref (o + 5)) C hwX3 hM.1 8 (by decide) rfl (index := 23) (ref := "TreePairsModel") (by decide +kernel) rfl rfl dX3_follow_124 ?_
                  refine j_iconst C dX3_follow_127 ?_
                  refine j_iload_n C dX3_follow_128 rfl ?_
                  refine j_imul C dX3_follow_129 ?_
                  refine j_iconst C dX3_follow_130 ?_
                  refine j_iadd C dX3_follow_131 ?_
                  refine j_lald C hM.2.2.2.2.2.1 ⟨by omega, by omega⟩ dX3_follow_132 ?_
                  refine j_last C hM.2.2.2.2.2.2.2.2.2.1 ⟨by omega, by omega⟩ (by omega) dX3_follow_133 (fun H13 hR hC => ?_)
                  have hM := hM.st_then hR hC
                  refine j_aload_n C dX3_follow_134 rfl ?_
                  refine j_get (T := TX3) (N := 20) (fs := _) (v := .ref (o + 9)) C hwX3 hM.1 15 (by decide) rfl (index := 35) (ref := "TreePairsModel") (by decide +kernel) rfl rfl dX3_follow_135 ?_
                  refine j_iconst C dX3_follow_138 ?_
                  refine j_iload_n C dX3_follow_139 rfl ?_
                  refine j_imul C dX3_follow_140 ?_
                  refine j_iconst C dX3_follow_141 ?_
                  refine j_iadd C dX3_follow_142 ?_
                  refine j_aload_n C dX3_follow_143 rfl ?_
                  refine j_get (T := TX3) (N := 20) (fs := _) (v := .ref (o + 4)) C hwX3 hM.1 7 (by decide) rfl (index := 19) (ref := "TreePairsModel") (by decide +kernel) rfl rfl dX3_follow_144 ?_
                  refine j_iconst C dX3_follow_147 ?_
                  refine j_iload_n C dX3_follow_148 rfl ?_
                  refine j_imul C dX3_follow_149 ?_
                  refine j_iconst C dX3_follow_150 ?_
                  refine j_iadd C dX3_follow_151 ?_
                  refine j_lald C hM.2.2.2.2.1 ⟨by omega, by omega⟩ dX3_follow_152 ?_
                  refine j_lload C dX3_follow_153 rfl ?_
                  refine j_ladd C dX3_follow_155 ?_
                  refine j_last C hM.2.2.2.2.2.2.2.2.2.1 ⟨by omega, by omega⟩ (by omega) dX3_follow_156 (fun H14 hR hC => ?_)
                  have hM := hM.st_then hR hC
                  refine j_aload_n C dX3_follow_157 rfl ?_
                  refine j_get (T := TX3) (N := 20) (fs := _) (v := .ref (o + 9)) C hwX3 hM.1 15 (by decide) rfl (index := 35) (ref := "TreePairsModel") (by decide +kernel) rfl rfl dX3_follow_158 ?_
                  refine j_iconst C dX3_follow_161 ?_
                  refine j_iload_n C dX3_follow_162 rfl ?_
                  refine j_imul C dX3_follow_163 ?_
                  refine j_iconst C dX3_follow_164 ?_
                  refine j_iadd C dX3_follow_165 ?_
                  refine j_aload_n C dX3_follow_166 rfl ?_
                  refine j_get (T := TX3) (N := 20) (fs := _) (v := .ref (o + 4)) C hwX3 hM.1 7 (by decide) rfl (index := 19) (ref := "TreePairsModel") (by decide +kernel) rfl rfl dX3_follow_167 ?_
                  refine j_iconst C dX3_follow_170 ?_
                  refine j_iload_n C dX3_follow_171 rfl ?_
                  refine j_imul C dX3_follow_172 ?_
                  refine j_iconst C dX3_follow_173 ?_
                  refine j_iadd C dX3_follow_174 ?_
                  refine j_lald C hM.2.2.2.2.1 ⟨by omega, by omega⟩ dX3_follow_175 ?_
                  refine j_lload C dX3_follow_176 rfl ?_
                  refine j_l2i C dX3_follow_178 ?_
                  refine j_lshl C dX3_follow_179 ⟨by omega, by omega⟩ ?_
                  refine j_lload C dX3_follow_180 rfl ?_
                  refine j_lload C dX3_follow_182 rfl ?_
                  refine j_lload C dX3_follow_184 rfl ?_
                  refine j_l2i C dX3_follow_186 ?_
                  refine j_lshl C dX3_follow_187 ⟨by omega, by omega⟩ ?_
                  refine j_lsub C dX3_follow_188 ?_
                  refine j_lor (r := (m7 (4 * j + 3) * 2 ^ (m8 (4 * i + 2) - m7 (4 * j)).toNat + (m8 (4 * i + 3) - m7 (4 * j + 1) * 2 ^ (m8 (4 * i + 2) - m7 (4 * j)).toNat))) C dX3_follow_189 (zL_lor (by omega) hrs) ?_
                  refine j_last C hM.2.2.2.2.2.2.2.2.2.1 ⟨by omega, by omega⟩ (by omega) dX3_follow_190 (fun H15 hR hC => ?_)
                  have hM := hM.st_then hR hC
                  refine j_iinc (lv' := [(0, .ref o), (1, .int (zI (n + 1))), (2, .int (zI i)), (3, .int (zI j)), (4, .long (zL (m8 ((4 * i) + 2)))), (6, .long (zL (m8 ((4 * i) + 3)))), (8, .long (zL (m7 (4 * j)))), (10, .long (zL (m7 ((4 * j) + 1)))), (12, .long (zL ((m8 ((4 * i) + 2)) - (m7 (4 * j)))))]) C dX3_follow_191 rfl (by decide) rfl ?_
                  refine j_goto (tgt := 323) C dX3_follow_194 (by decide) ?_
                  refine j_iinc (lv' := [(0, .ref o), (1, .int (zI (n + 1))), (2, .int (zI i)), (3, .int (zI (j + 1))), (4, .long (zL (m8 ((4 * i) + 2)))), (6, .long (zL (m8 ((4 * i) + 3)))), (8, .long (zL (m7 (4 * j)))), (10, .long (zL (m7 ((4 * j) + 1)))), (12, .long (zL ((m8 ((4 * i) + 2)) - (m7 (4 * j)))))]) C dX3_follow_323 rfl (by decide) rfl ?_
                  refine j_goto (tgt := 14) C dX3_follow_326 (by decide) ?_
                  exact JJ.drop (lv' := [(0, .ref o), (1, .int (zI (n + 1))), (2, .int (zI i)), (3, .int (zI (j + 1)))]) rfl (ih14 (n + 1) (j + 1) _ H15 (by omega) hM (by rw [hrow]; simp only [List.length_append, List.length_singleton]; omega) (by omega) (by rw [hrow, ← List.append_assoc, hpc]; exact hT.app (by simp only [List.length_append]; omega)))
        exact JJ.drop (lv' := [(0, .ref o), (1, .int (zI n)), (2, .int (zI i)), (3, .int (zI 0))]) rfl (K14 (((B.length - (0 : Int)).toNat) + 1) n 0 m15 Hl1 (Nat.lt_succ_self _) hM (by show n = ((prodF (A.take i.toNat) B ++ []).length : Int); rw [List.append_nil]; exact hn) ⟨by omega, by omega⟩ (by show R4 (prodF (A.take i.toNat) B ++ []) m15; rw [List.append_nil]; exact hT))
  exact JJ.drop (lv' := [(0, .ref o), (1, .int (zI 0)), (2, .int (zI 0))]) rfl (K4 (((A.length - (0 : Int)).toNat) + 1) 0 0 m15 s.heap (Nat.lt_succ_self _) hM rfl ⟨by omega, by omega⟩ R4.nil)
