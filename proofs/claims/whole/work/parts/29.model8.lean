set_option maxHeartbeats 4000000 in
set_option maxRecDepth 100000 in
/-- X3_clear -/
theorem c_X3_clear (l : Launch) (G : Gx) (o : Nat) (maps : Int → List Q4) (hand : List Q4) (ud uc : Int) : Met l yX3_clear wsX3_clear ({ frames := 0, cells := 0, slots := 0, locals := 0 } : Room) (cPc G [.ref o] (fun H => MX G H o maps hand ud uc)) (qmI (fun r H => r = (hand.length : Int) ∧ MX G H o maps [] ud uc) (fun q : Nat => o ≤ q ∧ q < o + 11)) 0 0 (fun q : Nat => o ≤ q ∧ q < o + 11) := by
  refine Met.ofJ (cc := cX3_clear) (maxL := 2) (ret := (some .int)) (lv0 := [(0, .ref o)]) (by decide) rfl (Nat.le_of_ble_eq_true rfl) rfl ?_
  intro p e s m args below meth c C hr hnm hpre
  obtain ⟨us, uo, ub, uw, ua, ue, ux, m0, m1, m3, m7, m8, m12, m13, m14, m15, m16, hM, hT, hHd, hBL⟩ := hpre
  have hwX3 : ∀ w ∈ u_ws RX3 TX3 20, w ∈ wsX3_clear := by decide +kernel
  refine j_aload_n C dX3_clear_0 rfl ?_
  refine j_get (T := TX3) (N := 20) (fs := _) (v := .int (zI (hand.length : Int))) C hwX3 hM.1 2 (by decide) rfl (index := 88) (ref := "TreePairsModel") (by decide +kernel) rfl rfl dX3_clear_1 ?_
  refine j_istore_n (lv' := [(0, .ref o), (1, .int (zI (hand.length : Int)))]) C dX3_clear_4 (by decide) rfl ?_
  refine j_aload_n C dX3_clear_5 rfl ?_
  refine j_iconst C dX3_clear_6 ?_
  refine j_put (T := TX3) (N := 20) (fs' := [.ref (o + 1), .ref (o + 2), .int (zI 0), .ref (o + 3), .int (zI ud), .long (zL uc), .int (zI us), .ref (o + 4), .ref (o + 5), .int (zI uo), .int (zI ub), .int (zI uw), .ref (o + 6), .ref (o + 7), .ref (o + 8), .ref (o + 9), .ref (o + 10), .long (zL ua), .long (zL ue), .long (zL ux)]) (ty := .int) C tyX3 tyX3_ok nmX3 hwX3 hM.1 2 (by decide) rfl (index := 88) (ref := "TreePairsModel") (by decide +kernel) rfl rfl (by decide +kernel) rfl rfl (Nat.le_of_ble_eq_true rfl) rfl (by omega) dX3_clear_7 (fun H1 hO hC => ?_)
  have hM := hM.put_hand hO hC
  refine j_iload_n C dX3_clear_10 rfl ?_
  exact j_iret C hr (Nat.le_refl _) (Nat.zero_le _) ⟨rfl, ⟨_, _, _, _, _, _, _, _, _, _, _, _, _, _, _, _, _, hM, hT, R4.nil, hBL⟩⟩ dX3_clear_11

set_option maxHeartbeats 4000000 in
set_option maxRecDepth 100000 in
/-- X3_pair -/
theorem c_X3_pair (l : Launch) (G : Gx) (o : Nat) (maps : Int → List Q4) (hand : List Q4) (ud uc : Int) (x y z w : Int) : Met l yX3_pair wsX3_pair ({ frames := 2, cells := 0, slots := 0, locals := 46 } : Room) (cPc G [.ref o, .int (zI x), .int (zI y), .int (zI z), .int (zI w)] (fun H => MX G H o maps hand ud uc ∧ iR x ∧ iR y ∧ iR z ∧ iR w ∧ hand.length ≤ 24)) (qmI (fun r H => r = (opPair hand x y z w).1 ∧ MX G H o maps (opPair hand x y z w).2 ud uc) (fun q : Nat => o ≤ q ∧ q < o + 11)) 0 0 (fun q : Nat => o ≤ q ∧ q < o + 11) := by
  refine Met.ofJ (cc := cX3_pair) (maxL := 5) (ret := (some .int)) (lv0 := [(0, .ref o), (1, .int (zI x)), (2, .int (zI y)), (3, .int (zI z)), (4, .int (zI w))]) (by decide) rfl (Nat.le_of_ble_eq_true rfl) rfl ?_
  intro p e s m args below meth c C hr hnm hpre
  obtain ⟨⟨us, uo, ub, uw, ua, ue, ux, m0, m1, m3, m7, m8, m12, m13, m14, m15, m16, hM, hT, hHd, hBL⟩, hx, hy, hz, hw, hhl⟩ := hpre
  have hwX3 : ∀ w ∈ u_ws RX3 TX3 20, w ∈ wsX3_pair := by decide +kernel
  refine j_iload_n C dX3_pair_0 rfl ?_
  refine j_iload_n C dX3_pair_1 rfl ?_
  refine j_callI (jrunS (rest := []) (As := [.int (zI x), .int (zI y)]) C (c_X3_isLeaf l G x y) gX3_pair_X3_isLeaf rfl 2 (by decide +kernel) rfl rfl ⟨Nat.le_of_ble_eq_true rfl, Nat.le_of_ble_eq_true rfl⟩ ⟨hx, hy⟩ rfl rfl (Nat.le_of_ble_eq_true rfl) ⟨Nat.le_of_ble_eq_true rfl, Nat.le_of_ble_eq_true rfl⟩ dX3_pair_2) (fun r2 h2 => ?_)
  rcases h2 with ⟨h2, rfl⟩ | ⟨h2, rfl⟩
  · skip
    refine j_if_eq (tgt := 17) C dX3_pair_5 (by decide) ⟨by decide, by decide⟩ (fun c5 => absurd c5 (by decide)) (fun c5 => ?_)
    refine j_iload_n C dX3_pair_8 rfl ?_
    refine j_iload C dX3_pair_9 rfl ?_
    refine j_callI (jrunS (rest := []) (As := [.int (zI z), .int (zI w)]) C (c_X3_isLeaf l G z w) gX3_pair_X3_isLeaf rfl 2 (by decide +kernel) rfl rfl ⟨Nat.le_of_ble_eq_true rfl, Nat.le_of_ble_eq_true rfl⟩ ⟨hz, hw⟩ rfl rfl (Nat.le_of_ble_eq_true rfl) ⟨Nat.le_of_ble_eq_true rfl, Nat.le_of_ble_eq_true rfl⟩ dX3_pair_11) (fun r11 h11 => ?_)
    rcases h11 with ⟨h11, rfl⟩ | ⟨h11, rfl⟩
    · skip
      refine j_if_ne (tgt := 20) C dX3_pair_14 (by decide) ⟨by decide, by decide⟩ (fun c14 => ?_) (fun c14 => absurd c14 (by decide))
      refine j_aload_n C dX3_pair_20 rfl ?_
      refine j_get (T := TX3) (N := 20) (fs := _) (v := .int (zI (hand.length : Int))) C hwX3 hM.1 2 (by decide) rfl (index := 88) (ref := "TreePairsModel") (by decide +kernel) rfl rfl dX3_pair_21 ?_
      refine j_bipush C dX3_pair_24 (by decide) ?_
      refine j_icmp_ne (tgt := 32) C dX3_pair_26 (by decide) ⟨by omega, by omega⟩ ⟨by decide, by decide⟩ (fun c26 => ?_) (fun c26 => ?_)
      · skip
        refine j_aload_n C dX3_pair_32 rfl ?_
        refine j_get (T := TX3) (N := 20) (fs := _) (v := .ref (o + 3)) C hwX3 hM.1 3 (by decide) rfl (index := 16) (ref := "TreePairsModel") (by decide +kernel) rfl rfl dX3_pair_33 ?_
        refine j_iconst C dX3_pair_36 ?_
        refine j_aload_n C dX3_pair_37 rfl ?_
        refine j_get (T := TX3) (N := 20) (fs := _) (v := .int (zI (hand.length : Int))) C hwX3 hM.1 2 (by decide) rfl (index := 88) (ref := "TreePairsModel") (by decide +kernel) rfl rfl dX3_pair_38 ?_
        refine j_imul C dX3_pair_41 ?_
        refine j_iload_n C dX3_pair_42 rfl ?_
        refine j_iast C hM.2.2.2.1 ⟨by omega, by omega⟩ (by omega) dX3_pair_43 (fun H1 hR hC => ?_)
        have hM := hM.st_atHand hR hC
        refine j_aload_n C dX3_pair_44 rfl ?_
        refine j_get (T := TX3) (N := 20) (fs := _) (v := .ref (o + 3)) C hwX3 hM.1 3 (by decide) rfl (index := 16) (ref := "TreePairsModel") (by decide +kernel) rfl rfl dX3_pair_45 ?_
        refine j_iconst C dX3_pair_48 ?_
        refine j_aload_n C dX3_pair_49 rfl ?_
        refine j_get (T := TX3) (N := 20) (fs := _) (v := .int (zI (hand.length : Int))) C hwX3 hM.1 2 (by decide) rfl (index := 88) (ref := "TreePairsModel") (by decide +kernel) rfl rfl dX3_pair_50 ?_
        refine j_imul C dX3_pair_53 ?_
        refine j_iconst C dX3_pair_54 ?_
        refine j_iadd C dX3_pair_55 ?_
        refine j_iload_n C dX3_pair_56 rfl ?_
        refine j_iast C hM.2.2.2.1 ⟨by omega, by omega⟩ (by omega) dX3_pair_57 (fun H2 hR hC => ?_)
        have hM := hM.st_atHand hR hC
        refine j_aload_n C dX3_pair_58 rfl ?_
        refine j_get (T := TX3) (N := 20) (fs := _) (v := .ref (o + 3)) C hwX3 hM.1 3 (by decide) rfl (index := 16) (ref := "TreePairsModel") (by decide +kernel) rfl rfl dX3_pair_59 ?_
        refine j_iconst C dX3_pair_62 ?_
        refine j_aload_n C dX3_pair_63 rfl ?_
        refine j_get (T := TX3) (N := 20) (fs := _) (v := .int (zI (hand.length : Int))) C hwX3 hM.1 2 (by decide) rfl (index := 88) (ref := "TreePairsModel") (by decide +kernel) rfl rfl dX3_pair_64 ?_
        refine j_imul C dX3_pair_67 ?_
        refine j_iconst C dX3_pair_68 ?_
        refine j_iadd C dX3_pair_69 ?_
        refine j_iload_n C dX3_pair_70 rfl ?_
        refine j_iast C hM.2.2.2.1 ⟨by omega, by omega⟩ (by omega) dX3_pair_71 (fun H3 hR hC => ?_)
        have hM := hM.st_atHand hR hC
        refine j_aload_n C dX3_pair_72 rfl ?_
        refine j_get (T := TX3) (N := 20) (fs := _) (v := .ref (o + 3)) C hwX3 hM.1 3 (by decide) rfl (index := 16) (ref := "TreePairsModel") (by decide +kernel) rfl rfl dX3_pair_73 ?_
        refine j_iconst C dX3_pair_76 ?_
        refine j_aload_n C dX3_pair_77 rfl ?_
        refine j_get (T := TX3) (N := 20) (fs := _) (v := .int (zI (hand.length : Int))) C hwX3 hM.1 2 (by decide) rfl (index := 88) (ref := "TreePairsModel") (by decide +kernel) rfl rfl dX3_pair_78 ?_
        refine j_imul C dX3_pair_81 ?_
        refine j_iconst C dX3_pair_82 ?_
        refine j_iadd C dX3_pair_83 ?_
        refine j_iload C dX3_pair_84 rfl ?_
        refine j_iast C hM.2.2.2.1 ⟨by omega, by omega⟩ (by omega) dX3_pair_86 (fun H4 hR hC => ?_)
        have hM := hM.st_atHand hR hC
        refine j_aload_n C dX3_pair_87 rfl ?_
        refine j_dup C dX3_pair_88 rfl ?_
        refine j_get (T := TX3) (N := 20) (fs := _) (v := .int (zI (hand.length : Int))) C hwX3 hM.1 2 (by decide) rfl (index := 88) (ref := "TreePairsModel") (by decide +kernel) rfl rfl dX3_pair_89 ?_
        refine j_iconst C dX3_pair_92 ?_
        refine j_iadd C dX3_pair_93 ?_
        refine j_put (T := TX3) (N := 20) (fs' := [.ref (o + 1), .ref (o + 2), .int (zI ((hand.length : Int) + 1)), .ref (o + 3), .int (zI ud), .long (zL uc), .int (zI us), .ref (o + 4), .ref (o + 5), .int (zI uo), .int (zI ub), .int (zI uw), .ref (o + 6), .ref (o + 7), .ref (o + 8), .ref (o + 9), .ref (o + 10), .long (zL ua), .long (zL ue), .long (zL ux)]) (ty := .int) C tyX3 tyX3_ok nmX3 hwX3 hM.1 2 (by decide) rfl (index := 88) (ref := "TreePairsModel") (by decide +kernel) rfl rfl (by decide +kernel) rfl rfl (Nat.le_of_ble_eq_true rfl) rfl (by omega) dX3_pair_94 (fun H5 hO hC => ?_)
        have hM := hM.put_hand hO hC
        refine j_aload_n C dX3_pair_97 rfl ?_
        refine j_get (T := TX3) (N := 20) (fs := _) (v := .int (zI ((hand.length : Int) + 1))) C hwX3 hM.1 2 (by decide) rfl (index := 88) (ref := "TreePairsModel") (by decide +kernel) rfl rfl dX3_pair_98 ?_
        exact j_iret C hr (Nat.le_refl _) (Nat.zero_le _) (by unfold opPair; rw [if_pos ⟨h2, h11⟩, if_neg (by omega)]; refine ⟨rfl, ?_⟩; have hA := hHd.app (x := x) (y := y) (z := z) (w := w) (n := (hand.length : Int)) rfl; rw [show (hand.length : Int) + 1 = ((hand ++ [(x, y, z, w)]).length : Int) by simp] at hM; exact ⟨_, _, _, _, _, _, _, _, _, _, _, _, _, _, _, _, _, hM, hT, hA, hBL⟩) dX3_pair_101
      · skip
        refine j_bipush C dX3_pair_29 (by decide) ?_
        exact j_iret C hr (Nat.le_refl _) (Nat.zero_le _) (by unfold opPair; rw [if_pos ⟨h2, h11⟩, if_pos (by omega)]; exact ⟨rfl, ⟨_, _, _, _, _, _, _, _, _, _, _, _, _, _, _, _, _, hM, hT, hHd, hBL⟩⟩) dX3_pair_31
    · skip
      refine j_if_ne (tgt := 20) C dX3_pair_14 (by decide) ⟨by decide, by decide⟩ (fun c14 => absurd c14 (by decide)) (fun c14 => ?_)
      refine j_bipush C dX3_pair_17 (by decide) ?_
      exact j_iret C hr (Nat.le_refl _) (Nat.zero_le _) (by unfold opPair; rw [if_neg (fun h => by first | exact h2 h.1 | exact h11 h.2)]; exact ⟨rfl, ⟨_, _, _, _, _, _, _, _, _, _, _, _, _, _, _, _, _, hM, hT, hHd, hBL⟩⟩) dX3_pair_19
  · skip
    refine j_if_eq (tgt := 17) C dX3_pair_5 (by decide) ⟨by decide, by decide⟩ (fun c5 => ?_) (fun c5 => absurd c5 (by decide))
    refine j_bipush C dX3_pair_17 (by decide) ?_
    exact j_iret C hr (Nat.le_refl _) (Nat.zero_le _) (by unfold opPair; rw [if_neg (fun h => by first | exact h2 h.1 | exact h11 h.2)]; exact ⟨rfl, ⟨_, _, _, _, _, _, _, _, _, _, _, _, _, _, _, _, _, hM, hT, hHd, hBL⟩⟩) dX3_pair_19

set_option maxHeartbeats 4000000 in
set_option maxRecDepth 100000 in
/-- X3_make -/
theorem c_X3_make (l : Launch) (G : Gx) (o : Nat) (maps : Int → List Q4) (hand : List Q4) (ud uc : Int) (t : Int) : Met l yX3_make wsX3_make ({ frames := 3, cells := 0, slots := 0, locals := 74 } : Room) (cPc G [.ref o, .int (zI t)] (fun H => MX G H o maps hand ud uc ∧ iR t ∧ VMs maps ∧ (∀ q ∈ hand, LQ 23 q) ∧ hand.length ≤ 24)) (qmI (fun r H => r = (opMake maps hand t).1 ∧ MX G H o (opMake maps hand t).2.1 (opMake maps hand t).2.2 ud uc) (fun q : Nat => o ≤ q ∧ q < o + 11)) 0 0 (fun q : Nat => o ≤ q ∧ q < o + 11) := by
  refine Met.ofJ (cc := cX3_make) (maxL := 3) (ret := (some .int)) (lv0 := [(0, .ref o), (1, .int (zI t))]) (by decide) rfl (Nat.le_of_ble_eq_true rfl) rfl ?_
  intro p e s m args below meth c C hr hnm hpre
  obtain ⟨⟨us, uo, ub, uw, ua, ue, ux, m0, m1, m3, m7, m8, m12, m13, m14, m15, m16, hM, hT, hHd, hBL⟩, ⟨ht1, ht2⟩, hV, hHB, hhl⟩ := hpre
  have hwX3 : ∀ w ∈ u_ws RX3 TX3 20, w ∈ wsX3_make := by decide +kernel
  have hs := hT.iR hV
  refine j_iload_n C dX3_make_0 rfl ?_
  refine j_callI (jrunS (rest := []) (As := [.int (zI t)]) C (c_X3_isSlot l G t) gX3_make_X3_isSlot rfl 1 (by decide +kernel) rfl rfl ⟨Nat.le_of_ble_eq_true rfl, Nat.le_of_ble_eq_true rfl⟩ ⟨by omega, by omega⟩ rfl rfl (Nat.le_of_ble_eq_true rfl) ⟨Nat.le_of_ble_eq_true rfl, Nat.le_of_ble_eq_true rfl⟩ dX3_make_1) (fun r1 h1 => ?_)
  rcases h1 with ⟨h1, rfl⟩ | ⟨h1, rfl⟩
  · skip
    refine j_if_ne (tgt := 10) C dX3_make_4 (by decide) ⟨by decide, by decide⟩ (fun c4 => ?_) (fun c4 => absurd c4 (by decide))
    refine j_aload_n C dX3_make_10 rfl ?_
    refine j_iconst C dX3_make_11 ?_
    refine j_callI (jrunV (rest := []) (As := [.int (zI 0)]) C (c_X3_isCut l G o (hand.length : Int) ud uc us uo ub uw ua ue ux m0 m1 m3 m7 m8 m12 m13 m14 m15 m16 hand 0) gX3_make_X3_isCut rfl 1 (by decide +kernel) rfl rfl ⟨Nat.le_of_ble_eq_true rfl, Nat.le_of_ble_eq_true rfl⟩ hM.1 rfl ⟨hM, rfl, hhl, hHB, by decide, fun i i0 i1 => by have := hHd i i0 i1; rw [this, Int.add_zero]; exact ⟨rfl, rfl⟩⟩ rfl rfl (Nat.le_of_ble_eq_true rfl) ⟨Nat.le_of_ble_eq_true rfl, Nat.le_of_ble_eq_true rfl⟩ dX3_make_12) (fun r12 h12 => ?_)
    rcases h12 with ⟨h12, rfl⟩ | ⟨h12, rfl⟩
    · skip
      refine j_if_eq (tgt := 26) C dX3_make_15 (by decide) ⟨by decide, by decide⟩ (fun c15 => absurd c15 (by decide)) (fun c15 => ?_)
      refine j_aload_n C dX3_make_18 rfl ?_
      refine j_iconst C dX3_make_19 ?_
      refine j_callI (jrunV (rest := []) (As := [.int (zI 2)]) C (c_X3_isCut l G o (hand.length : Int) ud uc us uo ub uw ua ue ux m0 m1 m3 m7 m8 m12 m13 m14 m15 m16 (hand.map swp4) 2) gX3_make_X3_isCut rfl 1 (by decide +kernel) rfl rfl ⟨Nat.le_of_ble_eq_true rfl, Nat.le_of_ble_eq_true rfl⟩ hM.1 rfl ⟨hM, by rw [List.length_map], by rw [List.length_map]; exact hhl, map_swp_B hHB, by decide, fun i i0 i1 => by rw [List.length_map] at i1; have := hHd i i0 i1; rw [qat_map i0 i1, this]; exact ⟨rfl, by rw [Int.add_assoc]; rfl⟩⟩ rfl rfl (Nat.le_of_ble_eq_true rfl) ⟨Nat.le_of_ble_eq_true rfl, Nat.le_of_ble_eq_true rfl⟩ dX3_make_20) (fun r20 h20 => ?_)
      rcases h20 with ⟨h20, rfl⟩ | ⟨h20, rfl⟩
      · skip
        refine j_if_ne (tgt := 29) C dX3_make_23 (by decide) ⟨by decide, by decide⟩ (fun c23 => ?_) (fun c23 => absurd c23 (by decide))
        refine j_aload_n C dX3_make_29 rfl ?_
        refine j_iconst C dX3_make_30 ?_
        refine j_put (T := TX3) (N := 20) (fs' := [.ref (o + 1), .ref (o + 2), .int (zI (hand.length : Int)), .ref (o + 3), .int (zI ud), .long (zL uc), .int (zI 0), .ref (o + 4), .ref (o + 5), .int (zI uo), .int (zI ub), .int (zI uw), .ref (o + 6), .ref (o + 7), .ref (o + 8), .ref (o + 9), .ref (o + 10), .long (zL ua), .long (zL ue), .long (zL ux)]) (ty := .int) C tyX3 tyX3_ok nmX3 hwX3 hM.1 6 (by decide) rfl (index := 51) (ref := "TreePairsModel") (by decide +kernel) rfl rfl (by decide +kernel) rfl rfl (Nat.le_of_ble_eq_true rfl) rfl (by omega) dX3_make_31 (fun H1 hO hC => ?_)
        have hM := hM.put_size hO hC
        refine j_iconst C dX3_make_34 ?_
        refine j_istore_n (lv' := [(0, .ref o), (1, .int (zI t)), (2, .int (zI 0))]) C dX3_make_35 (by decide) rfl ?_
        have K36 : ∀ (fu36 : Nat) (i : Int) (m7 : Int → Int) (Hl1 : Heap), (hand.length - i).toNat < fu36 → MP G Hl1 o (hand.length : Int) ud uc i uo ub uw ua ue ux m0 m1 m3 m7 m8 m12 m13 m14 m15 m16 → 0 ≤ i ∧ i ≤ hand.length → R4 (hand.take i.toNat) m7 → JJ p l e ({ frames := 3, cells := 0, slots := 0, locals := 74 } : Room) s m args below meth c (MQ below (qmI (fun r H => r = (opMake maps hand t).1 ∧ MX G H o (opMake maps hand t).2.1 (opMake maps hand t).2.2 ud uc) (fun q : Nat => o ≤ q ∧ q < o + 11)) args s 0 0 (fun q : Nat => o ≤ q ∧ q < o + 11)) (fun q : Nat => o ≤ q ∧ q < o + 11) 3 Hl1 0 0 36 [(0, .ref o), (1, .int (zI t)), (2, .int (zI i))] [] := by
          intro fu36
          induction fu36 with
          | zero => intro i m7 Hl1 hm36 hM hi hL7; exact absurd hm36 (Nat.not_lt_zero _)
          | succ fu36 ih36 =>
            intro i m7 Hl1 hm36 hM hi hL7
            refine j_iload_n C dX3_make_36 rfl ?_
            refine j_aload_n C dX3_make_37 rfl ?_
            refine j_get (T := TX3) (N := 20) (fs := _) (v := .int (zI (hand.length : Int))) C hwX3 hM.1 2 (by decide) rfl (index := 88) (ref := "TreePairsModel") (by decide +kernel) rfl rfl dX3_make_38 ?_
            refine j_icmp_ge (tgt := 96) C dX3_make_41 (by decide) ⟨by omega, by omega⟩ ⟨by omega, by omega⟩ (fun c41 => ?_) (fun c41 => ?_)
            · skip
              rw [take_all hand (by omega)] at hL7
              have ei : i = (hand.length : Int) := by omega
              rw [ei] at hM
              refine j_aload_n C dX3_make_96 rfl ?_
              refine j_iconst C dX3_make_97 ?_
              refine j_put (T := TX3) (N := 20) (fs' := [.ref (o + 1), .ref (o + 2), .int (zI 0), .ref (o + 3), .int (zI ud), .long (zL uc), .int (zI (hand.length : Int)), .ref (o + 4), .ref (o + 5), .int (zI uo), .int (zI ub), .int (zI uw), .ref (o + 6), .ref (o + 7), .ref (o + 8), .ref (o + 9), .ref (o + 10), .long (zL ua), .long (zL ue), .long (zL ux)]) (ty := .int) C tyX3 tyX3_ok nmX3 hwX3 hM.1 2 (by decide) rfl (index := 88) (ref := "TreePairsModel") (by decide +kernel) rfl rfl (by decide +kernel) rfl rfl (Nat.le_of_ble_eq_true rfl) rfl (by omega) dX3_make_98 (fun H2 hO hC => ?_)
              have hM := hM.put_hand hO hC
              refine j_aload_n C dX3_make_101 rfl ?_
              refine j_callmV (jrunV (rest := []) (As := []) C (c_X3_reduce l G o (0 : Int) ud uc (hand.length : Int) uo ub uw ua ue ux m0 m1 m3 m7 m8 m12 m13 m14 m15 m16 hand) gX3_make_X3_reduce rfl 0 (by decide +kernel) rfl rfl ⟨Nat.le_of_ble_eq_true rfl, Nat.le_of_ble_eq_true rfl⟩ hM.1 rfl ⟨hM, rfl, by omega, hL7, fun q hq => (hHB q hq).mono (by decide)⟩ rfl rfl (Nat.le_of_ble_eq_true rfl) ⟨Nat.le_of_ble_eq_true rfl, Nat.le_of_ble_eq_true rfl⟩ dX3_make_102) (by intro q hq; (try dsimp only at hq ⊢); omega) (fun H3 h102 hF => ?_)
              obtain ⟨M, w102, hM, hL7, hG, hN⟩ := h102
              have ec := make_of hHB h12 h20 hG hN
              have hml := hG.len
              have el : (M.length : Int) = ((redF (turnF (turnF hand))).length : Int) := (by rw [← ec, arr_len])
              rw [ec] at hL7
              rw [el] at hM
              refine j_aload_n C dX3_make_105 rfl ?_
              refine j_iload_n C dX3_make_106 rfl ?_
              refine j_callmV (jrunV (rest := []) (As := [.int (zI t)]) C (c_X3_store l G o (0 : Int) ud uc ((redF (turnF (turnF hand))).length : Int) uo ub uw ua ue ux m0 m1 m3 w102 m8 m12 m13 m14 m15 m16 t) gX3_make_X3_store rfl 1 (by decide +kernel) rfl rfl ⟨Nat.le_of_ble_eq_true rfl, Nat.le_of_ble_eq_true rfl⟩ hM.1 rfl ⟨hM, h1, by omega, by omega⟩ rfl rfl (Nat.le_of_ble_eq_true rfl) ⟨Nat.le_of_ble_eq_true rfl, Nat.le_of_ble_eq_true rfl⟩ dX3_make_107) (by intro q hq; (try dsimp only at hq ⊢); omega) (fun H4 h107 hF => ?_)
              have hM := h107
              have hT := hT.store (t := t) h1 (us := ((redF (turnF (turnF hand))).length : Int)) (L := (redF (turnF (turnF hand)))) rfl (by omega) hL7 hV.le
              refine j_aload_n C dX3_make_110 rfl ?_
              refine j_get (T := TX3) (N := 20) (fs := _) (v := .int (zI ((redF (turnF (turnF hand))).length : Int))) C hwX3 hM.1 6 (by decide) rfl (index := 51) (ref := "TreePairsModel") (by decide +kernel) rfl rfl dX3_make_111 ?_
              exact j_iret C hr (Nat.le_refl _) (Nat.zero_le _) (by unfold opMake; rw [if_pos h1, if_pos ((make_iff hHB).mp ⟨h12, h20⟩)]; exact ⟨rfl, ⟨_, _, _, _, _, _, _, _, _, _, _, _, _, _, _, _, _, hM, hT, R4.nil, hBL⟩⟩) dX3_make_114
            · skip
              have hql := hHd i (by omega) (by omega)
              obtain ⟨hb1, hb2⟩ := R4.bnd hHd hHB (i := i) (by omega) (by omega)
              have hb1 := hb1.b23
              have hb2 := hb2.b23
              refine j_aload_n C dX3_make_44 rfl ?_
              refine j_aload_n C dX3_make_45 rfl ?_
              refine j_get (T := TX3) (N := 20) (fs := _) (v := .ref (o + 3)) C hwX3 hM.1 3 (by decide) rfl (index := 16) (ref := "TreePairsModel") (by decide +kernel) rfl rfl dX3_make_46 ?_
              refine j_iconst C dX3_make_49 ?_
              refine j_iload_n C dX3_make_50 rfl ?_
              refine j_imul C dX3_make_51 ?_
              refine j_iald C hM.2.2.2.1 ⟨by omega, by omega⟩ dX3_make_52 ?_
              refine j_i2l C dX3_make_53 ⟨by omega, by omega⟩ ?_
              refine j_aload_n C dX3_make_54 rfl ?_
              refine j_get (T := TX3) (N := 20) (fs := _) (v := .ref (o + 3)) C hwX3 hM.1 3 (by decide) rfl (index := 16) (ref := "TreePairsModel") (by decide +kernel) rfl rfl dX3_make_55 ?_
              refine j_iconst C dX3_make_58 ?_
              refine j_iload_n C dX3_make_59 rfl ?_
              refine j_imul C dX3_make_60 ?_
              refine j_iconst C dX3_make_61 ?_
              refine j_iadd C dX3_make_62 ?_
              refine j_iald C hM.2.2.2.1 ⟨by omega, by omega⟩ dX3_make_63 ?_
              refine j_i2l C dX3_make_64 ⟨by omega, by omega⟩ ?_
              refine j_aload_n C dX3_make_65 rfl ?_
              refine j_get (T := TX3) (N := 20) (fs := _) (v := .ref (o + 3)) C hwX3 hM.1 3 (by decide) rfl (index := 16) (ref := "TreePairsModel") (by decide +kernel) rfl rfl dX3_make_66 ?_
              refine j_iconst C dX3_make_69 ?_
              refine j_iload_n C dX3_make_70 rfl ?_
              refine j_imul C dX3_make_71 ?_
              refine j_iconst C dX3_make_72 ?_
              refine j_iadd C dX3_make_73 ?_
              refine j_iald C hM.2.2.2.1 ⟨by omega, by omega⟩ dX3_make_74 ?_
              refine j_i2l C dX3_make_75 ⟨by omega, by omega⟩ ?_
              refine j_aload_n C dX3_make_76 rfl ?_
              refine j_get (T := TX3) (N := 20) (fs := _) (v := .ref (o + 3)) C hwX3 hM.1 3 (by decide) rfl (index := 16) (ref := "TreePairsModel") (by decide +kernel) rfl rfl dX3_make_77 ?_
              refine j_iconst C dX3_make_80 ?_
              refine j_iload_n C dX3_make_81 rfl ?_
              refine j_imul C dX3_make_82 ?_
              refine j_iconst C dX3_make_83 ?_
              refine j_iadd C dX3_make_84 ?_
              refine j_iald C hM.2.2.2.1 ⟨by omega, by omega⟩ dX3_make_85 ?_
              refine j_i2l C dX3_make_86 ⟨by omega, by omega⟩ ?_
              refine j_callmV (jrunV (rest := []) (As := [.long (zL (m3 (4 * i))), .long (zL (m3 ((4 * i) + 1))), .long (zL (m3 ((4 * i) + 2))), .long (zL (m3 ((4 * i) + 3)))]) C (c_X3_put l G o (hand.length : Int) ud uc i uo ub uw ua ue ux m0 m1 m3 m7 m8 m12 m13 m14 m15 m16 (m3 (4 * i)) (m3 (4 * i + 1)) (m3 (4 * i + 2)) (m3 (4 * i + 3))) gX3_make_X3_put rfl 4 (by decide +kernel) rfl rfl ⟨Nat.le_of_ble_eq_true rfl, Nat.le_of_ble_eq_true rfl⟩ hM.1 rfl ⟨hM, by omega, by omega⟩ rfl rfl (Nat.le_of_ble_eq_true rfl) ⟨Nat.le_of_ble_eq_true rfl, Nat.le_of_ble_eq_true rfl⟩ dX3_make_87) (by intro q hq; (try dsimp only at hq ⊢); omega) (fun H5 h87 hF => ?_)
              have hM := h87
              refine j_iinc (lv' := [(0, .ref o), (1, .int (zI t)), (2, .int (zI (i + 1)))]) C dX3_make_90 rfl (by decide) rfl ?_
              refine j_goto (tgt := 36) C dX3_make_93 (by decide) ?_
              exact JJ.drop (lv' := [(0, .ref o), (1, .int (zI t)), (2, .int (zI (i + 1)))]) rfl (ih36 (i + 1) _ H5 (by omega) hM ⟨by omega, by omega⟩ (by rw [take_q hand hi.1 (by omega), hql]; exact hL7.app (take_len hand hi.1 hi.2).symm))
        exact JJ.drop (lv' := [(0, .ref o), (1, .int (zI t)), (2, .int (zI 0))]) rfl (K36 (((hand.length - (0 : Int)).toNat) + 1) 0 m7 H1 (Nat.lt_succ_self _) hM ⟨by omega, by omega⟩ R4.nil)
      · skip
        refine j_if_ne (tgt := 29) C dX3_make_23 (by decide) ⟨by decide, by decide⟩ (fun c23 => absurd c23 (by decide)) (fun c23 => ?_)
        refine j_bipush C dX3_make_26 (by decide) ?_
        exact j_iret C hr (Nat.le_refl _) (Nat.zero_le _) (by unfold opMake; rw [if_pos h1, if_neg (fun h => by have h := (make_iff hHB).mpr h; first | exact h12 h.1 | exact h20 h.2)]; exact ⟨rfl, ⟨_, _, _, _, _, _, _, _, _, _, _, _, _, _, _, _, _, hM, hT, hHd, hBL⟩⟩) dX3_make_28
    · skip
      refine j_if_eq (tgt := 26) C dX3_make_15 (by decide) ⟨by decide, by decide⟩ (fun c15 => ?_) (fun c15 => absurd c15 (by decide))
      refine j_bipush C dX3_make_26 (by decide) ?_
      exact j_iret C hr (Nat.le_refl _) (Nat.zero_le _) (by unfold opMake; rw [if_pos h1, if_neg (fun h => by have h := (make_iff hHB).mpr h; first | exact h12 h.1 | exact h20 h.2)]; exact ⟨rfl, ⟨_, _, _, _, _, _, _, _, _, _, _, _, _, _, _, _, _, hM, hT, hHd, hBL⟩⟩) dX3_make_28
  · skip
    refine j_if_ne (tgt := 10) C dX3_make_4 (by decide) ⟨by decide, by decide⟩ (fun c4 => absurd c4 (by decide)) (fun c4 => ?_)
    refine j_bipush C dX3_make_7 (by decide) ?_
    exact j_iret C hr (Nat.le_refl _) (Nat.zero_le _) (by unfold opMake; rw [if_neg h1]; exact ⟨rfl, ⟨_, _, _, _, _, _, _, _, _, _, _, _, _, _, _, _, _, hM, hT, hHd, hBL⟩⟩) dX3_make_9

set_option maxHeartbeats 4000000 in
set_option maxRecDepth 100000 in
/-- X3_strong -/
theorem c_X3_strong (l : Launch) (G : Gx) (o : Nat) (maps : Int → List Q4) (hand : List Q4) (ud uc : Int) (t i : Int) : Met l yX3_strong wsX3_strong ({ frames := 3, cells := 0, slots := 0, locals := 73 } : Room) (cPc G [.ref o, .int (zI t), .int (zI i)] (fun H => MX G H o maps hand ud uc ∧ iR t ∧ iR i ∧ VMs maps)) (qmI (fun r H => r = (opStrong maps t i).1 ∧ MX G H o (opStrong maps t i).2 hand ud uc) (fun q : Nat => o ≤ q ∧ q < o + 11)) 0 0 (fun q : Nat => o ≤ q ∧ q < o + 11) := by
  refine Met.ofJ (cc := cX3_strong) (maxL := 3) (ret := (some .int)) (lv0 := [(0, .ref o), (1, .int (zI t)), (2, .int (zI i))]) (by decide) rfl (Nat.le_of_ble_eq_true rfl) rfl ?_
  intro p e s m args below meth c C hr hnm hpre
  obtain ⟨⟨us, uo, ub, uw, ua, ue, ux, m0, m1, m3, m7, m8, m12, m13, m14, m15, m16, hM, hT, hHd, hBL⟩, ⟨ht1, ht2⟩, ⟨hi1, hi2⟩, hV⟩ := hpre
  have hwX3 : ∀ w ∈ u_ws RX3 TX3 20, w ∈ wsX3_strong := by decide +kernel
  have hs := hT.iR hV
  refine j_iload_n C dX3_strong_0 rfl ?_
  refine j_callI (jrunS (rest := []) (As := [.int (zI t)]) C (c_X3_isSlot l G t) gX3_strong_X3_isSlot rfl 1 (by decide +kernel) rfl rfl ⟨Nat.le_of_ble_eq_true rfl, Nat.le_of_ble_eq_true rfl⟩ ⟨by omega, by omega⟩ rfl rfl (Nat.le_of_ble_eq_true rfl) ⟨Nat.le_of_ble_eq_true rfl, Nat.le_of_ble_eq_true rfl⟩ dX3_strong_1) (fun r1 h1 => ?_)
  rcases h1 with ⟨h1, rfl⟩ | ⟨h1, rfl⟩
  · skip
    refine j_if_ne (tgt := 10) C dX3_strong_4 (by decide) ⟨by decide, by decide⟩ (fun c4 => ?_) (fun c4 => absurd c4 (by decide))
    refine j_iload_n C dX3_strong_10 rfl ?_
    refine j_i2l C dX3_strong_11 ⟨by omega, by omega⟩ ?_
    refine j_lconst (z := 0) C dX3_strong_12 rfl ?_
    refine j_ldc2 (z := 6) C (index := 99) (v := 6) (by decide +kernel) (by decide) dX3_strong_13 ?_
    refine j_callI (jrunS (rest := []) (As := [.long (zL i), .long (zL 0), .long (zL 6)]) C (c_X3_in l G i 0 6) gX3_strong_X3_in rfl 3 (by decide +kernel) rfl rfl ⟨Nat.le_of_ble_eq_true rfl, Nat.le_of_ble_eq_true rfl⟩ ⟨⟨by omega, by omega⟩, ⟨by decide, by decide⟩, ⟨by decide, by decide⟩⟩ rfl rfl (Nat.le_of_ble_eq_true rfl) ⟨Nat.le_of_ble_eq_true rfl, Nat.le_of_ble_eq_true rfl⟩ dX3_strong_16) (fun r16 h16 => ?_)
    rcases h16 with ⟨h16, rfl⟩ | ⟨h16, rfl⟩
    · skip
      refine j_if_ne (tgt := 25) C dX3_strong_19 (by decide) ⟨by decide, by decide⟩ (fun c19 => ?_) (fun c19 => absurd c19 (by decide))
      refine j_aload_n C dX3_strong_25 rfl ?_
      refine j_iload_n C dX3_strong_26 rfl ?_
      have hsl := strong_len h16.1
      refine j_callmV (jrunV (rest := []) (As := [.int (zI i)]) C (c_X3_makeStrong l G o (hand.length : Int) ud uc us uo ub uw ua ue ux m0 m1 m3 m7 m8 m12 m13 m14 m15 m16 i) gX3_strong_X3_makeStrong rfl 1 (by decide +kernel) rfl rfl ⟨Nat.le_of_ble_eq_true rfl, Nat.le_of_ble_eq_true rfl⟩ hM.1 rfl ⟨hM, h16⟩ rfl rfl (Nat.le_of_ble_eq_true rfl) ⟨Nat.le_of_ble_eq_true rfl, Nat.le_of_ble_eq_true rfl⟩ dX3_strong_27) (by intro q hq; (try dsimp only at hq ⊢); omega) (fun H1 h27 hF => ?_)
      obtain ⟨w27, hM, hL7⟩ := h27
      refine j_aload_n C dX3_strong_30 rfl ?_
      refine j_iload_n C dX3_strong_31 rfl ?_
      refine j_callmV (jrunV (rest := []) (As := [.int (zI t)]) C (c_X3_store l G o (hand.length : Int) ud uc ((strongF i).length : Int) uo ub uw ua ue ux m0 m1 m3 w27 m8 m12 m13 m14 m15 m16 t) gX3_strong_X3_store rfl 1 (by decide +kernel) rfl rfl ⟨Nat.le_of_ble_eq_true rfl, Nat.le_of_ble_eq_true rfl⟩ hM.1 rfl ⟨hM, h1, by omega, by omega⟩ rfl rfl (Nat.le_of_ble_eq_true rfl) ⟨Nat.le_of_ble_eq_true rfl, Nat.le_of_ble_eq_true rfl⟩ dX3_strong_32) (by intro q hq; (try dsimp only at hq ⊢); omega) (fun H2 h32 hF => ?_)
      have hM := h32
      have hT := hT.store (t := t) h1 (us := ((strongF i).length : Int)) (L := (strongF i)) rfl (by omega) hL7 hV.le
      refine j_aload_n C dX3_strong_35 rfl ?_
      refine j_get (T := TX3) (N := 20) (fs := _) (v := .int (zI ((strongF i).length : Int))) C hwX3 hM.1 6 (by decide) rfl (index := 51) (ref := "TreePairsModel") (by decide +kernel) rfl rfl dX3_strong_36 ?_
      exact j_iret C hr (Nat.le_refl _) (Nat.zero_le _) (by unfold opStrong; rw [if_pos h1, if_pos h16]; exact ⟨rfl, ⟨_, _, _, _, _, _, _, _, _, _, _, _, _, _, _, _, _, hM, hT, hHd, hBL⟩⟩) dX3_strong_39
    · skip
      refine j_if_ne (tgt := 25) C dX3_strong_19 (by decide) ⟨by decide, by decide⟩ (fun c19 => absurd c19 (by decide)) (fun c19 => ?_)
      refine j_bipush C dX3_strong_22 (by decide) ?_
      exact j_iret C hr (Nat.le_refl _) (Nat.zero_le _) (by unfold opStrong; rw [if_pos h1, if_neg h16]; exact ⟨rfl, ⟨_, _, _, _, _, _, _, _, _, _, _, _, _, _, _, _, _, hM, hT, hHd, hBL⟩⟩) dX3_strong_24
  · skip
    refine j_if_ne (tgt := 10) C dX3_strong_4 (by decide) ⟨by decide, by decide⟩ (fun c4 => absurd c4 (by decide)) (fun c4 => ?_)
    refine j_bipush C dX3_strong_7 (by decide) ?_
    exact j_iret C hr (Nat.le_refl _) (Nat.zero_le _) (by unfold opStrong; rw [if_neg h1]; exact ⟨rfl, ⟨_, _, _, _, _, _, _, _, _, _, _, _, _, _, _, _, _, hM, hT, hHd, hBL⟩⟩) dX3_strong_9

set_option maxHeartbeats 4000000 in
set_option maxRecDepth 100000 in
/-- X3_then -/
theorem c_X3_then (l : Launch) (G : Gx) (o : Nat) (maps : Int → List Q4) (hand : List Q4) (ud uc : Int) (t x y : Int) : Met l yX3_then wsX3_then ({ frames := 4, cells := 0, slots := 0, locals := 107 } : Room) (cPc G [.ref o, .int (zI t), .int (zI x), .int (zI y)] (fun H => MX G H o maps hand ud uc ∧ iR t ∧ iR x ∧ iR y ∧ VMs maps)) (qmI (fun r H => r = (opThen maps t x y).1 ∧ MX G H o (opThen maps t x y).2 hand ud uc) (fun q : Nat => o ≤ q ∧ q < o + 11)) 0 0 (fun q : Nat => o ≤ q ∧ q < o + 11) := by
  refine Met.ofJ (cc := cX3_then) (maxL := 4) (ret := (some .int)) (lv0 := [(0, .ref o), (1, .int (zI t)), (2, .int (zI x)), (3, .int (zI y))]) (by decide) rfl (Nat.le_of_ble_eq_true rfl) rfl ?_
  intro p e s m args below meth c C hr hnm hpre
  obtain ⟨⟨us, uo, ub, uw, ua, ue, ux, m0, m1, m3, m7, m8, m12, m13, m14, m15, m16, hM, hT, hHd, hBL⟩, ⟨ht1, ht2⟩, ⟨hx1, hx2⟩, ⟨hy1, hy2⟩, hV⟩ := hpre
  have hwX3 : ∀ w ∈ u_ws RX3 TX3 20, w ∈ wsX3_then := by decide +kernel
  have hs := hT.iR hV
  refine j_iload_n C dX3_then_0 rfl ?_
  refine j_callI (jrunS (rest := []) (As := [.int (zI t)]) C (c_X3_isSlot l G t) gX3_then_X3_isSlot rfl 1 (by decide +kernel) rfl rfl ⟨Nat.le_of_ble_eq_true rfl, Nat.le_of_ble_eq_true rfl⟩ ⟨by omega, by omega⟩ rfl rfl (Nat.le_of_ble_eq_true rfl) ⟨Nat.le_of_ble_eq_true rfl, Nat.le_of_ble_eq_true rfl⟩ dX3_then_1) (fun r1 h1 => ?_)
  rcases h1 with ⟨h1, rfl⟩ | ⟨h1, rfl⟩
  · skip
    refine j_if_eq (tgt := 23) C dX3_then_4 (by decide) ⟨by decide, by decide⟩ (fun c4 => absurd c4 (by decide)) (fun c4 => ?_)
    refine j_aload_n C dX3_then_7 rfl ?_
    refine j_iload_n C dX3_then_8 rfl ?_
    refine j_callI (jrunV (rest := []) (As := [.int (zI x)]) C (c_X3_isMap l G o (hand.length : Int) ud uc us uo ub uw ua ue ux m0 m1 m3 m7 m8 m12 m13 m14 m15 m16 x) gX3_then_X3_isMap rfl 1 (by decide +kernel) rfl rfl ⟨Nat.le_of_ble_eq_true rfl, Nat.le_of_ble_eq_true rfl⟩ hM.1 rfl ⟨hM, ⟨by omega, by omega⟩, hs⟩ rfl rfl (Nat.le_of_ble_eq_true rfl) ⟨Nat.le_of_ble_eq_true rfl, Nat.le_of_ble_eq_true rfl⟩ dX3_then_9) (fun r9 h9 => ?_)
    rcases h9 with ⟨⟨h9, h9b⟩, rfl⟩ | ⟨h9, rfl⟩
    · skip
      have h9 : thP maps x := ⟨h9, by have := (hT x h9.1 h9.2).1; omega⟩
      have hVx := hV x h9.1.1 h9.1.2 h9.2
      have hTx := hT x h9.1.1 h9.1.2
      have hlx := hVx.len
      refine j_if_eq (tgt := 23) C dX3_then_12 (by decide) ⟨by decide, by decide⟩ (fun c12 => absurd c12 (by decide)) (fun c12 => ?_)
      refine j_aload_n C dX3_then_15 rfl ?_
      refine j_iload_n C dX3_then_16 rfl ?_
      refine j_callI (jrunV (rest := []) (As := [.int (zI y)]) C (c_X3_isMap l G o (hand.length : Int) ud uc us uo ub uw ua ue ux m0 m1 m3 m7 m8 m12 m13 m14 m15 m16 y) gX3_then_X3_isMap rfl 1 (by decide +kernel) rfl rfl ⟨Nat.le_of_ble_eq_true rfl, Nat.le_of_ble_eq_true rfl⟩ hM.1 rfl ⟨hM, ⟨by omega, by omega⟩, hs⟩ rfl rfl (Nat.le_of_ble_eq_true rfl) ⟨Nat.le_of_ble_eq_true rfl, Nat.le_of_ble_eq_true rfl⟩ dX3_then_17) (fun r17 h17 => ?_)
      rcases h17 with ⟨⟨h17, h17b⟩, rfl⟩ | ⟨h17, rfl⟩
      · skip
        have h17 : thP maps y := ⟨h17, by have := (hT y h17.1 h17.2).1; omega⟩
        have hVy := hV y h17.1.1 h17.1.2 h17.2
        have hTy := hT y h17.1.1 h17.1.2
        have hly := hVy.len
        refine j_if_ne (tgt := 26) C dX3_then_20 (by decide) ⟨by decide, by decide⟩ (fun c20 => ?_) (fun c20 => absurd c20 (by decide))
        refine j_aload_n C dX3_then_26 rfl ?_
        refine j_iload_n C dX3_then_27 rfl ?_
        refine j_callmV (jrunV (rest := []) (As := [.int (zI x)]) C (c_X3_load l G o (hand.length : Int) ud uc us uo ub uw ua ue ux m0 m1 m3 m7 m8 m12 m13 m14 m15 m16 x (maps x)) gX3_then_X3_load rfl 1 (by decide +kernel) rfl rfl ⟨Nat.le_of_ble_eq_true rfl, Nat.le_of_ble_eq_true rfl⟩ hM.1 rfl ⟨hM, h9.1, hTx.1, by omega, hVx.B, hTx.2⟩ rfl rfl (Nat.le_of_ble_eq_true rfl) ⟨Nat.le_of_ble_eq_true rfl, Nat.le_of_ble_eq_true rfl⟩ dX3_then_28) (by intro q hq; (try dsimp only at hq ⊢); omega) (fun H1 h28 hF => ?_)
        obtain ⟨w28, hM, hL7⟩ := h28
        refine j_aload_n C dX3_then_31 rfl ?_
        refine j_callmV (jrunV (rest := []) (As := []) C (c_X3_aside l G o (hand.length : Int) ud uc ((maps x).length : Int) uo ub uw ua ue ux m0 m1 m3 w28 m8 m12 m13 m14 m15 m16) gX3_then_X3_aside rfl 0 (by decide +kernel) rfl rfl ⟨Nat.le_of_ble_eq_true rfl, Nat.le_of_ble_eq_true rfl⟩ hM.1 rfl ⟨hM, by omega, by omega⟩ rfl rfl (Nat.le_of_ble_eq_true rfl) ⟨Nat.le_of_ble_eq_true rfl, Nat.le_of_ble_eq_true rfl⟩ dX3_then_32) (by intro q hq; (try dsimp only at hq ⊢); omega) (fun H2 h32 hF => ?_)
        have hM := h32
        have hA8 := hL7.congr (g := (cpf m8 w28 0 (4 * ((maps x).length : Int)))) (fun k k0 k1 => by rw [cpf_in (by omega), Int.sub_zero])
        refine j_aload_n C dX3_then_35 rfl ?_
        refine j_iload_n C dX3_then_36 rfl ?_
        refine j_callmV (jrunV (rest := []) (As := [.int (zI y)]) C (c_X3_load l G o (hand.length : Int) ud uc ((maps x).length : Int) ((maps x).length : Int) ub uw ua ue ux m0 m1 m3 w28 (cpf m8 w28 0 (4 * ((maps x).length : Int))) m12 m13 m14 m15 m16 y (maps y)) gX3_then_X3_load rfl 1 (by decide +kernel) rfl rfl ⟨Nat.le_of_ble_eq_true rfl, Nat.le_of_ble_eq_true rfl⟩ hM.1 rfl ⟨hM, h17.1, hTy.1, by omega, hVy.B, hTy.2⟩ rfl rfl (Nat.le_of_ble_eq_true rfl) ⟨Nat.le_of_ble_eq_true rfl, Nat.le_of_ble_eq_true rfl⟩ dX3_then_37) (by intro q hq; (try dsimp only at hq ⊢); omega) (fun H3 h37 hF => ?_)
        obtain ⟨w37, hM, hL7⟩ := h37
        refine j_aload_n C dX3_then_40 rfl ?_
        refine j_callmV (jrunV (rest := []) (As := []) C (c_X3_follow l G o (hand.length : Int) ud uc ((maps y).length : Int) ((maps x).length : Int) ub uw ua ue ux m0 m1 m3 w37 (cpf m8 w28 0 (4 * ((maps x).length : Int))) m12 m13 m14 m15 m16 (maps x) (maps y)) gX3_then_X3_follow rfl 0 (by decide +kernel) rfl rfl ⟨Nat.le_of_ble_eq_true rfl, Nat.le_of_ble_eq_true rfl⟩ hM.1 rfl ⟨hM, rfl, rfl, ⟨by omega, by omega⟩, hA8, hL7, hVx.B, hVy.B, by have := VM.prod_len hVx hVy; omega, VM.prod_B hVx hVy⟩ rfl rfl (Nat.le_of_ble_eq_true rfl) ⟨Nat.le_of_ble_eq_true rfl, Nat.le_of_ble_eq_true rfl⟩ dX3_then_41) (by intro q hq; (try dsimp only at hq ⊢); omega) (fun H4 h41 hF => ?_)
        obtain ⟨M, w41, x41, hM, hL7, hG, hN⟩ := h41
        have ec := comp_of hVx hVy hG hN
        have el : (M.length : Int) = ((compF (maps x) (maps y)).length : Int) := (by rw [← ec, arr_len])
        rw [ec] at hL7
        rw [el] at hM
        have hcl : (compF (maps x) (maps y)).length ≤ 48 := (by have h1 := VM.prod_len hVx hVy; have h2 : (redF (prodF (maps x) (maps y))).length ≤ 0 + (prodF (maps x) (maps y)).length := redF_len _ []; unfold compF; omega)
        refine j_aload_n C dX3_then_44 rfl ?_
        refine j_get (T := TX3) (N := 20) (fs := _) (v := .int (zI ((compF (maps x) (maps y)).length : Int))) C hwX3 hM.1 6 (by decide) rfl (index := 51) (ref := "TreePairsModel") (by decide +kernel) rfl rfl dX3_then_45 ?_
        refine j_bipush C dX3_then_48 (by decide) ?_
        refine j_icmp_le (tgt := 56) C dX3_then_50 (by decide) ⟨by omega, by omega⟩ ⟨by decide, by decide⟩ (fun c50 => ?_) (fun c50 => ?_)
        · skip
          refine j_aload_n C dX3_then_56 rfl ?_
          refine j_iload_n C dX3_then_57 rfl ?_
          refine j_callmV (jrunV (rest := []) (As := [.int (zI t)]) C (c_X3_store l G o (hand.length : Int) ud uc ((compF (maps x) (maps y)).length : Int) ((maps x).length : Int) ub uw ua ue ux m0 m1 m3 w41 (cpf m8 w28 0 (4 * ((maps x).length : Int))) m12 m13 m14 x41 m16 t) gX3_then_X3_store rfl 1 (by decide +kernel) rfl rfl ⟨Nat.le_of_ble_eq_true rfl, Nat.le_of_ble_eq_true rfl⟩ hM.1 rfl ⟨hM, h1, by omega, by omega⟩ rfl rfl (Nat.le_of_ble_eq_true rfl) ⟨Nat.le_of_ble_eq_true rfl, Nat.le_of_ble_eq_true rfl⟩ dX3_then_58) (by intro q hq; (try dsimp only at hq ⊢); omega) (fun H5 h58 hF => ?_)
          have hM := h58
          have hT := hT.store (t := t) h1 (us := ((compF (maps x) (maps y)).length : Int)) (L := (compF (maps x) (maps y))) rfl (by omega) hL7 hV.le
          refine j_aload_n C dX3_then_61 rfl ?_
          refine j_get (T := TX3) (N := 20) (fs := _) (v := .int (zI ((compF (maps x) (maps y)).length : Int))) C hwX3 hM.1 6 (by decide) rfl (index := 51) (ref := "TreePairsModel") (by decide +kernel) rfl rfl dX3_then_62 ?_
          exact j_iret C hr (Nat.le_refl _) (Nat.zero_le _) (by unfold opThen; rw [if_pos ⟨h1, h9, h17⟩, if_pos (by omega)]; exact ⟨rfl, ⟨_, _, _, _, _, _, _, _, _, _, _, _, _, _, _, _, _, hM, hT, hHd, hBL⟩⟩) dX3_then_65
        · skip
          refine j_bipush C dX3_then_53 (by decide) ?_
          exact j_iret C hr (Nat.le_refl _) (Nat.zero_le _) (by unfold opThen; rw [if_pos ⟨h1, h9, h17⟩, if_neg (by omega)]; exact ⟨rfl, ⟨_, _, _, _, _, _, _, _, _, _, _, _, _, _, _, _, _, hM, hT, hHd, hBL⟩⟩) dX3_then_55
      · skip
        have h17 : ¬ thP maps y := (fun h => h17 ⟨h.1, by have := (hT y h.1.1 h.1.2).1; have := h.2; omega⟩)
        refine j_if_ne (tgt := 26) C dX3_then_20 (by decide) ⟨by decide, by decide⟩ (fun c20 => absurd c20 (by decide)) (fun c20 => ?_)
        refine j_bipush C dX3_then_23 (by decide) ?_
        exact j_iret C hr (Nat.le_refl _) (Nat.zero_le _) (by unfold opThen; rw [if_neg (fun h => by first | exact h1 h.1 | exact h9 h.2.1 | exact h17 h.2.2)]; exact ⟨rfl, ⟨_, _, _, _, _, _, _, _, _, _, _, _, _, _, _, _, _, hM, hT, hHd, hBL⟩⟩) dX3_then_25
    · skip
      have h9 : ¬ thP maps x := (fun h => h9 ⟨h.1, by have := (hT x h.1.1 h.1.2).1; have := h.2; omega⟩)
      refine j_if_eq (tgt := 23) C dX3_then_12 (by decide) ⟨by decide, by decide⟩ (fun c12 => ?_) (fun c12 => absurd c12 (by decide))
      refine j_bipush C dX3_then_23 (by decide) ?_
      exact j_iret C hr (Nat.le_refl _) (Nat.zero_le _) (by unfold opThen; rw [if_neg (fun h => by first | exact h1 h.1 | exact h9 h.2.1 | exact h17 h.2.2)]; exact ⟨rfl, ⟨_, _, _, _, _, _, _, _, _, _, _, _, _, _, _, _, _, hM, hT, hHd, hBL⟩⟩) dX3_then_25
  · skip
    refine j_if_eq (tgt := 23) C dX3_then_4 (by decide) ⟨by decide, by decide⟩ (fun c4 => ?_) (fun c4 => absurd c4 (by decide))
    refine j_bipush C dX3_then_23 (by decide) ?_
    exact j_iret C hr (Nat.le_refl _) (Nat.zero_le _) (by unfold opThen; rw [if_neg (fun h => by first | exact h1 h.1 | exact h9 h.2.1 | exact h17 h.2.2)]; exact ⟨rfl, ⟨_, _, _, _, _, _, _, _, _, _, _, _, _, _, _, _, _, hM, hT, hHd, hBL⟩⟩) dX3_then_25

set_option maxHeartbeats 4000000 in
set_option maxRecDepth 100000 in
/-- X3_turn -/
theorem c_X3_turn (l : Launch) (G : Gx) (o : Nat) (maps : Int → List Q4) (hand : List Q4) (ud uc : Int) (t x : Int) : Met l yX3_turn wsX3_turn ({ frames := 3, cells := 0, slots := 0, locals := 76 } : Room) (cPc G [.ref o, .int (zI t), .int (zI x)] (fun H => MX G H o maps hand ud uc ∧ iR t ∧ iR x ∧ VMs maps)) (qmI (fun r H => r = (opTurn maps t x).1 ∧ MX G H o (opTurn maps t x).2 hand ud uc) (fun q : Nat => o ≤ q ∧ q < o + 11)) 0 0 (fun q : Nat => o ≤ q ∧ q < o + 11) := by
  refine Met.ofJ (cc := cX3_turn) (maxL := 3) (ret := (some .int)) (lv0 := [(0, .ref o), (1, .int (zI t)), (2, .int (zI x))]) (by decide) rfl (Nat.le_of_ble_eq_true rfl) rfl ?_
  intro p e s m args below meth c C hr hnm hpre
  obtain ⟨⟨us, uo, ub, uw, ua, ue, ux, m0, m1, m3, m7, m8, m12, m13, m14, m15, m16, hM, hT, hHd, hBL⟩, ⟨ht1, ht2⟩, ⟨hx1, hx2⟩, hV⟩ := hpre
  have hwX3 : ∀ w ∈ u_ws RX3 TX3 20, w ∈ wsX3_turn := by decide +kernel
  have hs := hT.iR hV
  refine j_iload_n C dX3_turn_0 rfl ?_
  refine j_callI (jrunS (rest := []) (As := [.int (zI t)]) C (c_X3_isSlot l G t) gX3_turn_X3_isSlot rfl 1 (by decide +kernel) rfl rfl ⟨Nat.le_of_ble_eq_true rfl, Nat.le_of_ble_eq_true rfl⟩ ⟨by omega, by omega⟩ rfl rfl (Nat.le_of_ble_eq_true rfl) ⟨Nat.le_of_ble_eq_true rfl, Nat.le_of_ble_eq_true rfl⟩ dX3_turn_1) (fun r1 h1 => ?_)
  rcases h1 with ⟨h1, rfl⟩ | ⟨h1, rfl⟩
  · skip
    refine j_if_eq (tgt := 15) C dX3_turn_4 (by decide) ⟨by decide, by decide⟩ (fun c4 => absurd c4 (by decide)) (fun c4 => ?_)
    refine j_aload_n C dX3_turn_7 rfl ?_
    refine j_iload_n C dX3_turn_8 rfl ?_
    refine j_callI (jrunV (rest := []) (As := [.int (zI x)]) C (c_X3_isMap l G o (hand.length : Int) ud uc us uo ub uw ua ue ux m0 m1 m3 m7 m8 m12 m13 m14 m15 m16 x) gX3_turn_X3_isMap rfl 1 (by decide +kernel) rfl rfl ⟨Nat.le_of_ble_eq_true rfl, Nat.le_of_ble_eq_true rfl⟩ hM.1 rfl ⟨hM, ⟨by omega, by omega⟩, hs⟩ rfl rfl (Nat.le_of_ble_eq_true rfl) ⟨Nat.le_of_ble_eq_true rfl, Nat.le_of_ble_eq_true rfl⟩ dX3_turn_9) (fun r9 h9 => ?_)
    rcases h9 with ⟨⟨h9, h9b⟩, rfl⟩ | ⟨h9, rfl⟩
    · skip
      have h9 : thP maps x := ⟨h9, by have := (hT x h9.1 h9.2).1; omega⟩
      have hVx := hV x h9.1.1 h9.1.2 h9.2
      have hTx := hT x h9.1.1 h9.1.2
      have hlx := hVx.len
      refine j_if_ne (tgt := 18) C dX3_turn_12 (by decide) ⟨by decide, by decide⟩ (fun c12 => ?_) (fun c12 => absurd c12 (by decide))
      refine j_aload_n C dX3_turn_18 rfl ?_
      refine j_iload_n C dX3_turn_19 rfl ?_
      refine j_callmV (jrunV (rest := []) (As := [.int (zI x)]) C (c_X3_load l G o (hand.length : Int) ud uc us uo ub uw ua ue ux m0 m1 m3 m7 m8 m12 m13 m14 m15 m16 x (maps x)) gX3_turn_X3_load rfl 1 (by decide +kernel) rfl rfl ⟨Nat.le_of_ble_eq_true rfl, Nat.le_of_ble_eq_true rfl⟩ hM.1 rfl ⟨hM, h9.1, hTx.1, by omega, hVx.B, hTx.2⟩ rfl rfl (Nat.le_of_ble_eq_true rfl) ⟨Nat.le_of_ble_eq_true rfl, Nat.le_of_ble_eq_true rfl⟩ dX3_turn_20) (by intro q hq; (try dsimp only at hq ⊢); omega) (fun H1 h20 hF => ?_)
      obtain ⟨w20, hM, hL7⟩ := h20
      refine j_aload_n C dX3_turn_23 rfl ?_
      refine j_callmV (jrunV (rest := []) (As := []) C (c_X3_turnWork l G o (hand.length : Int) ud uc ((maps x).length : Int) uo ub uw ua ue ux m0 m1 m3 w20 m8 m12 m13 m14 m15 m16 (maps x)) gX3_turn_X3_turnWork rfl 0 (by decide +kernel) rfl rfl ⟨Nat.le_of_ble_eq_true rfl, Nat.le_of_ble_eq_true rfl⟩ hM.1 rfl ⟨hM, rfl, by omega, hL7, hVx.B⟩ rfl rfl (Nat.le_of_ble_eq_true rfl) ⟨Nat.le_of_ble_eq_true rfl, Nat.le_of_ble_eq_true rfl⟩ dX3_turn_24) (by intro q hq; (try dsimp only at hq ⊢); omega) (fun H2 h24 hF => ?_)
      obtain ⟨w24, hM, hL7⟩ := h24
      have htl := turnF_len (maps x)
      rw [← htl] at hM
      refine j_aload_n C dX3_turn_27 rfl ?_
      refine j_iload_n C dX3_turn_28 rfl ?_
      refine j_callmV (jrunV (rest := []) (As := [.int (zI t)]) C (c_X3_store l G o (hand.length : Int) ud uc ((turnF (maps x)).length : Int) uo ub uw ua ue ux m0 m1 m3 w24 m8 m12 m13 m14 m15 m16 t) gX3_turn_X3_store rfl 1 (by decide +kernel) rfl rfl ⟨Nat.le_of_ble_eq_true rfl, Nat.le_of_ble_eq_true rfl⟩ hM.1 rfl ⟨hM, h1, by omega, by omega⟩ rfl rfl (Nat.le_of_ble_eq_true rfl) ⟨Nat.le_of_ble_eq_true rfl, Nat.le_of_ble_eq_true rfl⟩ dX3_turn_29) (by intro q hq; (try dsimp only at hq ⊢); omega) (fun H3 h29 hF => ?_)
      have hM := h29
      have hT := hT.store (t := t) h1 (us := ((turnF (maps x)).length : Int)) (L := (turnF (maps x))) rfl (by omega) hL7 hV.le
      refine j_aload_n C dX3_turn_32 rfl ?_
      refine j_get (T := TX3) (N := 20) (fs := _) (v := .int (zI ((turnF (maps x)).length : Int))) C hwX3 hM.1 6 (by decide) rfl (index := 51) (ref := "TreePairsModel") (by decide +kernel) rfl rfl dX3_turn_33 ?_
      exact j_iret C hr (Nat.le_refl _) (Nat.zero_le _) (by unfold opTurn; rw [if_pos ⟨h1, h9⟩]; exact ⟨rfl, ⟨_, _, _, _, _, _, _, _, _, _, _, _, _, _, _, _, _, hM, hT, hHd, hBL⟩⟩) dX3_turn_36
    · skip
      have h9 : ¬ thP maps x := (fun h => h9 ⟨h.1, by have := (hT x h.1.1 h.1.2).1; have := h.2; omega⟩)
      refine j_if_ne (tgt := 18) C dX3_turn_12 (by decide) ⟨by decide, by decide⟩ (fun c12 => absurd c12 (by decide)) (fun c12 => ?_)
      refine j_bipush C dX3_turn_15 (by decide) ?_
      exact j_iret C hr (Nat.le_refl _) (Nat.zero_le _) (by unfold opTurn; rw [if_neg (fun h => by first | exact h1 h.1 | exact h9 h.2)]; exact ⟨rfl, ⟨_, _, _, _, _, _, _, _, _, _, _, _, _, _, _, _, _, hM, hT, hHd, hBL⟩⟩) dX3_turn_17
  · skip
    refine j_if_eq (tgt := 15) C dX3_turn_4 (by decide) ⟨by decide, by decide⟩ (fun c4 => ?_) (fun c4 => absurd c4 (by decide))
    refine j_bipush C dX3_turn_15 (by decide) ?_
    exact j_iret C hr (Nat.le_refl _) (Nat.zero_le _) (by unfold opTurn; rw [if_neg (fun h => by first | exact h1 h.1 | exact h9 h.2)]; exact ⟨rfl, ⟨_, _, _, _, _, _, _, _, _, _, _, _, _, _, _, _, _, hM, hT, hHd, hBL⟩⟩) dX3_turn_17
