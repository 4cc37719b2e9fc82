set_option maxHeartbeats 4000000 in
set_option maxRecDepth 100000 in
/-- X3_turnWork -/
theorem c_X3_turnWork (l : Launch) (G : Gx) (o : Nat) (uh ud uc us uo ub uw ua ue ux : Int) (m0 m1 m3 m7 m8 m12 m13 m14 m15 m16 : Int → Int) (L : List Q4) : Met l yX3_turnWork wsX3_turnWork ({ frames := 2, cells := 0, slots := 0, locals := 51 } : Room) (cPc G [.ref o] (fun H => MP G H o uh ud uc us uo ub uw ua ue ux m0 m1 m3 m7 m8 m12 m13 m14 m15 m16 ∧ us = L.length ∧ L.length ≤ 64 ∧ R4 L m7 ∧ (∀ q ∈ L, LQ 23 q))) (qmV (fun H => ∃ m7', MP G H o uh ud uc (L.length : Int) uo ub uw ua ue ux m0 m1 m3 m7' m8 m12 m13 m14 m15 m16 ∧ R4 (turnF L) m7') (fun q : Nat => o ≤ q ∧ q < o + 11)) 0 0 (fun q : Nat => o ≤ q ∧ q < o + 11) := by
  refine Met.ofJ (cc := cX3_turnWork) (maxL := 6) (ret := none) (lv0 := [(0, .ref o)]) (by decide) rfl (Nat.le_of_ble_eq_true rfl) rfl ?_
  intro p e s m args below meth c C hr hnm hpre
  obtain ⟨hM, hus, hll, hL0, hB0⟩ := hpre
  have hwX3 : ∀ w ∈ u_ws RX3 TX3 20, w ∈ wsX3_turnWork := by decide +kernel
  subst hus
  refine j_iconst C dX3_turnWork_0 ?_
  refine j_istore_n (lv' := [(0, .ref o), (1, .int (zI 0))]) C dX3_turnWork_1 (by decide) rfl ?_
  have K2 : ∀ (fu2 : Nat) (i : Int) (m7 : Int → Int) (Hl1 : Heap), (L.length - i).toNat < fu2 → MP G Hl1 o uh ud uc (L.length : Int) uo ub uw ua ue ux m0 m1 m3 m7 m8 m12 m13 m14 m15 m16 → 0 ≤ i ∧ i ≤ L.length → R4 ((L.take i.toNat).map swp4 ++ L.drop i.toNat) m7 → JJ p l e ({ frames := 2, cells := 0, slots := 0, locals := 51 } : Room) s m args below meth c (MQ below (qmV (fun H => ∃ m7', MP G H o uh ud uc (L.length : Int) uo ub uw ua ue ux m0 m1 m3 m7' m8 m12 m13 m14 m15 m16 ∧ R4 (turnF L) m7') (fun q : Nat => o ≤ q ∧ q < o + 11)) args s 0 0 (fun q : Nat => o ≤ q ∧ q < o + 11)) (fun q : Nat => o ≤ q ∧ q < o + 11) 6 Hl1 0 0 2 [(0, .ref o), (1, .int (zI i))] [] := by
    intro fu2
    induction fu2 with
    | zero => intro i m7 Hl1 hm2 hM hi hL; exact absurd hm2 (Nat.not_lt_zero _)
    | succ fu2 ih2 =>
      intro i m7 Hl1 hm2 hM hi hL
      refine j_iload_n C dX3_turnWork_2 rfl ?_
      refine j_aload_n C dX3_turnWork_3 rfl ?_
      refine j_get (T := TX3) (N := 20) (fs := _) (v := .int (zI (L.length : Int))) C hwX3 hM.1 6 (by decide) rfl (index := 51) (ref := "TreePairsModel") (by decide +kernel) rfl rfl dX3_turnWork_4 ?_
      refine j_icmp_ge (tgt := 98) C dX3_turnWork_7 (by decide) ⟨by omega, by omega⟩ ⟨by omega, by omega⟩ (fun c7 => ?_) (fun c7 => ?_)
      · skip
        rw [take_all L (by omega), drop_all L (by omega), List.append_nil] at hL
        refine j_aload_n C dX3_turnWork_98 rfl ?_
        refine j_callmV (jrunV (rest := []) (As := []) C (c_X3_arrange l G o uh ud uc (L.length : Int) uo ub uw ua ue ux m0 m1 m3 m7 m8 m12 m13 m14 m15 m16 (L.map swp4)) gX3_turnWork_X3_arrange rfl 0 (by decide +kernel) rfl rfl ⟨Nat.le_of_ble_eq_true rfl, Nat.le_of_ble_eq_true rfl⟩ hM.1 rfl ⟨hM, (by rw [List.length_map]), (by rw [List.length_map]; exact hll), hL, fun q hq => (map_swp_B hB0 q hq).mono (by decide)⟩ rfl rfl (Nat.le_of_ble_eq_true rfl) ⟨Nat.le_of_ble_eq_true rfl, Nat.le_of_ble_eq_true rfl⟩ dX3_turnWork_99) (by intro q hq; (try dsimp only at hq ⊢); omega) (fun H1 h99 hF => ?_)
        obtain ⟨w7, hM, hL⟩ := h99
        rw [arr_turn hB0] at hL
        exact j_vret C hr (Nat.le_refl _) (Nat.zero_le _) ⟨w7, hM, hL⟩ dX3_turnWork_102
      · skip
        have hdr := drop_q L hi.1 (by omega)
        have hlt := take_len L hi.1 hi.2
        have hql := hL i hi.1 (by simp only [List.length_append, List.length_map, List.length_drop]; omega)
        rw [hdr, qat_app_at (L := (L.take i.toNat).map swp4) (q := qat L i) (M := L.drop (i + 1).toNat) (by rw [List.length_map]; omega)] at hql
        rw [hdr] at hL
        have hq : [qat L i].map swp4 = [(m7 (4 * i + 2), m7 (4 * i + 3), m7 (4 * i), m7 (4 * i + 1))] := by rw [hql]; rfl
        refine j_aload_n C dX3_turnWork_10 rfl ?_
        refine j_get (T := TX3) (N := 20) (fs := _) (v := .ref (o + 4)) C hwX3 hM.1 7 (by decide) rfl (index := 19) (ref := "TreePairsModel") (by decide +kernel) rfl rfl dX3_turnWork_11 ?_
        refine j_iconst C dX3_turnWork_14 ?_
        refine j_iload_n C dX3_turnWork_15 rfl ?_
        refine j_imul C dX3_turnWork_16 ?_
        refine j_lald C hM.2.2.2.2.1 ⟨by omega, by omega⟩ dX3_turnWork_17 ?_
        refine j_lstore_n (lv' := [(0, .ref o), (1, .int (zI i)), (2, .long (zL (m7 (4 * i))))]) C dX3_turnWork_18 (by decide) rfl ?_
        refine j_aload_n C dX3_turnWork_19 rfl ?_
        refine j_get (T := TX3) (N := 20) (fs := _) (v := .ref (o + 4)) C hwX3 hM.1 7 (by decide) rfl (index := 19) (ref := "TreePairsModel") (by decide +kernel) rfl rfl dX3_turnWork_20 ?_
        refine j_iconst C dX3_turnWork_23 ?_
        refine j_iload_n C dX3_turnWork_24 rfl ?_
        refine j_imul C dX3_turnWork_25 ?_
        refine j_iconst C dX3_turnWork_26 ?_
        refine j_iadd C dX3_turnWork_27 ?_
        refine j_lald C hM.2.2.2.2.1 ⟨by omega, by omega⟩ dX3_turnWork_28 ?_
        refine j_lstore (lv' := [(0, .ref o), (1, .int (zI i)), (2, .long (zL (m7 (4 * i)))), (4, .long (zL (m7 ((4 * i) + 1))))]) C dX3_turnWork_29 (by decide) rfl ?_
        refine j_aload_n C dX3_turnWork_31 rfl ?_
        refine j_get (T := TX3) (N := 20) (fs := _) (v := .ref (o + 4)) C hwX3 hM.1 7 (by decide) rfl (index := 19) (ref := "TreePairsModel") (by decide +kernel) rfl rfl dX3_turnWork_32 ?_
        refine j_iconst C dX3_turnWork_35 ?_
        refine j_iload_n C dX3_turnWork_36 rfl ?_
        refine j_imul C dX3_turnWork_37 ?_
        refine j_aload_n C dX3_turnWork_38 rfl ?_
        refine j_get (T := TX3) (N := 20) (fs := _) (v := .ref (o + 4)) C hwX3 hM.1 7 (by decide) rfl (index := 19) (ref := "TreePairsModel") (by decide +kernel) rfl rfl dX3_turnWork_39 ?_
        refine j_iconst C dX3_turnWork_42 ?_
        refine j_iload_n C dX3_turnWork_43 rfl ?_
        refine j_imul C dX3_turnWork_44 ?_
        refine j_iconst C dX3_turnWork_45 ?_
        refine j_iadd C dX3_turnWork_46 ?_
        refine j_lald C hM.2.2.2.2.1 ⟨by omega, by omega⟩ dX3_turnWork_47 ?_
        refine j_last C hM.2.2.2.2.1 ⟨by omega, by omega⟩ (by omega) dX3_turnWork_48 (fun H2 hR hC => ?_)
        have hM := hM.st_work hR hC
        refine j_aload_n C dX3_turnWork_49 rfl ?_
        refine j_get (T := TX3) (N := 20) (fs := _) (v := .ref (o + 4)) C hwX3 hM.1 7 (by decide) rfl (index := 19) (ref := "TreePairsModel") (by decide +kernel) rfl rfl dX3_turnWork_50 ?_
        refine j_iconst C dX3_turnWork_53 ?_
        refine j_iload_n C dX3_turnWork_54 rfl ?_
        refine j_imul C dX3_turnWork_55 ?_
        refine j_iconst C dX3_turnWork_56 ?_
        refine j_iadd C dX3_turnWork_57 ?_
        refine j_aload_n C dX3_turnWork_58 rfl ?_
        refine j_get (T := TX3) (N := 20) (fs := _) (v := .ref (o + 4)) C hwX3 hM.1 7 (by decide) rfl (index := 19) (ref := "TreePairsModel") (by decide +kernel) rfl rfl dX3_turnWork_59 ?_
        refine j_iconst C dX3_turnWork_62 ?_
        refine j_iload_n C dX3_turnWork_63 rfl ?_
        refine j_imul C dX3_turnWork_64 ?_
        refine j_iconst C dX3_turnWork_65 ?_
        refine j_iadd C dX3_turnWork_66 ?_
        refine j_lald C hM.2.2.2.2.1 ⟨by omega, by omega⟩ dX3_turnWork_67 ?_
        refine j_last C hM.2.2.2.2.1 ⟨by omega, by omega⟩ (by omega) dX3_turnWork_68 (fun H3 hR hC => ?_)
        have hM := hM.st_work hR hC
        refine j_aload_n C dX3_turnWork_69 rfl ?_
        refine j_get (T := TX3) (N := 20) (fs := _) (v := .ref (o + 4)) C hwX3 hM.1 7 (by decide) rfl (index := 19) (ref := "TreePairsModel") (by decide +kernel) rfl rfl dX3_turnWork_70 ?_
        refine j_iconst C dX3_turnWork_73 ?_
        refine j_iload_n C dX3_turnWork_74 rfl ?_
        refine j_imul C dX3_turnWork_75 ?_
        refine j_iconst C dX3_turnWork_76 ?_
        refine j_iadd C dX3_turnWork_77 ?_
        refine j_lload_n C dX3_turnWork_78 rfl ?_
        refine j_last C hM.2.2.2.2.1 ⟨by omega, by omega⟩ (by omega) dX3_turnWork_79 (fun H4 hR hC => ?_)
        have hM := hM.st_work hR hC
        refine j_aload_n C dX3_turnWork_80 rfl ?_
        refine j_get (T := TX3) (N := 20) (fs := _) (v := .ref (o + 4)) C hwX3 hM.1 7 (by decide) rfl (index := 19) (ref := "TreePairsModel") (by decide +kernel) rfl rfl dX3_turnWork_81 ?_
        refine j_iconst C dX3_turnWork_84 ?_
        refine j_iload_n C dX3_turnWork_85 rfl ?_
        refine j_imul C dX3_turnWork_86 ?_
        refine j_iconst C dX3_turnWork_87 ?_
        refine j_iadd C dX3_turnWork_88 ?_
        refine j_lload C dX3_turnWork_89 rfl ?_
        refine j_last C hM.2.2.2.2.1 ⟨by omega, by omega⟩ (by omega) dX3_turnWork_91 (fun H5 hR hC => ?_)
        have hM := hM.st_work hR hC
        have hL2 := hL.set (x := m7 (4 * i + 2)) (y := (iup m7 (4 * i) (m7 (4 * i + 2))) (4 * i + 3)) (z := m7 (4 * i)) (w := m7 (4 * i + 1)) (n := i) (by rw [List.length_map]; omega)
        have e1 : (iup m7 (4 * i) (m7 (4 * i + 2))) (4 * i + 3) = m7 (4 * i + 3) := iup_n (by omega)
        rw [← e1] at hq
        refine j_iinc (lv' := [(0, .ref o), (1, .int (zI (i + 1))), (2, .long (zL (m7 (4 * i)))), (4, .long (zL (m7 ((4 * i) + 1))))]) C dX3_turnWork_92 rfl (by decide) rfl ?_
        refine j_goto (tgt := 2) C dX3_turnWork_95 (by decide) ?_
        exact JJ.drop (lv' := [(0, .ref o), (1, .int (zI (i + 1)))]) rfl (ih2 (i + 1) _ H5 (by omega) hM ⟨by omega, by omega⟩ (by rw [take_q L hi.1 (by omega), List.map_append, List.append_assoc, hq]; exact hL2))
  exact JJ.drop (lv' := [(0, .ref o), (1, .int (zI 0))]) rfl (K2 (((L.length - (0 : Int)).toNat) + 1) 0 m7 s.heap (Nat.lt_succ_self _) hM ⟨by omega, by omega⟩ hL0)

set_option maxHeartbeats 4000000 in
set_option maxRecDepth 100000 in
/-- X3_makeStrong -/
theorem c_X3_makeStrong (l : Launch) (G : Gx) (o : Nat) (uh ud uc us uo ub uw ua ue ux : Int) (m0 m1 m3 m7 m8 m12 m13 m14 m15 m16 : Int → Int) (w : Int) : Met l yX3_makeStrong wsX3_makeStrong ({ frames := 2, cells := 0, slots := 0, locals := 51 } : Room) (cPc G [.ref o, .int (zI w)] (fun H => MP G H o uh ud uc us uo ub uw ua ue ux m0 m1 m3 m7 m8 m12 m13 m14 m15 m16 ∧ (0 ≤ w ∧ w ≤ 6))) (qmV (fun H => ∃ m7', MP G H o uh ud uc ((strongF w).length : Int) uo ub uw ua ue ux m0 m1 m3 m7' m8 m12 m13 m14 m15 m16 ∧ R4 (strongF w) m7') (fun q : Nat => o ≤ q ∧ q < o + 11)) 0 0 (fun q : Nat => o ≤ q ∧ q < o + 11) := by
  refine Met.ofJ (cc := cX3_makeStrong) (maxL := 3) (ret := none) (lv0 := [(0, .ref o), (1, .int (zI w))]) (by decide) rfl (Nat.le_of_ble_eq_true rfl) rfl ?_
  intro p e s m args below meth c C hr hnm hpre
  obtain ⟨hM, hw⟩ := hpre
  have hwX3 : ∀ w ∈ u_ws RX3 TX3 20, w ∈ wsX3_makeStrong := by decide +kernel
  have hpw := pow_le_pow2 (m := w.toNat) (n := 6) (by omega)
  have hp6 : (2 : Int) ^ 6 = 64 := rfl
  have hpp := two_pow_pos w.toNat
  refine j_aload_n C dX3_makeStrong_0 rfl ?_
  refine j_iconst C dX3_makeStrong_1 ?_
  refine j_put (T := TX3) (N := 20) (fs' := [.ref (o + 1), .ref (o + 2), .int (zI uh), .ref (o + 3), .int (zI ud), .long (zL uc), .int (zI 0), .ref (o + 4), .ref (o + 5), .int (zI uo), .int (zI ub), .int (zI uw), .ref (o + 6), .ref (o + 7), .ref (o + 8), .ref (o + 9), .ref (o + 10), .long (zL ua), .long (zL ue), .long (zL ux)]) (ty := .int) C tyX3 tyX3_ok nmX3 hwX3 hM.1 6 (by decide) rfl (index := 51) (ref := "TreePairsModel") (by decide +kernel) rfl rfl (by decide +kernel) rfl rfl (Nat.le_of_ble_eq_true rfl) rfl (by omega) dX3_makeStrong_2 (fun H1 hO hC => ?_)
  have hM := hM.put_size hO hC
  refine j_iconst C dX3_makeStrong_5 ?_
  refine j_istore_n (lv' := [(0, .ref o), (1, .int (zI w)), (2, .int (zI 1))]) C dX3_makeStrong_6 (by decide) rfl ?_
  have K7 : ∀ (fu7 : Nat) (k : Int) (m7 : Int → Int) (Hl1 : Heap), (w + 1 - k).toNat < fu7 → MP G Hl1 o uh ud uc ((strongP (k - 1)).length : Int) uo ub uw ua ue ux m0 m1 m3 m7 m8 m12 m13 m14 m15 m16 → 1 ≤ k ∧ k ≤ w + 1 → R4 (strongP (k - 1)) m7 → JJ p l e ({ frames := 2, cells := 0, slots := 0, locals := 51 } : Room) s m args below meth c (MQ below (qmV (fun H => ∃ m7', MP G H o uh ud uc ((strongF w).length : Int) uo ub uw ua ue ux m0 m1 m3 m7' m8 m12 m13 m14 m15 m16 ∧ R4 (strongF w) m7') (fun q : Nat => o ≤ q ∧ q < o + 11)) args s 0 0 (fun q : Nat => o ≤ q ∧ q < o + 11)) (fun q : Nat => o ≤ q ∧ q < o + 11) 3 Hl1 0 0 7 [(0, .ref o), (1, .int (zI w)), (2, .int (zI k))] [] := by
    intro fu7
    induction fu7 with
    | zero => intro k m7 Hl1 hm7 hM hk hL; exact absurd hm7 (Nat.not_lt_zero _)
    | succ fu7 ih7 =>
      intro k m7 Hl1 hm7 hM hk hL
      have hsl := strongP_len (k - 1)
      refine j_iload_n C dX3_makeStrong_7 rfl ?_
      refine j_iload_n C dX3_makeStrong_8 rfl ?_
      refine j_icmp_gt (tgt := 38) C dX3_makeStrong_9 (by decide) ⟨by omega, by omega⟩ ⟨by omega, by omega⟩ (fun c9 => ?_) (fun c9 => ?_)
      · skip
        have ek : k - 1 = w := by omega
        rw [ek] at hM hL hsl
        refine j_iconst C dX3_makeStrong_38 ?_
        refine j_iload_n C dX3_makeStrong_39 rfl ?_
        refine j_ishl C dX3_makeStrong_40 ⟨by omega, by omega⟩ ?_
        refine j_iconst C dX3_makeStrong_41 ?_
        refine j_isub C dX3_makeStrong_42 ?_
        refine j_istore_n (lv' := [(0, .ref o), (1, .int (zI w)), (2, .int (zI ((1 * 2 ^ w.toNat) - 1)))]) C dX3_makeStrong_43 (by decide) rfl ?_
        refine j_aload_n C dX3_makeStrong_44 rfl ?_
        refine j_iload_n C dX3_makeStrong_45 rfl ?_
        refine j_iconst C dX3_makeStrong_46 ?_
        refine j_iadd C dX3_makeStrong_47 ?_
        refine j_i2l C dX3_makeStrong_48 ⟨by omega, by omega⟩ ?_
        refine j_iconst C dX3_makeStrong_49 ?_
        refine j_iload_n C dX3_makeStrong_50 rfl ?_
        refine j_imul C dX3_makeStrong_51 ?_
        refine j_i2l C dX3_makeStrong_52 ⟨by omega, by omega⟩ ?_
        refine j_iload_n C dX3_makeStrong_53 rfl ?_
        refine j_iconst C dX3_makeStrong_54 ?_
        refine j_iadd C dX3_makeStrong_55 ?_
        refine j_i2l C dX3_makeStrong_56 ⟨by omega, by omega⟩ ?_
        refine j_iconst C dX3_makeStrong_57 ?_
        refine j_iload_n C dX3_makeStrong_58 rfl ?_
        refine j_imul C dX3_makeStrong_59 ?_
        refine j_i2l C dX3_makeStrong_60 ⟨by omega, by omega⟩ ?_
        refine j_callmV (jrunV (rest := []) (As := [.long (zL (w + 1)), .long (zL (2 * ((1 * 2 ^ w.toNat) - 1))), .long (zL (w + 2)), .long (zL (4 * ((1 * 2 ^ w.toNat) - 1)))]) C (c_X3_put l G o uh ud uc ((strongP w).length : Int) uo ub uw ua ue ux m0 m1 m3 m7 m8 m12 m13 m14 m15 m16 (w + 1) (2 * (1 * 2 ^ w.toNat - 1)) (w + 2) (4 * (1 * 2 ^ w.toNat - 1))) gX3_makeStrong_X3_put rfl 4 (by decide +kernel) rfl rfl ⟨Nat.le_of_ble_eq_true rfl, Nat.le_of_ble_eq_true rfl⟩ hM.1 rfl ⟨hM, by omega, by omega⟩ rfl rfl (Nat.le_of_ble_eq_true rfl) ⟨Nat.le_of_ble_eq_true rfl, Nat.le_of_ble_eq_true rfl⟩ dX3_makeStrong_61) (by intro q hq; (try dsimp only at hq ⊢); omega) (fun H2 h61 hF => ?_)
        have hM := h61
        refine j_aload_n C dX3_makeStrong_64 rfl ?_
        refine j_iload_n C dX3_makeStrong_65 rfl ?_
        refine j_iconst C dX3_makeStrong_66 ?_
        refine j_iadd C dX3_makeStrong_67 ?_
        refine j_i2l C dX3_makeStrong_68 ⟨by omega, by omega⟩ ?_
        refine j_iconst C dX3_makeStrong_69 ?_
        refine j_iload_n C dX3_makeStrong_70 rfl ?_
        refine j_imul C dX3_makeStrong_71 ?_
        refine j_iconst C dX3_makeStrong_72 ?_
        refine j_iadd C dX3_makeStrong_73 ?_
        refine j_i2l C dX3_makeStrong_74 ⟨by omega, by omega⟩ ?_
        refine j_iload_n C dX3_makeStrong_75 rfl ?_
        refine j_iconst C dX3_makeStrong_76 ?_
        refine j_iadd C dX3_makeStrong_77 ?_
        refine j_i2l C dX3_makeStrong_78 ⟨by omega, by omega⟩ ?_
        refine j_iconst C dX3_makeStrong_79 ?_
        refine j_iload_n C dX3_makeStrong_80 rfl ?_
        refine j_imul C dX3_makeStrong_81 ?_
        refine j_iconst C dX3_makeStrong_82 ?_
        refine j_iadd C dX3_makeStrong_83 ?_
        refine j_i2l C dX3_makeStrong_84 ⟨by omega, by omega⟩ ?_
        refine j_callmV (jrunV (rest := []) (As := [.long (zL (w + 2)), .long (zL ((4 * ((1 * 2 ^ w.toNat) - 1)) + 2)), .long (zL (w + 2)), .long (zL ((4 * ((1 * 2 ^ w.toNat) - 1)) + 1))]) C (c_X3_put l G o uh ud uc (((strongP w).length : Int) + 1) uo ub uw ua ue ux m0 m1 m3 (iup (iup (iup (iup m7 (4 * ((strongP w).length : Int)) (w + 1)) (4 * ((strongP w).length : Int) + 1) (2 * (1 * 2 ^ w.toNat - 1))) (4 * ((strongP w).length : Int) + 2) (w + 2)) (4 * ((strongP w).length : Int) + 3) (4 * (1 * 2 ^ w.toNat - 1))) m8 m12 m13 m14 m15 m16 (w + 2) (4 * (1 * 2 ^ w.toNat - 1) + 2) (w + 2) (4 * (1 * 2 ^ w.toNat - 1) + 1)) gX3_makeStrong_X3_put rfl 4 (by decide +kernel) rfl rfl ⟨Nat.le_of_ble_eq_true rfl, Nat.le_of_ble_eq_true rfl⟩ hM.1 rfl ⟨hM, by omega, by omega⟩ rfl rfl (Nat.le_of_ble_eq_true rfl) ⟨Nat.le_of_ble_eq_true rfl, Nat.le_of_ble_eq_true rfl⟩ dX3_makeStrong_85) (by intro q hq; (try dsimp only at hq ⊢); omega) (fun H3 h85 hF => ?_)
        have hM := h85
        refine j_aload_n C dX3_makeStrong_88 rfl ?_
        refine j_iload_n C dX3_makeStrong_89 rfl ?_
        refine j_iconst C dX3_makeStrong_90 ?_
        refine j_iadd C dX3_makeStrong_91 ?_
        refine j_i2l C dX3_makeStrong_92 ⟨by omega, by omega⟩ ?_
        refine j_iconst C dX3_makeStrong_93 ?_
        refine j_iload_n C dX3_makeStrong_94 rfl ?_
        refine j_imul C dX3_makeStrong_95 ?_
        refine j_iconst C dX3_makeStrong_96 ?_
        refine j_iadd C dX3_makeStrong_97 ?_
        refine j_i2l C dX3_makeStrong_98 ⟨by omega, by omega⟩ ?_
        refine j_iload_n C dX3_makeStrong_99 rfl ?_
        refine j_iconst C dX3_makeStrong_100 ?_
        refine j_iadd C dX3_makeStrong_101 ?_
        refine j_i2l C dX3_makeStrong_102 ⟨by omega, by omega⟩ ?_
        refine j_iconst C dX3_makeStrong_103 ?_
        refine j_iload_n C dX3_makeStrong_104 rfl ?_
        refine j_imul C dX3_makeStrong_105 ?_
        refine j_iconst C dX3_makeStrong_106 ?_
        refine j_iadd C dX3_makeStrong_107 ?_
        refine j_i2l C dX3_makeStrong_108 ⟨by omega, by omega⟩ ?_
        refine j_callmV (jrunV (rest := []) (As := [.long (zL (w + 2)), .long (zL ((4 * ((1 * 2 ^ w.toNat) - 1)) + 3)), .long (zL (w + 1)), .long (zL ((2 * ((1 * 2 ^ w.toNat) - 1)) + 1))]) C (c_X3_put l G o uh ud uc ((((strongP w).length : Int) + 1) + 1) uo ub uw ua ue ux m0 m1 m3 (iup (iup (iup (iup (iup (iup (iup (iup m7 (4 * ((strongP w).length : Int)) (w + 1)) (4 * ((strongP w).length : Int) + 1) (2 * (1 * 2 ^ w.toNat - 1))) (4 * ((strongP w).length : Int) + 2) (w + 2)) (4 * ((strongP w).length : Int) + 3) (4 * (1 * 2 ^ w.toNat - 1))) (4 * (((strongP w).length : Int) + 1)) (w + 2)) (4 * (((strongP w).length : Int) + 1) + 1) (4 * (1 * 2 ^ w.toNat - 1) + 2)) (4 * (((strongP w).length : Int) + 1) + 2) (w + 2)) (4 * (((strongP w).length : Int) + 1) + 3) (4 * (1 * 2 ^ w.toNat - 1) + 1)) m8 m12 m13 m14 m15 m16 (w + 2) (4 * (1 * 2 ^ w.toNat - 1) + 3) (w + 1) (2 * (1 * 2 ^ w.toNat - 1) + 1)) gX3_makeStrong_X3_put rfl 4 (by decide +kernel) rfl rfl ⟨Nat.le_of_ble_eq_true rfl, Nat.le_of_ble_eq_true rfl⟩ hM.1 rfl ⟨hM, by omega, by omega⟩ rfl rfl (Nat.le_of_ble_eq_true rfl) ⟨Nat.le_of_ble_eq_true rfl, Nat.le_of_ble_eq_true rfl⟩ dX3_makeStrong_109) (by intro q hq; (try dsimp only at hq ⊢); omega) (fun H4 h109 hF => ?_)
        have hM := h109
        have hL1 := ((hL.app (x := w + 1) (y := 2 * (1 * 2 ^ w.toNat - 1)) (z := w + 2) (w := 4 * (1 * 2 ^ w.toNat - 1)) (n := ((strongP w).length : Int)) rfl).app (x := w + 2) (y := 4 * (1 * 2 ^ w.toNat - 1) + 2) (z := w + 2) (w := 4 * (1 * 2 ^ w.toNat - 1) + 1) (n := ((strongP w).length : Int) + 1) (by simp only [List.length_append, List.length_cons, List.length_nil]; omega)).app (x := w + 2) (y := 4 * (1 * 2 ^ w.toNat - 1) + 3) (z := w + 1) (w := 2 * (1 * 2 ^ w.toNat - 1) + 1) (n := ((strongP w).length : Int) + 1 + 1) (by simp only [List.length_append, List.length_cons, List.length_nil]; omega)
        rw [Int.one_mul] at hL1
        have hF : strongP w ++ [(w + 1, 2 * (2 ^ w.toNat - 1), w + 2, 4 * (2 ^ w.toNat - 1))] ++ [(w + 2, 4 * (2 ^ w.toNat - 1) + 2, w + 2, 4 * (2 ^ w.toNat - 1) + 1)] ++ [(w + 2, 4 * (2 ^ w.toNat - 1) + 3, w + 1, 2 * (2 ^ w.toNat - 1) + 1)] = strongF w := (by unfold strongF; rw [List.append_assoc, List.append_assoc]; rfl)
        rw [hF] at hL1
        have hsf := strong_len hw.1
        have hus : ((strongP w).length : Int) + 1 + 1 + 1 = ((strongF w).length : Int) := by omega
        obtain ⟨hs1, hs2⟩ := strong_arr hw.1 hw.2
        rw [Int.one_mul] at hM
        rw [hus] at hM
        refine j_aload_n C dX3_makeStrong_112 rfl ?_
        refine j_callmV (jrunV (rest := []) (As := []) C (c_X3_arrange l G o uh ud uc ((strongF w).length : Int) uo ub uw ua ue ux m0 m1 m3 _ m8 m12 m13 m14 m15 m16 (strongF w)) gX3_makeStrong_X3_arrange rfl 0 (by decide +kernel) rfl rfl ⟨Nat.le_of_ble_eq_true rfl, Nat.le_of_ble_eq_true rfl⟩ hM.1 rfl ⟨hM, rfl, by omega, hL1, fun q hq => (hs2 q hq).mono (by decide)⟩ rfl rfl (Nat.le_of_ble_eq_true rfl) ⟨Nat.le_of_ble_eq_true rfl, Nat.le_of_ble_eq_true rfl⟩ dX3_makeStrong_113) (by intro q hq; (try dsimp only at hq ⊢); omega) (fun H5 h113 hF => ?_)
        obtain ⟨w7, hM, hL⟩ := h113
        rw [hs1] at hL
        exact j_vret C hr (Nat.le_refl _) (Nat.zero_le _) ⟨w7, hM, hL⟩ dX3_makeStrong_116
      · skip
        have hpk : 1 * 2 ^ k.toNat - 2 = (2 : Int) ^ k.toNat - 2 := by omega
        have hpk2 := pow_le_pow2 (m := k.toNat) (n := 6) (by omega)
        have hpk3 := two_pow_pos k.toNat
        refine j_aload_n C dX3_makeStrong_12 rfl ?_
        refine j_iload_n C dX3_makeStrong_13 rfl ?_
        refine j_i2l C dX3_makeStrong_14 ⟨by omega, by omega⟩ ?_
        refine j_iconst C dX3_makeStrong_15 ?_
        refine j_iload_n C dX3_makeStrong_16 rfl ?_
        refine j_ishl C dX3_makeStrong_17 ⟨by omega, by omega⟩ ?_
        refine j_iconst C dX3_makeStrong_18 ?_
        refine j_isub C dX3_makeStrong_19 ?_
        refine j_i2l C dX3_makeStrong_20 ⟨by omega, by omega⟩ ?_
        refine j_iload_n C dX3_makeStrong_21 rfl ?_
        refine j_i2l C dX3_makeStrong_22 ⟨by omega, by omega⟩ ?_
        refine j_iconst C dX3_makeStrong_23 ?_
        refine j_iload_n C dX3_makeStrong_24 rfl ?_
        refine j_ishl C dX3_makeStrong_25 ⟨by omega, by omega⟩ ?_
        refine j_iconst C dX3_makeStrong_26 ?_
        refine j_isub C dX3_makeStrong_27 ?_
        refine j_i2l C dX3_makeStrong_28 ⟨by omega, by omega⟩ ?_
        refine j_callmV (jrunV (rest := []) (As := [.long (zL k), .long (zL ((1 * 2 ^ k.toNat) - 2)), .long (zL k), .long (zL ((1 * 2 ^ k.toNat) - 2))]) C (c_X3_put l G o uh ud uc ((strongP (k - 1)).length : Int) uo ub uw ua ue ux m0 m1 m3 m7 m8 m12 m13 m14 m15 m16 k (1 * 2 ^ k.toNat - 2) k (1 * 2 ^ k.toNat - 2)) gX3_makeStrong_X3_put rfl 4 (by decide +kernel) rfl rfl ⟨Nat.le_of_ble_eq_true rfl, Nat.le_of_ble_eq_true rfl⟩ hM.1 rfl ⟨hM, by omega, by omega⟩ rfl rfl (Nat.le_of_ble_eq_true rfl) ⟨Nat.le_of_ble_eq_true rfl, Nat.le_of_ble_eq_true rfl⟩ dX3_makeStrong_29) (by intro q hq; (try dsimp only at hq ⊢); omega) (fun H6 h29 hF => ?_)
        have hM := h29
        refine j_iinc (lv' := [(0, .ref o), (1, .int (zI w)), (2, .int (zI (k + 1)))]) C dX3_makeStrong_32 rfl (by decide) rfl ?_
        refine j_goto (tgt := 7) C dX3_makeStrong_35 (by decide) ?_
        exact JJ.drop (lv' := [(0, .ref o), (1, .int (zI w)), (2, .int (zI (k + 1)))]) rfl (ih7 (k + 1) _ H6 (by omega) (by rw [show k + 1 - 1 = k by omega, strongP_s hk.1, List.length_append, List.length_singleton, Int.natCast_add]; exact hM) ⟨by omega, by omega⟩ (by rw [show k + 1 - 1 = k by omega, strongP_s hk.1, ← hpk]; exact hL.app rfl))
  exact JJ.drop (lv' := [(0, .ref o), (1, .int (zI w)), (2, .int (zI 1))]) rfl (K7 (((w + 1 - (1 : Int)).toNat) + 1) 1 m7 H1 (Nat.lt_succ_self _) hM ⟨by omega, by omega⟩ R4.nil)

set_option maxHeartbeats 4000000 in
set_option maxRecDepth 100000 in
/-- X3_isNothing -/
theorem c_X3_isNothing (l : Launch) (G : Gx) (o : Nat) (uh ud uc us uo ub uw ua ue ux : Int) (m0 m1 m3 m7 m8 m12 m13 m14 m15 m16 : Int → Int) : Met l yX3_isNothing wsX3_isNothing ({ frames := 0, cells := 0, slots := 0, locals := 0 } : Room) (cPc G [.ref o] (fun H => MP G H o uh ud uc us uo ub uw ua ue ux m0 m1 m3 m7 m8 m12 m13 m14 m15 m16 ∧ (0 ≤ us ∧ us ≤ 64))) (qI (fun r => (us = 1 ∧ r = 1) ∨ (us ≠ 1 ∧ r = 0))) 0 0 (fun _ => False) := by
  refine Met.ofJ (cc := cX3_isNothing) (maxL := 1) (ret := (some .boolean)) (lv0 := [(0, .ref o)]) (by decide) rfl (Nat.le_of_ble_eq_true rfl) rfl ?_
  intro p e s m args below meth c C hr hnm hpre
  obtain ⟨hM, hu⟩ := hpre
  have hwX3 : ∀ w ∈ u_ws RX3 TX3 20, w ∈ wsX3_isNothing := by decide +kernel
  refine j_aload_n C dX3_isNothing_0 rfl ?_
  refine j_get (T := TX3) (N := 20) (fs := _) (v := .int (zI us)) C hwX3 hM.1 6 (by decide) rfl (index := 51) (ref := "TreePairsModel") (by decide +kernel) rfl rfl dX3_isNothing_1 ?_
  refine j_iconst C dX3_isNothing_4 ?_
  refine j_icmp_ne (tgt := 12) C dX3_isNothing_5 (by decide) ⟨by omega, by omega⟩ ⟨by decide, by decide⟩ (fun c5 => ?_) (fun c5 => ?_)
  · skip
    refine j_iconst C dX3_isNothing_12 ?_
    exact j_zreti C hr (Nat.le_refl _) (Nat.zero_le _) (Or.inl rfl) (by show (_ ∧ _) ∨ (_ ∧ _); omega) dX3_isNothing_13
  · skip
    refine j_iconst C dX3_isNothing_8 ?_
    refine j_goto (tgt := 13) C dX3_isNothing_9 (by decide) ?_
    exact j_zreti C hr (Nat.le_refl _) (Nat.zero_le _) (Or.inr rfl) (by show (_ ∧ _) ∨ (_ ∧ _); omega) dX3_isNothing_13

set_option maxHeartbeats 4000000 in
set_option maxRecDepth 100000 in
/-- X3_isLeaf -/
theorem c_X3_isLeaf (l : Launch) (G : Gx) (d0 c0 : Int) : Met l yX3_isLeaf wsX3_isLeaf ({ frames := 1, cells := 0, slots := 0, locals := 25 } : Room) (cPc G [.int (zI d0), .int (zI c0)] (fun H => iR d0 ∧ iR c0)) (qI (fun r => (Lf 23 d0 c0 ∧ r = 1) ∨ (¬ Lf 23 d0 c0 ∧ r = 0))) 0 0 (fun _ => False) := by
  refine Met.ofJ (cc := cX3_isLeaf) (maxL := 2) (ret := (some .boolean)) (lv0 := [(0, .int (zI d0)), (1, .int (zI c0))]) (by decide) rfl (Nat.le_of_ble_eq_true rfl) rfl ?_
  intro p e s m args below meth c C hr hnm hpre
  obtain ⟨⟨h1, h2⟩, ⟨h3, h4⟩⟩ := hpre
  refine j_iload_n C dX3_isLeaf_0 rfl ?_
  refine j_i2l C dX3_isLeaf_1 ⟨by omega, by omega⟩ ?_
  refine j_lconst (z := 0) C dX3_isLeaf_2 rfl ?_
  refine j_ldc2 (z := 23) C (index := 82) (v := 23) (by decide +kernel) (by decide) dX3_isLeaf_3 ?_
  refine j_callI (jrunS (rest := []) (As := [.long (zL d0), .long (zL 0), .long (zL 23)]) C (c_X3_in l G d0 0 23) gX3_isLeaf_X3_in rfl 3 (by decide +kernel) rfl rfl ⟨Nat.le_of_ble_eq_true rfl, Nat.le_of_ble_eq_true rfl⟩ ⟨⟨by omega, by omega⟩, ⟨by decide, by decide⟩, ⟨by decide, by decide⟩⟩ rfl rfl (Nat.le_of_ble_eq_true rfl) ⟨Nat.le_of_ble_eq_true rfl, Nat.le_of_ble_eq_true rfl⟩ dX3_isLeaf_6) (fun r6 h6 => ?_)
  rcases h6 with ⟨h6, rfl⟩ | ⟨h6, rfl⟩
  · skip
    have hp1 := pow_le_pow2 (m := d0.toNat) (n := 23) (by omega)
    have hp2 : (2 : Int) ^ 23 = 8388608 := rfl
    have hp3 := two_pow_pos d0.toNat
    refine j_if_eq (tgt := 31) C dX3_isLeaf_9 (by decide) ⟨by decide, by decide⟩ (fun c9 => absurd c9 (by decide)) (fun c9 => ?_)
    refine j_iload_n C dX3_isLeaf_12 rfl ?_
    refine j_i2l C dX3_isLeaf_13 ⟨by omega, by omega⟩ ?_
    refine j_lconst (z := 0) C dX3_isLeaf_14 rfl ?_
    refine j_iconst C dX3_isLeaf_15 ?_
    refine j_iload_n C dX3_isLeaf_16 rfl ?_
    refine j_ishl C dX3_isLeaf_17 ⟨by omega, by omega⟩ ?_
    refine j_iconst C dX3_isLeaf_18 ?_
    refine j_isub C dX3_isLeaf_19 ?_
    refine j_i2l C dX3_isLeaf_20 ⟨by omega, by omega⟩ ?_
    refine j_callI (jrunS (rest := []) (As := [.long (zL c0), .long (zL 0), .long (zL ((1 * 2 ^ d0.toNat) - 1))]) C (c_X3_in l G c0 0 (1 * 2 ^ d0.toNat - 1)) gX3_isLeaf_X3_in rfl 3 (by decide +kernel) rfl rfl ⟨Nat.le_of_ble_eq_true rfl, Nat.le_of_ble_eq_true rfl⟩ ⟨⟨by omega, by omega⟩, ⟨by decide, by decide⟩, ⟨by omega, by omega⟩⟩ rfl rfl (Nat.le_of_ble_eq_true rfl) ⟨Nat.le_of_ble_eq_true rfl, Nat.le_of_ble_eq_true rfl⟩ dX3_isLeaf_21) (fun r21 h21 => ?_)
    rcases h21 with ⟨h21, rfl⟩ | ⟨h21, rfl⟩
    · skip
      refine j_if_eq (tgt := 31) C dX3_isLeaf_24 (by decide) ⟨by decide, by decide⟩ (fun c24 => absurd c24 (by decide)) (fun c24 => ?_)
      refine j_iconst C dX3_isLeaf_27 ?_
      refine j_goto (tgt := 32) C dX3_isLeaf_28 (by decide) ?_
      exact j_zreti C hr (Nat.le_refl _) (Nat.zero_le _) (Or.inr rfl) (Or.inl ⟨⟨h6.1, h6.2, h21.1, by omega⟩, rfl⟩) dX3_isLeaf_32
    · skip
      refine j_if_eq (tgt := 31) C dX3_isLeaf_24 (by decide) ⟨by decide, by decide⟩ (fun c24 => ?_) (fun c24 => absurd c24 (by decide))
      refine j_iconst C dX3_isLeaf_31 ?_
      exact j_zreti C hr (Nat.le_refl _) (Nat.zero_le _) (Or.inl rfl) (Or.inr ⟨fun h => by obtain ⟨q1, q2, q3, q4⟩ := h; first | exact h6 ⟨q1, q2⟩ | exact h21 ⟨q3, by omega⟩, rfl⟩) dX3_isLeaf_32
  · skip
    refine j_if_eq (tgt := 31) C dX3_isLeaf_9 (by decide) ⟨by decide, by decide⟩ (fun c9 => ?_) (fun c9 => absurd c9 (by decide))
    refine j_iconst C dX3_isLeaf_31 ?_
    exact j_zreti C hr (Nat.le_refl _) (Nat.zero_le _) (Or.inl rfl) (Or.inr ⟨fun h => by obtain ⟨q1, q2, q3, q4⟩ := h; first | exact h6 ⟨q1, q2⟩ | exact h21 ⟨q3, by omega⟩, rfl⟩) dX3_isLeaf_32
