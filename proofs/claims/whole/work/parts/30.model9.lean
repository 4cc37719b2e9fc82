set_option maxHeartbeats 4000000 in
set_option maxRecDepth 100000 in
/-- X3_drop -/
theorem c_X3_drop (l : Launch) (G : Gx) (o : Nat) (maps : Int → List Q4) (hand : List Q4) (ud uc : Int) (x : Int) : Met l yX3_drop wsX3_drop ({ frames := 3, cells := 0, slots := 0, locals := 66 } : Room) (cPc G [.ref o, .int (zI x)] (fun H => MX G H o maps hand ud uc ∧ iR x ∧ VMs maps)) (qmI (fun r H => r = (opDrop maps x).1 ∧ MX G H o (opDrop maps x).2 hand ud uc) (fun q : Nat => o ≤ q ∧ q < o + 11)) 0 0 (fun q : Nat => o ≤ q ∧ q < o + 11) := by
  refine Met.ofJ (cc := cX3_drop) (maxL := 3) (ret := (some .int)) (lv0 := [(0, .ref o), (1, .int (zI x))]) (by decide) rfl (Nat.le_of_ble_eq_true rfl) rfl ?_
  intro p e s m args below meth c C hr hnm hpre
  obtain ⟨⟨us, uo, ub, uw, ua, ue, ux, m0, m1, m3, m7, m8, m12, m13, m14, m15, m16, hM, hT, hHd, hBL⟩, ⟨hx1, hx2⟩, hV⟩ := hpre
  have hwX3 : ∀ w ∈ u_ws RX3 TX3 20, w ∈ wsX3_drop := by decide +kernel
  have hs := hT.iR hV
  refine j_aload_n C dX3_drop_0 rfl ?_
  refine j_iload_n C dX3_drop_1 rfl ?_
  refine j_callI (jrunV (rest := []) (As := [.int (zI x)]) C (c_X3_isMap l G o (hand.length : Int) ud uc us uo ub uw ua ue ux m0 m1 m3 m7 m8 m12 m13 m14 m15 m16 x) gX3_drop_X3_isMap rfl 1 (by decide +kernel) rfl rfl ⟨Nat.le_of_ble_eq_true rfl, Nat.le_of_ble_eq_true rfl⟩ hM.1 rfl ⟨hM, ⟨by omega, by omega⟩, hs⟩ rfl rfl (Nat.le_of_ble_eq_true rfl) ⟨Nat.le_of_ble_eq_true rfl, Nat.le_of_ble_eq_true rfl⟩ dX3_drop_2) (fun r2 h2 => ?_)
  rcases h2 with ⟨⟨h2, h2b⟩, rfl⟩ | ⟨h2, rfl⟩
  · skip
    have h2 : thP maps x := ⟨h2, by have := (hT x h2.1 h2.2).1; omega⟩
    have hVx := hV x h2.1.1 h2.1.2 h2.2
    have hTx := hT x h2.1.1 h2.1.2
    have hlx := hVx.len
    refine j_if_ne (tgt := 11) C dX3_drop_5 (by decide) ⟨by decide, by decide⟩ (fun c5 => ?_) (fun c5 => absurd c5 (by decide))
    refine j_aload_n C dX3_drop_11 rfl ?_
    refine j_get (T := TX3) (N := 20) (fs := _) (v := .ref (o + 1)) C hwX3 hM.1 0 (by decide) rfl (index := 7) (ref := "TreePairsModel") (by decide +kernel) rfl rfl dX3_drop_12 ?_
    refine j_iload_n C dX3_drop_15 rfl ?_
    refine j_iald C hM.2.1 h2.1 dX3_drop_16 ?_
    refine j_istore_n (lv' := [(0, .ref o), (1, .int (zI x)), (2, .int (zI (m0 x)))]) C dX3_drop_17 (by decide) rfl ?_
    refine j_aload_n C dX3_drop_18 rfl ?_
    refine j_get (T := TX3) (N := 20) (fs := _) (v := .ref (o + 1)) C hwX3 hM.1 0 (by decide) rfl (index := 7) (ref := "TreePairsModel") (by decide +kernel) rfl rfl dX3_drop_19 ?_
    refine j_iload_n C dX3_drop_22 rfl ?_
    refine j_iconst C dX3_drop_23 ?_
    refine j_iast C hM.2.1 h2.1 (by omega) dX3_drop_24 (fun H1 hR hC => ?_)
    have hM := hM.st_sizes hR hC
    refine j_iload_n C dX3_drop_25 rfl ?_
    exact j_iret C hr (Nat.le_refl _) (Nat.zero_le _) (by unfold opDrop; rw [if_pos h2]; exact ⟨hTx.1, ⟨_, _, _, _, _, _, _, _, _, _, _, _, _, _, _, _, _, hM, hT.drop, hHd, hBL⟩⟩) dX3_drop_26
  · skip
    have h2 : ¬ thP maps x := (fun h => h2 ⟨h.1, by have := (hT x h.1.1 h.1.2).1; have := h.2; omega⟩)
    refine j_if_ne (tgt := 11) C dX3_drop_5 (by decide) ⟨by decide, by decide⟩ (fun c5 => absurd c5 (by decide)) (fun c5 => ?_)
    refine j_bipush C dX3_drop_8 (by decide) ?_
    exact j_iret C hr (Nat.le_refl _) (Nat.zero_le _) (by unfold opDrop; rw [if_neg h2]; exact ⟨rfl, ⟨_, _, _, _, _, _, _, _, _, _, _, _, _, _, _, _, _, hM, hT, hHd, hBL⟩⟩) dX3_drop_10

set_option maxHeartbeats 4000000 in
set_option maxRecDepth 100000 in
/-- X3_leaves -/
theorem c_X3_leaves (l : Launch) (G : Gx) (o : Nat) (maps : Int → List Q4) (hand : List Q4) (ud uc : Int) (x : Int) : Met l yX3_leaves wsX3_leaves ({ frames := 3, cells := 0, slots := 0, locals := 66 } : Room) (cPc G [.ref o, .int (zI x)] (fun H => MX G H o maps hand ud uc ∧ iR x ∧ VMs maps)) (qI (fun r => r = if thP maps x then ((maps x).length : Int) else -101)) 0 0 (fun _ => False) := by
  refine Met.ofJ (cc := cX3_leaves) (maxL := 2) (ret := (some .int)) (lv0 := [(0, .ref o), (1, .int (zI x))]) (by decide) rfl (Nat.le_of_ble_eq_true rfl) rfl ?_
  intro p e s m args below meth c C hr hnm hpre
  obtain ⟨⟨us, uo, ub, uw, ua, ue, ux, m0, m1, m3, m7, m8, m12, m13, m14, m15, m16, hM, hT, hHd, hBL⟩, ⟨hx1, hx2⟩, hV⟩ := hpre
  have hwX3 : ∀ w ∈ u_ws RX3 TX3 20, w ∈ wsX3_leaves := by decide +kernel
  have hs := hT.iR hV
  refine j_aload_n C dX3_leaves_0 rfl ?_
  refine j_iload_n C dX3_leaves_1 rfl ?_
  refine j_callI (jrunV (rest := []) (As := [.int (zI x)]) C (c_X3_isMap l G o (hand.length : Int) ud uc us uo ub uw ua ue ux m0 m1 m3 m7 m8 m12 m13 m14 m15 m16 x) gX3_leaves_X3_isMap rfl 1 (by decide +kernel) rfl rfl ⟨Nat.le_of_ble_eq_true rfl, Nat.le_of_ble_eq_true rfl⟩ hM.1 rfl ⟨hM, ⟨by omega, by omega⟩, hs⟩ rfl rfl (Nat.le_of_ble_eq_true rfl) ⟨Nat.le_of_ble_eq_true rfl, Nat.le_of_ble_eq_true rfl⟩ dX3_leaves_2) (fun r2 h2 => ?_)
  rcases h2 with ⟨⟨h2, h2b⟩, rfl⟩ | ⟨h2, rfl⟩
  · skip
    have h2 : thP maps x := ⟨h2, by have := (hT x h2.1 h2.2).1; omega⟩
    have hVx := hV x h2.1.1 h2.1.2 h2.2
    have hTx := hT x h2.1.1 h2.1.2
    have hlx := hVx.len
    refine j_if_eq (tgt := 17) C dX3_leaves_5 (by decide) ⟨by decide, by decide⟩ (fun c5 => absurd c5 (by decide)) (fun c5 => ?_)
    refine j_aload_n C dX3_leaves_8 rfl ?_
    refine j_get (T := TX3) (N := 20) (fs := _) (v := .ref (o + 1)) C hwX3 hM.1 0 (by decide) rfl (index := 7) (ref := "TreePairsModel") (by decide +kernel) rfl rfl dX3_leaves_9 ?_
    refine j_iload_n C dX3_leaves_12 rfl ?_
    refine j_iald C hM.2.1 h2.1 dX3_leaves_13 ?_
    refine j_goto (tgt := 19) C dX3_leaves_14 (by decide) ?_
    exact j_ireti C hr (Nat.le_refl _) (Nat.zero_le _) (by show _ = _; rw [if_pos h2]; exact hTx.1) dX3_leaves_19
  · skip
    have h2 : ¬ thP maps x := (fun h => h2 ⟨h.1, by have := (hT x h.1.1 h.1.2).1; have := h.2; omega⟩)
    refine j_if_eq (tgt := 17) C dX3_leaves_5 (by decide) ⟨by decide, by decide⟩ (fun c5 => ?_) (fun c5 => absurd c5 (by decide))
    refine j_bipush C dX3_leaves_17 (by decide) ?_
    exact j_ireti C hr (Nat.le_refl _) (Nat.zero_le _) (by show _ = _; rw [if_neg h2]) dX3_leaves_19

set_option maxHeartbeats 4000000 in
set_option maxRecDepth 100000 in
/-- X3_leaf -/
theorem c_X3_leaf (l : Launch) (G : Gx) (o : Nat) (maps : Int → List Q4) (hand : List Q4) (ud uc : Int) (x i w : Int) : Met l yX3_leaf wsX3_leaf ({ frames := 3, cells := 0, slots := 0, locals := 66 } : Room) (cPc G [.ref o, .int (zI x), .int (zI i), .int (zI w)] (fun H => MX G H o maps hand ud uc ∧ iR x ∧ iR i ∧ iR w ∧ VMs maps)) (qI (fun r => r = if thP maps x ∧ 0 ≤ i ∧ i < (maps x).length then (if 0 ≤ w ∧ w ≤ 3 then (if w = 0 then (qat (maps x) i).1 else if w = 1 then (qat (maps x) i).2.1 else if w = 2 then (qat (maps x) i).2.2.1 else (qat (maps x) i).2.2.2) else -102) else -101)) 0 0 (fun _ => False) := by
  refine Met.ofJ (cc := cX3_leaf) (maxL := 4) (ret := (some .int)) (lv0 := [(0, .ref o), (1, .int (zI x)), (2, .int (zI i)), (3, .int (zI w))]) (by decide) rfl (Nat.le_of_ble_eq_true rfl) rfl ?_
  intro p e s m args below meth c C hr hnm hpre
  obtain ⟨⟨us, uo, ub, uw, ua, ue, ux, m0, m1, m3, m7, m8, m12, m13, m14, m15, m16, hM, hT, hHd, hBL⟩, ⟨hx1, hx2⟩, ⟨hi1, hi2⟩, ⟨hw1, hw2⟩, hV⟩ := hpre
  have hwX3 : ∀ w ∈ u_ws RX3 TX3 20, w ∈ wsX3_leaf := by decide +kernel
  have hs := hT.iR hV
  refine j_aload_n C dX3_leaf_0 rfl ?_
  refine j_iload_n C dX3_leaf_1 rfl ?_
  refine j_callI (jrunV (rest := []) (As := [.int (zI x)]) C (c_X3_isMap l G o (hand.length : Int) ud uc us uo ub uw ua ue ux m0 m1 m3 m7 m8 m12 m13 m14 m15 m16 x) gX3_leaf_X3_isMap rfl 1 (by decide +kernel) rfl rfl ⟨Nat.le_of_ble_eq_true rfl, Nat.le_of_ble_eq_true rfl⟩ hM.1 rfl ⟨hM, ⟨by omega, by omega⟩, hs⟩ rfl rfl (Nat.le_of_ble_eq_true rfl) ⟨Nat.le_of_ble_eq_true rfl, Nat.le_of_ble_eq_true rfl⟩ dX3_leaf_2) (fun r2 h2 => ?_)
  rcases h2 with ⟨⟨h2, h2b⟩, rfl⟩ | ⟨h2, rfl⟩
  · skip
    have h2 : thP maps x := ⟨h2, by have := (hT x h2.1 h2.2).1; omega⟩
    have hVx := hV x h2.1.1 h2.1.2 h2.2
    have hTx := hT x h2.1.1 h2.1.2
    have hlx := hVx.len
    refine j_if_eq (tgt := 26) C dX3_leaf_5 (by decide) ⟨by decide, by decide⟩ (fun c5 => absurd c5 (by decide)) (fun c5 => ?_)
    refine j_iload_n C dX3_leaf_8 rfl ?_
    refine j_i2l C dX3_leaf_9 ⟨by omega, by omega⟩ ?_
    refine j_lconst (z := 0) C dX3_leaf_10 rfl ?_
    refine j_aload_n C dX3_leaf_11 rfl ?_
    refine j_get (T := TX3) (N := 20) (fs := _) (v := .ref (o + 1)) C hwX3 hM.1 0 (by decide) rfl (index := 7) (ref := "TreePairsModel") (by decide +kernel) rfl rfl dX3_leaf_12 ?_
    refine j_iload_n C dX3_leaf_15 rfl ?_
    refine j_iald C hM.2.1 h2.1 dX3_leaf_16 ?_
    refine j_iconst C dX3_leaf_17 ?_
    refine j_isub C dX3_leaf_18 ?_
    refine j_i2l C dX3_leaf_19 ⟨by omega, by omega⟩ ?_
    have hms := hTx.1
    refine j_callI (jrunS (rest := []) (As := [.long (zL i), .long (zL 0), .long (zL ((m0 x) - 1))]) C (c_X3_in l G i 0 (m0 x - 1)) gX3_leaf_X3_in rfl 3 (by decide +kernel) rfl rfl ⟨Nat.le_of_ble_eq_true rfl, Nat.le_of_ble_eq_true rfl⟩ ⟨⟨by omega, by omega⟩, ⟨by decide, by decide⟩, ⟨by omega, by omega⟩⟩ rfl rfl (Nat.le_of_ble_eq_true rfl) ⟨Nat.le_of_ble_eq_true rfl, Nat.le_of_ble_eq_true rfl⟩ dX3_leaf_20) (fun r20 h20 => ?_)
    rcases h20 with ⟨h20, rfl⟩ | ⟨h20, rfl⟩
    · skip
      refine j_if_ne (tgt := 29) C dX3_leaf_23 (by decide) ⟨by decide, by decide⟩ (fun c23 => ?_) (fun c23 => absurd c23 (by decide))
      refine j_iload_n C dX3_leaf_29 rfl ?_
      refine j_i2l C dX3_leaf_30 ⟨by omega, by omega⟩ ?_
      refine j_lconst (z := 0) C dX3_leaf_31 rfl ?_
      refine j_ldc2 (z := 3) C (index := 130) (v := 3) (by decide +kernel) (by decide) dX3_leaf_32 ?_
      refine j_callI (jrunS (rest := []) (As := [.long (zL w), .long (zL 0), .long (zL 3)]) C (c_X3_in l G w 0 3) gX3_leaf_X3_in rfl 3 (by decide +kernel) rfl rfl ⟨Nat.le_of_ble_eq_true rfl, Nat.le_of_ble_eq_true rfl⟩ ⟨⟨by omega, by omega⟩, ⟨by decide, by decide⟩, ⟨by decide, by decide⟩⟩ rfl rfl (Nat.le_of_ble_eq_true rfl) ⟨Nat.le_of_ble_eq_true rfl, Nat.le_of_ble_eq_true rfl⟩ dX3_leaf_35) (fun r35 h35 => ?_)
      rcases h35 with ⟨h35, rfl⟩ | ⟨h35, rfl⟩
      · skip
        refine j_if_eq (tgt := 59) C dX3_leaf_38 (by decide) ⟨by decide, by decide⟩ (fun c38 => absurd c38 (by decide)) (fun c38 => ?_)
        refine j_aload_n C dX3_leaf_41 rfl ?_
        refine j_get (T := TX3) (N := 20) (fs := _) (v := .ref (o + 2)) C hwX3 hM.1 1 (by decide) rfl (index := 13) (ref := "TreePairsModel") (by decide +kernel) rfl rfl dX3_leaf_42 ?_
        refine j_bipush C dX3_leaf_45 (by decide) ?_
        refine j_iload_n C dX3_leaf_47 rfl ?_
        refine j_imul C dX3_leaf_48 ?_
        refine j_iconst C dX3_leaf_49 ?_
        refine j_iload_n C dX3_leaf_50 rfl ?_
        refine j_imul C dX3_leaf_51 ?_
        refine j_iadd C dX3_leaf_52 ?_
        refine j_iload_n C dX3_leaf_53 rfl ?_
        refine j_iadd C dX3_leaf_54 ?_
        refine j_iald C hM.2.2.1 ⟨by omega, by omega⟩ dX3_leaf_55 ?_
        refine j_goto (tgt := 61) C dX3_leaf_56 (by decide) ?_
        exact j_ireti C hr (Nat.le_refl _) (Nat.zero_le _) (by show _ = _; rw [if_pos ⟨h2, h20.1, by omega⟩, if_pos h35]; exact leaf_at hTx.2 h20.1 (by omega) h35) dX3_leaf_61
      · skip
        refine j_if_eq (tgt := 59) C dX3_leaf_38 (by decide) ⟨by decide, by decide⟩ (fun c38 => ?_) (fun c38 => absurd c38 (by decide))
        refine j_bipush C dX3_leaf_59 (by decide) ?_
        exact j_ireti C hr (Nat.le_refl _) (Nat.zero_le _) (by show _ = _; rw [if_pos ⟨h2, h20.1, by omega⟩, if_neg h35]) dX3_leaf_61
    · skip
      refine j_if_ne (tgt := 29) C dX3_leaf_23 (by decide) ⟨by decide, by decide⟩ (fun c23 => absurd c23 (by decide)) (fun c23 => ?_)
      refine j_bipush C dX3_leaf_26 (by decide) ?_
      exact j_ireti C hr (Nat.le_refl _) (Nat.zero_le _) (by show _ = _; rw [if_neg (fun h => by first | exact h2 h.1 | exact h20 ⟨h.2.1, by omega⟩)]) dX3_leaf_28
  · skip
    have h2 : ¬ thP maps x := (fun h => h2 ⟨h.1, by have := (hT x h.1.1 h.1.2).1; have := h.2; omega⟩)
    refine j_if_eq (tgt := 26) C dX3_leaf_5 (by decide) ⟨by decide, by decide⟩ (fun c5 => ?_) (fun c5 => absurd c5 (by decide))
    refine j_bipush C dX3_leaf_26 (by decide) ?_
    exact j_ireti C hr (Nat.le_refl _) (Nat.zero_le _) (by show _ = _; rw [if_neg (fun h => by first | exact h2 h.1 | exact h20 ⟨h.2.1, by omega⟩)]) dX3_leaf_28

set_option maxHeartbeats 4000000 in
set_option maxRecDepth 100000 in
/-- X3_same -/
theorem c_X3_same (l : Launch) (G : Gx) (o : Nat) (maps : Int → List Q4) (hand : List Q4) (ud uc : Int) (x y : Int) : Met l yX3_same wsX3_same ({ frames := 3, cells := 0, slots := 0, locals := 66 } : Room) (cPc G [.ref o, .int (zI x), .int (zI y)] (fun H => MX G H o maps hand ud uc ∧ iR x ∧ iR y ∧ VMs maps)) (qI (fun r => r = if thP maps x ∧ thP maps y then (if maps x = maps y then 1 else 0) else -101)) 0 0 (fun _ => False) := by
  refine Met.ofJ (cc := cX3_same) (maxL := 5) (ret := (some .int)) (lv0 := [(0, .ref o), (1, .int (zI x)), (2, .int (zI y))]) (by decide) rfl (Nat.le_of_ble_eq_true rfl) rfl ?_
  intro p e s m args below meth c C hr hnm hpre
  obtain ⟨⟨us, uo, ub, uw, ua, ue, ux, m0, m1, m3, m7, m8, m12, m13, m14, m15, m16, hM, hT, hHd, hBL⟩, ⟨hx1, hx2⟩, ⟨hy1, hy2⟩, hV⟩ := hpre
  have hwX3 : ∀ w ∈ u_ws RX3 TX3 20, w ∈ wsX3_same := by decide +kernel
  have hs := hT.iR hV
  refine j_aload_n C dX3_same_0 rfl ?_
  refine j_iload_n C dX3_same_1 rfl ?_
  refine j_callI (jrunV (rest := []) (As := [.int (zI x)]) C (c_X3_isMap l G o (hand.length : Int) ud uc us uo ub uw ua ue ux m0 m1 m3 m7 m8 m12 m13 m14 m15 m16 x) gX3_same_X3_isMap rfl 1 (by decide +kernel) rfl rfl ⟨Nat.le_of_ble_eq_true rfl, Nat.le_of_ble_eq_true rfl⟩ hM.1 rfl ⟨hM, ⟨by omega, by omega⟩, hs⟩ rfl rfl (Nat.le_of_ble_eq_true rfl) ⟨Nat.le_of_ble_eq_true rfl, Nat.le_of_ble_eq_true rfl⟩ dX3_same_2) (fun r2 h2 => ?_)
  rcases h2 with ⟨⟨h2, h2b⟩, rfl⟩ | ⟨h2, rfl⟩
  · skip
    have h2 : thP maps x := ⟨h2, by have := (hT x h2.1 h2.2).1; omega⟩
    have hVx := hV x h2.1.1 h2.1.2 h2.2
    have hTx := hT x h2.1.1 h2.1.2
    have hlx := hVx.len
    refine j_if_eq (tgt := 16) C dX3_same_5 (by decide) ⟨by decide, by decide⟩ (fun c5 => absurd c5 (by decide)) (fun c5 => ?_)
    refine j_aload_n C dX3_same_8 rfl ?_
    refine j_iload_n C dX3_same_9 rfl ?_
    refine j_callI (jrunV (rest := []) (As := [.int (zI y)]) C (c_X3_isMap l G o (hand.length : Int) ud uc us uo ub uw ua ue ux m0 m1 m3 m7 m8 m12 m13 m14 m15 m16 y) gX3_same_X3_isMap rfl 1 (by decide +kernel) rfl rfl ⟨Nat.le_of_ble_eq_true rfl, Nat.le_of_ble_eq_true rfl⟩ hM.1 rfl ⟨hM, ⟨by omega, by omega⟩, hs⟩ rfl rfl (Nat.le_of_ble_eq_true rfl) ⟨Nat.le_of_ble_eq_true rfl, Nat.le_of_ble_eq_true rfl⟩ dX3_same_10) (fun r10 h10 => ?_)
    rcases h10 with ⟨⟨h10, h10b⟩, rfl⟩ | ⟨h10, rfl⟩
    · skip
      have h10 : thP maps y := ⟨h10, by have := (hT y h10.1 h10.2).1; omega⟩
      have hVy := hV y h10.1.1 h10.1.2 h10.2
      have hTy := hT y h10.1.1 h10.1.2
      have hly := hVy.len
      refine j_if_ne (tgt := 19) C dX3_same_13 (by decide) ⟨by decide, by decide⟩ (fun c13 => ?_) (fun c13 => absurd c13 (by decide))
      refine j_aload_n C dX3_same_19 rfl ?_
      refine j_get (T := TX3) (N := 20) (fs := _) (v := .ref (o + 1)) C hwX3 hM.1 0 (by decide) rfl (index := 7) (ref := "TreePairsModel") (by decide +kernel) rfl rfl dX3_same_20 ?_
      refine j_iload_n C dX3_same_23 rfl ?_
      refine j_iald C hM.2.1 h2.1 dX3_same_24 ?_
      refine j_aload_n C dX3_same_25 rfl ?_
      refine j_get (T := TX3) (N := 20) (fs := _) (v := .ref (o + 1)) C hwX3 hM.1 0 (by decide) rfl (index := 7) (ref := "TreePairsModel") (by decide +kernel) rfl rfl dX3_same_26 ?_
      refine j_iload_n C dX3_same_29 rfl ?_
      refine j_iald C hM.2.1 h10.1 dX3_same_30 ?_
      have hmx := hTx.1
      have hmy := hTy.1
      refine j_icmp_ne (tgt := 38) C dX3_same_31 (by decide) ⟨by omega, by omega⟩ ⟨by omega, by omega⟩ (fun c31 => ?_) (fun c31 => ?_)
      · skip
        refine j_iconst C dX3_same_38 ?_
        refine j_istore_n (lv' := [(0, .ref o), (1, .int (zI x)), (2, .int (zI y)), (3, .int (zI 0))]) C dX3_same_39 (by decide) rfl ?_
        refine j_iconst C dX3_same_40 ?_
        refine j_istore (lv' := [(0, .ref o), (1, .int (zI x)), (2, .int (zI y)), (3, .int (zI 0)), (4, .int (zI 0))]) C dX3_same_41 (by decide) rfl ?_
        have K43 : ∀ (fu43 : Nat) (s2 k : Int), (4 * (maps x).length - k).toNat < fu43 → 0 ≤ k ∧ k ≤ 4 * (maps x).length → ((s2 = 1 ∧ (maps x).length = (maps y).length ∧ ∀ q, 0 ≤ q → q < k → m1 (96 * x + q) = m1 (96 * y + q)) ∨ (s2 = 0 ∧ maps x ≠ maps y)) → JJ p l e ({ frames := 3, cells := 0, slots := 0, locals := 66 } : Room) s m args below meth c (MQ below (qI (fun r => r = if thP maps x ∧ thP maps y then (if maps x = maps y then 1 else 0) else -101)) args s 0 0 (fun _ => False)) (fun _ => False) 5 s.heap 0 0 43 [(0, .ref o), (1, .int (zI x)), (2, .int (zI y)), (3, .int (zI s2)), (4, .int (zI k))] [] := by
          intro fu43
          induction fu43 with
          | zero => intro s2 k hm43 hk hs2; exact absurd hm43 (Nat.not_lt_zero _)
          | succ fu43 ih43 =>
            intro s2 k hm43 hk hs2
            refine j_iload C dX3_same_43 rfl ?_
            refine j_iconst C dX3_same_45 ?_
            refine j_aload_n C dX3_same_46 rfl ?_
            refine j_get (T := TX3) (N := 20) (fs := _) (v := .ref (o + 1)) C hwX3 hM.1 0 (by decide) rfl (index := 7) (ref := "TreePairsModel") (by decide +kernel) rfl rfl dX3_same_47 ?_
            refine j_iload_n C dX3_same_50 rfl ?_
            refine j_iald C hM.2.1 h2.1 dX3_same_51 ?_
            refine j_imul C dX3_same_52 ?_
            refine j_icmp_ge (tgt := 99) C dX3_same_53 (by decide) ⟨by omega, by omega⟩ ⟨by omega, by omega⟩ (fun c53 => ?_) (fun c53 => ?_)
            · skip
              refine j_iload_n C dX3_same_99 rfl ?_
              refine j_if_eq (tgt := 107) C dX3_same_100 (by decide) ⟨by omega, by omega⟩ (fun c100 => ?_) (fun c100 => ?_)
              · skip
                have hne : maps x ≠ maps y := (by rcases hs2 with h | h; omega; exact h.2)
                refine j_iconst C dX3_same_107 ?_
                exact j_ireti C hr (Nat.le_refl _) (Nat.zero_le _) (by show _ = _; rw [if_pos ⟨h2, h10⟩, if_neg hne]) dX3_same_108
              · skip
                have heq : maps x = maps y := (by rcases hs2 with h | h; exact hTx.2.ext hTy.2 h.2.1 (fun q q0 q1 => h.2.2 q q0 (by omega)); omega)
                refine j_iconst C dX3_same_103 ?_
                refine j_goto (tgt := 108) C dX3_same_104 (by decide) ?_
                exact j_ireti C hr (Nat.le_refl _) (Nat.zero_le _) (by show _ = _; rw [if_pos ⟨h2, h10⟩, if_pos heq]) dX3_same_108
            · skip
              refine j_iload_n C dX3_same_56 rfl ?_
              refine j_if_eq (tgt := 99) C dX3_same_57 (by decide) ⟨by omega, by omega⟩ (fun c57 => ?_) (fun c57 => ?_)
              · skip
                refine j_iload_n C dX3_same_99 rfl ?_
                refine j_if_eq (tgt := 107) C dX3_same_100 (by decide) ⟨by omega, by omega⟩ (fun c100 => ?_) (fun c100 => ?_)
                · skip
                  have hne : maps x ≠ maps y := (by rcases hs2 with h | h; omega; exact h.2)
                  refine j_iconst C dX3_same_107 ?_
                  exact j_ireti C hr (Nat.le_refl _) (Nat.zero_le _) (by show _ = _; rw [if_pos ⟨h2, h10⟩, if_neg hne]) dX3_same_108
                · skip
                  have heq : maps x = maps y := (by rcases hs2 with h | h; exact hTx.2.ext hTy.2 h.2.1 (fun q q0 q1 => h.2.2 q q0 (by omega)); omega)
                  refine j_iconst C dX3_same_103 ?_
                  refine j_goto (tgt := 108) C dX3_same_104 (by decide) ?_
                  exact j_ireti C hr (Nat.le_refl _) (Nat.zero_le _) (by show _ = _; rw [if_pos ⟨h2, h10⟩, if_pos heq]) dX3_same_108
              · skip
                have hsx : (maps x).length = (maps y).length ∧ ∀ q, 0 ≤ q → q < k → m1 (96 * x + q) = m1 (96 * y + q) := (by rcases hs2 with h | h; exact h.2; omega)
                have hrx := hTx.2.iR4 hVx.B (k := k) hk.1 (by omega)
                have hry := hTy.2.iR4 hVy.B (k := k) hk.1 (by omega)
                refine j_aload_n C dX3_same_60 rfl ?_
                refine j_get (T := TX3) (N := 20) (fs := _) (v := .ref (o + 2)) C hwX3 hM.1 1 (by decide) rfl (index := 13) (ref := "TreePairsModel") (by decide +kernel) rfl rfl dX3_same_61 ?_
                refine j_bipush C dX3_same_64 (by decide) ?_
                refine j_iload_n C dX3_same_66 rfl ?_
                refine j_imul C dX3_same_67 ?_
                refine j_iload C dX3_same_68 rfl ?_
                refine j_iadd C dX3_same_70 ?_
                refine j_iald C hM.2.2.1 ⟨by omega, by omega⟩ dX3_same_71 ?_
                refine j_aload_n C dX3_same_72 rfl ?_
                refine j_get (T := TX3) (N := 20) (fs := _) (v := .ref (o + 2)) C hwX3 hM.1 1 (by decide) rfl (index := 13) (ref := "TreePairsModel") (by decide +kernel) rfl rfl dX3_same_73 ?_
                refine j_bipush C dX3_same_76 (by decide) ?_
                refine j_iload_n C dX3_same_78 rfl ?_
                refine j_imul C dX3_same_79 ?_
                refine j_iload C dX3_same_80 rfl ?_
                refine j_iadd C dX3_same_82 ?_
                refine j_iald C hM.2.2.1 ⟨by omega, by omega⟩ dX3_same_83 ?_
                refine j_icmp_ne (tgt := 91) C dX3_same_84 (by decide) hrx hry (fun c84 => ?_) (fun c84 => ?_)
                · skip
                  refine j_iconst C dX3_same_91 ?_
                  refine j_istore_n (lv' := [(0, .ref o), (1, .int (zI x)), (2, .int (zI y)), (3, .int (zI 0)), (4, .int (zI k))]) C dX3_same_92 (by decide) rfl ?_
                  refine j_iinc (lv' := [(0, .ref o), (1, .int (zI x)), (2, .int (zI y)), (3, .int (zI 0)), (4, .int (zI (k + 1)))]) C dX3_same_93 rfl (by decide) rfl ?_
                  refine j_goto (tgt := 43) C dX3_same_96 (by decide) ?_
                  exact JJ.drop (lv' := [(0, .ref o), (1, .int (zI x)), (2, .int (zI y)), (3, .int (zI 0)), (4, .int (zI (k + 1)))]) rfl (ih43 0 (k + 1) (by omega) ⟨by omega, by omega⟩ (Or.inr ⟨rfl, fun e => c84 (by have h1 := hTx.2; have h2 := hTy.2; rw [← e] at h2; exact h1.eqv h2 hk.1 (by omega))⟩))
                · skip
                  refine j_iconst C dX3_same_87 ?_
                  refine j_goto (tgt := 92) C dX3_same_88 (by decide) ?_
                  refine j_istore_n (lv' := [(0, .ref o), (1, .int (zI x)), (2, .int (zI y)), (3, .int (zI 1)), (4, .int (zI k))]) C dX3_same_92 (by decide) rfl ?_
                  refine j_iinc (lv' := [(0, .ref o), (1, .int (zI x)), (2, .int (zI y)), (3, .int (zI 1)), (4, .int (zI (k + 1)))]) C dX3_same_93 rfl (by decide) rfl ?_
                  refine j_goto (tgt := 43) C dX3_same_96 (by decide) ?_
                  exact JJ.drop (lv' := [(0, .ref o), (1, .int (zI x)), (2, .int (zI y)), (3, .int (zI 1)), (4, .int (zI (k + 1)))]) rfl (ih43 1 (k + 1) (by omega) ⟨by omega, by omega⟩ (Or.inl ⟨rfl, hsx.1, fun q q0 q1 => by rcases Int.lt_or_le q k with z | z; exact hsx.2 q q0 z; have e : q = k := (by omega); subst e; exact c84⟩))
        exact JJ.drop (lv' := [(0, .ref o), (1, .int (zI x)), (2, .int (zI y)), (3, .int (zI 0)), (4, .int (zI 0))]) rfl (K43 (((4 * (maps x).length - (0 : Int)).toNat) + 1) 0 0 (Nat.lt_succ_self _) ⟨by omega, by omega⟩ (Or.inr ⟨rfl, fun e => c31 (by rw [hmx, hmy, e])⟩))
      · skip
        refine j_iconst C dX3_same_34 ?_
        refine j_goto (tgt := 39) C dX3_same_35 (by decide) ?_
        refine j_istore_n (lv' := [(0, .ref o), (1, .int (zI x)), (2, .int (zI y)), (3, .int (zI 1))]) C dX3_same_39 (by decide) rfl ?_
        refine j_iconst C dX3_same_40 ?_
        refine j_istore (lv' := [(0, .ref o), (1, .int (zI x)), (2, .int (zI y)), (3, .int (zI 1)), (4, .int (zI 0))]) C dX3_same_41 (by decide) rfl ?_
        have K43 : ∀ (fu43 : Nat) (s2 k : Int), (4 * (maps x).length - k).toNat < fu43 → 0 ≤ k ∧ k ≤ 4 * (maps x).length → ((s2 = 1 ∧ (maps x).length = (maps y).length ∧ ∀ q, 0 ≤ q → q < k → m1 (96 * x + q) = m1 (96 * y + q)) ∨ (s2 = 0 ∧ maps x ≠ maps y)) → JJ p l e ({ frames := 3, cells := 0, slots := 0, locals := 66 } : Room) s m args below meth c (MQ below (qI (fun r => r = if thP maps x ∧ thP maps y then (if maps x = maps y then 1 else 0) else -101)) args s 0 0 (fun _ => False)) (fun _ => False) 5 s.heap 0 0 43 [(0, .ref o), (1, .int (zI x)), (2, .int (zI y)), (3, .int (zI s2)), (4, .int (zI k))] [] := by
          intro fu43
          induction fu43 with
          | zero => intro s2 k hm43 hk hs2; exact absurd hm43 (Nat.not_lt_zero _)
          | succ fu43 ih43 =>
            intro s2 k hm43 hk hs2
            refine j_iload C dX3_same_43 rfl ?_
            refine j_iconst C dX3_same_45 ?_
            refine j_aload_n C dX3_same_46 rfl ?_
            refine j_get (T := TX3) (N := 20) (fs := _) (v := .ref (o + 1)) C hwX3 hM.1 0 (by decide) rfl (index := 7) (ref := "TreePairsModel") (by decide +kernel) rfl rfl dX3_same_47 ?_
            refine j_iload_n C dX3_same_50 rfl ?_
            refine j_iald C hM.2.1 h2.1 dX3_same_51 ?_
            refine j_imul C dX3_same_52 ?_
            refine j_icmp_ge (tgt := 99) C dX3_same_53 (by decide) ⟨by omega, by omega⟩ ⟨by omega, by omega⟩ (fun c53 => ?_) (fun c53 => ?_)
            · skip
              refine j_iload_n C dX3_same_99 rfl ?_
              refine j_if_eq (tgt := 107) C dX3_same_100 (by decide) ⟨by omega, by omega⟩ (fun c100 => ?_) (fun c100 => ?_)
              · skip
                have hne : maps x ≠ maps y := (by rcases hs2 with h | h; omega; exact h.2)
                refine j_iconst C dX3_same_107 ?_
                exact j_ireti C hr (Nat.le_refl _) (Nat.zero_le _) (by show _ = _; rw [if_pos ⟨h2, h10⟩, if_neg hne]) dX3_same_108
              · skip
                have heq : maps x = maps y := (by rcases hs2 with h | h; exact hTx.2.ext hTy.2 h.2.1 (fun q q0 q1 => h.2.2 q q0 (by omega)); omega)
                refine j_iconst C dX3_same_103 ?_
                refine j_goto (tgt := 108) C dX3_same_104 (by decide) ?_
                exact j_ireti C hr (Nat.le_refl _) (Nat.zero_le _) (by show _ = _; rw [if_pos ⟨h2, h10⟩, if_pos heq]) dX3_same_108
            · skip
              refine j_iload_n C dX3_same_56 rfl ?_
              refine j_if_eq (tgt := 99) C dX3_same_57 (by decide) ⟨by omega, by omega⟩ (fun c57 => ?_) (fun c57 => ?_)
              · skip
                refine j_iload_n C dX3_same_99 rfl ?_
                refine j_if_eq (tgt := 107) C dX3_same_100 (by decide) ⟨by omega, by omega⟩ (fun c100 => ?_) (fun c100 => ?_)
                · skip
                  have hne : maps x ≠ maps y := (by rcases hs2 with h | h; omega; exact h.2)
                  refine j_iconst C dX3_same_107 ?_
                  exact j_ireti C hr (Nat.le_refl _) (Nat.zero_le _) (by show _ = _; rw [if_pos ⟨h2, h10⟩, if_neg hne]) dX3_same_108
                · skip
                  have heq : maps x = maps y := (by rcases hs2 with h | h; exact hTx.2.ext hTy.2 h.2.1 (fun q q0 q1 => h.2.2 q q0 (by omega)); omega)
                  refine j_iconst C dX3_same_103 ?_
                  refine j_goto (tgt := 108) C dX3_same_104 (by decide) ?_
                  exact j_ireti C hr (Nat.le_refl _) (Nat.zero_le _) (by show _ = _; rw [if_pos ⟨h2, h10⟩, if_pos heq]) dX3_same_108
              · skip
                have hsx : (maps x).length = (maps y).length ∧ ∀ q, 0 ≤ q → q < k → m1 (96 * x + q) = m1 (96 * y + q) := (by rcases hs2 with h | h; exact h.2; omega)
                have hrx := hTx.2.iR4 hVx.B (k := k) hk.1 (by omega)
                have hry := hTy.2.iR4 hVy.B (k := k) hk.1 (by omega)
                refine j_aload_n C dX3_same_60 rfl ?_
                refine j_get (T := TX3) (N := 20) (fs := _) (v := .ref (o + 2)) C hwX3 hM.1 1 (by decide) rfl (index := 13) (ref := "TreePairsModel") (by decide +kernel) rfl rfl dX3_same_61 ?_
                refine j_bipush C dX3_same_64 (by decide) ?_
                refine j_iload_n C dX3_same_66 rfl ?_
                refine j_imul C dX3_same_67 ?_
                refine j_iload C dX3_same_68 rfl ?_
                refine j_iadd C dX3_same_70 ?_
                refine j_iald C hM.2.2.1 ⟨by omega, by omega⟩ dX3_same_71 ?_
                refine j_aload_n C dX3_same_72 rfl ?_
                refine j_get (T := TX3) (N := 20) (fs := _) (v := .ref (o + 2)) C hwX3 hM.1 1 (by decide) rfl (index := 13) (ref := "TreePairsModel") (by decide +kernel) rfl rfl dX3_same_73 ?_
                refine j_bipush C dX3_same_76 (by decide) ?_
                refine j_iload_n C dX3_same_78 rfl ?_
                refine j_imul C dX3_same_79 ?_
                refine j_iload C dX3_same_80 rfl ?_
                refine j_iadd C dX3_same_82 ?_
                refine j_iald C hM.2.2.1 ⟨by omega, by omega⟩ dX3_same_83 ?_
                refine j_icmp_ne (tgt := 91) C dX3_same_84 (by decide) hrx hry (fun c84 => ?_) (fun c84 => ?_)
                · skip
                  refine j_iconst C dX3_same_91 ?_
                  refine j_istore_n (lv' := [(0, .ref o), (1, .int (zI x)), (2, .int (zI y)), (3, .int (zI 0)), (4, .int (zI k))]) C dX3_same_92 (by decide) rfl ?_
                  refine j_iinc (lv' := [(0, .ref o), (1, .int (zI x)), (2, .int (zI y)), (3, .int (zI 0)), (4, .int (zI (k + 1)))]) C dX3_same_93 rfl (by decide) rfl ?_
                  refine j_goto (tgt := 43) C dX3_same_96 (by decide) ?_
                  exact JJ.drop (lv' := [(0, .ref o), (1, .int (zI x)), (2, .int (zI y)), (3, .int (zI 0)), (4, .int (zI (k + 1)))]) rfl (ih43 0 (k + 1) (by omega) ⟨by omega, by omega⟩ (Or.inr ⟨rfl, fun e => c84 (by have h1 := hTx.2; have h2 := hTy.2; rw [← e] at h2; exact h1.eqv h2 hk.1 (by omega))⟩))
                · skip
                  refine j_iconst C dX3_same_87 ?_
                  refine j_goto (tgt := 92) C dX3_same_88 (by decide) ?_
                  refine j_istore_n (lv' := [(0, .ref o), (1, .int (zI x)), (2, .int (zI y)), (3, .int (zI 1)), (4, .int (zI k))]) C dX3_same_92 (by decide) rfl ?_
                  refine j_iinc (lv' := [(0, .ref o), (1, .int (zI x)), (2, .int (zI y)), (3, .int (zI 1)), (4, .int (zI (k + 1)))]) C dX3_same_93 rfl (by decide) rfl ?_
                  refine j_goto (tgt := 43) C dX3_same_96 (by decide) ?_
                  exact JJ.drop (lv' := [(0, .ref o), (1, .int (zI x)), (2, .int (zI y)), (3, .int (zI 1)), (4, .int (zI (k + 1)))]) rfl (ih43 1 (k + 1) (by omega) ⟨by omega, by omega⟩ (Or.inl ⟨rfl, hsx.1, fun q q0 q1 => by rcases Int.lt_or_le q k with z | z; exact hsx.2 q q0 z; have e : q = k := (by omega); subst e; exact c84⟩))
        exact JJ.drop (lv' := [(0, .ref o), (1, .int (zI x)), (2, .int (zI y)), (3, .int (zI 1)), (4, .int (zI 0))]) rfl (K43 (((4 * (maps x).length - (0 : Int)).toNat) + 1) 1 0 (Nat.lt_succ_self _) ⟨by omega, by omega⟩ (Or.inl ⟨rfl, by omega, fun q q0 q1 => absurd q0 (by omega)⟩))
    · skip
      have h10 : ¬ thP maps y := (fun h => h10 ⟨h.1, by have := (hT y h.1.1 h.1.2).1; have := h.2; omega⟩)
      refine j_if_ne (tgt := 19) C dX3_same_13 (by decide) ⟨by decide, by decide⟩ (fun c13 => absurd c13 (by decide)) (fun c13 => ?_)
      refine j_bipush C dX3_same_16 (by decide) ?_
      exact j_ireti C hr (Nat.le_refl _) (Nat.zero_le _) (by show _ = _; rw [if_neg (fun h => by first | exact h2 h.1 | exact h10 h.2)]) dX3_same_18
  · skip
    have h2 : ¬ thP maps x := (fun h => h2 ⟨h.1, by have := (hT x h.1.1 h.1.2).1; have := h.2; omega⟩)
    refine j_if_eq (tgt := 16) C dX3_same_5 (by decide) ⟨by decide, by decide⟩ (fun c5 => ?_) (fun c5 => absurd c5 (by decide))
    refine j_bipush C dX3_same_16 (by decide) ?_
    exact j_ireti C hr (Nat.le_refl _) (Nat.zero_le _) (by show _ = _; rw [if_neg (fun h => by first | exact h2 h.1 | exact h10 h.2)]) dX3_same_18
