set_option maxHeartbeats 4000000 in
set_option maxRecDepth 100000 in
/-- X3_seen -/
theorem c_X3_seen (l : Launch) (G : Gx) (o : Nat) (maps : Int → List Q4) (hand : List Q4) (ud uc : Int) (w : Int) : Met l yX3_seen wsX3_seen ({ frames := 0, cells := 0, slots := 0, locals := 0 } : Room) (cPc G [.ref o, .int (zI w)] (fun H => MX G H o maps hand ud uc ∧ iR w ∧ iR ud)) (qL (fun r => r = if w = 0 then ud else if w = 1 then uc else -102)) 0 0 (fun _ => False) := by
  refine Met.ofJ (cc := cX3_seen) (maxL := 2) (ret := (some .long)) (lv0 := [(0, .ref o), (1, .int (zI w))]) (by decide) rfl (Nat.le_of_ble_eq_true rfl) rfl ?_
  intro p e s m args below meth c C hr hnm hpre
  obtain ⟨⟨us, uo, ub, uw, ua, ue, ux, m0, m1, m3, m7, m8, m12, m13, m14, m15, m16, hM, hT, hHd, hBL⟩, ⟨hw1, hw2⟩, hud⟩ := hpre
  have hwX3 : ∀ w ∈ u_ws RX3 TX3 20, w ∈ wsX3_seen := by decide +kernel
  refine j_iload_n C dX3_seen_0 rfl ?_
  refine j_if_ne (tgt := 12) C dX3_seen_1 (by decide) ⟨by omega, by omega⟩ (fun c1 => ?_) (fun c1 => ?_)
  · skip
    refine j_iload_n C dX3_seen_12 rfl ?_
    refine j_iconst C dX3_seen_13 ?_
    refine j_icmp_ne (tgt := 24) C dX3_seen_14 (by decide) ⟨by omega, by omega⟩ ⟨by decide, by decide⟩ (fun c14 => ?_) (fun c14 => ?_)
    · skip
      refine j_ldc2 (z := (-102)) C (index := 167) (v := (-102)) (by decide +kernel) (by decide) dX3_seen_24 ?_
      exact j_lretl C hr (Nat.le_refl _) (Nat.zero_le _) (by show _ = _; rw [if_neg c1, if_neg c14]) dX3_seen_27
    · skip
      refine j_aload_n C dX3_seen_17 rfl ?_
      refine j_get (T := TX3) (N := 20) (fs := _) (v := .long (zL uc)) C hwX3 hM.1 5 (by decide) rfl (index := 163) (ref := "TreePairsModel") (by decide +kernel) rfl rfl dX3_seen_18 ?_
      refine j_goto (tgt := 27) C dX3_seen_21 (by decide) ?_
      exact j_lretl C hr (Nat.le_refl _) (Nat.zero_le _) (by show _ = _; rw [if_neg c1, if_pos (by omega)]) dX3_seen_27
  · skip
    refine j_aload_n C dX3_seen_4 rfl ?_
    refine j_get (T := TX3) (N := 20) (fs := _) (v := .int (zI ud)) C hwX3 hM.1 4 (by decide) rfl (index := 160) (ref := "TreePairsModel") (by decide +kernel) rfl rfl dX3_seen_5 ?_
    refine j_i2l C dX3_seen_8 hud ?_
    refine j_goto (tgt := 27) C dX3_seen_9 (by decide) ?_
    exact j_lretl C hr (Nat.le_refl _) (Nat.zero_le _) (by show _ = _; rw [if_pos (by omega)]) dX3_seen_27

set_option maxHeartbeats 4000000 in
set_option maxRecDepth 100000 in
/-- X3_slope -/
theorem c_X3_slope (l : Launch) (G : Gx) (o : Nat) (uh ud uc us uo ub uw ua ue ux : Int) (m0 m1 m3 m7 m8 m12 m13 m14 m15 m16 : Int → Int) (a i : Int) : Met l yX3_slope wsX3_slope ({ frames := 0, cells := 0, slots := 0, locals := 0 } : Room) (cPc G [.ref o, .int (zI a), .int (zI i)] (fun H => MP G H o uh ud uc us uo ub uw ua ue ux m0 m1 m3 m7 m8 m12 m13 m14 m15 m16 ∧ (0 ≤ a ∧ a < 12) ∧ (0 ≤ i ∧ i < 24))) (qI (fun r => r = m1 (96 * a + 4 * i) - m1 (96 * a + 4 * i + 2))) 0 0 (fun _ => False) := by
  refine Met.ofJ (cc := cX3_slope) (maxL := 3) (ret := (some .int)) (lv0 := [(0, .ref o), (1, .int (zI a)), (2, .int (zI i))]) (by decide) rfl (Nat.le_of_ble_eq_true rfl) rfl ?_
  intro p e s m args below meth c C hr hnm hpre
  obtain ⟨hM, ha, hi⟩ := hpre
  have hwX3 : ∀ w ∈ u_ws RX3 TX3 20, w ∈ wsX3_slope := by decide +kernel
  refine j_aload_n C dX3_slope_0 rfl ?_
  refine j_get (T := TX3) (N := 20) (fs := _) (v := .ref (o + 2)) C hwX3 hM.1 1 (by decide) rfl (index := 13) (ref := "TreePairsModel") (by decide +kernel) rfl rfl dX3_slope_1 ?_
  refine j_bipush C dX3_slope_4 (by decide) ?_
  refine j_iload_n C dX3_slope_6 rfl ?_
  refine j_imul C dX3_slope_7 ?_
  refine j_iconst C dX3_slope_8 ?_
  refine j_iload_n C dX3_slope_9 rfl ?_
  refine j_imul C dX3_slope_10 ?_
  refine j_iadd C dX3_slope_11 ?_
  refine j_iald C hM.2.2.1 ⟨by omega, by omega⟩ dX3_slope_12 ?_
  refine j_aload_n C dX3_slope_13 rfl ?_
  refine j_get (T := TX3) (N := 20) (fs := _) (v := .ref (o + 2)) C hwX3 hM.1 1 (by decide) rfl (index := 13) (ref := "TreePairsModel") (by decide +kernel) rfl rfl dX3_slope_14 ?_
  refine j_bipush C dX3_slope_17 (by decide) ?_
  refine j_iload_n C dX3_slope_19 rfl ?_
  refine j_imul C dX3_slope_20 ?_
  refine j_iconst C dX3_slope_21 ?_
  refine j_iload_n C dX3_slope_22 rfl ?_
  refine j_imul C dX3_slope_23 ?_
  refine j_iadd C dX3_slope_24 ?_
  refine j_iconst C dX3_slope_25 ?_
  refine j_iadd C dX3_slope_26 ?_
  refine j_iald C hM.2.2.1 ⟨by omega, by omega⟩ dX3_slope_27 ?_
  refine j_isub C dX3_slope_28 ?_
  exact j_ireti C hr (Nat.le_refl _) (Nat.zero_le _) rfl dX3_slope_29

set_option maxHeartbeats 4000000 in
set_option maxRecDepth 100000 in
/-- X3_bend -/
theorem c_X3_bend (l : Launch) (G : Gx) (o : Nat) (maps : Int → List Q4) (hand : List Q4) (ud uc : Int) (x i : Int) : Met l yX3_bend wsX3_bend ({ frames := 3, cells := 0, slots := 0, locals := 66 } : Room) (cPc G [.ref o, .int (zI x), .int (zI i)] (fun H => MX G H o maps hand ud uc ∧ iR x ∧ iR i ∧ VMs maps)) (qI (fun r => r = if thP maps x ∧ 0 ≤ i ∧ i < (maps x).length then (if i = 0 then steep (qat (maps x) i) else steep (qat (maps x) i) - steep (qat (maps x) (i - 1))) else -1000)) 0 0 (fun _ => False) := by
  refine Met.ofJ (cc := cX3_bend) (maxL := 3) (ret := (some .int)) (lv0 := [(0, .ref o), (1, .int (zI x)), (2, .int (zI i))]) (by decide) rfl (Nat.le_of_ble_eq_true rfl) rfl ?_
  intro p e s m args below meth c C hr hnm hpre
  obtain ⟨⟨us, uo, ub, uw, ua, ue, ux, m0, m1, m3, m7, m8, m12, m13, m14, m15, m16, hM, hT, hHd, hBL⟩, ⟨hx1, hx2⟩, ⟨hi1, hi2⟩, hV⟩ := hpre
  have hwX3 : ∀ w ∈ u_ws RX3 TX3 20, w ∈ wsX3_bend := by decide +kernel
  have hs := hT.iR hV
  refine j_aload_n C dX3_bend_0 rfl ?_
  refine j_iload_n C dX3_bend_1 rfl ?_
  refine j_callI (jrunV (rest := []) (As := [.int (zI x)]) C (c_X3_isMap l G o (hand.length : Int) ud uc us uo ub uw ua ue ux m0 m1 m3 m7 m8 m12 m13 m14 m15 m16 x) gX3_bend_X3_isMap rfl 1 (by decide +kernel) rfl rfl ⟨Nat.le_of_ble_eq_true rfl, Nat.le_of_ble_eq_true rfl⟩ hM.1 rfl ⟨hM, ⟨by omega, by omega⟩, hs⟩ rfl rfl (Nat.le_of_ble_eq_true rfl) ⟨Nat.le_of_ble_eq_true rfl, Nat.le_of_ble_eq_true rfl⟩ dX3_bend_2) (fun r2 h2 => ?_)
  rcases h2 with ⟨⟨h2, h2b⟩, rfl⟩ | ⟨h2, rfl⟩
  · skip
    have h2 : thP maps x := ⟨h2, by have := (hT x h2.1 h2.2).1; omega⟩
    have hVx := hV x h2.1.1 h2.1.2 h2.2
    have hTx := hT x h2.1.1 h2.1.2
    have hlx := hVx.len
    refine j_if_eq (tgt := 26) C dX3_bend_5 (by decide) ⟨by decide, by decide⟩ (fun c5 => absurd c5 (by decide)) (fun c5 => ?_)
    refine j_iload_n C dX3_bend_8 rfl ?_
    refine j_i2l C dX3_bend_9 ⟨by omega, by omega⟩ ?_
    refine j_lconst (z := 0) C dX3_bend_10 rfl ?_
    refine j_aload_n C dX3_bend_11 rfl ?_
    refine j_get (T := TX3) (N := 20) (fs := _) (v := .ref (o + 1)) C hwX3 hM.1 0 (by decide) rfl (index := 7) (ref := "TreePairsModel") (by decide +kernel) rfl rfl dX3_bend_12 ?_
    refine j_iload_n C dX3_bend_15 rfl ?_
    refine j_iald C hM.2.1 h2.1 dX3_bend_16 ?_
    refine j_iconst C dX3_bend_17 ?_
    refine j_isub C dX3_bend_18 ?_
    refine j_i2l C dX3_bend_19 ⟨by omega, by omega⟩ ?_
    have hms := hTx.1
    refine j_callI (jrunS (rest := []) (As := [.long (zL i), .long (zL 0), .long (zL ((m0 x) - 1))]) C (c_X3_in l G i 0 (m0 x - 1)) gX3_bend_X3_in rfl 3 (by decide +kernel) rfl rfl ⟨Nat.le_of_ble_eq_true rfl, Nat.le_of_ble_eq_true rfl⟩ ⟨⟨by omega, by omega⟩, ⟨by decide, by decide⟩, ⟨by omega, by omega⟩⟩ rfl rfl (Nat.le_of_ble_eq_true rfl) ⟨Nat.le_of_ble_eq_true rfl, Nat.le_of_ble_eq_true rfl⟩ dX3_bend_20) (fun r20 h20 => ?_)
    rcases h20 with ⟨h20, rfl⟩ | ⟨h20, rfl⟩
    · skip
      refine j_if_ne (tgt := 30) C dX3_bend_23 (by decide) ⟨by decide, by decide⟩ (fun c23 => ?_) (fun c23 => absurd c23 (by decide))
      refine j_iload_n C dX3_bend_30 rfl ?_
      refine j_if_ne (tgt := 43) C dX3_bend_31 (by decide) ⟨by omega, by omega⟩ (fun c31 => ?_) (fun c31 => ?_)
      · skip
        refine j_aload_n C dX3_bend_43 rfl ?_
        refine j_iload_n C dX3_bend_44 rfl ?_
        refine j_iload_n C dX3_bend_45 rfl ?_
        refine j_callI (jrunV (rest := []) (As := [.int (zI x), .int (zI i)]) C (c_X3_slope l G o (hand.length : Int) ud uc us uo ub uw ua ue ux m0 m1 m3 m7 m8 m12 m13 m14 m15 m16 x i) gX3_bend_X3_slope rfl 2 (by decide +kernel) rfl rfl ⟨Nat.le_of_ble_eq_true rfl, Nat.le_of_ble_eq_true rfl⟩ hM.1 rfl ⟨hM, h2.1, by omega, by omega⟩ rfl rfl (Nat.le_of_ble_eq_true rfl) ⟨Nat.le_of_ble_eq_true rfl, Nat.le_of_ble_eq_true rfl⟩ dX3_bend_46) (fun r46 h46 => ?_)
        refine j_aload_n C dX3_bend_49 rfl ?_
        refine j_iload_n C dX3_bend_50 rfl ?_
        refine j_iload_n C dX3_bend_51 rfl ?_
        refine j_iconst C dX3_bend_52 ?_
        refine j_isub C dX3_bend_53 ?_
        refine j_callI (jrunV (rest := [.int (zI r46)]) (As := [.int (zI x), .int (zI (i - 1))]) C (c_X3_slope l G o (hand.length : Int) ud uc us uo ub uw ua ue ux m0 m1 m3 m7 m8 m12 m13 m14 m15 m16 x (i - 1)) gX3_bend_X3_slope rfl 2 (by decide +kernel) rfl rfl ⟨Nat.le_of_ble_eq_true rfl, Nat.le_of_ble_eq_true rfl⟩ hM.1 rfl ⟨hM, h2.1, by omega, by omega⟩ rfl rfl (Nat.le_of_ble_eq_true rfl) ⟨Nat.le_of_ble_eq_true rfl, Nat.le_of_ble_eq_true rfl⟩ dX3_bend_54) (fun r54 h54 => ?_)
        refine j_isub C dX3_bend_57 ?_
        exact j_ireti C hr (Nat.le_refl _) (Nat.zero_le _) (by show _ = _; rw [if_pos ⟨h2, h20.1, by omega⟩, if_neg (by omega), h46, h54, steep_at hTx.2 (by omega) (by omega), steep_at hTx.2 (by omega) (by omega)]) dX3_bend_58
      · skip
        refine j_aload_n C dX3_bend_34 rfl ?_
        refine j_iload_n C dX3_bend_35 rfl ?_
        refine j_iconst C dX3_bend_36 ?_
        refine j_callI (jrunV (rest := []) (As := [.int (zI x), .int (zI 0)]) C (c_X3_slope l G o (hand.length : Int) ud uc us uo ub uw ua ue ux m0 m1 m3 m7 m8 m12 m13 m14 m15 m16 x 0) gX3_bend_X3_slope rfl 2 (by decide +kernel) rfl rfl ⟨Nat.le_of_ble_eq_true rfl, Nat.le_of_ble_eq_true rfl⟩ hM.1 rfl ⟨hM, h2.1, by omega, by omega⟩ rfl rfl (Nat.le_of_ble_eq_true rfl) ⟨Nat.le_of_ble_eq_true rfl, Nat.le_of_ble_eq_true rfl⟩ dX3_bend_37) (fun r37 h37 => ?_)
        refine j_goto (tgt := 58) C dX3_bend_40 (by decide) ?_
        exact j_ireti C hr (Nat.le_refl _) (Nat.zero_le _) (by show _ = _; rw [if_pos ⟨h2, h20.1, by omega⟩, if_pos (by omega)]; have e : i = 0 := (by omega); subst e; rw [h37]; exact steep_at hTx.2 (by omega) (by omega)) dX3_bend_58
    · skip
      refine j_if_ne (tgt := 30) C dX3_bend_23 (by decide) ⟨by decide, by decide⟩ (fun c23 => absurd c23 (by decide)) (fun c23 => ?_)
      refine j_sipush C dX3_bend_26 (by decide) ?_
      exact j_ireti C hr (Nat.le_refl _) (Nat.zero_le _) (by show _ = _; rw [if_neg (fun h => by first | exact h2 h.1 | exact h20 ⟨h.2.1, by omega⟩)]) dX3_bend_29
  · skip
    have h2 : ¬ thP maps x := (fun h => h2 ⟨h.1, by have := (hT x h.1.1 h.1.2).1; have := h.2; omega⟩)
    refine j_if_eq (tgt := 26) C dX3_bend_5 (by decide) ⟨by decide, by decide⟩ (fun c5 => ?_) (fun c5 => absurd c5 (by decide))
    refine j_sipush C dX3_bend_26 (by decide) ?_
    exact j_ireti C hr (Nat.le_refl _) (Nat.zero_le _) (by show _ = _; rw [if_neg (fun h => by first | exact h2 h.1 | exact h20 ⟨h.2.1, by omega⟩)]) dX3_bend_29

set_option maxHeartbeats 4000000 in
set_option maxRecDepth 100000 in
/-- X3_still -/
theorem c_X3_still (l : Launch) (G : Gx) (o : Nat) (maps : Int → List Q4) (hand : List Q4) (ud uc : Int) (x : Int) : Met l yX3_still wsX3_still ({ frames := 3, cells := 0, slots := 0, locals := 66 } : Room) (cPc G [.ref o, .int (zI x)] (fun H => MX G H o maps hand ud uc ∧ iR x ∧ VMs maps)) (qI (fun r => r = if thP maps x then stC (maps x) else -101)) 0 0 (fun _ => False) := by
  refine Met.ofJ (cc := cX3_still) (maxL := 5) (ret := (some .int)) (lv0 := [(0, .ref o), (1, .int (zI x))]) (by decide) rfl (Nat.le_of_ble_eq_true rfl) rfl ?_
  intro p e s m args below meth c C hr hnm hpre
  obtain ⟨⟨us, uo, ub, uw, ua, ue, ux, m0, m1, m3, m7, m8, m12, m13, m14, m15, m16, hM, hT, hHd, hBL⟩, ⟨hx1, hx2⟩, hV⟩ := hpre
  have hwX3 : ∀ w ∈ u_ws RX3 TX3 20, w ∈ wsX3_still := by decide +kernel
  have hs := hT.iR hV
  refine j_aload_n C dX3_still_0 rfl ?_
  refine j_iload_n C dX3_still_1 rfl ?_
  refine j_callI (jrunV (rest := []) (As := [.int (zI x)]) C (c_X3_isMap l G o (hand.length : Int) ud uc us uo ub uw ua ue ux m0 m1 m3 m7 m8 m12 m13 m14 m15 m16 x) gX3_still_X3_isMap rfl 1 (by decide +kernel) rfl rfl ⟨Nat.le_of_ble_eq_true rfl, Nat.le_of_ble_eq_true rfl⟩ hM.1 rfl ⟨hM, ⟨by omega, by omega⟩, hs⟩ rfl rfl (Nat.le_of_ble_eq_true rfl) ⟨Nat.le_of_ble_eq_true rfl, Nat.le_of_ble_eq_true rfl⟩ dX3_still_2) (fun r2 h2 => ?_)
  rcases h2 with ⟨⟨h2, h2b⟩, rfl⟩ | ⟨h2, rfl⟩
  · skip
    have h2 : thP maps x := ⟨h2, by have := (hT x h2.1 h2.2).1; omega⟩
    have hVx := hV x h2.1.1 h2.1.2 h2.2
    have hTx := hT x h2.1.1 h2.1.2
    have hlx := hVx.len
    refine j_if_ne (tgt := 11) C dX3_still_5 (by decide) ⟨by decide, by decide⟩ (fun c5 => ?_) (fun c5 => absurd c5 (by decide))
    have hmx := hTx.1
    refine j_iconst C dX3_still_11 ?_
    refine j_istore_n (lv' := [(0, .ref o), (1, .int (zI x)), (2, .int (zI 0))]) C dX3_still_12 (by decide) rfl ?_
    refine j_iconst C dX3_still_13 ?_
    refine j_istore_n (lv' := [(0, .ref o), (1, .int (zI x)), (2, .int (zI 0)), (3, .int (zI 0))]) C dX3_still_14 (by decide) rfl ?_
    have K15 : ∀ (fu15 : Nat) (n i : Int), (((maps x).length : Int) - i).toNat < fu15 → 0 ≤ i ∧ i ≤ ((maps x).length : Int) → n = stC ((maps x).take i.toNat) → JJ p l e ({ frames := 3, cells := 0, slots := 0, locals := 66 } : Room) s m args below meth c (MQ below (qI (fun r => r = if thP maps x then stC (maps x) else -101)) args s 0 0 (fun _ => False)) (fun _ => False) 5 s.heap 0 0 15 [(0, .ref o), (1, .int (zI x)), (2, .int (zI n)), (3, .int (zI i))] [] := by
      intro fu15
      induction fu15 with
      | zero => intro n i hm15 hi hn; exact absurd hm15 (Nat.not_lt_zero _)
      | succ fu15 ih15 =>
        intro n i hm15 hi hn
        refine j_iload_n C dX3_still_15 rfl ?_
        refine j_aload_n C dX3_still_16 rfl ?_
        refine j_get (T := TX3) (N := 20) (fs := _) (v := .ref (o + 1)) C hwX3 hM.1 0 (by decide) rfl (index := 7) (ref := "TreePairsModel") (by decide +kernel) rfl rfl dX3_still_17 ?_
        refine j_iload_n C dX3_still_20 rfl ?_
        refine j_iald C hM.2.1 h2.1 dX3_still_21 ?_
        refine j_icmp_ge (tgt := 89) C dX3_still_22 (by decide) ⟨by omega, by omega⟩ ⟨by omega, by omega⟩ (fun c22 => ?_) (fun c22 => ?_)
        · skip
          rw [take_all (maps x) (by omega)] at hn
          refine j_iload_n C dX3_still_89 rfl ?_
          exact j_ireti C hr (Nat.le_refl _) (Nat.zero_le _) (by show _ = _; rw [if_pos h2]; exact hn) dX3_still_90
        · skip
          have hss := stC_s (L := maps x) (i := i) (by omega) (by omega)
          have hsq : stP (qat (maps x) i) ↔ m1 (96 * x + 4 * i) = m1 (96 * x + 4 * i + 2) ∧ m1 (96 * x + 4 * i + 1) = m1 (96 * x + 4 * i + 3) := (by rw [hTx.2 i (by omega) (by omega)]; show m1 _ = m1 _ ∧ m1 _ = m1 _ ↔ _; rw [Int.add_assoc, Int.add_assoc, Int.add_assoc])
          have r0 := hTx.2.iR4 hVx.B (k := 4 * i) (by omega) (by omega)
          have r1 := hTx.2.iR4 hVx.B (k := 4 * i + 1) (by omega) (by omega)
          have r2 := hTx.2.iR4 hVx.B (k := 4 * i + 2) (by omega) (by omega)
          have r3 := hTx.2.iR4 hVx.B (k := 4 * i + 3) (by omega) (by omega)
          simp only [← Int.add_assoc] at r0 r1 r2 r3
          refine j_bipush C dX3_still_25 (by decide) ?_
          refine j_iload_n C dX3_still_27 rfl ?_
          refine j_imul C dX3_still_28 ?_
          refine j_iconst C dX3_still_29 ?_
          refine j_iload_n C dX3_still_30 rfl ?_
          refine j_imul C dX3_still_31 ?_
          refine j_iadd C dX3_still_32 ?_
          refine j_istore (lv' := [(0, .ref o), (1, .int (zI x)), (2, .int (zI n)), (3, .int (zI i)), (4, .int (zI ((96 * x) + (4 * i))))]) C dX3_still_33 (by decide) rfl ?_
          refine j_iload_n C dX3_still_35 rfl ?_
          refine j_aload_n C dX3_still_36 rfl ?_
          refine j_get (T := TX3) (N := 20) (fs := _) (v := .ref (o + 2)) C hwX3 hM.1 1 (by decide) rfl (index := 13) (ref := "TreePairsModel") (by decide +kernel) rfl rfl dX3_still_37 ?_
          refine j_iload C dX3_still_40 rfl ?_
          refine j_iald C hM.2.2.1 ⟨by omega, by omega⟩ dX3_still_42 ?_
          refine j_aload_n C dX3_still_43 rfl ?_
          refine j_get (T := TX3) (N := 20) (fs := _) (v := .ref (o + 2)) C hwX3 hM.1 1 (by decide) rfl (index := 13) (ref := "TreePairsModel") (by decide +kernel) rfl rfl dX3_still_44 ?_
          refine j_iload C dX3_still_47 rfl ?_
          refine j_iconst C dX3_still_49 ?_
          refine j_iadd C dX3_still_50 ?_
          refine j_iald C hM.2.2.1 ⟨by omega, by omega⟩ dX3_still_51 ?_
          refine j_icmp_ne (tgt := 80) C dX3_still_52 (by decide) r0 r2 (fun c52 => ?_) (fun c52 => ?_)
          · skip
            rw [if_neg (fun h => by have := hsq.mp h; omega)] at hss
            refine j_iconst C dX3_still_80 ?_
            refine j_iadd C dX3_still_81 ?_
            refine j_istore_n (lv' := [(0, .ref o), (1, .int (zI x)), (2, .int (zI (n + 0))), (3, .int (zI i)), (4, .int (zI ((96 * x) + (4 * i))))]) C dX3_still_82 (by decide) rfl ?_
            refine j_iinc (lv' := [(0, .ref o), (1, .int (zI x)), (2, .int (zI (n + 0))), (3, .int (zI (i + 1))), (4, .int (zI ((96 * x) + (4 * i))))]) C dX3_still_83 rfl (by decide) rfl ?_
            refine j_goto (tgt := 15) C dX3_still_86 (by decide) ?_
            exact JJ.drop (lv' := [(0, .ref o), (1, .int (zI x)), (2, .int (zI (n + 0))), (3, .int (zI (i + 1)))]) rfl (ih15 (n + 0) (i + 1) (by omega) ⟨by omega, by omega⟩ (by omega))
          · skip
            refine j_aload_n C dX3_still_55 rfl ?_
            refine j_get (T := TX3) (N := 20) (fs := _) (v := .ref (o + 2)) C hwX3 hM.1 1 (by decide) rfl (index := 13) (ref := "TreePairsModel") (by decide +kernel) rfl rfl dX3_still_56 ?_
            refine j_iload C dX3_still_59 rfl ?_
            refine j_iconst C dX3_still_61 ?_
            refine j_iadd C dX3_still_62 ?_
            refine j_iald C hM.2.2.1 ⟨by omega, by omega⟩ dX3_still_63 ?_
            refine j_aload_n C dX3_still_64 rfl ?_
            refine j_get (T := TX3) (N := 20) (fs := _) (v := .ref (o + 2)) C hwX3 hM.1 1 (by decide) rfl (index := 13) (ref := "TreePairsModel") (by decide +kernel) rfl rfl dX3_still_65 ?_
            refine j_iload C dX3_still_68 rfl ?_
            refine j_iconst C dX3_still_70 ?_
            refine j_iadd C dX3_still_71 ?_
            refine j_iald C hM.2.2.1 ⟨by omega, by omega⟩ dX3_still_72 ?_
            refine j_icmp_ne (tgt := 80) C dX3_still_73 (by decide) r1 r3 (fun c73 => ?_) (fun c73 => ?_)
            · skip
              rw [if_neg (fun h => by have := hsq.mp h; omega)] at hss
              refine j_iconst C dX3_still_80 ?_
              refine j_iadd C dX3_still_81 ?_
              refine j_istore_n (lv' := [(0, .ref o), (1, .int (zI x)), (2, .int (zI (n + 0))), (3, .int (zI i)), (4, .int (zI ((96 * x) + (4 * i))))]) C dX3_still_82 (by decide) rfl ?_
              refine j_iinc (lv' := [(0, .ref o), (1, .int (zI x)), (2, .int (zI (n + 0))), (3, .int (zI (i + 1))), (4, .int (zI ((96 * x) + (4 * i))))]) C dX3_still_83 rfl (by decide) rfl ?_
              refine j_goto (tgt := 15) C dX3_still_86 (by decide) ?_
              exact JJ.drop (lv' := [(0, .ref o), (1, .int (zI x)), (2, .int (zI (n + 0))), (3, .int (zI (i + 1)))]) rfl (ih15 (n + 0) (i + 1) (by omega) ⟨by omega, by omega⟩ (by omega))
            · skip
              rw [if_pos (hsq.mpr (by constructor <;> omega))] at hss
              refine j_iconst C dX3_still_76 ?_
              refine j_goto (tgt := 81) C dX3_still_77 (by decide) ?_
              refine j_iadd C dX3_still_81 ?_
              refine j_istore_n (lv' := [(0, .ref o), (1, .int (zI x)), (2, .int (zI (n + 1))), (3, .int (zI i)), (4, .int (zI ((96 * x) + (4 * i))))]) C dX3_still_82 (by decide) rfl ?_
              refine j_iinc (lv' := [(0, .ref o), (1, .int (zI x)), (2, .int (zI (n + 1))), (3, .int (zI (i + 1))), (4, .int (zI ((96 * x) + (4 * i))))]) C dX3_still_83 rfl (by decide) rfl ?_
              refine j_goto (tgt := 15) C dX3_still_86 (by decide) ?_
              exact JJ.drop (lv' := [(0, .ref o), (1, .int (zI x)), (2, .int (zI (n + 1))), (3, .int (zI (i + 1)))]) rfl (ih15 (n + 1) (i + 1) (by omega) ⟨by omega, by omega⟩ (by omega))
    exact JJ.drop (lv' := [(0, .ref o), (1, .int (zI x)), (2, .int (zI 0)), (3, .int (zI 0))]) rfl (K15 (((((maps x).length : Int) - (0 : Int)).toNat) + 1) 0 0 (Nat.lt_succ_self _) ⟨by omega, by omega⟩ rfl)
  · skip
    have h2 : ¬ thP maps x := (fun h => h2 ⟨h.1, by have := (hT x h.1.1 h.1.2).1; have := h.2; omega⟩)
    refine j_if_ne (tgt := 11) C dX3_still_5 (by decide) ⟨by decide, by decide⟩ (fun c5 => absurd c5 (by decide)) (fun c5 => ?_)
    refine j_bipush C dX3_still_8 (by decide) ?_
    exact j_ireti C hr (Nat.le_refl _) (Nat.zero_le _) (by show _ = _; rw [if_neg h2]) dX3_still_10

set_option maxHeartbeats 4000000 in
set_option maxRecDepth 100000 in
/-- X3_mix -/
theorem c_X3_mix (l : Launch) (G : Gx) (o : Nat) (uh ud uc us uo ub uw ua ue ux : Int) (m0 m1 m3 m7 m8 m12 m13 m14 m15 m16 : Int → Int) (v : Int) : Met l yX3_mix wsX3_mix ({ frames := 0, cells := 0, slots := 0, locals := 0 } : Room) (cPc G [.ref o, .long (zL v)] (fun H => MP G H o uh ud uc us uo ub uw ua ue ux m0 m1 m3 m7 m8 m12 m13 m14 m15 m16)) (qmV (fun H => MP G H o uh ud uc us uo ub uw ua ue (31 * ux + v) m0 m1 m3 m7 m8 m12 m13 m14 m15 m16) (fun q : Nat => o ≤ q ∧ q < o + 11)) 0 0 (fun q : Nat => o ≤ q ∧ q < o + 11) := by
  refine Met.ofJ (cc := cX3_mix) (maxL := 3) (ret := none) (lv0 := [(0, .ref o), (1, .long (zL v))]) (by decide) rfl (Nat.le_of_ble_eq_true rfl) rfl ?_
  intro p e s m args below meth c C hr hnm hpre
  have hwX3 : ∀ w ∈ u_ws RX3 TX3 20, w ∈ wsX3_mix := by decide +kernel
  have hM := hpre
  refine j_aload_n C dX3_mix_0 rfl ?_
  refine j_ldc2 (z := 31) C (index := 190) (v := 31) (by decide +kernel) (by decide) dX3_mix_1 ?_
  refine j_aload_n C dX3_mix_4 rfl ?_
  refine j_get (T := TX3) (N := 20) (fs := _) (v := .long (zL ux)) C hwX3 hM.1 19 (by decide) rfl (index := 192) (ref := "TreePairsModel") (by decide +kernel) rfl rfl dX3_mix_5 ?_
  refine j_lmul C dX3_mix_8 ?_
  refine j_lload_n C dX3_mix_9 rfl ?_
  refine j_ladd C dX3_mix_10 ?_
  refine j_put (T := TX3) (N := 20) (fs' := [.ref (o + 1), .ref (o + 2), .int (zI uh), .ref (o + 3), .int (zI ud), .long (zL uc), .int (zI us), .ref (o + 4), .ref (o + 5), .int (zI uo), .int (zI ub), .int (zI uw), .ref (o + 6), .ref (o + 7), .ref (o + 8), .ref (o + 9), .ref (o + 10), .long (zL ua), .long (zL ue), .long (zL ((31 * ux) + v))]) (ty := .long) C tyX3 tyX3_ok nmX3 hwX3 hM.1 19 (by decide) rfl (index := 192) (ref := "TreePairsModel") (by decide +kernel) rfl rfl (by decide +kernel) rfl rfl (Nat.le_of_ble_eq_true rfl) rfl (by omega) dX3_mix_11 (fun H1 hO hC => ?_)
  have hM := hM.put_h hO hC
  exact j_vret C hr (Nat.le_refl _) (Nat.zero_le _) hM dX3_mix_14

set_option maxHeartbeats 4000000 in
set_option maxRecDepth 100000 in
/-- X3_digest -/
theorem c_X3_digest (l : Launch) (G : Gx) (o : Nat) (maps : Int → List Q4) (hand : List Q4) (ud uc : Int) : Met l yX3_digest wsX3_digest ({ frames := 1, cells := 0, slots := 0, locals := 22 } : Room) (cPc G [.ref o] (fun H => MX G H o maps hand ud uc ∧ VMs maps ∧ (∀ q ∈ hand, LQ 23 q) ∧ hand.length ≤ 24 ∧ iR ud)) (qmL (fun r H => r = dgF maps hand ud uc ∧ MX G H o maps hand ud uc) (fun q : Nat => o ≤ q ∧ q < o + 11)) 0 0 (fun q : Nat => o ≤ q ∧ q < o + 11) := by
  refine Met.ofJ (cc := cX3_digest) (maxL := 3) (ret := (some .long)) (lv0 := [(0, .ref o)]) (by decide) rfl (Nat.le_of_ble_eq_true rfl) rfl ?_
  intro p e s m args below meth c C hr hnm hpre
  obtain ⟨⟨us, uo, ub, uw, ua, ue, ux, m0, m1, m3, m7, m8, m12, m13, m14, m15, m16, hM, hT, hHd, hBL⟩, hV, hHB, hhl, hud⟩ := hpre
  have hwX3 : ∀ w ∈ u_ws RX3 TX3 20, w ∈ wsX3_digest := by decide +kernel
  have hs := hT.iR hV
  refine j_aload_n C dX3_digest_0 rfl ?_
  refine j_ldc2 (z := 167) C (index := 195) (v := 167) (by decide +kernel) (by decide) dX3_digest_1 ?_
  refine j_put (T := TX3) (N := 20) (fs' := [.ref (o + 1), .ref (o + 2), .int (zI (hand.length : Int)), .ref (o + 3), .int (zI ud), .long (zL uc), .int (zI us), .ref (o + 4), .ref (o + 5), .int (zI uo), .int (zI ub), .int (zI uw), .ref (o + 6), .ref (o + 7), .ref (o + 8), .ref (o + 9), .ref (o + 10), .long (zL ua), .long (zL ue), .long (zL 167)]) (ty := .long) C tyX3 tyX3_ok nmX3 hwX3 hM.1 19 (by decide) rfl (index := 192) (ref := "TreePairsModel") (by decide +kernel) rfl rfl (by decide +kernel) rfl rfl (Nat.le_of_ble_eq_true rfl) rfl (by omega) dX3_digest_4 (fun H1 hO hC => ?_)
  have hM := hM.put_h hO hC
  refine j_iconst C dX3_digest_7 ?_
  refine j_istore_n (lv' := [(0, .ref o), (1, .int (zI 0))]) C dX3_digest_8 (by decide) rfl ?_
  have K9 : ∀ (fu9 : Nat) (i h : Int) (Hl1 : Heap), (12 - i).toNat < fu9 → MP G Hl1 o (hand.length : Int) ud uc us uo ub uw ua ue h m0 m1 m3 m7 m8 m12 m13 m14 m15 m16 → 0 ≤ i ∧ i ≤ 12 → h = dgM maps i.toNat → JJ p l e ({ frames := 1, cells := 0, slots := 0, locals := 22 } : Room) s m args below meth c (MQ below (qmL (fun r H => r = dgF maps hand ud uc ∧ MX G H o maps hand ud uc) (fun q : Nat => o ≤ q ∧ q < o + 11)) args s 0 0 (fun q : Nat => o ≤ q ∧ q < o + 11)) (fun q : Nat => o ≤ q ∧ q < o + 11) 3 Hl1 0 0 9 [(0, .ref o), (1, .int (zI i))] [] := by
    intro fu9
    induction fu9 with
    | zero => intro i h Hl1 hm9 hM hi hh; exact absurd hm9 (Nat.not_lt_zero _)
    | succ fu9 ih9 =>
      intro i h Hl1 hm9 hM hi hh
      refine j_iload_n C dX3_digest_9 rfl ?_
      refine j_bipush C dX3_digest_10 (by decide) ?_
      refine j_icmp_ge (tgt := 83) C dX3_digest_12 (by decide) ⟨by omega, by omega⟩ ⟨by decide, by decide⟩ (fun c12 => ?_) (fun c12 => ?_)
      · skip
        have ei : i.toNat = 12 := by omega
        rw [ei] at hh
        refine j_iconst C dX3_digest_83 ?_
        refine j_istore_n (lv' := [(0, .ref o), (1, .int (zI 0))]) C dX3_digest_84 (by decide) rfl ?_
        have K85 : ∀ (fu85 : Nat) (k h : Int) (Hl2 : Heap), (4 * (hand.length : Int) - k).toNat < fu85 → MP G Hl2 o (hand.length : Int) ud uc us uo ub uw ua ue h m0 m1 m3 m7 m8 m12 m13 m14 m15 m16 → 0 ≤ k ∧ k ≤ 4 * (hand.length : Int) → h = hmk (dgM maps 12) m3 k.toNat → JJ p l e ({ frames := 1, cells := 0, slots := 0, locals := 22 } : Room) s m args below meth c (MQ below (qmL (fun r H => r = dgF maps hand ud uc ∧ MX G H o maps hand ud uc) (fun q : Nat => o ≤ q ∧ q < o + 11)) args s 0 0 (fun q : Nat => o ≤ q ∧ q < o + 11)) (fun q : Nat => o ≤ q ∧ q < o + 11) 3 Hl2 0 0 85 [(0, .ref o), (1, .int (zI k))] [] := by
          intro fu85
          induction fu85 with
          | zero => intro k h Hl2 hm85 hM hk hh; exact absurd hm85 (Nat.not_lt_zero _)
          | succ fu85 ih85 =>
            intro k h Hl2 hm85 hM hk hh
            refine j_iload_n C dX3_digest_85 rfl ?_
            refine j_iconst C dX3_digest_86 ?_
            refine j_aload_n C dX3_digest_87 rfl ?_
            refine j_get (T := TX3) (N := 20) (fs := _) (v := .int (zI (hand.length : Int))) C hwX3 hM.1 2 (by decide) rfl (index := 88) (ref := "TreePairsModel") (by decide +kernel) rfl rfl dX3_digest_88 ?_
            refine j_imul C dX3_digest_91 ?_
            refine j_icmp_ge (tgt := 112) C dX3_digest_92 (by decide) ⟨by omega, by omega⟩ ⟨by omega, by omega⟩ (fun c92 => ?_) (fun c92 => ?_)
            · skip
              refine j_aload_n C dX3_digest_112 rfl ?_
              refine j_aload_n C dX3_digest_113 rfl ?_
              refine j_get (T := TX3) (N := 20) (fs := _) (v := .int (zI ud)) C hwX3 hM.1 4 (by decide) rfl (index := 160) (ref := "TreePairsModel") (by decide +kernel) rfl rfl dX3_digest_114 ?_
              refine j_i2l C dX3_digest_117 hud ?_
              refine j_callmV (jrunV (rest := []) (As := [.long (zL ud)]) C (c_X3_mix l G o (hand.length : Int) ud uc us uo ub uw ua ue h m0 m1 m3 m7 m8 m12 m13 m14 m15 m16 ud) gX3_digest_X3_mix rfl 1 (by decide +kernel) rfl rfl ⟨Nat.le_of_ble_eq_true rfl, Nat.le_of_ble_eq_true rfl⟩ hM.1 rfl hM rfl rfl (Nat.le_of_ble_eq_true rfl) ⟨Nat.le_of_ble_eq_true rfl, Nat.le_of_ble_eq_true rfl⟩ dX3_digest_118) (by intro q hq; (try dsimp only at hq ⊢); omega) (fun H2 h118 hF => ?_)
              have hM := h118
              refine j_aload_n C dX3_digest_121 rfl ?_
              refine j_aload_n C dX3_digest_122 rfl ?_
              refine j_get (T := TX3) (N := 20) (fs := _) (v := .long (zL uc)) C hwX3 hM.1 5 (by decide) rfl (index := 163) (ref := "TreePairsModel") (by decide +kernel) rfl rfl dX3_digest_123 ?_
              refine j_callmV (jrunV (rest := []) (As := [.long (zL uc)]) C (c_X3_mix l G o (hand.length : Int) ud uc us uo ub uw ua ue (31 * h + ud) m0 m1 m3 m7 m8 m12 m13 m14 m15 m16 uc) gX3_digest_X3_mix rfl 1 (by decide +kernel) rfl rfl ⟨Nat.le_of_ble_eq_true rfl, Nat.le_of_ble_eq_true rfl⟩ hM.1 rfl hM rfl rfl (Nat.le_of_ble_eq_true rfl) ⟨Nat.le_of_ble_eq_true rfl, Nat.le_of_ble_eq_true rfl⟩ dX3_digest_126) (by intro q hq; (try dsimp only at hq ⊢); omega) (fun H3 h126 hF => ?_)
              have hM := h126
              refine j_aload_n C dX3_digest_129 rfl ?_
              refine j_get (T := TX3) (N := 20) (fs := _) (v := .long (zL (31 * (31 * h + ud) + uc))) C hwX3 hM.1 19 (by decide) rfl (index := 192) (ref := "TreePairsModel") (by decide +kernel) rfl rfl dX3_digest_130 ?_
              exact j_lret C hr (Nat.le_refl _) (Nat.zero_le _) ⟨by unfold dgF; rw [← hmk_all hHd (dgM maps 12) (k := k) (by omega), ← hh], ⟨_, _, _, _, _, _, _, _, _, _, _, _, _, _, _, _, _, hM, hT, hHd, hBL⟩⟩ dX3_digest_133
            · skip
              have hr := hHd.iR4 hHB (k := k) (by omega) (by omega)
              refine j_aload_n C dX3_digest_95 rfl ?_
              refine j_aload_n C dX3_digest_96 rfl ?_
              refine j_get (T := TX3) (N := 20) (fs := _) (v := .ref (o + 3)) C hwX3 hM.1 3 (by decide) rfl (index := 16) (ref := "TreePairsModel") (by decide +kernel) rfl rfl dX3_digest_97 ?_
              refine j_iload_n C dX3_digest_100 rfl ?_
              refine j_iald C hM.2.2.2.1 ⟨by omega, by omega⟩ dX3_digest_101 ?_
              refine j_i2l C dX3_digest_102 hr ?_
              refine j_callmV (jrunV (rest := []) (As := [.long (zL (m3 k))]) C (c_X3_mix l G o (hand.length : Int) ud uc us uo ub uw ua ue h m0 m1 m3 m7 m8 m12 m13 m14 m15 m16 (m3 k)) gX3_digest_X3_mix rfl 1 (by decide +kernel) rfl rfl ⟨Nat.le_of_ble_eq_true rfl, Nat.le_of_ble_eq_true rfl⟩ hM.1 rfl hM rfl rfl (Nat.le_of_ble_eq_true rfl) ⟨Nat.le_of_ble_eq_true rfl, Nat.le_of_ble_eq_true rfl⟩ dX3_digest_103) (by intro q hq; (try dsimp only at hq ⊢); omega) (fun H4 h103 hF => ?_)
              have hM := h103
              refine j_iinc (lv' := [(0, .ref o), (1, .int (zI (k + 1)))]) C dX3_digest_106 rfl (by decide) rfl ?_
              refine j_goto (tgt := 85) C dX3_digest_109 (by decide) ?_
              exact JJ.drop (lv' := [(0, .ref o), (1, .int (zI (k + 1)))]) rfl (ih85 (k + 1) _ H4 (by omega) hM ⟨by omega, by omega⟩ (by rw [hmk_s hk.1, ← hh]))
        exact JJ.drop (lv' := [(0, .ref o), (1, .int (zI 0))]) rfl (K85 (((4 * (hand.length : Int) - (0 : Int)).toNat) + 1) 0 _ Hl1 (Nat.lt_succ_self _) hM ⟨by omega, by omega⟩ hh)
      · skip
        have hTi := hT i (by omega) (by omega)
        have hmi := hTi.1
        have hli := hV.le i (by omega) (by omega)
        have hds := dgM_s (maps := maps) (i := i) hi.1
        refine j_aload_n C dX3_digest_15 rfl ?_
        refine j_aload_n C dX3_digest_16 rfl ?_
        refine j_get (T := TX3) (N := 20) (fs := _) (v := .ref (o + 1)) C hwX3 hM.1 0 (by decide) rfl (index := 7) (ref := "TreePairsModel") (by decide +kernel) rfl rfl dX3_digest_17 ?_
        refine j_iload_n C dX3_digest_20 rfl ?_
        refine j_iald C hM.2.1 ⟨by omega, by omega⟩ dX3_digest_21 ?_
        refine j_if_ne (tgt := 31) C dX3_digest_22 (by decide) ⟨by omega, by omega⟩ (fun c22 => ?_) (fun c22 => ?_)
        · skip
          have hbr : (if thP maps i then ((maps i).length : Int) else -1) = m0 i := (by rw [if_pos ⟨⟨by omega, by omega⟩, by omega⟩, hmi])
          refine j_aload_n C dX3_digest_31 rfl ?_
          refine j_get (T := TX3) (N := 20) (fs := _) (v := .ref (o + 1)) C hwX3 hM.1 0 (by decide) rfl (index := 7) (ref := "TreePairsModel") (by decide +kernel) rfl rfl dX3_digest_32 ?_
          refine j_iload_n C dX3_digest_35 rfl ?_
          refine j_iald C hM.2.1 ⟨by omega, by omega⟩ dX3_digest_36 ?_
          refine j_i2l C dX3_digest_37 ⟨by omega, by omega⟩ ?_
          refine j_callmV (jrunV (rest := []) (As := [.long (zL (m0 i))]) C (c_X3_mix l G o (hand.length : Int) ud uc us uo ub uw ua ue h m0 m1 m3 m7 m8 m12 m13 m14 m15 m16 (m0 i)) gX3_digest_X3_mix rfl 1 (by decide +kernel) rfl rfl ⟨Nat.le_of_ble_eq_true rfl, Nat.le_of_ble_eq_true rfl⟩ hM.1 rfl hM rfl rfl (Nat.le_of_ble_eq_true rfl) ⟨Nat.le_of_ble_eq_true rfl, Nat.le_of_ble_eq_true rfl⟩ dX3_digest_38) (by intro q hq; (try dsimp only at hq ⊢); omega) (fun H5 h38 hF => ?_)
          have hM := h38
          obtain ⟨h0, hh0e⟩ : ∃ z : Int, z = (31 * h + (m0 i)) := ⟨_, rfl⟩
          have hh0 : h0 = (31 * dgM maps i.toNat + (m0 i)) := (by rw [hh0e, hh])
          refine j_iconst C dX3_digest_41 ?_
          refine j_istore_n (lv' := [(0, .ref o), (1, .int (zI i)), (2, .int (zI 0))]) C dX3_digest_42 (by decide) rfl ?_
          have K43 : ∀ (fu43 : Nat) (k h : Int) (Hl3 : Heap), (4 * ((maps i).length : Int) - k).toNat < fu43 → MP G Hl3 o (hand.length : Int) ud uc us uo ub uw ua ue h m0 m1 m3 m7 m8 m12 m13 m14 m15 m16 → 0 ≤ k ∧ k ≤ 4 * ((maps i).length : Int) → h = hmk h0 (fun q => m1 (96 * i + q)) k.toNat → JJ p l e ({ frames := 1, cells := 0, slots := 0, locals := 22 } : Room) s m args below meth c (MQ below (qmL (fun r H => r = dgF maps hand ud uc ∧ MX G H o maps hand ud uc) (fun q : Nat => o ≤ q ∧ q < o + 11)) args s 0 0 (fun q : Nat => o ≤ q ∧ q < o + 11)) (fun q : Nat => o ≤ q ∧ q < o + 11) 3 Hl3 0 0 43 [(0, .ref o), (1, .int (zI i)), (2, .int (zI k))] [] := by
            intro fu43
            induction fu43 with
            | zero => intro k h Hl3 hm43 hM hk hh; exact absurd hm43 (Nat.not_lt_zero _)
            | succ fu43 ih43 =>
              intro k h Hl3 hm43 hM hk hh
              refine j_iload_n C dX3_digest_43 rfl ?_
              refine j_iconst C dX3_digest_44 ?_
              refine j_aload_n C dX3_digest_45 rfl ?_
              refine j_get (T := TX3) (N := 20) (fs := _) (v := .ref (o + 1)) C hwX3 hM.1 0 (by decide) rfl (index := 7) (ref := "TreePairsModel") (by decide +kernel) rfl rfl dX3_digest_46 ?_
              refine j_iload_n C dX3_digest_49 rfl ?_
              refine j_iald C hM.2.1 ⟨by omega, by omega⟩ dX3_digest_50 ?_
              refine j_imul C dX3_digest_51 ?_
              refine j_icmp_ge (tgt := 77) C dX3_digest_52 (by decide) ⟨by omega, by omega⟩ ⟨by omega, by omega⟩ (fun c52 => ?_) (fun c52 => ?_)
              · skip
                refine j_iinc (lv' := [(0, .ref o), (1, .int (zI (i + 1))), (2, .int (zI k))]) C dX3_digest_77 rfl (by decide) rfl ?_
                refine j_goto (tgt := 9) C dX3_digest_80 (by decide) ?_
                exact JJ.drop (lv' := [(0, .ref o), (1, .int (zI (i + 1)))]) rfl (ih9 (i + 1) _ Hl3 (by omega) hM ⟨by omega, by omega⟩ (by rw [hds, hbr, ← hh0, ← hmk_all hTi.2 h0 (k := k) (by omega)]; exact hh))
              · skip
                have hr := hTi.2.iR4 (B_of_nil hV (by omega) (by omega)) (k := k) (by omega) (by omega)
                refine j_aload_n C dX3_digest_55 rfl ?_
                refine j_aload_n C dX3_digest_56 rfl ?_
                refine j_get (T := TX3) (N := 20) (fs := _) (v := .ref (o + 2)) C hwX3 hM.1 1 (by decide) rfl (index := 13) (ref := "TreePairsModel") (by decide +kernel) rfl rfl dX3_digest_57 ?_
                refine j_bipush C dX3_digest_60 (by decide) ?_
                refine j_iload_n C dX3_digest_62 rfl ?_
                refine j_imul C dX3_digest_63 ?_
                refine j_iload_n C dX3_digest_64 rfl ?_
                refine j_iadd C dX3_digest_65 ?_
                refine j_iald C hM.2.2.1 ⟨by omega, by omega⟩ dX3_digest_66 ?_
                refine j_i2l C dX3_digest_67 hr ?_
                refine j_callmV (jrunV (rest := []) (As := [.long (zL (m1 ((96 * i) + k)))]) C (c_X3_mix l G o (hand.length : Int) ud uc us uo ub uw ua ue h m0 m1 m3 m7 m8 m12 m13 m14 m15 m16 (m1 (96 * i + k))) gX3_digest_X3_mix rfl 1 (by decide +kernel) rfl rfl ⟨Nat.le_of_ble_eq_true rfl, Nat.le_of_ble_eq_true rfl⟩ hM.1 rfl hM rfl rfl (Nat.le_of_ble_eq_true rfl) ⟨Nat.le_of_ble_eq_true rfl, Nat.le_of_ble_eq_true rfl⟩ dX3_digest_68) (by intro q hq; (try dsimp only at hq ⊢); omega) (fun H6 h68 hF => ?_)
                have hM := h68
                refine j_iinc (lv' := [(0, .ref o), (1, .int (zI i)), (2, .int (zI (k + 1)))]) C dX3_digest_71 rfl (by decide) rfl ?_
                refine j_goto (tgt := 43) C dX3_digest_74 (by decide) ?_
                exact JJ.drop (lv' := [(0, .ref o), (1, .int (zI i)), (2, .int (zI (k + 1)))]) rfl (ih43 (k + 1) _ H6 (by omega) hM ⟨by omega, by omega⟩ (by rw [hmk_s hk.1, ← hh]))
          exact JJ.drop (lv' := [(0, .ref o), (1, .int (zI i)), (2, .int (zI 0))]) rfl (K43 (((4 * ((maps i).length : Int) - (0 : Int)).toNat) + 1) 0 h0 H5 (Nat.lt_succ_self _) (by rw [← hh0e] at hM; exact hM) ⟨by omega, by omega⟩ rfl)
        · skip
          have hbr : (if thP maps i then ((maps i).length : Int) else -1) = -1 := if_neg (fun h => by have := h.2; omega)
          refine j_ldc2 (z := (-1)) C (index := 173) (v := (-1)) (by decide +kernel) (by decide) dX3_digest_25 ?_
          refine j_goto (tgt := 38) C dX3_digest_28 (by decide) ?_
          refine j_callmV (jrunV (rest := []) (As := [.long (zL (-1))]) C (c_X3_mix l G o (hand.length : Int) ud uc us uo ub uw ua ue h m0 m1 m3 m7 m8 m12 m13 m14 m15 m16 (-1)) gX3_digest_X3_mix rfl 1 (by decide +kernel) rfl rfl ⟨Nat.le_of_ble_eq_true rfl, Nat.le_of_ble_eq_true rfl⟩ hM.1 rfl hM rfl rfl (Nat.le_of_ble_eq_true rfl) ⟨Nat.le_of_ble_eq_true rfl, Nat.le_of_ble_eq_true rfl⟩ dX3_digest_38) (by intro q hq; (try dsimp only at hq ⊢); omega) (fun H7 h38 hF => ?_)
          have hM := h38
          obtain ⟨h0, hh0e⟩ : ∃ z : Int, z = (31 * h + (-1)) := ⟨_, rfl⟩
          have hh0 : h0 = (31 * dgM maps i.toNat + (-1)) := (by rw [hh0e, hh])
          refine j_iconst C dX3_digest_41 ?_
          refine j_istore_n (lv' := [(0, .ref o), (1, .int (zI i)), (2, .int (zI 0))]) C dX3_digest_42 (by decide) rfl ?_
          have K43 : ∀ (fu43 : Nat) (k h : Int) (Hl4 : Heap), (4 * ((maps i).length : Int) - k).toNat < fu43 → MP G Hl4 o (hand.length : Int) ud uc us uo ub uw ua ue h m0 m1 m3 m7 m8 m12 m13 m14 m15 m16 → 0 ≤ k ∧ k ≤ 4 * ((maps i).length : Int) → h = hmk h0 (fun q => m1 (96 * i + q)) k.toNat → JJ p l e ({ frames := 1, cells := 0, slots := 0, locals := 22 } : Room) s m args below meth c (MQ below (qmL (fun r H => r = dgF maps hand ud uc ∧ MX G H o maps hand ud uc) (fun q : Nat => o ≤ q ∧ q < o + 11)) args s 0 0 (fun q : Nat => o ≤ q ∧ q < o + 11)) (fun q : Nat => o ≤ q ∧ q < o + 11) 3 Hl4 0 0 43 [(0, .ref o), (1, .int (zI i)), (2, .int (zI k))] [] := by
            intro fu43
            induction fu43 with
            | zero => intro k h Hl4 hm43 hM hk hh; exact absurd hm43 (Nat.not_lt_zero _)
            | succ fu43 ih43 =>
              intro k h Hl4 hm43 hM hk hh
              refine j_iload_n C dX3_digest_43 rfl ?_
              refine j_iconst C dX3_digest_44 ?_
              refine j_aload_n C dX3_digest_45 rfl ?_
              refine j_get (T := TX3) (N := 20) (fs := _) (v := .ref (o + 1)) C hwX3 hM.1 0 (by decide) rfl (index := 7) (ref := "TreePairsModel") (by decide +kernel) rfl rfl dX3_digest_46 ?_
              refine j_iload_n C dX3_digest_49 rfl ?_
              refine j_iald C hM.2.1 ⟨by omega, by omega⟩ dX3_digest_50 ?_
              refine j_imul C dX3_digest_51 ?_
              refine j_icmp_ge (tgt := 77) C dX3_digest_52 (by decide) ⟨by omega, by omega⟩ ⟨by omega, by omega⟩ (fun c52 => ?_) (fun c52 => ?_)
              · skip
                refine j_iinc (lv' := [(0, .ref o), (1, .int (zI (i + 1))), (2, .int (zI k))]) C dX3_digest_77 rfl (by decide) rfl ?_
                refine j_goto (tgt := 9) C dX3_digest_80 (by decide) ?_
                exact JJ.drop (lv' := [(0, .ref o), (1, .int (zI (i + 1)))]) rfl (ih9 (i + 1) _ Hl4 (by omega) hM ⟨by omega, by omega⟩ (by rw [hds, hbr, ← hh0, ← hmk_all hTi.2 h0 (k := k) (by omega)]; exact hh))
              · skip
                have hr := hTi.2.iR4 (B_of_nil hV (by omega) (by omega)) (k := k) (by omega) (by omega)
                refine j_aload_n C dX3_digest_55 rfl ?_
                refine j_aload_n C dX3_digest_56 rfl ?_
                refine j_get (T := TX3) (N := 20) (fs := _) (v := .ref (o + 2)) C hwX3 hM.1 1 (by decide) rfl (index := 13) (ref := "TreePairsModel") (by decide +kernel) rfl rfl dX3_digest_57 ?_
                refine j_bipush C dX3_digest_60 (by decide) ?_
                refine j_iload_n C dX3_digest_62 rfl ?_
                refine j_imul C dX3_digest_63 ?_
                refine j_iload_n C dX3_digest_64 rfl ?_
                refine j_iadd C dX3_digest_65 ?_
                refine j_iald C hM.2.2.1 ⟨by omega, by omega⟩ dX3_digest_66 ?_
                refine j_i2l C dX3_digest_67 hr ?_
                refine j_callmV (jrunV (rest := []) (As := [.long (zL (m1 ((96 * i) + k)))]) C (c_X3_mix l G o (hand.length : Int) ud uc us uo ub uw ua ue h m0 m1 m3 m7 m8 m12 m13 m14 m15 m16 (m1 (96 * i + k))) gX3_digest_X3_mix rfl 1 (by decide +kernel) rfl rfl ⟨Nat.le_of_ble_eq_true rfl, Nat.le_of_ble_eq_true rfl⟩ hM.1 rfl hM rfl rfl (Nat.le_of_ble_eq_true rfl) ⟨Nat.le_of_ble_eq_true rfl, Nat.le_of_ble_eq_true rfl⟩ dX3_digest_68) (by intro q hq; (try dsimp only at hq ⊢); omega) (fun H8 h68 hF => ?_)
                have hM := h68
                refine j_iinc (lv' := [(0, .ref o), (1, .int (zI i)), (2, .int (zI (k + 1)))]) C dX3_digest_71 rfl (by decide) rfl ?_
                refine j_goto (tgt := 43) C dX3_digest_74 (by decide) ?_
                exact JJ.drop (lv' := [(0, .ref o), (1, .int (zI i)), (2, .int (zI (k + 1)))]) rfl (ih43 (k + 1) _ H8 (by omega) hM ⟨by omega, by omega⟩ (by rw [hmk_s hk.1, ← hh]))
          exact JJ.drop (lv' := [(0, .ref o), (1, .int (zI i)), (2, .int (zI 0))]) rfl (K43 (((4 * ((maps i).length : Int) - (0 : Int)).toNat) + 1) 0 h0 H7 (Nat.lt_succ_self _) (by rw [← hh0e] at hM; exact hM) ⟨by omega, by omega⟩ rfl)
  exact JJ.drop (lv' := [(0, .ref o), (1, .int (zI 0))]) rfl (K9 (((12 - (0 : Int)).toNat) + 1) 0 167 H1 (Nat.lt_succ_self _) hM ⟨by omega, by omega⟩ rfl)
