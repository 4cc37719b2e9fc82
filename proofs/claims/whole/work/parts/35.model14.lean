set_option maxHeartbeats 4000000 in
set_option maxRecDepth 100000 in
/-- X3_single -/
theorem c_X3_single (l : Launch) (G : Gx) (o : Nat) (maps : Int → List Q4) (hand : List Q4) (ud uc : Int) (x : Int) : Met l yX3_single wsX3_single ({ frames := 3, cells := 0, slots := 0, locals := 66 } : Room) (cPc G [.ref o, .int (zI x)] (fun H => MX G H o maps hand ud uc ∧ iR x ∧ VMs maps)) (qmI (fun r H => r = (if thP maps x then hsC (maps x) else -101) ∧ MX G H o maps hand ud uc) (fun q : Nat => o ≤ q ∧ q < o + 11)) 0 0 (fun q : Nat => o ≤ q ∧ q < o + 11) := by
  refine Met.ofJ (cc := cX3_single) (maxL := 2) (ret := (some .int)) (lv0 := [(0, .ref o), (1, .int (zI x))]) (by decide) rfl (Nat.le_of_ble_eq_true rfl) rfl ?_
  intro p e s m args below meth c C hr hnm hpre
  obtain ⟨⟨us, uo, ub, uw, ua, ue, ux, m0, m1, m3, m7, m8, m12, m13, m14, m15, m16, hM, hT, hHd, hBL⟩, ⟨hx1, hx2⟩, hV⟩ := hpre
  have hs := hT.iR hV
  refine j_aload_n C dX3_single_0 rfl ?_
  refine j_iload_n C dX3_single_1 rfl ?_
  refine j_callI (jrunV (rest := []) (As := [.int (zI x)]) C (c_X3_isMap l G o (hand.length : Int) ud uc us uo ub uw ua ue ux m0 m1 m3 m7 m8 m12 m13 m14 m15 m16 x) gX3_single_X3_isMap rfl 1 (by decide +kernel) rfl rfl ⟨Nat.le_of_ble_eq_true rfl, Nat.le_of_ble_eq_true rfl⟩ hM.1 rfl ⟨hM, ⟨by omega, by omega⟩, hs⟩ rfl rfl (Nat.le_of_ble_eq_true rfl) ⟨Nat.le_of_ble_eq_true rfl, Nat.le_of_ble_eq_true rfl⟩ dX3_single_2) (fun r2 h2 => ?_)
  rcases h2 with ⟨⟨h2, h2b⟩, rfl⟩ | ⟨h2, rfl⟩
  · skip
    have h2 : thP maps x := ⟨h2, by have := (hT x h2.1 h2.2).1; omega⟩
    have hVx := hV x h2.1.1 h2.1.2 h2.2
    have hTx := hT x h2.1.1 h2.1.2
    have hlx := hVx.len
    refine j_if_eq (tgt := 17) C dX3_single_5 (by decide) ⟨by decide, by decide⟩ (fun c5 => absurd c5 (by decide)) (fun c5 => ?_)
    refine j_aload_n C dX3_single_8 rfl ?_
    refine j_iload_n C dX3_single_9 rfl ?_
    refine j_iconst C dX3_single_10 ?_
    refine j_callmI (jrunV (rest := []) (As := [.int (zI x), .int (zI (-1))]) C (c_X3_seek l G o maps hand ud uc x (-1)) gX3_single_X3_seek rfl 2 (by decide +kernel) rfl rfl ⟨Nat.le_of_ble_eq_true rfl, Nat.le_of_ble_eq_true rfl⟩ hM.1 rfl ⟨⟨_, _, _, _, _, _, _, _, _, _, _, _, _, _, _, _, _, hM, hT, hHd, hBL⟩, hV, h2, by omega, by omega⟩ rfl rfl (Nat.le_of_ble_eq_true rfl) ⟨Nat.le_of_ble_eq_true rfl, Nat.le_of_ble_eq_true rfl⟩ dX3_single_11) (by intro q hq; (try dsimp only at hq ⊢); omega) (fun r11 H1 h11 hF => ?_)
    obtain ⟨h11, us, uo, ub, uw, ua, ue, ux, m0, m1, m3, m7, m8, m12, m13, m14, m15, m16, hM, hT, hHd, hBL, hua, hue⟩ := h11
    refine j_goto (tgt := 19) C dX3_single_14 (by decide) ?_
    exact j_iret C hr (Nat.le_refl _) (Nat.zero_le _) ⟨by rw [if_pos h2]; exact h11, ⟨_, _, _, _, _, _, _, _, _, _, _, _, _, _, _, _, _, hM, hT, hHd, hBL⟩⟩ dX3_single_19
  · skip
    have h2 : ¬ thP maps x := (fun h => h2 ⟨h.1, by have := (hT x h.1.1 h.1.2).1; have := h.2; omega⟩)
    refine j_if_eq (tgt := 17) C dX3_single_5 (by decide) ⟨by decide, by decide⟩ (fun c5 => ?_) (fun c5 => absurd c5 (by decide))
    refine j_bipush C dX3_single_17 (by decide) ?_
    exact j_iret C hr (Nat.le_refl _) (Nat.zero_le _) ⟨by rw [if_neg h2], ⟨_, _, _, _, _, _, _, _, _, _, _, _, _, _, _, _, _, hM, hT, hHd, hBL⟩⟩ dX3_single_19

set_option maxHeartbeats 4000000 in
set_option maxRecDepth 100000 in
/-- X3_point -/
theorem c_X3_point (l : Launch) (G : Gx) (o : Nat) (maps : Int → List Q4) (hand : List Q4) (ud uc : Int) (x k w : Int) : Met l yX3_point wsX3_point ({ frames := 3, cells := 0, slots := 0, locals := 66 } : Room) (cPc G [.ref o, .int (zI x), .int (zI k), .int (zI w)] (fun H => MX G H o maps hand ud uc ∧ iR x ∧ iR k ∧ iR w ∧ VMs maps)) (qmL (fun r H => r = (if thP maps x then (if 0 ≤ w ∧ w ≤ 1 then ptG (maps x) k w else -102) else -101) ∧ MX G H o maps hand ud uc) (fun q : Nat => o ≤ q ∧ q < o + 11)) 0 0 (fun q : Nat => o ≤ q ∧ q < o + 11) := by
  refine Met.ofJ (cc := cX3_point) (maxL := 4) (ret := (some .long)) (lv0 := [(0, .ref o), (1, .int (zI x)), (2, .int (zI k)), (3, .int (zI w))]) (by decide) rfl (Nat.le_of_ble_eq_true rfl) rfl ?_
  intro p e s m args below meth c C hr hnm hpre
  obtain ⟨⟨us, uo, ub, uw, ua, ue, ux, m0, m1, m3, m7, m8, m12, m13, m14, m15, m16, hM, hT, hHd, hBL⟩, ⟨hx1, hx2⟩, ⟨hk1, hk2⟩, ⟨hw1, hw2⟩, hV⟩ := hpre
  have hwX3 : ∀ w ∈ u_ws RX3 TX3 20, w ∈ wsX3_point := by decide +kernel
  have hs := hT.iR hV
  refine j_aload_n C dX3_point_0 rfl ?_
  refine j_iload_n C dX3_point_1 rfl ?_
  refine j_callI (jrunV (rest := []) (As := [.int (zI x)]) C (c_X3_isMap l G o (hand.length : Int) ud uc us uo ub uw ua ue ux m0 m1 m3 m7 m8 m12 m13 m14 m15 m16 x) gX3_point_X3_isMap rfl 1 (by decide +kernel) rfl rfl ⟨Nat.le_of_ble_eq_true rfl, Nat.le_of_ble_eq_true rfl⟩ hM.1 rfl ⟨hM, ⟨by omega, by omega⟩, hs⟩ rfl rfl (Nat.le_of_ble_eq_true rfl) ⟨Nat.le_of_ble_eq_true rfl, Nat.le_of_ble_eq_true rfl⟩ dX3_point_2) (fun r2 h2 => ?_)
  rcases h2 with ⟨⟨h2, h2b⟩, rfl⟩ | ⟨h2, rfl⟩
  · skip
    have h2 : thP maps x := ⟨h2, by have := (hT x h2.1 h2.2).1; omega⟩
    have hVx := hV x h2.1.1 h2.1.2 h2.2
    have hTx := hT x h2.1.1 h2.1.2
    have hlx := hVx.len
    refine j_if_ne (tgt := 12) C dX3_point_5 (by decide) ⟨by decide, by decide⟩ (fun c5 => ?_) (fun c5 => absurd c5 (by decide))
    refine j_iload_n C dX3_point_12 rfl ?_
    refine j_i2l C dX3_point_13 ⟨by omega, by omega⟩ ?_
    refine j_lconst (z := 0) C dX3_point_14 rfl ?_
    refine j_lconst (z := 1) C dX3_point_15 rfl ?_
    refine j_callI (jrunS (rest := []) (As := [.long (zL w), .long (zL 0), .long (zL 1)]) C (c_X3_in l G w 0 1) gX3_point_X3_in rfl 3 (by decide +kernel) rfl rfl ⟨Nat.le_of_ble_eq_true rfl, Nat.le_of_ble_eq_true rfl⟩ ⟨⟨by omega, by omega⟩, ⟨by decide, by decide⟩, ⟨by decide, by decide⟩⟩ rfl rfl (Nat.le_of_ble_eq_true rfl) ⟨Nat.le_of_ble_eq_true rfl, Nat.le_of_ble_eq_true rfl⟩ dX3_point_16) (fun r16 h16 => ?_)
    rcases h16 with ⟨h16, rfl⟩ | ⟨h16, rfl⟩
    · skip
      refine j_if_ne (tgt := 26) C dX3_point_19 (by decide) ⟨by decide, by decide⟩ (fun c19 => ?_) (fun c19 => absurd c19 (by decide))
      refine j_aload_n C dX3_point_26 rfl ?_
      refine j_iload_n C dX3_point_27 rfl ?_
      refine j_iload_n C dX3_point_28 rfl ?_
      refine j_callmI (jrunV (rest := []) (As := [.int (zI x), .int (zI k)]) C (c_X3_seek l G o maps hand ud uc x k) gX3_point_X3_seek rfl 2 (by decide +kernel) rfl rfl ⟨Nat.le_of_ble_eq_true rfl, Nat.le_of_ble_eq_true rfl⟩ hM.1 rfl ⟨⟨_, _, _, _, _, _, _, _, _, _, _, _, _, _, _, _, _, hM, hT, hHd, hBL⟩, hV, h2, by omega, by omega⟩ rfl rfl (Nat.le_of_ble_eq_true rfl) ⟨Nat.le_of_ble_eq_true rfl, Nat.le_of_ble_eq_true rfl⟩ dX3_point_29) (by intro q hq; (try dsimp only at hq ⊢); omega) (fun r29 H1 h29 hF => ?_)
      obtain ⟨h29, us, uo, ub, uw, ua, ue, ux, m0, m1, m3, m7, m8, m12, m13, m14, m15, m16, hM, hT, hHd, hBL, hua, hue⟩ := h29
      refine j_pop C dX3_point_32 rfl ?_
      refine j_iload_n C dX3_point_33 rfl ?_
      refine j_if_ne (tgt := 44) C dX3_point_34 (by decide) ⟨by omega, by omega⟩ (fun c34 => ?_) (fun c34 => ?_)
      · skip
        refine j_aload_n C dX3_point_44 rfl ?_
        refine j_get (T := TX3) (N := 20) (fs := _) (v := .long (zL ue)) C hwX3 hM.1 18 (by decide) rfl (index := 178) (ref := "TreePairsModel") (by decide +kernel) rfl rfl dX3_point_45 ?_
        exact j_lret C hr (Nat.le_refl _) (Nat.zero_le _) ⟨by rw [if_pos h2, if_pos h16, hue]; have e : w = 1 := (by omega); rw [e], ⟨_, _, _, _, _, _, _, _, _, _, _, _, _, _, _, _, _, hM, hT, hHd, hBL⟩⟩ dX3_point_48
      · skip
        refine j_aload_n C dX3_point_37 rfl ?_
        refine j_get (T := TX3) (N := 20) (fs := _) (v := .long (zL ua)) C hwX3 hM.1 17 (by decide) rfl (index := 175) (ref := "TreePairsModel") (by decide +kernel) rfl rfl dX3_point_38 ?_
        refine j_goto (tgt := 48) C dX3_point_41 (by decide) ?_
        exact j_lret C hr (Nat.le_refl _) (Nat.zero_le _) ⟨by rw [if_pos h2, if_pos h16, hua]; have e : w = 0 := (by omega); rw [e], ⟨_, _, _, _, _, _, _, _, _, _, _, _, _, _, _, _, _, hM, hT, hHd, hBL⟩⟩ dX3_point_48
    · skip
      refine j_if_ne (tgt := 26) C dX3_point_19 (by decide) ⟨by decide, by decide⟩ (fun c19 => absurd c19 (by decide)) (fun c19 => ?_)
      refine j_ldc2 (z := (-102)) C (index := 167) (v := (-102)) (by decide +kernel) (by decide) dX3_point_22 ?_
      exact j_lret C hr (Nat.le_refl _) (Nat.zero_le _) ⟨by rw [if_pos h2, if_neg h16], ⟨_, _, _, _, _, _, _, _, _, _, _, _, _, _, _, _, _, hM, hT, hHd, hBL⟩⟩ dX3_point_25
  · skip
    have h2 : ¬ thP maps x := (fun h => h2 ⟨h.1, by have := (hT x h.1.1 h.1.2).1; have := h.2; omega⟩)
    refine j_if_ne (tgt := 12) C dX3_point_5 (by decide) ⟨by decide, by decide⟩ (fun c5 => absurd c5 (by decide)) (fun c5 => ?_)
    refine j_ldc2 (z := (-101)) C (index := 188) (v := (-101)) (by decide +kernel) (by decide) dX3_point_8 ?_
    exact j_lret C hr (Nat.le_refl _) (Nat.zero_le _) ⟨by rw [if_neg h2], ⟨_, _, _, _, _, _, _, _, _, _, _, _, _, _, _, _, _, hM, hT, hHd, hBL⟩⟩ dX3_point_11

set_option maxHeartbeats 4000000 in
set_option maxRecDepth 100000 in
/-- X3_go -/
theorem c_X3_go (l : Launch) (G : Gx) (o : Nat) (maps : Int → List Q4) (hand : List Q4) (ud uc : Int) (x z y : Int) : Met l yX3_go wsX3_go ({ frames := 3, cells := 0, slots := 0, locals := 66 } : Room) (cPc G [.ref o, .int (zI x), .int (zI z), .long (zL y)] (fun H => MX G H o maps hand ud uc ∧ iR x ∧ iR z ∧ lR y ∧ VMs maps)) (qmI (fun r H => (thP maps x ∧ goP z y ∧ r = 1 ∧ ∃ i : Int, (0 ≤ i ∧ i < (maps x).length) ∧ st1 (qat (maps x) i) ≤ y * 2 ^ (30 - z).toNat / 128 ∧ y * 2 ^ (30 - z).toNat / 128 < en1 (qat (maps x) i) ∧ MX G H o maps hand (lowF 53 (goC (qat (maps x) i) z y)).1 (lowF 53 (goC (qat (maps x) i) z y)).2) ∨ (¬ (thP maps x ∧ goP z y) ∧ r = (if thP maps x then -102 else -101) ∧ MX G H o maps hand ud uc)) (fun q : Nat => o ≤ q ∧ q < o + 11)) 0 0 (fun q : Nat => o ≤ q ∧ q < o + 11) := by
  refine Met.ofJ (cc := cX3_go) (maxL := 12) (ret := (some .int)) (lv0 := [(0, .ref o), (1, .int (zI x)), (2, .int (zI z)), (3, .long (zL y))]) (by decide) rfl (Nat.le_of_ble_eq_true rfl) rfl ?_
  intro p e s m args below meth c C hr hnm hpre
  obtain ⟨⟨us, uo, ub, uw, ua, ue, ux, m0, m1, m3, m7, m8, m12, m13, m14, m15, m16, hM, hT, hHd, hBL⟩, ⟨hx1, hx2⟩, ⟨hz1, hz2⟩, ⟨hy1, hy2⟩, hV⟩ := hpre
  have hwX3 : ∀ w ∈ u_ws RX3 TX3 20, w ∈ wsX3_go := by decide +kernel
  have hs := hT.iR hV
  refine j_aload_n C dX3_go_0 rfl ?_
  refine j_iload_n C dX3_go_1 rfl ?_
  refine j_callI (jrunV (rest := []) (As := [.int (zI x)]) C (c_X3_isMap l G o (hand.length : Int) ud uc us uo ub uw ua ue ux m0 m1 m3 m7 m8 m12 m13 m14 m15 m16 x) gX3_go_X3_isMap rfl 1 (by decide +kernel) rfl rfl ⟨Nat.le_of_ble_eq_true rfl, Nat.le_of_ble_eq_true rfl⟩ hM.1 rfl ⟨hM, ⟨by omega, by omega⟩, hs⟩ rfl rfl (Nat.le_of_ble_eq_true rfl) ⟨Nat.le_of_ble_eq_true rfl, Nat.le_of_ble_eq_true rfl⟩ dX3_go_2) (fun r2 h2 => ?_)
  rcases h2 with ⟨⟨h2, h2b⟩, rfl⟩ | ⟨h2, rfl⟩
  · skip
    have h2 : thP maps x := ⟨h2, by have := (hT x h2.1 h2.2).1; omega⟩
    have hVx := hV x h2.1.1 h2.1.2 h2.2
    have hTx := hT x h2.1.1 h2.1.2
    have hlx := hVx.len
    refine j_if_ne (tgt := 11) C dX3_go_5 (by decide) ⟨by decide, by decide⟩ (fun c5 => ?_) (fun c5 => absurd c5 (by decide))
    refine j_iload_n C dX3_go_11 rfl ?_
    refine j_i2l C dX3_go_12 ⟨by omega, by omega⟩ ?_
    refine j_lconst (z := 0) C dX3_go_13 rfl ?_
    refine j_ldc2 (z := 30) C (index := 158) (v := 30) (by decide +kernel) (by decide) dX3_go_14 ?_
    refine j_callI (jrunS (rest := []) (As := [.long (zL z), .long (zL 0), .long (zL 30)]) C (c_X3_in l G z 0 30) gX3_go_X3_in rfl 3 (by decide +kernel) rfl rfl ⟨Nat.le_of_ble_eq_true rfl, Nat.le_of_ble_eq_true rfl⟩ ⟨⟨by omega, by omega⟩, ⟨by decide, by decide⟩, ⟨by decide, by decide⟩⟩ rfl rfl (Nat.le_of_ble_eq_true rfl) ⟨Nat.le_of_ble_eq_true rfl, Nat.le_of_ble_eq_true rfl⟩ dX3_go_17) (fun r17 h17 => ?_)
    rcases h17 with ⟨h17, rfl⟩ | ⟨h17, rfl⟩
    · skip
      have hp := pow_le_pow2 (m := z.toNat) (n := 30) (by omega)
      have hp1 := two_pow_pos z.toNat
      have hp2 : (2 : Int) ^ 30 = 1073741824 := rfl
      refine j_if_eq (tgt := 36) C dX3_go_20 (by decide) ⟨by decide, by decide⟩ (fun c20 => absurd c20 (by decide)) (fun c20 => ?_)
      refine j_lload_n C dX3_go_23 rfl ?_
      refine j_lconst (z := 0) C dX3_go_24 rfl ?_
      refine j_lconst (z := 1) C dX3_go_25 rfl ?_
      refine j_iload_n C dX3_go_26 rfl ?_
      refine j_lshl C dX3_go_27 ⟨by omega, by omega⟩ ?_
      refine j_lconst (z := 1) C dX3_go_28 rfl ?_
      refine j_lsub C dX3_go_29 ?_
      refine j_callI (jrunS (rest := []) (As := [.long (zL y), .long (zL 0), .long (zL ((1 * 2 ^ z.toNat) - 1))]) C (c_X3_in l G y 0 (1 * 2 ^ z.toNat - 1)) gX3_go_X3_in rfl 3 (by decide +kernel) rfl rfl ⟨Nat.le_of_ble_eq_true rfl, Nat.le_of_ble_eq_true rfl⟩ ⟨⟨by omega, by omega⟩, ⟨by decide, by decide⟩, ⟨by omega, by omega⟩⟩ rfl rfl (Nat.le_of_ble_eq_true rfl) ⟨Nat.le_of_ble_eq_true rfl, Nat.le_of_ble_eq_true rfl⟩ dX3_go_30) (fun r30 h30 => ?_)
      rcases h30 with ⟨h30, rfl⟩ | ⟨h30, rfl⟩
      · skip
        refine j_if_ne (tgt := 39) C dX3_go_33 (by decide) ⟨by decide, by decide⟩ (fun c33 => ?_) (fun c33 => absurd c33 (by decide))
        have hg : goP z y := ⟨h17.1, h17.2, h30.1, by omega⟩
        have hgc := go_c hg
        have hmx := hTx.1
        refine j_iconst C dX3_go_39 ?_
        refine j_istore (lv' := [(0, .ref o), (1, .int (zI x)), (2, .int (zI z)), (3, .long (zL y)), (5, .int (zI 0))]) C dX3_go_40 (by decide) rfl ?_
        have K42 : ∀ (fu42 : Nat) (i sd sc : Int) (Hl1 : Heap), (((maps x).length : Int) - i).toNat < fu42 → MP G Hl1 o (hand.length : Int) sd sc us uo ub uw ua ue ux m0 m1 m3 m7 m8 m12 m13 m14 m15 m16 → 0 ≤ i ∧ i ≤ ((maps x).length : Int) → ((∀ j : Int, 0 ≤ j → j < i → ¬ (st1 (qat (maps x) j) ≤ (y * 2 ^ (30 - z).toNat / 128) ∧ (y * 2 ^ (30 - z).toNat / 128) < en1 (qat (maps x) j))) ∨ ∃ j : Int, (0 ≤ j ∧ j < ((maps x).length : Int)) ∧ (st1 (qat (maps x) j) ≤ (y * 2 ^ (30 - z).toNat / 128) ∧ (y * 2 ^ (30 - z).toNat / 128) < en1 (qat (maps x) j)) ∧ (0 ≤ sd ∧ sd ≤ 53) ∧ (0 ≤ sc ∧ sc < 9007199254740992) ∧ lowF sd.toNat sc = lowF 53 (goC (qat (maps x) j) z y)) → JJ p l e ({ frames := 3, cells := 0, slots := 0, locals := 66 } : Room) s m args below meth c (MQ below (qmI (fun r H => (thP maps x ∧ goP z y ∧ r = 1 ∧ ∃ i : Int, (0 ≤ i ∧ i < (maps x).length) ∧ st1 (qat (maps x) i) ≤ y * 2 ^ (30 - z).toNat / 128 ∧ y * 2 ^ (30 - z).toNat / 128 < en1 (qat (maps x) i) ∧ MX G H o maps hand (lowF 53 (goC (qat (maps x) i) z y)).1 (lowF 53 (goC (qat (maps x) i) z y)).2) ∨ (¬ (thP maps x ∧ goP z y) ∧ r = (if thP maps x then -102 else -101) ∧ MX G H o maps hand ud uc)) (fun q : Nat => o ≤ q ∧ q < o + 11)) args s 0 0 (fun q : Nat => o ≤ q ∧ q < o + 11)) (fun q : Nat => o ≤ q ∧ q < o + 11) 12 Hl1 0 0 42 [(0, .ref o), (1, .int (zI x)), (2, .int (zI z)), (3, .long (zL y)), (5, .int (zI i))] [] := by
          intro fu42
          induction fu42 with
          | zero => intro i sd sc Hl1 hm42 hM hi hS; exact absurd hm42 (Nat.not_lt_zero _)
          | succ fu42 ih42 =>
            intro i sd sc Hl1 hm42 hM hi hS
            refine j_iload C dX3_go_42 rfl ?_
            refine j_aload_n C dX3_go_44 rfl ?_
            refine j_get (T := TX3) (N := 20) (fs := _) (v := .ref (o + 1)) C hwX3 hM.1 0 (by decide) rfl (index := 7) (ref := "TreePairsModel") (by decide +kernel) rfl rfl dX3_go_45 ?_
            refine j_iload_n C dX3_go_48 rfl ?_
            refine j_iald C hM.2.1 ⟨by omega, by omega⟩ dX3_go_49 ?_
            refine j_icmp_ge (tgt := 177) C dX3_go_50 (by decide) ⟨by omega, by omega⟩ ⟨by omega, by omega⟩ (fun c50 => ?_) (fun c50 => ?_)
            · skip
              have hex := cut_has hVx.cut (y := (y * 2 ^ (30 - z).toNat / 128)) (by omega) (by omega)
              obtain ⟨j, hj1, hj2, hj3, hj4, hj5⟩ : ∃ j : Int, (0 ≤ j ∧ j < ((maps x).length : Int)) ∧ (st1 (qat (maps x) j) ≤ (y * 2 ^ (30 - z).toNat / 128) ∧ (y * 2 ^ (30 - z).toNat / 128) < en1 (qat (maps x) j)) ∧ (0 ≤ sd ∧ sd ≤ 53) ∧ (0 ≤ sc ∧ sc < 9007199254740992) ∧ lowF sd.toNat sc = lowF 53 (goC (qat (maps x) j) z y) := (by rcases hS with h | h; (obtain ⟨j, g1, g2⟩ := hex; exact absurd g2 (h j g1.1 (by omega))); exact h)
              have K177 : ∀ (fu177 : Nat) (dd cc : Int) (Hl2 : Heap), dd.toNat < fu177 → MP G Hl2 o (hand.length : Int) dd cc us uo ub uw ua ue ux m0 m1 m3 m7 m8 m12 m13 m14 m15 m16 → 0 ≤ dd ∧ dd ≤ 53 → 0 ≤ cc ∧ cc < 9007199254740992 → lowF dd.toNat cc = lowF 53 (goC (qat (maps x) j) z y) → JJ p l e ({ frames := 3, cells := 0, slots := 0, locals := 66 } : Room) s m args below meth c (MQ below (qmI (fun r H => (thP maps x ∧ goP z y ∧ r = 1 ∧ ∃ i : Int, (0 ≤ i ∧ i < (maps x).length) ∧ st1 (qat (maps x) i) ≤ y * 2 ^ (30 - z).toNat / 128 ∧ y * 2 ^ (30 - z).toNat / 128 < en1 (qat (maps x) i) ∧ MX G H o maps hand (lowF 53 (goC (qat (maps x) i) z y)).1 (lowF 53 (goC (qat (maps x) i) z y)).2) ∨ (¬ (thP maps x ∧ goP z y) ∧ r = (if thP maps x then -102 else -101) ∧ MX G H o maps hand ud uc)) (fun q : Nat => o ≤ q ∧ q < o + 11)) args s 0 0 (fun q : Nat => o ≤ q ∧ q < o + 11)) (fun q : Nat => o ≤ q ∧ q < o + 11) 12 Hl2 0 0 177 [(0, .ref o)] [] := by
                intro fu177
                induction fu177 with
                | zero => intro dd cc Hl2 hm177 hM hdd hcc hlow; exact absurd hm177 (Nat.not_lt_zero _)
                | succ fu177 ih177 =>
                  intro dd cc Hl2 hm177 hM hdd hcc hlow
                  refine j_aload_n C dX3_go_177 rfl ?_
                  refine j_get (T := TX3) (N := 20) (fs := _) (v := .int (zI dd)) C hwX3 hM.1 4 (by decide) rfl (index := 160) (ref := "TreePairsModel") (by decide +kernel) rfl rfl dX3_go_178 ?_
                  refine j_if_le (tgt := 222) C dX3_go_181 (by decide) ⟨by omega, by omega⟩ (fun c181 => ?_) (fun c181 => ?_)
                  · skip
                    refine j_iconst C dX3_go_222 ?_
                    exact j_iret C hr (Nat.le_refl _) (Nat.zero_le _) (Or.inl ⟨h2, hg, rfl, j, hj1, hj2.1, hj2.2, by rw [← hlow, lowF_end (by omega) (by omega)]; exact ⟨_, _, _, _, _, _, _, _, _, _, _, _, _, _, _, _, _, hM, hT, hHd, hBL⟩⟩) dX3_go_223
                  · skip
                    refine j_aload_n C dX3_go_184 rfl ?_
                    refine j_get (T := TX3) (N := 20) (fs := _) (v := .long (zL cc)) C hwX3 hM.1 5 (by decide) rfl (index := 163) (ref := "TreePairsModel") (by decide +kernel) rfl rfl dX3_go_185 ?_
                    refine j_ldc2 (z := 2) C (index := 65) (v := 2) (by decide +kernel) (by decide) dX3_go_188 ?_
                    refine j_lrem C dX3_go_191 ⟨by omega, by omega⟩ ⟨by decide, by decide⟩ ?_
                    refine j_lconst (z := 0) C dX3_go_192 rfl ?_
                    refine j_lcmp_ne (tgt := 222) C dX3_go_193 dX3_go_194 (by decide) ⟨by omega, by omega⟩ ⟨by decide, by decide⟩ (fun c193 => ?_) (fun c193 => ?_)
                    · skip
                      refine j_iconst C dX3_go_222 ?_
                      exact j_iret C hr (Nat.le_refl _) (Nat.zero_le _) (Or.inl ⟨h2, hg, rfl, j, hj1, hj2.1, hj2.2, by rw [← hlow, lowF_end (by omega) (by omega)]; exact ⟨_, _, _, _, _, _, _, _, _, _, _, _, _, _, _, _, _, hM, hT, hHd, hBL⟩⟩) dX3_go_223
                    · skip
                      refine j_aload_n C dX3_go_197 rfl ?_
                      refine j_dup C dX3_go_198 rfl ?_
                      refine j_get (T := TX3) (N := 20) (fs := _) (v := .int (zI dd)) C hwX3 hM.1 4 (by decide) rfl (index := 160) (ref := "TreePairsModel") (by decide +kernel) rfl rfl dX3_go_199 ?_
                      refine j_iconst C dX3_go_202 ?_
                      refine j_isub C dX3_go_203 ?_
                      refine j_put (T := TX3) (N := 20) (fs' := [.ref (o + 1), .ref (o + 2), .int (zI (hand.length : Int)), .ref (o + 3), .int (zI (dd - 1)), .long (zL cc), .int (zI us), .ref (o + 4), .ref (o + 5), .int (zI uo), .int (zI ub), .int (zI uw), .ref (o + 6), .ref (o + 7), .ref (o + 8), .ref (o + 9), .ref (o + 10), .long (zL ua), .long (zL ue), .long (zL ux)]) (ty := .int) C tyX3 tyX3_ok nmX3 hwX3 hM.1 4 (by decide) rfl (index := 160) (ref := "TreePairsModel") (by decide +kernel) rfl rfl (by decide +kernel) rfl rfl (Nat.le_of_ble_eq_true rfl) rfl (by omega) dX3_go_204 (fun H1 hO hC => ?_)
                      have hM := hM.put_seenD hO hC
                      refine j_aload_n C dX3_go_207 rfl ?_
                      refine j_dup C dX3_go_208 rfl ?_
                      refine j_get (T := TX3) (N := 20) (fs := _) (v := .long (zL cc)) C hwX3 hM.1 5 (by decide) rfl (index := 163) (ref := "TreePairsModel") (by decide +kernel) rfl rfl dX3_go_209 ?_
                      refine j_ldc2 (z := 2) C (index := 65) (v := 2) (by decide +kernel) (by decide) dX3_go_212 ?_
                      refine j_ldiv C dX3_go_215 ⟨by omega, by omega⟩ ⟨by decide, by decide⟩ ?_
                      refine j_put (T := TX3) (N := 20) (fs' := [.ref (o + 1), .ref (o + 2), .int (zI (hand.length : Int)), .ref (o + 3), .int (zI (dd - 1)), .long (zL (cc / 2)), .int (zI us), .ref (o + 4), .ref (o + 5), .int (zI uo), .int (zI ub), .int (zI uw), .ref (o + 6), .ref (o + 7), .ref (o + 8), .ref (o + 9), .ref (o + 10), .long (zL ua), .long (zL ue), .long (zL ux)]) (ty := .long) C tyX3 tyX3_ok nmX3 hwX3 hM.1 5 (by decide) rfl (index := 163) (ref := "TreePairsModel") (by decide +kernel) rfl rfl (by decide +kernel) rfl rfl (Nat.le_of_ble_eq_true rfl) rfl (by omega) dX3_go_216 (fun H2 hO hC => ?_)
                      have hM := hM.put_seenC hO hC
                      refine j_goto (tgt := 177) C dX3_go_219 (by decide) ?_
                      exact JJ.drop (lv' := [(0, .ref o)]) rfl (ih177 (dd - 1) (cc / 2) H2 (by omega) hM ⟨by omega, by omega⟩ ⟨by omega, by omega⟩ ((lowF_go (by omega) (by omega)).trans hlow))
              exact JJ.drop (lv' := [(0, .ref o)]) rfl (K177 ((sd.toNat) + 1) sd sc Hl1 (Nat.lt_succ_self _) hM hj3 hj4 hj5)
            · skip
              have hR4 := hTx.2 i (by omega) (by omega)
              simp only [← Int.add_assoc] at hR4
              have hLq := hVx.B _ (qat_mem (L := maps x) (i := i) (by omega) (by omega))
              have hb1 := hLq.1.b23
              have hb2 := hLq.2.b23
              rw [hR4] at hb1 hb2
              dsimp only at hb1 hb2
              refine j_bipush C dX3_go_53 (by decide) ?_
              refine j_iload_n C dX3_go_55 rfl ?_
              refine j_imul C dX3_go_56 ?_
              refine j_iconst C dX3_go_57 ?_
              refine j_iload C dX3_go_58 rfl ?_
              refine j_imul C dX3_go_60 ?_
              refine j_iadd C dX3_go_61 ?_
              refine j_istore (lv' := [(0, .ref o), (1, .int (zI x)), (2, .int (zI z)), (3, .long (zL y)), (5, .int (zI i)), (6, .int (zI ((96 * x) + (4 * i))))]) C dX3_go_62 (by decide) rfl ?_
              refine j_aload_n C dX3_go_64 rfl ?_
              refine j_get (T := TX3) (N := 20) (fs := _) (v := .ref (o + 2)) C hwX3 hM.1 1 (by decide) rfl (index := 13) (ref := "TreePairsModel") (by decide +kernel) rfl rfl dX3_go_65 ?_
              refine j_iload C dX3_go_68 rfl ?_
              refine j_iald C hM.2.2.1 ⟨by omega, by omega⟩ dX3_go_70 ?_
              refine j_istore (lv' := [(0, .ref o), (1, .int (zI x)), (2, .int (zI z)), (3, .long (zL y)), (5, .int (zI i)), (6, .int (zI ((96 * x) + (4 * i)))), (7, .int (zI (m1 ((96 * x) + (4 * i)))))]) C dX3_go_71 (by decide) rfl ?_
              refine j_iload_n C dX3_go_73 rfl ?_
              refine j_iload C dX3_go_74 rfl ?_
              have K85 : ∀ (D : Int), z ≤ D → m1 (96 * x + 4 * i) ≤ D → D ≤ 30 → JJ p l e ({ frames := 3, cells := 0, slots := 0, locals := 66 } : Room) s m args below meth c (MQ below (qmI (fun r H => (thP maps x ∧ goP z y ∧ r = 1 ∧ ∃ i : Int, (0 ≤ i ∧ i < (maps x).length) ∧ st1 (qat (maps x) i) ≤ y * 2 ^ (30 - z).toNat / 128 ∧ y * 2 ^ (30 - z).toNat / 128 < en1 (qat (maps x) i) ∧ MX G H o maps hand (lowF 53 (goC (qat (maps x) i) z y)).1 (lowF 53 (goC (qat (maps x) i) z y)).2) ∨ (¬ (thP maps x ∧ goP z y) ∧ r = (if thP maps x then -102 else -101) ∧ MX G H o maps hand ud uc)) (fun q : Nat => o ≤ q ∧ q < o + 11)) args s 0 0 (fun q : Nat => o ≤ q ∧ q < o + 11)) (fun q : Nat => o ≤ q ∧ q < o + 11) 12 Hl1 0 0 85 [(0, .ref o), (1, .int (zI x)), (2, .int (zI z)), (3, .long (zL y)), (5, .int (zI i)), (6, .int (zI (96 * x + 4 * i))), (7, .int (zI (m1 (96 * x + 4 * i))))] [.int (zI D)] := by
                intro D hD1 hD2 hD3
                have hgm := go_match hLq hg hD1 (by rw [hR4]; exact hD2) hD3
                have hxp : 0 ≤ y * 2 ^ (D - z).toNat := Int.mul_nonneg hg.2.2.1 (by have := two_pow_pos (D - z).toNat; omega)
                have hxq : y * 2 ^ (D - z).toNat ≤ 1073741824 := go_x hg hD1 hD3
                refine j_istore (lv' := [(0, .ref o), (1, .int (zI x)), (2, .int (zI z)), (3, .long (zL y)), (5, .int (zI i)), (6, .int (zI (96 * x + 4 * i))), (7, .int (zI (m1 (96 * x + 4 * i)))), (8, .int (zI D))]) C dX3_go_85 (by decide) rfl ?_
                refine j_lload_n C dX3_go_87 rfl ?_
                refine j_iload C dX3_go_88 rfl ?_
                refine j_iload_n C dX3_go_90 rfl ?_
                refine j_isub C dX3_go_91 ?_
                refine j_lshl C dX3_go_92 ⟨by omega, by omega⟩ ?_
                refine j_lstore (lv' := [(0, .ref o), (1, .int (zI x)), (2, .int (zI z)), (3, .long (zL y)), (5, .int (zI i)), (6, .int (zI (96 * x + 4 * i))), (7, .int (zI (m1 (96 * x + 4 * i)))), (8, .int (zI D)), (9, .long (zL (y * 2 ^ (D - z).toNat)))]) C dX3_go_93 (by decide) rfl ?_
                refine j_iload C dX3_go_95 rfl ?_
                refine j_iload C dX3_go_97 rfl ?_
                refine j_isub C dX3_go_99 ?_
                refine j_istore (lv' := [(0, .ref o), (1, .int (zI x)), (2, .int (zI z)), (3, .long (zL y)), (5, .int (zI i)), (6, .int (zI (96 * x + 4 * i))), (7, .int (zI (m1 (96 * x + 4 * i)))), (8, .int (zI D)), (9, .long (zL (y * 2 ^ (D - z).toNat))), (11, .int (zI (D - (m1 (96 * x + 4 * i)))))]) C dX3_go_100 (by decide) rfl ?_
                refine j_lload C dX3_go_102 rfl ?_
                refine j_iload C dX3_go_104 rfl ?_
                refine j_lshr C dX3_go_106 ⟨by omega, by omega⟩ ⟨by omega, by omega⟩ ?_
                refine j_aload_n C dX3_go_107 rfl ?_
                refine j_get (T := TX3) (N := 20) (fs := _) (v := .ref (o + 2)) C hwX3 hM.1 1 (by decide) rfl (index := 13) (ref := "TreePairsModel") (by decide +kernel) rfl rfl dX3_go_108 ?_
                refine j_iload C dX3_go_111 rfl ?_
                refine j_iconst C dX3_go_113 ?_
                refine j_iadd C dX3_go_114 ?_
                refine j_iald C hM.2.2.1 ⟨by omega, by omega⟩ dX3_go_115 ?_
                refine j_i2l C dX3_go_116 ⟨by omega, by omega⟩ ?_
                refine j_lcmp_ne (tgt := 171) C dX3_go_117 dX3_go_118 (by decide) (shr_R ⟨by omega, by omega⟩) ⟨by omega, by omega⟩ (fun c117 => ?_) (fun c117 => ?_)
                · skip
                  have hnm := (fun h => c117 (by have := hgm.mpr h; rw [hR4] at this; exact this))
                  refine j_iinc (lv' := [(0, .ref o), (1, .int (zI x)), (2, .int (zI z)), (3, .long (zL y)), (5, .int (zI (i + 1))), (6, .int (zI (96 * x + 4 * i))), (7, .int (zI (m1 (96 * x + 4 * i)))), (8, .int (zI D)), (9, .long (zL (y * 2 ^ (D - z).toNat))), (11, .int (zI (D - (m1 (96 * x + 4 * i)))))]) C dX3_go_171 rfl (by decide) rfl ?_
                  refine j_goto (tgt := 42) C dX3_go_174 (by decide) ?_
                  exact JJ.drop (lv' := [(0, .ref o), (1, .int (zI x)), (2, .int (zI z)), (3, .long (zL y)), (5, .int (zI (i + 1)))]) rfl (ih42 (i + 1) sd sc Hl1 (by omega) hM ⟨by omega, by omega⟩ (by rcases hS with h | h; exact Or.inl (fun j j0 j1 => by rcases Int.lt_or_le j i with g | g; exact h j j0 g; have e : j = i := (by omega); rw [e]; exact hnm); exact Or.inr h))
                · skip
                  have hmt := hgm.mp (by rw [hR4]; exact c117)
                  have hgl := go_low hLq hg hD1 (by rw [hR4]; exact hD2) hD3
                  have hgr := go_rng hLq hg hD1 (by rw [hR4]; exact hD2) hD3 hmt rfl
                  refine j_aload_n C dX3_go_121 rfl ?_
                  refine j_aload_n C dX3_go_122 rfl ?_
                  refine j_get (T := TX3) (N := 20) (fs := _) (v := .ref (o + 2)) C hwX3 hM.1 1 (by decide) rfl (index := 13) (ref := "TreePairsModel") (by decide +kernel) rfl rfl dX3_go_123 ?_
                  refine j_iload C dX3_go_126 rfl ?_
                  refine j_iconst C dX3_go_128 ?_
                  refine j_iadd C dX3_go_129 ?_
                  refine j_iald C hM.2.2.1 ⟨by omega, by omega⟩ dX3_go_130 ?_
                  refine j_iload C dX3_go_131 rfl ?_
                  refine j_iadd C dX3_go_133 ?_
                  refine j_put (T := TX3) (N := 20) (fs' := [.ref (o + 1), .ref (o + 2), .int (zI (hand.length : Int)), .ref (o + 3), .int (zI ((m1 ((96 * x + 4 * i) + 2)) + (D - (m1 (96 * x + 4 * i))))), .long (zL sc), .int (zI us), .ref (o + 4), .ref (o + 5), .int (zI uo), .int (zI ub), .int (zI uw), .ref (o + 6), .ref (o + 7), .ref (o + 8), .ref (o + 9), .ref (o + 10), .long (zL ua), .long (zL ue), .long (zL ux)]) (ty := .int) C tyX3 tyX3_ok nmX3 hwX3 hM.1 4 (by decide) rfl (index := 160) (ref := "TreePairsModel") (by decide +kernel) rfl rfl (by decide +kernel) rfl rfl (Nat.le_of_ble_eq_true rfl) rfl (by omega) dX3_go_134 (fun H3 hO hC => ?_)
                  have hM := hM.put_seenD hO hC
                  refine j_aload_n C dX3_go_137 rfl ?_
                  refine j_aload_n C dX3_go_138 rfl ?_
                  refine j_get (T := TX3) (N := 20) (fs := _) (v := .ref (o + 2)) C hwX3 hM.1 1 (by decide) rfl (index := 13) (ref := "TreePairsModel") (by decide +kernel) rfl rfl dX3_go_139 ?_
                  refine j_iload C dX3_go_142 rfl ?_
                  refine j_iconst C dX3_go_144 ?_
                  refine j_iadd C dX3_go_145 ?_
                  refine j_iald C hM.2.2.1 ⟨by omega, by omega⟩ dX3_go_146 ?_
                  refine j_i2l C dX3_go_147 ⟨by omega, by omega⟩ ?_
                  refine j_iload C dX3_go_148 rfl ?_
                  refine j_lshl C dX3_go_150 ⟨by omega, by omega⟩ ?_
                  refine j_lload C dX3_go_151 rfl ?_
                  refine j_aload_n C dX3_go_153 rfl ?_
                  refine j_get (T := TX3) (N := 20) (fs := _) (v := .ref (o + 2)) C hwX3 hM.1 1 (by decide) rfl (index := 13) (ref := "TreePairsModel") (by decide +kernel) rfl rfl dX3_go_154 ?_
                  refine j_iload C dX3_go_157 rfl ?_
                  refine j_iconst C dX3_go_159 ?_
                  refine j_iadd C dX3_go_160 ?_
                  refine j_iald C hM.2.2.1 ⟨by omega, by omega⟩ dX3_go_161 ?_
                  refine j_i2l C dX3_go_162 ⟨by omega, by omega⟩ ?_
                  refine j_iload C dX3_go_163 rfl ?_
                  refine j_lshl C dX3_go_165 ⟨by omega, by omega⟩ ?_
                  refine j_lsub C dX3_go_166 ?_
                  refine j_ladd C dX3_go_167 ?_
                  refine j_put (T := TX3) (N := 20) (fs' := [.ref (o + 1), .ref (o + 2), .int (zI (hand.length : Int)), .ref (o + 3), .int (zI ((m1 ((96 * x + 4 * i) + 2)) + (D - (m1 (96 * x + 4 * i))))), .long (zL (((m1 ((96 * x + 4 * i) + 3)) * 2 ^ (D - (m1 (96 * x + 4 * i))).toNat) + ((y * 2 ^ (D - z).toNat) - ((m1 ((96 * x + 4 * i) + 1)) * 2 ^ (D - (m1 (96 * x + 4 * i))).toNat)))), .int (zI us), .ref (o + 4), .ref (o + 5), .int (zI uo), .int (zI ub), .int (zI uw), .ref (o + 6), .ref (o + 7), .ref (o + 8), .ref (o + 9), .ref (o + 10), .long (zL ua), .long (zL ue), .long (zL ux)]) (ty := .long) C tyX3 tyX3_ok nmX3 hwX3 hM.1 5 (by decide) rfl (index := 163) (ref := "TreePairsModel") (by decide +kernel) rfl rfl (by decide +kernel) rfl rfl (Nat.le_of_ble_eq_true rfl) rfl (by omega) dX3_go_168 (fun H4 hO hC => ?_)
                  have hM := hM.put_seenC hO hC
                  refine j_iinc (lv' := [(0, .ref o), (1, .int (zI x)), (2, .int (zI z)), (3, .long (zL y)), (5, .int (zI (i + 1))), (6, .int (zI (96 * x + 4 * i))), (7, .int (zI (m1 (96 * x + 4 * i)))), (8, .int (zI D)), (9, .long (zL (y * 2 ^ (D - z).toNat))), (11, .int (zI (D - (m1 (96 * x + 4 * i)))))]) C dX3_go_171 rfl (by decide) rfl ?_
                  refine j_goto (tgt := 42) C dX3_go_174 (by decide) ?_
                  exact JJ.drop (lv' := [(0, .ref o), (1, .int (zI x)), (2, .int (zI z)), (3, .long (zL y)), (5, .int (zI (i + 1)))]) rfl (ih42 (i + 1) ((m1 ((96 * x + 4 * i) + 2)) + (D - (m1 (96 * x + 4 * i)))) (((m1 ((96 * x + 4 * i) + 3)) * 2 ^ (D - (m1 (96 * x + 4 * i))).toNat) + ((y * 2 ^ (D - z).toNat) - ((m1 ((96 * x + 4 * i) + 1)) * 2 ^ (D - (m1 (96 * x + 4 * i))).toNat))) H4 (by omega) hM ⟨by omega, by omega⟩ (Or.inr ⟨i, ⟨by omega, by omega⟩, hmt, ⟨by omega, by omega⟩, by rw [hR4] at hgr; exact hgr, by rw [← hgl, hR4]⟩))
              refine j_icmp_le (tgt := 83) C dX3_go_76 (by decide) ⟨by omega, by omega⟩ ⟨by omega, by omega⟩ (fun c76 => ?_) (fun c76 => ?_)
              · skip
                refine j_iload C dX3_go_83 rfl ?_
                exact JJ.drop (lv' := [(0, .ref o), (1, .int (zI x)), (2, .int (zI z)), (3, .long (zL y)), (5, .int (zI i)), (6, .int (zI (96 * x + 4 * i))), (7, .int (zI (m1 (96 * x + 4 * i))))]) rfl (K85 (m1 ((96 * x) + (4 * i))) (by omega) (by omega) (by omega))
              · skip
                refine j_iload_n C dX3_go_79 rfl ?_
                refine j_goto (tgt := 85) C dX3_go_80 (by decide) ?_
                exact JJ.drop (lv' := [(0, .ref o), (1, .int (zI x)), (2, .int (zI z)), (3, .long (zL y)), (5, .int (zI i)), (6, .int (zI (96 * x + 4 * i))), (7, .int (zI (m1 (96 * x + 4 * i))))]) rfl (K85 z (by omega) (by omega) (by omega))
        exact JJ.drop (lv' := [(0, .ref o), (1, .int (zI x)), (2, .int (zI z)), (3, .long (zL y)), (5, .int (zI 0))]) rfl (K42 (((((maps x).length : Int) - (0 : Int)).toNat) + 1) 0 ud uc s.heap (Nat.lt_succ_self _) hM ⟨by omega, by omega⟩ (Or.inl (fun j j0 j1 => absurd j0 (by omega))))
      · skip
        refine j_if_ne (tgt := 39) C dX3_go_33 (by decide) ⟨by decide, by decide⟩ (fun c33 => absurd c33 (by decide)) (fun c33 => ?_)
        refine j_bipush C dX3_go_36 (by decide) ?_
        exact j_iret C hr (Nat.le_refl _) (Nat.zero_le _) (Or.inr ⟨fun h => by obtain ⟨_, g1, g2, g3, g4⟩ := h; first | exact h17 ⟨g1, g2⟩ | exact h30 ⟨g3, by omega⟩, (if_pos h2).symm, ⟨_, _, _, _, _, _, _, _, _, _, _, _, _, _, _, _, _, hM, hT, hHd, hBL⟩⟩) dX3_go_38
    · skip
      refine j_if_eq (tgt := 36) C dX3_go_20 (by decide) ⟨by decide, by decide⟩ (fun c20 => ?_) (fun c20 => absurd c20 (by decide))
      refine j_bipush C dX3_go_36 (by decide) ?_
      exact j_iret C hr (Nat.le_refl _) (Nat.zero_le _) (Or.inr ⟨fun h => by obtain ⟨_, g1, g2, g3, g4⟩ := h; first | exact h17 ⟨g1, g2⟩ | exact h30 ⟨g3, by omega⟩, (if_pos h2).symm, ⟨_, _, _, _, _, _, _, _, _, _, _, _, _, _, _, _, _, hM, hT, hHd, hBL⟩⟩) dX3_go_38
  · skip
    have h2 : ¬ thP maps x := (fun h => h2 ⟨h.1, by have := (hT x h.1.1 h.1.2).1; have := h.2; omega⟩)
    refine j_if_ne (tgt := 11) C dX3_go_5 (by decide) ⟨by decide, by decide⟩ (fun c5 => absurd c5 (by decide)) (fun c5 => ?_)
    refine j_bipush C dX3_go_8 (by decide) ?_
    exact j_iret C hr (Nat.le_refl _) (Nat.zero_le _) (Or.inr ⟨fun h => h2 h.1, (if_neg h2).symm, ⟨_, _, _, _, _, _, _, _, _, _, _, _, _, _, _, _, _, hM, hT, hHd, hBL⟩⟩) dX3_go_10
