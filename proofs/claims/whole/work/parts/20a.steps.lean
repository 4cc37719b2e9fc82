set_option maxHeartbeats 4000000 in
set_option maxRecDepth 100000 in
/-- X2_stepsOfLength -/
theorem c_X2_stepsOfLength (l : Launch) (G : Gx) (h : Nat) : Met l yX2_stepsOfLength wsX2_stepsOfLength ({ frames := 4, cells := 21, slots := 408, locals := 100 } : Room) (cPc G [] (fun H => H.size = h)) (qmR (fun r H => r = h ∧ ∃ a0 a1 a2 a3 : Nat, h + 1 ≤ a0 ∧ a0 + 5 ≤ a1 ∧ a1 + 5 ≤ a2 ∧ a2 + 5 ≤ a3 ∧ a3 + 5 ≤ H.size ∧ ap G h 4 (iup (iup (iup (iup (fun _ => none) (2 * 0) (some a0)) (2 * 0 + 1) (some a1)) (2 * (0 + 1)) (some a2)) (2 * (0 + 1) + 1) (some a3)) H ∧ PL G H a0 24 (strongF 0) ∧ PL G H a1 24 (turnF (strongF 0)) ∧ PL G H a2 24 (strongF 1) ∧ PL G H a3 24 (turnF (strongF 1))) (fun q : Nat => h ≤ q)) 21 408 (fun q : Nat => h ≤ q) := by
  refine Met.ofJ (cc := cX2_stepsOfLength) (maxL := 2) (ret := (some (.array (.object "TreePairs$Pairs")))) (lv0 := []) (by decide) rfl (Nat.le_of_ble_eq_true rfl) rfl ?_
  intro p e s m args below meth c C hr hnm hpre
  have hwX1 : ∀ w ∈ u_ws RX1 TX1 5, w ∈ wsX2_stepsOfLength := by decide +kernel
  have hsz : s.heap.size = h := hpre
  refine j_iconst C dX2_stepsOfLength_0 ?_
  refine j_newP (k := 4) (h := h) C (index := 9) (by decide +kernel) rfl (by omega) hsz (Nat.le_of_ble_eq_true rfl) (Nat.le_of_ble_eq_true rfl) dX2_stepsOfLength_1 (fun H1 hN hW => ?_)
  have hsz := hW.1
  have hA1 := hN
  refine j_astore_n (lv' := [(0, .ref h)]) C dX2_stepsOfLength_4 (by decide) rfl ?_
  refine j_iconst C dX2_stepsOfLength_5 ?_
  refine j_istore_n (lv' := [(0, .ref h), (1, .int (zI 0))]) C dX2_stepsOfLength_6 (by decide) rfl ?_
  refine j_iload_n C dX2_stepsOfLength_7 rfl ?_
  refine j_iconst C dX2_stepsOfLength_8 ?_
  refine j_icmp_ge (tgt := 72) C dX2_stepsOfLength_9 (by decide) ⟨by decide, by decide⟩ ⟨by decide, by decide⟩ (fun c9 => absurd c9 (by decide)) (fun c9 => ?_)
  refine j_aload_n C dX2_stepsOfLength_12 rfl ?_
  refine j_iconst C dX2_stepsOfLength_13 ?_
  refine j_iload_n C dX2_stepsOfLength_14 rfl ?_
  refine j_imul C dX2_stepsOfLength_15 ?_
  obtain ⟨a0, ha0⟩ : ∃ n : Nat, H1.size = n := ⟨_, rfl⟩
  have hlt0 : h + 1 ≤ a0 := by omega
  refine j_new (ci := 2) (fs := [.null, .null, .null, .null, .int (zI 0)]) (h := a0) C tyX1 tyX1_ok hwX1 rfl (index := 9) (by decide +kernel) (by decide +kernel) (by decide +kernel) (fun j hj => by rcases (show j = 0 ∨ j = 1 ∨ j = 2 ∨ j = 3 ∨ j = 4 by omega) with rfl | rfl | rfl | rfl | rfl <;> rfl) ha0 (Nat.le_of_ble_eq_true rfl) (Nat.le_of_ble_eq_true rfl) dX2_stepsOfLength_16 (fun H2 hN hW => ?_)
  have hA1 := hA1.kept (hW.2 _ (by omega))
  have hsz := hW.1
  have hO16 := hN
  refine j_dup C dX2_stepsOfLength_19 rfl ?_
  refine j_bipush C dX2_stepsOfLength_20 (by decide) ?_
  refine j_callmV (jrunI (rest := [.ref a0, .int (zI (2 * 0)), .ref h]) (As := [.int (zI 24)]) C (c_X1_init l G a0 24) gX2_stepsOfLength_X1_init rfl 1 (by decide +kernel) (by decide +kernel) (by decide +kernel) rfl (by decide +kernel) rfl rfl ⟨Nat.le_of_ble_eq_true rfl, Nat.le_of_ble_eq_true rfl⟩ ⟨hO16, by omega, by decide⟩ rfl rfl (Nat.le_of_ble_eq_true rfl) ⟨Nat.le_of_ble_eq_true rfl, Nat.le_of_ble_eq_true rfl⟩ dX2_stepsOfLength_22) (by intro q hq; (try dsimp only at hq ⊢); omega) (fun H3 h22 hF => ?_)
  have hA1 := hA1.kept (hF.2 _ hA1.lt (by intro h3; first | exact h3 | omega))
  obtain ⟨hP0, hsz⟩ := h22
  refine j_aast C hA1 hP0.ob ⟨by decide, by decide⟩ (by show h ≤ h; omega) dX2_stepsOfLength_25 (fun H4 hR hC => ?_)
  have hA1 := hR
  have hP0 := hP0.chg hC (by omega)
  have hsz : a0 + 5 ≤ H4.size := by have := hC.1; omega
  refine j_aload_n C dX2_stepsOfLength_26 rfl ?_
  refine j_iconst C dX2_stepsOfLength_27 ?_
  refine j_iload_n C dX2_stepsOfLength_28 rfl ?_
  refine j_imul C dX2_stepsOfLength_29 ?_
  refine j_iconst C dX2_stepsOfLength_30 ?_
  refine j_iadd C dX2_stepsOfLength_31 ?_
  obtain ⟨a1, ha1⟩ : ∃ n : Nat, H4.size = n := ⟨_, rfl⟩
  have hlt1 : a0 + 5 ≤ a1 := by omega
  refine j_new (ci := 2) (fs := [.null, .null, .null, .null, .int (zI 0)]) (h := a1) C tyX1 tyX1_ok hwX1 rfl (index := 9) (by decide +kernel) (by decide +kernel) (by decide +kernel) (fun j hj => by rcases (show j = 0 ∨ j = 1 ∨ j = 2 ∨ j = 3 ∨ j = 4 by omega) with rfl | rfl | rfl | rfl | rfl <;> rfl) ha1 (Nat.le_of_ble_eq_true rfl) (Nat.le_of_ble_eq_true rfl) dX2_stepsOfLength_32 (fun H5 hN hW => ?_)
  have hA1 := hA1.kept (hW.2 _ (by omega))
  have hP0 := hP0.grw hW (by omega)
  have hsz := hW.1
  have hO32 := hN
  refine j_dup C dX2_stepsOfLength_35 rfl ?_
  refine j_bipush C dX2_stepsOfLength_36 (by decide) ?_
  refine j_callmV (jrunI (rest := [.ref a1, .int (zI ((2 * 0) + 1)), .ref h]) (As := [.int (zI 24)]) C (c_X1_init l G a1 24) gX2_stepsOfLength_X1_init rfl 1 (by decide +kernel) (by decide +kernel) (by decide +kernel) rfl (by decide +kernel) rfl rfl ⟨Nat.le_of_ble_eq_true rfl, Nat.le_of_ble_eq_true rfl⟩ ⟨hO32, by omega, by decide⟩ rfl rfl (Nat.le_of_ble_eq_true rfl) ⟨Nat.le_of_ble_eq_true rfl, Nat.le_of_ble_eq_true rfl⟩ dX2_stepsOfLength_38) (by intro q hq; (try dsimp only at hq ⊢); omega) (fun H6 h38 hF => ?_)
  have hA1 := hA1.kept (hF.2 _ hA1.lt (by intro h3; first | exact h3 | omega))
  have hP0 := hP0.frm hF (by intro q h1 h2 h3; (try dsimp only at h3); omega)
  obtain ⟨hP1, hsz⟩ := h38
  refine j_aast C hA1 hP1.ob ⟨by decide, by decide⟩ (by show h ≤ h; omega) dX2_stepsOfLength_41 (fun H7 hR hC => ?_)
  have hA1 := hR
  have hP0 := hP0.chg hC (by omega)
  have hP1 := hP1.chg hC (by omega)
  have hsz : a1 + 5 ≤ H7.size := by have := hC.1; omega
  refine j_iload_n C dX2_stepsOfLength_42 rfl ?_
  refine j_aload_n C dX2_stepsOfLength_43 rfl ?_
  refine j_iconst C dX2_stepsOfLength_44 ?_
  refine j_iload_n C dX2_stepsOfLength_45 rfl ?_
  refine j_imul C dX2_stepsOfLength_46 ?_
  refine j_aald (a := a0) C hA1 ⟨by decide, by decide⟩ rfl dX2_stepsOfLength_47 ?_
  refine j_callmV (jrunS (rest := []) (As := [.int (zI 0), .ref a0]) C (c_X2_putStrong l G 0 a0 24 []) gX2_stepsOfLength_X2_putStrong rfl 2 (by decide +kernel) rfl rfl ⟨Nat.le_of_ble_eq_true rfl, Nat.le_of_ble_eq_true rfl⟩ ⟨⟨by decide, by decide⟩, hP0, by decide⟩ rfl rfl (Nat.le_of_ble_eq_true rfl) ⟨Nat.le_of_ble_eq_true rfl, Nat.le_of_ble_eq_true rfl⟩ dX2_stepsOfLength_48) (by intro q hq; (try dsimp only at hq ⊢); omega) (fun H8 h48 hF => ?_)
  have hA1 := hA1.kept (hF.2 _ hA1.lt (by intro h3; first | exact h3 | omega))
  have hP1 := hP1.frm hF (by intro q h1 h2 h3; (try dsimp only at h3); omega)
  have hP0 := h48
  have hsz : a1 + 5 ≤ H8.size := by have := hF.1; omega
  refine j_aload_n C dX2_stepsOfLength_51 rfl ?_
  refine j_iconst C dX2_stepsOfLength_52 ?_
  refine j_iload_n C dX2_stepsOfLength_53 rfl ?_
  refine j_imul C dX2_stepsOfLength_54 ?_
  refine j_aald (a := a0) C hA1 ⟨by decide, by decide⟩ rfl dX2_stepsOfLength_55 ?_
  refine j_aload_n C dX2_stepsOfLength_56 rfl ?_
  refine j_iconst C dX2_stepsOfLength_57 ?_
  refine j_iload_n C dX2_stepsOfLength_58 rfl ?_
  refine j_imul C dX2_stepsOfLength_59 ?_
  refine j_iconst C dX2_stepsOfLength_60 ?_
  refine j_iadd C dX2_stepsOfLength_61 ?_
  refine j_aald (a := a1) C hA1 ⟨by decide, by decide⟩ rfl dX2_stepsOfLength_62 ?_
  refine j_callmV (jrunS (rest := []) (As := [.ref a0, .ref a1]) C (c_X2_putTurned l G a0 24 a1 24 (strongF 0) []) gX2_stepsOfLength_X2_putTurned rfl 2 (by decide +kernel) rfl rfl ⟨Nat.le_of_ble_eq_true rfl, Nat.le_of_ble_eq_true rfl⟩ ⟨hP0, hP1, by decide, by omega, (VM.strong (i := 0) (by decide) (by decide)).B, by decide⟩ rfl rfl (Nat.le_of_ble_eq_true rfl) ⟨Nat.le_of_ble_eq_true rfl, Nat.le_of_ble_eq_true rfl⟩ dX2_stepsOfLength_63) (by intro q hq; (try dsimp only at hq ⊢); omega) (fun H9 h63 hF => ?_)
  have hA1 := hA1.kept (hF.2 _ hA1.lt (by intro h3; first | exact h3 | omega))
  have hP0 := hP0.frm hF (by intro q h1 h2 h3; (try dsimp only at h3); omega)
  have hP1 := h63
  have hsz : a1 + 5 ≤ H9.size := by have := hF.1; omega
  refine j_iinc (lv' := [(0, .ref h), (1, .int (zI (0 + 1)))]) C dX2_stepsOfLength_66 rfl (by decide) rfl ?_
  refine j_goto (tgt := 7) C dX2_stepsOfLength_69 (by decide) ?_
  refine j_iload_n C dX2_stepsOfLength_7 rfl ?_
  refine j_iconst C dX2_stepsOfLength_8 ?_
  refine j_icmp_ge (tgt := 72) C dX2_stepsOfLength_9 (by decide) ⟨by decide, by decide⟩ ⟨by decide, by decide⟩ (fun c9 => absurd c9 (by decide)) (fun c9 => ?_)
  refine j_aload_n C dX2_stepsOfLength_12 rfl ?_
  refine j_iconst C dX2_stepsOfLength_13 ?_
  refine j_iload_n C dX2_stepsOfLength_14 rfl ?_
  refine j_imul C dX2_stepsOfLength_15 ?_
  obtain ⟨a2, ha2⟩ : ∃ n : Nat, H9.size = n := ⟨_, rfl⟩
  have hlt2 : a1 + 5 ≤ a2 := by omega
  refine j_new (ci := 2) (fs := [.null, .null, .null, .null, .int (zI 0)]) (h := a2) C tyX1 tyX1_ok hwX1 rfl (index := 9) (by decide +kernel) (by decide +kernel) (by decide +kernel) (fun j hj => by rcases (show j = 0 ∨ j = 1 ∨ j = 2 ∨ j = 3 ∨ j = 4 by omega) with rfl | rfl | rfl | rfl | rfl <;> rfl) ha2 (Nat.le_of_ble_eq_true rfl) (Nat.le_of_ble_eq_true rfl) dX2_stepsOfLength_16 (fun H10 hN hW => ?_)
  have hA1 := hA1.kept (hW.2 _ (by omega))
  have hP0 := hP0.grw hW (by omega)
  have hP1 := hP1.grw hW (by omega)
  have hsz := hW.1
  have hO16 := hN
  refine j_dup C dX2_stepsOfLength_19 rfl ?_
  refine j_bipush C dX2_stepsOfLength_20 (by decide) ?_
  refine j_callmV (jrunI (rest := [.ref a2, .int (zI (2 * (0 + 1))), .ref h]) (As := [.int (zI 24)]) C (c_X1_init l G a2 24) gX2_stepsOfLength_X1_init rfl 1 (by decide +kernel) (by decide +kernel) (by decide +kernel) rfl (by decide +kernel) rfl rfl ⟨Nat.le_of_ble_eq_true rfl, Nat.le_of_ble_eq_true rfl⟩ ⟨hO16, by omega, by decide⟩ rfl rfl (Nat.le_of_ble_eq_true rfl) ⟨Nat.le_of_ble_eq_true rfl, Nat.le_of_ble_eq_true rfl⟩ dX2_stepsOfLength_22) (by intro q hq; (try dsimp only at hq ⊢); omega) (fun H11 h22 hF => ?_)
  have hA1 := hA1.kept (hF.2 _ hA1.lt (by intro h3; first | exact h3 | omega))
  have hP0 := hP0.frm hF (by intro q h1 h2 h3; (try dsimp only at h3); omega)
  have hP1 := hP1.frm hF (by intro q h1 h2 h3; (try dsimp only at h3); omega)
  obtain ⟨hP2, hsz⟩ := h22
  refine j_aast C hA1 hP2.ob ⟨by decide, by decide⟩ (by show h ≤ h; omega) dX2_stepsOfLength_25 (fun H12 hR hC => ?_)
  have hA1 := hR
  have hP0 := hP0.chg hC (by omega)
  have hP1 := hP1.chg hC (by omega)
  have hP2 := hP2.chg hC (by omega)
  have hsz : a2 + 5 ≤ H12.size := by have := hC.1; omega
  refine j_aload_n C dX2_stepsOfLength_26 rfl ?_
  refine j_iconst C dX2_stepsOfLength_27 ?_
  refine j_iload_n C dX2_stepsOfLength_28 rfl ?_
  refine j_imul C dX2_stepsOfLength_29 ?_
  refine j_iconst C dX2_stepsOfLength_30 ?_
  refine j_iadd C dX2_stepsOfLength_31 ?_
  obtain ⟨a3, ha3⟩ : ∃ n : Nat, H12.size = n := ⟨_, rfl⟩
  have hlt3 : a2 + 5 ≤ a3 := by omega
  refine j_new (ci := 2) (fs := [.null, .null, .null, .null, .int (zI 0)]) (h := a3) C tyX1 tyX1_ok hwX1 rfl (index := 9) (by decide +kernel) (by decide +kernel) (by decide +kernel) (fun j hj => by rcases (show j = 0 ∨ j = 1 ∨ j = 2 ∨ j = 3 ∨ j = 4 by omega) with rfl | rfl | rfl | rfl | rfl <;> rfl) ha3 (Nat.le_of_ble_eq_true rfl) (Nat.le_of_ble_eq_true rfl) dX2_stepsOfLength_32 (fun H13 hN hW => ?_)
  have hA1 := hA1.kept (hW.2 _ (by omega))
  have hP0 := hP0.grw hW (by omega)
  have hP1 := hP1.grw hW (by omega)
  have hP2 := hP2.grw hW (by omega)
  have hsz := hW.1
  have hO32 := hN
  refine j_dup C dX2_stepsOfLength_35 rfl ?_
  refine j_bipush C dX2_stepsOfLength_36 (by decide) ?_
  refine j_callmV (jrunI (rest := [.ref a3, .int (zI ((2 * (0 + 1)) + 1)), .ref h]) (As := [.int (zI 24)]) C (c_X1_init l G a3 24) gX2_stepsOfLength_X1_init rfl 1 (by decide +kernel) (by decide +kernel) (by decide +kernel) rfl (by decide +kernel) rfl rfl ⟨Nat.le_of_ble_eq_true rfl, Nat.le_of_ble_eq_true rfl⟩ ⟨hO32, by omega, by decide⟩ rfl rfl (Nat.le_of_ble_eq_true rfl) ⟨Nat.le_of_ble_eq_true rfl, Nat.le_of_ble_eq_true rfl⟩ dX2_stepsOfLength_38) (by intro q hq; (try dsimp only at hq ⊢); omega) (fun H14 h38 hF => ?_)
  have hA1 := hA1.kept (hF.2 _ hA1.lt (by intro h3; first | exact h3 | omega))
  have hP0 := hP0.frm hF (by intro q h1 h2 h3; (try dsimp only at h3); omega)
  have hP1 := hP1.frm hF (by intro q h1 h2 h3; (try dsimp only at h3); omega)
  have hP2 := hP2.frm hF (by intro q h1 h2 h3; (try dsimp only at h3); omega)
  obtain ⟨hP3, hsz⟩ := h38
  refine j_aast C hA1 hP3.ob ⟨by decide, by decide⟩ (by show h ≤ h; omega) dX2_stepsOfLength_41 (fun H15 hR hC => ?_)
  have hA1 := hR
  have hP0 := hP0.chg hC (by omega)
  have hP1 := hP1.chg hC (by omega)
  have hP2 := hP2.chg hC (by omega)
  have hP3 := hP3.chg hC (by omega)
  have hsz : a3 + 5 ≤ H15.size := by have := hC.1; omega
  refine j_iload_n C dX2_stepsOfLength_42 rfl ?_
  refine j_aload_n C dX2_stepsOfLength_43 rfl ?_
  refine j_iconst C dX2_stepsOfLength_44 ?_
  refine j_iload_n C dX2_stepsOfLength_45 rfl ?_
  refine j_imul C dX2_stepsOfLength_46 ?_
  refine j_aald (a := a2) C hA1 ⟨by decide, by decide⟩ rfl dX2_stepsOfLength_47 ?_
  refine j_callmV (jrunS (rest := []) (As := [.int (zI (0 + 1)), .ref a2]) C (c_X2_putStrong l G 1 a2 24 []) gX2_stepsOfLength_X2_putStrong rfl 2 (by decide +kernel) rfl rfl ⟨Nat.le_of_ble_eq_true rfl, Nat.le_of_ble_eq_true rfl⟩ ⟨⟨by decide, by decide⟩, hP2, by decide⟩ rfl rfl (Nat.le_of_ble_eq_true rfl) ⟨Nat.le_of_ble_eq_true rfl, Nat.le_of_ble_eq_true rfl⟩ dX2_stepsOfLength_48) (by intro q hq; (try dsimp only at hq ⊢); omega) (fun H16 h48 hF => ?_)
  have hA1 := hA1.kept (hF.2 _ hA1.lt (by intro h3; first | exact h3 | omega))
  have hP0 := hP0.frm hF (by intro q h1 h2 h3; (try dsimp only at h3); omega)
  have hP1 := hP1.frm hF (by intro q h1 h2 h3; (try dsimp only at h3); omega)
  have hP3 := hP3.frm hF (by intro q h1 h2 h3; (try dsimp only at h3); omega)
  have hP2 := h48
  have hsz : a3 + 5 ≤ H16.size := by have := hF.1; omega
  refine j_aload_n C dX2_stepsOfLength_51 rfl ?_
  refine j_iconst C dX2_stepsOfLength_52 ?_
  refine j_iload_n C dX2_stepsOfLength_53 rfl ?_
  refine j_imul C dX2_stepsOfLength_54 ?_
  refine j_aald (a := a2) C hA1 ⟨by decide, by decide⟩ rfl dX2_stepsOfLength_55 ?_
  refine j_aload_n C dX2_stepsOfLength_56 rfl ?_
  refine j_iconst C dX2_stepsOfLength_57 ?_
  refine j_iload_n C dX2_stepsOfLength_58 rfl ?_
  refine j_imul C dX2_stepsOfLength_59 ?_
  refine j_iconst C dX2_stepsOfLength_60 ?_
  refine j_iadd C dX2_stepsOfLength_61 ?_
  refine j_aald (a := a3) C hA1 ⟨by decide, by decide⟩ rfl dX2_stepsOfLength_62 ?_
  refine j_callmV (jrunS (rest := []) (As := [.ref a2, .ref a3]) C (c_X2_putTurned l G a2 24 a3 24 (strongF 1) []) gX2_stepsOfLength_X2_putTurned rfl 2 (by decide +kernel) rfl rfl ⟨Nat.le_of_ble_eq_true rfl, Nat.le_of_ble_eq_true rfl⟩ ⟨hP2, hP3, by decide, by omega, (VM.strong (i := 1) (by decide) (by decide)).B, by decide⟩ rfl rfl (Nat.le_of_ble_eq_true rfl) ⟨Nat.le_of_ble_eq_true rfl, Nat.le_of_ble_eq_true rfl⟩ dX2_stepsOfLength_63) (by intro q hq; (try dsimp only at hq ⊢); omega) (fun H17 h63 hF => ?_)
  have hA1 := hA1.kept (hF.2 _ hA1.lt (by intro h3; first | exact h3 | omega))
  have hP0 := hP0.frm hF (by intro q h1 h2 h3; (try dsimp only at h3); omega)
  have hP1 := hP1.frm hF (by intro q h1 h2 h3; (try dsimp only at h3); omega)
  have hP2 := hP2.frm hF (by intro q h1 h2 h3; (try dsimp only at h3); omega)
  have hP3 := h63
  have hsz : a3 + 5 ≤ H17.size := by have := hF.1; omega
  refine j_iinc (lv' := [(0, .ref h), (1, .int (zI ((0 + 1) + 1)))]) C dX2_stepsOfLength_66 rfl (by decide) rfl ?_
  refine j_goto (tgt := 7) C dX2_stepsOfLength_69 (by decide) ?_
  refine j_iload_n C dX2_stepsOfLength_7 rfl ?_
  refine j_iconst C dX2_stepsOfLength_8 ?_
  refine j_icmp_ge (tgt := 72) C dX2_stepsOfLength_9 (by decide) ⟨by decide, by decide⟩ ⟨by decide, by decide⟩ (fun c9 => ?_) (fun c9 => absurd c9 (by decide))
  refine j_aload_n C dX2_stepsOfLength_72 rfl ?_
  exact j_aret C hr (Or.inr ⟨_, rfl⟩) (Nat.le_refl _) (Nat.le_refl _) ⟨rfl, a0, a1, a2, a3, by omega, by omega, by omega, by omega, by omega, hA1, hP0, hP1, hP2, hP3⟩ dX2_stepsOfLength_73
