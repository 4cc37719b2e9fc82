set_option maxHeartbeats 4000000 in
set_option maxRecDepth 100000 in
/-- X3_power -/
theorem c_X3_power (l : Launch) (G : Gx) (o : Nat) (maps : Int → List Q4) (hand : List Q4) (ud uc : Int) (t x k : Int) : Met l yX3_power wsX3_power ({ frames := 4, cells := 0, slots := 0, locals := 107 } : Room) (cPc G [.ref o, .int (zI t), .int (zI x), .int (zI k)] (fun H => MX G H o maps hand ud uc ∧ iR t ∧ iR x ∧ iR k ∧ VMs maps)) (qmI (fun r H => r = (opPower maps t x k).1 ∧ MX G H o (opPower maps t x k).2 hand ud uc) (fun q : Nat => o ≤ q ∧ q < o + 11)) 0 0 (fun q : Nat => o ≤ q ∧ q < o + 11) := by
  refine Met.ofJ (cc := cX3_power) (maxL := 5) (ret := (some .int)) (lv0 := [(0, .ref o), (1, .int (zI t)), (2, .int (zI x)), (3, .int (zI k))]) (by decide) rfl (Nat.le_of_ble_eq_true rfl) rfl ?_
  intro p e s m args below meth c C hr hnm hpre
  obtain ⟨⟨us, uo, ub, uw, ua, ue, ux, m0, m1, m3, m7, m8, m12, m13, m14, m15, m16, hM, hT, hHd, hBL⟩, ⟨ht1, ht2⟩, ⟨hx1, hx2⟩, ⟨hk1, hk2⟩, hV⟩ := hpre
  have hwX3 : ∀ w ∈ u_ws RX3 TX3 20, w ∈ wsX3_power := by decide +kernel
  have hs := hT.iR hV
  refine j_iload_n C dX3_power_0 rfl ?_
  refine j_callI (jrunS (rest := []) (As := [.int (zI t)]) C (c_X3_isSlot l G t) gX3_power_X3_isSlot rfl 1 (by decide +kernel) rfl rfl ⟨Nat.le_of_ble_eq_true rfl, Nat.le_of_ble_eq_true rfl⟩ ⟨by omega, by omega⟩ rfl rfl (Nat.le_of_ble_eq_true rfl) ⟨Nat.le_of_ble_eq_true rfl, Nat.le_of_ble_eq_true rfl⟩ dX3_power_1) (fun r1 h1 => ?_)
  rcases h1 with ⟨h1, rfl⟩ | ⟨h1, rfl⟩
  · skip
    refine j_if_eq (tgt := 15) C dX3_power_4 (by decide) ⟨by decide, by decide⟩ (fun c4 => absurd c4 (by decide)) (fun c4 => ?_)
    refine j_aload_n C dX3_power_7 rfl ?_
    refine j_iload_n C dX3_power_8 rfl ?_
    refine j_callI (jrunV (rest := []) (As := [.int (zI x)]) C (c_X3_isMap l G o (hand.length : Int) ud uc us uo ub uw ua ue ux m0 m1 m3 m7 m8 m12 m13 m14 m15 m16 x) gX3_power_X3_isMap rfl 1 (by decide +kernel) rfl rfl ⟨Nat.le_of_ble_eq_true rfl, Nat.le_of_ble_eq_true rfl⟩ hM.1 rfl ⟨hM, ⟨by omega, by omega⟩, hs⟩ rfl rfl (Nat.le_of_ble_eq_true rfl) ⟨Nat.le_of_ble_eq_true rfl, Nat.le_of_ble_eq_true rfl⟩ dX3_power_9) (fun r9 h9 => ?_)
    rcases h9 with ⟨⟨h9, h9b⟩, rfl⟩ | ⟨h9, rfl⟩
    · skip
      have h9 : thP maps x := ⟨h9, by have := (hT x h9.1 h9.2).1; omega⟩
      have hVx := hV x h9.1.1 h9.1.2 h9.2
      have hTx := hT x h9.1.1 h9.1.2
      have hlx := hVx.len
      refine j_if_ne (tgt := 18) C dX3_power_12 (by decide) ⟨by decide, by decide⟩ (fun c12 => ?_) (fun c12 => absurd c12 (by decide))
      refine j_iload_n C dX3_power_18 rfl ?_
      refine j_i2l C dX3_power_19 ⟨by omega, by omega⟩ ?_
      refine j_ldc2 (z := (-12)) C (index := 119) (v := (-12)) (by decide +kernel) (by decide) dX3_power_20 ?_
      refine j_ldc2 (z := 12) C (index := 121) (v := 12) (by decide +kernel) (by decide) dX3_power_23 ?_
      refine j_callI (jrunS (rest := []) (As := [.long (zL k), .long (zL (-12)), .long (zL 12)]) C (c_X3_in l G k (-12) 12) gX3_power_X3_in rfl 3 (by decide +kernel) rfl rfl ⟨Nat.le_of_ble_eq_true rfl, Nat.le_of_ble_eq_true rfl⟩ ⟨⟨by omega, by omega⟩, ⟨by decide, by decide⟩, ⟨by decide, by decide⟩⟩ rfl rfl (Nat.le_of_ble_eq_true rfl) ⟨Nat.le_of_ble_eq_true rfl, Nat.le_of_ble_eq_true rfl⟩ dX3_power_26) (fun r26 h26 => ?_)
      rcases h26 with ⟨h26, rfl⟩ | ⟨h26, rfl⟩
      · skip
        refine j_if_ne (tgt := 35) C dX3_power_29 (by decide) ⟨by decide, by decide⟩ (fun c29 => ?_) (fun c29 => absurd c29 (by decide))
        refine j_aload_n C dX3_power_35 rfl ?_
        refine j_callmV (jrunV (rest := []) (As := []) C (c_X3_nothing l G o (hand.length : Int) ud uc us uo ub uw ua ue ux m0 m1 m3 m7 m8 m12 m13 m14 m15 m16) gX3_power_X3_nothing rfl 0 (by decide +kernel) rfl rfl ⟨Nat.le_of_ble_eq_true rfl, Nat.le_of_ble_eq_true rfl⟩ hM.1 rfl hM rfl rfl (Nat.le_of_ble_eq_true rfl) ⟨Nat.le_of_ble_eq_true rfl, Nat.le_of_ble_eq_true rfl⟩ dX3_power_36) (by intro q hq; (try dsimp only at hq ⊢); omega) (fun H1 h36 hF => ?_)
        obtain ⟨w36, hM, hL7⟩ := h36
        refine j_iconst C dX3_power_39 ?_
        refine j_istore (lv' := [(0, .ref o), (1, .int (zI t)), (2, .int (zI x)), (3, .int (zI k)), (4, .int (zI 0))]) C dX3_power_40 (by decide) rfl ?_
        have K42 : ∀ (fu42 : Nat) (i : Int) (R : List Q4) (uo : Int) (m7 m8 m15 : Int → Int) (Hl1 : Heap), (k.natAbs - i).toNat < fu42 → MP G Hl1 o (hand.length : Int) ud uc (R.length : Int) uo ub uw ua ue ux m0 m1 m3 m7 m8 m12 m13 m14 m15 m16 → 0 ≤ i ∧ i ≤ (k.natAbs : Int) → R4 R m7 → VM R → powF (if k < 0 then turnF (maps x) else maps x) i.toNat = some R → JJ p l e ({ frames := 4, cells := 0, slots := 0, locals := 107 } : Room) s m args below meth c (MQ below (qmI (fun r H => r = (opPower maps t x k).1 ∧ MX G H o (opPower maps t x k).2 hand ud uc) (fun q : Nat => o ≤ q ∧ q < o + 11)) args s 0 0 (fun q : Nat => o ≤ q ∧ q < o + 11)) (fun q : Nat => o ≤ q ∧ q < o + 11) 5 Hl1 0 0 42 [(0, .ref o), (1, .int (zI t)), (2, .int (zI x)), (3, .int (zI k)), (4, .int (zI i))] [] := by
          intro fu42
          induction fu42 with
          | zero => intro i R uo m7 m8 m15 Hl1 hm42 hM hi hR hVR hp; exact absurd hm42 (Nat.not_lt_zero _)
          | succ fu42 ih42 =>
            intro i R uo m7 m8 m15 Hl1 hm42 hM hi hR hVR hp
            refine j_iload C dX3_power_42 rfl ?_
            refine j_iload_n C dX3_power_44 rfl ?_
            refine j_if_ge (tgt := 53) C dX3_power_45 (by decide) ⟨by omega, by omega⟩ (fun c45 => ?_) (fun c45 => ?_)
            · skip
              refine j_iload_n C dX3_power_53 rfl ?_
              refine j_icmp_ge (tgt := 96) C dX3_power_54 (by decide) ⟨by omega, by omega⟩ ⟨by omega, by omega⟩ (fun c54 => ?_) (fun c54 => ?_)
              · skip
                have hi3 : i.toNat = k.natAbs := by omega
                rw [hi3] at hp
                refine j_aload_n C dX3_power_96 rfl ?_
                refine j_iload_n C dX3_power_97 rfl ?_
                have hL7 := hR
                have hlR := hVR.len
                refine j_callmV (jrunV (rest := []) (As := [.int (zI t)]) C (c_X3_store l G o (hand.length : Int) ud uc (R.length : Int) uo ub uw ua ue ux m0 m1 m3 m7 m8 m12 m13 m14 m15 m16 t) gX3_power_X3_store rfl 1 (by decide +kernel) rfl rfl ⟨Nat.le_of_ble_eq_true rfl, Nat.le_of_ble_eq_true rfl⟩ hM.1 rfl ⟨hM, h1, by omega, by omega⟩ rfl rfl (Nat.le_of_ble_eq_true rfl) ⟨Nat.le_of_ble_eq_true rfl, Nat.le_of_ble_eq_true rfl⟩ dX3_power_98) (by intro q hq; (try dsimp only at hq ⊢); omega) (fun H2 h98 hF => ?_)
                have hM := h98
                have hT := hT.store (t := t) h1 (us := (R.length : Int)) (L := R) rfl (by omega) hL7 hV.le
                refine j_aload_n C dX3_power_101 rfl ?_
                refine j_get (T := TX3) (N := 20) (fs := _) (v := .int (zI (R.length : Int))) C hwX3 hM.1 6 (by decide) rfl (index := 51) (ref := "TreePairsModel") (by decide +kernel) rfl rfl dX3_power_102 ?_
                exact j_iret C hr (Nat.le_refl _) (Nat.zero_le _) (by unfold opPower; rw [if_pos ⟨h1, h9⟩, if_pos ⟨by omega, by omega⟩, hp]; exact ⟨rfl, ⟨_, _, _, _, _, _, _, _, _, _, _, _, _, _, _, _, _, hM, hT, hHd, hBL⟩⟩) dX3_power_105
              · skip
                have hlR := hVR.len
                refine j_aload_n C dX3_power_57 rfl ?_
                refine j_callmV (jrunV (rest := []) (As := []) C (c_X3_aside l G o (hand.length : Int) ud uc (R.length : Int) uo ub uw ua ue ux m0 m1 m3 m7 m8 m12 m13 m14 m15 m16) gX3_power_X3_aside rfl 0 (by decide +kernel) rfl rfl ⟨Nat.le_of_ble_eq_true rfl, Nat.le_of_ble_eq_true rfl⟩ hM.1 rfl ⟨hM, by omega, by omega⟩ rfl rfl (Nat.le_of_ble_eq_true rfl) ⟨Nat.le_of_ble_eq_true rfl, Nat.le_of_ble_eq_true rfl⟩ dX3_power_58) (by intro q hq; (try dsimp only at hq ⊢); omega) (fun H3 h58 hF => ?_)
                obtain ⟨w58, ew58⟩ : ∃ f, f = cpf m8 m7 0 (4 * (R.length : Int)) := ⟨_, rfl⟩
                have hM := h58
                rw [← ew58] at hM
                have hA8 := hR.congr (g := w58) (fun k k0 k1 => by rw [ew58, cpf_in (by omega), Int.sub_zero])
                refine j_aload_n C dX3_power_61 rfl ?_
                refine j_iload_n C dX3_power_62 rfl ?_
                refine j_callmV (jrunV (rest := []) (As := [.int (zI x)]) C (c_X3_load l G o (hand.length : Int) ud uc (R.length : Int) (R.length : Int) ub uw ua ue ux m0 m1 m3 m7 w58 m12 m13 m14 m15 m16 x (maps x)) gX3_power_X3_load rfl 1 (by decide +kernel) rfl rfl ⟨Nat.le_of_ble_eq_true rfl, Nat.le_of_ble_eq_true rfl⟩ hM.1 rfl ⟨hM, h9.1, hTx.1, by omega, hVx.B, hTx.2⟩ rfl rfl (Nat.le_of_ble_eq_true rfl) ⟨Nat.le_of_ble_eq_true rfl, Nat.le_of_ble_eq_true rfl⟩ dX3_power_63) (by intro q hq; (try dsimp only at hq ⊢); omega) (fun H4 h63 hF => ?_)
                obtain ⟨w63, hM, hL7⟩ := h63
                refine j_iload_n C dX3_power_66 rfl ?_
                refine j_if_ge (tgt := 74) C dX3_power_67 (by decide) ⟨by omega, by omega⟩ (fun c67 => ?_) (fun c67 => ?_)
                · skip
                  have hbs : (if k < 0 then turnF (maps x) else maps x) = maps x := if_neg (by omega)
                  refine j_aload_n C dX3_power_74 rfl ?_
                  refine j_callmV (jrunV (rest := []) (As := []) C (c_X3_follow l G o (hand.length : Int) ud uc ((maps x).length : Int) (R.length : Int) ub uw ua ue ux m0 m1 m3 w63 w58 m12 m13 m14 m15 m16 R (maps x)) gX3_power_X3_follow rfl 0 (by decide +kernel) rfl rfl ⟨Nat.le_of_ble_eq_true rfl, Nat.le_of_ble_eq_true rfl⟩ hM.1 rfl ⟨hM, rfl, rfl, ⟨by omega, by omega⟩, hA8, hL7, hVR.B, hVx.B, by have := VM.prod_len hVR hVx; omega, VM.prod_B hVR hVx⟩ rfl rfl (Nat.le_of_ble_eq_true rfl) ⟨Nat.le_of_ble_eq_true rfl, Nat.le_of_ble_eq_true rfl⟩ dX3_power_75) (by intro q hq; (try dsimp only at hq ⊢); omega) (fun H5 h75 hF => ?_)
                  obtain ⟨M, w75, x75, hM, hL7, hG, hN⟩ := h75
                  have ec := comp_of hVR hVx hG hN
                  have el : (M.length : Int) = ((compF R (maps x)).length : Int) := (by rw [← ec, arr_len])
                  rw [ec] at hL7
                  rw [el] at hM
                  have hcl : (compF R (maps x)).length ≤ 48 := (by have h1 := VM.prod_len hVR hVx; have h2 : (redF (prodF R (maps x))).length ≤ 0 + (prodF R (maps x)).length := redF_len _ []; unfold compF; omega)
                  refine j_aload_n C dX3_power_78 rfl ?_
                  refine j_get (T := TX3) (N := 20) (fs := _) (v := .int (zI ((compF R (maps x)).length : Int))) C hwX3 hM.1 6 (by decide) rfl (index := 51) (ref := "TreePairsModel") (by decide +kernel) rfl rfl dX3_power_79 ?_
                  refine j_bipush C dX3_power_82 (by decide) ?_
                  refine j_icmp_le (tgt := 90) C dX3_power_84 (by decide) ⟨by omega, by omega⟩ ⟨by decide, by decide⟩ (fun c84 => ?_) (fun c84 => ?_)
                  · skip
                    refine j_iinc (lv' := [(0, .ref o), (1, .int (zI t)), (2, .int (zI x)), (3, .int (zI k)), (4, .int (zI (i + 1)))]) C dX3_power_90 rfl (by decide) rfl ?_
                    refine j_goto (tgt := 42) C dX3_power_93 (by decide) ?_
                    exact JJ.drop (lv' := [(0, .ref o), (1, .int (zI t)), (2, .int (zI x)), (3, .int (zI k)), (4, .int (zI (i + 1)))]) rfl (ih42 (i + 1) (compF R (maps x)) _ _ _ _ H5 (by omega) hM ⟨by omega, by omega⟩ hL7 (VM.comp hVR hVx (by omega)) (by rw [powF_s hi.1 hp, hbs, if_pos (by omega)]))
                  · skip
                    refine j_bipush C dX3_power_87 (by decide) ?_
                    exact j_iret C hr (Nat.le_refl _) (Nat.zero_le _) (by unfold opPower; rw [if_pos ⟨h1, h9⟩, if_pos ⟨by omega, by omega⟩]; have hz := powF_none (B := (if k < 0 then turnF (maps x) else maps x)) (n := (i + 1).toNat) (by rw [powF_s hi.1 hp, hbs, if_neg (by omega)]) (k.natAbs - (i + 1).toNat); rw [show (i + 1).toNat + (k.natAbs - (i + 1).toNat) = k.natAbs by omega] at hz; rw [hz]; exact ⟨rfl, ⟨_, _, _, _, _, _, _, _, _, _, _, _, _, _, _, _, _, hM, hT, hHd, hBL⟩⟩) dX3_power_89
                · skip
                  have hbs : (if k < 0 then turnF (maps x) else maps x) = turnF (maps x) := if_pos (by omega)
                  refine j_aload_n C dX3_power_70 rfl ?_
                  refine j_callmV (jrunV (rest := []) (As := []) C (c_X3_turnWork l G o (hand.length : Int) ud uc ((maps x).length : Int) (R.length : Int) ub uw ua ue ux m0 m1 m3 w63 w58 m12 m13 m14 m15 m16 (maps x)) gX3_power_X3_turnWork rfl 0 (by decide +kernel) rfl rfl ⟨Nat.le_of_ble_eq_true rfl, Nat.le_of_ble_eq_true rfl⟩ hM.1 rfl ⟨hM, rfl, by omega, hL7, hVx.B⟩ rfl rfl (Nat.le_of_ble_eq_true rfl) ⟨Nat.le_of_ble_eq_true rfl, Nat.le_of_ble_eq_true rfl⟩ dX3_power_71) (by intro q hq; (try dsimp only at hq ⊢); omega) (fun H6 h71 hF => ?_)
                  obtain ⟨w71, hM, hL7⟩ := h71
                  have htl := turnF_len (maps x)
                  rw [← htl] at hM
                  refine j_aload_n C dX3_power_74 rfl ?_
                  refine j_callmV (jrunV (rest := []) (As := []) C (c_X3_follow l G o (hand.length : Int) ud uc ((turnF (maps x)).length : Int) (R.length : Int) ub uw ua ue ux m0 m1 m3 w71 w58 m12 m13 m14 m15 m16 R (turnF (maps x))) gX3_power_X3_follow rfl 0 (by decide +kernel) rfl rfl ⟨Nat.le_of_ble_eq_true rfl, Nat.le_of_ble_eq_true rfl⟩ hM.1 rfl ⟨hM, rfl, rfl, ⟨by omega, by omega⟩, hA8, hL7, hVR.B, hVx.turn.B, by have := VM.prod_len hVR hVx.turn; omega, VM.prod_B hVR hVx.turn⟩ rfl rfl (Nat.le_of_ble_eq_true rfl) ⟨Nat.le_of_ble_eq_true rfl, Nat.le_of_ble_eq_true rfl⟩ dX3_power_75) (by intro q hq; (try dsimp only at hq ⊢); omega) (fun H7 h75 hF => ?_)
                  obtain ⟨M, w75, x75, hM, hL7, hG, hN⟩ := h75
                  have ec := comp_of hVR hVx.turn hG hN
                  have el : (M.length : Int) = ((compF R (turnF (maps x))).length : Int) := (by rw [← ec, arr_len])
                  rw [ec] at hL7
                  rw [el] at hM
                  have hcl : (compF R (turnF (maps x))).length ≤ 48 := (by have h1 := VM.prod_len hVR hVx.turn; have h2 : (redF (prodF R (turnF (maps x)))).length ≤ 0 + (prodF R (turnF (maps x))).length := redF_len _ []; unfold compF; omega)
                  refine j_aload_n C dX3_power_78 rfl ?_
                  refine j_get (T := TX3) (N := 20) (fs := _) (v := .int (zI ((compF R (turnF (maps x))).length : Int))) C hwX3 hM.1 6 (by decide) rfl (index := 51) (ref := "TreePairsModel") (by decide +kernel) rfl rfl dX3_power_79 ?_
                  refine j_bipush C dX3_power_82 (by decide) ?_
                  refine j_icmp_le (tgt := 90) C dX3_power_84 (by decide) ⟨by omega, by omega⟩ ⟨by decide, by decide⟩ (fun c84 => ?_) (fun c84 => ?_)
                  · skip
                    refine j_iinc (lv' := [(0, .ref o), (1, .int (zI t)), (2, .int (zI x)), (3, .int (zI k)), (4, .int (zI (i + 1)))]) C dX3_power_90 rfl (by decide) rfl ?_
                    refine j_goto (tgt := 42) C dX3_power_93 (by decide) ?_
                    exact JJ.drop (lv' := [(0, .ref o), (1, .int (zI t)), (2, .int (zI x)), (3, .int (zI k)), (4, .int (zI (i + 1)))]) rfl (ih42 (i + 1) (compF R (turnF (maps x))) _ _ _ _ H7 (by omega) hM ⟨by omega, by omega⟩ hL7 (VM.comp hVR hVx.turn (by omega)) (by rw [powF_s hi.1 hp, hbs, if_pos (by omega)]))
                  · skip
                    refine j_bipush C dX3_power_87 (by decide) ?_
                    exact j_iret C hr (Nat.le_refl _) (Nat.zero_le _) (by unfold opPower; rw [if_pos ⟨h1, h9⟩, if_pos ⟨by omega, by omega⟩]; have hz := powF_none (B := (if k < 0 then turnF (maps x) else maps x)) (n := (i + 1).toNat) (by rw [powF_s hi.1 hp, hbs, if_neg (by omega)]) (k.natAbs - (i + 1).toNat); rw [show (i + 1).toNat + (k.natAbs - (i + 1).toNat) = k.natAbs by omega] at hz; rw [hz]; exact ⟨rfl, ⟨_, _, _, _, _, _, _, _, _, _, _, _, _, _, _, _, _, hM, hT, hHd, hBL⟩⟩) dX3_power_89
            · skip
              refine j_iload_n C dX3_power_48 rfl ?_
              refine j_ineg C dX3_power_49 ?_
              refine j_goto (tgt := 54) C dX3_power_50 (by decide) ?_
              refine j_icmp_ge (tgt := 96) C dX3_power_54 (by decide) ⟨by omega, by omega⟩ ⟨by omega, by omega⟩ (fun c54 => ?_) (fun c54 => ?_)
              · skip
                have hi3 : i.toNat = k.natAbs := by omega
                rw [hi3] at hp
                refine j_aload_n C dX3_power_96 rfl ?_
                refine j_iload_n C dX3_power_97 rfl ?_
                have hL7 := hR
                have hlR := hVR.len
                refine j_callmV (jrunV (rest := []) (As := [.int (zI t)]) C (c_X3_store l G o (hand.length : Int) ud uc (R.length : Int) uo ub uw ua ue ux m0 m1 m3 m7 m8 m12 m13 m14 m15 m16 t) gX3_power_X3_store rfl 1 (by decide +kernel) rfl rfl ⟨Nat.le_of_ble_eq_true rfl, Nat.le_of_ble_eq_true rfl⟩ hM.1 rfl ⟨hM, h1, by omega, by omega⟩ rfl rfl (Nat.le_of_ble_eq_true rfl) ⟨Nat.le_of_ble_eq_true rfl, Nat.le_of_ble_eq_true rfl⟩ dX3_power_98) (by intro q hq; (try dsimp only at hq ⊢); omega) (fun H8 h98 hF => ?_)
                have hM := h98
                have hT := hT.store (t := t) h1 (us := (R.length : Int)) (L := R) rfl (by omega) hL7 hV.le
                refine j_aload_n C dX3_power_101 rfl ?_
                refine j_get (T := TX3) (N := 20) (fs := _) (v := .int (zI (R.length : Int))) C hwX3 hM.1 6 (by decide) rfl (index := 51) (ref := "TreePairsModel") (by decide +kernel) rfl rfl dX3_power_102 ?_
                exact j_iret C hr (Nat.le_refl _) (Nat.zero_le _) (by unfold opPower; rw [if_pos ⟨h1, h9⟩, if_pos ⟨by omega, by omega⟩, hp]; exact ⟨rfl, ⟨_, _, _, _, _, _, _, _, _, _, _, _, _, _, _, _, _, hM, hT, hHd, hBL⟩⟩) dX3_power_105
              · skip
                have hlR := hVR.len
                refine j_aload_n C dX3_power_57 rfl ?_
                refine j_callmV (jrunV (rest := []) (As := []) C (c_X3_aside l G o (hand.length : Int) ud uc (R.length : Int) uo ub uw ua ue ux m0 m1 m3 m7 m8 m12 m13 m14 m15 m16) gX3_power_X3_aside rfl 0 (by decide +kernel) rfl rfl ⟨Nat.le_of_ble_eq_true rfl, Nat.le_of_ble_eq_true rfl⟩ hM.1 rfl ⟨hM, by omega, by omega⟩ rfl rfl (Nat.le_of_ble_eq_true rfl) ⟨Nat.le_of_ble_eq_true rfl, Nat.le_of_ble_eq_true rfl⟩ dX3_power_58) (by intro q hq; (try dsimp only at hq ⊢); omega) (fun H9 h58 hF => ?_)
                obtain ⟨w58, ew58⟩ : ∃ f, f = cpf m8 m7 0 (4 * (R.length : Int)) := ⟨_, rfl⟩
                have hM := h58
                rw [← ew58] at hM
                have hA8 := hR.congr (g := w58) (fun k k0 k1 => by rw [ew58, cpf_in (by omega), Int.sub_zero])
                refine j_aload_n C dX3_power_61 rfl ?_
                refine j_iload_n C dX3_power_62 rfl ?_
                refine j_callmV (jrunV (rest := []) (As := [.int (zI x)]) C (c_X3_load l G o (hand.length : Int) ud uc (R.length : Int) (R.length : Int) ub uw ua ue ux m0 m1 m3 m7 w58 m12 m13 m14 m15 m16 x (maps x)) gX3_power_X3_load rfl 1 (by decide +kernel) rfl rfl ⟨Nat.le_of_ble_eq_true rfl, Nat.le_of_ble_eq_true rfl⟩ hM.1 rfl ⟨hM, h9.1, hTx.1, by omega, hVx.B, hTx.2⟩ rfl rfl (Nat.le_of_ble_eq_true rfl) ⟨Nat.le_of_ble_eq_true rfl, Nat.le_of_ble_eq_true rfl⟩ dX3_power_63) (by intro q hq; (try dsimp only at hq ⊢); omega) (fun H10 h63 hF => ?_)
                obtain ⟨w63, hM, hL7⟩ := h63
                refine j_iload_n C dX3_power_66 rfl ?_
                refine j_if_ge (tgt := 74) C dX3_power_67 (by decide) ⟨by omega, by omega⟩ (fun c67 => ?_) (fun c67 => ?_)
                · skip
                  have hbs : (if k < 0 then turnF (maps x) else maps x) = maps x := if_neg (by omega)
                  refine j_aload_n C dX3_power_74 rfl ?_
                  refine j_callmV (jrunV (rest := []) (As := []) C (c_X3_follow l G o (hand.length : Int) ud uc ((maps x).length : Int) (R.length : Int) ub uw ua ue ux m0 m1 m3 w63 w58 m12 m13 m14 m15 m16 R (maps x)) gX3_power_X3_follow rfl 0 (by decide +kernel) rfl rfl ⟨Nat.le_of_ble_eq_true rfl, Nat.le_of_ble_eq_true rfl⟩ hM.1 rfl ⟨hM, rfl, rfl, ⟨by omega, by omega⟩, hA8, hL7, hVR.B, hVx.B, by have := VM.prod_len hVR hVx; omega, VM.prod_B hVR hVx⟩ rfl rfl (Nat.le_of_ble_eq_true rfl) ⟨Nat.le_of_ble_eq_true rfl, Nat.le_of_ble_eq_true rfl⟩ dX3_power_75) (by intro q hq; (try dsimp only at hq ⊢); omega) (fun H11 h75 hF => ?_)
                  obtain ⟨M, w75, x75, hM, hL7, hG, hN⟩ := h75
                  have ec := comp_of hVR hVx hG hN
                  have el : (M.length : Int) = ((compF R (maps x)).length : Int) := (by rw [← ec, arr_len])
                  rw [ec] at hL7
                  rw [el] at hM
                  have hcl : (compF R (maps x)).length ≤ 48 := (by have h1 := VM.prod_len hVR hVx; have h2 : (redF (prodF R (maps x))).length ≤ 0 + (prodF R (maps x)).length := redF_len _ []; unfold compF; omega)
                  refine j_aload_n C dX3_power_78 rfl ?_
                  refine j_get (T := TX3) (N := 20) (fs := _) (v := .int (zI ((compF R (maps x)).length : Int))) C hwX3 hM.1 6 (by decide) rfl (index := 51) (ref := "TreePairsModel") (by decide +kernel) rfl rfl dX3_power_79 ?_
                  refine j_bipush C dX3_power_82 (by decide) ?_
                  refine j_icmp_le (tgt := 90) C dX3_power_84 (by decide) ⟨by omega, by omega⟩ ⟨by decide, by decide⟩ (fun c84 => ?_) (fun c84 => ?_)
                  · skip
                    refine j_iinc (lv' := [(0, .ref o), (1, .int (zI t)), (2, .int (zI x)), (3, .int (zI k)), (4, .int (zI (i + 1)))]) C dX3_power_90 rfl (by decide) rfl ?_
                    refine j_goto (tgt := 42) C dX3_power_93 (by decide) ?_
                    exact JJ.drop (lv' := [(0, .ref o), (1, .int (zI t)), (2, .int (zI x)), (3, .int (zI k)), (4, .int (zI (i + 1)))]) rfl (ih42 (i + 1) (compF R (maps x)) _ _ _ _ H11 (by omega) hM ⟨by omega, by omega⟩ hL7 (VM.comp hVR hVx (by omega)) (by rw [powF_s hi.1 hp, hbs, if_pos (by omega)]))
                  · skip
                    refine j_bipush C dX3_power_87 (by decide) ?_
                    exact j_iret C hr (Nat.le_refl _) (Nat.zero_le _) (by unfold opPower; rw [if_pos ⟨h1, h9⟩, if_pos ⟨by omega, by omega⟩]; have hz := powF_none (B := (if k < 0 then turnF (maps x) else maps x)) (n := (i + 1).toNat) (by rw [powF_s hi.1 hp, hbs, if_neg (by omega)]) (k.natAbs - (i + 1).toNat); rw [show (i + 1).toNat + (k.natAbs - (i + 1).toNat) = k.natAbs by omega] at hz; rw [hz]; exact ⟨rfl, ⟨_, _, _, _, _, _, _, _, _, _, _, _, _, _, _, _, _, hM, hT, hHd, hBL⟩⟩) dX3_power_89
                · skip
                  have hbs : (if k < 0 then turnF (maps x) else maps x) = turnF (maps x) := if_pos (by omega)
                  refine j_aload_n C dX3_power_70 rfl ?_
                  refine j_callmV (jrunV (rest := []) (As := []) C (c_X3_turnWork l G o (hand.length : Int) ud uc ((maps x).length : Int) (R.length : Int) ub uw ua ue ux m0 m1 m3 w63 w58 m12 m13 m14 m15 m16 (maps x)) gX3_power_X3_turnWork rfl 0 (by decide +kernel) rfl rfl ⟨Nat.le_of_ble_eq_true rfl, Nat.le_of_ble_eq_true rfl⟩ hM.1 rfl ⟨hM, rfl, by omega, hL7, hVx.B⟩ rfl rfl (Nat.le_of_ble_eq_true rfl) ⟨Nat.le_of_ble_eq_true rfl, Nat.le_of_ble_eq_true rfl⟩ dX3_power_71) (by intro q hq; (try dsimp only at hq ⊢); omega) (fun H12 h71 hF => ?_)
                  obtain ⟨w71, hM, hL7⟩ := h71
                  have htl := turnF_len (maps x)
                  rw [← htl] at hM
                  refine j_aload_n C dX3_power_74 rfl ?_
                  refine j_callmV (jrunV (rest := []) (As := []) C (c_X3_follow l G o (hand.length : Int) ud uc ((turnF (maps x)).length : Int) (R.length : Int) ub uw ua ue ux m0 m1 m3 w71 w58 m12 m13 m14 m15 m16 R (turnF (maps x))) gX3_power_X3_follow rfl 0 (by decide +kernel) rfl rfl ⟨Nat.le_of_ble_eq_true rfl, Nat.le_of_ble_eq_true rfl⟩ hM.1 rfl ⟨hM, rfl, rfl, ⟨by omega, by omega⟩, hA8, hL7, hVR.B, hVx.turn.B, by have := VM.prod_len hVR hVx.turn; omega, VM.prod_B hVR hVx.turn⟩ rfl rfl (Nat.le_of_ble_eq_true rfl) ⟨Nat.le_of_ble_eq_true rfl, Nat.le_of_ble_eq_true rfl⟩ dX3_power_75) (by intro q hq; (try dsimp only at hq ⊢); omega) (fun H13 h75 hF => ?_)
                  obtain ⟨M, w75, x75, hM, hL7, hG, hN⟩ := h75
                  have ec := comp_of hVR hVx.turn hG hN
                  have el : (M.length : Int) = ((compF R (turnF (maps x))).length : Int) := (by rw [← ec, arr_len])
                  rw [ec] at hL7
                  rw [el] at hM
                  have hcl : (compF R (turnF (maps x))).length ≤ 48 := (by have h1 := VM.prod_len hVR hVx.turn; have h2 : (redF (prodF R (turnF (maps x)))).length ≤ 0 + (prodF R (turnF (maps x))).length := redF_len _ []; unfold compF; omega)
                  refine j_aload_n C dX3_power_78 rfl ?_
                  refine j_get (T := TX3) (N := 20) (fs := _) (v := .int (zI ((compF R (turnF (maps x))).length : Int))) C hwX3 hM.1 6 (by decide) rfl (index := 51) (ref := "TreePairsModel") (by decide +kernel) rfl rfl dX3_power_79 ?_
                  refine j_bipush C dX3_power_82 (by decide) ?_
                  refine j_icmp_le (tgt := 90) C dX3_power_84 (by decide) ⟨by omega, by omega⟩ ⟨by decide, by decide⟩ (fun c84 => ?_) (fun c84 => ?_)
                  · skip
                    refine j_iinc (lv' := [(0, .ref o), (1, .int (zI t)), (2, .int (zI x)), (3, .int (zI k)), (4, .int (zI (i + 1)))]) C dX3_power_90 rfl (by decide) rfl ?_
                    refine j_goto (tgt := 42) C dX3_power_93 (by decide) ?_
                    exact JJ.drop (lv' := [(0, .ref o), (1, .int (zI t)), (2, .int (zI x)), (3, .int (zI k)), (4, .int (zI (i + 1)))]) rfl (ih42 (i + 1) (compF R (turnF (maps x))) _ _ _ _ H13 (by omega) hM ⟨by omega, by omega⟩ hL7 (VM.comp hVR hVx.turn (by omega)) (by rw [powF_s hi.1 hp, hbs, if_pos (by omega)]))
                  · skip
                    refine j_bipush C dX3_power_87 (by decide) ?_
                    exact j_iret C hr (Nat.le_refl _) (Nat.zero_le _) (by unfold opPower; rw [if_pos ⟨h1, h9⟩, if_pos ⟨by omega, by omega⟩]; have hz := powF_none (B := (if k < 0 then turnF (maps x) else maps x)) (n := (i + 1).toNat) (by rw [powF_s hi.1 hp, hbs, if_neg (by omega)]) (k.natAbs - (i + 1).toNat); rw [show (i + 1).toNat + (k.natAbs - (i + 1).toNat) = k.natAbs by omega] at hz; rw [hz]; exact ⟨rfl, ⟨_, _, _, _, _, _, _, _, _, _, _, _, _, _, _, _, _, hM, hT, hHd, hBL⟩⟩) dX3_power_89
        exact JJ.drop (lv' := [(0, .ref o), (1, .int (zI t)), (2, .int (zI x)), (3, .int (zI k)), (4, .int (zI 0))]) rfl (K42 (((k.natAbs - (0 : Int)).toNat) + 1) 0 ([(0, 0, 0, 0)]) _ _ _ _ H1 (Nat.lt_succ_self _) hM ⟨by omega, by omega⟩ hL7 VM.nothing rfl)
      · skip
        refine j_if_ne (tgt := 35) C dX3_power_29 (by decide) ⟨by decide, by decide⟩ (fun c29 => absurd c29 (by decide)) (fun c29 => ?_)
        refine j_bipush C dX3_power_32 (by decide) ?_
        exact j_iret C hr (Nat.le_refl _) (Nat.zero_le _) (by unfold opPower; rw [if_pos ⟨h1, h9⟩, if_neg h26]; exact ⟨rfl, ⟨_, _, _, _, _, _, _, _, _, _, _, _, _, _, _, _, _, hM, hT, hHd, hBL⟩⟩) dX3_power_34
    · skip
      have h9 : ¬ thP maps x := (fun h => h9 ⟨h.1, by have := (hT x h.1.1 h.1.2).1; have := h.2; omega⟩)
      refine j_if_ne (tgt := 18) C dX3_power_12 (by decide) ⟨by decide, by decide⟩ (fun c12 => absurd c12 (by decide)) (fun c12 => ?_)
      refine j_bipush C dX3_power_15 (by decide) ?_
      exact j_iret C hr (Nat.le_refl _) (Nat.zero_le _) (by unfold opPower; rw [if_neg (fun h => by first | exact h1 h.1 | exact h9 h.2)]; exact ⟨rfl, ⟨_, _, _, _, _, _, _, _, _, _, _, _, _, _, _, _, _, hM, hT, hHd, hBL⟩⟩) dX3_power_17
  · skip
    refine j_if_eq (tgt := 15) C dX3_power_4 (by decide) ⟨by decide, by decide⟩ (fun c4 => ?_) (fun c4 => absurd c4 (by decide))
    refine j_bipush C dX3_power_15 (by decide) ?_
    exact j_iret C hr (Nat.le_refl _) (Nat.zero_le _) (by unfold opPower; rw [if_neg (fun h => by first | exact h1 h.1 | exact h9 h.2)]; exact ⟨rfl, ⟨_, _, _, _, _, _, _, _, _, _, _, _, _, _, _, _, _, hM, hT, hHd, hBL⟩⟩) dX3_power_17

set_option maxHeartbeats 4000000 in
set_option maxRecDepth 100000 in
/-- X3_order -/
theorem c_X3_order (l : Launch) (G : Gx) (o : Nat) (maps : Int → List Q4) (hand : List Q4) (ud uc : Int) (x : Int) : Met l yX3_order wsX3_order ({ frames := 4, cells := 0, slots := 0, locals := 107 } : Room) (cPc G [.ref o, .int (zI x)] (fun H => MX G H o maps hand ud uc ∧ iR x ∧ VMs maps)) (qmI (fun r H => r = anOrder maps x ∧ MX G H o maps hand ud uc) (fun q : Nat => o ≤ q ∧ q < o + 11)) 0 0 (fun q : Nat => o ≤ q ∧ q < o + 11) := by
  refine Met.ofJ (cc := cX3_order) (maxL := 3) (ret := (some .int)) (lv0 := [(0, .ref o), (1, .int (zI x))]) (by decide) rfl (Nat.le_of_ble_eq_true rfl) rfl ?_
  intro p e s m args below meth c C hr hnm hpre
  obtain ⟨⟨us, uo, ub, uw, ua, ue, ux, m0, m1, m3, m7, m8, m12, m13, m14, m15, m16, hM, hT, hHd, hBL⟩, ⟨hx1, hx2⟩, hV⟩ := hpre
  have hwX3 : ∀ w ∈ u_ws RX3 TX3 20, w ∈ wsX3_order := by decide +kernel
  have hs := hT.iR hV
  refine j_aload_n C dX3_order_0 rfl ?_
  refine j_iload_n C dX3_order_1 rfl ?_
  refine j_callI (jrunV (rest := []) (As := [.int (zI x)]) C (c_X3_isMap l G o (hand.length : Int) ud uc us uo ub uw ua ue ux m0 m1 m3 m7 m8 m12 m13 m14 m15 m16 x) gX3_order_X3_isMap rfl 1 (by decide +kernel) rfl rfl ⟨Nat.le_of_ble_eq_true rfl, Nat.le_of_ble_eq_true rfl⟩ hM.1 rfl ⟨hM, ⟨by omega, by omega⟩, hs⟩ rfl rfl (Nat.le_of_ble_eq_true rfl) ⟨Nat.le_of_ble_eq_true rfl, Nat.le_of_ble_eq_true rfl⟩ dX3_order_2) (fun r2 h2 => ?_)
  rcases h2 with ⟨⟨h2, h2b⟩, rfl⟩ | ⟨h2, rfl⟩
  · skip
    have h2 : thP maps x := ⟨h2, by have := (hT x h2.1 h2.2).1; omega⟩
    have hVx := hV x h2.1.1 h2.1.2 h2.2
    have hTx := hT x h2.1.1 h2.1.2
    have hlx := hVx.len
    refine j_if_ne (tgt := 11) C dX3_order_5 (by decide) ⟨by decide, by decide⟩ (fun c5 => ?_) (fun c5 => absurd c5 (by decide))
    refine j_aload_n C dX3_order_11 rfl ?_
    refine j_callmV (jrunV (rest := []) (As := []) C (c_X3_nothing l G o (hand.length : Int) ud uc us uo ub uw ua ue ux m0 m1 m3 m7 m8 m12 m13 m14 m15 m16) gX3_order_X3_nothing rfl 0 (by decide +kernel) rfl rfl ⟨Nat.le_of_ble_eq_true rfl, Nat.le_of_ble_eq_true rfl⟩ hM.1 rfl hM rfl rfl (Nat.le_of_ble_eq_true rfl) ⟨Nat.le_of_ble_eq_true rfl, Nat.le_of_ble_eq_true rfl⟩ dX3_order_12) (by intro q hq; (try dsimp only at hq ⊢); omega) (fun H1 h12 hF => ?_)
    obtain ⟨w12, hM, hL7⟩ := h12
    refine j_iconst C dX3_order_15 ?_
    refine j_istore_n (lv' := [(0, .ref o), (1, .int (zI x)), (2, .int (zI 1))]) C dX3_order_16 (by decide) rfl ?_
    have K17 : ∀ (fu17 : Nat) (k : Int) (R : List Q4) (uo : Int) (m7 m8 m15 : Int → Int) (Hl1 : Heap), (41 - k).toNat < fu17 → MP G Hl1 o (hand.length : Int) ud uc (R.length : Int) uo ub uw ua ue ux m0 m1 m3 m7 m8 m12 m13 m14 m15 m16 → 1 ≤ k ∧ k ≤ 41 → R4 R m7 → VM R → ordG (maps x) 40 1 [(0, 0, 0, 0)] = ordG (maps x) (41 - k).toNat k R → JJ p l e ({ frames := 4, cells := 0, slots := 0, locals := 107 } : Room) s m args below meth c (MQ below (qmI (fun r H => r = anOrder maps x ∧ MX G H o maps hand ud uc) (fun q : Nat => o ≤ q ∧ q < o + 11)) args s 0 0 (fun q : Nat => o ≤ q ∧ q < o + 11)) (fun q : Nat => o ≤ q ∧ q < o + 11) 3 Hl1 0 0 17 [(0, .ref o), (1, .int (zI x)), (2, .int (zI k))] [] := by
      intro fu17
      induction fu17 with
      | zero => intro k R uo m7 m8 m15 Hl1 hm17 hM hk hR hVR ho; exact absurd hm17 (Nat.not_lt_zero _)
      | succ fu17 ih17 =>
        intro k R uo m7 m8 m15 Hl1 hm17 hM hk hR hVR ho
        refine j_iload_n C dX3_order_17 rfl ?_
        refine j_bipush C dX3_order_18 (by decide) ?_
        refine j_icmp_gt (tgt := 62) C dX3_order_20 (by decide) ⟨by omega, by omega⟩ ⟨by decide, by decide⟩ (fun c20 => ?_) (fun c20 => ?_)
        · skip
          refine j_iconst C dX3_order_62 ?_
          exact j_iret C hr (Nat.le_refl _) (Nat.zero_le _) (by unfold anOrder; rw [if_pos h2, ho, show (41 - k).toNat = 0 by omega]; exact ⟨rfl, ⟨_, _, _, _, _, _, _, _, _, _, _, _, _, _, _, _, _, hM, hT, hHd, hBL⟩⟩) dX3_order_63
        · skip
          have hlR := hVR.len
          refine j_aload_n C dX3_order_23 rfl ?_
          refine j_callmV (jrunV (rest := []) (As := []) C (c_X3_aside l G o (hand.length : Int) ud uc (R.length : Int) uo ub uw ua ue ux m0 m1 m3 m7 m8 m12 m13 m14 m15 m16) gX3_order_X3_aside rfl 0 (by decide +kernel) rfl rfl ⟨Nat.le_of_ble_eq_true rfl, Nat.le_of_ble_eq_true rfl⟩ hM.1 rfl ⟨hM, by omega, by omega⟩ rfl rfl (Nat.le_of_ble_eq_true rfl) ⟨Nat.le_of_ble_eq_true rfl, Nat.le_of_ble_eq_true rfl⟩ dX3_order_24) (by intro q hq; (try dsimp only at hq ⊢); omega) (fun H2 h24 hF => ?_)
          obtain ⟨w24, ew24⟩ : ∃ f, f = cpf m8 m7 0 (4 * (R.length : Int)) := ⟨_, rfl⟩
          have hM := h24
          rw [← ew24] at hM
          have hA8 := hR.congr (g := w24) (fun k k0 k1 => by rw [ew24, cpf_in (by omega), Int.sub_zero])
          refine j_aload_n C dX3_order_27 rfl ?_
          refine j_iload_n C dX3_order_28 rfl ?_
          refine j_callmV (jrunV (rest := []) (As := [.int (zI x)]) C (c_X3_load l G o (hand.length : Int) ud uc (R.length : Int) (R.length : Int) ub uw ua ue ux m0 m1 m3 m7 w24 m12 m13 m14 m15 m16 x (maps x)) gX3_order_X3_load rfl 1 (by decide +kernel) rfl rfl ⟨Nat.le_of_ble_eq_true rfl, Nat.le_of_ble_eq_true rfl⟩ hM.1 rfl ⟨hM, h2.1, hTx.1, by omega, hVx.B, hTx.2⟩ rfl rfl (Nat.le_of_ble_eq_true rfl) ⟨Nat.le_of_ble_eq_true rfl, Nat.le_of_ble_eq_true rfl⟩ dX3_order_29) (by intro q hq; (try dsimp only at hq ⊢); omega) (fun H3 h29 hF => ?_)
          obtain ⟨w29, hM, hL7⟩ := h29
          refine j_aload_n C dX3_order_32 rfl ?_
          refine j_callmV (jrunV (rest := []) (As := []) C (c_X3_follow l G o (hand.length : Int) ud uc ((maps x).length : Int) (R.length : Int) ub uw ua ue ux m0 m1 m3 w29 w24 m12 m13 m14 m15 m16 R (maps x)) gX3_order_X3_follow rfl 0 (by decide +kernel) rfl rfl ⟨Nat.le_of_ble_eq_true rfl, Nat.le_of_ble_eq_true rfl⟩ hM.1 rfl ⟨hM, rfl, rfl, ⟨by omega, by omega⟩, hA8, hL7, hVR.B, hVx.B, by have := VM.prod_len hVR hVx; omega, VM.prod_B hVR hVx⟩ rfl rfl (Nat.le_of_ble_eq_true rfl) ⟨Nat.le_of_ble_eq_true rfl, Nat.le_of_ble_eq_true rfl⟩ dX3_order_33) (by intro q hq; (try dsimp only at hq ⊢); omega) (fun H4 h33 hF => ?_)
          obtain ⟨M, w33, x33, hM, hL7, hG, hN⟩ := h33
          have ec := comp_of hVR hVx hG hN
          have el : (M.length : Int) = ((compF R (maps x)).length : Int) := (by rw [← ec, arr_len])
          rw [ec] at hL7
          rw [el] at hM
          have hcl : (compF R (maps x)).length ≤ 48 := (by have h1 := VM.prod_len hVR hVx; have h2 : (redF (prodF R (maps x))).length ≤ 0 + (prodF R (maps x)).length := redF_len _ []; unfold compF; omega)
          refine j_aload_n C dX3_order_36 rfl ?_
          refine j_get (T := TX3) (N := 20) (fs := _) (v := .int (zI ((compF R (maps x)).length : Int))) C hwX3 hM.1 6 (by decide) rfl (index := 51) (ref := "TreePairsModel") (by decide +kernel) rfl rfl dX3_order_37 ?_
          refine j_bipush C dX3_order_40 (by decide) ?_
          refine j_icmp_le (tgt := 47) C dX3_order_42 (by decide) ⟨by omega, by omega⟩ ⟨by decide, by decide⟩ (fun c42 => ?_) (fun c42 => ?_)
          · skip
            refine j_aload_n C dX3_order_47 rfl ?_
            refine j_callI (jrunV (rest := []) (As := []) C (c_X3_isNothing l G o (hand.length : Int) ud uc ((compF R (maps x)).length : Int) (R.length : Int) ub uw ua ue ux m0 m1 m3 w33 w24 m12 m13 m14 x33 m16) gX3_order_X3_isNothing rfl 0 (by decide +kernel) rfl rfl ⟨Nat.le_of_ble_eq_true rfl, Nat.le_of_ble_eq_true rfl⟩ hM.1 rfl ⟨hM, by omega, by omega⟩ rfl rfl (Nat.le_of_ble_eq_true rfl) ⟨Nat.le_of_ble_eq_true rfl, Nat.le_of_ble_eq_true rfl⟩ dX3_order_48) (fun r48 h48 => ?_)
            rcases h48 with ⟨h48, rfl⟩ | ⟨h48, rfl⟩
            · skip
              refine j_if_eq (tgt := 56) C dX3_order_51 (by decide) ⟨by decide, by decide⟩ (fun c51 => absurd c51 (by decide)) (fun c51 => ?_)
              refine j_iload_n C dX3_order_54 rfl ?_
              exact j_iret C hr (Nat.le_refl _) (Nat.zero_le _) (by unfold anOrder; rw [if_pos h2, ho, ordG_s _ _ (by omega), if_pos (by omega), if_pos (by omega)]; exact ⟨rfl, ⟨_, _, _, _, _, _, _, _, _, _, _, _, _, _, _, _, _, hM, hT, hHd, hBL⟩⟩) dX3_order_55
            · skip
              refine j_if_eq (tgt := 56) C dX3_order_51 (by decide) ⟨by decide, by decide⟩ (fun c51 => ?_) (fun c51 => absurd c51 (by decide))
              refine j_iinc (lv' := [(0, .ref o), (1, .int (zI x)), (2, .int (zI (k + 1)))]) C dX3_order_56 rfl (by decide) rfl ?_
              refine j_goto (tgt := 17) C dX3_order_59 (by decide) ?_
              exact JJ.drop (lv' := [(0, .ref o), (1, .int (zI x)), (2, .int (zI (k + 1)))]) rfl (ih17 (k + 1) (compF R (maps x)) _ _ _ _ H4 (by omega) hM ⟨by omega, by omega⟩ hL7 (VM.comp hVR hVx (by omega)) (ho.trans (by rw [ordG_s _ _ (by omega), if_pos (by omega), if_neg (by omega)])))
          · skip
            refine j_iconst C dX3_order_45 ?_
            exact j_iret C hr (Nat.le_refl _) (Nat.zero_le _) (by unfold anOrder; rw [if_pos h2, ho, ordG_s _ _ (by omega), if_neg (by omega)]; exact ⟨rfl, ⟨_, _, _, _, _, _, _, _, _, _, _, _, _, _, _, _, _, hM, hT, hHd, hBL⟩⟩) dX3_order_46
    exact JJ.drop (lv' := [(0, .ref o), (1, .int (zI x)), (2, .int (zI 1))]) rfl (K17 (((41 - (1 : Int)).toNat) + 1) 1 ([(0, 0, 0, 0)]) _ _ _ _ H1 (Nat.lt_succ_self _) hM ⟨by omega, by omega⟩ hL7 VM.nothing rfl)
  · skip
    have h2 : ¬ thP maps x := (fun h => h2 ⟨h.1, by have := (hT x h.1.1 h.1.2).1; have := h.2; omega⟩)
    refine j_if_ne (tgt := 11) C dX3_order_5 (by decide) ⟨by decide, by decide⟩ (fun c5 => absurd c5 (by decide)) (fun c5 => ?_)
    refine j_bipush C dX3_order_8 (by decide) ?_
    exact j_iret C hr (Nat.le_refl _) (Nat.zero_le _) (by unfold anOrder; rw [if_neg h2]; exact ⟨rfl, ⟨_, _, _, _, _, _, _, _, _, _, _, _, _, _, _, _, _, hM, hT, hHd, hBL⟩⟩) dX3_order_10
