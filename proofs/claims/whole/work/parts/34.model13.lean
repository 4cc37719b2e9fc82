set_option maxHeartbeats 4000000 in
set_option maxRecDepth 100000 in
/-- X3_count -/
theorem c_X3_count (l : Launch) (G : Gx) (o : Nat) (maps : Int → List Q4) (hand : List Q4) (ud uc : Int) (w : Int) : Met l yX3_count wsX3_count ({ frames := 3, cells := 0, slots := 0, locals := 75 } : Room) (cPc G [.ref o, .int (zI w)] (fun H => MX G H o maps hand ud uc ∧ iR w ∧ VMs maps ∧ hand.length ≤ 24)) (qmI (fun r H => r = (if w = 0 then cntK maps 0 12 + cntK maps 1 12 + cntK maps 2 12 else if w = 1 then (hand.length : Int) else if w = 2 then cntK maps 0 12 else if w = 3 then cntK maps 1 12 else if w = 4 then cntK maps 2 12 else -102) ∧ MX G H o maps hand ud uc) (fun q : Nat => o ≤ q ∧ q < o + 11)) 0 0 (fun q : Nat => o ≤ q ∧ q < o + 11) := by
  refine Met.ofJ (cc := cX3_count) (maxL := 4) (ret := (some .int)) (lv0 := [(0, .ref o), (1, .int (zI w))]) (by decide) rfl (Nat.le_of_ble_eq_true rfl) rfl ?_
  intro p e s m args below meth c C hr hnm hpre
  obtain ⟨⟨us, uo, ub, uw, ua, ue, ux, m0, m1, m3, m7, m8, m12, m13, m14, m15, m16, hM, hT, hHd, hBL⟩, ⟨hw1, hw2⟩, hV, hhl⟩ := hpre
  have hwX3 : ∀ w ∈ u_ws RX3 TX3 20, w ∈ wsX3_count := by decide +kernel
  have hs := hT.iR hV
  refine j_iload_n C dX3_count_0 rfl ?_
  refine j_iconst C dX3_count_1 ?_
  refine j_icmp_ne (tgt := 10) C dX3_count_2 (by decide) ⟨by omega, by omega⟩ ⟨by decide, by decide⟩ (fun c2 => ?_) (fun c2 => ?_)
  · skip
    refine j_iload_n C dX3_count_10 rfl ?_
    refine j_if_eq (tgt := 31) C dX3_count_11 (by decide) ⟨by omega, by omega⟩ (fun c11 => ?_) (fun c11 => ?_)
    · skip
      refine j_iconst C dX3_count_31 ?_
      refine j_istore_n (lv' := [(0, .ref o), (1, .int (zI w)), (2, .int (zI 0))]) C dX3_count_32 (by decide) rfl ?_
      have hwc : w = 0 ∨ (2 ≤ w ∧ w ≤ 4) := (by first | exact Or.inr h22 | omega)
      refine j_iconst C dX3_count_33 ?_
      refine j_istore_n (lv' := [(0, .ref o), (1, .int (zI w)), (2, .int (zI 0)), (3, .int (zI 0))]) C dX3_count_34 (by decide) rfl ?_
      have K35 : ∀ (fu35 : Nat) (n i : Int) (Hl1 : Heap), (12 - i).toNat < fu35 → MX G Hl1 o maps hand ud uc → 0 ≤ i ∧ i ≤ 12 → 0 ≤ n ∧ n ≤ i → n = cntM maps w i.toNat → JJ p l e ({ frames := 3, cells := 0, slots := 0, locals := 75 } : Room) s m args below meth c (MQ below (qmI (fun r H => r = (if w = 0 then cntK maps 0 12 + cntK maps 1 12 + cntK maps 2 12 else if w = 1 then (hand.length : Int) else if w = 2 then cntK maps 0 12 else if w = 3 then cntK maps 1 12 else if w = 4 then cntK maps 2 12 else -102) ∧ MX G H o maps hand ud uc) (fun q : Nat => o ≤ q ∧ q < o + 11)) args s 0 0 (fun q : Nat => o ≤ q ∧ q < o + 11)) (fun q : Nat => o ≤ q ∧ q < o + 11) 4 Hl1 0 0 35 [(0, .ref o), (1, .int (zI w)), (2, .int (zI n)), (3, .int (zI i))] [] := by
        intro fu35
        induction fu35 with
        | zero => intro n i Hl1 hm35 hMX hi hnb hn; exact absurd hm35 (Nat.not_lt_zero _)
        | succ fu35 ih35 =>
          intro n i Hl1 hm35 hMX hi hnb hn
          obtain ⟨us, uo, ub, uw, ua, ue, ux, m0, m1, m3, m7, m8, m12, m13, m14, m15, m16, hM, hT, hHd, hBL⟩ := hMX
          refine j_iload_n C dX3_count_35 rfl ?_
          refine j_bipush C dX3_count_36 (by decide) ?_
          refine j_icmp_ge (tgt := 79) C dX3_count_38 (by decide) ⟨by omega, by omega⟩ ⟨by decide, by decide⟩ (fun c38 => ?_) (fun c38 => ?_)
          · skip
            have ei : i.toNat = 12 := by omega
            rw [ei] at hn
            refine j_iload_n C dX3_count_79 rfl ?_
            exact j_iret C hr (Nat.le_refl _) (Nat.zero_le _) ⟨by rw [hn]; rcases hwc with h | h; (rw [if_pos h, h]; exact cntM_0 12); (rw [if_neg (by omega), if_neg (by omega), cntM_K (by omega)]; have h5 : w = 2 ∨ w = 3 ∨ w = 4 := (by omega); rcases h5 with rfl | rfl | rfl <;> rfl), ⟨_, _, _, _, _, _, _, _, _, _, _, _, _, _, _, _, _, hM, hT, hHd, hBL⟩⟩ dX3_count_80
          · skip
            have hTi := hT i (by omega) (by omega)
            have hmi := hTi.1
            have hli := hV.le i (by omega) (by omega)
            have hcs := cntM_s (maps := maps) (w := w) (i := i) hi.1
            refine j_iload_n C dX3_count_41 rfl ?_
            refine j_aload_n C dX3_count_42 rfl ?_
            refine j_get (T := TX3) (N := 20) (fs := _) (v := .ref (o + 1)) C hwX3 hM.1 0 (by decide) rfl (index := 7) (ref := "TreePairsModel") (by decide +kernel) rfl rfl dX3_count_43 ?_
            refine j_iload_n C dX3_count_46 rfl ?_
            refine j_iald C hM.2.1 ⟨by omega, by omega⟩ dX3_count_47 ?_
            refine j_if_le (tgt := 70) C dX3_count_48 (by decide) ⟨by omega, by omega⟩ (fun c48 => ?_) (fun c48 => ?_)
            · skip
              rw [if_neg (fun h => by have := h.1.2; omega)] at hcs
              refine j_iconst C dX3_count_70 ?_
              refine j_iadd C dX3_count_71 ?_
              refine j_istore_n (lv' := [(0, .ref o), (1, .int (zI w)), (2, .int (zI (n + 0))), (3, .int (zI i))]) C dX3_count_72 (by decide) rfl ?_
              refine j_iinc (lv' := [(0, .ref o), (1, .int (zI w)), (2, .int (zI (n + 0))), (3, .int (zI (i + 1)))]) C dX3_count_73 rfl (by decide) rfl ?_
              refine j_goto (tgt := 35) C dX3_count_76 (by decide) ?_
              exact JJ.drop (lv' := [(0, .ref o), (1, .int (zI w)), (2, .int (zI (n + 0))), (3, .int (zI (i + 1)))]) rfl (ih35 (n + 0) (i + 1) Hl1 (by omega) ⟨_, _, _, _, _, _, _, _, _, _, _, _, _, _, _, _, _, hM, hT, hHd, hBL⟩ ⟨by omega, by omega⟩ ⟨by omega, by omega⟩ (by omega))
            · skip
              have hth : thP maps i := ⟨⟨by omega, by omega⟩, by omega⟩
              refine j_iload_n C dX3_count_51 rfl ?_
              refine j_if_eq (tgt := 66) C dX3_count_52 (by decide) ⟨by omega, by omega⟩ (fun c52 => ?_) (fun c52 => ?_)
              · skip
                rw [if_pos ⟨hth, Or.inl (by omega)⟩] at hcs
                refine j_iconst C dX3_count_66 ?_
                refine j_goto (tgt := 71) C dX3_count_67 (by decide) ?_
                refine j_iadd C dX3_count_71 ?_
                refine j_istore_n (lv' := [(0, .ref o), (1, .int (zI w)), (2, .int (zI (n + 1))), (3, .int (zI i))]) C dX3_count_72 (by decide) rfl ?_
                refine j_iinc (lv' := [(0, .ref o), (1, .int (zI w)), (2, .int (zI (n + 1))), (3, .int (zI (i + 1)))]) C dX3_count_73 rfl (by decide) rfl ?_
                refine j_goto (tgt := 35) C dX3_count_76 (by decide) ?_
                exact JJ.drop (lv' := [(0, .ref o), (1, .int (zI w)), (2, .int (zI (n + 1))), (3, .int (zI (i + 1)))]) rfl (ih35 (n + 1) (i + 1) Hl1 (by omega) ⟨_, _, _, _, _, _, _, _, _, _, _, _, _, _, _, _, _, hM, hT, hHd, hBL⟩ ⟨by omega, by omega⟩ ⟨by omega, by omega⟩ (by omega))
              · skip
                refine j_aload_n C dX3_count_55 rfl ?_
                refine j_iload_n C dX3_count_56 rfl ?_
                refine j_callmI (jrunV (rest := [.int (zI n)]) (As := [.int (zI i)]) C (c_X3_sortOf l G o maps hand ud uc i) gX3_count_X3_sortOf rfl 1 (by decide +kernel) rfl rfl ⟨Nat.le_of_ble_eq_true rfl, Nat.le_of_ble_eq_true rfl⟩ hM.1 rfl ⟨⟨_, _, _, _, _, _, _, _, _, _, _, _, _, _, _, _, _, hM, hT, hHd, hBL⟩, hV, hth⟩ rfl rfl (Nat.le_of_ble_eq_true rfl) ⟨Nat.le_of_ble_eq_true rfl, Nat.le_of_ble_eq_true rfl⟩ dX3_count_57) (by intro q hq; (try dsimp only at hq ⊢); omega) (fun r57 H1 h57 hF => ?_)
                obtain ⟨h57, hMX⟩ := h57
                rw [kind_of (hV i hth.1.1 hth.1.2 hth.2)] at h57
                have hkb := kindF_b (maps i)
                obtain ⟨us, uo, ub, uw, ua, ue, ux, m0, m1, m3, m7, m8, m12, m13, m14, m15, m16, hM, hT, hHd, hBL⟩ := hMX
                refine j_iload_n C dX3_count_60 rfl ?_
                refine j_iconst C dX3_count_61 ?_
                refine j_isub C dX3_count_62 ?_
                refine j_icmp_ne (tgt := 70) C dX3_count_63 (by decide) ⟨by omega, by omega⟩ ⟨by omega, by omega⟩ (fun c63 => ?_) (fun c63 => ?_)
                · skip
                  rw [if_neg (fun h => by rcases h.2 with h | h <;> omega)] at hcs
                  refine j_iconst C dX3_count_70 ?_
                  refine j_iadd C dX3_count_71 ?_
                  refine j_istore_n (lv' := [(0, .ref o), (1, .int (zI w)), (2, .int (zI (n + 0))), (3, .int (zI i))]) C dX3_count_72 (by decide) rfl ?_
                  refine j_iinc (lv' := [(0, .ref o), (1, .int (zI w)), (2, .int (zI (n + 0))), (3, .int (zI (i + 1)))]) C dX3_count_73 rfl (by decide) rfl ?_
                  refine j_goto (tgt := 35) C dX3_count_76 (by decide) ?_
                  exact JJ.drop (lv' := [(0, .ref o), (1, .int (zI w)), (2, .int (zI (n + 0))), (3, .int (zI (i + 1)))]) rfl (ih35 (n + 0) (i + 1) H1 (by omega) ⟨_, _, _, _, _, _, _, _, _, _, _, _, _, _, _, _, _, hM, hT, hHd, hBL⟩ ⟨by omega, by omega⟩ ⟨by omega, by omega⟩ (by omega))
                · skip
                  rw [if_pos ⟨hth, Or.inr (by omega)⟩] at hcs
                  refine j_iconst C dX3_count_66 ?_
                  refine j_goto (tgt := 71) C dX3_count_67 (by decide) ?_
                  refine j_iadd C dX3_count_71 ?_
                  refine j_istore_n (lv' := [(0, .ref o), (1, .int (zI w)), (2, .int (zI (n + 1))), (3, .int (zI i))]) C dX3_count_72 (by decide) rfl ?_
                  refine j_iinc (lv' := [(0, .ref o), (1, .int (zI w)), (2, .int (zI (n + 1))), (3, .int (zI (i + 1)))]) C dX3_count_73 rfl (by decide) rfl ?_
                  refine j_goto (tgt := 35) C dX3_count_76 (by decide) ?_
                  exact JJ.drop (lv' := [(0, .ref o), (1, .int (zI w)), (2, .int (zI (n + 1))), (3, .int (zI (i + 1)))]) rfl (ih35 (n + 1) (i + 1) H1 (by omega) ⟨_, _, _, _, _, _, _, _, _, _, _, _, _, _, _, _, _, hM, hT, hHd, hBL⟩ ⟨by omega, by omega⟩ ⟨by omega, by omega⟩ (by omega))
      exact JJ.drop (lv' := [(0, .ref o), (1, .int (zI w)), (2, .int (zI 0)), (3, .int (zI 0))]) rfl (K35 (((12 - (0 : Int)).toNat) + 1) 0 0 s.heap (Nat.lt_succ_self _) ⟨_, _, _, _, _, _, _, _, _, _, _, _, _, _, _, _, _, hM, hT, hHd, hBL⟩ ⟨by omega, by omega⟩ ⟨by omega, by omega⟩ rfl)
    · skip
      refine j_iload_n C dX3_count_14 rfl ?_
      refine j_i2l C dX3_count_15 ⟨by omega, by omega⟩ ?_
      refine j_ldc2 (z := 2) C (index := 65) (v := 2) (by decide +kernel) (by decide) dX3_count_16 ?_
      refine j_ldc2 (z := 4) C (index := 156) (v := 4) (by decide +kernel) (by decide) dX3_count_19 ?_
      refine j_callI (jrunS (rest := []) (As := [.long (zL w), .long (zL 2), .long (zL 4)]) C (c_X3_in l G w 2 4) gX3_count_X3_in rfl 3 (by decide +kernel) rfl rfl ⟨Nat.le_of_ble_eq_true rfl, Nat.le_of_ble_eq_true rfl⟩ ⟨⟨by omega, by omega⟩, ⟨by decide, by decide⟩, ⟨by decide, by decide⟩⟩ rfl rfl (Nat.le_of_ble_eq_true rfl) ⟨Nat.le_of_ble_eq_true rfl, Nat.le_of_ble_eq_true rfl⟩ dX3_count_22) (fun r22 h22 => ?_)
      rcases h22 with ⟨h22, rfl⟩ | ⟨h22, rfl⟩
      · skip
        refine j_if_ne (tgt := 31) C dX3_count_25 (by decide) ⟨by decide, by decide⟩ (fun c25 => ?_) (fun c25 => absurd c25 (by decide))
        refine j_iconst C dX3_count_31 ?_
        refine j_istore_n (lv' := [(0, .ref o), (1, .int (zI w)), (2, .int (zI 0))]) C dX3_count_32 (by decide) rfl ?_
        have hwc : w = 0 ∨ (2 ≤ w ∧ w ≤ 4) := (by first | exact Or.inr h22 | omega)
        refine j_iconst C dX3_count_33 ?_
        refine j_istore_n (lv' := [(0, .ref o), (1, .int (zI w)), (2, .int (zI 0)), (3, .int (zI 0))]) C dX3_count_34 (by decide) rfl ?_
        have K35 : ∀ (fu35 : Nat) (n i : Int) (Hl2 : Heap), (12 - i).toNat < fu35 → MX G Hl2 o maps hand ud uc → 0 ≤ i ∧ i ≤ 12 → 0 ≤ n ∧ n ≤ i → n = cntM maps w i.toNat → JJ p l e ({ frames := 3, cells := 0, slots := 0, locals := 75 } : Room) s m args below meth c (MQ below (qmI (fun r H => r = (if w = 0 then cntK maps 0 12 + cntK maps 1 12 + cntK maps 2 12 else if w = 1 then (hand.length : Int) else if w = 2 then cntK maps 0 12 else if w = 3 then cntK maps 1 12 else if w = 4 then cntK maps 2 12 else -102) ∧ MX G H o maps hand ud uc) (fun q : Nat => o ≤ q ∧ q < o + 11)) args s 0 0 (fun q : Nat => o ≤ q ∧ q < o + 11)) (fun q : Nat => o ≤ q ∧ q < o + 11) 4 Hl2 0 0 35 [(0, .ref o), (1, .int (zI w)), (2, .int (zI n)), (3, .int (zI i))] [] := by
          intro fu35
          induction fu35 with
          | zero => intro n i Hl2 hm35 hMX hi hnb hn; exact absurd hm35 (Nat.not_lt_zero _)
          | succ fu35 ih35 =>
            intro n i Hl2 hm35 hMX hi hnb hn
            obtain ⟨us, uo, ub, uw, ua, ue, ux, m0, m1, m3, m7, m8, m12, m13, m14, m15, m16, hM, hT, hHd, hBL⟩ := hMX
            refine j_iload_n C dX3_count_35 rfl ?_
            refine j_bipush C dX3_count_36 (by decide) ?_
            refine j_icmp_ge (tgt := 79) C dX3_count_38 (by decide) ⟨by omega, by omega⟩ ⟨by decide, by decide⟩ (fun c38 => ?_) (fun c38 => ?_)
            · skip
              have ei : i.toNat = 12 := by omega
              rw [ei] at hn
              refine j_iload_n C dX3_count_79 rfl ?_
              exact j_iret C hr (Nat.le_refl _) (Nat.zero_le _) ⟨by rw [hn]; rcases hwc with h | h; (rw [if_pos h, h]; exact cntM_0 12); (rw [if_neg (by omega), if_neg (by omega), cntM_K (by omega)]; have h5 : w = 2 ∨ w = 3 ∨ w = 4 := (by omega); rcases h5 with rfl | rfl | rfl <;> rfl), ⟨_, _, _, _, _, _, _, _, _, _, _, _, _, _, _, _, _, hM, hT, hHd, hBL⟩⟩ dX3_count_80
            · skip
              have hTi := hT i (by omega) (by omega)
              have hmi := hTi.1
              have hli := hV.le i (by omega) (by omega)
              have hcs := cntM_s (maps := maps) (w := w) (i := i) hi.1
              refine j_iload_n C dX3_count_41 rfl ?_
              refine j_aload_n C dX3_count_42 rfl ?_
              refine j_get (T := TX3) (N := 20) (fs := _) (v := .ref (o + 1)) C hwX3 hM.1 0 (by decide) rfl (index := 7) (ref := "TreePairsModel") (by decide +kernel) rfl rfl dX3_count_43 ?_
              refine j_iload_n C dX3_count_46 rfl ?_
              refine j_iald C hM.2.1 ⟨by omega, by omega⟩ dX3_count_47 ?_
              refine j_if_le (tgt := 70) C dX3_count_48 (by decide) ⟨by omega, by omega⟩ (fun c48 => ?_) (fun c48 => ?_)
              · skip
                rw [if_neg (fun h => by have := h.1.2; omega)] at hcs
                refine j_iconst C dX3_count_70 ?_
                refine j_iadd C dX3_count_71 ?_
                refine j_istore_n (lv' := [(0, .ref o), (1, .int (zI w)), (2, .int (zI (n + 0))), (3, .int (zI i))]) C dX3_count_72 (by decide) rfl ?_
                refine j_iinc (lv' := [(0, .ref o), (1, .int (zI w)), (2, .int (zI (n + 0))), (3, .int (zI (i + 1)))]) C dX3_count_73 rfl (by decide) rfl ?_
                refine j_goto (tgt := 35) C dX3_count_76 (by decide) ?_
                exact JJ.drop (lv' := [(0, .ref o), (1, .int (zI w)), (2, .int (zI (n + 0))), (3, .int (zI (i + 1)))]) rfl (ih35 (n + 0) (i + 1) Hl2 (by omega) ⟨_, _, _, _, _, _, _, _, _, _, _, _, _, _, _, _, _, hM, hT, hHd, hBL⟩ ⟨by omega, by omega⟩ ⟨by omega, by omega⟩ (by omega))
              · skip
                have hth : thP maps i := ⟨⟨by omega, by omega⟩, by omega⟩
                refine j_iload_n C dX3_count_51 rfl ?_
                refine j_if_eq (tgt := 66) C dX3_count_52 (by decide) ⟨by omega, by omega⟩ (fun c52 => ?_) (fun c52 => ?_)
                · skip
                  rw [if_pos ⟨hth, Or.inl (by omega)⟩] at hcs
                  refine j_iconst C dX3_count_66 ?_
                  refine j_goto (tgt := 71) C dX3_count_67 (by decide) ?_
                  refine j_iadd C dX3_count_71 ?_
                  refine j_istore_n (lv' := [(0, .ref o), (1, .int (zI w)), (2, .int (zI (n + 1))), (3, .int (zI i))]) C dX3_count_72 (by decide) rfl ?_
                  refine j_iinc (lv' := [(0, .ref o), (1, .int (zI w)), (2, .int (zI (n + 1))), (3, .int (zI (i + 1)))]) C dX3_count_73 rfl (by decide) rfl ?_
                  refine j_goto (tgt := 35) C dX3_count_76 (by decide) ?_
                  exact JJ.drop (lv' := [(0, .ref o), (1, .int (zI w)), (2, .int (zI (n + 1))), (3, .int (zI (i + 1)))]) rfl (ih35 (n + 1) (i + 1) Hl2 (by omega) ⟨_, _, _, _, _, _, _, _, _, _, _, _, _, _, _, _, _, hM, hT, hHd, hBL⟩ ⟨by omega, by omega⟩ ⟨by omega, by omega⟩ (by omega))
                · skip
                  refine j_aload_n C dX3_count_55 rfl ?_
                  refine j_iload_n C dX3_count_56 rfl ?_
                  refine j_callmI (jrunV (rest := [.int (zI n)]) (As := [.int (zI i)]) C (c_X3_sortOf l G o maps hand ud uc i) gX3_count_X3_sortOf rfl 1 (by decide +kernel) rfl rfl ⟨Nat.le_of_ble_eq_true rfl, Nat.le_of_ble_eq_true rfl⟩ hM.1 rfl ⟨⟨_, _, _, _, _, _, _, _, _, _, _, _, _, _, _, _, _, hM, hT, hHd, hBL⟩, hV, hth⟩ rfl rfl (Nat.le_of_ble_eq_true rfl) ⟨Nat.le_of_ble_eq_true rfl, Nat.le_of_ble_eq_true rfl⟩ dX3_count_57) (by intro q hq; (try dsimp only at hq ⊢); omega) (fun r57 H2 h57 hF => ?_)
                  obtain ⟨h57, hMX⟩ := h57
                  rw [kind_of (hV i hth.1.1 hth.1.2 hth.2)] at h57
                  have hkb := kindF_b (maps i)
                  obtain ⟨us, uo, ub, uw, ua, ue, ux, m0, m1, m3, m7, m8, m12, m13, m14, m15, m16, hM, hT, hHd, hBL⟩ := hMX
                  refine j_iload_n C dX3_count_60 rfl ?_
                  refine j_iconst C dX3_count_61 ?_
                  refine j_isub C dX3_count_62 ?_
                  refine j_icmp_ne (tgt := 70) C dX3_count_63 (by decide) ⟨by omega, by omega⟩ ⟨by omega, by omega⟩ (fun c63 => ?_) (fun c63 => ?_)
                  · skip
                    rw [if_neg (fun h => by rcases h.2 with h | h <;> omega)] at hcs
                    refine j_iconst C dX3_count_70 ?_
                    refine j_iadd C dX3_count_71 ?_
                    refine j_istore_n (lv' := [(0, .ref o), (1, .int (zI w)), (2, .int (zI (n + 0))), (3, .int (zI i))]) C dX3_count_72 (by decide) rfl ?_
                    refine j_iinc (lv' := [(0, .ref o), (1, .int (zI w)), (2, .int (zI (n + 0))), (3, .int (zI (i + 1)))]) C dX3_count_73 rfl (by decide) rfl ?_
                    refine j_goto (tgt := 35) C dX3_count_76 (by decide) ?_
                    exact JJ.drop (lv' := [(0, .ref o), (1, .int (zI w)), (2, .int (zI (n + 0))), (3, .int (zI (i + 1)))]) rfl (ih35 (n + 0) (i + 1) H2 (by omega) ⟨_, _, _, _, _, _, _, _, _, _, _, _, _, _, _, _, _, hM, hT, hHd, hBL⟩ ⟨by omega, by omega⟩ ⟨by omega, by omega⟩ (by omega))
                  · skip
                    rw [if_pos ⟨hth, Or.inr (by omega)⟩] at hcs
                    refine j_iconst C dX3_count_66 ?_
                    refine j_goto (tgt := 71) C dX3_count_67 (by decide) ?_
                    refine j_iadd C dX3_count_71 ?_
                    refine j_istore_n (lv' := [(0, .ref o), (1, .int (zI w)), (2, .int (zI (n + 1))), (3, .int (zI i))]) C dX3_count_72 (by decide) rfl ?_
                    refine j_iinc (lv' := [(0, .ref o), (1, .int (zI w)), (2, .int (zI (n + 1))), (3, .int (zI (i + 1)))]) C dX3_count_73 rfl (by decide) rfl ?_
                    refine j_goto (tgt := 35) C dX3_count_76 (by decide) ?_
                    exact JJ.drop (lv' := [(0, .ref o), (1, .int (zI w)), (2, .int (zI (n + 1))), (3, .int (zI (i + 1)))]) rfl (ih35 (n + 1) (i + 1) H2 (by omega) ⟨_, _, _, _, _, _, _, _, _, _, _, _, _, _, _, _, _, hM, hT, hHd, hBL⟩ ⟨by omega, by omega⟩ ⟨by omega, by omega⟩ (by omega))
        exact JJ.drop (lv' := [(0, .ref o), (1, .int (zI w)), (2, .int (zI 0)), (3, .int (zI 0))]) rfl (K35 (((12 - (0 : Int)).toNat) + 1) 0 0 s.heap (Nat.lt_succ_self _) ⟨_, _, _, _, _, _, _, _, _, _, _, _, _, _, _, _, _, hM, hT, hHd, hBL⟩ ⟨by omega, by omega⟩ ⟨by omega, by omega⟩ rfl)
      · skip
        refine j_if_ne (tgt := 31) C dX3_count_25 (by decide) ⟨by decide, by decide⟩ (fun c25 => absurd c25 (by decide)) (fun c25 => ?_)
        refine j_bipush C dX3_count_28 (by decide) ?_
        exact j_iret C hr (Nat.le_refl _) (Nat.zero_le _) ⟨by rw [if_neg c11, if_neg (by omega), if_neg (by omega), if_neg (by omega), if_neg (by omega)], ⟨_, _, _, _, _, _, _, _, _, _, _, _, _, _, _, _, _, hM, hT, hHd, hBL⟩⟩ dX3_count_30
  · skip
    refine j_aload_n C dX3_count_5 rfl ?_
    refine j_get (T := TX3) (N := 20) (fs := _) (v := .int (zI (hand.length : Int))) C hwX3 hM.1 2 (by decide) rfl (index := 88) (ref := "TreePairsModel") (by decide +kernel) rfl rfl dX3_count_6 ?_
    exact j_iret C hr (Nat.le_refl _) (Nat.zero_le _) ⟨by rw [if_neg (by omega), if_pos (by omega)], ⟨_, _, _, _, _, _, _, _, _, _, _, _, _, _, _, _, _, hM, hT, hHd, hBL⟩⟩ dX3_count_9

set_option maxHeartbeats 4000000 in
set_option maxRecDepth 100000 in
/-- X3_common -/
theorem c_X3_common (l : Launch) (G : Gx) (a b : Int) : Met l yX3_common wsX3_common ({ frames := 0, cells := 0, slots := 0, locals := 0 } : Room) (cPc G [.long (zL a), .long (zL b)] (fun H => (0 ≤ a ∧ a ≤ 8388608) ∧ (0 ≤ b ∧ b ≤ 8388608))) (qL (fun r => r = gcdF a b)) 0 0 (fun _ => False) := by
  refine Met.ofJ (cc := cX3_common) (maxL := 10) (ret := (some .long)) (lv0 := [(0, .long (zL a)), (2, .long (zL b))]) (by decide) rfl (Nat.le_of_ble_eq_true rfl) rfl ?_
  intro p e s m args below meth c C hr hnm hpre
  obtain ⟨ha, hb⟩ := hpre
  refine j_lload_n C dX3_common_0 rfl ?_
  refine j_lstore (lv' := [(0, .long (zL a)), (2, .long (zL b)), (4, .long (zL a))]) C dX3_common_1 (by decide) rfl ?_
  refine j_lload_n C dX3_common_3 rfl ?_
  refine j_lstore (lv' := [(0, .long (zL a)), (2, .long (zL b)), (4, .long (zL a)), (6, .long (zL b))]) C dX3_common_4 (by decide) rfl ?_
  have K6 : ∀ (fu6 : Nat) (x y : Int), y.toNat < fu6 → 0 ≤ x ∧ x ≤ 8388608 → 0 ≤ y ∧ y ≤ 8388608 → gcdF x y = gcdF a b → JJ p l e ({ frames := 0, cells := 0, slots := 0, locals := 0 } : Room) s m args below meth c (MQ below (qL (fun r => r = gcdF a b)) args s 0 0 (fun _ => False)) (fun _ => False) 10 s.heap 0 0 6 [(4, .long (zL x)), (6, .long (zL y))] [] := by
    intro fu6
    induction fu6 with
    | zero => intro x y hm6 hx hy hg; exact absurd hm6 (Nat.not_lt_zero _)
    | succ fu6 ih6 =>
      intro x y hm6 hx hy hg
      refine j_lload C dX3_common_6 rfl ?_
      refine j_lconst (z := 0) C dX3_common_8 rfl ?_
      refine j_lcmp_eq (tgt := 31) C dX3_common_9 dX3_common_10 (by decide) ⟨by omega, by omega⟩ ⟨by decide, by decide⟩ (fun c9 => ?_) (fun c9 => ?_)
      · skip
        refine j_lload C dX3_common_31 rfl ?_
        exact j_lretl C hr (Nat.le_refl _) (Nat.zero_le _) (by show x = _; have e : y = 0 := (by omega); rw [← hg, e]; exact (gcdF_0 hx.1).symm) dX3_common_33
      · skip
        have hm1 := Int.emod_lt_of_pos x (show 0 < y by omega)
        have hm2 := Int.emod_nonneg x (show y ≠ 0 by omega)
        refine j_lload C dX3_common_13 rfl ?_
        refine j_lload C dX3_common_15 rfl ?_
        refine j_lrem C dX3_common_17 ⟨by omega, by omega⟩ ⟨by omega, by omega⟩ ?_
        refine j_lstore (lv' := [(4, .long (zL x)), (6, .long (zL y)), (8, .long (zL (x % y)))]) C dX3_common_18 (by decide) rfl ?_
        refine j_lload C dX3_common_20 rfl ?_
        refine j_lstore (lv' := [(4, .long (zL y)), (6, .long (zL y)), (8, .long (zL (x % y)))]) C dX3_common_22 (by decide) rfl ?_
        refine j_lload C dX3_common_24 rfl ?_
        refine j_lstore (lv' := [(4, .long (zL y)), (6, .long (zL (x % y))), (8, .long (zL (x % y)))]) C dX3_common_26 (by decide) rfl ?_
        refine j_goto (tgt := 6) C dX3_common_28 (by decide) ?_
        exact JJ.drop (lv' := [(4, .long (zL y)), (6, .long (zL (x % y)))]) rfl (ih6 y (x % y) (by omega) hy ⟨by omega, by omega⟩ ((gcd_step hx.1 hy.1 (by omega)).trans hg))
  exact JJ.drop (lv' := [(4, .long (zL a)), (6, .long (zL b))]) rfl (K6 ((b.toNat) + 1) a b (Nat.lt_succ_self _) ha hb rfl)

set_option maxHeartbeats 4000000 in
set_option maxRecDepth 100000 in
/-- X3_seek -/
theorem c_X3_seek (l : Launch) (G : Gx) (o : Nat) (maps : Int → List Q4) (hand : List Q4) (ud uc : Int) (x k : Int) : Met l yX3_seek wsX3_seek ({ frames := 1, cells := 0, slots := 0, locals := 29 } : Room) (cPc G [.ref o, .int (zI x), .int (zI k)] (fun H => MX G H o maps hand ud uc ∧ VMs maps ∧ thP maps x ∧ iR k)) (qmI (fun r H => r = hsC (maps x) ∧ ∃ (us uo ub uw ua ue ux : Int) (m0 m1 m3 m7 m8 m12 m13 m14 m15 m16 : Int → Int), MP G H o (hand.length : Int) ud uc us uo ub uw ua ue ux m0 m1 m3 m7 m8 m12 m13 m14 m15 m16 ∧ MT maps m0 m1 ∧ R4 hand m3 ∧ BL ub uw m12 m13 m14 ∧ ua = ptG (maps x) k 0 ∧ ue = ptG (maps x) k 1) (fun q : Nat => o ≤ q ∧ q < o + 11)) 0 0 (fun q : Nat => o ≤ q ∧ q < o + 11) := by
  refine Met.ofJ (cc := cX3_seek) (maxL := 16) (ret := (some .int)) (lv0 := [(0, .ref o), (1, .int (zI x)), (2, .int (zI k))]) (by decide) rfl (Nat.le_of_ble_eq_true rfl) rfl ?_
  intro p e s m args below meth c C hr hnm hpre
  obtain ⟨⟨us, uo, ub, uw, ua, ue, ux, m0, m1, m3, m7, m8, m12, m13, m14, m15, m16, hM, hT, hHd, hBL⟩, hV, h2, ⟨hk1, hk2⟩⟩ := hpre
  have hwX3 : ∀ w ∈ u_ws RX3 TX3 20, w ∈ wsX3_seek := by decide +kernel
  have hs := hT.iR hV
  have hVx := hV x h2.1.1 h2.1.2 h2.2
  have hTx := hT x h2.1.1 h2.1.2
  have hlx := hVx.len
  have hmx := hTx.1
  refine j_iconst C dX3_seek_0 ?_
  refine j_istore_n (lv' := [(0, .ref o), (1, .int (zI x)), (2, .int (zI k)), (3, .int (zI 0))]) C dX3_seek_1 (by decide) rfl ?_
  refine j_aload_n C dX3_seek_2 rfl ?_
  refine j_ldc2 (z := (-1)) C (index := 173) (v := (-1)) (by decide +kernel) (by decide) dX3_seek_3 ?_
  refine j_put (T := TX3) (N := 20) (fs' := [.ref (o + 1), .ref (o + 2), .int (zI (hand.length : Int)), .ref (o + 3), .int (zI ud), .long (zL uc), .int (zI us), .ref (o + 4), .ref (o + 5), .int (zI uo), .int (zI ub), .int (zI uw), .ref (o + 6), .ref (o + 7), .ref (o + 8), .ref (o + 9), .ref (o + 10), .long (zL (-1)), .long (zL ue), .long (zL ux)]) (ty := .long) C tyX3 tyX3_ok nmX3 hwX3 hM.1 17 (by decide) rfl (index := 175) (ref := "TreePairsModel") (by decide +kernel) rfl rfl (by decide +kernel) rfl rfl (Nat.le_of_ble_eq_true rfl) rfl (by omega) dX3_seek_6 (fun H1 hO hC => ?_)
  have hM := hM.put_above hO hC
  refine j_aload_n C dX3_seek_9 rfl ?_
  refine j_ldc2 (z := (-1)) C (index := 173) (v := (-1)) (by decide +kernel) (by decide) dX3_seek_10 ?_
  refine j_put (T := TX3) (N := 20) (fs' := [.ref (o + 1), .ref (o + 2), .int (zI (hand.length : Int)), .ref (o + 3), .int (zI ud), .long (zL uc), .int (zI us), .ref (o + 4), .ref (o + 5), .int (zI uo), .int (zI ub), .int (zI uw), .ref (o + 6), .ref (o + 7), .ref (o + 8), .ref (o + 9), .ref (o + 10), .long (zL (-1)), .long (zL (-1)), .long (zL ux)]) (ty := .long) C tyX3 tyX3_ok nmX3 hwX3 hM.1 18 (by decide) rfl (index := 178) (ref := "TreePairsModel") (by decide +kernel) rfl rfl (by decide +kernel) rfl rfl (Nat.le_of_ble_eq_true rfl) rfl (by omega) dX3_seek_13 (fun H2 hO hC => ?_)
  have hM := hM.put_below hO hC
  refine j_iconst C dX3_seek_16 ?_
  refine j_istore (lv' := [(0, .ref o), (1, .int (zI x)), (2, .int (zI k)), (3, .int (zI 0)), (4, .int (zI 0))]) C dX3_seek_17 (by decide) rfl ?_
  have K19 : ∀ (fu19 : Nat) (n i ua ue : Int) (Hl1 : Heap), (((maps x).length : Int) - i).toNat < fu19 → MP G Hl1 o (hand.length : Int) ud uc us uo ub uw ua ue ux m0 m1 m3 m7 m8 m12 m13 m14 m15 m16 → 0 ≤ i ∧ i ≤ ((maps x).length : Int) → 0 ≤ n ∧ n ≤ i → n = hsC ((maps x).take i.toNat) → ua = ptG ((maps x).take i.toNat) k 0 → ue = ptG ((maps x).take i.toNat) k 1 → JJ p l e ({ frames := 1, cells := 0, slots := 0, locals := 29 } : Room) s m args below meth c (MQ below (qmI (fun r H => r = hsC (maps x) ∧ ∃ (us uo ub uw ua ue ux : Int) (m0 m1 m3 m7 m8 m12 m13 m14 m15 m16 : Int → Int), MP G H o (hand.length : Int) ud uc us uo ub uw ua ue ux m0 m1 m3 m7 m8 m12 m13 m14 m15 m16 ∧ MT maps m0 m1 ∧ R4 hand m3 ∧ BL ub uw m12 m13 m14 ∧ ua = ptG (maps x) k 0 ∧ ue = ptG (maps x) k 1) (fun q : Nat => o ≤ q ∧ q < o + 11)) args s 0 0 (fun q : Nat => o ≤ q ∧ q < o + 11)) (fun q : Nat => o ≤ q ∧ q < o + 11) 16 Hl1 0 0 19 [(0, .ref o), (1, .int (zI x)), (2, .int (zI k)), (3, .int (zI n)), (4, .int (zI i))] [] := by
    intro fu19
    induction fu19 with
    | zero => intro n i ua ue Hl1 hm19 hM hi hnb hn hua hue; exact absurd hm19 (Nat.not_lt_zero _)
    | succ fu19 ih19 =>
      intro n i ua ue Hl1 hm19 hM hi hnb hn hua hue
      refine j_iload C dX3_seek_19 rfl ?_
      refine j_aload_n C dX3_seek_21 rfl ?_
      refine j_get (T := TX3) (N := 20) (fs := _) (v := .ref (o + 1)) C hwX3 hM.1 0 (by decide) rfl (index := 7) (ref := "TreePairsModel") (by decide +kernel) rfl rfl dX3_seek_22 ?_
      refine j_iload_n C dX3_seek_25 rfl ?_
      refine j_iald C hM.2.1 ⟨by omega, by omega⟩ dX3_seek_26 ?_
      refine j_icmp_ge (tgt := 213) C dX3_seek_27 (by decide) ⟨by omega, by omega⟩ ⟨by omega, by omega⟩ (fun c27 => ?_) (fun c27 => ?_)
      · skip
        have ei : i = ((maps x).length : Int) := by omega
        rw [take_all (maps x) (by omega)] at hn hua hue
        refine j_iload_n C dX3_seek_213 rfl ?_
        exact j_iret C hr (Nat.le_refl _) (Nat.zero_le _) ⟨hn, _, _, _, _, _, _, _, _, _, _, _, _, _, _, _, _, _, hM, hT, hHd, hBL, hua, hue⟩ dX3_seek_214
      · skip
        have hR4 := hTx.2 i (by omega) (by omega)
        simp only [← Int.add_assoc] at hR4
        have hLq := hVx.B _ (qat_mem (L := maps x) (i := i) (by omega) (by omega))
        have hab := sAB_b hLq
        have hb1 := hLq.1.b23
        have hb2 := hLq.2.b23
        have hcs := hsC_s (L := maps x) (i := i) (by omega) (by omega)
        have hcb := hsC_b (maps x) i hi.1
        have hqd : (qat (maps x) i).1 = m1 (96 * x + 4 * i) := (by rw [hR4])
        have hqc : (qat (maps x) i).2.1 = m1 (96 * x + 4 * i + 1) := (by rw [hR4])
        have hqe : (qat (maps x) i).2.2.1 = m1 (96 * x + 4 * i + 2) := (by rw [hR4])
        have hqb : (qat (maps x) i).2.2.2 = m1 (96 * x + 4 * i + 3) := (by rw [hR4])
        rw [hqd, hqc] at hb1
        rw [hqe, hqb] at hb2
        have hsa : sA (qat (maps x) i) = if m1 (96 * x + 4 * i + 2) ≤ m1 (96 * x + 4 * i) then -(m1 (96 * x + 4 * i + 3) - m1 (96 * x + 4 * i + 1)) else (m1 (96 * x + 4 * i + 3) - m1 (96 * x + 4 * i + 1)) := (by unfold sA; rw [hqd, hqc, hqe, hqb])
        have hsb : sB (qat (maps x) i) = if 0 < (2 : Int) ^ (m1 (96 * x + 4 * i + 2)).toNat - 2 ^ (m1 (96 * x + 4 * i)).toNat then (2 : Int) ^ (m1 (96 * x + 4 * i + 2)).toNat - 2 ^ (m1 (96 * x + 4 * i)).toNat else -((2 : Int) ^ (m1 (96 * x + 4 * i + 2)).toNat - 2 ^ (m1 (96 * x + 4 * i)).toNat) := (by unfold sB; rw [hqd, hqe])
        have hq1 : ((qat (maps x) i).1 ≠ (qat (maps x) i).2.2.1) = (m1 (96 * x + 4 * i) ≠ m1 (96 * x + 4 * i + 2)) := (by rw [hqd, hqe])
        have hpe1 := pow_le_pow2 (m := (m1 (96 * x + 4 * i + 2)).toNat) (n := 23) (by omega)
        have hpd1 := pow_le_pow2 (m := (m1 (96 * x + 4 * i)).toNat) (n := 23) (by omega)
        have hp23 : (2 : Int) ^ 23 = 8388608 := rfl
        have hpe0 := two_pow_pos (m1 (96 * x + 4 * i + 2)).toNat
        have hpd0 := two_pow_pos (m1 (96 * x + 4 * i)).toNat
        refine j_bipush C dX3_seek_30 (by decide) ?_
        refine j_iload_n C dX3_seek_32 rfl ?_
        refine j_imul C dX3_seek_33 ?_
        refine j_iconst C dX3_seek_34 ?_
        refine j_iload C dX3_seek_35 rfl ?_
        refine j_imul C dX3_seek_37 ?_
        refine j_iadd C dX3_seek_38 ?_
        refine j_istore (lv' := [(0, .ref o), (1, .int (zI x)), (2, .int (zI k)), (3, .int (zI n)), (4, .int (zI i)), (5, .int (zI ((96 * x) + (4 * i))))]) C dX3_seek_39 (by decide) rfl ?_
        refine j_aload_n C dX3_seek_41 rfl ?_
        refine j_get (T := TX3) (N := 20) (fs := _) (v := .ref (o + 2)) C hwX3 hM.1 1 (by decide) rfl (index := 13) (ref := "TreePairsModel") (by decide +kernel) rfl rfl dX3_seek_42 ?_
        refine j_iload C dX3_seek_45 rfl ?_
        refine j_iald C hM.2.2.1 ⟨by omega, by omega⟩ dX3_seek_47 ?_
        refine j_istore (lv' := [(0, .ref o), (1, .int (zI x)), (2, .int (zI k)), (3, .int (zI n)), (4, .int (zI i)), (5, .int (zI ((96 * x) + (4 * i)))), (6, .int (zI (m1 ((96 * x) + (4 * i)))))]) C dX3_seek_48 (by decide) rfl ?_
        refine j_aload_n C dX3_seek_50 rfl ?_
        refine j_get (T := TX3) (N := 20) (fs := _) (v := .ref (o + 2)) C hwX3 hM.1 1 (by decide) rfl (index := 13) (ref := "TreePairsModel") (by decide +kernel) rfl rfl dX3_seek_51 ?_
        refine j_iload C dX3_seek_54 rfl ?_
        refine j_iconst C dX3_seek_56 ?_
        refine j_iadd C dX3_seek_57 ?_
        refine j_iald C hM.2.2.1 ⟨by omega, by omega⟩ dX3_seek_58 ?_
        refine j_istore (lv' := [(0, .ref o), (1, .int (zI x)), (2, .int (zI k)), (3, .int (zI n)), (4, .int (zI i)), (5, .int (zI ((96 * x) + (4 * i)))), (6, .int (zI (m1 ((96 * x) + (4 * i))))), (7, .int (zI (m1 (((96 * x) + (4 * i)) + 2))))]) C dX3_seek_59 (by decide) rfl ?_
        refine j_iload C dX3_seek_61 rfl ?_
        refine j_iload C dX3_seek_63 rfl ?_
        refine j_icmp_eq (tgt := 207) C dX3_seek_65 (by decide) ⟨by omega, by omega⟩ ⟨by omega, by omega⟩ (fun c65 => ?_) (fun c65 => ?_)
        · skip
          have hnh : ¬ hsP (qat (maps x) i) := (fun h => by have h1 := h.1; rw [hqd, hqe] at h1; exact h1 c65)
          rw [if_neg hnh] at hcs
          have hp0 := ptG_s (L := maps x) (i := i) hi.1 (by omega) k 0
          rw [if_neg (fun h => hnh h.1)] at hp0
          have hp1 := ptG_s (L := maps x) (i := i) hi.1 (by omega) k 1
          rw [if_neg (fun h => hnh h.1)] at hp1
          refine j_iinc (lv' := [(0, .ref o), (1, .int (zI x)), (2, .int (zI k)), (3, .int (zI n)), (4, .int (zI (i + 1))), (5, .int (zI ((96 * x) + (4 * i)))), (6, .int (zI (m1 ((96 * x) + (4 * i))))), (7, .int (zI (m1 (((96 * x) + (4 * i)) + 2))))]) C dX3_seek_207 rfl (by decide) rfl ?_
          refine j_goto (tgt := 19) C dX3_seek_210 (by decide) ?_
          exact JJ.drop (lv' := [(0, .ref o), (1, .int (zI x)), (2, .int (zI k)), (3, .int (zI n)), (4, .int (zI (i + 1)))]) rfl (ih19 n (i + 1) ua ue Hl1 (by omega) hM ⟨by omega, by omega⟩ ⟨by omega, by omega⟩ (by omega) (by rw [hp0]; exact hua) (by rw [hp1]; exact hue))
        · skip
          have hmo : m1 (96 * x + 4 * i) < m1 (96 * x + 4 * i + 2) → (2 : Int) ^ (m1 (96 * x + 4 * i)).toNat < 2 ^ (m1 (96 * x + 4 * i + 2)).toNat := (fun h => pow_lt2 (by omega))
          have hmo2 : m1 (96 * x + 4 * i + 2) < m1 (96 * x + 4 * i) → (2 : Int) ^ (m1 (96 * x + 4 * i + 2)).toNat < 2 ^ (m1 (96 * x + 4 * i)).toNat := (fun h => pow_lt2 (by omega))
          refine j_aload_n C dX3_seek_68 rfl ?_
          refine j_get (T := TX3) (N := 20) (fs := _) (v := .ref (o + 2)) C hwX3 hM.1 1 (by decide) rfl (index := 13) (ref := "TreePairsModel") (by decide +kernel) rfl rfl dX3_seek_69 ?_
          refine j_iload C dX3_seek_72 rfl ?_
          refine j_iconst C dX3_seek_74 ?_
          refine j_iadd C dX3_seek_75 ?_
          refine j_iald C hM.2.2.1 ⟨by omega, by omega⟩ dX3_seek_76 ?_
          refine j_aload_n C dX3_seek_77 rfl ?_
          refine j_get (T := TX3) (N := 20) (fs := _) (v := .ref (o + 2)) C hwX3 hM.1 1 (by decide) rfl (index := 13) (ref := "TreePairsModel") (by decide +kernel) rfl rfl dX3_seek_78 ?_
          refine j_iload C dX3_seek_81 rfl ?_
          refine j_iconst C dX3_seek_83 ?_
          refine j_iadd C dX3_seek_84 ?_
          refine j_iald C hM.2.2.1 ⟨by omega, by omega⟩ dX3_seek_85 ?_
          refine j_isub C dX3_seek_86 ?_
          refine j_i2l C dX3_seek_87 ⟨by omega, by omega⟩ ?_
          refine j_lstore (lv' := [(0, .ref o), (1, .int (zI x)), (2, .int (zI k)), (3, .int (zI n)), (4, .int (zI i)), (5, .int (zI ((96 * x) + (4 * i)))), (6, .int (zI (m1 ((96 * x) + (4 * i))))), (7, .int (zI (m1 (((96 * x) + (4 * i)) + 2)))), (8, .long (zL ((m1 (((96 * x) + (4 * i)) + 3)) - (m1 (((96 * x) + (4 * i)) + 1)))))]) C dX3_seek_88 (by decide) rfl ?_
          refine j_lconst (z := 1) C dX3_seek_90 rfl ?_
          refine j_iload C dX3_seek_91 rfl ?_
          refine j_lshl C dX3_seek_93 ⟨by omega, by omega⟩ ?_
          refine j_lconst (z := 1) C dX3_seek_94 rfl ?_
          refine j_iload C dX3_seek_95 rfl ?_
          refine j_lshl C dX3_seek_97 ⟨by omega, by omega⟩ ?_
          refine j_lsub C dX3_seek_98 ?_
          refine j_lstore (lv' := [(0, .ref o), (1, .int (zI x)), (2, .int (zI k)), (3, .int (zI n)), (4, .int (zI i)), (5, .int (zI ((96 * x) + (4 * i)))), (6, .int (zI (m1 ((96 * x) + (4 * i))))), (7, .int (zI (m1 (((96 * x) + (4 * i)) + 2)))), (8, .long (zL ((m1 (((96 * x) + (4 * i)) + 3)) - (m1 (((96 * x) + (4 * i)) + 1))))), (10, .long (zL ((1 * 2 ^ (m1 (((96 * x) + (4 * i)) + 2)).toNat) - (1 * 2 ^ (m1 ((96 * x) + (4 * i))).toNat))))]) C dX3_seek_99 (by decide) rfl ?_
          refine j_lload C dX3_seek_101 rfl ?_
          refine j_lconst (z := 0) C dX3_seek_103 rfl ?_
          have K118 : ∀ (up dn : Int), up = sA (qat (maps x) i) → dn = sB (qat (maps x) i) → JJ p l e ({ frames := 1, cells := 0, slots := 0, locals := 29 } : Room) s m args below meth c (MQ below (qmI (fun r H => r = hsC (maps x) ∧ ∃ (us uo ub uw ua ue ux : Int) (m0 m1 m3 m7 m8 m12 m13 m14 m15 m16 : Int → Int), MP G H o (hand.length : Int) ud uc us uo ub uw ua ue ux m0 m1 m3 m7 m8 m12 m13 m14 m15 m16 ∧ MT maps m0 m1 ∧ R4 hand m3 ∧ BL ub uw m12 m13 m14 ∧ ua = ptG (maps x) k 0 ∧ ue = ptG (maps x) k 1) (fun q : Nat => o ≤ q ∧ q < o + 11)) args s 0 0 (fun q : Nat => o ≤ q ∧ q < o + 11)) (fun q : Nat => o ≤ q ∧ q < o + 11) 16 Hl1 0 0 118 [(0, .ref o), (1, .int (zI x)), (2, .int (zI k)), (3, .int (zI n)), (4, .int (zI i)), (5, .int (zI (96 * x + 4 * i))), (6, .int (zI (m1 (96 * x + 4 * i)))), (7, .int (zI (m1 (96 * x + 4 * i + 2)))), (8, .long (zL up)), (10, .long (zL dn))] [] := by
            intro up dn hup hdn
            have hdp : 0 < dn := (by rw [hdn]; exact hab.2.2.2.2 (by rw [hqd, hqe]; exact c65))
            rw [← hup, ← hdn] at hab
            have hxb := mul_b (a := up) (b := 2 ^ (m1 (96 * x + 4 * i)).toNat) (A := 8388608) (B := 8388608) (by omega) (by omega) (by omega) (by omega) (by decide)
            have hcd := mul_b (a := m1 (96 * x + 4 * i + 1)) (b := dn) (A := 8388608) (B := 8388608) (by omega) (by omega) (by omega) (by omega) (by decide)
            have hcd2 := mul_b (a := m1 (96 * x + 4 * i + 1) + 1) (b := dn) (A := 8388608) (B := 8388608) (by omega) (by omega) (by omega) (by omega) (by decide)
            have hq2 : ((qat (maps x) i).2.1 * sB (qat (maps x) i) ≤ sA (qat (maps x) i) * 2 ^ (qat (maps x) i).1.toNat) = (m1 (96 * x + 4 * i + 1) * dn ≤ up * 2 ^ (m1 (96 * x + 4 * i)).toNat) := (by rw [hqd, hqc, ← hup, ← hdn])
            have hq3 : (sA (qat (maps x) i) * 2 ^ (qat (maps x) i).1.toNat < ((qat (maps x) i).2.1 + 1) * sB (qat (maps x) i)) = (up * 2 ^ (m1 (96 * x + 4 * i)).toNat < (m1 (96 * x + 4 * i + 1) + 1) * dn) := (by rw [hqd, hqc, ← hup, ← hdn])
            refine j_lload C dX3_seek_118 rfl ?_
            refine j_iload C dX3_seek_120 rfl ?_
            refine j_lshl C dX3_seek_122 ⟨by omega, by omega⟩ ?_
            refine j_lstore (lv' := [(0, .ref o), (1, .int (zI x)), (2, .int (zI k)), (3, .int (zI n)), (4, .int (zI i)), (5, .int (zI (96 * x + 4 * i))), (6, .int (zI (m1 (96 * x + 4 * i)))), (7, .int (zI (m1 (96 * x + 4 * i + 2)))), (8, .long (zL up)), (10, .long (zL dn)), (12, .long (zL (up * 2 ^ (m1 (96 * x + 4 * i)).toNat)))]) C dX3_seek_123 (by decide) rfl ?_
            refine j_lload C dX3_seek_125 rfl ?_
            refine j_lconst (z := 0) C dX3_seek_127 rfl ?_
            refine j_lcmp_lt (tgt := 207) C dX3_seek_128 dX3_seek_129 (by decide) ⟨by omega, by omega⟩ ⟨by decide, by decide⟩ (fun c128 => ?_) (fun c128 => ?_)
            · skip
              have hnh : ¬ hsP (qat (maps x) i) := (fun h => by have h1 := h.1; have h2 := h.2.1; have h3 := h.2.2; rw [hq1] at h1; rw [hq2] at h2; rw [hq3] at h3; have hz : 0 ≤ m1 (96 * x + 4 * i + 1) * dn := Int.mul_nonneg (by omega) (by omega); have hz2 := Int.mul_neg_of_neg_of_pos c128 (show (0 : Int) < 2 ^ (m1 (96 * x + 4 * i)).toNat by omega); omega)
              rw [if_neg hnh] at hcs
              have hp0 := ptG_s (L := maps x) (i := i) hi.1 (by omega) k 0
              rw [if_neg (fun h => hnh h.1)] at hp0
              have hp1 := ptG_s (L := maps x) (i := i) hi.1 (by omega) k 1
              rw [if_neg (fun h => hnh h.1)] at hp1
              refine j_iinc (lv' := [(0, .ref o), (1, .int (zI x)), (2, .int (zI k)), (3, .int (zI n)), (4, .int (zI (i + 1))), (5, .int (zI (96 * x + 4 * i))), (6, .int (zI (m1 (96 * x + 4 * i)))), (7, .int (zI (m1 (96 * x + 4 * i + 2)))), (8, .long (zL up)), (10, .long (zL dn)), (12, .long (zL (up * 2 ^ (m1 (96 * x + 4 * i)).toNat)))]) C dX3_seek_207 rfl (by decide) rfl ?_
              refine j_goto (tgt := 19) C dX3_seek_210 (by decide) ?_
              exact JJ.drop (lv' := [(0, .ref o), (1, .int (zI x)), (2, .int (zI k)), (3, .int (zI n)), (4, .int (zI (i + 1)))]) rfl (ih19 n (i + 1) ua ue Hl1 (by omega) hM ⟨by omega, by omega⟩ ⟨by omega, by omega⟩ (by omega) (by rw [hp0]; exact hua) (by rw [hp1]; exact hue))
            · skip
              refine j_lload C dX3_seek_132 rfl ?_
              refine j_aload_n C dX3_seek_134 rfl ?_
              refine j_get (T := TX3) (N := 20) (fs := _) (v := .ref (o + 2)) C hwX3 hM.1 1 (by decide) rfl (index := 13) (ref := "TreePairsModel") (by decide +kernel) rfl rfl dX3_seek_135 ?_
              refine j_iload C dX3_seek_138 rfl ?_
              refine j_iconst C dX3_seek_140 ?_
              refine j_iadd C dX3_seek_141 ?_
              refine j_iald C hM.2.2.1 ⟨by omega, by omega⟩ dX3_seek_142 ?_
              refine j_i2l C dX3_seek_143 ⟨by omega, by omega⟩ ?_
              refine j_lload C dX3_seek_144 rfl ?_
              refine j_lmul C dX3_seek_146 ?_
              refine j_lcmp_lt (tgt := 207) C dX3_seek_147 dX3_seek_148 (by decide) ⟨by omega, by omega⟩ ⟨by omega, by omega⟩ (fun c147 => ?_) (fun c147 => ?_)
              · skip
                have hnh : ¬ hsP (qat (maps x) i) := (fun h => by have h1 := h.1; have h2 := h.2.1; have h3 := h.2.2; rw [hq1] at h1; rw [hq2] at h2; rw [hq3] at h3; omega)
                rw [if_neg hnh] at hcs
                have hp0 := ptG_s (L := maps x) (i := i) hi.1 (by omega) k 0
                rw [if_neg (fun h => hnh h.1)] at hp0
                have hp1 := ptG_s (L := maps x) (i := i) hi.1 (by omega) k 1
                rw [if_neg (fun h => hnh h.1)] at hp1
                refine j_iinc (lv' := [(0, .ref o), (1, .int (zI x)), (2, .int (zI k)), (3, .int (zI n)), (4, .int (zI (i + 1))), (5, .int (zI (96 * x + 4 * i))), (6, .int (zI (m1 (96 * x + 4 * i)))), (7, .int (zI (m1 (96 * x + 4 * i + 2)))), (8, .long (zL up)), (10, .long (zL dn)), (12, .long (zL (up * 2 ^ (m1 (96 * x + 4 * i)).toNat)))]) C dX3_seek_207 rfl (by decide) rfl ?_
                refine j_goto (tgt := 19) C dX3_seek_210 (by decide) ?_
                exact JJ.drop (lv' := [(0, .ref o), (1, .int (zI x)), (2, .int (zI k)), (3, .int (zI n)), (4, .int (zI (i + 1)))]) rfl (ih19 n (i + 1) ua ue Hl1 (by omega) hM ⟨by omega, by omega⟩ ⟨by omega, by omega⟩ (by omega) (by rw [hp0]; exact hua) (by rw [hp1]; exact hue))
              · skip
                refine j_lload C dX3_seek_151 rfl ?_
                refine j_aload_n C dX3_seek_153 rfl ?_
                refine j_get (T := TX3) (N := 20) (fs := _) (v := .ref (o + 2)) C hwX3 hM.1 1 (by decide) rfl (index := 13) (ref := "TreePairsModel") (by decide +kernel) rfl rfl dX3_seek_154 ?_
                refine j_iload C dX3_seek_157 rfl ?_
                refine j_iconst C dX3_seek_159 ?_
                refine j_iadd C dX3_seek_160 ?_
                refine j_iald C hM.2.2.1 ⟨by omega, by omega⟩ dX3_seek_161 ?_
                refine j_i2l C dX3_seek_162 ⟨by omega, by omega⟩ ?_
                refine j_lconst (z := 1) C dX3_seek_163 rfl ?_
                refine j_ladd C dX3_seek_164 ?_
                refine j_lload C dX3_seek_165 rfl ?_
                refine j_lmul C dX3_seek_167 ?_
                refine j_lcmp_ge (tgt := 207) C dX3_seek_168 dX3_seek_169 (by decide) ⟨by omega, by omega⟩ ⟨by omega, by omega⟩ (fun c168 => ?_) (fun c168 => ?_)
                · skip
                  have hnh : ¬ hsP (qat (maps x) i) := (fun h => by have h1 := h.1; have h2 := h.2.1; have h3 := h.2.2; rw [hq1] at h1; rw [hq2] at h2; rw [hq3] at h3; omega)
                  rw [if_neg hnh] at hcs
                  have hp0 := ptG_s (L := maps x) (i := i) hi.1 (by omega) k 0
                  rw [if_neg (fun h => hnh h.1)] at hp0
                  have hp1 := ptG_s (L := maps x) (i := i) hi.1 (by omega) k 1
                  rw [if_neg (fun h => hnh h.1)] at hp1
                  refine j_iinc (lv' := [(0, .ref o), (1, .int (zI x)), (2, .int (zI k)), (3, .int (zI n)), (4, .int (zI (i + 1))), (5, .int (zI (96 * x + 4 * i))), (6, .int (zI (m1 (96 * x + 4 * i)))), (7, .int (zI (m1 (96 * x + 4 * i + 2)))), (8, .long (zL up)), (10, .long (zL dn)), (12, .long (zL (up * 2 ^ (m1 (96 * x + 4 * i)).toNat)))]) C dX3_seek_207 rfl (by decide) rfl ?_
                  refine j_goto (tgt := 19) C dX3_seek_210 (by decide) ?_
                  exact JJ.drop (lv' := [(0, .ref o), (1, .int (zI x)), (2, .int (zI k)), (3, .int (zI n)), (4, .int (zI (i + 1)))]) rfl (ih19 n (i + 1) ua ue Hl1 (by omega) hM ⟨by omega, by omega⟩ ⟨by omega, by omega⟩ (by omega) (by rw [hp0]; exact hua) (by rw [hp1]; exact hue))
                · skip
                  have hyh : hsP (qat (maps x) i) := (by refine ⟨by rw [hqd, hqe]; exact c65, ?_, ?_⟩; rw [hqd, hqc, ← hup, ← hdn]; omega; rw [hqd, hqc, ← hup, ← hdn]; omega)
                  rw [if_pos hyh] at hcs
                  have hp0 := ptG_s (L := maps x) (i := i) hi.1 (by omega) k 0
                  have hp1 := ptG_s (L := maps x) (i := i) hi.1 (by omega) k 1
                  have hgp := gcdF_pos (a := up) (b := dn) (by omega) (by omega)
                  refine j_iload_n C dX3_seek_172 rfl ?_
                  refine j_iload_n C dX3_seek_173 rfl ?_
                  refine j_icmp_ne (tgt := 204) C dX3_seek_174 (by decide) ⟨by omega, by omega⟩ ⟨by omega, by omega⟩ (fun c174 => ?_) (fun c174 => ?_)
                  · skip
                    rw [if_neg (fun h => by have := h.2; omega)] at hp0 hp1
                    refine j_iinc (lv' := [(0, .ref o), (1, .int (zI x)), (2, .int (zI k)), (3, .int (zI (n + 1))), (4, .int (zI i)), (5, .int (zI (96 * x + 4 * i))), (6, .int (zI (m1 (96 * x + 4 * i)))), (7, .int (zI (m1 (96 * x + 4 * i + 2)))), (8, .long (zL up)), (10, .long (zL dn)), (12, .long (zL (up * 2 ^ (m1 (96 * x + 4 * i)).toNat)))]) C dX3_seek_204 rfl (by decide) rfl ?_
                    refine j_iinc (lv' := [(0, .ref o), (1, .int (zI x)), (2, .int (zI k)), (3, .int (zI (n + 1))), (4, .int (zI (i + 1))), (5, .int (zI (96 * x + 4 * i))), (6, .int (zI (m1 (96 * x + 4 * i)))), (7, .int (zI (m1 (96 * x + 4 * i + 2)))), (8, .long (zL up)), (10, .long (zL dn)), (12, .long (zL (up * 2 ^ (m1 (96 * x + 4 * i)).toNat)))]) C dX3_seek_207 rfl (by decide) rfl ?_
                    refine j_goto (tgt := 19) C dX3_seek_210 (by decide) ?_
                    exact JJ.drop (lv' := [(0, .ref o), (1, .int (zI x)), (2, .int (zI k)), (3, .int (zI (n + 1))), (4, .int (zI (i + 1)))]) rfl (ih19 (n + 1) (i + 1) ua ue Hl1 (by omega) hM ⟨by omega, by omega⟩ ⟨by omega, by omega⟩ (by omega) (by rw [hp0]; exact hua) (by rw [hp1]; exact hue))
                  · skip
                    rw [if_pos ⟨hyh, by omega⟩] at hp0 hp1
                    have hpp0 : up / gcdF up dn = ptG ((maps x).take (i + 1).toNat) k 0 := (by rw [hp0]; unfold partF; rw [if_pos rfl, ← hup, ← hdn])
                    have hpp1 : dn / gcdF up dn = ptG ((maps x).take (i + 1).toNat) k 1 := (by rw [hp1]; unfold partF; rw [if_neg (by decide), ← hup, ← hdn])
                    refine j_lload C dX3_seek_177 rfl ?_
                    refine j_lload C dX3_seek_179 rfl ?_
                    refine j_callL (jrunS (rest := []) (As := [.long (zL up), .long (zL dn)]) C (c_X3_common l G up dn) gX3_seek_X3_common rfl 2 (by decide +kernel) rfl rfl ⟨Nat.le_of_ble_eq_true rfl, Nat.le_of_ble_eq_true rfl⟩ ⟨⟨by omega, by omega⟩, ⟨by omega, by omega⟩⟩ rfl rfl (Nat.le_of_ble_eq_true rfl) ⟨Nat.le_of_ble_eq_true rfl, Nat.le_of_ble_eq_true rfl⟩ dX3_seek_181) (fun r181 h181 => ?_)
                    subst h181
                    refine j_lstore (lv' := [(0, .ref o), (1, .int (zI x)), (2, .int (zI k)), (3, .int (zI n)), (4, .int (zI i)), (5, .int (zI (96 * x + 4 * i))), (6, .int (zI (m1 (96 * x + 4 * i)))), (7, .int (zI (m1 (96 * x + 4 * i + 2)))), (8, .long (zL up)), (10, .long (zL dn)), (12, .long (zL (up * 2 ^ (m1 (96 * x + 4 * i)).toNat))), (14, .long (zL (gcdF up dn)))]) C dX3_seek_184 (by decide) rfl ?_
                    refine j_aload_n C dX3_seek_186 rfl ?_
                    refine j_lload C dX3_seek_187 rfl ?_
                    refine j_lload C dX3_seek_189 rfl ?_
                    refine j_ldiv C dX3_seek_191 ⟨by omega, by omega⟩ ⟨by omega, by omega⟩ ?_
                    refine j_put (T := TX3) (N := 20) (fs' := [.ref (o + 1), .ref (o + 2), .int (zI (hand.length : Int)), .ref (o + 3), .int (zI ud), .long (zL uc), .int (zI us), .ref (o + 4), .ref (o + 5), .int (zI uo), .int (zI ub), .int (zI uw), .ref (o + 6), .ref (o + 7), .ref (o + 8), .ref (o + 9), .ref (o + 10), .long (zL (up / (gcdF up dn))), .long (zL ue), .long (zL ux)]) (ty := .long) C tyX3 tyX3_ok nmX3 hwX3 hM.1 17 (by decide) rfl (index := 175) (ref := "TreePairsModel") (by decide +kernel) rfl rfl (by decide +kernel) rfl rfl (Nat.le_of_ble_eq_true rfl) rfl (by omega) dX3_seek_192 (fun H3 hO hC => ?_)
                    have hM := hM.put_above hO hC
                    refine j_aload_n C dX3_seek_195 rfl ?_
                    refine j_lload C dX3_seek_196 rfl ?_
                    refine j_lload C dX3_seek_198 rfl ?_
                    refine j_ldiv C dX3_seek_200 ⟨by omega, by omega⟩ ⟨by omega, by omega⟩ ?_
                    refine j_put (T := TX3) (N := 20) (fs' := [.ref (o + 1), .ref (o + 2), .int (zI (hand.length : Int)), .ref (o + 3), .int (zI ud), .long (zL uc), .int (zI us), .ref (o + 4), .ref (o + 5), .int (zI uo), .int (zI ub), .int (zI uw), .ref (o + 6), .ref (o + 7), .ref (o + 8), .ref (o + 9), .ref (o + 10), .long (zL (up / (gcdF up dn))), .long (zL (dn / (gcdF up dn))), .long (zL ux)]) (ty := .long) C tyX3 tyX3_ok nmX3 hwX3 hM.1 18 (by decide) rfl (index := 178) (ref := "TreePairsModel") (by decide +kernel) rfl rfl (by decide +kernel) rfl rfl (Nat.le_of_ble_eq_true rfl) rfl (by omega) dX3_seek_201 (fun H4 hO hC => ?_)
                    have hM := hM.put_below hO hC
                    refine j_iinc (lv' := [(0, .ref o), (1, .int (zI x)), (2, .int (zI k)), (3, .int (zI (n + 1))), (4, .int (zI i)), (5, .int (zI (96 * x + 4 * i))), (6, .int (zI (m1 (96 * x + 4 * i)))), (7, .int (zI (m1 (96 * x + 4 * i + 2)))), (8, .long (zL up)), (10, .long (zL dn)), (12, .long (zL (up * 2 ^ (m1 (96 * x + 4 * i)).toNat))), (14, .long (zL (gcdF up dn)))]) C dX3_seek_204 rfl (by decide) rfl ?_
                    refine j_iinc (lv' := [(0, .ref o), (1, .int (zI x)), (2, .int (zI k)), (3, .int (zI (n + 1))), (4, .int (zI (i + 1))), (5, .int (zI (96 * x + 4 * i))), (6, .int (zI (m1 (96 * x + 4 * i)))), (7, .int (zI (m1 (96 * x + 4 * i + 2)))), (8, .long (zL up)), (10, .long (zL dn)), (12, .long (zL (up * 2 ^ (m1 (96 * x + 4 * i)).toNat))), (14, .long (zL (gcdF up dn)))]) C dX3_seek_207 rfl (by decide) rfl ?_
                    refine j_goto (tgt := 19) C dX3_seek_210 (by decide) ?_
                    exact JJ.drop (lv' := [(0, .ref o), (1, .int (zI x)), (2, .int (zI k)), (3, .int (zI (n + 1))), (4, .int (zI (i + 1)))]) rfl (ih19 (n + 1) (i + 1) (up / (gcdF up dn)) (dn / (gcdF up dn)) H4 (by omega) hM ⟨by omega, by omega⟩ ⟨by omega, by omega⟩ (by omega) hpp0 hpp1)
          refine j_lcmp_ge (tgt := 118) C dX3_seek_104 dX3_seek_105 (by decide) ⟨by omega, by omega⟩ ⟨by decide, by decide⟩ (fun c104 => ?_) (fun c104 => ?_)
          · skip
            have hjp : (m1 (96 * x + 4 * i + 3) - m1 (96 * x + 4 * i + 1)) = sA (qat (maps x) i) := (by rw [hsa, if_neg (by omega)])
            have hjd : (1 * 2 ^ (m1 (96 * x + 4 * i + 2)).toNat - 1 * 2 ^ (m1 (96 * x + 4 * i)).toNat) = sB (qat (maps x) i) := (by rw [hsb, if_pos (by omega)]; omega)
            exact JJ.drop (lv' := [(0, .ref o), (1, .int (zI x)), (2, .int (zI k)), (3, .int (zI n)), (4, .int (zI i)), (5, .int (zI (96 * x + 4 * i))), (6, .int (zI (m1 (96 * x + 4 * i)))), (7, .int (zI (m1 (96 * x + 4 * i + 2)))), (8, .long (zL ((m1 (((96 * x) + (4 * i)) + 3)) - (m1 (((96 * x) + (4 * i)) + 1))))), (10, .long (zL ((1 * 2 ^ (m1 (((96 * x) + (4 * i)) + 2)).toNat) - (1 * 2 ^ (m1 ((96 * x) + (4 * i))).toNat))))]) rfl (K118 ((m1 (((96 * x) + (4 * i)) + 3)) - (m1 (((96 * x) + (4 * i)) + 1))) ((1 * 2 ^ (m1 (((96 * x) + (4 * i)) + 2)).toNat) - (1 * 2 ^ (m1 ((96 * x) + (4 * i))).toNat)) hjp hjd)
          · skip
            have hjp : -(m1 (96 * x + 4 * i + 3) - m1 (96 * x + 4 * i + 1)) = sA (qat (maps x) i) := (by rw [hsa, if_pos (by omega)])
            have hjd : -(1 * 2 ^ (m1 (96 * x + 4 * i + 2)).toNat - 1 * 2 ^ (m1 (96 * x + 4 * i)).toNat) = sB (qat (maps x) i) := (by rw [hsb, if_neg (by omega)]; omega)
            refine j_lload C dX3_seek_108 rfl ?_
            refine j_lneg C dX3_seek_110 ?_
            refine j_lstore (lv' := [(0, .ref o), (1, .int (zI x)), (2, .int (zI k)), (3, .int (zI n)), (4, .int (zI i)), (5, .int (zI ((96 * x) + (4 * i)))), (6, .int (zI (m1 ((96 * x) + (4 * i))))), (7, .int (zI (m1 (((96 * x) + (4 * i)) + 2)))), (8, .long (zL (-((m1 (((96 * x) + (4 * i)) + 3)) - (m1 (((96 * x) + (4 * i)) + 1)))))), (10, .long (zL ((1 * 2 ^ (m1 (((96 * x) + (4 * i)) + 2)).toNat) - (1 * 2 ^ (m1 ((96 * x) + (4 * i))).toNat))))]) C dX3_seek_111 (by decide) rfl ?_
            refine j_lload C dX3_seek_113 rfl ?_
            refine j_lneg C dX3_seek_115 ?_
            refine j_lstore (lv' := [(0, .ref o), (1, .int (zI x)), (2, .int (zI k)), (3, .int (zI n)), (4, .int (zI i)), (5, .int (zI ((96 * x) + (4 * i)))), (6, .int (zI (m1 ((96 * x) + (4 * i))))), (7, .int (zI (m1 (((96 * x) + (4 * i)) + 2)))), (8, .long (zL (-((m1 (((96 * x) + (4 * i)) + 3)) - (m1 (((96 * x) + (4 * i)) + 1)))))), (10, .long (zL (-((1 * 2 ^ (m1 (((96 * x) + (4 * i)) + 2)).toNat) - (1 * 2 ^ (m1 ((96 * x) + (4 * i))).toNat)))))]) C dX3_seek_116 (by decide) rfl ?_
            exact JJ.drop (lv' := [(0, .ref o), (1, .int (zI x)), (2, .int (zI k)), (3, .int (zI n)), (4, .int (zI i)), (5, .int (zI (96 * x + 4 * i))), (6, .int (zI (m1 (96 * x + 4 * i)))), (7, .int (zI (m1 (96 * x + 4 * i + 2)))), (8, .long (zL (-((m1 (((96 * x) + (4 * i)) + 3)) - (m1 (((96 * x) + (4 * i)) + 1)))))), (10, .long (zL (-((1 * 2 ^ (m1 (((96 * x) + (4 * i)) + 2)).toNat) - (1 * 2 ^ (m1 ((96 * x) + (4 * i))).toNat)))))]) rfl (K118 (-((m1 (((96 * x) + (4 * i)) + 3)) - (m1 (((96 * x) + (4 * i)) + 1)))) (-((1 * 2 ^ (m1 (((96 * x) + (4 * i)) + 2)).toNat) - (1 * 2 ^ (m1 ((96 * x) + (4 * i))).toNat))) hjp hjd)
  exact JJ.drop (lv' := [(0, .ref o), (1, .int (zI x)), (2, .int (zI k)), (3, .int (zI 0)), (4, .int (zI 0))]) rfl (K19 (((((maps x).length : Int) - (0 : Int)).toNat) + 1) 0 0 (-1) (-1) H2 (Nat.lt_succ_self _) hM ⟨by omega, by omega⟩ ⟨by omega, by omega⟩ rfl rfl rfl)
