set_option maxHeartbeats 4000000 in
set_option maxRecDepth 100000 in
/-- X3_sortOf -/
theorem c_X3_sortOf (l : Launch) (G : Gx) (o : Nat) (maps : Int → List Q4) (hand : List Q4) (ud uc : Int) (x : Int) : Met l yX3_sortOf wsX3_sortOf ({ frames := 2, cells := 0, slots := 0, locals := 51 } : Room) (cPc G [.ref o, .int (zI x)] (fun H => MX G H o maps hand ud uc ∧ VMs maps ∧ thP maps x)) (qmI (fun r H => r = kindM (maps x) ∧ MX G H o maps hand ud uc) (fun q : Nat => o ≤ q ∧ q < o + 11)) 0 0 (fun q : Nat => o ≤ q ∧ q < o + 11) := by
  refine Met.ofJ (cc := cX3_sortOf) (maxL := 5) (ret := (some .int)) (lv0 := [(0, .ref o), (1, .int (zI x))]) (by decide) rfl (Nat.le_of_ble_eq_true rfl) rfl ?_
  intro p e s m args below meth c C hr hnm hpre
  obtain ⟨⟨us, uo, ub, uw, ua, ue, ux, m0, m1, m3, m7, m8, m12, m13, m14, m15, m16, hM, hT, hHd, hBL⟩, hV, h2⟩ := hpre
  have hwX3 : ∀ w ∈ u_ws RX3 TX3 20, w ∈ wsX3_sortOf := by decide +kernel
  have hs := hT.iR hV
  have hVx := hV x h2.1.1 h2.1.2 h2.2
  have hTx := hT x h2.1.1 h2.1.2
  have hlx := hVx.len
  refine j_aload_n C dX3_sortOf_0 rfl ?_
  refine j_iload_n C dX3_sortOf_1 rfl ?_
  refine j_callmV (jrunV (rest := []) (As := [.int (zI x)]) C (c_X3_load l G o (hand.length : Int) ud uc us uo ub uw ua ue ux m0 m1 m3 m7 m8 m12 m13 m14 m15 m16 x (maps x)) gX3_sortOf_X3_load rfl 1 (by decide +kernel) rfl rfl ⟨Nat.le_of_ble_eq_true rfl, Nat.le_of_ble_eq_true rfl⟩ hM.1 rfl ⟨hM, h2.1, hTx.1, by omega, hVx.B, hTx.2⟩ rfl rfl (Nat.le_of_ble_eq_true rfl) ⟨Nat.le_of_ble_eq_true rfl, Nat.le_of_ble_eq_true rfl⟩ dX3_sortOf_2) (by intro q hq; (try dsimp only at hq ⊢); omega) (fun H1 h2 hF => ?_)
  obtain ⟨w2, hM, hL7⟩ := h2
  refine j_iconst C dX3_sortOf_5 ?_
  refine j_istore_n (lv' := [(0, .ref o), (1, .int (zI x)), (2, .int (zI 0))]) C dX3_sortOf_6 (by decide) rfl ?_
  refine j_iconst C dX3_sortOf_7 ?_
  refine j_istore_n (lv' := [(0, .ref o), (1, .int (zI x)), (2, .int (zI 0)), (3, .int (zI 0))]) C dX3_sortOf_8 (by decide) rfl ?_
  have K9 : ∀ (fu9 : Nat) (tu i : Int), (((maps x).length : Int) - i).toNat < fu9 → 0 ≤ i ∧ i ≤ ((maps x).length : Int) → 0 ≤ tu ∧ tu ≤ i → tu = trnC (maps x) i.toNat → JJ p l e ({ frames := 2, cells := 0, slots := 0, locals := 51 } : Room) s m args below meth c (MQ below (qmI (fun r H => r = kindM (maps x) ∧ MX G H o maps hand ud uc) (fun q : Nat => o ≤ q ∧ q < o + 11)) args s 0 0 (fun q : Nat => o ≤ q ∧ q < o + 11)) (fun q : Nat => o ≤ q ∧ q < o + 11) 5 H1 0 0 9 [(0, .ref o), (1, .int (zI x)), (2, .int (zI tu)), (3, .int (zI i))] [] := by
    intro fu9
    induction fu9 with
    | zero => intro tu i hm9 hi hti ht; exact absurd hm9 (Nat.not_lt_zero _)
    | succ fu9 ih9 =>
      intro tu i hm9 hi hti ht
      refine j_iload_n C dX3_sortOf_9 rfl ?_
      refine j_aload_n C dX3_sortOf_10 rfl ?_
      refine j_get (T := TX3) (N := 20) (fs := _) (v := .int (zI ((maps x).length : Int))) C hwX3 hM.1 6 (by decide) rfl (index := 51) (ref := "TreePairsModel") (by decide +kernel) rfl rfl dX3_sortOf_11 ?_
      refine j_icmp_ge (tgt := 60) C dX3_sortOf_14 (by decide) ⟨by omega, by omega⟩ ⟨by omega, by omega⟩ (fun c14 => ?_) (fun c14 => ?_)
      · skip
        have ei : i.toNat = (maps x).length := by omega
        rw [ei] at ht
        refine j_aload_n C dX3_sortOf_60 rfl ?_
        refine j_get (T := TX3) (N := 20) (fs := _) (v := .int (zI ((maps x).length : Int))) C hwX3 hM.1 6 (by decide) rfl (index := 51) (ref := "TreePairsModel") (by decide +kernel) rfl rfl dX3_sortOf_61 ?_
        refine j_iconst C dX3_sortOf_64 ?_
        refine j_icmp_eq (tgt := 88) C dX3_sortOf_65 (by decide) ⟨by omega, by omega⟩ ⟨by decide, by decide⟩ (fun c65 => ?_) (fun c65 => ?_)
        · skip
          have hom : ordM (maps x) := Or.inl (by omega)
          refine j_iconst C dX3_sortOf_88 ?_
          refine j_goto (tgt := 93) C dX3_sortOf_89 (by decide) ?_
          refine j_istore_n (lv' := [(0, .ref o), (1, .int (zI x)), (2, .int (zI tu)), (3, .int (zI 1))]) C dX3_sortOf_93 (by decide) rfl ?_
          refine j_iload_n C dX3_sortOf_94 rfl ?_
          refine j_if_eq (tgt := 102) C dX3_sortOf_95 (by decide) ⟨by decide, by decide⟩ (fun c95 => absurd c95 (by decide)) (fun c95 => ?_)
          refine j_iconst C dX3_sortOf_98 ?_
          refine j_goto (tgt := 112) C dX3_sortOf_99 (by decide) ?_
          exact j_iret C hr (Nat.le_refl _) (Nat.zero_le _) ⟨by show _ = _; unfold kindM; rw [if_pos hom], ⟨_, _, _, _, _, _, _, _, _, _, _, _, _, _, _, _, _, hM, hT, hHd, hBL⟩⟩ dX3_sortOf_112
        · skip
          refine j_aload_n C dX3_sortOf_68 rfl ?_
          refine j_iconst C dX3_sortOf_69 ?_
          refine j_aload_n C dX3_sortOf_70 rfl ?_
          refine j_get (T := TX3) (N := 20) (fs := _) (v := .int (zI ((maps x).length : Int))) C hwX3 hM.1 6 (by decide) rfl (index := 51) (ref := "TreePairsModel") (by decide +kernel) rfl rfl dX3_sortOf_71 ?_
          refine j_iconst C dX3_sortOf_74 ?_
          refine j_isub C dX3_sortOf_75 ?_
          refine j_iconst C dX3_sortOf_76 ?_
          refine j_callI (jrunV (rest := []) (As := [.int (zI 0), .int (zI (((maps x).length : Int) - 1)), .int (zI 2)]) C (c_X3_isLeft l G o (hand.length : Int) ud uc ((maps x).length : Int) uo ub uw ua ue ux m0 m1 m3 w2 m8 m12 m13 m14 m15 m16 0 (((maps x).length : Int) - 1) 2) gX3_sortOf_X3_isLeft rfl 3 (by decide +kernel) rfl rfl ⟨Nat.le_of_ble_eq_true rfl, Nat.le_of_ble_eq_true rfl⟩ hM.1 rfl ⟨hM, ⟨by omega, by omega⟩, ⟨by omega, by omega⟩, ⟨by decide, by decide⟩, (hL7.left2 hVx.B46 (i := 0) (by omega) (by omega)).1, (hL7.left2 hVx.B46 (i := (((maps x).length : Int) - 1)) (by omega) (by omega)).1⟩ rfl rfl (Nat.le_of_ble_eq_true rfl) ⟨Nat.le_of_ble_eq_true rfl, Nat.le_of_ble_eq_true rfl⟩ dX3_sortOf_77) (fun r77 h77 => ?_)
          rcases h77 with ⟨h77, rfl⟩ | ⟨h77, rfl⟩
          · skip
            rw [(hL7.left2 hVx.B46 (i := 0) (by omega) (by omega)).2, (hL7.left2 hVx.B46 (i := (((maps x).length : Int) - 1)) (by omega) (by omega)).2] at h77
            refine j_if_eq (tgt := 92) C dX3_sortOf_80 (by decide) ⟨by decide, by decide⟩ (fun c80 => absurd c80 (by decide)) (fun c80 => ?_)
            refine j_iload_n C dX3_sortOf_83 rfl ?_
            refine j_iconst C dX3_sortOf_84 ?_
            refine j_icmp_ne (tgt := 92) C dX3_sortOf_85 (by decide) ⟨by omega, by omega⟩ ⟨by decide, by decide⟩ (fun c85 => ?_) (fun c85 => ?_)
            · skip
              have hom : ¬ ordM (maps x) := (fun h => by rcases h with h | h; omega; have := h.2; omega)
              refine j_iconst C dX3_sortOf_92 ?_
              refine j_istore_n (lv' := [(0, .ref o), (1, .int (zI x)), (2, .int (zI tu)), (3, .int (zI 0))]) C dX3_sortOf_93 (by decide) rfl ?_
              refine j_iload_n C dX3_sortOf_94 rfl ?_
              refine j_if_eq (tgt := 102) C dX3_sortOf_95 (by decide) ⟨by decide, by decide⟩ (fun c95 => ?_) (fun c95 => absurd c95 (by decide))
              refine j_iload_n C dX3_sortOf_102 rfl ?_
              refine j_iconst C dX3_sortOf_103 ?_
              refine j_icmp_ne (tgt := 111) C dX3_sortOf_104 (by decide) ⟨by omega, by omega⟩ ⟨by decide, by decide⟩ (fun c104 => ?_) (fun c104 => ?_)
              · skip
                refine j_iconst C dX3_sortOf_111 ?_
                exact j_iret C hr (Nat.le_refl _) (Nat.zero_le _) ⟨by show _ = _; unfold kindM; rw [if_neg hom, if_neg (by omega)], ⟨_, _, _, _, _, _, _, _, _, _, _, _, _, _, _, _, _, hM, hT, hHd, hBL⟩⟩ dX3_sortOf_112
              · skip
                refine j_iconst C dX3_sortOf_107 ?_
                refine j_goto (tgt := 112) C dX3_sortOf_108 (by decide) ?_
                exact j_iret C hr (Nat.le_refl _) (Nat.zero_le _) ⟨by show _ = _; unfold kindM; rw [if_neg hom, if_pos (by omega)], ⟨_, _, _, _, _, _, _, _, _, _, _, _, _, _, _, _, _, hM, hT, hHd, hBL⟩⟩ dX3_sortOf_112
            · skip
              have hom : ordM (maps x) := Or.inr ⟨h77, by omega⟩
              refine j_iconst C dX3_sortOf_88 ?_
              refine j_goto (tgt := 93) C dX3_sortOf_89 (by decide) ?_
              refine j_istore_n (lv' := [(0, .ref o), (1, .int (zI x)), (2, .int (zI tu)), (3, .int (zI 1))]) C dX3_sortOf_93 (by decide) rfl ?_
              refine j_iload_n C dX3_sortOf_94 rfl ?_
              refine j_if_eq (tgt := 102) C dX3_sortOf_95 (by decide) ⟨by decide, by decide⟩ (fun c95 => absurd c95 (by decide)) (fun c95 => ?_)
              refine j_iconst C dX3_sortOf_98 ?_
              refine j_goto (tgt := 112) C dX3_sortOf_99 (by decide) ?_
              exact j_iret C hr (Nat.le_refl _) (Nat.zero_le _) ⟨by show _ = _; unfold kindM; rw [if_pos hom], ⟨_, _, _, _, _, _, _, _, _, _, _, _, _, _, _, _, _, hM, hT, hHd, hBL⟩⟩ dX3_sortOf_112
          · skip
            rw [(hL7.left2 hVx.B46 (i := 0) (by omega) (by omega)).2, (hL7.left2 hVx.B46 (i := (((maps x).length : Int) - 1)) (by omega) (by omega)).2] at h77
            have hom : ¬ ordM (maps x) := (fun h => by rcases h with h | h; omega; exact h77 h.1)
            refine j_if_eq (tgt := 92) C dX3_sortOf_80 (by decide) ⟨by decide, by decide⟩ (fun c80 => ?_) (fun c80 => absurd c80 (by decide))
            refine j_iconst C dX3_sortOf_92 ?_
            refine j_istore_n (lv' := [(0, .ref o), (1, .int (zI x)), (2, .int (zI tu)), (3, .int (zI 0))]) C dX3_sortOf_93 (by decide) rfl ?_
            refine j_iload_n C dX3_sortOf_94 rfl ?_
            refine j_if_eq (tgt := 102) C dX3_sortOf_95 (by decide) ⟨by decide, by decide⟩ (fun c95 => ?_) (fun c95 => absurd c95 (by decide))
            refine j_iload_n C dX3_sortOf_102 rfl ?_
            refine j_iconst C dX3_sortOf_103 ?_
            refine j_icmp_ne (tgt := 111) C dX3_sortOf_104 (by decide) ⟨by omega, by omega⟩ ⟨by decide, by decide⟩ (fun c104 => ?_) (fun c104 => ?_)
            · skip
              refine j_iconst C dX3_sortOf_111 ?_
              exact j_iret C hr (Nat.le_refl _) (Nat.zero_le _) ⟨by show _ = _; unfold kindM; rw [if_neg hom, if_neg (by omega)], ⟨_, _, _, _, _, _, _, _, _, _, _, _, _, _, _, _, _, hM, hT, hHd, hBL⟩⟩ dX3_sortOf_112
            · skip
              refine j_iconst C dX3_sortOf_107 ?_
              refine j_goto (tgt := 112) C dX3_sortOf_108 (by decide) ?_
              exact j_iret C hr (Nat.le_refl _) (Nat.zero_le _) ⟨by show _ = _; unfold kindM; rw [if_neg hom, if_pos (by omega)], ⟨_, _, _, _, _, _, _, _, _, _, _, _, _, _, _, _, _, hM, hT, hHd, hBL⟩⟩ dX3_sortOf_112
      · skip
        refine j_iload_n C dX3_sortOf_17 rfl ?_
        refine j_if_ne (tgt := 30) C dX3_sortOf_18 (by decide) ⟨by omega, by omega⟩ (fun c18 => ?_) (fun c18 => ?_)
        · skip
          have htr : trn (maps x) i = decide (kq2 (qat (maps x) i) < kq2 (qat (maps x) (i - 1))) := (by unfold trn; rw [if_neg c18])
          refine j_iload_n C dX3_sortOf_30 rfl ?_
          refine j_iconst C dX3_sortOf_31 ?_
          refine j_isub C dX3_sortOf_32 ?_
          refine j_istore (lv' := [(0, .ref o), (1, .int (zI x)), (2, .int (zI tu)), (3, .int (zI i)), (4, .int (zI (i - 1)))]) C dX3_sortOf_33 (by decide) rfl ?_
          refine j_iload_n C dX3_sortOf_35 rfl ?_
          refine j_aload_n C dX3_sortOf_36 rfl ?_
          refine j_iload_n C dX3_sortOf_37 rfl ?_
          refine j_iload C dX3_sortOf_38 rfl ?_
          refine j_iconst C dX3_sortOf_40 ?_
          refine j_callI (jrunV (rest := [.int (zI tu)]) (As := [.int (zI i), .int (zI (i - 1)), .int (zI 2)]) C (c_X3_isLeft l G o (hand.length : Int) ud uc ((maps x).length : Int) uo ub uw ua ue ux m0 m1 m3 w2 m8 m12 m13 m14 m15 m16 i (i - 1) 2) gX3_sortOf_X3_isLeft rfl 3 (by decide +kernel) rfl rfl ⟨Nat.le_of_ble_eq_true rfl, Nat.le_of_ble_eq_true rfl⟩ hM.1 rfl ⟨hM, ⟨by omega, by omega⟩, ⟨by omega, by omega⟩, ⟨by decide, by decide⟩, (hL7.left2 hVx.B46 (i := i) (by omega) (by omega)).1, (hL7.left2 hVx.B46 (i := (i - 1)) (by omega) (by omega)).1⟩ rfl rfl (Nat.le_of_ble_eq_true rfl) ⟨Nat.le_of_ble_eq_true rfl, Nat.le_of_ble_eq_true rfl⟩ dX3_sortOf_41) (fun r41 h41 => ?_)
          rcases h41 with ⟨h41, rfl⟩ | ⟨h41, rfl⟩
          · skip
            rw [(hL7.left2 hVx.B46 (i := i) (by omega) (by omega)).2, (hL7.left2 hVx.B46 (i := (i - 1)) (by omega) (by omega)).2] at h41
            have htc := trnC_s (L := maps x) (i := i) hi.1
            rw [htr, decide_eq_true h41, if_pos rfl] at htc
            refine j_if_eq (tgt := 51) C dX3_sortOf_44 (by decide) ⟨by decide, by decide⟩ (fun c44 => absurd c44 (by decide)) (fun c44 => ?_)
            refine j_iconst C dX3_sortOf_47 ?_
            refine j_goto (tgt := 52) C dX3_sortOf_48 (by decide) ?_
            refine j_iadd C dX3_sortOf_52 ?_
            refine j_istore_n (lv' := [(0, .ref o), (1, .int (zI x)), (2, .int (zI (tu + 1))), (3, .int (zI i)), (4, .int (zI (i - 1)))]) C dX3_sortOf_53 (by decide) rfl ?_
            refine j_iinc (lv' := [(0, .ref o), (1, .int (zI x)), (2, .int (zI (tu + 1))), (3, .int (zI (i + 1))), (4, .int (zI (i - 1)))]) C dX3_sortOf_54 rfl (by decide) rfl ?_
            refine j_goto (tgt := 9) C dX3_sortOf_57 (by decide) ?_
            exact JJ.drop (lv' := [(0, .ref o), (1, .int (zI x)), (2, .int (zI (tu + 1))), (3, .int (zI (i + 1)))]) rfl (ih9 (tu + 1) (i + 1) (by omega) ⟨by omega, by omega⟩ ⟨by omega, by omega⟩ (by omega))
          · skip
            rw [(hL7.left2 hVx.B46 (i := i) (by omega) (by omega)).2, (hL7.left2 hVx.B46 (i := (i - 1)) (by omega) (by omega)).2] at h41
            have htc := trnC_s (L := maps x) (i := i) hi.1
            rw [htr, decide_eq_false h41, if_neg (by decide)] at htc
            refine j_if_eq (tgt := 51) C dX3_sortOf_44 (by decide) ⟨by decide, by decide⟩ (fun c44 => ?_) (fun c44 => absurd c44 (by decide))
            refine j_iconst C dX3_sortOf_51 ?_
            refine j_iadd C dX3_sortOf_52 ?_
            refine j_istore_n (lv' := [(0, .ref o), (1, .int (zI x)), (2, .int (zI (tu + 0))), (3, .int (zI i)), (4, .int (zI (i - 1)))]) C dX3_sortOf_53 (by decide) rfl ?_
            refine j_iinc (lv' := [(0, .ref o), (1, .int (zI x)), (2, .int (zI (tu + 0))), (3, .int (zI (i + 1))), (4, .int (zI (i - 1)))]) C dX3_sortOf_54 rfl (by decide) rfl ?_
            refine j_goto (tgt := 9) C dX3_sortOf_57 (by decide) ?_
            exact JJ.drop (lv' := [(0, .ref o), (1, .int (zI x)), (2, .int (zI (tu + 0))), (3, .int (zI (i + 1)))]) rfl (ih9 (tu + 0) (i + 1) (by omega) ⟨by omega, by omega⟩ ⟨by omega, by omega⟩ (by omega))
        · skip
          have htr : trn (maps x) i = decide (kq2 (qat (maps x) i) < kq2 (qat (maps x) (((maps x).length : Int) - 1))) := (by unfold trn; rw [if_pos (by omega)])
          refine j_aload_n C dX3_sortOf_21 rfl ?_
          refine j_get (T := TX3) (N := 20) (fs := _) (v := .int (zI ((maps x).length : Int))) C hwX3 hM.1 6 (by decide) rfl (index := 51) (ref := "TreePairsModel") (by decide +kernel) rfl rfl dX3_sortOf_22 ?_
          refine j_iconst C dX3_sortOf_25 ?_
          refine j_isub C dX3_sortOf_26 ?_
          refine j_goto (tgt := 33) C dX3_sortOf_27 (by decide) ?_
          refine j_istore (lv' := [(0, .ref o), (1, .int (zI x)), (2, .int (zI tu)), (3, .int (zI i)), (4, .int (zI (((maps x).length : Int) - 1)))]) C dX3_sortOf_33 (by decide) rfl ?_
          refine j_iload_n C dX3_sortOf_35 rfl ?_
          refine j_aload_n C dX3_sortOf_36 rfl ?_
          refine j_iload_n C dX3_sortOf_37 rfl ?_
          refine j_iload C dX3_sortOf_38 rfl ?_
          refine j_iconst C dX3_sortOf_40 ?_
          refine j_callI (jrunV (rest := [.int (zI tu)]) (As := [.int (zI i), .int (zI (((maps x).length : Int) - 1)), .int (zI 2)]) C (c_X3_isLeft l G o (hand.length : Int) ud uc ((maps x).length : Int) uo ub uw ua ue ux m0 m1 m3 w2 m8 m12 m13 m14 m15 m16 i (((maps x).length : Int) - 1) 2) gX3_sortOf_X3_isLeft rfl 3 (by decide +kernel) rfl rfl ⟨Nat.le_of_ble_eq_true rfl, Nat.le_of_ble_eq_true rfl⟩ hM.1 rfl ⟨hM, ⟨by omega, by omega⟩, ⟨by omega, by omega⟩, ⟨by decide, by decide⟩, (hL7.left2 hVx.B46 (i := i) (by omega) (by omega)).1, (hL7.left2 hVx.B46 (i := (((maps x).length : Int) - 1)) (by omega) (by omega)).1⟩ rfl rfl (Nat.le_of_ble_eq_true rfl) ⟨Nat.le_of_ble_eq_true rfl, Nat.le_of_ble_eq_true rfl⟩ dX3_sortOf_41) (fun r41 h41 => ?_)
          rcases h41 with ⟨h41, rfl⟩ | ⟨h41, rfl⟩
          · skip
            rw [(hL7.left2 hVx.B46 (i := i) (by omega) (by omega)).2, (hL7.left2 hVx.B46 (i := (((maps x).length : Int) - 1)) (by omega) (by omega)).2] at h41
            have htc := trnC_s (L := maps x) (i := i) hi.1
            rw [htr, decide_eq_true h41, if_pos rfl] at htc
            refine j_if_eq (tgt := 51) C dX3_sortOf_44 (by decide) ⟨by decide, by decide⟩ (fun c44 => absurd c44 (by decide)) (fun c44 => ?_)
            refine j_iconst C dX3_sortOf_47 ?_
            refine j_goto (tgt := 52) C dX3_sortOf_48 (by decide) ?_
            refine j_iadd C dX3_sortOf_52 ?_
            refine j_istore_n (lv' := [(0, .ref o), (1, .int (zI x)), (2, .int (zI (tu + 1))), (3, .int (zI i)), (4, .int (zI (((maps x).length : Int) - 1)))]) C dX3_sortOf_53 (by decide) rfl ?_
            refine j_iinc (lv' := [(0, .ref o), (1, .int (zI x)), (2, .int (zI (tu + 1))), (3, .int (zI (i + 1))), (4, .int (zI (((maps x).length : Int) - 1)))]) C dX3_sortOf_54 rfl (by decide) rfl ?_
            refine j_goto (tgt := 9) C dX3_sortOf_57 (by decide) ?_
            exact JJ.drop (lv' := [(0, .ref o), (1, .int (zI x)), (2, .int (zI (tu + 1))), (3, .int (zI (i + 1)))]) rfl (ih9 (tu + 1) (i + 1) (by omega) ⟨by omega, by omega⟩ ⟨by omega, by omega⟩ (by omega))
          · skip
            rw [(hL7.left2 hVx.B46 (i := i) (by omega) (by omega)).2, (hL7.left2 hVx.B46 (i := (((maps x).length : Int) - 1)) (by omega) (by omega)).2] at h41
            have htc := trnC_s (L := maps x) (i := i) hi.1
            rw [htr, decide_eq_false h41, if_neg (by decide)] at htc
            refine j_if_eq (tgt := 51) C dX3_sortOf_44 (by decide) ⟨by decide, by decide⟩ (fun c44 => ?_) (fun c44 => absurd c44 (by decide))
            refine j_iconst C dX3_sortOf_51 ?_
            refine j_iadd C dX3_sortOf_52 ?_
            refine j_istore_n (lv' := [(0, .ref o), (1, .int (zI x)), (2, .int (zI (tu + 0))), (3, .int (zI i)), (4, .int (zI (((maps x).length : Int) - 1)))]) C dX3_sortOf_53 (by decide) rfl ?_
            refine j_iinc (lv' := [(0, .ref o), (1, .int (zI x)), (2, .int (zI (tu + 0))), (3, .int (zI (i + 1))), (4, .int (zI (((maps x).length : Int) - 1)))]) C dX3_sortOf_54 rfl (by decide) rfl ?_
            refine j_goto (tgt := 9) C dX3_sortOf_57 (by decide) ?_
            exact JJ.drop (lv' := [(0, .ref o), (1, .int (zI x)), (2, .int (zI (tu + 0))), (3, .int (zI (i + 1)))]) rfl (ih9 (tu + 0) (i + 1) (by omega) ⟨by omega, by omega⟩ ⟨by omega, by omega⟩ (by omega))
  exact JJ.drop (lv' := [(0, .ref o), (1, .int (zI x)), (2, .int (zI 0)), (3, .int (zI 0))]) rfl (K9 (((((maps x).length : Int) - (0 : Int)).toNat) + 1) 0 0 (Nat.lt_succ_self _) ⟨by omega, by omega⟩ ⟨by omega, by omega⟩ rfl)

set_option maxHeartbeats 4000000 in
set_option maxRecDepth 100000 in
/-- X3_sort -/
theorem c_X3_sort (l : Launch) (G : Gx) (o : Nat) (maps : Int → List Q4) (hand : List Q4) (ud uc : Int) (x : Int) : Met l yX3_sort wsX3_sort ({ frames := 3, cells := 0, slots := 0, locals := 75 } : Room) (cPc G [.ref o, .int (zI x)] (fun H => MX G H o maps hand ud uc ∧ iR x ∧ VMs maps)) (qmI (fun r H => r = (if thP maps x then kindF (maps x) else -101) ∧ MX G H o maps hand ud uc) (fun q : Nat => o ≤ q ∧ q < o + 11)) 0 0 (fun q : Nat => o ≤ q ∧ q < o + 11) := by
  refine Met.ofJ (cc := cX3_sort) (maxL := 2) (ret := (some .int)) (lv0 := [(0, .ref o), (1, .int (zI x))]) (by decide) rfl (Nat.le_of_ble_eq_true rfl) rfl ?_
  intro p e s m args below meth c C hr hnm hpre
  obtain ⟨⟨us, uo, ub, uw, ua, ue, ux, m0, m1, m3, m7, m8, m12, m13, m14, m15, m16, hM, hT, hHd, hBL⟩, ⟨hx1, hx2⟩, hV⟩ := hpre
  have hs := hT.iR hV
  refine j_aload_n C dX3_sort_0 rfl ?_
  refine j_iload_n C dX3_sort_1 rfl ?_
  refine j_callI (jrunV (rest := []) (As := [.int (zI x)]) C (c_X3_isMap l G o (hand.length : Int) ud uc us uo ub uw ua ue ux m0 m1 m3 m7 m8 m12 m13 m14 m15 m16 x) gX3_sort_X3_isMap rfl 1 (by decide +kernel) rfl rfl ⟨Nat.le_of_ble_eq_true rfl, Nat.le_of_ble_eq_true rfl⟩ hM.1 rfl ⟨hM, ⟨by omega, by omega⟩, hs⟩ rfl rfl (Nat.le_of_ble_eq_true rfl) ⟨Nat.le_of_ble_eq_true rfl, Nat.le_of_ble_eq_true rfl⟩ dX3_sort_2) (fun r2 h2 => ?_)
  rcases h2 with ⟨⟨h2, h2b⟩, rfl⟩ | ⟨h2, rfl⟩
  · skip
    have h2 : thP maps x := ⟨h2, by have := (hT x h2.1 h2.2).1; omega⟩
    have hVx := hV x h2.1.1 h2.1.2 h2.2
    have hTx := hT x h2.1.1 h2.1.2
    have hlx := hVx.len
    refine j_if_eq (tgt := 16) C dX3_sort_5 (by decide) ⟨by decide, by decide⟩ (fun c5 => absurd c5 (by decide)) (fun c5 => ?_)
    refine j_aload_n C dX3_sort_8 rfl ?_
    refine j_iload_n C dX3_sort_9 rfl ?_
    refine j_callmI (jrunV (rest := []) (As := [.int (zI x)]) C (c_X3_sortOf l G o maps hand ud uc x) gX3_sort_X3_sortOf rfl 1 (by decide +kernel) rfl rfl ⟨Nat.le_of_ble_eq_true rfl, Nat.le_of_ble_eq_true rfl⟩ hM.1 rfl ⟨⟨_, _, _, _, _, _, _, _, _, _, _, _, _, _, _, _, _, hM, hT, hHd, hBL⟩, hV, h2⟩ rfl rfl (Nat.le_of_ble_eq_true rfl) ⟨Nat.le_of_ble_eq_true rfl, Nat.le_of_ble_eq_true rfl⟩ dX3_sort_10) (by intro q hq; (try dsimp only at hq ⊢); omega) (fun r10 H1 h10 hF => ?_)
    obtain ⟨h10, hMX⟩ := h10
    rw [kind_of hVx] at h10
    refine j_goto (tgt := 18) C dX3_sort_13 (by decide) ?_
    exact j_iret C hr (Nat.le_refl _) (Nat.zero_le _) ⟨by rw [if_pos h2]; exact h10, hMX⟩ dX3_sort_18
  · skip
    have h2 : ¬ thP maps x := (fun h => h2 ⟨h.1, by have := (hT x h.1.1 h.1.2).1; have := h.2; omega⟩)
    refine j_if_eq (tgt := 16) C dX3_sort_5 (by decide) ⟨by decide, by decide⟩ (fun c5 => ?_) (fun c5 => absurd c5 (by decide))
    refine j_bipush C dX3_sort_16 (by decide) ?_
    exact j_iret C hr (Nat.le_refl _) (Nat.zero_le _) ⟨by rw [if_neg h2], ⟨_, _, _, _, _, _, _, _, _, _, _, _, _, _, _, _, _, hM, hT, hHd, hBL⟩⟩ dX3_sort_18

set_option maxHeartbeats 4000000 in
set_option maxRecDepth 100000 in
/-- X3_commute -/
theorem c_X3_commute (l : Launch) (G : Gx) (o : Nat) (maps : Int → List Q4) (hand : List Q4) (ud uc : Int) (x y : Int) : Met l yX3_commute wsX3_commute ({ frames := 4, cells := 0, slots := 0, locals := 107 } : Room) (cPc G [.ref o, .int (zI x), .int (zI y)] (fun H => MX G H o maps hand ud uc ∧ iR x ∧ iR y ∧ VMs maps)) (qmI (fun r H => r = anCommute maps x y ∧ MX G H o maps hand ud uc) (fun q : Nat => o ≤ q ∧ q < o + 11)) 0 0 (fun q : Nat => o ≤ q ∧ q < o + 11) := by
  refine Met.ofJ (cc := cX3_commute) (maxL := 6) (ret := (some .int)) (lv0 := [(0, .ref o), (1, .int (zI x)), (2, .int (zI y))]) (by decide) rfl (Nat.le_of_ble_eq_true rfl) rfl ?_
  intro p e s m args below meth c C hr hnm hpre
  obtain ⟨⟨us, uo, ub, uw, ua, ue, ux, m0, m1, m3, m7, m8, m12, m13, m14, m15, m16, hM, hT, hHd, hBL⟩, ⟨hx1, hx2⟩, ⟨hy1, hy2⟩, hV⟩ := hpre
  have hwX3 : ∀ w ∈ u_ws RX3 TX3 20, w ∈ wsX3_commute := by decide +kernel
  have hs := hT.iR hV
  refine j_aload_n C dX3_commute_0 rfl ?_
  refine j_iload_n C dX3_commute_1 rfl ?_
  refine j_callI (jrunV (rest := []) (As := [.int (zI x)]) C (c_X3_isMap l G o (hand.length : Int) ud uc us uo ub uw ua ue ux m0 m1 m3 m7 m8 m12 m13 m14 m15 m16 x) gX3_commute_X3_isMap rfl 1 (by decide +kernel) rfl rfl ⟨Nat.le_of_ble_eq_true rfl, Nat.le_of_ble_eq_true rfl⟩ hM.1 rfl ⟨hM, ⟨by omega, by omega⟩, hs⟩ rfl rfl (Nat.le_of_ble_eq_true rfl) ⟨Nat.le_of_ble_eq_true rfl, Nat.le_of_ble_eq_true rfl⟩ dX3_commute_2) (fun r2 h2 => ?_)
  rcases h2 with ⟨⟨h2, h2b⟩, rfl⟩ | ⟨h2, rfl⟩
  · skip
    have h2 : thP maps x := ⟨h2, by have := (hT x h2.1 h2.2).1; omega⟩
    have hVx := hV x h2.1.1 h2.1.2 h2.2
    have hTx := hT x h2.1.1 h2.1.2
    have hlx := hVx.len
    refine j_if_eq (tgt := 16) C dX3_commute_5 (by decide) ⟨by decide, by decide⟩ (fun c5 => absurd c5 (by decide)) (fun c5 => ?_)
    refine j_aload_n C dX3_commute_8 rfl ?_
    refine j_iload_n C dX3_commute_9 rfl ?_
    refine j_callI (jrunV (rest := []) (As := [.int (zI y)]) C (c_X3_isMap l G o (hand.length : Int) ud uc us uo ub uw ua ue ux m0 m1 m3 m7 m8 m12 m13 m14 m15 m16 y) gX3_commute_X3_isMap rfl 1 (by decide +kernel) rfl rfl ⟨Nat.le_of_ble_eq_true rfl, Nat.le_of_ble_eq_true rfl⟩ hM.1 rfl ⟨hM, ⟨by omega, by omega⟩, hs⟩ rfl rfl (Nat.le_of_ble_eq_true rfl) ⟨Nat.le_of_ble_eq_true rfl, Nat.le_of_ble_eq_true rfl⟩ dX3_commute_10) (fun r10 h10 => ?_)
    rcases h10 with ⟨⟨h10, h10b⟩, rfl⟩ | ⟨h10, rfl⟩
    · skip
      have h10 : thP maps y := ⟨h10, by have := (hT y h10.1 h10.2).1; omega⟩
      have hVy := hV y h10.1.1 h10.1.2 h10.2
      have hTy := hT y h10.1.1 h10.1.2
      have hly := hVy.len
      refine j_if_ne (tgt := 19) C dX3_commute_13 (by decide) ⟨by decide, by decide⟩ (fun c13 => ?_) (fun c13 => absurd c13 (by decide))
      refine j_aload_n C dX3_commute_19 rfl ?_
      refine j_iload_n C dX3_commute_20 rfl ?_
      refine j_callmV (jrunV (rest := []) (As := [.int (zI x)]) C (c_X3_load l G o (hand.length : Int) ud uc us uo ub uw ua ue ux m0 m1 m3 m7 m8 m12 m13 m14 m15 m16 x (maps x)) gX3_commute_X3_load rfl 1 (by decide +kernel) rfl rfl ⟨Nat.le_of_ble_eq_true rfl, Nat.le_of_ble_eq_true rfl⟩ hM.1 rfl ⟨hM, h2.1, hTx.1, by omega, hVx.B, hTx.2⟩ rfl rfl (Nat.le_of_ble_eq_true rfl) ⟨Nat.le_of_ble_eq_true rfl, Nat.le_of_ble_eq_true rfl⟩ dX3_commute_21) (by intro q hq; (try dsimp only at hq ⊢); omega) (fun H1 h21 hF => ?_)
      obtain ⟨w21, hM, hL7⟩ := h21
      refine j_aload_n C dX3_commute_24 rfl ?_
      refine j_callmV (jrunV (rest := []) (As := []) C (c_X3_aside l G o (hand.length : Int) ud uc ((maps x).length : Int) uo ub uw ua ue ux m0 m1 m3 w21 m8 m12 m13 m14 m15 m16) gX3_commute_X3_aside rfl 0 (by decide +kernel) rfl rfl ⟨Nat.le_of_ble_eq_true rfl, Nat.le_of_ble_eq_true rfl⟩ hM.1 rfl ⟨hM, by omega, by omega⟩ rfl rfl (Nat.le_of_ble_eq_true rfl) ⟨Nat.le_of_ble_eq_true rfl, Nat.le_of_ble_eq_true rfl⟩ dX3_commute_25) (by intro q hq; (try dsimp only at hq ⊢); omega) (fun H2 h25 hF => ?_)
      obtain ⟨w25, ew25⟩ : ∃ f, f = cpf m8 w21 0 (4 * ((maps x).length : Int)) := ⟨_, rfl⟩
      have hM := h25
      rw [← ew25] at hM
      have hA8 := hL7.congr (g := w25) (fun k k0 k1 => by rw [ew25, cpf_in (by omega), Int.sub_zero])
      refine j_aload_n C dX3_commute_28 rfl ?_
      refine j_iload_n C dX3_commute_29 rfl ?_
      refine j_callmV (jrunV (rest := []) (As := [.int (zI y)]) C (c_X3_load l G o (hand.length : Int) ud uc ((maps x).length : Int) ((maps x).length : Int) ub uw ua ue ux m0 m1 m3 w21 w25 m12 m13 m14 m15 m16 y (maps y)) gX3_commute_X3_load rfl 1 (by decide +kernel) rfl rfl ⟨Nat.le_of_ble_eq_true rfl, Nat.le_of_ble_eq_true rfl⟩ hM.1 rfl ⟨hM, h10.1, hTy.1, by omega, hVy.B, hTy.2⟩ rfl rfl (Nat.le_of_ble_eq_true rfl) ⟨Nat.le_of_ble_eq_true rfl, Nat.le_of_ble_eq_true rfl⟩ dX3_commute_30) (by intro q hq; (try dsimp only at hq ⊢); omega) (fun H3 h30 hF => ?_)
      obtain ⟨w30, hM, hL7⟩ := h30
      refine j_aload_n C dX3_commute_33 rfl ?_
      refine j_callmV (jrunV (rest := []) (As := []) C (c_X3_follow l G o (hand.length : Int) ud uc ((maps y).length : Int) ((maps x).length : Int) ub uw ua ue ux m0 m1 m3 w30 w25 m12 m13 m14 m15 m16 (maps x) (maps y)) gX3_commute_X3_follow rfl 0 (by decide +kernel) rfl rfl ⟨Nat.le_of_ble_eq_true rfl, Nat.le_of_ble_eq_true rfl⟩ hM.1 rfl ⟨hM, rfl, rfl, ⟨by omega, by omega⟩, hA8, hL7, hVx.B, hVy.B, by have := VM.prod_len hVx hVy; omega, VM.prod_B hVx hVy⟩ rfl rfl (Nat.le_of_ble_eq_true rfl) ⟨Nat.le_of_ble_eq_true rfl, Nat.le_of_ble_eq_true rfl⟩ dX3_commute_34) (by intro q hq; (try dsimp only at hq ⊢); omega) (fun H4 h34 hF => ?_)
      obtain ⟨M, w34, x34, hM, hL7, hG, hN⟩ := h34
      have ec := comp_of hVx hVy hG hN
      have el : (M.length : Int) = ((compF (maps x) (maps y)).length : Int) := (by rw [← ec, arr_len])
      rw [ec] at hL7
      rw [el] at hM
      refine j_aload_n C dX3_commute_37 rfl ?_
      have hcl : (compF (maps x) (maps y)).length ≤ 48 := (by have h1 := VM.prod_len hVx hVy; have h2 : (redF (prodF (maps x) (maps y))).length ≤ 0 + (prodF (maps x) (maps y)).length := redF_len _ []; unfold compF; omega)
      refine j_get (T := TX3) (N := 20) (fs := _) (v := .int (zI ((compF (maps x) (maps y)).length : Int))) C hwX3 hM.1 6 (by decide) rfl (index := 51) (ref := "TreePairsModel") (by decide +kernel) rfl rfl dX3_commute_38 ?_
      refine j_istore_n (lv' := [(0, .ref o), (1, .int (zI x)), (2, .int (zI y)), (3, .int (zI ((compF (maps x) (maps y)).length : Int)))]) C dX3_commute_41 (by decide) rfl ?_
      refine j_iconst C dX3_commute_42 ?_
      refine j_istore (lv' := [(0, .ref o), (1, .int (zI x)), (2, .int (zI y)), (3, .int (zI ((compF (maps x) (maps y)).length : Int))), (4, .int (zI 0))]) C dX3_commute_43 (by decide) rfl ?_
      have K45 : ∀ (fu45 : Nat) (k : Int) (Hl1 : Heap), (4 * ((compF (maps x) (maps y)).length : Int) - k).toNat < fu45 → MP G Hl1 o (hand.length : Int) ud uc ((compF (maps x) (maps y)).length : Int) ((maps x).length : Int) ub uw ua ue ux m0 m1 m3 w34 w25 m12 m13 m14 x34 (cpf m16 w34 0 k) → 0 ≤ k ∧ k ≤ 4 * ((compF (maps x) (maps y)).length : Int) → JJ p l e ({ frames := 4, cells := 0, slots := 0, locals := 107 } : Room) s m args below meth c (MQ below (qmI (fun r H => r = anCommute maps x y ∧ MX G H o maps hand ud uc) (fun q : Nat => o ≤ q ∧ q < o + 11)) args s 0 0 (fun q : Nat => o ≤ q ∧ q < o + 11)) (fun q : Nat => o ≤ q ∧ q < o + 11) 6 Hl1 0 0 45 [(0, .ref o), (1, .int (zI x)), (2, .int (zI y)), (3, .int (zI ((compF (maps x) (maps y)).length : Int))), (4, .int (zI k))] [] := by
        intro fu45
        induction fu45 with
        | zero => intro k Hl1 hm45 hM hk; exact absurd hm45 (Nat.not_lt_zero _)
        | succ fu45 ih45 =>
          intro k Hl1 hm45 hM hk
          refine j_iload C dX3_commute_45 rfl ?_
          refine j_iconst C dX3_commute_47 ?_
          refine j_aload_n C dX3_commute_48 rfl ?_
          refine j_get (T := TX3) (N := 20) (fs := _) (v := .int (zI ((compF (maps x) (maps y)).length : Int))) C hwX3 hM.1 6 (by decide) rfl (index := 51) (ref := "TreePairsModel") (by decide +kernel) rfl rfl dX3_commute_49 ?_
          refine j_imul C dX3_commute_52 ?_
          refine j_icmp_ge (tgt := 76) C dX3_commute_53 (by decide) ⟨by omega, by omega⟩ ⟨by omega, by omega⟩ (fun c53 => ?_) (fun c53 => ?_)
          · skip
            have ek : k = 4 * ((compF (maps x) (maps y)).length : Int) := by omega
            obtain ⟨fp, efp⟩ : ∃ f, f = cpf m16 w34 0 k := ⟨_, rfl⟩
            rw [← efp] at hM
            have hP16 : R4 (compF (maps x) (maps y)) fp := hL7.congr (fun q q0 q1 => by rw [efp, cpf_in (by omega), Int.sub_zero])
            refine j_aload_n C dX3_commute_76 rfl ?_
            refine j_iload_n C dX3_commute_77 rfl ?_
            refine j_callmV (jrunV (rest := []) (As := [.int (zI y)]) C (c_X3_load l G o (hand.length : Int) ud uc ((compF (maps x) (maps y)).length : Int) ((maps x).length : Int) ub uw ua ue ux m0 m1 m3 w34 w25 m12 m13 m14 x34 fp y (maps y)) gX3_commute_X3_load rfl 1 (by decide +kernel) rfl rfl ⟨Nat.le_of_ble_eq_true rfl, Nat.le_of_ble_eq_true rfl⟩ hM.1 rfl ⟨hM, h10.1, hTy.1, by omega, hVy.B, hTy.2⟩ rfl rfl (Nat.le_of_ble_eq_true rfl) ⟨Nat.le_of_ble_eq_true rfl, Nat.le_of_ble_eq_true rfl⟩ dX3_commute_78) (by intro q hq; (try dsimp only at hq ⊢); omega) (fun H5 h78 hF => ?_)
            obtain ⟨w78, hM, hL7⟩ := h78
            refine j_aload_n C dX3_commute_81 rfl ?_
            refine j_callmV (jrunV (rest := []) (As := []) C (c_X3_aside l G o (hand.length : Int) ud uc ((maps y).length : Int) ((maps x).length : Int) ub uw ua ue ux m0 m1 m3 w78 w25 m12 m13 m14 x34 fp) gX3_commute_X3_aside rfl 0 (by decide +kernel) rfl rfl ⟨Nat.le_of_ble_eq_true rfl, Nat.le_of_ble_eq_true rfl⟩ hM.1 rfl ⟨hM, by omega, by omega⟩ rfl rfl (Nat.le_of_ble_eq_true rfl) ⟨Nat.le_of_ble_eq_true rfl, Nat.le_of_ble_eq_true rfl⟩ dX3_commute_82) (by intro q hq; (try dsimp only at hq ⊢); omega) (fun H6 h82 hF => ?_)
            have hM := h82
            have hA8 := hL7.congr (g := (cpf w25 w78 0 (4 * ((maps y).length : Int)))) (fun k k0 k1 => by rw [cpf_in (by omega), Int.sub_zero])
            refine j_aload_n C dX3_commute_85 rfl ?_
            refine j_iload_n C dX3_commute_86 rfl ?_
            refine j_callmV (jrunV (rest := []) (As := [.int (zI x)]) C (c_X3_load l G o (hand.length : Int) ud uc ((maps y).length : Int) ((maps y).length : Int) ub uw ua ue ux m0 m1 m3 w78 (cpf w25 w78 0 (4 * ((maps y).length : Int))) m12 m13 m14 x34 fp x (maps x)) gX3_commute_X3_load rfl 1 (by decide +kernel) rfl rfl ⟨Nat.le_of_ble_eq_true rfl, Nat.le_of_ble_eq_true rfl⟩ hM.1 rfl ⟨hM, h2.1, hTx.1, by omega, hVx.B, hTx.2⟩ rfl rfl (Nat.le_of_ble_eq_true rfl) ⟨Nat.le_of_ble_eq_true rfl, Nat.le_of_ble_eq_true rfl⟩ dX3_commute_87) (by intro q hq; (try dsimp only at hq ⊢); omega) (fun H7 h87 hF => ?_)
            obtain ⟨w87, hM, hL7⟩ := h87
            refine j_aload_n C dX3_commute_90 rfl ?_
            refine j_callmV (jrunV (rest := []) (As := []) C (c_X3_follow l G o (hand.length : Int) ud uc ((maps x).length : Int) ((maps y).length : Int) ub uw ua ue ux m0 m1 m3 w87 (cpf w25 w78 0 (4 * ((maps y).length : Int))) m12 m13 m14 x34 fp (maps y) (maps x)) gX3_commute_X3_follow rfl 0 (by decide +kernel) rfl rfl ⟨Nat.le_of_ble_eq_true rfl, Nat.le_of_ble_eq_true rfl⟩ hM.1 rfl ⟨hM, rfl, rfl, ⟨by omega, by omega⟩, hA8, hL7, hVy.B, hVx.B, by have := VM.prod_len hVy hVx; omega, VM.prod_B hVy hVx⟩ rfl rfl (Nat.le_of_ble_eq_true rfl) ⟨Nat.le_of_ble_eq_true rfl, Nat.le_of_ble_eq_true rfl⟩ dX3_commute_91) (by intro q hq; (try dsimp only at hq ⊢); omega) (fun H8 h91 hF => ?_)
            obtain ⟨M, w91, x91, hM, hL7, hG, hN⟩ := h91
            have ec := comp_of hVy hVx hG hN
            have el : (M.length : Int) = ((compF (maps y) (maps x)).length : Int) := (by rw [← ec, arr_len])
            rw [ec] at hL7
            rw [el] at hM
            have hcl2 : (compF (maps y) (maps x)).length ≤ 48 := (by have h1 := VM.prod_len hVy hVx; have h2 : (redF (prodF (maps y) (maps x))).length ≤ 0 + (prodF (maps y) (maps x)).length := redF_len _ []; unfold compF; omega)
            refine j_iload_n C dX3_commute_94 rfl ?_
            refine j_bipush C dX3_commute_95 (by decide) ?_
            refine j_icmp_gt (tgt := 109) C dX3_commute_97 (by decide) ⟨by omega, by omega⟩ ⟨by decide, by decide⟩ (fun c97 => ?_) (fun c97 => ?_)
            · skip
              refine j_bipush C dX3_commute_109 (by decide) ?_
              exact j_iret C hr (Nat.le_refl _) (Nat.zero_le _) (by unfold anCommute; rw [if_pos ⟨h2, h10⟩, if_pos (by omega)]; exact ⟨rfl, ⟨_, _, _, _, _, _, _, _, _, _, _, _, _, _, _, _, _, hM, hT, hHd, hBL⟩⟩) dX3_commute_111
            · skip
              refine j_aload_n C dX3_commute_100 rfl ?_
              refine j_get (T := TX3) (N := 20) (fs := _) (v := .int (zI ((compF (maps y) (maps x)).length : Int))) C hwX3 hM.1 6 (by decide) rfl (index := 51) (ref := "TreePairsModel") (by decide +kernel) rfl rfl dX3_commute_101 ?_
              refine j_bipush C dX3_commute_104 (by decide) ?_
              refine j_icmp_le (tgt := 112) C dX3_commute_106 (by decide) ⟨by omega, by omega⟩ ⟨by decide, by decide⟩ (fun c106 => ?_) (fun c106 => ?_)
              · skip
                refine j_iload_n C dX3_commute_112 rfl ?_
                refine j_aload_n C dX3_commute_113 rfl ?_
                refine j_get (T := TX3) (N := 20) (fs := _) (v := .int (zI ((compF (maps y) (maps x)).length : Int))) C hwX3 hM.1 6 (by decide) rfl (index := 51) (ref := "TreePairsModel") (by decide +kernel) rfl rfl dX3_commute_114 ?_
                refine j_icmp_ne (tgt := 124) C dX3_commute_117 (by decide) ⟨by omega, by omega⟩ ⟨by omega, by omega⟩ (fun c117 => ?_) (fun c117 => ?_)
                · skip
                  refine j_iconst C dX3_commute_124 ?_
                  refine j_istore (lv' := [(0, .ref o), (1, .int (zI x)), (2, .int (zI y)), (3, .int (zI ((compF (maps x) (maps y)).length : Int))), (4, .int (zI 0))]) C dX3_commute_125 (by decide) rfl ?_
                  refine j_iconst C dX3_commute_127 ?_
                  refine j_istore (lv' := [(0, .ref o), (1, .int (zI x)), (2, .int (zI y)), (3, .int (zI ((compF (maps x) (maps y)).length : Int))), (4, .int (zI 0)), (5, .int (zI 0))]) C dX3_commute_128 (by decide) rfl ?_
                  have K130 : ∀ (fu130 : Nat) (s2 k : Int), (4 * ((compF (maps y) (maps x)).length : Int) - k).toNat < fu130 → 0 ≤ k ∧ k ≤ 4 * ((compF (maps y) (maps x)).length : Int) → ((s2 = 1 ∧ (compF (maps x) (maps y)).length = (compF (maps y) (maps x)).length ∧ ∀ q, 0 ≤ q → q < k → fp q = w91 q) ∨ (s2 = 0 ∧ (compF (maps x) (maps y)) ≠ (compF (maps y) (maps x)))) → JJ p l e ({ frames := 4, cells := 0, slots := 0, locals := 107 } : Room) s m args below meth c (MQ below (qmI (fun r H => r = anCommute maps x y ∧ MX G H o maps hand ud uc) (fun q : Nat => o ≤ q ∧ q < o + 11)) args s 0 0 (fun q : Nat => o ≤ q ∧ q < o + 11)) (fun q : Nat => o ≤ q ∧ q < o + 11) 6 H8 0 0 130 [(0, .ref o), (1, .int (zI x)), (2, .int (zI y)), (3, .int (zI ((compF (maps x) (maps y)).length : Int))), (4, .int (zI s2)), (5, .int (zI k))] [] := by
                    intro fu130
                    induction fu130 with
                    | zero => intro s2 k hm130 hk hs2; exact absurd hm130 (Nat.not_lt_zero _)
                    | succ fu130 ih130 =>
                      intro s2 k hm130 hk hs2
                      refine j_iload C dX3_commute_130 rfl ?_
                      refine j_iconst C dX3_commute_132 ?_
                      refine j_aload_n C dX3_commute_133 rfl ?_
                      refine j_get (T := TX3) (N := 20) (fs := _) (v := .int (zI ((compF (maps y) (maps x)).length : Int))) C hwX3 hM.1 6 (by decide) rfl (index := 51) (ref := "TreePairsModel") (by decide +kernel) rfl rfl dX3_commute_134 ?_
                      refine j_imul C dX3_commute_137 ?_
                      refine j_icmp_ge (tgt := 177) C dX3_commute_138 (by decide) ⟨by omega, by omega⟩ ⟨by omega, by omega⟩ (fun c138 => ?_) (fun c138 => ?_)
                      · skip
                        refine j_iload C dX3_commute_177 rfl ?_
                        refine j_if_eq (tgt := 186) C dX3_commute_179 (by decide) ⟨by omega, by omega⟩ (fun c179 => ?_) (fun c179 => ?_)
                        · skip
                          have hne : (compF (maps x) (maps y)) ≠ (compF (maps y) (maps x)) := (by rcases hs2 with h | h; omega; exact h.2)
                          refine j_iconst C dX3_commute_186 ?_
                          exact j_iret C hr (Nat.le_refl _) (Nat.zero_le _) (by unfold anCommute; rw [if_pos ⟨h2, h10⟩, if_neg (by omega), if_neg hne]; exact ⟨rfl, ⟨_, _, _, _, _, _, _, _, _, _, _, _, _, _, _, _, _, hM, hT, hHd, hBL⟩⟩) dX3_commute_187
                        · skip
                          have heq : (compF (maps x) (maps y)) = (compF (maps y) (maps x)) := (by rcases hs2 with h | h; exact hP16.ext hL7 h.2.1 (fun q q0 q1 => h.2.2 q q0 (by omega)); omega)
                          refine j_iconst C dX3_commute_182 ?_
                          refine j_goto (tgt := 187) C dX3_commute_183 (by decide) ?_
                          exact j_iret C hr (Nat.le_refl _) (Nat.zero_le _) (by unfold anCommute; rw [if_pos ⟨h2, h10⟩, if_neg (by omega), if_pos heq]; exact ⟨rfl, ⟨_, _, _, _, _, _, _, _, _, _, _, _, _, _, _, _, _, hM, hT, hHd, hBL⟩⟩) dX3_commute_187
                      · skip
                        refine j_iload C dX3_commute_141 rfl ?_
                        refine j_if_eq (tgt := 177) C dX3_commute_143 (by decide) ⟨by omega, by omega⟩ (fun c143 => ?_) (fun c143 => ?_)
                        · skip
                          refine j_iload C dX3_commute_177 rfl ?_
                          refine j_if_eq (tgt := 186) C dX3_commute_179 (by decide) ⟨by omega, by omega⟩ (fun c179 => ?_) (fun c179 => ?_)
                          · skip
                            have hne : (compF (maps x) (maps y)) ≠ (compF (maps y) (maps x)) := (by rcases hs2 with h | h; omega; exact h.2)
                            refine j_iconst C dX3_commute_186 ?_
                            exact j_iret C hr (Nat.le_refl _) (Nat.zero_le _) (by unfold anCommute; rw [if_pos ⟨h2, h10⟩, if_neg (by omega), if_neg hne]; exact ⟨rfl, ⟨_, _, _, _, _, _, _, _, _, _, _, _, _, _, _, _, _, hM, hT, hHd, hBL⟩⟩) dX3_commute_187
                          · skip
                            have heq : (compF (maps x) (maps y)) = (compF (maps y) (maps x)) := (by rcases hs2 with h | h; exact hP16.ext hL7 h.2.1 (fun q q0 q1 => h.2.2 q q0 (by omega)); omega)
                            refine j_iconst C dX3_commute_182 ?_
                            refine j_goto (tgt := 187) C dX3_commute_183 (by decide) ?_
                            exact j_iret C hr (Nat.le_refl _) (Nat.zero_le _) (by unfold anCommute; rw [if_pos ⟨h2, h10⟩, if_neg (by omega), if_pos heq]; exact ⟨rfl, ⟨_, _, _, _, _, _, _, _, _, _, _, _, _, _, _, _, _, hM, hT, hHd, hBL⟩⟩) dX3_commute_187
                        · skip
                          have hsx : (compF (maps x) (maps y)).length = (compF (maps y) (maps x)).length ∧ ∀ q, 0 ≤ q → q < k → fp q = w91 q := (by rcases hs2 with h | h; exact h.2; omega)
                          have hrx := hP16.lR4 (VM.compB hVx hVy) (k := k) hk.1 (by omega)
                          have hry := hL7.lR4 (VM.compB hVy hVx) (k := k) hk.1 (by omega)
                          refine j_aload_n C dX3_commute_146 rfl ?_
                          refine j_get (T := TX3) (N := 20) (fs := _) (v := .ref (o + 10)) C hwX3 hM.1 16 (by decide) rfl (index := 38) (ref := "TreePairsModel") (by decide +kernel) rfl rfl dX3_commute_147 ?_
                          refine j_iload C dX3_commute_150 rfl ?_
                          refine j_lald C hM.2.2.2.2.2.2.2.2.2.2 ⟨by omega, by omega⟩ dX3_commute_152 ?_
                          refine j_aload_n C dX3_commute_153 rfl ?_
                          refine j_get (T := TX3) (N := 20) (fs := _) (v := .ref (o + 4)) C hwX3 hM.1 7 (by decide) rfl (index := 19) (ref := "TreePairsModel") (by decide +kernel) rfl rfl dX3_commute_154 ?_
                          refine j_iload C dX3_commute_157 rfl ?_
                          refine j_lald C hM.2.2.2.2.1 ⟨by omega, by omega⟩ dX3_commute_159 ?_
                          refine j_lcmp_ne (tgt := 168) C dX3_commute_160 dX3_commute_161 (by decide) hrx hry (fun c160 => ?_) (fun c160 => ?_)
                          · skip
                            refine j_iconst C dX3_commute_168 ?_
                            refine j_istore (lv' := [(0, .ref o), (1, .int (zI x)), (2, .int (zI y)), (3, .int (zI ((compF (maps x) (maps y)).length : Int))), (4, .int (zI 0)), (5, .int (zI k))]) C dX3_commute_169 (by decide) rfl ?_
                            refine j_iinc (lv' := [(0, .ref o), (1, .int (zI x)), (2, .int (zI y)), (3, .int (zI ((compF (maps x) (maps y)).length : Int))), (4, .int (zI 0)), (5, .int (zI (k + 1)))]) C dX3_commute_171 rfl (by decide) rfl ?_
                            refine j_goto (tgt := 130) C dX3_commute_174 (by decide) ?_
                            exact JJ.drop (lv' := [(0, .ref o), (1, .int (zI x)), (2, .int (zI y)), (3, .int (zI ((compF (maps x) (maps y)).length : Int))), (4, .int (zI 0)), (5, .int (zI (k + 1)))]) rfl (ih130 0 (k + 1) (by omega) ⟨by omega, by omega⟩ (Or.inr ⟨rfl, fun e => c160 (by have h1 := hP16; rw [e] at h1; exact h1.eqv hL7 hk.1 (by omega))⟩))
                          · skip
                            refine j_iconst C dX3_commute_164 ?_
                            refine j_goto (tgt := 169) C dX3_commute_165 (by decide) ?_
                            refine j_istore (lv' := [(0, .ref o), (1, .int (zI x)), (2, .int (zI y)), (3, .int (zI ((compF (maps x) (maps y)).length : Int))), (4, .int (zI 1)), (5, .int (zI k))]) C dX3_commute_169 (by decide) rfl ?_
                            refine j_iinc (lv' := [(0, .ref o), (1, .int (zI x)), (2, .int (zI y)), (3, .int (zI ((compF (maps x) (maps y)).length : Int))), (4, .int (zI 1)), (5, .int (zI (k + 1)))]) C dX3_commute_171 rfl (by decide) rfl ?_
                            refine j_goto (tgt := 130) C dX3_commute_174 (by decide) ?_
                            exact JJ.drop (lv' := [(0, .ref o), (1, .int (zI x)), (2, .int (zI y)), (3, .int (zI ((compF (maps x) (maps y)).length : Int))), (4, .int (zI 1)), (5, .int (zI (k + 1)))]) rfl (ih130 1 (k + 1) (by omega) ⟨by omega, by omega⟩ (Or.inl ⟨rfl, hsx.1, fun q q0 q1 => by rcases Int.lt_or_le q k with z | z; exact hsx.2 q q0 z; have e : q = k := (by omega); subst e; exact c160⟩))
                  exact JJ.drop (lv' := [(0, .ref o), (1, .int (zI x)), (2, .int (zI y)), (3, .int (zI ((compF (maps x) (maps y)).length : Int))), (4, .int (zI 0)), (5, .int (zI 0))]) rfl (K130 (((4 * ((compF (maps y) (maps x)).length : Int) - (0 : Int)).toNat) + 1) 0 0 (Nat.lt_succ_self _) ⟨by omega, by omega⟩ (Or.inr ⟨rfl, fun e => c117 (by rw [e])⟩))
                · skip
                  refine j_iconst C dX3_commute_120 ?_
                  refine j_goto (tgt := 125) C dX3_commute_121 (by decide) ?_
                  refine j_istore (lv' := [(0, .ref o), (1, .int (zI x)), (2, .int (zI y)), (3, .int (zI ((compF (maps x) (maps y)).length : Int))), (4, .int (zI 1))]) C dX3_commute_125 (by decide) rfl ?_
                  refine j_iconst C dX3_commute_127 ?_
                  refine j_istore (lv' := [(0, .ref o), (1, .int (zI x)), (2, .int (zI y)), (3, .int (zI ((compF (maps x) (maps y)).length : Int))), (4, .int (zI 1)), (5, .int (zI 0))]) C dX3_commute_128 (by decide) rfl ?_
                  have K130 : ∀ (fu130 : Nat) (s2 k : Int), (4 * ((compF (maps y) (maps x)).length : Int) - k).toNat < fu130 → 0 ≤ k ∧ k ≤ 4 * ((compF (maps y) (maps x)).length : Int) → ((s2 = 1 ∧ (compF (maps x) (maps y)).length = (compF (maps y) (maps x)).length ∧ ∀ q, 0 ≤ q → q < k → fp q = w91 q) ∨ (s2 = 0 ∧ (compF (maps x) (maps y)) ≠ (compF (maps y) (maps x)))) → JJ p l e ({ frames := 4, cells := 0, slots := 0, locals := 107 } : Room) s m args below meth c (MQ below (qmI (fun r H => r = anCommute maps x y ∧ MX G H o maps hand ud uc) (fun q : Nat => o ≤ q ∧ q < o + 11)) args s 0 0 (fun q : Nat => o ≤ q ∧ q < o + 11)) (fun q : Nat => o ≤ q ∧ q < o + 11) 6 H8 0 0 130 [(0, .ref o), (1, .int (zI x)), (2, .int (zI y)), (3, .int (zI ((compF (maps x) (maps y)).length : Int))), (4, .int (zI s2)), (5, .int (zI k))] [] := by
                    intro fu130
                    induction fu130 with
                    | zero => intro s2 k hm130 hk hs2; exact absurd hm130 (Nat.not_lt_zero _)
                    | succ fu130 ih130 =>
                      intro s2 k hm130 hk hs2
                      refine j_iload C dX3_commute_130 rfl ?_
                      refine j_iconst C dX3_commute_132 ?_
                      refine j_aload_n C dX3_commute_133 rfl ?_
                      refine j_get (T := TX3) (N := 20) (fs := _) (v := .int (zI ((compF (maps y) (maps x)).length : Int))) C hwX3 hM.1 6 (by decide) rfl (index := 51) (ref := "TreePairsModel") (by decide +kernel) rfl rfl dX3_commute_134 ?_
                      refine j_imul C dX3_commute_137 ?_
                      refine j_icmp_ge (tgt := 177) C dX3_commute_138 (by decide) ⟨by omega, by omega⟩ ⟨by omega, by omega⟩ (fun c138 => ?_) (fun c138 => ?_)
                      · skip
                        refine j_iload C dX3_commute_177 rfl ?_
                        refine j_if_eq (tgt := 186) C dX3_commute_179 (by decide) ⟨by omega, by omega⟩ (fun c179 => ?_) (fun c179 => ?_)
                        · skip
                          have hne : (compF (maps x) (maps y)) ≠ (compF (maps y) (maps x)) := (by rcases hs2 with h | h; omega; exact h.2)
                          refine j_iconst C dX3_commute_186 ?_
                          exact j_iret C hr (Nat.le_refl _) (Nat.zero_le _) (by unfold anCommute; rw [if_pos ⟨h2, h10⟩, if_neg (by omega), if_neg hne]; exact ⟨rfl, ⟨_, _, _, _, _, _, _, _, _, _, _, _, _, _, _, _, _, hM, hT, hHd, hBL⟩⟩) dX3_commute_187
                        · skip
                          have heq : (compF (maps x) (maps y)) = (compF (maps y) (maps x)) := (by rcases hs2 with h | h; exact hP16.ext hL7 h.2.1 (fun q q0 q1 => h.2.2 q q0 (by omega)); omega)
                          refine j_iconst C dX3_commute_182 ?_
                          refine j_goto (tgt := 187) C dX3_commute_183 (by decide) ?_
                          exact j_iret C hr (Nat.le_refl _) (Nat.zero_le _) (by unfold anCommute; rw [if_pos ⟨h2, h10⟩, if_neg (by omega), if_pos heq]; exact ⟨rfl, ⟨_, _, _, _, _, _, _, _, _, _, _, _, _, _, _, _, _, hM, hT, hHd, hBL⟩⟩) dX3_commute_187
                      · skip
                        refine j_iload C dX3_commute_141 rfl ?_
                        refine j_if_eq (tgt := 177) C dX3_commute_143 (by decide) ⟨by omega, by omega⟩ (fun c143 => ?_) (fun c143 => ?_)
                        · skip
                          refine j_iload C dX3_commute_177 rfl ?_
                          refine j_if_eq (tgt := 186) C dX3_commute_179 (by decide) ⟨by omega, by omega⟩ (fun c179 => ?_) (fun c179 => ?_)
                          · skip
                            have hne : (compF (maps x) (maps y)) ≠ (compF (maps y) (maps x)) := (by rcases hs2 with h | h; omega; exact h.2)
                            refine j_iconst C dX3_commute_186 ?_
                            exact j_iret C hr (Nat.le_refl _) (Nat.zero_le _) (by unfold anCommute; rw [if_pos ⟨h2, h10⟩, if_neg (by omega), if_neg hne]; exact ⟨rfl, ⟨_, _, _, _, _, _, _, _, _, _, _, _, _, _, _, _, _, hM, hT, hHd, hBL⟩⟩) dX3_commute_187
                          · skip
                            have heq : (compF (maps x) (maps y)) = (compF (maps y) (maps x)) := (by rcases hs2 with h | h; exact hP16.ext hL7 h.2.1 (fun q q0 q1 => h.2.2 q q0 (by omega)); omega)
                            refine j_iconst C dX3_commute_182 ?_
                            refine j_goto (tgt := 187) C dX3_commute_183 (by decide) ?_
                            exact j_iret C hr (Nat.le_refl _) (Nat.zero_le _) (by unfold anCommute; rw [if_pos ⟨h2, h10⟩, if_neg (by omega), if_pos heq]; exact ⟨rfl, ⟨_, _, _, _, _, _, _, _, _, _, _, _, _, _, _, _, _, hM, hT, hHd, hBL⟩⟩) dX3_commute_187
                        · skip
                          have hsx : (compF (maps x) (maps y)).length = (compF (maps y) (maps x)).length ∧ ∀ q, 0 ≤ q → q < k → fp q = w91 q := (by rcases hs2 with h | h; exact h.2; omega)
                          have hrx := hP16.lR4 (VM.compB hVx hVy) (k := k) hk.1 (by omega)
                          have hry := hL7.lR4 (VM.compB hVy hVx) (k := k) hk.1 (by omega)
                          refine j_aload_n C dX3_commute_146 rfl ?_
                          refine j_get (T := TX3) (N := 20) (fs := _) (v := .ref (o + 10)) C hwX3 hM.1 16 (by decide) rfl (index := 38) (ref := "TreePairsModel") (by decide +kernel) rfl rfl dX3_commute_147 ?_
                          refine j_iload C dX3_commute_150 rfl ?_
                          refine j_lald C hM.2.2.2.2.2.2.2.2.2.2 ⟨by omega, by omega⟩ dX3_commute_152 ?_
                          refine j_aload_n C dX3_commute_153 rfl ?_
                          refine j_get (T := TX3) (N := 20) (fs := _) (v := .ref (o + 4)) C hwX3 hM.1 7 (by decide) rfl (index := 19) (ref := "TreePairsModel") (by decide +kernel) rfl rfl dX3_commute_154 ?_
                          refine j_iload C dX3_commute_157 rfl ?_
                          refine j_lald C hM.2.2.2.2.1 ⟨by omega, by omega⟩ dX3_commute_159 ?_
                          refine j_lcmp_ne (tgt := 168) C dX3_commute_160 dX3_commute_161 (by decide) hrx hry (fun c160 => ?_) (fun c160 => ?_)
                          · skip
                            refine j_iconst C dX3_commute_168 ?_
                            refine j_istore (lv' := [(0, .ref o), (1, .int (zI x)), (2, .int (zI y)), (3, .int (zI ((compF (maps x) (maps y)).length : Int))), (4, .int (zI 0)), (5, .int (zI k))]) C dX3_commute_169 (by decide) rfl ?_
                            refine j_iinc (lv' := [(0, .ref o), (1, .int (zI x)), (2, .int (zI y)), (3, .int (zI ((compF (maps x) (maps y)).length : Int))), (4, .int (zI 0)), (5, .int (zI (k + 1)))]) C dX3_commute_171 rfl (by decide) rfl ?_
                            refine j_goto (tgt := 130) C dX3_commute_174 (by decide) ?_
                            exact JJ.drop (lv' := [(0, .ref o), (1, .int (zI x)), (2, .int (zI y)), (3, .int (zI ((compF (maps x) (maps y)).length : Int))), (4, .int (zI 0)), (5, .int (zI (k + 1)))]) rfl (ih130 0 (k + 1) (by omega) ⟨by omega, by omega⟩ (Or.inr ⟨rfl, fun e => c160 (by have h1 := hP16; rw [e] at h1; exact h1.eqv hL7 hk.1 (by omega))⟩))
                          · skip
                            refine j_iconst C dX3_commute_164 ?_
                            refine j_goto (tgt := 169) C dX3_commute_165 (by decide) ?_
                            refine j_istore (lv' := [(0, .ref o), (1, .int (zI x)), (2, .int (zI y)), (3, .int (zI ((compF (maps x) (maps y)).length : Int))), (4, .int (zI 1)), (5, .int (zI k))]) C dX3_commute_169 (by decide) rfl ?_
                            refine j_iinc (lv' := [(0, .ref o), (1, .int (zI x)), (2, .int (zI y)), (3, .int (zI ((compF (maps x) (maps y)).length : Int))), (4, .int (zI 1)), (5, .int (zI (k + 1)))]) C dX3_commute_171 rfl (by decide) rfl ?_
                            refine j_goto (tgt := 130) C dX3_commute_174 (by decide) ?_
                            exact JJ.drop (lv' := [(0, .ref o), (1, .int (zI x)), (2, .int (zI y)), (3, .int (zI ((compF (maps x) (maps y)).length : Int))), (4, .int (zI 1)), (5, .int (zI (k + 1)))]) rfl (ih130 1 (k + 1) (by omega) ⟨by omega, by omega⟩ (Or.inl ⟨rfl, hsx.1, fun q q0 q1 => by rcases Int.lt_or_le q k with z | z; exact hsx.2 q q0 z; have e : q = k := (by omega); subst e; exact c160⟩))
                  exact JJ.drop (lv' := [(0, .ref o), (1, .int (zI x)), (2, .int (zI y)), (3, .int (zI ((compF (maps x) (maps y)).length : Int))), (4, .int (zI 1)), (5, .int (zI 0))]) rfl (K130 (((4 * ((compF (maps y) (maps x)).length : Int) - (0 : Int)).toNat) + 1) 1 0 (Nat.lt_succ_self _) ⟨by omega, by omega⟩ (Or.inl ⟨rfl, by omega, fun q q0 q1 => absurd q0 (by omega)⟩))
              · skip
                refine j_bipush C dX3_commute_109 (by decide) ?_
                exact j_iret C hr (Nat.le_refl _) (Nat.zero_le _) (by unfold anCommute; rw [if_pos ⟨h2, h10⟩, if_pos (by omega)]; exact ⟨rfl, ⟨_, _, _, _, _, _, _, _, _, _, _, _, _, _, _, _, _, hM, hT, hHd, hBL⟩⟩) dX3_commute_111
          · skip
            refine j_aload_n C dX3_commute_56 rfl ?_
            refine j_get (T := TX3) (N := 20) (fs := _) (v := .ref (o + 10)) C hwX3 hM.1 16 (by decide) rfl (index := 38) (ref := "TreePairsModel") (by decide +kernel) rfl rfl dX3_commute_57 ?_
            refine j_iload C dX3_commute_60 rfl ?_
            refine j_aload_n C dX3_commute_62 rfl ?_
            refine j_get (T := TX3) (N := 20) (fs := _) (v := .ref (o + 4)) C hwX3 hM.1 7 (by decide) rfl (index := 19) (ref := "TreePairsModel") (by decide +kernel) rfl rfl dX3_commute_63 ?_
            refine j_iload C dX3_commute_66 rfl ?_
            refine j_lald C hM.2.2.2.2.1 ⟨by omega, by omega⟩ dX3_commute_68 ?_
            refine j_last C hM.2.2.2.2.2.2.2.2.2.2 ⟨by omega, by omega⟩ (by omega) dX3_commute_69 (fun H9 hR hC => ?_)
            have hM := hM.st_product hR hC
            refine j_iinc (lv' := [(0, .ref o), (1, .int (zI x)), (2, .int (zI y)), (3, .int (zI ((compF (maps x) (maps y)).length : Int))), (4, .int (zI (k + 1)))]) C dX3_commute_70 rfl (by decide) rfl ?_
            refine j_goto (tgt := 45) C dX3_commute_73 (by decide) ?_
            exact JJ.drop (lv' := [(0, .ref o), (1, .int (zI x)), (2, .int (zI y)), (3, .int (zI ((compF (maps x) (maps y)).length : Int))), (4, .int (zI (k + 1)))]) rfl (ih45 (k + 1) H9 (by omega) (by rw [← cpf_s _ _ _ hk.1, Int.zero_add]; exact hM) ⟨by omega, by omega⟩)
      exact JJ.drop (lv' := [(0, .ref o), (1, .int (zI x)), (2, .int (zI y)), (3, .int (zI ((compF (maps x) (maps y)).length : Int))), (4, .int (zI 0))]) rfl (K45 (((4 * ((compF (maps x) (maps y)).length : Int) - (0 : Int)).toNat) + 1) 0 H4 (Nat.lt_succ_self _) (by rw [cpf_0]; exact hM) ⟨by omega, by omega⟩)
    · skip
      have h10 : ¬ thP maps y := (fun h => h10 ⟨h.1, by have := (hT y h.1.1 h.1.2).1; have := h.2; omega⟩)
      refine j_if_ne (tgt := 19) C dX3_commute_13 (by decide) ⟨by decide, by decide⟩ (fun c13 => absurd c13 (by decide)) (fun c13 => ?_)
      refine j_bipush C dX3_commute_16 (by decide) ?_
      exact j_iret C hr (Nat.le_refl _) (Nat.zero_le _) (by unfold anCommute; rw [if_neg (fun h => by first | exact h2 h.1 | exact h10 h.2)]; exact ⟨rfl, ⟨_, _, _, _, _, _, _, _, _, _, _, _, _, _, _, _, _, hM, hT, hHd, hBL⟩⟩) dX3_commute_18
  · skip
    have h2 : ¬ thP maps x := (fun h => h2 ⟨h.1, by have := (hT x h.1.1 h.1.2).1; have := h.2; omega⟩)
    refine j_if_eq (tgt := 16) C dX3_commute_5 (by decide) ⟨by decide, by decide⟩ (fun c5 => ?_) (fun c5 => absurd c5 (by decide))
    refine j_bipush C dX3_commute_16 (by decide) ?_
    exact j_iret C hr (Nat.le_refl _) (Nat.zero_le _) (by unfold anCommute; rw [if_neg (fun h => by first | exact h2 h.1 | exact h10 h.2)]; exact ⟨rfl, ⟨_, _, _, _, _, _, _, _, _, _, _, _, _, _, _, _, _, hM, hT, hHd, hBL⟩⟩) dX3_commute_18
