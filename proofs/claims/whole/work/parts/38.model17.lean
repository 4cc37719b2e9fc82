set_option maxHeartbeats 4000000 in
set_option maxRecDepth 100000 in
/-- X3_length -/
theorem c_X3_length (l : Launch) (G : Gx) (o : Nat) (maps : Int → List Q4) (hand : List Q4) (ud uc : Int) (x : Int) : Met l yX3_length wsX3_length ({ frames := 5, cells := 0, slots := 0, locals := 130 } : Room) (cPc G [.ref o, .int (zI x)] (fun H => MX G H o maps hand ud uc ∧ iR x ∧ VMs maps)) (qmI (fun r H => r = (if thP maps x then lenF (maps x) else -101) ∧ MX G H o maps hand ud uc) (fun q : Nat => o ≤ q ∧ q < o + 11)) 0 0 (fun q : Nat => o ≤ q ∧ q < o + 11) := by
  refine Met.ofJ (cc := cX3_length) (maxL := 4) (ret := (some .int)) (lv0 := [(0, .ref o), (1, .int (zI x))]) (by decide) rfl (Nat.le_of_ble_eq_true rfl) rfl ?_
  intro p e s m args below meth c C hr hnm hpre
  obtain ⟨⟨us, uo, ub, uw, ua, ue, ux, m0, m1, m3, m7, m8, m12, m13, m14, m15, m16, hM, hT, hHd, hBL⟩, ⟨hx1, hx2⟩, hV⟩ := hpre
  have hwX3 : ∀ w ∈ u_ws RX3 TX3 20, w ∈ wsX3_length := by decide +kernel
  have hs := hT.iR hV
  refine j_aload_n C dX3_length_0 rfl ?_
  refine j_iload_n C dX3_length_1 rfl ?_
  refine j_callI (jrunV (rest := []) (As := [.int (zI x)]) C (c_X3_isMap l G o (hand.length : Int) ud uc us uo ub uw ua ue ux m0 m1 m3 m7 m8 m12 m13 m14 m15 m16 x) gX3_length_X3_isMap rfl 1 (by decide +kernel) rfl rfl ⟨Nat.le_of_ble_eq_true rfl, Nat.le_of_ble_eq_true rfl⟩ hM.1 rfl ⟨hM, ⟨by omega, by omega⟩, hs⟩ rfl rfl (Nat.le_of_ble_eq_true rfl) ⟨Nat.le_of_ble_eq_true rfl, Nat.le_of_ble_eq_true rfl⟩ dX3_length_2) (fun r2 h2 => ?_)
  rcases h2 with ⟨⟨h2, h2b⟩, rfl⟩ | ⟨h2, rfl⟩
  · skip
    have h2 : thP maps x := ⟨h2, by have := (hT x h2.1 h2.2).1; omega⟩
    have hVx := hV x h2.1.1 h2.1.2 h2.2
    have hTx := hT x h2.1.1 h2.1.2
    have hlx := hVx.len
    refine j_if_ne (tgt := 11) C dX3_length_5 (by decide) ⟨by decide, by decide⟩ (fun c5 => ?_) (fun c5 => absurd c5 (by decide))
    refine j_aload_n C dX3_length_11 rfl ?_
    refine j_callmV (jrunV (rest := []) (As := []) C (c_X3_makeBall l G o (hand.length : Int) ud uc us uo ub uw ua ue ux m0 m1 m3 m7 m8 m12 m13 m14 m15 m16) gX3_length_X3_makeBall rfl 0 (by decide +kernel) rfl rfl ⟨Nat.le_of_ble_eq_true rfl, Nat.le_of_ble_eq_true rfl⟩ hM.1 rfl ⟨hM, hBL⟩ rfl rfl (Nat.le_of_ble_eq_true rfl) ⟨Nat.le_of_ble_eq_true rfl, Nat.le_of_ble_eq_true rfl⟩ dX3_length_12) (by intro q hq; (try dsimp only at hq ⊢); omega) (fun H1 h12 hF => ?_)
    obtain ⟨b1, b2, b3, b7, b8, b12, b13, b14, b15, hM, hWT, hFF⟩ := h12
    have hBL : BL 1 b3 b12 b13 b14 := Or.inr ⟨rfl, hWT, hFF⟩
    have hbc := ball_count.1
    have hf1 := firstF_1
    have hf5 := firstF_5
    refine j_aload_n C dX3_length_15 rfl ?_
    refine j_iload_n C dX3_length_16 rfl ?_
    refine j_callmV (jrunV (rest := []) (As := [.int (zI x)]) C (c_X3_load l G o (hand.length : Int) ud uc b1 b2 (1 : Int) b3 ua ue ux m0 m1 m3 b7 b8 b12 b13 b14 b15 m16 x (maps x)) gX3_length_X3_load rfl 1 (by decide +kernel) rfl rfl ⟨Nat.le_of_ble_eq_true rfl, Nat.le_of_ble_eq_true rfl⟩ hM.1 rfl ⟨hM, h2.1, hTx.1, by omega, hVx.B, hTx.2⟩ rfl rfl (Nat.le_of_ble_eq_true rfl) ⟨Nat.le_of_ble_eq_true rfl, Nat.le_of_ble_eq_true rfl⟩ dX3_length_17) (by intro q hq; (try dsimp only at hq ⊢); omega) (fun H2 h17 hF => ?_)
    obtain ⟨w17, hM, hL7⟩ := h17
    refine j_aload_n C dX3_length_20 rfl ?_
    refine j_callI (jrunV (rest := []) (As := []) C (c_X3_wordOf l G o (hand.length : Int) ud uc ((maps x).length : Int) b2 (1 : Int) b3 ua ue ux m0 m1 m3 w17 b8 b12 b13 b14 b15 m16 (ballL 4) (maps x)) gX3_length_X3_wordOf rfl 0 (by decide +kernel) rfl rfl ⟨Nat.le_of_ble_eq_true rfl, Nat.le_of_ble_eq_true rfl⟩ hM.1 rfl ⟨hM, rfl, by omega, hL7, hWT, ball_VM 4 (by decide), by omega, hVx.B46⟩ rfl rfl (Nat.le_of_ble_eq_true rfl) ⟨Nat.le_of_ble_eq_true rfl, Nat.le_of_ble_eq_true rfl⟩ dX3_length_21) (fun r21 h21 => ?_)
    refine j_istore_n (lv' := [(0, .ref o), (1, .int (zI x)), (2, .int (zI r21))]) C dX3_length_24 (by decide) rfl ?_
    refine j_iconst C dX3_length_25 ?_
    refine j_istore_n (lv' := [(0, .ref o), (1, .int (zI x)), (2, .int (zI r21)), (3, .int (zI 0))]) C dX3_length_26 (by decide) rfl ?_
    have K27 : ∀ (fu27 : Nat) (ll : Int), (5 - ll).toNat < fu27 → 0 ≤ ll ∧ ll ≤ 4 → (∀ j : Int, 0 ≤ j → j < ll → maps x ∉ ballL j.toNat) → JJ p l e ({ frames := 5, cells := 0, slots := 0, locals := 130 } : Room) s m args below meth c (MQ below (qmI (fun r H => r = (if thP maps x then lenF (maps x) else -101) ∧ MX G H o maps hand ud uc) (fun q : Nat => o ≤ q ∧ q < o + 11)) args s 0 0 (fun q : Nat => o ≤ q ∧ q < o + 11)) (fun q : Nat => o ≤ q ∧ q < o + 11) 4 H2 0 0 27 [(0, .ref o), (1, .int (zI x)), (2, .int (zI r21)), (3, .int (zI ll))] [] := by
      intro fu27
      induction fu27 with
      | zero => intro ll hm27 hl hno; exact absurd hm27 (Nat.not_lt_zero _)
      | succ fu27 ih27 =>
        intro ll hm27 hl hno
        refine j_iload_n C dX3_length_27 rfl ?_
        refine j_aload_n C dX3_length_28 rfl ?_
        refine j_get (T := TX3) (N := 20) (fs := _) (v := .ref (o + 8)) C hwX3 hM.1 14 (by decide) rfl (index := 32) (ref := "TreePairsModel") (by decide +kernel) rfl rfl dX3_length_29 ?_
        refine j_iload_n C dX3_length_32 rfl ?_
        refine j_iconst C dX3_length_33 ?_
        refine j_iadd C dX3_length_34 ?_
        refine j_iald C hM.2.2.2.2.2.2.2.2.1 ⟨by omega, by omega⟩ dX3_length_35 ?_
        have hfl := hFF (ll + 1) (by omega) (by omega)
        have hfle := pre_len (ballL_4 (n := ll.toNat) (by omega))
        have hfe : firstF (ll + 1).toNat = (ballL ll.toNat).length := (by rw [show (ll + 1).toNat = ll.toNat + 1 by omega]; rfl)
        refine j_icmp_lt (tgt := 45) C dX3_length_36 (by decide) ⟨by omega, by omega⟩ ⟨by omega, by omega⟩ (fun c36 => ?_) (fun c36 => ?_)
        · skip
          refine j_iload_n C dX3_length_45 rfl ?_
          refine j_iconst C dX3_length_46 ?_
          refine j_icmp_ne (tgt := 54) C dX3_length_47 (by decide) ⟨by omega, by omega⟩ ⟨by decide, by decide⟩ (fun c47 => ?_) (fun c47 => ?_)
          · skip
            have hin : 0 ≤ r21 ∧ maps x ∈ ballL ll.toNat := (by rcases h21 with h | h; omega; exact ⟨h.1, (in_iff h.1 h.2.1 h.2.2.1 h.2.2.2 (by omega) (by omega)).mp (by rw [← hfl]; exact c36)⟩)
            refine j_iload_n C dX3_length_54 rfl ?_
            exact j_iret C hr (Nat.le_refl _) (Nat.zero_le _) ⟨by rw [if_pos h2]; exact (lenF_of (by omega) (by omega) hno hin.2).symm, ⟨_, _, _, _, _, _, _, _, _, _, _, _, _, _, _, _, _, hM, hT, hHd, hBL⟩⟩ dX3_length_55
          · skip
            have hni : maps x ∉ ballL 4 := (by rcases h21 with h | h; exact h.2; have := h.1; omega)
            refine j_iconst C dX3_length_50 ?_
            refine j_goto (tgt := 55) C dX3_length_51 (by decide) ?_
            exact j_iret C hr (Nat.le_refl _) (Nat.zero_le _) ⟨by rw [if_pos h2]; exact (lenF_no hni).symm, ⟨_, _, _, _, _, _, _, _, _, _, _, _, _, _, _, _, _, hM, hT, hHd, hBL⟩⟩ dX3_length_55
        · skip
          have hno2 : maps x ∉ ballL ll.toNat := (by rcases h21 with h | h; exact fun q => h.2 ((ballL_4 (n := ll.toNat) (by omega)).subset q); exact fun q => c36 (by rw [hfl]; exact (in_iff h.1 h.2.1 h.2.2.1 h.2.2.2 (by omega) (by omega)).mpr q))
          have hl4 : ll < 4 := (by rcases Int.lt_or_le ll 4 with z | z; exact z; have e : ll = 4 := (by omega); subst e; rw [hfl] at c36; exact absurd (show r21 < ((firstF (4 + 1 : Int).toNat : Nat) : Int) from (by show r21 < ((firstF 5 : Nat) : Int); rcases h21 with h | h <;> omega)) c36)
          refine j_iinc (lv' := [(0, .ref o), (1, .int (zI x)), (2, .int (zI r21)), (3, .int (zI (ll + 1)))]) C dX3_length_39 rfl (by decide) rfl ?_
          refine j_goto (tgt := 27) C dX3_length_42 (by decide) ?_
          exact JJ.drop (lv' := [(0, .ref o), (1, .int (zI x)), (2, .int (zI r21)), (3, .int (zI (ll + 1)))]) rfl (ih27 (ll + 1) (by omega) ⟨by omega, by omega⟩ (fun j j0 j1 => by rcases Int.lt_or_le j ll with z | z; exact hno j j0 z; rw [show j = ll by omega]; exact hno2))
    exact JJ.drop (lv' := [(0, .ref o), (1, .int (zI x)), (2, .int (zI r21)), (3, .int (zI 0))]) rfl (K27 (((5 - (0 : Int)).toNat) + 1) 0 (Nat.lt_succ_self _) ⟨by omega, by omega⟩ (fun j j0 j1 => absurd j0 (by omega)))
  · skip
    have h2 : ¬ thP maps x := (fun h => h2 ⟨h.1, by have := (hT x h.1.1 h.1.2).1; have := h.2; omega⟩)
    refine j_if_ne (tgt := 11) C dX3_length_5 (by decide) ⟨by decide, by decide⟩ (fun c5 => absurd c5 (by decide)) (fun c5 => ?_)
    refine j_bipush C dX3_length_8 (by decide) ?_
    exact j_iret C hr (Nat.le_refl _) (Nat.zero_le _) ⟨by rw [if_neg h2], ⟨_, _, _, _, _, _, _, _, _, _, _, _, _, _, _, _, _, hM, hT, hHd, hBL⟩⟩ dX3_length_10

set_option maxHeartbeats 4000000 in
set_option maxRecDepth 100000 in
/-- X3_ball -/
theorem c_X3_ball (l : Launch) (G : Gx) (o : Nat) (maps : Int → List Q4) (hand : List Q4) (ud uc : Int) (k : Int) : Met l yX3_ball wsX3_ball ({ frames := 5, cells := 0, slots := 0, locals := 130 } : Room) (cPc G [.ref o, .int (zI k)] (fun H => MX G H o maps hand ud uc ∧ iR k)) (qmI (fun r H => r = (if 0 ≤ k ∧ k ≤ 4 then (firstF (k + 1).toNat : Int) - firstF k.toNat else -102) ∧ MX G H o maps hand ud uc) (fun q : Nat => o ≤ q ∧ q < o + 11)) 0 0 (fun q : Nat => o ≤ q ∧ q < o + 11) := by
  refine Met.ofJ (cc := cX3_ball) (maxL := 2) (ret := (some .int)) (lv0 := [(0, .ref o), (1, .int (zI k))]) (by decide) rfl (Nat.le_of_ble_eq_true rfl) rfl ?_
  intro p e s m args below meth c C hr hnm hpre
  obtain ⟨⟨us, uo, ub, uw, ua, ue, ux, m0, m1, m3, m7, m8, m12, m13, m14, m15, m16, hM, hT, hHd, hBL⟩, ⟨hk1, hk2⟩⟩ := hpre
  have hwX3 : ∀ w ∈ u_ws RX3 TX3 20, w ∈ wsX3_ball := by decide +kernel
  refine j_iload_n C dX3_ball_0 rfl ?_
  refine j_i2l C dX3_ball_1 ⟨by omega, by omega⟩ ?_
  refine j_lconst (z := 0) C dX3_ball_2 rfl ?_
  refine j_ldc2 (z := 4) C (index := 156) (v := 4) (by decide +kernel) (by decide) dX3_ball_3 ?_
  refine j_callI (jrunS (rest := []) (As := [.long (zL k), .long (zL 0), .long (zL 4)]) C (c_X3_in l G k 0 4) gX3_ball_X3_in rfl 3 (by decide +kernel) rfl rfl ⟨Nat.le_of_ble_eq_true rfl, Nat.le_of_ble_eq_true rfl⟩ ⟨⟨by omega, by omega⟩, ⟨by decide, by decide⟩, ⟨by decide, by decide⟩⟩ rfl rfl (Nat.le_of_ble_eq_true rfl) ⟨Nat.le_of_ble_eq_true rfl, Nat.le_of_ble_eq_true rfl⟩ dX3_ball_6) (fun r6 h6 => ?_)
  rcases h6 with ⟨h6, rfl⟩ | ⟨h6, rfl⟩
  · skip
    refine j_if_ne (tgt := 15) C dX3_ball_9 (by decide) ⟨by decide, by decide⟩ (fun c9 => ?_) (fun c9 => absurd c9 (by decide))
    refine j_aload_n C dX3_ball_15 rfl ?_
    refine j_callmV (jrunV (rest := []) (As := []) C (c_X3_makeBall l G o (hand.length : Int) ud uc us uo ub uw ua ue ux m0 m1 m3 m7 m8 m12 m13 m14 m15 m16) gX3_ball_X3_makeBall rfl 0 (by decide +kernel) rfl rfl ⟨Nat.le_of_ble_eq_true rfl, Nat.le_of_ble_eq_true rfl⟩ hM.1 rfl ⟨hM, hBL⟩ rfl rfl (Nat.le_of_ble_eq_true rfl) ⟨Nat.le_of_ble_eq_true rfl, Nat.le_of_ble_eq_true rfl⟩ dX3_ball_16) (by intro q hq; (try dsimp only at hq ⊢); omega) (fun H1 h16 hF => ?_)
    obtain ⟨b1, b2, b3, b7, b8, b12, b13, b14, b15, hM, hWT, hFF⟩ := h16
    have hBL : BL 1 b3 b12 b13 b14 := Or.inr ⟨rfl, hWT, hFF⟩
    have hbc := ball_count.1
    have hf1 := firstF_1
    have hf5 := firstF_5
    refine j_aload_n C dX3_ball_19 rfl ?_
    refine j_get (T := TX3) (N := 20) (fs := _) (v := .ref (o + 8)) C hwX3 hM.1 14 (by decide) rfl (index := 32) (ref := "TreePairsModel") (by decide +kernel) rfl rfl dX3_ball_20 ?_
    refine j_iload_n C dX3_ball_23 rfl ?_
    refine j_iconst C dX3_ball_24 ?_
    refine j_iadd C dX3_ball_25 ?_
    refine j_iald C hM.2.2.2.2.2.2.2.2.1 ⟨by omega, by omega⟩ dX3_ball_26 ?_
    refine j_aload_n C dX3_ball_27 rfl ?_
    refine j_get (T := TX3) (N := 20) (fs := _) (v := .ref (o + 8)) C hwX3 hM.1 14 (by decide) rfl (index := 32) (ref := "TreePairsModel") (by decide +kernel) rfl rfl dX3_ball_28 ?_
    refine j_iload_n C dX3_ball_31 rfl ?_
    refine j_iald C hM.2.2.2.2.2.2.2.2.1 ⟨by omega, by omega⟩ dX3_ball_32 ?_
    refine j_isub C dX3_ball_33 ?_
    exact j_iret C hr (Nat.le_refl _) (Nat.zero_le _) ⟨by rw [if_pos h6, hFF (k + 1) (by omega) (by omega), hFF k (by omega) (by omega)], ⟨_, _, _, _, _, _, _, _, _, _, _, _, _, _, _, _, _, hM, hT, hHd, hBL⟩⟩ dX3_ball_34
  · skip
    refine j_if_ne (tgt := 15) C dX3_ball_9 (by decide) ⟨by decide, by decide⟩ (fun c9 => absurd c9 (by decide)) (fun c9 => ?_)
    refine j_bipush C dX3_ball_12 (by decide) ?_
    exact j_iret C hr (Nat.le_refl _) (Nat.zero_le _) ⟨by rw [if_neg h6], ⟨_, _, _, _, _, _, _, _, _, _, _, _, _, _, _, _, _, hM, hT, hHd, hBL⟩⟩ dX3_ball_14

set_option maxHeartbeats 4000000 in
set_option maxRecDepth 100000 in
/-- X3_init -/
theorem c_X3_init (l : Launch) (G : Gx) (o : Nat) : Met l yX3_init wsX3_init ({ frames := 1, cells := 10, slots := 18781, locals := 15 } : Room) (cPc G [.ref o] (fun H => ob G o 4 [.null, .null, .int (zI 0), .null, .int (zI 0), .long (zL 0), .int (zI 0), .null, .null, .int (zI 0), .int (zI 0), .int (zI 0), .null, .null, .null, .null, .null, .long (zL 0), .long (zL 0), .long (zL 0)] H ∧ H.size = o + 1)) (qmV (fun H => MX G H o (fun _ => []) [] 0 0 ∧ H.size = o + 11) (fun q : Nat => o ≤ q)) 10 18781 (fun q : Nat => o ≤ q) := by
  refine Met.ofJ (cc := cX3_init) (maxL := 1) (ret := none) (lv0 := [(0, .ref o)]) (by decide) rfl (Nat.le_of_ble_eq_true rfl) rfl ?_
  intro p e s m args below meth c C hr hnm hpre
  obtain ⟨hO, hsz⟩ := hpre
  have hwX3 : ∀ w ∈ u_ws RX3 TX3 20, w ∈ wsX3_init := by decide +kernel
  refine j_aload_n C dX3_init_0 rfl ?_
  refine j_objinit C (idx := 1) (by decide +kernel) (by decide +kernel) (by decide +kernel) (Nat.le_of_ble_eq_true rfl) (Nat.le_of_ble_eq_true rfl) dX3_init_1 ?_
  refine j_aload_n C dX3_init_4 rfl ?_
  refine j_bipush C dX3_init_5 (by decide) ?_
  refine j_newI (k := 12) (h := (o + 1)) C (by decide +kernel) rfl (by omega) hsz (Nat.le_of_ble_eq_true rfl) (Nat.le_of_ble_eq_true rfl) dX3_init_7 (fun H1 hN hW => ?_)
  have hO := hO.kept (hW.2 _ (by omega))
  have hsz := hW.1
  have hA7 := hN
  refine j_putF (T := TX3) (N := 20) (fs' := [.ref (o + 1), .null, .int (zI 0), .null, .int (zI 0), .long (zL 0), .int (zI 0), .null, .null, .int (zI 0), .int (zI 0), .int (zI 0), .null, .null, .null, .null, .null, .long (zL 0), .long (zL 0), .long (zL 0)]) (ty := .array .int) C tyX3 tyX3_ok nmX3 hwX3 hO 0 (by decide) rfl (index := 7) (ref := "TreePairsModel") (by decide +kernel) rfl rfl hnm rfl (by decide +kernel) rfl rfl (Nat.le_of_ble_eq_true rfl) rfl (by omega) dX3_init_9 (fun H2 hO hC => ?_)
  have hO := hO
  have hA7 := hA7.kept (hC.2 _ (by omega))
  refine j_aload_n C dX3_init_12 rfl ?_
  refine j_sipush C dX3_init_13 (by decide) ?_
  refine j_newI (k := 1152) (h := (o + 2)) C (by decide +kernel) rfl (by omega) (by have := hC.1; omega) (Nat.le_of_ble_eq_true rfl) (Nat.le_of_ble_eq_true rfl) dX3_init_16 (fun H3 hN hW => ?_)
  have hO := hO.kept (hW.2 _ (by omega))
  have hA7 := hA7.kept (hW.2 _ (by omega))
  have hsz := hW.1
  have hA16 := hN
  refine j_putF (T := TX3) (N := 20) (fs' := [.ref (o + 1), .ref (o + 2), .int (zI 0), .null, .int (zI 0), .long (zL 0), .int (zI 0), .null, .null, .int (zI 0), .int (zI 0), .int (zI 0), .null, .null, .null, .null, .null, .long (zL 0), .long (zL 0), .long (zL 0)]) (ty := .array .int) C tyX3 tyX3_ok nmX3 hwX3 hO 1 (by decide) rfl (index := 13) (ref := "TreePairsModel") (by decide +kernel) rfl rfl hnm rfl (by decide +kernel) rfl rfl (Nat.le_of_ble_eq_true rfl) rfl (by omega) dX3_init_18 (fun H4 hO hC => ?_)
  have hO := hO
  have hA7 := hA7.kept (hC.2 _ (by omega))
  have hA16 := hA16.kept (hC.2 _ (by omega))
  refine j_aload_n C dX3_init_21 rfl ?_
  refine j_bipush C dX3_init_22 (by decide) ?_
  refine j_newI (k := 96) (h := (o + 3)) C (by decide +kernel) rfl (by omega) (by have := hC.1; omega) (Nat.le_of_ble_eq_true rfl) (Nat.le_of_ble_eq_true rfl) dX3_init_24 (fun H5 hN hW => ?_)
  have hO := hO.kept (hW.2 _ (by omega))
  have hA7 := hA7.kept (hW.2 _ (by omega))
  have hA16 := hA16.kept (hW.2 _ (by omega))
  have hsz := hW.1
  have hA24 := hN
  refine j_putF (T := TX3) (N := 20) (fs' := [.ref (o + 1), .ref (o + 2), .int (zI 0), .ref (o + 3), .int (zI 0), .long (zL 0), .int (zI 0), .null, .null, .int (zI 0), .int (zI 0), .int (zI 0), .null, .null, .null, .null, .null, .long (zL 0), .long (zL 0), .long (zL 0)]) (ty := .array .int) C tyX3 tyX3_ok nmX3 hwX3 hO 3 (by decide) rfl (index := 16) (ref := "TreePairsModel") (by decide +kernel) rfl rfl hnm rfl (by decide +kernel) rfl rfl (Nat.le_of_ble_eq_true rfl) rfl (by omega) dX3_init_26 (fun H6 hO hC => ?_)
  have hO := hO
  have hA7 := hA7.kept (hC.2 _ (by omega))
  have hA16 := hA16.kept (hC.2 _ (by omega))
  have hA24 := hA24.kept (hC.2 _ (by omega))
  refine j_aload_n C dX3_init_29 rfl ?_
  refine j_sipush C dX3_init_30 (by decide) ?_
  refine j_newJ (k := 256) (h := (o + 4)) C (by decide +kernel) rfl (by omega) (by have := hC.1; omega) (Nat.le_of_ble_eq_true rfl) (Nat.le_of_ble_eq_true rfl) dX3_init_33 (fun H7 hN hW => ?_)
  have hO := hO.kept (hW.2 _ (by omega))
  have hA7 := hA7.kept (hW.2 _ (by omega))
  have hA16 := hA16.kept (hW.2 _ (by omega))
  have hA24 := hA24.kept (hW.2 _ (by omega))
  have hsz := hW.1
  have hA33 := hN
  refine j_putF (T := TX3) (N := 20) (fs' := [.ref (o + 1), .ref (o + 2), .int (zI 0), .ref (o + 3), .int (zI 0), .long (zL 0), .int (zI 0), .ref (o + 4), .null, .int (zI 0), .int (zI 0), .int (zI 0), .null, .null, .null, .null, .null, .long (zL 0), .long (zL 0), .long (zL 0)]) (ty := .array .long) C tyX3 tyX3_ok nmX3 hwX3 hO 7 (by decide) rfl (index := 19) (ref := "TreePairsModel") (by decide +kernel) rfl rfl hnm rfl (by decide +kernel) rfl rfl (Nat.le_of_ble_eq_true rfl) rfl (by omega) dX3_init_35 (fun H8 hO hC => ?_)
  have hO := hO
  have hA7 := hA7.kept (hC.2 _ (by omega))
  have hA16 := hA16.kept (hC.2 _ (by omega))
  have hA24 := hA24.kept (hC.2 _ (by omega))
  have hA33 := hA33.kept (hC.2 _ (by omega))
  refine j_aload_n C dX3_init_38 rfl ?_
  refine j_sipush C dX3_init_39 (by decide) ?_
  refine j_newJ (k := 256) (h := (o + 5)) C (by decide +kernel) rfl (by omega) (by have := hC.1; omega) (Nat.le_of_ble_eq_true rfl) (Nat.le_of_ble_eq_true rfl) dX3_init_42 (fun H9 hN hW => ?_)
  have hO := hO.kept (hW.2 _ (by omega))
  have hA7 := hA7.kept (hW.2 _ (by omega))
  have hA16 := hA16.kept (hW.2 _ (by omega))
  have hA24 := hA24.kept (hW.2 _ (by omega))
  have hA33 := hA33.kept (hW.2 _ (by omega))
  have hsz := hW.1
  have hA42 := hN
  refine j_putF (T := TX3) (N := 20) (fs' := [.ref (o + 1), .ref (o + 2), .int (zI 0), .ref (o + 3), .int (zI 0), .long (zL 0), .int (zI 0), .ref (o + 4), .ref (o + 5), .int (zI 0), .int (zI 0), .int (zI 0), .null, .null, .null, .null, .null, .long (zL 0), .long (zL 0), .long (zL 0)]) (ty := .array .long) C tyX3 tyX3_ok nmX3 hwX3 hO 8 (by decide) rfl (index := 23) (ref := "TreePairsModel") (by decide +kernel) rfl rfl hnm rfl (by decide +kernel) rfl rfl (Nat.le_of_ble_eq_true rfl) rfl (by omega) dX3_init_44 (fun H10 hO hC => ?_)
  have hO := hO
  have hA7 := hA7.kept (hC.2 _ (by omega))
  have hA16 := hA16.kept (hC.2 _ (by omega))
  have hA24 := hA24.kept (hC.2 _ (by omega))
  have hA33 := hA33.kept (hC.2 _ (by omega))
  have hA42 := hA42.kept (hC.2 _ (by omega))
  refine j_aload_n C dX3_init_47 rfl ?_
  refine j_sipush C dX3_init_48 (by decide) ?_
  refine j_newI (k := 170) (h := (o + 6)) C (by decide +kernel) rfl (by omega) (by have := hC.1; omega) (Nat.le_of_ble_eq_true rfl) (Nat.le_of_ble_eq_true rfl) dX3_init_51 (fun H11 hN hW => ?_)
  have hO := hO.kept (hW.2 _ (by omega))
  have hA7 := hA7.kept (hW.2 _ (by omega))
  have hA16 := hA16.kept (hW.2 _ (by omega))
  have hA24 := hA24.kept (hW.2 _ (by omega))
  have hA33 := hA33.kept (hW.2 _ (by omega))
  have hA42 := hA42.kept (hW.2 _ (by omega))
  have hsz := hW.1
  have hA51 := hN
  refine j_putF (T := TX3) (N := 20) (fs' := [.ref (o + 1), .ref (o + 2), .int (zI 0), .ref (o + 3), .int (zI 0), .long (zL 0), .int (zI 0), .ref (o + 4), .ref (o + 5), .int (zI 0), .int (zI 0), .int (zI 0), .ref (o + 6), .null, .null, .null, .null, .long (zL 0), .long (zL 0), .long (zL 0)]) (ty := .array .int) C tyX3 tyX3_ok nmX3 hwX3 hO 12 (by decide) rfl (index := 26) (ref := "TreePairsModel") (by decide +kernel) rfl rfl hnm rfl (by decide +kernel) rfl rfl (Nat.le_of_ble_eq_true rfl) rfl (by omega) dX3_init_53 (fun H12 hO hC => ?_)
  have hO := hO
  have hA7 := hA7.kept (hC.2 _ (by omega))
  have hA16 := hA16.kept (hC.2 _ (by omega))
  have hA24 := hA24.kept (hC.2 _ (by omega))
  have hA33 := hA33.kept (hC.2 _ (by omega))
  have hA42 := hA42.kept (hC.2 _ (by omega))
  have hA51 := hA51.kept (hC.2 _ (by omega))
  refine j_aload_n C dX3_init_56 rfl ?_
  refine j_sipush C dX3_init_57 (by decide) ?_
  refine j_newI (k := 16320) (h := (o + 7)) C (by decide +kernel) rfl (by omega) (by have := hC.1; omega) (Nat.le_of_ble_eq_true rfl) (Nat.le_of_ble_eq_true rfl) dX3_init_60 (fun H13 hN hW => ?_)
  have hO := hO.kept (hW.2 _ (by omega))
  have hA7 := hA7.kept (hW.2 _ (by omega))
  have hA16 := hA16.kept (hW.2 _ (by omega))
  have hA24 := hA24.kept (hW.2 _ (by omega))
  have hA33 := hA33.kept (hW.2 _ (by omega))
  have hA42 := hA42.kept (hW.2 _ (by omega))
  have hA51 := hA51.kept (hW.2 _ (by omega))
  have hsz := hW.1
  have hA60 := hN
  refine j_putF (T := TX3) (N := 20) (fs' := [.ref (o + 1), .ref (o + 2), .int (zI 0), .ref (o + 3), .int (zI 0), .long (zL 0), .int (zI 0), .ref (o + 4), .ref (o + 5), .int (zI 0), .int (zI 0), .int (zI 0), .ref (o + 6), .ref (o + 7), .null, .null, .null, .long (zL 0), .long (zL 0), .long (zL 0)]) (ty := .array .int) C tyX3 tyX3_ok nmX3 hwX3 hO 13 (by decide) rfl (index := 29) (ref := "TreePairsModel") (by decide +kernel) rfl rfl hnm rfl (by decide +kernel) rfl rfl (Nat.le_of_ble_eq_true rfl) rfl (by omega) dX3_init_62 (fun H14 hO hC => ?_)
  have hO := hO
  have hA7 := hA7.kept (hC.2 _ (by omega))
  have hA16 := hA16.kept (hC.2 _ (by omega))
  have hA24 := hA24.kept (hC.2 _ (by omega))
  have hA33 := hA33.kept (hC.2 _ (by omega))
  have hA42 := hA42.kept (hC.2 _ (by omega))
  have hA51 := hA51.kept (hC.2 _ (by omega))
  have hA60 := hA60.kept (hC.2 _ (by omega))
  refine j_aload_n C dX3_init_65 rfl ?_
  refine j_bipush C dX3_init_66 (by decide) ?_
  refine j_newI (k := 7) (h := (o + 8)) C (by decide +kernel) rfl (by omega) (by have := hC.1; omega) (Nat.le_of_ble_eq_true rfl) (Nat.le_of_ble_eq_true rfl) dX3_init_68 (fun H15 hN hW => ?_)
  have hO := hO.kept (hW.2 _ (by omega))
  have hA7 := hA7.kept (hW.2 _ (by omega))
  have hA16 := hA16.kept (hW.2 _ (by omega))
  have hA24 := hA24.kept (hW.2 _ (by omega))
  have hA33 := hA33.kept (hW.2 _ (by omega))
  have hA42 := hA42.kept (hW.2 _ (by omega))
  have hA51 := hA51.kept (hW.2 _ (by omega))
  have hA60 := hA60.kept (hW.2 _ (by omega))
  have hsz := hW.1
  have hA68 := hN
  refine j_putF (T := TX3) (N := 20) (fs' := [.ref (o + 1), .ref (o + 2), .int (zI 0), .ref (o + 3), .int (zI 0), .long (zL 0), .int (zI 0), .ref (o + 4), .ref (o + 5), .int (zI 0), .int (zI 0), .int (zI 0), .ref (o + 6), .ref (o + 7), .ref (o + 8), .null, .null, .long (zL 0), .long (zL 0), .long (zL 0)]) (ty := .array .int) C tyX3 tyX3_ok nmX3 hwX3 hO 14 (by decide) rfl (index := 32) (ref := "TreePairsModel") (by decide +kernel) rfl rfl hnm rfl (by decide +kernel) rfl rfl (Nat.le_of_ble_eq_true rfl) rfl (by omega) dX3_init_70 (fun H16 hO hC => ?_)
  have hO := hO
  have hA7 := hA7.kept (hC.2 _ (by omega))
  have hA16 := hA16.kept (hC.2 _ (by omega))
  have hA24 := hA24.kept (hC.2 _ (by omega))
  have hA33 := hA33.kept (hC.2 _ (by omega))
  have hA42 := hA42.kept (hC.2 _ (by omega))
  have hA51 := hA51.kept (hC.2 _ (by omega))
  have hA60 := hA60.kept (hC.2 _ (by omega))
  have hA68 := hA68.kept (hC.2 _ (by omega))
  refine j_aload_n C dX3_init_73 rfl ?_
  refine j_sipush C dX3_init_74 (by decide) ?_
  refine j_newJ (k := 256) (h := (o + 9)) C (by decide +kernel) rfl (by omega) (by have := hC.1; omega) (Nat.le_of_ble_eq_true rfl) (Nat.le_of_ble_eq_true rfl) dX3_init_77 (fun H17 hN hW => ?_)
  have hO := hO.kept (hW.2 _ (by omega))
  have hA7 := hA7.kept (hW.2 _ (by omega))
  have hA16 := hA16.kept (hW.2 _ (by omega))
  have hA24 := hA24.kept (hW.2 _ (by omega))
  have hA33 := hA33.kept (hW.2 _ (by omega))
  have hA42 := hA42.kept (hW.2 _ (by omega))
  have hA51 := hA51.kept (hW.2 _ (by omega))
  have hA60 := hA60.kept (hW.2 _ (by omega))
  have hA68 := hA68.kept (hW.2 _ (by omega))
  have hsz := hW.1
  have hA77 := hN
  refine j_putF (T := TX3) (N := 20) (fs' := [.ref (o + 1), .ref (o + 2), .int (zI 0), .ref (o + 3), .int (zI 0), .long (zL 0), .int (zI 0), .ref (o + 4), .ref (o + 5), .int (zI 0), .int (zI 0), .int (zI 0), .ref (o + 6), .ref (o + 7), .ref (o + 8), .ref (o + 9), .null, .long (zL 0), .long (zL 0), .long (zL 0)]) (ty := .array .long) C tyX3 tyX3_ok nmX3 hwX3 hO 15 (by decide) rfl (index := 35) (ref := "TreePairsModel") (by decide +kernel) rfl rfl hnm rfl (by decide +kernel) rfl rfl (Nat.le_of_ble_eq_true rfl) rfl (by omega) dX3_init_79 (fun H18 hO hC => ?_)
  have hO := hO
  have hA7 := hA7.kept (hC.2 _ (by omega))
  have hA16 := hA16.kept (hC.2 _ (by omega))
  have hA24 := hA24.kept (hC.2 _ (by omega))
  have hA33 := hA33.kept (hC.2 _ (by omega))
  have hA42 := hA42.kept (hC.2 _ (by omega))
  have hA51 := hA51.kept (hC.2 _ (by omega))
  have hA60 := hA60.kept (hC.2 _ (by omega))
  have hA68 := hA68.kept (hC.2 _ (by omega))
  have hA77 := hA77.kept (hC.2 _ (by omega))
  refine j_aload_n C dX3_init_82 rfl ?_
  refine j_sipush C dX3_init_83 (by decide) ?_
  refine j_newJ (k := 256) (h := (o + 10)) C (by decide +kernel) rfl (by omega) (by have := hC.1; omega) (Nat.le_of_ble_eq_true rfl) (Nat.le_of_ble_eq_true rfl) dX3_init_86 (fun H19 hN hW => ?_)
  have hO := hO.kept (hW.2 _ (by omega))
  have hA7 := hA7.kept (hW.2 _ (by omega))
  have hA16 := hA16.kept (hW.2 _ (by omega))
  have hA24 := hA24.kept (hW.2 _ (by omega))
  have hA33 := hA33.kept (hW.2 _ (by omega))
  have hA42 := hA42.kept (hW.2 _ (by omega))
  have hA51 := hA51.kept (hW.2 _ (by omega))
  have hA60 := hA60.kept (hW.2 _ (by omega))
  have hA68 := hA68.kept (hW.2 _ (by omega))
  have hA77 := hA77.kept (hW.2 _ (by omega))
  have hsz := hW.1
  have hA86 := hN
  refine j_putF (T := TX3) (N := 20) (fs' := [.ref (o + 1), .ref (o + 2), .int (zI 0), .ref (o + 3), .int (zI 0), .long (zL 0), .int (zI 0), .ref (o + 4), .ref (o + 5), .int (zI 0), .int (zI 0), .int (zI 0), .ref (o + 6), .ref (o + 7), .ref (o + 8), .ref (o + 9), .ref (o + 10), .long (zL 0), .long (zL 0), .long (zL 0)]) (ty := .array .long) C tyX3 tyX3_ok nmX3 hwX3 hO 16 (by decide) rfl (index := 38) (ref := "TreePairsModel") (by decide +kernel) rfl rfl hnm rfl (by decide +kernel) rfl rfl (Nat.le_of_ble_eq_true rfl) rfl (by omega) dX3_init_88 (fun H20 hO hC => ?_)
  have hO := hO
  have hA7 := hA7.kept (hC.2 _ (by omega))
  have hA16 := hA16.kept (hC.2 _ (by omega))
  have hA24 := hA24.kept (hC.2 _ (by omega))
  have hA33 := hA33.kept (hC.2 _ (by omega))
  have hA42 := hA42.kept (hC.2 _ (by omega))
  have hA51 := hA51.kept (hC.2 _ (by omega))
  have hA60 := hA60.kept (hC.2 _ (by omega))
  have hA68 := hA68.kept (hC.2 _ (by omega))
  have hA77 := hA77.kept (hC.2 _ (by omega))
  have hA86 := hA86.kept (hC.2 _ (by omega))
  exact j_vret C hr (Nat.le_refl _) (Nat.le_refl _) ⟨⟨0, 0, 0, 0, 0, 0, 0, _, _, _, _, _, _, _, _, _, _, ⟨hO, hA7, hA16, hA24, hA33, hA42, hA51, hA60, hA68, hA77, hA86⟩, fun t t0 t1 => ⟨rfl, R4.nil⟩, R4.nil, Or.inl ⟨rfl, rfl⟩⟩, (by have := hC.1; omega)⟩ dX3_init_91
