set_option maxHeartbeats 4000000 in
set_option maxRecDepth 100000 in
/-- X2_still -/
theorem c_X2_still (l : Launch) (G : Gx) (o : Nat) (maps : Int → List Q4) (hand : List Q4) (sd sc : Int) (near : Value) (x : Int) : Met l yX2_still wsX2_still ({ frames := 2, cells := 0, slots := 0, locals := 41 } : Room) (cPc G [.ref o, .int (zI x)] (fun H => TP G H o maps hand sd sc near ∧ iR x ∧ (∀ t : Int, 0 ≤ t → t < 12 → 1 ≤ (maps t).length → VM (maps t)))) (qI (fun r => r = if thP maps x then stC (maps x) else -101)) 0 0 (fun _ => False) := by
  refine Met.ofJ (cc := cX2_still) (maxL := 5) (ret := (some .int)) (lv0 := [(0, .ref o), (1, .int (zI x))]) (by decide) rfl (Nat.le_of_ble_eq_true rfl) rfl ?_
  intro p e s m args below meth c C hr hnm hpre
  obtain ⟨hT, ⟨hx1, hx2⟩, hV⟩ := hpre
  have hwX1 : ∀ w ∈ u_ws RX1 TX1 5, w ∈ wsX2_still := by decide +kernel
  have hwX2 : ∀ w ∈ u_ws RX2 TX2 8, w ∈ wsX2_still := by decide +kernel
  refine j_aload_n C dX2_still_0 rfl ?_
  refine j_iload_n C dX2_still_1 rfl ?_
  refine j_callI (jrunV (rest := []) (As := [.int (zI x)]) C (c_X2_isThere l G o maps hand sd sc near x) gX2_still_X2_isThere rfl 1 (by decide +kernel) rfl rfl ⟨Nat.le_of_ble_eq_true rfl, Nat.le_of_ble_eq_true rfl⟩ hT.1 rfl ⟨hT, by omega, by omega⟩ rfl rfl (Nat.le_of_ble_eq_true rfl) ⟨Nat.le_of_ble_eq_true rfl, Nat.le_of_ble_eq_true rfl⟩ dX2_still_2) (fun r2 h2 => ?_)
  rcases h2 with ⟨h2, rfl⟩ | ⟨h2, rfl⟩
  · skip
    refine j_if_ne (tgt := 11) C dX2_still_5 (by decide) ⟨by decide, by decide⟩ (fun c5 => ?_) (fun c5 => absurd c5 (by decide))
    refine j_aload_n C dX2_still_11 rfl ?_
    refine j_get (T := TX2) (N := 8) (fs := _) (v := .ref (o + 1)) C hwX2 hT.1 0 (by decide) rfl (index := 11) (ref := "TreePairs") (by decide +kernel) rfl rfl dX2_still_12 ?_
    refine j_iload_n C dX2_still_15 rfl ?_
    refine j_aald (a := (mpA o x)) C hT.2.1 ⟨by omega, by omega⟩ rfl dX2_still_16 ?_
    have hM := hT.map h2.1
    obtain ⟨d, c0, e0, b, hP, hRp, hcap⟩ := hM
    have hB := (hV x h2.1.1 h2.1.2 h2.2).B
    refine j_astore_n (lv' := [(0, .ref o), (1, .int (zI x)), (2, .ref (mpA o x))]) C dX2_still_17 (by decide) rfl ?_
    refine j_iconst C dX2_still_18 ?_
    refine j_istore_n (lv' := [(0, .ref o), (1, .int (zI x)), (2, .ref (mpA o x)), (3, .int (zI 0))]) C dX2_still_19 (by decide) rfl ?_
    refine j_iconst C dX2_still_20 ?_
    refine j_istore (lv' := [(0, .ref o), (1, .int (zI x)), (2, .ref (mpA o x)), (3, .int (zI 0)), (4, .int (zI 0))]) C dX2_still_21 (by decide) rfl ?_
    have K23 : ∀ (fu23 : Nat) (n i : Int), ((maps x).length - i).toNat < fu23 → 0 ≤ i ∧ i ≤ (maps x).length → n = stC ((maps x).take i.toNat) → JJ p l e ({ frames := 2, cells := 0, slots := 0, locals := 41 } : Room) s m args below meth c (MQ below (qI (fun r => r = if thP maps x then stC (maps x) else -101)) args s 0 0 (fun _ => False)) (fun _ => False) 5 s.heap 0 0 23 [(2, .ref (mpA o x)), (3, .int (zI n)), (4, .int (zI i))] [] := by
      intro fu23
      induction fu23 with
      | zero => intro n i hm23 hi hn; exact absurd hm23 (Nat.not_lt_zero _)
      | succ fu23 ih23 =>
        intro n i hm23 hi hn
        refine j_iload C dX2_still_23 rfl ?_
        refine j_aload_n C dX2_still_25 rfl ?_
        refine j_get (T := TX1) (N := 5) (fs := _) (v := .int (zI ((maps x).length : Int))) C hwX1 hP.1 4 (by decide) rfl (index := 35) (ref := "TreePairs$Pairs") (by decide +kernel) rfl rfl dX2_still_26 ?_
        refine j_icmp_ge (tgt := 76) C dX2_still_29 (by decide) ⟨by omega, by omega⟩ ⟨by omega, by omega⟩ (fun c29 => ?_) (fun c29 => ?_)
        · skip
          refine j_iload_n C dX2_still_76 rfl ?_
          exact j_ireti C hr (Nat.le_refl _) (Nat.zero_le _) (by show n = _; rw [if_pos h2, hn, take_all _ (by omega)]) dX2_still_77
        · skip
          have hlt : 0 ≤ i ∧ i < ((maps x).length : Int) := ⟨by omega, by omega⟩
          have q1 := hRp i hlt.1 hlt.2
          have b1 := hRp.bnd hB hlt.1 hlt.2
          have y1 := b1.1.b23
          have y2 := b1.2.b23
          have hss := stC_s (L := maps x) hlt.1 hlt.2
          refine j_aload_n C dX2_still_32 rfl ?_
          refine j_get (T := TX1) (N := 5) (fs := _) (v := .ref ((mpA o x) + 1)) C hwX1 hP.1 0 (by decide) rfl (index := 111) (ref := "TreePairs$Pairs") (by decide +kernel) rfl rfl dX2_still_33 ?_
          refine j_iload C dX2_still_36 rfl ?_
          refine j_iald C hP.2.1 ⟨by omega, by omega⟩ dX2_still_38 ?_
          refine j_aload_n C dX2_still_39 rfl ?_
          refine j_get (T := TX1) (N := 5) (fs := _) (v := .ref ((mpA o x) + 3)) C hwX1 hP.1 2 (by decide) rfl (index := 114) (ref := "TreePairs$Pairs") (by decide +kernel) rfl rfl dX2_still_40 ?_
          refine j_iload C dX2_still_43 rfl ?_
          refine j_iald C hP.2.2.2.1 ⟨by omega, by omega⟩ dX2_still_45 ?_
          refine j_icmp_ne (tgt := 70) C dX2_still_46 (by decide) ⟨by omega, by omega⟩ ⟨by omega, by omega⟩ (fun c46 => ?_) (fun c46 => ?_)
          · skip
            have hn2 : n = stC ((maps x).take (i + 1).toNat) := by rw [hss, if_neg (fun h => c46 (by have := h.1; rw [q1] at this; exact this)), hn, Int.add_zero]
            refine j_iinc (lv' := [(2, .ref (mpA o x)), (3, .int (zI n)), (4, .int (zI (i + 1)))]) C dX2_still_70 rfl (by decide) rfl ?_
            refine j_goto (tgt := 23) C dX2_still_73 (by decide) ?_
            exact JJ.drop (lv' := [(2, .ref (mpA o x)), (3, .int (zI n)), (4, .int (zI (i + 1)))]) rfl (ih23 n (i + 1) (by omega) ⟨by omega, by omega⟩ hn2)
          · skip
            refine j_aload_n C dX2_still_49 rfl ?_
            refine j_get (T := TX1) (N := 5) (fs := _) (v := .ref ((mpA o x) + 2)) C hwX1 hP.1 1 (by decide) rfl (index := 117) (ref := "TreePairs$Pairs") (by decide +kernel) rfl rfl dX2_still_50 ?_
            refine j_iload C dX2_still_53 rfl ?_
            refine j_lald C hP.2.2.1 ⟨by omega, by omega⟩ dX2_still_55 ?_
            refine j_aload_n C dX2_still_56 rfl ?_
            refine j_get (T := TX1) (N := 5) (fs := _) (v := .ref ((mpA o x) + 4)) C hwX1 hP.1 3 (by decide) rfl (index := 121) (ref := "TreePairs$Pairs") (by decide +kernel) rfl rfl dX2_still_57 ?_
            refine j_iload C dX2_still_60 rfl ?_
            refine j_lald C hP.2.2.2.2 ⟨by omega, by omega⟩ dX2_still_62 ?_
            refine j_lcmp_ne (tgt := 70) C dX2_still_63 dX2_still_64 (by decide) ⟨by omega, by omega⟩ ⟨by omega, by omega⟩ (fun c63 => ?_) (fun c63 => ?_)
            · skip
              have hn2 : n = stC ((maps x).take (i + 1).toNat) := by rw [hss, if_neg (fun h => c63 (by have := h.2; rw [q1] at this; exact this)), hn, Int.add_zero]
              refine j_iinc (lv' := [(2, .ref (mpA o x)), (3, .int (zI n)), (4, .int (zI (i + 1)))]) C dX2_still_70 rfl (by decide) rfl ?_
              refine j_goto (tgt := 23) C dX2_still_73 (by decide) ?_
              exact JJ.drop (lv' := [(2, .ref (mpA o x)), (3, .int (zI n)), (4, .int (zI (i + 1)))]) rfl (ih23 n (i + 1) (by omega) ⟨by omega, by omega⟩ hn2)
            · skip
              have hn2 : n + 1 = stC ((maps x).take (i + 1).toNat) := by rw [hss, if_pos (by rw [q1]; exact ⟨c46, c63⟩), hn]
              refine j_iinc (lv' := [(2, .ref (mpA o x)), (3, .int (zI (n + 1))), (4, .int (zI i))]) C dX2_still_67 rfl (by decide) rfl ?_
              refine j_iinc (lv' := [(2, .ref (mpA o x)), (3, .int (zI (n + 1))), (4, .int (zI (i + 1)))]) C dX2_still_70 rfl (by decide) rfl ?_
              refine j_goto (tgt := 23) C dX2_still_73 (by decide) ?_
              exact JJ.drop (lv' := [(2, .ref (mpA o x)), (3, .int (zI (n + 1))), (4, .int (zI (i + 1)))]) rfl (ih23 (n + 1) (i + 1) (by omega) ⟨by omega, by omega⟩ hn2)
    exact JJ.drop (lv' := [(2, .ref (mpA o x)), (3, .int (zI 0)), (4, .int (zI 0))]) rfl (K23 ((((maps x).length - (0 : Int)).toNat) + 1) 0 0 (Nat.lt_succ_self _) ⟨by omega, by omega⟩ rfl)
  · skip
    refine j_if_ne (tgt := 11) C dX2_still_5 (by decide) ⟨by decide, by decide⟩ (fun c5 => absurd c5 (by decide)) (fun c5 => ?_)
    refine j_bipush C dX2_still_8 (by decide) ?_
    exact j_ireti C hr (Nat.le_refl _) (Nat.zero_le _) (by show _ = _; rw [if_neg h2]) dX2_still_10

set_option maxHeartbeats 4000000 in
set_option maxRecDepth 100000 in
/-- X2_single -/
theorem c_X2_single (l : Launch) (G : Gx) (o : Nat) (maps : Int → List Q4) (hand : List Q4) (sd sc : Int) (near : Value) (x : Int) : Met l yX2_single wsX2_single ({ frames := 3, cells := 0, slots := 0, locals := 70 } : Room) (cPc G [.ref o, .int (zI x)] (fun H => TP G H o maps hand sd sc near ∧ iR x ∧ (∀ t : Int, 0 ≤ t → t < 12 → 1 ≤ (maps t).length → VM (maps t)))) (qI (fun r => r = if thP maps x then hsC (maps x) else -101)) 0 0 (fun _ => False) := by
  refine Met.ofJ (cc := cX2_single) (maxL := 4) (ret := (some .int)) (lv0 := [(0, .ref o), (1, .int (zI x))]) (by decide) rfl (Nat.le_of_ble_eq_true rfl) rfl ?_
  intro p e s m args below meth c C hr hnm hpre
  obtain ⟨hT, ⟨hx1, hx2⟩, hV⟩ := hpre
  have hwX1 : ∀ w ∈ u_ws RX1 TX1 5, w ∈ wsX2_single := by decide +kernel
  have hwX2 : ∀ w ∈ u_ws RX2 TX2 8, w ∈ wsX2_single := by decide +kernel
  refine j_aload_n C dX2_single_0 rfl ?_
  refine j_iload_n C dX2_single_1 rfl ?_
  refine j_callI (jrunV (rest := []) (As := [.int (zI x)]) C (c_X2_isThere l G o maps hand sd sc near x) gX2_single_X2_isThere rfl 1 (by decide +kernel) rfl rfl ⟨Nat.le_of_ble_eq_true rfl, Nat.le_of_ble_eq_true rfl⟩ hT.1 rfl ⟨hT, by omega, by omega⟩ rfl rfl (Nat.le_of_ble_eq_true rfl) ⟨Nat.le_of_ble_eq_true rfl, Nat.le_of_ble_eq_true rfl⟩ dX2_single_2) (fun r2 h2 => ?_)
  rcases h2 with ⟨h2, rfl⟩ | ⟨h2, rfl⟩
  · skip
    refine j_if_ne (tgt := 11) C dX2_single_5 (by decide) ⟨by decide, by decide⟩ (fun c5 => ?_) (fun c5 => absurd c5 (by decide))
    have hl0 := (hT.map h2.1).cap
    have hB := (hV x h2.1.1 h2.1.2 h2.2).B
    refine j_iconst C dX2_single_11 ?_
    refine j_istore_n (lv' := [(0, .ref o), (1, .int (zI x)), (2, .int (zI 0))]) C dX2_single_12 (by decide) rfl ?_
    refine j_iconst C dX2_single_13 ?_
    refine j_istore_n (lv' := [(0, .ref o), (1, .int (zI x)), (2, .int (zI 0)), (3, .int (zI 0))]) C dX2_single_14 (by decide) rfl ?_
    have K15 : ∀ (fu15 : Nat) (n i : Int), ((maps x).length - i).toNat < fu15 → 0 ≤ i ∧ i ≤ (maps x).length → n = hsC ((maps x).take i.toNat) → JJ p l e ({ frames := 3, cells := 0, slots := 0, locals := 70 } : Room) s m args below meth c (MQ below (qI (fun r => r = if thP maps x then hsC (maps x) else -101)) args s 0 0 (fun _ => False)) (fun _ => False) 4 s.heap 0 0 15 [(0, .ref o), (1, .int (zI x)), (2, .int (zI n)), (3, .int (zI i))] [] := by
      intro fu15
      induction fu15 with
      | zero => intro n i hm15 hi hn; exact absurd hm15 (Nat.not_lt_zero _)
      | succ fu15 ih15 =>
        intro n i hm15 hi hn
        refine j_iload_n C dX2_single_15 rfl ?_
        refine j_aload_n C dX2_single_16 rfl ?_
        refine j_get (T := TX2) (N := 8) (fs := _) (v := .ref (o + 1)) C hwX2 hT.1 0 (by decide) rfl (index := 11) (ref := "TreePairs") (by decide +kernel) rfl rfl dX2_single_17 ?_
        refine j_iload_n C dX2_single_20 rfl ?_
        refine j_aald (a := (mpA o x)) C hT.2.1 ⟨by omega, by omega⟩ rfl dX2_single_21 ?_
        have hM := hT.map (t := x) h2.1
        refine j_get (T := TX1) (N := 5) (fs := _) (v := .int (zI ((maps x).length : Int))) C hwX1 hM.ob 4 (by decide) rfl (index := 35) (ref := "TreePairs$Pairs") (by decide +kernel) rfl rfl dX2_single_22 ?_
        refine j_icmp_ge (tgt := 50) C dX2_single_25 (by decide) ⟨by omega, by omega⟩ ⟨by omega, by omega⟩ (fun c25 => ?_) (fun c25 => ?_)
        · skip
          refine j_iload_n C dX2_single_50 rfl ?_
          exact j_ireti C hr (Nat.le_refl _) (Nat.zero_le _) (by show n = _; rw [if_pos h2, hn, take_all _ (by omega)]) dX2_single_51
        · skip
          refine j_aload_n C dX2_single_28 rfl ?_
          refine j_get (T := TX2) (N := 8) (fs := _) (v := .ref (o + 1)) C hwX2 hT.1 0 (by decide) rfl (index := 11) (ref := "TreePairs") (by decide +kernel) rfl rfl dX2_single_29 ?_
          refine j_iload_n C dX2_single_32 rfl ?_
          refine j_aald (a := (mpA o x)) C hT.2.1 ⟨by omega, by omega⟩ rfl dX2_single_33 ?_
          have hM := hT.map (t := x) h2.1
          refine j_iload_n C dX2_single_34 rfl ?_
          have hlt : 0 ≤ i ∧ i < ((maps x).length : Int) := ⟨by omega, by omega⟩
          have hss := hsC_s (L := maps x) hlt.1 hlt.2
          refine j_callI (jrunS (rest := []) (As := [.ref (mpA o x), .int (zI i)]) C (c_X2_hasSingle l G (mpA o x) 24 (maps x) i) gX2_single_X2_hasSingle rfl 2 (by decide +kernel) rfl rfl ⟨Nat.le_of_ble_eq_true rfl, Nat.le_of_ble_eq_true rfl⟩ ⟨hM, hlt, hB⟩ rfl rfl (Nat.le_of_ble_eq_true rfl) ⟨Nat.le_of_ble_eq_true rfl, Nat.le_of_ble_eq_true rfl⟩ dX2_single_35) (fun r35 h35 => ?_)
          rcases h35 with ⟨h35, rfl⟩ | ⟨h35, rfl⟩
          · skip
            have hn2 : n + 1 = hsC ((maps x).take (i + 1).toNat) := by rw [hss, if_pos h35, hn]
            refine j_if_eq (tgt := 44) C dX2_single_38 (by decide) ⟨by decide, by decide⟩ (fun c38 => absurd c38 (by decide)) (fun c38 => ?_)
            refine j_iinc (lv' := [(0, .ref o), (1, .int (zI x)), (2, .int (zI (n + 1))), (3, .int (zI i))]) C dX2_single_41 rfl (by decide) rfl ?_
            refine j_iinc (lv' := [(0, .ref o), (1, .int (zI x)), (2, .int (zI (n + 1))), (3, .int (zI (i + 1)))]) C dX2_single_44 rfl (by decide) rfl ?_
            refine j_goto (tgt := 15) C dX2_single_47 (by decide) ?_
            exact JJ.drop (lv' := [(0, .ref o), (1, .int (zI x)), (2, .int (zI (n + 1))), (3, .int (zI (i + 1)))]) rfl (ih15 (n + 1) (i + 1) (by omega) ⟨by omega, by omega⟩ hn2)
          · skip
            have hn2 : n = hsC ((maps x).take (i + 1).toNat) := by rw [hss, if_neg h35, hn, Int.add_zero]
            refine j_if_eq (tgt := 44) C dX2_single_38 (by decide) ⟨by decide, by decide⟩ (fun c38 => ?_) (fun c38 => absurd c38 (by decide))
            refine j_iinc (lv' := [(0, .ref o), (1, .int (zI x)), (2, .int (zI n)), (3, .int (zI (i + 1)))]) C dX2_single_44 rfl (by decide) rfl ?_
            refine j_goto (tgt := 15) C dX2_single_47 (by decide) ?_
            exact JJ.drop (lv' := [(0, .ref o), (1, .int (zI x)), (2, .int (zI n)), (3, .int (zI (i + 1)))]) rfl (ih15 n (i + 1) (by omega) ⟨by omega, by omega⟩ hn2)
    exact JJ.drop (lv' := [(0, .ref o), (1, .int (zI x)), (2, .int (zI 0)), (3, .int (zI 0))]) rfl (K15 ((((maps x).length - (0 : Int)).toNat) + 1) 0 0 (Nat.lt_succ_self _) ⟨by omega, by omega⟩ rfl)
  · skip
    refine j_if_ne (tgt := 11) C dX2_single_5 (by decide) ⟨by decide, by decide⟩ (fun c5 => absurd c5 (by decide)) (fun c5 => ?_)
    refine j_bipush C dX2_single_8 (by decide) ?_
    exact j_ireti C hr (Nat.le_refl _) (Nat.zero_le _) (by show _ = _; rw [if_neg h2]) dX2_single_10

set_option maxHeartbeats 4000000 in
set_option maxRecDepth 100000 in
/-- X2_point -/
theorem c_X2_point (l : Launch) (G : Gx) (o : Nat) (maps : Int → List Q4) (hand : List Q4) (sd sc : Int) (near : Value) (x k w : Int) : Met l yX2_point wsX2_point ({ frames := 3, cells := 0, slots := 0, locals := 70 } : Room) (cPc G [.ref o, .int (zI x), .int (zI k), .int (zI w)] (fun H => TP G H o maps hand sd sc near ∧ iR x ∧ iR k ∧ iR w ∧ (∀ t : Int, 0 ≤ t → t < 12 → 1 ≤ (maps t).length → VM (maps t)))) (qL (fun r => r = if thP maps x then (if 0 ≤ w ∧ w ≤ 1 then ptG (maps x) k w else -102) else -101)) 0 0 (fun _ => False) := by
  refine Met.ofJ (cc := cX2_point) (maxL := 6) (ret := (some .long)) (lv0 := [(0, .ref o), (1, .int (zI x)), (2, .int (zI k)), (3, .int (zI w))]) (by decide) rfl (Nat.le_of_ble_eq_true rfl) rfl ?_
  intro p e s m args below meth c C hr hnm hpre
  obtain ⟨hT, ⟨hx1, hx2⟩, ⟨hk1, hk2⟩, ⟨hw1, hw2⟩, hV⟩ := hpre
  have hwX1 : ∀ w ∈ u_ws RX1 TX1 5, w ∈ wsX2_point := by decide +kernel
  have hwX2 : ∀ w ∈ u_ws RX2 TX2 8, w ∈ wsX2_point := by decide +kernel
  refine j_aload_n C dX2_point_0 rfl ?_
  refine j_iload_n C dX2_point_1 rfl ?_
  refine j_callI (jrunV (rest := []) (As := [.int (zI x)]) C (c_X2_isThere l G o maps hand sd sc near x) gX2_point_X2_isThere rfl 1 (by decide +kernel) rfl rfl ⟨Nat.le_of_ble_eq_true rfl, Nat.le_of_ble_eq_true rfl⟩ hT.1 rfl ⟨hT, by omega, by omega⟩ rfl rfl (Nat.le_of_ble_eq_true rfl) ⟨Nat.le_of_ble_eq_true rfl, Nat.le_of_ble_eq_true rfl⟩ dX2_point_2) (fun r2 h2 => ?_)
  rcases h2 with ⟨h2, rfl⟩ | ⟨h2, rfl⟩
  · skip
    refine j_if_ne (tgt := 12) C dX2_point_5 (by decide) ⟨by decide, by decide⟩ (fun c5 => ?_) (fun c5 => absurd c5 (by decide))
    refine j_iload_n C dX2_point_12 rfl ?_
    refine j_if_lt (tgt := 21) C dX2_point_13 (by decide) ⟨by omega, by omega⟩ (fun c13 => ?_) (fun c13 => ?_)
    · skip
      refine j_ldc2 (z := (-102)) C (index := 135) (v := (-102)) (by decide +kernel) (by decide) dX2_point_21 ?_
      exact j_lretl C hr (Nat.le_refl _) (Nat.zero_le _) (by show _ = _; rw [if_pos h2, if_neg (by omega)]) dX2_point_24
    · skip
      refine j_iload_n C dX2_point_16 rfl ?_
      refine j_iconst C dX2_point_17 ?_
      refine j_icmp_le (tgt := 25) C dX2_point_18 (by decide) ⟨by omega, by omega⟩ ⟨by decide, by decide⟩ (fun c18 => ?_) (fun c18 => ?_)
      · skip
        have hl0 := (hT.map h2.1).cap
        have hB := (hV x h2.1.1 h2.1.2 h2.2).B
        refine j_iconst C dX2_point_25 ?_
        refine j_istore (lv' := [(0, .ref o), (1, .int (zI x)), (2, .int (zI k)), (3, .int (zI w)), (4, .int (zI 0))]) C dX2_point_26 (by decide) rfl ?_
        refine j_iconst C dX2_point_28 ?_
        refine j_istore (lv' := [(0, .ref o), (1, .int (zI x)), (2, .int (zI k)), (3, .int (zI w)), (4, .int (zI 0)), (5, .int (zI 0))]) C dX2_point_29 (by decide) rfl ?_
        have K31 : ∀ (fu31 : Nat) (n i : Int), ((maps x).length - i).toNat < fu31 → 0 ≤ i ∧ i ≤ (maps x).length → 0 ≤ n ∧ n ≤ i → ptG (maps x) k w = ptG ((maps x).drop i.toNat) (k - n) w → JJ p l e ({ frames := 3, cells := 0, slots := 0, locals := 70 } : Room) s m args below meth c (MQ below (qL (fun r => r = if thP maps x then (if 0 ≤ w ∧ w ≤ 1 then ptG (maps x) k w else -102) else -101)) args s 0 0 (fun _ => False)) (fun _ => False) 6 s.heap 0 0 31 [(0, .ref o), (1, .int (zI x)), (2, .int (zI k)), (3, .int (zI w)), (4, .int (zI n)), (5, .int (zI i))] [] := by
          intro fu31
          induction fu31 with
          | zero => intro n i hm31 hi hn hp; exact absurd hm31 (Nat.not_lt_zero _)
          | succ fu31 ih31 =>
            intro n i hm31 hi hn hp
            refine j_iload C dX2_point_31 rfl ?_
            refine j_aload_n C dX2_point_33 rfl ?_
            refine j_get (T := TX2) (N := 8) (fs := _) (v := .ref (o + 1)) C hwX2 hT.1 0 (by decide) rfl (index := 11) (ref := "TreePairs") (by decide +kernel) rfl rfl dX2_point_34 ?_
            refine j_iload_n C dX2_point_37 rfl ?_
            refine j_aald (a := (mpA o x)) C hT.2.1 ⟨by omega, by omega⟩ rfl dX2_point_38 ?_
            have hM := hT.map (t := x) h2.1
            refine j_get (T := TX1) (N := 5) (fs := _) (v := .int (zI ((maps x).length : Int))) C hwX1 hM.ob 4 (by decide) rfl (index := 35) (ref := "TreePairs$Pairs") (by decide +kernel) rfl rfl dX2_point_39 ?_
            refine j_icmp_ge (tgt := 87) C dX2_point_42 (by decide) ⟨by omega, by omega⟩ ⟨by omega, by omega⟩ (fun c42 => ?_) (fun c42 => ?_)
            · skip
              refine j_ldc2 (z := (-1)) C (index := 150) (v := (-1)) (by decide +kernel) (by decide) dX2_point_87 ?_
              exact j_lretl C hr (Nat.le_refl _) (Nat.zero_le _) (by rw [drop_all _ (by omega)] at hp; show _ = _; rw [if_pos h2, if_pos ⟨by omega, by omega⟩, hp]; rfl) dX2_point_90
            · skip
              refine j_aload_n C dX2_point_45 rfl ?_
              refine j_get (T := TX2) (N := 8) (fs := _) (v := .ref (o + 1)) C hwX2 hT.1 0 (by decide) rfl (index := 11) (ref := "TreePairs") (by decide +kernel) rfl rfl dX2_point_46 ?_
              refine j_iload_n C dX2_point_49 rfl ?_
              refine j_aald (a := (mpA o x)) C hT.2.1 ⟨by omega, by omega⟩ rfl dX2_point_50 ?_
              have hM := hT.map (t := x) h2.1
              refine j_iload C dX2_point_51 rfl ?_
              have hlt : 0 ≤ i ∧ i < ((maps x).length : Int) := ⟨by omega, by omega⟩
              have hdr := drop_q (maps x) hlt.1 hlt.2
              rw [hdr] at hp
              have hp := hp.trans (ptG_c _ _ _ _)
              refine j_callI (jrunS (rest := []) (As := [.ref (mpA o x), .int (zI i)]) C (c_X2_hasSingle l G (mpA o x) 24 (maps x) i) gX2_point_X2_hasSingle rfl 2 (by decide +kernel) rfl rfl ⟨Nat.le_of_ble_eq_true rfl, Nat.le_of_ble_eq_true rfl⟩ ⟨hM, hlt, hB⟩ rfl rfl (Nat.le_of_ble_eq_true rfl) ⟨Nat.le_of_ble_eq_true rfl, Nat.le_of_ble_eq_true rfl⟩ dX2_point_53) (fun r53 h53 => ?_)
              rcases h53 with ⟨h53, rfl⟩ | ⟨h53, rfl⟩
              · skip
                refine j_if_eq (tgt := 81) C dX2_point_56 (by decide) ⟨by decide, by decide⟩ (fun c56 => absurd c56 (by decide)) (fun c56 => ?_)
                refine j_iload C dX2_point_59 rfl ?_
                refine j_iload_n C dX2_point_61 rfl ?_
                refine j_icmp_ne (tgt := 78) C dX2_point_62 (by decide) ⟨by omega, by omega⟩ ⟨by omega, by omega⟩ (fun c62 => ?_) (fun c62 => ?_)
                · skip
                  have hn2 : ptG (maps x) k w = ptG ((maps x).drop (i + 1).toNat) (k - (n + 1)) w := by rw [show k - (n + 1) = k - n - 1 by omega]; exact hp.trans ((if_pos h53).trans (if_neg (by omega)))
                  refine j_iinc (lv' := [(0, .ref o), (1, .int (zI x)), (2, .int (zI k)), (3, .int (zI w)), (4, .int (zI (n + 1))), (5, .int (zI i))]) C dX2_point_78 rfl (by decide) rfl ?_
                  refine j_iinc (lv' := [(0, .ref o), (1, .int (zI x)), (2, .int (zI k)), (3, .int (zI w)), (4, .int (zI (n + 1))), (5, .int (zI (i + 1)))]) C dX2_point_81 rfl (by decide) rfl ?_
                  refine j_goto (tgt := 31) C dX2_point_84 (by decide) ?_
                  exact JJ.drop (lv' := [(0, .ref o), (1, .int (zI x)), (2, .int (zI k)), (3, .int (zI w)), (4, .int (zI (n + 1))), (5, .int (zI (i + 1)))]) rfl (ih31 (n + 1) (i + 1) (by omega) ⟨by omega, by omega⟩ ⟨by omega, by omega⟩ hn2)
                · skip
                  refine j_aload_n C dX2_point_65 rfl ?_
                  refine j_get (T := TX2) (N := 8) (fs := _) (v := .ref (o + 1)) C hwX2 hT.1 0 (by decide) rfl (index := 11) (ref := "TreePairs") (by decide +kernel) rfl rfl dX2_point_66 ?_
                  refine j_iload_n C dX2_point_69 rfl ?_
                  refine j_aald (a := (mpA o x)) C hT.2.1 ⟨by omega, by omega⟩ rfl dX2_point_70 ?_
                  have hM := hT.map (t := x) h2.1
                  refine j_iload C dX2_point_71 rfl ?_
                  refine j_iload_n C dX2_point_73 rfl ?_
                  refine j_callL (jrunS (rest := []) (As := [.ref (mpA o x), .int (zI i), .int (zI w)]) C (c_X2_partOfSingle l G (mpA o x) 24 (maps x) i w) gX2_point_X2_partOfSingle rfl 3 (by decide +kernel) rfl rfl ⟨Nat.le_of_ble_eq_true rfl, Nat.le_of_ble_eq_true rfl⟩ ⟨hM, hlt, hB, h53, by omega, by omega⟩ rfl rfl (Nat.le_of_ble_eq_true rfl) ⟨Nat.le_of_ble_eq_true rfl, Nat.le_of_ble_eq_true rfl⟩ dX2_point_74) (fun r74 h74 => ?_)
                  subst h74
                  exact j_lretl C hr (Nat.le_refl _) (Nat.zero_le _) (by rw [if_pos h53, if_pos (show k - n = 0 by omega)] at hp; show partF (qat (maps x) i) w = _; rw [← hp]; exact ((if_pos h2).trans (if_pos (show 0 ≤ w ∧ w ≤ 1 from ⟨by omega, by omega⟩))).symm) dX2_point_77
              · skip
                have hn2 : ptG (maps x) k w = ptG ((maps x).drop (i + 1).toNat) (k - n) w := hp.trans (if_neg h53)
                refine j_if_eq (tgt := 81) C dX2_point_56 (by decide) ⟨by decide, by decide⟩ (fun c56 => ?_) (fun c56 => absurd c56 (by decide))
                refine j_iinc (lv' := [(0, .ref o), (1, .int (zI x)), (2, .int (zI k)), (3, .int (zI w)), (4, .int (zI n)), (5, .int (zI (i + 1)))]) C dX2_point_81 rfl (by decide) rfl ?_
                refine j_goto (tgt := 31) C dX2_point_84 (by decide) ?_
                exact JJ.drop (lv' := [(0, .ref o), (1, .int (zI x)), (2, .int (zI k)), (3, .int (zI w)), (4, .int (zI n)), (5, .int (zI (i + 1)))]) rfl (ih31 n (i + 1) (by omega) ⟨by omega, by omega⟩ ⟨by omega, by omega⟩ hn2)
        exact JJ.drop (lv' := [(0, .ref o), (1, .int (zI x)), (2, .int (zI k)), (3, .int (zI w)), (4, .int (zI 0)), (5, .int (zI 0))]) rfl (K31 ((((maps x).length - (0 : Int)).toNat) + 1) 0 0 (Nat.lt_succ_self _) ⟨by omega, by omega⟩ ⟨by omega, by omega⟩ (by rw [Int.sub_zero]; rfl))
      · skip
        refine j_ldc2 (z := (-102)) C (index := 135) (v := (-102)) (by decide +kernel) (by decide) dX2_point_21 ?_
        exact j_lretl C hr (Nat.le_refl _) (Nat.zero_le _) (by show _ = _; rw [if_pos h2, if_neg (by omega)]) dX2_point_24
  · skip
    refine j_if_ne (tgt := 12) C dX2_point_5 (by decide) ⟨by decide, by decide⟩ (fun c5 => absurd c5 (by decide)) (fun c5 => ?_)
    refine j_ldc2 (z := (-101)) C (index := 144) (v := (-101)) (by decide +kernel) (by decide) dX2_point_8 ?_
    exact j_lretl C hr (Nat.le_refl _) (Nat.zero_le _) (by show _ = _; rw [if_neg h2]) dX2_point_11

set_option maxHeartbeats 4000000 in
set_option maxRecDepth 100000 in
/-- X2_count -/
theorem c_X2_count (l : Launch) (G : Gx) (o : Nat) (maps : Int → List Q4) (hand : List Q4) (sd sc : Int) (near : Value) (w : Int) : Met l yX2_count wsX2_count ({ frames := 4, cells := 0, slots := 0, locals := 93 } : Room) (cPc G [.ref o, .int (zI w)] (fun H => TP G H o maps hand sd sc near ∧ iR w ∧ (∀ t : Int, 0 ≤ t → t < 12 → 1 ≤ (maps t).length → VM (maps t)))) (qI (fun r => r = if w = 0 then cntK maps 0 12 + cntK maps 1 12 + cntK maps 2 12 else if w = 1 then (hand.length : Int) else if w = 2 then cntK maps 0 12 else if w = 3 then cntK maps 1 12 else if w = 4 then cntK maps 2 12 else -102)) 0 0 (fun _ => False) := by
  refine Met.ofJ (cc := cX2_count) (maxL := 2) (ret := (some .int)) (lv0 := [(0, .ref o), (1, .int (zI w))]) (by decide) rfl (Nat.le_of_ble_eq_true rfl) rfl ?_
  intro p e s m args below meth c C hr hnm hpre
  obtain ⟨hT, ⟨hw1, hw2⟩, hV⟩ := hpre
  have hwX1 : ∀ w ∈ u_ws RX1 TX1 5, w ∈ wsX2_count := by decide +kernel
  have hwX2 : ∀ w ∈ u_ws RX2 TX2 8, w ∈ wsX2_count := by decide +kernel
  refine j_iload_n C dX2_count_0 rfl ?_
  by_cases t1_0 : w = 0
  · skip
    refine j_tswIn (off := 35) (tgt := 36) C dX2_count_1 ⟨by omega, by omega⟩ (by omega) (by omega) (by rw [t1_0]; rfl) (by decide) ?_
    refine j_aload_n C dX2_count_36 rfl ?_
    refine j_iconst C dX2_count_37 ?_
    refine j_callI (jrunV (rest := []) (As := [.int (zI 0)]) C (c_X2_mapsOfKind l G o maps hand sd sc near 0) gX2_count_X2_mapsOfKind rfl 1 (by decide +kernel) rfl rfl ⟨Nat.le_of_ble_eq_true rfl, Nat.le_of_ble_eq_true rfl⟩ hT.1 rfl ⟨hT, ⟨by decide, by decide⟩, hV⟩ rfl rfl (Nat.le_of_ble_eq_true rfl) ⟨Nat.le_of_ble_eq_true rfl, Nat.le_of_ble_eq_true rfl⟩ dX2_count_38) (fun r38 h38 => ?_)
    subst h38
    refine j_aload_n C dX2_count_41 rfl ?_
    refine j_iconst C dX2_count_42 ?_
    refine j_callI (jrunV (rest := [.int (zI (cntK maps 0 12))]) (As := [.int (zI 1)]) C (c_X2_mapsOfKind l G o maps hand sd sc near 1) gX2_count_X2_mapsOfKind rfl 1 (by decide +kernel) rfl rfl ⟨Nat.le_of_ble_eq_true rfl, Nat.le_of_ble_eq_true rfl⟩ hT.1 rfl ⟨hT, ⟨by decide, by decide⟩, hV⟩ rfl rfl (Nat.le_of_ble_eq_true rfl) ⟨Nat.le_of_ble_eq_true rfl, Nat.le_of_ble_eq_true rfl⟩ dX2_count_43) (fun r43 h43 => ?_)
    subst h43
    refine j_iadd C dX2_count_46 ?_
    refine j_aload_n C dX2_count_47 rfl ?_
    refine j_iconst C dX2_count_48 ?_
    refine j_callI (jrunV (rest := [.int (zI ((cntK maps 0 12) + (cntK maps 1 12)))]) (As := [.int (zI 2)]) C (c_X2_mapsOfKind l G o maps hand sd sc near 2) gX2_count_X2_mapsOfKind rfl 1 (by decide +kernel) rfl rfl ⟨Nat.le_of_ble_eq_true rfl, Nat.le_of_ble_eq_true rfl⟩ hT.1 rfl ⟨hT, ⟨by decide, by decide⟩, hV⟩ rfl rfl (Nat.le_of_ble_eq_true rfl) ⟨Nat.le_of_ble_eq_true rfl, Nat.le_of_ble_eq_true rfl⟩ dX2_count_49) (fun r49 h49 => ?_)
    subst h49
    refine j_iadd C dX2_count_52 ?_
    exact j_ireti C hr (Nat.le_refl _) (Nat.zero_le _) (by show _ = _; rw [if_pos t1_0]) dX2_count_53
  by_cases t1_1 : w = 1
  · skip
    refine j_tswIn (off := 53) (tgt := 54) C dX2_count_1 ⟨by omega, by omega⟩ (by omega) (by omega) (by rw [t1_1]; rfl) (by decide) ?_
    refine j_aload_n C dX2_count_54 rfl ?_
    refine j_get (T := TX2) (N := 8) (fs := _) (v := .ref (o + 62)) C hwX2 hT.1 1 (by decide) rfl (index := 18) (ref := "TreePairs") (by decide +kernel) rfl rfl dX2_count_55 ?_
    refine j_get (T := TX1) (N := 5) (fs := _) (v := .int (zI (hand.length : Int))) C hwX1 (hT.2.2.2.1).ob 4 (by decide) rfl (index := 35) (ref := "TreePairs$Pairs") (by decide +kernel) rfl rfl dX2_count_58 ?_
    exact j_ireti C hr (Nat.le_refl _) (Nat.zero_le _) (by show _ = _; rw [if_neg t1_0, if_pos t1_1]) dX2_count_61
  by_cases t1_2 : w = 2
  · skip
    refine j_tswIn (off := 61) (tgt := 62) C dX2_count_1 ⟨by omega, by omega⟩ (by omega) (by omega) (by rw [t1_2]; rfl) (by decide) ?_
    refine j_aload_n C dX2_count_62 rfl ?_
    refine j_iconst C dX2_count_63 ?_
    refine j_callI (jrunV (rest := []) (As := [.int (zI 0)]) C (c_X2_mapsOfKind l G o maps hand sd sc near 0) gX2_count_X2_mapsOfKind rfl 1 (by decide +kernel) rfl rfl ⟨Nat.le_of_ble_eq_true rfl, Nat.le_of_ble_eq_true rfl⟩ hT.1 rfl ⟨hT, ⟨by decide, by decide⟩, hV⟩ rfl rfl (Nat.le_of_ble_eq_true rfl) ⟨Nat.le_of_ble_eq_true rfl, Nat.le_of_ble_eq_true rfl⟩ dX2_count_64) (fun r64 h64 => ?_)
    subst h64
    exact j_ireti C hr (Nat.le_refl _) (Nat.zero_le _) (by show _ = _; rw [if_neg t1_0, if_neg t1_1, if_pos t1_2]) dX2_count_67
  by_cases t1_3 : w = 3
  · skip
    refine j_tswIn (off := 67) (tgt := 68) C dX2_count_1 ⟨by omega, by omega⟩ (by omega) (by omega) (by rw [t1_3]; rfl) (by decide) ?_
    refine j_aload_n C dX2_count_68 rfl ?_
    refine j_iconst C dX2_count_69 ?_
    refine j_callI (jrunV (rest := []) (As := [.int (zI 1)]) C (c_X2_mapsOfKind l G o maps hand sd sc near 1) gX2_count_X2_mapsOfKind rfl 1 (by decide +kernel) rfl rfl ⟨Nat.le_of_ble_eq_true rfl, Nat.le_of_ble_eq_true rfl⟩ hT.1 rfl ⟨hT, ⟨by decide, by decide⟩, hV⟩ rfl rfl (Nat.le_of_ble_eq_true rfl) ⟨Nat.le_of_ble_eq_true rfl, Nat.le_of_ble_eq_true rfl⟩ dX2_count_70) (fun r70 h70 => ?_)
    subst h70
    exact j_ireti C hr (Nat.le_refl _) (Nat.zero_le _) (by show _ = _; rw [if_neg t1_0, if_neg t1_1, if_neg t1_2, if_pos t1_3]) dX2_count_73
  by_cases t1_4 : w = 4
  · skip
    refine j_tswIn (off := 73) (tgt := 74) C dX2_count_1 ⟨by omega, by omega⟩ (by omega) (by omega) (by rw [t1_4]; rfl) (by decide) ?_
    refine j_aload_n C dX2_count_74 rfl ?_
    refine j_iconst C dX2_count_75 ?_
    refine j_callI (jrunV (rest := []) (As := [.int (zI 2)]) C (c_X2_mapsOfKind l G o maps hand sd sc near 2) gX2_count_X2_mapsOfKind rfl 1 (by decide +kernel) rfl rfl ⟨Nat.le_of_ble_eq_true rfl, Nat.le_of_ble_eq_true rfl⟩ hT.1 rfl ⟨hT, ⟨by decide, by decide⟩, hV⟩ rfl rfl (Nat.le_of_ble_eq_true rfl) ⟨Nat.le_of_ble_eq_true rfl, Nat.le_of_ble_eq_true rfl⟩ dX2_count_76) (fun r76 h76 => ?_)
    subst h76
    exact j_ireti C hr (Nat.le_refl _) (Nat.zero_le _) (by show _ = _; rw [if_neg t1_0, if_neg t1_1, if_neg t1_2, if_neg t1_3, if_pos t1_4]) dX2_count_79
  refine j_tswOut (tgt := 80) C dX2_count_1 ⟨by omega, by omega⟩ (by omega) (by decide) ?_
  refine j_bipush C dX2_count_80 (by decide) ?_
  exact j_ireti C hr (Nat.le_refl _) (Nat.zero_le _) (by show _ = _; rw [if_neg t1_0, if_neg t1_1, if_neg t1_2, if_neg t1_3, if_neg t1_4]) dX2_count_82

set_option maxHeartbeats 4000000 in
set_option maxRecDepth 100000 in
/-- X2_digest -/
theorem c_X2_digest (l : Launch) (G : Gx) (o : Nat) (maps : Int → List Q4) (hand : List Q4) (sd sc : Int) (near : Value) : Met l yX2_digest wsX2_digest ({ frames := 2, cells := 0, slots := 0, locals := 48 } : Room) (cPc G [.ref o] (fun H => TP G H o maps hand sd sc near ∧ (∀ t : Int, 0 ≤ t → t < 12 → 1 ≤ (maps t).length → VM (maps t)) ∧ (∀ q ∈ hand, LQ 23 q) ∧ iR sd)) (qL (fun r => r = dgF maps hand sd sc)) 0 0 (fun _ => False) := by
  refine Met.ofJ (cc := cX2_digest) (maxL := 4) (ret := (some .long)) (lv0 := [(0, .ref o)]) (by decide) rfl (Nat.le_of_ble_eq_true rfl) rfl ?_
  intro p e s m args below meth c C hr hnm hpre
  obtain ⟨hT, hV, hH, hsd⟩ := hpre
  have hwX1 : ∀ w ∈ u_ws RX1 TX1 5, w ∈ wsX2_digest := by decide +kernel
  have hwX2 : ∀ w ∈ u_ws RX2 TX2 8, w ∈ wsX2_digest := by decide +kernel
  refine j_ldc2 (z := 167) C (index := 155) (v := 167) (by decide +kernel) (by decide) dX2_digest_0 ?_
  refine j_lstore_n (lv' := [(0, .ref o), (1, .long (zL 167))]) C dX2_digest_3 (by decide) rfl ?_
  refine j_iconst C dX2_digest_4 ?_
  refine j_istore_n (lv' := [(0, .ref o), (1, .long (zL 167)), (3, .int (zI 0))]) C dX2_digest_5 (by decide) rfl ?_
  have K6 : ∀ (fu6 : Nat) (h i : Int), (12 - i).toNat < fu6 → 0 ≤ i ∧ i ≤ 12 → h = dgM maps i.toNat → JJ p l e ({ frames := 2, cells := 0, slots := 0, locals := 48 } : Room) s m args below meth c (MQ below (qL (fun r => r = dgF maps hand sd sc)) args s 0 0 (fun _ => False)) (fun _ => False) 4 s.heap 0 0 6 [(0, .ref o), (1, .long (zL h)), (3, .int (zI i))] [] := by
    intro fu6
    induction fu6 with
    | zero => intro h i hm6 hi hh; exact absurd hm6 (Nat.not_lt_zero _)
    | succ fu6 ih6 =>
      intro h i hm6 hi hh
      refine j_iload_n C dX2_digest_6 rfl ?_
      refine j_bipush C dX2_digest_7 (by decide) ?_
      refine j_icmp_ge (tgt := 58) C dX2_digest_9 (by decide) ⟨by omega, by omega⟩ ⟨by decide, by decide⟩ (fun c9 => ?_) (fun c9 => ?_)
      · skip
        refine j_lload_n C dX2_digest_58 rfl ?_
        refine j_aload_n C dX2_digest_59 rfl ?_
        refine j_get (T := TX2) (N := 8) (fs := _) (v := .ref (o + 62)) C hwX2 hT.1 1 (by decide) rfl (index := 18) (ref := "TreePairs") (by decide +kernel) rfl rfl dX2_digest_60 ?_
        refine j_callL (jrunS (rest := []) (As := [.long (zL h), .ref (o + 62)]) C (c_X2_mixedIn l G h (o + 62) 24 hand) gX2_digest_X2_mixedIn rfl 2 (by decide +kernel) rfl rfl ⟨Nat.le_of_ble_eq_true rfl, Nat.le_of_ble_eq_true rfl⟩ ⟨hT.2.2.2.1, fun q hq => (hH q hq).mono (by decide)⟩ rfl rfl (Nat.le_of_ble_eq_true rfl) ⟨Nat.le_of_ble_eq_true rfl, Nat.le_of_ble_eq_true rfl⟩ dX2_digest_63) (fun r63 h63 => ?_)
        subst h63
        refine j_lstore_n (lv' := [(0, .ref o), (1, .long (zL (hmix h hand))), (3, .int (zI i))]) C dX2_digest_66 (by decide) rfl ?_
        refine j_ldc2 (z := 31) C (index := 157) (v := 31) (by decide +kernel) (by decide) dX2_digest_67 ?_
        refine j_lload_n C dX2_digest_70 rfl ?_
        refine j_lmul C dX2_digest_71 ?_
        refine j_aload_n C dX2_digest_72 rfl ?_
        refine j_get (T := TX2) (N := 8) (fs := _) (v := .int (zI sd)) C hwX2 hT.1 2 (by decide) rfl (index := 128) (ref := "TreePairs") (by decide +kernel) rfl rfl dX2_digest_73 ?_
        refine j_i2l C dX2_digest_76 hsd ?_
        refine j_ladd C dX2_digest_77 ?_
        refine j_lstore_n (lv' := [(0, .ref o), (1, .long (zL ((31 * (hmix h hand)) + sd))), (3, .int (zI i))]) C dX2_digest_78 (by decide) rfl ?_
        refine j_ldc2 (z := 31) C (index := 157) (v := 31) (by decide +kernel) (by decide) dX2_digest_79 ?_
        refine j_lload_n C dX2_digest_82 rfl ?_
        refine j_lmul C dX2_digest_83 ?_
        refine j_aload_n C dX2_digest_84 rfl ?_
        refine j_get (T := TX2) (N := 8) (fs := _) (v := .long (zL sc)) C hwX2 hT.1 3 (by decide) rfl (index := 131) (ref := "TreePairs") (by decide +kernel) rfl rfl dX2_digest_85 ?_
        refine j_ladd C dX2_digest_88 ?_
        exact j_lretl C hr (Nat.le_refl _) (Nat.zero_le _) (by show _ = _; rw [hh, show i.toNat = 12 by omega]; rfl) dX2_digest_89
      · skip
        refine j_ldc2 (z := 31) C (index := 157) (v := 31) (by decide +kernel) (by decide) dX2_digest_12 ?_
        refine j_lload_n C dX2_digest_15 rfl ?_
        refine j_lmul C dX2_digest_16 ?_
        refine j_aload_n C dX2_digest_17 rfl ?_
        refine j_iload_n C dX2_digest_18 rfl ?_
        refine j_callI (jrunV (rest := [.long (zL (31 * h))]) (As := [.int (zI i)]) C (c_X2_isThere l G o maps hand sd sc near i) gX2_digest_X2_isThere rfl 1 (by decide +kernel) rfl rfl ⟨Nat.le_of_ble_eq_true rfl, Nat.le_of_ble_eq_true rfl⟩ hT.1 rfl ⟨hT, by omega, by omega⟩ rfl rfl (Nat.le_of_ble_eq_true rfl) ⟨Nat.le_of_ble_eq_true rfl, Nat.le_of_ble_eq_true rfl⟩ dX2_digest_19) (fun r19 h19 => ?_)
        rcases h19 with ⟨h19, rfl⟩ | ⟨h19, rfl⟩
        · skip
          have hl0 := (hT.map h19.1).cap
          have hif : (if thP maps i then ((maps i).length : Int) else -1) = (maps i).length := if_pos h19
          refine j_if_eq (tgt := 37) C dX2_digest_22 (by decide) ⟨by decide, by decide⟩ (fun c22 => absurd c22 (by decide)) (fun c22 => ?_)
          refine j_aload_n C dX2_digest_25 rfl ?_
          refine j_get (T := TX2) (N := 8) (fs := _) (v := .ref (o + 1)) C hwX2 hT.1 0 (by decide) rfl (index := 11) (ref := "TreePairs") (by decide +kernel) rfl rfl dX2_digest_26 ?_
          refine j_iload_n C dX2_digest_29 rfl ?_
          refine j_aald (a := (mpA o i)) C hT.2.1 ⟨by omega, by omega⟩ rfl dX2_digest_30 ?_
          have hM := hT.map (t := i) ⟨by omega, by omega⟩
          refine j_get (T := TX1) (N := 5) (fs := _) (v := .int (zI ((maps i).length : Int))) C hwX1 hM.ob 4 (by decide) rfl (index := 35) (ref := "TreePairs$Pairs") (by decide +kernel) rfl rfl dX2_digest_31 ?_
          refine j_goto (tgt := 38) C dX2_digest_34 (by decide) ?_
          refine j_i2l C dX2_digest_38 ⟨by omega, by omega⟩ ?_
          refine j_ladd C dX2_digest_39 ?_
          refine j_lstore_n (lv' := [(0, .ref o), (1, .long (zL ((31 * h) + ((maps i).length : Int)))), (3, .int (zI i))]) C dX2_digest_40 (by decide) rfl ?_
          refine j_lload_n C dX2_digest_41 rfl ?_
          refine j_aload_n C dX2_digest_42 rfl ?_
          refine j_get (T := TX2) (N := 8) (fs := _) (v := .ref (o + 1)) C hwX2 hT.1 0 (by decide) rfl (index := 11) (ref := "TreePairs") (by decide +kernel) rfl rfl dX2_digest_43 ?_
          refine j_iload_n C dX2_digest_46 rfl ?_
          refine j_aald (a := (mpA o i)) C hT.2.1 ⟨by omega, by omega⟩ rfl dX2_digest_47 ?_
          have hM := hT.map (t := i) ⟨by omega, by omega⟩
          refine j_callL (jrunS (rest := []) (As := [.long (zL ((31 * h) + ((maps i).length : Int))), .ref (mpA o i)]) C (c_X2_mixedIn l G ((31 * h) + ((maps i).length : Int)) (mpA o i) 24 (maps i)) gX2_digest_X2_mixedIn rfl 2 (by decide +kernel) rfl rfl ⟨Nat.le_of_ble_eq_true rfl, Nat.le_of_ble_eq_true rfl⟩ ⟨hM, fun q hq => (B_of_nil hV hi.1 (by omega) q hq).mono (by decide)⟩ rfl rfl (Nat.le_of_ble_eq_true rfl) ⟨Nat.le_of_ble_eq_true rfl, Nat.le_of_ble_eq_true rfl⟩ dX2_digest_48) (fun r48 h48 => ?_)
          subst h48
          have hn2 : _ = dgM maps (i + 1).toNat := ((dgM_s hi.1).trans (by rw [hif, ← hh])).symm
          refine j_lstore_n (lv' := [(0, .ref o), (1, .long (zL (hmix ((31 * h) + ((maps i).length : Int)) (maps i)))), (3, .int (zI i))]) C dX2_digest_51 (by decide) rfl ?_
          refine j_iinc (lv' := [(0, .ref o), (1, .long (zL (hmix ((31 * h) + ((maps i).length : Int)) (maps i)))), (3, .int (zI (i + 1)))]) C dX2_digest_52 rfl (by decide) rfl ?_
          refine j_goto (tgt := 6) C dX2_digest_55 (by decide) ?_
          exact JJ.drop (lv' := [(0, .ref o), (1, .long (zL (hmix ((31 * h) + ((maps i).length : Int)) (maps i)))), (3, .int (zI (i + 1)))]) rfl (ih6 (hmix ((31 * h) + ((maps i).length : Int)) (maps i)) (i + 1) (by omega) ⟨by omega, by omega⟩ hn2)
        · skip
          have hif : (if thP maps i then ((maps i).length : Int) else -1) = (-1) := if_neg h19
          refine j_if_eq (tgt := 37) C dX2_digest_22 (by decide) ⟨by decide, by decide⟩ (fun c22 => ?_) (fun c22 => absurd c22 (by decide))
          refine j_iconst C dX2_digest_37 ?_
          refine j_i2l C dX2_digest_38 ⟨by decide, by decide⟩ ?_
          refine j_ladd C dX2_digest_39 ?_
          refine j_lstore_n (lv' := [(0, .ref o), (1, .long (zL ((31 * h) + (-1)))), (3, .int (zI i))]) C dX2_digest_40 (by decide) rfl ?_
          refine j_lload_n C dX2_digest_41 rfl ?_
          refine j_aload_n C dX2_digest_42 rfl ?_
          refine j_get (T := TX2) (N := 8) (fs := _) (v := .ref (o + 1)) C hwX2 hT.1 0 (by decide) rfl (index := 11) (ref := "TreePairs") (by decide +kernel) rfl rfl dX2_digest_43 ?_
          refine j_iload_n C dX2_digest_46 rfl ?_
          refine j_aald (a := (mpA o i)) C hT.2.1 ⟨by omega, by omega⟩ rfl dX2_digest_47 ?_
          have hM := hT.map (t := i) ⟨by omega, by omega⟩
          refine j_callL (jrunS (rest := []) (As := [.long (zL ((31 * h) + (-1))), .ref (mpA o i)]) C (c_X2_mixedIn l G ((31 * h) + (-1)) (mpA o i) 24 (maps i)) gX2_digest_X2_mixedIn rfl 2 (by decide +kernel) rfl rfl ⟨Nat.le_of_ble_eq_true rfl, Nat.le_of_ble_eq_true rfl⟩ ⟨hM, fun q hq => (B_of_nil hV hi.1 (by omega) q hq).mono (by decide)⟩ rfl rfl (Nat.le_of_ble_eq_true rfl) ⟨Nat.le_of_ble_eq_true rfl, Nat.le_of_ble_eq_true rfl⟩ dX2_digest_48) (fun r48 h48 => ?_)
          subst h48
          have hn2 : _ = dgM maps (i + 1).toNat := ((dgM_s hi.1).trans (by rw [hif, ← hh])).symm
          refine j_lstore_n (lv' := [(0, .ref o), (1, .long (zL (hmix ((31 * h) + (-1)) (maps i)))), (3, .int (zI i))]) C dX2_digest_51 (by decide) rfl ?_
          refine j_iinc (lv' := [(0, .ref o), (1, .long (zL (hmix ((31 * h) + (-1)) (maps i)))), (3, .int (zI (i + 1)))]) C dX2_digest_52 rfl (by decide) rfl ?_
          refine j_goto (tgt := 6) C dX2_digest_55 (by decide) ?_
          exact JJ.drop (lv' := [(0, .ref o), (1, .long (zL (hmix ((31 * h) + (-1)) (maps i)))), (3, .int (zI (i + 1)))]) rfl (ih6 (hmix ((31 * h) + (-1)) (maps i)) (i + 1) (by omega) ⟨by omega, by omega⟩ hn2)
  exact JJ.drop (lv' := [(0, .ref o), (1, .long (zL 167)), (3, .int (zI 0))]) rfl (K6 (((12 - (0 : Int)).toNat) + 1) 167 0 (Nat.lt_succ_self _) ⟨by omega, by omega⟩ rfl)
