set_option maxHeartbeats 4000000 in
set_option maxRecDepth 100000 in
/-- X2_clear -/
theorem c_X2_clear (l : Launch) (G : Gx) (o : Nat) (maps : Int → List Q4) (hand : List Q4) (sd sc : Int) (near : Value) : Met l yX2_clear wsX2_clear ({ frames := 0, cells := 0, slots := 0, locals := 0 } : Room) (cPc G [.ref o] (fun H => TP G H o maps hand sd sc near)) (qmI (fun r H => r = (hand.length : Int) ∧ TP G H o maps [] sd sc near) (fun q : Nat => o ≤ q ∧ q < o + 82)) 0 0 (fun q : Nat => o ≤ q ∧ q < o + 82) := by
  refine Met.ofJ (cc := cX2_clear) (maxL := 2) (ret := (some .int)) (lv0 := [(0, .ref o)]) (by decide) rfl (Nat.le_of_ble_eq_true rfl) rfl ?_
  intro p e s m args below meth c C hr hnm hpre
  have hwX1 : ∀ w ∈ u_ws RX1 TX1 5, w ∈ wsX2_clear := by decide +kernel
  have hwX2 : ∀ w ∈ u_ws RX2 TX2 8, w ∈ wsX2_clear := by decide +kernel
  have hT : TP G s.heap o maps hand sd sc near := hpre
  refine j_aload_n C dX2_clear_0 rfl ?_
  refine j_get (T := TX2) (N := 8) (fs := _) (v := .ref (o + 62)) C hwX2 hT.1 1 (by decide) rfl (index := 18) (ref := "TreePairs") (by decide +kernel) rfl rfl dX2_clear_1 ?_
  refine j_get (T := TX1) (N := 5) (fs := _) (v := .int (zI (hand.length : Int))) C hwX1 (hT.2.2.2.1).ob 4 (by decide) rfl (index := 35) (ref := "TreePairs$Pairs") (by decide +kernel) rfl rfl dX2_clear_4 ?_
  refine j_istore_n (lv' := [(0, .ref o), (1, .int (zI (hand.length : Int)))]) C dX2_clear_7 (by decide) rfl ?_
  refine j_aload_n C dX2_clear_8 rfl ?_
  refine j_get (T := TX2) (N := 8) (fs := _) (v := .ref (o + 62)) C hwX2 hT.1 1 (by decide) rfl (index := 18) (ref := "TreePairs") (by decide +kernel) rfl rfl dX2_clear_9 ?_
  refine j_iconst C dX2_clear_12 ?_
  refine j_put (T := TX1) (N := 5) (fs' := [.ref (o + 62 + 1), .ref (o + 62 + 2), .ref (o + 62 + 3), .ref (o + 62 + 4), .int (zI 0)]) (ty := .int) C tyX1 tyX1_ok nmX1 hwX1 (hT.2.2.2.1).ob 4 (by decide) rfl (index := 35) (ref := "TreePairs$Pairs") (by decide +kernel) rfl rfl (by decide +kernel) rfl rfl (Nat.le_of_ble_eq_true rfl) rfl (by constructor <;> omega) dX2_clear_13 (fun H1 hO hC => ?_)
  obtain ⟨d_, c_, e_, b_, hP_, hRp_, hcap_⟩ := hT.2.2.2.1
  have hP_ := hP_.put_size hO hC
  have hT := hT.sethand (L := []) ⟨_, _, _, _, hP_, Rp.nil, Nat.zero_le _⟩ hC.frm5
  refine j_iload_n C dX2_clear_16 rfl ?_
  exact j_iret C hr (Nat.le_refl _) (Nat.zero_le _) ⟨rfl, hT⟩ dX2_clear_17

set_option maxHeartbeats 4000000 in
set_option maxRecDepth 100000 in
/-- X2_drop -/
theorem c_X2_drop (l : Launch) (G : Gx) (o : Nat) (maps : Int → List Q4) (hand : List Q4) (sd sc : Int) (near : Value) (x : Int) : Met l yX2_drop wsX2_drop ({ frames := 2, cells := 0, slots := 0, locals := 41 } : Room) (cPc G [.ref o, .int (zI x)] (fun H => TP G H o maps hand sd sc near ∧ iR x)) (qmI (fun r H => r = (opDrop maps x).1 ∧ TP G H o (opDrop maps x).2 hand sd sc near) (fun q : Nat => o ≤ q ∧ q < o + 82)) 0 0 (fun q : Nat => o ≤ q ∧ q < o + 82) := by
  refine Met.ofJ (cc := cX2_drop) (maxL := 3) (ret := (some .int)) (lv0 := [(0, .ref o), (1, .int (zI x))]) (by decide) rfl (Nat.le_of_ble_eq_true rfl) rfl ?_
  intro p e s m args below meth c C hr hnm hpre
  obtain ⟨hT, hx1, hx2⟩ := hpre
  have hwX1 : ∀ w ∈ u_ws RX1 TX1 5, w ∈ wsX2_drop := by decide +kernel
  have hwX2 : ∀ w ∈ u_ws RX2 TX2 8, w ∈ wsX2_drop := by decide +kernel
  refine j_aload_n C dX2_drop_0 rfl ?_
  refine j_iload_n C dX2_drop_1 rfl ?_
  refine j_callI (jrunV (rest := []) (As := [.int (zI x)]) C (c_X2_isThere l G o maps hand sd sc near x) gX2_drop_X2_isThere rfl 1 (by decide +kernel) rfl rfl ⟨Nat.le_of_ble_eq_true rfl, Nat.le_of_ble_eq_true rfl⟩ hT.1 rfl ⟨hT, by omega, by omega⟩ rfl rfl (Nat.le_of_ble_eq_true rfl) ⟨Nat.le_of_ble_eq_true rfl, Nat.le_of_ble_eq_true rfl⟩ dX2_drop_2) (fun r2 h2 => ?_)
  rcases h2 with ⟨h2, rfl⟩ | ⟨h2, rfl⟩
  · skip
    refine j_if_ne (tgt := 11) C dX2_drop_5 (by decide) ⟨by decide, by decide⟩ (fun c5 => ?_) (fun c5 => absurd c5 (by decide))
    refine j_aload_n C dX2_drop_11 rfl ?_
    refine j_get (T := TX2) (N := 8) (fs := _) (v := .ref (o + 1)) C hwX2 hT.1 0 (by decide) rfl (index := 11) (ref := "TreePairs") (by decide +kernel) rfl rfl dX2_drop_12 ?_
    refine j_iload_n C dX2_drop_15 rfl ?_
    refine j_aald (a := (mpA o x)) C hT.2.1 ⟨by omega, by omega⟩ rfl dX2_drop_16 ?_
    have hM := hT.map (t := x) h2.1
    refine j_get (T := TX1) (N := 5) (fs := _) (v := .int (zI ((maps x).length : Int))) C hwX1 hM.ob 4 (by decide) rfl (index := 35) (ref := "TreePairs$Pairs") (by decide +kernel) rfl rfl dX2_drop_17 ?_
    refine j_istore_n (lv' := [(0, .ref o), (1, .int (zI x)), (2, .int (zI ((maps x).length : Int)))]) C dX2_drop_20 (by decide) rfl ?_
    refine j_aload_n C dX2_drop_21 rfl ?_
    refine j_get (T := TX2) (N := 8) (fs := _) (v := .ref (o + 1)) C hwX2 hT.1 0 (by decide) rfl (index := 11) (ref := "TreePairs") (by decide +kernel) rfl rfl dX2_drop_22 ?_
    refine j_iload_n C dX2_drop_25 rfl ?_
    refine j_aald (a := (mpA o x)) C hT.2.1 ⟨by omega, by omega⟩ rfl dX2_drop_26 ?_
    obtain ⟨d, c0, e0, b, hP, hRp, hcap⟩ := hT.map (t := x) h2.1
    have hT0 := hT
    have hmb := mpA_b o h2.1
    refine j_iconst C dX2_drop_27 ?_
    refine j_put (T := TX1) (N := 5) (fs' := [.ref ((mpA o x) + 1), .ref ((mpA o x) + 2), .ref ((mpA o x) + 3), .ref ((mpA o x) + 4), .int (zI 0)]) (ty := .int) C tyX1 tyX1_ok nmX1 hwX1 hP.1 4 (by decide) rfl (index := 35) (ref := "TreePairs$Pairs") (by decide +kernel) rfl rfl (by decide +kernel) rfl rfl (Nat.le_of_ble_eq_true rfl) rfl ⟨by omega, by omega⟩ dX2_drop_28 (fun H1 hO hC => ?_)
    have hP := hP.put_size hO hC
    refine j_iload_n C dX2_drop_31 rfl ?_
    exact j_iret C hr (Nat.le_refl _) (Nat.zero_le _) (by unfold opDrop; rw [if_pos h2]; exact ⟨rfl, hT0.setmap h2.1 ⟨_, _, _, _, hP, Rp.nil, Nat.zero_le _⟩ hC.frm5⟩) dX2_drop_32
  · skip
    refine j_if_ne (tgt := 11) C dX2_drop_5 (by decide) ⟨by decide, by decide⟩ (fun c5 => absurd c5 (by decide)) (fun c5 => ?_)
    refine j_bipush C dX2_drop_8 (by decide) ?_
    exact j_iret C hr (Nat.le_refl _) (Nat.zero_le _) (by unfold opDrop; rw [if_neg h2]; exact ⟨rfl, hT⟩) dX2_drop_10

set_option maxHeartbeats 4000000 in
set_option maxRecDepth 100000 in
/-- X2_pair -/
theorem c_X2_pair (l : Launch) (G : Gx) (o : Nat) (maps : Int → List Q4) (hand : List Q4) (sd sc : Int) (near : Value) (x y z w : Int) : Met l yX2_pair wsX2_pair ({ frames := 1, cells := 0, slots := 0, locals := 26 } : Room) (cPc G [.ref o, .int (zI x), .int (zI y), .int (zI z), .int (zI w)] (fun H => TP G H o maps hand sd sc near ∧ iR x ∧ iR y ∧ iR z ∧ iR w)) (qmI (fun r H => r = (opPair hand x y z w).1 ∧ TP G H o maps (opPair hand x y z w).2 sd sc near) (fun q : Nat => o ≤ q ∧ q < o + 82)) 0 0 (fun q : Nat => o ≤ q ∧ q < o + 82) := by
  refine Met.ofJ (cc := cX2_pair) (maxL := 5) (ret := (some .int)) (lv0 := [(0, .ref o), (1, .int (zI x)), (2, .int (zI y)), (3, .int (zI z)), (4, .int (zI w))]) (by decide) rfl (Nat.le_of_ble_eq_true rfl) rfl ?_
  intro p e s m args below meth c C hr hnm hpre
  obtain ⟨hT, hx, hy, hz, hw⟩ := hpre
  have hwX1 : ∀ w ∈ u_ws RX1 TX1 5, w ∈ wsX2_pair := by decide +kernel
  have hwX2 : ∀ w ∈ u_ws RX2 TX2 8, w ∈ wsX2_pair := by decide +kernel
  refine j_iload_n C dX2_pair_0 rfl ?_
  refine j_iload_n C dX2_pair_1 rfl ?_
  refine j_callI (jrunS (rest := []) (As := [.int (zI x), .int (zI y)]) C (c_X2_isLeaf l G x y) gX2_pair_X2_isLeaf rfl 2 (by decide +kernel) rfl rfl ⟨Nat.le_of_ble_eq_true rfl, Nat.le_of_ble_eq_true rfl⟩ ⟨hx, hy⟩ rfl rfl (Nat.le_of_ble_eq_true rfl) ⟨Nat.le_of_ble_eq_true rfl, Nat.le_of_ble_eq_true rfl⟩ dX2_pair_2) (fun r2 h2 => ?_)
  rcases h2 with ⟨h2, rfl⟩ | ⟨h2, rfl⟩
  · skip
    refine j_if_eq (tgt := 17) C dX2_pair_5 (by decide) ⟨by decide, by decide⟩ (fun c5 => absurd c5 (by decide)) (fun c5 => ?_)
    refine j_iload_n C dX2_pair_8 rfl ?_
    refine j_iload C dX2_pair_9 rfl ?_
    refine j_callI (jrunS (rest := []) (As := [.int (zI z), .int (zI w)]) C (c_X2_isLeaf l G z w) gX2_pair_X2_isLeaf rfl 2 (by decide +kernel) rfl rfl ⟨Nat.le_of_ble_eq_true rfl, Nat.le_of_ble_eq_true rfl⟩ ⟨hz, hw⟩ rfl rfl (Nat.le_of_ble_eq_true rfl) ⟨Nat.le_of_ble_eq_true rfl, Nat.le_of_ble_eq_true rfl⟩ dX2_pair_11) (fun r11 h11 => ?_)
    rcases h11 with ⟨h11, rfl⟩ | ⟨h11, rfl⟩
    · skip
      refine j_if_ne (tgt := 20) C dX2_pair_14 (by decide) ⟨by decide, by decide⟩ (fun c14 => ?_) (fun c14 => absurd c14 (by decide))
      refine j_aload_n C dX2_pair_20 rfl ?_
      refine j_get (T := TX2) (N := 8) (fs := _) (v := .ref (o + 62)) C hwX2 hT.1 1 (by decide) rfl (index := 18) (ref := "TreePairs") (by decide +kernel) rfl rfl dX2_pair_21 ?_
      have hcp := hT.2.2.2.1.cap
      refine j_get (T := TX1) (N := 5) (fs := _) (v := .int (zI (hand.length : Int))) C hwX1 (hT.2.2.2.1).ob 4 (by decide) rfl (index := 35) (ref := "TreePairs$Pairs") (by decide +kernel) rfl rfl dX2_pair_24 ?_
      refine j_bipush C dX2_pair_27 (by decide) ?_
      refine j_icmp_lt (tgt := 35) C dX2_pair_29 (by decide) ⟨by omega, by omega⟩ ⟨by decide, by decide⟩ (fun c29 => ?_) (fun c29 => ?_)
      · skip
        refine j_aload_n C dX2_pair_35 rfl ?_
        refine j_get (T := TX2) (N := 8) (fs := _) (v := .ref (o + 62)) C hwX2 hT.1 1 (by decide) rfl (index := 18) (ref := "TreePairs") (by decide +kernel) rfl rfl dX2_pair_36 ?_
        refine j_iload_n C dX2_pair_39 rfl ?_
        refine j_iload_n C dX2_pair_40 rfl ?_
        refine j_i2l C dX2_pair_41 hy ?_
        refine j_iload_n C dX2_pair_42 rfl ?_
        refine j_iload C dX2_pair_43 rfl ?_
        refine j_i2l C dX2_pair_45 hw ?_
        refine j_callmV (jrunV (rest := []) (As := [.int (zI x), .long (zL y), .int (zI z), .long (zL w)]) C (c_X1_add l G (o + 62) 24 hand x y z w) gX2_pair_X1_add rfl 4 (by decide +kernel) rfl rfl ⟨Nat.le_of_ble_eq_true rfl, Nat.le_of_ble_eq_true rfl⟩ (hT.2.2.2.1).ob rfl ⟨hT.2.2.2.1, by omega⟩ rfl rfl (Nat.le_of_ble_eq_true rfl) ⟨Nat.le_of_ble_eq_true rfl, Nat.le_of_ble_eq_true rfl⟩ dX2_pair_46) (fun q hq => by obtain ⟨h1, h2⟩ := hq; exact ⟨by omega, by omega⟩) (fun H1 h46 hF => ?_)
        have hT := hT.sethand h46 hF
        refine j_aload_n C dX2_pair_49 rfl ?_
        refine j_get (T := TX2) (N := 8) (fs := _) (v := .ref (o + 62)) C hwX2 hT.1 1 (by decide) rfl (index := 18) (ref := "TreePairs") (by decide +kernel) rfl rfl dX2_pair_50 ?_
        refine j_get (T := TX1) (N := 5) (fs := _) (v := .int (zI ((hand ++ [(x, y, z, w)]).length : Int))) C hwX1 (hT.2.2.2.1).ob 4 (by decide) rfl (index := 35) (ref := "TreePairs$Pairs") (by decide +kernel) rfl rfl dX2_pair_53 ?_
        exact j_iret C hr (Nat.le_refl _) (Nat.zero_le _) (by unfold opPair; rw [if_pos ⟨h2, h11⟩, if_neg (by omega)]; exact ⟨by rw [List.length_append, List.length_singleton]; omega, hT⟩) dX2_pair_56
      · skip
        refine j_bipush C dX2_pair_32 (by decide) ?_
        exact j_iret C hr (Nat.le_refl _) (Nat.zero_le _) (by unfold opPair; rw [if_pos ⟨h2, h11⟩, if_pos (by omega)]; exact ⟨rfl, hT⟩) dX2_pair_34
    · skip
      refine j_if_ne (tgt := 20) C dX2_pair_14 (by decide) ⟨by decide, by decide⟩ (fun c14 => absurd c14 (by decide)) (fun c14 => ?_)
      refine j_bipush C dX2_pair_17 (by decide) ?_
      exact j_iret C hr (Nat.le_refl _) (Nat.zero_le _) (by unfold opPair; rw [if_neg (fun h => by first | exact h2 h.1 | exact h11 h.2)]; exact ⟨rfl, hT⟩) dX2_pair_19
  · skip
    refine j_if_eq (tgt := 17) C dX2_pair_5 (by decide) ⟨by decide, by decide⟩ (fun c5 => ?_) (fun c5 => absurd c5 (by decide))
    refine j_bipush C dX2_pair_17 (by decide) ?_
    exact j_iret C hr (Nat.le_refl _) (Nat.zero_le _) (by unfold opPair; rw [if_neg (fun h => by first | exact h2 h.1 | exact h11 h.2)]; exact ⟨rfl, hT⟩) dX2_pair_19

set_option maxHeartbeats 4000000 in
set_option maxRecDepth 100000 in
/-- X2_strong -/
theorem c_X2_strong (l : Launch) (G : Gx) (o : Nat) (maps : Int → List Q4) (hand : List Q4) (sd sc : Int) (near : Value) (t i : Int) : Met l yX2_strong wsX2_strong ({ frames := 2, cells := 0, slots := 0, locals := 50 } : Room) (cPc G [.ref o, .int (zI t), .int (zI i)] (fun H => TP G H o maps hand sd sc near ∧ iR t ∧ iR i)) (qmI (fun r H => r = (opStrong maps t i).1 ∧ TP G H o (opStrong maps t i).2 hand sd sc near) (fun q : Nat => o ≤ q ∧ q < o + 82)) 0 0 (fun q : Nat => o ≤ q ∧ q < o + 82) := by
  refine Met.ofJ (cc := cX2_strong) (maxL := 3) (ret := (some .int)) (lv0 := [(0, .ref o), (1, .int (zI t)), (2, .int (zI i))]) (by decide) rfl (Nat.le_of_ble_eq_true rfl) rfl ?_
  intro p e s m args below meth c C hr hnm hpre
  obtain ⟨hT, ⟨ht1, ht2⟩, ⟨hi1, hi2⟩⟩ := hpre
  have hwX1 : ∀ w ∈ u_ws RX1 TX1 5, w ∈ wsX2_strong := by decide +kernel
  have hwX2 : ∀ w ∈ u_ws RX2 TX2 8, w ∈ wsX2_strong := by decide +kernel
  refine j_iload_n C dX2_strong_0 rfl ?_
  refine j_callI (jrunS (rest := []) (As := [.int (zI t)]) C (c_X2_isNumber l G t) gX2_strong_X2_isNumber rfl 1 (by decide +kernel) rfl rfl ⟨Nat.le_of_ble_eq_true rfl, Nat.le_of_ble_eq_true rfl⟩ ⟨by omega, by omega⟩ rfl rfl (Nat.le_of_ble_eq_true rfl) ⟨Nat.le_of_ble_eq_true rfl, Nat.le_of_ble_eq_true rfl⟩ dX2_strong_1) (fun r1 h1 => ?_)
  rcases h1 with ⟨h1, rfl⟩ | ⟨h1, rfl⟩
  · skip
    refine j_if_ne (tgt := 10) C dX2_strong_4 (by decide) ⟨by decide, by decide⟩ (fun c4 => ?_) (fun c4 => absurd c4 (by decide))
    refine j_iload_n C dX2_strong_10 rfl ?_
    refine j_if_lt (tgt := 20) C dX2_strong_11 (by decide) ⟨by omega, by omega⟩ (fun c11 => ?_) (fun c11 => ?_)
    · skip
      refine j_bipush C dX2_strong_20 (by decide) ?_
      exact j_iret C hr (Nat.le_refl _) (Nat.zero_le _) (by unfold opStrong; rw [if_pos h1, if_neg (by omega)]; exact ⟨rfl, hT⟩) dX2_strong_22
    · skip
      refine j_iload_n C dX2_strong_14 rfl ?_
      refine j_bipush C dX2_strong_15 (by decide) ?_
      refine j_icmp_le (tgt := 23) C dX2_strong_17 (by decide) ⟨by omega, by omega⟩ ⟨by decide, by decide⟩ (fun c17 => ?_) (fun c17 => ?_)
      · skip
        refine j_iload_n C dX2_strong_23 rfl ?_
        refine j_aload_n C dX2_strong_24 rfl ?_
        refine j_get (T := TX2) (N := 8) (fs := _) (v := .ref (o + 1)) C hwX2 hT.1 0 (by decide) rfl (index := 11) (ref := "TreePairs") (by decide +kernel) rfl rfl dX2_strong_25 ?_
        refine j_iload_n C dX2_strong_28 rfl ?_
        refine j_aald (a := (mpA o t)) C hT.2.1 ⟨by omega, by omega⟩ rfl dX2_strong_29 ?_
        have hM := hT.map (t := t) h1
        have hmb := mpA_b o h1
        refine j_callmV (jrunS (rest := []) (As := [.int (zI i), .ref (mpA o t)]) C (c_X2_putStrong l G i (mpA o t) 24 (maps t)) gX2_strong_X2_putStrong rfl 2 (by decide +kernel) rfl rfl ⟨Nat.le_of_ble_eq_true rfl, Nat.le_of_ble_eq_true rfl⟩ ⟨⟨by omega, by omega⟩, hM, by decide⟩ rfl rfl (Nat.le_of_ble_eq_true rfl) ⟨Nat.le_of_ble_eq_true rfl, Nat.le_of_ble_eq_true rfl⟩ dX2_strong_30) (fun q hq => by obtain ⟨h1, h2⟩ := hq; exact ⟨by omega, by omega⟩) (fun H1 h30 hF => ?_)
        have hM := h30
        have hT := hT.setmap h1 h30 hF
        refine j_aload_n C dX2_strong_33 rfl ?_
        refine j_get (T := TX2) (N := 8) (fs := _) (v := .ref (o + 1)) C hwX2 hT.1 0 (by decide) rfl (index := 11) (ref := "TreePairs") (by decide +kernel) rfl rfl dX2_strong_34 ?_
        refine j_iload_n C dX2_strong_37 rfl ?_
        refine j_aald (a := (mpA o t)) C hT.2.1 ⟨by omega, by omega⟩ rfl dX2_strong_38 ?_
        refine j_get (T := TX1) (N := 5) (fs := _) (v := .int (zI ((strongF i).length : Int))) C hwX1 hM.ob 4 (by decide) rfl (index := 35) (ref := "TreePairs$Pairs") (by decide +kernel) rfl rfl dX2_strong_39 ?_
        exact j_iret C hr (Nat.le_refl _) (Nat.zero_le _) (by unfold opStrong; rw [if_pos h1, if_pos ⟨by omega, by omega⟩]; exact ⟨rfl, hT⟩) dX2_strong_42
      · skip
        refine j_bipush C dX2_strong_20 (by decide) ?_
        exact j_iret C hr (Nat.le_refl _) (Nat.zero_le _) (by unfold opStrong; rw [if_pos h1, if_neg (by omega)]; exact ⟨rfl, hT⟩) dX2_strong_22
  · skip
    refine j_if_ne (tgt := 10) C dX2_strong_4 (by decide) ⟨by decide, by decide⟩ (fun c4 => absurd c4 (by decide)) (fun c4 => ?_)
    refine j_bipush C dX2_strong_7 (by decide) ?_
    exact j_iret C hr (Nat.le_refl _) (Nat.zero_le _) (by unfold opStrong; rw [if_neg h1]; exact ⟨rfl, hT⟩) dX2_strong_9

set_option maxHeartbeats 4000000 in
set_option maxRecDepth 100000 in
/-- X2_then -/
theorem c_X2_then (l : Launch) (G : Gx) (o : Nat) (maps : Int → List Q4) (hand : List Q4) (sd sc : Int) (near : Value) (t x y : Int) : Met l yX2_then wsX2_then ({ frames := 4, cells := 0, slots := 0, locals := 106 } : Room) (cPc G [.ref o, .int (zI t), .int (zI x), .int (zI y)] (fun H => TP G H o maps hand sd sc near ∧ iR t ∧ iR x ∧ iR y ∧ (∀ t : Int, 0 ≤ t → t < 12 → 1 ≤ (maps t).length → VM (maps t)))) (qmI (fun r H => r = (opThen maps t x y).1 ∧ TP G H o (opThen maps t x y).2 hand sd sc near) (fun q : Nat => o ≤ q ∧ q < o + 82)) 0 0 (fun q : Nat => o ≤ q ∧ q < o + 82) := by
  refine Met.ofJ (cc := cX2_then) (maxL := 4) (ret := (some .int)) (lv0 := [(0, .ref o), (1, .int (zI t)), (2, .int (zI x)), (3, .int (zI y))]) (by decide) rfl (Nat.le_of_ble_eq_true rfl) rfl ?_
  intro p e s m args below meth c C hr hnm hpre
  obtain ⟨hT, ⟨ht1, ht2⟩, ⟨hx1, hx2⟩, ⟨hy1, hy2⟩, hV⟩ := hpre
  have hwX1 : ∀ w ∈ u_ws RX1 TX1 5, w ∈ wsX2_then := by decide +kernel
  have hwX2 : ∀ w ∈ u_ws RX2 TX2 8, w ∈ wsX2_then := by decide +kernel
  refine j_iload_n C dX2_then_0 rfl ?_
  refine j_callI (jrunS (rest := []) (As := [.int (zI t)]) C (c_X2_isNumber l G t) gX2_then_X2_isNumber rfl 1 (by decide +kernel) rfl rfl ⟨Nat.le_of_ble_eq_true rfl, Nat.le_of_ble_eq_true rfl⟩ ⟨by omega, by omega⟩ rfl rfl (Nat.le_of_ble_eq_true rfl) ⟨Nat.le_of_ble_eq_true rfl, Nat.le_of_ble_eq_true rfl⟩ dX2_then_1) (fun r1 h1 => ?_)
  rcases h1 with ⟨h1, rfl⟩ | ⟨h1, rfl⟩
  · skip
    refine j_if_eq (tgt := 23) C dX2_then_4 (by decide) ⟨by decide, by decide⟩ (fun c4 => absurd c4 (by decide)) (fun c4 => ?_)
    refine j_aload_n C dX2_then_7 rfl ?_
    refine j_iload_n C dX2_then_8 rfl ?_
    refine j_callI (jrunV (rest := []) (As := [.int (zI x)]) C (c_X2_isThere l G o maps hand sd sc near x) gX2_then_X2_isThere rfl 1 (by decide +kernel) rfl rfl ⟨Nat.le_of_ble_eq_true rfl, Nat.le_of_ble_eq_true rfl⟩ hT.1 rfl ⟨hT, by omega, by omega⟩ rfl rfl (Nat.le_of_ble_eq_true rfl) ⟨Nat.le_of_ble_eq_true rfl, Nat.le_of_ble_eq_true rfl⟩ dX2_then_9) (fun r9 h9 => ?_)
    rcases h9 with ⟨h9, rfl⟩ | ⟨h9, rfl⟩
    · skip
      refine j_if_eq (tgt := 23) C dX2_then_12 (by decide) ⟨by decide, by decide⟩ (fun c12 => absurd c12 (by decide)) (fun c12 => ?_)
      refine j_aload_n C dX2_then_15 rfl ?_
      refine j_iload_n C dX2_then_16 rfl ?_
      refine j_callI (jrunV (rest := []) (As := [.int (zI y)]) C (c_X2_isThere l G o maps hand sd sc near y) gX2_then_X2_isThere rfl 1 (by decide +kernel) rfl rfl ⟨Nat.le_of_ble_eq_true rfl, Nat.le_of_ble_eq_true rfl⟩ hT.1 rfl ⟨hT, by omega, by omega⟩ rfl rfl (Nat.le_of_ble_eq_true rfl) ⟨Nat.le_of_ble_eq_true rfl, Nat.le_of_ble_eq_true rfl⟩ dX2_then_17) (fun r17 h17 => ?_)
      rcases h17 with ⟨h17, rfl⟩ | ⟨h17, rfl⟩
      · skip
        refine j_if_ne (tgt := 26) C dX2_then_20 (by decide) ⟨by decide, by decide⟩ (fun c20 => ?_) (fun c20 => absurd c20 (by decide))
        refine j_aload_n C dX2_then_26 rfl ?_
        refine j_get (T := TX2) (N := 8) (fs := _) (v := .ref (o + 1)) C hwX2 hT.1 0 (by decide) rfl (index := 11) (ref := "TreePairs") (by decide +kernel) rfl rfl dX2_then_27 ?_
        refine j_iload_n C dX2_then_30 rfl ?_
        refine j_aald (a := (mpA o x)) C hT.2.1 ⟨by omega, by omega⟩ rfl dX2_then_31 ?_
        have hA_ := hT.map (t := x) h9.1
        refine j_aload_n C dX2_then_32 rfl ?_
        refine j_get (T := TX2) (N := 8) (fs := _) (v := .ref (o + 1)) C hwX2 hT.1 0 (by decide) rfl (index := 11) (ref := "TreePairs") (by decide +kernel) rfl rfl dX2_then_33 ?_
        refine j_iload_n C dX2_then_36 rfl ?_
        refine j_aald (a := (mpA o y)) C hT.2.1 ⟨by omega, by omega⟩ rfl dX2_then_37 ?_
        have hB_ := hT.map (t := y) h17.1
        refine j_aload_n C dX2_then_38 rfl ?_
        refine j_get (T := TX2) (N := 8) (fs := _) (v := .ref (o + 67)) C hwX2 hT.1 4 (by decide) rfl (index := 22) (ref := "TreePairs") (by decide +kernel) rfl rfl dX2_then_39 ?_
        have hVx := hV x h9.1.1 h9.1.2 h9.2
        have hVy := hV y h17.1.1 h17.1.2 h17.2
        obtain ⟨Lm, hLm⟩ := hT.2.2.2.2.1
        have hmx := mpA_b o h9.1
        have hmy := mpA_b o h17.1
        have hmt := mpA_b o h1
        refine j_callmV (jrunS (rest := []) (As := [.ref (mpA o x), .ref (mpA o y), .ref (o + 67)]) C (c_X2_putBehind l G (mpA o x) 24 (mpA o y) 24 (o + 67) 48 (maps x) (maps y) Lm) gX2_then_X2_putBehind rfl 3 (by decide +kernel) rfl rfl ⟨Nat.le_of_ble_eq_true rfl, Nat.le_of_ble_eq_true rfl⟩ ⟨hA_, hB_, hLm, hVx.B, hVy.B, by decide, hVy.cut, VM.prod_len hVx hVy, VM.prod_B hVx hVy, by omega, by omega⟩ rfl rfl (Nat.le_of_ble_eq_true rfl) ⟨Nat.le_of_ble_eq_true rfl, Nat.le_of_ble_eq_true rfl⟩ dX2_then_42) (fun q hq => by obtain ⟨h1, h2⟩ := hq; exact ⟨by omega, by omega⟩) (fun H1 h42 hF => ?_)
        have hM : PL G H1 (o + 67) 48 (compF (maps x) (maps y)) := h42
        have hT := hT.setmade h42 hF
        refine j_aload_n C dX2_then_45 rfl ?_
        refine j_get (T := TX2) (N := 8) (fs := _) (v := .ref (o + 67)) C hwX2 hT.1 4 (by decide) rfl (index := 22) (ref := "TreePairs") (by decide +kernel) rfl rfl dX2_then_46 ?_
        refine j_get (T := TX1) (N := 5) (fs := _) (v := .int (zI ((compF (maps x) (maps y)).length : Int))) C hwX1 hM.ob 4 (by decide) rfl (index := 35) (ref := "TreePairs$Pairs") (by decide +kernel) rfl rfl dX2_then_49 ?_
        refine j_bipush C dX2_then_52 (by decide) ?_
        have hlm := hM.cap
        refine j_icmp_le (tgt := 60) C dX2_then_54 (by decide) ⟨by omega, by omega⟩ ⟨by decide, by decide⟩ (fun c54 => ?_) (fun c54 => ?_)
        · skip
          refine j_aload_n C dX2_then_60 rfl ?_
          refine j_get (T := TX2) (N := 8) (fs := _) (v := .ref (o + 67)) C hwX2 hT.1 4 (by decide) rfl (index := 22) (ref := "TreePairs") (by decide +kernel) rfl rfl dX2_then_61 ?_
          refine j_aload_n C dX2_then_64 rfl ?_
          refine j_get (T := TX2) (N := 8) (fs := _) (v := .ref (o + 1)) C hwX2 hT.1 0 (by decide) rfl (index := 11) (ref := "TreePairs") (by decide +kernel) rfl rfl dX2_then_65 ?_
          refine j_iload_n C dX2_then_68 rfl ?_
          refine j_aald (a := (mpA o t)) C hT.2.1 ⟨by omega, by omega⟩ rfl dX2_then_69 ?_
          have hN := hT.map (t := t) h1
          refine j_callmV (jrunS (rest := []) (As := [.ref (o + 67), .ref (mpA o t)]) C (c_X2_putCopy l G (o + 67) 48 (mpA o t) 24 (compF (maps x) (maps y)) (maps t)) gX2_then_X2_putCopy rfl 2 (by decide +kernel) rfl rfl ⟨Nat.le_of_ble_eq_true rfl, Nat.le_of_ble_eq_true rfl⟩ ⟨hM, hN, by omega, by omega⟩ rfl rfl (Nat.le_of_ble_eq_true rfl) ⟨Nat.le_of_ble_eq_true rfl, Nat.le_of_ble_eq_true rfl⟩ dX2_then_70) (fun q hq => by obtain ⟨h1, h2⟩ := hq; exact ⟨by omega, by omega⟩) (fun H2 h70 hF => ?_)
          have hM := hM.frm hF (by intro q h1 h2 h3; (try dsimp only at h3); omega)
          have hT := hT.setmap h1 h70 hF
          have hN := h70
          refine j_aload_n C dX2_then_73 rfl ?_
          refine j_get (T := TX2) (N := 8) (fs := _) (v := .ref (o + 1)) C hwX2 hT.1 0 (by decide) rfl (index := 11) (ref := "TreePairs") (by decide +kernel) rfl rfl dX2_then_74 ?_
          refine j_iload_n C dX2_then_77 rfl ?_
          refine j_aald (a := (mpA o t)) C hT.2.1 ⟨by omega, by omega⟩ rfl dX2_then_78 ?_
          refine j_get (T := TX1) (N := 5) (fs := _) (v := .int (zI ((compF (maps x) (maps y)).length : Int))) C hwX1 hN.ob 4 (by decide) rfl (index := 35) (ref := "TreePairs$Pairs") (by decide +kernel) rfl rfl dX2_then_79 ?_
          exact j_iret C hr (Nat.le_refl _) (Nat.zero_le _) (by unfold opThen; rw [if_pos ⟨h1, h9, h17⟩, if_pos (by omega)]; exact ⟨rfl, hT⟩) dX2_then_82
        · skip
          refine j_bipush C dX2_then_57 (by decide) ?_
          exact j_iret C hr (Nat.le_refl _) (Nat.zero_le _) (by unfold opThen; rw [if_pos ⟨h1, h9, h17⟩, if_neg (by omega)]; exact ⟨rfl, hT⟩) dX2_then_59
      · skip
        refine j_if_ne (tgt := 26) C dX2_then_20 (by decide) ⟨by decide, by decide⟩ (fun c20 => absurd c20 (by decide)) (fun c20 => ?_)
        refine j_bipush C dX2_then_23 (by decide) ?_
        exact j_iret C hr (Nat.le_refl _) (Nat.zero_le _) (by unfold opThen; rw [if_neg (fun h => by first | exact h1 h.1 | exact h9 h.2.1 | exact h17 h.2.2)]; exact ⟨rfl, hT⟩) dX2_then_25
    · skip
      refine j_if_eq (tgt := 23) C dX2_then_12 (by decide) ⟨by decide, by decide⟩ (fun c12 => ?_) (fun c12 => absurd c12 (by decide))
      refine j_bipush C dX2_then_23 (by decide) ?_
      exact j_iret C hr (Nat.le_refl _) (Nat.zero_le _) (by unfold opThen; rw [if_neg (fun h => by first | exact h1 h.1 | exact h9 h.2.1 | exact h17 h.2.2)]; exact ⟨rfl, hT⟩) dX2_then_25
  · skip
    refine j_if_eq (tgt := 23) C dX2_then_4 (by decide) ⟨by decide, by decide⟩ (fun c4 => ?_) (fun c4 => absurd c4 (by decide))
    refine j_bipush C dX2_then_23 (by decide) ?_
    exact j_iret C hr (Nat.le_refl _) (Nat.zero_le _) (by unfold opThen; rw [if_neg (fun h => by first | exact h1 h.1 | exact h9 h.2.1 | exact h17 h.2.2)]; exact ⟨rfl, hT⟩) dX2_then_25

set_option maxHeartbeats 4000000 in
set_option maxRecDepth 100000 in
/-- X2_turn -/
theorem c_X2_turn (l : Launch) (G : Gx) (o : Nat) (maps : Int → List Q4) (hand : List Q4) (sd sc : Int) (near : Value) (t x : Int) : Met l yX2_turn wsX2_turn ({ frames := 4, cells := 0, slots := 0, locals := 86 } : Room) (cPc G [.ref o, .int (zI t), .int (zI x)] (fun H => TP G H o maps hand sd sc near ∧ iR t ∧ iR x ∧ (∀ t : Int, 0 ≤ t → t < 12 → 1 ≤ (maps t).length → VM (maps t)))) (qmI (fun r H => r = (opTurn maps t x).1 ∧ TP G H o (opTurn maps t x).2 hand sd sc near) (fun q : Nat => o ≤ q ∧ q < o + 82)) 0 0 (fun q : Nat => o ≤ q ∧ q < o + 82) := by
  refine Met.ofJ (cc := cX2_turn) (maxL := 3) (ret := (some .int)) (lv0 := [(0, .ref o), (1, .int (zI t)), (2, .int (zI x))]) (by decide) rfl (Nat.le_of_ble_eq_true rfl) rfl ?_
  intro p e s m args below meth c C hr hnm hpre
  obtain ⟨hT, ⟨ht1, ht2⟩, ⟨hx1, hx2⟩, hV⟩ := hpre
  have hwX1 : ∀ w ∈ u_ws RX1 TX1 5, w ∈ wsX2_turn := by decide +kernel
  have hwX2 : ∀ w ∈ u_ws RX2 TX2 8, w ∈ wsX2_turn := by decide +kernel
  refine j_iload_n C dX2_turn_0 rfl ?_
  refine j_callI (jrunS (rest := []) (As := [.int (zI t)]) C (c_X2_isNumber l G t) gX2_turn_X2_isNumber rfl 1 (by decide +kernel) rfl rfl ⟨Nat.le_of_ble_eq_true rfl, Nat.le_of_ble_eq_true rfl⟩ ⟨by omega, by omega⟩ rfl rfl (Nat.le_of_ble_eq_true rfl) ⟨Nat.le_of_ble_eq_true rfl, Nat.le_of_ble_eq_true rfl⟩ dX2_turn_1) (fun r1 h1 => ?_)
  rcases h1 with ⟨h1, rfl⟩ | ⟨h1, rfl⟩
  · skip
    refine j_if_eq (tgt := 15) C dX2_turn_4 (by decide) ⟨by decide, by decide⟩ (fun c4 => absurd c4 (by decide)) (fun c4 => ?_)
    refine j_aload_n C dX2_turn_7 rfl ?_
    refine j_iload_n C dX2_turn_8 rfl ?_
    refine j_callI (jrunV (rest := []) (As := [.int (zI x)]) C (c_X2_isThere l G o maps hand sd sc near x) gX2_turn_X2_isThere rfl 1 (by decide +kernel) rfl rfl ⟨Nat.le_of_ble_eq_true rfl, Nat.le_of_ble_eq_true rfl⟩ hT.1 rfl ⟨hT, by omega, by omega⟩ rfl rfl (Nat.le_of_ble_eq_true rfl) ⟨Nat.le_of_ble_eq_true rfl, Nat.le_of_ble_eq_true rfl⟩ dX2_turn_9) (fun r9 h9 => ?_)
    rcases h9 with ⟨h9, rfl⟩ | ⟨h9, rfl⟩
    · skip
      refine j_if_ne (tgt := 18) C dX2_turn_12 (by decide) ⟨by decide, by decide⟩ (fun c12 => ?_) (fun c12 => absurd c12 (by decide))
      refine j_aload_n C dX2_turn_18 rfl ?_
      refine j_get (T := TX2) (N := 8) (fs := _) (v := .ref (o + 1)) C hwX2 hT.1 0 (by decide) rfl (index := 11) (ref := "TreePairs") (by decide +kernel) rfl rfl dX2_turn_19 ?_
      refine j_iload_n C dX2_turn_22 rfl ?_
      refine j_aald (a := (mpA o x)) C hT.2.1 ⟨by omega, by omega⟩ rfl dX2_turn_23 ?_
      have hA_ := hT.map (t := x) h9.1
      refine j_aload_n C dX2_turn_24 rfl ?_
      refine j_get (T := TX2) (N := 8) (fs := _) (v := .ref (o + 77)) C hwX2 hT.1 6 (by decide) rfl (index := 28) (ref := "TreePairs") (by decide +kernel) rfl rfl dX2_turn_25 ?_
      have hVx := hV x h9.1.1 h9.1.2 h9.2
      obtain ⟨Lm, hLm⟩ := hT.2.2.2.2.2.2
      have hmx := mpA_b o h9.1
      have hmt := mpA_b o h1
      have hln := hVx.len
      refine j_callmV (jrunS (rest := []) (As := [.ref (mpA o x), .ref (o + 77)]) C (c_X2_putTurned l G (mpA o x) 24 (o + 77) 48 (maps x) Lm) gX2_turn_X2_putTurned rfl 2 (by decide +kernel) rfl rfl ⟨Nat.le_of_ble_eq_true rfl, Nat.le_of_ble_eq_true rfl⟩ ⟨hA_, hLm, by omega, by omega, hVx.B, by decide⟩ rfl rfl (Nat.le_of_ble_eq_true rfl) ⟨Nat.le_of_ble_eq_true rfl, Nat.le_of_ble_eq_true rfl⟩ dX2_turn_28) (fun q hq => by obtain ⟨h1, h2⟩ := hq; exact ⟨by omega, by omega⟩) (fun H1 h28 hF => ?_)
      have hM := h28
      have hT := hT.setturned h28 hF
      have htl := turnF_len (maps x)
      refine j_aload_n C dX2_turn_31 rfl ?_
      refine j_get (T := TX2) (N := 8) (fs := _) (v := .ref (o + 77)) C hwX2 hT.1 6 (by decide) rfl (index := 28) (ref := "TreePairs") (by decide +kernel) rfl rfl dX2_turn_32 ?_
      refine j_aload_n C dX2_turn_35 rfl ?_
      refine j_get (T := TX2) (N := 8) (fs := _) (v := .ref (o + 1)) C hwX2 hT.1 0 (by decide) rfl (index := 11) (ref := "TreePairs") (by decide +kernel) rfl rfl dX2_turn_36 ?_
      refine j_iload_n C dX2_turn_39 rfl ?_
      refine j_aald (a := (mpA o t)) C hT.2.1 ⟨by omega, by omega⟩ rfl dX2_turn_40 ?_
      have hN := hT.map (t := t) h1
      refine j_callmV (jrunS (rest := []) (As := [.ref (o + 77), .ref (mpA o t)]) C (c_X2_putCopy l G (o + 77) 48 (mpA o t) 24 (turnF (maps x)) (maps t)) gX2_turn_X2_putCopy rfl 2 (by decide +kernel) rfl rfl ⟨Nat.le_of_ble_eq_true rfl, Nat.le_of_ble_eq_true rfl⟩ ⟨hM, hN, by omega, by omega⟩ rfl rfl (Nat.le_of_ble_eq_true rfl) ⟨Nat.le_of_ble_eq_true rfl, Nat.le_of_ble_eq_true rfl⟩ dX2_turn_41) (fun q hq => by obtain ⟨h1, h2⟩ := hq; exact ⟨by omega, by omega⟩) (fun H2 h41 hF => ?_)
      have hM := hM.frm hF (by intro q h1 h2 h3; (try dsimp only at h3); omega)
      have hT := hT.setmap h1 h41 hF
      have hN := h41
      refine j_aload_n C dX2_turn_44 rfl ?_
      refine j_get (T := TX2) (N := 8) (fs := _) (v := .ref (o + 1)) C hwX2 hT.1 0 (by decide) rfl (index := 11) (ref := "TreePairs") (by decide +kernel) rfl rfl dX2_turn_45 ?_
      refine j_iload_n C dX2_turn_48 rfl ?_
      refine j_aald (a := (mpA o t)) C hT.2.1 ⟨by omega, by omega⟩ rfl dX2_turn_49 ?_
      refine j_get (T := TX1) (N := 5) (fs := _) (v := .int (zI ((turnF (maps x)).length : Int))) C hwX1 hN.ob 4 (by decide) rfl (index := 35) (ref := "TreePairs$Pairs") (by decide +kernel) rfl rfl dX2_turn_50 ?_
      exact j_iret C hr (Nat.le_refl _) (Nat.zero_le _) (by unfold opTurn; rw [if_pos ⟨h1, h9⟩]; exact ⟨rfl, hT⟩) dX2_turn_53
    · skip
      refine j_if_ne (tgt := 18) C dX2_turn_12 (by decide) ⟨by decide, by decide⟩ (fun c12 => absurd c12 (by decide)) (fun c12 => ?_)
      refine j_bipush C dX2_turn_15 (by decide) ?_
      exact j_iret C hr (Nat.le_refl _) (Nat.zero_le _) (by unfold opTurn; rw [if_neg (fun h => by first | exact h1 h.1 | exact h9 h.2)]; exact ⟨rfl, hT⟩) dX2_turn_17
  · skip
    refine j_if_eq (tgt := 15) C dX2_turn_4 (by decide) ⟨by decide, by decide⟩ (fun c4 => ?_) (fun c4 => absurd c4 (by decide))
    refine j_bipush C dX2_turn_15 (by decide) ?_
    exact j_iret C hr (Nat.le_refl _) (Nat.zero_le _) (by unfold opTurn; rw [if_neg (fun h => by first | exact h1 h.1 | exact h9 h.2)]; exact ⟨rfl, hT⟩) dX2_turn_17

set_option maxHeartbeats 4000000 in
set_option maxRecDepth 100000 in
/-- X2_isOneMore -/
theorem c_X2_isOneMore (l : Launch) (G : Gx) (o : Nat) (maps : Int → List Q4) (hand : List Q4) (sd sc : Int) (near : Value) (ab capb : Nat) (R B : List Q4) : Met l yX2_isOneMore wsX2_isOneMore ({ frames := 4, cells := 0, slots := 0, locals := 106 } : Room) (cPc G [.ref o, .ref ab] (fun H => TP G H o maps hand sd sc near ∧ PL G H (o + 72) 48 R ∧ PL G H ab capb B ∧ VM R ∧ VM B ∧ capb ≤ 48 ∧ (ab + 5 ≤ o + 67 ∨ o + 77 ≤ ab))) (qmI (fun r H => (((compF R B).length ≤ 24 ∧ PL G H (o + 72) 48 (compF R B) ∧ TP G H o maps hand sd sc near) ∧ r = 1) ∨ ((¬ (compF R B).length ≤ 24 ∧ TP G H o maps hand sd sc near) ∧ r = 0)) (fun q : Nat => o + 67 ≤ q ∧ q < o + 77)) 0 0 (fun q : Nat => o + 67 ≤ q ∧ q < o + 77) := by
  refine Met.ofJ (cc := cX2_isOneMore) (maxL := 2) (ret := (some .boolean)) (lv0 := [(0, .ref o), (1, .ref ab)]) (by decide) rfl (Nat.le_of_ble_eq_true rfl) rfl ?_
  intro p e s m args below meth c C hr hnm hpre
  obtain ⟨hT, hR, hB, hVR, hVB, hcb, hsep⟩ := hpre
  have hwX1 : ∀ w ∈ u_ws RX1 TX1 5, w ∈ wsX2_isOneMore := by decide +kernel
  have hwX2 : ∀ w ∈ u_ws RX2 TX2 8, w ∈ wsX2_isOneMore := by decide +kernel
  refine j_aload_n C dX2_isOneMore_0 rfl ?_
  refine j_get (T := TX2) (N := 8) (fs := _) (v := .ref (o + 72)) C hwX2 hT.1 5 (by decide) rfl (index := 25) (ref := "TreePairs") (by decide +kernel) rfl rfl dX2_isOneMore_1 ?_
  refine j_aload_n C dX2_isOneMore_4 rfl ?_
  refine j_aload_n C dX2_isOneMore_5 rfl ?_
  refine j_get (T := TX2) (N := 8) (fs := _) (v := .ref (o + 67)) C hwX2 hT.1 4 (by decide) rfl (index := 22) (ref := "TreePairs") (by decide +kernel) rfl rfl dX2_isOneMore_6 ?_
  obtain ⟨Lm, hLm⟩ := hT.2.2.2.2.1
  refine j_callmV (jrunS (rest := []) (As := [.ref (o + 72), .ref ab, .ref (o + 67)]) C (c_X2_putBehind l G (o + 72) 48 ab capb (o + 67) 48 R B Lm) gX2_isOneMore_X2_putBehind rfl 3 (by decide +kernel) rfl rfl ⟨Nat.le_of_ble_eq_true rfl, Nat.le_of_ble_eq_true rfl⟩ ⟨hR, hB, hLm, hVR.B, hVB.B, hcb, hVB.cut, VM.prod_len hVR hVB, VM.prod_B hVR hVB, by omega, by omega⟩ rfl rfl (Nat.le_of_ble_eq_true rfl) ⟨Nat.le_of_ble_eq_true rfl, Nat.le_of_ble_eq_true rfl⟩ dX2_isOneMore_9) (fun q hq => by obtain ⟨h1, h2⟩ := hq; exact ⟨by omega, by omega⟩) (fun H1 h9 hF => ?_)
  have hR := hR.frm hF (by intro q h1 h2 h3; (try dsimp only at h3); omega)
  have hB := hB.frm hF (by intro q h1 h2 h3; (try dsimp only at h3); omega)
  have hM : PL G H1 (o + 67) 48 (compF R B) := h9
  have hT := hT.setmade h9 hF
  refine j_aload_n C dX2_isOneMore_12 rfl ?_
  refine j_get (T := TX2) (N := 8) (fs := _) (v := .ref (o + 67)) C hwX2 hT.1 4 (by decide) rfl (index := 22) (ref := "TreePairs") (by decide +kernel) rfl rfl dX2_isOneMore_13 ?_
  refine j_get (T := TX1) (N := 5) (fs := _) (v := .int (zI ((compF R B).length : Int))) C hwX1 hM.ob 4 (by decide) rfl (index := 35) (ref := "TreePairs$Pairs") (by decide +kernel) rfl rfl dX2_isOneMore_16 ?_
  refine j_bipush C dX2_isOneMore_19 (by decide) ?_
  have hlm := hM.cap
  refine j_icmp_le (tgt := 26) C dX2_isOneMore_21 (by decide) ⟨by omega, by omega⟩ ⟨by decide, by decide⟩ (fun c21 => ?_) (fun c21 => ?_)
  · skip
    refine j_aload_n C dX2_isOneMore_26 rfl ?_
    refine j_get (T := TX2) (N := 8) (fs := _) (v := .ref (o + 67)) C hwX2 hT.1 4 (by decide) rfl (index := 22) (ref := "TreePairs") (by decide +kernel) rfl rfl dX2_isOneMore_27 ?_
    refine j_aload_n C dX2_isOneMore_30 rfl ?_
    refine j_get (T := TX2) (N := 8) (fs := _) (v := .ref (o + 72)) C hwX2 hT.1 5 (by decide) rfl (index := 25) (ref := "TreePairs") (by decide +kernel) rfl rfl dX2_isOneMore_31 ?_
    refine j_callmV (jrunS (rest := []) (As := [.ref (o + 67), .ref (o + 72)]) C (c_X2_putCopy l G (o + 67) 48 (o + 72) 48 (compF R B) R) gX2_isOneMore_X2_putCopy rfl 2 (by decide +kernel) rfl rfl ⟨Nat.le_of_ble_eq_true rfl, Nat.le_of_ble_eq_true rfl⟩ ⟨hM, hR, by omega, by omega⟩ rfl rfl (Nat.le_of_ble_eq_true rfl) ⟨Nat.le_of_ble_eq_true rfl, Nat.le_of_ble_eq_true rfl⟩ dX2_isOneMore_34) (fun q hq => by obtain ⟨h1, h2⟩ := hq; exact ⟨by omega, by omega⟩) (fun H2 h34 hF => ?_)
    have hB := hB.frm hF (by intro q h1 h2 h3; (try dsimp only at h3); omega)
    have hM := hM.frm hF (by intro q h1 h2 h3; (try dsimp only at h3); omega)
    have hT := hT.setraised h34 hF
    have hR := h34
    refine j_iconst C dX2_isOneMore_37 ?_
    exact j_zret C hr (Nat.le_refl _) (Nat.zero_le _) (Or.inr rfl) (Or.inl ⟨⟨by omega, hR, hT⟩, rfl⟩) dX2_isOneMore_38
  · skip
    refine j_iconst C dX2_isOneMore_24 ?_
    exact j_zret C hr (Nat.le_refl _) (Nat.zero_le _) (Or.inl rfl) (Or.inr ⟨⟨by omega, hT⟩, rfl⟩) dX2_isOneMore_25
