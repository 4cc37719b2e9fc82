set_option maxHeartbeats 4000000 in
set_option maxRecDepth 100000 in
/-- X2_isLeaf -/
theorem c_X2_isLeaf (l : Launch) (G : Gx) (x y : Int) : Met l yX2_isLeaf wsX2_isLeaf ({ frames := 0, cells := 0, slots := 0, locals := 0 } : Room) (cPc G [.int (zI x), .int (zI y)] (fun H => iR x ∧ iR y)) (qI (fun r => (Lf 23 x y ∧ r = 1) ∨ (¬ Lf 23 x y ∧ r = 0))) 0 0 (fun _ => False) := by
  refine Met.ofJ (cc := cX2_isLeaf) (maxL := 2) (ret := (some .boolean)) (lv0 := [(0, .int (zI x)), (1, .int (zI y))]) (by decide) rfl (Nat.le_of_ble_eq_true rfl) rfl ?_
  intro p e s m args below meth c C hr hnm hpre
  obtain ⟨hx, hy⟩ := hpre
  obtain ⟨hx1, hx2⟩ := hx
  obtain ⟨hy1, hy2⟩ := hy
  refine j_iload_n C dX2_isLeaf_0 rfl ?_
  refine j_if_lt (tgt := 25) C dX2_isLeaf_1 (by decide) ⟨by omega, by omega⟩ (fun c1 => ?_) (fun c1 => ?_)
  · skip
    refine j_iconst C dX2_isLeaf_25 ?_
    exact j_zreti C hr (Nat.le_refl _) (Nat.zero_le _) (Or.inl rfl) (Or.inr ⟨(fun h => by obtain ⟨h1, h2, h3, h4⟩ := h; omega), rfl⟩) dX2_isLeaf_26
  · skip
    refine j_iload_n C dX2_isLeaf_4 rfl ?_
    refine j_bipush C dX2_isLeaf_5 (by decide) ?_
    refine j_icmp_gt (tgt := 25) C dX2_isLeaf_7 (by decide) ⟨by omega, by omega⟩ ⟨by decide, by decide⟩ (fun c7 => ?_) (fun c7 => ?_)
    · skip
      refine j_iconst C dX2_isLeaf_25 ?_
      exact j_zreti C hr (Nat.le_refl _) (Nat.zero_le _) (Or.inl rfl) (Or.inr ⟨(fun h => by obtain ⟨h1, h2, h3, h4⟩ := h; omega), rfl⟩) dX2_isLeaf_26
    · skip
      refine j_iload_n C dX2_isLeaf_10 rfl ?_
      refine j_if_lt (tgt := 25) C dX2_isLeaf_11 (by decide) ⟨by omega, by omega⟩ (fun c11 => ?_) (fun c11 => ?_)
      · skip
        refine j_iconst C dX2_isLeaf_25 ?_
        exact j_zreti C hr (Nat.le_refl _) (Nat.zero_le _) (Or.inl rfl) (Or.inr ⟨(fun h => by obtain ⟨h1, h2, h3, h4⟩ := h; omega), rfl⟩) dX2_isLeaf_26
      · skip
        refine j_iload_n C dX2_isLeaf_14 rfl ?_
        refine j_iconst C dX2_isLeaf_15 ?_
        refine j_iload_n C dX2_isLeaf_16 rfl ?_
        refine j_ishl C dX2_isLeaf_17 ⟨by omega, by omega⟩ ?_
        have e1 : (1 : Int) * 2 ^ x.toNat = 2 ^ x.toNat := Int.one_mul _
        have hp := pow_le_pow2 (m := x.toNat) (n := 23) (by omega)
        have hp1 := two_pow_pos x.toNat
        have hp2 : (2 : Int) ^ 23 = 8388608 := rfl
        refine j_icmp_ge (tgt := 25) C dX2_isLeaf_18 (by decide) ⟨by omega, by omega⟩ ⟨by omega, by omega⟩ (fun c18 => ?_) (fun c18 => ?_)
        · skip
          refine j_iconst C dX2_isLeaf_25 ?_
          exact j_zreti C hr (Nat.le_refl _) (Nat.zero_le _) (Or.inl rfl) (Or.inr ⟨(fun h => by obtain ⟨h1, h2, h3, h4⟩ := h; omega), rfl⟩) dX2_isLeaf_26
        · skip
          refine j_iconst C dX2_isLeaf_21 ?_
          have hin : Lf 23 x y := ⟨by omega, by omega, by omega, by omega⟩
          refine j_goto (tgt := 26) C dX2_isLeaf_22 (by decide) ?_
          exact j_zreti C hr (Nat.le_refl _) (Nat.zero_le _) (Or.inr rfl) (Or.inl ⟨hin, rfl⟩) dX2_isLeaf_26

set_option maxHeartbeats 4000000 in
set_option maxRecDepth 100000 in
/-- X2_isNumber -/
theorem c_X2_isNumber (l : Launch) (G : Gx) (x : Int) : Met l yX2_isNumber wsX2_isNumber ({ frames := 0, cells := 0, slots := 0, locals := 0 } : Room) (cPc G [.int (zI x)] (fun H => iR x)) (qI (fun r => ((0 ≤ x ∧ x < 12) ∧ r = 1) ∨ (¬ (0 ≤ x ∧ x < 12) ∧ r = 0))) 0 0 (fun _ => False) := by
  refine Met.ofJ (cc := cX2_isNumber) (maxL := 1) (ret := (some .boolean)) (lv0 := [(0, .int (zI x))]) (by decide) rfl (Nat.le_of_ble_eq_true rfl) rfl ?_
  intro p e s m args below meth c C hr hnm hpre
  obtain ⟨hx1, hx2⟩ := hpre
  refine j_iload_n C dX2_isNumber_0 rfl ?_
  refine j_if_lt (tgt := 14) C dX2_isNumber_1 (by decide) ⟨by omega, by omega⟩ (fun c1 => ?_) (fun c1 => ?_)
  · skip
    refine j_iconst C dX2_isNumber_14 ?_
    exact j_zreti C hr (Nat.le_refl _) (Nat.zero_le _) (Or.inl rfl) (by show (_ ∧ _) ∨ (_ ∧ _); omega) dX2_isNumber_15
  · skip
    refine j_iload_n C dX2_isNumber_4 rfl ?_
    refine j_bipush C dX2_isNumber_5 (by decide) ?_
    refine j_icmp_ge (tgt := 14) C dX2_isNumber_7 (by decide) ⟨by omega, by omega⟩ ⟨by decide, by decide⟩ (fun c7 => ?_) (fun c7 => ?_)
    · skip
      refine j_iconst C dX2_isNumber_14 ?_
      exact j_zreti C hr (Nat.le_refl _) (Nat.zero_le _) (Or.inl rfl) (by show (_ ∧ _) ∨ (_ ∧ _); omega) dX2_isNumber_15
    · skip
      refine j_iconst C dX2_isNumber_10 ?_
      refine j_goto (tgt := 15) C dX2_isNumber_11 (by decide) ?_
      exact j_zreti C hr (Nat.le_refl _) (Nat.zero_le _) (Or.inr rfl) (by show (_ ∧ _) ∨ (_ ∧ _); omega) dX2_isNumber_15

set_option maxHeartbeats 4000000 in
set_option maxRecDepth 100000 in
/-- X2_isCut -/
theorem c_X2_isCut (l : Launch) (G : Gx) (a cap : Nat) (L : List Q4) : Met l yX2_isCut wsX2_isCut ({ frames := 2, cells := 0, slots := 0, locals := 43 } : Room) (cPc G [.ref a] (fun H => PL G H a cap L ∧ (∀ q ∈ L, LQ 23 q))) (qI (fun r => (cutF L ∧ r = 1) ∨ (¬ cutF L ∧ r = 0))) 0 0 (fun _ => False) := by
  refine Met.ofJ (cc := cX2_isCut) (maxL := 4) (ret := (some .boolean)) (lv0 := [(0, .ref a)]) (by decide) rfl (Nat.le_of_ble_eq_true rfl) rfl ?_
  intro p e s m args below meth c C hr hnm hpre
  obtain ⟨hL, hB⟩ := hpre
  have hwX1 : ∀ w ∈ u_ws RX1 TX1 5, w ∈ wsX2_isCut := by decide +kernel
  obtain ⟨d, c0, e0, b, hP, hRp, hcap⟩ := hL
  have hcR := hP.capR
  refine j_lconst (z := 0) C dX2_isCut_0 rfl ?_
  refine j_lstore_n (lv' := [(0, .ref a), (1, .long (zL 0))]) C dX2_isCut_1 (by decide) rfl ?_
  refine j_iconst C dX2_isCut_2 ?_
  refine j_istore_n (lv' := [(0, .ref a), (1, .long (zL 0)), (3, .int (zI 0))]) C dX2_isCut_3 (by decide) rfl ?_
  have K4 : ∀ (fu4 : Nat) (x i : Int), (L.length - i).toNat < fu4 → 0 ≤ i ∧ i ≤ L.length → 0 ≤ x ∧ x ≤ 8388608 → (cutF L ↔ cutAt x (L.drop i.toNat)) → JJ p l e ({ frames := 2, cells := 0, slots := 0, locals := 43 } : Room) s m args below meth c (MQ below (qI (fun r => (cutF L ∧ r = 1) ∨ (¬ cutF L ∧ r = 0))) args s 0 0 (fun _ => False)) (fun _ => False) 4 s.heap 0 0 4 [(0, .ref a), (1, .long (zL x)), (3, .int (zI i))] [] := by
    intro fu4
    induction fu4 with
    | zero => intro x i hm4 hi hx hc; exact absurd hm4 (Nat.not_lt_zero _)
    | succ fu4 ih4 =>
      intro x i hm4 hi hx hc
      refine j_iload_n C dX2_isCut_4 rfl ?_
      refine j_aload_n C dX2_isCut_5 rfl ?_
      refine j_get (T := TX1) (N := 5) (fs := _) (v := .int (zI (L.length : Int))) C hwX1 hP.1 4 (by decide) rfl (index := 35) (ref := "TreePairs$Pairs") (by decide +kernel) rfl rfl dX2_isCut_6 ?_
      refine j_icmp_ge (tgt := 48) C dX2_isCut_9 (by decide) ⟨by omega, by omega⟩ ⟨by omega, by omega⟩ (fun c9 => ?_) (fun c9 => ?_)
      · skip
        rw [drop_all L (by omega)] at hc
        refine j_lload_n C dX2_isCut_48 rfl ?_
        refine j_iconst C dX2_isCut_49 ?_
        refine j_lconst (z := 1) C dX2_isCut_50 rfl ?_
        refine j_callL (jrunS (rest := [.long (zL x)]) (As := [.int (zI 0), .long (zL 1)]) C (c_X2_startOf l G 0 1) gX2_isCut_X2_startOf rfl 2 (by decide +kernel) rfl rfl ⟨Nat.le_of_ble_eq_true rfl, Nat.le_of_ble_eq_true rfl⟩ ⟨by decide, by decide⟩ rfl rfl (Nat.le_of_ble_eq_true rfl) ⟨Nat.le_of_ble_eq_true rfl, Nat.le_of_ble_eq_true rfl⟩ dX2_isCut_51) (fun r51 h51 => ?_)
        rw [show r51 = 8388608 from h51]
        refine j_lcmp_ne (tgt := 62) C dX2_isCut_54 dX2_isCut_55 (by decide) ⟨by omega, by omega⟩ ⟨by decide, by decide⟩ (fun c54 => ?_) (fun c54 => ?_)
        · skip
          refine j_iconst C dX2_isCut_62 ?_
          exact j_zreti C hr (Nat.le_refl _) (Nat.zero_le _) (Or.inl rfl) (Or.inr ⟨fun h => by have h2 : x = 8388608 := hc.mp h; omega, rfl⟩) dX2_isCut_63
        · skip
          refine j_iconst C dX2_isCut_58 ?_
          refine j_goto (tgt := 63) C dX2_isCut_59 (by decide) ?_
          exact j_zreti C hr (Nat.le_refl _) (Nat.zero_le _) (Or.inr rfl) (Or.inl ⟨hc.mpr (by show x = _; omega), rfl⟩) dX2_isCut_63
      · skip
        refine j_aload_n C dX2_isCut_12 rfl ?_
        have hlt : 0 ≤ i ∧ i < (L.length : Int) := ⟨by omega, by omega⟩
        have hq := hRp i hlt.1 hlt.2
        have hb := hRp.bnd hB hlt.1 hlt.2
        have hs := hb.1.st
        have hb1 := hb.1.b23
        have hdr := drop_q L hlt.1 hlt.2
        have hst : st1 (qat L i) = c0 i * 2 ^ (23 - d i).toNat := by rw [hq]; rfl
        have hen : en1 (qat L i) = (c0 i + 1) * 2 ^ (23 - d i).toNat := by rw [hq]; rfl
        rw [hdr] at hc
        refine j_iload_n C dX2_isCut_13 rfl ?_
        refine j_callL (jrunV (rest := []) (As := [.int (zI i)]) C (c_X1_firstStart l G a cap L.length d c0 e0 b i) gX2_isCut_X1_firstStart rfl 1 (by decide +kernel) rfl rfl ⟨Nat.le_of_ble_eq_true rfl, Nat.le_of_ble_eq_true rfl⟩ hP.1 rfl ⟨hP, ⟨by omega, by omega⟩, by omega, by omega⟩ rfl rfl (Nat.le_of_ble_eq_true rfl) ⟨Nat.le_of_ble_eq_true rfl, Nat.le_of_ble_eq_true rfl⟩ dX2_isCut_14) (fun r14 h14 => ?_)
        subst h14
        refine j_lload_n C dX2_isCut_17 rfl ?_
        refine j_lcmp_eq (tgt := 24) C dX2_isCut_18 dX2_isCut_19 (by decide) ⟨by omega, by omega⟩ ⟨by omega, by omega⟩ (fun c18 => ?_) (fun c18 => ?_)
        · skip
          refine j_aload_n C dX2_isCut_24 rfl ?_
          refine j_get (T := TX1) (N := 5) (fs := _) (v := .ref (a + 1)) C hwX1 hP.1 0 (by decide) rfl (index := 111) (ref := "TreePairs$Pairs") (by decide +kernel) rfl rfl dX2_isCut_25 ?_
          refine j_iload_n C dX2_isCut_28 rfl ?_
          refine j_iald C hP.2.1 ⟨by omega, by omega⟩ dX2_isCut_29 ?_
          refine j_aload_n C dX2_isCut_30 rfl ?_
          refine j_get (T := TX1) (N := 5) (fs := _) (v := .ref (a + 2)) C hwX1 hP.1 1 (by decide) rfl (index := 117) (ref := "TreePairs$Pairs") (by decide +kernel) rfl rfl dX2_isCut_31 ?_
          refine j_iload_n C dX2_isCut_34 rfl ?_
          refine j_lald C hP.2.2.1 ⟨by omega, by omega⟩ dX2_isCut_35 ?_
          refine j_lconst (z := 1) C dX2_isCut_36 rfl ?_
          refine j_ladd C dX2_isCut_37 ?_
          refine j_callL (jrunS (rest := []) (As := [.int (zI (d i)), .long (zL ((c0 i) + 1))]) C (c_X2_startOf l G (d i) (c0 i + 1)) gX2_isCut_X2_startOf rfl 2 (by decide +kernel) rfl rfl ⟨Nat.le_of_ble_eq_true rfl, Nat.le_of_ble_eq_true rfl⟩ ⟨by omega, by omega⟩ rfl rfl (Nat.le_of_ble_eq_true rfl) ⟨Nat.le_of_ble_eq_true rfl, Nat.le_of_ble_eq_true rfl⟩ dX2_isCut_38) (fun r38 h38 => ?_)
          subst h38
          refine j_lstore_n (lv' := [(0, .ref a), (1, .long (zL ((c0 i + 1) * 2 ^ (23 - d i).toNat))), (3, .int (zI i))]) C dX2_isCut_41 (by decide) rfl ?_
          have hc2 : cutF L ↔ cutAt ((c0 i + 1) * 2 ^ (23 - d i).toNat) (L.drop (i + 1).toNat) := hc.trans ⟨fun h => by have := h.2; rw [hen] at this; exact this, fun h => ⟨by omega, by rw [hen]; exact h⟩⟩
          refine j_iinc (lv' := [(0, .ref a), (1, .long (zL ((c0 i + 1) * 2 ^ (23 - d i).toNat))), (3, .int (zI (i + 1)))]) C dX2_isCut_42 rfl (by decide) rfl ?_
          refine j_goto (tgt := 4) C dX2_isCut_45 (by decide) ?_
          exact JJ.drop (lv' := [(0, .ref a), (1, .long (zL ((c0 i + 1) * 2 ^ (23 - d i).toNat))), (3, .int (zI (i + 1)))]) rfl (ih4 ((c0 i + 1) * 2 ^ (23 - d i).toNat) (i + 1) (by omega) ⟨by omega, by omega⟩ ⟨by omega, by omega⟩ hc2)
        · skip
          refine j_iconst C dX2_isCut_22 ?_
          exact j_zreti C hr (Nat.le_refl _) (Nat.zero_le _) (Or.inl rfl) (Or.inr ⟨fun h => by have h2 := (hc.mp h).1; omega, rfl⟩) dX2_isCut_23
  exact JJ.drop (lv' := [(0, .ref a), (1, .long (zL 0)), (3, .int (zI 0))]) rfl (K4 (((L.length - (0 : Int)).toNat) + 1) 0 0 (Nat.lt_succ_self _) ⟨by omega, by omega⟩ ⟨by omega, by omega⟩ Iff.rfl)

set_option maxHeartbeats 4000000 in
set_option maxRecDepth 100000 in
/-- X2_areAlike -/
theorem c_X2_areAlike (l : Launch) (G : Gx) (a cap a2 cap2 : Nat) (L L2 : List Q4) : Met l yX2_areAlike wsX2_areAlike ({ frames := 1, cells := 0, slots := 0, locals := 22 } : Room) (cPc G [.ref a, .ref a2] (fun H => PL G H a cap L ∧ PL G H a2 cap2 L2 ∧ (∀ q ∈ L, LQ 46 q) ∧ (∀ q ∈ L2, LQ 46 q))) (qI (fun r => (L = L2 ∧ r = 1) ∨ (¬ L = L2 ∧ r = 0))) 0 0 (fun _ => False) := by
  refine Met.ofJ (cc := cX2_areAlike) (maxL := 4) (ret := (some .boolean)) (lv0 := [(0, .ref a), (1, .ref a2)]) (by decide) rfl (Nat.le_of_ble_eq_true rfl) rfl ?_
  intro p e s m args below meth c C hr hnm hpre
  obtain ⟨hL, hL2, hB, hB2⟩ := hpre
  have hwX1 : ∀ w ∈ u_ws RX1 TX1 5, w ∈ wsX2_areAlike := by decide +kernel
  obtain ⟨d, c0, e0, b, hP, hRp, hcap⟩ := hL
  have hcR := hP.capR
  obtain ⟨d2, c02, e02, b2, hP2, hRp2, hcap2⟩ := hL2
  have hcR2 := hP2.capR
  refine j_aload_n C dX2_areAlike_0 rfl ?_
  refine j_get (T := TX1) (N := 5) (fs := _) (v := .int (zI (L.length : Int))) C hwX1 hP.1 4 (by decide) rfl (index := 35) (ref := "TreePairs$Pairs") (by decide +kernel) rfl rfl dX2_areAlike_1 ?_
  refine j_aload_n C dX2_areAlike_4 rfl ?_
  refine j_get (T := TX1) (N := 5) (fs := _) (v := .int (zI (L2.length : Int))) C hwX1 hP2.1 4 (by decide) rfl (index := 35) (ref := "TreePairs$Pairs") (by decide +kernel) rfl rfl dX2_areAlike_5 ?_
  refine j_icmp_eq (tgt := 13) C dX2_areAlike_8 (by decide) ⟨by omega, by omega⟩ ⟨by omega, by omega⟩ (fun c8 => ?_) (fun c8 => ?_)
  · skip
    refine j_iconst C dX2_areAlike_13 ?_
    refine j_istore_n (lv' := [(0, .ref a), (1, .ref a2), (2, .int (zI 0))]) C dX2_areAlike_14 (by decide) rfl ?_
    have K15 : ∀ (fu15 : Nat) (i : Int), (L.length - i).toNat < fu15 → 0 ≤ i ∧ i ≤ L.length → (∀ j : Int, 0 ≤ j → j < i → qat L j = qat L2 j) → JJ p l e ({ frames := 1, cells := 0, slots := 0, locals := 22 } : Room) s m args below meth c (MQ below (qI (fun r => (L = L2 ∧ r = 1) ∨ (¬ L = L2 ∧ r = 0))) args s 0 0 (fun _ => False)) (fun _ => False) 4 s.heap 0 0 15 [(0, .ref a), (1, .ref a2), (2, .int (zI i))] [] := by
      intro fu15
      induction fu15 with
      | zero => intro i hm15 hi he; exact absurd hm15 (Nat.not_lt_zero _)
      | succ fu15 ih15 =>
        intro i hm15 hi he
        refine j_iload_n C dX2_areAlike_15 rfl ?_
        refine j_aload_n C dX2_areAlike_16 rfl ?_
        refine j_get (T := TX1) (N := 5) (fs := _) (v := .int (zI (L.length : Int))) C hwX1 hP.1 4 (by decide) rfl (index := 35) (ref := "TreePairs$Pairs") (by decide +kernel) rfl rfl dX2_areAlike_17 ?_
        refine j_icmp_ge (tgt := 60) C dX2_areAlike_20 (by decide) ⟨by omega, by omega⟩ ⟨by omega, by omega⟩ (fun c20 => ?_) (fun c20 => ?_)
        · skip
          refine j_iconst C dX2_areAlike_60 ?_
          exact j_zreti C hr (Nat.le_refl _) (Nat.zero_le _) (Or.inr rfl) (Or.inl ⟨qat_ext (by omega) (fun j h1 h2 => he j h1 (by omega)), rfl⟩) dX2_areAlike_61
        · skip
          have hlt : 0 ≤ i ∧ i < (L.length : Int) := ⟨by omega, by omega⟩
          have hq := hRp i hlt.1 hlt.2
          have hq2 := hRp2 i hlt.1 (by omega)
          have hb := hRp.bnd hB hlt.1 hlt.2
          have hb2 := hRp2.bnd hB2 (i := i) hlt.1 (by omega)
          have x1 := hb.1.b46
          have x2 := hb.2.b46
          have x3 := hb2.1.b46
          have x4 := hb2.2.b46
          refine j_iconst C dX2_areAlike_23 ?_
          refine j_istore_n (lv' := [(0, .ref a), (1, .ref a2), (2, .int (zI i)), (3, .int (zI 0))]) C dX2_areAlike_24 (by decide) rfl ?_
          refine j_iload_n C dX2_areAlike_25 rfl ?_
          refine j_iconst C dX2_areAlike_26 ?_
          refine j_icmp_ge (tgt := 54) C dX2_areAlike_27 (by decide) ⟨by decide, by decide⟩ ⟨by decide, by decide⟩ (fun c27 => absurd c27 (by decide)) (fun c27 => ?_)
          refine j_aload_n C dX2_areAlike_30 rfl ?_
          refine j_iload_n C dX2_areAlike_31 rfl ?_
          refine j_iload_n C dX2_areAlike_32 rfl ?_
          refine j_callL (jrunV (rest := []) (As := [.int (zI i), .int (zI 0)]) C (c_X1_told l G a cap (L.length : Int) d c0 e0 b i 0) gX2_areAlike_X1_told rfl 2 (by decide +kernel) rfl rfl ⟨Nat.le_of_ble_eq_true rfl, Nat.le_of_ble_eq_true rfl⟩ hP.1 rfl ⟨hP, ⟨by omega, by omega⟩, ⟨by decide, by decide⟩, ⟨by omega, by omega⟩, ⟨by omega, by omega⟩⟩ rfl rfl (Nat.le_of_ble_eq_true rfl) ⟨Nat.le_of_ble_eq_true rfl, Nat.le_of_ble_eq_true rfl⟩ dX2_areAlike_33) (fun r33 h33 => ?_)
          have h33 : r33 = d i := h33
          subst h33
          refine j_aload_n C dX2_areAlike_36 rfl ?_
          refine j_iload_n C dX2_areAlike_37 rfl ?_
          refine j_iload_n C dX2_areAlike_38 rfl ?_
          refine j_callL (jrunV (rest := [.long (zL (d i))]) (As := [.int (zI i), .int (zI 0)]) C (c_X1_told l G a2 cap2 (L2.length : Int) d2 c02 e02 b2 i 0) gX2_areAlike_X1_told rfl 2 (by decide +kernel) rfl rfl ⟨Nat.le_of_ble_eq_true rfl, Nat.le_of_ble_eq_true rfl⟩ hP2.1 rfl ⟨hP2, ⟨by omega, by omega⟩, ⟨by decide, by decide⟩, ⟨by omega, by omega⟩, ⟨by omega, by omega⟩⟩ rfl rfl (Nat.le_of_ble_eq_true rfl) ⟨Nat.le_of_ble_eq_true rfl, Nat.le_of_ble_eq_true rfl⟩ dX2_areAlike_39) (fun r39 h39 => ?_)
          have h39 : r39 = d2 i := h39
          subst h39
          refine j_lcmp_eq (tgt := 48) C dX2_areAlike_42 dX2_areAlike_43 (by decide) ⟨by omega, by omega⟩ ⟨by omega, by omega⟩ (fun c42 => ?_) (fun c42 => ?_)
          · skip
            refine j_iinc (lv' := [(0, .ref a), (1, .ref a2), (2, .int (zI i)), (3, .int (zI (0 + 1)))]) C dX2_areAlike_48 rfl (by decide) rfl ?_
            refine j_goto (tgt := 25) C dX2_areAlike_51 (by decide) ?_
            refine j_iload_n C dX2_areAlike_25 rfl ?_
            refine j_iconst C dX2_areAlike_26 ?_
            refine j_icmp_ge (tgt := 54) C dX2_areAlike_27 (by decide) ⟨by decide, by decide⟩ ⟨by decide, by decide⟩ (fun c27 => absurd c27 (by decide)) (fun c27 => ?_)
            refine j_aload_n C dX2_areAlike_30 rfl ?_
            refine j_iload_n C dX2_areAlike_31 rfl ?_
            refine j_iload_n C dX2_areAlike_32 rfl ?_
            refine j_callL (jrunV (rest := []) (As := [.int (zI i), .int (zI (0 + 1))]) C (c_X1_told l G a cap (L.length : Int) d c0 e0 b i (0 + 1)) gX2_areAlike_X1_told rfl 2 (by decide +kernel) rfl rfl ⟨Nat.le_of_ble_eq_true rfl, Nat.le_of_ble_eq_true rfl⟩ hP.1 rfl ⟨hP, ⟨by omega, by omega⟩, ⟨by decide, by decide⟩, ⟨by omega, by omega⟩, ⟨by omega, by omega⟩⟩ rfl rfl (Nat.le_of_ble_eq_true rfl) ⟨Nat.le_of_ble_eq_true rfl, Nat.le_of_ble_eq_true rfl⟩ dX2_areAlike_33) (fun r33 h33 => ?_)
            have h33 : r33 = c0 i := h33
            subst h33
            refine j_aload_n C dX2_areAlike_36 rfl ?_
            refine j_iload_n C dX2_areAlike_37 rfl ?_
            refine j_iload_n C dX2_areAlike_38 rfl ?_
            refine j_callL (jrunV (rest := [.long (zL (c0 i))]) (As := [.int (zI i), .int (zI (0 + 1))]) C (c_X1_told l G a2 cap2 (L2.length : Int) d2 c02 e02 b2 i (0 + 1)) gX2_areAlike_X1_told rfl 2 (by decide +kernel) rfl rfl ⟨Nat.le_of_ble_eq_true rfl, Nat.le_of_ble_eq_true rfl⟩ hP2.1 rfl ⟨hP2, ⟨by omega, by omega⟩, ⟨by decide, by decide⟩, ⟨by omega, by omega⟩, ⟨by omega, by omega⟩⟩ rfl rfl (Nat.le_of_ble_eq_true rfl) ⟨Nat.le_of_ble_eq_true rfl, Nat.le_of_ble_eq_true rfl⟩ dX2_areAlike_39) (fun r39 h39 => ?_)
            have h39 : r39 = c02 i := h39
            subst h39
            refine j_lcmp_eq (tgt := 48) C dX2_areAlike_42 dX2_areAlike_43 (by decide) ⟨by omega, by omega⟩ ⟨by omega, by omega⟩ (fun c42 => ?_) (fun c42 => ?_)
            · skip
              refine j_iinc (lv' := [(0, .ref a), (1, .ref a2), (2, .int (zI i)), (3, .int (zI ((0 + 1) + 1)))]) C dX2_areAlike_48 rfl (by decide) rfl ?_
              refine j_goto (tgt := 25) C dX2_areAlike_51 (by decide) ?_
              refine j_iload_n C dX2_areAlike_25 rfl ?_
              refine j_iconst C dX2_areAlike_26 ?_
              refine j_icmp_ge (tgt := 54) C dX2_areAlike_27 (by decide) ⟨by decide, by decide⟩ ⟨by decide, by decide⟩ (fun c27 => absurd c27 (by decide)) (fun c27 => ?_)
              refine j_aload_n C dX2_areAlike_30 rfl ?_
              refine j_iload_n C dX2_areAlike_31 rfl ?_
              refine j_iload_n C dX2_areAlike_32 rfl ?_
              refine j_callL (jrunV (rest := []) (As := [.int (zI i), .int (zI ((0 + 1) + 1))]) C (c_X1_told l G a cap (L.length : Int) d c0 e0 b i ((0 + 1) + 1)) gX2_areAlike_X1_told rfl 2 (by decide +kernel) rfl rfl ⟨Nat.le_of_ble_eq_true rfl, Nat.le_of_ble_eq_true rfl⟩ hP.1 rfl ⟨hP, ⟨by omega, by omega⟩, ⟨by decide, by decide⟩, ⟨by omega, by omega⟩, ⟨by omega, by omega⟩⟩ rfl rfl (Nat.le_of_ble_eq_true rfl) ⟨Nat.le_of_ble_eq_true rfl, Nat.le_of_ble_eq_true rfl⟩ dX2_areAlike_33) (fun r33 h33 => ?_)
              have h33 : r33 = e0 i := h33
              subst h33
              refine j_aload_n C dX2_areAlike_36 rfl ?_
              refine j_iload_n C dX2_areAlike_37 rfl ?_
              refine j_iload_n C dX2_areAlike_38 rfl ?_
              refine j_callL (jrunV (rest := [.long (zL (e0 i))]) (As := [.int (zI i), .int (zI ((0 + 1) + 1))]) C (c_X1_told l G a2 cap2 (L2.length : Int) d2 c02 e02 b2 i ((0 + 1) + 1)) gX2_areAlike_X1_told rfl 2 (by decide +kernel) rfl rfl ⟨Nat.le_of_ble_eq_true rfl, Nat.le_of_ble_eq_true rfl⟩ hP2.1 rfl ⟨hP2, ⟨by omega, by omega⟩, ⟨by decide, by decide⟩, ⟨by omega, by omega⟩, ⟨by omega, by omega⟩⟩ rfl rfl (Nat.le_of_ble_eq_true rfl) ⟨Nat.le_of_ble_eq_true rfl, Nat.le_of_ble_eq_true rfl⟩ dX2_areAlike_39) (fun r39 h39 => ?_)
              have h39 : r39 = e02 i := h39
              subst h39
              refine j_lcmp_eq (tgt := 48) C dX2_areAlike_42 dX2_areAlike_43 (by decide) ⟨by omega, by omega⟩ ⟨by omega, by omega⟩ (fun c42 => ?_) (fun c42 => ?_)
              · skip
                refine j_iinc (lv' := [(0, .ref a), (1, .ref a2), (2, .int (zI i)), (3, .int (zI (((0 + 1) + 1) + 1)))]) C dX2_areAlike_48 rfl (by decide) rfl ?_
                refine j_goto (tgt := 25) C dX2_areAlike_51 (by decide) ?_
                refine j_iload_n C dX2_areAlike_25 rfl ?_
                refine j_iconst C dX2_areAlike_26 ?_
                refine j_icmp_ge (tgt := 54) C dX2_areAlike_27 (by decide) ⟨by decide, by decide⟩ ⟨by decide, by decide⟩ (fun c27 => absurd c27 (by decide)) (fun c27 => ?_)
                refine j_aload_n C dX2_areAlike_30 rfl ?_
                refine j_iload_n C dX2_areAlike_31 rfl ?_
                refine j_iload_n C dX2_areAlike_32 rfl ?_
                refine j_callL (jrunV (rest := []) (As := [.int (zI i), .int (zI (((0 + 1) + 1) + 1))]) C (c_X1_told l G a cap (L.length : Int) d c0 e0 b i (((0 + 1) + 1) + 1)) gX2_areAlike_X1_told rfl 2 (by decide +kernel) rfl rfl ⟨Nat.le_of_ble_eq_true rfl, Nat.le_of_ble_eq_true rfl⟩ hP.1 rfl ⟨hP, ⟨by omega, by omega⟩, ⟨by decide, by decide⟩, ⟨by omega, by omega⟩, ⟨by omega, by omega⟩⟩ rfl rfl (Nat.le_of_ble_eq_true rfl) ⟨Nat.le_of_ble_eq_true rfl, Nat.le_of_ble_eq_true rfl⟩ dX2_areAlike_33) (fun r33 h33 => ?_)
                have h33 : r33 = b i := h33
                subst h33
                refine j_aload_n C dX2_areAlike_36 rfl ?_
                refine j_iload_n C dX2_areAlike_37 rfl ?_
                refine j_iload_n C dX2_areAlike_38 rfl ?_
                refine j_callL (jrunV (rest := [.long (zL (b i))]) (As := [.int (zI i), .int (zI (((0 + 1) + 1) + 1))]) C (c_X1_told l G a2 cap2 (L2.length : Int) d2 c02 e02 b2 i (((0 + 1) + 1) + 1)) gX2_areAlike_X1_told rfl 2 (by decide +kernel) rfl rfl ⟨Nat.le_of_ble_eq_true rfl, Nat.le_of_ble_eq_true rfl⟩ hP2.1 rfl ⟨hP2, ⟨by omega, by omega⟩, ⟨by decide, by decide⟩, ⟨by omega, by omega⟩, ⟨by omega, by omega⟩⟩ rfl rfl (Nat.le_of_ble_eq_true rfl) ⟨Nat.le_of_ble_eq_true rfl, Nat.le_of_ble_eq_true rfl⟩ dX2_areAlike_39) (fun r39 h39 => ?_)
                have h39 : r39 = b2 i := h39
                subst h39
                refine j_lcmp_eq (tgt := 48) C dX2_areAlike_42 dX2_areAlike_43 (by decide) ⟨by omega, by omega⟩ ⟨by omega, by omega⟩ (fun c42 => ?_) (fun c42 => ?_)
                · skip
                  refine j_iinc (lv' := [(0, .ref a), (1, .ref a2), (2, .int (zI i)), (3, .int (zI ((((0 + 1) + 1) + 1) + 1)))]) C dX2_areAlike_48 rfl (by decide) rfl ?_
                  refine j_goto (tgt := 25) C dX2_areAlike_51 (by decide) ?_
                  refine j_iload_n C dX2_areAlike_25 rfl ?_
                  refine j_iconst C dX2_areAlike_26 ?_
                  refine j_icmp_ge (tgt := 54) C dX2_areAlike_27 (by decide) ⟨by decide, by decide⟩ ⟨by decide, by decide⟩ (fun c27 => ?_) (fun c27 => absurd c27 (by decide))
                  have he2 : ∀ j : Int, 0 ≤ j → j < i + 1 → qat L j = qat L2 j := fun j h1 h2 => by
                    by_cases h3 : j = i
                    · subst h3; rw [hq, hq2]; simp only [Prod.mk.injEq]; exact ⟨by omega, by omega, by omega, by omega⟩
                    · exact he j h1 (by omega)
                  refine j_iinc (lv' := [(0, .ref a), (1, .ref a2), (2, .int (zI (i + 1))), (3, .int (zI ((((0 + 1) + 1) + 1) + 1)))]) C dX2_areAlike_54 rfl (by decide) rfl ?_
                  refine j_goto (tgt := 15) C dX2_areAlike_57 (by decide) ?_
                  exact JJ.drop (lv' := [(0, .ref a), (1, .ref a2), (2, .int (zI (i + 1)))]) rfl (ih15 (i + 1) (by omega) ⟨by omega, by omega⟩ he2)
                · skip
                  refine j_iconst C dX2_areAlike_46 ?_
                  exact j_zreti C hr (Nat.le_refl _) (Nat.zero_le _) (Or.inl rfl) (Or.inr ⟨fun h => by subst h; rw [hq] at hq2; simp only [Prod.mk.injEq] at hq2; omega, rfl⟩) dX2_areAlike_47
              · skip
                refine j_iconst C dX2_areAlike_46 ?_
                exact j_zreti C hr (Nat.le_refl _) (Nat.zero_le _) (Or.inl rfl) (Or.inr ⟨fun h => by subst h; rw [hq] at hq2; simp only [Prod.mk.injEq] at hq2; omega, rfl⟩) dX2_areAlike_47
            · skip
              refine j_iconst C dX2_areAlike_46 ?_
              exact j_zreti C hr (Nat.le_refl _) (Nat.zero_le _) (Or.inl rfl) (Or.inr ⟨fun h => by subst h; rw [hq] at hq2; simp only [Prod.mk.injEq] at hq2; omega, rfl⟩) dX2_areAlike_47
          · skip
            refine j_iconst C dX2_areAlike_46 ?_
            exact j_zreti C hr (Nat.le_refl _) (Nat.zero_le _) (Or.inl rfl) (Or.inr ⟨fun h => by subst h; rw [hq] at hq2; simp only [Prod.mk.injEq] at hq2; omega, rfl⟩) dX2_areAlike_47
    exact JJ.drop (lv' := [(0, .ref a), (1, .ref a2), (2, .int (zI 0))]) rfl (K15 (((L.length - (0 : Int)).toNat) + 1) 0 (Nat.lt_succ_self _) ⟨by omega, by omega⟩ (fun j h1 h2 => absurd h2 (by omega)))
  · skip
    refine j_iconst C dX2_areAlike_11 ?_
    exact j_zreti C hr (Nat.le_refl _) (Nat.zero_le _) (Or.inl rfl) (Or.inr ⟨fun h => by rw [h] at c8; exact c8 rfl, rfl⟩) dX2_areAlike_12

set_option maxHeartbeats 4000000 in
set_option maxRecDepth 100000 in
/-- X2_mixedIn -/
theorem c_X2_mixedIn (l : Launch) (G : Gx) (x : Int) (a cap : Nat) (L : List Q4) : Met l yX2_mixedIn wsX2_mixedIn ({ frames := 1, cells := 0, slots := 0, locals := 22 } : Room) (cPc G [.long (zL x), .ref a] (fun H => PL G H a cap L ∧ (∀ q ∈ L, LQ 46 q))) (qL (fun r => r = hmix x L)) 0 0 (fun _ => False) := by
  refine Met.ofJ (cc := cX2_mixedIn) (maxL := 7) (ret := (some .long)) (lv0 := [(0, .long (zL x)), (2, .ref a)]) (by decide) rfl (Nat.le_of_ble_eq_true rfl) rfl ?_
  intro p e s m args below meth c C hr hnm hpre
  obtain ⟨hL, hB⟩ := hpre
  have hwX1 : ∀ w ∈ u_ws RX1 TX1 5, w ∈ wsX2_mixedIn := by decide +kernel
  obtain ⟨d, c0, e0, b, hP, hRp, hcap⟩ := hL
  have hcR := hP.capR
  refine j_lload_n C dX2_mixedIn_0 rfl ?_
  refine j_lstore_n (lv' := [(0, .long (zL x)), (2, .ref a), (3, .long (zL x))]) C dX2_mixedIn_1 (by decide) rfl ?_
  refine j_iconst C dX2_mixedIn_2 ?_
  refine j_istore (lv' := [(0, .long (zL x)), (2, .ref a), (3, .long (zL x)), (5, .int (zI 0))]) C dX2_mixedIn_3 (by decide) rfl ?_
  have K5 : ∀ (fu5 : Nat) (y i : Int), (L.length - i).toNat < fu5 → 0 ≤ i ∧ i ≤ L.length → y = hmix x (L.take i.toNat) → JJ p l e ({ frames := 1, cells := 0, slots := 0, locals := 22 } : Room) s m args below meth c (MQ below (qL (fun r => r = hmix x L)) args s 0 0 (fun _ => False)) (fun _ => False) 7 s.heap 0 0 5 [(2, .ref a), (3, .long (zL y)), (5, .int (zI i))] [] := by
    intro fu5
    induction fu5 with
    | zero => intro y i hm5 hi hy; exact absurd hm5 (Nat.not_lt_zero _)
    | succ fu5 ih5 =>
      intro y i hm5 hi hy
      refine j_iload C dX2_mixedIn_5 rfl ?_
      refine j_aload_n C dX2_mixedIn_7 rfl ?_
      refine j_get (T := TX1) (N := 5) (fs := _) (v := .int (zI (L.length : Int))) C hwX1 hP.1 4 (by decide) rfl (index := 35) (ref := "TreePairs$Pairs") (by decide +kernel) rfl rfl dX2_mixedIn_8 ?_
      refine j_icmp_ge (tgt := 50) C dX2_mixedIn_11 (by decide) ⟨by omega, by omega⟩ ⟨by omega, by omega⟩ (fun c11 => ?_) (fun c11 => ?_)
      · skip
        refine j_lload_n C dX2_mixedIn_50 rfl ?_
        exact j_lretl C hr (Nat.le_refl _) (Nat.zero_le _) (by show y = _; rw [hy, take_all L (by omega)]) dX2_mixedIn_51
      · skip
        have hlt : 0 ≤ i ∧ i < (L.length : Int) := ⟨by omega, by omega⟩
        have hq := hRp i hlt.1 hlt.2
        have hb := hRp.bnd hB hlt.1 hlt.2
        have x1 := hb.1.b46
        have x2 := hb.2.b46
        refine j_iconst C dX2_mixedIn_14 ?_
        refine j_istore (lv' := [(2, .ref a), (3, .long (zL y)), (5, .int (zI i)), (6, .int (zI 0))]) C dX2_mixedIn_15 (by decide) rfl ?_
        refine j_iload C dX2_mixedIn_17 rfl ?_
        refine j_iconst C dX2_mixedIn_19 ?_
        refine j_icmp_ge (tgt := 44) C dX2_mixedIn_20 (by decide) ⟨by decide, by decide⟩ ⟨by decide, by decide⟩ (fun c20 => absurd c20 (by decide)) (fun c20 => ?_)
        refine j_ldc2 (z := 31) C (index := 157) (v := 31) (by decide +kernel) (by decide) dX2_mixedIn_23 ?_
        refine j_lload_n C dX2_mixedIn_26 rfl ?_
        refine j_lmul C dX2_mixedIn_27 ?_
        refine j_aload_n C dX2_mixedIn_28 rfl ?_
        refine j_iload C dX2_mixedIn_29 rfl ?_
        refine j_iload C dX2_mixedIn_31 rfl ?_
        refine j_callL (jrunV (rest := [.long (zL (31 * y))]) (As := [.int (zI i), .int (zI 0)]) C (c_X1_told l G a cap (L.length : Int) d c0 e0 b i 0) gX2_mixedIn_X1_told rfl 2 (by decide +kernel) rfl rfl ⟨Nat.le_of_ble_eq_true rfl, Nat.le_of_ble_eq_true rfl⟩ hP.1 rfl ⟨hP, ⟨by omega, by omega⟩, ⟨by decide, by decide⟩, ⟨by omega, by omega⟩, ⟨by omega, by omega⟩⟩ rfl rfl (Nat.le_of_ble_eq_true rfl) ⟨Nat.le_of_ble_eq_true rfl, Nat.le_of_ble_eq_true rfl⟩ dX2_mixedIn_33) (fun r33 h33 => ?_)
        have h33 : r33 = d i := h33
        subst h33
        refine j_ladd C dX2_mixedIn_36 ?_
        refine j_lstore_n (lv' := [(2, .ref a), (3, .long (zL ((31 * y) + (d i)))), (5, .int (zI i)), (6, .int (zI 0))]) C dX2_mixedIn_37 (by decide) rfl ?_
        refine j_iinc (lv' := [(2, .ref a), (3, .long (zL ((31 * y) + (d i)))), (5, .int (zI i)), (6, .int (zI (0 + 1)))]) C dX2_mixedIn_38 rfl (by decide) rfl ?_
        refine j_goto (tgt := 17) C dX2_mixedIn_41 (by decide) ?_
        refine j_iload C dX2_mixedIn_17 rfl ?_
        refine j_iconst C dX2_mixedIn_19 ?_
        refine j_icmp_ge (tgt := 44) C dX2_mixedIn_20 (by decide) ⟨by decide, by decide⟩ ⟨by decide, by decide⟩ (fun c20 => absurd c20 (by decide)) (fun c20 => ?_)
        refine j_ldc2 (z := 31) C (index := 157) (v := 31) (by decide +kernel) (by decide) dX2_mixedIn_23 ?_
        refine j_lload_n C dX2_mixedIn_26 rfl ?_
        refine j_lmul C dX2_mixedIn_27 ?_
        refine j_aload_n C dX2_mixedIn_28 rfl ?_
        refine j_iload C dX2_mixedIn_29 rfl ?_
        refine j_iload C dX2_mixedIn_31 rfl ?_
        refine j_callL (jrunV (rest := [.long (zL (31 * ((31 * y) + (d i))))]) (As := [.int (zI i), .int (zI (0 + 1))]) C (c_X1_told l G a cap (L.length : Int) d c0 e0 b i (0 + 1)) gX2_mixedIn_X1_told rfl 2 (by decide +kernel) rfl rfl ⟨Nat.le_of_ble_eq_true rfl, Nat.le_of_ble_eq_true rfl⟩ hP.1 rfl ⟨hP, ⟨by omega, by omega⟩, ⟨by decide, by decide⟩, ⟨by omega, by omega⟩, ⟨by omega, by omega⟩⟩ rfl rfl (Nat.le_of_ble_eq_true rfl) ⟨Nat.le_of_ble_eq_true rfl, Nat.le_of_ble_eq_true rfl⟩ dX2_mixedIn_33) (fun r33 h33 => ?_)
        have h33 : r33 = c0 i := h33
        subst h33
        refine j_ladd C dX2_mixedIn_36 ?_
        refine j_lstore_n (lv' := [(2, .ref a), (3, .long (zL ((31 * ((31 * y) + (d i))) + (c0 i)))), (5, .int (zI i)), (6, .int (zI (0 + 1)))]) C dX2_mixedIn_37 (by decide) rfl ?_
        refine j_iinc (lv' := [(2, .ref a), (3, .long (zL ((31 * ((31 * y) + (d i))) + (c0 i)))), (5, .int (zI i)), (6, .int (zI ((0 + 1) + 1)))]) C dX2_mixedIn_38 rfl (by decide) rfl ?_
        refine j_goto (tgt := 17) C dX2_mixedIn_41 (by decide) ?_
        refine j_iload C dX2_mixedIn_17 rfl ?_
        refine j_iconst C dX2_mixedIn_19 ?_
        refine j_icmp_ge (tgt := 44) C dX2_mixedIn_20 (by decide) ⟨by decide, by decide⟩ ⟨by decide, by decide⟩ (fun c20 => absurd c20 (by decide)) (fun c20 => ?_)
        refine j_ldc2 (z := 31) C (index := 157) (v := 31) (by decide +kernel) (by decide) dX2_mixedIn_23 ?_
        refine j_lload_n C dX2_mixedIn_26 rfl ?_
        refine j_lmul C dX2_mixedIn_27 ?_
        refine j_aload_n C dX2_mixedIn_28 rfl ?_
        refine j_iload C dX2_mixedIn_29 rfl ?_
        refine j_iload C dX2_mixedIn_31 rfl ?_
        refine j_callL (jrunV (rest := [.long (zL (31 * ((31 * ((31 * y) + (d i))) + (c0 i))))]) (As := [.int (zI i), .int (zI ((0 + 1) + 1))]) C (c_X1_told l G a cap (L.length : Int) d c0 e0 b i ((0 + 1) + 1)) gX2_mixedIn_X1_told rfl 2 (by decide +kernel) rfl rfl ⟨Nat.le_of_ble_eq_true rfl, Nat.le_of_ble_eq_true rfl⟩ hP.1 rfl ⟨hP, ⟨by omega, by omega⟩, ⟨by decide, by decide⟩, ⟨by omega, by omega⟩, ⟨by omega, by omega⟩⟩ rfl rfl (Nat.le_of_ble_eq_true rfl) ⟨Nat.le_of_ble_eq_true rfl, Nat.le_of_ble_eq_true rfl⟩ dX2_mixedIn_33) (fun r33 h33 => ?_)
        have h33 : r33 = e0 i := h33
        subst h33
        refine j_ladd C dX2_mixedIn_36 ?_
        refine j_lstore_n (lv' := [(2, .ref a), (3, .long (zL ((31 * ((31 * ((31 * y) + (d i))) + (c0 i))) + (e0 i)))), (5, .int (zI i)), (6, .int (zI ((0 + 1) + 1)))]) C dX2_mixedIn_37 (by decide) rfl ?_
        refine j_iinc (lv' := [(2, .ref a), (3, .long (zL ((31 * ((31 * ((31 * y) + (d i))) + (c0 i))) + (e0 i)))), (5, .int (zI i)), (6, .int (zI (((0 + 1) + 1) + 1)))]) C dX2_mixedIn_38 rfl (by decide) rfl ?_
        refine j_goto (tgt := 17) C dX2_mixedIn_41 (by decide) ?_
        refine j_iload C dX2_mixedIn_17 rfl ?_
        refine j_iconst C dX2_mixedIn_19 ?_
        refine j_icmp_ge (tgt := 44) C dX2_mixedIn_20 (by decide) ⟨by decide, by decide⟩ ⟨by decide, by decide⟩ (fun c20 => absurd c20 (by decide)) (fun c20 => ?_)
        refine j_ldc2 (z := 31) C (index := 157) (v := 31) (by decide +kernel) (by decide) dX2_mixedIn_23 ?_
        refine j_lload_n C dX2_mixedIn_26 rfl ?_
        refine j_lmul C dX2_mixedIn_27 ?_
        refine j_aload_n C dX2_mixedIn_28 rfl ?_
        refine j_iload C dX2_mixedIn_29 rfl ?_
        refine j_iload C dX2_mixedIn_31 rfl ?_
        refine j_callL (jrunV (rest := [.long (zL (31 * ((31 * ((31 * ((31 * y) + (d i))) + (c0 i))) + (e0 i))))]) (As := [.int (zI i), .int (zI (((0 + 1) + 1) + 1))]) C (c_X1_told l G a cap (L.length : Int) d c0 e0 b i (((0 + 1) + 1) + 1)) gX2_mixedIn_X1_told rfl 2 (by decide +kernel) rfl rfl ⟨Nat.le_of_ble_eq_true rfl, Nat.le_of_ble_eq_true rfl⟩ hP.1 rfl ⟨hP, ⟨by omega, by omega⟩, ⟨by decide, by decide⟩, ⟨by omega, by omega⟩, ⟨by omega, by omega⟩⟩ rfl rfl (Nat.le_of_ble_eq_true rfl) ⟨Nat.le_of_ble_eq_true rfl, Nat.le_of_ble_eq_true rfl⟩ dX2_mixedIn_33) (fun r33 h33 => ?_)
        have h33 : r33 = b i := h33
        subst h33
        refine j_ladd C dX2_mixedIn_36 ?_
        refine j_lstore_n (lv' := [(2, .ref a), (3, .long (zL ((31 * ((31 * ((31 * ((31 * y) + (d i))) + (c0 i))) + (e0 i))) + (b i)))), (5, .int (zI i)), (6, .int (zI (((0 + 1) + 1) + 1)))]) C dX2_mixedIn_37 (by decide) rfl ?_
        refine j_iinc (lv' := [(2, .ref a), (3, .long (zL ((31 * ((31 * ((31 * ((31 * y) + (d i))) + (c0 i))) + (e0 i))) + (b i)))), (5, .int (zI i)), (6, .int (zI ((((0 + 1) + 1) + 1) + 1)))]) C dX2_mixedIn_38 rfl (by decide) rfl ?_
        refine j_goto (tgt := 17) C dX2_mixedIn_41 (by decide) ?_
        refine j_iload C dX2_mixedIn_17 rfl ?_
        refine j_iconst C dX2_mixedIn_19 ?_
        refine j_icmp_ge (tgt := 44) C dX2_mixedIn_20 (by decide) ⟨by decide, by decide⟩ ⟨by decide, by decide⟩ (fun c20 => ?_) (fun c20 => absurd c20 (by decide))
        have hy2 : 31 * (31 * (31 * (31 * y + d i) + c0 i) + e0 i) + b i = hmix x (L.take (i + 1).toNat) := by
          rw [take_q L hlt.1 hlt.2, hq, hy]; unfold hmix; rw [List.foldl_append]; rfl
        refine j_iinc (lv' := [(2, .ref a), (3, .long (zL ((31 * ((31 * ((31 * ((31 * y) + (d i))) + (c0 i))) + (e0 i))) + (b i)))), (5, .int (zI (i + 1))), (6, .int (zI ((((0 + 1) + 1) + 1) + 1)))]) C dX2_mixedIn_44 rfl (by decide) rfl ?_
        refine j_goto (tgt := 5) C dX2_mixedIn_47 (by decide) ?_
        exact JJ.drop (lv' := [(2, .ref a), (3, .long (zL ((31 * ((31 * ((31 * ((31 * y) + (d i))) + (c0 i))) + (e0 i))) + (b i)))), (5, .int (zI (i + 1)))]) rfl (ih5 ((31 * ((31 * ((31 * ((31 * y) + (d i))) + (c0 i))) + (e0 i))) + (b i)) (i + 1) (by omega) ⟨by omega, by omega⟩ hy2)
  exact JJ.drop (lv' := [(2, .ref a), (3, .long (zL x)), (5, .int (zI 0))]) rfl (K5 (((L.length - (0 : Int)).toNat) + 1) x 0 (Nat.lt_succ_self _) ⟨by omega, by omega⟩ rfl)
