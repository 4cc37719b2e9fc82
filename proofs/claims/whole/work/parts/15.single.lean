set_option maxHeartbeats 4000000 in
set_option maxRecDepth 100000 in
/-- X2_singleAbove -/
theorem c_X2_singleAbove (l : Launch) (G : Gx) (a cap : Nat) (L : List Q4) (i : Int) : Met l yX2_singleAbove wsX2_singleAbove ({ frames := 0, cells := 0, slots := 0, locals := 0 } : Room) (cPc G [.ref a, .int (zI i)] (fun H => PL G H a cap L ∧ (0 ≤ i ∧ i < (L.length : Int)) ∧ (∀ q ∈ L, LQ 23 q))) (qL (fun r => r = sA (qat L i))) 0 0 (fun _ => False) := by
  refine Met.ofJ (cc := cX2_singleAbove) (maxL := 4) (ret := (some .long)) (lv0 := [(0, .ref a), (1, .int (zI i))]) (by decide) rfl (Nat.le_of_ble_eq_true rfl) rfl ?_
  intro p e s m args below meth c C hr hnm hpre
  obtain ⟨hL, hi, hB⟩ := hpre
  have hwX1 : ∀ w ∈ u_ws RX1 TX1 5, w ∈ wsX2_singleAbove := by decide +kernel
  obtain ⟨d, c0, e0, b, hP, hRp, hcap⟩ := hL
  have hcR := hP.capR
  have q1 := hRp i hi.1 hi.2
  have hB_ := hRp.bnd hB hi.1 hi.2
  have y1 := hB_.1.b23
  have y2 := hB_.2.b23
  refine j_aload_n C dX2_singleAbove_0 rfl ?_
  refine j_get (T := TX1) (N := 5) (fs := _) (v := .ref (a + 4)) C hwX1 hP.1 3 (by decide) rfl (index := 121) (ref := "TreePairs$Pairs") (by decide +kernel) rfl rfl dX2_singleAbove_1 ?_
  refine j_iload_n C dX2_singleAbove_4 rfl ?_
  refine j_lald C hP.2.2.2.2 ⟨by omega, by omega⟩ dX2_singleAbove_5 ?_
  refine j_aload_n C dX2_singleAbove_6 rfl ?_
  refine j_get (T := TX1) (N := 5) (fs := _) (v := .ref (a + 2)) C hwX1 hP.1 1 (by decide) rfl (index := 117) (ref := "TreePairs$Pairs") (by decide +kernel) rfl rfl dX2_singleAbove_7 ?_
  refine j_iload_n C dX2_singleAbove_10 rfl ?_
  refine j_lald C hP.2.2.1 ⟨by omega, by omega⟩ dX2_singleAbove_11 ?_
  refine j_lsub C dX2_singleAbove_12 ?_
  refine j_lstore_n (lv' := [(0, .ref a), (1, .int (zI i)), (2, .long (zL ((b i) - (c0 i))))]) C dX2_singleAbove_13 (by decide) rfl ?_
  refine j_aload_n C dX2_singleAbove_14 rfl ?_
  refine j_get (T := TX1) (N := 5) (fs := _) (v := .ref (a + 3)) C hwX1 hP.1 2 (by decide) rfl (index := 114) (ref := "TreePairs$Pairs") (by decide +kernel) rfl rfl dX2_singleAbove_15 ?_
  refine j_iload_n C dX2_singleAbove_18 rfl ?_
  refine j_iald C hP.2.2.2.1 ⟨by omega, by omega⟩ dX2_singleAbove_19 ?_
  refine j_aload_n C dX2_singleAbove_20 rfl ?_
  refine j_get (T := TX1) (N := 5) (fs := _) (v := .ref (a + 1)) C hwX1 hP.1 0 (by decide) rfl (index := 111) (ref := "TreePairs$Pairs") (by decide +kernel) rfl rfl dX2_singleAbove_21 ?_
  refine j_iload_n C dX2_singleAbove_24 rfl ?_
  refine j_iald C hP.2.1 ⟨by omega, by omega⟩ dX2_singleAbove_25 ?_
  refine j_icmp_le (tgt := 33) C dX2_singleAbove_26 (by decide) ⟨by omega, by omega⟩ ⟨by omega, by omega⟩ (fun c26 => ?_) (fun c26 => ?_)
  · skip
    refine j_lload_n C dX2_singleAbove_33 rfl ?_
    refine j_lneg C dX2_singleAbove_34 ?_
    exact j_lretl C hr (Nat.le_refl _) (Nat.zero_le _) (by show _ = _; rw [q1]; unfold sA; exact (if_pos (by show e0 i ≤ d i; omega)).symm) dX2_singleAbove_35
  · skip
    refine j_lload_n C dX2_singleAbove_29 rfl ?_
    refine j_goto (tgt := 35) C dX2_singleAbove_30 (by decide) ?_
    exact j_lretl C hr (Nat.le_refl _) (Nat.zero_le _) (by show _ = _; rw [q1]; unfold sA; exact (if_neg (by show ¬ e0 i ≤ d i; omega)).symm) dX2_singleAbove_35

set_option maxHeartbeats 4000000 in
set_option maxRecDepth 100000 in
/-- X2_singleBelow -/
theorem c_X2_singleBelow (l : Launch) (G : Gx) (a cap : Nat) (L : List Q4) (i : Int) : Met l yX2_singleBelow wsX2_singleBelow ({ frames := 1, cells := 0, slots := 0, locals := 15 } : Room) (cPc G [.ref a, .int (zI i)] (fun H => PL G H a cap L ∧ (0 ≤ i ∧ i < (L.length : Int)) ∧ (∀ q ∈ L, LQ 23 q))) (qL (fun r => r = sB (qat L i))) 0 0 (fun _ => False) := by
  refine Met.ofJ (cc := cX2_singleBelow) (maxL := 2) (ret := (some .long)) (lv0 := [(0, .ref a), (1, .int (zI i))]) (by decide) rfl (Nat.le_of_ble_eq_true rfl) rfl ?_
  intro p e s m args below meth c C hr hnm hpre
  obtain ⟨hL, hi, hB⟩ := hpre
  have hwX1 : ∀ w ∈ u_ws RX1 TX1 5, w ∈ wsX2_singleBelow := by decide +kernel
  obtain ⟨d, c0, e0, b, hP, hRp, hcap⟩ := hL
  have hcR := hP.capR
  have q1 := hRp i hi.1 hi.2
  have hB_ := hRp.bnd hB hi.1 hi.2
  have y1 := hB_.1.b23
  have y2 := hB_.2.b23
  have p1 := pow_le_pow2 (m := (d i).toNat) (n := 23) (by omega)
  have p2 := pow_le_pow2 (m := (e0 i).toNat) (n := 23) (by omega)
  have p3 := two_pow_pos (d i).toNat
  have p4 := two_pow_pos (e0 i).toNat
  have p5 : (2 : Int) ^ 23 = 8388608 := rfl
  refine j_lconst (z := 1) C dX2_singleBelow_0 rfl ?_
  refine j_aload_n C dX2_singleBelow_1 rfl ?_
  refine j_get (T := TX1) (N := 5) (fs := _) (v := .ref (a + 3)) C hwX1 hP.1 2 (by decide) rfl (index := 114) (ref := "TreePairs$Pairs") (by decide +kernel) rfl rfl dX2_singleBelow_2 ?_
  refine j_iload_n C dX2_singleBelow_5 rfl ?_
  refine j_iald C hP.2.2.2.1 ⟨by omega, by omega⟩ dX2_singleBelow_6 ?_
  refine j_lshl C dX2_singleBelow_7 ⟨by omega, by omega⟩ ?_
  refine j_lconst (z := 1) C dX2_singleBelow_8 rfl ?_
  refine j_aload_n C dX2_singleBelow_9 rfl ?_
  refine j_get (T := TX1) (N := 5) (fs := _) (v := .ref (a + 1)) C hwX1 hP.1 0 (by decide) rfl (index := 111) (ref := "TreePairs$Pairs") (by decide +kernel) rfl rfl dX2_singleBelow_10 ?_
  refine j_iload_n C dX2_singleBelow_13 rfl ?_
  refine j_iald C hP.2.1 ⟨by omega, by omega⟩ dX2_singleBelow_14 ?_
  refine j_lshl C dX2_singleBelow_15 ⟨by omega, by omega⟩ ?_
  refine j_lsub C dX2_singleBelow_16 ?_
  refine j_labs C (index := 234) (by decide +kernel) (by decide +kernel) (by decide +kernel) (by decide +kernel) (Nat.le_of_ble_eq_true rfl) (Nat.le_of_ble_eq_true rfl) (Nat.le_of_ble_eq_true rfl) (Nat.le_of_ble_eq_true rfl) ⟨by omega, by omega⟩ dX2_singleBelow_17 ?_
  exact j_lretl C hr (Nat.le_refl _) (Nat.zero_le _) (by show _ = _; rw [q1, Int.one_mul, Int.one_mul]; rfl) dX2_singleBelow_20

set_option maxHeartbeats 4000000 in
set_option maxRecDepth 100000 in
/-- X2_hasSingle -/
theorem c_X2_hasSingle (l : Launch) (G : Gx) (a cap : Nat) (L : List Q4) (i : Int) : Met l yX2_hasSingle wsX2_hasSingle ({ frames := 2, cells := 0, slots := 0, locals := 36 } : Room) (cPc G [.ref a, .int (zI i)] (fun H => PL G H a cap L ∧ (0 ≤ i ∧ i < (L.length : Int)) ∧ (∀ q ∈ L, LQ 23 q))) (qI (fun r => (hsP (qat L i) ∧ r = 1) ∨ (¬ hsP (qat L i) ∧ r = 0))) 0 0 (fun _ => False) := by
  refine Met.ofJ (cc := cX2_hasSingle) (maxL := 9) (ret := (some .boolean)) (lv0 := [(0, .ref a), (1, .int (zI i))]) (by decide) rfl (Nat.le_of_ble_eq_true rfl) rfl ?_
  intro p e s m args below meth c C hr hnm hpre
  obtain ⟨hL, hi, hB⟩ := hpre
  have hwX1 : ∀ w ∈ u_ws RX1 TX1 5, w ∈ wsX2_hasSingle := by decide +kernel
  have hL0 := hL
  obtain ⟨d, c0, e0, b, hP, hRp, hcap⟩ := hL
  have hcR := hP.capR
  have q1 := hRp i hi.1 hi.2
  have hB_ := hRp.bnd hB hi.1 hi.2
  have y1 := hB_.1.b23
  have y2 := hB_.2.b23
  have hab := sAB_b (hB _ (qat_mem hi.1 hi.2))
  have hd : (qat L i).1 = d i := by rw [q1]
  have he : (qat L i).2.2.1 = e0 i := by rw [q1]
  have hc : (qat L i).2.1 = c0 i := by rw [q1]
  have p1 := pow_le_pow2 (m := (d i).toNat) (n := 23) (by omega)
  have p3 := two_pow_pos (d i).toNat
  have p5 : (2 : Int) ^ 23 = 8388608 := rfl
  have m1 := mul_b (a := sA (qat L i)) (b := 2 ^ (d i).toNat) (A := 8388608) (B := 8388608) (by omega) (by omega) (by omega) (by omega) (by omega)
  have m2 := mul_b (a := c0 i) (b := sB (qat L i)) (A := 8388608) (B := 8388608) (by omega) (by omega) (by omega) (by omega) (by omega)
  have m3 := mul_b (a := c0 i + 1) (b := sB (qat L i)) (A := 8388608) (B := 8388608) (by omega) (by omega) (by omega) (by omega) (by omega)
  refine j_aload_n C dX2_hasSingle_0 rfl ?_
  refine j_get (T := TX1) (N := 5) (fs := _) (v := .ref (a + 1)) C hwX1 hP.1 0 (by decide) rfl (index := 111) (ref := "TreePairs$Pairs") (by decide +kernel) rfl rfl dX2_hasSingle_1 ?_
  refine j_iload_n C dX2_hasSingle_4 rfl ?_
  refine j_iald C hP.2.1 ⟨by omega, by omega⟩ dX2_hasSingle_5 ?_
  refine j_istore_n (lv' := [(0, .ref a), (1, .int (zI i)), (2, .int (zI (d i)))]) C dX2_hasSingle_6 (by decide) rfl ?_
  refine j_aload_n C dX2_hasSingle_7 rfl ?_
  refine j_get (T := TX1) (N := 5) (fs := _) (v := .ref (a + 2)) C hwX1 hP.1 1 (by decide) rfl (index := 117) (ref := "TreePairs$Pairs") (by decide +kernel) rfl rfl dX2_hasSingle_8 ?_
  refine j_iload_n C dX2_hasSingle_11 rfl ?_
  refine j_lald C hP.2.2.1 ⟨by omega, by omega⟩ dX2_hasSingle_12 ?_
  refine j_lstore_n (lv' := [(0, .ref a), (1, .int (zI i)), (2, .int (zI (d i))), (3, .long (zL (c0 i)))]) C dX2_hasSingle_13 (by decide) rfl ?_
  refine j_iload_n C dX2_hasSingle_14 rfl ?_
  refine j_aload_n C dX2_hasSingle_15 rfl ?_
  refine j_get (T := TX1) (N := 5) (fs := _) (v := .ref (a + 3)) C hwX1 hP.1 2 (by decide) rfl (index := 114) (ref := "TreePairs$Pairs") (by decide +kernel) rfl rfl dX2_hasSingle_16 ?_
  refine j_iload_n C dX2_hasSingle_19 rfl ?_
  refine j_iald C hP.2.2.2.1 ⟨by omega, by omega⟩ dX2_hasSingle_20 ?_
  refine j_icmp_ne (tgt := 26) C dX2_hasSingle_21 (by decide) ⟨by omega, by omega⟩ ⟨by omega, by omega⟩ (fun c21 => ?_) (fun c21 => ?_)
  · skip
    refine j_aload_n C dX2_hasSingle_26 rfl ?_
    refine j_iload_n C dX2_hasSingle_27 rfl ?_
    refine j_callL (jrunS (rest := []) (As := [.ref a, .int (zI i)]) C (c_X2_singleAbove l G a cap L i) gX2_hasSingle_X2_singleAbove rfl 2 (by decide +kernel) rfl rfl ⟨Nat.le_of_ble_eq_true rfl, Nat.le_of_ble_eq_true rfl⟩ ⟨hL0, hi, hB⟩ rfl rfl (Nat.le_of_ble_eq_true rfl) ⟨Nat.le_of_ble_eq_true rfl, Nat.le_of_ble_eq_true rfl⟩ dX2_hasSingle_28) (fun r28 h28 => ?_)
    subst h28
    refine j_iload_n C dX2_hasSingle_31 rfl ?_
    refine j_lshl C dX2_hasSingle_32 ⟨by omega, by omega⟩ ?_
    refine j_lstore (lv' := [(0, .ref a), (1, .int (zI i)), (2, .int (zI (d i))), (3, .long (zL (c0 i))), (5, .long (zL ((sA (qat L i)) * 2 ^ (d i).toNat)))]) C dX2_hasSingle_33 (by decide) rfl ?_
    refine j_aload_n C dX2_hasSingle_35 rfl ?_
    refine j_iload_n C dX2_hasSingle_36 rfl ?_
    refine j_callL (jrunS (rest := []) (As := [.ref a, .int (zI i)]) C (c_X2_singleBelow l G a cap L i) gX2_hasSingle_X2_singleBelow rfl 2 (by decide +kernel) rfl rfl ⟨Nat.le_of_ble_eq_true rfl, Nat.le_of_ble_eq_true rfl⟩ ⟨hL0, hi, hB⟩ rfl rfl (Nat.le_of_ble_eq_true rfl) ⟨Nat.le_of_ble_eq_true rfl, Nat.le_of_ble_eq_true rfl⟩ dX2_hasSingle_37) (fun r37 h37 => ?_)
    subst h37
    refine j_lstore (lv' := [(0, .ref a), (1, .int (zI i)), (2, .int (zI (d i))), (3, .long (zL (c0 i))), (5, .long (zL ((sA (qat L i)) * 2 ^ (d i).toNat))), (7, .long (zL (sB (qat L i))))]) C dX2_hasSingle_40 (by decide) rfl ?_
    refine j_lload C dX2_hasSingle_42 rfl ?_
    refine j_lload_n C dX2_hasSingle_44 rfl ?_
    refine j_lload C dX2_hasSingle_45 rfl ?_
    refine j_lmul C dX2_hasSingle_47 ?_
    refine j_lcmp_lt (tgt := 68) C dX2_hasSingle_48 dX2_hasSingle_49 (by decide) ⟨by omega, by omega⟩ ⟨by omega, by omega⟩ (fun c48 => ?_) (fun c48 => ?_)
    · skip
      refine j_iconst C dX2_hasSingle_68 ?_
      exact j_zreti C hr (Nat.le_refl _) (Nat.zero_le _) (Or.inl rfl) (Or.inr ⟨fun h => by have h1 := h.2.1; have h2 := h.2.2; rw [hd, hc] at h1 h2; omega, rfl⟩) dX2_hasSingle_69
    · skip
      refine j_lload C dX2_hasSingle_52 rfl ?_
      refine j_lload_n C dX2_hasSingle_54 rfl ?_
      refine j_lconst (z := 1) C dX2_hasSingle_55 rfl ?_
      refine j_ladd C dX2_hasSingle_56 ?_
      refine j_lload C dX2_hasSingle_57 rfl ?_
      refine j_lmul C dX2_hasSingle_59 ?_
      refine j_lcmp_ge (tgt := 68) C dX2_hasSingle_60 dX2_hasSingle_61 (by decide) ⟨by omega, by omega⟩ ⟨by omega, by omega⟩ (fun c60 => ?_) (fun c60 => ?_)
      · skip
        refine j_iconst C dX2_hasSingle_68 ?_
        exact j_zreti C hr (Nat.le_refl _) (Nat.zero_le _) (Or.inl rfl) (Or.inr ⟨fun h => by have h1 := h.2.1; have h2 := h.2.2; rw [hd, hc] at h1 h2; omega, rfl⟩) dX2_hasSingle_69
      · skip
        refine j_iconst C dX2_hasSingle_64 ?_
        refine j_goto (tgt := 69) C dX2_hasSingle_65 (by decide) ?_
        exact j_zreti C hr (Nat.le_refl _) (Nat.zero_le _) (Or.inr rfl) (Or.inl ⟨⟨by rw [hd, he]; exact c21, by rw [hd, hc]; omega, by rw [hd, hc]; omega⟩, rfl⟩) dX2_hasSingle_69
  · skip
    refine j_iconst C dX2_hasSingle_24 ?_
    exact j_zreti C hr (Nat.le_refl _) (Nat.zero_le _) (Or.inl rfl) (Or.inr ⟨fun h => h.1 (by rw [hd, he]; exact c21), rfl⟩) dX2_hasSingle_25

set_option maxHeartbeats 4000000 in
set_option maxRecDepth 100000 in
/-- X2_commonOf -/
theorem c_X2_commonOf (l : Launch) (G : Gx) (x y : Int) : Met l yX2_commonOf wsX2_commonOf ({ frames := 0, cells := 0, slots := 0, locals := 0 } : Room) (cPc G [.long (zL x), .long (zL y)] (fun H => (0 ≤ x ∧ x ≤ 8388608) ∧ (0 ≤ y ∧ y ≤ 8388608))) (qL (fun r => r = gcdF x y)) 0 0 (fun _ => False) := by
  refine Met.ofJ (cc := cX2_commonOf) (maxL := 11) (ret := (some .long)) (lv0 := [(0, .long (zL x)), (2, .long (zL y))]) (by decide) rfl (Nat.le_of_ble_eq_true rfl) rfl ?_
  intro p e s m args below meth c C hr hnm hpre
  obtain ⟨hx, hy⟩ := hpre
  refine j_lload_n C dX2_commonOf_0 rfl ?_
  refine j_lstore (lv' := [(0, .long (zL x)), (2, .long (zL y)), (4, .long (zL x))]) C dX2_commonOf_1 (by decide) rfl ?_
  refine j_lload_n C dX2_commonOf_3 rfl ?_
  refine j_lstore (lv' := [(0, .long (zL x)), (2, .long (zL y)), (4, .long (zL x)), (6, .long (zL y))]) C dX2_commonOf_4 (by decide) rfl ?_
  refine j_iconst C dX2_commonOf_6 ?_
  refine j_istore (lv' := [(0, .long (zL x)), (2, .long (zL y)), (4, .long (zL x)), (6, .long (zL y)), (8, .int (zI 0))]) C dX2_commonOf_7 (by decide) rfl ?_
  have K9 : ∀ (fu9 : Nat) (u v n : Int), (100 - n).toNat < fu9 → 0 ≤ n ∧ n ≤ 100 → gcdF u v = gcdF x y → (0 ≤ u ∧ u ≤ 8388608) ∧ (0 ≤ v ∧ v ≤ 8388608) → (n = 0 ∨ (1 ≤ n ∧ v < u ∧ u * v * 2 ^ (n - 1).toNat ≤ 70368744177664)) → JJ p l e ({ frames := 0, cells := 0, slots := 0, locals := 0 } : Room) s m args below meth c (MQ below (qL (fun r => r = gcdF x y)) args s 0 0 (fun _ => False)) (fun _ => False) 11 s.heap 0 0 9 [(4, .long (zL u)), (6, .long (zL v)), (8, .int (zI n))] [] := by
    intro fu9
    induction fu9 with
    | zero => intro u v n hm9 hn hg hu hw; exact absurd hm9 (Nat.not_lt_zero _)
    | succ fu9 ih9 =>
      intro u v n hm9 hn hg hu hw
      refine j_iload C dX2_commonOf_9 rfl ?_
      refine j_bipush C dX2_commonOf_11 (by decide) ?_
      refine j_icmp_ge (tgt := 44) C dX2_commonOf_13 (by decide) ⟨by omega, by omega⟩ ⟨by decide, by decide⟩ (fun c13 => ?_) (fun c13 => ?_)
      · skip
        refine j_lload C dX2_commonOf_44 rfl ?_
        have hv : v = 0 := gcd_end hn hu hw (by omega)
        exact j_lretl C hr (Nat.le_refl _) (Nat.zero_le _) (by show u = _; rw [← hg, hv]; exact (gcdF_0 hu.1.1).symm) dX2_commonOf_46
      · skip
        refine j_lload C dX2_commonOf_16 rfl ?_
        refine j_lconst (z := 0) C dX2_commonOf_18 rfl ?_
        refine j_lcmp_eq (tgt := 44) C dX2_commonOf_19 dX2_commonOf_20 (by decide) ⟨by omega, by omega⟩ ⟨by decide, by decide⟩ (fun c19 => ?_) (fun c19 => ?_)
        · skip
          refine j_lload C dX2_commonOf_44 rfl ?_
          have hv : v = 0 := gcd_end hn hu hw (by omega)
          exact j_lretl C hr (Nat.le_refl _) (Nat.zero_le _) (by show u = _; rw [← hg, hv]; exact (gcdF_0 hu.1.1).symm) dX2_commonOf_46
        · skip
          have hr1 := Int.emod_nonneg u (show v ≠ 0 by omega)
          have hr2 := Int.emod_lt_of_pos u (show 0 < v by omega)
          refine j_lload C dX2_commonOf_23 rfl ?_
          refine j_lload C dX2_commonOf_25 rfl ?_
          refine j_lrem C dX2_commonOf_27 ⟨by omega, by omega⟩ ⟨by omega, by omega⟩ ?_
          refine j_lstore (lv' := [(4, .long (zL u)), (6, .long (zL v)), (8, .int (zI n)), (9, .long (zL (u % v)))]) C dX2_commonOf_28 (by decide) rfl ?_
          refine j_lload C dX2_commonOf_30 rfl ?_
          refine j_lstore (lv' := [(4, .long (zL v)), (6, .long (zL v)), (8, .int (zI n)), (9, .long (zL (u % v)))]) C dX2_commonOf_32 (by decide) rfl ?_
          refine j_lload C dX2_commonOf_34 rfl ?_
          refine j_lstore (lv' := [(4, .long (zL v)), (6, .long (zL (u % v))), (8, .int (zI n)), (9, .long (zL (u % v)))]) C dX2_commonOf_36 (by decide) rfl ?_
          refine j_iinc (lv' := [(4, .long (zL v)), (6, .long (zL (u % v))), (8, .int (zI (n + 1))), (9, .long (zL (u % v)))]) C dX2_commonOf_38 rfl (by decide) rfl ?_
          refine j_goto (tgt := 9) C dX2_commonOf_41 (by decide) ?_
          exact JJ.drop (lv' := [(4, .long (zL v)), (6, .long (zL (u % v))), (8, .int (zI (n + 1)))]) rfl (ih9 v (u % v) (n + 1) (by omega) ⟨by omega, by omega⟩ ((gcd_step hu.1.1 hu.2.1 (by omega)).trans hg) ⟨⟨by omega, by omega⟩, by omega, by omega⟩ (gcd_bound hn.1 hu hw (by omega)))
  exact JJ.drop (lv' := [(4, .long (zL x)), (6, .long (zL y)), (8, .int (zI 0))]) rfl (K9 (((100 - (0 : Int)).toNat) + 1) x y 0 (Nat.lt_succ_self _) ⟨by omega, by omega⟩ rfl ⟨hx, hy⟩ (Or.inl rfl))

set_option maxHeartbeats 4000000 in
set_option maxRecDepth 100000 in
/-- X2_partOfSingle -/
theorem c_X2_partOfSingle (l : Launch) (G : Gx) (a cap : Nat) (L : List Q4) (i w : Int) : Met l yX2_partOfSingle wsX2_partOfSingle ({ frames := 2, cells := 0, slots := 0, locals := 36 } : Room) (cPc G [.ref a, .int (zI i), .int (zI w)] (fun H => PL G H a cap L ∧ (0 ≤ i ∧ i < (L.length : Int)) ∧ (∀ q ∈ L, LQ 23 q) ∧ hsP (qat L i) ∧ iR w)) (qL (fun r => r = (if w = 0 then sA (qat L i) else sB (qat L i)) / gcdF (sA (qat L i)) (sB (qat L i)))) 0 0 (fun _ => False) := by
  refine Met.ofJ (cc := cX2_partOfSingle) (maxL := 9) (ret := (some .long)) (lv0 := [(0, .ref a), (1, .int (zI i)), (2, .int (zI w))]) (by decide) rfl (Nat.le_of_ble_eq_true rfl) rfl ?_
  intro p e s m args below meth c C hr hnm hpre
  obtain ⟨hL, hi, hB, hs, hw⟩ := hpre
  have hL0 := hL
  have hab := sAB_b (hB _ (qat_mem hi.1 hi.2))
  have hpos := hab.2.2.2.2 hs.1
  have hA0 := hsP_nonneg (hB _ (qat_mem hi.1 hi.2)) hs
  have hg := gcdF_pos hA0 hpos
  obtain ⟨hw1, hw2⟩ := hw
  obtain ⟨d, c0, e0, b, hP, hRp, hcap⟩ := hL
  have hcR := hP.capR
  refine j_aload_n C dX2_partOfSingle_0 rfl ?_
  refine j_iload_n C dX2_partOfSingle_1 rfl ?_
  refine j_callL (jrunS (rest := []) (As := [.ref a, .int (zI i)]) C (c_X2_singleAbove l G a cap L i) gX2_partOfSingle_X2_singleAbove rfl 2 (by decide +kernel) rfl rfl ⟨Nat.le_of_ble_eq_true rfl, Nat.le_of_ble_eq_true rfl⟩ ⟨hL0, hi, hB⟩ rfl rfl (Nat.le_of_ble_eq_true rfl) ⟨Nat.le_of_ble_eq_true rfl, Nat.le_of_ble_eq_true rfl⟩ dX2_partOfSingle_2) (fun r2 h2 => ?_)
  subst h2
  refine j_lstore_n (lv' := [(0, .ref a), (1, .int (zI i)), (2, .int (zI w)), (3, .long (zL (sA (qat L i))))]) C dX2_partOfSingle_5 (by decide) rfl ?_
  refine j_aload_n C dX2_partOfSingle_6 rfl ?_
  refine j_iload_n C dX2_partOfSingle_7 rfl ?_
  refine j_callL (jrunS (rest := []) (As := [.ref a, .int (zI i)]) C (c_X2_singleBelow l G a cap L i) gX2_partOfSingle_X2_singleBelow rfl 2 (by decide +kernel) rfl rfl ⟨Nat.le_of_ble_eq_true rfl, Nat.le_of_ble_eq_true rfl⟩ ⟨hL0, hi, hB⟩ rfl rfl (Nat.le_of_ble_eq_true rfl) ⟨Nat.le_of_ble_eq_true rfl, Nat.le_of_ble_eq_true rfl⟩ dX2_partOfSingle_8) (fun r8 h8 => ?_)
  subst h8
  refine j_lstore (lv' := [(0, .ref a), (1, .int (zI i)), (2, .int (zI w)), (3, .long (zL (sA (qat L i)))), (5, .long (zL (sB (qat L i))))]) C dX2_partOfSingle_11 (by decide) rfl ?_
  refine j_lload_n C dX2_partOfSingle_13 rfl ?_
  refine j_lload C dX2_partOfSingle_14 rfl ?_
  refine j_callL (jrunS (rest := []) (As := [.long (zL (sA (qat L i))), .long (zL (sB (qat L i)))]) C (c_X2_commonOf l G (sA (qat L i)) (sB (qat L i))) gX2_partOfSingle_X2_commonOf rfl 2 (by decide +kernel) rfl rfl ⟨Nat.le_of_ble_eq_true rfl, Nat.le_of_ble_eq_true rfl⟩ ⟨⟨by omega, by omega⟩, ⟨by omega, by omega⟩⟩ rfl rfl (Nat.le_of_ble_eq_true rfl) ⟨Nat.le_of_ble_eq_true rfl, Nat.le_of_ble_eq_true rfl⟩ dX2_partOfSingle_16) (fun r16 h16 => ?_)
  subst h16
  refine j_lstore (lv' := [(0, .ref a), (1, .int (zI i)), (2, .int (zI w)), (3, .long (zL (sA (qat L i)))), (5, .long (zL (sB (qat L i)))), (7, .long (zL (gcdF (sA (qat L i)) (sB (qat L i)))))]) C dX2_partOfSingle_19 (by decide) rfl ?_
  refine j_lload C dX2_partOfSingle_21 rfl ?_
  refine j_lconst (z := 0) C dX2_partOfSingle_23 rfl ?_
  refine j_lcmp_ne (tgt := 32) C dX2_partOfSingle_24 dX2_partOfSingle_25 (by decide) ⟨by omega, by omega⟩ ⟨by omega, by omega⟩ (fun c24 => ?_) (fun c24 => absurd c24 (by omega))
  refine j_iload_n C dX2_partOfSingle_32 rfl ?_
  refine j_if_ne (tgt := 40) C dX2_partOfSingle_33 (by decide) ⟨by omega, by omega⟩ (fun c33 => ?_) (fun c33 => ?_)
  · skip
    refine j_lload C dX2_partOfSingle_40 rfl ?_
    refine j_lload C dX2_partOfSingle_42 rfl ?_
    refine j_ldiv C dX2_partOfSingle_44 ⟨by omega, by omega⟩ ⟨by omega, by omega⟩ ?_
    exact j_lretl C hr (Nat.le_refl _) (Nat.zero_le _) (by show _ = _; rw [if_neg c33]) dX2_partOfSingle_45
  · skip
    refine j_lload_n C dX2_partOfSingle_36 rfl ?_
    refine j_goto (tgt := 42) C dX2_partOfSingle_37 (by decide) ?_
    refine j_lload C dX2_partOfSingle_42 rfl ?_
    refine j_ldiv C dX2_partOfSingle_44 ⟨by omega, by omega⟩ ⟨by omega, by omega⟩ ?_
    exact j_lretl C hr (Nat.le_refl _) (Nat.zero_le _) (by show _ = _; rw [if_pos c33]) dX2_partOfSingle_45

set_option maxHeartbeats 4000000 in
set_option maxRecDepth 100000 in
/-- X2_see -/
theorem c_X2_see (l : Launch) (G : Gx) (o : Nat) (maps : Int → List Q4) (hand : List Q4) (sd sc : Int) (near : Value) (x y : Int) : Met l yX2_see wsX2_see ({ frames := 0, cells := 0, slots := 0, locals := 0 } : Room) (cPc G [.ref o, .int (zI x), .long (zL y)] (fun H => TP G H o maps hand sd sc near ∧ (0 ≤ x ∧ x ≤ 53) ∧ (0 ≤ y ∧ y < 9223372036854775808))) (qmV (fun H => TP G H o maps hand (lowF x.toNat y).1 (lowF x.toNat y).2 near) (fun q : Nat => o ≤ q ∧ q < o + 82)) 0 0 (fun q : Nat => o ≤ q ∧ q < o + 82) := by
  refine Met.ofJ (cc := cX2_see) (maxL := 7) (ret := none) (lv0 := [(0, .ref o), (1, .int (zI x)), (2, .long (zL y))]) (by decide) rfl (Nat.le_of_ble_eq_true rfl) rfl ?_
  intro p e s m args below meth c C hr hnm hpre
  obtain ⟨hT, hx, hy⟩ := hpre
  have hwX2 : ∀ w ∈ u_ws RX2 TX2 8, w ∈ wsX2_see := by decide +kernel
  refine j_iload_n C dX2_see_0 rfl ?_
  refine j_istore (lv' := [(0, .ref o), (1, .int (zI x)), (2, .long (zL y)), (4, .int (zI x))]) C dX2_see_1 (by decide) rfl ?_
  refine j_lload_n C dX2_see_3 rfl ?_
  refine j_lstore (lv' := [(0, .ref o), (1, .int (zI x)), (2, .long (zL y)), (4, .int (zI x)), (5, .long (zL y))]) C dX2_see_4 (by decide) rfl ?_
  have K6 : ∀ (fu6 : Nat) (d c0 : Int), d.toNat < fu6 → 0 ≤ d ∧ d ≤ 53 → 0 ≤ c0 ∧ c0 < 9223372036854775808 → lowF d.toNat c0 = lowF x.toNat y → JJ p l e ({ frames := 0, cells := 0, slots := 0, locals := 0 } : Room) s m args below meth c (MQ below (qmV (fun H => TP G H o maps hand (lowF x.toNat y).1 (lowF x.toNat y).2 near) (fun q : Nat => o ≤ q ∧ q < o + 82)) args s 0 0 (fun q : Nat => o ≤ q ∧ q < o + 82)) (fun q : Nat => o ≤ q ∧ q < o + 82) 7 s.heap 0 0 6 [(0, .ref o), (4, .int (zI d)), (5, .long (zL c0))] [] := by
    intro fu6
    induction fu6 with
    | zero => intro d c0 hm6 hd hc hl; exact absurd hm6 (Nat.not_lt_zero _)
    | succ fu6 ih6 =>
      intro d c0 hm6 hd hc hl
      refine j_iload C dX2_see_6 rfl ?_
      refine j_if_le (tgt := 36) C dX2_see_8 (by decide) ⟨by omega, by omega⟩ (fun c8 => ?_) (fun c8 => ?_)
      · skip
        have hres : lowF x.toNat y = (d, c0) := hl.symm.trans (lowF_0 (by omega))
        refine j_aload_n C dX2_see_36 rfl ?_
        refine j_iload C dX2_see_37 rfl ?_
        refine j_put (T := TX2) (N := 8) (fs' := [.ref (o + 1), .ref (o + 62), .int (zI d), .long (zL sc), .ref (o + 67), .ref (o + 72), .ref (o + 77), near]) (ty := .int) C tyX2 tyX2_ok nmX2 hwX2 hT.1 2 (by decide) rfl (index := 128) (ref := "TreePairs") (by decide +kernel) rfl rfl (by decide +kernel) rfl rfl (Nat.le_of_ble_eq_true rfl) rfl (by omega) dX2_see_39 (fun H1 hO hC => ?_)
        have hT := hT.put hO hC
        refine j_aload_n C dX2_see_42 rfl ?_
        refine j_lload C dX2_see_43 rfl ?_
        refine j_put (T := TX2) (N := 8) (fs' := [.ref (o + 1), .ref (o + 62), .int (zI d), .long (zL c0), .ref (o + 67), .ref (o + 72), .ref (o + 77), near]) (ty := .long) C tyX2 tyX2_ok nmX2 hwX2 hT.1 3 (by decide) rfl (index := 131) (ref := "TreePairs") (by decide +kernel) rfl rfl (by decide +kernel) rfl rfl (Nat.le_of_ble_eq_true rfl) rfl (by omega) dX2_see_45 (fun H2 hO hC => ?_)
        have hT := hT.put hO hC
        exact j_vret C hr (Nat.le_refl _) (Nat.zero_le _) (by show TP _ _ _ _ _ _ _ _; rw [hres]; exact hT) dX2_see_48
      · skip
        refine j_lload C dX2_see_11 rfl ?_
        refine j_ldc2 (z := 2) C (index := 183) (v := 2) (by decide +kernel) (by decide) dX2_see_13 ?_
        refine j_lrem C dX2_see_16 ⟨by omega, by omega⟩ ⟨by decide, by decide⟩ ?_
        refine j_lconst (z := 0) C dX2_see_17 rfl ?_
        refine j_lcmp_ne (tgt := 36) C dX2_see_18 dX2_see_19 (by decide) ⟨by omega, by omega⟩ ⟨by decide, by decide⟩ (fun c18 => ?_) (fun c18 => ?_)
        · skip
          have hres : lowF x.toNat y = (d, c0) := hl.symm.trans (lowF_f (by omega) (by omega))
          refine j_aload_n C dX2_see_36 rfl ?_
          refine j_iload C dX2_see_37 rfl ?_
          refine j_put (T := TX2) (N := 8) (fs' := [.ref (o + 1), .ref (o + 62), .int (zI d), .long (zL sc), .ref (o + 67), .ref (o + 72), .ref (o + 77), near]) (ty := .int) C tyX2 tyX2_ok nmX2 hwX2 hT.1 2 (by decide) rfl (index := 128) (ref := "TreePairs") (by decide +kernel) rfl rfl (by decide +kernel) rfl rfl (Nat.le_of_ble_eq_true rfl) rfl (by omega) dX2_see_39 (fun H3 hO hC => ?_)
          have hT := hT.put hO hC
          refine j_aload_n C dX2_see_42 rfl ?_
          refine j_lload C dX2_see_43 rfl ?_
          refine j_put (T := TX2) (N := 8) (fs' := [.ref (o + 1), .ref (o + 62), .int (zI d), .long (zL c0), .ref (o + 67), .ref (o + 72), .ref (o + 77), near]) (ty := .long) C tyX2 tyX2_ok nmX2 hwX2 hT.1 3 (by decide) rfl (index := 131) (ref := "TreePairs") (by decide +kernel) rfl rfl (by decide +kernel) rfl rfl (Nat.le_of_ble_eq_true rfl) rfl (by omega) dX2_see_45 (fun H4 hO hC => ?_)
          have hT := hT.put hO hC
          exact j_vret C hr (Nat.le_refl _) (Nat.zero_le _) (by show TP _ _ _ _ _ _ _ _; rw [hres]; exact hT) dX2_see_48
        · skip
          refine j_lload C dX2_see_22 rfl ?_
          refine j_ldc2 (z := 2) C (index := 183) (v := 2) (by decide +kernel) (by decide) dX2_see_24 ?_
          refine j_ldiv C dX2_see_27 ⟨by omega, by omega⟩ ⟨by decide, by decide⟩ ?_
          refine j_lstore (lv' := [(0, .ref o), (4, .int (zI d)), (5, .long (zL (c0 / 2)))]) C dX2_see_28 (by decide) rfl ?_
          refine j_iinc (lv' := [(0, .ref o), (4, .int (zI (d + (-1)))), (5, .long (zL (c0 / 2)))]) C dX2_see_30 rfl (by decide) rfl ?_
          refine j_goto (tgt := 6) C dX2_see_33 (by decide) ?_
          exact JJ.drop (lv' := [(0, .ref o), (4, .int (zI (d + (-1)))), (5, .long (zL (c0 / 2)))]) rfl (ih6 (d + (-1)) (c0 / 2) (by omega) ⟨by omega, by omega⟩ ⟨by omega, by omega⟩ ((lowF_t (by omega) (by omega)).trans hl))
  exact JJ.drop (lv' := [(0, .ref o), (4, .int (zI x)), (5, .long (zL y))]) rfl (K6 ((x.toNat) + 1) x y (Nat.lt_succ_self _) hx hy rfl)
