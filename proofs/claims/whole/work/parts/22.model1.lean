set_option maxHeartbeats 4000000 in
set_option maxRecDepth 100000 in
/-- X3_in -/
theorem c_X3_in (l : Launch) (G : Gx) (v lo hi : Int) : Met l yX3_in wsX3_in ({ frames := 0, cells := 0, slots := 0, locals := 0 } : Room) (cPc G [.long (zL v), .long (zL lo), .long (zL hi)] (fun H => lR v ∧ lR lo ∧ lR hi)) (qI (fun r => ((lo ≤ v ∧ v ≤ hi) ∧ r = 1) ∨ (¬ (lo ≤ v ∧ v ≤ hi) ∧ r = 0))) 0 0 (fun _ => False) := by
  refine Met.ofJ (cc := cX3_in) (maxL := 6) (ret := (some .boolean)) (lv0 := [(0, .long (zL v)), (2, .long (zL lo)), (4, .long (zL hi))]) (by decide) rfl (Nat.le_of_ble_eq_true rfl) rfl ?_
  intro p e s m args below meth c C hr hnm hpre
  obtain ⟨⟨h1, h2⟩, ⟨h3, h4⟩, ⟨h5, h6⟩⟩ := hpre
  refine j_lload_n C dX3_in_0 rfl ?_
  refine j_lload_n C dX3_in_1 rfl ?_
  refine j_lcmp_lt (tgt := 17) C dX3_in_2 dX3_in_3 (by decide) ⟨by omega, by omega⟩ ⟨by omega, by omega⟩ (fun c2 => ?_) (fun c2 => ?_)
  · skip
    refine j_iconst C dX3_in_17 ?_
    exact j_zreti C hr (Nat.le_refl _) (Nat.zero_le _) (Or.inl rfl) (by show (_ ∧ _) ∨ (_ ∧ _); omega) dX3_in_18
  · skip
    refine j_lload_n C dX3_in_6 rfl ?_
    refine j_lload C dX3_in_7 rfl ?_
    refine j_lcmp_gt (tgt := 17) C dX3_in_9 dX3_in_10 (by decide) ⟨by omega, by omega⟩ ⟨by omega, by omega⟩ (fun c9 => ?_) (fun c9 => ?_)
    · skip
      refine j_iconst C dX3_in_17 ?_
      exact j_zreti C hr (Nat.le_refl _) (Nat.zero_le _) (Or.inl rfl) (by show (_ ∧ _) ∨ (_ ∧ _); omega) dX3_in_18
    · skip
      refine j_iconst C dX3_in_13 ?_
      refine j_goto (tgt := 18) C dX3_in_14 (by decide) ?_
      exact j_zreti C hr (Nat.le_refl _) (Nat.zero_le _) (Or.inr rfl) (by show (_ ∧ _) ∨ (_ ∧ _); omega) dX3_in_18

set_option maxHeartbeats 4000000 in
set_option maxRecDepth 100000 in
/-- X3_isSlot -/
theorem c_X3_isSlot (l : Launch) (G : Gx) (t : Int) : Met l yX3_isSlot wsX3_isSlot ({ frames := 1, cells := 0, slots := 0, locals := 25 } : Room) (cPc G [.int (zI t)] (fun H => iR t)) (qI (fun r => ((0 ≤ t ∧ t < 12) ∧ r = 1) ∨ (¬ (0 ≤ t ∧ t < 12) ∧ r = 0))) 0 0 (fun _ => False) := by
  refine Met.ofJ (cc := cX3_isSlot) (maxL := 1) (ret := (some .boolean)) (lv0 := [(0, .int (zI t))]) (by decide) rfl (Nat.le_of_ble_eq_true rfl) rfl ?_
  intro p e s m args below meth c C hr hnm hpre
  obtain ⟨h1, h2⟩ := hpre
  refine j_iload_n C dX3_isSlot_0 rfl ?_
  refine j_i2l C dX3_isSlot_1 ⟨by omega, by omega⟩ ?_
  refine j_lconst (z := 0) C dX3_isSlot_2 rfl ?_
  refine j_ldc2 (z := 11) C (index := 41) (v := 11) (by decide +kernel) (by decide) dX3_isSlot_3 ?_
  refine j_callI (jrunS (rest := []) (As := [.long (zL t), .long (zL 0), .long (zL 11)]) C (c_X3_in l G t 0 11) gX3_isSlot_X3_in rfl 3 (by decide +kernel) rfl rfl ⟨Nat.le_of_ble_eq_true rfl, Nat.le_of_ble_eq_true rfl⟩ ⟨⟨by omega, by omega⟩, ⟨by decide, by decide⟩, ⟨by decide, by decide⟩⟩ rfl rfl (Nat.le_of_ble_eq_true rfl) ⟨Nat.le_of_ble_eq_true rfl, Nat.le_of_ble_eq_true rfl⟩ dX3_isSlot_6) (fun r6 h6 => ?_)
  rcases h6 with ⟨h6, rfl⟩ | ⟨h6, rfl⟩
  · skip
    exact j_zreti C hr (Nat.le_refl _) (Nat.zero_le _) (Or.inr rfl) (by show (_ ∧ _) ∨ (_ ∧ _); omega) dX3_isSlot_9
  · skip
    exact j_zreti C hr (Nat.le_refl _) (Nat.zero_le _) (Or.inl rfl) (by show (_ ∧ _) ∨ (_ ∧ _); omega) dX3_isSlot_9

set_option maxHeartbeats 4000000 in
set_option maxRecDepth 100000 in
/-- X3_isMap -/
theorem c_X3_isMap (l : Launch) (G : Gx) (o : Nat) (uh ud uc us uo ub uw ua ue ux : Int) (m0 m1 m3 m7 m8 m12 m13 m14 m15 m16 : Int → Int) (a : Int) : Met l yX3_isMap wsX3_isMap ({ frames := 2, cells := 0, slots := 0, locals := 45 } : Room) (cPc G [.ref o, .int (zI a)] (fun H => MP G H o uh ud uc us uo ub uw ua ue ux m0 m1 m3 m7 m8 m12 m13 m14 m15 m16 ∧ iR a ∧ ∀ t, 0 ≤ t → t < 12 → iR (m0 t))) (qI (fun r => (((0 ≤ a ∧ a < 12) ∧ 0 < m0 a) ∧ r = 1) ∨ (¬ ((0 ≤ a ∧ a < 12) ∧ 0 < m0 a) ∧ r = 0))) 0 0 (fun _ => False) := by
  refine Met.ofJ (cc := cX3_isMap) (maxL := 2) (ret := (some .boolean)) (lv0 := [(0, .ref o), (1, .int (zI a))]) (by decide) rfl (Nat.le_of_ble_eq_true rfl) rfl ?_
  intro p e s m args below meth c C hr hnm hpre
  obtain ⟨hM, ⟨h1, h2⟩, hs⟩ := hpre
  have hwX3 : ∀ w ∈ u_ws RX3 TX3 20, w ∈ wsX3_isMap := by decide +kernel
  refine j_iload_n C dX3_isMap_0 rfl ?_
  refine j_callI (jrunS (rest := []) (As := [.int (zI a)]) C (c_X3_isSlot l G a) gX3_isMap_X3_isSlot rfl 1 (by decide +kernel) rfl rfl ⟨Nat.le_of_ble_eq_true rfl, Nat.le_of_ble_eq_true rfl⟩ ⟨h1, h2⟩ rfl rfl (Nat.le_of_ble_eq_true rfl) ⟨Nat.le_of_ble_eq_true rfl, Nat.le_of_ble_eq_true rfl⟩ dX3_isMap_1) (fun r1 h1 => ?_)
  rcases h1 with ⟨⟨hq1, hq2⟩, rfl⟩ | ⟨hq, rfl⟩
  · skip
    have hsa := hs a hq1 hq2
    refine j_if_eq (tgt := 20) C dX3_isMap_4 (by decide) ⟨by decide, by decide⟩ (fun c4 => absurd c4 (by decide)) (fun c4 => ?_)
    refine j_aload_n C dX3_isMap_7 rfl ?_
    refine j_get (T := TX3) (N := 20) (fs := _) (v := .ref (o + 1)) C hwX3 hM.1 0 (by decide) rfl (index := 7) (ref := "TreePairsModel") (by decide +kernel) rfl rfl dX3_isMap_8 ?_
    refine j_iload_n C dX3_isMap_11 rfl ?_
    refine j_iald C hM.2.1 ⟨by omega, by omega⟩ dX3_isMap_12 ?_
    refine j_if_le (tgt := 20) C dX3_isMap_13 (by decide) hsa (fun c13 => ?_) (fun c13 => ?_)
    · skip
      refine j_iconst C dX3_isMap_20 ?_
      exact j_zreti C hr (Nat.le_refl _) (Nat.zero_le _) (Or.inl rfl) (by show (_ ∧ _) ∨ (_ ∧ _); omega) dX3_isMap_21
    · skip
      refine j_iconst C dX3_isMap_16 ?_
      refine j_goto (tgt := 21) C dX3_isMap_17 (by decide) ?_
      exact j_zreti C hr (Nat.le_refl _) (Nat.zero_le _) (Or.inr rfl) (by show (_ ∧ _) ∨ (_ ∧ _); omega) dX3_isMap_21
  · skip
    refine j_if_eq (tgt := 20) C dX3_isMap_4 (by decide) ⟨by decide, by decide⟩ (fun c4 => ?_) (fun c4 => absurd c4 (by decide))
    refine j_iconst C dX3_isMap_20 ?_
    exact j_zreti C hr (Nat.le_refl _) (Nat.zero_le _) (Or.inl rfl) (by show (_ ∧ _) ∨ (_ ∧ _); omega) dX3_isMap_21

set_option maxHeartbeats 4000000 in
set_option maxRecDepth 100000 in
/-- X3_put -/
theorem c_X3_put (l : Launch) (G : Gx) (o : Nat) (uh ud uc us uo ub uw ua ue ux : Int) (m0 m1 m3 m7 m8 m12 m13 m14 m15 m16 : Int → Int) (x y z w : Int) : Met l yX3_put wsX3_put ({ frames := 0, cells := 0, slots := 0, locals := 0 } : Room) (cPc G [.ref o, .long (zL x), .long (zL y), .long (zL z), .long (zL w)] (fun H => MP G H o uh ud uc us uo ub uw ua ue ux m0 m1 m3 m7 m8 m12 m13 m14 m15 m16 ∧ 0 ≤ us ∧ us < 64)) (qmV (fun H => MP G H o uh ud uc (us + 1) uo ub uw ua ue ux m0 m1 m3 (iup (iup (iup (iup m7 (4 * us) x) (4 * us + 1) y) (4 * us + 2) z) (4 * us + 3) w) m8 m12 m13 m14 m15 m16) (fun q : Nat => o ≤ q ∧ q < o + 11)) 0 0 (fun q : Nat => o ≤ q ∧ q < o + 11) := by
  refine Met.ofJ (cc := cX3_put) (maxL := 9) (ret := none) (lv0 := [(0, .ref o), (1, .long (zL x)), (3, .long (zL y)), (5, .long (zL z)), (7, .long (zL w))]) (by decide) rfl (Nat.le_of_ble_eq_true rfl) rfl ?_
  intro p e s m args below meth c C hr hnm hpre
  obtain ⟨hM, hu1, hu2⟩ := hpre
  have hwX3 : ∀ w ∈ u_ws RX3 TX3 20, w ∈ wsX3_put := by decide +kernel
  refine j_aload_n C dX3_put_0 rfl ?_
  refine j_get (T := TX3) (N := 20) (fs := _) (v := .ref (o + 4)) C hwX3 hM.1 7 (by decide) rfl (index := 19) (ref := "TreePairsModel") (by decide +kernel) rfl rfl dX3_put_1 ?_
  refine j_iconst C dX3_put_4 ?_
  refine j_aload_n C dX3_put_5 rfl ?_
  refine j_get (T := TX3) (N := 20) (fs := _) (v := .int (zI us)) C hwX3 hM.1 6 (by decide) rfl (index := 51) (ref := "TreePairsModel") (by decide +kernel) rfl rfl dX3_put_6 ?_
  refine j_imul C dX3_put_9 ?_
  refine j_lload_n C dX3_put_10 rfl ?_
  refine j_last C hM.2.2.2.2.1 ⟨by omega, by omega⟩ (by omega) dX3_put_11 (fun H1 hR hC => ?_)
  have hM := hM.st_work hR hC
  refine j_aload_n C dX3_put_12 rfl ?_
  refine j_get (T := TX3) (N := 20) (fs := _) (v := .ref (o + 4)) C hwX3 hM.1 7 (by decide) rfl (index := 19) (ref := "TreePairsModel") (by decide +kernel) rfl rfl dX3_put_13 ?_
  refine j_iconst C dX3_put_16 ?_
  refine j_aload_n C dX3_put_17 rfl ?_
  refine j_get (T := TX3) (N := 20) (fs := _) (v := .int (zI us)) C hwX3 hM.1 6 (by decide) rfl (index := 51) (ref := "TreePairsModel") (by decide +kernel) rfl rfl dX3_put_18 ?_
  refine j_imul C dX3_put_21 ?_
  refine j_iconst C dX3_put_22 ?_
  refine j_iadd C dX3_put_23 ?_
  refine j_lload_n C dX3_put_24 rfl ?_
  refine j_last C hM.2.2.2.2.1 ⟨by omega, by omega⟩ (by omega) dX3_put_25 (fun H2 hR hC => ?_)
  have hM := hM.st_work hR hC
  refine j_aload_n C dX3_put_26 rfl ?_
  refine j_get (T := TX3) (N := 20) (fs := _) (v := .ref (o + 4)) C hwX3 hM.1 7 (by decide) rfl (index := 19) (ref := "TreePairsModel") (by decide +kernel) rfl rfl dX3_put_27 ?_
  refine j_iconst C dX3_put_30 ?_
  refine j_aload_n C dX3_put_31 rfl ?_
  refine j_get (T := TX3) (N := 20) (fs := _) (v := .int (zI us)) C hwX3 hM.1 6 (by decide) rfl (index := 51) (ref := "TreePairsModel") (by decide +kernel) rfl rfl dX3_put_32 ?_
  refine j_imul C dX3_put_35 ?_
  refine j_iconst C dX3_put_36 ?_
  refine j_iadd C dX3_put_37 ?_
  refine j_lload C dX3_put_38 rfl ?_
  refine j_last C hM.2.2.2.2.1 ⟨by omega, by omega⟩ (by omega) dX3_put_40 (fun H3 hR hC => ?_)
  have hM := hM.st_work hR hC
  refine j_aload_n C dX3_put_41 rfl ?_
  refine j_get (T := TX3) (N := 20) (fs := _) (v := .ref (o + 4)) C hwX3 hM.1 7 (by decide) rfl (index := 19) (ref := "TreePairsModel") (by decide +kernel) rfl rfl dX3_put_42 ?_
  refine j_iconst C dX3_put_45 ?_
  refine j_aload_n C dX3_put_46 rfl ?_
  refine j_get (T := TX3) (N := 20) (fs := _) (v := .int (zI us)) C hwX3 hM.1 6 (by decide) rfl (index := 51) (ref := "TreePairsModel") (by decide +kernel) rfl rfl dX3_put_47 ?_
  refine j_imul C dX3_put_50 ?_
  refine j_iconst C dX3_put_51 ?_
  refine j_iadd C dX3_put_52 ?_
  refine j_lload C dX3_put_53 rfl ?_
  refine j_last C hM.2.2.2.2.1 ⟨by omega, by omega⟩ (by omega) dX3_put_55 (fun H4 hR hC => ?_)
  have hM := hM.st_work hR hC
  refine j_aload_n C dX3_put_56 rfl ?_
  refine j_dup C dX3_put_57 rfl ?_
  refine j_get (T := TX3) (N := 20) (fs := _) (v := .int (zI us)) C hwX3 hM.1 6 (by decide) rfl (index := 51) (ref := "TreePairsModel") (by decide +kernel) rfl rfl dX3_put_58 ?_
  refine j_iconst C dX3_put_61 ?_
  refine j_iadd C dX3_put_62 ?_
  refine j_put (T := TX3) (N := 20) (fs' := [.ref (o + 1), .ref (o + 2), .int (zI uh), .ref (o + 3), .int (zI ud), .long (zL uc), .int (zI (us + 1)), .ref (o + 4), .ref (o + 5), .int (zI uo), .int (zI ub), .int (zI uw), .ref (o + 6), .ref (o + 7), .ref (o + 8), .ref (o + 9), .ref (o + 10), .long (zL ua), .long (zL ue), .long (zL ux)]) (ty := .int) C tyX3 tyX3_ok nmX3 hwX3 hM.1 6 (by decide) rfl (index := 51) (ref := "TreePairsModel") (by decide +kernel) rfl rfl (by decide +kernel) rfl rfl (Nat.le_of_ble_eq_true rfl) rfl (by omega) dX3_put_63 (fun H5 hO hC => ?_)
  have hM := hM.put_size hO hC
  exact j_vret C hr (Nat.le_refl _) (Nat.zero_le _) hM dX3_put_66

set_option maxHeartbeats 4000000 in
set_option maxRecDepth 100000 in
/-- X3_load -/
theorem c_X3_load (l : Launch) (G : Gx) (o : Nat) (uh ud uc us uo ub uw ua ue ux : Int) (m0 m1 m3 m7 m8 m12 m13 m14 m15 m16 : Int → Int) (a : Int) (L : List Q4) : Met l yX3_load wsX3_load ({ frames := 1, cells := 0, slots := 0, locals := 28 } : Room) (cPc G [.ref o, .int (zI a)] (fun H => MP G H o uh ud uc us uo ub uw ua ue ux m0 m1 m3 m7 m8 m12 m13 m14 m15 m16 ∧ (0 ≤ a ∧ a < 12) ∧ m0 a = L.length ∧ L.length ≤ 24 ∧ (∀ q ∈ L, LQ 23 q) ∧ R4 L (fun k => m1 (96 * a + k)))) (qmV (fun H => ∃ m7', MP G H o uh ud uc (L.length : Int) uo ub uw ua ue ux m0 m1 m3 m7' m8 m12 m13 m14 m15 m16 ∧ R4 L m7') (fun q : Nat => o ≤ q ∧ q < o + 11)) 0 0 (fun q : Nat => o ≤ q ∧ q < o + 11) := by
  refine Met.ofJ (cc := cX3_load) (maxL := 4) (ret := none) (lv0 := [(0, .ref o), (1, .int (zI a))]) (by decide) rfl (Nat.le_of_ble_eq_true rfl) rfl ?_
  intro p e s m args below meth c C hr hnm hpre
  obtain ⟨hM, ⟨ha0, ha1⟩, hml, hll, hB, hR⟩ := hpre
  have hwX3 : ∀ w ∈ u_ws RX3 TX3 20, w ∈ wsX3_load := by decide +kernel
  refine j_aload_n C dX3_load_0 rfl ?_
  refine j_iconst C dX3_load_1 ?_
  refine j_put (T := TX3) (N := 20) (fs' := [.ref (o + 1), .ref (o + 2), .int (zI uh), .ref (o + 3), .int (zI ud), .long (zL uc), .int (zI 0), .ref (o + 4), .ref (o + 5), .int (zI uo), .int (zI ub), .int (zI uw), .ref (o + 6), .ref (o + 7), .ref (o + 8), .ref (o + 9), .ref (o + 10), .long (zL ua), .long (zL ue), .long (zL ux)]) (ty := .int) C tyX3 tyX3_ok nmX3 hwX3 hM.1 6 (by decide) rfl (index := 51) (ref := "TreePairsModel") (by decide +kernel) rfl rfl (by decide +kernel) rfl rfl (Nat.le_of_ble_eq_true rfl) rfl (by omega) dX3_load_2 (fun H1 hO hC => ?_)
  have hM := hM.put_size hO hC
  refine j_iconst C dX3_load_5 ?_
  refine j_istore_n (lv' := [(0, .ref o), (1, .int (zI a)), (2, .int (zI 0))]) C dX3_load_6 (by decide) rfl ?_
  have K7 : ∀ (fu7 : Nat) (i : Int) (m7 : Int → Int) (Hl1 : Heap), (L.length - i).toNat < fu7 → MP G Hl1 o uh ud uc i uo ub uw ua ue ux m0 m1 m3 m7 m8 m12 m13 m14 m15 m16 → 0 ≤ i ∧ i ≤ L.length → R4 (L.take i.toNat) m7 → JJ p l e ({ frames := 1, cells := 0, slots := 0, locals := 28 } : Room) s m args below meth c (MQ below (qmV (fun H => ∃ m7', MP G H o uh ud uc (L.length : Int) uo ub uw ua ue ux m0 m1 m3 m7' m8 m12 m13 m14 m15 m16 ∧ R4 L m7') (fun q : Nat => o ≤ q ∧ q < o + 11)) args s 0 0 (fun q : Nat => o ≤ q ∧ q < o + 11)) (fun q : Nat => o ≤ q ∧ q < o + 11) 4 Hl1 0 0 7 [(0, .ref o), (1, .int (zI a)), (2, .int (zI i))] [] := by
    intro fu7
    induction fu7 with
    | zero => intro i m7 Hl1 hm7 hM hi hL; exact absurd hm7 (Nat.not_lt_zero _)
    | succ fu7 ih7 =>
      intro i m7 Hl1 hm7 hM hi hL
      refine j_iload_n C dX3_load_7 rfl ?_
      refine j_aload_n C dX3_load_8 rfl ?_
      refine j_get (T := TX3) (N := 20) (fs := _) (v := .ref (o + 1)) C hwX3 hM.1 0 (by decide) rfl (index := 7) (ref := "TreePairsModel") (by decide +kernel) rfl rfl dX3_load_9 ?_
      refine j_iload_n C dX3_load_12 rfl ?_
      refine j_iald C hM.2.1 ⟨by omega, by omega⟩ dX3_load_13 ?_
      refine j_icmp_ge (tgt := 70) C dX3_load_14 (by decide) ⟨by omega, by omega⟩ ⟨by omega, by omega⟩ (fun c14 => ?_) (fun c14 => ?_)
      · skip
        exact j_vret C hr (Nat.le_refl _) (Nat.zero_le _) ⟨m7, (by rw [show (L.length : Int) = i by omega]; exact hM), (by rw [take_all L (by omega)] at hL; exact hL)⟩ dX3_load_70
      · skip
        obtain ⟨hb1, hb2⟩ := R4.bnd hR hB hi.1 (by omega)
        have hb1 := hb1.b23
        have hb2 := hb2.b23
        simp only [← Int.add_assoc] at hb1 hb2
        refine j_bipush C dX3_load_17 (by decide) ?_
        refine j_iload_n C dX3_load_19 rfl ?_
        refine j_imul C dX3_load_20 ?_
        refine j_iconst C dX3_load_21 ?_
        refine j_iload_n C dX3_load_22 rfl ?_
        refine j_imul C dX3_load_23 ?_
        refine j_iadd C dX3_load_24 ?_
        refine j_istore_n (lv' := [(0, .ref o), (1, .int (zI a)), (2, .int (zI i)), (3, .int (zI ((96 * a) + (4 * i))))]) C dX3_load_25 (by decide) rfl ?_
        refine j_aload_n C dX3_load_26 rfl ?_
        refine j_aload_n C dX3_load_27 rfl ?_
        refine j_get (T := TX3) (N := 20) (fs := _) (v := .ref (o + 2)) C hwX3 hM.1 1 (by decide) rfl (index := 13) (ref := "TreePairsModel") (by decide +kernel) rfl rfl dX3_load_28 ?_
        refine j_iload_n C dX3_load_31 rfl ?_
        refine j_iald C hM.2.2.1 ⟨by omega, by omega⟩ dX3_load_32 ?_
        refine j_i2l C dX3_load_33 ⟨by omega, by omega⟩ ?_
        refine j_aload_n C dX3_load_34 rfl ?_
        refine j_get (T := TX3) (N := 20) (fs := _) (v := .ref (o + 2)) C hwX3 hM.1 1 (by decide) rfl (index := 13) (ref := "TreePairsModel") (by decide +kernel) rfl rfl dX3_load_35 ?_
        refine j_iload_n C dX3_load_38 rfl ?_
        refine j_iconst C dX3_load_39 ?_
        refine j_iadd C dX3_load_40 ?_
        refine j_iald C hM.2.2.1 ⟨by omega, by omega⟩ dX3_load_41 ?_
        refine j_i2l C dX3_load_42 ⟨by omega, by omega⟩ ?_
        refine j_aload_n C dX3_load_43 rfl ?_
        refine j_get (T := TX3) (N := 20) (fs := _) (v := .ref (o + 2)) C hwX3 hM.1 1 (by decide) rfl (index := 13) (ref := "TreePairsModel") (by decide +kernel) rfl rfl dX3_load_44 ?_
        refine j_iload_n C dX3_load_47 rfl ?_
        refine j_iconst C dX3_load_48 ?_
        refine j_iadd C dX3_load_49 ?_
        refine j_iald C hM.2.2.1 ⟨by omega, by omega⟩ dX3_load_50 ?_
        refine j_i2l C dX3_load_51 ⟨by omega, by omega⟩ ?_
        refine j_aload_n C dX3_load_52 rfl ?_
        refine j_get (T := TX3) (N := 20) (fs := _) (v := .ref (o + 2)) C hwX3 hM.1 1 (by decide) rfl (index := 13) (ref := "TreePairsModel") (by decide +kernel) rfl rfl dX3_load_53 ?_
        refine j_iload_n C dX3_load_56 rfl ?_
        refine j_iconst C dX3_load_57 ?_
        refine j_iadd C dX3_load_58 ?_
        refine j_iald C hM.2.2.1 ⟨by omega, by omega⟩ dX3_load_59 ?_
        refine j_i2l C dX3_load_60 ⟨by omega, by omega⟩ ?_
        refine j_callmV (jrunV (rest := []) (As := [.long (zL (m1 ((96 * a) + (4 * i)))), .long (zL (m1 (((96 * a) + (4 * i)) + 1))), .long (zL (m1 (((96 * a) + (4 * i)) + 2))), .long (zL (m1 (((96 * a) + (4 * i)) + 3)))]) C (c_X3_put l G o uh ud uc i uo ub uw ua ue ux m0 m1 m3 m7 m8 m12 m13 m14 m15 m16 (m1 (96 * a + 4 * i)) (m1 (96 * a + 4 * i + 1)) (m1 (96 * a + 4 * i + 2)) (m1 (96 * a + 4 * i + 3))) gX3_load_X3_put rfl 4 (by decide +kernel) rfl rfl ⟨Nat.le_of_ble_eq_true rfl, Nat.le_of_ble_eq_true rfl⟩ hM.1 rfl ⟨hM, by omega, by omega⟩ rfl rfl (Nat.le_of_ble_eq_true rfl) ⟨Nat.le_of_ble_eq_true rfl, Nat.le_of_ble_eq_true rfl⟩ dX3_load_61) (by intro q hq; (try dsimp only at hq ⊢); omega) (fun H2 h61 hF => ?_)
        have hM := h61
        refine j_iinc (lv' := [(0, .ref o), (1, .int (zI a)), (2, .int (zI (i + 1))), (3, .int (zI ((96 * a) + (4 * i))))]) C dX3_load_64 rfl (by decide) rfl ?_
        refine j_goto (tgt := 7) C dX3_load_67 (by decide) ?_
        exact JJ.drop (lv' := [(0, .ref o), (1, .int (zI a)), (2, .int (zI (i + 1)))]) rfl (ih7 (i + 1) (iup (iup (iup (iup m7 (4 * i) (m1 (96 * a + 4 * i))) (4 * i + 1) (m1 (96 * a + 4 * i + 1))) (4 * i + 2) (m1 (96 * a + 4 * i + 2))) (4 * i + 3) (m1 (96 * a + 4 * i + 3))) H2 (by omega) hM ⟨by omega, by omega⟩ (by rw [take_q L hi.1 (by omega)]; have hq := hR i hi.1 (by omega); simp only [← Int.add_assoc] at hq; rw [hq]; exact hL.app (take_len L hi.1 hi.2).symm))
  exact JJ.drop (lv' := [(0, .ref o), (1, .int (zI a)), (2, .int (zI 0))]) rfl (K7 (((L.length - (0 : Int)).toNat) + 1) 0 m7 H1 (Nat.lt_succ_self _) hM ⟨by omega, by omega⟩ R4.nil)
