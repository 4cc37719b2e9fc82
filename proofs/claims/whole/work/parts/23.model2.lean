set_option maxHeartbeats 4000000 in
set_option maxRecDepth 100000 in
/-- X3_store -/
theorem c_X3_store (l : Launch) (G : Gx) (o : Nat) (uh ud uc us uo ub uw ua ue ux : Int) (m0 m1 m3 m7 m8 m12 m13 m14 m15 m16 : Int → Int) (t : Int) : Met l yX3_store wsX3_store ({ frames := 0, cells := 0, slots := 0, locals := 0 } : Room) (cPc G [.ref o, .int (zI t)] (fun H => MP G H o uh ud uc us uo ub uw ua ue ux m0 m1 m3 m7 m8 m12 m13 m14 m15 m16 ∧ (0 ≤ t ∧ t < 12) ∧ (0 ≤ us ∧ us ≤ 24))) (qmV (fun H => MP G H o uh ud uc us uo ub uw ua ue ux (iup m0 t us) (cpf m1 m7 (96 * t) (4 * us)) m3 m7 m8 m12 m13 m14 m15 m16) (fun q : Nat => o ≤ q ∧ q < o + 11)) 0 0 (fun q : Nat => o ≤ q ∧ q < o + 11) := by
  refine Met.ofJ (cc := cX3_store) (maxL := 3) (ret := none) (lv0 := [(0, .ref o), (1, .int (zI t))]) (by decide) rfl (Nat.le_of_ble_eq_true rfl) rfl ?_
  intro p e s m args below meth c C hr hnm hpre
  obtain ⟨hM, ⟨h1, h2⟩, hu1, hu2⟩ := hpre
  have hwX3 : ∀ w ∈ u_ws RX3 TX3 20, w ∈ wsX3_store := by decide +kernel
  refine j_aload_n C dX3_store_0 rfl ?_
  refine j_get (T := TX3) (N := 20) (fs := _) (v := .ref (o + 1)) C hwX3 hM.1 0 (by decide) rfl (index := 7) (ref := "TreePairsModel") (by decide +kernel) rfl rfl dX3_store_1 ?_
  refine j_iload_n C dX3_store_4 rfl ?_
  refine j_aload_n C dX3_store_5 rfl ?_
  refine j_get (T := TX3) (N := 20) (fs := _) (v := .int (zI us)) C hwX3 hM.1 6 (by decide) rfl (index := 51) (ref := "TreePairsModel") (by decide +kernel) rfl rfl dX3_store_6 ?_
  refine j_iast C hM.2.1 ⟨by omega, by omega⟩ (by omega) dX3_store_9 (fun H1 hR hC => ?_)
  have hM := hM.st_sizes hR hC
  refine j_iconst C dX3_store_10 ?_
  refine j_istore_n (lv' := [(0, .ref o), (1, .int (zI t)), (2, .int (zI 0))]) C dX3_store_11 (by decide) rfl ?_
  have K12 : ∀ (fu12 : Nat) (k : Int) (Hl1 : Heap), (4 * us - k).toNat < fu12 → MP G Hl1 o uh ud uc us uo ub uw ua ue ux (iup m0 t us) (cpf m1 m7 (96 * t) k) m3 m7 m8 m12 m13 m14 m15 m16 → 0 ≤ k ∧ k ≤ 4 * us → JJ p l e ({ frames := 0, cells := 0, slots := 0, locals := 0 } : Room) s m args below meth c (MQ below (qmV (fun H => MP G H o uh ud uc us uo ub uw ua ue ux (iup m0 t us) (cpf m1 m7 (96 * t) (4 * us)) m3 m7 m8 m12 m13 m14 m15 m16) (fun q : Nat => o ≤ q ∧ q < o + 11)) args s 0 0 (fun q : Nat => o ≤ q ∧ q < o + 11)) (fun q : Nat => o ≤ q ∧ q < o + 11) 3 Hl1 0 0 12 [(0, .ref o), (1, .int (zI t)), (2, .int (zI k))] [] := by
    intro fu12
    induction fu12 with
    | zero => intro k Hl1 hm12 hM hk; exact absurd hm12 (Nat.not_lt_zero _)
    | succ fu12 ih12 =>
      intro k Hl1 hm12 hM hk
      refine j_iload_n C dX3_store_12 rfl ?_
      refine j_iconst C dX3_store_13 ?_
      refine j_aload_n C dX3_store_14 rfl ?_
      refine j_get (T := TX3) (N := 20) (fs := _) (v := .int (zI us)) C hwX3 hM.1 6 (by decide) rfl (index := 51) (ref := "TreePairsModel") (by decide +kernel) rfl rfl dX3_store_15 ?_
      refine j_imul C dX3_store_18 ?_
      refine j_icmp_ge (tgt := 46) C dX3_store_19 (by decide) ⟨by omega, by omega⟩ ⟨by omega, by omega⟩ (fun c19 => ?_) (fun c19 => ?_)
      · skip
        exact j_vret C hr (Nat.le_refl _) (Nat.zero_le _) (by rw [show 4 * us = k by omega]; exact hM) dX3_store_46
      · skip
        refine j_aload_n C dX3_store_22 rfl ?_
        refine j_get (T := TX3) (N := 20) (fs := _) (v := .ref (o + 2)) C hwX3 hM.1 1 (by decide) rfl (index := 13) (ref := "TreePairsModel") (by decide +kernel) rfl rfl dX3_store_23 ?_
        refine j_bipush C dX3_store_26 (by decide) ?_
        refine j_iload_n C dX3_store_28 rfl ?_
        refine j_imul C dX3_store_29 ?_
        refine j_iload_n C dX3_store_30 rfl ?_
        refine j_iadd C dX3_store_31 ?_
        refine j_aload_n C dX3_store_32 rfl ?_
        refine j_get (T := TX3) (N := 20) (fs := _) (v := .ref (o + 4)) C hwX3 hM.1 7 (by decide) rfl (index := 19) (ref := "TreePairsModel") (by decide +kernel) rfl rfl dX3_store_33 ?_
        refine j_iload_n C dX3_store_36 rfl ?_
        refine j_lald C hM.2.2.2.2.1 ⟨by omega, by omega⟩ dX3_store_37 ?_
        refine j_l2i C dX3_store_38 ?_
        refine j_iast C hM.2.2.1 ⟨by omega, by omega⟩ (by omega) dX3_store_39 (fun H2 hR hC => ?_)
        have hM := hM.st_pairOf hR hC
        refine j_iinc (lv' := [(0, .ref o), (1, .int (zI t)), (2, .int (zI (k + 1)))]) C dX3_store_40 rfl (by decide) rfl ?_
        refine j_goto (tgt := 12) C dX3_store_43 (by decide) ?_
        exact JJ.drop (lv' := [(0, .ref o), (1, .int (zI t)), (2, .int (zI (k + 1)))]) rfl (ih12 (k + 1) H2 (by omega) (by rw [← cpf_s _ _ _ hk.1]; exact hM) ⟨by omega, by omega⟩)
  exact JJ.drop (lv' := [(0, .ref o), (1, .int (zI t)), (2, .int (zI 0))]) rfl (K12 (((4 * us - (0 : Int)).toNat) + 1) 0 H1 (Nat.lt_succ_self _) (by rw [cpf_0]; exact hM) ⟨by omega, by omega⟩)

set_option maxHeartbeats 4000000 in
set_option maxRecDepth 100000 in
/-- X3_aside -/
theorem c_X3_aside (l : Launch) (G : Gx) (o : Nat) (uh ud uc us uo ub uw ua ue ux : Int) (m0 m1 m3 m7 m8 m12 m13 m14 m15 m16 : Int → Int) : Met l yX3_aside wsX3_aside ({ frames := 0, cells := 0, slots := 0, locals := 0 } : Room) (cPc G [.ref o] (fun H => MP G H o uh ud uc us uo ub uw ua ue ux m0 m1 m3 m7 m8 m12 m13 m14 m15 m16 ∧ (0 ≤ us ∧ us ≤ 64))) (qmV (fun H => MP G H o uh ud uc us us ub uw ua ue ux m0 m1 m3 m7 (cpf m8 m7 0 (4 * us)) m12 m13 m14 m15 m16) (fun q : Nat => o ≤ q ∧ q < o + 11)) 0 0 (fun q : Nat => o ≤ q ∧ q < o + 11) := by
  refine Met.ofJ (cc := cX3_aside) (maxL := 2) (ret := none) (lv0 := [(0, .ref o)]) (by decide) rfl (Nat.le_of_ble_eq_true rfl) rfl ?_
  intro p e s m args below meth c C hr hnm hpre
  obtain ⟨hM, hu1, hu2⟩ := hpre
  have hwX3 : ∀ w ∈ u_ws RX3 TX3 20, w ∈ wsX3_aside := by decide +kernel
  refine j_aload_n C dX3_aside_0 rfl ?_
  refine j_aload_n C dX3_aside_1 rfl ?_
  refine j_get (T := TX3) (N := 20) (fs := _) (v := .int (zI us)) C hwX3 hM.1 6 (by decide) rfl (index := 51) (ref := "TreePairsModel") (by decide +kernel) rfl rfl dX3_aside_2 ?_
  refine j_put (T := TX3) (N := 20) (fs' := [.ref (o + 1), .ref (o + 2), .int (zI uh), .ref (o + 3), .int (zI ud), .long (zL uc), .int (zI us), .ref (o + 4), .ref (o + 5), .int (zI us), .int (zI ub), .int (zI uw), .ref (o + 6), .ref (o + 7), .ref (o + 8), .ref (o + 9), .ref (o + 10), .long (zL ua), .long (zL ue), .long (zL ux)]) (ty := .int) C tyX3 tyX3_ok nmX3 hwX3 hM.1 9 (by decide) rfl (index := 59) (ref := "TreePairsModel") (by decide +kernel) rfl rfl (by decide +kernel) rfl rfl (Nat.le_of_ble_eq_true rfl) rfl (by omega) dX3_aside_5 (fun H1 hO hC => ?_)
  have hM := hM.put_otherSize hO hC
  refine j_iconst C dX3_aside_8 ?_
  refine j_istore_n (lv' := [(0, .ref o), (1, .int (zI 0))]) C dX3_aside_9 (by decide) rfl ?_
  have K10 : ∀ (fu10 : Nat) (k : Int) (Hl1 : Heap), (4 * us - k).toNat < fu10 → MP G Hl1 o uh ud uc us us ub uw ua ue ux m0 m1 m3 m7 (cpf m8 m7 0 k) m12 m13 m14 m15 m16 → 0 ≤ k ∧ k ≤ 4 * us → JJ p l e ({ frames := 0, cells := 0, slots := 0, locals := 0 } : Room) s m args below meth c (MQ below (qmV (fun H => MP G H o uh ud uc us us ub uw ua ue ux m0 m1 m3 m7 (cpf m8 m7 0 (4 * us)) m12 m13 m14 m15 m16) (fun q : Nat => o ≤ q ∧ q < o + 11)) args s 0 0 (fun q : Nat => o ≤ q ∧ q < o + 11)) (fun q : Nat => o ≤ q ∧ q < o + 11) 2 Hl1 0 0 10 [(0, .ref o), (1, .int (zI k))] [] := by
    intro fu10
    induction fu10 with
    | zero => intro k Hl1 hm10 hM hk; exact absurd hm10 (Nat.not_lt_zero _)
    | succ fu10 ih10 =>
      intro k Hl1 hm10 hM hk
      refine j_iload_n C dX3_aside_10 rfl ?_
      refine j_iconst C dX3_aside_11 ?_
      refine j_aload_n C dX3_aside_12 rfl ?_
      refine j_get (T := TX3) (N := 20) (fs := _) (v := .int (zI us)) C hwX3 hM.1 6 (by decide) rfl (index := 51) (ref := "TreePairsModel") (by decide +kernel) rfl rfl dX3_aside_13 ?_
      refine j_imul C dX3_aside_16 ?_
      refine j_icmp_ge (tgt := 38) C dX3_aside_17 (by decide) ⟨by omega, by omega⟩ ⟨by omega, by omega⟩ (fun c17 => ?_) (fun c17 => ?_)
      · skip
        exact j_vret C hr (Nat.le_refl _) (Nat.zero_le _) (by rw [show 4 * us = k by omega]; exact hM) dX3_aside_38
      · skip
        refine j_aload_n C dX3_aside_20 rfl ?_
        refine j_get (T := TX3) (N := 20) (fs := _) (v := .ref (o + 5)) C hwX3 hM.1 8 (by decide) rfl (index := 23) (ref := "TreePairsModel") (by decide +kernel) rfl rfl dX3_aside_21 ?_
        refine j_iload_n C dX3_aside_24 rfl ?_
        refine j_aload_n C dX3_aside_25 rfl ?_
        refine j_get (T := TX3) (N := 20) (fs := _) (v := .ref (o + 4)) C hwX3 hM.1 7 (by decide) rfl (index := 19) (ref := "TreePairsModel") (by decide +kernel) rfl rfl dX3_aside_26 ?_
        refine j_iload_n C dX3_aside_29 rfl ?_
        refine j_lald C hM.2.2.2.2.1 ⟨by omega, by omega⟩ dX3_aside_30 ?_
        refine j_last C hM.2.2.2.2.2.1 ⟨by omega, by omega⟩ (by omega) dX3_aside_31 (fun H2 hR hC => ?_)
        have hM := hM.st_other hR hC
        refine j_iinc (lv' := [(0, .ref o), (1, .int (zI (k + 1)))]) C dX3_aside_32 rfl (by decide) rfl ?_
        refine j_goto (tgt := 10) C dX3_aside_35 (by decide) ?_
        exact JJ.drop (lv' := [(0, .ref o), (1, .int (zI (k + 1)))]) rfl (ih10 (k + 1) H2 (by omega) (by rw [← cpf_s _ _ _ hk.1, Int.zero_add]; exact hM) ⟨by omega, by omega⟩)
  exact JJ.drop (lv' := [(0, .ref o), (1, .int (zI 0))]) rfl (K10 (((4 * us - (0 : Int)).toNat) + 1) 0 H1 (Nat.lt_succ_self _) (by rw [cpf_0]; exact hM) ⟨by omega, by omega⟩)

set_option maxHeartbeats 4000000 in
set_option maxRecDepth 100000 in
/-- X3_nothing -/
theorem c_X3_nothing (l : Launch) (G : Gx) (o : Nat) (uh ud uc us uo ub uw ua ue ux : Int) (m0 m1 m3 m7 m8 m12 m13 m14 m15 m16 : Int → Int) : Met l yX3_nothing wsX3_nothing ({ frames := 1, cells := 0, slots := 0, locals := 28 } : Room) (cPc G [.ref o] (fun H => MP G H o uh ud uc us uo ub uw ua ue ux m0 m1 m3 m7 m8 m12 m13 m14 m15 m16)) (qmV (fun H => ∃ m7', MP G H o uh ud uc 1 uo ub uw ua ue ux m0 m1 m3 m7' m8 m12 m13 m14 m15 m16 ∧ R4 [(0, 0, 0, 0)] m7') (fun q : Nat => o ≤ q ∧ q < o + 11)) 0 0 (fun q : Nat => o ≤ q ∧ q < o + 11) := by
  refine Met.ofJ (cc := cX3_nothing) (maxL := 1) (ret := none) (lv0 := [(0, .ref o)]) (by decide) rfl (Nat.le_of_ble_eq_true rfl) rfl ?_
  intro p e s m args below meth c C hr hnm hpre
  have hwX3 : ∀ w ∈ u_ws RX3 TX3 20, w ∈ wsX3_nothing := by decide +kernel
  have hM := hpre
  refine j_aload_n C dX3_nothing_0 rfl ?_
  refine j_iconst C dX3_nothing_1 ?_
  refine j_put (T := TX3) (N := 20) (fs' := [.ref (o + 1), .ref (o + 2), .int (zI uh), .ref (o + 3), .int (zI ud), .long (zL uc), .int (zI 0), .ref (o + 4), .ref (o + 5), .int (zI uo), .int (zI ub), .int (zI uw), .ref (o + 6), .ref (o + 7), .ref (o + 8), .ref (o + 9), .ref (o + 10), .long (zL ua), .long (zL ue), .long (zL ux)]) (ty := .int) C tyX3 tyX3_ok nmX3 hwX3 hM.1 6 (by decide) rfl (index := 51) (ref := "TreePairsModel") (by decide +kernel) rfl rfl (by decide +kernel) rfl rfl (Nat.le_of_ble_eq_true rfl) rfl (by omega) dX3_nothing_2 (fun H1 hO hC => ?_)
  have hM := hM.put_size hO hC
  refine j_aload_n C dX3_nothing_5 rfl ?_
  refine j_lconst (z := 0) C dX3_nothing_6 rfl ?_
  refine j_lconst (z := 0) C dX3_nothing_7 rfl ?_
  refine j_lconst (z := 0) C dX3_nothing_8 rfl ?_
  refine j_lconst (z := 0) C dX3_nothing_9 rfl ?_
  refine j_callmV (jrunV (rest := []) (As := [.long (zL 0), .long (zL 0), .long (zL 0), .long (zL 0)]) C (c_X3_put l G o uh ud uc (0 : Int) uo ub uw ua ue ux m0 m1 m3 m7 m8 m12 m13 m14 m15 m16 0 0 0 0) gX3_nothing_X3_put rfl 4 (by decide +kernel) rfl rfl ⟨Nat.le_of_ble_eq_true rfl, Nat.le_of_ble_eq_true rfl⟩ hM.1 rfl ⟨hM, by decide, by decide⟩ rfl rfl (Nat.le_of_ble_eq_true rfl) ⟨Nat.le_of_ble_eq_true rfl, Nat.le_of_ble_eq_true rfl⟩ dX3_nothing_10) (by intro q hq; (try dsimp only at hq ⊢); omega) (fun H2 h10 hF => ?_)
  have hM := h10
  exact j_vret C hr (Nat.le_refl _) (Nat.zero_le _) ⟨_, hM, R4.app (L := []) R4.nil rfl⟩ dX3_nothing_13

set_option maxHeartbeats 4000000 in
set_option maxRecDepth 100000 in
/-- X3_remove -/
theorem c_X3_remove (l : Launch) (G : Gx) (o : Nat) (uh ud uc us uo ub uw ua ue ux : Int) (m0 m1 m3 m7 m8 m12 m13 m14 m15 m16 : Int → Int) (i : Int) : Met l yX3_remove wsX3_remove ({ frames := 0, cells := 0, slots := 0, locals := 0 } : Room) (cPc G [.ref o, .int (zI i)] (fun H => MP G H o uh ud uc us uo ub uw ua ue ux m0 m1 m3 m7 m8 m12 m13 m14 m15 m16 ∧ (1 ≤ us ∧ us ≤ 64) ∧ (0 ≤ i ∧ i < us))) (qmV (fun H => MP G H o uh ud uc (us - 1) uo ub uw ua ue ux m0 m1 m3 (cpf m7 (fun q => m7 (4 * (us - 1) + q)) (4 * i) 4) m8 m12 m13 m14 m15 m16) (fun q : Nat => o ≤ q ∧ q < o + 11)) 0 0 (fun q : Nat => o ≤ q ∧ q < o + 11) := by
  refine Met.ofJ (cc := cX3_remove) (maxL := 3) (ret := none) (lv0 := [(0, .ref o), (1, .int (zI i))]) (by decide) rfl (Nat.le_of_ble_eq_true rfl) rfl ?_
  intro p e s m args below meth c C hr hnm hpre
  obtain ⟨hM, ⟨hu1, hu2⟩, hi1, hi2⟩ := hpre
  have hwX3 : ∀ w ∈ u_ws RX3 TX3 20, w ∈ wsX3_remove := by decide +kernel
  refine j_aload_n C dX3_remove_0 rfl ?_
  refine j_dup C dX3_remove_1 rfl ?_
  refine j_get (T := TX3) (N := 20) (fs := _) (v := .int (zI us)) C hwX3 hM.1 6 (by decide) rfl (index := 51) (ref := "TreePairsModel") (by decide +kernel) rfl rfl dX3_remove_2 ?_
  refine j_iconst C dX3_remove_5 ?_
  refine j_isub C dX3_remove_6 ?_
  refine j_put (T := TX3) (N := 20) (fs' := [.ref (o + 1), .ref (o + 2), .int (zI uh), .ref (o + 3), .int (zI ud), .long (zL uc), .int (zI (us - 1)), .ref (o + 4), .ref (o + 5), .int (zI uo), .int (zI ub), .int (zI uw), .ref (o + 6), .ref (o + 7), .ref (o + 8), .ref (o + 9), .ref (o + 10), .long (zL ua), .long (zL ue), .long (zL ux)]) (ty := .int) C tyX3 tyX3_ok nmX3 hwX3 hM.1 6 (by decide) rfl (index := 51) (ref := "TreePairsModel") (by decide +kernel) rfl rfl (by decide +kernel) rfl rfl (Nat.le_of_ble_eq_true rfl) rfl (by omega) dX3_remove_7 (fun H1 hO hC => ?_)
  have hM := hM.put_size hO hC
  refine j_iconst C dX3_remove_10 ?_
  refine j_istore_n (lv' := [(0, .ref o), (1, .int (zI i)), (2, .int (zI 0))]) C dX3_remove_11 (by decide) rfl ?_
  have K12 : ∀ (fu12 : Nat) (k : Int) (Hl1 : Heap), (4 - k).toNat < fu12 → MP G Hl1 o uh ud uc (us - 1) uo ub uw ua ue ux m0 m1 m3 (cpf m7 (fun q => m7 (4 * (us - 1) + q)) (4 * i) k) m8 m12 m13 m14 m15 m16 → 0 ≤ k ∧ k ≤ 4 → JJ p l e ({ frames := 0, cells := 0, slots := 0, locals := 0 } : Room) s m args below meth c (MQ below (qmV (fun H => MP G H o uh ud uc (us - 1) uo ub uw ua ue ux m0 m1 m3 (cpf m7 (fun q => m7 (4 * (us - 1) + q)) (4 * i) 4) m8 m12 m13 m14 m15 m16) (fun q : Nat => o ≤ q ∧ q < o + 11)) args s 0 0 (fun q : Nat => o ≤ q ∧ q < o + 11)) (fun q : Nat => o ≤ q ∧ q < o + 11) 3 Hl1 0 0 12 [(0, .ref o), (1, .int (zI i)), (2, .int (zI k))] [] := by
    intro fu12
    induction fu12 with
    | zero => intro k Hl1 hm12 hM hk; exact absurd hm12 (Nat.not_lt_zero _)
    | succ fu12 ih12 =>
      intro k Hl1 hm12 hM hk
      refine j_iload_n C dX3_remove_12 rfl ?_
      refine j_iconst C dX3_remove_13 ?_
      refine j_icmp_ge (tgt := 46) C dX3_remove_14 (by decide) ⟨by omega, by omega⟩ ⟨by decide, by decide⟩ (fun c14 => ?_) (fun c14 => ?_)
      · skip
        exact j_vret C hr (Nat.le_refl _) (Nat.zero_le _) (by have e : k = 4 := (by omega); subst e; exact hM) dX3_remove_46
      · skip
        have hv : cpf m7 (fun q => m7 (4 * (us - 1) + q)) (4 * i) k (4 * (us - 1) + k) = m7 (4 * (us - 1) + k) := cpf_out (by omega)
        refine j_aload_n C dX3_remove_17 rfl ?_
        refine j_get (T := TX3) (N := 20) (fs := _) (v := .ref (o + 4)) C hwX3 hM.1 7 (by decide) rfl (index := 19) (ref := "TreePairsModel") (by decide +kernel) rfl rfl dX3_remove_18 ?_
        refine j_iconst C dX3_remove_21 ?_
        refine j_iload_n C dX3_remove_22 rfl ?_
        refine j_imul C dX3_remove_23 ?_
        refine j_iload_n C dX3_remove_24 rfl ?_
        refine j_iadd C dX3_remove_25 ?_
        refine j_aload_n C dX3_remove_26 rfl ?_
        refine j_get (T := TX3) (N := 20) (fs := _) (v := .ref (o + 4)) C hwX3 hM.1 7 (by decide) rfl (index := 19) (ref := "TreePairsModel") (by decide +kernel) rfl rfl dX3_remove_27 ?_
        refine j_iconst C dX3_remove_30 ?_
        refine j_aload_n C dX3_remove_31 rfl ?_
        refine j_get (T := TX3) (N := 20) (fs := _) (v := .int (zI (us - 1))) C hwX3 hM.1 6 (by decide) rfl (index := 51) (ref := "TreePairsModel") (by decide +kernel) rfl rfl dX3_remove_32 ?_
        refine j_imul C dX3_remove_35 ?_
        refine j_iload_n C dX3_remove_36 rfl ?_
        refine j_iadd C dX3_remove_37 ?_
        refine j_lald C hM.2.2.2.2.1 ⟨by omega, by omega⟩ dX3_remove_38 ?_
        refine j_last C hM.2.2.2.2.1 ⟨by omega, by omega⟩ (by omega) dX3_remove_39 (fun H2 hR hC => ?_)
        have hM := hM.st_work hR hC
        refine j_iinc (lv' := [(0, .ref o), (1, .int (zI i)), (2, .int (zI (k + 1)))]) C dX3_remove_40 rfl (by decide) rfl ?_
        refine j_goto (tgt := 12) C dX3_remove_43 (by decide) ?_
        exact JJ.drop (lv' := [(0, .ref o), (1, .int (zI i)), (2, .int (zI (k + 1)))]) rfl (ih12 (k + 1) H2 (by omega) (by rw [← cpf_s _ _ _ hk.1, ← hv]; exact hM) ⟨by omega, by omega⟩)
  exact JJ.drop (lv' := [(0, .ref o), (1, .int (zI i)), (2, .int (zI 0))]) rfl (K12 (((4 - (0 : Int)).toNat) + 1) 0 H1 (Nat.lt_succ_self _) (by rw [cpf_0]; exact hM) ⟨by omega, by omega⟩)

set_option maxHeartbeats 4000000 in
set_option maxRecDepth 100000 in
/-- X3_isLeft -/
theorem c_X3_isLeft (l : Launch) (G : Gx) (o : Nat) (uh ud uc us uo ub uw ua ue ux : Int) (m0 m1 m3 m7 m8 m12 m13 m14 m15 m16 : Int → Int) (i j w : Int) : Met l yX3_isLeft wsX3_isLeft ({ frames := 0, cells := 0, slots := 0, locals := 0 } : Room) (cPc G [.ref o, .int (zI i), .int (zI j), .int (zI w)] (fun H => MP G H o uh ud uc us uo ub uw ua ue ux m0 m1 m3 m7 m8 m12 m13 m14 m15 m16 ∧ (0 ≤ i ∧ i < 64) ∧ (0 ≤ j ∧ j < 64) ∧ (0 ≤ w ∧ w ≤ 2) ∧ (Lf 46 (m7 (4 * i + w)) (m7 (4 * i + w + 1))) ∧ (Lf 46 (m7 (4 * j + w)) (m7 (4 * j + w + 1))))) (qI (fun r => (lo46 (m7 (4 * i + w)) (m7 (4 * i + w + 1)) < lo46 (m7 (4 * j + w)) (m7 (4 * j + w + 1)) ∧ r = 1) ∨ (¬ lo46 (m7 (4 * i + w)) (m7 (4 * i + w + 1)) < lo46 (m7 (4 * j + w)) (m7 (4 * j + w + 1)) ∧ r = 0))) 0 0 (fun _ => False) := by
  refine Met.ofJ (cc := cX3_isLeft) (maxL := 10) (ret := (some .boolean)) (lv0 := [(0, .ref o), (1, .int (zI i)), (2, .int (zI j)), (3, .int (zI w))]) (by decide) rfl (Nat.le_of_ble_eq_true rfl) rfl ?_
  intro p e s m args below meth c C hr hnm hpre
  obtain ⟨hM, hi, hj, hw, hA, hB⟩ := hpre
  have hwX3 : ∀ w ∈ u_ws RX3 TX3 20, w ∈ wsX3_isLeft := by decide +kernel
  have hb1 := hA.b46
  have hb2 := hB.b46
  refine j_aload_n C dX3_isLeft_0 rfl ?_
  refine j_get (T := TX3) (N := 20) (fs := _) (v := .ref (o + 4)) C hwX3 hM.1 7 (by decide) rfl (index := 19) (ref := "TreePairsModel") (by decide +kernel) rfl rfl dX3_isLeft_1 ?_
  refine j_iconst C dX3_isLeft_4 ?_
  refine j_iload_n C dX3_isLeft_5 rfl ?_
  refine j_imul C dX3_isLeft_6 ?_
  refine j_iload_n C dX3_isLeft_7 rfl ?_
  refine j_iadd C dX3_isLeft_8 ?_
  refine j_lald C hM.2.2.2.2.1 ⟨by omega, by omega⟩ dX3_isLeft_9 ?_
  refine j_lstore (lv' := [(0, .ref o), (1, .int (zI i)), (2, .int (zI j)), (3, .int (zI w)), (4, .long (zL (m7 ((4 * i) + w))))]) C dX3_isLeft_10 (by decide) rfl ?_
  refine j_aload_n C dX3_isLeft_12 rfl ?_
  refine j_get (T := TX3) (N := 20) (fs := _) (v := .ref (o + 4)) C hwX3 hM.1 7 (by decide) rfl (index := 19) (ref := "TreePairsModel") (by decide +kernel) rfl rfl dX3_isLeft_13 ?_
  refine j_iconst C dX3_isLeft_16 ?_
  refine j_iload_n C dX3_isLeft_17 rfl ?_
  refine j_imul C dX3_isLeft_18 ?_
  refine j_iload_n C dX3_isLeft_19 rfl ?_
  refine j_iadd C dX3_isLeft_20 ?_
  refine j_lald C hM.2.2.2.2.1 ⟨by omega, by omega⟩ dX3_isLeft_21 ?_
  refine j_lstore (lv' := [(0, .ref o), (1, .int (zI i)), (2, .int (zI j)), (3, .int (zI w)), (4, .long (zL (m7 ((4 * i) + w)))), (6, .long (zL (m7 ((4 * j) + w))))]) C dX3_isLeft_22 (by decide) rfl ?_
  refine j_lload C dX3_isLeft_24 rfl ?_
  refine j_lload C dX3_isLeft_26 rfl ?_
  refine j_lcmp_le (tgt := 37) C dX3_isLeft_28 dX3_isLeft_29 (by decide) ⟨by omega, by omega⟩ ⟨by omega, by omega⟩ (fun c28 => ?_) (fun c28 => ?_)
  · skip
    obtain ⟨hq1, hq2, hq3⟩ := lo_iff hA hB c28 (Int.le_refl _) hb2.2.1
    refine j_lload C dX3_isLeft_37 rfl ?_
    refine j_lstore (lv' := [(0, .ref o), (1, .int (zI i)), (2, .int (zI j)), (3, .int (zI w)), (4, .long (zL (m7 ((4 * i) + w)))), (6, .long (zL (m7 ((4 * j) + w)))), (8, .long (zL (m7 ((4 * j) + w))))]) C dX3_isLeft_39 (by decide) rfl ?_
    refine j_aload_n C dX3_isLeft_41 rfl ?_
    refine j_get (T := TX3) (N := 20) (fs := _) (v := .ref (o + 4)) C hwX3 hM.1 7 (by decide) rfl (index := 19) (ref := "TreePairsModel") (by decide +kernel) rfl rfl dX3_isLeft_42 ?_
    refine j_iconst C dX3_isLeft_45 ?_
    refine j_iload_n C dX3_isLeft_46 rfl ?_
    refine j_imul C dX3_isLeft_47 ?_
    refine j_iload_n C dX3_isLeft_48 rfl ?_
    refine j_iadd C dX3_isLeft_49 ?_
    refine j_iconst C dX3_isLeft_50 ?_
    refine j_iadd C dX3_isLeft_51 ?_
    refine j_lald C hM.2.2.2.2.1 ⟨by omega, by omega⟩ dX3_isLeft_52 ?_
    refine j_lload C dX3_isLeft_53 rfl ?_
    refine j_lload C dX3_isLeft_55 rfl ?_
    refine j_lsub C dX3_isLeft_57 ?_
    refine j_l2i C dX3_isLeft_58 ?_
    refine j_lshl C dX3_isLeft_59 ⟨by omega, by omega⟩ ?_
    refine j_aload_n C dX3_isLeft_60 rfl ?_
    refine j_get (T := TX3) (N := 20) (fs := _) (v := .ref (o + 4)) C hwX3 hM.1 7 (by decide) rfl (index := 19) (ref := "TreePairsModel") (by decide +kernel) rfl rfl dX3_isLeft_61 ?_
    refine j_iconst C dX3_isLeft_64 ?_
    refine j_iload_n C dX3_isLeft_65 rfl ?_
    refine j_imul C dX3_isLeft_66 ?_
    refine j_iload_n C dX3_isLeft_67 rfl ?_
    refine j_iadd C dX3_isLeft_68 ?_
    refine j_iconst C dX3_isLeft_69 ?_
    refine j_iadd C dX3_isLeft_70 ?_
    refine j_lald C hM.2.2.2.2.1 ⟨by omega, by omega⟩ dX3_isLeft_71 ?_
    refine j_lload C dX3_isLeft_72 rfl ?_
    refine j_lload C dX3_isLeft_74 rfl ?_
    refine j_lsub C dX3_isLeft_76 ?_
    refine j_l2i C dX3_isLeft_77 ?_
    refine j_lshl C dX3_isLeft_78 ⟨by omega, by omega⟩ ?_
    refine j_lcmp_ge (tgt := 87) C dX3_isLeft_79 dX3_isLeft_80 (by decide) hq1 hq2 (fun c79 => ?_) (fun c79 => ?_)
    · skip
      refine j_iconst C dX3_isLeft_87 ?_
      exact j_zreti C hr (Nat.le_refl _) (Nat.zero_le _) (Or.inl rfl) (Or.inr ⟨fun hz => absurd (hq3.mpr hz) (Int.not_lt.mpr c79), rfl⟩) dX3_isLeft_88
    · skip
      refine j_iconst C dX3_isLeft_83 ?_
      refine j_goto (tgt := 88) C dX3_isLeft_84 (by decide) ?_
      exact j_zreti C hr (Nat.le_refl _) (Nat.zero_le _) (Or.inr rfl) (Or.inl ⟨hq3.mp (Int.not_le.mp c79), rfl⟩) dX3_isLeft_88
  · skip
    obtain ⟨hq1, hq2, hq3⟩ := lo_iff hA hB (Int.le_refl _) (Int.le_of_lt (Int.not_le.mp c28)) hb1.2.1
    refine j_lload C dX3_isLeft_32 rfl ?_
    refine j_goto (tgt := 39) C dX3_isLeft_34 (by decide) ?_
    refine j_lstore (lv' := [(0, .ref o), (1, .int (zI i)), (2, .int (zI j)), (3, .int (zI w)), (4, .long (zL (m7 ((4 * i) + w)))), (6, .long (zL (m7 ((4 * j) + w)))), (8, .long (zL (m7 ((4 * i) + w))))]) C dX3_isLeft_39 (by decide) rfl ?_
    refine j_aload_n C dX3_isLeft_41 rfl ?_
    refine j_get (T := TX3) (N := 20) (fs := _) (v := .ref (o + 4)) C hwX3 hM.1 7 (by decide) rfl (index := 19) (ref := "TreePairsModel") (by decide +kernel) rfl rfl dX3_isLeft_42 ?_
    refine j_iconst C dX3_isLeft_45 ?_
    refine j_iload_n C dX3_isLeft_46 rfl ?_
    refine j_imul C dX3_isLeft_47 ?_
    refine j_iload_n C dX3_isLeft_48 rfl ?_
    refine j_iadd C dX3_isLeft_49 ?_
    refine j_iconst C dX3_isLeft_50 ?_
    refine j_iadd C dX3_isLeft_51 ?_
    refine j_lald C hM.2.2.2.2.1 ⟨by omega, by omega⟩ dX3_isLeft_52 ?_
    refine j_lload C dX3_isLeft_53 rfl ?_
    refine j_lload C dX3_isLeft_55 rfl ?_
    refine j_lsub C dX3_isLeft_57 ?_
    refine j_l2i C dX3_isLeft_58 ?_
    refine j_lshl C dX3_isLeft_59 ⟨by omega, by omega⟩ ?_
    refine j_aload_n C dX3_isLeft_60 rfl ?_
    refine j_get (T := TX3) (N := 20) (fs := _) (v := .ref (o + 4)) C hwX3 hM.1 7 (by decide) rfl (index := 19) (ref := "TreePairsModel") (by decide +kernel) rfl rfl dX3_isLeft_61 ?_
    refine j_iconst C dX3_isLeft_64 ?_
    refine j_iload_n C dX3_isLeft_65 rfl ?_
    refine j_imul C dX3_isLeft_66 ?_
    refine j_iload_n C dX3_isLeft_67 rfl ?_
    refine j_iadd C dX3_isLeft_68 ?_
    refine j_iconst C dX3_isLeft_69 ?_
    refine j_iadd C dX3_isLeft_70 ?_
    refine j_lald C hM.2.2.2.2.1 ⟨by omega, by omega⟩ dX3_isLeft_71 ?_
    refine j_lload C dX3_isLeft_72 rfl ?_
    refine j_lload C dX3_isLeft_74 rfl ?_
    refine j_lsub C dX3_isLeft_76 ?_
    refine j_l2i C dX3_isLeft_77 ?_
    refine j_lshl C dX3_isLeft_78 ⟨by omega, by omega⟩ ?_
    refine j_lcmp_ge (tgt := 87) C dX3_isLeft_79 dX3_isLeft_80 (by decide) hq1 hq2 (fun c79 => ?_) (fun c79 => ?_)
    · skip
      refine j_iconst C dX3_isLeft_87 ?_
      exact j_zreti C hr (Nat.le_refl _) (Nat.zero_le _) (Or.inl rfl) (Or.inr ⟨fun hz => absurd (hq3.mpr hz) (Int.not_lt.mpr c79), rfl⟩) dX3_isLeft_88
    · skip
      refine j_iconst C dX3_isLeft_83 ?_
      refine j_goto (tgt := 88) C dX3_isLeft_84 (by decide) ?_
      exact j_zreti C hr (Nat.le_refl _) (Nat.zero_le _) (Or.inr rfl) (Or.inl ⟨hq3.mp (Int.not_le.mp c79), rfl⟩) dX3_isLeft_88

set_option maxHeartbeats 4000000 in
set_option maxRecDepth 100000 in
/-- X3_swap -/
theorem c_X3_swap (l : Launch) (G : Gx) (o : Nat) (uh ud uc us uo ub uw ua ue ux : Int) (m0 m1 m3 m7 m8 m12 m13 m14 m15 m16 : Int → Int) (i j : Int) : Met l yX3_swap wsX3_swap ({ frames := 0, cells := 0, slots := 0, locals := 0 } : Room) (cPc G [.ref o, .int (zI i), .int (zI j)] (fun H => MP G H o uh ud uc us uo ub uw ua ue ux m0 m1 m3 m7 m8 m12 m13 m14 m15 m16 ∧ (0 ≤ i ∧ i < 64) ∧ (0 ≤ j ∧ j < 64) ∧ i ≠ j)) (qmV (fun H => MP G H o uh ud uc us uo ub uw ua ue ux m0 m1 m3 (sw4 m7 i j 4) m8 m12 m13 m14 m15 m16) (fun q : Nat => o ≤ q ∧ q < o + 11)) 0 0 (fun q : Nat => o ≤ q ∧ q < o + 11) := by
  refine Met.ofJ (cc := cX3_swap) (maxL := 6) (ret := none) (lv0 := [(0, .ref o), (1, .int (zI i)), (2, .int (zI j))]) (by decide) rfl (Nat.le_of_ble_eq_true rfl) rfl ?_
  intro p e s m args below meth c C hr hnm hpre
  obtain ⟨hM, hi, hj, hij⟩ := hpre
  have hwX3 : ∀ w ∈ u_ws RX3 TX3 20, w ∈ wsX3_swap := by decide +kernel
  refine j_iconst C dX3_swap_0 ?_
  refine j_istore_n (lv' := [(0, .ref o), (1, .int (zI i)), (2, .int (zI j)), (3, .int (zI 0))]) C dX3_swap_1 (by decide) rfl ?_
  have K2 : ∀ (fu2 : Nat) (k : Int) (Hl1 : Heap), (4 - k).toNat < fu2 → MP G Hl1 o uh ud uc us uo ub uw ua ue ux m0 m1 m3 (sw4 m7 i j k) m8 m12 m13 m14 m15 m16 → 0 ≤ k ∧ k ≤ 4 → JJ p l e ({ frames := 0, cells := 0, slots := 0, locals := 0 } : Room) s m args below meth c (MQ below (qmV (fun H => MP G H o uh ud uc us uo ub uw ua ue ux m0 m1 m3 (sw4 m7 i j 4) m8 m12 m13 m14 m15 m16) (fun q : Nat => o ≤ q ∧ q < o + 11)) args s 0 0 (fun q : Nat => o ≤ q ∧ q < o + 11)) (fun q : Nat => o ≤ q ∧ q < o + 11) 6 Hl1 0 0 2 [(0, .ref o), (1, .int (zI i)), (2, .int (zI j)), (3, .int (zI k))] [] := by
    intro fu2
    induction fu2 with
    | zero => intro k Hl1 hm2 hM hk; exact absurd hm2 (Nat.not_lt_zero _)
    | succ fu2 ih2 =>
      intro k Hl1 hm2 hM hk
      refine j_iload_n C dX3_swap_2 rfl ?_
      refine j_iconst C dX3_swap_3 ?_
      refine j_icmp_ge (tgt := 57) C dX3_swap_4 (by decide) ⟨by omega, by omega⟩ ⟨by decide, by decide⟩ (fun c4 => ?_) (fun c4 => ?_)
      · skip
        exact j_vret C hr (Nat.le_refl _) (Nat.zero_le _) (by have e : k = 4 := (by omega); subst e; exact hM) dX3_swap_57
      · skip
        refine j_aload_n C dX3_swap_7 rfl ?_
        refine j_get (T := TX3) (N := 20) (fs := _) (v := .ref (o + 4)) C hwX3 hM.1 7 (by decide) rfl (index := 19) (ref := "TreePairsModel") (by decide +kernel) rfl rfl dX3_swap_8 ?_
        refine j_iconst C dX3_swap_11 ?_
        refine j_iload_n C dX3_swap_12 rfl ?_
        refine j_imul C dX3_swap_13 ?_
        refine j_iload_n C dX3_swap_14 rfl ?_
        refine j_iadd C dX3_swap_15 ?_
        refine j_lald C hM.2.2.2.2.1 ⟨by omega, by omega⟩ dX3_swap_16 ?_
        refine j_lstore (lv' := [(0, .ref o), (1, .int (zI i)), (2, .int (zI j)), (3, .int (zI k)), (4, .long (zL ((sw4 m7 i j k) ((4 * i) + k))))]) C dX3_swap_17 (by decide) rfl ?_
        refine j_aload_n C dX3_swap_19 rfl ?_
        refine j_get (T := TX3) (N := 20) (fs := _) (v := .ref (o + 4)) C hwX3 hM.1 7 (by decide) rfl (index := 19) (ref := "TreePairsModel") (by decide +kernel) rfl rfl dX3_swap_20 ?_
        refine j_iconst C dX3_swap_23 ?_
        refine j_iload_n C dX3_swap_24 rfl ?_
        refine j_imul C dX3_swap_25 ?_
        refine j_iload_n C dX3_swap_26 rfl ?_
        refine j_iadd C dX3_swap_27 ?_
        refine j_aload_n C dX3_swap_28 rfl ?_
        refine j_get (T := TX3) (N := 20) (fs := _) (v := .ref (o + 4)) C hwX3 hM.1 7 (by decide) rfl (index := 19) (ref := "TreePairsModel") (by decide +kernel) rfl rfl dX3_swap_29 ?_
        refine j_iconst C dX3_swap_32 ?_
        refine j_iload_n C dX3_swap_33 rfl ?_
        refine j_imul C dX3_swap_34 ?_
        refine j_iload_n C dX3_swap_35 rfl ?_
        refine j_iadd C dX3_swap_36 ?_
        refine j_lald C hM.2.2.2.2.1 ⟨by omega, by omega⟩ dX3_swap_37 ?_
        refine j_last C hM.2.2.2.2.1 ⟨by omega, by omega⟩ (by omega) dX3_swap_38 (fun H1 hR hC => ?_)
        have hM := hM.st_work hR hC
        refine j_aload_n C dX3_swap_39 rfl ?_
        refine j_get (T := TX3) (N := 20) (fs := _) (v := .ref (o + 4)) C hwX3 hM.1 7 (by decide) rfl (index := 19) (ref := "TreePairsModel") (by decide +kernel) rfl rfl dX3_swap_40 ?_
        refine j_iconst C dX3_swap_43 ?_
        refine j_iload_n C dX3_swap_44 rfl ?_
        refine j_imul C dX3_swap_45 ?_
        refine j_iload_n C dX3_swap_46 rfl ?_
        refine j_iadd C dX3_swap_47 ?_
        refine j_lload C dX3_swap_48 rfl ?_
        refine j_last C hM.2.2.2.2.1 ⟨by omega, by omega⟩ (by omega) dX3_swap_50 (fun H2 hR hC => ?_)
        have hM := hM.st_work hR hC
        refine j_iinc (lv' := [(0, .ref o), (1, .int (zI i)), (2, .int (zI j)), (3, .int (zI (k + 1))), (4, .long (zL ((sw4 m7 i j k) ((4 * i) + k))))]) C dX3_swap_51 rfl (by decide) rfl ?_
        refine j_goto (tgt := 2) C dX3_swap_54 (by decide) ?_
        exact JJ.drop (lv' := [(0, .ref o), (1, .int (zI i)), (2, .int (zI j)), (3, .int (zI (k + 1)))]) rfl (ih2 (k + 1) H2 (by omega) (by rw [sw4_i m7 hij hk.1 (by omega), sw4_j m7 hij hk.1 (by omega), sw4_s m7 hij hk.1 (by omega)] at hM; exact hM) ⟨by omega, by omega⟩)
  exact JJ.drop (lv' := [(0, .ref o), (1, .int (zI i)), (2, .int (zI j)), (3, .int (zI 0))]) rfl (K2 (((4 - (0 : Int)).toNat) + 1) 0 s.heap (Nat.lt_succ_self _) (by rw [sw4_0]; exact hM) ⟨by omega, by omega⟩)
