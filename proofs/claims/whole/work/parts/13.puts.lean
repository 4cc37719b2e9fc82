set_option maxHeartbeats 4000000 in
set_option maxRecDepth 100000 in
/-- X2_putCopy -/
theorem c_X2_putCopy (l : Launch) (G : Gx) (a cap a2 cap2 : Nat) (L L2 : List Q4) : Met l yX2_putCopy wsX2_putCopy ({ frames := 1, cells := 0, slots := 0, locals := 26 } : Room) (cPc G [.ref a, .ref a2] (fun H => PL G H a cap L ∧ PL G H a2 cap2 L2 ∧ L.length ≤ cap2 ∧ (a + 5 ≤ a2 ∨ a2 + 5 ≤ a))) (qmV (fun H => PL G H a2 cap2 L) (fun q : Nat => a2 ≤ q ∧ q < a2 + 5)) 0 0 (fun q : Nat => a2 ≤ q ∧ q < a2 + 5) := by
  refine Met.ofJ (cc := cX2_putCopy) (maxL := 3) (ret := none) (lv0 := [(0, .ref a), (1, .ref a2)]) (by decide) rfl (Nat.le_of_ble_eq_true rfl) rfl ?_
  intro p e s m args below meth c C hr hnm hpre
  obtain ⟨hL, hL2, hlc, hsep⟩ := hpre
  have hwX1 : ∀ w ∈ u_ws RX1 TX1 5, w ∈ wsX2_putCopy := by decide +kernel
  obtain ⟨d, c0, e0, b, hP, hRp, hcap⟩ := hL
  have hcR := hP.capR
  obtain ⟨d2, c02, e02, b2, hP2, hRp2, hcap2⟩ := hL2
  refine j_aload_n C dX2_putCopy_0 rfl ?_
  refine j_iconst C dX2_putCopy_1 ?_
  refine j_put (T := TX1) (N := 5) (fs' := [.ref (a2 + 1), .ref (a2 + 2), .ref (a2 + 3), .ref (a2 + 4), .int (zI 0)]) (ty := .int) C tyX1 tyX1_ok nmX1 hwX1 hP2.1 4 (by decide) rfl (index := 35) (ref := "TreePairs$Pairs") (by decide +kernel) rfl rfl (by decide +kernel) rfl rfl (Nat.le_of_ble_eq_true rfl) rfl (by omega) dX2_putCopy_2 (fun H1 hO hC => ?_)
  have hP2 := hP2.put_size hO hC
  have hP := hP.chg hC (by omega)
  refine j_iconst C dX2_putCopy_5 ?_
  refine j_istore_n (lv' := [(0, .ref a), (1, .ref a2), (2, .int (zI 0))]) C dX2_putCopy_6 (by decide) rfl ?_
  have K7 : ∀ (fu7 : Nat) (i : Int) (Hl1 : Heap), (L.length - i).toNat < fu7 → PQ G Hl1 a cap (L.length : Int) d c0 e0 b → PL G Hl1 a2 cap2 ((L.take i.toNat)) → 0 ≤ i ∧ i ≤ L.length → JJ p l e ({ frames := 1, cells := 0, slots := 0, locals := 26 } : Room) s m args below meth c (MQ below (qmV (fun H => PL G H a2 cap2 L) (fun q : Nat => a2 ≤ q ∧ q < a2 + 5)) args s 0 0 (fun q : Nat => a2 ≤ q ∧ q < a2 + 5)) (fun q : Nat => a2 ≤ q ∧ q < a2 + 5) 3 Hl1 0 0 7 [(0, .ref a), (1, .ref a2), (2, .int (zI i))] [] := by
    intro fu7
    induction fu7 with
    | zero => intro i Hl1 hm7 hP hI hi; exact absurd hm7 (Nat.not_lt_zero _)
    | succ fu7 ih7 =>
      intro i Hl1 hm7 hP hI hi
      refine j_iload_n C dX2_putCopy_7 rfl ?_
      refine j_aload_n C dX2_putCopy_8 rfl ?_
      refine j_get (T := TX1) (N := 5) (fs := _) (v := .int (zI (L.length : Int))) C hwX1 hP.1 4 (by decide) rfl (index := 35) (ref := "TreePairs$Pairs") (by decide +kernel) rfl rfl dX2_putCopy_9 ?_
      refine j_icmp_ge (tgt := 49) C dX2_putCopy_12 (by decide) ⟨by omega, by omega⟩ ⟨by omega, by omega⟩ (fun c12 => ?_) (fun c12 => ?_)
      · skip
        exact j_vret C hr (Nat.le_refl _) (Nat.zero_le _) (by have := hI; rw [take_all L (by omega)] at this; exact this) dX2_putCopy_49
      · skip
        have hlt : 0 ≤ i ∧ i < (L.length : Int) := ⟨by omega, by omega⟩
        have hq := hRp i hlt.1 hlt.2
        have hil := take_len L hlt.1 (Int.le_of_lt hlt.2)
        refine j_aload_n C dX2_putCopy_15 rfl ?_
        refine j_aload_n C dX2_putCopy_16 rfl ?_
        refine j_get (T := TX1) (N := 5) (fs := _) (v := .ref (a + 1)) C hwX1 hP.1 0 (by decide) rfl (index := 111) (ref := "TreePairs$Pairs") (by decide +kernel) rfl rfl dX2_putCopy_17 ?_
        refine j_iload_n C dX2_putCopy_20 rfl ?_
        refine j_iald C hP.2.1 ⟨by omega, by omega⟩ dX2_putCopy_21 ?_
        refine j_aload_n C dX2_putCopy_22 rfl ?_
        refine j_get (T := TX1) (N := 5) (fs := _) (v := .ref (a + 2)) C hwX1 hP.1 1 (by decide) rfl (index := 117) (ref := "TreePairs$Pairs") (by decide +kernel) rfl rfl dX2_putCopy_23 ?_
        refine j_iload_n C dX2_putCopy_26 rfl ?_
        refine j_lald C hP.2.2.1 ⟨by omega, by omega⟩ dX2_putCopy_27 ?_
        refine j_aload_n C dX2_putCopy_28 rfl ?_
        refine j_get (T := TX1) (N := 5) (fs := _) (v := .ref (a + 3)) C hwX1 hP.1 2 (by decide) rfl (index := 114) (ref := "TreePairs$Pairs") (by decide +kernel) rfl rfl dX2_putCopy_29 ?_
        refine j_iload_n C dX2_putCopy_32 rfl ?_
        refine j_iald C hP.2.2.2.1 ⟨by omega, by omega⟩ dX2_putCopy_33 ?_
        refine j_aload_n C dX2_putCopy_34 rfl ?_
        refine j_get (T := TX1) (N := 5) (fs := _) (v := .ref (a + 4)) C hwX1 hP.1 3 (by decide) rfl (index := 121) (ref := "TreePairs$Pairs") (by decide +kernel) rfl rfl dX2_putCopy_35 ?_
        refine j_iload_n C dX2_putCopy_38 rfl ?_
        refine j_lald C hP.2.2.2.2 ⟨by omega, by omega⟩ dX2_putCopy_39 ?_
        refine j_callmV (jrunV (rest := []) (As := [.int (zI (d i)), .long (zL (c0 i)), .int (zI (e0 i)), .long (zL (b i))]) C (c_X1_add l G a2 cap2 (L.take i.toNat) (d i) (c0 i) (e0 i) (b i)) gX2_putCopy_X1_add rfl 4 (by decide +kernel) rfl rfl ⟨Nat.le_of_ble_eq_true rfl, Nat.le_of_ble_eq_true rfl⟩ hI.ob rfl ⟨hI, by omega⟩ rfl rfl (Nat.le_of_ble_eq_true rfl) ⟨Nat.le_of_ble_eq_true rfl, Nat.le_of_ble_eq_true rfl⟩ dX2_putCopy_40) (fun q hq => hq) (fun H2 h40 hF => ?_)
        have hP := hP.frm hF (by intro q h1 h2 h3; (try dsimp only at h3); omega)
        have hI := h40
        have hI2 : PL G H2 a2 cap2 (L.take (i + 1).toNat) := by rw [take_q L hlt.1 hlt.2, hq]; exact hI
        refine j_iinc (lv' := [(0, .ref a), (1, .ref a2), (2, .int (zI (i + 1)))]) C dX2_putCopy_43 rfl (by decide) rfl ?_
        refine j_goto (tgt := 7) C dX2_putCopy_46 (by decide) ?_
        exact JJ.drop (lv' := [(0, .ref a), (1, .ref a2), (2, .int (zI (i + 1)))]) rfl (ih7 (i + 1) H2 (by omega) hP hI2 ⟨by omega, by omega⟩)
  exact JJ.drop (lv' := [(0, .ref a), (1, .ref a2), (2, .int (zI 0))]) rfl (K7 (((L.length - (0 : Int)).toNat) + 1) 0 H1 (Nat.lt_succ_self _) hP ⟨_, _, _, _, hP2, Rp.nil, Nat.zero_le _⟩ ⟨by omega, by omega⟩)

set_option maxHeartbeats 4000000 in
set_option maxRecDepth 100000 in
/-- X2_putReduced -/
theorem c_X2_putReduced (l : Launch) (G : Gx) (a cap a2 cap2 : Nat) (L L2 : List Q4) : Met l yX2_putReduced wsX2_putReduced ({ frames := 2, cells := 0, slots := 0, locals := 52 } : Room) (cPc G [.ref a, .ref a2] (fun H => PL G H a cap L ∧ PL G H a2 cap2 L2 ∧ L.length ≤ cap2 ∧ (a + 5 ≤ a2 ∨ a2 + 5 ≤ a) ∧ (∀ q ∈ L, LQ 46 q))) (qmV (fun H => PL G H a2 cap2 (redF L)) (fun q : Nat => a2 ≤ q ∧ q < a2 + 5)) 0 0 (fun q : Nat => a2 ≤ q ∧ q < a2 + 5) := by
  refine Met.ofJ (cc := cX2_putReduced) (maxL := 3) (ret := none) (lv0 := [(0, .ref a), (1, .ref a2)]) (by decide) rfl (Nat.le_of_ble_eq_true rfl) rfl ?_
  intro p e s m args below meth c C hr hnm hpre
  obtain ⟨hL, hL2, hlc, hsep, hB⟩ := hpre
  have hwX1 : ∀ w ∈ u_ws RX1 TX1 5, w ∈ wsX2_putReduced := by decide +kernel
  obtain ⟨d, c0, e0, b, hP, hRp, hcap⟩ := hL
  have hcR := hP.capR
  obtain ⟨d2, c02, e02, b2, hP2, hRp2, hcap2⟩ := hL2
  refine j_aload_n C dX2_putReduced_0 rfl ?_
  refine j_iconst C dX2_putReduced_1 ?_
  refine j_put (T := TX1) (N := 5) (fs' := [.ref (a2 + 1), .ref (a2 + 2), .ref (a2 + 3), .ref (a2 + 4), .int (zI 0)]) (ty := .int) C tyX1 tyX1_ok nmX1 hwX1 hP2.1 4 (by decide) rfl (index := 35) (ref := "TreePairs$Pairs") (by decide +kernel) rfl rfl (by decide +kernel) rfl rfl (Nat.le_of_ble_eq_true rfl) rfl (by omega) dX2_putReduced_2 (fun H1 hO hC => ?_)
  have hP2 := hP2.put_size hO hC
  have hP := hP.chg hC (by omega)
  refine j_iconst C dX2_putReduced_5 ?_
  refine j_istore_n (lv' := [(0, .ref a), (1, .ref a2), (2, .int (zI 0))]) C dX2_putReduced_6 (by decide) rfl ?_
  have K7 : ∀ (fu7 : Nat) (i : Int) (Hl1 : Heap), (L.length - i).toNat < fu7 → PQ G Hl1 a cap (L.length : Int) d c0 e0 b → PL G Hl1 a2 cap2 (redF (L.take i.toNat)) → 0 ≤ i ∧ i ≤ L.length → JJ p l e ({ frames := 2, cells := 0, slots := 0, locals := 52 } : Room) s m args below meth c (MQ below (qmV (fun H => PL G H a2 cap2 (redF L)) (fun q : Nat => a2 ≤ q ∧ q < a2 + 5)) args s 0 0 (fun q : Nat => a2 ≤ q ∧ q < a2 + 5)) (fun q : Nat => a2 ≤ q ∧ q < a2 + 5) 3 Hl1 0 0 7 [(0, .ref a), (1, .ref a2), (2, .int (zI i))] [] := by
    intro fu7
    induction fu7 with
    | zero => intro i Hl1 hm7 hP hI hi; exact absurd hm7 (Nat.not_lt_zero _)
    | succ fu7 ih7 =>
      intro i Hl1 hm7 hP hI hi
      refine j_iload_n C dX2_putReduced_7 rfl ?_
      refine j_aload_n C dX2_putReduced_8 rfl ?_
      refine j_get (T := TX1) (N := 5) (fs := _) (v := .int (zI (L.length : Int))) C hwX1 hP.1 4 (by decide) rfl (index := 35) (ref := "TreePairs$Pairs") (by decide +kernel) rfl rfl dX2_putReduced_9 ?_
      refine j_icmp_ge (tgt := 49) C dX2_putReduced_12 (by decide) ⟨by omega, by omega⟩ ⟨by omega, by omega⟩ (fun c12 => ?_) (fun c12 => ?_)
      · skip
        exact j_vret C hr (Nat.le_refl _) (Nat.zero_le _) (by have := hI; rw [take_all L (by omega)] at this; exact this) dX2_putReduced_49
      · skip
        have hlt : 0 ≤ i ∧ i < (L.length : Int) := ⟨by omega, by omega⟩
        have hq := hRp i hlt.1 hlt.2
        have hb := hRp.bnd hB hlt.1 hlt.2
        have hil := take_len L hlt.1 (Int.le_of_lt hlt.2)
        have hrl := redF_len (L.take i.toNat) []
        have hrl2 : (redF (L.take i.toNat)).length ≤ 0 + (L.take i.toNat).length := hrl
        have hrb : ∀ q ∈ redF (L.take i.toNat), LQ 46 q := redF_B _ _ (fun x h => absurd h List.not_mem_nil) (fun x h => hB x (List.mem_of_mem_take h))
        refine j_aload_n C dX2_putReduced_15 rfl ?_
        refine j_aload_n C dX2_putReduced_16 rfl ?_
        refine j_get (T := TX1) (N := 5) (fs := _) (v := .ref (a + 1)) C hwX1 hP.1 0 (by decide) rfl (index := 111) (ref := "TreePairs$Pairs") (by decide +kernel) rfl rfl dX2_putReduced_17 ?_
        refine j_iload_n C dX2_putReduced_20 rfl ?_
        refine j_iald C hP.2.1 ⟨by omega, by omega⟩ dX2_putReduced_21 ?_
        refine j_aload_n C dX2_putReduced_22 rfl ?_
        refine j_get (T := TX1) (N := 5) (fs := _) (v := .ref (a + 2)) C hwX1 hP.1 1 (by decide) rfl (index := 117) (ref := "TreePairs$Pairs") (by decide +kernel) rfl rfl dX2_putReduced_23 ?_
        refine j_iload_n C dX2_putReduced_26 rfl ?_
        refine j_lald C hP.2.2.1 ⟨by omega, by omega⟩ dX2_putReduced_27 ?_
        refine j_aload_n C dX2_putReduced_28 rfl ?_
        refine j_get (T := TX1) (N := 5) (fs := _) (v := .ref (a + 3)) C hwX1 hP.1 2 (by decide) rfl (index := 114) (ref := "TreePairs$Pairs") (by decide +kernel) rfl rfl dX2_putReduced_29 ?_
        refine j_iload_n C dX2_putReduced_32 rfl ?_
        refine j_iald C hP.2.2.2.1 ⟨by omega, by omega⟩ dX2_putReduced_33 ?_
        refine j_aload_n C dX2_putReduced_34 rfl ?_
        refine j_get (T := TX1) (N := 5) (fs := _) (v := .ref (a + 4)) C hwX1 hP.1 3 (by decide) rfl (index := 121) (ref := "TreePairs$Pairs") (by decide +kernel) rfl rfl dX2_putReduced_35 ?_
        refine j_iload_n C dX2_putReduced_38 rfl ?_
        refine j_lald C hP.2.2.2.2 ⟨by omega, by omega⟩ dX2_putReduced_39 ?_
        refine j_callmV (jrunV (rest := []) (As := [.int (zI (d i)), .long (zL (c0 i)), .int (zI (e0 i)), .long (zL (b i))]) C (c_X1_push l G a2 cap2 (redF (L.take i.toNat)) (d i) (c0 i) (e0 i) (b i)) gX2_putReduced_X1_push rfl 4 (by decide +kernel) rfl rfl ⟨Nat.le_of_ble_eq_true rfl, Nat.le_of_ble_eq_true rfl⟩ hI.ob rfl ⟨hI, by omega, hrb, hb⟩ rfl rfl (Nat.le_of_ble_eq_true rfl) ⟨Nat.le_of_ble_eq_true rfl, Nat.le_of_ble_eq_true rfl⟩ dX2_putReduced_40) (fun q hq => hq) (fun H2 h40 hF => ?_)
        have hP := hP.frm hF (by intro q h1 h2 h3; (try dsimp only at h3); omega)
        have hI := h40
        have hI2 : PL G H2 a2 cap2 (redF (L.take (i + 1).toNat)) := by rw [take_q L hlt.1 hlt.2, hq]; unfold redF; rw [List.foldl_append]; exact hI
        refine j_iinc (lv' := [(0, .ref a), (1, .ref a2), (2, .int (zI (i + 1)))]) C dX2_putReduced_43 rfl (by decide) rfl ?_
        refine j_goto (tgt := 7) C dX2_putReduced_46 (by decide) ?_
        exact JJ.drop (lv' := [(0, .ref a), (1, .ref a2), (2, .int (zI (i + 1)))]) rfl (ih7 (i + 1) H2 (by omega) hP hI2 ⟨by omega, by omega⟩)
  exact JJ.drop (lv' := [(0, .ref a), (1, .ref a2), (2, .int (zI 0))]) rfl (K7 (((L.length - (0 : Int)).toNat) + 1) 0 H1 (Nat.lt_succ_self _) hP ⟨_, _, _, _, hP2, Rp.nil, Nat.zero_le _⟩ ⟨by omega, by omega⟩)

set_option maxHeartbeats 4000000 in
set_option maxRecDepth 100000 in
/-- X2_putTurned -/
theorem c_X2_putTurned (l : Launch) (G : Gx) (a cap a2 cap2 : Nat) (L L2 : List Q4) : Met l yX2_putTurned wsX2_putTurned ({ frames := 3, cells := 0, slots := 0, locals := 64 } : Room) (cPc G [.ref a, .ref a2] (fun H => PL G H a cap L ∧ PL G H a2 cap2 L2 ∧ L.length ≤ cap2 ∧ (a + 5 ≤ a2 ∨ a2 + 5 ≤ a) ∧ (∀ q ∈ L, LQ 23 q) ∧ cap2 ≤ 48)) (qmV (fun H => PL G H a2 cap2 (turnF L)) (fun q : Nat => a2 ≤ q ∧ q < a2 + 5)) 0 0 (fun q : Nat => a2 ≤ q ∧ q < a2 + 5) := by
  refine Met.ofJ (cc := cX2_putTurned) (maxL := 3) (ret := none) (lv0 := [(0, .ref a), (1, .ref a2)]) (by decide) rfl (Nat.le_of_ble_eq_true rfl) rfl ?_
  intro p e s m args below meth c C hr hnm hpre
  obtain ⟨hL, hL2, hlc, hsep, hB, hc48⟩ := hpre
  have hwX1 : ∀ w ∈ u_ws RX1 TX1 5, w ∈ wsX2_putTurned := by decide +kernel
  obtain ⟨d, c0, e0, b, hP, hRp, hcap⟩ := hL
  have hcR := hP.capR
  obtain ⟨d2, c02, e02, b2, hP2, hRp2, hcap2⟩ := hL2
  refine j_aload_n C dX2_putTurned_0 rfl ?_
  refine j_iconst C dX2_putTurned_1 ?_
  refine j_put (T := TX1) (N := 5) (fs' := [.ref (a2 + 1), .ref (a2 + 2), .ref (a2 + 3), .ref (a2 + 4), .int (zI 0)]) (ty := .int) C tyX1 tyX1_ok nmX1 hwX1 hP2.1 4 (by decide) rfl (index := 35) (ref := "TreePairs$Pairs") (by decide +kernel) rfl rfl (by decide +kernel) rfl rfl (Nat.le_of_ble_eq_true rfl) rfl (by omega) dX2_putTurned_2 (fun H1 hO hC => ?_)
  have hP2 := hP2.put_size hO hC
  have hP := hP.chg hC (by omega)
  refine j_iconst C dX2_putTurned_5 ?_
  refine j_istore_n (lv' := [(0, .ref a), (1, .ref a2), (2, .int (zI 0))]) C dX2_putTurned_6 (by decide) rfl ?_
  have K7 : ∀ (fu7 : Nat) (i : Int) (Hl1 : Heap), (L.length - i).toNat < fu7 → PQ G Hl1 a cap (L.length : Int) d c0 e0 b → PL G Hl1 a2 cap2 (turnF (L.take i.toNat)) → 0 ≤ i ∧ i ≤ L.length → JJ p l e ({ frames := 3, cells := 0, slots := 0, locals := 64 } : Room) s m args below meth c (MQ below (qmV (fun H => PL G H a2 cap2 (turnF L)) (fun q : Nat => a2 ≤ q ∧ q < a2 + 5)) args s 0 0 (fun q : Nat => a2 ≤ q ∧ q < a2 + 5)) (fun q : Nat => a2 ≤ q ∧ q < a2 + 5) 3 Hl1 0 0 7 [(0, .ref a), (1, .ref a2), (2, .int (zI i))] [] := by
    intro fu7
    induction fu7 with
    | zero => intro i Hl1 hm7 hP hI hi; exact absurd hm7 (Nat.not_lt_zero _)
    | succ fu7 ih7 =>
      intro i Hl1 hm7 hP hI hi
      refine j_iload_n C dX2_putTurned_7 rfl ?_
      refine j_aload_n C dX2_putTurned_8 rfl ?_
      refine j_get (T := TX1) (N := 5) (fs := _) (v := .int (zI (L.length : Int))) C hwX1 hP.1 4 (by decide) rfl (index := 35) (ref := "TreePairs$Pairs") (by decide +kernel) rfl rfl dX2_putTurned_9 ?_
      refine j_icmp_ge (tgt := 53) C dX2_putTurned_12 (by decide) ⟨by omega, by omega⟩ ⟨by omega, by omega⟩ (fun c12 => ?_) (fun c12 => ?_)
      · skip
        exact j_vret C hr (Nat.le_refl _) (Nat.zero_le _) (by have := hI; rw [take_all L (by omega)] at this; exact this) dX2_putTurned_53
      · skip
        have hlt : 0 ≤ i ∧ i < (L.length : Int) := ⟨by omega, by omega⟩
        have hq := hRp i hlt.1 hlt.2
        have hb := hRp.bnd hB hlt.1 hlt.2
        have hil := take_len L hlt.1 (Int.le_of_lt hlt.2)
        have htl := turnF_len (L.take i.toNat)
        have htb : ∀ q ∈ turnF (L.take i.toNat), LQ 23 q := turnF_B (fun x h => hB x (List.mem_of_mem_take h))
        refine j_aload_n C dX2_putTurned_15 rfl ?_
        refine j_aload_n C dX2_putTurned_16 rfl ?_
        refine j_get (T := TX1) (N := 5) (fs := _) (v := .ref (a + 3)) C hwX1 hP.1 2 (by decide) rfl (index := 114) (ref := "TreePairs$Pairs") (by decide +kernel) rfl rfl dX2_putTurned_17 ?_
        refine j_iload_n C dX2_putTurned_20 rfl ?_
        refine j_iald C hP.2.2.2.1 ⟨by omega, by omega⟩ dX2_putTurned_21 ?_
        refine j_aload_n C dX2_putTurned_22 rfl ?_
        refine j_get (T := TX1) (N := 5) (fs := _) (v := .ref (a + 4)) C hwX1 hP.1 3 (by decide) rfl (index := 121) (ref := "TreePairs$Pairs") (by decide +kernel) rfl rfl dX2_putTurned_23 ?_
        refine j_iload_n C dX2_putTurned_26 rfl ?_
        refine j_lald C hP.2.2.2.2 ⟨by omega, by omega⟩ dX2_putTurned_27 ?_
        refine j_aload_n C dX2_putTurned_28 rfl ?_
        refine j_get (T := TX1) (N := 5) (fs := _) (v := .ref (a + 1)) C hwX1 hP.1 0 (by decide) rfl (index := 111) (ref := "TreePairs$Pairs") (by decide +kernel) rfl rfl dX2_putTurned_29 ?_
        refine j_iload_n C dX2_putTurned_32 rfl ?_
        refine j_iald C hP.2.1 ⟨by omega, by omega⟩ dX2_putTurned_33 ?_
        refine j_aload_n C dX2_putTurned_34 rfl ?_
        refine j_get (T := TX1) (N := 5) (fs := _) (v := .ref (a + 2)) C hwX1 hP.1 1 (by decide) rfl (index := 117) (ref := "TreePairs$Pairs") (by decide +kernel) rfl rfl dX2_putTurned_35 ?_
        refine j_iload_n C dX2_putTurned_38 rfl ?_
        refine j_lald C hP.2.2.1 ⟨by omega, by omega⟩ dX2_putTurned_39 ?_
        refine j_callmV (jrunV (rest := []) (As := [.int (zI (e0 i)), .long (zL (b i)), .int (zI (d i)), .long (zL (c0 i))]) C (c_X1_add l G a2 cap2 (turnF (L.take i.toNat)) (e0 i) (b i) (d i) (c0 i)) gX2_putTurned_X1_add rfl 4 (by decide +kernel) rfl rfl ⟨Nat.le_of_ble_eq_true rfl, Nat.le_of_ble_eq_true rfl⟩ hI.ob rfl ⟨hI, by omega⟩ rfl rfl (Nat.le_of_ble_eq_true rfl) ⟨Nat.le_of_ble_eq_true rfl, Nat.le_of_ble_eq_true rfl⟩ dX2_putTurned_40) (fun q hq => hq) (fun H2 h40 hF => ?_)
        have hP := hP.frm hF (by intro q h1 h2 h3; (try dsimp only at h3); omega)
        have hI := h40
        refine j_aload_n C dX2_putTurned_43 rfl ?_
        refine j_callmV (jrunV (rest := []) (As := []) C (c_X1_sinkLast l G a2 cap2 (turnF (L.take i.toNat)) (e0 i, b i, d i, c0 i)) gX2_putTurned_X1_sinkLast rfl 0 (by decide +kernel) rfl rfl ⟨Nat.le_of_ble_eq_true rfl, Nat.le_of_ble_eq_true rfl⟩ hI.ob rfl ⟨hI, hc48, fun x h => (List.mem_append.mp h).elim (htb x) (fun h => by rw [List.mem_singleton.mp h]; exact ⟨hb.2, hb.1⟩)⟩ rfl rfl (Nat.le_of_ble_eq_true rfl) ⟨Nat.le_of_ble_eq_true rfl, Nat.le_of_ble_eq_true rfl⟩ dX2_putTurned_44) (fun q hq => hq) (fun H3 h44 hF => ?_)
        have hP := hP.frm hF (by intro q h1 h2 h3; (try dsimp only at h3); omega)
        have hI := h44
        have hI2 : PL G H3 a2 cap2 (turnF (L.take (i + 1).toNat)) := by rw [take_q L hlt.1 hlt.2, hq]; unfold turnF; rw [List.foldl_append]; exact hI
        refine j_iinc (lv' := [(0, .ref a), (1, .ref a2), (2, .int (zI (i + 1)))]) C dX2_putTurned_47 rfl (by decide) rfl ?_
        refine j_goto (tgt := 7) C dX2_putTurned_50 (by decide) ?_
        exact JJ.drop (lv' := [(0, .ref a), (1, .ref a2), (2, .int (zI (i + 1)))]) rfl (ih7 (i + 1) H3 (by omega) hP hI2 ⟨by omega, by omega⟩)
  exact JJ.drop (lv' := [(0, .ref a), (1, .ref a2), (2, .int (zI 0))]) rfl (K7 (((L.length - (0 : Int)).toNat) + 1) 0 H1 (Nat.lt_succ_self _) hP ⟨_, _, _, _, hP2, Rp.nil, Nat.zero_le _⟩ ⟨by omega, by omega⟩)

set_option maxHeartbeats 4000000 in
set_option maxRecDepth 100000 in
/-- X2_putStrong -/
theorem c_X2_putStrong (l : Launch) (G : Gx) (x : Int) (a2 cap2 : Nat) (L2 : List Q4) : Met l yX2_putStrong wsX2_putStrong ({ frames := 1, cells := 0, slots := 0, locals := 26 } : Room) (cPc G [.int (zI x), .ref a2] (fun H => (0 ≤ x ∧ x ≤ 6) ∧ PL G H a2 cap2 L2 ∧ 24 ≤ cap2)) (qmV (fun H => PL G H a2 cap2 (strongF x)) (fun q : Nat => a2 ≤ q ∧ q < a2 + 5)) 0 0 (fun q : Nat => a2 ≤ q ∧ q < a2 + 5) := by
  refine Met.ofJ (cc := cX2_putStrong) (maxL := 5) (ret := none) (lv0 := [(0, .int (zI x)), (1, .ref a2)]) (by decide) rfl (Nat.le_of_ble_eq_true rfl) rfl ?_
  intro p e s m args below meth c C hr hnm hpre
  obtain ⟨hx, hL2, hc⟩ := hpre
  have hwX1 : ∀ w ∈ u_ws RX1 TX1 5, w ∈ wsX2_putStrong := by decide +kernel
  obtain ⟨d2, c02, e02, b2, hP2, hRp2, hcap2⟩ := hL2
  refine j_aload_n C dX2_putStrong_0 rfl ?_
  refine j_iconst C dX2_putStrong_1 ?_
  refine j_put (T := TX1) (N := 5) (fs' := [.ref (a2 + 1), .ref (a2 + 2), .ref (a2 + 3), .ref (a2 + 4), .int (zI 0)]) (ty := .int) C tyX1 tyX1_ok nmX1 hwX1 hP2.1 4 (by decide) rfl (index := 35) (ref := "TreePairs$Pairs") (by decide +kernel) rfl rfl (by decide +kernel) rfl rfl (Nat.le_of_ble_eq_true rfl) rfl (by omega) dX2_putStrong_2 (fun H1 hO hC => ?_)
  have hP2 := hP2.put_size hO hC
  refine j_iconst C dX2_putStrong_5 ?_
  refine j_istore_n (lv' := [(0, .int (zI x)), (1, .ref a2), (2, .int (zI 1))]) C dX2_putStrong_6 (by decide) rfl ?_
  have K7 : ∀ (fu7 : Nat) (i : Int) (Hl1 : Heap), (x + 1 - i).toNat < fu7 → PL G Hl1 a2 cap2 (strongP (i - 1)) → 1 ≤ i ∧ i ≤ x + 1 → JJ p l e ({ frames := 1, cells := 0, slots := 0, locals := 26 } : Room) s m args below meth c (MQ below (qmV (fun H => PL G H a2 cap2 (strongF x)) (fun q : Nat => a2 ≤ q ∧ q < a2 + 5)) args s 0 0 (fun q : Nat => a2 ≤ q ∧ q < a2 + 5)) (fun q : Nat => a2 ≤ q ∧ q < a2 + 5) 5 Hl1 0 0 7 [(0, .int (zI x)), (1, .ref a2), (2, .int (zI i))] [] := by
    intro fu7
    induction fu7 with
    | zero => intro i Hl1 hm7 hI hi; exact absurd hm7 (Nat.not_lt_zero _)
    | succ fu7 ih7 =>
      intro i Hl1 hm7 hI hi
      refine j_iload_n C dX2_putStrong_7 rfl ?_
      refine j_iload_n C dX2_putStrong_8 rfl ?_
      refine j_icmp_gt (tgt := 34) C dX2_putStrong_9 (by decide) ⟨by omega, by omega⟩ ⟨by omega, by omega⟩ (fun c9 => ?_) (fun c9 => ?_)
      · skip
        have hI : PL G Hl1 a2 cap2 (strongP x) := by have := hI; rw [show i - 1 = x by omega] at this; exact this
        refine j_lconst (z := 1) C dX2_putStrong_34 rfl ?_
        refine j_iload_n C dX2_putStrong_35 rfl ?_
        refine j_lshl C dX2_putStrong_36 ⟨by omega, by omega⟩ ?_
        refine j_lconst (z := 1) C dX2_putStrong_37 rfl ?_
        refine j_lsub C dX2_putStrong_38 ?_
        refine j_lstore_n (lv' := [(0, .int (zI x)), (1, .ref a2), (2, .long (zL ((1 * 2 ^ x.toNat) - 1)))]) C dX2_putStrong_39 (by decide) rfl ?_
        refine j_aload_n C dX2_putStrong_40 rfl ?_
        refine j_iload_n C dX2_putStrong_41 rfl ?_
        refine j_iconst C dX2_putStrong_42 ?_
        refine j_iadd C dX2_putStrong_43 ?_
        refine j_ldc2 (z := 2) C (index := 183) (v := 2) (by decide +kernel) (by decide) dX2_putStrong_44 ?_
        refine j_lload_n C dX2_putStrong_47 rfl ?_
        refine j_lmul C dX2_putStrong_48 ?_
        refine j_iload_n C dX2_putStrong_49 rfl ?_
        refine j_iconst C dX2_putStrong_50 ?_
        refine j_iadd C dX2_putStrong_51 ?_
        refine j_ldc2 (z := 4) C (index := 185) (v := 4) (by decide +kernel) (by decide) dX2_putStrong_52 ?_
        refine j_lload_n C dX2_putStrong_55 rfl ?_
        refine j_lmul C dX2_putStrong_56 ?_
        refine j_callmV (jrunV (rest := []) (As := [.int (zI (x + 1)), .long (zL (2 * ((1 * 2 ^ x.toNat) - 1))), .int (zI (x + 2)), .long (zL (4 * ((1 * 2 ^ x.toNat) - 1)))]) C (c_X1_add l G a2 cap2 (strongP x) (x + 1) (2 * (1 * 2 ^ x.toNat - 1)) (x + 2) (4 * (1 * 2 ^ x.toNat - 1))) gX2_putStrong_X1_add rfl 4 (by decide +kernel) rfl rfl ⟨Nat.le_of_ble_eq_true rfl, Nat.le_of_ble_eq_true rfl⟩ hI.ob rfl ⟨hI, by simp only [List.length_append, List.length_singleton, strongP_len]; omega⟩ rfl rfl (Nat.le_of_ble_eq_true rfl) ⟨Nat.le_of_ble_eq_true rfl, Nat.le_of_ble_eq_true rfl⟩ dX2_putStrong_57) (fun q hq => hq) (fun H2 h57 hF => ?_)
        have hI := h57
        refine j_aload_n C dX2_putStrong_60 rfl ?_
        refine j_iload_n C dX2_putStrong_61 rfl ?_
        refine j_iconst C dX2_putStrong_62 ?_
        refine j_iadd C dX2_putStrong_63 ?_
        refine j_ldc2 (z := 4) C (index := 185) (v := 4) (by decide +kernel) (by decide) dX2_putStrong_64 ?_
        refine j_lload_n C dX2_putStrong_67 rfl ?_
        refine j_lmul C dX2_putStrong_68 ?_
        refine j_ldc2 (z := 2) C (index := 183) (v := 2) (by decide +kernel) (by decide) dX2_putStrong_69 ?_
        refine j_ladd C dX2_putStrong_72 ?_
        refine j_iload_n C dX2_putStrong_73 rfl ?_
        refine j_iconst C dX2_putStrong_74 ?_
        refine j_iadd C dX2_putStrong_75 ?_
        refine j_ldc2 (z := 4) C (index := 185) (v := 4) (by decide +kernel) (by decide) dX2_putStrong_76 ?_
        refine j_lload_n C dX2_putStrong_79 rfl ?_
        refine j_lmul C dX2_putStrong_80 ?_
        refine j_lconst (z := 1) C dX2_putStrong_81 rfl ?_
        refine j_ladd C dX2_putStrong_82 ?_
        refine j_callmV (jrunV (rest := []) (As := [.int (zI (x + 2)), .long (zL ((4 * ((1 * 2 ^ x.toNat) - 1)) + 2)), .int (zI (x + 2)), .long (zL ((4 * ((1 * 2 ^ x.toNat) - 1)) + 1))]) C (c_X1_add l G a2 cap2 (strongP x ++ [(x + 1, 2 * (1 * 2 ^ x.toNat - 1), x + 2, 4 * (1 * 2 ^ x.toNat - 1))]) (x + 2) (4 * (1 * 2 ^ x.toNat - 1) + 2) (x + 2) (4 * (1 * 2 ^ x.toNat - 1) + 1)) gX2_putStrong_X1_add rfl 4 (by decide +kernel) rfl rfl ⟨Nat.le_of_ble_eq_true rfl, Nat.le_of_ble_eq_true rfl⟩ hI.ob rfl ⟨hI, by simp only [List.length_append, List.length_singleton, strongP_len]; omega⟩ rfl rfl (Nat.le_of_ble_eq_true rfl) ⟨Nat.le_of_ble_eq_true rfl, Nat.le_of_ble_eq_true rfl⟩ dX2_putStrong_83) (fun q hq => hq) (fun H3 h83 hF => ?_)
        have hI := h83
        refine j_aload_n C dX2_putStrong_86 rfl ?_
        refine j_iload_n C dX2_putStrong_87 rfl ?_
        refine j_iconst C dX2_putStrong_88 ?_
        refine j_iadd C dX2_putStrong_89 ?_
        refine j_ldc2 (z := 4) C (index := 185) (v := 4) (by decide +kernel) (by decide) dX2_putStrong_90 ?_
        refine j_lload_n C dX2_putStrong_93 rfl ?_
        refine j_lmul C dX2_putStrong_94 ?_
        refine j_ldc2 (z := 3) C (index := 187) (v := 3) (by decide +kernel) (by decide) dX2_putStrong_95 ?_
        refine j_ladd C dX2_putStrong_98 ?_
        refine j_iload_n C dX2_putStrong_99 rfl ?_
        refine j_iconst C dX2_putStrong_100 ?_
        refine j_iadd C dX2_putStrong_101 ?_
        refine j_ldc2 (z := 2) C (index := 183) (v := 2) (by decide +kernel) (by decide) dX2_putStrong_102 ?_
        refine j_lload_n C dX2_putStrong_105 rfl ?_
        refine j_lmul C dX2_putStrong_106 ?_
        refine j_lconst (z := 1) C dX2_putStrong_107 rfl ?_
        refine j_ladd C dX2_putStrong_108 ?_
        refine j_callmV (jrunV (rest := []) (As := [.int (zI (x + 2)), .long (zL ((4 * ((1 * 2 ^ x.toNat) - 1)) + 3)), .int (zI (x + 1)), .long (zL ((2 * ((1 * 2 ^ x.toNat) - 1)) + 1))]) C (c_X1_add l G a2 cap2 (strongP x ++ [(x + 1, 2 * (1 * 2 ^ x.toNat - 1), x + 2, 4 * (1 * 2 ^ x.toNat - 1))] ++ [(x + 2, 4 * (1 * 2 ^ x.toNat - 1) + 2, x + 2, 4 * (1 * 2 ^ x.toNat - 1) + 1)]) (x + 2) (4 * (1 * 2 ^ x.toNat - 1) + 3) (x + 1) (2 * (1 * 2 ^ x.toNat - 1) + 1)) gX2_putStrong_X1_add rfl 4 (by decide +kernel) rfl rfl ⟨Nat.le_of_ble_eq_true rfl, Nat.le_of_ble_eq_true rfl⟩ hI.ob rfl ⟨hI, by simp only [List.length_append, List.length_singleton, strongP_len]; omega⟩ rfl rfl (Nat.le_of_ble_eq_true rfl) ⟨Nat.le_of_ble_eq_true rfl, Nat.le_of_ble_eq_true rfl⟩ dX2_putStrong_109) (fun q hq => hq) (fun H4 h109 hF => ?_)
        have hI := h109
        exact j_vret C hr (Nat.le_refl _) (Nat.zero_le _) (by have := hI; rw [Int.one_mul] at this; unfold strongF; rw [List.append_assoc, List.append_assoc] at this; exact this) dX2_putStrong_112
      · skip
        refine j_lconst (z := 1) C dX2_putStrong_12 rfl ?_
        refine j_iload_n C dX2_putStrong_13 rfl ?_
        refine j_lshl C dX2_putStrong_14 ⟨by omega, by omega⟩ ?_
        refine j_ldc2 (z := 2) C (index := 183) (v := 2) (by decide +kernel) (by decide) dX2_putStrong_15 ?_
        refine j_lsub C dX2_putStrong_18 ?_
        refine j_lstore_n (lv' := [(0, .int (zI x)), (1, .ref a2), (2, .int (zI i)), (3, .long (zL ((1 * 2 ^ i.toNat) - 2)))]) C dX2_putStrong_19 (by decide) rfl ?_
        refine j_aload_n C dX2_putStrong_20 rfl ?_
        refine j_iload_n C dX2_putStrong_21 rfl ?_
        refine j_lload_n C dX2_putStrong_22 rfl ?_
        refine j_iload_n C dX2_putStrong_23 rfl ?_
        refine j_lload_n C dX2_putStrong_24 rfl ?_
        refine j_callmV (jrunV (rest := []) (As := [.int (zI i), .long (zL ((1 * 2 ^ i.toNat) - 2)), .int (zI i), .long (zL ((1 * 2 ^ i.toNat) - 2))]) C (c_X1_add l G a2 cap2 (strongP (i - 1)) i (1 * 2 ^ i.toNat - 2) i (1 * 2 ^ i.toNat - 2)) gX2_putStrong_X1_add rfl 4 (by decide +kernel) rfl rfl ⟨Nat.le_of_ble_eq_true rfl, Nat.le_of_ble_eq_true rfl⟩ hI.ob rfl ⟨hI, by rw [strongP_len]; omega⟩ rfl rfl (Nat.le_of_ble_eq_true rfl) ⟨Nat.le_of_ble_eq_true rfl, Nat.le_of_ble_eq_true rfl⟩ dX2_putStrong_25) (fun q hq => hq) (fun H5 h25 hF => ?_)
        have hI2 : PL G H5 a2 cap2 (strongP (i + 1 - 1)) := by rw [show i + 1 - 1 = i by omega, strongP_s hi.1, ← Int.one_mul (2 ^ i.toNat)]; exact h25
        have hI := h25
        refine j_iinc (lv' := [(0, .int (zI x)), (1, .ref a2), (2, .int (zI (i + 1))), (3, .long (zL ((1 * 2 ^ i.toNat) - 2)))]) C dX2_putStrong_28 rfl (by decide) rfl ?_
        refine j_goto (tgt := 7) C dX2_putStrong_31 (by decide) ?_
        exact JJ.drop (lv' := [(0, .int (zI x)), (1, .ref a2), (2, .int (zI (i + 1)))]) rfl (ih7 (i + 1) H5 (by omega) hI2 ⟨by omega, by omega⟩)
  exact JJ.drop (lv' := [(0, .int (zI x)), (1, .ref a2), (2, .int (zI 1))]) rfl (K7 (((x + 1 - (1 : Int)).toNat) + 1) 1 H1 (Nat.lt_succ_self _) ⟨_, _, _, _, hP2, Rp.nil, Nat.zero_le _⟩ ⟨by omega, by omega⟩)
