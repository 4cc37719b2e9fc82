set_option maxHeartbeats 4000000 in
set_option maxRecDepth 100000 in
/-- X2_putPiece -/
theorem c_X2_putPiece (l : Launch) (G : Gx) (a cap a2 cap2 a3 cap3 : Nat) (A B L3 : List Q4) (i j : Int) : Met l yX2_putPiece wsX2_putPiece ({ frames := 2, cells := 0, slots := 0, locals := 52 } : Room) (cPc G [.ref a, .int (zI i), .ref a2, .int (zI j), .ref a3] (fun H => PL G H a cap A ∧ PL G H a2 cap2 B ∧ PL G H a3 cap3 L3 ∧ (0 ≤ i ∧ i < A.length) ∧ (0 ≤ j ∧ j < B.length) ∧ (∀ q ∈ A, LQ 23 q) ∧ (∀ q ∈ B, LQ 23 q) ∧ L3.length < cap3 ∧ (∀ q ∈ L3, LQ 46 q) ∧ LQ 46 (pieceF (qat A i) (qat B j)) ∧ (a + 5 ≤ a3 ∨ a3 + 5 ≤ a) ∧ (a2 + 5 ≤ a3 ∨ a3 + 5 ≤ a2))) (qmV (fun H => PL G H a3 cap3 (pushL L3 (pieceF (qat A i) (qat B j)))) (fun q : Nat => a3 ≤ q ∧ q < a3 + 5)) 0 0 (fun q : Nat => a3 ≤ q ∧ q < a3 + 5) := by
  refine Met.ofJ (cc := cX2_putPiece) (maxL := 8) (ret := none) (lv0 := [(0, .ref a), (1, .int (zI i)), (2, .ref a2), (3, .int (zI j)), (4, .ref a3)]) (by decide) rfl (Nat.le_of_ble_eq_true rfl) rfl ?_
  intro p e s m args below meth c C hr hnm hpre
  obtain ⟨hA, hBb, hI, hi, hj, hAB, hBB, hlc, hLB, hpB, hs1, hs2⟩ := hpre
  have hwX1 : ∀ w ∈ u_ws RX1 TX1 5, w ∈ wsX2_putPiece := by decide +kernel
  obtain ⟨d, c0, e0, b, hP, hRp, hcap⟩ := hA
  have hcR := hP.capR
  obtain ⟨d2, c02, e02, b2, hP2, hRp2, hcap2⟩ := hBb
  have hcR2 := hP2.capR
  have q1 := hRp i hi.1 hi.2
  have q2 := hRp2 j hj.1 hj.2
  have x1 := hRp.bnd hAB hi.1 hi.2
  have x2 := hRp2.bnd hBB hj.1 hj.2
  have y1 := x1.1.b23
  have y2 := x1.2.b23
  have y3 := x2.1.b23
  have y4 := x2.2.b23
  rw [q1, q2] at hpB ⊢
  refine j_aload_n C dX2_putPiece_0 rfl ?_
  refine j_get (T := TX1) (N := 5) (fs := _) (v := .ref (a2 + 1)) C hwX1 hP2.1 0 (by decide) rfl (index := 111) (ref := "TreePairs$Pairs") (by decide +kernel) rfl rfl dX2_putPiece_1 ?_
  refine j_iload_n C dX2_putPiece_4 rfl ?_
  refine j_iald C hP2.2.1 ⟨by omega, by omega⟩ dX2_putPiece_5 ?_
  refine j_aload_n C dX2_putPiece_6 rfl ?_
  refine j_get (T := TX1) (N := 5) (fs := _) (v := .ref (a + 3)) C hwX1 hP.1 2 (by decide) rfl (index := 114) (ref := "TreePairs$Pairs") (by decide +kernel) rfl rfl dX2_putPiece_7 ?_
  refine j_iload_n C dX2_putPiece_10 rfl ?_
  refine j_iald C hP.2.2.2.1 ⟨by omega, by omega⟩ dX2_putPiece_11 ?_
  refine j_isub C dX2_putPiece_12 ?_
  refine j_istore (lv' := [(0, .ref a), (1, .int (zI i)), (2, .ref a2), (3, .int (zI j)), (4, .ref a3), (5, .int (zI ((d2 j) - (e0 i))))]) C dX2_putPiece_13 (by decide) rfl ?_
  refine j_iload C dX2_putPiece_15 rfl ?_
  refine j_if_lt (tgt := 79) C dX2_putPiece_17 (by decide) ⟨by omega, by omega⟩ (fun c17 => ?_) (fun c17 => ?_)
  · skip
    have hpc : pieceF (d i, c0 i, e0 i, b i) (d2 j, c02 j, e02 j, b2 j) = (d i, c0 i, e02 j - (d2 j - e0 i), b2 j * 2 ^ (-(d2 j - e0 i)).toNat + (b i - c02 j * 2 ^ (-(d2 j - e0 i)).toNat)) := if_neg (by show ¬ 0 ≤ d2 j - e0 i; omega)
    rw [hpc] at hpB ⊢
    refine j_aload_n C dX2_putPiece_79 rfl ?_
    refine j_get (T := TX1) (N := 5) (fs := _) (v := .ref (a + 4)) C hwX1 hP.1 3 (by decide) rfl (index := 121) (ref := "TreePairs$Pairs") (by decide +kernel) rfl rfl dX2_putPiece_80 ?_
    refine j_iload_n C dX2_putPiece_83 rfl ?_
    refine j_lald C hP.2.2.2.2 ⟨by omega, by omega⟩ dX2_putPiece_84 ?_
    refine j_aload_n C dX2_putPiece_85 rfl ?_
    refine j_get (T := TX1) (N := 5) (fs := _) (v := .ref (a2 + 2)) C hwX1 hP2.1 1 (by decide) rfl (index := 117) (ref := "TreePairs$Pairs") (by decide +kernel) rfl rfl dX2_putPiece_86 ?_
    refine j_iload_n C dX2_putPiece_89 rfl ?_
    refine j_lald C hP2.2.2.1 ⟨by omega, by omega⟩ dX2_putPiece_90 ?_
    refine j_iload C dX2_putPiece_91 rfl ?_
    refine j_ineg C dX2_putPiece_93 ?_
    refine j_lshl C dX2_putPiece_94 ⟨by omega, by omega⟩ ?_
    refine j_lsub C dX2_putPiece_95 ?_
    refine j_lstore (lv' := [(0, .ref a), (1, .int (zI i)), (2, .ref a2), (3, .int (zI j)), (4, .ref a3), (5, .int (zI ((d2 j) - (e0 i)))), (6, .long (zL ((b i) - ((c02 j) * 2 ^ (-((d2 j) - (e0 i))).toNat))))]) C dX2_putPiece_96 (by decide) rfl ?_
    refine j_aload C dX2_putPiece_98 rfl ?_
    refine j_aload_n C dX2_putPiece_100 rfl ?_
    refine j_get (T := TX1) (N := 5) (fs := _) (v := .ref (a + 1)) C hwX1 hP.1 0 (by decide) rfl (index := 111) (ref := "TreePairs$Pairs") (by decide +kernel) rfl rfl dX2_putPiece_101 ?_
    refine j_iload_n C dX2_putPiece_104 rfl ?_
    refine j_iald C hP.2.1 ⟨by omega, by omega⟩ dX2_putPiece_105 ?_
    refine j_aload_n C dX2_putPiece_106 rfl ?_
    refine j_get (T := TX1) (N := 5) (fs := _) (v := .ref (a + 2)) C hwX1 hP.1 1 (by decide) rfl (index := 117) (ref := "TreePairs$Pairs") (by decide +kernel) rfl rfl dX2_putPiece_107 ?_
    refine j_iload_n C dX2_putPiece_110 rfl ?_
    refine j_lald C hP.2.2.1 ⟨by omega, by omega⟩ dX2_putPiece_111 ?_
    refine j_aload_n C dX2_putPiece_112 rfl ?_
    refine j_get (T := TX1) (N := 5) (fs := _) (v := .ref (a2 + 3)) C hwX1 hP2.1 2 (by decide) rfl (index := 114) (ref := "TreePairs$Pairs") (by decide +kernel) rfl rfl dX2_putPiece_113 ?_
    refine j_iload_n C dX2_putPiece_116 rfl ?_
    refine j_iald C hP2.2.2.2.1 ⟨by omega, by omega⟩ dX2_putPiece_117 ?_
    refine j_iload C dX2_putPiece_118 rfl ?_
    refine j_isub C dX2_putPiece_120 ?_
    refine j_aload_n C dX2_putPiece_121 rfl ?_
    refine j_get (T := TX1) (N := 5) (fs := _) (v := .ref (a2 + 4)) C hwX1 hP2.1 3 (by decide) rfl (index := 121) (ref := "TreePairs$Pairs") (by decide +kernel) rfl rfl dX2_putPiece_122 ?_
    refine j_iload_n C dX2_putPiece_125 rfl ?_
    refine j_lald C hP2.2.2.2.2 ⟨by omega, by omega⟩ dX2_putPiece_126 ?_
    refine j_iload C dX2_putPiece_127 rfl ?_
    refine j_ineg C dX2_putPiece_129 ?_
    refine j_lshl C dX2_putPiece_130 ⟨by omega, by omega⟩ ?_
    refine j_lload C dX2_putPiece_131 rfl ?_
    refine j_ladd C dX2_putPiece_133 ?_
    refine j_callmV (jrunV (rest := []) (As := [.int (zI (d i)), .long (zL (c0 i)), .int (zI ((e02 j) - ((d2 j) - (e0 i)))), .long (zL (((b2 j) * 2 ^ (-((d2 j) - (e0 i))).toNat) + ((b i) - ((c02 j) * 2 ^ (-((d2 j) - (e0 i))).toNat))))]) C (c_X1_push l G a3 cap3 L3 (d i) (c0 i) (e02 j - (d2 j - e0 i)) (b2 j * 2 ^ (-(d2 j - e0 i)).toNat + (b i - c02 j * 2 ^ (-(d2 j - e0 i)).toNat))) gX2_putPiece_X1_push rfl 4 (by decide +kernel) rfl rfl ⟨Nat.le_of_ble_eq_true rfl, Nat.le_of_ble_eq_true rfl⟩ hI.ob rfl ⟨hI, hlc, hLB, hpB⟩ rfl rfl (Nat.le_of_ble_eq_true rfl) ⟨Nat.le_of_ble_eq_true rfl, Nat.le_of_ble_eq_true rfl⟩ dX2_putPiece_134) (fun q hq => hq) (fun H1 h134 hF => ?_)
    have hP := hP.frm hF (by intro q h1 h2 h3; (try dsimp only at h3); omega)
    have hP2 := hP2.frm hF (by intro q h1 h2 h3; (try dsimp only at h3); omega)
    have hI := h134
    exact j_vret C hr (Nat.le_refl _) (Nat.zero_le _) hI dX2_putPiece_137
  · skip
    have hpc : pieceF (d i, c0 i, e0 i, b i) (d2 j, c02 j, e02 j, b2 j) = (d i + (d2 j - e0 i), c0 i * 2 ^ (d2 j - e0 i).toNat + (c02 j - b i * 2 ^ (d2 j - e0 i).toNat), e02 j, b2 j) := if_pos (by show 0 ≤ d2 j - e0 i; omega)
    rw [hpc] at hpB ⊢
    refine j_aload_n C dX2_putPiece_20 rfl ?_
    refine j_get (T := TX1) (N := 5) (fs := _) (v := .ref (a2 + 2)) C hwX1 hP2.1 1 (by decide) rfl (index := 117) (ref := "TreePairs$Pairs") (by decide +kernel) rfl rfl dX2_putPiece_21 ?_
    refine j_iload_n C dX2_putPiece_24 rfl ?_
    refine j_lald C hP2.2.2.1 ⟨by omega, by omega⟩ dX2_putPiece_25 ?_
    refine j_aload_n C dX2_putPiece_26 rfl ?_
    refine j_get (T := TX1) (N := 5) (fs := _) (v := .ref (a + 4)) C hwX1 hP.1 3 (by decide) rfl (index := 121) (ref := "TreePairs$Pairs") (by decide +kernel) rfl rfl dX2_putPiece_27 ?_
    refine j_iload_n C dX2_putPiece_30 rfl ?_
    refine j_lald C hP.2.2.2.2 ⟨by omega, by omega⟩ dX2_putPiece_31 ?_
    refine j_iload C dX2_putPiece_32 rfl ?_
    refine j_lshl C dX2_putPiece_34 ⟨by omega, by omega⟩ ?_
    refine j_lsub C dX2_putPiece_35 ?_
    refine j_lstore (lv' := [(0, .ref a), (1, .int (zI i)), (2, .ref a2), (3, .int (zI j)), (4, .ref a3), (5, .int (zI ((d2 j) - (e0 i)))), (6, .long (zL ((c02 j) - ((b i) * 2 ^ ((d2 j) - (e0 i)).toNat))))]) C dX2_putPiece_36 (by decide) rfl ?_
    refine j_aload C dX2_putPiece_38 rfl ?_
    refine j_aload_n C dX2_putPiece_40 rfl ?_
    refine j_get (T := TX1) (N := 5) (fs := _) (v := .ref (a + 1)) C hwX1 hP.1 0 (by decide) rfl (index := 111) (ref := "TreePairs$Pairs") (by decide +kernel) rfl rfl dX2_putPiece_41 ?_
    refine j_iload_n C dX2_putPiece_44 rfl ?_
    refine j_iald C hP.2.1 ⟨by omega, by omega⟩ dX2_putPiece_45 ?_
    refine j_iload C dX2_putPiece_46 rfl ?_
    refine j_iadd C dX2_putPiece_48 ?_
    refine j_aload_n C dX2_putPiece_49 rfl ?_
    refine j_get (T := TX1) (N := 5) (fs := _) (v := .ref (a + 2)) C hwX1 hP.1 1 (by decide) rfl (index := 117) (ref := "TreePairs$Pairs") (by decide +kernel) rfl rfl dX2_putPiece_50 ?_
    refine j_iload_n C dX2_putPiece_53 rfl ?_
    refine j_lald C hP.2.2.1 ⟨by omega, by omega⟩ dX2_putPiece_54 ?_
    refine j_iload C dX2_putPiece_55 rfl ?_
    refine j_lshl C dX2_putPiece_57 ⟨by omega, by omega⟩ ?_
    refine j_lload C dX2_putPiece_58 rfl ?_
    refine j_ladd C dX2_putPiece_60 ?_
    refine j_aload_n C dX2_putPiece_61 rfl ?_
    refine j_get (T := TX1) (N := 5) (fs := _) (v := .ref (a2 + 3)) C hwX1 hP2.1 2 (by decide) rfl (index := 114) (ref := "TreePairs$Pairs") (by decide +kernel) rfl rfl dX2_putPiece_62 ?_
    refine j_iload_n C dX2_putPiece_65 rfl ?_
    refine j_iald C hP2.2.2.2.1 ⟨by omega, by omega⟩ dX2_putPiece_66 ?_
    refine j_aload_n C dX2_putPiece_67 rfl ?_
    refine j_get (T := TX1) (N := 5) (fs := _) (v := .ref (a2 + 4)) C hwX1 hP2.1 3 (by decide) rfl (index := 121) (ref := "TreePairs$Pairs") (by decide +kernel) rfl rfl dX2_putPiece_68 ?_
    refine j_iload_n C dX2_putPiece_71 rfl ?_
    refine j_lald C hP2.2.2.2.2 ⟨by omega, by omega⟩ dX2_putPiece_72 ?_
    refine j_callmV (jrunV (rest := []) (As := [.int (zI ((d i) + ((d2 j) - (e0 i)))), .long (zL (((c0 i) * 2 ^ ((d2 j) - (e0 i)).toNat) + ((c02 j) - ((b i) * 2 ^ ((d2 j) - (e0 i)).toNat)))), .int (zI (e02 j)), .long (zL (b2 j))]) C (c_X1_push l G a3 cap3 L3 (d i + (d2 j - e0 i)) (c0 i * 2 ^ (d2 j - e0 i).toNat + (c02 j - b i * 2 ^ (d2 j - e0 i).toNat)) (e02 j) (b2 j)) gX2_putPiece_X1_push rfl 4 (by decide +kernel) rfl rfl ⟨Nat.le_of_ble_eq_true rfl, Nat.le_of_ble_eq_true rfl⟩ hI.ob rfl ⟨hI, hlc, hLB, hpB⟩ rfl rfl (Nat.le_of_ble_eq_true rfl) ⟨Nat.le_of_ble_eq_true rfl, Nat.le_of_ble_eq_true rfl⟩ dX2_putPiece_73) (fun q hq => hq) (fun H2 h73 hF => ?_)
    have hP := hP.frm hF (by intro q h1 h2 h3; (try dsimp only at h3); omega)
    have hP2 := hP2.frm hF (by intro q h1 h2 h3; (try dsimp only at h3); omega)
    have hI := h73
    refine j_goto (tgt := 137) C dX2_putPiece_76 (by decide) ?_
    exact j_vret C hr (Nat.le_refl _) (Nat.zero_le _) hI dX2_putPiece_137

set_option maxHeartbeats 4000000 in
set_option maxRecDepth 100000 in
/-- X2_putBehind -/
theorem c_X2_putBehind (l : Launch) (G : Gx) (a cap a2 cap2 a3 cap3 : Nat) (A B L3 : List Q4) : Met l yX2_putBehind wsX2_putBehind ({ frames := 3, cells := 0, slots := 0, locals := 79 } : Room) (cPc G [.ref a, .ref a2, .ref a3] (fun H => PL G H a cap A ∧ PL G H a2 cap2 B ∧ PL G H a3 cap3 L3 ∧ (∀ q ∈ A, LQ 23 q) ∧ (∀ q ∈ B, LQ 23 q) ∧ cap2 ≤ 48 ∧ cutF B ∧ (prodF A B).length ≤ cap3 ∧ (∀ q ∈ prodF A B, LQ 46 q) ∧ (a + 5 ≤ a3 ∨ a3 + 5 ≤ a) ∧ (a2 + 5 ≤ a3 ∨ a3 + 5 ≤ a2))) (qmV (fun H => PL G H a3 cap3 (redF (prodF A B))) (fun q : Nat => a3 ≤ q ∧ q < a3 + 5)) 0 0 (fun q : Nat => a3 ≤ q ∧ q < a3 + 5) := by
  refine Met.ofJ (cc := cX2_putBehind) (maxL := 8) (ret := none) (lv0 := [(0, .ref a), (1, .ref a2), (2, .ref a3)]) (by decide) rfl (Nat.le_of_ble_eq_true rfl) rfl ?_
  intro p e s m args below meth c C hr hnm hpre
  obtain ⟨hA, hBb, hI0, hAB, hBB, hc48, hcut, hpl, hpB, hs1, hs2⟩ := hpre
  have hwX1 : ∀ w ∈ u_ws RX1 TX1 5, w ∈ wsX2_putBehind := by decide +kernel
  obtain ⟨d, c0, e0, b, hP, hRp, hcap⟩ := hA
  have hcR := hP.capR
  obtain ⟨d2, c02, e02, b2, hP2, hRp2, hcap2⟩ := hBb
  have hcR2 := hP2.capR
  obtain ⟨d3, c03, e03, b3, hP3, hRp3, hcap3⟩ := hI0
  have hcR3 := hP3.capR
  have hltr := cut_ltr hcut hBB
  have hB1 := cut_ne hcut
  have hS2 : ∀ i j, 0 ≤ i → i < j → j < (B.length : Int) → c02 i * 2 ^ (23 - d2 i).toNat < c02 j * 2 ^ (23 - d2 j).toNat := fun i j h0 h1 h2 => by have := hltr.lt hBB h0 h1 h2; rw [hRp2 i h0 (by omega), hRp2 j (by omega) h2] at this; exact this
  have hL2 : ∀ i, 0 ≤ i → i < (B.length : Int) → Lf 23 (d2 i) (c02 i) := fun i h0 h1 => (hRp2.bnd hBB h0 h1).1
  have hz2 : c02 0 * 2 ^ (23 - d2 0).toNat = 0 := by have := hltr.2; rw [hRp2 0 (by omega) (by omega)] at this; exact this
  refine j_aload_n C dX2_putBehind_0 rfl ?_
  refine j_iconst C dX2_putBehind_1 ?_
  refine j_put (T := TX1) (N := 5) (fs' := [.ref (a3 + 1), .ref (a3 + 2), .ref (a3 + 3), .ref (a3 + 4), .int (zI 0)]) (ty := .int) C tyX1 tyX1_ok nmX1 hwX1 hP3.1 4 (by decide) rfl (index := 35) (ref := "TreePairs$Pairs") (by decide +kernel) rfl rfl (by decide +kernel) rfl rfl (Nat.le_of_ble_eq_true rfl) rfl (by omega) dX2_putBehind_2 (fun H1 hO hC => ?_)
  have hP3 := hP3.put_size hO hC
  have hP := hP.chg hC (by omega)
  have hP2 := hP2.chg hC (by omega)
  refine j_iconst C dX2_putBehind_5 ?_
  refine j_istore_n (lv' := [(0, .ref a), (1, .ref a2), (2, .ref a3), (3, .int (zI 0))]) C dX2_putBehind_6 (by decide) rfl ?_
  have K7 : ∀ (fu7 : Nat) (i : Int) (Hl1 : Heap), (A.length - i).toNat < fu7 → PQ G Hl1 a cap (A.length : Int) d c0 e0 b → PQ G Hl1 a2 cap2 (B.length : Int) d2 c02 e02 b2 → PL G Hl1 a3 cap3 (redF (prodF (A.take i.toNat) B)) → 0 ≤ i ∧ i ≤ A.length → JJ p l e ({ frames := 3, cells := 0, slots := 0, locals := 79 } : Room) s m args below meth c (MQ below (qmV (fun H => PL G H a3 cap3 (redF (prodF A B))) (fun q : Nat => a3 ≤ q ∧ q < a3 + 5)) args s 0 0 (fun q : Nat => a3 ≤ q ∧ q < a3 + 5)) (fun q : Nat => a3 ≤ q ∧ q < a3 + 5) 8 Hl1 0 0 7 [(0, .ref a), (1, .ref a2), (2, .ref a3), (3, .int (zI i))] [] := by
    intro fu7
    induction fu7 with
    | zero => intro i Hl1 hm7 hP hP2 hI hi; exact absurd hm7 (Nat.not_lt_zero _)
    | succ fu7 ih7 =>
      intro i Hl1 hm7 hP hP2 hI hi
      refine j_iload_n C dX2_putBehind_7 rfl ?_
      refine j_aload_n C dX2_putBehind_8 rfl ?_
      refine j_get (T := TX1) (N := 5) (fs := _) (v := .int (zI (A.length : Int))) C hwX1 hP.1 4 (by decide) rfl (index := 35) (ref := "TreePairs$Pairs") (by decide +kernel) rfl rfl dX2_putBehind_9 ?_
      refine j_icmp_ge (tgt := 79) C dX2_putBehind_12 (by decide) ⟨by omega, by omega⟩ ⟨by omega, by omega⟩ (fun c12 => ?_) (fun c12 => ?_)
      · skip
        exact j_vret C hr (Nat.le_refl _) (Nat.zero_le _) (by have := hI; rw [take_all A (by omega)] at this; exact this) dX2_putBehind_79
      · skip
        have hlt : 0 ≤ i ∧ i < (A.length : Int) := ⟨by omega, by omega⟩
        have q1 := hRp i hlt.1 hlt.2
        have x1 := hRp.bnd hAB hlt.1 hlt.2
        have s2 := x1.2.st
        have y1 := x1.1.b23
        have y2 := x1.2.b23
        have hst2 : st2 (qat A i) = b i * 2 ^ (23 - e0 i).toNat := by rw [q1]; rfl
        have hen2 : en2 (qat A i) = (b i + 1) * 2 ^ (23 - e0 i).toNat := by rw [q1]; rfl
        refine j_aload_n C dX2_putBehind_15 rfl ?_
        refine j_iload_n C dX2_putBehind_16 rfl ?_
        refine j_callL (jrunV (rest := []) (As := [.int (zI i)]) C (c_X1_secondEnd l G a cap A.length d c0 e0 b i) gX2_putBehind_X1_secondEnd rfl 1 (by decide +kernel) rfl rfl ⟨Nat.le_of_ble_eq_true rfl, Nat.le_of_ble_eq_true rfl⟩ hP.1 rfl ⟨hP, ⟨by omega, by omega⟩, by omega, by omega⟩ rfl rfl (Nat.le_of_ble_eq_true rfl) ⟨Nat.le_of_ble_eq_true rfl, Nat.le_of_ble_eq_true rfl⟩ dX2_putBehind_17) (fun r17 h17 => ?_)
        subst h17
        refine j_lstore (lv' := [(0, .ref a), (1, .ref a2), (2, .ref a3), (3, .int (zI i)), (4, .long (zL ((b i + 1) * 2 ^ (23 - e0 i).toNat)))]) C dX2_putBehind_20 (by decide) rfl ?_
        refine j_aload_n C dX2_putBehind_22 rfl ?_
        refine j_aload_n C dX2_putBehind_23 rfl ?_
        refine j_iload_n C dX2_putBehind_24 rfl ?_
        refine j_callL (jrunV (rest := [.ref a2]) (As := [.int (zI i)]) C (c_X1_secondStart l G a cap A.length d c0 e0 b i) gX2_putBehind_X1_secondStart rfl 1 (by decide +kernel) rfl rfl ⟨Nat.le_of_ble_eq_true rfl, Nat.le_of_ble_eq_true rfl⟩ hP.1 rfl ⟨hP, ⟨by omega, by omega⟩, by omega, by omega⟩ rfl rfl (Nat.le_of_ble_eq_true rfl) ⟨Nat.le_of_ble_eq_true rfl, Nat.le_of_ble_eq_true rfl⟩ dX2_putBehind_25) (fun r25 h25 => ?_)
        subst h25
        refine j_callI (jrunV (rest := []) (As := [.long (zL (b i * 2 ^ (23 - e0 i).toNat))]) C (c_X1_holderOf l G a2 cap2 B.length d2 c02 e02 b2 (b i * 2 ^ (23 - e0 i).toNat)) gX2_putBehind_X1_holderOf rfl 1 (by decide +kernel) rfl rfl ⟨Nat.le_of_ble_eq_true rfl, Nat.le_of_ble_eq_true rfl⟩ hP2.1 rfl ⟨hP2, ⟨by omega, by omega⟩, hc48, ⟨by omega, by omega⟩, hL2, hS2, by omega⟩ rfl rfl (Nat.le_of_ble_eq_true rfl) ⟨Nat.le_of_ble_eq_true rfl, Nat.le_of_ble_eq_true rfl⟩ dX2_putBehind_28) (fun j0 h28 => ?_)
        obtain ⟨r28_1, r28_2, r28_3, r28_4⟩ := h28
        have r28 : 0 ≤ j0 ∧ j0 < (B.length : Int) ∧ True := ⟨r28_1, r28_2, trivial⟩
        have hqj := hRp2 j0 r28_1 r28_2
        have hst2r : st1 (qat B j0) ≤ st2 (qat A i) := by rw [hqj, hst2]; exact r28_3
        have hov := hov_of hcut hBB r28_1 r28_2 (x := qat A i) (by rw [hst2]; omega) (fun k h1 h2 => by rw [hst2, hRp2 k (by omega) h2]; exact r28_4 k h1 h2)
        refine j_istore (lv' := [(0, .ref a), (1, .ref a2), (2, .ref a3), (3, .int (zI i)), (4, .long (zL ((b i + 1) * 2 ^ (23 - e0 i).toNat))), (6, .int (zI j0))]) C dX2_putBehind_31 (by decide) rfl ?_
        refine j_iload C dX2_putBehind_33 rfl ?_
        refine j_istore (lv' := [(0, .ref a), (1, .ref a2), (2, .ref a3), (3, .int (zI i)), (4, .long (zL ((b i + 1) * 2 ^ (23 - e0 i).toNat))), (6, .int (zI j0)), (7, .int (zI j0))]) C dX2_putBehind_35 (by decide) rfl ?_
        have K37 : ∀ (fu37 : Nat) (j : Int) (Hl2 : Heap), (B.length - j).toNat < fu37 → PQ G Hl2 a cap (A.length : Int) d c0 e0 b → PQ G Hl2 a2 cap2 (B.length : Int) d2 c02 e02 b2 → PL G Hl2 a3 cap3 (redF (prodF (A.take i.toNat) B ++ rowF (qat A i) (B.take j.toNat))) → 0 ≤ j ∧ j ≤ B.length → (∀ k, j ≤ k → k < (B.length : Int) → st2 (qat A i) < en1 (qat B k)) → JJ p l e ({ frames := 3, cells := 0, slots := 0, locals := 79 } : Room) s m args below meth c (MQ below (qmV (fun H => PL G H a3 cap3 (redF (prodF A B))) (fun q : Nat => a3 ≤ q ∧ q < a3 + 5)) args s 0 0 (fun q : Nat => a3 ≤ q ∧ q < a3 + 5)) (fun q : Nat => a3 ≤ q ∧ q < a3 + 5) 8 Hl2 0 0 37 [(0, .ref a), (1, .ref a2), (2, .ref a3), (3, .int (zI i)), (4, .long (zL ((b i + 1) * 2 ^ (23 - e0 i).toNat))), (7, .int (zI j))] [] := by
          intro fu37
          induction fu37 with
          | zero => intro j Hl2 hm37 hP hP2 hI hj hjh; exact absurd hm37 (Nat.not_lt_zero _)
          | succ fu37 ih37 =>
            intro j Hl2 hm37 hP hP2 hI hj hjh
            refine j_iload C dX2_putBehind_37 rfl ?_
            refine j_aload_n C dX2_putBehind_39 rfl ?_
            refine j_get (T := TX1) (N := 5) (fs := _) (v := .int (zI (B.length : Int))) C hwX1 hP2.1 4 (by decide) rfl (index := 35) (ref := "TreePairs$Pairs") (by decide +kernel) rfl rfl dX2_putBehind_40 ?_
            refine j_icmp_ge (tgt := 73) C dX2_putBehind_43 (by decide) ⟨by omega, by omega⟩ ⟨by omega, by omega⟩ (fun c43 => ?_) (fun c43 => ?_)
            · skip
              have hI2 : PL G Hl2 a3 cap3 (redF (prodF (A.take (i + 1).toNat) B)) := by rw [prodF_s hlt.1 hlt.2]; rw [take_all B (by omega)] at hI; exact hI
              refine j_iinc (lv' := [(0, .ref a), (1, .ref a2), (2, .ref a3), (3, .int (zI (i + 1))), (4, .long (zL ((b i + 1) * 2 ^ (23 - e0 i).toNat))), (7, .int (zI j))]) C dX2_putBehind_73 rfl (by decide) rfl ?_
              refine j_goto (tgt := 7) C dX2_putBehind_76 (by decide) ?_
              exact JJ.drop (lv' := [(0, .ref a), (1, .ref a2), (2, .ref a3), (3, .int (zI (i + 1)))]) rfl (ih7 (i + 1) Hl2 (by omega) hP hP2 hI2 ⟨by omega, by omega⟩)
            · skip
              have hjl : 0 ≤ j ∧ j < (B.length : Int) := ⟨by omega, by omega⟩
              have q2 := hRp2 j hjl.1 hjl.2
              have z1 := hL2 j hjl.1 hjl.2
              have z2 := z1.st
              have z3 := z1.b23
              have hst1 : st1 (qat B j) = c02 j * 2 ^ (23 - d2 j).toNat := by rw [q2]; rfl
              refine j_aload_n C dX2_putBehind_46 rfl ?_
              refine j_iload C dX2_putBehind_47 rfl ?_
              refine j_callL (jrunV (rest := []) (As := [.int (zI j)]) C (c_X1_firstStart l G a2 cap2 B.length d2 c02 e02 b2 j) gX2_putBehind_X1_firstStart rfl 1 (by decide +kernel) rfl rfl ⟨Nat.le_of_ble_eq_true rfl, Nat.le_of_ble_eq_true rfl⟩ hP2.1 rfl ⟨hP2, ⟨by omega, by omega⟩, by omega, by omega⟩ rfl rfl (Nat.le_of_ble_eq_true rfl) ⟨Nat.le_of_ble_eq_true rfl, Nat.le_of_ble_eq_true rfl⟩ dX2_putBehind_49) (fun r49 h49 => ?_)
              subst h49
              refine j_lload C dX2_putBehind_52 rfl ?_
              refine j_lcmp_ge (tgt := 73) C dX2_putBehind_54 dX2_putBehind_55 (by decide) ⟨by omega, by omega⟩ ⟨by omega, by omega⟩ (fun c54 => ?_) (fun c54 => ?_)
              · skip
                have hI2 : PL G Hl2 a3 cap3 (redF (prodF (A.take (i + 1).toNat) B)) := by
                  rw [prodF_s hlt.1 hlt.2]
                  have := rowF_app (qat A i) (B.take j.toNat) (B.drop j.toNat)
                  rw [List.take_append_drop, rowF_after hltr hBB hj.1 (fun _ => by omega), List.append_nil] at this
                  rw [this]; exact hI
                refine j_iinc (lv' := [(0, .ref a), (1, .ref a2), (2, .ref a3), (3, .int (zI (i + 1))), (4, .long (zL ((b i + 1) * 2 ^ (23 - e0 i).toNat))), (7, .int (zI j))]) C dX2_putBehind_73 rfl (by decide) rfl ?_
                refine j_goto (tgt := 7) C dX2_putBehind_76 (by decide) ?_
                exact JJ.drop (lv' := [(0, .ref a), (1, .ref a2), (2, .ref a3), (3, .int (zI (i + 1)))]) rfl (ih7 (i + 1) Hl2 (by omega) hP hP2 hI2 ⟨by omega, by omega⟩)
              · skip
                have hovj : ovl (qat A i) (qat B j) := ⟨by omega, hjh j (Int.le_refl _) hjl.2⟩
                have hrow : rowF (qat A i) (B.take (j + 1).toNat) = rowF (qat A i) (B.take j.toNat) ++ [pieceF (qat A i) (qat B j)] := by rw [take_q B hjl.1 hjl.2, rowF_app, rowF_1 hovj]
                obtain ⟨T1, hT1⟩ := prodF_pre (B := B) hlt.1 hlt.2
                obtain ⟨T2, hT2⟩ := rowF_pre (qat A i) B (j + 1)
                have hall : prodF A B = prodF (A.take i.toNat) B ++ rowF (qat A i) (B.take j.toNat) ++ (pieceF (qat A i) (qat B j) :: (T2 ++ T1)) := by rw [hT1, hT2, hrow]; simp
                have hln := hpl
                rw [hall, List.length_append, List.length_cons] at hln
                have hrl : (redF (prodF (A.take i.toNat) B ++ rowF (qat A i) (B.take j.toNat))).length ≤ 0 + (prodF (A.take i.toNat) B ++ rowF (qat A i) (B.take j.toNat)).length := redF_len (prodF (A.take i.toNat) B ++ rowF (qat A i) (B.take j.toNat)) []
                have hrb : ∀ q ∈ redF (prodF (A.take i.toNat) B ++ rowF (qat A i) (B.take j.toNat)), LQ 46 q := redF_B _ _ (fun x h => absurd h List.not_mem_nil) (fun x h => hpB x (by rw [hall]; exact List.mem_append_left _ h))
                have hpb : LQ 46 (pieceF (qat A i) (qat B j)) := hpB _ (by rw [hall]; exact List.mem_append_right _ List.mem_cons_self)
                have hA1 : PL G Hl2 a cap A := ⟨_, _, _, _, hP, hRp, hcap⟩
                have hB1l : PL G Hl2 a2 cap2 B := ⟨_, _, _, _, hP2, hRp2, hcap2⟩
                refine j_aload_n C dX2_putBehind_58 rfl ?_
                refine j_iload_n C dX2_putBehind_59 rfl ?_
                refine j_aload_n C dX2_putBehind_60 rfl ?_
                refine j_iload C dX2_putBehind_61 rfl ?_
                refine j_aload_n C dX2_putBehind_63 rfl ?_
                refine j_callmV (jrunS (rest := []) (As := [.ref a, .int (zI i), .ref a2, .int (zI j), .ref a3]) C (c_X2_putPiece l G a cap a2 cap2 a3 cap3 A B (redF (prodF (A.take i.toNat) B ++ rowF (qat A i) (B.take j.toNat))) i j) gX2_putBehind_X2_putPiece rfl 5 (by decide +kernel) rfl rfl ⟨Nat.le_of_ble_eq_true rfl, Nat.le_of_ble_eq_true rfl⟩ ⟨hA1, hB1l, hI, hlt, hjl, hAB, hBB, by omega, hrb, hpb, hs1, hs2⟩ rfl rfl (Nat.le_of_ble_eq_true rfl) ⟨Nat.le_of_ble_eq_true rfl, Nat.le_of_ble_eq_true rfl⟩ dX2_putBehind_64) (fun q hq => hq) (fun H2 h64 hF => ?_)
                have hP := hP.frm hF (by intro q h1 h2 h3; (try dsimp only at h3); omega)
                have hP2 := hP2.frm hF (by intro q h1 h2 h3; (try dsimp only at h3); omega)
                have hI := h64
                have hI3 : PL G H2 a3 cap3 (redF (prodF (A.take i.toNat) B ++ rowF (qat A i) (B.take (j + 1).toNat))) := by rw [hrow, ← List.append_assoc]; unfold redF; rw [List.foldl_append]; exact hI
                refine j_iinc (lv' := [(0, .ref a), (1, .ref a2), (2, .ref a3), (3, .int (zI i)), (4, .long (zL ((b i + 1) * 2 ^ (23 - e0 i).toNat))), (7, .int (zI (j + 1)))]) C dX2_putBehind_67 rfl (by decide) rfl ?_
                refine j_goto (tgt := 37) C dX2_putBehind_70 (by decide) ?_
                exact JJ.drop (lv' := [(0, .ref a), (1, .ref a2), (2, .ref a3), (3, .int (zI i)), (4, .long (zL ((b i + 1) * 2 ^ (23 - e0 i).toNat))), (7, .int (zI (j + 1)))]) rfl (ih37 (j + 1) H2 (by omega) hP hP2 hI3 ⟨by omega, by omega⟩ (fun k h1 h2 => hjh k (by omega) h2))
        exact JJ.drop (lv' := [(0, .ref a), (1, .ref a2), (2, .ref a3), (3, .int (zI i)), (4, .long (zL ((b i + 1) * 2 ^ (23 - e0 i).toNat))), (7, .int (zI j0))]) rfl (K37 (((B.length - j0).toNat) + 1) j0 Hl1 (Nat.lt_succ_self _) hP hP2 (by rw [rowF_before hltr r28.1 r28.2.1 hst2r, List.append_nil]; exact hI) ⟨r28.1, by omega⟩ hov)
  exact JJ.drop (lv' := [(0, .ref a), (1, .ref a2), (2, .ref a3), (3, .int (zI 0))]) rfl (K7 (((A.length - (0 : Int)).toNat) + 1) 0 H1 (Nat.lt_succ_self _) hP hP2 ⟨_, _, _, _, hP3, Rp.nil, Nat.zero_le _⟩ ⟨by omega, by omega⟩)
