theorem ap_congr {G : Gx} {q n : Nat} {f g : Int → Option Nat} {H : Heap} (h : ap G q n f H) (hg : ∀ j : Int, 0 ≤ j → j < n → f j = g j) : ap G q n g H := by
  refine ⟨h.1, ?_⟩
  have h2 : H[q]? = some (arrV G.2.2.2.1 n fun j => va_rf (f j)) := h.2
  show H[q]? = some (arrV G.2.2.2.1 n fun j => va_rf (g j))
  rw [h2]
  congr 1
  unfold arrV
  congr 1
  apply Array.ext
  · simp
  · intro i h1 h2
    simp at h1 ⊢
    rw [hg i (by omega) (by omega)]
set_option maxHeartbeats 8000000 in
theorem c_X2_init (l : Launch) (G : Gx) (o : Nat) : Met l yX2_init wsX2_init ({ frames := 2, cells := 81, slots := 1916, locals := 40 } : Room) (cPc G [.ref o] (fun H => ob G o 3 [.null, .null, .int (zI 0), .long (zL 0), .null, .null, .null, .null] H ∧ H.size = o + 1)) (qmV (fun H => TP G H o (fun _ => []) [] 0 0 .null ∧ H.size = o + 82) (fun q : Nat => o ≤ q)) 81 1916 (fun q : Nat => o ≤ q) := by
  refine Met.ofJ (cc := cX2_init) (maxL := 2) (ret := none) (lv0 := [(0, .ref o)]) (by decide) rfl (Nat.le_of_ble_eq_true rfl) rfl ?_
  intro p e s m args below meth c C hr hnm hpre
  obtain ⟨hO, hsz⟩ := hpre
  have hwX1 : ∀ w ∈ u_ws RX1 TX1 5, w ∈ wsX2_init := by decide +kernel
  have hwX2 : ∀ w ∈ u_ws RX2 TX2 8, w ∈ wsX2_init := by decide +kernel
  refine j_aload_n C dX2_init_0 rfl ?_
  refine j_objinit C (idx := 3) (by decide +kernel) (by decide +kernel) (by decide +kernel) (Nat.le_of_ble_eq_true rfl) (Nat.le_of_ble_eq_true rfl) dX2_init_1 ?_
  refine j_aload_n C dX2_init_4 rfl ?_
  refine j_bipush C dX2_init_5 (by decide) ?_
  refine j_newP (k := 12) (h := o + 1) C (index := 9) (by decide +kernel) rfl (by omega) hsz (Nat.le_of_ble_eq_true rfl) (Nat.le_of_ble_eq_true rfl) dX2_init_7 (fun H1 hA hG => ?_)
  have hO := obk hO (hG.2 _ (by omega))
  refine j_putF (T := TX2) (N := 8) (fs' := [.ref (o + 1), .null, .int (zI 0), .long (zL 0), .null, .null, .null, .null]) (ty := .array (.object "TreePairs$Pairs")) C tyX2 tyX2_ok nmX2 hwX2 hO 0 (by decide) rfl (index := 11) (ref := "TreePairs") (by decide +kernel) rfl rfl hnm rfl (by decide +kernel) rfl rfl (Nat.le_of_ble_eq_true rfl) rfl (Nat.le_refl _) dX2_init_10 (fun H2 hO hC => ?_)
  have hA := hA.kept (hC.2 _ (by omega))
  have hsz : H2.size = o + 2 := by rw [hC.1]; exact hG.1
  refine j_iconst C dX2_init_13 ?_
  refine j_istore_n (lv' := [(0, .ref o), (1, .int (zI 0))]) C dX2_init_14 (by decide) rfl ?_
  have K : ∀ (fu : Nat) (i : Int) (f : Int → Option Nat) (H : Heap), (12 - i).toNat < fu → 0 ≤ i → i ≤ 12 → ob G o 3 [.ref (o + 1), .null, .int (zI 0), .long (zL 0), .null, .null, .null, .null] H → ap G (o + 1) 12 f H → (∀ t : Int, 0 ≤ t → t < i → f t = some (mpA o t)) → (∀ t : Int, 0 ≤ t → t < i → PL G H (mpA o t) 24 []) → H.size = o + 2 + 5 * i.toNat → JJ p l e ({ frames := 2, cells := 81, slots := 1916, locals := 40 } : Room) s m args below meth c (MQ below (qmV (fun H => TP G H o (fun _ => []) [] 0 0 .null ∧ H.size = o + 82) (fun q : Nat => o ≤ q)) args s 81 1916 (fun q : Nat => o ≤ q)) (fun q : Nat => o ≤ q) 2 H (1 + 5 * i.toNat) (12 + 101 * i.toNat) 15 [(0, .ref o), (1, .int (zI i))] [] := by
    intro fu
    induction fu with
    | zero => intro i f H hm; exact absurd hm (Nat.not_lt_zero _)
    | succ fu ih =>
      intro i f H hm i0 i1 hO hA hf hP hsz
      refine j_iload_n C dX2_init_15 rfl ?_
      refine j_bipush C dX2_init_16 (by decide) ?_
      refine j_icmp_ge (tgt := 42) C dX2_init_18 (by decide) ⟨by omega, by omega⟩ ⟨by decide, by decide⟩ (fun c18 => ?_) (fun c18 => ?_)
      · have ei : i = 12 := by omega
        subst ei
        have hsz : H.size = o + 62 := by rw [hsz]; rfl
        refine JJ.widen (ca' := 61) (sl' := 1224) (by decide) (by decide) ?_
        refine j_aload_n C dX2_init_42 rfl ?_
        refine j_new (ci := 2) (fs := [.null, .null, .null, .null, .int (zI 0)]) (h := o + 62) C tyX1 tyX1_ok hwX1 rfl (index := 9) (by decide +kernel) (by decide +kernel) (by decide +kernel) (fun j hj => by rcases (show j = 0 ∨ j = 1 ∨ j = 2 ∨ j = 3 ∨ j = 4 by omega) with rfl | rfl | rfl | rfl | rfl <;> rfl) hsz (Nat.le_of_ble_eq_true rfl) (Nat.le_of_ble_eq_true rfl) dX2_init_43 (fun Ha0 hN hG => ?_)
        have hO := obk hO (hG.2 _ (by omega))
        have hA := hA.kept (hG.2 _ (by omega))
        have hP : ∀ t : Int, 0 ≤ t → t < 12 → PL G Ha0 (mpA o t) 24 [] := fun t t0 t1 => (hP t t0 t1).grw hG (by unfold mpA; omega)
        refine j_dup C dX2_init_46 rfl ?_
        refine j_bipush C dX2_init_47 (by decide) ?_
        refine j_callmV (jrunI (rest := [.ref (o + 62), .ref o]) (As := [.int (zI 24)]) C (c_X1_init l G (o + 62) 24) gX2_init_X1_init rfl 1 (by decide +kernel) (by decide +kernel) (by decide +kernel) rfl (by decide +kernel) rfl rfl ⟨Nat.le_of_ble_eq_true rfl, Nat.le_of_ble_eq_true rfl⟩ ⟨hN, hG.1, by decide⟩ rfl rfl (Nat.le_of_ble_eq_true rfl) ⟨Nat.le_of_ble_eq_true rfl, Nat.le_of_ble_eq_true rfl⟩ dX2_init_49) (fun q hq => by have hq' : o + 62 ≤ q := hq; show o ≤ q; omega) (fun Hb0 h42 hF => ?_)
        have hO := obk hO (hF.2 _ (by rw [hG.1]; omega) (by show ¬ o + 62 ≤ o; omega))
        have hA := hA.kept (hF.2 _ hA.lt (by show ¬ o + 62 ≤ o + 1; omega))
        have hP : ∀ t : Int, 0 ≤ t → t < 12 → PL G Hb0 (mpA o t) 24 [] := fun t t0 t1 => (hP t t0 t1).frm hF (fun q q1 q2 => by show ¬ o + 62 ≤ q; unfold mpA at q2; omega)
        obtain ⟨hH, hsz⟩ := h42
        refine j_putF (T := TX2) (N := 8) (fs' := [.ref (o + 1), .ref (o + 62), .int (zI 0), .long (zL 0), .null, .null, .null, .null]) (ty := .object "TreePairs$Pairs") C tyX2 tyX2_ok nmX2 hwX2 hO 1 (by decide) rfl (index := 18) (ref := "TreePairs") (by decide +kernel) rfl rfl hnm rfl (by decide +kernel) rfl rfl (Nat.le_of_ble_eq_true rfl) rfl (Nat.le_refl _) dX2_init_52 (fun Hc0 hO hC => ?_)
        have hA := hA.kept (hC.2 _ (by omega))
        have hP : ∀ t : Int, 0 ≤ t → t < 12 → PL G Hc0 (mpA o t) 24 [] := fun t t0 t1 => (hP t t0 t1).chg hC (by unfold mpA; omega)
        have hH := hH.chg hC (by omega)
        have hsz : Hc0.size = o + 67 := by rw [hC.1]; exact hsz
        refine JJ.widen (ca' := 66) (sl' := 1325) (by decide) (by decide) ?_
        refine j_aload_n C dX2_init_55 rfl ?_
        refine j_new (ci := 2) (fs := [.null, .null, .null, .null, .int (zI 0)]) (h := o + 67) C tyX1 tyX1_ok hwX1 rfl (index := 9) (by decide +kernel) (by decide +kernel) (by decide +kernel) (fun j hj => by rcases (show j = 0 ∨ j = 1 ∨ j = 2 ∨ j = 3 ∨ j = 4 by omega) with rfl | rfl | rfl | rfl | rfl <;> rfl) hsz (Nat.le_of_ble_eq_true rfl) (Nat.le_of_ble_eq_true rfl) dX2_init_56 (fun Ha1 hN hG => ?_)
        have hO := obk hO (hG.2 _ (by omega))
        have hA := hA.kept (hG.2 _ (by omega))
        have hP : ∀ t : Int, 0 ≤ t → t < 12 → PL G Ha1 (mpA o t) 24 [] := fun t t0 t1 => (hP t t0 t1).grw hG (by unfold mpA; omega)
        have hH := hH.grw hG (by omega)
        refine j_dup C dX2_init_59 rfl ?_
        refine j_bipush C dX2_init_60 (by decide) ?_
        refine j_callmV (jrunI (rest := [.ref (o + 67), .ref o]) (As := [.int (zI 48)]) C (c_X1_init l G (o + 67) 48) gX2_init_X1_init rfl 1 (by decide +kernel) (by decide +kernel) (by decide +kernel) rfl (by decide +kernel) rfl rfl ⟨Nat.le_of_ble_eq_true rfl, Nat.le_of_ble_eq_true rfl⟩ ⟨hN, hG.1, by decide⟩ rfl rfl (Nat.le_of_ble_eq_true rfl) ⟨Nat.le_of_ble_eq_true rfl, Nat.le_of_ble_eq_true rfl⟩ dX2_init_62) (fun q hq => by have hq' : o + 67 ≤ q := hq; show o ≤ q; omega) (fun Hb1 h55 hF => ?_)
        have hO := obk hO (hF.2 _ (by rw [hG.1]; omega) (by show ¬ o + 67 ≤ o; omega))
        have hA := hA.kept (hF.2 _ hA.lt (by show ¬ o + 67 ≤ o + 1; omega))
        have hP : ∀ t : Int, 0 ≤ t → t < 12 → PL G Hb1 (mpA o t) 24 [] := fun t t0 t1 => (hP t t0 t1).frm hF (fun q q1 q2 => by show ¬ o + 67 ≤ q; unfold mpA at q2; omega)
        have hH := hH.frm hF (fun q q1 q2 => by show ¬ o + 67 ≤ q; omega)
        obtain ⟨hM, hsz⟩ := h55
        refine j_putF (T := TX2) (N := 8) (fs' := [.ref (o + 1), .ref (o + 62), .int (zI 0), .long (zL 0), .ref (o + 67), .null, .null, .null]) (ty := .object "TreePairs$Pairs") C tyX2 tyX2_ok nmX2 hwX2 hO 4 (by decide) rfl (index := 22) (ref := "TreePairs") (by decide +kernel) rfl rfl hnm rfl (by decide +kernel) rfl rfl (Nat.le_of_ble_eq_true rfl) rfl (Nat.le_refl _) dX2_init_65 (fun Hc1 hO hC => ?_)
        have hA := hA.kept (hC.2 _ (by omega))
        have hP : ∀ t : Int, 0 ≤ t → t < 12 → PL G Hc1 (mpA o t) 24 [] := fun t t0 t1 => (hP t t0 t1).chg hC (by unfold mpA; omega)
        have hH := hH.chg hC (by omega)
        have hM := hM.chg hC (by omega)
        have hsz : Hc1.size = o + 72 := by rw [hC.1]; exact hsz
        refine JJ.widen (ca' := 71) (sl' := 1522) (by decide) (by decide) ?_
        refine j_aload_n C dX2_init_68 rfl ?_
        refine j_new (ci := 2) (fs := [.null, .null, .null, .null, .int (zI 0)]) (h := o + 72) C tyX1 tyX1_ok hwX1 rfl (index := 9) (by decide +kernel) (by decide +kernel) (by decide +kernel) (fun j hj => by rcases (show j = 0 ∨ j = 1 ∨ j = 2 ∨ j = 3 ∨ j = 4 by omega) with rfl | rfl | rfl | rfl | rfl <;> rfl) hsz (Nat.le_of_ble_eq_true rfl) (Nat.le_of_ble_eq_true rfl) dX2_init_69 (fun Ha2 hN hG => ?_)
        have hO := obk hO (hG.2 _ (by omega))
        have hA := hA.kept (hG.2 _ (by omega))
        have hP : ∀ t : Int, 0 ≤ t → t < 12 → PL G Ha2 (mpA o t) 24 [] := fun t t0 t1 => (hP t t0 t1).grw hG (by unfold mpA; omega)
        have hH := hH.grw hG (by omega)
        have hM := hM.grw hG (by omega)
        refine j_dup C dX2_init_72 rfl ?_
        refine j_bipush C dX2_init_73 (by decide) ?_
        refine j_callmV (jrunI (rest := [.ref (o + 72), .ref o]) (As := [.int (zI 48)]) C (c_X1_init l G (o + 72) 48) gX2_init_X1_init rfl 1 (by decide +kernel) (by decide +kernel) (by decide +kernel) rfl (by decide +kernel) rfl rfl ⟨Nat.le_of_ble_eq_true rfl, Nat.le_of_ble_eq_true rfl⟩ ⟨hN, hG.1, by decide⟩ rfl rfl (Nat.le_of_ble_eq_true rfl) ⟨Nat.le_of_ble_eq_true rfl, Nat.le_of_ble_eq_true rfl⟩ dX2_init_75) (fun q hq => by have hq' : o + 72 ≤ q := hq; show o ≤ q; omega) (fun Hb2 h68 hF => ?_)
        have hO := obk hO (hF.2 _ (by rw [hG.1]; omega) (by show ¬ o + 72 ≤ o; omega))
        have hA := hA.kept (hF.2 _ hA.lt (by show ¬ o + 72 ≤ o + 1; omega))
        have hP : ∀ t : Int, 0 ≤ t → t < 12 → PL G Hb2 (mpA o t) 24 [] := fun t t0 t1 => (hP t t0 t1).frm hF (fun q q1 q2 => by show ¬ o + 72 ≤ q; unfold mpA at q2; omega)
        have hH := hH.frm hF (fun q q1 q2 => by show ¬ o + 72 ≤ q; omega)
        have hM := hM.frm hF (fun q q1 q2 => by show ¬ o + 72 ≤ q; omega)
        obtain ⟨hR, hsz⟩ := h68
        refine j_putF (T := TX2) (N := 8) (fs' := [.ref (o + 1), .ref (o + 62), .int (zI 0), .long (zL 0), .ref (o + 67), .ref (o + 72), .null, .null]) (ty := .object "TreePairs$Pairs") C tyX2 tyX2_ok nmX2 hwX2 hO 5 (by decide) rfl (index := 25) (ref := "TreePairs") (by decide +kernel) rfl rfl hnm rfl (by decide +kernel) rfl rfl (Nat.le_of_ble_eq_true rfl) rfl (Nat.le_refl _) dX2_init_78 (fun Hc2 hO hC => ?_)
        have hA := hA.kept (hC.2 _ (by omega))
        have hP : ∀ t : Int, 0 ≤ t → t < 12 → PL G Hc2 (mpA o t) 24 [] := fun t t0 t1 => (hP t t0 t1).chg hC (by unfold mpA; omega)
        have hH := hH.chg hC (by omega)
        have hM := hM.chg hC (by omega)
        have hR := hR.chg hC (by omega)
        have hsz : Hc2.size = o + 77 := by rw [hC.1]; exact hsz
        refine JJ.widen (ca' := 76) (sl' := 1719) (by decide) (by decide) ?_
        refine j_aload_n C dX2_init_81 rfl ?_
        refine j_new (ci := 2) (fs := [.null, .null, .null, .null, .int (zI 0)]) (h := o + 77) C tyX1 tyX1_ok hwX1 rfl (index := 9) (by decide +kernel) (by decide +kernel) (by decide +kernel) (fun j hj => by rcases (show j = 0 ∨ j = 1 ∨ j = 2 ∨ j = 3 ∨ j = 4 by omega) with rfl | rfl | rfl | rfl | rfl <;> rfl) hsz (Nat.le_of_ble_eq_true rfl) (Nat.le_of_ble_eq_true rfl) dX2_init_82 (fun Ha3 hN hG => ?_)
        have hO := obk hO (hG.2 _ (by omega))
        have hA := hA.kept (hG.2 _ (by omega))
        have hP : ∀ t : Int, 0 ≤ t → t < 12 → PL G Ha3 (mpA o t) 24 [] := fun t t0 t1 => (hP t t0 t1).grw hG (by unfold mpA; omega)
        have hH := hH.grw hG (by omega)
        have hM := hM.grw hG (by omega)
        have hR := hR.grw hG (by omega)
        refine j_dup C dX2_init_85 rfl ?_
        refine j_bipush C dX2_init_86 (by decide) ?_
        refine j_callmV (jrunI (rest := [.ref (o + 77), .ref o]) (As := [.int (zI 48)]) C (c_X1_init l G (o + 77) 48) gX2_init_X1_init rfl 1 (by decide +kernel) (by decide +kernel) (by decide +kernel) rfl (by decide +kernel) rfl rfl ⟨Nat.le_of_ble_eq_true rfl, Nat.le_of_ble_eq_true rfl⟩ ⟨hN, hG.1, by decide⟩ rfl rfl (Nat.le_of_ble_eq_true rfl) ⟨Nat.le_of_ble_eq_true rfl, Nat.le_of_ble_eq_true rfl⟩ dX2_init_88) (fun q hq => by have hq' : o + 77 ≤ q := hq; show o ≤ q; omega) (fun Hb3 h81 hF => ?_)
        have hO := obk hO (hF.2 _ (by rw [hG.1]; omega) (by show ¬ o + 77 ≤ o; omega))
        have hA := hA.kept (hF.2 _ hA.lt (by show ¬ o + 77 ≤ o + 1; omega))
        have hP : ∀ t : Int, 0 ≤ t → t < 12 → PL G Hb3 (mpA o t) 24 [] := fun t t0 t1 => (hP t t0 t1).frm hF (fun q q1 q2 => by show ¬ o + 77 ≤ q; unfold mpA at q2; omega)
        have hH := hH.frm hF (fun q q1 q2 => by show ¬ o + 77 ≤ q; omega)
        have hM := hM.frm hF (fun q q1 q2 => by show ¬ o + 77 ≤ q; omega)
        have hR := hR.frm hF (fun q q1 q2 => by show ¬ o + 77 ≤ q; omega)
        obtain ⟨hT, hsz⟩ := h81
        refine j_putF (T := TX2) (N := 8) (fs' := [.ref (o + 1), .ref (o + 62), .int (zI 0), .long (zL 0), .ref (o + 67), .ref (o + 72), .ref (o + 77), .null]) (ty := .object "TreePairs$Pairs") C tyX2 tyX2_ok nmX2 hwX2 hO 6 (by decide) rfl (index := 28) (ref := "TreePairs") (by decide +kernel) rfl rfl hnm rfl (by decide +kernel) rfl rfl (Nat.le_of_ble_eq_true rfl) rfl (Nat.le_refl _) dX2_init_91 (fun Hc3 hO hC => ?_)
        have hA := hA.kept (hC.2 _ (by omega))
        have hP : ∀ t : Int, 0 ≤ t → t < 12 → PL G Hc3 (mpA o t) 24 [] := fun t t0 t1 => (hP t t0 t1).chg hC (by unfold mpA; omega)
        have hH := hH.chg hC (by omega)
        have hM := hM.chg hC (by omega)
        have hR := hR.chg hC (by omega)
        have hT := hT.chg hC (by omega)
        have hsz : Hc3.size = o + 82 := by rw [hC.1]; exact hsz
        refine JJ.widen (ca' := 81) (sl' := 1916) (by decide) (by decide) ?_
        exact j_vret C hr (by decide) (by decide) ⟨⟨hO, ap_congr hA (fun j j0 j1 => hf j j0 (by omega)), hP, hH, ⟨_, hM⟩, ⟨_, hR⟩, ⟨_, hT⟩⟩, hsz⟩ dX2_init_94
      · skip
        refine j_aload_n C dX2_init_21 rfl ?_
        refine j_get (T := TX2) (N := 8) (fs := _) (v := .ref (o + 1)) C hwX2 hO 0 (by decide) rfl (index := 11) (ref := "TreePairs") (by decide +kernel) rfl rfl dX2_init_22 ?_
        refine j_iload_n C dX2_init_25 rfl ?_
        refine j_new (ci := 2) (fs := [.null, .null, .null, .null, .int (zI 0)]) (h := mpA o i) C tyX1 tyX1_ok hwX1 rfl (index := 9) (by decide +kernel) (by decide +kernel) (by decide +kernel) (fun j hj => by rcases (show j = 0 ∨ j = 1 ∨ j = 2 ∨ j = 3 ∨ j = 4 by omega) with rfl | rfl | rfl | rfl | rfl <;> rfl) hsz (by show 1 + 5 * i.toNat + 1 ≤ 81; omega) (by show 12 + 101 * i.toNat + 5 ≤ 1916; omega) dX2_init_26 (fun H3 hN hG => ?_)
        have ea : mpA o i = o + 2 + 5 * i.toNat := rfl
        have hO := obk hO (hG.2 _ (by omega))
        have hA := hA.kept (hG.2 _ (by omega))
        have hP : ∀ t : Int, 0 ≤ t → t < i → PL G H3 (mpA o t) 24 [] := fun t t0 t1 => (hP t t0 t1).grw hG (by unfold mpA; omega)
        refine j_dup C dX2_init_29 rfl ?_
        refine j_bipush C dX2_init_30 (by decide) ?_
        refine j_callmV (jrunI (rest := [.ref (mpA o i), .int (zI i), .ref (o + 1)]) (As := [.int (zI 24)]) C (c_X1_init l G (mpA o i) 24) gX2_init_X1_init rfl 1 (by decide +kernel) (by decide +kernel) (by decide +kernel) rfl (by decide +kernel) rfl rfl ⟨Nat.le_of_ble_eq_true rfl, Nat.le_of_ble_eq_true rfl⟩ ⟨hN, hG.1, by decide⟩ rfl rfl (Nat.le_of_ble_eq_true rfl) ⟨by show 1 + 5 * i.toNat + 1 + 4 ≤ 81; omega, by show 12 + 101 * i.toNat + 5 + 4 * 24 ≤ 1916; omega⟩ dX2_init_32) (fun q hq => by have hq' : mpA o i ≤ q := hq; show o ≤ q; omega) (fun H4 h32 hF => ?_)
        have hO := obk hO (hF.2 _ (by rw [hG.1]; omega) (by show ¬ mpA o i ≤ o; omega))
        have hA := hA.kept (hF.2 _ hA.lt (by show ¬ mpA o i ≤ o + 1; omega))
        have hP : ∀ t : Int, 0 ≤ t → t < i → PL G H4 (mpA o t) 24 [] := fun t t0 t1 => (hP t t0 t1).frm hF (fun q q1 q2 => by show ¬ mpA o i ≤ q; unfold mpA at q2 ⊢; omega)
        obtain ⟨hQ, hsz⟩ := h32
        refine j_aast C hA hQ.ob ⟨i0, by omega⟩ (by show o ≤ o + 1; omega) dX2_init_35 (fun H5 hA hC => ?_)
        have hO := obk hO (hC.2 _ (by omega))
        have hP : ∀ t : Int, 0 ≤ t → t < i + 1 → PL G H5 (mpA o t) 24 [] := fun t t0 t1 => by
          by_cases et : t = i
          · subst et; exact hQ.chg hC (by omega)
          · exact (hP t t0 (by omega)).chg hC (by unfold mpA; omega)
        refine j_iinc (lv' := [(0, .ref o), (1, .int (zI (i + 1)))]) C dX2_init_36 rfl (by decide) rfl ?_
        refine j_goto (tgt := 15) C dX2_init_39 (by decide) ?_
        refine JJ.widen (ca' := 1 + 5 * (i + 1).toNat) (sl' := 12 + 101 * (i + 1).toNat) (by omega) (by omega) ?_
        refine ih (i + 1) _ H5 (by omega) (by omega) (by omega) hO hA (fun t t0 t1 => ?_) hP (by rw [hC.1, hsz]; omega)
        by_cases et : t = i
        · subst et; exact iup_s
        · rw [iup_n et]; exact hf t t0 (by omega)
  refine JJ.widen (ca' := 1 + 5 * (0 : Int).toNat) (sl' := 12 + 101 * (0 : Int).toNat) (by decide) (by decide) ?_
  exact K 13 0 _ H2 (by decide) (by decide) (by decide) hO hA (fun t t0 t1 => absurd t1 (by omega)) (fun t t0 t1 => absurd t1 (by omega)) hsz
