set_option maxHeartbeats 4000000 in
set_option maxRecDepth 100000 in
/-- X1_exchange -/
theorem c_X1_exchange (l : Launch) (G : Gx) (q n : Nat) (f : Int → Int) (i : Int) : Met l yX1_exchange wsX1_exchange ({ frames := 0, cells := 0, slots := 0, locals := 0 } : Room) (cPc G [.ref q, .int (zI i)] (fun H => ai G q n f H ∧ (1 ≤ i ∧ i < (n : Int)))) (qmV (fun H => ai G q n (swpF f i) H) (fun x : Nat => x = q)) 0 0 (fun x : Nat => x = q) := by
  refine Met.ofJ (cc := cX1_exchange) (maxL := 3) (ret := none) (lv0 := [(0, .ref q), (1, .int (zI i))]) (by decide) rfl (Nat.le_of_ble_eq_true rfl) rfl ?_
  intro p e s m args below meth c C hr hnm hpre
  obtain ⟨hR0, hi⟩ := hpre
  have hnR := hR0.1
  refine j_aload_n C dX1_exchange_0 rfl ?_
  refine j_iload_n C dX1_exchange_1 rfl ?_
  refine j_iald C hR0 ⟨by omega, by omega⟩ dX1_exchange_2 ?_
  refine j_istore_n (lv' := [(0, .ref q), (1, .int (zI i)), (2, .int (zI (f i)))]) C dX1_exchange_3 (by decide) rfl ?_
  refine j_aload_n C dX1_exchange_4 rfl ?_
  refine j_iload_n C dX1_exchange_5 rfl ?_
  refine j_aload_n C dX1_exchange_6 rfl ?_
  refine j_iload_n C dX1_exchange_7 rfl ?_
  refine j_iconst C dX1_exchange_8 ?_
  refine j_isub C dX1_exchange_9 ?_
  refine j_iald C hR0 ⟨by omega, by omega⟩ dX1_exchange_10 ?_
  refine j_iast C hR0 ⟨by omega, by omega⟩ rfl dX1_exchange_11 (fun H1 hR hC => ?_)
  have hR0 := hR
  refine j_aload_n C dX1_exchange_12 rfl ?_
  refine j_iload_n C dX1_exchange_13 rfl ?_
  refine j_iconst C dX1_exchange_14 ?_
  refine j_isub C dX1_exchange_15 ?_
  refine j_iload_n C dX1_exchange_16 rfl ?_
  refine j_iast C hR0 ⟨by omega, by omega⟩ rfl dX1_exchange_17 (fun H2 hR hC => ?_)
  have hR0 := hR
  exact j_vret C hr (Nat.le_refl _) (Nat.zero_le _) hR0 dX1_exchange_18

set_option maxHeartbeats 4000000 in
set_option maxRecDepth 100000 in
/-- X1_exchange_ -/
theorem c_X1_exchange_ (l : Launch) (G : Gx) (q n : Nat) (f : Int → Int) (i : Int) : Met l yX1_exchange_ wsX1_exchange_ ({ frames := 0, cells := 0, slots := 0, locals := 0 } : Room) (cPc G [.ref q, .int (zI i)] (fun H => al G q n f H ∧ (1 ≤ i ∧ i < (n : Int)))) (qmV (fun H => al G q n (swpF f i) H) (fun x : Nat => x = q)) 0 0 (fun x : Nat => x = q) := by
  refine Met.ofJ (cc := cX1_exchange_) (maxL := 4) (ret := none) (lv0 := [(0, .ref q), (1, .int (zI i))]) (by decide) rfl (Nat.le_of_ble_eq_true rfl) rfl ?_
  intro p e s m args below meth c C hr hnm hpre
  obtain ⟨hR0, hi⟩ := hpre
  have hnR := hR0.1
  refine j_aload_n C dX1_exchange__0 rfl ?_
  refine j_iload_n C dX1_exchange__1 rfl ?_
  refine j_lald C hR0 ⟨by omega, by omega⟩ dX1_exchange__2 ?_
  refine j_lstore_n (lv' := [(0, .ref q), (1, .int (zI i)), (2, .long (zL (f i)))]) C dX1_exchange__3 (by decide) rfl ?_
  refine j_aload_n C dX1_exchange__4 rfl ?_
  refine j_iload_n C dX1_exchange__5 rfl ?_
  refine j_aload_n C dX1_exchange__6 rfl ?_
  refine j_iload_n C dX1_exchange__7 rfl ?_
  refine j_iconst C dX1_exchange__8 ?_
  refine j_isub C dX1_exchange__9 ?_
  refine j_lald C hR0 ⟨by omega, by omega⟩ dX1_exchange__10 ?_
  refine j_last C hR0 ⟨by omega, by omega⟩ rfl dX1_exchange__11 (fun H1 hR hC => ?_)
  have hR0 := hR
  refine j_aload_n C dX1_exchange__12 rfl ?_
  refine j_iload_n C dX1_exchange__13 rfl ?_
  refine j_iconst C dX1_exchange__14 ?_
  refine j_isub C dX1_exchange__15 ?_
  refine j_lload_n C dX1_exchange__16 rfl ?_
  refine j_last C hR0 ⟨by omega, by omega⟩ rfl dX1_exchange__17 (fun H2 hR hC => ?_)
  have hR0 := hR
  exact j_vret C hr (Nat.le_refl _) (Nat.zero_le _) hR0 dX1_exchange__18

set_option maxHeartbeats 4000000 in
set_option maxRecDepth 100000 in
/-- X1_add -/
theorem c_X1_add (l : Launch) (G : Gx) (a cap : Nat) (L : List Q4) (x y z w : Int) : Met l yX1_add wsX1_add ({ frames := 0, cells := 0, slots := 0, locals := 0 } : Room) (cPc G [.ref a, .int (zI x), .long (zL y), .int (zI z), .long (zL w)] (fun H => PL G H a cap L ∧ L.length < cap)) (qmV (fun H => PL G H a cap (L ++ [(x, y, z, w)])) (fun q : Nat => a ≤ q ∧ q < a + 5)) 0 0 (fun q : Nat => a ≤ q ∧ q < a + 5) := by
  refine Met.ofJ (cc := cX1_add) (maxL := 7) (ret := none) (lv0 := [(0, .ref a), (1, .int (zI x)), (2, .long (zL y)), (4, .int (zI z)), (5, .long (zL w))]) (by decide) rfl (Nat.le_of_ble_eq_true rfl) rfl ?_
  intro p e s m args below meth c C hr hnm hpre
  obtain ⟨hL, hlt⟩ := hpre
  have hwX1 : ∀ w ∈ u_ws RX1 TX1 5, w ∈ wsX1_add := by decide +kernel
  obtain ⟨d, c0, e0, b, hP, hRp, hcap⟩ := hL
  obtain ⟨n, hn⟩ : ∃ n : Int, n = ((L).length : Int) := ⟨_, rfl⟩
  rw [← hn] at hP
  have hcR := hP.capR
  refine j_aload_n C dX1_add_0 rfl ?_
  refine j_get (T := TX1) (N := 5) (fs := _) (v := .int (zI n)) C hwX1 hP.1 4 (by decide) rfl (index := 31) (ref := "TreePairs$Pairs") (by decide +kernel) rfl rfl dX1_add_1 ?_
  refine j_aload_n C dX1_add_4 rfl ?_
  refine j_get (T := TX1) (N := 5) (fs := _) (v := .ref (a + 1)) C hwX1 hP.1 0 (by decide) rfl (index := 15) (ref := "TreePairs$Pairs") (by decide +kernel) rfl rfl dX1_add_5 ?_
  refine j_alenI C hP.2.1 dX1_add_8 ?_
  refine j_icmp_lt (tgt := 13) C dX1_add_9 (by decide) ⟨by omega, by omega⟩ ⟨by omega, by omega⟩ (fun c9 => ?_) (fun c9 => absurd c9 (by omega))
  refine j_aload_n C dX1_add_13 rfl ?_
  refine j_get (T := TX1) (N := 5) (fs := _) (v := .ref (a + 1)) C hwX1 hP.1 0 (by decide) rfl (index := 15) (ref := "TreePairs$Pairs") (by decide +kernel) rfl rfl dX1_add_14 ?_
  refine j_aload_n C dX1_add_17 rfl ?_
  refine j_get (T := TX1) (N := 5) (fs := _) (v := .int (zI n)) C hwX1 hP.1 4 (by decide) rfl (index := 31) (ref := "TreePairs$Pairs") (by decide +kernel) rfl rfl dX1_add_18 ?_
  refine j_iload_n C dX1_add_21 rfl ?_
  refine j_iast C hP.2.1 ⟨by omega, by omega⟩ (by omega) dX1_add_22 (fun H1 hR hC => ?_)
  have hP := hP.put_d hR hC
  refine j_aload_n C dX1_add_23 rfl ?_
  refine j_get (T := TX1) (N := 5) (fs := _) (v := .ref (a + 2)) C hwX1 hP.1 1 (by decide) rfl (index := 21) (ref := "TreePairs$Pairs") (by decide +kernel) rfl rfl dX1_add_24 ?_
  refine j_aload_n C dX1_add_27 rfl ?_
  refine j_get (T := TX1) (N := 5) (fs := _) (v := .int (zI n)) C hwX1 hP.1 4 (by decide) rfl (index := 31) (ref := "TreePairs$Pairs") (by decide +kernel) rfl rfl dX1_add_28 ?_
  refine j_lload_n C dX1_add_31 rfl ?_
  refine j_last C hP.2.2.1 ⟨by omega, by omega⟩ (by omega) dX1_add_32 (fun H2 hR hC => ?_)
  have hP := hP.put_c hR hC
  refine j_aload_n C dX1_add_33 rfl ?_
  refine j_get (T := TX1) (N := 5) (fs := _) (v := .ref (a + 3)) C hwX1 hP.1 2 (by decide) rfl (index := 25) (ref := "TreePairs$Pairs") (by decide +kernel) rfl rfl dX1_add_34 ?_
  refine j_aload_n C dX1_add_37 rfl ?_
  refine j_get (T := TX1) (N := 5) (fs := _) (v := .int (zI n)) C hwX1 hP.1 4 (by decide) rfl (index := 31) (ref := "TreePairs$Pairs") (by decide +kernel) rfl rfl dX1_add_38 ?_
  refine j_iload C dX1_add_41 rfl ?_
  refine j_iast C hP.2.2.2.1 ⟨by omega, by omega⟩ (by omega) dX1_add_43 (fun H3 hR hC => ?_)
  have hP := hP.put_e hR hC
  refine j_aload_n C dX1_add_44 rfl ?_
  refine j_get (T := TX1) (N := 5) (fs := _) (v := .ref (a + 4)) C hwX1 hP.1 3 (by decide) rfl (index := 28) (ref := "TreePairs$Pairs") (by decide +kernel) rfl rfl dX1_add_45 ?_
  refine j_aload_n C dX1_add_48 rfl ?_
  refine j_get (T := TX1) (N := 5) (fs := _) (v := .int (zI n)) C hwX1 hP.1 4 (by decide) rfl (index := 31) (ref := "TreePairs$Pairs") (by decide +kernel) rfl rfl dX1_add_49 ?_
  refine j_lload C dX1_add_52 rfl ?_
  refine j_last C hP.2.2.2.2 ⟨by omega, by omega⟩ (by omega) dX1_add_54 (fun H4 hR hC => ?_)
  have hP := hP.put_b hR hC
  refine j_aload_n C dX1_add_55 rfl ?_
  refine j_dup C dX1_add_56 rfl ?_
  refine j_get (T := TX1) (N := 5) (fs := _) (v := .int (zI n)) C hwX1 hP.1 4 (by decide) rfl (index := 31) (ref := "TreePairs$Pairs") (by decide +kernel) rfl rfl dX1_add_57 ?_
  refine j_iconst C dX1_add_60 ?_
  refine j_iadd C dX1_add_61 ?_
  refine j_put (T := TX1) (N := 5) (fs' := [.ref (a + 1), .ref (a + 2), .ref (a + 3), .ref (a + 4), .int (zI (n + 1))]) (ty := .int) C tyX1 tyX1_ok nmX1 hwX1 hP.1 4 (by decide) rfl (index := 31) (ref := "TreePairs$Pairs") (by decide +kernel) rfl rfl (by decide +kernel) rfl rfl (Nat.le_of_ble_eq_true rfl) rfl (by omega) dX1_add_62 (fun H5 hO hC => ?_)
  have hP := hP.put_size hO hC
  exact j_vret C hr (Nat.le_refl _) (Nat.zero_le _) ⟨_, _, _, _, (by rw [List.length_append, List.length_singleton, Int.natCast_add, ← hn]; exact hP), hRp.app hn, (by rw [List.length_append, List.length_singleton]; omega)⟩ dX1_add_65

set_option maxHeartbeats 4000000 in
set_option maxRecDepth 100000 in
/-- X1_becomeNothing -/
theorem c_X1_becomeNothing (l : Launch) (G : Gx) (a cap : Nat) (L : List Q4) : Met l yX1_becomeNothing wsX1_becomeNothing ({ frames := 1, cells := 0, slots := 0, locals := 26 } : Room) (cPc G [.ref a] (fun H => PL G H a cap L ∧ 1 ≤ cap)) (qmV (fun H => PL G H a cap [(0, 0, 0, 0)]) (fun q : Nat => a ≤ q ∧ q < a + 5)) 0 0 (fun q : Nat => a ≤ q ∧ q < a + 5) := by
  refine Met.ofJ (cc := cX1_becomeNothing) (maxL := 1) (ret := none) (lv0 := [(0, .ref a)]) (by decide) rfl (Nat.le_of_ble_eq_true rfl) rfl ?_
  intro p e s m args below meth c C hr hnm hpre
  obtain ⟨hL, hcp⟩ := hpre
  have hwX1 : ∀ w ∈ u_ws RX1 TX1 5, w ∈ wsX1_becomeNothing := by decide +kernel
  obtain ⟨d, c0, e0, b, hP, hRp, hcap⟩ := hL
  obtain ⟨n, hn⟩ : ∃ n : Int, n = ((L).length : Int) := ⟨_, rfl⟩
  rw [← hn] at hP
  have hcR := hP.capR
  refine j_aload_n C dX1_becomeNothing_0 rfl ?_
  refine j_iconst C dX1_becomeNothing_1 ?_
  refine j_put (T := TX1) (N := 5) (fs' := [.ref (a + 1), .ref (a + 2), .ref (a + 3), .ref (a + 4), .int (zI 0)]) (ty := .int) C tyX1 tyX1_ok nmX1 hwX1 hP.1 4 (by decide) rfl (index := 31) (ref := "TreePairs$Pairs") (by decide +kernel) rfl rfl (by decide +kernel) rfl rfl (Nat.le_of_ble_eq_true rfl) rfl (by omega) dX1_becomeNothing_2 (fun H1 hO hC => ?_)
  have hP := hP.put_size hO hC
  refine j_aload_n C dX1_becomeNothing_5 rfl ?_
  refine j_iconst C dX1_becomeNothing_6 ?_
  refine j_lconst (z := 0) C dX1_becomeNothing_7 rfl ?_
  refine j_iconst C dX1_becomeNothing_8 ?_
  refine j_lconst (z := 0) C dX1_becomeNothing_9 rfl ?_
  have hL0 : PL G H1 a cap [] := ⟨_, _, _, _, hP, Rp.nil, Nat.zero_le _⟩
  refine j_callmV (jrunV (rest := []) (As := [.int (zI 0), .long (zL 0), .int (zI 0), .long (zL 0)]) C (c_X1_add l G a cap [] 0 0 0 0) gX1_becomeNothing_X1_add rfl 4 (by decide +kernel) rfl rfl ⟨Nat.le_of_ble_eq_true rfl, Nat.le_of_ble_eq_true rfl⟩ hP.1 rfl ⟨hL0, hcp⟩ rfl rfl (Nat.le_of_ble_eq_true rfl) ⟨Nat.le_of_ble_eq_true rfl, Nat.le_of_ble_eq_true rfl⟩ dX1_becomeNothing_10) (fun q hq => hq) (fun H2 h10 hF => ?_)
  exact j_vret C hr (Nat.le_refl _) (Nat.zero_le _) h10 dX1_becomeNothing_13

set_option maxHeartbeats 4000000 in
set_option maxRecDepth 100000 in
/-- X1_init -/
theorem c_X1_init (l : Launch) (G : Gx) (a cap : Nat) : Met l yX1_init wsX1_init ({ frames := 1, cells := 4, slots := (4 * cap), locals := 15 } : Room) (cPc G [.ref a, .int (zI (cap : Int))] (fun H => ob G a 2 [.null, .null, .null, .null, .int (zI 0)] H ∧ H.size = a + 1 ∧ cap ≤ 48)) (qmV (fun H => PL G H a cap [] ∧ H.size = a + 5) (fun q : Nat => a ≤ q)) 4 (4 * cap) (fun q : Nat => a ≤ q) := by
  refine Met.ofJ (cc := cX1_init) (maxL := 3) (ret := none) (lv0 := [(0, .ref a), (1, .int (zI (cap : Int)))]) (by decide) rfl (Nat.le_of_ble_eq_true rfl) rfl ?_
  intro p e s m args below meth c C hr hnm hpre
  obtain ⟨hO, hsz, hcp⟩ := hpre
  have hwX1 : ∀ w ∈ u_ws RX1 TX1 5, w ∈ wsX1_init := by decide +kernel
  refine j_aload_n C dX1_init_0 rfl ?_
  refine j_objinit C (idx := 3) (by decide +kernel) (by decide +kernel) (by decide +kernel) (Nat.le_of_ble_eq_true rfl) (Nat.le_of_ble_eq_true rfl) dX1_init_1 ?_
  refine j_iconst C dX1_init_4 ?_
  refine j_iload_n C dX1_init_5 rfl ?_
  refine j_mmax C (index := 9) (by decide +kernel) (by decide +kernel) (by decide +kernel) (by decide +kernel) (Nat.le_of_ble_eq_true rfl) (Nat.le_of_ble_eq_true rfl) (Nat.le_of_ble_eq_true rfl) (Nat.le_of_ble_eq_true rfl) ⟨by decide, by decide⟩ ⟨by omega, by omega⟩ dX1_init_6 ?_
  rw [show (if 0 < (cap : Int) then (cap : Int) else 0) = (cap : Int) from by split <;> omega]
  refine j_istore_n (lv' := [(0, .ref a), (1, .int (zI (cap : Int))), (2, .int (zI (cap : Int)))]) C dX1_init_9 (by decide) rfl ?_
  refine j_aload_n C dX1_init_10 rfl ?_
  refine j_iload_n C dX1_init_11 rfl ?_
  refine j_newI (k := cap) (h := (a + 1)) C (by decide +kernel) rfl (by omega) hsz (by show 0 + 1 ≤ 4; decide) (by show 0 + cap ≤ 4 * cap; omega) dX1_init_12 (fun H1 hN hW => ?_)
  have hO := hO.kept (hW.2 _ (by omega))
  have hsz := hW.1
  have hA12 := hN
  refine j_putF (T := TX1) (N := 5) (fs' := [.ref (a + 1), .null, .null, .null, .int (zI 0)]) (ty := .array .int) C tyX1 tyX1_ok nmX1 hwX1 hO 0 (by decide) rfl (index := 15) (ref := "TreePairs$Pairs") (by decide +kernel) rfl rfl hnm rfl (by decide +kernel) rfl rfl (Nat.le_of_ble_eq_true rfl) rfl (by omega) dX1_init_14 (fun H2 hO hC => ?_)
  have hO := hO
  have hA12 := hA12.kept (hC.2 _ (by omega))
  refine j_aload_n C dX1_init_17 rfl ?_
  refine j_iload_n C dX1_init_18 rfl ?_
  refine j_newJ (k := cap) (h := (a + 2)) C (by decide +kernel) rfl (by omega) (by have := hC.1; omega) (by show 1 + 1 ≤ 4; decide) (by show _ ≤ 4 * cap; omega) dX1_init_19 (fun H3 hN hW => ?_)
  have hO := hO.kept (hW.2 _ (by omega))
  have hA12 := hA12.kept (hW.2 _ (by omega))
  have hsz := hW.1
  have hA19 := hN
  refine j_putF (T := TX1) (N := 5) (fs' := [.ref (a + 1), .ref (a + 2), .null, .null, .int (zI 0)]) (ty := .array .long) C tyX1 tyX1_ok nmX1 hwX1 hO 1 (by decide) rfl (index := 21) (ref := "TreePairs$Pairs") (by decide +kernel) rfl rfl hnm rfl (by decide +kernel) rfl rfl (Nat.le_of_ble_eq_true rfl) rfl (by omega) dX1_init_21 (fun H4 hO hC => ?_)
  have hO := hO
  have hA12 := hA12.kept (hC.2 _ (by omega))
  have hA19 := hA19.kept (hC.2 _ (by omega))
  refine j_aload_n C dX1_init_24 rfl ?_
  refine j_iload_n C dX1_init_25 rfl ?_
  refine j_newI (k := cap) (h := (a + 3)) C (by decide +kernel) rfl (by omega) (by have := hC.1; omega) (by show 2 + 1 ≤ 4; decide) (by show _ ≤ 4 * cap; omega) dX1_init_26 (fun H5 hN hW => ?_)
  have hO := hO.kept (hW.2 _ (by omega))
  have hA12 := hA12.kept (hW.2 _ (by omega))
  have hA19 := hA19.kept (hW.2 _ (by omega))
  have hsz := hW.1
  have hA26 := hN
  refine j_putF (T := TX1) (N := 5) (fs' := [.ref (a + 1), .ref (a + 2), .ref (a + 3), .null, .int (zI 0)]) (ty := .array .int) C tyX1 tyX1_ok nmX1 hwX1 hO 2 (by decide) rfl (index := 25) (ref := "TreePairs$Pairs") (by decide +kernel) rfl rfl hnm rfl (by decide +kernel) rfl rfl (Nat.le_of_ble_eq_true rfl) rfl (by omega) dX1_init_28 (fun H6 hO hC => ?_)
  have hO := hO
  have hA12 := hA12.kept (hC.2 _ (by omega))
  have hA19 := hA19.kept (hC.2 _ (by omega))
  have hA26 := hA26.kept (hC.2 _ (by omega))
  refine j_aload_n C dX1_init_31 rfl ?_
  refine j_iload_n C dX1_init_32 rfl ?_
  refine j_newJ (k := cap) (h := (a + 4)) C (by decide +kernel) rfl (by omega) (by have := hC.1; omega) (by show 3 + 1 ≤ 4; decide) (by show _ ≤ 4 * cap; omega) dX1_init_33 (fun H7 hN hW => ?_)
  have hO := hO.kept (hW.2 _ (by omega))
  have hA12 := hA12.kept (hW.2 _ (by omega))
  have hA19 := hA19.kept (hW.2 _ (by omega))
  have hA26 := hA26.kept (hW.2 _ (by omega))
  have hsz := hW.1
  have hA33 := hN
  refine j_putF (T := TX1) (N := 5) (fs' := [.ref (a + 1), .ref (a + 2), .ref (a + 3), .ref (a + 4), .int (zI 0)]) (ty := .array .long) C tyX1 tyX1_ok nmX1 hwX1 hO 3 (by decide) rfl (index := 28) (ref := "TreePairs$Pairs") (by decide +kernel) rfl rfl hnm rfl (by decide +kernel) rfl rfl (Nat.le_of_ble_eq_true rfl) rfl (by omega) dX1_init_35 (fun H8 hO hC => ?_)
  have hO := hO
  have hA12 := hA12.kept (hC.2 _ (by omega))
  have hA19 := hA19.kept (hC.2 _ (by omega))
  have hA26 := hA26.kept (hC.2 _ (by omega))
  have hA33 := hA33.kept (hC.2 _ (by omega))
  exact j_vret C hr (Nat.le_refl _) (by omega) ⟨⟨_, _, _, _, ⟨hO, hA12, hA19, hA26, hA33⟩, Rp.nil, Nat.zero_le _⟩, (by have := hC.1; omega)⟩ dX1_init_38

set_option maxHeartbeats 4000000 in
set_option maxRecDepth 100000 in
/-- X1_sinkLast -/
theorem c_X1_sinkLast (l : Launch) (G : Gx) (a cap : Nat) (L : List Q4) (q : Q4) : Met l yX1_sinkLast wsX1_sinkLast ({ frames := 2, cells := 0, slots := 0, locals := 43 } : Room) (cPc G [.ref a] (fun H => PL G H a cap (L ++ [q]) ∧ cap ≤ 48 ∧ (∀ x ∈ L ++ [q], LQ 23 x))) (qmV (fun H => PL G H a cap (insL L q)) (fun q : Nat => a ≤ q ∧ q < a + 5)) 0 0 (fun q : Nat => a ≤ q ∧ q < a + 5) := by
  refine Met.ofJ (cc := cX1_sinkLast) (maxL := 2) (ret := none) (lv0 := [(0, .ref a)]) (by decide) rfl (Nat.le_of_ble_eq_true rfl) rfl ?_
  intro p e s m args below meth c C hr hnm hpre
  obtain ⟨hL, hcp, hB0⟩ := hpre
  have hwX1 : ∀ w ∈ u_ws RX1 TX1 5, w ∈ wsX1_sinkLast := by decide +kernel
  obtain ⟨d, c0, e0, b, hP, hRp, hcap⟩ := hL
  obtain ⟨n, hn⟩ : ∃ n : Int, n = ((L ++ [q]).length : Int) := ⟨_, rfl⟩
  rw [← hn] at hP
  have hcR := hP.capR
  have hn1 : n = (L.length : Int) + 1 := by rw [hn, List.length_append, List.length_singleton]; omega
  have hcapn : n ≤ cap := by rw [hn]; omega
  refine j_aload_n C dX1_sinkLast_0 rfl ?_
  refine j_get (T := TX1) (N := 5) (fs := _) (v := .int (zI n)) C hwX1 hP.1 4 (by decide) rfl (index := 31) (ref := "TreePairs$Pairs") (by decide +kernel) rfl rfl dX1_sinkLast_1 ?_
  refine j_iconst C dX1_sinkLast_4 ?_
  refine j_isub C dX1_sinkLast_5 ?_
  refine j_istore_n (lv' := [(0, .ref a), (1, .int (zI (n - 1)))]) C dX1_sinkLast_6 (by decide) rfl ?_
  have K7 : ∀ (fu7 : Nat) (i : Int) (d c0 e0 b : Int → Int) (M T : List Q4) (Hl1 : Heap), i.toNat < fu7 → PQ G Hl1 a cap n d c0 e0 b → Rp (M ++ q :: T) d c0 e0 b → i = (M.length : Int) → insL L q = insL M q ++ T → (∀ x ∈ M ++ q :: T, LQ 23 x) → ((M ++ q :: T).length : Int) = n → JJ p l e ({ frames := 2, cells := 0, slots := 0, locals := 43 } : Room) s m args below meth c (MQ below (qmV (fun H => PL G H a cap (insL L q)) (fun q : Nat => a ≤ q ∧ q < a + 5)) args s 0 0 (fun q : Nat => a ≤ q ∧ q < a + 5)) (fun q : Nat => a ≤ q ∧ q < a + 5) 2 Hl1 0 0 7 [(0, .ref a), (1, .int (zI i))] [] := by
    intro fu7
    induction fu7 with
    | zero => intro i d c0 e0 b M T Hl1 hm7 hP hRp hiM hEq hB hlen; exact absurd hm7 (Nat.not_lt_zero _)
    | succ fu7 ih7 =>
      intro i d c0 e0 b M T Hl1 hm7 hP hRp hiM hEq hB hlen
      have hlen0 : n = (M.length : Int) + (T.length + 1) := by rw [← hlen, List.length_append, List.length_cons]; omega
      refine j_iload_n C dX1_sinkLast_7 rfl ?_
      refine j_if_le (tgt := 65) C dX1_sinkLast_8 (by decide) ⟨by omega, by omega⟩ (fun c8 => ?_) (fun c8 => ?_)
      · skip
        have hres : insL L q = M ++ q :: T := by
          have hM : M = [] := List.eq_nil_of_length_eq_zero (by omega)
          subst hM
          rw [hEq]; rfl
        exact j_vret C hr (Nat.le_refl _) (Nat.zero_le _) ⟨_, _, _, _, (by rw [hres, hlen]; exact hP), (by rw [hres]; exact hRp), (by rw [hres]; omega)⟩ dX1_sinkLast_65
      · skip
        obtain ⟨M', t, rfl⟩ := snoc_of (M := M) (by omega)
        have hq := hRp.at_mid hiM
        rw [app_cons] at hRp
        have hi1 : i = (M'.length : Int) + 1 := by rw [hiM, List.length_append, List.length_singleton]; omega
        have hti := hRp.at_mid (k := i - 1) (by omega)
        have hlen2 : n = (M'.length : Int) + 2 + T.length := by rw [← hlen]; simp only [List.length_append, List.length_cons, List.length_nil]; omega
        have hbq : Lf 23 (d i) (c0 i) := by have := (hB q (by simp)).1; rw [hq] at this; exact this
        have hbt : Lf 23 (d (i - 1)) (c0 (i - 1)) := by have := (hB t (by simp)).1; rw [hti] at this; exact this
        have sq := hbq.st
        have st_ := hbt.st
        have hbq := hbq.b23
        have hbt := hbt.b23
        refine j_aload_n C dX1_sinkLast_11 rfl ?_
        refine j_iload_n C dX1_sinkLast_12 rfl ?_
        refine j_callL (jrunV (rest := []) (As := [.int (zI i)]) C (c_X1_firstStart l G a cap n d c0 e0 b i) gX1_sinkLast_X1_firstStart rfl 1 (by decide +kernel) rfl rfl ⟨Nat.le_of_ble_eq_true rfl, Nat.le_of_ble_eq_true rfl⟩ hP.1 rfl ⟨hP, ⟨by omega, by omega⟩, by omega, by omega⟩ rfl rfl (Nat.le_of_ble_eq_true rfl) ⟨Nat.le_of_ble_eq_true rfl, Nat.le_of_ble_eq_true rfl⟩ dX1_sinkLast_13) (fun r13 h13 => ?_)
        subst h13
        refine j_aload_n C dX1_sinkLast_16 rfl ?_
        refine j_iload_n C dX1_sinkLast_17 rfl ?_
        refine j_iconst C dX1_sinkLast_18 ?_
        refine j_isub C dX1_sinkLast_19 ?_
        refine j_callL (jrunV (rest := [.long (zL (c0 i * 2 ^ (23 - d i).toNat))]) (As := [.int (zI (i - 1))]) C (c_X1_firstStart l G a cap n d c0 e0 b (i - 1)) gX1_sinkLast_X1_firstStart rfl 1 (by decide +kernel) rfl rfl ⟨Nat.le_of_ble_eq_true rfl, Nat.le_of_ble_eq_true rfl⟩ hP.1 rfl ⟨hP, ⟨by omega, by omega⟩, by omega, by omega⟩ rfl rfl (Nat.le_of_ble_eq_true rfl) ⟨Nat.le_of_ble_eq_true rfl, Nat.le_of_ble_eq_true rfl⟩ dX1_sinkLast_20) (fun r20 h20 => ?_)
        subst h20
        refine j_lcmp_ge (tgt := 65) C dX1_sinkLast_23 dX1_sinkLast_24 (by decide) ⟨by omega, by omega⟩ ⟨by omega, by omega⟩ (fun c23 => ?_) (fun c23 => ?_)
        · skip
          have hge : ¬ st1 q < st1 t := by rw [hq, hti]; show ¬ (c0 i * 2 ^ (23 - d i).toNat < c0 (i - 1) * 2 ^ (23 - d (i - 1)).toNat); omega
          have hres : insL L q = (M' ++ [t]) ++ q :: T := by rw [hEq, insL_f hge, app_cons]
          rw [← app_cons] at hRp
          exact j_vret C hr (Nat.le_refl _) (Nat.zero_le _) ⟨_, _, _, _, (by rw [hres, hlen]; exact hP), (by rw [hres]; exact hRp), (by rw [hres]; omega)⟩ dX1_sinkLast_65
        · skip
          have hlt : st1 q < st1 t := by rw [hq, hti]; show c0 i * 2 ^ (23 - d i).toNat < c0 (i - 1) * 2 ^ (23 - d (i - 1)).toNat; omega
          refine j_aload_n C dX1_sinkLast_27 rfl ?_
          refine j_get (T := TX1) (N := 5) (fs := _) (v := .ref (a + 1)) C hwX1 hP.1 0 (by decide) rfl (index := 15) (ref := "TreePairs$Pairs") (by decide +kernel) rfl rfl dX1_sinkLast_28 ?_
          refine j_iload_n C dX1_sinkLast_31 rfl ?_
          refine j_callmV (jrunS (rest := []) (As := [.ref (a + 1), .int (zI i)]) C (c_X1_exchange l G (a + 1) cap d i) gX1_sinkLast_X1_exchange rfl 2 (by decide +kernel) rfl rfl ⟨Nat.le_of_ble_eq_true rfl, Nat.le_of_ble_eq_true rfl⟩ ⟨hP.2.1, ⟨by omega, by omega⟩⟩ rfl rfl (Nat.le_of_ble_eq_true rfl) ⟨Nat.le_of_ble_eq_true rfl, Nat.le_of_ble_eq_true rfl⟩ dX1_sinkLast_32) (fun x (hx : x = a + 1) => ⟨by omega, by omega⟩) (fun H1 h32 hF => ?_)
          have hP := hP.fr_d h32 hF
          refine j_aload_n C dX1_sinkLast_35 rfl ?_
          refine j_get (T := TX1) (N := 5) (fs := _) (v := .ref (a + 2)) C hwX1 hP.1 1 (by decide) rfl (index := 21) (ref := "TreePairs$Pairs") (by decide +kernel) rfl rfl dX1_sinkLast_36 ?_
          refine j_iload_n C dX1_sinkLast_39 rfl ?_
          refine j_callmV (jrunS (rest := []) (As := [.ref (a + 2), .int (zI i)]) C (c_X1_exchange_ l G (a + 2) cap c0 i) gX1_sinkLast_X1_exchange_ rfl 2 (by decide +kernel) rfl rfl ⟨Nat.le_of_ble_eq_true rfl, Nat.le_of_ble_eq_true rfl⟩ ⟨hP.2.2.1, ⟨by omega, by omega⟩⟩ rfl rfl (Nat.le_of_ble_eq_true rfl) ⟨Nat.le_of_ble_eq_true rfl, Nat.le_of_ble_eq_true rfl⟩ dX1_sinkLast_40) (fun x (hx : x = a + 2) => ⟨by omega, by omega⟩) (fun H2 h40 hF => ?_)
          have hP := hP.fr_c h40 hF
          refine j_aload_n C dX1_sinkLast_43 rfl ?_
          refine j_get (T := TX1) (N := 5) (fs := _) (v := .ref (a + 3)) C hwX1 hP.1 2 (by decide) rfl (index := 25) (ref := "TreePairs$Pairs") (by decide +kernel) rfl rfl dX1_sinkLast_44 ?_
          refine j_iload_n C dX1_sinkLast_47 rfl ?_
          refine j_callmV (jrunS (rest := []) (As := [.ref (a + 3), .int (zI i)]) C (c_X1_exchange l G (a + 3) cap e0 i) gX1_sinkLast_X1_exchange rfl 2 (by decide +kernel) rfl rfl ⟨Nat.le_of_ble_eq_true rfl, Nat.le_of_ble_eq_true rfl⟩ ⟨hP.2.2.2.1, ⟨by omega, by omega⟩⟩ rfl rfl (Nat.le_of_ble_eq_true rfl) ⟨Nat.le_of_ble_eq_true rfl, Nat.le_of_ble_eq_true rfl⟩ dX1_sinkLast_48) (fun x (hx : x = a + 3) => ⟨by omega, by omega⟩) (fun H3 h48 hF => ?_)
          have hP := hP.fr_e h48 hF
          refine j_aload_n C dX1_sinkLast_51 rfl ?_
          refine j_get (T := TX1) (N := 5) (fs := _) (v := .ref (a + 4)) C hwX1 hP.1 3 (by decide) rfl (index := 28) (ref := "TreePairs$Pairs") (by decide +kernel) rfl rfl dX1_sinkLast_52 ?_
          refine j_iload_n C dX1_sinkLast_55 rfl ?_
          refine j_callmV (jrunS (rest := []) (As := [.ref (a + 4), .int (zI i)]) C (c_X1_exchange_ l G (a + 4) cap b i) gX1_sinkLast_X1_exchange_ rfl 2 (by decide +kernel) rfl rfl ⟨Nat.le_of_ble_eq_true rfl, Nat.le_of_ble_eq_true rfl⟩ ⟨hP.2.2.2.2, ⟨by omega, by omega⟩⟩ rfl rfl (Nat.le_of_ble_eq_true rfl) ⟨Nat.le_of_ble_eq_true rfl, Nat.le_of_ble_eq_true rfl⟩ dX1_sinkLast_56) (fun x (hx : x = a + 4) => ⟨by omega, by omega⟩) (fun H4 h56 hF => ?_)
          have hP := hP.fr_b h56 hF
          refine j_iinc (lv' := [(0, .ref a), (1, .int (zI (i + (-1))))]) C dX1_sinkLast_59 rfl (by decide) rfl ?_
          refine j_goto (tgt := 7) C dX1_sinkLast_62 (by decide) ?_
          exact JJ.drop (lv' := [(0, .ref a), (1, .int (zI (i + (-1))))]) rfl (ih7 (i + (-1)) (swpF d i) (swpF c0 i) (swpF e0 i) (swpF b i) M' (t :: T) H4 (by omega) hP (hRp.swap hi1) (by omega) (by rw [hEq, insL_t hlt, app_cons]) (fun x hx => hB x (by simp only [List.mem_append, List.mem_cons, List.not_mem_nil, or_false] at hx ⊢; rcases hx with h | h | h | h <;> simp [h])) (by rw [← hlen]; simp))
  exact JJ.drop (lv' := [(0, .ref a), (1, .int (zI (n - 1)))]) rfl (K7 (((n - 1).toNat) + 1) (n - 1) d c0 e0 b L ([]) s.heap (Nat.lt_succ_self _) hP hRp (by omega) (by rw [List.append_nil]) hB0 hn.symm)

set_option maxHeartbeats 4000000 in
set_option maxRecDepth 100000 in
/-- X1_push -/
theorem c_X1_push (l : Launch) (G : Gx) (a cap : Nat) (L : List Q4) (x y z w : Int) : Met l yX1_push wsX1_push ({ frames := 1, cells := 0, slots := 0, locals := 26 } : Room) (cPc G [.ref a, .int (zI x), .long (zL y), .int (zI z), .long (zL w)] (fun H => PL G H a cap L ∧ L.length < cap ∧ (∀ x ∈ L, LQ 46 x) ∧ LQ 46 (x, y, z, w))) (qmV (fun H => PL G H a cap (pushL L (x, y, z, w))) (fun q : Nat => a ≤ q ∧ q < a + 5)) 0 0 (fun q : Nat => a ≤ q ∧ q < a + 5) := by
  refine Met.ofJ (cc := cX1_push) (maxL := 7) (ret := none) (lv0 := [(0, .ref a), (1, .int (zI x)), (2, .long (zL y)), (4, .int (zI z)), (5, .long (zL w))]) (by decide) rfl (Nat.le_of_ble_eq_true rfl) rfl ?_
  intro p e s m args below meth c C hr hnm hpre
  obtain ⟨hL, hlt, hBL, hBq⟩ := hpre
  have hwX1 : ∀ w ∈ u_ws RX1 TX1 5, w ∈ wsX1_push := by decide +kernel
  obtain ⟨d, c0, e0, b, hP, hRp, hcap⟩ := hL
  obtain ⟨n, hn⟩ : ∃ n : Int, n = ((L).length : Int) := ⟨_, rfl⟩
  rw [← hn] at hP
  have hcR := hP.capR
  have hL0 : PL G s.heap a cap L := ⟨_, _, _, _, by rw [← hn]; exact hP, hRp, hcap⟩
  refine j_aload_n C dX1_push_0 rfl ?_
  refine j_iload_n C dX1_push_1 rfl ?_
  refine j_lload_n C dX1_push_2 rfl ?_
  refine j_iload C dX1_push_3 rfl ?_
  refine j_lload C dX1_push_5 rfl ?_
  refine j_callmV (jrunV (rest := []) (As := [.int (zI x), .long (zL y), .int (zI z), .long (zL w)]) C (c_X1_add l G a cap L x y z w) gX1_push_X1_add rfl 4 (by decide +kernel) rfl rfl ⟨Nat.le_of_ble_eq_true rfl, Nat.le_of_ble_eq_true rfl⟩ hP.1 rfl ⟨hL0, hlt⟩ rfl rfl (Nat.le_of_ble_eq_true rfl) ⟨Nat.le_of_ble_eq_true rfl, Nat.le_of_ble_eq_true rfl⟩ dX1_push_7) (fun q hq => hq) (fun H1 h7 hF => ?_)
  obtain ⟨d, c0, e0, b, hP, hRp, hcap1⟩ := h7
  obtain ⟨n1, hn1⟩ : ∃ n1 : Int, n1 = ((L ++ [(x, y, z, w)]).length : Int) := ⟨_, rfl⟩
  rw [← hn1] at hP
  have hn2 : n1 = (L.length : Int) + 1 := by rw [hn1, List.length_append, List.length_singleton]; omega
  have hcn : n1 ≤ (cap : Int) := by rw [hn1]; omega
  have hB1 : ∀ u ∈ L ++ [(x, y, z, w)], LQ 46 u := fun u hu => (List.mem_append.mp hu).elim (hBL u) (fun h => by rw [List.mem_singleton.mp h]; exact hBq)
  have K10 : ∀ (fu10 : Nat) (n : Int) (d c0 e0 b : Int → Int) (M : List Q4) (q : Q4) (Hl1 : Heap), n.toNat < fu10 → PQ G Hl1 a cap n d c0 e0 b → Rp (M ++ [q]) d c0 e0 b → n = (M.length : Int) + 1 → pushL L (x, y, z, w) = pushL M q → (∀ x ∈ M ++ [q], LQ 46 x) → n ≤ (cap : Int) → JJ p l e ({ frames := 1, cells := 0, slots := 0, locals := 26 } : Room) s m args below meth c (MQ below (qmV (fun H => PL G H a cap (pushL L (x, y, z, w))) (fun q : Nat => a ≤ q ∧ q < a + 5)) args s 0 0 (fun q : Nat => a ≤ q ∧ q < a + 5)) (fun q : Nat => a ≤ q ∧ q < a + 5) 7 Hl1 0 0 10 [(0, .ref a)] [] := by
    intro fu10
    induction fu10 with
    | zero => intro n d c0 e0 b M q Hl1 hm10 hP hRp hnM hEq hB hcn; exact absurd hm10 (Nat.not_lt_zero _)
    | succ fu10 ih10 =>
      intro n d c0 e0 b M q Hl1 hm10 hP hRp hnM hEq hB hcn
      refine j_aload_n C dX1_push_10 rfl ?_
      refine j_get (T := TX1) (N := 5) (fs := _) (v := .int (zI n)) C hwX1 hP.1 4 (by decide) rfl (index := 31) (ref := "TreePairs$Pairs") (by decide +kernel) rfl rfl dX1_push_11 ?_
      refine j_iconst C dX1_push_14 ?_
      refine j_icmp_le (tgt := 102) C dX1_push_15 (by decide) ⟨by omega, by omega⟩ ⟨by decide, by decide⟩ (fun c15 => ?_) (fun c15 => ?_)
      · skip
        have hres : pushL L (x, y, z, w) = M ++ [q] := by
          have hM : M = [] := List.eq_nil_of_length_eq_zero (by omega)
          subst hM
          rw [hEq]; rfl
        exact j_vret C hr (Nat.le_refl _) (Nat.zero_le _) ⟨_, _, _, _, (by rw [hres, List.length_append, List.length_singleton, Int.natCast_add]; rw [hnM] at hP; exact hP), (by rw [hres]; exact hRp), (by rw [hres, List.length_append, List.length_singleton]; omega)⟩ dX1_push_102
      · skip
        obtain ⟨M', t, rfl⟩ := snoc_of (M := M) (by omega)
        have hnM1 := hnM
        rw [List.length_append, List.length_singleton] at hnM1
        have hqi := hRp.at_mid (k := n - 1) (by rw [hnM]; omega)
        rw [app_cons] at hRp
        have hti := hRp.at_mid (k := n - 2) (by omega)
        have bq := hB q (by simp)
        have bt := hB t (by simp)
        have bq1 := bq
        have bt1 := bt
        rw [hqi] at bq
        rw [hti] at bt
        refine j_aload_n C dX1_push_18 rfl ?_
        refine j_callI (jrunV (rest := []) (As := []) C (c_X1_areLastHalves l G a cap n d c0 e0 b) gX1_push_X1_areLastHalves rfl 0 (by decide +kernel) rfl rfl ⟨Nat.le_of_ble_eq_true rfl, Nat.le_of_ble_eq_true rfl⟩ hP.1 rfl ⟨hP, ⟨by omega, by omega⟩, bt, bq⟩ rfl rfl (Nat.le_of_ble_eq_true rfl) ⟨Nat.le_of_ble_eq_true rfl, Nat.le_of_ble_eq_true rfl⟩ dX1_push_19) (fun r19 h19 => ?_)
        rcases h19 with ⟨h19, rfl⟩ | ⟨h19, rfl⟩
        · skip
          have hh : hlv t q := by rw [hti, hqi]; exact h19
          refine j_if_eq (tgt := 102) C dX1_push_22 (by decide) ⟨by decide, by decide⟩ (fun c22 => absurd c22 (by decide)) (fun c22 => ?_)
          have hb1 : _ ∧ _ ∧ 0 ≤ c0 (n - 2) ∧ c0 (n - 2) < 70368744177664 := bt.1.b46
          have hb2 : _ ∧ _ ∧ 0 ≤ b (n - 2) ∧ b (n - 2) < 70368744177664 := bt.2.b46
          have en : n - 1 - 1 = n - 2 := by omega
          refine j_aload_n C dX1_push_25 rfl ?_
          refine j_dup C dX1_push_26 rfl ?_
          refine j_get (T := TX1) (N := 5) (fs := _) (v := .int (zI n)) C hwX1 hP.1 4 (by decide) rfl (index := 31) (ref := "TreePairs$Pairs") (by decide +kernel) rfl rfl dX1_push_27 ?_
          refine j_iconst C dX1_push_30 ?_
          refine j_isub C dX1_push_31 ?_
          refine j_put (T := TX1) (N := 5) (fs' := [.ref (a + 1), .ref (a + 2), .ref (a + 3), .ref (a + 4), .int (zI (n - 1))]) (ty := .int) C tyX1 tyX1_ok nmX1 hwX1 hP.1 4 (by decide) rfl (index := 31) (ref := "TreePairs$Pairs") (by decide +kernel) rfl rfl (by decide +kernel) rfl rfl (Nat.le_of_ble_eq_true rfl) rfl (by omega) dX1_push_32 (fun H2 hO hC => ?_)
          have hP := hP.put_size hO hC
          refine j_aload_n C dX1_push_35 rfl ?_
          refine j_get (T := TX1) (N := 5) (fs := _) (v := .ref (a + 1)) C hwX1 hP.1 0 (by decide) rfl (index := 15) (ref := "TreePairs$Pairs") (by decide +kernel) rfl rfl dX1_push_36 ?_
          refine j_aload_n C dX1_push_39 rfl ?_
          refine j_get (T := TX1) (N := 5) (fs := _) (v := .int (zI (n - 1))) C hwX1 hP.1 4 (by decide) rfl (index := 31) (ref := "TreePairs$Pairs") (by decide +kernel) rfl rfl dX1_push_40 ?_
          refine j_iconst C dX1_push_43 ?_
          refine j_isub C dX1_push_44 ?_
          refine j_dup2_11 C dX1_push_45 rfl rfl ?_
          refine j_iald C hP.2.1 ⟨by omega, by omega⟩ dX1_push_46 ?_
          refine j_iconst C dX1_push_47 ?_
          refine j_isub C dX1_push_48 ?_
          refine j_iast C hP.2.1 ⟨by omega, by omega⟩ (by omega) dX1_push_49 (fun H3 hR hC => ?_)
          have hP := hP.put_d hR hC
          refine j_aload_n C dX1_push_50 rfl ?_
          refine j_get (T := TX1) (N := 5) (fs := _) (v := .ref (a + 2)) C hwX1 hP.1 1 (by decide) rfl (index := 21) (ref := "TreePairs$Pairs") (by decide +kernel) rfl rfl dX1_push_51 ?_
          refine j_aload_n C dX1_push_54 rfl ?_
          refine j_get (T := TX1) (N := 5) (fs := _) (v := .int (zI (n - 1))) C hwX1 hP.1 4 (by decide) rfl (index := 31) (ref := "TreePairs$Pairs") (by decide +kernel) rfl rfl dX1_push_55 ?_
          refine j_iconst C dX1_push_58 ?_
          refine j_isub C dX1_push_59 ?_
          refine j_dup2_11 C dX1_push_60 rfl rfl ?_
          refine j_lald C hP.2.2.1 ⟨by omega, by omega⟩ dX1_push_61 ?_
          refine j_ldc2 (z := 2) C (index := 43) (v := 2) (by decide +kernel) (by decide) dX1_push_62 ?_
          refine j_ldiv C dX1_push_65 ⟨by rw [en]; omega, by rw [en]; omega⟩ ⟨by decide, by decide⟩ ?_
          refine j_last C hP.2.2.1 ⟨by omega, by omega⟩ (by omega) dX1_push_66 (fun H4 hR hC => ?_)
          have hP := hP.put_c hR hC
          refine j_aload_n C dX1_push_67 rfl ?_
          refine j_get (T := TX1) (N := 5) (fs := _) (v := .ref (a + 3)) C hwX1 hP.1 2 (by decide) rfl (index := 25) (ref := "TreePairs$Pairs") (by decide +kernel) rfl rfl dX1_push_68 ?_
          refine j_aload_n C dX1_push_71 rfl ?_
          refine j_get (T := TX1) (N := 5) (fs := _) (v := .int (zI (n - 1))) C hwX1 hP.1 4 (by decide) rfl (index := 31) (ref := "TreePairs$Pairs") (by decide +kernel) rfl rfl dX1_push_72 ?_
          refine j_iconst C dX1_push_75 ?_
          refine j_isub C dX1_push_76 ?_
          refine j_dup2_11 C dX1_push_77 rfl rfl ?_
          refine j_iald C hP.2.2.2.1 ⟨by omega, by omega⟩ dX1_push_78 ?_
          refine j_iconst C dX1_push_79 ?_
          refine j_isub C dX1_push_80 ?_
          refine j_iast C hP.2.2.2.1 ⟨by omega, by omega⟩ (by omega) dX1_push_81 (fun H5 hR hC => ?_)
          have hP := hP.put_e hR hC
          refine j_aload_n C dX1_push_82 rfl ?_
          refine j_get (T := TX1) (N := 5) (fs := _) (v := .ref (a + 4)) C hwX1 hP.1 3 (by decide) rfl (index := 28) (ref := "TreePairs$Pairs") (by decide +kernel) rfl rfl dX1_push_83 ?_
          refine j_aload_n C dX1_push_86 rfl ?_
          refine j_get (T := TX1) (N := 5) (fs := _) (v := .int (zI (n - 1))) C hwX1 hP.1 4 (by decide) rfl (index := 31) (ref := "TreePairs$Pairs") (by decide +kernel) rfl rfl dX1_push_87 ?_
          refine j_iconst C dX1_push_90 ?_
          refine j_isub C dX1_push_91 ?_
          refine j_dup2_11 C dX1_push_92 rfl rfl ?_
          refine j_lald C hP.2.2.2.2 ⟨by omega, by omega⟩ dX1_push_93 ?_
          refine j_ldc2 (z := 2) C (index := 43) (v := 2) (by decide +kernel) (by decide) dX1_push_94 ?_
          refine j_ldiv C dX1_push_97 ⟨by rw [en]; omega, by rw [en]; omega⟩ ⟨by decide, by decide⟩ ?_
          refine j_last C hP.2.2.2.2 ⟨by omega, by omega⟩ (by omega) dX1_push_98 (fun H6 hR hC => ?_)
          have hP := hP.put_b hR hC
          have hRp2 : Rp (M' ++ [par4 t]) (iup d (n - 1 - 1) (d (n - 1 - 1) - 1)) (iup c0 (n - 1 - 1) (c0 (n - 1 - 1) / 2)) (iup e0 (n - 1 - 1) (e0 (n - 1 - 1) - 1)) (iup b (n - 1 - 1) (b (n - 1 - 1) / 2)) := by
            have := hRp.set_last (k := n - 1 - 1) (x := d (n - 1 - 1) - 1) (y := c0 (n - 1 - 1) / 2) (z := e0 (n - 1 - 1) - 1) (w := b (n - 1 - 1) / 2) (by omega)
            rw [show par4 t = (d (n - 1 - 1) - 1, c0 (n - 1 - 1) / 2, e0 (n - 1 - 1) - 1, b (n - 1 - 1) / 2) by rw [hti, en]; rfl]
            exact this
          have hB2 : ∀ u ∈ M' ++ [par4 t], LQ 46 u := fun u hu => (List.mem_append.mp hu).elim (fun h => hB u (by simp [h])) (fun h => by rw [List.mem_singleton.mp h]; exact bt1.par bq1 hh)
          refine j_goto (tgt := 10) C dX1_push_99 (by decide) ?_
          exact JJ.drop (lv' := [(0, .ref a)]) rfl (ih10 (n - 1) (iup d (n - 1 - 1) (d (n - 1 - 1) - 1)) (iup c0 (n - 1 - 1) (c0 (n - 1 - 1) / 2)) (iup e0 (n - 1 - 1) (e0 (n - 1 - 1) - 1)) (iup b (n - 1 - 1) (b (n - 1 - 1) / 2)) M' (par4 t) H6 (by omega) hP hRp2 (by omega) (by rw [hEq, pushL_t hh]) hB2 (by omega))
        · skip
          have hres : pushL L (x, y, z, w) = M' ++ [t] ++ [q] := by rw [hEq, pushL_f]; rw [hti, hqi]; exact h19
          rw [← app_cons] at hRp
          refine j_if_eq (tgt := 102) C dX1_push_22 (by decide) ⟨by decide, by decide⟩ (fun c22 => ?_) (fun c22 => absurd c22 (by decide))
          exact j_vret C hr (Nat.le_refl _) (Nat.zero_le _) ⟨_, _, _, _, (by rw [hres, List.length_append, List.length_singleton, Int.natCast_add]; rw [hnM] at hP; exact hP), (by rw [hres]; exact hRp), (by rw [hres, List.length_append, List.length_singleton]; omega)⟩ dX1_push_102
  exact JJ.drop (lv' := [(0, .ref a)]) rfl (K10 ((n1.toNat) + 1) n1 d c0 e0 b L ((x, y, z, w) : Q4) H1 (Nat.lt_succ_self _) hP hRp hn2 rfl hB1 hcn)
