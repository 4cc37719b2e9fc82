set_option maxHeartbeats 4000000 in
set_option maxRecDepth 100000 in
/-- startOf -/
theorem c_X2_startOf (l : Launch) (G : Gx) (x y : Int) : Met l yX2_startOf wsX2_startOf ({ frames := 0, cells := 0, slots := 0, locals := 0 } : Room) (cPc G [.int (zI x), .long (zL y)] (fun H => 0 ≤ x ∧ x ≤ 23)) (qL (fun r => r = y * 2 ^ (23 - x).toNat)) 0 0 (fun _ => False) := by
  refine Met.ofJ (cc := cX2_startOf) (maxL := 3) (ret := (some .long)) (lv0 := [(0, .int (zI x)), (1, .long (zL y))]) (by decide) rfl (Nat.le_of_ble_eq_true rfl) rfl ?_
  intro p e s m args below meth c C hr hnm hpre
  obtain ⟨hx0, hx1⟩ := hpre
  refine j_lload_n C dX2_startOf_0 rfl ?_
  refine j_bipush C dX2_startOf_1 (by decide) ?_
  refine j_iload_n C dX2_startOf_3 rfl ?_
  refine j_isub C dX2_startOf_4 ?_
  refine j_lshl C dX2_startOf_5 ⟨by omega, by omega⟩ ?_
  exact j_lretl C hr (Nat.le_refl _) (Nat.zero_le _) rfl dX2_startOf_6

set_option maxHeartbeats 4000000 in
set_option maxRecDepth 100000 in
/-- X1_firstStart -/
theorem c_X1_firstStart (l : Launch) (G : Gx) (a cap : Nat) (n : Int) (d c0 e0 b : Int → Int) (i : Int) : Met l yX1_firstStart wsX1_firstStart ({ frames := 1, cells := 0, slots := 0, locals := 22 } : Room) (cPc G [.ref a, .int (zI i)] (fun H => PQ G H a cap n d c0 e0 b ∧ (0 ≤ i ∧ i < (cap : Int)) ∧ 0 ≤ d i ∧ d i ≤ 23)) (qL (fun r => r = (c0 i) * 2 ^ (23 - d i).toNat)) 0 0 (fun _ => False) := by
  refine Met.ofJ (cc := cX1_firstStart) (maxL := 2) (ret := (some .long)) (lv0 := [(0, .ref a), (1, .int (zI i))]) (by decide) rfl (Nat.le_of_ble_eq_true rfl) rfl ?_
  intro p e s m args below meth c C hr hnm hpre
  obtain ⟨hP, hi, h0, h1⟩ := hpre
  have hwX1 : ∀ w ∈ u_ws RX1 TX1 5, w ∈ wsX1_firstStart := by decide +kernel
  refine j_aload_n C dX1_firstStart_0 rfl ?_
  refine j_get (T := TX1) (N := 5) (fs := _) (v := .ref (a + 1)) C hwX1 hP.1 0 (by decide) rfl (index := 15) (ref := "TreePairs$Pairs") (by decide +kernel) rfl rfl dX1_firstStart_1 ?_
  refine j_iload_n C dX1_firstStart_4 rfl ?_
  refine j_iald C hP.2.1 ⟨by omega, by omega⟩ dX1_firstStart_5 ?_
  refine j_aload_n C dX1_firstStart_6 rfl ?_
  refine j_get (T := TX1) (N := 5) (fs := _) (v := .ref (a + 2)) C hwX1 hP.1 1 (by decide) rfl (index := 21) (ref := "TreePairs$Pairs") (by decide +kernel) rfl rfl dX1_firstStart_7 ?_
  refine j_iload_n C dX1_firstStart_10 rfl ?_
  refine j_lald C hP.2.2.1 ⟨by omega, by omega⟩ dX1_firstStart_11 ?_
  refine j_callL (jrunSN (rest := []) (As := [.int (zI (d i)), .long (zL (c0 i))]) C (c_X2_startOf l G (d i) (c0 i)) gX1_firstStart_X2_startOf_n56 rfl 2 C.2.2.2.2.2.2.2.1 (by decide +kernel) (by decide +kernel) (by decide +kernel) rfl rfl ⟨Nat.le_of_ble_eq_true rfl, Nat.le_of_ble_eq_true rfl⟩ ⟨h0, h1⟩ rfl rfl (Nat.le_of_ble_eq_true rfl) ⟨Nat.le_of_ble_eq_true rfl, Nat.le_of_ble_eq_true rfl⟩ dX1_firstStart_12) (fun r12 h12 => ?_)
  subst h12
  exact j_lretl C hr (Nat.le_refl _) (Nat.zero_le _) rfl dX1_firstStart_15

set_option maxHeartbeats 4000000 in
set_option maxRecDepth 100000 in
/-- X1_secondStart -/
theorem c_X1_secondStart (l : Launch) (G : Gx) (a cap : Nat) (n : Int) (d c0 e0 b : Int → Int) (i : Int) : Met l yX1_secondStart wsX1_secondStart ({ frames := 1, cells := 0, slots := 0, locals := 22 } : Room) (cPc G [.ref a, .int (zI i)] (fun H => PQ G H a cap n d c0 e0 b ∧ (0 ≤ i ∧ i < (cap : Int)) ∧ 0 ≤ e0 i ∧ e0 i ≤ 23)) (qL (fun r => r = (b i) * 2 ^ (23 - e0 i).toNat)) 0 0 (fun _ => False) := by
  refine Met.ofJ (cc := cX1_secondStart) (maxL := 2) (ret := (some .long)) (lv0 := [(0, .ref a), (1, .int (zI i))]) (by decide) rfl (Nat.le_of_ble_eq_true rfl) rfl ?_
  intro p e s m args below meth c C hr hnm hpre
  obtain ⟨hP, hi, h0, h1⟩ := hpre
  have hwX1 : ∀ w ∈ u_ws RX1 TX1 5, w ∈ wsX1_secondStart := by decide +kernel
  refine j_aload_n C dX1_secondStart_0 rfl ?_
  refine j_get (T := TX1) (N := 5) (fs := _) (v := .ref (a + 3)) C hwX1 hP.1 2 (by decide) rfl (index := 25) (ref := "TreePairs$Pairs") (by decide +kernel) rfl rfl dX1_secondStart_1 ?_
  refine j_iload_n C dX1_secondStart_4 rfl ?_
  refine j_iald C hP.2.2.2.1 ⟨by omega, by omega⟩ dX1_secondStart_5 ?_
  refine j_aload_n C dX1_secondStart_6 rfl ?_
  refine j_get (T := TX1) (N := 5) (fs := _) (v := .ref (a + 4)) C hwX1 hP.1 3 (by decide) rfl (index := 28) (ref := "TreePairs$Pairs") (by decide +kernel) rfl rfl dX1_secondStart_7 ?_
  refine j_iload_n C dX1_secondStart_10 rfl ?_
  refine j_lald C hP.2.2.2.2 ⟨by omega, by omega⟩ dX1_secondStart_11 ?_
  refine j_callL (jrunSN (rest := []) (As := [.int (zI (e0 i)), .long (zL (b i))]) C (c_X2_startOf l G (e0 i) (b i)) gX1_secondStart_X2_startOf_n56 rfl 2 C.2.2.2.2.2.2.2.1 (by decide +kernel) (by decide +kernel) (by decide +kernel) rfl rfl ⟨Nat.le_of_ble_eq_true rfl, Nat.le_of_ble_eq_true rfl⟩ ⟨h0, h1⟩ rfl rfl (Nat.le_of_ble_eq_true rfl) ⟨Nat.le_of_ble_eq_true rfl, Nat.le_of_ble_eq_true rfl⟩ dX1_secondStart_12) (fun r12 h12 => ?_)
  subst h12
  exact j_lretl C hr (Nat.le_refl _) (Nat.zero_le _) rfl dX1_secondStart_15

set_option maxHeartbeats 4000000 in
set_option maxRecDepth 100000 in
/-- X1_secondEnd -/
theorem c_X1_secondEnd (l : Launch) (G : Gx) (a cap : Nat) (n : Int) (d c0 e0 b : Int → Int) (i : Int) : Met l yX1_secondEnd wsX1_secondEnd ({ frames := 1, cells := 0, slots := 0, locals := 22 } : Room) (cPc G [.ref a, .int (zI i)] (fun H => PQ G H a cap n d c0 e0 b ∧ (0 ≤ i ∧ i < (cap : Int)) ∧ 0 ≤ e0 i ∧ e0 i ≤ 23)) (qL (fun r => r = (b i + 1) * 2 ^ (23 - e0 i).toNat)) 0 0 (fun _ => False) := by
  refine Met.ofJ (cc := cX1_secondEnd) (maxL := 2) (ret := (some .long)) (lv0 := [(0, .ref a), (1, .int (zI i))]) (by decide) rfl (Nat.le_of_ble_eq_true rfl) rfl ?_
  intro p e s m args below meth c C hr hnm hpre
  obtain ⟨hP, hi, h0, h1⟩ := hpre
  have hwX1 : ∀ w ∈ u_ws RX1 TX1 5, w ∈ wsX1_secondEnd := by decide +kernel
  refine j_aload_n C dX1_secondEnd_0 rfl ?_
  refine j_get (T := TX1) (N := 5) (fs := _) (v := .ref (a + 3)) C hwX1 hP.1 2 (by decide) rfl (index := 25) (ref := "TreePairs$Pairs") (by decide +kernel) rfl rfl dX1_secondEnd_1 ?_
  refine j_iload_n C dX1_secondEnd_4 rfl ?_
  refine j_iald C hP.2.2.2.1 ⟨by omega, by omega⟩ dX1_secondEnd_5 ?_
  refine j_aload_n C dX1_secondEnd_6 rfl ?_
  refine j_get (T := TX1) (N := 5) (fs := _) (v := .ref (a + 4)) C hwX1 hP.1 3 (by decide) rfl (index := 28) (ref := "TreePairs$Pairs") (by decide +kernel) rfl rfl dX1_secondEnd_7 ?_
  refine j_iload_n C dX1_secondEnd_10 rfl ?_
  refine j_lald C hP.2.2.2.2 ⟨by omega, by omega⟩ dX1_secondEnd_11 ?_
  refine j_lconst (z := 1) C dX1_secondEnd_12 rfl ?_
  refine j_ladd C dX1_secondEnd_13 ?_
  refine j_callL (jrunSN (rest := []) (As := [.int (zI (e0 i)), .long (zL ((b i) + 1))]) C (c_X2_startOf l G (e0 i) (b i + 1)) gX1_secondEnd_X2_startOf_n56 rfl 2 C.2.2.2.2.2.2.2.1 (by decide +kernel) (by decide +kernel) (by decide +kernel) rfl rfl ⟨Nat.le_of_ble_eq_true rfl, Nat.le_of_ble_eq_true rfl⟩ ⟨h0, h1⟩ rfl rfl (Nat.le_of_ble_eq_true rfl) ⟨Nat.le_of_ble_eq_true rfl, Nat.le_of_ble_eq_true rfl⟩ dX1_secondEnd_14) (fun r14 h14 => ?_)
  subst h14
  exact j_lretl C hr (Nat.le_refl _) (Nat.zero_le _) rfl dX1_secondEnd_17

set_option maxHeartbeats 4000000 in
set_option maxRecDepth 100000 in
/-- X1_steepness -/
theorem c_X1_steepness (l : Launch) (G : Gx) (a cap : Nat) (n : Int) (d c0 e0 b : Int → Int) (i : Int) : Met l yX1_steepness wsX1_steepness ({ frames := 0, cells := 0, slots := 0, locals := 0 } : Room) (cPc G [.ref a, .int (zI i)] (fun H => PQ G H a cap n d c0 e0 b ∧ (0 ≤ i ∧ i < (cap : Int)))) (qI (fun r => r = d i - e0 i)) 0 0 (fun _ => False) := by
  refine Met.ofJ (cc := cX1_steepness) (maxL := 2) (ret := (some .int)) (lv0 := [(0, .ref a), (1, .int (zI i))]) (by decide) rfl (Nat.le_of_ble_eq_true rfl) rfl ?_
  intro p e s m args below meth c C hr hnm hpre
  obtain ⟨hP, hi⟩ := hpre
  have hwX1 : ∀ w ∈ u_ws RX1 TX1 5, w ∈ wsX1_steepness := by decide +kernel
  refine j_aload_n C dX1_steepness_0 rfl ?_
  refine j_get (T := TX1) (N := 5) (fs := _) (v := .ref (a + 1)) C hwX1 hP.1 0 (by decide) rfl (index := 15) (ref := "TreePairs$Pairs") (by decide +kernel) rfl rfl dX1_steepness_1 ?_
  refine j_iload_n C dX1_steepness_4 rfl ?_
  refine j_iald C hP.2.1 ⟨by omega, by omega⟩ dX1_steepness_5 ?_
  refine j_aload_n C dX1_steepness_6 rfl ?_
  refine j_get (T := TX1) (N := 5) (fs := _) (v := .ref (a + 3)) C hwX1 hP.1 2 (by decide) rfl (index := 25) (ref := "TreePairs$Pairs") (by decide +kernel) rfl rfl dX1_steepness_7 ?_
  refine j_iload_n C dX1_steepness_10 rfl ?_
  refine j_iald C hP.2.2.2.1 ⟨by omega, by omega⟩ dX1_steepness_11 ?_
  refine j_isub C dX1_steepness_12 ?_
  exact j_ireti C hr (Nat.le_refl _) (Nat.zero_le _) rfl dX1_steepness_13

set_option maxHeartbeats 4000000 in
set_option maxRecDepth 100000 in
/-- X1_told -/
theorem c_X1_told (l : Launch) (G : Gx) (a cap : Nat) (n : Int) (d c0 e0 b : Int → Int) (i w : Int) : Met l yX1_told wsX1_told ({ frames := 0, cells := 0, slots := 0, locals := 0 } : Room) (cPc G [.ref a, .int (zI i), .int (zI w)] (fun H => PQ G H a cap n d c0 e0 b ∧ (0 ≤ i ∧ i < (cap : Int)) ∧ (0 ≤ w ∧ w ≤ 3) ∧ iR (d i) ∧ iR (e0 i))) (qL (fun r => r = if w = 0 then d i else if w = 1 then c0 i else if w = 2 then e0 i else b i)) 0 0 (fun _ => False) := by
  refine Met.ofJ (cc := cX1_told) (maxL := 3) (ret := (some .long)) (lv0 := [(0, .ref a), (1, .int (zI i)), (2, .int (zI w))]) (by decide) rfl (Nat.le_of_ble_eq_true rfl) rfl ?_
  intro p e s m args below meth c C hr hnm hpre
  obtain ⟨hP, hi, hw, hd, he⟩ := hpre
  have hwX1 : ∀ w ∈ u_ws RX1 TX1 5, w ∈ wsX1_told := by decide +kernel
  refine j_iload_n C dX1_told_0 rfl ?_
  by_cases t1_0 : w = 0
  · skip
    refine j_tswIn (off := 27) (tgt := 28) C dX1_told_1 ⟨by omega, by omega⟩ (by omega) (by omega) (by rw [t1_0]; rfl) (by decide) ?_
    refine j_aload_n C dX1_told_28 rfl ?_
    refine j_get (T := TX1) (N := 5) (fs := _) (v := .ref (a + 1)) C hwX1 hP.1 0 (by decide) rfl (index := 15) (ref := "TreePairs$Pairs") (by decide +kernel) rfl rfl dX1_told_29 ?_
    refine j_iload_n C dX1_told_32 rfl ?_
    refine j_iald C hP.2.1 ⟨by omega, by omega⟩ dX1_told_33 ?_
    refine j_i2l C dX1_told_34 hd ?_
    exact j_lretl C hr (Nat.le_refl _) (Nat.zero_le _) (by show _ = _; rw [if_pos t1_0]) dX1_told_35
  by_cases t1_1 : w = 1
  · skip
    refine j_tswIn (off := 35) (tgt := 36) C dX1_told_1 ⟨by omega, by omega⟩ (by omega) (by omega) (by rw [t1_1]; rfl) (by decide) ?_
    refine j_aload_n C dX1_told_36 rfl ?_
    refine j_get (T := TX1) (N := 5) (fs := _) (v := .ref (a + 2)) C hwX1 hP.1 1 (by decide) rfl (index := 21) (ref := "TreePairs$Pairs") (by decide +kernel) rfl rfl dX1_told_37 ?_
    refine j_iload_n C dX1_told_40 rfl ?_
    refine j_lald C hP.2.2.1 ⟨by omega, by omega⟩ dX1_told_41 ?_
    exact j_lretl C hr (Nat.le_refl _) (Nat.zero_le _) (by show _ = _; rw [if_neg t1_0, if_pos t1_1]) dX1_told_42
  by_cases t1_2 : w = 2
  · skip
    refine j_tswIn (off := 42) (tgt := 43) C dX1_told_1 ⟨by omega, by omega⟩ (by omega) (by omega) (by rw [t1_2]; rfl) (by decide) ?_
    refine j_aload_n C dX1_told_43 rfl ?_
    refine j_get (T := TX1) (N := 5) (fs := _) (v := .ref (a + 3)) C hwX1 hP.1 2 (by decide) rfl (index := 25) (ref := "TreePairs$Pairs") (by decide +kernel) rfl rfl dX1_told_44 ?_
    refine j_iload_n C dX1_told_47 rfl ?_
    refine j_iald C hP.2.2.2.1 ⟨by omega, by omega⟩ dX1_told_48 ?_
    refine j_i2l C dX1_told_49 he ?_
    exact j_lretl C hr (Nat.le_refl _) (Nat.zero_le _) (by show _ = _; rw [if_neg t1_0, if_neg t1_1, if_pos t1_2]) dX1_told_50
  refine j_tswOut (tgt := 51) C dX1_told_1 ⟨by omega, by omega⟩ (by omega) (by decide) ?_
  refine j_aload_n C dX1_told_51 rfl ?_
  refine j_get (T := TX1) (N := 5) (fs := _) (v := .ref (a + 4)) C hwX1 hP.1 3 (by decide) rfl (index := 28) (ref := "TreePairs$Pairs") (by decide +kernel) rfl rfl dX1_told_52 ?_
  refine j_iload_n C dX1_told_55 rfl ?_
  refine j_lald C hP.2.2.2.2 ⟨by omega, by omega⟩ dX1_told_56 ?_
  exact j_lretl C hr (Nat.le_refl _) (Nat.zero_le _) (by show _ = _; rw [if_neg t1_0, if_neg t1_1, if_neg t1_2]) dX1_told_57

set_option maxHeartbeats 4000000 in
set_option maxRecDepth 100000 in
/-- X1_areLastHalves -/
theorem c_X1_areLastHalves (l : Launch) (G : Gx) (a cap : Nat) (n : Int) (d c0 e0 b : Int → Int) : Met l yX1_areLastHalves wsX1_areLastHalves ({ frames := 0, cells := 0, slots := 0, locals := 0 } : Room) (cPc G [.ref a] (fun H => PQ G H a cap n d c0 e0 b ∧ (2 ≤ n ∧ n ≤ (cap : Int)) ∧ (Lf 46 (d (n - 2)) (c0 (n - 2)) ∧ Lf 46 (e0 (n - 2)) (b (n - 2))) ∧ (Lf 46 (d (n - 1)) (c0 (n - 1)) ∧ Lf 46 (e0 (n - 1)) (b (n - 1))))) (qI (fun r => ((d (n - 2) = d (n - 1) ∧ e0 (n - 2) = e0 (n - 1) ∧ c0 (n - 2) % 2 = 0 ∧ c0 (n - 2) + 1 = c0 (n - 1) ∧ b (n - 2) % 2 = 0 ∧ b (n - 2) + 1 = b (n - 1)) ∧ r = 1) ∨ (¬ (d (n - 2) = d (n - 1) ∧ e0 (n - 2) = e0 (n - 1) ∧ c0 (n - 2) % 2 = 0 ∧ c0 (n - 2) + 1 = c0 (n - 1) ∧ b (n - 2) % 2 = 0 ∧ b (n - 2) + 1 = b (n - 1)) ∧ r = 0))) 0 0 (fun _ => False) := by
  refine Met.ofJ (cc := cX1_areLastHalves) (maxL := 3) (ret := (some .boolean)) (lv0 := [(0, .ref a)]) (by decide) rfl (Nat.le_of_ble_eq_true rfl) rfl ?_
  intro p e s m args below meth c C hr hnm hpre
  obtain ⟨hP, hi, ⟨h1, h2⟩, ⟨h3, h4⟩⟩ := hpre
  have hwX1 : ∀ w ∈ u_ws RX1 TX1 5, w ∈ wsX1_areLastHalves := by decide +kernel
  have hcR := hP.capR
  have h1 := h1.b46
  have h2 := h2.b46
  have h3 := h3.b46
  have h4 := h4.b46
  refine j_aload_n C dX1_areLastHalves_0 rfl ?_
  refine j_get (T := TX1) (N := 5) (fs := _) (v := .int (zI n)) C hwX1 hP.1 4 (by decide) rfl (index := 31) (ref := "TreePairs$Pairs") (by decide +kernel) rfl rfl dX1_areLastHalves_1 ?_
  refine j_iconst C dX1_areLastHalves_4 ?_
  refine j_isub C dX1_areLastHalves_5 ?_
  refine j_istore_n (lv' := [(0, .ref a), (1, .int (zI (n - 1)))]) C dX1_areLastHalves_6 (by decide) rfl ?_
  refine j_aload_n C dX1_areLastHalves_7 rfl ?_
  refine j_get (T := TX1) (N := 5) (fs := _) (v := .int (zI n)) C hwX1 hP.1 4 (by decide) rfl (index := 31) (ref := "TreePairs$Pairs") (by decide +kernel) rfl rfl dX1_areLastHalves_8 ?_
  refine j_iconst C dX1_areLastHalves_11 ?_
  refine j_isub C dX1_areLastHalves_12 ?_
  refine j_istore_n (lv' := [(0, .ref a), (1, .int (zI (n - 1))), (2, .int (zI (n - 2)))]) C dX1_areLastHalves_13 (by decide) rfl ?_
  refine j_aload_n C dX1_areLastHalves_14 rfl ?_
  refine j_get (T := TX1) (N := 5) (fs := _) (v := .ref (a + 1)) C hwX1 hP.1 0 (by decide) rfl (index := 15) (ref := "TreePairs$Pairs") (by decide +kernel) rfl rfl dX1_areLastHalves_15 ?_
  refine j_iload_n C dX1_areLastHalves_18 rfl ?_
  refine j_iald C hP.2.1 ⟨by omega, by omega⟩ dX1_areLastHalves_19 ?_
  refine j_aload_n C dX1_areLastHalves_20 rfl ?_
  refine j_get (T := TX1) (N := 5) (fs := _) (v := .ref (a + 1)) C hwX1 hP.1 0 (by decide) rfl (index := 15) (ref := "TreePairs$Pairs") (by decide +kernel) rfl rfl dX1_areLastHalves_21 ?_
  refine j_iload_n C dX1_areLastHalves_24 rfl ?_
  refine j_iald C hP.2.1 ⟨by omega, by omega⟩ dX1_areLastHalves_25 ?_
  refine j_icmp_ne (tgt := 114) C dX1_areLastHalves_26 (by decide) ⟨by omega, by omega⟩ ⟨by omega, by omega⟩ (fun c26 => ?_) (fun c26 => ?_)
  · skip
    refine j_iconst C dX1_areLastHalves_114 ?_
    exact j_zreti C hr (Nat.le_refl _) (Nat.zero_le _) (Or.inl rfl) (by show (_ ∧ _) ∨ (_ ∧ _); omega) dX1_areLastHalves_115
  · skip
    refine j_aload_n C dX1_areLastHalves_29 rfl ?_
    refine j_get (T := TX1) (N := 5) (fs := _) (v := .ref (a + 3)) C hwX1 hP.1 2 (by decide) rfl (index := 25) (ref := "TreePairs$Pairs") (by decide +kernel) rfl rfl dX1_areLastHalves_30 ?_
    refine j_iload_n C dX1_areLastHalves_33 rfl ?_
    refine j_iald C hP.2.2.2.1 ⟨by omega, by omega⟩ dX1_areLastHalves_34 ?_
    refine j_aload_n C dX1_areLastHalves_35 rfl ?_
    refine j_get (T := TX1) (N := 5) (fs := _) (v := .ref (a + 3)) C hwX1 hP.1 2 (by decide) rfl (index := 25) (ref := "TreePairs$Pairs") (by decide +kernel) rfl rfl dX1_areLastHalves_36 ?_
    refine j_iload_n C dX1_areLastHalves_39 rfl ?_
    refine j_iald C hP.2.2.2.1 ⟨by omega, by omega⟩ dX1_areLastHalves_40 ?_
    refine j_icmp_ne (tgt := 114) C dX1_areLastHalves_41 (by decide) ⟨by omega, by omega⟩ ⟨by omega, by omega⟩ (fun c41 => ?_) (fun c41 => ?_)
    · skip
      refine j_iconst C dX1_areLastHalves_114 ?_
      exact j_zreti C hr (Nat.le_refl _) (Nat.zero_le _) (Or.inl rfl) (by show (_ ∧ _) ∨ (_ ∧ _); omega) dX1_areLastHalves_115
    · skip
      refine j_aload_n C dX1_areLastHalves_44 rfl ?_
      refine j_get (T := TX1) (N := 5) (fs := _) (v := .ref (a + 2)) C hwX1 hP.1 1 (by decide) rfl (index := 21) (ref := "TreePairs$Pairs") (by decide +kernel) rfl rfl dX1_areLastHalves_45 ?_
      refine j_iload_n C dX1_areLastHalves_48 rfl ?_
      refine j_lald C hP.2.2.1 ⟨by omega, by omega⟩ dX1_areLastHalves_49 ?_
      refine j_ldc2 (z := 2) C (index := 43) (v := 2) (by decide +kernel) (by decide) dX1_areLastHalves_50 ?_
      refine j_lrem C dX1_areLastHalves_53 ⟨by omega, by omega⟩ ⟨by decide, by decide⟩ ?_
      refine j_lconst (z := 0) C dX1_areLastHalves_54 rfl ?_
      refine j_lcmp_ne (tgt := 114) C dX1_areLastHalves_55 dX1_areLastHalves_56 (by decide) ⟨by omega, by omega⟩ ⟨by decide, by decide⟩ (fun c55 => ?_) (fun c55 => ?_)
      · skip
        refine j_iconst C dX1_areLastHalves_114 ?_
        exact j_zreti C hr (Nat.le_refl _) (Nat.zero_le _) (Or.inl rfl) (by show (_ ∧ _) ∨ (_ ∧ _); omega) dX1_areLastHalves_115
      · skip
        refine j_aload_n C dX1_areLastHalves_59 rfl ?_
        refine j_get (T := TX1) (N := 5) (fs := _) (v := .ref (a + 2)) C hwX1 hP.1 1 (by decide) rfl (index := 21) (ref := "TreePairs$Pairs") (by decide +kernel) rfl rfl dX1_areLastHalves_60 ?_
        refine j_iload_n C dX1_areLastHalves_63 rfl ?_
        refine j_lald C hP.2.2.1 ⟨by omega, by omega⟩ dX1_areLastHalves_64 ?_
        refine j_lconst (z := 1) C dX1_areLastHalves_65 rfl ?_
        refine j_ladd C dX1_areLastHalves_66 ?_
        refine j_aload_n C dX1_areLastHalves_67 rfl ?_
        refine j_get (T := TX1) (N := 5) (fs := _) (v := .ref (a + 2)) C hwX1 hP.1 1 (by decide) rfl (index := 21) (ref := "TreePairs$Pairs") (by decide +kernel) rfl rfl dX1_areLastHalves_68 ?_
        refine j_iload_n C dX1_areLastHalves_71 rfl ?_
        refine j_lald C hP.2.2.1 ⟨by omega, by omega⟩ dX1_areLastHalves_72 ?_
        refine j_lcmp_ne (tgt := 114) C dX1_areLastHalves_73 dX1_areLastHalves_74 (by decide) ⟨by omega, by omega⟩ ⟨by omega, by omega⟩ (fun c73 => ?_) (fun c73 => ?_)
        · skip
          refine j_iconst C dX1_areLastHalves_114 ?_
          exact j_zreti C hr (Nat.le_refl _) (Nat.zero_le _) (Or.inl rfl) (by show (_ ∧ _) ∨ (_ ∧ _); omega) dX1_areLastHalves_115
        · skip
          refine j_aload_n C dX1_areLastHalves_77 rfl ?_
          refine j_get (T := TX1) (N := 5) (fs := _) (v := .ref (a + 4)) C hwX1 hP.1 3 (by decide) rfl (index := 28) (ref := "TreePairs$Pairs") (by decide +kernel) rfl rfl dX1_areLastHalves_78 ?_
          refine j_iload_n C dX1_areLastHalves_81 rfl ?_
          refine j_lald C hP.2.2.2.2 ⟨by omega, by omega⟩ dX1_areLastHalves_82 ?_
          refine j_ldc2 (z := 2) C (index := 43) (v := 2) (by decide +kernel) (by decide) dX1_areLastHalves_83 ?_
          refine j_lrem C dX1_areLastHalves_86 ⟨by omega, by omega⟩ ⟨by decide, by decide⟩ ?_
          refine j_lconst (z := 0) C dX1_areLastHalves_87 rfl ?_
          refine j_lcmp_ne (tgt := 114) C dX1_areLastHalves_88 dX1_areLastHalves_89 (by decide) ⟨by omega, by omega⟩ ⟨by decide, by decide⟩ (fun c88 => ?_) (fun c88 => ?_)
          · skip
            refine j_iconst C dX1_areLastHalves_114 ?_
            exact j_zreti C hr (Nat.le_refl _) (Nat.zero_le _) (Or.inl rfl) (by show (_ ∧ _) ∨ (_ ∧ _); omega) dX1_areLastHalves_115
          · skip
            refine j_aload_n C dX1_areLastHalves_92 rfl ?_
            refine j_get (T := TX1) (N := 5) (fs := _) (v := .ref (a + 4)) C hwX1 hP.1 3 (by decide) rfl (index := 28) (ref := "TreePairs$Pairs") (by decide +kernel) rfl rfl dX1_areLastHalves_93 ?_
            refine j_iload_n C dX1_areLastHalves_96 rfl ?_
            refine j_lald C hP.2.2.2.2 ⟨by omega, by omega⟩ dX1_areLastHalves_97 ?_
            refine j_lconst (z := 1) C dX1_areLastHalves_98 rfl ?_
            refine j_ladd C dX1_areLastHalves_99 ?_
            refine j_aload_n C dX1_areLastHalves_100 rfl ?_
            refine j_get (T := TX1) (N := 5) (fs := _) (v := .ref (a + 4)) C hwX1 hP.1 3 (by decide) rfl (index := 28) (ref := "TreePairs$Pairs") (by decide +kernel) rfl rfl dX1_areLastHalves_101 ?_
            refine j_iload_n C dX1_areLastHalves_104 rfl ?_
            refine j_lald C hP.2.2.2.2 ⟨by omega, by omega⟩ dX1_areLastHalves_105 ?_
            refine j_lcmp_ne (tgt := 114) C dX1_areLastHalves_106 dX1_areLastHalves_107 (by decide) ⟨by omega, by omega⟩ ⟨by omega, by omega⟩ (fun c106 => ?_) (fun c106 => ?_)
            · skip
              refine j_iconst C dX1_areLastHalves_114 ?_
              exact j_zreti C hr (Nat.le_refl _) (Nat.zero_le _) (Or.inl rfl) (by show (_ ∧ _) ∨ (_ ∧ _); omega) dX1_areLastHalves_115
            · skip
              refine j_iconst C dX1_areLastHalves_110 ?_
              refine j_goto (tgt := 115) C dX1_areLastHalves_111 (by decide) ?_
              exact j_zreti C hr (Nat.le_refl _) (Nat.zero_le _) (Or.inr rfl) (by show (_ ∧ _) ∨ (_ ∧ _); omega) dX1_areLastHalves_115

set_option maxHeartbeats 4000000 in
set_option maxRecDepth 100000 in
/-- X1_holderOf -/
theorem c_X1_holderOf (l : Launch) (G : Gx) (a cap : Nat) (n : Int) (d c0 e0 b : Int → Int) (x : Int) : Met l yX1_holderOf wsX1_holderOf ({ frames := 2, cells := 0, slots := 0, locals := 43 } : Room) (cPc G [.ref a, .long (zL x)] (fun H => PQ G H a cap n d c0 e0 b ∧ (1 ≤ n ∧ n ≤ (cap : Int)) ∧ (cap ≤ 48) ∧ lR x ∧ (∀ i, 0 ≤ i → i < n → Lf 23 (d i) (c0 i)) ∧ (∀ i j, 0 ≤ i → i < j → j < n → c0 i * 2 ^ (23 - d i).toNat < c0 j * 2 ^ (23 - d j).toNat) ∧ c0 0 * 2 ^ (23 - d 0).toNat ≤ x)) (qI (fun r => 0 ≤ r ∧ r < n ∧ c0 r * 2 ^ (23 - d r).toNat ≤ x ∧ ∀ j, r < j → j < n → x < c0 j * 2 ^ (23 - d j).toNat)) 0 0 (fun _ => False) := by
  refine Met.ofJ (cc := cX1_holderOf) (maxL := 5) (ret := (some .int)) (lv0 := [(0, .ref a), (1, .long (zL x))]) (by decide) rfl (Nat.le_of_ble_eq_true rfl) rfl ?_
  intro p e s m args below meth c C hr hnm hpre
  obtain ⟨hP, hn, hcap, hx, hL, hS, h0⟩ := hpre
  have hwX1 : ∀ w ∈ u_ws RX1 TX1 5, w ∈ wsX1_holderOf := by decide +kernel
  refine j_iconst C dX1_holderOf_0 ?_
  refine j_istore_n (lv' := [(0, .ref a), (1, .long (zL x)), (3, .int (zI 0))]) C dX1_holderOf_1 (by decide) rfl ?_
  refine j_bipush C dX1_holderOf_2 (by decide) ?_
  refine j_istore (lv' := [(0, .ref a), (1, .long (zL x)), (3, .int (zI 0)), (4, .int (zI 32))]) C dX1_holderOf_4 (by decide) rfl ?_
  have K6 : ∀ (fu6 : Nat) (i t : Int), t.toNat < fu6 → 0 ≤ i ∧ i < n → t = 32 ∨ t = 16 ∨ t = 8 ∨ t = 4 ∨ t = 2 ∨ t = 1 ∨ t = 0 → c0 i * 2 ^ (23 - d i).toNat ≤ x → (∀ j, i + (if t = 0 then 1 else 2 * t) ≤ j → j < n → x < c0 j * 2 ^ (23 - d j).toNat) → JJ p l e ({ frames := 2, cells := 0, slots := 0, locals := 43 } : Room) s m args below meth c (MQ below (qI (fun r => 0 ≤ r ∧ r < n ∧ c0 r * 2 ^ (23 - d r).toNat ≤ x ∧ ∀ j, r < j → j < n → x < c0 j * 2 ^ (23 - d j).toNat)) args s 0 0 (fun _ => False)) (fun _ => False) 5 s.heap 0 0 6 [(0, .ref a), (1, .long (zL x)), (3, .int (zI i)), (4, .int (zI t))] [] := by
    intro fu6
    induction fu6 with
    | zero => intro i t hm6 hi ht hle hgt; exact absurd hm6 (Nat.not_lt_zero _)
    | succ fu6 ih6 =>
      intro i t hm6 hi ht hle hgt
      refine j_iload C dX1_holderOf_6 rfl ?_
      refine j_if_le (tgt := 49) C dX1_holderOf_8 (by decide) ⟨by omega, by omega⟩ (fun c8 => ?_) (fun c8 => ?_)
      · skip
        refine j_iload_n C dX1_holderOf_49 rfl ?_
        exact j_ireti C hr (Nat.le_refl _) (Nat.zero_le _) ⟨hi.1, hi.2, hle, fun j h1 h2 => hgt j (by rw [if_pos (by omega)]; omega) h2⟩ dX1_holderOf_50
      · skip
        have hst : (if t / 2 = 0 then (1 : Int) else 2 * (t / 2)) = t := by rcases ht with rfl | rfl | rfl | rfl | rfl | rfl | rfl <;> first | decide | omega
        rw [if_neg (by omega)] at hgt
        refine j_iload_n C dX1_holderOf_11 rfl ?_
        refine j_iload C dX1_holderOf_12 rfl ?_
        refine j_iadd C dX1_holderOf_14 ?_
        refine j_aload_n C dX1_holderOf_15 rfl ?_
        refine j_get (T := TX1) (N := 5) (fs := _) (v := .int (zI n)) C hwX1 hP.1 4 (by decide) rfl (index := 31) (ref := "TreePairs$Pairs") (by decide +kernel) rfl rfl dX1_holderOf_16 ?_
        refine j_icmp_ge (tgt := 40) C dX1_holderOf_19 (by decide) ⟨by omega, by omega⟩ ⟨by omega, by omega⟩ (fun c19 => ?_) (fun c19 => ?_)
        · skip
          have hi2 := hi
          have hle2 := hle
          have hgt2 : ∀ j, i + t ≤ j → j < n → x < c0 j * 2 ^ (23 - d j).toNat := fun j h1 h2 => absurd h2 (by omega)
          refine j_iload C dX1_holderOf_40 rfl ?_
          refine j_iconst C dX1_holderOf_42 ?_
          refine j_idiv C dX1_holderOf_43 ⟨by omega, by omega⟩ ⟨by decide, by decide⟩ ?_
          refine j_istore (lv' := [(0, .ref a), (1, .long (zL x)), (3, .int (zI i)), (4, .int (zI (t / 2)))]) C dX1_holderOf_44 (by decide) rfl ?_
          refine j_goto (tgt := 6) C dX1_holderOf_46 (by decide) ?_
          exact JJ.drop (lv' := [(0, .ref a), (1, .long (zL x)), (3, .int (zI i)), (4, .int (zI (t / 2)))]) rfl (ih6 i (t / 2) (by omega) hi2 (by omega) hle2 (fun j h1 h2 => hgt2 j (by rw [hst] at h1; exact h1) h2))
        · skip
          have hlt := hL (i + t) (by omega) (by omega)
          have hst2 := hlt.st
          have hb := hlt.b23
          refine j_aload_n C dX1_holderOf_22 rfl ?_
          refine j_iload_n C dX1_holderOf_23 rfl ?_
          refine j_iload C dX1_holderOf_24 rfl ?_
          refine j_iadd C dX1_holderOf_26 ?_
          refine j_callL (jrunV (rest := []) (As := [.int (zI (i + t))]) C (c_X1_firstStart l G a cap n d c0 e0 b (i + t)) gX1_holderOf_X1_firstStart rfl 1 (by decide +kernel) rfl rfl ⟨Nat.le_of_ble_eq_true rfl, Nat.le_of_ble_eq_true rfl⟩ hP.1 rfl ⟨hP, ⟨by omega, by omega⟩, by omega, by omega⟩ rfl rfl (Nat.le_of_ble_eq_true rfl) ⟨Nat.le_of_ble_eq_true rfl, Nat.le_of_ble_eq_true rfl⟩ dX1_holderOf_27) (fun r27 h27 => ?_)
          subst h27
          refine j_lload_n C dX1_holderOf_30 rfl ?_
          refine j_lcmp_gt (tgt := 40) C dX1_holderOf_31 dX1_holderOf_32 (by decide) ⟨by omega, by omega⟩ hx (fun c31 => ?_) (fun c31 => ?_)
          · skip
            have hi2 := hi
            have hle2 := hle
            have hgt2 : ∀ j, i + t ≤ j → j < n → x < c0 j * 2 ^ (23 - d j).toNat := fun j h1 h2 => by
              rcases Int.lt_or_eq_of_le h1 with h3 | h3
              · exact Int.lt_trans c31 (hS (i + t) j (by omega) h3 h2)
              · rw [← h3]; exact c31
            refine j_iload C dX1_holderOf_40 rfl ?_
            refine j_iconst C dX1_holderOf_42 ?_
            refine j_idiv C dX1_holderOf_43 ⟨by omega, by omega⟩ ⟨by decide, by decide⟩ ?_
            refine j_istore (lv' := [(0, .ref a), (1, .long (zL x)), (3, .int (zI i)), (4, .int (zI (t / 2)))]) C dX1_holderOf_44 (by decide) rfl ?_
            refine j_goto (tgt := 6) C dX1_holderOf_46 (by decide) ?_
            exact JJ.drop (lv' := [(0, .ref a), (1, .long (zL x)), (3, .int (zI i)), (4, .int (zI (t / 2)))]) rfl (ih6 i (t / 2) (by omega) hi2 (by omega) hle2 (fun j h1 h2 => hgt2 j (by rw [hst] at h1; exact h1) h2))
          · skip
            have hi2 : 0 ≤ i + t ∧ i + t < n := ⟨by omega, by omega⟩
            have hle2 : c0 (i + t) * 2 ^ (23 - d (i + t)).toNat ≤ x := Int.not_lt.mp c31
            have hgt2 : ∀ j, i + t + t ≤ j → j < n → x < c0 j * 2 ^ (23 - d j).toNat := fun j h1 h2 => hgt j (by omega) h2
            refine j_iload_n C dX1_holderOf_35 rfl ?_
            refine j_iload C dX1_holderOf_36 rfl ?_
            refine j_iadd C dX1_holderOf_38 ?_
            refine j_istore_n (lv' := [(0, .ref a), (1, .long (zL x)), (3, .int (zI (i + t))), (4, .int (zI t))]) C dX1_holderOf_39 (by decide) rfl ?_
            refine j_iload C dX1_holderOf_40 rfl ?_
            refine j_iconst C dX1_holderOf_42 ?_
            refine j_idiv C dX1_holderOf_43 ⟨by omega, by omega⟩ ⟨by decide, by decide⟩ ?_
            refine j_istore (lv' := [(0, .ref a), (1, .long (zL x)), (3, .int (zI (i + t))), (4, .int (zI (t / 2)))]) C dX1_holderOf_44 (by decide) rfl ?_
            refine j_goto (tgt := 6) C dX1_holderOf_46 (by decide) ?_
            exact JJ.drop (lv' := [(0, .ref a), (1, .long (zL x)), (3, .int (zI (i + t))), (4, .int (zI (t / 2)))]) rfl (ih6 (i + t) (t / 2) (by omega) hi2 (by omega) hle2 (fun j h1 h2 => hgt2 j (by rw [hst] at h1; exact h1) h2))
  exact JJ.drop (lv' := [(0, .ref a), (1, .long (zL x)), (3, .int (zI 0)), (4, .int (zI 32))]) rfl (K6 (((32 : Int).toNat) + 1) 0 32 (Nat.lt_succ_self _) ⟨by omega, by omega⟩ (by omega) h0 (fun j h1 h2 => by rw [if_neg (by decide)] at h1; omega))
