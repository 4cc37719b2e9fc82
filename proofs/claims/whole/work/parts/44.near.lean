section
variable {G : Gx} {p : Program} {l : Launch} {e : Env} {R : Room} {s : State} {m : MethodId} {args : Array Value} {below : List Frame} {meth : Method} {c : Code} {Q : State → Prop} {A : Nat → Prop} {cc : ByteArray} {nL : Nat} {own : String} {Ts : List Cond} {H : Heap} {ca sl pc : Nat} {lv : List (Nat × Value)} {st : List Value}
theorem j_ifnonnull (C : Cx G p s m args meth c cc nL own Ts) {x : Nat} {off : Int} {tgt : Nat} (hdg : decode cc pc = .ok (.ifnonnull off, 3)) (ht : (pc : Int) + off = (tgt : Int)) (k : JJ p l e R s m args below meth c Q A nL H ca sl tgt lv st) : JJ p l e R s m args below meth c Q A nL H ca sl pc lv (.ref x :: st) := fun ls locs h hS => lv_ifnonnull C.1 C.2.1 hdg ht (k ls locs h hS)
theorem j_ifnonnullN (C : Cx G p s m args meth c cc nL own Ts) {off : Int} (hdg : decode cc pc = .ok (.ifnonnull off, 3)) (k : JJ p l e R s m args below meth c Q A nL H ca sl (pc + 3) lv st) : JJ p l e R s m args below meth c Q A nL H ca sl pc lv (.null :: st) := fun ls locs h hS => lv_ifnonnullN C.1 C.2.1 hdg (k ls locs h hS)
end
theorem firstF_161 {n : Nat} (h : n ≤ 5) : firstF n ≤ 161 := by
  cases n with
  | zero => exact Nat.zero_le _
  | succ n => exact pre_len (ballL_4 (n := n) (by omega))
set_option maxHeartbeats 8000000 in
theorem c_X2_nearOnes0 (l : Launch) (G : Gx) (o h : Nat) (maps : Int → List Q4) (hand : List Q4) (sd sc : Int) : Met l yX2_nearOnes wsX2_nearOnes ({ frames := 9, cells := 1303, slots := 110000, locals := 222 } : Room) (cPc G [.ref o] (fun H => TP G H o maps hand sd sc .null ∧ HZ G o H ∧ H.size = h)) (qmR (fun r H => r = h ∧ TP G H o maps hand sd sc (.ref h) ∧ BF G H h) (fun q : Nat => (o ≤ q ∧ q < o + 82) ∨ h ≤ q)) 1303 110000 (fun q : Nat => (o ≤ q ∧ q < o + 82) ∨ h ≤ q) := by
  refine Met.ofJ (cc := cX2_nearOnes) (maxL := 1) (ret := (some (.object "TreePairs$Ball"))) (lv0 := [(0, .ref o)]) (by decide) rfl (Nat.le_of_ble_eq_true rfl) rfl ?_
  intro p e s m args below meth c C hr hnm hpre
  have hwX2 : ∀ w ∈ u_ws RX2 TX2 8, w ∈ wsX2_nearOnes := by decide +kernel
  have hT := hpre.1
  have hlt := hT.lt
  have hsz := hpre.2.2
  refine j_aload_n C dX2_nearOnes_0 rfl ?_
  refine j_get (T := TX2) (N := 8) (fs := _) (v := .null) C hwX2 hT.1 7 (by decide) rfl (index := 198) (ref := "TreePairs") (by decide +kernel) rfl rfl dX2_nearOnes_1 ?_
  refine j_ifnonnullN C dX2_nearOnes_4 ?_
  refine j_aload_n C dX2_nearOnes_7 rfl ?_
  refine j_aload_n C dX2_nearOnes_8 rfl ?_
  refine j_callmR (jrunV (rest := [.ref o]) (As := []) C (c_X2_grownBall l G o h maps hand sd sc .null) gX2_nearOnes_X2_grownBall rfl 0 (by decide +kernel) rfl rfl ⟨Nat.le_of_ble_eq_true rfl, Nat.le_of_ble_eq_true rfl⟩ hT.1 rfl hpre rfl rfl (Nat.le_of_ble_eq_true rfl) ⟨Nat.le_of_ble_eq_true rfl, Nat.le_of_ble_eq_true rfl⟩ dX2_nearOnes_9) (fun q hq => by have hq' : (o + 67 ≤ q ∧ q < o + 77) ∨ h ≤ q := hq; show (o ≤ q ∧ q < o + 82) ∨ h ≤ q; omega) (fun r9 H1 h9 hF => ?_)
  obtain ⟨e9, hT, hB⟩ := h9
  rw [e9]
  refine j_put (T := TX2) (N := 8) (fs' := [.ref (o + 1), .ref (o + 62), .int (zI sd), .long (zL sc), .ref (o + 67), .ref (o + 72), .ref (o + 77), .ref h]) (ty := .object "TreePairs$Ball") C tyX2 tyX2_ok nmX2 hwX2 hT.1 7 (by decide) rfl (index := 198) (ref := "TreePairs") (by decide +kernel) rfl rfl (by decide +kernel) rfl rfl (Nat.le_of_ble_eq_true rfl) rfl (Or.inl ⟨Nat.le_refl _, by omega⟩) dX2_nearOnes_12 (fun H2 hO hC => ?_)
  have hT := hT.put hO hC
  have hB := hB.kept (H1 := H2) (fun q q1 q2 => hC.2 q (by omega))
  refine j_aload_n C dX2_nearOnes_15 rfl ?_
  refine j_get (T := TX2) (N := 8) (fs := _) (v := .ref h) C hwX2 hT.1 7 (by decide) rfl (index := 198) (ref := "TreePairs") (by decide +kernel) rfl rfl dX2_nearOnes_16 ?_
  exact j_aret C hr (Or.inl ⟨_, rfl⟩) (Nat.le_refl _) (Nat.le_refl _) ⟨rfl, hT, hB⟩ dX2_nearOnes_19
set_option maxHeartbeats 8000000 in
theorem c_X2_nearOnes1 (l : Launch) (G : Gx) (o b : Nat) (maps : Int → List Q4) (hand : List Q4) (sd sc : Int) : Met l yX2_nearOnes wsX2_nearOnes ({ frames := 0, cells := 0, slots := 0, locals := 0 } : Room) (cPc G [.ref o] (fun H => TP G H o maps hand sd sc (.ref b))) (qA (fun r => r = b)) 0 0 (fun _ => False) := by
  refine Met.ofJ (cc := cX2_nearOnes) (maxL := 1) (ret := (some (.object "TreePairs$Ball"))) (lv0 := [(0, .ref o)]) (by decide) rfl (Nat.le_of_ble_eq_true rfl) rfl ?_
  intro p e s m args below meth c C hr hnm hpre
  have hwX2 : ∀ w ∈ u_ws RX2 TX2 8, w ∈ wsX2_nearOnes := by decide +kernel
  have hT := hpre
  refine j_aload_n C dX2_nearOnes_0 rfl ?_
  refine j_get (T := TX2) (N := 8) (fs := _) (v := .ref b) C hwX2 hT.1 7 (by decide) rfl (index := 198) (ref := "TreePairs") (by decide +kernel) rfl rfl dX2_nearOnes_1 ?_
  refine j_ifnonnull (tgt := 15) C dX2_nearOnes_4 (by decide) ?_
  refine j_aload_n C dX2_nearOnes_15 rfl ?_
  refine j_get (T := TX2) (N := 8) (fs := _) (v := .ref b) C hwX2 hT.1 7 (by decide) rfl (index := 198) (ref := "TreePairs") (by decide +kernel) rfl rfl dX2_nearOnes_16 ?_
  exact j_areti C hr (Or.inl ⟨_, rfl⟩) (Nat.le_refl _) (Nat.le_refl _) rfl dX2_nearOnes_19
set_option maxHeartbeats 8000000 in
theorem c_X2_length0 (l : Launch) (G : Gx) (o h : Nat) (maps : Int → List Q4) (hand : List Q4) (sd sc : Int) (x : Int) : Met l yX2_length wsX2_length ({ frames := 10, cells := 1303, slots := 110000, locals := 242 } : Room) (cPc G [.ref o, .int (zI x)] (fun H => TP G H o maps hand sd sc .null ∧ HZ G o H ∧ H.size = h ∧ iR x ∧ thP maps x ∧ (∀ t : Int, 0 ≤ t → t < 12 → 1 ≤ (maps t).length → VM (maps t)))) (qmI (fun r H => r = (if thP maps x then lenF (maps x) else -101) ∧ TP G H o maps hand sd sc (.ref h) ∧ BF G H h) (fun q : Nat => (o ≤ q ∧ q < o + 82) ∨ h ≤ q)) 1303 110000 (fun q : Nat => (o ≤ q ∧ q < o + 82) ∨ h ≤ q) := by
  refine Met.ofJ (cc := cX2_length) (maxL := 5) (ret := (some .int)) (lv0 := [(0, .ref o), (1, .int (zI x))]) (by decide) rfl (Nat.le_of_ble_eq_true rfl) rfl ?_
  intro p e s m args below meth c C hr hnm hpre
  obtain ⟨hT, hZ, hsz, hx, hth, hV⟩ := hpre
  have hwX0 : ∀ w ∈ u_ws RX0 TX0 2, w ∈ wsX2_length := by decide +kernel
  have hwX2 : ∀ w ∈ u_ws RX2 TX2 8, w ∈ wsX2_length := by decide +kernel
  have hx1 := hx.1
  have hx2 := hx.2
  refine j_aload_n C dX2_length_0 rfl ?_
  refine j_iload_n C dX2_length_1 rfl ?_
  refine j_callI (jrunV (rest := []) (As := [.int (zI x)]) C (c_X2_isThere l G o maps hand sd sc .null x) gX2_length_X2_isThere rfl 1 (by decide +kernel) rfl rfl ⟨Nat.le_of_ble_eq_true rfl, Nat.le_of_ble_eq_true rfl⟩ hT.1 rfl ⟨hT, hx⟩ rfl rfl (Nat.le_of_ble_eq_true rfl) ⟨Nat.le_of_ble_eq_true rfl, Nat.le_of_ble_eq_true rfl⟩ dX2_length_2) (fun r2 h2 => ?_)
  rcases h2 with ⟨h2, rfl⟩ | ⟨h2, rfl⟩
  · skip
    refine j_if_ne (tgt := 11) C dX2_length_5 (by decide) ⟨by decide, by decide⟩ (fun c5 => ?_) (fun c5 => absurd c5 (by decide))
    have hVx := hV x h2.1.1 h2.1.2 h2.2
    refine j_aload_n C dX2_length_11 rfl ?_
    refine j_callmR (jrunV (rest := []) (As := []) C (c_X2_nearOnes0 l G o h maps hand sd sc) gX2_length_X2_nearOnes rfl 0 (by decide +kernel) rfl rfl ⟨Nat.le_of_ble_eq_true rfl, Nat.le_of_ble_eq_true rfl⟩ hT.1 rfl ⟨hT, hZ, hsz⟩ rfl rfl (Nat.le_of_ble_eq_true rfl) ⟨Nat.le_of_ble_eq_true rfl, Nat.le_of_ble_eq_true rfl⟩ dX2_length_12) (fun q hq => hq) (fun r12 H1 h12 hF => ?_)
    obtain ⟨e12, hT, hB⟩ := h12
    rw [e12]
    have hB0 := hB
    obtain ⟨en, eb, er, hQ, hen⟩ := hB
    refine j_astore_n (lv' := [(0, .ref o), (1, .int (zI x)), (2, .ref h)]) C dX2_length_15 (by decide) rfl ?_
    refine j_aload_n C dX2_length_16 rfl ?_
    refine j_aload_n C dX2_length_17 rfl ?_
    refine j_get (T := TX2) (N := 8) (fs := _) (v := .ref (o + 1)) C hwX2 hT.1 0 (by decide) rfl (index := 11) (ref := "TreePairs") (by decide +kernel) rfl rfl dX2_length_18 ?_
    refine j_iload_n C dX2_length_21 rfl ?_
    refine j_aald (a := mpA o x) C hT.2.1 ⟨h2.1.1, by have := h2.1.2; omega⟩ rfl dX2_length_22 ?_
    refine j_callI (jrunV (rest := []) (As := [.ref (mpA o x)]) C (c_X0_placeOf l G h eb er (mpA o x) 24 (ballL 4) en (maps x)) gX2_length_X0_placeOf rfl 1 (by decide +kernel) rfl rfl ⟨Nat.le_of_ble_eq_true rfl, Nat.le_of_ble_eq_true rfl⟩ hQ.1.2.1 rfl ⟨hQ, hT.map h2.1, fun y hy => (ball_VM 4 (by decide) y hy).B46, hVx.B46⟩ rfl rfl (Nat.le_of_ble_eq_true rfl) ⟨Nat.le_of_ble_eq_true rfl, Nat.le_of_ble_eq_true rfl⟩ dX2_length_23) (fun r23 h23 => ?_)
    have hb161 := ball_count.1
    rcases h23 with ⟨h23, hno⟩ | ⟨q0, q1, q2, q3⟩
    · subst h23
      refine j_istore_n (lv' := [(0, .ref o), (1, .int (zI x)), (2, .ref h), (3, .int (zI (-1)))]) C dX2_length_26 (by decide) rfl ?_
      refine j_iload_n C dX2_length_27 rfl ?_
      refine j_if_ge (tgt := 33) C dX2_length_28 (by decide) ⟨by decide, by decide⟩ (fun c28 => absurd c28 (by decide)) (fun c28 => ?_)
      refine j_iconst C dX2_length_31 ?_
      exact j_iret C hr (Nat.le_refl _) (Nat.le_refl _) ⟨by rw [if_pos h2, lenF_no hno], hT, hB0⟩ dX2_length_32
    refine j_istore_n (lv' := [(0, .ref o), (1, .int (zI x)), (2, .ref h), (3, .int (zI r23))]) C dX2_length_26 (by decide) rfl ?_
    refine j_iload_n C dX2_length_27 rfl ?_
    refine j_if_ge (tgt := 33) C dX2_length_28 (by decide) ⟨by omega, by omega⟩ (fun c28 => ?_) (fun c28 => absurd q0 c28)
    refine j_iconst C dX2_length_33 ?_
    refine j_istore (lv' := [(0, .ref o), (1, .int (zI x)), (2, .ref h), (3, .int (zI r23)), (4, .int (zI 0))]) C dX2_length_34 (by decide) rfl ?_
    have K36 : ∀ (fu : Nat) (k : Int), (5 - k).toNat < fu → 0 ≤ k → k ≤ 5 → (∀ j : Int, 0 ≤ j → j < k → ¬ r23 < (firstF (j + 1).toNat : Int)) → JJ p l e ({ frames := 10, cells := 1303, slots := 110000, locals := 242 } : Room) s m args below meth c (MQ below (qmI (fun r H => r = (if thP maps x then lenF (maps x) else -101) ∧ TP G H o maps hand sd sc (.ref h) ∧ BF G H h) (fun q : Nat => (o ≤ q ∧ q < o + 82) ∨ h ≤ q)) args s 1303 110000 (fun q : Nat => (o ≤ q ∧ q < o + 82) ∨ h ≤ q)) (fun q : Nat => (o ≤ q ∧ q < o + 82) ∨ h ≤ q) 5 H1 (0 + 1303) (0 + 110000) 36 [(0, .ref o), (1, .int (zI x)), (2, .ref h), (3, .int (zI r23)), (4, .int (zI k))] [] := by
      intro fu
      induction fu with
      | zero => intro k hm; exact absurd hm (Nat.not_lt_zero _)
      | succ fu ih =>
        intro k hm k0 k5 hnk
        refine j_iload C dX2_length_36 rfl ?_
        refine j_iconst C dX2_length_38 ?_
        refine j_icmp_gt (tgt := 62) C dX2_length_39 (by decide) ⟨by omega, by omega⟩ ⟨by decide, by decide⟩ (fun c39 => absurd q1 (hnk 4 (by decide) (by omega))) (fun c39 => ?_)
        have hf := firstF_161 (n := (k + 1).toNat) (by omega)
        refine j_iload_n C dX2_length_42 rfl ?_
        refine j_aload_n C dX2_length_43 rfl ?_
        refine j_get (T := TX0) (N := 2) (fs := _) (v := .ref eb) C hwX0 hQ.1.2.1 1 (by decide) rfl (index := 103) (ref := "TreePairs$Ball") (by decide +kernel) rfl rfl dX2_length_44 ?_
        refine j_iload C dX2_length_47 rfl ?_
        refine j_iald C hQ.1.2.2 ⟨by omega, by omega⟩ dX2_length_49 ?_
        rw [hen k k0 (by omega)]
        refine j_icmp_ge (tgt := 56) C dX2_length_50 (by decide) ⟨by omega, by omega⟩ ⟨by omega, by omega⟩ (fun c50 => ?_) (fun c50 => ?_)
        · refine j_iinc (lv' := [(0, .ref o), (1, .int (zI x)), (2, .ref h), (3, .int (zI r23)), (4, .int (zI (k + 1)))]) C dX2_length_56 rfl (by decide) rfl ?_
          refine j_goto (tgt := 36) C dX2_length_59 (by decide) ?_
          refine ih (k + 1) (by omega) (by omega) (by omega) (fun j j0 j1 => ?_)
          by_cases ej : j = k
          · subst ej; omega
          · exact hnk j j0 (by omega)
        · refine j_iload C dX2_length_53 rfl ?_
          have hl : lenF (maps x) = k := lenF_of k0 (by omega) (fun j j0 j1 hin => hnk j j0 j1 ((in_iff q0 q1 q2 q3 j0 (by omega)).mpr hin)) ((in_iff q0 q1 q2 q3 k0 (by omega)).mp (by omega))
          exact j_iret C hr (Nat.le_refl _) (Nat.le_refl _) ⟨by rw [if_pos h2, hl], hT, hB0⟩ dX2_length_55
    exact K36 6 0 (by decide) (by decide) (by decide) (fun j j0 j1 => absurd j1 (by omega))
  · exact absurd hth h2
set_option maxHeartbeats 8000000 in
theorem c_X2_length1 (l : Launch) (G : Gx) (o h : Nat) (maps : Int → List Q4) (hand : List Q4) (sd sc : Int) (x : Int) : Met l yX2_length wsX2_length ({ frames := 4, cells := 0, slots := 0, locals := 92 } : Room) (cPc G [.ref o, .int (zI x)] (fun H => TP G H o maps hand sd sc (.ref h) ∧ BF G H h ∧ iR x ∧ (∀ t : Int, 0 ≤ t → t < 12 → 1 ≤ (maps t).length → VM (maps t)))) (qI (fun r => r = (if thP maps x then lenF (maps x) else -101))) 0 0 (fun _ => False) := by
  refine Met.ofJ (cc := cX2_length) (maxL := 5) (ret := (some .int)) (lv0 := [(0, .ref o), (1, .int (zI x))]) (by decide) rfl (Nat.le_of_ble_eq_true rfl) rfl ?_
  intro p e s m args below meth c C hr hnm hpre
  obtain ⟨hT, hB, hx, hV⟩ := hpre
  have hwX0 : ∀ w ∈ u_ws RX0 TX0 2, w ∈ wsX2_length := by decide +kernel
  have hwX2 : ∀ w ∈ u_ws RX2 TX2 8, w ∈ wsX2_length := by decide +kernel
  have hx1 := hx.1
  have hx2 := hx.2
  refine j_aload_n C dX2_length_0 rfl ?_
  refine j_iload_n C dX2_length_1 rfl ?_
  refine j_callI (jrunV (rest := []) (As := [.int (zI x)]) C (c_X2_isThere l G o maps hand sd sc (.ref h) x) gX2_length_X2_isThere rfl 1 (by decide +kernel) rfl rfl ⟨Nat.le_of_ble_eq_true rfl, Nat.le_of_ble_eq_true rfl⟩ hT.1 rfl ⟨hT, hx⟩ rfl rfl (Nat.le_of_ble_eq_true rfl) ⟨Nat.le_of_ble_eq_true rfl, Nat.le_of_ble_eq_true rfl⟩ dX2_length_2) (fun r2 h2 => ?_)
  rcases h2 with ⟨h2, rfl⟩ | ⟨h2, rfl⟩
  · skip
    refine j_if_ne (tgt := 11) C dX2_length_5 (by decide) ⟨by decide, by decide⟩ (fun c5 => ?_) (fun c5 => absurd c5 (by decide))
    have hVx := hV x h2.1.1 h2.1.2 h2.2
    refine j_aload_n C dX2_length_11 rfl ?_
    refine j_callA (jrunV (rest := []) (As := []) C (c_X2_nearOnes1 l G o h maps hand sd sc) gX2_length_X2_nearOnes rfl 0 (by decide +kernel) rfl rfl ⟨Nat.le_of_ble_eq_true rfl, Nat.le_of_ble_eq_true rfl⟩ hT.1 rfl hT rfl rfl (Nat.le_of_ble_eq_true rfl) ⟨Nat.le_of_ble_eq_true rfl, Nat.le_of_ble_eq_true rfl⟩ dX2_length_12) (fun r12 h12 => ?_)
    rw [h12]
    have hB0 := hB
    obtain ⟨en, eb, er, hQ, hen⟩ := hB
    refine j_astore_n (lv' := [(0, .ref o), (1, .int (zI x)), (2, .ref h)]) C dX2_length_15 (by decide) rfl ?_
    refine j_aload_n C dX2_length_16 rfl ?_
    refine j_aload_n C dX2_length_17 rfl ?_
    refine j_get (T := TX2) (N := 8) (fs := _) (v := .ref (o + 1)) C hwX2 hT.1 0 (by decide) rfl (index := 11) (ref := "TreePairs") (by decide +kernel) rfl rfl dX2_length_18 ?_
    refine j_iload_n C dX2_length_21 rfl ?_
    refine j_aald (a := mpA o x) C hT.2.1 ⟨h2.1.1, by have := h2.1.2; omega⟩ rfl dX2_length_22 ?_
    refine j_callI (jrunV (rest := []) (As := [.ref (mpA o x)]) C (c_X0_placeOf l G h eb er (mpA o x) 24 (ballL 4) en (maps x)) gX2_length_X0_placeOf rfl 1 (by decide +kernel) rfl rfl ⟨Nat.le_of_ble_eq_true rfl, Nat.le_of_ble_eq_true rfl⟩ hQ.1.2.1 rfl ⟨hQ, hT.map h2.1, fun y hy => (ball_VM 4 (by decide) y hy).B46, hVx.B46⟩ rfl rfl (Nat.le_of_ble_eq_true rfl) ⟨Nat.le_of_ble_eq_true rfl, Nat.le_of_ble_eq_true rfl⟩ dX2_length_23) (fun r23 h23 => ?_)
    have hb161 := ball_count.1
    rcases h23 with ⟨h23, hno⟩ | ⟨q0, q1, q2, q3⟩
    · subst h23
      refine j_istore_n (lv' := [(0, .ref o), (1, .int (zI x)), (2, .ref h), (3, .int (zI (-1)))]) C dX2_length_26 (by decide) rfl ?_
      refine j_iload_n C dX2_length_27 rfl ?_
      refine j_if_ge (tgt := 33) C dX2_length_28 (by decide) ⟨by decide, by decide⟩ (fun c28 => absurd c28 (by decide)) (fun c28 => ?_)
      refine j_iconst C dX2_length_31 ?_
      exact j_ireti C hr (Nat.zero_le _) (Nat.zero_le _) (by rw [if_pos h2, lenF_no hno]) dX2_length_32
    refine j_istore_n (lv' := [(0, .ref o), (1, .int (zI x)), (2, .ref h), (3, .int (zI r23))]) C dX2_length_26 (by decide) rfl ?_
    refine j_iload_n C dX2_length_27 rfl ?_
    refine j_if_ge (tgt := 33) C dX2_length_28 (by decide) ⟨by omega, by omega⟩ (fun c28 => ?_) (fun c28 => absurd q0 c28)
    refine j_iconst C dX2_length_33 ?_
    refine j_istore (lv' := [(0, .ref o), (1, .int (zI x)), (2, .ref h), (3, .int (zI r23)), (4, .int (zI 0))]) C dX2_length_34 (by decide) rfl ?_
    have K36 : ∀ (fu : Nat) (k : Int), (5 - k).toNat < fu → 0 ≤ k → k ≤ 5 → (∀ j : Int, 0 ≤ j → j < k → ¬ r23 < (firstF (j + 1).toNat : Int)) → JJ p l e ({ frames := 4, cells := 0, slots := 0, locals := 92 } : Room) s m args below meth c (MQ below (qI (fun r => r = (if thP maps x then lenF (maps x) else -101))) args s 0 0 (fun _ => False)) (fun _ => False) 5 s.heap 0 0 36 [(0, .ref o), (1, .int (zI x)), (2, .ref h), (3, .int (zI r23)), (4, .int (zI k))] [] := by
      intro fu
      induction fu with
      | zero => intro k hm; exact absurd hm (Nat.not_lt_zero _)
      | succ fu ih =>
        intro k hm k0 k5 hnk
        refine j_iload C dX2_length_36 rfl ?_
        refine j_iconst C dX2_length_38 ?_
        refine j_icmp_gt (tgt := 62) C dX2_length_39 (by decide) ⟨by omega, by omega⟩ ⟨by decide, by decide⟩ (fun c39 => absurd q1 (hnk 4 (by decide) (by omega))) (fun c39 => ?_)
        have hf := firstF_161 (n := (k + 1).toNat) (by omega)
        refine j_iload_n C dX2_length_42 rfl ?_
        refine j_aload_n C dX2_length_43 rfl ?_
        refine j_get (T := TX0) (N := 2) (fs := _) (v := .ref eb) C hwX0 hQ.1.2.1 1 (by decide) rfl (index := 103) (ref := "TreePairs$Ball") (by decide +kernel) rfl rfl dX2_length_44 ?_
        refine j_iload C dX2_length_47 rfl ?_
        refine j_iald C hQ.1.2.2 ⟨by omega, by omega⟩ dX2_length_49 ?_
        rw [hen k k0 (by omega)]
        refine j_icmp_ge (tgt := 56) C dX2_length_50 (by decide) ⟨by omega, by omega⟩ ⟨by omega, by omega⟩ (fun c50 => ?_) (fun c50 => ?_)
        · refine j_iinc (lv' := [(0, .ref o), (1, .int (zI x)), (2, .ref h), (3, .int (zI r23)), (4, .int (zI (k + 1)))]) C dX2_length_56 rfl (by decide) rfl ?_
          refine j_goto (tgt := 36) C dX2_length_59 (by decide) ?_
          refine ih (k + 1) (by omega) (by omega) (by omega) (fun j j0 j1 => ?_)
          by_cases ej : j = k
          · subst ej; omega
          · exact hnk j j0 (by omega)
        · refine j_iload C dX2_length_53 rfl ?_
          have hl : lenF (maps x) = k := lenF_of k0 (by omega) (fun j j0 j1 hin => hnk j j0 j1 ((in_iff q0 q1 q2 q3 j0 (by omega)).mpr hin)) ((in_iff q0 q1 q2 q3 k0 (by omega)).mp (by omega))
          exact j_ireti C hr (Nat.zero_le _) (Nat.zero_le _) (by rw [if_pos h2, hl]) dX2_length_55
    exact K36 6 0 (by decide) (by decide) (by decide) (fun j j0 j1 => absurd j1 (by omega))
  · skip
    refine j_if_ne (tgt := 11) C dX2_length_5 (by decide) ⟨by decide, by decide⟩ (fun c5 => absurd rfl c5) (fun c5 => ?_)
    refine j_bipush C dX2_length_8 (by decide) ?_
    exact j_ireti C hr (Nat.zero_le _) (Nat.zero_le _) (by rw [if_neg h2]) dX2_length_10
set_option maxHeartbeats 8000000 in
theorem c_X2_lengthN (l : Launch) (G : Gx) (o : Nat) (maps : Int → List Q4) (hand : List Q4) (sd sc : Int) (near : Value) (x : Int) : Met l yX2_length wsX2_length ({ frames := 4, cells := 0, slots := 0, locals := 92 } : Room) (cPc G [.ref o, .int (zI x)] (fun H => TP G H o maps hand sd sc near ∧ iR x ∧ ¬ (thP maps x))) (qI (fun r => r = (if thP maps x then lenF (maps x) else -101))) 0 0 (fun _ => False) := by
  refine Met.ofJ (cc := cX2_length) (maxL := 5) (ret := (some .int)) (lv0 := [(0, .ref o), (1, .int (zI x))]) (by decide) rfl (Nat.le_of_ble_eq_true rfl) rfl ?_
  intro p e s m args below meth c C hr hnm hpre
  obtain ⟨hT, hx, hth⟩ := hpre
  have hwX2 : ∀ w ∈ u_ws RX2 TX2 8, w ∈ wsX2_length := by decide +kernel
  have hx1 := hx.1
  have hx2 := hx.2
  refine j_aload_n C dX2_length_0 rfl ?_
  refine j_iload_n C dX2_length_1 rfl ?_
  refine j_callI (jrunV (rest := []) (As := [.int (zI x)]) C (c_X2_isThere l G o maps hand sd sc near x) gX2_length_X2_isThere rfl 1 (by decide +kernel) rfl rfl ⟨Nat.le_of_ble_eq_true rfl, Nat.le_of_ble_eq_true rfl⟩ hT.1 rfl ⟨hT, hx⟩ rfl rfl (Nat.le_of_ble_eq_true rfl) ⟨Nat.le_of_ble_eq_true rfl, Nat.le_of_ble_eq_true rfl⟩ dX2_length_2) (fun r2 h2 => ?_)
  rcases h2 with ⟨h2, rfl⟩ | ⟨h2, rfl⟩
  · exact absurd h2 hth
  · skip
    refine j_if_ne (tgt := 11) C dX2_length_5 (by decide) ⟨by decide, by decide⟩ (fun c5 => absurd rfl c5) (fun c5 => ?_)
    refine j_bipush C dX2_length_8 (by decide) ?_
    exact j_ireti C hr (Nat.zero_le _) (Nat.zero_le _) (by rw [if_neg h2]) dX2_length_10
set_option maxHeartbeats 8000000 in
theorem c_X2_ball0 (l : Launch) (G : Gx) (o h : Nat) (maps : Int → List Q4) (hand : List Q4) (sd sc : Int) (x : Int) : Met l yX2_ball wsX2_ball ({ frames := 10, cells := 1303, slots := 110000, locals := 242 } : Room) (cPc G [.ref o, .int (zI x)] (fun H => TP G H o maps hand sd sc .null ∧ HZ G o H ∧ H.size = h ∧ iR x ∧ 0 ≤ x ∧ x ≤ 4)) (qmI (fun r H => r = (if 0 ≤ x ∧ x ≤ 4 then (firstF (x + 1).toNat : Int) - firstF x.toNat else -102) ∧ TP G H o maps hand sd sc (.ref h) ∧ BF G H h) (fun q : Nat => (o ≤ q ∧ q < o + 82) ∨ h ≤ q)) 1303 110000 (fun q : Nat => (o ≤ q ∧ q < o + 82) ∨ h ≤ q) := by
  refine Met.ofJ (cc := cX2_ball) (maxL := 3) (ret := (some .int)) (lv0 := [(0, .ref o), (1, .int (zI x))]) (by decide) rfl (Nat.le_of_ble_eq_true rfl) rfl ?_
  intro p e s m args below meth c C hr hnm hpre
  obtain ⟨hT, hZ, hsz, hx, hth⟩ := hpre
  have hwX0 : ∀ w ∈ u_ws RX0 TX0 2, w ∈ wsX2_ball := by decide +kernel
  have hwX2 : ∀ w ∈ u_ws RX2 TX2 8, w ∈ wsX2_ball := by decide +kernel
  have hx1 := hx.1
  have hx2 := hx.2
  refine j_iload_n C dX2_ball_0 rfl ?_
  refine j_if_lt (tgt := 9) C dX2_ball_1 (by decide) ⟨by omega, by omega⟩ (fun c1 => ?_) (fun c1 => ?_)
  · skip
    exact absurd hth (by omega)
  refine j_iload_n C dX2_ball_4 rfl ?_
  refine j_iconst C dX2_ball_5 ?_
  refine j_icmp_le (tgt := 12) C dX2_ball_6 (by decide) ⟨by omega, by omega⟩ ⟨by decide, by decide⟩ (fun c6 => ?_) (fun c6 => ?_)
  · skip
    refine j_aload_n C dX2_ball_12 rfl ?_
    refine j_callmR (jrunV (rest := []) (As := []) C (c_X2_nearOnes0 l G o h maps hand sd sc) gX2_ball_X2_nearOnes rfl 0 (by decide +kernel) rfl rfl ⟨Nat.le_of_ble_eq_true rfl, Nat.le_of_ble_eq_true rfl⟩ hT.1 rfl ⟨hT, hZ, hsz⟩ rfl rfl (Nat.le_of_ble_eq_true rfl) ⟨Nat.le_of_ble_eq_true rfl, Nat.le_of_ble_eq_true rfl⟩ dX2_ball_13) (fun q hq => hq) (fun r13 H1 h13 hF => ?_)
    obtain ⟨e13, hT, hB⟩ := h13
    rw [e13]
    have hB0 := hB
    obtain ⟨en, eb, er, hQ, hen⟩ := hB
    refine j_astore_n (lv' := [(0, .ref o), (1, .int (zI x)), (2, .ref h)]) C dX2_ball_16 (by decide) rfl ?_
    refine j_iload_n C dX2_ball_17 rfl ?_
    refine j_if_ne (tgt := 30) C dX2_ball_18 (by decide) ⟨by omega, by omega⟩ (fun c18 => ?_) (fun c18 => ?_)
    · skip
      refine j_aload_n C dX2_ball_30 rfl ?_
      refine j_get (T := TX0) (N := 2) (fs := _) (v := .ref eb) C hwX0 hQ.1.2.1 1 (by decide) rfl (index := 103) (ref := "TreePairs$Ball") (by decide +kernel) rfl rfl dX2_ball_31 ?_
      refine j_iload_n C dX2_ball_34 rfl ?_
      refine j_iald C hQ.1.2.2 ⟨by omega, by omega⟩ dX2_ball_35 ?_
      refine j_aload_n C dX2_ball_36 rfl ?_
      refine j_get (T := TX0) (N := 2) (fs := _) (v := .ref eb) C hwX0 hQ.1.2.1 1 (by decide) rfl (index := 103) (ref := "TreePairs$Ball") (by decide +kernel) rfl rfl dX2_ball_37 ?_
      refine j_iload_n C dX2_ball_40 rfl ?_
      refine j_iconst C dX2_ball_41 ?_
      refine j_isub C dX2_ball_42 ?_
      refine j_iald C hQ.1.2.2 ⟨by omega, by omega⟩ dX2_ball_43 ?_
      refine j_isub C dX2_ball_44 ?_
      exact j_iret C hr (Nat.le_refl _) (Nat.le_refl _) ⟨by rw [if_pos ⟨by omega, by omega⟩, hen x (by omega) (by omega), hen (x - 1) (by omega) (by omega), show x - 1 + 1 = x by omega], hT, hB0⟩ dX2_ball_45
    · skip
      refine j_aload_n C dX2_ball_21 rfl ?_
      refine j_get (T := TX0) (N := 2) (fs := _) (v := .ref eb) C hwX0 hQ.1.2.1 1 (by decide) rfl (index := 103) (ref := "TreePairs$Ball") (by decide +kernel) rfl rfl dX2_ball_22 ?_
      refine j_iconst C dX2_ball_25 ?_
      refine j_iald C hQ.1.2.2 ⟨by decide, by decide⟩ dX2_ball_26 ?_
      refine j_goto (tgt := 45) C dX2_ball_27 (by decide) ?_
      exact j_iret C hr (Nat.le_refl _) (Nat.le_refl _) ⟨by rw [if_pos ⟨by omega, by omega⟩, hen 0 (by decide) (by decide), c18]; show (_ : Int) = _ - ((0 : Nat) : Int); omega, hT, hB0⟩ dX2_ball_45
  · skip
    exact absurd hth (by omega)
set_option maxHeartbeats 8000000 in
theorem c_X2_ball1 (l : Launch) (G : Gx) (o h : Nat) (maps : Int → List Q4) (hand : List Q4) (sd sc : Int) (x : Int) : Met l yX2_ball wsX2_ball ({ frames := 1, cells := 0, slots := 0, locals := 20 } : Room) (cPc G [.ref o, .int (zI x)] (fun H => TP G H o maps hand sd sc (.ref h) ∧ BF G H h ∧ iR x)) (qI (fun r => r = (if 0 ≤ x ∧ x ≤ 4 then (firstF (x + 1).toNat : Int) - firstF x.toNat else -102))) 0 0 (fun _ => False) := by
  refine Met.ofJ (cc := cX2_ball) (maxL := 3) (ret := (some .int)) (lv0 := [(0, .ref o), (1, .int (zI x))]) (by decide) rfl (Nat.le_of_ble_eq_true rfl) rfl ?_
  intro p e s m args below meth c C hr hnm hpre
  obtain ⟨hT, hB, hx⟩ := hpre
  have hwX0 : ∀ w ∈ u_ws RX0 TX0 2, w ∈ wsX2_ball := by decide +kernel
  have hwX2 : ∀ w ∈ u_ws RX2 TX2 8, w ∈ wsX2_ball := by decide +kernel
  have hx1 := hx.1
  have hx2 := hx.2
  refine j_iload_n C dX2_ball_0 rfl ?_
  refine j_if_lt (tgt := 9) C dX2_ball_1 (by decide) ⟨by omega, by omega⟩ (fun c1 => ?_) (fun c1 => ?_)
  · skip
    refine j_bipush C dX2_ball_9 (by decide) ?_
    exact j_ireti C hr (Nat.zero_le _) (Nat.zero_le _) (by rw [if_neg (by omega)]) dX2_ball_11
  refine j_iload_n C dX2_ball_4 rfl ?_
  refine j_iconst C dX2_ball_5 ?_
  refine j_icmp_le (tgt := 12) C dX2_ball_6 (by decide) ⟨by omega, by omega⟩ ⟨by decide, by decide⟩ (fun c6 => ?_) (fun c6 => ?_)
  · skip
    refine j_aload_n C dX2_ball_12 rfl ?_
    refine j_callA (jrunV (rest := []) (As := []) C (c_X2_nearOnes1 l G o h maps hand sd sc) gX2_ball_X2_nearOnes rfl 0 (by decide +kernel) rfl rfl ⟨Nat.le_of_ble_eq_true rfl, Nat.le_of_ble_eq_true rfl⟩ hT.1 rfl hT rfl rfl (Nat.le_of_ble_eq_true rfl) ⟨Nat.le_of_ble_eq_true rfl, Nat.le_of_ble_eq_true rfl⟩ dX2_ball_13) (fun r13 h13 => ?_)
    rw [h13]
    have hB0 := hB
    obtain ⟨en, eb, er, hQ, hen⟩ := hB
    refine j_astore_n (lv' := [(0, .ref o), (1, .int (zI x)), (2, .ref h)]) C dX2_ball_16 (by decide) rfl ?_
    refine j_iload_n C dX2_ball_17 rfl ?_
    refine j_if_ne (tgt := 30) C dX2_ball_18 (by decide) ⟨by omega, by omega⟩ (fun c18 => ?_) (fun c18 => ?_)
    · skip
      refine j_aload_n C dX2_ball_30 rfl ?_
      refine j_get (T := TX0) (N := 2) (fs := _) (v := .ref eb) C hwX0 hQ.1.2.1 1 (by decide) rfl (index := 103) (ref := "TreePairs$Ball") (by decide +kernel) rfl rfl dX2_ball_31 ?_
      refine j_iload_n C dX2_ball_34 rfl ?_
      refine j_iald C hQ.1.2.2 ⟨by omega, by omega⟩ dX2_ball_35 ?_
      refine j_aload_n C dX2_ball_36 rfl ?_
      refine j_get (T := TX0) (N := 2) (fs := _) (v := .ref eb) C hwX0 hQ.1.2.1 1 (by decide) rfl (index := 103) (ref := "TreePairs$Ball") (by decide +kernel) rfl rfl dX2_ball_37 ?_
      refine j_iload_n C dX2_ball_40 rfl ?_
      refine j_iconst C dX2_ball_41 ?_
      refine j_isub C dX2_ball_42 ?_
      refine j_iald C hQ.1.2.2 ⟨by omega, by omega⟩ dX2_ball_43 ?_
      refine j_isub C dX2_ball_44 ?_
      exact j_ireti C hr (Nat.zero_le _) (Nat.zero_le _) (by rw [if_pos ⟨by omega, by omega⟩, hen x (by omega) (by omega), hen (x - 1) (by omega) (by omega), show x - 1 + 1 = x by omega]) dX2_ball_45
    · skip
      refine j_aload_n C dX2_ball_21 rfl ?_
      refine j_get (T := TX0) (N := 2) (fs := _) (v := .ref eb) C hwX0 hQ.1.2.1 1 (by decide) rfl (index := 103) (ref := "TreePairs$Ball") (by decide +kernel) rfl rfl dX2_ball_22 ?_
      refine j_iconst C dX2_ball_25 ?_
      refine j_iald C hQ.1.2.2 ⟨by decide, by decide⟩ dX2_ball_26 ?_
      refine j_goto (tgt := 45) C dX2_ball_27 (by decide) ?_
      exact j_ireti C hr (Nat.zero_le _) (Nat.zero_le _) (by rw [if_pos ⟨by omega, by omega⟩, hen 0 (by decide) (by decide), c18]; show (_ : Int) = _ - ((0 : Nat) : Int); omega) dX2_ball_45
  · skip
    refine j_bipush C dX2_ball_9 (by decide) ?_
    exact j_ireti C hr (Nat.zero_le _) (Nat.zero_le _) (by rw [if_neg (by omega)]) dX2_ball_11
set_option maxHeartbeats 8000000 in
theorem c_X2_ballN (l : Launch) (G : Gx) (o : Nat) (maps : Int → List Q4) (hand : List Q4) (sd sc : Int) (near : Value) (x : Int) : Met l yX2_ball wsX2_ball ({ frames := 1, cells := 0, slots := 0, locals := 20 } : Room) (cPc G [.ref o, .int (zI x)] (fun H => TP G H o maps hand sd sc near ∧ iR x ∧ ¬ (0 ≤ x ∧ x ≤ 4))) (qI (fun r => r = (if 0 ≤ x ∧ x ≤ 4 then (firstF (x + 1).toNat : Int) - firstF x.toNat else -102))) 0 0 (fun _ => False) := by
  refine Met.ofJ (cc := cX2_ball) (maxL := 3) (ret := (some .int)) (lv0 := [(0, .ref o), (1, .int (zI x))]) (by decide) rfl (Nat.le_of_ble_eq_true rfl) rfl ?_
  intro p e s m args below meth c C hr hnm hpre
  obtain ⟨hT, hx, hth⟩ := hpre
  have hwX2 : ∀ w ∈ u_ws RX2 TX2 8, w ∈ wsX2_ball := by decide +kernel
  have hx1 := hx.1
  have hx2 := hx.2
  refine j_iload_n C dX2_ball_0 rfl ?_
  refine j_if_lt (tgt := 9) C dX2_ball_1 (by decide) ⟨by omega, by omega⟩ (fun c1 => ?_) (fun c1 => ?_)
  · skip
    refine j_bipush C dX2_ball_9 (by decide) ?_
    exact j_ireti C hr (Nat.zero_le _) (Nat.zero_le _) (by rw [if_neg (by omega)]) dX2_ball_11
  refine j_iload_n C dX2_ball_4 rfl ?_
  refine j_iconst C dX2_ball_5 ?_
  refine j_icmp_le (tgt := 12) C dX2_ball_6 (by decide) ⟨by omega, by omega⟩ ⟨by decide, by decide⟩ (fun c6 => ?_) (fun c6 => ?_)
  · exact absurd ⟨by omega, by omega⟩ hth
  · skip
    refine j_bipush C dX2_ball_9 (by decide) ?_
    exact j_ireti C hr (Nat.zero_le _) (Nat.zero_le _) (by rw [if_neg (by omega)]) dX2_ball_11
