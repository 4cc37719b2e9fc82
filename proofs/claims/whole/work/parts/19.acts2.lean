set_option maxHeartbeats 4000000 in
set_option maxRecDepth 100000 in
/-- X2_isRaised -/
theorem c_X2_isRaised (l : Launch) (G : Gx) (o : Nat) (maps : Int → List Q4) (hand : List Q4) (sd sc : Int) (near : Value) (ab capb : Nat) (B : List Q4) (k : Int) : Met l yX2_isRaised wsX2_isRaised ({ frames := 5, cells := 0, slots := 0, locals := 127 } : Room) (cPc G [.ref o, .ref ab, .int (zI k)] (fun H => TP G H o maps hand sd sc near ∧ PL G H ab capb B ∧ VM B ∧ capb ≤ 48 ∧ ab + 5 ≤ o + 67 ∧ (-12 ≤ k ∧ k ≤ 12))) (qmI (fun r H => ((∃ R, powF (if k < 0 then turnF B else B) k.natAbs = some R ∧ PL G H (o + 72) 48 R ∧ TP G H o maps hand sd sc near) ∧ r = 1) ∨ ((powF (if k < 0 then turnF B else B) k.natAbs = none ∧ TP G H o maps hand sd sc near) ∧ r = 0)) (fun q : Nat => o + 67 ≤ q ∧ q < o + 82)) 0 0 (fun q : Nat => o + 67 ≤ q ∧ q < o + 82) := by
  refine Met.ofJ (cc := cX2_isRaised) (maxL := 6) (ret := (some .boolean)) (lv0 := [(0, .ref o), (1, .ref ab), (2, .int (zI k))]) (by decide) rfl (Nat.le_of_ble_eq_true rfl) rfl ?_
  intro p e s m args below meth c C hr hnm hpre
  obtain ⟨hT, hB, hVB, hcb, hsep, hk⟩ := hpre
  have hwX2 : ∀ w ∈ u_ws RX2 TX2 8, w ∈ wsX2_isRaised := by decide +kernel
  refine j_aload_n C dX2_isRaised_0 rfl ?_
  refine j_astore_n (lv' := [(0, .ref o), (1, .ref ab), (2, .int (zI k)), (3, .ref ab)]) C dX2_isRaised_1 (by decide) rfl ?_
  refine j_iload_n C dX2_isRaised_2 rfl ?_
  refine j_if_ge (tgt := 19) C dX2_isRaised_3 (by decide) ⟨by omega, by omega⟩ (fun c3 => ?_) (fun c3 => ?_)
  · skip
    have hbs : (if k < 0 then turnF B else B) = B := if_neg (by omega)
    refine j_aload_n C dX2_isRaised_19 rfl ?_
    refine j_get (T := TX2) (N := 8) (fs := _) (v := .ref (o + 72)) C hwX2 hT.1 5 (by decide) rfl (index := 25) (ref := "TreePairs") (by decide +kernel) rfl rfl dX2_isRaised_20 ?_
    obtain ⟨Lr, hLr⟩ := hT.2.2.2.2.2.1
    refine j_callmV (jrunV (rest := []) (As := []) C (c_X1_becomeNothing l G (o + 72) 48 Lr) gX2_isRaised_X1_becomeNothing rfl 0 (by decide +kernel) rfl rfl ⟨Nat.le_of_ble_eq_true rfl, Nat.le_of_ble_eq_true rfl⟩ hLr.ob rfl ⟨hLr, by decide⟩ rfl rfl (Nat.le_of_ble_eq_true rfl) ⟨Nat.le_of_ble_eq_true rfl, Nat.le_of_ble_eq_true rfl⟩ dX2_isRaised_23) (fun q hq => by obtain ⟨h1, h2⟩ := hq; exact ⟨by omega, by omega⟩) (fun H1 h23 hF => ?_)
    have hB := hB.frm hF (by intro q h1 h2 h3; (try dsimp only at h3); omega)
    have hR := h23
    have hT := hT.setraised h23 hF
    refine j_iload_n C dX2_isRaised_26 rfl ?_
    refine j_iabs C (index := 193) (by decide +kernel) (by decide +kernel) (by decide +kernel) (by decide +kernel) (Nat.le_of_ble_eq_true rfl) (Nat.le_of_ble_eq_true rfl) (Nat.le_of_ble_eq_true rfl) (Nat.le_of_ble_eq_true rfl) ⟨by omega, by omega⟩ dX2_isRaised_27 ?_
    refine j_istore (lv' := [(0, .ref o), (1, .ref ab), (2, .int (zI k)), (3, .ref ab), (4, .int (zI (if 0 ≤ k then k else -k)))]) C dX2_isRaised_30 (by decide) rfl ?_
    refine j_iconst C dX2_isRaised_32 ?_
    refine j_istore (lv' := [(0, .ref o), (1, .ref ab), (2, .int (zI k)), (3, .ref ab), (4, .int (zI (if 0 ≤ k then k else -k))), (5, .int (zI 0))]) C dX2_isRaised_33 (by decide) rfl ?_
    have K35 : ∀ (fu35 : Nat) (n tm : Int) (ab2 capb2 : Nat) (B2 R2 : List Q4) (Hl1 : Heap), (tm - n).toNat < fu35 → TP G Hl1 o maps hand sd sc near → PL G Hl1 (o + 72) 48 R2 → PL G Hl1 ab2 capb2 B2 → 0 ≤ n ∧ n ≤ tm → tm = (k.natAbs : Int) → (if k < 0 then turnF B else B) = B2 → VM B2 → VM R2 → capb2 ≤ 48 → (ab2 + 5 ≤ o + 67 ∨ o + 77 ≤ ab2) → powF B2 n.toNat = some R2 → JJ p l e ({ frames := 5, cells := 0, slots := 0, locals := 127 } : Room) s m args below meth c (MQ below (qmI (fun r H => ((∃ R, powF (if k < 0 then turnF B else B) k.natAbs = some R ∧ PL G H (o + 72) 48 R ∧ TP G H o maps hand sd sc near) ∧ r = 1) ∨ ((powF (if k < 0 then turnF B else B) k.natAbs = none ∧ TP G H o maps hand sd sc near) ∧ r = 0)) (fun q : Nat => o + 67 ≤ q ∧ q < o + 82)) args s 0 0 (fun q : Nat => o + 67 ≤ q ∧ q < o + 82)) (fun q : Nat => o + 67 ≤ q ∧ q < o + 82) 6 Hl1 0 0 35 [(0, .ref o), (3, .ref ab2), (4, .int (zI tm)), (5, .int (zI n))] [] := by
      intro fu35
      induction fu35 with
      | zero => intro n tm ab2 capb2 B2 R2 Hl1 hm35 hT hR hB hn htm hB2 hVB hVR hcb hsep hp; exact absurd hm35 (Nat.not_lt_zero _)
      | succ fu35 ih35 =>
        intro n tm ab2 capb2 B2 R2 Hl1 hm35 hT hR hB hn htm hB2 hVB hVR hcb hsep hp
        refine j_iload C dX2_isRaised_35 rfl ?_
        refine j_iload C dX2_isRaised_37 rfl ?_
        refine j_icmp_ge (tgt := 58) C dX2_isRaised_39 (by decide) ⟨by omega, by omega⟩ ⟨by omega, by omega⟩ (fun c39 => ?_) (fun c39 => ?_)
        · skip
          refine j_iconst C dX2_isRaised_58 ?_
          exact j_zret C hr (Nat.le_refl _) (Nat.zero_le _) (Or.inr rfl) (Or.inl ⟨⟨R2, by rw [hB2, show k.natAbs = n.toNat by omega]; exact hp, hR, hT⟩, rfl⟩) dX2_isRaised_59
        · skip
          refine j_aload_n C dX2_isRaised_42 rfl ?_
          refine j_aload_n C dX2_isRaised_43 rfl ?_
          refine j_callmI (jrunV (rest := []) (As := [.ref ab2]) C (c_X2_isOneMore l G o maps hand sd sc near ab2 capb2 R2 B2) gX2_isRaised_X2_isOneMore rfl 1 (by decide +kernel) rfl rfl ⟨Nat.le_of_ble_eq_true rfl, Nat.le_of_ble_eq_true rfl⟩ hT.1 rfl ⟨hT, hR, hB, hVR, hVB, hcb, hsep⟩ rfl rfl (Nat.le_of_ble_eq_true rfl) ⟨Nat.le_of_ble_eq_true rfl, Nat.le_of_ble_eq_true rfl⟩ dX2_isRaised_44) (fun q hq => by obtain ⟨h1, h2⟩ := hq; exact ⟨by omega, by omega⟩) (fun r44 H2 h44 hF => ?_)
          have hB := hB.frm hF (by intro q h1 h2 h3; (try dsimp only at h3); omega)
          rcases h44 with ⟨⟨h44, hR, hT⟩, rfl⟩ | ⟨⟨h44, hT⟩, rfl⟩
          · skip
            refine j_if_ne (tgt := 52) C dX2_isRaised_47 (by decide) ⟨by decide, by decide⟩ (fun c47 => ?_) (fun c47 => absurd c47 (by decide))
            refine j_iinc (lv' := [(0, .ref o), (3, .ref ab2), (4, .int (zI tm)), (5, .int (zI (n + 1)))]) C dX2_isRaised_52 rfl (by decide) rfl ?_
            refine j_goto (tgt := 35) C dX2_isRaised_55 (by decide) ?_
            exact JJ.drop (lv' := [(0, .ref o), (3, .ref ab2), (4, .int (zI tm)), (5, .int (zI (n + 1)))]) rfl (ih35 (n + 1) tm ab2 capb2 B2 (compF R2 B2) H2 (by omega) hT hR hB ⟨by omega, by omega⟩ htm hB2 hVB (VM.comp hVR hVB h44) hcb hsep (by rw [powF_s hn.1 hp, if_pos h44]))
          · skip
            refine j_if_ne (tgt := 52) C dX2_isRaised_47 (by decide) ⟨by decide, by decide⟩ (fun c47 => absurd c47 (by decide)) (fun c47 => ?_)
            refine j_iconst C dX2_isRaised_50 ?_
            exact j_zret C hr (Nat.le_refl _) (Nat.zero_le _) (Or.inl rfl) (Or.inr ⟨⟨by rw [hB2]; have hz := powF_none (B := B2) (n := (n + 1).toNat) (by rw [powF_s hn.1 hp, if_neg h44]) (k.natAbs - (n + 1).toNat); rw [show (n + 1).toNat + (k.natAbs - (n + 1).toNat) = k.natAbs by omega] at hz; exact hz, hT⟩, rfl⟩) dX2_isRaised_51
    exact JJ.drop (lv' := [(0, .ref o), (3, .ref ab), (4, .int (zI (if 0 ≤ k then k else -k))), (5, .int (zI 0))]) rfl (K35 ((((if 0 ≤ k then k else -k) - (0 : Int)).toNat) + 1) 0 (if 0 ≤ k then k else -k) ab capb B ([(0, 0, 0, 0)]) H1 (Nat.lt_succ_self _) hT hR hB ⟨by omega, by split <;> omega⟩ (by split <;> omega) hbs hVB VM.nothing hcb (by omega) rfl)
  · skip
    refine j_aload_n C dX2_isRaised_6 rfl ?_
    refine j_aload_n C dX2_isRaised_7 rfl ?_
    refine j_get (T := TX2) (N := 8) (fs := _) (v := .ref (o + 77)) C hwX2 hT.1 6 (by decide) rfl (index := 28) (ref := "TreePairs") (by decide +kernel) rfl rfl dX2_isRaised_8 ?_
    obtain ⟨Lm, hLm⟩ := hT.2.2.2.2.2.2
    have hln := hVB.len
    refine j_callmV (jrunS (rest := []) (As := [.ref ab, .ref (o + 77)]) C (c_X2_putTurned l G ab capb (o + 77) 48 B Lm) gX2_isRaised_X2_putTurned rfl 2 (by decide +kernel) rfl rfl ⟨Nat.le_of_ble_eq_true rfl, Nat.le_of_ble_eq_true rfl⟩ ⟨hB, hLm, by omega, by omega, hVB.B, by decide⟩ rfl rfl (Nat.le_of_ble_eq_true rfl) ⟨Nat.le_of_ble_eq_true rfl, Nat.le_of_ble_eq_true rfl⟩ dX2_isRaised_11) (fun q hq => by obtain ⟨h1, h2⟩ := hq; exact ⟨by omega, by omega⟩) (fun H3 h11 hF => ?_)
    have hB := hB.frm hF (by intro q h1 h2 h3; (try dsimp only at h3); omega)
    have hB := h11
    have hT := hT.setturned h11 hF
    have hVB := hVB.turn
    have hbs : (if k < 0 then turnF B else B) = turnF B := if_pos (by omega)
    have hcb : 48 ≤ 48 := Nat.le_refl _
    have hsep : o + 77 + 5 ≤ o + 67 ∨ o + 77 ≤ o + 77 := Or.inr (Nat.le_refl _)
    refine j_aload_n C dX2_isRaised_14 rfl ?_
    refine j_get (T := TX2) (N := 8) (fs := _) (v := .ref (o + 77)) C hwX2 hT.1 6 (by decide) rfl (index := 28) (ref := "TreePairs") (by decide +kernel) rfl rfl dX2_isRaised_15 ?_
    refine j_astore_n (lv' := [(0, .ref o), (1, .ref ab), (2, .int (zI k)), (3, .ref (o + 77))]) C dX2_isRaised_18 (by decide) rfl ?_
    refine j_aload_n C dX2_isRaised_19 rfl ?_
    refine j_get (T := TX2) (N := 8) (fs := _) (v := .ref (o + 72)) C hwX2 hT.1 5 (by decide) rfl (index := 25) (ref := "TreePairs") (by decide +kernel) rfl rfl dX2_isRaised_20 ?_
    obtain ⟨Lr, hLr⟩ := hT.2.2.2.2.2.1
    refine j_callmV (jrunV (rest := []) (As := []) C (c_X1_becomeNothing l G (o + 72) 48 Lr) gX2_isRaised_X1_becomeNothing rfl 0 (by decide +kernel) rfl rfl ⟨Nat.le_of_ble_eq_true rfl, Nat.le_of_ble_eq_true rfl⟩ hLr.ob rfl ⟨hLr, by decide⟩ rfl rfl (Nat.le_of_ble_eq_true rfl) ⟨Nat.le_of_ble_eq_true rfl, Nat.le_of_ble_eq_true rfl⟩ dX2_isRaised_23) (fun q hq => by obtain ⟨h1, h2⟩ := hq; exact ⟨by omega, by omega⟩) (fun H4 h23 hF => ?_)
    have hB := hB.frm hF (by intro q h1 h2 h3; (try dsimp only at h3); omega)
    have hR := h23
    have hT := hT.setraised h23 hF
    refine j_iload_n C dX2_isRaised_26 rfl ?_
    refine j_iabs C (index := 193) (by decide +kernel) (by decide +kernel) (by decide +kernel) (by decide +kernel) (Nat.le_of_ble_eq_true rfl) (Nat.le_of_ble_eq_true rfl) (Nat.le_of_ble_eq_true rfl) (Nat.le_of_ble_eq_true rfl) ⟨by omega, by omega⟩ dX2_isRaised_27 ?_
    refine j_istore (lv' := [(0, .ref o), (1, .ref ab), (2, .int (zI k)), (3, .ref (o + 77)), (4, .int (zI (if 0 ≤ k then k else -k)))]) C dX2_isRaised_30 (by decide) rfl ?_
    refine j_iconst C dX2_isRaised_32 ?_
    refine j_istore (lv' := [(0, .ref o), (1, .ref ab), (2, .int (zI k)), (3, .ref (o + 77)), (4, .int (zI (if 0 ≤ k then k else -k))), (5, .int (zI 0))]) C dX2_isRaised_33 (by decide) rfl ?_
    have K35 : ∀ (fu35 : Nat) (n tm : Int) (ab2 capb2 : Nat) (B2 R2 : List Q4) (Hl2 : Heap), (tm - n).toNat < fu35 → TP G Hl2 o maps hand sd sc near → PL G Hl2 (o + 72) 48 R2 → PL G Hl2 ab2 capb2 B2 → 0 ≤ n ∧ n ≤ tm → tm = (k.natAbs : Int) → (if k < 0 then turnF B else B) = B2 → VM B2 → VM R2 → capb2 ≤ 48 → (ab2 + 5 ≤ o + 67 ∨ o + 77 ≤ ab2) → powF B2 n.toNat = some R2 → JJ p l e ({ frames := 5, cells := 0, slots := 0, locals := 127 } : Room) s m args below meth c (MQ below (qmI (fun r H => ((∃ R, powF (if k < 0 then turnF B else B) k.natAbs = some R ∧ PL G H (o + 72) 48 R ∧ TP G H o maps hand sd sc near) ∧ r = 1) ∨ ((powF (if k < 0 then turnF B else B) k.natAbs = none ∧ TP G H o maps hand sd sc near) ∧ r = 0)) (fun q : Nat => o + 67 ≤ q ∧ q < o + 82)) args s 0 0 (fun q : Nat => o + 67 ≤ q ∧ q < o + 82)) (fun q : Nat => o + 67 ≤ q ∧ q < o + 82) 6 Hl2 0 0 35 [(0, .ref o), (3, .ref ab2), (4, .int (zI tm)), (5, .int (zI n))] [] := by
      intro fu35
      induction fu35 with
      | zero => intro n tm ab2 capb2 B2 R2 Hl2 hm35 hT hR hB hn htm hB2 hVB hVR hcb hsep hp; exact absurd hm35 (Nat.not_lt_zero _)
      | succ fu35 ih35 =>
        intro n tm ab2 capb2 B2 R2 Hl2 hm35 hT hR hB hn htm hB2 hVB hVR hcb hsep hp
        refine j_iload C dX2_isRaised_35 rfl ?_
        refine j_iload C dX2_isRaised_37 rfl ?_
        refine j_icmp_ge (tgt := 58) C dX2_isRaised_39 (by decide) ⟨by omega, by omega⟩ ⟨by omega, by omega⟩ (fun c39 => ?_) (fun c39 => ?_)
        · skip
          refine j_iconst C dX2_isRaised_58 ?_
          exact j_zret C hr (Nat.le_refl _) (Nat.zero_le _) (Or.inr rfl) (Or.inl ⟨⟨R2, by rw [hB2, show k.natAbs = n.toNat by omega]; exact hp, hR, hT⟩, rfl⟩) dX2_isRaised_59
        · skip
          refine j_aload_n C dX2_isRaised_42 rfl ?_
          refine j_aload_n C dX2_isRaised_43 rfl ?_
          refine j_callmI (jrunV (rest := []) (As := [.ref ab2]) C (c_X2_isOneMore l G o maps hand sd sc near ab2 capb2 R2 B2) gX2_isRaised_X2_isOneMore rfl 1 (by decide +kernel) rfl rfl ⟨Nat.le_of_ble_eq_true rfl, Nat.le_of_ble_eq_true rfl⟩ hT.1 rfl ⟨hT, hR, hB, hVR, hVB, hcb, hsep⟩ rfl rfl (Nat.le_of_ble_eq_true rfl) ⟨Nat.le_of_ble_eq_true rfl, Nat.le_of_ble_eq_true rfl⟩ dX2_isRaised_44) (fun q hq => by obtain ⟨h1, h2⟩ := hq; exact ⟨by omega, by omega⟩) (fun r44 H5 h44 hF => ?_)
          have hB := hB.frm hF (by intro q h1 h2 h3; (try dsimp only at h3); omega)
          rcases h44 with ⟨⟨h44, hR, hT⟩, rfl⟩ | ⟨⟨h44, hT⟩, rfl⟩
          · skip
            refine j_if_ne (tgt := 52) C dX2_isRaised_47 (by decide) ⟨by decide, by decide⟩ (fun c47 => ?_) (fun c47 => absurd c47 (by decide))
            refine j_iinc (lv' := [(0, .ref o), (3, .ref ab2), (4, .int (zI tm)), (5, .int (zI (n + 1)))]) C dX2_isRaised_52 rfl (by decide) rfl ?_
            refine j_goto (tgt := 35) C dX2_isRaised_55 (by decide) ?_
            exact JJ.drop (lv' := [(0, .ref o), (3, .ref ab2), (4, .int (zI tm)), (5, .int (zI (n + 1)))]) rfl (ih35 (n + 1) tm ab2 capb2 B2 (compF R2 B2) H5 (by omega) hT hR hB ⟨by omega, by omega⟩ htm hB2 hVB (VM.comp hVR hVB h44) hcb hsep (by rw [powF_s hn.1 hp, if_pos h44]))
          · skip
            refine j_if_ne (tgt := 52) C dX2_isRaised_47 (by decide) ⟨by decide, by decide⟩ (fun c47 => absurd c47 (by decide)) (fun c47 => ?_)
            refine j_iconst C dX2_isRaised_50 ?_
            exact j_zret C hr (Nat.le_refl _) (Nat.zero_le _) (Or.inl rfl) (Or.inr ⟨⟨by rw [hB2]; have hz := powF_none (B := B2) (n := (n + 1).toNat) (by rw [powF_s hn.1 hp, if_neg h44]) (k.natAbs - (n + 1).toNat); rw [show (n + 1).toNat + (k.natAbs - (n + 1).toNat) = k.natAbs by omega] at hz; exact hz, hT⟩, rfl⟩) dX2_isRaised_51
    exact JJ.drop (lv' := [(0, .ref o), (3, .ref (o + 77)), (4, .int (zI (if 0 ≤ k then k else -k))), (5, .int (zI 0))]) rfl (K35 ((((if 0 ≤ k then k else -k) - (0 : Int)).toNat) + 1) 0 (if 0 ≤ k then k else -k) (o + 77) 48 (turnF B) ([(0, 0, 0, 0)]) H4 (Nat.lt_succ_self _) hT hR hB ⟨by omega, by split <;> omega⟩ (by split <;> omega) hbs hVB VM.nothing hcb (by omega) rfl)

set_option maxHeartbeats 4000000 in
set_option maxRecDepth 100000 in
/-- X2_power -/
theorem c_X2_power (l : Launch) (G : Gx) (o : Nat) (maps : Int → List Q4) (hand : List Q4) (sd sc : Int) (near : Value) (t x k : Int) : Met l yX2_power wsX2_power ({ frames := 6, cells := 0, slots := 0, locals := 152 } : Room) (cPc G [.ref o, .int (zI t), .int (zI x), .int (zI k)] (fun H => TP G H o maps hand sd sc near ∧ iR t ∧ iR x ∧ iR k ∧ (∀ t : Int, 0 ≤ t → t < 12 → 1 ≤ (maps t).length → VM (maps t)))) (qmI (fun r H => r = (opPower maps t x k).1 ∧ TP G H o (opPower maps t x k).2 hand sd sc near) (fun q : Nat => o ≤ q ∧ q < o + 82)) 0 0 (fun q : Nat => o ≤ q ∧ q < o + 82) := by
  refine Met.ofJ (cc := cX2_power) (maxL := 4) (ret := (some .int)) (lv0 := [(0, .ref o), (1, .int (zI t)), (2, .int (zI x)), (3, .int (zI k))]) (by decide) rfl (Nat.le_of_ble_eq_true rfl) rfl ?_
  intro p e s m args below meth c C hr hnm hpre
  obtain ⟨hT, ⟨ht1, ht2⟩, ⟨hx1, hx2⟩, ⟨hk1, hk2⟩, hV⟩ := hpre
  have hwX1 : ∀ w ∈ u_ws RX1 TX1 5, w ∈ wsX2_power := by decide +kernel
  have hwX2 : ∀ w ∈ u_ws RX2 TX2 8, w ∈ wsX2_power := by decide +kernel
  refine j_iload_n C dX2_power_0 rfl ?_
  refine j_callI (jrunS (rest := []) (As := [.int (zI t)]) C (c_X2_isNumber l G t) gX2_power_X2_isNumber rfl 1 (by decide +kernel) rfl rfl ⟨Nat.le_of_ble_eq_true rfl, Nat.le_of_ble_eq_true rfl⟩ ⟨by omega, by omega⟩ rfl rfl (Nat.le_of_ble_eq_true rfl) ⟨Nat.le_of_ble_eq_true rfl, Nat.le_of_ble_eq_true rfl⟩ dX2_power_1) (fun r1 h1 => ?_)
  rcases h1 with ⟨h1, rfl⟩ | ⟨h1, rfl⟩
  · skip
    refine j_if_eq (tgt := 15) C dX2_power_4 (by decide) ⟨by decide, by decide⟩ (fun c4 => absurd c4 (by decide)) (fun c4 => ?_)
    refine j_aload_n C dX2_power_7 rfl ?_
    refine j_iload_n C dX2_power_8 rfl ?_
    refine j_callI (jrunV (rest := []) (As := [.int (zI x)]) C (c_X2_isThere l G o maps hand sd sc near x) gX2_power_X2_isThere rfl 1 (by decide +kernel) rfl rfl ⟨Nat.le_of_ble_eq_true rfl, Nat.le_of_ble_eq_true rfl⟩ hT.1 rfl ⟨hT, by omega, by omega⟩ rfl rfl (Nat.le_of_ble_eq_true rfl) ⟨Nat.le_of_ble_eq_true rfl, Nat.le_of_ble_eq_true rfl⟩ dX2_power_9) (fun r9 h9 => ?_)
    rcases h9 with ⟨h9, rfl⟩ | ⟨h9, rfl⟩
    · skip
      refine j_if_ne (tgt := 18) C dX2_power_12 (by decide) ⟨by decide, by decide⟩ (fun c12 => ?_) (fun c12 => absurd c12 (by decide))
      refine j_iload_n C dX2_power_18 rfl ?_
      refine j_bipush C dX2_power_19 (by decide) ?_
      refine j_icmp_lt (tgt := 30) C dX2_power_21 (by decide) ⟨by omega, by omega⟩ ⟨by decide, by decide⟩ (fun c21 => ?_) (fun c21 => ?_)
      · skip
        refine j_bipush C dX2_power_30 (by decide) ?_
        exact j_iret C hr (Nat.le_refl _) (Nat.zero_le _) (by unfold opPower; rw [if_pos ⟨h1, h9⟩, if_neg (by omega)]; exact ⟨rfl, hT⟩) dX2_power_32
      · skip
        refine j_iload_n C dX2_power_24 rfl ?_
        refine j_bipush C dX2_power_25 (by decide) ?_
        refine j_icmp_le (tgt := 33) C dX2_power_27 (by decide) ⟨by omega, by omega⟩ ⟨by decide, by decide⟩ (fun c27 => ?_) (fun c27 => ?_)
        · skip
          refine j_aload_n C dX2_power_33 rfl ?_
          refine j_aload_n C dX2_power_34 rfl ?_
          refine j_get (T := TX2) (N := 8) (fs := _) (v := .ref (o + 1)) C hwX2 hT.1 0 (by decide) rfl (index := 11) (ref := "TreePairs") (by decide +kernel) rfl rfl dX2_power_35 ?_
          refine j_iload_n C dX2_power_38 rfl ?_
          refine j_aald (a := (mpA o x)) C hT.2.1 ⟨by omega, by omega⟩ rfl dX2_power_39 ?_
          have hA_ := hT.map (t := x) h9.1
          refine j_iload_n C dX2_power_40 rfl ?_
          have hVx := hV x h9.1.1 h9.1.2 h9.2
          have hmx := mpA_b o h9.1
          have hmt := mpA_b o h1
          refine j_callmI (jrunV (rest := []) (As := [.ref (mpA o x), .int (zI k)]) C (c_X2_isRaised l G o maps hand sd sc near (mpA o x) 24 (maps x) k) gX2_power_X2_isRaised rfl 2 (by decide +kernel) rfl rfl ⟨Nat.le_of_ble_eq_true rfl, Nat.le_of_ble_eq_true rfl⟩ hT.1 rfl ⟨hT, hA_, hVx, by decide, by omega, ⟨by omega, by omega⟩⟩ rfl rfl (Nat.le_of_ble_eq_true rfl) ⟨Nat.le_of_ble_eq_true rfl, Nat.le_of_ble_eq_true rfl⟩ dX2_power_41) (fun q hq => by obtain ⟨h1, h2⟩ := hq; exact ⟨by omega, by omega⟩) (fun r41 H1 h41 hF => ?_)
          rcases h41 with ⟨⟨R, h41, hR, hT⟩, rfl⟩ | ⟨⟨h41, hT⟩, rfl⟩
          · skip
            refine j_if_ne (tgt := 50) C dX2_power_44 (by decide) ⟨by decide, by decide⟩ (fun c44 => ?_) (fun c44 => absurd c44 (by decide))
            refine j_aload_n C dX2_power_50 rfl ?_
            refine j_get (T := TX2) (N := 8) (fs := _) (v := .ref (o + 72)) C hwX2 hT.1 5 (by decide) rfl (index := 25) (ref := "TreePairs") (by decide +kernel) rfl rfl dX2_power_51 ?_
            refine j_aload_n C dX2_power_54 rfl ?_
            refine j_get (T := TX2) (N := 8) (fs := _) (v := .ref (o + 1)) C hwX2 hT.1 0 (by decide) rfl (index := 11) (ref := "TreePairs") (by decide +kernel) rfl rfl dX2_power_55 ?_
            refine j_iload_n C dX2_power_58 rfl ?_
            refine j_aald (a := (mpA o t)) C hT.2.1 ⟨by omega, by omega⟩ rfl dX2_power_59 ?_
            have hN := hT.map (t := t) h1
            have hlR : R.length ≤ 24 := powF_len h41
            refine j_callmV (jrunS (rest := []) (As := [.ref (o + 72), .ref (mpA o t)]) C (c_X2_putCopy l G (o + 72) 48 (mpA o t) 24 R (maps t)) gX2_power_X2_putCopy rfl 2 (by decide +kernel) rfl rfl ⟨Nat.le_of_ble_eq_true rfl, Nat.le_of_ble_eq_true rfl⟩ ⟨hR, hN, by omega, by omega⟩ rfl rfl (Nat.le_of_ble_eq_true rfl) ⟨Nat.le_of_ble_eq_true rfl, Nat.le_of_ble_eq_true rfl⟩ dX2_power_60) (fun q hq => by obtain ⟨h1, h2⟩ := hq; exact ⟨by omega, by omega⟩) (fun H2 h60 hF => ?_)
            have hR := hR.frm hF (by intro q h1 h2 h3; (try dsimp only at h3); omega)
            have hT := hT.setmap h1 h60 hF
            have hN := h60
            refine j_aload_n C dX2_power_63 rfl ?_
            refine j_get (T := TX2) (N := 8) (fs := _) (v := .ref (o + 1)) C hwX2 hT.1 0 (by decide) rfl (index := 11) (ref := "TreePairs") (by decide +kernel) rfl rfl dX2_power_64 ?_
            refine j_iload_n C dX2_power_67 rfl ?_
            refine j_aald (a := (mpA o t)) C hT.2.1 ⟨by omega, by omega⟩ rfl dX2_power_68 ?_
            refine j_get (T := TX1) (N := 5) (fs := _) (v := .int (zI (R.length : Int))) C hwX1 hN.ob 4 (by decide) rfl (index := 35) (ref := "TreePairs$Pairs") (by decide +kernel) rfl rfl dX2_power_69 ?_
            exact j_iret C hr (Nat.le_refl _) (Nat.zero_le _) (by unfold opPower; rw [if_pos ⟨h1, h9⟩, if_pos ⟨by omega, by omega⟩, h41]; exact ⟨rfl, hT⟩) dX2_power_72
          · skip
            refine j_if_ne (tgt := 50) C dX2_power_44 (by decide) ⟨by decide, by decide⟩ (fun c44 => absurd c44 (by decide)) (fun c44 => ?_)
            refine j_bipush C dX2_power_47 (by decide) ?_
            exact j_iret C hr (Nat.le_refl _) (Nat.zero_le _) (by unfold opPower; rw [if_pos ⟨h1, h9⟩, if_pos ⟨by omega, by omega⟩, h41]; exact ⟨rfl, hT⟩) dX2_power_49
        · skip
          refine j_bipush C dX2_power_30 (by decide) ?_
          exact j_iret C hr (Nat.le_refl _) (Nat.zero_le _) (by unfold opPower; rw [if_pos ⟨h1, h9⟩, if_neg (by omega)]; exact ⟨rfl, hT⟩) dX2_power_32
    · skip
      refine j_if_ne (tgt := 18) C dX2_power_12 (by decide) ⟨by decide, by decide⟩ (fun c12 => absurd c12 (by decide)) (fun c12 => ?_)
      refine j_bipush C dX2_power_15 (by decide) ?_
      exact j_iret C hr (Nat.le_refl _) (Nat.zero_le _) (by unfold opPower; rw [if_neg (fun h => by first | exact h1 h.1 | exact h9 h.2)]; exact ⟨rfl, hT⟩) dX2_power_17
  · skip
    refine j_if_eq (tgt := 15) C dX2_power_4 (by decide) ⟨by decide, by decide⟩ (fun c4 => ?_) (fun c4 => absurd c4 (by decide))
    refine j_bipush C dX2_power_15 (by decide) ?_
    exact j_iret C hr (Nat.le_refl _) (Nat.zero_le _) (by unfold opPower; rw [if_neg (fun h => by first | exact h1 h.1 | exact h9 h.2)]; exact ⟨rfl, hT⟩) dX2_power_17

set_option maxHeartbeats 4000000 in
set_option maxRecDepth 100000 in
/-- X2_order -/
theorem c_X2_order (l : Launch) (G : Gx) (o : Nat) (maps : Int → List Q4) (hand : List Q4) (sd sc : Int) (near : Value) (x : Int) : Met l yX2_order wsX2_order ({ frames := 5, cells := 0, slots := 0, locals := 127 } : Room) (cPc G [.ref o, .int (zI x)] (fun H => TP G H o maps hand sd sc near ∧ iR x ∧ (∀ t : Int, 0 ≤ t → t < 12 → 1 ≤ (maps t).length → VM (maps t)))) (qmI (fun r H => r = anOrder maps x ∧ TP G H o maps hand sd sc near) (fun q : Nat => o ≤ q ∧ q < o + 82)) 0 0 (fun q : Nat => o ≤ q ∧ q < o + 82) := by
  refine Met.ofJ (cc := cX2_order) (maxL := 3) (ret := (some .int)) (lv0 := [(0, .ref o), (1, .int (zI x))]) (by decide) rfl (Nat.le_of_ble_eq_true rfl) rfl ?_
  intro p e s m args below meth c C hr hnm hpre
  obtain ⟨hT, ⟨hx1, hx2⟩, hV⟩ := hpre
  have hwX1 : ∀ w ∈ u_ws RX1 TX1 5, w ∈ wsX2_order := by decide +kernel
  have hwX2 : ∀ w ∈ u_ws RX2 TX2 8, w ∈ wsX2_order := by decide +kernel
  refine j_aload_n C dX2_order_0 rfl ?_
  refine j_iload_n C dX2_order_1 rfl ?_
  refine j_callI (jrunV (rest := []) (As := [.int (zI x)]) C (c_X2_isThere l G o maps hand sd sc near x) gX2_order_X2_isThere rfl 1 (by decide +kernel) rfl rfl ⟨Nat.le_of_ble_eq_true rfl, Nat.le_of_ble_eq_true rfl⟩ hT.1 rfl ⟨hT, by omega, by omega⟩ rfl rfl (Nat.le_of_ble_eq_true rfl) ⟨Nat.le_of_ble_eq_true rfl, Nat.le_of_ble_eq_true rfl⟩ dX2_order_2) (fun r2 h2 => ?_)
  rcases h2 with ⟨h2, rfl⟩ | ⟨h2, rfl⟩
  · skip
    refine j_if_ne (tgt := 11) C dX2_order_5 (by decide) ⟨by decide, by decide⟩ (fun c5 => ?_) (fun c5 => absurd c5 (by decide))
    refine j_aload_n C dX2_order_11 rfl ?_
    refine j_get (T := TX2) (N := 8) (fs := _) (v := .ref (o + 72)) C hwX2 hT.1 5 (by decide) rfl (index := 25) (ref := "TreePairs") (by decide +kernel) rfl rfl dX2_order_12 ?_
    obtain ⟨Lr, hLr⟩ := hT.2.2.2.2.2.1
    have hVx := hV x h2.1.1 h2.1.2 h2.2
    have hmx := mpA_b o h2.1
    refine j_callmV (jrunV (rest := []) (As := []) C (c_X1_becomeNothing l G (o + 72) 48 Lr) gX2_order_X1_becomeNothing rfl 0 (by decide +kernel) rfl rfl ⟨Nat.le_of_ble_eq_true rfl, Nat.le_of_ble_eq_true rfl⟩ hLr.ob rfl ⟨hLr, by decide⟩ rfl rfl (Nat.le_of_ble_eq_true rfl) ⟨Nat.le_of_ble_eq_true rfl, Nat.le_of_ble_eq_true rfl⟩ dX2_order_15) (fun q hq => by obtain ⟨h1, h2⟩ := hq; exact ⟨by omega, by omega⟩) (fun H1 h15 hF => ?_)
    have hR := h15
    have hT := hT.setraised h15 hF
    refine j_iconst C dX2_order_18 ?_
    refine j_istore_n (lv' := [(0, .ref o), (1, .int (zI x)), (2, .int (zI 1))]) C dX2_order_19 (by decide) rfl ?_
    have K20 : ∀ (fu20 : Nat) (k : Int) (R : List Q4) (Hl1 : Heap), (41 - k).toNat < fu20 → TP G Hl1 o maps hand sd sc near → PL G Hl1 (o + 72) 48 R → 1 ≤ k ∧ k ≤ 41 → VM R → ordG (maps x) 40 1 [(0, 0, 0, 0)] = ordG (maps x) (41 - k).toNat k R → JJ p l e ({ frames := 5, cells := 0, slots := 0, locals := 127 } : Room) s m args below meth c (MQ below (qmI (fun r H => r = anOrder maps x ∧ TP G H o maps hand sd sc near) (fun q : Nat => o ≤ q ∧ q < o + 82)) args s 0 0 (fun q : Nat => o ≤ q ∧ q < o + 82)) (fun q : Nat => o ≤ q ∧ q < o + 82) 3 Hl1 0 0 20 [(0, .ref o), (1, .int (zI x)), (2, .int (zI k))] [] := by
      intro fu20
      induction fu20 with
      | zero => intro k R Hl1 hm20 hT hR hk hVR ho; exact absurd hm20 (Nat.not_lt_zero _)
      | succ fu20 ih20 =>
        intro k R Hl1 hm20 hT hR hk hVR ho
        refine j_iload_n C dX2_order_20 rfl ?_
        refine j_bipush C dX2_order_21 (by decide) ?_
        refine j_icmp_gt (tgt := 60) C dX2_order_23 (by decide) ⟨by omega, by omega⟩ ⟨by decide, by decide⟩ (fun c23 => ?_) (fun c23 => ?_)
        · skip
          refine j_iconst C dX2_order_60 ?_
          exact j_iret C hr (Nat.le_refl _) (Nat.zero_le _) (by unfold anOrder; rw [if_pos h2, ho, show (41 - k).toNat = 0 by omega]; exact ⟨rfl, hT⟩) dX2_order_61
        · skip
          refine j_aload_n C dX2_order_26 rfl ?_
          refine j_aload_n C dX2_order_27 rfl ?_
          refine j_get (T := TX2) (N := 8) (fs := _) (v := .ref (o + 1)) C hwX2 hT.1 0 (by decide) rfl (index := 11) (ref := "TreePairs") (by decide +kernel) rfl rfl dX2_order_28 ?_
          refine j_iload_n C dX2_order_31 rfl ?_
          refine j_aald (a := (mpA o x)) C hT.2.1 ⟨by omega, by omega⟩ rfl dX2_order_32 ?_
          have hA_ := hT.map (t := x) h2.1
          refine j_callmI (jrunV (rest := []) (As := [.ref (mpA o x)]) C (c_X2_isOneMore l G o maps hand sd sc near (mpA o x) 24 R (maps x)) gX2_order_X2_isOneMore rfl 1 (by decide +kernel) rfl rfl ⟨Nat.le_of_ble_eq_true rfl, Nat.le_of_ble_eq_true rfl⟩ hT.1 rfl ⟨hT, hR, hA_, hVR, hVx, by decide, by omega⟩ rfl rfl (Nat.le_of_ble_eq_true rfl) ⟨Nat.le_of_ble_eq_true rfl, Nat.le_of_ble_eq_true rfl⟩ dX2_order_33) (fun q hq => by obtain ⟨h1, h2⟩ := hq; exact ⟨by omega, by omega⟩) (fun r33 H2 h33 hF => ?_)
          rcases h33 with ⟨⟨h33, hR, hT⟩, rfl⟩ | ⟨⟨h33, hT⟩, rfl⟩
          · skip
            refine j_if_ne (tgt := 41) C dX2_order_36 (by decide) ⟨by decide, by decide⟩ (fun c36 => ?_) (fun c36 => absurd c36 (by decide))
            refine j_aload_n C dX2_order_41 rfl ?_
            refine j_get (T := TX2) (N := 8) (fs := _) (v := .ref (o + 72)) C hwX2 hT.1 5 (by decide) rfl (index := 25) (ref := "TreePairs") (by decide +kernel) rfl rfl dX2_order_42 ?_
            have hlm := hR.cap
            refine j_get (T := TX1) (N := 5) (fs := _) (v := .int (zI ((compF R (maps x)).length : Int))) C hwX1 hR.ob 4 (by decide) rfl (index := 35) (ref := "TreePairs$Pairs") (by decide +kernel) rfl rfl dX2_order_45 ?_
            refine j_iconst C dX2_order_48 ?_
            refine j_icmp_ne (tgt := 54) C dX2_order_49 (by decide) ⟨by omega, by omega⟩ ⟨by decide, by decide⟩ (fun c49 => ?_) (fun c49 => ?_)
            · skip
              refine j_iinc (lv' := [(0, .ref o), (1, .int (zI x)), (2, .int (zI (k + 1)))]) C dX2_order_54 rfl (by decide) rfl ?_
              refine j_goto (tgt := 20) C dX2_order_57 (by decide) ?_
              exact JJ.drop (lv' := [(0, .ref o), (1, .int (zI x)), (2, .int (zI (k + 1)))]) rfl (ih20 (k + 1) (compF R (maps x)) H2 (by omega) hT hR ⟨by omega, by omega⟩ (VM.comp hVR hVx h33) (ho.trans (by rw [ordG_s _ _ (by omega), if_pos h33, if_neg (by omega)])))
            · skip
              refine j_iload_n C dX2_order_52 rfl ?_
              exact j_iret C hr (Nat.le_refl _) (Nat.zero_le _) (by unfold anOrder; rw [if_pos h2, ho, ordG_s _ _ (by omega), if_pos h33, if_pos (by omega)]; exact ⟨rfl, hT⟩) dX2_order_53
          · skip
            refine j_if_ne (tgt := 41) C dX2_order_36 (by decide) ⟨by decide, by decide⟩ (fun c36 => absurd c36 (by decide)) (fun c36 => ?_)
            refine j_iconst C dX2_order_39 ?_
            exact j_iret C hr (Nat.le_refl _) (Nat.zero_le _) (by unfold anOrder; rw [if_pos h2, ho, ordG_s _ _ (by omega), if_neg h33]; exact ⟨rfl, hT⟩) dX2_order_40
    exact JJ.drop (lv' := [(0, .ref o), (1, .int (zI x)), (2, .int (zI 1))]) rfl (K20 (((41 - (1 : Int)).toNat) + 1) 1 ([(0, 0, 0, 0)]) H1 (Nat.lt_succ_self _) hT hR ⟨by omega, by omega⟩ VM.nothing rfl)
  · skip
    refine j_if_ne (tgt := 11) C dX2_order_5 (by decide) ⟨by decide, by decide⟩ (fun c5 => absurd c5 (by decide)) (fun c5 => ?_)
    refine j_bipush C dX2_order_8 (by decide) ?_
    exact j_iret C hr (Nat.le_refl _) (Nat.zero_le _) (by unfold anOrder; rw [if_neg h2]; exact ⟨rfl, hT⟩) dX2_order_10

set_option maxHeartbeats 4000000 in
set_option maxRecDepth 100000 in
/-- X2_commute -/
theorem c_X2_commute (l : Launch) (G : Gx) (o : Nat) (maps : Int → List Q4) (hand : List Q4) (sd sc : Int) (near : Value) (x y : Int) : Met l yX2_commute wsX2_commute ({ frames := 4, cells := 0, slots := 0, locals := 106 } : Room) (cPc G [.ref o, .int (zI x), .int (zI y)] (fun H => TP G H o maps hand sd sc near ∧ iR x ∧ iR y ∧ (∀ t : Int, 0 ≤ t → t < 12 → 1 ≤ (maps t).length → VM (maps t)))) (qmI (fun r H => r = anCommute maps x y ∧ TP G H o maps hand sd sc near) (fun q : Nat => o ≤ q ∧ q < o + 82)) 0 0 (fun q : Nat => o ≤ q ∧ q < o + 82) := by
  refine Met.ofJ (cc := cX2_commute) (maxL := 3) (ret := (some .int)) (lv0 := [(0, .ref o), (1, .int (zI x)), (2, .int (zI y))]) (by decide) rfl (Nat.le_of_ble_eq_true rfl) rfl ?_
  intro p e s m args below meth c C hr hnm hpre
  obtain ⟨hT, ⟨hx1, hx2⟩, ⟨hy1, hy2⟩, hV⟩ := hpre
  have hwX1 : ∀ w ∈ u_ws RX1 TX1 5, w ∈ wsX2_commute := by decide +kernel
  have hwX2 : ∀ w ∈ u_ws RX2 TX2 8, w ∈ wsX2_commute := by decide +kernel
  refine j_aload_n C dX2_commute_0 rfl ?_
  refine j_iload_n C dX2_commute_1 rfl ?_
  refine j_callI (jrunV (rest := []) (As := [.int (zI x)]) C (c_X2_isThere l G o maps hand sd sc near x) gX2_commute_X2_isThere rfl 1 (by decide +kernel) rfl rfl ⟨Nat.le_of_ble_eq_true rfl, Nat.le_of_ble_eq_true rfl⟩ hT.1 rfl ⟨hT, by omega, by omega⟩ rfl rfl (Nat.le_of_ble_eq_true rfl) ⟨Nat.le_of_ble_eq_true rfl, Nat.le_of_ble_eq_true rfl⟩ dX2_commute_2) (fun r2 h2 => ?_)
  rcases h2 with ⟨h2, rfl⟩ | ⟨h2, rfl⟩
  · skip
    refine j_if_eq (tgt := 16) C dX2_commute_5 (by decide) ⟨by decide, by decide⟩ (fun c5 => absurd c5 (by decide)) (fun c5 => ?_)
    refine j_aload_n C dX2_commute_8 rfl ?_
    refine j_iload_n C dX2_commute_9 rfl ?_
    refine j_callI (jrunV (rest := []) (As := [.int (zI y)]) C (c_X2_isThere l G o maps hand sd sc near y) gX2_commute_X2_isThere rfl 1 (by decide +kernel) rfl rfl ⟨Nat.le_of_ble_eq_true rfl, Nat.le_of_ble_eq_true rfl⟩ hT.1 rfl ⟨hT, by omega, by omega⟩ rfl rfl (Nat.le_of_ble_eq_true rfl) ⟨Nat.le_of_ble_eq_true rfl, Nat.le_of_ble_eq_true rfl⟩ dX2_commute_10) (fun r10 h10 => ?_)
    rcases h10 with ⟨h10, rfl⟩ | ⟨h10, rfl⟩
    · skip
      refine j_if_ne (tgt := 19) C dX2_commute_13 (by decide) ⟨by decide, by decide⟩ (fun c13 => ?_) (fun c13 => absurd c13 (by decide))
      refine j_aload_n C dX2_commute_19 rfl ?_
      refine j_get (T := TX2) (N := 8) (fs := _) (v := .ref (o + 1)) C hwX2 hT.1 0 (by decide) rfl (index := 11) (ref := "TreePairs") (by decide +kernel) rfl rfl dX2_commute_20 ?_
      refine j_iload_n C dX2_commute_23 rfl ?_
      refine j_aald (a := (mpA o x)) C hT.2.1 ⟨by omega, by omega⟩ rfl dX2_commute_24 ?_
      have hA_ := hT.map (t := x) h2.1
      refine j_aload_n C dX2_commute_25 rfl ?_
      refine j_get (T := TX2) (N := 8) (fs := _) (v := .ref (o + 1)) C hwX2 hT.1 0 (by decide) rfl (index := 11) (ref := "TreePairs") (by decide +kernel) rfl rfl dX2_commute_26 ?_
      refine j_iload_n C dX2_commute_29 rfl ?_
      refine j_aald (a := (mpA o y)) C hT.2.1 ⟨by omega, by omega⟩ rfl dX2_commute_30 ?_
      have hB_ := hT.map (t := y) h10.1
      refine j_aload_n C dX2_commute_31 rfl ?_
      refine j_get (T := TX2) (N := 8) (fs := _) (v := .ref (o + 72)) C hwX2 hT.1 5 (by decide) rfl (index := 25) (ref := "TreePairs") (by decide +kernel) rfl rfl dX2_commute_32 ?_
      have hVx := hV x h2.1.1 h2.1.2 h2.2
      have hVy := hV y h10.1.1 h10.1.2 h10.2
      obtain ⟨Lr, hLr⟩ := hT.2.2.2.2.2.1
      have hmx := mpA_b o h2.1
      have hmy := mpA_b o h10.1
      refine j_callmV (jrunS (rest := []) (As := [.ref (mpA o x), .ref (mpA o y), .ref (o + 72)]) C (c_X2_putBehind l G (mpA o x) 24 (mpA o y) 24 (o + 72) 48 (maps x) (maps y) Lr) gX2_commute_X2_putBehind rfl 3 (by decide +kernel) rfl rfl ⟨Nat.le_of_ble_eq_true rfl, Nat.le_of_ble_eq_true rfl⟩ ⟨hA_, hB_, hLr, hVx.B, hVy.B, by decide, hVy.cut, VM.prod_len hVx hVy, VM.prod_B hVx hVy, by omega, by omega⟩ rfl rfl (Nat.le_of_ble_eq_true rfl) ⟨Nat.le_of_ble_eq_true rfl, Nat.le_of_ble_eq_true rfl⟩ dX2_commute_35) (fun q hq => by obtain ⟨h1, h2⟩ := hq; exact ⟨by omega, by omega⟩) (fun H1 h35 hF => ?_)
      have hR : PL G H1 (o + 72) 48 (compF (maps x) (maps y)) := h35
      have hT := hT.setraised h35 hF
      refine j_aload_n C dX2_commute_38 rfl ?_
      refine j_get (T := TX2) (N := 8) (fs := _) (v := .ref (o + 1)) C hwX2 hT.1 0 (by decide) rfl (index := 11) (ref := "TreePairs") (by decide +kernel) rfl rfl dX2_commute_39 ?_
      refine j_iload_n C dX2_commute_42 rfl ?_
      refine j_aald (a := (mpA o y)) C hT.2.1 ⟨by omega, by omega⟩ rfl dX2_commute_43 ?_
      have hB_ := hT.map (t := y) h10.1
      refine j_aload_n C dX2_commute_44 rfl ?_
      refine j_get (T := TX2) (N := 8) (fs := _) (v := .ref (o + 1)) C hwX2 hT.1 0 (by decide) rfl (index := 11) (ref := "TreePairs") (by decide +kernel) rfl rfl dX2_commute_45 ?_
      refine j_iload_n C dX2_commute_48 rfl ?_
      refine j_aald (a := (mpA o x)) C hT.2.1 ⟨by omega, by omega⟩ rfl dX2_commute_49 ?_
      have hA_ := hT.map (t := x) h2.1
      refine j_aload_n C dX2_commute_50 rfl ?_
      refine j_get (T := TX2) (N := 8) (fs := _) (v := .ref (o + 67)) C hwX2 hT.1 4 (by decide) rfl (index := 22) (ref := "TreePairs") (by decide +kernel) rfl rfl dX2_commute_51 ?_
      obtain ⟨Lm, hLm⟩ := hT.2.2.2.2.1
      refine j_callmV (jrunS (rest := []) (As := [.ref (mpA o y), .ref (mpA o x), .ref (o + 67)]) C (c_X2_putBehind l G (mpA o y) 24 (mpA o x) 24 (o + 67) 48 (maps y) (maps x) Lm) gX2_commute_X2_putBehind rfl 3 (by decide +kernel) rfl rfl ⟨Nat.le_of_ble_eq_true rfl, Nat.le_of_ble_eq_true rfl⟩ ⟨hB_, hA_, hLm, hVy.B, hVx.B, by decide, hVx.cut, VM.prod_len hVy hVx, VM.prod_B hVy hVx, by omega, by omega⟩ rfl rfl (Nat.le_of_ble_eq_true rfl) ⟨Nat.le_of_ble_eq_true rfl, Nat.le_of_ble_eq_true rfl⟩ dX2_commute_54) (fun q hq => by obtain ⟨h1, h2⟩ := hq; exact ⟨by omega, by omega⟩) (fun H2 h54 hF => ?_)
      have hR := hR.frm hF (by intro q h1 h2 h3; (try dsimp only at h3); omega)
      have hM : PL G H2 (o + 67) 48 (compF (maps y) (maps x)) := h54
      have hT := hT.setmade h54 hF
      have hlm := hM.cap
      have hlr := hR.cap
      refine j_aload_n C dX2_commute_57 rfl ?_
      refine j_get (T := TX2) (N := 8) (fs := _) (v := .ref (o + 72)) C hwX2 hT.1 5 (by decide) rfl (index := 25) (ref := "TreePairs") (by decide +kernel) rfl rfl dX2_commute_58 ?_
      refine j_get (T := TX1) (N := 5) (fs := _) (v := .int (zI ((compF (maps x) (maps y)).length : Int))) C hwX1 hR.ob 4 (by decide) rfl (index := 35) (ref := "TreePairs$Pairs") (by decide +kernel) rfl rfl dX2_commute_61 ?_
      refine j_bipush C dX2_commute_64 (by decide) ?_
      refine j_icmp_gt (tgt := 81) C dX2_commute_66 (by decide) ⟨by omega, by omega⟩ ⟨by decide, by decide⟩ (fun c66 => ?_) (fun c66 => ?_)
      · skip
        refine j_bipush C dX2_commute_81 (by decide) ?_
        exact j_iret C hr (Nat.le_refl _) (Nat.zero_le _) (by unfold anCommute; rw [if_pos ⟨h2, h10⟩, if_pos (by omega)]; exact ⟨rfl, hT⟩) dX2_commute_83
      · skip
        refine j_aload_n C dX2_commute_69 rfl ?_
        refine j_get (T := TX2) (N := 8) (fs := _) (v := .ref (o + 67)) C hwX2 hT.1 4 (by decide) rfl (index := 22) (ref := "TreePairs") (by decide +kernel) rfl rfl dX2_commute_70 ?_
        refine j_get (T := TX1) (N := 5) (fs := _) (v := .int (zI ((compF (maps y) (maps x)).length : Int))) C hwX1 hM.ob 4 (by decide) rfl (index := 35) (ref := "TreePairs$Pairs") (by decide +kernel) rfl rfl dX2_commute_73 ?_
        refine j_bipush C dX2_commute_76 (by decide) ?_
        refine j_icmp_le (tgt := 84) C dX2_commute_78 (by decide) ⟨by omega, by omega⟩ ⟨by decide, by decide⟩ (fun c78 => ?_) (fun c78 => ?_)
        · skip
          refine j_aload_n C dX2_commute_84 rfl ?_
          refine j_get (T := TX2) (N := 8) (fs := _) (v := .ref (o + 72)) C hwX2 hT.1 5 (by decide) rfl (index := 25) (ref := "TreePairs") (by decide +kernel) rfl rfl dX2_commute_85 ?_
          refine j_aload_n C dX2_commute_88 rfl ?_
          refine j_get (T := TX2) (N := 8) (fs := _) (v := .ref (o + 67)) C hwX2 hT.1 4 (by decide) rfl (index := 22) (ref := "TreePairs") (by decide +kernel) rfl rfl dX2_commute_89 ?_
          refine j_callI (jrunS (rest := []) (As := [.ref (o + 72), .ref (o + 67)]) C (c_X2_areAlike l G (o + 72) 48 (o + 67) 48 (compF (maps x) (maps y)) (compF (maps y) (maps x))) gX2_commute_X2_areAlike rfl 2 (by decide +kernel) rfl rfl ⟨Nat.le_of_ble_eq_true rfl, Nat.le_of_ble_eq_true rfl⟩ ⟨hR, hM, VM.compB hVx hVy, VM.compB hVy hVx⟩ rfl rfl (Nat.le_of_ble_eq_true rfl) ⟨Nat.le_of_ble_eq_true rfl, Nat.le_of_ble_eq_true rfl⟩ dX2_commute_92) (fun r92 h92 => ?_)
          rcases h92 with ⟨h92, rfl⟩ | ⟨h92, rfl⟩
          · skip
            refine j_if_eq (tgt := 102) C dX2_commute_95 (by decide) ⟨by decide, by decide⟩ (fun c95 => absurd c95 (by decide)) (fun c95 => ?_)
            refine j_iconst C dX2_commute_98 ?_
            refine j_goto (tgt := 103) C dX2_commute_99 (by decide) ?_
            exact j_iret C hr (Nat.le_refl _) (Nat.zero_le _) (by unfold anCommute; rw [if_pos ⟨h2, h10⟩, if_neg (by omega), if_pos h92]; exact ⟨rfl, hT⟩) dX2_commute_103
          · skip
            refine j_if_eq (tgt := 102) C dX2_commute_95 (by decide) ⟨by decide, by decide⟩ (fun c95 => ?_) (fun c95 => absurd c95 (by decide))
            refine j_iconst C dX2_commute_102 ?_
            exact j_iret C hr (Nat.le_refl _) (Nat.zero_le _) (by unfold anCommute; rw [if_pos ⟨h2, h10⟩, if_neg (by omega), if_neg h92]; exact ⟨rfl, hT⟩) dX2_commute_103
        · skip
          refine j_bipush C dX2_commute_81 (by decide) ?_
          exact j_iret C hr (Nat.le_refl _) (Nat.zero_le _) (by unfold anCommute; rw [if_pos ⟨h2, h10⟩, if_pos (by omega)]; exact ⟨rfl, hT⟩) dX2_commute_83
    · skip
      refine j_if_ne (tgt := 19) C dX2_commute_13 (by decide) ⟨by decide, by decide⟩ (fun c13 => absurd c13 (by decide)) (fun c13 => ?_)
      refine j_bipush C dX2_commute_16 (by decide) ?_
      exact j_iret C hr (Nat.le_refl _) (Nat.zero_le _) (by unfold anCommute; rw [if_neg (fun h => by first | exact h2 h.1 | exact h10 h.2)]; exact ⟨rfl, hT⟩) dX2_commute_18
  · skip
    refine j_if_eq (tgt := 16) C dX2_commute_5 (by decide) ⟨by decide, by decide⟩ (fun c5 => ?_) (fun c5 => absurd c5 (by decide))
    refine j_bipush C dX2_commute_16 (by decide) ?_
    exact j_iret C hr (Nat.le_refl _) (Nat.zero_le _) (by unfold anCommute; rw [if_neg (fun h => by first | exact h2 h.1 | exact h10 h.2)]; exact ⟨rfl, hT⟩) dX2_commute_18

set_option maxHeartbeats 4000000 in
set_option maxRecDepth 100000 in
/-- X2_make -/
theorem c_X2_make (l : Launch) (G : Gx) (o : Nat) (maps : Int → List Q4) (hand : List Q4) (sd sc : Int) (near : Value) (t : Int) : Met l yX2_make wsX2_make ({ frames := 4, cells := 0, slots := 0, locals := 86 } : Room) (cPc G [.ref o, .int (zI t)] (fun H => TP G H o maps hand sd sc near ∧ iR t ∧ (∀ q ∈ hand, LQ 23 q))) (qmI (fun r H => r = (opMake maps hand t).1 ∧ TP G H o (opMake maps hand t).2.1 (opMake maps hand t).2.2 sd sc near) (fun q : Nat => o ≤ q ∧ q < o + 82)) 0 0 (fun q : Nat => o ≤ q ∧ q < o + 82) := by
  refine Met.ofJ (cc := cX2_make) (maxL := 2) (ret := (some .int)) (lv0 := [(0, .ref o), (1, .int (zI t))]) (by decide) rfl (Nat.le_of_ble_eq_true rfl) rfl ?_
  intro p e s m args below meth c C hr hnm hpre
  obtain ⟨hT, ⟨ht1, ht2⟩, hHB⟩ := hpre
  have hwX1 : ∀ w ∈ u_ws RX1 TX1 5, w ∈ wsX2_make := by decide +kernel
  have hwX2 : ∀ w ∈ u_ws RX2 TX2 8, w ∈ wsX2_make := by decide +kernel
  refine j_iload_n C dX2_make_0 rfl ?_
  refine j_callI (jrunS (rest := []) (As := [.int (zI t)]) C (c_X2_isNumber l G t) gX2_make_X2_isNumber rfl 1 (by decide +kernel) rfl rfl ⟨Nat.le_of_ble_eq_true rfl, Nat.le_of_ble_eq_true rfl⟩ ⟨by omega, by omega⟩ rfl rfl (Nat.le_of_ble_eq_true rfl) ⟨Nat.le_of_ble_eq_true rfl, Nat.le_of_ble_eq_true rfl⟩ dX2_make_1) (fun r1 h1 => ?_)
  rcases h1 with ⟨h1, rfl⟩ | ⟨h1, rfl⟩
  · skip
    refine j_if_ne (tgt := 10) C dX2_make_4 (by decide) ⟨by decide, by decide⟩ (fun c4 => ?_) (fun c4 => absurd c4 (by decide))
    refine j_aload_n C dX2_make_10 rfl ?_
    refine j_get (T := TX2) (N := 8) (fs := _) (v := .ref (o + 62)) C hwX2 hT.1 1 (by decide) rfl (index := 18) (ref := "TreePairs") (by decide +kernel) rfl rfl dX2_make_11 ?_
    refine j_aload_n C dX2_make_14 rfl ?_
    refine j_get (T := TX2) (N := 8) (fs := _) (v := .ref (o + 77)) C hwX2 hT.1 6 (by decide) rfl (index := 28) (ref := "TreePairs") (by decide +kernel) rfl rfl dX2_make_15 ?_
    obtain ⟨Lm, hLm⟩ := hT.2.2.2.2.2.2
    have hHp := hT.2.2.2.1
    have hhl := hHp.cap
    have hmt := mpA_b o h1
    have l1 := turnF_len hand
    have l2 := turnF_len (turnF hand)
    have l3 : (redF (turnF (turnF hand))).length ≤ 0 + (turnF (turnF hand)).length := redF_len _ []
    have b1 := turnF_B hHB
    have b2 := turnF_B b1
    refine j_callmV (jrunS (rest := []) (As := [.ref (o + 62), .ref (o + 77)]) C (c_X2_putTurned l G (o + 62) 24 (o + 77) 48 hand Lm) gX2_make_X2_putTurned rfl 2 (by decide +kernel) rfl rfl ⟨Nat.le_of_ble_eq_true rfl, Nat.le_of_ble_eq_true rfl⟩ ⟨hHp, hLm, by omega, by omega, hHB, by decide⟩ rfl rfl (Nat.le_of_ble_eq_true rfl) ⟨Nat.le_of_ble_eq_true rfl, Nat.le_of_ble_eq_true rfl⟩ dX2_make_18) (fun q hq => by obtain ⟨h1, h2⟩ := hq; exact ⟨by omega, by omega⟩) (fun H1 h18 hF => ?_)
    have hU := h18
    have hT := hT.setturned h18 hF
    refine j_aload_n C dX2_make_21 rfl ?_
    refine j_get (T := TX2) (N := 8) (fs := _) (v := .ref (o + 77)) C hwX2 hT.1 6 (by decide) rfl (index := 28) (ref := "TreePairs") (by decide +kernel) rfl rfl dX2_make_22 ?_
    refine j_callI (jrunS (rest := []) (As := [.ref (o + 77)]) C (c_X2_isCut l G (o + 77) 48 (turnF hand)) gX2_make_X2_isCut rfl 1 (by decide +kernel) rfl rfl ⟨Nat.le_of_ble_eq_true rfl, Nat.le_of_ble_eq_true rfl⟩ ⟨hU, b1⟩ rfl rfl (Nat.le_of_ble_eq_true rfl) ⟨Nat.le_of_ble_eq_true rfl, Nat.le_of_ble_eq_true rfl⟩ dX2_make_25) (fun r25 h25 => ?_)
    rcases h25 with ⟨h25, rfl⟩ | ⟨h25, rfl⟩
    · skip
      refine j_if_ne (tgt := 34) C dX2_make_28 (by decide) ⟨by decide, by decide⟩ (fun c28 => ?_) (fun c28 => absurd c28 (by decide))
      refine j_aload_n C dX2_make_34 rfl ?_
      refine j_get (T := TX2) (N := 8) (fs := _) (v := .ref (o + 77)) C hwX2 hT.1 6 (by decide) rfl (index := 28) (ref := "TreePairs") (by decide +kernel) rfl rfl dX2_make_35 ?_
      refine j_aload_n C dX2_make_38 rfl ?_
      refine j_get (T := TX2) (N := 8) (fs := _) (v := .ref (o + 72)) C hwX2 hT.1 5 (by decide) rfl (index := 25) (ref := "TreePairs") (by decide +kernel) rfl rfl dX2_make_39 ?_
      obtain ⟨Lr, hLr⟩ := hT.2.2.2.2.2.1
      refine j_callmV (jrunS (rest := []) (As := [.ref (o + 77), .ref (o + 72)]) C (c_X2_putTurned l G (o + 77) 48 (o + 72) 48 (turnF hand) Lr) gX2_make_X2_putTurned rfl 2 (by decide +kernel) rfl rfl ⟨Nat.le_of_ble_eq_true rfl, Nat.le_of_ble_eq_true rfl⟩ ⟨hU, hLr, by omega, by omega, b1, by decide⟩ rfl rfl (Nat.le_of_ble_eq_true rfl) ⟨Nat.le_of_ble_eq_true rfl, Nat.le_of_ble_eq_true rfl⟩ dX2_make_42) (fun q hq => by obtain ⟨h1, h2⟩ := hq; exact ⟨by omega, by omega⟩) (fun H2 h42 hF => ?_)
      have hU := hU.frm hF (by intro q h1 h2 h3; (try dsimp only at h3); omega)
      have hR := h42
      have hT := hT.setraised h42 hF
      refine j_aload_n C dX2_make_45 rfl ?_
      refine j_get (T := TX2) (N := 8) (fs := _) (v := .ref (o + 72)) C hwX2 hT.1 5 (by decide) rfl (index := 25) (ref := "TreePairs") (by decide +kernel) rfl rfl dX2_make_46 ?_
      refine j_callI (jrunS (rest := []) (As := [.ref (o + 72)]) C (c_X2_isCut l G (o + 72) 48 (turnF (turnF hand))) gX2_make_X2_isCut rfl 1 (by decide +kernel) rfl rfl ⟨Nat.le_of_ble_eq_true rfl, Nat.le_of_ble_eq_true rfl⟩ ⟨hR, b2⟩ rfl rfl (Nat.le_of_ble_eq_true rfl) ⟨Nat.le_of_ble_eq_true rfl, Nat.le_of_ble_eq_true rfl⟩ dX2_make_49) (fun r49 h49 => ?_)
      rcases h49 with ⟨h49, rfl⟩ | ⟨h49, rfl⟩
      · skip
        refine j_if_ne (tgt := 58) C dX2_make_52 (by decide) ⟨by decide, by decide⟩ (fun c52 => ?_) (fun c52 => absurd c52 (by decide))
        refine j_aload_n C dX2_make_58 rfl ?_
        refine j_get (T := TX2) (N := 8) (fs := _) (v := .ref (o + 62)) C hwX2 hT.1 1 (by decide) rfl (index := 18) (ref := "TreePairs") (by decide +kernel) rfl rfl dX2_make_59 ?_
        refine j_iconst C dX2_make_62 ?_
        refine j_put (T := TX1) (N := 5) (fs' := [.ref (o + 62 + 1), .ref (o + 62 + 2), .ref (o + 62 + 3), .ref (o + 62 + 4), .int (zI 0)]) (ty := .int) C tyX1 tyX1_ok nmX1 hwX1 (hT.2.2.2.1).ob 4 (by decide) rfl (index := 35) (ref := "TreePairs$Pairs") (by decide +kernel) rfl rfl (by decide +kernel) rfl rfl (Nat.le_of_ble_eq_true rfl) rfl (by constructor <;> omega) dX2_make_63 (fun H3 hO hC => ?_)
        obtain ⟨d_, c_, e_, b_, hP_, hRp_, hcap_⟩ := hT.2.2.2.1
        have hP_ := hP_.put_size hO hC
        have hT := hT.sethand (L := []) ⟨_, _, _, _, hP_, Rp.nil, Nat.zero_le _⟩ hC.frm5
        have hU := hU.chg hC (by omega)
        have hR := hR.chg hC (by omega)
        refine j_aload_n C dX2_make_66 rfl ?_
        refine j_get (T := TX2) (N := 8) (fs := _) (v := .ref (o + 72)) C hwX2 hT.1 5 (by decide) rfl (index := 25) (ref := "TreePairs") (by decide +kernel) rfl rfl dX2_make_67 ?_
        refine j_aload_n C dX2_make_70 rfl ?_
        refine j_get (T := TX2) (N := 8) (fs := _) (v := .ref (o + 1)) C hwX2 hT.1 0 (by decide) rfl (index := 11) (ref := "TreePairs") (by decide +kernel) rfl rfl dX2_make_71 ?_
        refine j_iload_n C dX2_make_74 rfl ?_
        refine j_aald (a := (mpA o t)) C hT.2.1 ⟨by omega, by omega⟩ rfl dX2_make_75 ?_
        have hN := hT.map (t := t) h1
        refine j_callmV (jrunS (rest := []) (As := [.ref (o + 72), .ref (mpA o t)]) C (c_X2_putReduced l G (o + 72) 48 (mpA o t) 24 (turnF (turnF hand)) (maps t)) gX2_make_X2_putReduced rfl 2 (by decide +kernel) rfl rfl ⟨Nat.le_of_ble_eq_true rfl, Nat.le_of_ble_eq_true rfl⟩ ⟨hR, hN, by omega, by omega, fun q hq => (b2 q hq).mono (by decide)⟩ rfl rfl (Nat.le_of_ble_eq_true rfl) ⟨Nat.le_of_ble_eq_true rfl, Nat.le_of_ble_eq_true rfl⟩ dX2_make_76) (fun q hq => by obtain ⟨h1, h2⟩ := hq; exact ⟨by omega, by omega⟩) (fun H4 h76 hF => ?_)
        have hU := hU.frm hF (by intro q h1 h2 h3; (try dsimp only at h3); omega)
        have hR := hR.frm hF (by intro q h1 h2 h3; (try dsimp only at h3); omega)
        have hT := hT.setmap h1 h76 hF
        have hN := h76
        refine j_aload_n C dX2_make_79 rfl ?_
        refine j_get (T := TX2) (N := 8) (fs := _) (v := .ref (o + 1)) C hwX2 hT.1 0 (by decide) rfl (index := 11) (ref := "TreePairs") (by decide +kernel) rfl rfl dX2_make_80 ?_
        refine j_iload_n C dX2_make_83 rfl ?_
        refine j_aald (a := (mpA o t)) C hT.2.1 ⟨by omega, by omega⟩ rfl dX2_make_84 ?_
        refine j_get (T := TX1) (N := 5) (fs := _) (v := .int (zI ((redF (turnF (turnF hand))).length : Int))) C hwX1 hN.ob 4 (by decide) rfl (index := 35) (ref := "TreePairs$Pairs") (by decide +kernel) rfl rfl dX2_make_85 ?_
        exact j_iret C hr (Nat.le_refl _) (Nat.zero_le _) (by unfold opMake; rw [if_pos h1, if_pos ⟨h25, h49⟩]; exact ⟨rfl, hT⟩) dX2_make_88
      · skip
        refine j_if_ne (tgt := 58) C dX2_make_52 (by decide) ⟨by decide, by decide⟩ (fun c52 => absurd c52 (by decide)) (fun c52 => ?_)
        refine j_bipush C dX2_make_55 (by decide) ?_
        exact j_iret C hr (Nat.le_refl _) (Nat.zero_le _) (by unfold opMake; rw [if_pos h1, if_neg (fun h => h49 h.2)]; exact ⟨rfl, hT⟩) dX2_make_57
    · skip
      refine j_if_ne (tgt := 34) C dX2_make_28 (by decide) ⟨by decide, by decide⟩ (fun c28 => absurd c28 (by decide)) (fun c28 => ?_)
      refine j_bipush C dX2_make_31 (by decide) ?_
      exact j_iret C hr (Nat.le_refl _) (Nat.zero_le _) (by unfold opMake; rw [if_pos h1, if_neg (fun h => h25 h.1)]; exact ⟨rfl, hT⟩) dX2_make_33
  · skip
    refine j_if_ne (tgt := 10) C dX2_make_4 (by decide) ⟨by decide, by decide⟩ (fun c4 => absurd c4 (by decide)) (fun c4 => ?_)
    refine j_bipush C dX2_make_7 (by decide) ?_
    exact j_iret C hr (Nat.le_refl _) (Nat.zero_le _) (by unfold opMake; rw [if_neg h1]; exact ⟨rfl, hT⟩) dX2_make_9

set_option maxHeartbeats 4000000 in
set_option maxRecDepth 100000 in
/-- X2_go -/
theorem c_X2_go (l : Launch) (G : Gx) (o : Nat) (maps : Int → List Q4) (hand : List Q4) (sd sc : Int) (near : Value) (x z y : Int) : Met l yX2_go wsX2_go ({ frames := 3, cells := 0, slots := 0, locals := 67 } : Room) (cPc G [.ref o, .int (zI x), .int (zI z), .long (zL y)] (fun H => TP G H o maps hand sd sc near ∧ iR x ∧ iR z ∧ lR y ∧ (∀ t : Int, 0 ≤ t → t < 12 → 1 ≤ (maps t).length → VM (maps t)))) (qmI (fun r H => (thP maps x ∧ goP z y ∧ r = 1 ∧ ∃ i : Int, (0 ≤ i ∧ i < (maps x).length) ∧ st1 (qat (maps x) i) ≤ y * 2 ^ (30 - z).toNat / 128 ∧ y * 2 ^ (30 - z).toNat / 128 < en1 (qat (maps x) i) ∧ TP G H o maps hand (lowF 53 (goC (qat (maps x) i) z y)).1 (lowF 53 (goC (qat (maps x) i) z y)).2 near) ∨ (¬ (thP maps x ∧ goP z y) ∧ r = (if thP maps x then -102 else -101) ∧ TP G H o maps hand sd sc near)) (fun q : Nat => o ≤ q ∧ q < o + 82)) 0 0 (fun q : Nat => o ≤ q ∧ q < o + 82) := by
  refine Met.ofJ (cc := cX2_go) (maxL := 15) (ret := (some .int)) (lv0 := [(0, .ref o), (1, .int (zI x)), (2, .int (zI z)), (3, .long (zL y))]) (by decide) rfl (Nat.le_of_ble_eq_true rfl) rfl ?_
  intro p e s m args below meth c C hr hnm hpre
  obtain ⟨hT, ⟨hx1, hx2⟩, ⟨hz1, hz2⟩, ⟨hy1, hy2⟩, hV⟩ := hpre
  have hwX1 : ∀ w ∈ u_ws RX1 TX1 5, w ∈ wsX2_go := by decide +kernel
  have hwX2 : ∀ w ∈ u_ws RX2 TX2 8, w ∈ wsX2_go := by decide +kernel
  refine j_aload_n C dX2_go_0 rfl ?_
  refine j_iload_n C dX2_go_1 rfl ?_
  refine j_callI (jrunV (rest := []) (As := [.int (zI x)]) C (c_X2_isThere l G o maps hand sd sc near x) gX2_go_X2_isThere rfl 1 (by decide +kernel) rfl rfl ⟨Nat.le_of_ble_eq_true rfl, Nat.le_of_ble_eq_true rfl⟩ hT.1 rfl ⟨hT, by omega, by omega⟩ rfl rfl (Nat.le_of_ble_eq_true rfl) ⟨Nat.le_of_ble_eq_true rfl, Nat.le_of_ble_eq_true rfl⟩ dX2_go_2) (fun r2 h2 => ?_)
  rcases h2 with ⟨h2, rfl⟩ | ⟨h2, rfl⟩
  · skip
    refine j_if_ne (tgt := 11) C dX2_go_5 (by decide) ⟨by decide, by decide⟩ (fun c5 => ?_) (fun c5 => absurd c5 (by decide))
    refine j_iload_n C dX2_go_11 rfl ?_
    refine j_if_lt (tgt := 35) C dX2_go_12 (by decide) ⟨by omega, by omega⟩ (fun c12 => ?_) (fun c12 => ?_)
    · skip
      refine j_bipush C dX2_go_35 (by decide) ?_
      exact j_iret C hr (Nat.le_refl _) (Nat.zero_le _) (Or.inr ⟨fun h => by have := h.2; omega, (if_pos h2).symm, hT⟩) dX2_go_37
    · skip
      refine j_iload_n C dX2_go_15 rfl ?_
      refine j_bipush C dX2_go_16 (by decide) ?_
      refine j_icmp_gt (tgt := 35) C dX2_go_18 (by decide) ⟨by omega, by omega⟩ ⟨by decide, by decide⟩ (fun c18 => ?_) (fun c18 => ?_)
      · skip
        refine j_bipush C dX2_go_35 (by decide) ?_
        exact j_iret C hr (Nat.le_refl _) (Nat.zero_le _) (Or.inr ⟨fun h => by have := h.2; omega, (if_pos h2).symm, hT⟩) dX2_go_37
      · skip
        refine j_lload_n C dX2_go_21 rfl ?_
        refine j_lconst (z := 0) C dX2_go_22 rfl ?_
        refine j_lcmp_lt (tgt := 35) C dX2_go_23 dX2_go_24 (by decide) ⟨by omega, by omega⟩ ⟨by decide, by decide⟩ (fun c23 => ?_) (fun c23 => ?_)
        · skip
          refine j_bipush C dX2_go_35 (by decide) ?_
          exact j_iret C hr (Nat.le_refl _) (Nat.zero_le _) (Or.inr ⟨fun h => by have := h.2; omega, (if_pos h2).symm, hT⟩) dX2_go_37
        · skip
          refine j_lload_n C dX2_go_27 rfl ?_
          refine j_lconst (z := 1) C dX2_go_28 rfl ?_
          refine j_iload_n C dX2_go_29 rfl ?_
          refine j_lshl C dX2_go_30 ⟨by omega, by omega⟩ ?_
          have e1 : (1 : Int) * 2 ^ z.toNat = 2 ^ z.toNat := Int.one_mul _
          have hp := pow_le_pow2 (m := z.toNat) (n := 30) (by omega)
          have hp1 := two_pow_pos z.toNat
          have hp2 : (2 : Int) ^ 30 = 1073741824 := rfl
          refine j_lcmp_lt (tgt := 38) C dX2_go_31 dX2_go_32 (by decide) ⟨by omega, by omega⟩ ⟨by omega, by omega⟩ (fun c31 => ?_) (fun c31 => ?_)
          · skip
            have hg : goP z y := ⟨by omega, by omega, by omega, by omega⟩
            have hc := go_c hg
            have hVx := hV x h2.1.1 h2.1.2 h2.2
            have hln := hVx.len
            refine j_aload_n C dX2_go_38 rfl ?_
            refine j_get (T := TX2) (N := 8) (fs := _) (v := .ref (o + 1)) C hwX2 hT.1 0 (by decide) rfl (index := 11) (ref := "TreePairs") (by decide +kernel) rfl rfl dX2_go_39 ?_
            refine j_iload_n C dX2_go_42 rfl ?_
            refine j_aald (a := (mpA o x)) C hT.2.1 ⟨by omega, by omega⟩ rfl dX2_go_43 ?_
            have hM := hT.map (t := x) h2.1
            obtain ⟨d, c0, e0, b, hP, hRp, hcap⟩ := hM
            have hcR := hP.capR
            refine j_astore (lv' := [(0, .ref o), (1, .int (zI x)), (2, .int (zI z)), (3, .long (zL y)), (5, .ref (mpA o x))]) C dX2_go_44 (by decide) rfl ?_
            refine j_lload_n C dX2_go_46 rfl ?_
            refine j_bipush C dX2_go_47 (by decide) ?_
            refine j_iload_n C dX2_go_49 rfl ?_
            refine j_isub C dX2_go_50 ?_
            refine j_lshl C dX2_go_51 ⟨by omega, by omega⟩ ?_
            refine j_lstore (lv' := [(0, .ref o), (1, .int (zI x)), (2, .int (zI z)), (3, .long (zL y)), (5, .ref (mpA o x)), (6, .long (zL (y * 2 ^ (30 - z).toNat)))]) C dX2_go_52 (by decide) rfl ?_
            refine j_aload C dX2_go_54 rfl ?_
            refine j_lload C dX2_go_56 rfl ?_
            refine j_bipush C dX2_go_58 (by decide) ?_
            refine j_lshr C dX2_go_60 ⟨by omega, by omega⟩ ⟨by decide, by decide⟩ ?_
            have hltr := cut_ltr hVx.cut hVx.B
            have h7 : (y * 2 ^ (30 - z).toNat) / 2 ^ (7 : Int).toNat = (y * 2 ^ (30 - z).toNat) / 128 := rfl
            have hS2 : ∀ i j, 0 ≤ i → i < j → j < ((maps x).length : Int) → c0 i * 2 ^ (23 - d i).toNat < c0 j * 2 ^ (23 - d j).toNat := fun i j g0 g1 g2 => by have := hltr.lt hVx.B g0 g1 g2; rw [hRp i g0 (by omega), hRp j (by omega) g2] at this; exact this
            have hL2 : ∀ i, 0 ≤ i → i < ((maps x).length : Int) → Lf 23 (d i) (c0 i) := fun i g0 g1 => (hRp.bnd hVx.B g0 g1).1
            have hz2 : c0 0 * 2 ^ (23 - d 0).toNat = 0 := by have := hltr.2; rw [hRp 0 (by omega) (by omega)] at this; exact this
            refine j_callI (jrunV (rest := []) (As := [.long (zL ((y * 2 ^ (30 - z).toNat) / 2 ^ (7 : Int).toNat))]) C (c_X1_holderOf l G (mpA o x) 24 (maps x).length d c0 e0 b ((y * 2 ^ (30 - z).toNat) / 2 ^ (7 : Int).toNat)) gX2_go_X1_holderOf rfl 1 (by decide +kernel) rfl rfl ⟨Nat.le_of_ble_eq_true rfl, Nat.le_of_ble_eq_true rfl⟩ hP.1 rfl ⟨hP, ⟨by omega, by omega⟩, by omega, ⟨by omega, by omega⟩, hL2, hS2, by omega⟩ rfl rfl (Nat.le_of_ble_eq_true rfl) ⟨Nat.le_of_ble_eq_true rfl, Nat.le_of_ble_eq_true rfl⟩ dX2_go_61) (fun i h61 => ?_)
            obtain ⟨r1, r2, r3, r4⟩ := h61
            have q1 := hRp i r1 r2
            have b1 := hRp.bnd hVx.B r1 r2
            have y1 := b1.1.b23
            have y2 := b1.2.b23
            have hBi := hVx.B _ (qat_mem r1 r2)
            have hs1 : st1 (qat (maps x) i) ≤ (y * 2 ^ (30 - z).toNat) / 128 := by rw [q1]; exact r3
            have hs2 : (y * 2 ^ (30 - z).toNat) / 128 < en1 (qat (maps x) i) := ho1 hVx.cut hVx.B r1 r2 (by omega) (fun k g1 g2 => by rw [hRp k (by omega) g2]; exact r4 k g1 g2)
            have hgb := goC_b hBi hg hs1 hs2
            have hgo : goC (qat (maps x) i) z y = b i * 2 ^ (53 - e0 i).toNat + (y * 2 ^ (30 - z).toNat - c0 i * 2 ^ (30 - d i).toNat) * 2 ^ (23 + d i - e0 i).toNat := by rw [q1]; rfl
            rw [hgo] at hgb
            refine j_istore (lv' := [(0, .ref o), (1, .int (zI x)), (2, .int (zI z)), (3, .long (zL y)), (5, .ref (mpA o x)), (6, .long (zL (y * 2 ^ (30 - z).toNat))), (8, .int (zI i))]) C dX2_go_64 (by decide) rfl ?_
            refine j_aload C dX2_go_66 rfl ?_
            refine j_get (T := TX1) (N := 5) (fs := _) (v := .ref ((mpA o x) + 1)) C hwX1 hP.1 0 (by decide) rfl (index := 111) (ref := "TreePairs$Pairs") (by decide +kernel) rfl rfl dX2_go_68 ?_
            refine j_iload C dX2_go_71 rfl ?_
            refine j_iald C hP.2.1 ⟨by omega, by omega⟩ dX2_go_73 ?_
            refine j_istore (lv' := [(0, .ref o), (1, .int (zI x)), (2, .int (zI z)), (3, .long (zL y)), (5, .ref (mpA o x)), (6, .long (zL (y * 2 ^ (30 - z).toNat))), (8, .int (zI i)), (9, .int (zI (d i)))]) C dX2_go_74 (by decide) rfl ?_
            refine j_aload C dX2_go_76 rfl ?_
            refine j_get (T := TX1) (N := 5) (fs := _) (v := .ref ((mpA o x) + 3)) C hwX1 hP.1 2 (by decide) rfl (index := 114) (ref := "TreePairs$Pairs") (by decide +kernel) rfl rfl dX2_go_78 ?_
            refine j_iload C dX2_go_81 rfl ?_
            refine j_iald C hP.2.2.2.1 ⟨by omega, by omega⟩ dX2_go_83 ?_
            refine j_istore (lv' := [(0, .ref o), (1, .int (zI x)), (2, .int (zI z)), (3, .long (zL y)), (5, .ref (mpA o x)), (6, .long (zL (y * 2 ^ (30 - z).toNat))), (8, .int (zI i)), (9, .int (zI (d i))), (10, .int (zI (e0 i)))]) C dX2_go_84 (by decide) rfl ?_
            refine j_lload C dX2_go_86 rfl ?_
            refine j_aload C dX2_go_88 rfl ?_
            refine j_get (T := TX1) (N := 5) (fs := _) (v := .ref ((mpA o x) + 2)) C hwX1 hP.1 1 (by decide) rfl (index := 117) (ref := "TreePairs$Pairs") (by decide +kernel) rfl rfl dX2_go_90 ?_
            refine j_iload C dX2_go_93 rfl ?_
            refine j_lald C hP.2.2.1 ⟨by omega, by omega⟩ dX2_go_95 ?_
            refine j_bipush C dX2_go_96 (by decide) ?_
            refine j_iload C dX2_go_98 rfl ?_
            refine j_isub C dX2_go_100 ?_
            refine j_lshl C dX2_go_101 ⟨by omega, by omega⟩ ?_
            refine j_lsub C dX2_go_102 ?_
            refine j_lstore (lv' := [(0, .ref o), (1, .int (zI x)), (2, .int (zI z)), (3, .long (zL y)), (5, .ref (mpA o x)), (6, .long (zL (y * 2 ^ (30 - z).toNat))), (8, .int (zI i)), (9, .int (zI (d i))), (10, .int (zI (e0 i))), (11, .long (zL ((y * 2 ^ (30 - z).toNat) - ((c0 i) * 2 ^ (30 - (d i)).toNat))))]) C dX2_go_103 (by decide) rfl ?_
            refine j_aload C dX2_go_105 rfl ?_
            refine j_get (T := TX1) (N := 5) (fs := _) (v := .ref ((mpA o x) + 4)) C hwX1 hP.1 3 (by decide) rfl (index := 121) (ref := "TreePairs$Pairs") (by decide +kernel) rfl rfl dX2_go_107 ?_
            refine j_iload C dX2_go_110 rfl ?_
            refine j_lald C hP.2.2.2.2 ⟨by omega, by omega⟩ dX2_go_112 ?_
            refine j_bipush C dX2_go_113 (by decide) ?_
            refine j_iload C dX2_go_115 rfl ?_
            refine j_isub C dX2_go_117 ?_
            refine j_lshl C dX2_go_118 ⟨by omega, by omega⟩ ?_
            refine j_lstore (lv' := [(0, .ref o), (1, .int (zI x)), (2, .int (zI z)), (3, .long (zL y)), (5, .ref (mpA o x)), (6, .long (zL (y * 2 ^ (30 - z).toNat))), (8, .int (zI i)), (9, .int (zI (d i))), (10, .int (zI (e0 i))), (11, .long (zL ((y * 2 ^ (30 - z).toNat) - ((c0 i) * 2 ^ (30 - (d i)).toNat)))), (13, .long (zL ((b i) * 2 ^ (53 - (e0 i)).toNat)))]) C dX2_go_119 (by decide) rfl ?_
            refine j_aload_n C dX2_go_121 rfl ?_
            refine j_bipush C dX2_go_122 (by decide) ?_
            refine j_lload C dX2_go_124 rfl ?_
            refine j_lload C dX2_go_126 rfl ?_
            refine j_bipush C dX2_go_128 (by decide) ?_
            refine j_iload C dX2_go_130 rfl ?_
            refine j_iadd C dX2_go_132 ?_
            refine j_iload C dX2_go_133 rfl ?_
            refine j_isub C dX2_go_135 ?_
            refine j_lshl C dX2_go_136 ⟨by omega, by omega⟩ ?_
            refine j_ladd C dX2_go_137 ?_
            refine j_callmV (jrunV (rest := []) (As := [.int (zI 53), .long (zL (((b i) * 2 ^ (53 - (e0 i)).toNat) + (((y * 2 ^ (30 - z).toNat) - ((c0 i) * 2 ^ (30 - (d i)).toNat)) * 2 ^ ((23 + (d i)) - (e0 i)).toNat)))]) C (c_X2_see l G o maps hand sd sc near 53 (b i * 2 ^ (53 - e0 i).toNat + (y * 2 ^ (30 - z).toNat - c0 i * 2 ^ (30 - d i).toNat) * 2 ^ (23 + d i - e0 i).toNat)) gX2_go_X2_see rfl 2 (by decide +kernel) rfl rfl ⟨Nat.le_of_ble_eq_true rfl, Nat.le_of_ble_eq_true rfl⟩ hT.1 rfl ⟨hT, ⟨by decide, by decide⟩, ⟨by omega, by omega⟩⟩ rfl rfl (Nat.le_of_ble_eq_true rfl) ⟨Nat.le_of_ble_eq_true rfl, Nat.le_of_ble_eq_true rfl⟩ dX2_go_138) (fun q hq => hq) (fun H1 h138 hF => ?_)
            have hT := h138
            refine j_iconst C dX2_go_141 ?_
            exact j_iret C hr (Nat.le_refl _) (Nat.zero_le _) (Or.inl ⟨h2, hg, rfl, i, ⟨r1, r2⟩, hs1, hs2, by rw [hgo]; exact hT⟩) dX2_go_142
          · skip
            refine j_bipush C dX2_go_35 (by decide) ?_
            exact j_iret C hr (Nat.le_refl _) (Nat.zero_le _) (Or.inr ⟨fun h => by have := h.2; omega, (if_pos h2).symm, hT⟩) dX2_go_37
  · skip
    refine j_if_ne (tgt := 11) C dX2_go_5 (by decide) ⟨by decide, by decide⟩ (fun c5 => absurd c5 (by decide)) (fun c5 => ?_)
    refine j_bipush C dX2_go_8 (by decide) ?_
    exact j_iret C hr (Nat.le_refl _) (Nat.zero_le _) (Or.inr ⟨fun h => h2 h.1, (if_neg h2).symm, hT⟩) dX2_go_10
