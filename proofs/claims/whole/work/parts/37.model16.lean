set_option maxHeartbeats 4000000 in
set_option maxRecDepth 100000 in
/-- X3_makeBall -/
theorem c_X3_makeBall (l : Launch) (G : Gx) (o : Nat) (uh ud uc us uo ub uw ua ue ux : Int) (m0 m1 m3 m7 m8 m12 m13 m14 m15 m16 : Int → Int) : Met l yX3_makeBall wsX3_makeBall ({ frames := 4, cells := 0, slots := 0, locals := 107 } : Room) (cPc G [.ref o] (fun H => MP G H o uh ud uc us uo ub uw ua ue ux m0 m1 m3 m7 m8 m12 m13 m14 m15 m16 ∧ BL ub uw m12 m13 m14)) (qmV (fun H => ∃ us' uo' uw' m7' m8' m12' m13' m14' m15', MP G H o uh ud uc us' uo' 1 uw' ua ue ux m0 m1 m3 m7' m8' m12' m13' m14' m15' m16 ∧ WT (ballL 4) uw' m12' m13' ∧ ∀ k : Int, 0 ≤ k → k ≤ 5 → m14' k = firstF k.toNat) (fun q : Nat => o ≤ q ∧ q < o + 11)) 0 0 (fun q : Nat => o ≤ q ∧ q < o + 11) := by
  refine Met.ofJ (cc := cX3_makeBall) (maxL := 4) (ret := none) (lv0 := [(0, .ref o)]) (by decide) rfl (Nat.le_of_ble_eq_true rfl) rfl ?_
  intro p e s m args below meth c C hr hnm hpre
  obtain ⟨hM, hBL⟩ := hpre
  have hwX3 : ∀ w ∈ u_ws RX3 TX3 20, w ∈ wsX3_makeBall := by decide +kernel
  have hub : ub = 0 ∨ ub = 1 := (by rcases hBL with h | h; exact Or.inl h.1; exact Or.inr h.1)
  refine j_aload_n C dX3_makeBall_0 rfl ?_
  refine j_get (T := TX3) (N := 20) (fs := _) (v := .int (zI ub)) C hwX3 hM.1 10 (by decide) rfl (index := 143) (ref := "TreePairsModel") (by decide +kernel) rfl rfl dX3_makeBall_1 ?_
  refine j_if_eq (tgt := 8) C dX3_makeBall_4 (by decide) ⟨by omega, by omega⟩ (fun c4 => ?_) (fun c4 => ?_)
  · skip
    have h0 : ub = 0 ∧ uw = 0 := (by rcases hBL with h | h; exact h; have := h.1; omega)
    have hWT0 : WT [] uw m12 m13 := (by rw [h0.2]; exact WT.nil)
    refine j_aload_n C dX3_makeBall_8 rfl ?_
    refine j_iconst C dX3_makeBall_9 ?_
    refine j_put (T := TX3) (N := 20) (fs' := [.ref (o + 1), .ref (o + 2), .int (zI uh), .ref (o + 3), .int (zI ud), .long (zL uc), .int (zI us), .ref (o + 4), .ref (o + 5), .int (zI uo), .int (zI 1), .int (zI uw), .ref (o + 6), .ref (o + 7), .ref (o + 8), .ref (o + 9), .ref (o + 10), .long (zL ua), .long (zL ue), .long (zL ux)]) (ty := .boolean) C tyX3 tyX3_ok nmX3 hwX3 hM.1 10 (by decide) rfl (index := 143) (ref := "TreePairsModel") (by decide +kernel) rfl rfl (by decide +kernel) rfl rfl (Nat.le_of_ble_eq_true rfl) rfl (by omega) dX3_makeBall_10 (fun H1 hO hC => ?_)
    have hM := hM.put_hasBall hO hC
    refine j_aload_n C dX3_makeBall_13 rfl ?_
    refine j_callmV (jrunV (rest := []) (As := []) C (c_X3_nothing l G o uh ud uc us uo (1 : Int) uw ua ue ux m0 m1 m3 m7 m8 m12 m13 m14 m15 m16) gX3_makeBall_X3_nothing rfl 0 (by decide +kernel) rfl rfl ⟨Nat.le_of_ble_eq_true rfl, Nat.le_of_ble_eq_true rfl⟩ hM.1 rfl hM rfl rfl (Nat.le_of_ble_eq_true rfl) ⟨Nat.le_of_ble_eq_true rfl, Nat.le_of_ble_eq_true rfl⟩ dX3_makeBall_14) (by intro q hq; (try dsimp only at hq ⊢); omega) (fun H2 h14 hF => ?_)
    obtain ⟨w14, hM, hL7⟩ := h14
    refine j_aload_n C dX3_makeBall_17 rfl ?_
    refine j_callmV (jrunV (rest := []) (As := []) C (c_X3_note l G o uh ud uc (1 : Int) uo (1 : Int) uw ua ue ux m0 m1 m3 w14 m8 m12 m13 m14 m15 m16 ([]) ([(0, 0, 0, 0)])) gX3_makeBall_X3_note rfl 0 (by decide +kernel) rfl rfl ⟨Nat.le_of_ble_eq_true rfl, Nat.le_of_ble_eq_true rfl⟩ hM.1 rfl ⟨hM, rfl, by decide, hL7, hWT0, fun x hx => absurd hx List.not_mem_nil, by decide, fun q hq => by rw [List.mem_singleton.mp hq]; exact ⟨⟨by decide, by decide, by decide, by decide⟩, ⟨by decide, by decide, by decide, by decide⟩⟩, by decide⟩ rfl rfl (Nat.le_of_ble_eq_true rfl) ⟨Nat.le_of_ble_eq_true rfl, Nat.le_of_ble_eq_true rfl⟩ dX3_makeBall_18) (by intro q hq; (try dsimp only at hq ⊢); omega) (fun H3 h18 hF => ?_)
    obtain ⟨y18, p18, q18, hM, hWT⟩ := h18
    have hWT : WT (ballL 0) y18 p18 q18 := hWT
    refine j_aload_n C dX3_makeBall_21 rfl ?_
    refine j_get (T := TX3) (N := 20) (fs := _) (v := .ref (o + 8)) C hwX3 hM.1 14 (by decide) rfl (index := 32) (ref := "TreePairsModel") (by decide +kernel) rfl rfl dX3_makeBall_22 ?_
    refine j_iconst C dX3_makeBall_25 ?_
    refine j_iconst C dX3_makeBall_26 ?_
    refine j_iast C hM.2.2.2.2.2.2.2.2.1 ⟨by omega, by omega⟩ (by omega) dX3_makeBall_27 (fun H4 hR hC => ?_)
    have hM := hM.st_first hR hC
    refine j_aload_n C dX3_makeBall_28 rfl ?_
    refine j_get (T := TX3) (N := 20) (fs := _) (v := .ref (o + 8)) C hwX3 hM.1 14 (by decide) rfl (index := 32) (ref := "TreePairsModel") (by decide +kernel) rfl rfl dX3_makeBall_29 ?_
    refine j_iconst C dX3_makeBall_32 ?_
    refine j_iconst C dX3_makeBall_33 ?_
    refine j_iast C hM.2.2.2.2.2.2.2.2.1 ⟨by omega, by omega⟩ (by omega) dX3_makeBall_34 (fun H5 hR hC => ?_)
    have hM := hM.st_first hR hC
    refine j_iconst C dX3_makeBall_35 ?_
    refine j_istore_n (lv' := [(0, .ref o), (1, .int (zI 1))]) C dX3_makeBall_36 (by decide) rfl ?_
    have K37 : ∀ (fu37 : Nat) (n us uo uw : Int) (m7 m8 m12 m13 m14 m15 : Int → Int) (Hl1 : Heap), (5 - n).toNat < fu37 → MP G Hl1 o uh ud uc us uo 1 uw ua ue ux m0 m1 m3 m7 m8 m12 m13 m14 m15 m16 → 1 ≤ n ∧ n ≤ 5 → WT (ballL (n - 1).toNat) uw m12 m13 → (∀ k : Int, 0 ≤ k → k ≤ n → m14 k = firstF k.toNat) → JJ p l e ({ frames := 4, cells := 0, slots := 0, locals := 107 } : Room) s m args below meth c (MQ below (qmV (fun H => ∃ us' uo' uw' m7' m8' m12' m13' m14' m15', MP G H o uh ud uc us' uo' 1 uw' ua ue ux m0 m1 m3 m7' m8' m12' m13' m14' m15' m16 ∧ WT (ballL 4) uw' m12' m13' ∧ ∀ k : Int, 0 ≤ k → k ≤ 5 → m14' k = firstF k.toNat) (fun q : Nat => o ≤ q ∧ q < o + 11)) args s 0 0 (fun q : Nat => o ≤ q ∧ q < o + 11)) (fun q : Nat => o ≤ q ∧ q < o + 11) 4 Hl1 0 0 37 [(0, .ref o), (1, .int (zI n))] [] := by
      intro fu37
      induction fu37 with
      | zero => intro n us uo uw m7 m8 m12 m13 m14 m15 Hl1 hm37 hM hn hWT hF; exact absurd hm37 (Nat.not_lt_zero _)
      | succ fu37 ih37 =>
        intro n us uo uw m7 m8 m12 m13 m14 m15 Hl1 hm37 hM hn hWT hF
        refine j_iload_n C dX3_makeBall_37 rfl ?_
        refine j_iconst C dX3_makeBall_38 ?_
        refine j_icmp_gt (tgt := 133) C dX3_makeBall_39 (by decide) ⟨by omega, by omega⟩ ⟨by decide, by decide⟩ (fun c39 => ?_) (fun c39 => ?_)
        · skip
          have en : n = 5 := by omega
          subst en
          exact j_vret C hr (Nat.le_refl _) (Nat.zero_le _) ⟨_, _, _, _, _, _, _, _, _, hM, hWT, hF⟩ dX3_makeBall_133
        · skip
          have hfa := hF (n - 1) (by omega) (by omega)
          have hfb := hF n (by omega) (by omega)
          have efb : firstF n.toNat = (ballL (n - 1).toNat).length := (by rw [show n.toNat = (n - 1).toNat + 1 by omega]; rfl)
          rw [efb] at hfb
          have hfl := firstF_le (n := (n - 1).toNat) (by omega)
          have hpl := pre_len (ballL_4 (n := (n - 1).toNat) (by omega))
          refine j_aload_n C dX3_makeBall_42 rfl ?_
          refine j_get (T := TX3) (N := 20) (fs := _) (v := .ref (o + 8)) C hwX3 hM.1 14 (by decide) rfl (index := 32) (ref := "TreePairsModel") (by decide +kernel) rfl rfl dX3_makeBall_43 ?_
          refine j_iload_n C dX3_makeBall_46 rfl ?_
          refine j_iconst C dX3_makeBall_47 ?_
          refine j_isub C dX3_makeBall_48 ?_
          refine j_iald C hM.2.2.2.2.2.2.2.2.1 ⟨by omega, by omega⟩ dX3_makeBall_49 ?_
          refine j_istore_n (lv' := [(0, .ref o), (1, .int (zI n)), (2, .int (zI (m14 (n - 1))))]) C dX3_makeBall_50 (by decide) rfl ?_
          have K51 : ∀ (fu51 : Nat) (w us uo uw : Int) (m7 m8 m12 m13 m15 : Int → Int) (Hl2 : Heap), (((ballL (n - 1).toNat).length : Int) - w).toNat < fu51 → MP G Hl2 o uh ud uc us uo 1 uw ua ue ux m0 m1 m3 m7 m8 m12 m13 m14 m15 m16 → ((firstF (n - 1).toNat) : Int) ≤ w ∧ w ≤ (ballL (n - 1).toNat).length → WT (fromW (ballL (n - 1).toNat) (firstF (n - 1).toNat) w) uw m12 m13 → JJ p l e ({ frames := 4, cells := 0, slots := 0, locals := 107 } : Room) s m args below meth c (MQ below (qmV (fun H => ∃ us' uo' uw' m7' m8' m12' m13' m14' m15', MP G H o uh ud uc us' uo' 1 uw' ua ue ux m0 m1 m3 m7' m8' m12' m13' m14' m15' m16 ∧ WT (ballL 4) uw' m12' m13' ∧ ∀ k : Int, 0 ≤ k → k ≤ 5 → m14' k = firstF k.toNat) (fun q : Nat => o ≤ q ∧ q < o + 11)) args s 0 0 (fun q : Nat => o ≤ q ∧ q < o + 11)) (fun q : Nat => o ≤ q ∧ q < o + 11) 4 Hl2 0 0 51 [(0, .ref o), (1, .int (zI n)), (2, .int (zI w))] [] := by
            intro fu51
            induction fu51 with
            | zero => intro w us uo uw m7 m8 m12 m13 m15 Hl2 hm51 hM hw hWT; exact absurd hm51 (Nat.not_lt_zero _)
            | succ fu51 ih51 =>
              intro w us uo uw m7 m8 m12 m13 m15 Hl2 hm51 hM hw hWT
              refine j_iload_n C dX3_makeBall_51 rfl ?_
              refine j_aload_n C dX3_makeBall_52 rfl ?_
              refine j_get (T := TX3) (N := 20) (fs := _) (v := .ref (o + 8)) C hwX3 hM.1 14 (by decide) rfl (index := 32) (ref := "TreePairsModel") (by decide +kernel) rfl rfl dX3_makeBall_53 ?_
              refine j_iload_n C dX3_makeBall_56 rfl ?_
              refine j_iald C hM.2.2.2.2.2.2.2.2.1 ⟨by omega, by omega⟩ dX3_makeBall_57 ?_
              refine j_icmp_ge (tgt := 115) C dX3_makeBall_58 (by decide) ⟨by omega, by omega⟩ ⟨by omega, by omega⟩ (fun c58 => ?_) (fun c58 => ?_)
              · skip
                have eall := fromW_all (n := (n - 1).toNat) (w := w) (by omega)
                rw [eall, show (n - 1).toNat + 1 = n.toNat by omega] at hWT
                have huw := hWT.1
                refine j_aload_n C dX3_makeBall_115 rfl ?_
                refine j_get (T := TX3) (N := 20) (fs := _) (v := .ref (o + 8)) C hwX3 hM.1 14 (by decide) rfl (index := 32) (ref := "TreePairsModel") (by decide +kernel) rfl rfl dX3_makeBall_116 ?_
                refine j_iload_n C dX3_makeBall_119 rfl ?_
                refine j_iconst C dX3_makeBall_120 ?_
                refine j_iadd C dX3_makeBall_121 ?_
                refine j_aload_n C dX3_makeBall_122 rfl ?_
                refine j_get (T := TX3) (N := 20) (fs := _) (v := .int (zI uw)) C hwX3 hM.1 11 (by decide) rfl (index := 136) (ref := "TreePairsModel") (by decide +kernel) rfl rfl dX3_makeBall_123 ?_
                refine j_iast C hM.2.2.2.2.2.2.2.2.1 ⟨by omega, by omega⟩ (by omega) dX3_makeBall_126 (fun H6 hR hC => ?_)
                have hM := hM.st_first hR hC
                refine j_iinc (lv' := [(0, .ref o), (1, .int (zI (n + 1))), (2, .int (zI w))]) C dX3_makeBall_127 rfl (by decide) rfl ?_
                refine j_goto (tgt := 37) C dX3_makeBall_130 (by decide) ?_
                exact JJ.drop (lv' := [(0, .ref o), (1, .int (zI (n + 1)))]) rfl (ih37 (n + 1) _ _ _ _ _ _ _ _ _ H6 (by omega) hM ⟨by omega, by omega⟩ (by rw [show n + 1 - 1 = n by omega]; exact hWT) (fun k k0 k1 => by by_cases e : k = n + 1; (rw [e, iup_s, huw, show (n + 1).toNat = n.toNat + 1 by omega]; rfl); (rw [iup_n e]; exact hF k k0 (by omega))))
              · skip
                have hfs := fromW_s (V := (ballL (n - 1).toNat)) (lo := (firstF (n - 1).toNat)) (w := w) (by omega) (by omega)
                have hpw := fromW_pre (n := (n - 1).toNat) (by omega) (w + 1)
                rw [hfs] at hpw
                have hVX : VM (wat (ballL (n - 1).toNat) w) := ball_VM (n - 1).toNat (by omega) _ (wat_mem (by omega) (by omega))
                have hlX := hVX.len
                refine j_iconst C dX3_makeBall_61 ?_
                refine j_istore_n (lv' := [(0, .ref o), (1, .int (zI n)), (2, .int (zI w)), (3, .int (zI 0))]) C dX3_makeBall_62 (by decide) rfl ?_
                have K63 : ∀ (fu63 : Nat) (g us uo uw : Int) (m7 m8 m12 m13 m15 : Int → Int) (Hl3 : Heap), (4 - g).toNat < fu63 → MP G Hl3 o uh ud uc us uo 1 uw ua ue ux m0 m1 m3 m7 m8 m12 m13 m14 m15 m16 → 0 ≤ g ∧ g ≤ 4 → WT (fourK (fromW (ballL (n - 1).toNat) (firstF (n - 1).toNat) w) (wat (ballL (n - 1).toNat) w) g.toNat) uw m12 m13 → JJ p l e ({ frames := 4, cells := 0, slots := 0, locals := 107 } : Room) s m args below meth c (MQ below (qmV (fun H => ∃ us' uo' uw' m7' m8' m12' m13' m14' m15', MP G H o uh ud uc us' uo' 1 uw' ua ue ux m0 m1 m3 m7' m8' m12' m13' m14' m15' m16 ∧ WT (ballL 4) uw' m12' m13' ∧ ∀ k : Int, 0 ≤ k → k ≤ 5 → m14' k = firstF k.toNat) (fun q : Nat => o ≤ q ∧ q < o + 11)) args s 0 0 (fun q : Nat => o ≤ q ∧ q < o + 11)) (fun q : Nat => o ≤ q ∧ q < o + 11) 4 Hl3 0 0 63 [(0, .ref o), (1, .int (zI n)), (2, .int (zI w)), (3, .int (zI g))] [] := by
                  intro fu63
                  induction fu63 with
                  | zero => intro g us uo uw m7 m8 m12 m13 m15 Hl3 hm63 hM hg hWT; exact absurd hm63 (Nat.not_lt_zero _)
                  | succ fu63 ih63 =>
                    intro g us uo uw m7 m8 m12 m13 m15 Hl3 hm63 hM hg hWT
                    refine j_iload_n C dX3_makeBall_63 rfl ?_
                    refine j_iconst C dX3_makeBall_64 ?_
                    refine j_icmp_ge (tgt := 109) C dX3_makeBall_65 (by decide) ⟨by omega, by omega⟩ ⟨by decide, by decide⟩ (fun c65 => ?_) (fun c65 => ?_)
                    · skip
                      have eg : g = 4 := by omega
                      rw [eg] at hWT
                      have hWT : WT (fromW (ballL (n - 1).toNat) (firstF (n - 1).toNat) (w + 1)) uw m12 m13 := (by rw [hfs]; exact hWT)
                      refine j_iinc (lv' := [(0, .ref o), (1, .int (zI n)), (2, .int (zI (w + 1))), (3, .int (zI g))]) C dX3_makeBall_109 rfl (by decide) rfl ?_
                      refine j_goto (tgt := 51) C dX3_makeBall_112 (by decide) ?_
                      exact JJ.drop (lv' := [(0, .ref o), (1, .int (zI n)), (2, .int (zI (w + 1)))]) rfl (ih51 (w + 1) _ _ _ _ _ _ _ _ Hl3 (by omega) hM ⟨by omega, by omega⟩ hWT)
                    · skip
                      have hpc : (fourK (fromW (ballL (n - 1).toNat) (firstF (n - 1).toNat) w) (wat (ballL (n - 1).toNat) w) g.toNat) <+: ballL 4 := (fourW_pre _ _ g.toNat (by omega)).trans hpw
                      have hpc2 : (fourK (fromW (ballL (n - 1).toNat) (firstF (n - 1).toNat) w) (wat (ballL (n - 1).toNat) w) (g + 1).toNat) <+: ballL 4 := (fourW_pre _ _ (g + 1).toNat (by omega)).trans hpw
                      have hXc : wat (fourK (fromW (ballL (n - 1).toNat) (firstF (n - 1).toNat) w) (wat (ballL (n - 1).toNat) w) g.toNat) w = (wat (ballL (n - 1).toNat) w) := wat_pre (((fromW_pre0 _ _ _)).trans (fourK_pre _ _ 0 g.toNat |>.trans (by rw [Nat.zero_add]; exact List.prefix_refl _))) (by omega) (by omega)
                      have hlc : (ballL (n - 1).toNat).length ≤ (fourK (fromW (ballL (n - 1).toNat) (firstF (n - 1).toNat) w) (wat (ballL (n - 1).toNat) w) g.toNat).length := ((fromW_pre0 _ _ _).trans (fourK_pre _ _ 0 g.toNat |>.trans (by rw [Nat.zero_add]; exact List.prefix_refl _))).length_le
                      have hww := hWT.2 w (by omega) (by omega)
                      rw [hXc] at hww
                      have hplc := pre_len hpc
                      have hVG := genW_VM (g := g) (by omega) (by omega)
                      have ek : (fourK (fromW (ballL (n - 1).toNat) (firstF (n - 1).toNat) w) (wat (ballL (n - 1).toNat) w) (g + 1).toNat) = noteW (fourK (fromW (ballL (n - 1).toNat) (firstF (n - 1).toNat) w) (wat (ballL (n - 1).toNat) w) g.toNat) (compF (wat (ballL (n - 1).toNat) w) (genW g)) := (by rw [show (g + 1).toNat = g.toNat + 1 by omega]; show noteW (fourK (fromW (ballL (n - 1).toNat) (firstF (n - 1).toNat) w) (wat (ballL (n - 1).toNat) w) g.toNat) (compF (wat (ballL (n - 1).toNat) w) (genW (g.toNat : Int))) = _; rw [show ((g.toNat : Nat) : Int) = g by omega])
                      have hcl : (compF (wat (ballL (n - 1).toNat) w) (genW g)).length ≤ 24 := ball_small (hpc2.subset (by rw [ek]; exact noteW_mem _ _))
                      have hcB := VM.compB hVX hVG
                      refine j_aload_n C dX3_makeBall_68 rfl ?_
                      refine j_iload_n C dX3_makeBall_69 rfl ?_
                      refine j_callmV (jrunV (rest := []) (As := [.int (zI w)]) C (c_X3_loadWord l G o uh ud uc us uo (1 : Int) uw ua ue ux m0 m1 m3 m7 m8 m12 m13 m14 m15 m16 w (wat (ballL (n - 1).toNat) w)) gX3_makeBall_X3_loadWord rfl 1 (by decide +kernel) rfl rfl ⟨Nat.le_of_ble_eq_true rfl, Nat.le_of_ble_eq_true rfl⟩ hM.1 rfl ⟨hM, ⟨by omega, by omega⟩, hww.1, by omega, hVX.B, hww.2⟩ rfl rfl (Nat.le_of_ble_eq_true rfl) ⟨Nat.le_of_ble_eq_true rfl, Nat.le_of_ble_eq_true rfl⟩ dX3_makeBall_70) (by intro q hq; (try dsimp only at hq ⊢); omega) (fun H7 h70 hF => ?_)
                      obtain ⟨w70, hM, hL7⟩ := h70
                      refine j_aload_n C dX3_makeBall_73 rfl ?_
                      refine j_callmV (jrunV (rest := []) (As := []) C (c_X3_aside l G o uh ud uc ((wat (ballL (n - 1).toNat) w).length : Int) uo (1 : Int) uw ua ue ux m0 m1 m3 w70 m8 m12 m13 m14 m15 m16) gX3_makeBall_X3_aside rfl 0 (by decide +kernel) rfl rfl ⟨Nat.le_of_ble_eq_true rfl, Nat.le_of_ble_eq_true rfl⟩ hM.1 rfl ⟨hM, by omega, by omega⟩ rfl rfl (Nat.le_of_ble_eq_true rfl) ⟨Nat.le_of_ble_eq_true rfl, Nat.le_of_ble_eq_true rfl⟩ dX3_makeBall_74) (by intro q hq; (try dsimp only at hq ⊢); omega) (fun H8 h74 hF => ?_)
                      obtain ⟨w74, ew74⟩ : ∃ f, f = cpf m8 w70 0 (4 * ((wat (ballL (n - 1).toNat) w).length : Int)) := ⟨_, rfl⟩
                      have hM := h74
                      rw [← ew74] at hM
                      have hA8 := hL7.congr (g := w74) (fun k k0 k1 => by rw [ew74, cpf_in (by omega), Int.sub_zero])
                      refine j_aload_n C dX3_makeBall_77 rfl ?_
                      refine j_iload_n C dX3_makeBall_78 rfl ?_
                      refine j_iconst C dX3_makeBall_79 ?_
                      refine j_idiv C dX3_makeBall_80 ⟨by omega, by omega⟩ ⟨by decide, by decide⟩ ?_
                      refine j_callmV (jrunV (rest := []) (As := [.int (zI (g / 2))]) C (c_X3_makeStrong l G o uh ud uc ((wat (ballL (n - 1).toNat) w).length : Int) ((wat (ballL (n - 1).toNat) w).length : Int) (1 : Int) uw ua ue ux m0 m1 m3 w70 w74 m12 m13 m14 m15 m16 (g / 2)) gX3_makeBall_X3_makeStrong rfl 1 (by decide +kernel) rfl rfl ⟨Nat.le_of_ble_eq_true rfl, Nat.le_of_ble_eq_true rfl⟩ hM.1 rfl ⟨hM, by omega, by omega⟩ rfl rfl (Nat.le_of_ble_eq_true rfl) ⟨Nat.le_of_ble_eq_true rfl, Nat.le_of_ble_eq_true rfl⟩ dX3_makeBall_81) (by intro q hq; (try dsimp only at hq ⊢); omega) (fun H9 h81 hF => ?_)
                      obtain ⟨w81, hM, hL7⟩ := h81
                      have hsl := strong_len (i := g / 2) (by omega)
                      refine j_iload_n C dX3_makeBall_84 rfl ?_
                      refine j_iconst C dX3_makeBall_85 ?_
                      refine j_irem C dX3_makeBall_86 ⟨by omega, by omega⟩ ⟨by decide, by decide⟩ ?_
                      refine j_iconst C dX3_makeBall_87 ?_
                      refine j_icmp_ne (tgt := 95) C dX3_makeBall_88 (by decide) ⟨by omega, by omega⟩ ⟨by decide, by decide⟩ (fun c88 => ?_) (fun c88 => ?_)
                      · skip
                        have egw : genW g = strongF (g / 2) := if_neg c88
                        rw [← egw] at hM hL7 hsl
                        skip
                        refine j_aload_n C dX3_makeBall_95 rfl ?_
                        refine j_callmV (jrunV (rest := []) (As := []) C (c_X3_follow l G o uh ud uc ((genW g).length : Int) ((wat (ballL (n - 1).toNat) w).length : Int) (1 : Int) uw ua ue ux m0 m1 m3 w81 w74 m12 m13 m14 m15 m16 (wat (ballL (n - 1).toNat) w) (genW g)) gX3_makeBall_X3_follow rfl 0 (by decide +kernel) rfl rfl ⟨Nat.le_of_ble_eq_true rfl, Nat.le_of_ble_eq_true rfl⟩ hM.1 rfl ⟨hM, rfl, rfl, ⟨by omega, by omega⟩, hA8, hL7, hVX.B, hVG.B, by have := VM.prod_len hVX hVG; omega, VM.prod_B hVX hVG⟩ rfl rfl (Nat.le_of_ble_eq_true rfl) ⟨Nat.le_of_ble_eq_true rfl, Nat.le_of_ble_eq_true rfl⟩ dX3_makeBall_96) (by intro q hq; (try dsimp only at hq ⊢); omega) (fun H10 h96 hF => ?_)
                        obtain ⟨M, w96, x96, hM, hL7, hG, hN⟩ := h96
                        have ec := comp_of hVX hVG hG hN
                        have el : (M.length : Int) = ((compF (wat (ballL (n - 1).toNat) w) (genW g)).length : Int) := (by rw [← ec, arr_len])
                        rw [ec] at hL7
                        rw [el] at hM
                        refine j_aload_n C dX3_makeBall_99 rfl ?_
                        refine j_callmV (jrunV (rest := []) (As := []) C (c_X3_note l G o uh ud uc ((compF (wat (ballL (n - 1).toNat) w) (genW g)).length : Int) ((wat (ballL (n - 1).toNat) w).length : Int) (1 : Int) uw ua ue ux m0 m1 m3 w96 w74 m12 m13 m14 x96 m16 (fourK (fromW (ballL (n - 1).toNat) (firstF (n - 1).toNat) w) (wat (ballL (n - 1).toNat) w) g.toNat) (compF (wat (ballL (n - 1).toNat) w) (genW g))) gX3_makeBall_X3_note rfl 0 (by decide +kernel) rfl rfl ⟨Nat.le_of_ble_eq_true rfl, Nat.le_of_ble_eq_true rfl⟩ hM.1 rfl ⟨hM, rfl, by omega, hL7, hWT, pre_VM hpc, by omega, hcB, hcl⟩ rfl rfl (Nat.le_of_ble_eq_true rfl) ⟨Nat.le_of_ble_eq_true rfl, Nat.le_of_ble_eq_true rfl⟩ dX3_makeBall_100) (by intro q hq; (try dsimp only at hq ⊢); omega) (fun H11 h100 hF => ?_)
                        obtain ⟨y100, p100, q100, hM, hWT⟩ := h100
                        rw [← ek] at hWT
                        refine j_iinc (lv' := [(0, .ref o), (1, .int (zI n)), (2, .int (zI w)), (3, .int (zI (g + 1)))]) C dX3_makeBall_103 rfl (by decide) rfl ?_
                        refine j_goto (tgt := 63) C dX3_makeBall_106 (by decide) ?_
                        exact JJ.drop (lv' := [(0, .ref o), (1, .int (zI n)), (2, .int (zI w)), (3, .int (zI (g + 1)))]) rfl (ih63 (g + 1) _ _ _ _ _ _ _ _ H11 (by omega) hM ⟨by omega, by omega⟩ hWT)
                      · skip
                        have egw : genW g = turnF (strongF (g / 2)) := if_pos (by omega)
                        refine j_aload_n C dX3_makeBall_91 rfl ?_
                        refine j_callmV (jrunV (rest := []) (As := []) C (c_X3_turnWork l G o uh ud uc ((strongF (g / 2)).length : Int) ((wat (ballL (n - 1).toNat) w).length : Int) (1 : Int) uw ua ue ux m0 m1 m3 w81 w74 m12 m13 m14 m15 m16 (strongF (g / 2))) gX3_makeBall_X3_turnWork rfl 0 (by decide +kernel) rfl rfl ⟨Nat.le_of_ble_eq_true rfl, Nat.le_of_ble_eq_true rfl⟩ hM.1 rfl ⟨hM, rfl, by omega, hL7, (strong_arr (by omega) (by omega)).2⟩ rfl rfl (Nat.le_of_ble_eq_true rfl) ⟨Nat.le_of_ble_eq_true rfl, Nat.le_of_ble_eq_true rfl⟩ dX3_makeBall_92) (by intro q hq; (try dsimp only at hq ⊢); omega) (fun H12 h92 hF => ?_)
                        obtain ⟨w92, hM, hL7⟩ := h92
                        have htl := turnF_len (strongF (g / 2))
                        rw [← htl, ← egw] at hM
                        rw [← egw] at hL7 htl
                        skip
                        refine j_aload_n C dX3_makeBall_95 rfl ?_
                        refine j_callmV (jrunV (rest := []) (As := []) C (c_X3_follow l G o uh ud uc ((genW g).length : Int) ((wat (ballL (n - 1).toNat) w).length : Int) (1 : Int) uw ua ue ux m0 m1 m3 w92 w74 m12 m13 m14 m15 m16 (wat (ballL (n - 1).toNat) w) (genW g)) gX3_makeBall_X3_follow rfl 0 (by decide +kernel) rfl rfl ⟨Nat.le_of_ble_eq_true rfl, Nat.le_of_ble_eq_true rfl⟩ hM.1 rfl ⟨hM, rfl, rfl, ⟨by omega, by omega⟩, hA8, hL7, hVX.B, hVG.B, by have := VM.prod_len hVX hVG; omega, VM.prod_B hVX hVG⟩ rfl rfl (Nat.le_of_ble_eq_true rfl) ⟨Nat.le_of_ble_eq_true rfl, Nat.le_of_ble_eq_true rfl⟩ dX3_makeBall_96) (by intro q hq; (try dsimp only at hq ⊢); omega) (fun H13 h96 hF => ?_)
                        obtain ⟨M, w96, x96, hM, hL7, hG, hN⟩ := h96
                        have ec := comp_of hVX hVG hG hN
                        have el : (M.length : Int) = ((compF (wat (ballL (n - 1).toNat) w) (genW g)).length : Int) := (by rw [← ec, arr_len])
                        rw [ec] at hL7
                        rw [el] at hM
                        refine j_aload_n C dX3_makeBall_99 rfl ?_
                        refine j_callmV (jrunV (rest := []) (As := []) C (c_X3_note l G o uh ud uc ((compF (wat (ballL (n - 1).toNat) w) (genW g)).length : Int) ((wat (ballL (n - 1).toNat) w).length : Int) (1 : Int) uw ua ue ux m0 m1 m3 w96 w74 m12 m13 m14 x96 m16 (fourK (fromW (ballL (n - 1).toNat) (firstF (n - 1).toNat) w) (wat (ballL (n - 1).toNat) w) g.toNat) (compF (wat (ballL (n - 1).toNat) w) (genW g))) gX3_makeBall_X3_note rfl 0 (by decide +kernel) rfl rfl ⟨Nat.le_of_ble_eq_true rfl, Nat.le_of_ble_eq_true rfl⟩ hM.1 rfl ⟨hM, rfl, by omega, hL7, hWT, pre_VM hpc, by omega, hcB, hcl⟩ rfl rfl (Nat.le_of_ble_eq_true rfl) ⟨Nat.le_of_ble_eq_true rfl, Nat.le_of_ble_eq_true rfl⟩ dX3_makeBall_100) (by intro q hq; (try dsimp only at hq ⊢); omega) (fun H14 h100 hF => ?_)
                        obtain ⟨y100, p100, q100, hM, hWT⟩ := h100
                        rw [← ek] at hWT
                        refine j_iinc (lv' := [(0, .ref o), (1, .int (zI n)), (2, .int (zI w)), (3, .int (zI (g + 1)))]) C dX3_makeBall_103 rfl (by decide) rfl ?_
                        refine j_goto (tgt := 63) C dX3_makeBall_106 (by decide) ?_
                        exact JJ.drop (lv' := [(0, .ref o), (1, .int (zI n)), (2, .int (zI w)), (3, .int (zI (g + 1)))]) rfl (ih63 (g + 1) _ _ _ _ _ _ _ _ H14 (by omega) hM ⟨by omega, by omega⟩ hWT)
                exact JJ.drop (lv' := [(0, .ref o), (1, .int (zI n)), (2, .int (zI w)), (3, .int (zI 0))]) rfl (K63 (((4 - (0 : Int)).toNat) + 1) 0 _ _ _ _ _ _ _ _ Hl2 (Nat.lt_succ_self _) hM ⟨by omega, by omega⟩ hWT)
          exact JJ.drop (lv' := [(0, .ref o), (1, .int (zI n)), (2, .int (zI (m14 (n - 1))))]) rfl (K51 (((((ballL (n - 1).toNat).length : Int) - (m14 (n - 1))).toNat) + 1) (m14 (n - 1)) _ _ _ _ _ _ _ _ Hl1 (Nat.lt_succ_self _) hM ⟨by omega, by omega⟩ (by rw [hfa, fromW_0]; exact hWT))
    exact JJ.drop (lv' := [(0, .ref o), (1, .int (zI 1))]) rfl (K37 (((5 - (1 : Int)).toNat) + 1) 1 _ _ _ _ _ _ _ _ _ H5 (Nat.lt_succ_self _) hM ⟨by omega, by omega⟩ hWT (fun k k0 k1 => by have e : k = 0 ∨ k = 1 := (by omega); rcases e with rfl | rfl; rfl; rfl))
  · skip
    have h1 : ub = 1 ∧ WT (ballL 4) uw m12 m13 ∧ ∀ k : Int, 0 ≤ k → k ≤ 5 → m14 k = firstF k.toNat := (by rcases hBL with h | h; have := h.1; omega; exact h)
    exact j_vret C hr (Nat.le_refl _) (Nat.zero_le _) ⟨us, uo, uw, m7, m8, m12, m13, m14, m15, by rw [h1.1] at hM; exact hM, h1.2⟩ dX3_makeBall_7
