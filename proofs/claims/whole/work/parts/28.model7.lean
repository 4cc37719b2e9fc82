set_option maxHeartbeats 4000000 in
set_option maxRecDepth 100000 in
/-- X3_isCut -/
theorem c_X3_isCut (l : Launch) (G : Gx) (o : Nat) (uh ud uc us uo ub uw ua ue ux : Int) (m0 m1 m3 m7 m8 m12 m13 m14 m15 m16 : Int → Int) (L : List Q4) (w : Int) : Met l yX3_isCut wsX3_isCut ({ frames := 0, cells := 0, slots := 0, locals := 0 } : Room) (cPc G [.ref o, .int (zI w)] (fun H => MP G H o uh ud uc us uo ub uw ua ue ux m0 m1 m3 m7 m8 m12 m13 m14 m15 m16 ∧ uh = L.length ∧ L.length ≤ 24 ∧ (∀ q ∈ L, LQ 23 q) ∧ (0 ≤ w ∧ w ≤ 2) ∧ (∀ i : Int, 0 ≤ i → i < L.length → (qat L i).1 = m3 (4 * i + w) ∧ (qat L i).2.1 = m3 (4 * i + w + 1)))) (qI (fun r => (cutM L ∧ r = 1) ∨ (¬ cutM L ∧ r = 0))) 0 0 (fun _ => False) := by
  refine Met.ofJ (cc := cX3_isCut) (maxL := 10) (ret := (some .boolean)) (lv0 := [(0, .ref o), (1, .int (zI w))]) (by decide) rfl (Nat.le_of_ble_eq_true rfl) rfl ?_
  intro p e s m args below meth c C hr hnm hpre
  obtain ⟨hM, huh, hll, hB, hw, hq⟩ := hpre
  have hwX3 : ∀ w ∈ u_ws RX3 TX3 20, w ∈ wsX3_isCut := by decide +kernel
  subst huh
  refine j_lconst (z := 0) C dX3_isCut_0 rfl ?_
  refine j_lstore_n (lv' := [(0, .ref o), (1, .int (zI w)), (2, .long (zL 0))]) C dX3_isCut_1 (by decide) rfl ?_
  refine j_iconst C dX3_isCut_2 ?_
  refine j_istore (lv' := [(0, .ref o), (1, .int (zI w)), (2, .long (zL 0)), (4, .int (zI 1))]) C dX3_isCut_3 (by decide) rfl ?_
  refine j_iconst C dX3_isCut_5 ?_
  refine j_istore (lv' := [(0, .ref o), (1, .int (zI w)), (2, .long (zL 0)), (4, .int (zI 1)), (5, .int (zI 0))]) C dX3_isCut_6 (by decide) rfl ?_
  have K8 : ∀ (fu8 : Nat) (al u i : Int), (L.length - i).toNat < fu8 → al = wdF (L.take i.toNat) → 0 ≤ i ∧ i ≤ L.length → ((u = 1 ∧ (∀ a b : Int, 0 ≤ a → a < i → 0 ≤ b → b < L.length → a ≠ b → (qat L a).1 ≤ (qat L b).1 → (qat L b).2.1 / 2 ^ ((qat L b).1 - (qat L a).1).toNat ≠ (qat L a).2.1)) ∨ (u = 0 ∧ ¬ (∀ a b : Int, 0 ≤ a → a < i → 0 ≤ b → b < L.length → a ≠ b → (qat L a).1 ≤ (qat L b).1 → (qat L b).2.1 / 2 ^ ((qat L b).1 - (qat L a).1).toNat ≠ (qat L a).2.1))) → JJ p l e ({ frames := 0, cells := 0, slots := 0, locals := 0 } : Room) s m args below meth c (MQ below (qI (fun r => (cutM L ∧ r = 1) ∨ (¬ cutM L ∧ r = 0))) args s 0 0 (fun _ => False)) (fun _ => False) 10 s.heap 0 0 8 [(0, .ref o), (1, .int (zI w)), (2, .long (zL al)), (4, .int (zI u)), (5, .int (zI i))] [] := by
    intro fu8
    induction fu8 with
    | zero => intro al u i hm8 hal hi hu; exact absurd hm8 (Nat.not_lt_zero _)
    | succ fu8 ih8 =>
      intro al u i hm8 hal hi hu
      refine j_iload C dX3_isCut_8 rfl ?_
      refine j_aload_n C dX3_isCut_10 rfl ?_
      refine j_get (T := TX3) (N := 20) (fs := _) (v := .int (zI (L.length : Int))) C hwX3 hM.1 2 (by decide) rfl (index := 88) (ref := "TreePairsModel") (by decide +kernel) rfl rfl dX3_isCut_11 ?_
      refine j_icmp_ge (tgt := 142) C dX3_isCut_14 (by decide) ⟨by omega, by omega⟩ ⟨by omega, by omega⟩ (fun c14 => ?_) (fun c14 => ?_)
      · skip
        have ei : i = L.length := by omega
        rw [take_all L (by omega)] at hal
        refine j_iload C dX3_isCut_142 rfl ?_
        refine j_if_eq (tgt := 159) C dX3_isCut_144 (by decide) ⟨by omega, by omega⟩ (fun c144 => ?_) (fun c144 => ?_)
        · skip
          have hna : ¬ apM L := (fun h => by rcases hu with hu | hu; omega; exact hu.2 (fun a b a0 a1 b0 b1 => h a b a0 (by omega) b0 b1))
          refine j_iconst C dX3_isCut_159 ?_
          exact j_zreti C hr (Nat.le_refl _) (Nat.zero_le _) (Or.inl rfl) (Or.inr ⟨fun h => by first | exact hna h.1 | exact hnw h.2, rfl⟩) dX3_isCut_160
        · skip
          have hap : apM L := (by rcases hu with hu | hu; exact fun a b a0 a1 b0 b1 => hu.2 a b a0 (by omega) b0 b1; omega)
          refine j_lload_n C dX3_isCut_147 rfl ?_
          refine j_ldc2 (z := 8388608) C (index := 91) (v := 8388608) (by decide +kernel) (by decide) dX3_isCut_148 ?_
          have hwb := wdF_b hB L.length
          rw [List.take_length] at hwb
          refine j_lcmp_ne (tgt := 159) C dX3_isCut_151 dX3_isCut_152 (by decide) ⟨by omega, by omega⟩ ⟨by decide, by decide⟩ (fun c151 => ?_) (fun c151 => ?_)
          · skip
            have hnw : wdF L ≠ 8388608 := by omega
            refine j_iconst C dX3_isCut_159 ?_
            exact j_zreti C hr (Nat.le_refl _) (Nat.zero_le _) (Or.inl rfl) (Or.inr ⟨fun h => by first | exact hna h.1 | exact hnw h.2, rfl⟩) dX3_isCut_160
          · skip
            have hw8 : wdF L = 8388608 := by omega
            refine j_iconst C dX3_isCut_155 ?_
            refine j_goto (tgt := 160) C dX3_isCut_156 (by decide) ?_
            exact j_zreti C hr (Nat.le_refl _) (Nat.zero_le _) (Or.inr rfl) (Or.inl ⟨⟨hap, hw8⟩, rfl⟩) dX3_isCut_160
      · skip
        have hqi := hq i (by omega) (by omega)
        have hbi := (hB _ (qat_mem (L := L) (i := i) (by omega) (by omega))).1
        rw [hqi.1, hqi.2] at hbi
        have hbi := hbi.b23
        have hws := wdF_s (L := L) (i := i) (by omega) (by omega)
        rw [hqi.1] at hws
        refine j_aload_n C dX3_isCut_17 rfl ?_
        refine j_get (T := TX3) (N := 20) (fs := _) (v := .ref (o + 3)) C hwX3 hM.1 3 (by decide) rfl (index := 16) (ref := "TreePairsModel") (by decide +kernel) rfl rfl dX3_isCut_18 ?_
        refine j_iconst C dX3_isCut_21 ?_
        refine j_iload C dX3_isCut_22 rfl ?_
        refine j_imul C dX3_isCut_24 ?_
        refine j_iload_n C dX3_isCut_25 rfl ?_
        refine j_iadd C dX3_isCut_26 ?_
        refine j_iald C hM.2.2.2.1 ⟨by omega, by omega⟩ dX3_isCut_27 ?_
        refine j_istore (lv' := [(0, .ref o), (1, .int (zI w)), (2, .long (zL al)), (4, .int (zI u)), (5, .int (zI i)), (6, .int (zI (m3 ((4 * i) + w))))]) C dX3_isCut_28 (by decide) rfl ?_
        refine j_aload_n C dX3_isCut_30 rfl ?_
        refine j_get (T := TX3) (N := 20) (fs := _) (v := .ref (o + 3)) C hwX3 hM.1 3 (by decide) rfl (index := 16) (ref := "TreePairsModel") (by decide +kernel) rfl rfl dX3_isCut_31 ?_
        refine j_iconst C dX3_isCut_34 ?_
        refine j_iload C dX3_isCut_35 rfl ?_
        refine j_imul C dX3_isCut_37 ?_
        refine j_iload_n C dX3_isCut_38 rfl ?_
        refine j_iadd C dX3_isCut_39 ?_
        refine j_iconst C dX3_isCut_40 ?_
        refine j_iadd C dX3_isCut_41 ?_
        refine j_iald C hM.2.2.2.1 ⟨by omega, by omega⟩ dX3_isCut_42 ?_
        refine j_istore (lv' := [(0, .ref o), (1, .int (zI w)), (2, .long (zL al)), (4, .int (zI u)), (5, .int (zI i)), (6, .int (zI (m3 ((4 * i) + w)))), (7, .int (zI (m3 (((4 * i) + w) + 1))))]) C dX3_isCut_43 (by decide) rfl ?_
        refine j_lload_n C dX3_isCut_45 rfl ?_
        refine j_lconst (z := 1) C dX3_isCut_46 rfl ?_
        refine j_bipush C dX3_isCut_47 (by decide) ?_
        refine j_iload C dX3_isCut_49 rfl ?_
        refine j_isub C dX3_isCut_51 ?_
        refine j_lshl C dX3_isCut_52 ⟨by omega, by omega⟩ ?_
        refine j_ladd C dX3_isCut_53 ?_
        refine j_lstore_n (lv' := [(0, .ref o), (1, .int (zI w)), (2, .long (zL (al + (1 * 2 ^ (23 - (m3 ((4 * i) + w))).toNat)))), (4, .int (zI u)), (5, .int (zI i)), (6, .int (zI (m3 ((4 * i) + w)))), (7, .int (zI (m3 (((4 * i) + w) + 1))))]) C dX3_isCut_54 (by decide) rfl ?_
        refine j_iconst C dX3_isCut_55 ?_
        refine j_istore (lv' := [(0, .ref o), (1, .int (zI w)), (2, .long (zL (al + (1 * 2 ^ (23 - (m3 ((4 * i) + w))).toNat)))), (4, .int (zI u)), (5, .int (zI i)), (6, .int (zI (m3 ((4 * i) + w)))), (7, .int (zI (m3 (((4 * i) + w) + 1)))), (8, .int (zI 0))]) C dX3_isCut_56 (by decide) rfl ?_
        have K58 : ∀ (fu58 : Nat) (u j : Int), (L.length - j).toNat < fu58 → 0 ≤ j ∧ j ≤ L.length → ((u = 1 ∧ (∀ a b : Int, 0 ≤ a → a < i → 0 ≤ b → b < L.length → a ≠ b → (qat L a).1 ≤ (qat L b).1 → (qat L b).2.1 / 2 ^ ((qat L b).1 - (qat L a).1).toNat ≠ (qat L a).2.1) ∧ (∀ b : Int, 0 ≤ b → b < j → i ≠ b → (qat L i).1 ≤ (qat L b).1 → (qat L b).2.1 / 2 ^ ((qat L b).1 - (qat L i).1).toNat ≠ (qat L i).2.1)) ∨ (u = 0 ∧ ¬ ((∀ a b : Int, 0 ≤ a → a < i → 0 ≤ b → b < L.length → a ≠ b → (qat L a).1 ≤ (qat L b).1 → (qat L b).2.1 / 2 ^ ((qat L b).1 - (qat L a).1).toNat ≠ (qat L a).2.1) ∧ (∀ b : Int, 0 ≤ b → b < j → i ≠ b → (qat L i).1 ≤ (qat L b).1 → (qat L b).2.1 / 2 ^ ((qat L b).1 - (qat L i).1).toNat ≠ (qat L i).2.1)))) → JJ p l e ({ frames := 0, cells := 0, slots := 0, locals := 0 } : Room) s m args below meth c (MQ below (qI (fun r => (cutM L ∧ r = 1) ∨ (¬ cutM L ∧ r = 0))) args s 0 0 (fun _ => False)) (fun _ => False) 10 s.heap 0 0 58 [(0, .ref o), (1, .int (zI w)), (2, .long (zL (al + 1 * 2 ^ (23 - m3 (4 * i + w)).toNat))), (4, .int (zI u)), (5, .int (zI i)), (6, .int (zI (m3 (4 * i + w)))), (7, .int (zI (m3 (4 * i + w + 1)))), (8, .int (zI j))] [] := by
          intro fu58
          induction fu58 with
          | zero => intro u j hm58 hj hu; exact absurd hm58 (Nat.not_lt_zero _)
          | succ fu58 ih58 =>
            intro u j hm58 hj hu
            refine j_iload C dX3_isCut_58 rfl ?_
            refine j_aload_n C dX3_isCut_60 rfl ?_
            refine j_get (T := TX3) (N := 20) (fs := _) (v := .int (zI (L.length : Int))) C hwX3 hM.1 2 (by decide) rfl (index := 88) (ref := "TreePairsModel") (by decide +kernel) rfl rfl dX3_isCut_61 ?_
            refine j_icmp_ge (tgt := 136) C dX3_isCut_64 (by decide) ⟨by omega, by omega⟩ ⟨by omega, by omega⟩ (fun c64 => ?_) (fun c64 => ?_)
            · skip
              have ej : j = L.length := by omega
              refine j_iinc (lv' := [(0, .ref o), (1, .int (zI w)), (2, .long (zL (al + 1 * 2 ^ (23 - m3 (4 * i + w)).toNat))), (4, .int (zI u)), (5, .int (zI (i + 1))), (6, .int (zI (m3 (4 * i + w)))), (7, .int (zI (m3 (4 * i + w + 1)))), (8, .int (zI j))]) C dX3_isCut_136 rfl (by decide) rfl ?_
              refine j_goto (tgt := 8) C dX3_isCut_139 (by decide) ?_
              exact JJ.drop (lv' := [(0, .ref o), (1, .int (zI w)), (2, .long (zL (al + 1 * 2 ^ (23 - m3 (4 * i + w)).toNat))), (4, .int (zI u)), (5, .int (zI (i + 1)))]) rfl (ih8 (al + 1 * 2 ^ (23 - m3 (4 * i + w)).toNat) u (i + 1) (by omega) (by omega) ⟨by omega, by omega⟩ (by rcases hu with hu | hu; exact Or.inl ⟨hu.1, fun a b a0 a1 b0 b1 hne hle => (by rcases Int.lt_or_le a i with q | q; exact hu.2.1 a b a0 q b0 b1 hne hle; have ea : a = i := (by omega); subst ea; exact hu.2.2 b b0 (by omega) hne hle)⟩; exact Or.inr ⟨hu.1, fun h => hu.2 ⟨fun a b a0 a1 b0 b1 => h a b a0 (by omega) b0 b1, fun b b0 b1 => h i b (by omega) (by omega) b0 (by omega)⟩⟩))
            · skip
              have hqj := hq j (by omega) (by omega)
              have hbj := (hB _ (qat_mem (L := L) (i := j) (by omega) (by omega))).1
              rw [hqj.1, hqj.2] at hbj
              have hbj := hbj.b23
              refine j_aload_n C dX3_isCut_67 rfl ?_
              refine j_get (T := TX3) (N := 20) (fs := _) (v := .ref (o + 3)) C hwX3 hM.1 3 (by decide) rfl (index := 16) (ref := "TreePairsModel") (by decide +kernel) rfl rfl dX3_isCut_68 ?_
              refine j_iconst C dX3_isCut_71 ?_
              refine j_iload C dX3_isCut_72 rfl ?_
              refine j_imul C dX3_isCut_74 ?_
              refine j_iload_n C dX3_isCut_75 rfl ?_
              refine j_iadd C dX3_isCut_76 ?_
              refine j_iald C hM.2.2.2.1 ⟨by omega, by omega⟩ dX3_isCut_77 ?_
              refine j_istore (lv' := [(0, .ref o), (1, .int (zI w)), (2, .long (zL (al + 1 * 2 ^ (23 - m3 (4 * i + w)).toNat))), (4, .int (zI u)), (5, .int (zI i)), (6, .int (zI (m3 (4 * i + w)))), (7, .int (zI (m3 (4 * i + w + 1)))), (8, .int (zI j)), (9, .int (zI (m3 ((4 * j) + w))))]) C dX3_isCut_78 (by decide) rfl ?_
              refine j_iload C dX3_isCut_80 rfl ?_
              refine j_if_eq (tgt := 127) C dX3_isCut_82 (by decide) ⟨by omega, by omega⟩ (fun c82 => ?_) (fun c82 => ?_)
              · skip
                have hnc : ¬ ((∀ a b : Int, 0 ≤ a → a < i → 0 ≤ b → b < L.length → a ≠ b → (qat L a).1 ≤ (qat L b).1 → (qat L b).2.1 / 2 ^ ((qat L b).1 - (qat L a).1).toNat ≠ (qat L a).2.1) ∧ (∀ b : Int, 0 ≤ b → b < (j + 1) → i ≠ b → (qat L i).1 ≤ (qat L b).1 → (qat L b).2.1 / 2 ^ ((qat L b).1 - (qat L i).1).toNat ≠ (qat L i).2.1)) := (fun h => by rcases hu with hu | hu; omega; exact hu.2 ⟨h.1, fun b b0 b1 => h.2 b b0 (by omega)⟩)
                refine j_iconst C dX3_isCut_127 ?_
                refine j_istore (lv' := [(0, .ref o), (1, .int (zI w)), (2, .long (zL (al + 1 * 2 ^ (23 - m3 (4 * i + w)).toNat))), (4, .int (zI 0)), (5, .int (zI i)), (6, .int (zI (m3 (4 * i + w)))), (7, .int (zI (m3 (4 * i + w + 1)))), (8, .int (zI j)), (9, .int (zI (m3 ((4 * j) + w))))]) C dX3_isCut_128 (by decide) rfl ?_
                refine j_iinc (lv' := [(0, .ref o), (1, .int (zI w)), (2, .long (zL (al + 1 * 2 ^ (23 - m3 (4 * i + w)).toNat))), (4, .int (zI 0)), (5, .int (zI i)), (6, .int (zI (m3 (4 * i + w)))), (7, .int (zI (m3 (4 * i + w + 1)))), (8, .int (zI (j + 1))), (9, .int (zI (m3 ((4 * j) + w))))]) C dX3_isCut_130 rfl (by decide) rfl ?_
                refine j_goto (tgt := 58) C dX3_isCut_133 (by decide) ?_
                exact JJ.drop (lv' := [(0, .ref o), (1, .int (zI w)), (2, .long (zL (al + 1 * 2 ^ (23 - m3 (4 * i + w)).toNat))), (4, .int (zI 0)), (5, .int (zI i)), (6, .int (zI (m3 (4 * i + w)))), (7, .int (zI (m3 (4 * i + w + 1)))), (8, .int (zI (j + 1)))]) rfl (ih58 0 (j + 1) (by omega) ⟨by omega, by omega⟩ (Or.inr ⟨rfl, hnc⟩))
              · skip
                have hu2 : (∀ a b : Int, 0 ≤ a → a < i → 0 ≤ b → b < L.length → a ≠ b → (qat L a).1 ≤ (qat L b).1 → (qat L b).2.1 / 2 ^ ((qat L b).1 - (qat L a).1).toNat ≠ (qat L a).2.1) ∧ (∀ b : Int, 0 ≤ b → b < j → i ≠ b → (qat L i).1 ≤ (qat L b).1 → (qat L b).2.1 / 2 ^ ((qat L b).1 - (qat L i).1).toNat ≠ (qat L i).2.1) := (by rcases hu with hu | hu; exact hu.2; omega)
                refine j_iload C dX3_isCut_85 rfl ?_
                refine j_iload C dX3_isCut_87 rfl ?_
                refine j_icmp_eq (tgt := 123) C dX3_isCut_89 (by decide) ⟨by omega, by omega⟩ ⟨by omega, by omega⟩ (fun c89 => ?_) (fun c89 => ?_)
                · skip
                  have hcj : ((∀ b : Int, 0 ≤ b → b < (j + 1) → i ≠ b → (qat L i).1 ≤ (qat L b).1 → (qat L b).2.1 / 2 ^ ((qat L b).1 - (qat L i).1).toNat ≠ (qat L i).2.1)) := (fun b b0 b1 hne hle => by rcases Int.lt_or_le b j with q | q; exact hu2.2 b b0 q hne hle; have eb : b = j := (by omega); subst eb; exact absurd c89 hne)
                  refine j_iconst C dX3_isCut_123 ?_
                  refine j_goto (tgt := 128) C dX3_isCut_124 (by decide) ?_
                  refine j_istore (lv' := [(0, .ref o), (1, .int (zI w)), (2, .long (zL (al + 1 * 2 ^ (23 - m3 (4 * i + w)).toNat))), (4, .int (zI 1)), (5, .int (zI i)), (6, .int (zI (m3 (4 * i + w)))), (7, .int (zI (m3 (4 * i + w + 1)))), (8, .int (zI j)), (9, .int (zI (m3 ((4 * j) + w))))]) C dX3_isCut_128 (by decide) rfl ?_
                  refine j_iinc (lv' := [(0, .ref o), (1, .int (zI w)), (2, .long (zL (al + 1 * 2 ^ (23 - m3 (4 * i + w)).toNat))), (4, .int (zI 1)), (5, .int (zI i)), (6, .int (zI (m3 (4 * i + w)))), (7, .int (zI (m3 (4 * i + w + 1)))), (8, .int (zI (j + 1))), (9, .int (zI (m3 ((4 * j) + w))))]) C dX3_isCut_130 rfl (by decide) rfl ?_
                  refine j_goto (tgt := 58) C dX3_isCut_133 (by decide) ?_
                  exact JJ.drop (lv' := [(0, .ref o), (1, .int (zI w)), (2, .long (zL (al + 1 * 2 ^ (23 - m3 (4 * i + w)).toNat))), (4, .int (zI 1)), (5, .int (zI i)), (6, .int (zI (m3 (4 * i + w)))), (7, .int (zI (m3 (4 * i + w + 1)))), (8, .int (zI (j + 1)))]) rfl (ih58 1 (j + 1) (by omega) ⟨by omega, by omega⟩ (Or.inl ⟨rfl, hu2.1, hcj⟩))
                · skip
                  refine j_iload C dX3_isCut_92 rfl ?_
                  refine j_iload C dX3_isCut_94 rfl ?_
                  refine j_icmp_lt (tgt := 123) C dX3_isCut_96 (by decide) ⟨by omega, by omega⟩ ⟨by omega, by omega⟩ (fun c96 => ?_) (fun c96 => ?_)
                  · skip
                    have hcj : ((∀ b : Int, 0 ≤ b → b < (j + 1) → i ≠ b → (qat L i).1 ≤ (qat L b).1 → (qat L b).2.1 / 2 ^ ((qat L b).1 - (qat L i).1).toNat ≠ (qat L i).2.1)) := (fun b b0 b1 hne hle => by rcases Int.lt_or_le b j with q | q; exact hu2.2 b b0 q hne hle; have eb : b = j := (by omega); subst eb; rw [hqi.1, hqj.1] at hle; omega)
                    refine j_iconst C dX3_isCut_123 ?_
                    refine j_goto (tgt := 128) C dX3_isCut_124 (by decide) ?_
                    refine j_istore (lv' := [(0, .ref o), (1, .int (zI w)), (2, .long (zL (al + 1 * 2 ^ (23 - m3 (4 * i + w)).toNat))), (4, .int (zI 1)), (5, .int (zI i)), (6, .int (zI (m3 (4 * i + w)))), (7, .int (zI (m3 (4 * i + w + 1)))), (8, .int (zI j)), (9, .int (zI (m3 ((4 * j) + w))))]) C dX3_isCut_128 (by decide) rfl ?_
                    refine j_iinc (lv' := [(0, .ref o), (1, .int (zI w)), (2, .long (zL (al + 1 * 2 ^ (23 - m3 (4 * i + w)).toNat))), (4, .int (zI 1)), (5, .int (zI i)), (6, .int (zI (m3 (4 * i + w)))), (7, .int (zI (m3 (4 * i + w + 1)))), (8, .int (zI (j + 1))), (9, .int (zI (m3 ((4 * j) + w))))]) C dX3_isCut_130 rfl (by decide) rfl ?_
                    refine j_goto (tgt := 58) C dX3_isCut_133 (by decide) ?_
                    exact JJ.drop (lv' := [(0, .ref o), (1, .int (zI w)), (2, .long (zL (al + 1 * 2 ^ (23 - m3 (4 * i + w)).toNat))), (4, .int (zI 1)), (5, .int (zI i)), (6, .int (zI (m3 (4 * i + w)))), (7, .int (zI (m3 (4 * i + w + 1)))), (8, .int (zI (j + 1)))]) rfl (ih58 1 (j + 1) (by omega) ⟨by omega, by omega⟩ (Or.inl ⟨rfl, hu2.1, hcj⟩))
                  · skip
                    refine j_aload_n C dX3_isCut_99 rfl ?_
                    refine j_get (T := TX3) (N := 20) (fs := _) (v := .ref (o + 3)) C hwX3 hM.1 3 (by decide) rfl (index := 16) (ref := "TreePairsModel") (by decide +kernel) rfl rfl dX3_isCut_100 ?_
                    refine j_iconst C dX3_isCut_103 ?_
                    refine j_iload C dX3_isCut_104 rfl ?_
                    refine j_imul C dX3_isCut_106 ?_
                    refine j_iload_n C dX3_isCut_107 rfl ?_
                    refine j_iadd C dX3_isCut_108 ?_
                    refine j_iconst C dX3_isCut_109 ?_
                    refine j_iadd C dX3_isCut_110 ?_
                    refine j_iald C hM.2.2.2.1 ⟨by omega, by omega⟩ dX3_isCut_111 ?_
                    refine j_iload C dX3_isCut_112 rfl ?_
                    refine j_iload C dX3_isCut_114 rfl ?_
                    refine j_isub C dX3_isCut_116 ?_
                    refine j_ishr C dX3_isCut_117 ⟨by omega, by omega⟩ ⟨by omega, by omega⟩ ?_
                    refine j_iload C dX3_isCut_118 rfl ?_
                    refine j_icmp_eq (tgt := 127) C dX3_isCut_120 (by decide) (shI ⟨by omega, by omega⟩) ⟨by omega, by omega⟩ (fun c120 => ?_) (fun c120 => ?_)
                    · skip
                      have hnc : ¬ ((∀ a b : Int, 0 ≤ a → a < i → 0 ≤ b → b < L.length → a ≠ b → (qat L a).1 ≤ (qat L b).1 → (qat L b).2.1 / 2 ^ ((qat L b).1 - (qat L a).1).toNat ≠ (qat L a).2.1) ∧ (∀ b : Int, 0 ≤ b → b < (j + 1) → i ≠ b → (qat L i).1 ≤ (qat L b).1 → (qat L b).2.1 / 2 ^ ((qat L b).1 - (qat L i).1).toNat ≠ (qat L i).2.1)) := (fun h => h.2 j (by omega) (by omega) c89 (by rw [hqi.1, hqj.1]; omega) (by rw [hqi.1, hqi.2, hqj.1, hqj.2]; exact c120))
                      refine j_iconst C dX3_isCut_127 ?_
                      refine j_istore (lv' := [(0, .ref o), (1, .int (zI w)), (2, .long (zL (al + 1 * 2 ^ (23 - m3 (4 * i + w)).toNat))), (4, .int (zI 0)), (5, .int (zI i)), (6, .int (zI (m3 (4 * i + w)))), (7, .int (zI (m3 (4 * i + w + 1)))), (8, .int (zI j)), (9, .int (zI (m3 ((4 * j) + w))))]) C dX3_isCut_128 (by decide) rfl ?_
                      refine j_iinc (lv' := [(0, .ref o), (1, .int (zI w)), (2, .long (zL (al + 1 * 2 ^ (23 - m3 (4 * i + w)).toNat))), (4, .int (zI 0)), (5, .int (zI i)), (6, .int (zI (m3 (4 * i + w)))), (7, .int (zI (m3 (4 * i + w + 1)))), (8, .int (zI (j + 1))), (9, .int (zI (m3 ((4 * j) + w))))]) C dX3_isCut_130 rfl (by decide) rfl ?_
                      refine j_goto (tgt := 58) C dX3_isCut_133 (by decide) ?_
                      exact JJ.drop (lv' := [(0, .ref o), (1, .int (zI w)), (2, .long (zL (al + 1 * 2 ^ (23 - m3 (4 * i + w)).toNat))), (4, .int (zI 0)), (5, .int (zI i)), (6, .int (zI (m3 (4 * i + w)))), (7, .int (zI (m3 (4 * i + w + 1)))), (8, .int (zI (j + 1)))]) rfl (ih58 0 (j + 1) (by omega) ⟨by omega, by omega⟩ (Or.inr ⟨rfl, hnc⟩))
                    · skip
                      have hcj : ((∀ b : Int, 0 ≤ b → b < (j + 1) → i ≠ b → (qat L i).1 ≤ (qat L b).1 → (qat L b).2.1 / 2 ^ ((qat L b).1 - (qat L i).1).toNat ≠ (qat L i).2.1)) := (fun b b0 b1 hne hle => by rcases Int.lt_or_le b j with q | q; exact hu2.2 b b0 q hne hle; have eb : b = j := (by omega); subst eb; rw [hqi.1, hqi.2, hqj.1, hqj.2]; exact c120)
                      refine j_iconst C dX3_isCut_123 ?_
                      refine j_goto (tgt := 128) C dX3_isCut_124 (by decide) ?_
                      refine j_istore (lv' := [(0, .ref o), (1, .int (zI w)), (2, .long (zL (al + 1 * 2 ^ (23 - m3 (4 * i + w)).toNat))), (4, .int (zI 1)), (5, .int (zI i)), (6, .int (zI (m3 (4 * i + w)))), (7, .int (zI (m3 (4 * i + w + 1)))), (8, .int (zI j)), (9, .int (zI (m3 ((4 * j) + w))))]) C dX3_isCut_128 (by decide) rfl ?_
                      refine j_iinc (lv' := [(0, .ref o), (1, .int (zI w)), (2, .long (zL (al + 1 * 2 ^ (23 - m3 (4 * i + w)).toNat))), (4, .int (zI 1)), (5, .int (zI i)), (6, .int (zI (m3 (4 * i + w)))), (7, .int (zI (m3 (4 * i + w + 1)))), (8, .int (zI (j + 1))), (9, .int (zI (m3 ((4 * j) + w))))]) C dX3_isCut_130 rfl (by decide) rfl ?_
                      refine j_goto (tgt := 58) C dX3_isCut_133 (by decide) ?_
                      exact JJ.drop (lv' := [(0, .ref o), (1, .int (zI w)), (2, .long (zL (al + 1 * 2 ^ (23 - m3 (4 * i + w)).toNat))), (4, .int (zI 1)), (5, .int (zI i)), (6, .int (zI (m3 (4 * i + w)))), (7, .int (zI (m3 (4 * i + w + 1)))), (8, .int (zI (j + 1)))]) rfl (ih58 1 (j + 1) (by omega) ⟨by omega, by omega⟩ (Or.inl ⟨rfl, hu2.1, hcj⟩))
        exact JJ.drop (lv' := [(0, .ref o), (1, .int (zI w)), (2, .long (zL (al + 1 * 2 ^ (23 - m3 (4 * i + w)).toNat))), (4, .int (zI u)), (5, .int (zI i)), (6, .int (zI (m3 (4 * i + w)))), (7, .int (zI (m3 (4 * i + w + 1)))), (8, .int (zI 0))]) rfl (K58 (((L.length - (0 : Int)).toNat) + 1) u 0 (Nat.lt_succ_self _) ⟨by omega, by omega⟩ (by rcases hu with hu | hu; exact Or.inl ⟨hu.1, hu.2, fun b b0 b1 => absurd b0 (by omega)⟩; exact Or.inr ⟨hu.1, fun h => hu.2 h.1⟩))
  exact JJ.drop (lv' := [(0, .ref o), (1, .int (zI w)), (2, .long (zL 0)), (4, .int (zI 1)), (5, .int (zI 0))]) rfl (K8 (((L.length - (0 : Int)).toNat) + 1) 0 1 0 (Nat.lt_succ_self _) rfl ⟨by omega, by omega⟩ (Or.inl ⟨rfl, fun a b a0 a1 => absurd a0 (by omega)⟩))
