set_option maxHeartbeats 4000000 in
set_option maxRecDepth 100000 in
/-- X2_kindOf -/
theorem c_X2_kindOf (l : Launch) (G : Gx) (a cap : Nat) (L : List Q4) : Met l yX2_kindOf wsX2_kindOf ({ frames := 2, cells := 0, slots := 0, locals := 43 } : Room) (cPc G [.ref a] (fun H => PL G H a cap L ∧ (∀ q ∈ L, LQ 23 q))) (qI (fun r => r = kindF L)) 0 0 (fun _ => False) := by
  refine Met.ofJ (cc := cX2_kindOf) (maxL := 8) (ret := (some .int)) (lv0 := [(0, .ref a)]) (by decide) rfl (Nat.le_of_ble_eq_true rfl) rfl ?_
  intro p e s m args below meth c C hr hnm hpre
  obtain ⟨hL, hB⟩ := hpre
  have hwX1 : ∀ w ∈ u_ws RX1 TX1 5, w ∈ wsX2_kindOf := by decide +kernel
  obtain ⟨d, c0, e0, b, hP, hRp, hcap⟩ := hL
  have hcR := hP.capR
  refine j_iconst C dX2_kindOf_0 ?_
  refine j_istore_n (lv' := [(0, .ref a), (1, .int (zI 1))]) C dX2_kindOf_1 (by decide) rfl ?_
  refine j_iconst C dX2_kindOf_2 ?_
  refine j_istore_n (lv' := [(0, .ref a), (1, .int (zI 1)), (2, .int (zI 1))]) C dX2_kindOf_3 (by decide) rfl ?_
  refine j_iconst C dX2_kindOf_4 ?_
  refine j_istore_n (lv' := [(0, .ref a), (1, .int (zI 1)), (2, .int (zI 1)), (3, .int (zI 1))]) C dX2_kindOf_5 (by decide) rfl ?_
  have K6 : ∀ (fu6 : Nat) (f1 f2 i : Int), (L.length - i).toNat < fu6 → 1 ≤ i ∧ (i ≤ L.length ∨ i = 1) → ((f1 = 1 ∧ inO L i) ∨ (f1 = 0 ∧ ¬ inO L i)) → ((f2 = 1 ∧ rnD L i) ∨ (f2 = 0 ∧ ¬ rnD L i)) → JJ p l e ({ frames := 2, cells := 0, slots := 0, locals := 43 } : Room) s m args below meth c (MQ below (qI (fun r => r = kindF L)) args s 0 0 (fun _ => False)) (fun _ => False) 8 s.heap 0 0 6 [(0, .ref a), (1, .int (zI f1)), (2, .int (zI f2)), (3, .int (zI i))] [] := by
    intro fu6
    induction fu6 with
    | zero => intro f1 f2 i hm6 hi hf1 hf2; exact absurd hm6 (Nat.not_lt_zero _)
    | succ fu6 ih6 =>
      intro f1 f2 i hm6 hi hf1 hf2
      refine j_iload_n C dX2_kindOf_6 rfl ?_
      refine j_aload_n C dX2_kindOf_7 rfl ?_
      refine j_get (T := TX1) (N := 5) (fs := _) (v := .int (zI (L.length : Int))) C hwX1 hP.1 4 (by decide) rfl (index := 35) (ref := "TreePairs$Pairs") (by decide +kernel) rfl rfl dX2_kindOf_8 ?_
      refine j_icmp_ge (tgt := 87) C dX2_kindOf_11 (by decide) ⟨by omega, by omega⟩ ⟨by omega, by omega⟩ (fun c11 => ?_) (fun c11 => ?_)
      · skip
        have e1 : inO L i ↔ inO L L.length := ⟨fun h j h1 h2 => h j h1 (by omega), fun h j h1 h2 => h j h1 (by omega)⟩
        have e2 : rnD L i ↔ rnD L L.length := ⟨fun h j h1 h2 => h j h1 (by omega), fun h j h1 h2 => h j h1 (by omega)⟩
        rw [e1] at hf1
        rw [e2] at hf2
        refine j_iload_n C dX2_kindOf_87 rfl ?_
        refine j_if_eq (tgt := 93) C dX2_kindOf_88 (by decide) ⟨by omega, by omega⟩ (fun c88 => ?_) (fun c88 => ?_)
        · skip
          have h1 : ¬ inO L L.length := by rcases hf1 with h | h; omega; exact h.2
          refine j_iload_n C dX2_kindOf_93 rfl ?_
          refine j_if_eq (tgt := 101) C dX2_kindOf_94 (by decide) ⟨by omega, by omega⟩ (fun c94 => ?_) (fun c94 => ?_)
          · skip
            have h2 : ¬ rnD L L.length := by rcases hf2 with h | h; omega; exact h.2
            refine j_iconst C dX2_kindOf_101 ?_
            exact j_ireti C hr (Nat.le_refl _) (Nat.zero_le _) (by show _ = _; unfold kindF; rw [if_neg h1, if_neg h2]) dX2_kindOf_102
          · skip
            have h2 : rnD L L.length := by rcases hf2 with h | h; exact h.2; omega
            refine j_iconst C dX2_kindOf_97 ?_
            refine j_goto (tgt := 102) C dX2_kindOf_98 (by decide) ?_
            exact j_ireti C hr (Nat.le_refl _) (Nat.zero_le _) (by show _ = _; unfold kindF; rw [if_neg h1, if_pos h2]) dX2_kindOf_102
        · skip
          have h1 : inO L L.length := by rcases hf1 with h | h; exact h.2; omega
          refine j_iconst C dX2_kindOf_91 ?_
          exact j_ireti C hr (Nat.le_refl _) (Nat.zero_le _) (by show _ = _; unfold kindF; rw [if_pos h1]) dX2_kindOf_92
      · skip
        have hlt : 0 ≤ i ∧ i < (L.length : Int) := ⟨by omega, by omega⟩
        have q1 := hRp i hlt.1 hlt.2
        have q0 := hRp (i - 1) (by omega) (by omega)
        have b1 := hRp.bnd hB hlt.1 hlt.2
        have b0 := hRp.bnd hB (i := i - 1) (by omega) (by omega)
        have s1 := b1.2.st
        have s0 := b0.2.st
        have y1 := b1.2.b23
        have y0 := b0.2.b23
        have hst : st2 (qat L i) = b i * 2 ^ (23 - e0 i).toNat := by rw [q1]; rfl
        have hen : en2 (qat L (i - 1)) = (b (i - 1) + 1) * 2 ^ (23 - e0 (i - 1)).toNat := by rw [q0]; rfl
        refine j_aload_n C dX2_kindOf_14 rfl ?_
        refine j_iload_n C dX2_kindOf_15 rfl ?_
        refine j_iconst C dX2_kindOf_16 ?_
        refine j_isub C dX2_kindOf_17 ?_
        refine j_callL (jrunV (rest := []) (As := [.int (zI (i - 1))]) C (c_X1_secondEnd l G a cap L.length d c0 e0 b (i - 1)) gX2_kindOf_X1_secondEnd rfl 1 (by decide +kernel) rfl rfl ⟨Nat.le_of_ble_eq_true rfl, Nat.le_of_ble_eq_true rfl⟩ hP.1 rfl ⟨hP, ⟨by omega, by omega⟩, by omega, by omega⟩ rfl rfl (Nat.le_of_ble_eq_true rfl) ⟨Nat.le_of_ble_eq_true rfl, Nat.le_of_ble_eq_true rfl⟩ dX2_kindOf_18) (fun r18 h18 => ?_)
        subst h18
        refine j_lstore (lv' := [(0, .ref a), (1, .int (zI f1)), (2, .int (zI f2)), (3, .int (zI i)), (4, .long (zL ((b (i - 1) + 1) * 2 ^ (23 - e0 (i - 1)).toNat)))]) C dX2_kindOf_21 (by decide) rfl ?_
        refine j_aload_n C dX2_kindOf_23 rfl ?_
        refine j_iload_n C dX2_kindOf_24 rfl ?_
        refine j_callL (jrunV (rest := []) (As := [.int (zI i)]) C (c_X1_secondStart l G a cap L.length d c0 e0 b i) gX2_kindOf_X1_secondStart rfl 1 (by decide +kernel) rfl rfl ⟨Nat.le_of_ble_eq_true rfl, Nat.le_of_ble_eq_true rfl⟩ hP.1 rfl ⟨hP, ⟨by omega, by omega⟩, by omega, by omega⟩ rfl rfl (Nat.le_of_ble_eq_true rfl) ⟨Nat.le_of_ble_eq_true rfl, Nat.le_of_ble_eq_true rfl⟩ dX2_kindOf_25) (fun r25 h25 => ?_)
        subst h25
        refine j_lstore (lv' := [(0, .ref a), (1, .int (zI f1)), (2, .int (zI f2)), (3, .int (zI i)), (4, .long (zL ((b (i - 1) + 1) * 2 ^ (23 - e0 (i - 1)).toNat))), (6, .long (zL (b i * 2 ^ (23 - e0 i).toNat)))]) C dX2_kindOf_28 (by decide) rfl ?_
        refine j_iload_n C dX2_kindOf_30 rfl ?_
        have K48 : ∀ (f3 : Int), ((f3 = 1 ∧ inO L (i + 1)) ∨ (f3 = 0 ∧ ¬ inO L (i + 1))) → JJ p l e ({ frames := 2, cells := 0, slots := 0, locals := 43 } : Room) s m args below meth c (MQ below (qI (fun r => r = kindF L)) args s 0 0 (fun _ => False)) (fun _ => False) 8 s.heap 0 0 48 [(0, .ref a), (1, .int (zI f3)), (2, .int (zI f2)), (3, .int (zI i)), (4, .long (zL ((b (i - 1) + 1) * 2 ^ (23 - e0 (i - 1)).toNat))), (6, .long (zL (b i * 2 ^ (23 - e0 i).toNat)))] [] := by
          intro f3 hj1
          refine j_iload_n C dX2_kindOf_48 rfl ?_
          refine j_if_eq (tgt := 79) C dX2_kindOf_49 (by decide) ⟨by omega, by omega⟩ (fun c49 => ?_) (fun c49 => ?_)
          · skip
            have hj2 : ((0 : Int) = 1 ∧ rnD L (i + 1)) ∨ ((0 : Int) = 0 ∧ ¬ rnD L (i + 1)) := Or.inr ⟨rfl, fun h => by have := (rnD_s.mpr h).1; rcases hf2 with h1 | h1; omega; exact h1.2 this⟩
            refine j_iconst C dX2_kindOf_79 ?_
            refine j_istore_n (lv' := [(0, .ref a), (1, .int (zI f3)), (2, .int (zI 0)), (3, .int (zI i)), (4, .long (zL ((b (i - 1) + 1) * 2 ^ (23 - e0 (i - 1)).toNat))), (6, .long (zL (b i * 2 ^ (23 - e0 i).toNat)))]) C dX2_kindOf_80 (by decide) rfl ?_
            refine j_iinc (lv' := [(0, .ref a), (1, .int (zI f3)), (2, .int (zI 0)), (3, .int (zI (i + 1))), (4, .long (zL ((b (i - 1) + 1) * 2 ^ (23 - e0 (i - 1)).toNat))), (6, .long (zL (b i * 2 ^ (23 - e0 i).toNat)))]) C dX2_kindOf_81 rfl (by decide) rfl ?_
            refine j_goto (tgt := 6) C dX2_kindOf_84 (by decide) ?_
            exact JJ.drop (lv' := [(0, .ref a), (1, .int (zI f3)), (2, .int (zI 0)), (3, .int (zI (i + 1)))]) rfl (ih6 f3 0 (i + 1) (by omega) ⟨by omega, by omega⟩ hj1 hj2)
          · skip
            refine j_lload C dX2_kindOf_52 rfl ?_
            refine j_lload C dX2_kindOf_54 rfl ?_
            refine j_iconst C dX2_kindOf_56 ?_
            refine j_lconst (z := 1) C dX2_kindOf_57 rfl ?_
            refine j_callL (jrunS (rest := [.long (zL ((b (i - 1) + 1) * 2 ^ (23 - e0 (i - 1)).toNat)), .long (zL (b i * 2 ^ (23 - e0 i).toNat))]) (As := [.int (zI 0), .long (zL 1)]) C (c_X2_startOf l G 0 1) gX2_kindOf_X2_startOf rfl 2 (by decide +kernel) rfl rfl ⟨Nat.le_of_ble_eq_true rfl, Nat.le_of_ble_eq_true rfl⟩ ⟨by decide, by decide⟩ rfl rfl (Nat.le_of_ble_eq_true rfl) ⟨Nat.le_of_ble_eq_true rfl, Nat.le_of_ble_eq_true rfl⟩ dX2_kindOf_58) (fun r58 h58 => ?_)
            rw [show r58 = 8388608 from h58]
            refine j_lcmp_ne (tgt := 69) C dX2_kindOf_61 dX2_kindOf_62 (by decide) ⟨by omega, by omega⟩ ⟨by decide, by decide⟩ (fun c61 => ?_) (fun c61 => ?_)
            · skip
              have hwr : (if ((b (i - 1) + 1) * 2 ^ (23 - e0 (i - 1)).toNat) = 8388608 then (0 : Int) else ((b (i - 1) + 1) * 2 ^ (23 - e0 (i - 1)).toNat)) = ((b (i - 1) + 1) * 2 ^ (23 - e0 (i - 1)).toNat) := if_neg c61
              refine j_lload C dX2_kindOf_69 rfl ?_
              refine j_lcmp_ne (tgt := 79) C dX2_kindOf_71 dX2_kindOf_72 (by decide) ⟨by omega, by omega⟩ ⟨by omega, by omega⟩ (fun c71 => ?_) (fun c71 => ?_)
              · skip
                have hj2 : ((0 : Int) = 1 ∧ rnD L (i + 1)) ∨ ((0 : Int) = 0 ∧ ¬ rnD L (i + 1)) := Or.inr ⟨rfl, fun h => by have := (rnD_s.mpr h).2 hi.1; rw [hst, hen, hwr] at this; exact c71 this⟩
                refine j_iconst C dX2_kindOf_79 ?_
                refine j_istore_n (lv' := [(0, .ref a), (1, .int (zI f3)), (2, .int (zI 0)), (3, .int (zI i)), (4, .long (zL ((b (i - 1) + 1) * 2 ^ (23 - e0 (i - 1)).toNat))), (6, .long (zL (b i * 2 ^ (23 - e0 i).toNat)))]) C dX2_kindOf_80 (by decide) rfl ?_
                refine j_iinc (lv' := [(0, .ref a), (1, .int (zI f3)), (2, .int (zI 0)), (3, .int (zI (i + 1))), (4, .long (zL ((b (i - 1) + 1) * 2 ^ (23 - e0 (i - 1)).toNat))), (6, .long (zL (b i * 2 ^ (23 - e0 i).toNat)))]) C dX2_kindOf_81 rfl (by decide) rfl ?_
                refine j_goto (tgt := 6) C dX2_kindOf_84 (by decide) ?_
                exact JJ.drop (lv' := [(0, .ref a), (1, .int (zI f3)), (2, .int (zI 0)), (3, .int (zI (i + 1)))]) rfl (ih6 f3 0 (i + 1) (by omega) ⟨by omega, by omega⟩ hj1 hj2)
              · skip
                have hj2 : ((1 : Int) = 1 ∧ rnD L (i + 1)) ∨ ((1 : Int) = 0 ∧ ¬ rnD L (i + 1)) := Or.inl ⟨rfl, rnD_s.mp ⟨by rcases hf2 with h1 | h1; exact h1.2; omega, fun _ => by rw [hst, hen, hwr]; exact c71⟩⟩
                refine j_iconst C dX2_kindOf_75 ?_
                refine j_goto (tgt := 80) C dX2_kindOf_76 (by decide) ?_
                refine j_istore_n (lv' := [(0, .ref a), (1, .int (zI f3)), (2, .int (zI 1)), (3, .int (zI i)), (4, .long (zL ((b (i - 1) + 1) * 2 ^ (23 - e0 (i - 1)).toNat))), (6, .long (zL (b i * 2 ^ (23 - e0 i).toNat)))]) C dX2_kindOf_80 (by decide) rfl ?_
                refine j_iinc (lv' := [(0, .ref a), (1, .int (zI f3)), (2, .int (zI 1)), (3, .int (zI (i + 1))), (4, .long (zL ((b (i - 1) + 1) * 2 ^ (23 - e0 (i - 1)).toNat))), (6, .long (zL (b i * 2 ^ (23 - e0 i).toNat)))]) C dX2_kindOf_81 rfl (by decide) rfl ?_
                refine j_goto (tgt := 6) C dX2_kindOf_84 (by decide) ?_
                exact JJ.drop (lv' := [(0, .ref a), (1, .int (zI f3)), (2, .int (zI 1)), (3, .int (zI (i + 1)))]) rfl (ih6 f3 1 (i + 1) (by omega) ⟨by omega, by omega⟩ hj1 hj2)
            · skip
              have hwr : (if ((b (i - 1) + 1) * 2 ^ (23 - e0 (i - 1)).toNat) = 8388608 then (0 : Int) else ((b (i - 1) + 1) * 2 ^ (23 - e0 (i - 1)).toNat)) = 0 := if_pos c61
              refine j_lconst (z := 0) C dX2_kindOf_65 rfl ?_
              refine j_goto (tgt := 71) C dX2_kindOf_66 (by decide) ?_
              refine j_lcmp_ne (tgt := 79) C dX2_kindOf_71 dX2_kindOf_72 (by decide) ⟨by omega, by omega⟩ ⟨by decide, by decide⟩ (fun c71 => ?_) (fun c71 => ?_)
              · skip
                have hj2 : ((0 : Int) = 1 ∧ rnD L (i + 1)) ∨ ((0 : Int) = 0 ∧ ¬ rnD L (i + 1)) := Or.inr ⟨rfl, fun h => by have := (rnD_s.mpr h).2 hi.1; rw [hst, hen, hwr] at this; exact c71 this⟩
                refine j_iconst C dX2_kindOf_79 ?_
                refine j_istore_n (lv' := [(0, .ref a), (1, .int (zI f3)), (2, .int (zI 0)), (3, .int (zI i)), (4, .long (zL ((b (i - 1) + 1) * 2 ^ (23 - e0 (i - 1)).toNat))), (6, .long (zL (b i * 2 ^ (23 - e0 i).toNat)))]) C dX2_kindOf_80 (by decide) rfl ?_
                refine j_iinc (lv' := [(0, .ref a), (1, .int (zI f3)), (2, .int (zI 0)), (3, .int (zI (i + 1))), (4, .long (zL ((b (i - 1) + 1) * 2 ^ (23 - e0 (i - 1)).toNat))), (6, .long (zL (b i * 2 ^ (23 - e0 i).toNat)))]) C dX2_kindOf_81 rfl (by decide) rfl ?_
                refine j_goto (tgt := 6) C dX2_kindOf_84 (by decide) ?_
                exact JJ.drop (lv' := [(0, .ref a), (1, .int (zI f3)), (2, .int (zI 0)), (3, .int (zI (i + 1)))]) rfl (ih6 f3 0 (i + 1) (by omega) ⟨by omega, by omega⟩ hj1 hj2)
              · skip
                have hj2 : ((1 : Int) = 1 ∧ rnD L (i + 1)) ∨ ((1 : Int) = 0 ∧ ¬ rnD L (i + 1)) := Or.inl ⟨rfl, rnD_s.mp ⟨by rcases hf2 with h1 | h1; exact h1.2; omega, fun _ => by rw [hst, hen, hwr]; exact c71⟩⟩
                refine j_iconst C dX2_kindOf_75 ?_
                refine j_goto (tgt := 80) C dX2_kindOf_76 (by decide) ?_
                refine j_istore_n (lv' := [(0, .ref a), (1, .int (zI f3)), (2, .int (zI 1)), (3, .int (zI i)), (4, .long (zL ((b (i - 1) + 1) * 2 ^ (23 - e0 (i - 1)).toNat))), (6, .long (zL (b i * 2 ^ (23 - e0 i).toNat)))]) C dX2_kindOf_80 (by decide) rfl ?_
                refine j_iinc (lv' := [(0, .ref a), (1, .int (zI f3)), (2, .int (zI 1)), (3, .int (zI (i + 1))), (4, .long (zL ((b (i - 1) + 1) * 2 ^ (23 - e0 (i - 1)).toNat))), (6, .long (zL (b i * 2 ^ (23 - e0 i).toNat)))]) C dX2_kindOf_81 rfl (by decide) rfl ?_
                refine j_goto (tgt := 6) C dX2_kindOf_84 (by decide) ?_
                exact JJ.drop (lv' := [(0, .ref a), (1, .int (zI f3)), (2, .int (zI 1)), (3, .int (zI (i + 1)))]) rfl (ih6 f3 1 (i + 1) (by omega) ⟨by omega, by omega⟩ hj1 hj2)
        refine j_if_eq (tgt := 46) C dX2_kindOf_31 (by decide) ⟨by omega, by omega⟩ (fun c31 => ?_) (fun c31 => ?_)
        · skip
          have hj1 : ((0 : Int) = 1 ∧ inO L (i + 1)) ∨ ((0 : Int) = 0 ∧ ¬ inO L (i + 1)) := Or.inr ⟨rfl, fun h => by have := (inO_s.mpr h).1; rcases hf1 with h1 | h1; omega; exact h1.2 this⟩
          refine j_iconst C dX2_kindOf_46 ?_
          refine j_istore_n (lv' := [(0, .ref a), (1, .int (zI 0)), (2, .int (zI f2)), (3, .int (zI i)), (4, .long (zL ((b (i - 1) + 1) * 2 ^ (23 - e0 (i - 1)).toNat))), (6, .long (zL (b i * 2 ^ (23 - e0 i).toNat)))]) C dX2_kindOf_47 (by decide) rfl ?_
          exact JJ.drop (lv' := [(0, .ref a), (1, .int (zI 0)), (2, .int (zI f2)), (3, .int (zI i)), (4, .long (zL ((b (i - 1) + 1) * 2 ^ (23 - e0 (i - 1)).toNat))), (6, .long (zL (b i * 2 ^ (23 - e0 i).toNat)))]) rfl (K48 0 hj1)
        · skip
          refine j_lload C dX2_kindOf_34 rfl ?_
          refine j_lload C dX2_kindOf_36 rfl ?_
          refine j_lcmp_ne (tgt := 46) C dX2_kindOf_38 dX2_kindOf_39 (by decide) ⟨by omega, by omega⟩ ⟨by omega, by omega⟩ (fun c38 => ?_) (fun c38 => ?_)
          · skip
            have hj1 : ((0 : Int) = 1 ∧ inO L (i + 1)) ∨ ((0 : Int) = 0 ∧ ¬ inO L (i + 1)) := Or.inr ⟨rfl, fun h => by have := (inO_s.mpr h).2 hi.1; rw [hst, hen] at this; exact c38 this⟩
            refine j_iconst C dX2_kindOf_46 ?_
            refine j_istore_n (lv' := [(0, .ref a), (1, .int (zI 0)), (2, .int (zI f2)), (3, .int (zI i)), (4, .long (zL ((b (i - 1) + 1) * 2 ^ (23 - e0 (i - 1)).toNat))), (6, .long (zL (b i * 2 ^ (23 - e0 i).toNat)))]) C dX2_kindOf_47 (by decide) rfl ?_
            exact JJ.drop (lv' := [(0, .ref a), (1, .int (zI 0)), (2, .int (zI f2)), (3, .int (zI i)), (4, .long (zL ((b (i - 1) + 1) * 2 ^ (23 - e0 (i - 1)).toNat))), (6, .long (zL (b i * 2 ^ (23 - e0 i).toNat)))]) rfl (K48 0 hj1)
          · skip
            have hj1 : ((1 : Int) = 1 ∧ inO L (i + 1)) ∨ ((1 : Int) = 0 ∧ ¬ inO L (i + 1)) := Or.inl ⟨rfl, inO_s.mp ⟨by rcases hf1 with h1 | h1; exact h1.2; omega, fun _ => by rw [hst, hen]; exact c38⟩⟩
            refine j_iconst C dX2_kindOf_42 ?_
            refine j_goto (tgt := 47) C dX2_kindOf_43 (by decide) ?_
            refine j_istore_n (lv' := [(0, .ref a), (1, .int (zI 1)), (2, .int (zI f2)), (3, .int (zI i)), (4, .long (zL ((b (i - 1) + 1) * 2 ^ (23 - e0 (i - 1)).toNat))), (6, .long (zL (b i * 2 ^ (23 - e0 i).toNat)))]) C dX2_kindOf_47 (by decide) rfl ?_
            exact JJ.drop (lv' := [(0, .ref a), (1, .int (zI 1)), (2, .int (zI f2)), (3, .int (zI i)), (4, .long (zL ((b (i - 1) + 1) * 2 ^ (23 - e0 (i - 1)).toNat))), (6, .long (zL (b i * 2 ^ (23 - e0 i).toNat)))]) rfl (K48 1 hj1)
  exact JJ.drop (lv' := [(0, .ref a), (1, .int (zI 1)), (2, .int (zI 1)), (3, .int (zI 1))]) rfl (K6 (((L.length - (1 : Int)).toNat) + 1) 1 1 1 (Nat.lt_succ_self _) ⟨by omega, by omega⟩ (Or.inl ⟨rfl, fun j h1 h2 => absurd h2 (by omega)⟩) (Or.inl ⟨rfl, fun j h1 h2 => absurd h2 (by omega)⟩))

set_option maxHeartbeats 4000000 in
set_option maxRecDepth 100000 in
/-- X2_isThere -/
theorem c_X2_isThere (l : Launch) (G : Gx) (o : Nat) (maps : Int → List Q4) (hand : List Q4) (sd sc : Int) (near : Value) (x : Int) : Met l yX2_isThere wsX2_isThere ({ frames := 1, cells := 0, slots := 0, locals := 20 } : Room) (cPc G [.ref o, .int (zI x)] (fun H => TP G H o maps hand sd sc near ∧ iR x)) (qI (fun r => (thP maps x ∧ r = 1) ∨ (¬ thP maps x ∧ r = 0))) 0 0 (fun _ => False) := by
  refine Met.ofJ (cc := cX2_isThere) (maxL := 2) (ret := (some .boolean)) (lv0 := [(0, .ref o), (1, .int (zI x))]) (by decide) rfl (Nat.le_of_ble_eq_true rfl) rfl ?_
  intro p e s m args below meth c C hr hnm hpre
  obtain ⟨hT, hx1, hx2⟩ := hpre
  have hwX1 : ∀ w ∈ u_ws RX1 TX1 5, w ∈ wsX2_isThere := by decide +kernel
  have hwX2 : ∀ w ∈ u_ws RX2 TX2 8, w ∈ wsX2_isThere := by decide +kernel
  refine j_iload_n C dX2_isThere_0 rfl ?_
  refine j_callI (jrunS (rest := []) (As := [.int (zI x)]) C (c_X2_isNumber l G x) gX2_isThere_X2_isNumber rfl 1 (by decide +kernel) rfl rfl ⟨Nat.le_of_ble_eq_true rfl, Nat.le_of_ble_eq_true rfl⟩ ⟨by omega, by omega⟩ rfl rfl (Nat.le_of_ble_eq_true rfl) ⟨Nat.le_of_ble_eq_true rfl, Nat.le_of_ble_eq_true rfl⟩ dX2_isThere_1) (fun r1 h1 => ?_)
  rcases h1 with ⟨h1, rfl⟩ | ⟨h1, rfl⟩
  · skip
    refine j_if_eq (tgt := 23) C dX2_isThere_4 (by decide) ⟨by decide, by decide⟩ (fun c4 => absurd c4 (by decide)) (fun c4 => ?_)
    refine j_aload_n C dX2_isThere_7 rfl ?_
    refine j_get (T := TX2) (N := 8) (fs := _) (v := .ref (o + 1)) C hwX2 hT.1 0 (by decide) rfl (index := 11) (ref := "TreePairs") (by decide +kernel) rfl rfl dX2_isThere_8 ?_
    refine j_iload_n C dX2_isThere_11 rfl ?_
    refine j_aald (a := (mpA o x)) C hT.2.1 ⟨by omega, by omega⟩ rfl dX2_isThere_12 ?_
    have hM := hT.map (t := x) h1
    refine j_get (T := TX1) (N := 5) (fs := _) (v := .int (zI ((maps x).length : Int))) C hwX1 hM.ob 4 (by decide) rfl (index := 35) (ref := "TreePairs$Pairs") (by decide +kernel) rfl rfl dX2_isThere_13 ?_
    have hl0 := hM.cap
    refine j_if_le (tgt := 23) C dX2_isThere_16 (by decide) ⟨by omega, by omega⟩ (fun c16 => ?_) (fun c16 => ?_)
    · skip
      refine j_iconst C dX2_isThere_23 ?_
      exact j_zreti C hr (Nat.le_refl _) (Nat.zero_le _) (Or.inl rfl) (Or.inr ⟨fun h => by have h2 := h.1; have h3 := h.2; omega, rfl⟩) dX2_isThere_24
    · skip
      refine j_iconst C dX2_isThere_19 ?_
      refine j_goto (tgt := 24) C dX2_isThere_20 (by decide) ?_
      exact j_zreti C hr (Nat.le_refl _) (Nat.zero_le _) (Or.inr rfl) (Or.inl ⟨⟨h1, by omega⟩, rfl⟩) dX2_isThere_24
  · skip
    refine j_if_eq (tgt := 23) C dX2_isThere_4 (by decide) ⟨by decide, by decide⟩ (fun c4 => ?_) (fun c4 => absurd c4 (by decide))
    refine j_iconst C dX2_isThere_23 ?_
    exact j_zreti C hr (Nat.le_refl _) (Nat.zero_le _) (Or.inl rfl) (Or.inr ⟨fun h => by have h2 := h.1; have h3 := h.2; omega, rfl⟩) dX2_isThere_24

set_option maxHeartbeats 4000000 in
set_option maxRecDepth 100000 in
/-- X2_mapsOfKind -/
theorem c_X2_mapsOfKind (l : Launch) (G : Gx) (o : Nat) (maps : Int → List Q4) (hand : List Q4) (sd sc : Int) (near : Value) (w : Int) : Met l yX2_mapsOfKind wsX2_mapsOfKind ({ frames := 3, cells := 0, slots := 0, locals := 70 } : Room) (cPc G [.ref o, .int (zI w)] (fun H => TP G H o maps hand sd sc near ∧ iR w ∧ (∀ t : Int, 0 ≤ t → t < 12 → 1 ≤ (maps t).length → VM (maps t)))) (qI (fun r => r = cntK maps w 12)) 0 0 (fun _ => False) := by
  refine Met.ofJ (cc := cX2_mapsOfKind) (maxL := 4) (ret := (some .int)) (lv0 := [(0, .ref o), (1, .int (zI w))]) (by decide) rfl (Nat.le_of_ble_eq_true rfl) rfl ?_
  intro p e s m args below meth c C hr hnm hpre
  obtain ⟨hT, ⟨hw1, hw2⟩, hV⟩ := hpre
  have hwX2 : ∀ w ∈ u_ws RX2 TX2 8, w ∈ wsX2_mapsOfKind := by decide +kernel
  refine j_iconst C dX2_mapsOfKind_0 ?_
  refine j_istore_n (lv' := [(0, .ref o), (1, .int (zI w)), (2, .int (zI 0))]) C dX2_mapsOfKind_1 (by decide) rfl ?_
  refine j_iconst C dX2_mapsOfKind_2 ?_
  refine j_istore_n (lv' := [(0, .ref o), (1, .int (zI w)), (2, .int (zI 0)), (3, .int (zI 0))]) C dX2_mapsOfKind_3 (by decide) rfl ?_
  have K4 : ∀ (fu4 : Nat) (n i : Int), (12 - i).toNat < fu4 → 0 ≤ i ∧ i ≤ 12 → n = cntK maps w i.toNat → JJ p l e ({ frames := 3, cells := 0, slots := 0, locals := 70 } : Room) s m args below meth c (MQ below (qI (fun r => r = cntK maps w 12)) args s 0 0 (fun _ => False)) (fun _ => False) 4 s.heap 0 0 4 [(0, .ref o), (1, .int (zI w)), (2, .int (zI n)), (3, .int (zI i))] [] := by
    intro fu4
    induction fu4 with
    | zero => intro n i hm4 hi hn; exact absurd hm4 (Nat.not_lt_zero _)
    | succ fu4 ih4 =>
      intro n i hm4 hi hn
      refine j_iload_n C dX2_mapsOfKind_4 rfl ?_
      refine j_bipush C dX2_mapsOfKind_5 (by decide) ?_
      refine j_icmp_ge (tgt := 40) C dX2_mapsOfKind_7 (by decide) ⟨by omega, by omega⟩ ⟨by decide, by decide⟩ (fun c7 => ?_) (fun c7 => ?_)
      · skip
        refine j_iload_n C dX2_mapsOfKind_40 rfl ?_
        exact j_ireti C hr (Nat.le_refl _) (Nat.zero_le _) (by show n = _; rw [hn, show i.toNat = 12 by omega]) dX2_mapsOfKind_41
      · skip
        refine j_aload_n C dX2_mapsOfKind_10 rfl ?_
        refine j_iload_n C dX2_mapsOfKind_11 rfl ?_
        refine j_callI (jrunV (rest := []) (As := [.int (zI i)]) C (c_X2_isThere l G o maps hand sd sc near i) gX2_mapsOfKind_X2_isThere rfl 1 (by decide +kernel) rfl rfl ⟨Nat.le_of_ble_eq_true rfl, Nat.le_of_ble_eq_true rfl⟩ hT.1 rfl ⟨hT, by omega, by omega⟩ rfl rfl (Nat.le_of_ble_eq_true rfl) ⟨Nat.le_of_ble_eq_true rfl, Nat.le_of_ble_eq_true rfl⟩ dX2_mapsOfKind_12) (fun r12 h12 => ?_)
        rcases h12 with ⟨h12, rfl⟩ | ⟨h12, rfl⟩
        · skip
          have hcb := cntK_b maps w i.toNat
          refine j_if_eq (tgt := 34) C dX2_mapsOfKind_15 (by decide) ⟨by decide, by decide⟩ (fun c15 => absurd c15 (by decide)) (fun c15 => ?_)
          refine j_aload_n C dX2_mapsOfKind_18 rfl ?_
          refine j_get (T := TX2) (N := 8) (fs := _) (v := .ref (o + 1)) C hwX2 hT.1 0 (by decide) rfl (index := 11) (ref := "TreePairs") (by decide +kernel) rfl rfl dX2_mapsOfKind_19 ?_
          refine j_iload_n C dX2_mapsOfKind_22 rfl ?_
          refine j_aald (a := (mpA o i)) C hT.2.1 ⟨by omega, by omega⟩ rfl dX2_mapsOfKind_23 ?_
          have hM := hT.map (t := i) h12.1
          refine j_callI (jrunS (rest := []) (As := [.ref (mpA o i)]) C (c_X2_kindOf l G (mpA o i) 24 (maps i)) gX2_mapsOfKind_X2_kindOf rfl 1 (by decide +kernel) rfl rfl ⟨Nat.le_of_ble_eq_true rfl, Nat.le_of_ble_eq_true rfl⟩ ⟨hM, (hV i h12.1.1 h12.1.2 h12.2).B⟩ rfl rfl (Nat.le_of_ble_eq_true rfl) ⟨Nat.le_of_ble_eq_true rfl, Nat.le_of_ble_eq_true rfl⟩ dX2_mapsOfKind_24) (fun r24 h24 => ?_)
          subst h24
          refine j_iload_n C dX2_mapsOfKind_27 rfl ?_
          have hkf := kindF_b (maps i)
          refine j_icmp_ne (tgt := 34) C dX2_mapsOfKind_28 (by decide) ⟨by omega, by omega⟩ ⟨by omega, by omega⟩ (fun c28 => ?_) (fun c28 => ?_)
          · skip
            have hn2 : n = cntK maps w (i + 1).toNat := by rw [cntK_s hi.1, if_neg (fun h => c28 h.2), hn, Int.add_zero]
            refine j_iinc (lv' := [(0, .ref o), (1, .int (zI w)), (2, .int (zI n)), (3, .int (zI (i + 1)))]) C dX2_mapsOfKind_34 rfl (by decide) rfl ?_
            refine j_goto (tgt := 4) C dX2_mapsOfKind_37 (by decide) ?_
            exact JJ.drop (lv' := [(0, .ref o), (1, .int (zI w)), (2, .int (zI n)), (3, .int (zI (i + 1)))]) rfl (ih4 n (i + 1) (by omega) ⟨by omega, by omega⟩ hn2)
          · skip
            have hn2 : n + 1 = cntK maps w (i + 1).toNat := by rw [cntK_s hi.1, if_pos ⟨h12, c28⟩, hn]
            refine j_iinc (lv' := [(0, .ref o), (1, .int (zI w)), (2, .int (zI (n + 1))), (3, .int (zI i))]) C dX2_mapsOfKind_31 rfl (by decide) rfl ?_
            refine j_iinc (lv' := [(0, .ref o), (1, .int (zI w)), (2, .int (zI (n + 1))), (3, .int (zI (i + 1)))]) C dX2_mapsOfKind_34 rfl (by decide) rfl ?_
            refine j_goto (tgt := 4) C dX2_mapsOfKind_37 (by decide) ?_
            exact JJ.drop (lv' := [(0, .ref o), (1, .int (zI w)), (2, .int (zI (n + 1))), (3, .int (zI (i + 1)))]) rfl (ih4 (n + 1) (i + 1) (by omega) ⟨by omega, by omega⟩ hn2)
        · skip
          have hn2 : n = cntK maps w (i + 1).toNat := by rw [cntK_s hi.1, if_neg (fun h => h12 h.1), hn, Int.add_zero]
          refine j_if_eq (tgt := 34) C dX2_mapsOfKind_15 (by decide) ⟨by decide, by decide⟩ (fun c15 => ?_) (fun c15 => absurd c15 (by decide))
          refine j_iinc (lv' := [(0, .ref o), (1, .int (zI w)), (2, .int (zI n)), (3, .int (zI (i + 1)))]) C dX2_mapsOfKind_34 rfl (by decide) rfl ?_
          refine j_goto (tgt := 4) C dX2_mapsOfKind_37 (by decide) ?_
          exact JJ.drop (lv' := [(0, .ref o), (1, .int (zI w)), (2, .int (zI n)), (3, .int (zI (i + 1)))]) rfl (ih4 n (i + 1) (by omega) ⟨by omega, by omega⟩ hn2)
  exact JJ.drop (lv' := [(0, .ref o), (1, .int (zI w)), (2, .int (zI 0)), (3, .int (zI 0))]) rfl (K4 (((12 - (0 : Int)).toNat) + 1) 0 0 (Nat.lt_succ_self _) ⟨by omega, by omega⟩ rfl)

set_option maxHeartbeats 4000000 in
set_option maxRecDepth 100000 in
/-- X2_leaves -/
theorem c_X2_leaves (l : Launch) (G : Gx) (o : Nat) (maps : Int → List Q4) (hand : List Q4) (sd sc : Int) (near : Value) (x : Int) : Met l yX2_leaves wsX2_leaves ({ frames := 2, cells := 0, slots := 0, locals := 41 } : Room) (cPc G [.ref o, .int (zI x)] (fun H => TP G H o maps hand sd sc near ∧ iR x)) (qI (fun r => r = if thP maps x then ((maps x).length : Int) else -101)) 0 0 (fun _ => False) := by
  refine Met.ofJ (cc := cX2_leaves) (maxL := 2) (ret := (some .int)) (lv0 := [(0, .ref o), (1, .int (zI x))]) (by decide) rfl (Nat.le_of_ble_eq_true rfl) rfl ?_
  intro p e s m args below meth c C hr hnm hpre
  obtain ⟨hT, hx1, hx2⟩ := hpre
  have hwX1 : ∀ w ∈ u_ws RX1 TX1 5, w ∈ wsX2_leaves := by decide +kernel
  have hwX2 : ∀ w ∈ u_ws RX2 TX2 8, w ∈ wsX2_leaves := by decide +kernel
  refine j_aload_n C dX2_leaves_0 rfl ?_
  refine j_iload_n C dX2_leaves_1 rfl ?_
  refine j_callI (jrunV (rest := []) (As := [.int (zI x)]) C (c_X2_isThere l G o maps hand sd sc near x) gX2_leaves_X2_isThere rfl 1 (by decide +kernel) rfl rfl ⟨Nat.le_of_ble_eq_true rfl, Nat.le_of_ble_eq_true rfl⟩ hT.1 rfl ⟨hT, by omega, by omega⟩ rfl rfl (Nat.le_of_ble_eq_true rfl) ⟨Nat.le_of_ble_eq_true rfl, Nat.le_of_ble_eq_true rfl⟩ dX2_leaves_2) (fun r2 h2 => ?_)
  rcases h2 with ⟨h2, rfl⟩ | ⟨h2, rfl⟩
  · skip
    refine j_if_eq (tgt := 20) C dX2_leaves_5 (by decide) ⟨by decide, by decide⟩ (fun c5 => absurd c5 (by decide)) (fun c5 => ?_)
    refine j_aload_n C dX2_leaves_8 rfl ?_
    refine j_get (T := TX2) (N := 8) (fs := _) (v := .ref (o + 1)) C hwX2 hT.1 0 (by decide) rfl (index := 11) (ref := "TreePairs") (by decide +kernel) rfl rfl dX2_leaves_9 ?_
    refine j_iload_n C dX2_leaves_12 rfl ?_
    refine j_aald (a := (mpA o x)) C hT.2.1 ⟨by omega, by omega⟩ rfl dX2_leaves_13 ?_
    have hM := hT.map (t := x) h2.1
    have hl0 := hM.cap
    refine j_get (T := TX1) (N := 5) (fs := _) (v := .int (zI ((maps x).length : Int))) C hwX1 hM.ob 4 (by decide) rfl (index := 35) (ref := "TreePairs$Pairs") (by decide +kernel) rfl rfl dX2_leaves_14 ?_
    refine j_goto (tgt := 22) C dX2_leaves_17 (by decide) ?_
    exact j_ireti C hr (Nat.le_refl _) (Nat.zero_le _) (by show _ = _; rw [if_pos h2]) dX2_leaves_22
  · skip
    refine j_if_eq (tgt := 20) C dX2_leaves_5 (by decide) ⟨by decide, by decide⟩ (fun c5 => ?_) (fun c5 => absurd c5 (by decide))
    refine j_bipush C dX2_leaves_20 (by decide) ?_
    exact j_ireti C hr (Nat.le_refl _) (Nat.zero_le _) (by show _ = _; rw [if_neg h2]) dX2_leaves_22

set_option maxHeartbeats 4000000 in
set_option maxRecDepth 100000 in
/-- X2_sort -/
theorem c_X2_sort (l : Launch) (G : Gx) (o : Nat) (maps : Int → List Q4) (hand : List Q4) (sd sc : Int) (near : Value) (x : Int) : Met l yX2_sort wsX2_sort ({ frames := 3, cells := 0, slots := 0, locals := 70 } : Room) (cPc G [.ref o, .int (zI x)] (fun H => TP G H o maps hand sd sc near ∧ iR x ∧ (∀ t : Int, 0 ≤ t → t < 12 → 1 ≤ (maps t).length → VM (maps t)))) (qI (fun r => r = if thP maps x then kindF (maps x) else -101)) 0 0 (fun _ => False) := by
  refine Met.ofJ (cc := cX2_sort) (maxL := 2) (ret := (some .int)) (lv0 := [(0, .ref o), (1, .int (zI x))]) (by decide) rfl (Nat.le_of_ble_eq_true rfl) rfl ?_
  intro p e s m args below meth c C hr hnm hpre
  obtain ⟨hT, ⟨hx1, hx2⟩, hV⟩ := hpre
  have hwX2 : ∀ w ∈ u_ws RX2 TX2 8, w ∈ wsX2_sort := by decide +kernel
  refine j_aload_n C dX2_sort_0 rfl ?_
  refine j_iload_n C dX2_sort_1 rfl ?_
  refine j_callI (jrunV (rest := []) (As := [.int (zI x)]) C (c_X2_isThere l G o maps hand sd sc near x) gX2_sort_X2_isThere rfl 1 (by decide +kernel) rfl rfl ⟨Nat.le_of_ble_eq_true rfl, Nat.le_of_ble_eq_true rfl⟩ hT.1 rfl ⟨hT, by omega, by omega⟩ rfl rfl (Nat.le_of_ble_eq_true rfl) ⟨Nat.le_of_ble_eq_true rfl, Nat.le_of_ble_eq_true rfl⟩ dX2_sort_2) (fun r2 h2 => ?_)
  rcases h2 with ⟨h2, rfl⟩ | ⟨h2, rfl⟩
  · skip
    refine j_if_eq (tgt := 20) C dX2_sort_5 (by decide) ⟨by decide, by decide⟩ (fun c5 => absurd c5 (by decide)) (fun c5 => ?_)
    refine j_aload_n C dX2_sort_8 rfl ?_
    refine j_get (T := TX2) (N := 8) (fs := _) (v := .ref (o + 1)) C hwX2 hT.1 0 (by decide) rfl (index := 11) (ref := "TreePairs") (by decide +kernel) rfl rfl dX2_sort_9 ?_
    refine j_iload_n C dX2_sort_12 rfl ?_
    refine j_aald (a := (mpA o x)) C hT.2.1 ⟨by omega, by omega⟩ rfl dX2_sort_13 ?_
    have hM := hT.map (t := x) h2.1
    refine j_callI (jrunS (rest := []) (As := [.ref (mpA o x)]) C (c_X2_kindOf l G (mpA o x) 24 (maps x)) gX2_sort_X2_kindOf rfl 1 (by decide +kernel) rfl rfl ⟨Nat.le_of_ble_eq_true rfl, Nat.le_of_ble_eq_true rfl⟩ ⟨hM, (hV x h2.1.1 h2.1.2 h2.2).B⟩ rfl rfl (Nat.le_of_ble_eq_true rfl) ⟨Nat.le_of_ble_eq_true rfl, Nat.le_of_ble_eq_true rfl⟩ dX2_sort_14) (fun r14 h14 => ?_)
    subst h14
    refine j_goto (tgt := 22) C dX2_sort_17 (by decide) ?_
    exact j_ireti C hr (Nat.le_refl _) (Nat.zero_le _) (by show _ = _; rw [if_pos h2]) dX2_sort_22
  · skip
    refine j_if_eq (tgt := 20) C dX2_sort_5 (by decide) ⟨by decide, by decide⟩ (fun c5 => ?_) (fun c5 => absurd c5 (by decide))
    refine j_bipush C dX2_sort_20 (by decide) ?_
    exact j_ireti C hr (Nat.le_refl _) (Nat.zero_le _) (by show _ = _; rw [if_neg h2]) dX2_sort_22

set_option maxHeartbeats 4000000 in
set_option maxRecDepth 100000 in
/-- X2_leaf -/
theorem c_X2_leaf (l : Launch) (G : Gx) (o : Nat) (maps : Int → List Q4) (hand : List Q4) (sd sc : Int) (near : Value) (x i w : Int) : Met l yX2_leaf wsX2_leaf ({ frames := 2, cells := 0, slots := 0, locals := 41 } : Room) (cPc G [.ref o, .int (zI x), .int (zI i), .int (zI w)] (fun H => TP G H o maps hand sd sc near ∧ iR x ∧ iR i ∧ iR w ∧ (∀ t : Int, 0 ≤ t → t < 12 → 1 ≤ (maps t).length → VM (maps t)))) (qI (fun r => r = if thP maps x ∧ 0 ≤ i ∧ i < (maps x).length then (if 0 ≤ w ∧ w ≤ 3 then (if w = 0 then (qat (maps x) i).1 else if w = 1 then (qat (maps x) i).2.1 else if w = 2 then (qat (maps x) i).2.2.1 else (qat (maps x) i).2.2.2) else -102) else -101)) 0 0 (fun _ => False) := by
  refine Met.ofJ (cc := cX2_leaf) (maxL := 4) (ret := (some .int)) (lv0 := [(0, .ref o), (1, .int (zI x)), (2, .int (zI i)), (3, .int (zI w))]) (by decide) rfl (Nat.le_of_ble_eq_true rfl) rfl ?_
  intro p e s m args below meth c C hr hnm hpre
  obtain ⟨hT, ⟨hx1, hx2⟩, ⟨hi1, hi2⟩, ⟨hw1, hw2⟩, hV⟩ := hpre
  have hwX1 : ∀ w ∈ u_ws RX1 TX1 5, w ∈ wsX2_leaf := by decide +kernel
  have hwX2 : ∀ w ∈ u_ws RX2 TX2 8, w ∈ wsX2_leaf := by decide +kernel
  refine j_aload_n C dX2_leaf_0 rfl ?_
  refine j_iload_n C dX2_leaf_1 rfl ?_
  refine j_callI (jrunV (rest := []) (As := [.int (zI x)]) C (c_X2_isThere l G o maps hand sd sc near x) gX2_leaf_X2_isThere rfl 1 (by decide +kernel) rfl rfl ⟨Nat.le_of_ble_eq_true rfl, Nat.le_of_ble_eq_true rfl⟩ hT.1 rfl ⟨hT, by omega, by omega⟩ rfl rfl (Nat.le_of_ble_eq_true rfl) ⟨Nat.le_of_ble_eq_true rfl, Nat.le_of_ble_eq_true rfl⟩ dX2_leaf_2) (fun r2 h2 => ?_)
  rcases h2 with ⟨h2, rfl⟩ | ⟨h2, rfl⟩
  · skip
    refine j_if_eq (tgt := 25) C dX2_leaf_5 (by decide) ⟨by decide, by decide⟩ (fun c5 => absurd c5 (by decide)) (fun c5 => ?_)
    refine j_iload_n C dX2_leaf_8 rfl ?_
    refine j_if_lt (tgt := 25) C dX2_leaf_9 (by decide) ⟨by omega, by omega⟩ (fun c9 => ?_) (fun c9 => ?_)
    · skip
      refine j_bipush C dX2_leaf_25 (by decide) ?_
      exact j_ireti C hr (Nat.le_refl _) (Nat.zero_le _) (by show _ = _; rw [if_neg (by omega)]) dX2_leaf_27
    · skip
      refine j_iload_n C dX2_leaf_12 rfl ?_
      refine j_aload_n C dX2_leaf_13 rfl ?_
      refine j_get (T := TX2) (N := 8) (fs := _) (v := .ref (o + 1)) C hwX2 hT.1 0 (by decide) rfl (index := 11) (ref := "TreePairs") (by decide +kernel) rfl rfl dX2_leaf_14 ?_
      refine j_iload_n C dX2_leaf_17 rfl ?_
      refine j_aald (a := (mpA o x)) C hT.2.1 ⟨by omega, by omega⟩ rfl dX2_leaf_18 ?_
      have hM := hT.map (t := x) h2.1
      have hl0 := hM.cap
      refine j_get (T := TX1) (N := 5) (fs := _) (v := .int (zI ((maps x).length : Int))) C hwX1 hM.ob 4 (by decide) rfl (index := 35) (ref := "TreePairs$Pairs") (by decide +kernel) rfl rfl dX2_leaf_19 ?_
      refine j_icmp_lt (tgt := 28) C dX2_leaf_22 (by decide) ⟨by omega, by omega⟩ ⟨by omega, by omega⟩ (fun c22 => ?_) (fun c22 => ?_)
      · skip
        refine j_iload_n C dX2_leaf_28 rfl ?_
        refine j_if_lt (tgt := 37) C dX2_leaf_29 (by decide) ⟨by omega, by omega⟩ (fun c29 => ?_) (fun c29 => ?_)
        · skip
          refine j_bipush C dX2_leaf_37 (by decide) ?_
          exact j_ireti C hr (Nat.le_refl _) (Nat.zero_le _) (by show _ = _; rw [if_pos ⟨h2, by omega, by omega⟩, if_neg (by omega)]) dX2_leaf_39
        · skip
          refine j_iload_n C dX2_leaf_32 rfl ?_
          refine j_iconst C dX2_leaf_33 ?_
          refine j_icmp_le (tgt := 40) C dX2_leaf_34 (by decide) ⟨by omega, by omega⟩ ⟨by decide, by decide⟩ (fun c34 => ?_) (fun c34 => ?_)
          · skip
            refine j_aload_n C dX2_leaf_40 rfl ?_
            refine j_get (T := TX2) (N := 8) (fs := _) (v := .ref (o + 1)) C hwX2 hT.1 0 (by decide) rfl (index := 11) (ref := "TreePairs") (by decide +kernel) rfl rfl dX2_leaf_41 ?_
            refine j_iload_n C dX2_leaf_44 rfl ?_
            refine j_aald (a := (mpA o x)) C hT.2.1 ⟨by omega, by omega⟩ rfl dX2_leaf_45 ?_
            have hM := hT.map (t := x) h2.1
            refine j_iload_n C dX2_leaf_46 rfl ?_
            refine j_iload_n C dX2_leaf_47 rfl ?_
            obtain ⟨d, c0, e0, b, hP, hRp, hcap⟩ := hM
            have q1 := hRp i (by omega) (by omega)
            have b1 := hRp.bnd (hV x h2.1.1 h2.1.2 h2.2).B (i := i) (by omega) (by omega)
            have y1 := b1.1.b23
            have y2 := b1.2.b23
            refine j_callL (jrunV (rest := []) (As := [.int (zI i), .int (zI w)]) C (c_X1_told l G (mpA o x) 24 (maps x).length d c0 e0 b i w) gX2_leaf_X1_told rfl 2 (by decide +kernel) rfl rfl ⟨Nat.le_of_ble_eq_true rfl, Nat.le_of_ble_eq_true rfl⟩ hP.1 rfl ⟨hP, ⟨by omega, by omega⟩, ⟨by omega, by omega⟩, ⟨by omega, by omega⟩, ⟨by omega, by omega⟩⟩ rfl rfl (Nat.le_of_ble_eq_true rfl) ⟨Nat.le_of_ble_eq_true rfl, Nat.le_of_ble_eq_true rfl⟩ dX2_leaf_48) (fun r48 h48 => ?_)
            subst h48
            refine j_l2i C dX2_leaf_51 ?_
            exact j_ireti C hr (Nat.le_refl _) (Nat.zero_le _) (by show _ = _; rw [q1]; exact ((if_pos ⟨h2, by omega, by omega⟩).trans (if_pos ⟨by omega, by omega⟩)).symm) dX2_leaf_52
          · skip
            refine j_bipush C dX2_leaf_37 (by decide) ?_
            exact j_ireti C hr (Nat.le_refl _) (Nat.zero_le _) (by show _ = _; rw [if_pos ⟨h2, by omega, by omega⟩, if_neg (by omega)]) dX2_leaf_39
      · skip
        refine j_bipush C dX2_leaf_25 (by decide) ?_
        exact j_ireti C hr (Nat.le_refl _) (Nat.zero_le _) (by show _ = _; rw [if_neg (by omega)]) dX2_leaf_27
  · skip
    refine j_if_eq (tgt := 25) C dX2_leaf_5 (by decide) ⟨by decide, by decide⟩ (fun c5 => ?_) (fun c5 => absurd c5 (by decide))
    refine j_bipush C dX2_leaf_25 (by decide) ?_
    exact j_ireti C hr (Nat.le_refl _) (Nat.zero_le _) (by show _ = _; rw [if_neg (by omega)]) dX2_leaf_27

set_option maxHeartbeats 4000000 in
set_option maxRecDepth 100000 in
/-- X2_same -/
theorem c_X2_same (l : Launch) (G : Gx) (o : Nat) (maps : Int → List Q4) (hand : List Q4) (sd sc : Int) (near : Value) (x y : Int) : Met l yX2_same wsX2_same ({ frames := 2, cells := 0, slots := 0, locals := 45 } : Room) (cPc G [.ref o, .int (zI x), .int (zI y)] (fun H => TP G H o maps hand sd sc near ∧ iR x ∧ iR y ∧ (∀ t : Int, 0 ≤ t → t < 12 → 1 ≤ (maps t).length → VM (maps t)))) (qI (fun r => r = if thP maps x ∧ thP maps y then (if maps x = maps y then 1 else 0) else -101)) 0 0 (fun _ => False) := by
  refine Met.ofJ (cc := cX2_same) (maxL := 3) (ret := (some .int)) (lv0 := [(0, .ref o), (1, .int (zI x)), (2, .int (zI y))]) (by decide) rfl (Nat.le_of_ble_eq_true rfl) rfl ?_
  intro p e s m args below meth c C hr hnm hpre
  obtain ⟨hT, ⟨hx1, hx2⟩, ⟨hy1, hy2⟩, hV⟩ := hpre
  have hwX2 : ∀ w ∈ u_ws RX2 TX2 8, w ∈ wsX2_same := by decide +kernel
  refine j_aload_n C dX2_same_0 rfl ?_
  refine j_iload_n C dX2_same_1 rfl ?_
  refine j_callI (jrunV (rest := []) (As := [.int (zI x)]) C (c_X2_isThere l G o maps hand sd sc near x) gX2_same_X2_isThere rfl 1 (by decide +kernel) rfl rfl ⟨Nat.le_of_ble_eq_true rfl, Nat.le_of_ble_eq_true rfl⟩ hT.1 rfl ⟨hT, by omega, by omega⟩ rfl rfl (Nat.le_of_ble_eq_true rfl) ⟨Nat.le_of_ble_eq_true rfl, Nat.le_of_ble_eq_true rfl⟩ dX2_same_2) (fun r2 h2 => ?_)
  rcases h2 with ⟨h2, rfl⟩ | ⟨h2, rfl⟩
  · skip
    refine j_if_eq (tgt := 16) C dX2_same_5 (by decide) ⟨by decide, by decide⟩ (fun c5 => absurd c5 (by decide)) (fun c5 => ?_)
    refine j_aload_n C dX2_same_8 rfl ?_
    refine j_iload_n C dX2_same_9 rfl ?_
    refine j_callI (jrunV (rest := []) (As := [.int (zI y)]) C (c_X2_isThere l G o maps hand sd sc near y) gX2_same_X2_isThere rfl 1 (by decide +kernel) rfl rfl ⟨Nat.le_of_ble_eq_true rfl, Nat.le_of_ble_eq_true rfl⟩ hT.1 rfl ⟨hT, by omega, by omega⟩ rfl rfl (Nat.le_of_ble_eq_true rfl) ⟨Nat.le_of_ble_eq_true rfl, Nat.le_of_ble_eq_true rfl⟩ dX2_same_10) (fun r10 h10 => ?_)
    rcases h10 with ⟨h10, rfl⟩ | ⟨h10, rfl⟩
    · skip
      refine j_if_ne (tgt := 19) C dX2_same_13 (by decide) ⟨by decide, by decide⟩ (fun c13 => ?_) (fun c13 => absurd c13 (by decide))
      refine j_aload_n C dX2_same_19 rfl ?_
      refine j_get (T := TX2) (N := 8) (fs := _) (v := .ref (o + 1)) C hwX2 hT.1 0 (by decide) rfl (index := 11) (ref := "TreePairs") (by decide +kernel) rfl rfl dX2_same_20 ?_
      refine j_iload_n C dX2_same_23 rfl ?_
      refine j_aald (a := (mpA o x)) C hT.2.1 ⟨by omega, by omega⟩ rfl dX2_same_24 ?_
      have hM := hT.map (t := x) h2.1
      refine j_aload_n C dX2_same_25 rfl ?_
      refine j_get (T := TX2) (N := 8) (fs := _) (v := .ref (o + 1)) C hwX2 hT.1 0 (by decide) rfl (index := 11) (ref := "TreePairs") (by decide +kernel) rfl rfl dX2_same_26 ?_
      refine j_iload_n C dX2_same_29 rfl ?_
      refine j_aald (a := (mpA o y)) C hT.2.1 ⟨by omega, by omega⟩ rfl dX2_same_30 ?_
      have hN := hT.map (t := y) h10.1
      refine j_callI (jrunS (rest := []) (As := [.ref (mpA o x), .ref (mpA o y)]) C (c_X2_areAlike l G (mpA o x) 24 (mpA o y) 24 (maps x) (maps y)) gX2_same_X2_areAlike rfl 2 (by decide +kernel) rfl rfl ⟨Nat.le_of_ble_eq_true rfl, Nat.le_of_ble_eq_true rfl⟩ ⟨hM, hN, (hV x h2.1.1 h2.1.2 h2.2).B46, (hV y h10.1.1 h10.1.2 h10.2).B46⟩ rfl rfl (Nat.le_of_ble_eq_true rfl) ⟨Nat.le_of_ble_eq_true rfl, Nat.le_of_ble_eq_true rfl⟩ dX2_same_31) (fun r31 h31 => ?_)
      rcases h31 with ⟨h31, rfl⟩ | ⟨h31, rfl⟩
      · skip
        refine j_if_eq (tgt := 41) C dX2_same_34 (by decide) ⟨by decide, by decide⟩ (fun c34 => absurd c34 (by decide)) (fun c34 => ?_)
        refine j_iconst C dX2_same_37 ?_
        refine j_goto (tgt := 42) C dX2_same_38 (by decide) ?_
        exact j_ireti C hr (Nat.le_refl _) (Nat.zero_le _) (by show _ = _; rw [if_pos ⟨h2, h10⟩, if_pos h31]) dX2_same_42
      · skip
        refine j_if_eq (tgt := 41) C dX2_same_34 (by decide) ⟨by decide, by decide⟩ (fun c34 => ?_) (fun c34 => absurd c34 (by decide))
        refine j_iconst C dX2_same_41 ?_
        exact j_ireti C hr (Nat.le_refl _) (Nat.zero_le _) (by show _ = _; rw [if_pos ⟨h2, h10⟩, if_neg h31]) dX2_same_42
    · skip
      refine j_if_ne (tgt := 19) C dX2_same_13 (by decide) ⟨by decide, by decide⟩ (fun c13 => absurd c13 (by decide)) (fun c13 => ?_)
      refine j_bipush C dX2_same_16 (by decide) ?_
      exact j_ireti C hr (Nat.le_refl _) (Nat.zero_le _) (by show _ = _; rw [if_neg (fun h => by first | exact h2 h.1 | exact h10 h.2)]) dX2_same_18
  · skip
    refine j_if_eq (tgt := 16) C dX2_same_5 (by decide) ⟨by decide, by decide⟩ (fun c5 => ?_) (fun c5 => absurd c5 (by decide))
    refine j_bipush C dX2_same_16 (by decide) ?_
    exact j_ireti C hr (Nat.le_refl _) (Nat.zero_le _) (by show _ = _; rw [if_neg (fun h => by first | exact h2 h.1 | exact h10 h.2)]) dX2_same_18

set_option maxHeartbeats 4000000 in
set_option maxRecDepth 100000 in
/-- X2_seen -/
theorem c_X2_seen (l : Launch) (G : Gx) (o : Nat) (maps : Int → List Q4) (hand : List Q4) (sd sc : Int) (near : Value) (w : Int) : Met l yX2_seen wsX2_seen ({ frames := 0, cells := 0, slots := 0, locals := 0 } : Room) (cPc G [.ref o, .int (zI w)] (fun H => TP G H o maps hand sd sc near ∧ iR w ∧ iR sd)) (qL (fun r => r = if w = 0 then sd else if w = 1 then sc else -102)) 0 0 (fun _ => False) := by
  refine Met.ofJ (cc := cX2_seen) (maxL := 2) (ret := (some .long)) (lv0 := [(0, .ref o), (1, .int (zI w))]) (by decide) rfl (Nat.le_of_ble_eq_true rfl) rfl ?_
  intro p e s m args below meth c C hr hnm hpre
  obtain ⟨hT, ⟨hw1, hw2⟩, ⟨hs1, hs2⟩⟩ := hpre
  have hwX2 : ∀ w ∈ u_ws RX2 TX2 8, w ∈ wsX2_seen := by decide +kernel
  refine j_iload_n C dX2_seen_0 rfl ?_
  refine j_if_ne (tgt := 10) C dX2_seen_1 (by decide) ⟨by omega, by omega⟩ (fun c1 => ?_) (fun c1 => ?_)
  · skip
    refine j_iload_n C dX2_seen_10 rfl ?_
    refine j_iconst C dX2_seen_11 ?_
    refine j_icmp_ne (tgt := 22) C dX2_seen_12 (by decide) ⟨by omega, by omega⟩ ⟨by decide, by decide⟩ (fun c12 => ?_) (fun c12 => ?_)
    · skip
      refine j_ldc2 (z := (-102)) C (index := 135) (v := (-102)) (by decide +kernel) (by decide) dX2_seen_22 ?_
      exact j_lretl C hr (Nat.le_refl _) (Nat.zero_le _) (by show _ = _; rw [if_neg c1, if_neg c12]) dX2_seen_25
    · skip
      refine j_aload_n C dX2_seen_15 rfl ?_
      refine j_get (T := TX2) (N := 8) (fs := _) (v := .long (zL sc)) C hwX2 hT.1 3 (by decide) rfl (index := 131) (ref := "TreePairs") (by decide +kernel) rfl rfl dX2_seen_16 ?_
      refine j_goto (tgt := 25) C dX2_seen_19 (by decide) ?_
      exact j_lretl C hr (Nat.le_refl _) (Nat.zero_le _) (by show _ = _; rw [if_neg c1, if_pos c12]) dX2_seen_25
  · skip
    refine j_aload_n C dX2_seen_4 rfl ?_
    refine j_get (T := TX2) (N := 8) (fs := _) (v := .int (zI sd)) C hwX2 hT.1 2 (by decide) rfl (index := 128) (ref := "TreePairs") (by decide +kernel) rfl rfl dX2_seen_5 ?_
    refine j_i2l C dX2_seen_8 ⟨by omega, by omega⟩ ?_
    exact j_lretl C hr (Nat.le_refl _) (Nat.zero_le _) (by show _ = _; rw [if_pos c1]) dX2_seen_9

set_option maxHeartbeats 4000000 in
set_option maxRecDepth 100000 in
/-- X2_bend -/
theorem c_X2_bend (l : Launch) (G : Gx) (o : Nat) (maps : Int → List Q4) (hand : List Q4) (sd sc : Int) (near : Value) (x i : Int) : Met l yX2_bend wsX2_bend ({ frames := 2, cells := 0, slots := 0, locals := 41 } : Room) (cPc G [.ref o, .int (zI x), .int (zI i)] (fun H => TP G H o maps hand sd sc near ∧ iR x ∧ iR i)) (qI (fun r => r = if thP maps x ∧ 0 ≤ i ∧ i < (maps x).length then (if i = 0 then steep (qat (maps x) i) else steep (qat (maps x) i) - steep (qat (maps x) (i - 1))) else -1000)) 0 0 (fun _ => False) := by
  refine Met.ofJ (cc := cX2_bend) (maxL := 4) (ret := (some .int)) (lv0 := [(0, .ref o), (1, .int (zI x)), (2, .int (zI i))]) (by decide) rfl (Nat.le_of_ble_eq_true rfl) rfl ?_
  intro p e s m args below meth c C hr hnm hpre
  obtain ⟨hT, ⟨hx1, hx2⟩, ⟨hi1, hi2⟩⟩ := hpre
  have hwX1 : ∀ w ∈ u_ws RX1 TX1 5, w ∈ wsX2_bend := by decide +kernel
  have hwX2 : ∀ w ∈ u_ws RX2 TX2 8, w ∈ wsX2_bend := by decide +kernel
  refine j_aload_n C dX2_bend_0 rfl ?_
  refine j_iload_n C dX2_bend_1 rfl ?_
  refine j_callI (jrunV (rest := []) (As := [.int (zI x)]) C (c_X2_isThere l G o maps hand sd sc near x) gX2_bend_X2_isThere rfl 1 (by decide +kernel) rfl rfl ⟨Nat.le_of_ble_eq_true rfl, Nat.le_of_ble_eq_true rfl⟩ hT.1 rfl ⟨hT, by omega, by omega⟩ rfl rfl (Nat.le_of_ble_eq_true rfl) ⟨Nat.le_of_ble_eq_true rfl, Nat.le_of_ble_eq_true rfl⟩ dX2_bend_2) (fun r2 h2 => ?_)
  rcases h2 with ⟨h2, rfl⟩ | ⟨h2, rfl⟩
  · skip
    refine j_if_eq (tgt := 25) C dX2_bend_5 (by decide) ⟨by decide, by decide⟩ (fun c5 => absurd c5 (by decide)) (fun c5 => ?_)
    refine j_iload_n C dX2_bend_8 rfl ?_
    refine j_if_lt (tgt := 25) C dX2_bend_9 (by decide) ⟨by omega, by omega⟩ (fun c9 => ?_) (fun c9 => ?_)
    · skip
      refine j_sipush C dX2_bend_25 (by decide) ?_
      exact j_ireti C hr (Nat.le_refl _) (Nat.zero_le _) (by show _ = _; rw [if_neg (by omega)]) dX2_bend_28
    · skip
      refine j_iload_n C dX2_bend_12 rfl ?_
      refine j_aload_n C dX2_bend_13 rfl ?_
      refine j_get (T := TX2) (N := 8) (fs := _) (v := .ref (o + 1)) C hwX2 hT.1 0 (by decide) rfl (index := 11) (ref := "TreePairs") (by decide +kernel) rfl rfl dX2_bend_14 ?_
      refine j_iload_n C dX2_bend_17 rfl ?_
      refine j_aald (a := (mpA o x)) C hT.2.1 ⟨by omega, by omega⟩ rfl dX2_bend_18 ?_
      have hM := hT.map (t := x) h2.1
      have hl0 := hM.cap
      refine j_get (T := TX1) (N := 5) (fs := _) (v := .int (zI ((maps x).length : Int))) C hwX1 hM.ob 4 (by decide) rfl (index := 35) (ref := "TreePairs$Pairs") (by decide +kernel) rfl rfl dX2_bend_19 ?_
      refine j_icmp_lt (tgt := 29) C dX2_bend_22 (by decide) ⟨by omega, by omega⟩ ⟨by omega, by omega⟩ (fun c22 => ?_) (fun c22 => ?_)
      · skip
        refine j_aload_n C dX2_bend_29 rfl ?_
        refine j_get (T := TX2) (N := 8) (fs := _) (v := .ref (o + 1)) C hwX2 hT.1 0 (by decide) rfl (index := 11) (ref := "TreePairs") (by decide +kernel) rfl rfl dX2_bend_30 ?_
        refine j_iload_n C dX2_bend_33 rfl ?_
        refine j_aald (a := (mpA o x)) C hT.2.1 ⟨by omega, by omega⟩ rfl dX2_bend_34 ?_
        have hM := hT.map (t := x) h2.1
        refine j_iload_n C dX2_bend_35 rfl ?_
        obtain ⟨d, c0, e0, b, hP, hRp, hcap⟩ := hM
        have q1 := hRp i (by omega) (by omega)
        refine j_callI (jrunV (rest := []) (As := [.int (zI i)]) C (c_X1_steepness l G (mpA o x) 24 (maps x).length d c0 e0 b i) gX2_bend_X1_steepness rfl 1 (by decide +kernel) rfl rfl ⟨Nat.le_of_ble_eq_true rfl, Nat.le_of_ble_eq_true rfl⟩ hP.1 rfl ⟨hP, ⟨by omega, by omega⟩⟩ rfl rfl (Nat.le_of_ble_eq_true rfl) ⟨Nat.le_of_ble_eq_true rfl, Nat.le_of_ble_eq_true rfl⟩ dX2_bend_36) (fun r36 h36 => ?_)
        subst h36
        refine j_istore_n (lv' := [(0, .ref o), (1, .int (zI x)), (2, .int (zI i)), (3, .int (zI (d i - e0 i)))]) C dX2_bend_39 (by decide) rfl ?_
        refine j_iload_n C dX2_bend_40 rfl ?_
        refine j_if_ne (tgt := 48) C dX2_bend_41 (by decide) ⟨by omega, by omega⟩ (fun c41 => ?_) (fun c41 => ?_)
        · skip
          refine j_iload_n C dX2_bend_48 rfl ?_
          refine j_aload_n C dX2_bend_49 rfl ?_
          refine j_get (T := TX2) (N := 8) (fs := _) (v := .ref (o + 1)) C hwX2 hT.1 0 (by decide) rfl (index := 11) (ref := "TreePairs") (by decide +kernel) rfl rfl dX2_bend_50 ?_
          refine j_iload_n C dX2_bend_53 rfl ?_
          refine j_aald (a := (mpA o x)) C hT.2.1 ⟨by omega, by omega⟩ rfl dX2_bend_54 ?_
          have hM := hT.map (t := x) h2.1
          refine j_iload_n C dX2_bend_55 rfl ?_
          refine j_iconst C dX2_bend_56 ?_
          refine j_isub C dX2_bend_57 ?_
          have q0 := hRp (i - 1) (by omega) (by omega)
          refine j_callI (jrunV (rest := [.int (zI (d i - e0 i))]) (As := [.int (zI (i - 1))]) C (c_X1_steepness l G (mpA o x) 24 (maps x).length d c0 e0 b (i - 1)) gX2_bend_X1_steepness rfl 1 (by decide +kernel) rfl rfl ⟨Nat.le_of_ble_eq_true rfl, Nat.le_of_ble_eq_true rfl⟩ hP.1 rfl ⟨hP, ⟨by omega, by omega⟩⟩ rfl rfl (Nat.le_of_ble_eq_true rfl) ⟨Nat.le_of_ble_eq_true rfl, Nat.le_of_ble_eq_true rfl⟩ dX2_bend_58) (fun r58 h58 => ?_)
          subst h58
          refine j_isub C dX2_bend_61 ?_
          exact j_ireti C hr (Nat.le_refl _) (Nat.zero_le _) (by show _ = _; rw [if_pos ⟨h2, by omega, by omega⟩, if_neg c41, q1, q0]; rfl) dX2_bend_62
        · skip
          refine j_iload_n C dX2_bend_44 rfl ?_
          refine j_goto (tgt := 62) C dX2_bend_45 (by decide) ?_
          exact j_ireti C hr (Nat.le_refl _) (Nat.zero_le _) (by show _ = _; rw [if_pos ⟨h2, by omega, by omega⟩, if_pos c41, q1]; rfl) dX2_bend_62
      · skip
        refine j_sipush C dX2_bend_25 (by decide) ?_
        exact j_ireti C hr (Nat.le_refl _) (Nat.zero_le _) (by show _ = _; rw [if_neg (by omega)]) dX2_bend_28
  · skip
    refine j_if_eq (tgt := 25) C dX2_bend_5 (by decide) ⟨by decide, by decide⟩ (fun c5 => ?_) (fun c5 => absurd c5 (by decide))
    refine j_sipush C dX2_bend_25 (by decide) ?_
    exact j_ireti C hr (Nat.le_refl _) (Nat.zero_le _) (by show _ = _; rw [if_neg (by omega)]) dX2_bend_28
