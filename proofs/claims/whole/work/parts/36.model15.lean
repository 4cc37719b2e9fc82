set_option maxHeartbeats 4000000 in
set_option maxRecDepth 100000 in
/-- X3_wordOf -/
theorem c_X3_wordOf (l : Launch) (G : Gx) (o : Nat) (uh ud uc us uo ub uw ua ue ux : Int) (m0 m1 m3 m7 m8 m12 m13 m14 m15 m16 : Int → Int) (W : List (List Q4)) (L : List Q4) : Met l yX3_wordOf wsX3_wordOf ({ frames := 0, cells := 0, slots := 0, locals := 0 } : Room) (cPc G [.ref o] (fun H => MP G H o uh ud uc us uo ub uw ua ue ux m0 m1 m3 m7 m8 m12 m13 m14 m15 m16 ∧ us = L.length ∧ L.length ≤ 64 ∧ R4 L m7 ∧ WT W uw m12 m13 ∧ (∀ x ∈ W, VM x) ∧ W.length ≤ 169 ∧ (∀ q ∈ L, LQ 46 q))) (qI (fun r => (r = -1 ∧ L ∉ W) ∨ (0 ≤ r ∧ r < W.length ∧ wat W r = L ∧ ∀ v : Int, 0 ≤ v → v < r → wat W v ≠ L))) 0 0 (fun _ => False) := by
  refine Met.ofJ (cc := cX3_wordOf) (maxL := 4) (ret := (some .int)) (lv0 := [(0, .ref o)]) (by decide) rfl (Nat.le_of_ble_eq_true rfl) rfl ?_
  intro p e s m args below meth c C hr hnm hpre
  obtain ⟨hM, hus, hll, hL7, hWT, hWV, hWl, hLB⟩ := hpre
  have hwX3 : ∀ w ∈ u_ws RX3 TX3 20, w ∈ wsX3_wordOf := by decide +kernel
  subst hus
  have huw := hWT.1
  refine j_iconst C dX3_wordOf_0 ?_
  refine j_istore_n (lv' := [(0, .ref o), (1, .int (zI 0))]) C dX3_wordOf_1 (by decide) rfl ?_
  have K2 : ∀ (fu2 : Nat) (w : Int), (W.length - w).toNat < fu2 → 0 ≤ w ∧ w ≤ W.length → (∀ v : Int, 0 ≤ v → v < w → wat W v ≠ L) → JJ p l e ({ frames := 0, cells := 0, slots := 0, locals := 0 } : Room) s m args below meth c (MQ below (qI (fun r => (r = -1 ∧ L ∉ W) ∨ (0 ≤ r ∧ r < W.length ∧ wat W r = L ∧ ∀ v : Int, 0 ≤ v → v < r → wat W v ≠ L))) args s 0 0 (fun _ => False)) (fun _ => False) 4 s.heap 0 0 2 [(0, .ref o), (1, .int (zI w))] [] := by
    intro fu2
    induction fu2 with
    | zero => intro w hm2 hw hno; exact absurd hm2 (Nat.not_lt_zero _)
    | succ fu2 ih2 =>
      intro w hm2 hw hno
      refine j_iload_n C dX3_wordOf_2 rfl ?_
      refine j_aload_n C dX3_wordOf_3 rfl ?_
      refine j_get (T := TX3) (N := 20) (fs := _) (v := .int (zI uw)) C hwX3 hM.1 11 (by decide) rfl (index := 136) (ref := "TreePairsModel") (by decide +kernel) rfl rfl dX3_wordOf_4 ?_
      refine j_icmp_ge (tgt := 91) C dX3_wordOf_7 (by decide) ⟨by omega, by omega⟩ ⟨by omega, by omega⟩ (fun c7 => ?_) (fun c7 => ?_)
      · skip
        have ew : w = W.length := by omega
        refine j_iconst C dX3_wordOf_91 ?_
        exact j_ireti C hr (Nat.le_refl _) (Nat.zero_le _) (Or.inl ⟨rfl, fun h => by obtain ⟨v, v0, v1, e⟩ := wat_of_mem h; exact hno v v0 (by omega) e⟩) dX3_wordOf_92
      · skip
        have hww := hWT.2 w hw.1 (by omega)
        have hwv := hWV _ (wat_mem (W := W) hw.1 (by omega))
        have hwl := hwv.len
        refine j_aload_n C dX3_wordOf_10 rfl ?_
        refine j_get (T := TX3) (N := 20) (fs := _) (v := .ref (o + 6)) C hwX3 hM.1 12 (by decide) rfl (index := 26) (ref := "TreePairsModel") (by decide +kernel) rfl rfl dX3_wordOf_11 ?_
        refine j_iload_n C dX3_wordOf_14 rfl ?_
        refine j_iald C hM.2.2.2.2.2.2.1 ⟨by omega, by omega⟩ dX3_wordOf_15 ?_
        refine j_aload_n C dX3_wordOf_16 rfl ?_
        refine j_get (T := TX3) (N := 20) (fs := _) (v := .int (zI (L.length : Int))) C hwX3 hM.1 6 (by decide) rfl (index := 51) (ref := "TreePairsModel") (by decide +kernel) rfl rfl dX3_wordOf_17 ?_
        refine j_icmp_ne (tgt := 27) C dX3_wordOf_20 (by decide) ⟨by omega, by omega⟩ ⟨by omega, by omega⟩ (fun c20 => ?_) (fun c20 => ?_)
        · skip
          refine j_iconst C dX3_wordOf_27 ?_
          refine j_istore_n (lv' := [(0, .ref o), (1, .int (zI w)), (2, .int (zI 0))]) C dX3_wordOf_28 (by decide) rfl ?_
          refine j_iconst C dX3_wordOf_29 ?_
          refine j_istore_n (lv' := [(0, .ref o), (1, .int (zI w)), (2, .int (zI 0)), (3, .int (zI 0))]) C dX3_wordOf_30 (by decide) rfl ?_
          have K31 : ∀ (fu31 : Nat) (s2 k : Int), (4 * (L.length : Int) - k).toNat < fu31 → 0 ≤ k ∧ k ≤ 4 * (L.length : Int) → ((s2 = 1 ∧ (wat W w).length = L.length ∧ ∀ q, 0 ≤ q → q < k → m13 (96 * w + q) = m7 q) ∨ (s2 = 0 ∧ wat W w ≠ L)) → JJ p l e ({ frames := 0, cells := 0, slots := 0, locals := 0 } : Room) s m args below meth c (MQ below (qI (fun r => (r = -1 ∧ L ∉ W) ∨ (0 ≤ r ∧ r < W.length ∧ wat W r = L ∧ ∀ v : Int, 0 ≤ v → v < r → wat W v ≠ L))) args s 0 0 (fun _ => False)) (fun _ => False) 4 s.heap 0 0 31 [(0, .ref o), (1, .int (zI w)), (2, .int (zI s2)), (3, .int (zI k))] [] := by
            intro fu31
            induction fu31 with
            | zero => intro s2 k hm31 hk hs2; exact absurd hm31 (Nat.not_lt_zero _)
            | succ fu31 ih31 =>
              intro s2 k hm31 hk hs2
              refine j_iload_n C dX3_wordOf_31 rfl ?_
              refine j_iconst C dX3_wordOf_32 ?_
              refine j_aload_n C dX3_wordOf_33 rfl ?_
              refine j_get (T := TX3) (N := 20) (fs := _) (v := .int (zI (L.length : Int))) C hwX3 hM.1 6 (by decide) rfl (index := 51) (ref := "TreePairsModel") (by decide +kernel) rfl rfl dX3_wordOf_34 ?_
              refine j_imul C dX3_wordOf_37 ?_
              refine j_icmp_ge (tgt := 79) C dX3_wordOf_38 (by decide) ⟨by omega, by omega⟩ ⟨by omega, by omega⟩ (fun c38 => ?_) (fun c38 => ?_)
              · skip
                refine j_iload_n C dX3_wordOf_79 rfl ?_
                refine j_if_eq (tgt := 85) C dX3_wordOf_80 (by decide) ⟨by omega, by omega⟩ (fun c80 => ?_) (fun c80 => ?_)
                · skip
                  have hne : wat W w ≠ L := (by rcases hs2 with h | h; omega; exact h.2)
                  refine j_iinc (lv' := [(0, .ref o), (1, .int (zI (w + 1))), (2, .int (zI s2)), (3, .int (zI k))]) C dX3_wordOf_85 rfl (by decide) rfl ?_
                  refine j_goto (tgt := 2) C dX3_wordOf_88 (by decide) ?_
                  exact JJ.drop (lv' := [(0, .ref o), (1, .int (zI (w + 1)))]) rfl (ih2 (w + 1) (by omega) ⟨by omega, by omega⟩ (fun v v0 v1 => by rcases Int.lt_or_le v w with z | z; exact hno v v0 z; have e : v = w := (by omega); rw [e]; exact hne))
                · skip
                  have heq : wat W w = L := (by rcases hs2 with h | h; exact hww.2.ext hL7 h.2.1 (fun q q0 q1 => h.2.2 q q0 (by omega)); omega)
                  refine j_iload_n C dX3_wordOf_83 rfl ?_
                  exact j_ireti C hr (Nat.le_refl _) (Nat.zero_le _) (Or.inr ⟨by omega, by omega, heq, hno⟩) dX3_wordOf_84
              · skip
                refine j_iload_n C dX3_wordOf_41 rfl ?_
                refine j_if_eq (tgt := 79) C dX3_wordOf_42 (by decide) ⟨by omega, by omega⟩ (fun c42 => ?_) (fun c42 => ?_)
                · skip
                  refine j_iload_n C dX3_wordOf_79 rfl ?_
                  refine j_if_eq (tgt := 85) C dX3_wordOf_80 (by decide) ⟨by omega, by omega⟩ (fun c80 => ?_) (fun c80 => ?_)
                  · skip
                    have hne : wat W w ≠ L := (by rcases hs2 with h | h; omega; exact h.2)
                    refine j_iinc (lv' := [(0, .ref o), (1, .int (zI (w + 1))), (2, .int (zI s2)), (3, .int (zI k))]) C dX3_wordOf_85 rfl (by decide) rfl ?_
                    refine j_goto (tgt := 2) C dX3_wordOf_88 (by decide) ?_
                    exact JJ.drop (lv' := [(0, .ref o), (1, .int (zI (w + 1)))]) rfl (ih2 (w + 1) (by omega) ⟨by omega, by omega⟩ (fun v v0 v1 => by rcases Int.lt_or_le v w with z | z; exact hno v v0 z; have e : v = w := (by omega); rw [e]; exact hne))
                  · skip
                    have heq : wat W w = L := (by rcases hs2 with h | h; exact hww.2.ext hL7 h.2.1 (fun q q0 q1 => h.2.2 q q0 (by omega)); omega)
                    refine j_iload_n C dX3_wordOf_83 rfl ?_
                    exact j_ireti C hr (Nat.le_refl _) (Nat.zero_le _) (Or.inr ⟨by omega, by omega, heq, hno⟩) dX3_wordOf_84
                · skip
                  have hsx : (wat W w).length = L.length ∧ ∀ q, 0 ≤ q → q < k → m13 (96 * w + q) = m7 q := (by rcases hs2 with h | h; exact h.2; omega)
                  have hrx := hww.2.iR4 hwv.B (k := k) hk.1 (by omega)
                  have hry := hL7.lR4 hLB (k := k) hk.1 (by omega)
                  refine j_aload_n C dX3_wordOf_45 rfl ?_
                  refine j_get (T := TX3) (N := 20) (fs := _) (v := .ref (o + 7)) C hwX3 hM.1 13 (by decide) rfl (index := 29) (ref := "TreePairsModel") (by decide +kernel) rfl rfl dX3_wordOf_46 ?_
                  refine j_bipush C dX3_wordOf_49 (by decide) ?_
                  refine j_iload_n C dX3_wordOf_51 rfl ?_
                  refine j_imul C dX3_wordOf_52 ?_
                  refine j_iload_n C dX3_wordOf_53 rfl ?_
                  refine j_iadd C dX3_wordOf_54 ?_
                  refine j_iald C hM.2.2.2.2.2.2.2.1 ⟨by omega, by omega⟩ dX3_wordOf_55 ?_
                  refine j_i2l C dX3_wordOf_56 hrx ?_
                  refine j_aload_n C dX3_wordOf_57 rfl ?_
                  refine j_get (T := TX3) (N := 20) (fs := _) (v := .ref (o + 4)) C hwX3 hM.1 7 (by decide) rfl (index := 19) (ref := "TreePairsModel") (by decide +kernel) rfl rfl dX3_wordOf_58 ?_
                  refine j_iload_n C dX3_wordOf_61 rfl ?_
                  refine j_lald C hM.2.2.2.2.1 ⟨by omega, by omega⟩ dX3_wordOf_62 ?_
                  refine j_lcmp_ne (tgt := 71) C dX3_wordOf_63 dX3_wordOf_64 (by decide) ⟨by omega, by omega⟩ hry (fun c63 => ?_) (fun c63 => ?_)
                  · skip
                    refine j_iconst C dX3_wordOf_71 ?_
                    refine j_istore_n (lv' := [(0, .ref o), (1, .int (zI w)), (2, .int (zI 0)), (3, .int (zI k))]) C dX3_wordOf_72 (by decide) rfl ?_
                    refine j_iinc (lv' := [(0, .ref o), (1, .int (zI w)), (2, .int (zI 0)), (3, .int (zI (k + 1)))]) C dX3_wordOf_73 rfl (by decide) rfl ?_
                    refine j_goto (tgt := 31) C dX3_wordOf_76 (by decide) ?_
                    exact JJ.drop (lv' := [(0, .ref o), (1, .int (zI w)), (2, .int (zI 0)), (3, .int (zI (k + 1)))]) rfl (ih31 0 (k + 1) (by omega) ⟨by omega, by omega⟩ (Or.inr ⟨rfl, fun e => c63 (by have h1 := hww.2; rw [e] at h1; exact h1.eqv hL7 hk.1 (by omega))⟩))
                  · skip
                    refine j_iconst C dX3_wordOf_67 ?_
                    refine j_goto (tgt := 72) C dX3_wordOf_68 (by decide) ?_
                    refine j_istore_n (lv' := [(0, .ref o), (1, .int (zI w)), (2, .int (zI 1)), (3, .int (zI k))]) C dX3_wordOf_72 (by decide) rfl ?_
                    refine j_iinc (lv' := [(0, .ref o), (1, .int (zI w)), (2, .int (zI 1)), (3, .int (zI (k + 1)))]) C dX3_wordOf_73 rfl (by decide) rfl ?_
                    refine j_goto (tgt := 31) C dX3_wordOf_76 (by decide) ?_
                    exact JJ.drop (lv' := [(0, .ref o), (1, .int (zI w)), (2, .int (zI 1)), (3, .int (zI (k + 1)))]) rfl (ih31 1 (k + 1) (by omega) ⟨by omega, by omega⟩ (Or.inl ⟨rfl, hsx.1, fun q q0 q1 => by rcases Int.lt_or_le q k with z | z; exact hsx.2 q q0 z; have e : q = k := (by omega); subst e; exact c63⟩))
          exact JJ.drop (lv' := [(0, .ref o), (1, .int (zI w)), (2, .int (zI 0)), (3, .int (zI 0))]) rfl (K31 (((4 * (L.length : Int) - (0 : Int)).toNat) + 1) 0 0 (Nat.lt_succ_self _) ⟨by omega, by omega⟩ (Or.inr ⟨rfl, fun e => c20 (by rw [hww.1, e])⟩))
        · skip
          refine j_iconst C dX3_wordOf_23 ?_
          refine j_goto (tgt := 28) C dX3_wordOf_24 (by decide) ?_
          refine j_istore_n (lv' := [(0, .ref o), (1, .int (zI w)), (2, .int (zI 1))]) C dX3_wordOf_28 (by decide) rfl ?_
          refine j_iconst C dX3_wordOf_29 ?_
          refine j_istore_n (lv' := [(0, .ref o), (1, .int (zI w)), (2, .int (zI 1)), (3, .int (zI 0))]) C dX3_wordOf_30 (by decide) rfl ?_
          have K31 : ∀ (fu31 : Nat) (s2 k : Int), (4 * (L.length : Int) - k).toNat < fu31 → 0 ≤ k ∧ k ≤ 4 * (L.length : Int) → ((s2 = 1 ∧ (wat W w).length = L.length ∧ ∀ q, 0 ≤ q → q < k → m13 (96 * w + q) = m7 q) ∨ (s2 = 0 ∧ wat W w ≠ L)) → JJ p l e ({ frames := 0, cells := 0, slots := 0, locals := 0 } : Room) s m args below meth c (MQ below (qI (fun r => (r = -1 ∧ L ∉ W) ∨ (0 ≤ r ∧ r < W.length ∧ wat W r = L ∧ ∀ v : Int, 0 ≤ v → v < r → wat W v ≠ L))) args s 0 0 (fun _ => False)) (fun _ => False) 4 s.heap 0 0 31 [(0, .ref o), (1, .int (zI w)), (2, .int (zI s2)), (3, .int (zI k))] [] := by
            intro fu31
            induction fu31 with
            | zero => intro s2 k hm31 hk hs2; exact absurd hm31 (Nat.not_lt_zero _)
            | succ fu31 ih31 =>
              intro s2 k hm31 hk hs2
              refine j_iload_n C dX3_wordOf_31 rfl ?_
              refine j_iconst C dX3_wordOf_32 ?_
              refine j_aload_n C dX3_wordOf_33 rfl ?_
              refine j_get (T := TX3) (N := 20) (fs := _) (v := .int (zI (L.length : Int))) C hwX3 hM.1 6 (by decide) rfl (index := 51) (ref := "TreePairsModel") (by decide +kernel) rfl rfl dX3_wordOf_34 ?_
              refine j_imul C dX3_wordOf_37 ?_
              refine j_icmp_ge (tgt := 79) C dX3_wordOf_38 (by decide) ⟨by omega, by omega⟩ ⟨by omega, by omega⟩ (fun c38 => ?_) (fun c38 => ?_)
              · skip
                refine j_iload_n C dX3_wordOf_79 rfl ?_
                refine j_if_eq (tgt := 85) C dX3_wordOf_80 (by decide) ⟨by omega, by omega⟩ (fun c80 => ?_) (fun c80 => ?_)
                · skip
                  have hne : wat W w ≠ L := (by rcases hs2 with h | h; omega; exact h.2)
                  refine j_iinc (lv' := [(0, .ref o), (1, .int (zI (w + 1))), (2, .int (zI s2)), (3, .int (zI k))]) C dX3_wordOf_85 rfl (by decide) rfl ?_
                  refine j_goto (tgt := 2) C dX3_wordOf_88 (by decide) ?_
                  exact JJ.drop (lv' := [(0, .ref o), (1, .int (zI (w + 1)))]) rfl (ih2 (w + 1) (by omega) ⟨by omega, by omega⟩ (fun v v0 v1 => by rcases Int.lt_or_le v w with z | z; exact hno v v0 z; have e : v = w := (by omega); rw [e]; exact hne))
                · skip
                  have heq : wat W w = L := (by rcases hs2 with h | h; exact hww.2.ext hL7 h.2.1 (fun q q0 q1 => h.2.2 q q0 (by omega)); omega)
                  refine j_iload_n C dX3_wordOf_83 rfl ?_
                  exact j_ireti C hr (Nat.le_refl _) (Nat.zero_le _) (Or.inr ⟨by omega, by omega, heq, hno⟩) dX3_wordOf_84
              · skip
                refine j_iload_n C dX3_wordOf_41 rfl ?_
                refine j_if_eq (tgt := 79) C dX3_wordOf_42 (by decide) ⟨by omega, by omega⟩ (fun c42 => ?_) (fun c42 => ?_)
                · skip
                  refine j_iload_n C dX3_wordOf_79 rfl ?_
                  refine j_if_eq (tgt := 85) C dX3_wordOf_80 (by decide) ⟨by omega, by omega⟩ (fun c80 => ?_) (fun c80 => ?_)
                  · skip
                    have hne : wat W w ≠ L := (by rcases hs2 with h | h; omega; exact h.2)
                    refine j_iinc (lv' := [(0, .ref o), (1, .int (zI (w + 1))), (2, .int (zI s2)), (3, .int (zI k))]) C dX3_wordOf_85 rfl (by decide) rfl ?_
                    refine j_goto (tgt := 2) C dX3_wordOf_88 (by decide) ?_
                    exact JJ.drop (lv' := [(0, .ref o), (1, .int (zI (w + 1)))]) rfl (ih2 (w + 1) (by omega) ⟨by omega, by omega⟩ (fun v v0 v1 => by rcases Int.lt_or_le v w with z | z; exact hno v v0 z; have e : v = w := (by omega); rw [e]; exact hne))
                  · skip
                    have heq : wat W w = L := (by rcases hs2 with h | h; exact hww.2.ext hL7 h.2.1 (fun q q0 q1 => h.2.2 q q0 (by omega)); omega)
                    refine j_iload_n C dX3_wordOf_83 rfl ?_
                    exact j_ireti C hr (Nat.le_refl _) (Nat.zero_le _) (Or.inr ⟨by omega, by omega, heq, hno⟩) dX3_wordOf_84
                · skip
                  have hsx : (wat W w).length = L.length ∧ ∀ q, 0 ≤ q → q < k → m13 (96 * w + q) = m7 q := (by rcases hs2 with h | h; exact h.2; omega)
                  have hrx := hww.2.iR4 hwv.B (k := k) hk.1 (by omega)
                  have hry := hL7.lR4 hLB (k := k) hk.1 (by omega)
                  refine j_aload_n C dX3_wordOf_45 rfl ?_
                  refine j_get (T := TX3) (N := 20) (fs := _) (v := .ref (o + 7)) C hwX3 hM.1 13 (by decide) rfl (index := 29) (ref := "TreePairsModel") (by decide +kernel) rfl rfl dX3_wordOf_46 ?_
                  refine j_bipush C dX3_wordOf_49 (by decide) ?_
                  refine j_iload_n C dX3_wordOf_51 rfl ?_
                  refine j_imul C dX3_wordOf_52 ?_
                  refine j_iload_n C dX3_wordOf_53 rfl ?_
                  refine j_iadd C dX3_wordOf_54 ?_
                  refine j_iald C hM.2.2.2.2.2.2.2.1 ⟨by omega, by omega⟩ dX3_wordOf_55 ?_
                  refine j_i2l C dX3_wordOf_56 hrx ?_
                  refine j_aload_n C dX3_wordOf_57 rfl ?_
                  refine j_get (T := TX3) (N := 20) (fs := _) (v := .ref (o + 4)) C hwX3 hM.1 7 (by decide) rfl (index := 19) (ref := "TreePairsModel") (by decide +kernel) rfl rfl dX3_wordOf_58 ?_
                  refine j_iload_n C dX3_wordOf_61 rfl ?_
                  refine j_lald C hM.2.2.2.2.1 ⟨by omega, by omega⟩ dX3_wordOf_62 ?_
                  refine j_lcmp_ne (tgt := 71) C dX3_wordOf_63 dX3_wordOf_64 (by decide) ⟨by omega, by omega⟩ hry (fun c63 => ?_) (fun c63 => ?_)
                  · skip
                    refine j_iconst C dX3_wordOf_71 ?_
                    refine j_istore_n (lv' := [(0, .ref o), (1, .int (zI w)), (2, .int (zI 0)), (3, .int (zI k))]) C dX3_wordOf_72 (by decide) rfl ?_
                    refine j_iinc (lv' := [(0, .ref o), (1, .int (zI w)), (2, .int (zI 0)), (3, .int (zI (k + 1)))]) C dX3_wordOf_73 rfl (by decide) rfl ?_
                    refine j_goto (tgt := 31) C dX3_wordOf_76 (by decide) ?_
                    exact JJ.drop (lv' := [(0, .ref o), (1, .int (zI w)), (2, .int (zI 0)), (3, .int (zI (k + 1)))]) rfl (ih31 0 (k + 1) (by omega) ⟨by omega, by omega⟩ (Or.inr ⟨rfl, fun e => c63 (by have h1 := hww.2; rw [e] at h1; exact h1.eqv hL7 hk.1 (by omega))⟩))
                  · skip
                    refine j_iconst C dX3_wordOf_67 ?_
                    refine j_goto (tgt := 72) C dX3_wordOf_68 (by decide) ?_
                    refine j_istore_n (lv' := [(0, .ref o), (1, .int (zI w)), (2, .int (zI 1)), (3, .int (zI k))]) C dX3_wordOf_72 (by decide) rfl ?_
                    refine j_iinc (lv' := [(0, .ref o), (1, .int (zI w)), (2, .int (zI 1)), (3, .int (zI (k + 1)))]) C dX3_wordOf_73 rfl (by decide) rfl ?_
                    refine j_goto (tgt := 31) C dX3_wordOf_76 (by decide) ?_
                    exact JJ.drop (lv' := [(0, .ref o), (1, .int (zI w)), (2, .int (zI 1)), (3, .int (zI (k + 1)))]) rfl (ih31 1 (k + 1) (by omega) ⟨by omega, by omega⟩ (Or.inl ⟨rfl, hsx.1, fun q q0 q1 => by rcases Int.lt_or_le q k with z | z; exact hsx.2 q q0 z; have e : q = k := (by omega); subst e; exact c63⟩))
          exact JJ.drop (lv' := [(0, .ref o), (1, .int (zI w)), (2, .int (zI 1)), (3, .int (zI 0))]) rfl (K31 (((4 * (L.length : Int) - (0 : Int)).toNat) + 1) 1 0 (Nat.lt_succ_self _) ⟨by omega, by omega⟩ (Or.inl ⟨rfl, by omega, fun q q0 q1 => absurd q0 (by omega)⟩))
  exact JJ.drop (lv' := [(0, .ref o), (1, .int (zI 0))]) rfl (K2 (((W.length - (0 : Int)).toNat) + 1) 0 (Nat.lt_succ_self _) ⟨by omega, by omega⟩ (fun v v0 v1 => absurd v0 (by omega)))

set_option maxHeartbeats 4000000 in
set_option maxRecDepth 100000 in
/-- X3_note -/
theorem c_X3_note (l : Launch) (G : Gx) (o : Nat) (uh ud uc us uo ub uw ua ue ux : Int) (m0 m1 m3 m7 m8 m12 m13 m14 m15 m16 : Int → Int) (W : List (List Q4)) (L : List Q4) : Met l yX3_note wsX3_note ({ frames := 1, cells := 0, slots := 0, locals := 23 } : Room) (cPc G [.ref o] (fun H => MP G H o uh ud uc us uo ub uw ua ue ux m0 m1 m3 m7 m8 m12 m13 m14 m15 m16 ∧ us = L.length ∧ L.length ≤ 64 ∧ R4 L m7 ∧ WT W uw m12 m13 ∧ (∀ x ∈ W, VM x) ∧ W.length ≤ 169 ∧ (∀ q ∈ L, LQ 46 q) ∧ L.length ≤ 24)) (qmV (fun H => ∃ uw' m12' m13', MP G H o uh ud uc (L.length : Int) uo ub uw' ua ue ux m0 m1 m3 m7 m8 m12' m13' m14 m15 m16 ∧ WT (noteW W L) uw' m12' m13') (fun q : Nat => o ≤ q ∧ q < o + 11)) 0 0 (fun q : Nat => o ≤ q ∧ q < o + 11) := by
  refine Met.ofJ (cc := cX3_note) (maxL := 2) (ret := none) (lv0 := [(0, .ref o)]) (by decide) rfl (Nat.le_of_ble_eq_true rfl) rfl ?_
  intro p e s m args below meth c C hr hnm hpre
  obtain ⟨hM, hus, hll, hL7, hWT, hWV, hWl, hLB, hl24⟩ := hpre
  have hwX3 : ∀ w ∈ u_ws RX3 TX3 20, w ∈ wsX3_note := by decide +kernel
  subst hus
  have huw := hWT.1
  refine j_aload_n C dX3_note_0 rfl ?_
  refine j_callI (jrunV (rest := []) (As := []) C (c_X3_wordOf l G o uh ud uc (L.length : Int) uo ub uw ua ue ux m0 m1 m3 m7 m8 m12 m13 m14 m15 m16 W L) gX3_note_X3_wordOf rfl 0 (by decide +kernel) rfl rfl ⟨Nat.le_of_ble_eq_true rfl, Nat.le_of_ble_eq_true rfl⟩ hM.1 rfl ⟨hM, rfl, hll, hL7, hWT, hWV, hWl, hLB⟩ rfl rfl (Nat.le_of_ble_eq_true rfl) ⟨Nat.le_of_ble_eq_true rfl, Nat.le_of_ble_eq_true rfl⟩ dX3_note_1) (fun r1 h1 => ?_)
  refine j_iconst C dX3_note_4 ?_
  refine j_icmp_ne (tgt := 70) C dX3_note_5 (by decide) ⟨by omega, by omega⟩ ⟨by decide, by decide⟩ (fun c5 => ?_) (fun c5 => ?_)
  · skip
    have hin : L ∈ W := (by rcases h1 with h | h; omega; rw [← h.2.2.1]; exact wat_mem h.1 h.2.1)
    exact j_vret C hr (Nat.le_refl _) (Nat.zero_le _) ⟨uw, m12, m13, hM, by unfold noteW; rw [if_pos hin]; exact hWT⟩ dX3_note_70
  · skip
    have hni : L ∉ W := (by rcases h1 with h | h; exact h.2; omega)
    refine j_aload_n C dX3_note_8 rfl ?_
    refine j_get (T := TX3) (N := 20) (fs := _) (v := .ref (o + 6)) C hwX3 hM.1 12 (by decide) rfl (index := 26) (ref := "TreePairsModel") (by decide +kernel) rfl rfl dX3_note_9 ?_
    refine j_aload_n C dX3_note_12 rfl ?_
    refine j_get (T := TX3) (N := 20) (fs := _) (v := .int (zI uw)) C hwX3 hM.1 11 (by decide) rfl (index := 136) (ref := "TreePairsModel") (by decide +kernel) rfl rfl dX3_note_13 ?_
    refine j_aload_n C dX3_note_16 rfl ?_
    refine j_get (T := TX3) (N := 20) (fs := _) (v := .int (zI (L.length : Int))) C hwX3 hM.1 6 (by decide) rfl (index := 51) (ref := "TreePairsModel") (by decide +kernel) rfl rfl dX3_note_17 ?_
    refine j_iast C hM.2.2.2.2.2.2.1 ⟨by omega, by omega⟩ (by omega) dX3_note_20 (fun H1 hR hC => ?_)
    have hM := hM.st_wordSize hR hC
    refine j_iconst C dX3_note_21 ?_
    refine j_istore_n (lv' := [(0, .ref o), (1, .int (zI 0))]) C dX3_note_22 (by decide) rfl ?_
    have K23 : ∀ (fu23 : Nat) (k : Int) (Hl1 : Heap), (4 * (L.length : Int) - k).toNat < fu23 → MP G Hl1 o uh ud uc (L.length : Int) uo ub uw ua ue ux m0 m1 m3 m7 m8 (iup m12 uw (L.length : Int)) (cpf m13 m7 (96 * uw) k) m14 m15 m16 → 0 ≤ k ∧ k ≤ 4 * (L.length : Int) → JJ p l e ({ frames := 1, cells := 0, slots := 0, locals := 23 } : Room) s m args below meth c (MQ below (qmV (fun H => ∃ uw' m12' m13', MP G H o uh ud uc (L.length : Int) uo ub uw' ua ue ux m0 m1 m3 m7 m8 m12' m13' m14 m15 m16 ∧ WT (noteW W L) uw' m12' m13') (fun q : Nat => o ≤ q ∧ q < o + 11)) args s 0 0 (fun q : Nat => o ≤ q ∧ q < o + 11)) (fun q : Nat => o ≤ q ∧ q < o + 11) 2 Hl1 0 0 23 [(0, .ref o), (1, .int (zI k))] [] := by
      intro fu23
      induction fu23 with
      | zero => intro k Hl1 hm23 hM hk; exact absurd hm23 (Nat.not_lt_zero _)
      | succ fu23 ih23 =>
        intro k Hl1 hm23 hM hk
        refine j_iload_n C dX3_note_23 rfl ?_
        refine j_iconst C dX3_note_24 ?_
        refine j_aload_n C dX3_note_25 rfl ?_
        refine j_get (T := TX3) (N := 20) (fs := _) (v := .int (zI (L.length : Int))) C hwX3 hM.1 6 (by decide) rfl (index := 51) (ref := "TreePairsModel") (by decide +kernel) rfl rfl dX3_note_26 ?_
        refine j_imul C dX3_note_29 ?_
        refine j_icmp_ge (tgt := 60) C dX3_note_30 (by decide) ⟨by omega, by omega⟩ ⟨by omega, by omega⟩ (fun c30 => ?_) (fun c30 => ?_)
        · skip
          refine j_aload_n C dX3_note_60 rfl ?_
          refine j_dup C dX3_note_61 rfl ?_
          refine j_get (T := TX3) (N := 20) (fs := _) (v := .int (zI uw)) C hwX3 hM.1 11 (by decide) rfl (index := 136) (ref := "TreePairsModel") (by decide +kernel) rfl rfl dX3_note_62 ?_
          refine j_iconst C dX3_note_65 ?_
          refine j_iadd C dX3_note_66 ?_
          refine j_put (T := TX3) (N := 20) (fs' := [.ref (o + 1), .ref (o + 2), .int (zI uh), .ref (o + 3), .int (zI ud), .long (zL uc), .int (zI (L.length : Int)), .ref (o + 4), .ref (o + 5), .int (zI uo), .int (zI ub), .int (zI (uw + 1)), .ref (o + 6), .ref (o + 7), .ref (o + 8), .ref (o + 9), .ref (o + 10), .long (zL ua), .long (zL ue), .long (zL ux)]) (ty := .int) C tyX3 tyX3_ok nmX3 hwX3 hM.1 11 (by decide) rfl (index := 136) (ref := "TreePairsModel") (by decide +kernel) rfl rfl (by decide +kernel) rfl rfl (Nat.le_of_ble_eq_true rfl) rfl (by omega) dX3_note_67 (fun H2 hO hC => ?_)
          have hM := hM.put_words hO hC
          exact j_vret C hr (Nat.le_refl _) (Nat.zero_le _) ⟨_, _, _, hM, by have e : k = 4 * (L.length : Int) := (by omega); rw [e]; exact hWT.note (fun x hx => (hWV x hx).len.2) rfl hL7 hni⟩ dX3_note_70
        · skip
          refine j_aload_n C dX3_note_33 rfl ?_
          refine j_get (T := TX3) (N := 20) (fs := _) (v := .ref (o + 7)) C hwX3 hM.1 13 (by decide) rfl (index := 29) (ref := "TreePairsModel") (by decide +kernel) rfl rfl dX3_note_34 ?_
          refine j_bipush C dX3_note_37 (by decide) ?_
          refine j_aload_n C dX3_note_39 rfl ?_
          refine j_get (T := TX3) (N := 20) (fs := _) (v := .int (zI uw)) C hwX3 hM.1 11 (by decide) rfl (index := 136) (ref := "TreePairsModel") (by decide +kernel) rfl rfl dX3_note_40 ?_
          refine j_imul C dX3_note_43 ?_
          refine j_iload_n C dX3_note_44 rfl ?_
          refine j_iadd C dX3_note_45 ?_
          refine j_aload_n C dX3_note_46 rfl ?_
          refine j_get (T := TX3) (N := 20) (fs := _) (v := .ref (o + 4)) C hwX3 hM.1 7 (by decide) rfl (index := 19) (ref := "TreePairsModel") (by decide +kernel) rfl rfl dX3_note_47 ?_
          refine j_iload_n C dX3_note_50 rfl ?_
          refine j_lald C hM.2.2.2.2.1 ⟨by omega, by omega⟩ dX3_note_51 ?_
          refine j_l2i C dX3_note_52 ?_
          refine j_iast C hM.2.2.2.2.2.2.2.1 ⟨by omega, by omega⟩ (by omega) dX3_note_53 (fun H3 hR hC => ?_)
          have hM := hM.st_wordPair hR hC
          refine j_iinc (lv' := [(0, .ref o), (1, .int (zI (k + 1)))]) C dX3_note_54 rfl (by decide) rfl ?_
          refine j_goto (tgt := 23) C dX3_note_57 (by decide) ?_
          exact JJ.drop (lv' := [(0, .ref o), (1, .int (zI (k + 1)))]) rfl (ih23 (k + 1) H3 (by omega) (by rw [← cpf_s _ _ _ hk.1]; exact hM) ⟨by omega, by omega⟩)
    exact JJ.drop (lv' := [(0, .ref o), (1, .int (zI 0))]) rfl (K23 (((4 * (L.length : Int) - (0 : Int)).toNat) + 1) 0 H1 (Nat.lt_succ_self _) (by rw [cpf_0]; exact hM) ⟨by omega, by omega⟩)

set_option maxHeartbeats 4000000 in
set_option maxRecDepth 100000 in
/-- X3_loadWord -/
theorem c_X3_loadWord (l : Launch) (G : Gx) (o : Nat) (uh ud uc us uo ub uw ua ue ux : Int) (m0 m1 m3 m7 m8 m12 m13 m14 m15 m16 : Int → Int) (a : Int) (L : List Q4) : Met l yX3_loadWord wsX3_loadWord ({ frames := 1, cells := 0, slots := 0, locals := 28 } : Room) (cPc G [.ref o, .int (zI a)] (fun H => MP G H o uh ud uc us uo ub uw ua ue ux m0 m1 m3 m7 m8 m12 m13 m14 m15 m16 ∧ (0 ≤ a ∧ a < 170) ∧ m12 a = L.length ∧ L.length ≤ 24 ∧ (∀ q ∈ L, LQ 23 q) ∧ R4 L (fun k => m13 (96 * a + k)))) (qmV (fun H => ∃ m7', MP G H o uh ud uc (L.length : Int) uo ub uw ua ue ux m0 m1 m3 m7' m8 m12 m13 m14 m15 m16 ∧ R4 L m7') (fun q : Nat => o ≤ q ∧ q < o + 11)) 0 0 (fun q : Nat => o ≤ q ∧ q < o + 11) := by
  refine Met.ofJ (cc := cX3_loadWord) (maxL := 4) (ret := none) (lv0 := [(0, .ref o), (1, .int (zI a))]) (by decide) rfl (Nat.le_of_ble_eq_true rfl) rfl ?_
  intro p e s m args below meth c C hr hnm hpre
  obtain ⟨hM, ⟨ha0, ha1⟩, hml, hll, hB, hR⟩ := hpre
  have hwX3 : ∀ w ∈ u_ws RX3 TX3 20, w ∈ wsX3_loadWord := by decide +kernel
  refine j_aload_n C dX3_loadWord_0 rfl ?_
  refine j_iconst C dX3_loadWord_1 ?_
  refine j_put (T := TX3) (N := 20) (fs' := [.ref (o + 1), .ref (o + 2), .int (zI uh), .ref (o + 3), .int (zI ud), .long (zL uc), .int (zI 0), .ref (o + 4), .ref (o + 5), .int (zI uo), .int (zI ub), .int (zI uw), .ref (o + 6), .ref (o + 7), .ref (o + 8), .ref (o + 9), .ref (o + 10), .long (zL ua), .long (zL ue), .long (zL ux)]) (ty := .int) C tyX3 tyX3_ok nmX3 hwX3 hM.1 6 (by decide) rfl (index := 51) (ref := "TreePairsModel") (by decide +kernel) rfl rfl (by decide +kernel) rfl rfl (Nat.le_of_ble_eq_true rfl) rfl (by omega) dX3_loadWord_2 (fun H1 hO hC => ?_)
  have hM := hM.put_size hO hC
  refine j_iconst C dX3_loadWord_5 ?_
  refine j_istore_n (lv' := [(0, .ref o), (1, .int (zI a)), (2, .int (zI 0))]) C dX3_loadWord_6 (by decide) rfl ?_
  have K7 : ∀ (fu7 : Nat) (i : Int) (m7 : Int → Int) (Hl1 : Heap), (L.length - i).toNat < fu7 → MP G Hl1 o uh ud uc i uo ub uw ua ue ux m0 m1 m3 m7 m8 m12 m13 m14 m15 m16 → 0 ≤ i ∧ i ≤ L.length → R4 (L.take i.toNat) m7 → JJ p l e ({ frames := 1, cells := 0, slots := 0, locals := 28 } : Room) s m args below meth c (MQ below (qmV (fun H => ∃ m7', MP G H o uh ud uc (L.length : Int) uo ub uw ua ue ux m0 m1 m3 m7' m8 m12 m13 m14 m15 m16 ∧ R4 L m7') (fun q : Nat => o ≤ q ∧ q < o + 11)) args s 0 0 (fun q : Nat => o ≤ q ∧ q < o + 11)) (fun q : Nat => o ≤ q ∧ q < o + 11) 4 Hl1 0 0 7 [(0, .ref o), (1, .int (zI a)), (2, .int (zI i))] [] := by
    intro fu7
    induction fu7 with
    | zero => intro i m7 Hl1 hm7 hM hi hL; exact absurd hm7 (Nat.not_lt_zero _)
    | succ fu7 ih7 =>
      intro i m7 Hl1 hm7 hM hi hL
      refine j_iload_n C dX3_loadWord_7 rfl ?_
      refine j_aload_n C dX3_loadWord_8 rfl ?_
      refine j_get (T := TX3) (N := 20) (fs := _) (v := .ref (o + 6)) C hwX3 hM.1 12 (by decide) rfl (index := 26) (ref := "TreePairsModel") (by decide +kernel) rfl rfl dX3_loadWord_9 ?_
      refine j_iload_n C dX3_loadWord_12 rfl ?_
      refine j_iald C hM.2.2.2.2.2.2.1 ⟨by omega, by omega⟩ dX3_loadWord_13 ?_
      refine j_icmp_ge (tgt := 70) C dX3_loadWord_14 (by decide) ⟨by omega, by omega⟩ ⟨by omega, by omega⟩ (fun c14 => ?_) (fun c14 => ?_)
      · skip
        exact j_vret C hr (Nat.le_refl _) (Nat.zero_le _) ⟨m7, (by rw [show (L.length : Int) = i by omega]; exact hM), (by rw [take_all L (by omega)] at hL; exact hL)⟩ dX3_loadWord_70
      · skip
        obtain ⟨hb1, hb2⟩ := R4.bnd hR hB hi.1 (by omega)
        have hb1 := hb1.b23
        have hb2 := hb2.b23
        simp only [← Int.add_assoc] at hb1 hb2
        refine j_bipush C dX3_loadWord_17 (by decide) ?_
        refine j_iload_n C dX3_loadWord_19 rfl ?_
        refine j_imul C dX3_loadWord_20 ?_
        refine j_iconst C dX3_loadWord_21 ?_
        refine j_iload_n C dX3_loadWord_22 rfl ?_
        refine j_imul C dX3_loadWord_23 ?_
        refine j_iadd C dX3_loadWord_24 ?_
        refine j_istore_n (lv' := [(0, .ref o), (1, .int (zI a)), (2, .int (zI i)), (3, .int (zI ((96 * a) + (4 * i))))]) C dX3_loadWord_25 (by decide) rfl ?_
        refine j_aload_n C dX3_loadWord_26 rfl ?_
        refine j_aload_n C dX3_loadWord_27 rfl ?_
        refine j_get (T := TX3) (N := 20) (fs := _) (v := .ref (o + 7)) C hwX3 hM.1 13 (by decide) rfl (index := 29) (ref := "TreePairsModel") (by decide +kernel) rfl rfl dX3_loadWord_28 ?_
        refine j_iload_n C dX3_loadWord_31 rfl ?_
        refine j_iald C hM.2.2.2.2.2.2.2.1 ⟨by omega, by omega⟩ dX3_loadWord_32 ?_
        refine j_i2l C dX3_loadWord_33 ⟨by omega, by omega⟩ ?_
        refine j_aload_n C dX3_loadWord_34 rfl ?_
        refine j_get (T := TX3) (N := 20) (fs := _) (v := .ref (o + 7)) C hwX3 hM.1 13 (by decide) rfl (index := 29) (ref := "TreePairsModel") (by decide +kernel) rfl rfl dX3_loadWord_35 ?_
        refine j_iload_n C dX3_loadWord_38 rfl ?_
        refine j_iconst C dX3_loadWord_39 ?_
        refine j_iadd C dX3_loadWord_40 ?_
        refine j_iald C hM.2.2.2.2.2.2.2.1 ⟨by omega, by omega⟩ dX3_loadWord_41 ?_
        refine j_i2l C dX3_loadWord_42 ⟨by omega, by omega⟩ ?_
        refine j_aload_n C dX3_loadWord_43 rfl ?_
        refine j_get (T := TX3) (N := 20) (fs := _) (v := .ref (o + 7)) C hwX3 hM.1 13 (by decide) rfl (index := 29) (ref := "TreePairsModel") (by decide +kernel) rfl rfl dX3_loadWord_44 ?_
        refine j_iload_n C dX3_loadWord_47 rfl ?_
        refine j_iconst C dX3_loadWord_48 ?_
        refine j_iadd C dX3_loadWord_49 ?_
        refine j_iald C hM.2.2.2.2.2.2.2.1 ⟨by omega, by omega⟩ dX3_loadWord_50 ?_
        refine j_i2l C dX3_loadWord_51 ⟨by omega, by omega⟩ ?_
        refine j_aload_n C dX3_loadWord_52 rfl ?_
        refine j_get (T := TX3) (N := 20) (fs := _) (v := .ref (o + 7)) C hwX3 hM.1 13 (by decide) rfl (index := 29) (ref := "TreePairsModel") (by decide +kernel) rfl rfl dX3_loadWord_53 ?_
        refine j_iload_n C dX3_loadWord_56 rfl ?_
        refine j_iconst C dX3_loadWord_57 ?_
        refine j_iadd C dX3_loadWord_58 ?_
        refine j_iald C hM.2.2.2.2.2.2.2.1 ⟨by omega, by omega⟩ dX3_loadWord_59 ?_
        refine j_i2l C dX3_loadWord_60 ⟨by omega, by omega⟩ ?_
        refine j_callmV (jrunV (rest := []) (As := [.long (zL (m13 ((96 * a) + (4 * i)))), .long (zL (m13 (((96 * a) + (4 * i)) + 1))), .long (zL (m13 (((96 * a) + (4 * i)) + 2))), .long (zL (m13 (((96 * a) + (4 * i)) + 3)))]) C (c_X3_put l G o uh ud uc i uo ub uw ua ue ux m0 m1 m3 m7 m8 m12 m13 m14 m15 m16 (m13 (96 * a + 4 * i)) (m13 (96 * a + 4 * i + 1)) (m13 (96 * a + 4 * i + 2)) (m13 (96 * a + 4 * i + 3))) gX3_loadWord_X3_put rfl 4 (by decide +kernel) rfl rfl ⟨Nat.le_of_ble_eq_true rfl, Nat.le_of_ble_eq_true rfl⟩ hM.1 rfl ⟨hM, by omega, by omega⟩ rfl rfl (Nat.le_of_ble_eq_true rfl) ⟨Nat.le_of_ble_eq_true rfl, Nat.le_of_ble_eq_true rfl⟩ dX3_loadWord_61) (by intro q hq; (try dsimp only at hq ⊢); omega) (fun H2 h61 hF => ?_)
        have hM := h61
        refine j_iinc (lv' := [(0, .ref o), (1, .int (zI a)), (2, .int (zI (i + 1))), (3, .int (zI ((96 * a) + (4 * i))))]) C dX3_loadWord_64 rfl (by decide) rfl ?_
        refine j_goto (tgt := 7) C dX3_loadWord_67 (by decide) ?_
        exact JJ.drop (lv' := [(0, .ref o), (1, .int (zI a)), (2, .int (zI (i + 1)))]) rfl (ih7 (i + 1) _ H2 (by omega) hM ⟨by omega, by omega⟩ (by rw [take_q L hi.1 (by omega)]; have hq := hR i hi.1 (by omega); simp only [← Int.add_assoc] at hq; rw [hq]; exact hL.app (take_len L hi.1 hi.2).symm))
  exact JJ.drop (lv' := [(0, .ref o), (1, .int (zI a)), (2, .int (zI 0))]) rfl (K7 (((L.length - (0 : Int)).toNat) + 1) 0 m7 H1 (Nat.lt_succ_self _) hM ⟨by omega, by omega⟩ R4.nil)
