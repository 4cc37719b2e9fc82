theorem ball_53 : (ballL 3).length = 53 := by decide +kernel
theorem firstF_b {n : Nat} (h : n ≤ 4) : firstF n ≤ 53 := by
  cases n with
  | zero => exact Nat.zero_le _
  | succ n =>
    have := (ballL_pre n (3 - n)).length_le
    rw [show n + (3 - n) = 3 by omega, ball_53] at this
    exact this
theorem gen0 : genW 0 = strongF 0 := by
  unfold genW
  rw [if_neg (by decide), show (0 : Int) / 2 = 0 by decide]
theorem gen1 : genW 1 = turnF (strongF 0) := by
  unfold genW
  rw [if_pos (by decide), show (1 : Int) / 2 = 0 by decide]
theorem gen2 : genW 2 = strongF 1 := by
  unfold genW
  rw [if_neg (by decide), show (2 : Int) / 2 = 1 by decide]
theorem gen3 : genW 3 = turnF (strongF 1) := by
  unfold genW
  rw [if_pos (by decide), show (3 : Int) / 2 = 1 by decide]
/-- the four steps, in a row at h1, below s1 -/
def ST (G : Gx) (H : Heap) (h1 s1 : Nat) : Prop := ∃ (f : Int → Option Nat) (sg : Int → Nat), ap G h1 4 f H ∧ h1 < s1 ∧ ∀ g : Int, 0 ≤ g → g < 4 → f g = some (sg g) ∧ h1 < sg g ∧ sg g + 5 ≤ s1 ∧ PL G H (sg g) 24 (genW g)
theorem ST.kept {G : Gx} {H H1 : Heap} {h1 s1 : Nat} (h : ST G H h1 s1) (hq : ∀ q : Nat, h1 ≤ q → q < s1 → H1[q]? = H[q]?) : ST G H1 h1 s1 := by
  obtain ⟨f, sg, hA, hs, h⟩ := h
  refine ⟨f, sg, hA.kept (hq _ (Nat.le_refl _) hs), hs, fun g g0 g1 => ?_⟩
  obtain ⟨a1, a2, a3, a4⟩ := h g g0 g1
  exact ⟨a1, a2, a3, a4.kept (fun q q1 q2 => hq q (by omega) (by omega))⟩
theorem ST.of {G : Gx} {H : Heap} {h a0 a1 a2 a3 : Nat} (b0 : h + 1 ≤ a0) (b1 : a0 + 5 ≤ a1) (b2 : a1 + 5 ≤ a2) (b3 : a2 + 5 ≤ a3) (hA : ap G h 4 (iup (iup (iup (iup (fun _ => none) (2 * 0) (some a0)) (2 * 0 + 1) (some a1)) (2 * (0 + 1)) (some a2)) (2 * (0 + 1) + 1) (some a3)) H) (h0 : PL G H a0 24 (strongF 0)) (h1 : PL G H a1 24 (turnF (strongF 0))) (h2 : PL G H a2 24 (strongF 1)) (h3 : PL G H a3 24 (turnF (strongF 1))) : ST G H h (a3 + 5) := by
  refine ⟨_, fun g => if g = 0 then a0 else if g = 1 then a1 else if g = 2 then a2 else a3, hA, by omega, fun g g0 g1 => ?_⟩
  have : g = 0 ∨ g = 1 ∨ g = 2 ∨ g = 3 := by omega
  rcases this with rfl | rfl | rfl | rfl
  · exact ⟨rfl, by show h < a0; omega, by show a0 + 5 ≤ a3 + 5; omega, by rw [gen0]; exact h0⟩
  · exact ⟨rfl, by show h < a1; omega, by show a1 + 5 ≤ a3 + 5; omega, by rw [gen1]; exact h1⟩
  · exact ⟨rfl, by show h < a2; omega, by show a2 + 5 ≤ a3 + 5; omega, by rw [gen2]; exact h2⟩
  · exact ⟨rfl, by show h < a3; omega, by show a3 + 5 ≤ a3 + 5; omega, by rw [gen3]; exact h3⟩
/-- the ball as it is kept -/
def BF (G : Gx) (H : Heap) (b : Nat) : Prop := ∃ (en : Int → Int) (eb er : Nat), BQ G H b (ballL 4) en eb er ∧ ∀ j : Int, 0 ≤ j → j ≤ 4 → en j = firstF (j + 1).toNat
theorem BF.frm {G : Gx} {H H1 : Heap} {b : Nat} {A : Nat → Prop} (h : BF G H b) (hF : Frm A H H1) (hA : ∀ q : Nat, q < H.size → A q → q < b) : BF G H1 b := by
  obtain ⟨en, eb, er, hQ, he⟩ := h
  exact ⟨en, eb, er, hQ.frm hF hA, he⟩
theorem BF.kept {G : Gx} {H H1 : Heap} {b : Nat} (h : BF G H b) (hq : ∀ q : Nat, b ≤ q → q < H.size → H1[q]? = H[q]?) : BF G H1 b := by
  obtain ⟨en, eb, er, hQ, he⟩ := h
  exact ⟨en, eb, er, hQ.kept hq, he⟩
set_option maxHeartbeats 8000000 in
theorem c_X2_grownBall (l : Launch) (G : Gx) (o h : Nat) (maps : Int → List Q4) (hand : List Q4) (sd sc : Int) (near : Value) : Met l yX2_grownBall wsX2_grownBall ({ frames := 8, cells := 1303, slots := 110000, locals := 195 } : Room) (cPc G [.ref o] (fun H => TP G H o maps hand sd sc near ∧ HZ G o H ∧ H.size = h)) (qmR (fun r H => r = h ∧ TP G H o maps hand sd sc near ∧ BF G H h) (fun q : Nat => (o + 67 ≤ q ∧ q < o + 77) ∨ h ≤ q)) 1303 110000 (fun q : Nat => (o + 67 ≤ q ∧ q < o + 77) ∨ h ≤ q) := by
  refine Met.ofJ (cc := cX2_grownBall) (maxL := 8) (ret := (some (.object "TreePairs$Ball"))) (lv0 := [(0, .ref o)]) (by decide) rfl (Nat.le_of_ble_eq_true rfl) rfl ?_
  intro p e s m args below meth c C hr hnm hpre
  obtain ⟨hT, hZ, hsz⟩ := hpre
  have hlt := hT.lt
  have hwX0 : ∀ w ∈ u_ws RX0 TX0 2, w ∈ wsX2_grownBall := by decide +kernel
  have hwX2 : ∀ w ∈ u_ws RX2 TX2 8, w ∈ wsX2_grownBall := by decide +kernel
  refine j_new (ci := 1) (fs := [.null, .null]) (h := h) C tyX0 tyX0_ok hwX0 rfl (index := 99) (by decide +kernel) (by decide +kernel) (by decide +kernel) (fun j hj => by rcases (show j = 0 ∨ j = 1 by omega) with rfl | rfl <;> rfl) hsz (Nat.le_of_ble_eq_true rfl) (Nat.le_of_ble_eq_true rfl) dX2_grownBall_0 (fun H1 hN hG => ?_)
  have hT := hT.kept (fun q q1 q2 => hG.2 q (by omega))
  have hZ := hZ.grw hG hsz
  refine j_dup C dX2_grownBall_3 rfl ?_
  refine j_callmV (jrunI (rest := [.ref h]) (As := []) C (c_X0_init l G o h) gX2_grownBall_X0_init rfl 0 (by decide +kernel) (by decide +kernel) (by decide +kernel) rfl (by decide +kernel) rfl rfl ⟨Nat.le_of_ble_eq_true rfl, Nat.le_of_ble_eq_true rfl⟩ ⟨hN, hZ, by omega, hG.1⟩ rfl rfl (Nat.le_of_ble_eq_true rfl) ⟨Nat.le_of_ble_eq_true rfl, Nat.le_of_ble_eq_true rfl⟩ dX2_grownBall_4) (fun q hq => Or.inr hq) (fun H2 h4 hF => ?_)
  obtain ⟨eb, hBE⟩ := h4
  have hT := hT.frm hF (fun q q1 q2 => by show ¬ h ≤ q; omega)
  have hZ := hZ.frm hF (fun q hq => by have hq' : h ≤ q := hq; omega)
  refine j_astore_n (lv' := [(0, .ref o), (1, .ref h)]) C dX2_grownBall_7 (by decide) rfl ?_
  obtain ⟨h1, hh1⟩ : ∃ n : Nat, H2.size = n := ⟨_, rfl⟩
  have hlB := hBE.1.lt
  refine j_callmR (jrunS (rest := []) (As := []) C (c_X2_stepsOfLength l G h1) gX2_grownBall_X2_stepsOfLength rfl 0 (by decide +kernel) rfl rfl ⟨Nat.le_of_ble_eq_true rfl, Nat.le_of_ble_eq_true rfl⟩ hh1 rfl rfl (Nat.le_of_ble_eq_true rfl) ⟨Nat.le_of_ble_eq_true rfl, Nat.le_of_ble_eq_true rfl⟩ dX2_grownBall_8) (fun q hq => Or.inr (by have hq' : h1 ≤ q := hq; show h ≤ q; omega)) (fun r8 H3 h8 hF => ?_)
  obtain ⟨e8, a0, a1, a2, a3, b0, b1, b2, b3, b4, hA, hS0, hS1, hS2, hS3⟩ := h8
  rw [e8]
  have hT := hT.frm hF (fun q q1 q2 => by show ¬ h1 ≤ q; omega)
  have hZ := hZ.frm hF (fun q hq => by have hq' : h1 ≤ q := hq; omega)
  have hBE := hBE.kept (fun q q1 q2 => hF.2 q q2 (by show ¬ h1 ≤ q; omega))
  have hST := ST.of b0 b1 b2 b3 hA hS0 hS1 hS2 hS3
  obtain ⟨s1, hs1⟩ : ∃ n : Nat, a3 + 5 = n := ⟨_, rfl⟩
  rw [hs1] at hST
  refine j_astore_n (lv' := [(0, .ref o), (1, .ref h), (2, .ref h1)]) C dX2_grownBall_11 (by decide) rfl ?_
  refine j_aload_n C dX2_grownBall_12 rfl ?_
  refine j_get (T := TX2) (N := 8) (fs := _) (v := .ref (o + 72)) C hwX2 hT.1 5 (by decide) rfl (index := 25) (ref := "TreePairs") (by decide +kernel) rfl rfl dX2_grownBall_13 ?_
  obtain ⟨LR, hR⟩ := hT.2.2.2.2.2.1
  refine j_callmV (jrunV (rest := []) (As := []) C (c_X1_becomeNothing l G (o + 72) 48 LR) gX2_grownBall_X1_becomeNothing rfl 0 (by decide +kernel) rfl rfl ⟨Nat.le_of_ble_eq_true rfl, Nat.le_of_ble_eq_true rfl⟩ hR.ob rfl ⟨hR, by decide⟩ rfl rfl (Nat.le_of_ble_eq_true rfl) ⟨Nat.le_of_ble_eq_true rfl, Nat.le_of_ble_eq_true rfl⟩ dX2_grownBall_16) (fun q hq => Or.inl (by have hq' : o + 72 ≤ q ∧ q < o + 72 + 5 := hq; omega)) (fun H4 hR hF => ?_)
  have hT := hT.setraised hR hF
  have hZ := hZ.frm hF (fun q hq => by have hq' : o + 72 ≤ q ∧ q < o + 72 + 5 := hq; omega)
  have hBE := hBE.frm hF (fun q q1 hq => by have hq' : o + 72 ≤ q ∧ q < o + 72 + 5 := hq; omega)
  have hs4 : s1 ≤ H4.size := by have := hF.1; omega
  have hST := hST.kept (fun q q1 q2 => hF.2 q (by omega) (by show ¬ (o + 72 ≤ q ∧ q < o + 72 + 5); omega))
  obtain ⟨h5, hh5⟩ : ∃ n : Nat, H4.size = n := ⟨_, rfl⟩
  refine j_aload_n C dX2_grownBall_19 rfl ?_
  refine j_aload_n C dX2_grownBall_20 rfl ?_
  refine j_get (T := TX2) (N := 8) (fs := _) (v := .ref (o + 72)) C hwX2 hT.1 5 (by decide) rfl (index := 25) (ref := "TreePairs") (by decide +kernel) rfl rfl dX2_grownBall_21 ?_
  refine j_callmV (jrunV (rest := []) (As := [.ref (o + 72)]) C (c_X0_addNew0 l G o h eb (o + 72) 48 h5 (fun _ => 0) [(0, 0, 0, 0)]) gX2_grownBall_X0_addNew rfl 1 (by decide +kernel) rfl rfl ⟨Nat.le_of_ble_eq_true rfl, Nat.le_of_ble_eq_true rfl⟩ hBE.1.2.1 rfl ⟨hBE, hZ, by omega, hR, VM.nothing.B46, by decide, by omega, hh5⟩ rfl rfl (Nat.le_of_ble_eq_true rfl) ⟨Nat.le_of_ble_eq_true rfl, Nat.le_of_ble_eq_true rfl⟩ dX2_grownBall_24) (fun q hq => Or.inr (by have hq' : q = h + 1 ∨ h5 ≤ q := hq; show h ≤ q; omega)) (fun H5 h24 hF => ?_)
  obtain ⟨er, her, hBQ⟩ := h24
  have hT := hT.frm hF (fun q q1 q2 => by show ¬ (q = h + 1 ∨ h5 ≤ q); omega)
  have hST := hST.kept (fun q q1 q2 => hF.2 q (by omega) (by show ¬ (q = h + 1 ∨ h5 ≤ q); omega))
  refine j_aload_n C dX2_grownBall_27 rfl ?_
  refine j_get (T := TX0) (N := 2) (fs := _) (v := .ref eb) C hwX0 hBQ.1.2.1 1 (by decide) rfl (index := 103) (ref := "TreePairs$Ball") (by decide +kernel) rfl rfl dX2_grownBall_28 ?_
  refine j_iconst C dX2_grownBall_31 ?_
  refine j_iconst C dX2_grownBall_32 ?_
  refine j_iast C hBQ.1.2.2 ⟨by decide, by decide⟩ (Or.inr (by show h ≤ eb; omega)) dX2_grownBall_33 (fun H6 hE hC => ?_)
  have hBQ := hBQ.ends hE hC
  have hT := hT.kept (fun q q1 q2 => hC.2 q (by omega))
  have hST := hST.kept (fun q q1 q2 => hC.2 q (by omega))
  refine j_iconst C dX2_grownBall_34 ?_
  refine j_istore_n (lv' := [(0, .ref o), (1, .ref h), (2, .ref h1), (3, .int (zI 0))]) C dX2_grownBall_35 (by decide) rfl ?_
  refine j_iconst C dX2_grownBall_36 ?_
  refine j_istore (lv' := [(0, .ref o), (1, .ref h), (2, .ref h1), (3, .int (zI 0)), (4, .int (zI 1))]) C dX2_grownBall_37 (by decide) rfl ?_
  clear hZ hBE hN hR hF hA hS0 hS1 hS2 hS3
  have hser : s1 ≤ er := by omega
  have K39 : ∀ (fu n : Nat) (k fr : Int) (H : Heap) (er : Nat) (en : Int → Int), 4 - n < fu → n ≤ 4 → k = n + 1 → fr = firstF n → TP G H o maps hand sd sc near → BQ G H h (ballL n) en eb er → s1 ≤ er → ST G H h1 s1 → (∀ j : Int, 0 ≤ j → j < k → en j = firstF (j + 1).toNat) → JJ p l e ({ frames := 8, cells := 1303, slots := 110000, locals := 195 } : Room) s m args below meth c (MQ below (qmR (fun r H => r = h ∧ TP G H o maps hand sd sc near ∧ BF G H h) (fun q : Nat => (o + 67 ≤ q ∧ q < o + 77) ∨ h ≤ q)) args s 1303 110000 (fun q : Nat => (o + 67 ≤ q ∧ q < o + 77) ∨ h ≤ q)) (fun q : Nat => (o + 67 ≤ q ∧ q < o + 77) ∨ h ≤ q) 8 H (24 + 6 * (1 + 4 * firstF n)) (418 + 500 * (1 + 4 * firstF n)) 39 [(0, .ref o), (1, .ref h), (2, .ref h1), (3, .int (zI fr)), (4, .int (zI k))] [] := by
    intro fu
    induction fu with
    | zero => intro n k fr H er en hm; exact absurd hm (Nat.not_lt_zero _)
    | succ fu ih39 =>
      intro n k fr H er en hm hn hk hfr hT hBQ hser hST hen
      refine j_iload C dX2_grownBall_39 rfl ?_
      refine j_iconst C dX2_grownBall_41 ?_
      refine j_icmp_gt (tgt := 146) C dX2_grownBall_42 (by decide) ⟨by omega, by omega⟩ ⟨by decide, by decide⟩ (fun c42 => ?_) (fun c42 => ?_)
      · have en4 : n = 4 := by omega
        subst en4
        have hb4 := firstF_b (n := 4) (by decide)
        refine j_aload_n C dX2_grownBall_146 rfl ?_
        exact j_aret C hr (Or.inl ⟨_, rfl⟩) (by omega) (by omega) ⟨rfl, hT, en, eb, er, hBQ, fun j j0 j1 => hen j j0 (by omega)⟩ dX2_grownBall_147
      have hn3 : n ≤ 3 := by omega
      have hb := firstF_b (n := n + 1) (by omega)
      have hb0 := firstF_b (n := n) (by omega)
      have hlB := hBQ.lt
      refine j_aload_n C dX2_grownBall_45 rfl ?_
      refine j_get (T := TX0) (N := 2) (fs := _) (v := .ref eb) C hwX0 hBQ.1.2.1 1 (by decide) rfl (index := 103) (ref := "TreePairs$Ball") (by decide +kernel) rfl rfl dX2_grownBall_46 ?_
      refine j_iload C dX2_grownBall_49 rfl ?_
      refine j_iconst C dX2_grownBall_51 ?_
      refine j_isub C dX2_grownBall_52 ?_
      refine j_iald C hBQ.1.2.2 ⟨by omega, by omega⟩ dX2_grownBall_53 ?_
      obtain ⟨to, hto⟩ : ∃ z : Int, z = firstF (n + 1) := ⟨_, rfl⟩
      rw [show en (k - 1) = to by rw [hen (k - 1) (by omega) (by omega), hto, show (k - 1 + 1).toNat = n + 1 by omega]]
      refine j_istore (lv' := [(0, .ref o), (1, .ref h), (2, .ref h1), (3, .int (zI fr)), (4, .int (zI k)), (5, .int (zI to))]) C dX2_grownBall_54 (by decide) rfl ?_
      refine j_iload_n C dX2_grownBall_56 rfl ?_
      refine j_istore (lv' := [(0, .ref o), (1, .ref h), (2, .ref h1), (3, .int (zI fr)), (4, .int (zI k)), (5, .int (zI to)), (6, .int (zI fr))]) C dX2_grownBall_57 (by decide) rfl ?_
      have htl : to = ((ballL n).length : Int) := hto
      have K59 : ∀ (fu : Nat) (i : Int) (H : Heap) (er : Nat), (to - i).toNat < fu → firstF n ≤ i → i ≤ to → TP G H o maps hand sd sc near → BQ G H h (fromW (ballL n) (firstF n) i) en eb er → s1 ≤ er → ST G H h1 s1 → JJ p l e ({ frames := 8, cells := 1303, slots := 110000, locals := 195 } : Room) s m args below meth c (MQ below (qmR (fun r H => r = h ∧ TP G H o maps hand sd sc near ∧ BF G H h) (fun q : Nat => (o + 67 ≤ q ∧ q < o + 77) ∨ h ≤ q)) args s 1303 110000 (fun q : Nat => (o + 67 ≤ q ∧ q < o + 77) ∨ h ≤ q)) (fun q : Nat => (o + 67 ≤ q ∧ q < o + 77) ∨ h ≤ q) 8 H (24 + 6 * (1 + 4 * i.toNat)) (418 + 500 * (1 + 4 * i.toNat)) 59 [(0, .ref o), (1, .ref h), (2, .ref h1), (3, .int (zI fr)), (4, .int (zI k)), (5, .int (zI to)), (6, .int (zI i))] [] := by
        intro fu2
        induction fu2 with
        | zero => intro i H er hm; exact absurd hm (Nat.not_lt_zero _)
        | succ fu2 ih59 =>
          intro i H er hm2 i0 i1 hT hBQ hser hST
          have hlB := hBQ.lt
          refine j_iload C dX2_grownBall_59 rfl ?_
          refine j_iload C dX2_grownBall_61 rfl ?_
          refine j_icmp_ge (tgt := 121) C dX2_grownBall_63 (by decide) ⟨by omega, by omega⟩ ⟨by omega, by omega⟩ (fun c63 => ?_) (fun c63 => ?_)
          · have ei : i = to := by omega
            rw [fromW_all (by omega)] at hBQ
            refine j_iload C dX2_grownBall_121 rfl ?_
            refine j_istore_n (lv' := [(0, .ref o), (1, .ref h), (2, .ref h1), (3, .int (zI to)), (4, .int (zI k)), (5, .int (zI to)), (6, .int (zI i))]) C dX2_grownBall_123 (by decide) rfl ?_
            refine j_aload_n C dX2_grownBall_124 rfl ?_
            refine j_get (T := TX0) (N := 2) (fs := _) (v := .ref eb) C hwX0 hBQ.1.2.1 1 (by decide) rfl (index := 103) (ref := "TreePairs$Ball") (by decide +kernel) rfl rfl dX2_grownBall_125 ?_
            refine j_iload C dX2_grownBall_128 rfl ?_
            refine j_aload_n C dX2_grownBall_130 rfl ?_
            refine j_get (T := TX0) (N := 2) (fs := _) (v := .ref (h + 1)) C hwX0 hBQ.1.2.1 0 (by decide) rfl (index := 214) (ref := "TreePairs$Ball") (by decide +kernel) rfl rfl dX2_grownBall_131 ?_
            have hBQ0 := hBQ
            obtain ⟨hB, mc, cap, f, ad, hO, hRw, hc, hW⟩ := hBQ
            refine j_callI5 (jrunF (rest := [.int (zI k), .ref eb]) (As := []) C (c_L_size l G (h + 1) (.int (zI mc)) (.ref er) (ballL (n + 1)).length) gX2_grownBall_Jx4a65c_size_8abf5_f224Jx4a65c rfl C.kz.2.1 0 (by decide +kernel) rfl rfl ⟨Nat.le_of_ble_eq_true rfl, Nat.le_of_ble_eq_true rfl⟩ hO rfl hO rfl rfl (Nat.le_of_ble_eq_true rfl) ⟨by show 24 + 6 * (1 + 4 * i.toNat) + 0 ≤ 1303; omega, by show 418 + 500 * (1 + 4 * i.toNat) + 0 ≤ 110000; omega⟩ dX2_grownBall_134) (fun r134 h134 => ?_)
            subst h134
            refine j_iast C hB.2.2 ⟨by omega, by omega⟩ (Or.inr (by show h ≤ eb; omega)) dX2_grownBall_139 (fun H1 hE hC => ?_)
            have hBQ := hBQ0.ends hE hC
            have hT := hT.kept (fun q q1 q2 => hC.2 q (by omega))
            have hST := hST.kept (fun q q1 q2 => hC.2 q (by omega))
            refine j_iinc (lv' := [(0, .ref o), (1, .ref h), (2, .ref h1), (3, .int (zI to)), (4, .int (zI (k + 1))), (5, .int (zI to)), (6, .int (zI i))]) C dX2_grownBall_140 rfl (by decide) rfl ?_
            refine j_goto (tgt := 39) C dX2_grownBall_143 (by decide) ?_
            refine JJ.drop (lv' := [(0, .ref o), (1, .ref h), (2, .ref h1), (3, .int (zI to)), (4, .int (zI (k + 1)))]) rfl ?_
            refine JJ.widen (ca' := 24 + 6 * (1 + 4 * firstF (n + 1))) (sl' := 418 + 500 * (1 + 4 * firstF (n + 1))) (by omega) (by omega) ?_
            refine ih39 (n + 1) (k + 1) to H1 er _ (by omega) (by omega) (by omega) hto hT hBQ hser hST (fun j j0 j1 => ?_)
            by_cases ej : j = k
            · subst ej
              rw [iup_s, show (j + 1).toNat = n + 2 by omega]
              rfl
            · rw [iup_n ej]; exact hen j j0 (by omega)
          have it : i < (ballL n).length := by omega
          obtain ⟨x, hx⟩ : ∃ x : List Q4, x = wat (ballL n) i := ⟨_, rfl⟩
          have hx46 : VM x := by rw [hx]; exact ball_VM n (by omega) _ (wat_mem (by omega) it)
          have hfs := fromW_s (V := ballL n) (lo := firstF n) (w := i) i0 it
          rw [← hx] at hfs
          have hpW := fromW_pre (n := n) (by omega) (i + 1)
          have hp0 := fromW_pre0 (ballL n) (firstF n) i
          rw [hfs] at hpW
          obtain ⟨V, hV⟩ : ∃ V : List (List Q4), V = fromW (ballL n) (firstF n) i := ⟨_, rfl⟩
          rw [← hV] at hBQ hfs hpW hp0
          refine j_iconst C dX2_grownBall_66 ?_
          refine j_istore (lv' := [(0, .ref o), (1, .ref h), (2, .ref h1), (3, .int (zI fr)), (4, .int (zI k)), (5, .int (zI to)), (6, .int (zI i)), (7, .int (zI 0))]) C dX2_grownBall_67 (by decide) rfl ?_
          have K69 : ∀ (fu : Nat) (sx : Int) (H : Heap) (er : Nat), (4 - sx).toNat < fu → 0 ≤ sx → sx ≤ 4 → TP G H o maps hand sd sc near → BQ G H h (fourK V x sx.toNat) en eb er → s1 ≤ er → ST G H h1 s1 → JJ p l e ({ frames := 8, cells := 1303, slots := 110000, locals := 195 } : Room) s m args below meth c (MQ below (qmR (fun r H => r = h ∧ TP G H o maps hand sd sc near ∧ BF G H h) (fun q : Nat => (o + 67 ≤ q ∧ q < o + 77) ∨ h ≤ q)) args s 1303 110000 (fun q : Nat => (o + 67 ≤ q ∧ q < o + 77) ∨ h ≤ q)) (fun q : Nat => (o + 67 ≤ q ∧ q < o + 77) ∨ h ≤ q) 8 H (24 + 6 * (1 + 4 * i.toNat + sx.toNat)) (418 + 500 * (1 + 4 * i.toNat + sx.toNat)) 69 [(0, .ref o), (1, .ref h), (2, .ref h1), (3, .int (zI fr)), (4, .int (zI k)), (5, .int (zI to)), (6, .int (zI i)), (7, .int (zI sx))] [] := by
            intro fu3
            induction fu3 with
            | zero => intro sx H er hm; exact absurd hm (Nat.not_lt_zero _)
            | succ fu3 ih69 =>
              intro sx H er hm3 s0 s4 hT hBQ hser hST
              have hlB := hBQ.lt
              have hST0 := hST
              obtain ⟨fa, sg, hA, hs1, hSg⟩ := hST
              refine j_iload C dX2_grownBall_69 rfl ?_
              refine j_aload_n C dX2_grownBall_71 rfl ?_
              refine j_alenP C hA dX2_grownBall_72 ?_
              refine j_icmp_ge (tgt := 115) C dX2_grownBall_73 (by decide) ⟨by omega, by omega⟩ ⟨by decide, by decide⟩ (fun c73 => ?_) (fun c73 => ?_)
              · have es : sx = 4 := by omega
                subst es
                refine j_iinc (lv' := [(0, .ref o), (1, .ref h), (2, .ref h1), (3, .int (zI fr)), (4, .int (zI k)), (5, .int (zI to)), (6, .int (zI (i + 1))), (7, .int (zI 4))]) C dX2_grownBall_115 rfl (by decide) rfl ?_
                refine j_goto (tgt := 59) C dX2_grownBall_118 (by decide) ?_
                refine JJ.drop (lv' := [(0, .ref o), (1, .ref h), (2, .ref h1), (3, .int (zI fr)), (4, .int (zI k)), (5, .int (zI to)), (6, .int (zI (i + 1)))]) rfl ?_
                refine JJ.widen (ca' := 24 + 6 * (1 + 4 * (i + 1).toNat)) (sl' := 418 + 500 * (1 + 4 * (i + 1).toNat)) (by omega) (by omega) ?_
                exact ih59 (i + 1) H er (by omega) (by omega) (by omega) hT (by rw [hfs]; exact hBQ) hser hST0
              obtain ⟨g1, g2, g3, g4⟩ := hSg sx s0 (by omega)
              have hVg : VM (genW sx) := genW_VM s0 (by omega)
              have hsx : fourK V x (sx + 1).toNat = noteW (fourK V x sx.toNat) (compF x (genW sx)) := by
                rw [show (sx + 1).toNat = sx.toNat + 1 by omega]
                show noteW _ (compF x (genW ((sx.toNat : Nat) : Int))) = _
                rw [show ((sx.toNat : Nat) : Int) = sx by omega]
              have hpS : fourK V x sx.toNat <+: ballL 4 := (fourW_pre V x sx.toNat (by omega)).trans hpW
              have hpS1 : fourK V x (sx + 1).toNat <+: ballL 4 := (fourW_pre V x (sx + 1).toNat (by omega)).trans hpW
              have hbw : ballL n <+: fourK V x sx.toNat := hp0.trans (by have := fourK_pre V x 0 sx.toNat; rw [Nat.zero_add] at this; exact this)
              have hbl := hbw.length_le
              have hwl := pre_len hpS
              have hwat : wat (fourK V x sx.toNat) i = x := (wat_pre hbw (by omega) it).trans hx.symm
              have hLn : (compF x (genW sx)).length ≤ 24 := ball_small (hpS1.subset (by rw [hsx]; exact noteW_mem _ _))
              have hBQ0 := hBQ
              obtain ⟨hB, mc, cap, f, ad, hO, hRw, hc, hW⟩ := hBQ
              obtain ⟨w1, w2, w3⟩ := hW i (by omega) (by omega)
              rw [hwat] at w3
              refine j_aload_n C dX2_grownBall_76 rfl ?_
              refine j_get (T := TX0) (N := 2) (fs := _) (v := .ref (h + 1)) C hwX0 hB.2.1 0 (by decide) rfl (index := 214) (ref := "TreePairs$Ball") (by decide +kernel) rfl rfl dX2_grownBall_77 ?_
              refine j_iload C dX2_grownBall_80 rfl ?_
              refine j_callA5 (jrunF (rest := []) (As := [.int (zI i)]) C (c_L_get l G (h + 1) (.int (zI mc)) (fourK V x sx.toNat).length er cap (ad i) f i) gX2_grownBall_Jx4a65c_get_915e3_f218Jx4a65c rfl C.kz.2.2.1 1 (by decide +kernel) rfl rfl ⟨Nat.le_of_ble_eq_true rfl, Nat.le_of_ble_eq_true rfl⟩ hO rfl ⟨hO, hRw, ⟨by omega, by omega⟩, by omega, w1⟩ rfl rfl (Nat.le_of_ble_eq_true rfl) ⟨by show 24 + 6 * (1 + 4 * i.toNat + sx.toNat) + 0 ≤ 1303; omega, by show 418 + 500 * (1 + 4 * i.toNat + sx.toNat) + 0 ≤ 110000; omega⟩ dX2_grownBall_82) (fun r82 h82 => ?_)
              subst h82
              refine j_castP (index := 9) C (by decide +kernel) w3.ob dX2_grownBall_87 ?_
              refine j_aload_n C dX2_grownBall_90 rfl ?_
              refine j_iload C dX2_grownBall_91 rfl ?_
              refine j_aald (a := sg sx) C hA ⟨by omega, by omega⟩ g1 dX2_grownBall_93 ?_
              refine j_aload_n C dX2_grownBall_94 rfl ?_
              refine j_get (T := TX2) (N := 8) (fs := _) (v := .ref (o + 67)) C hwX2 hT.1 4 (by decide) rfl (index := 22) (ref := "TreePairs") (by decide +kernel) rfl rfl dX2_grownBall_95 ?_
              obtain ⟨LM, hM⟩ := hT.2.2.2.2.1
              refine j_callmV (jrunS (rest := []) (As := [.ref (ad i), .ref (sg sx), .ref (o + 67)]) C (c_X2_putBehind l G (ad i) x.length (sg sx) 24 (o + 67) 48 x (genW sx) LM) gX2_grownBall_X2_putBehind rfl 3 (by decide +kernel) rfl rfl ⟨Nat.le_of_ble_eq_true rfl, Nat.le_of_ble_eq_true rfl⟩ ⟨w3, g4, hM, hx46.B, hVg.B, by decide, hVg.cut, VM.prod_len hx46 hVg, VM.prod_B hx46 hVg, Or.inr (by omega), Or.inr (by omega)⟩ rfl rfl (Nat.le_of_ble_eq_true rfl) ⟨by show 24 + 6 * (1 + 4 * i.toNat + sx.toNat) + 0 ≤ 1303; omega, by show 418 + 500 * (1 + 4 * i.toNat + sx.toNat) + 0 ≤ 110000; omega⟩ dX2_grownBall_98) (fun q hq => Or.inl (by have hq' : o + 67 ≤ q ∧ q < o + 67 + 5 := hq; omega)) (fun H1 hM hF => ?_)
              have hT := hT.setmade hM hF
              have hBQ := hBQ0.frm hF (fun q q1 hq => by have hq' : o + 67 ≤ q ∧ q < o + 67 + 5 := hq; omega)
              have hST := hST0.kept (fun q q1 q2 => hF.2 q (by omega) (by show ¬ (o + 67 ≤ q ∧ q < o + 67 + 5); omega))
              obtain ⟨hh, hhh⟩ : ∃ n : Nat, H1.size = n := ⟨_, rfl⟩
              have hl1 := hF.1
              refine j_aload_n C dX2_grownBall_101 rfl ?_
              refine j_aload_n C dX2_grownBall_102 rfl ?_
              refine j_get (T := TX2) (N := 8) (fs := _) (v := .ref (o + 67)) C hwX2 hT.1 4 (by decide) rfl (index := 22) (ref := "TreePairs") (by decide +kernel) rfl rfl dX2_grownBall_103 ?_
              refine j_callmV (jrunV (rest := []) (As := [.ref (o + 67)]) C (c_X0_addNew l G h eb er (o + 67) 48 hh (fourK V x sx.toNat) en (compF x (genW sx))) gX2_grownBall_X0_addNew rfl 1 (by decide +kernel) rfl rfl ⟨Nat.le_of_ble_eq_true rfl, Nat.le_of_ble_eq_true rfl⟩ hBQ.1.2.1 rfl ⟨hBQ, hM, fun y hy => (pre_VM hpS y hy).B46, VM.compB hx46 hVg, ⟨by omega, hwl⟩, by omega, by omega, hhh⟩ rfl rfl (Nat.le_of_ble_eq_true rfl) ⟨by show 24 + 6 * (1 + 4 * i.toNat + sx.toNat) + 0 + 6 ≤ 1303; omega, by show 418 + 500 * (1 + 4 * i.toNat + sx.toNat) + 0 + 500 ≤ 110000; omega⟩ dX2_grownBall_106) (fun q hq => Or.inr (by have hq' : q = h + 1 ∨ q = er ∨ hh ≤ q := hq; show h ≤ q; omega)) (fun H2 h106 hF2 => ?_)
              obtain ⟨er2, her2, hBQ⟩ := h106
              have hT := hT.frm hF2 (fun q q1 q2 => by show ¬ (q = h + 1 ∨ q = er ∨ hh ≤ q); omega)
              have hST := hST.kept (fun q q1 q2 => hF2.2 q (by omega) (by show ¬ (q = h + 1 ∨ q = er ∨ hh ≤ q); omega))
              refine j_iinc (lv' := [(0, .ref o), (1, .ref h), (2, .ref h1), (3, .int (zI fr)), (4, .int (zI k)), (5, .int (zI to)), (6, .int (zI i)), (7, .int (zI (sx + 1)))]) C dX2_grownBall_109 rfl (by decide) rfl ?_
              refine j_goto (tgt := 69) C dX2_grownBall_112 (by decide) ?_
              refine JJ.widen (ca' := 24 + 6 * (1 + 4 * i.toNat + (sx + 1).toNat)) (sl' := 418 + 500 * (1 + 4 * i.toNat + (sx + 1).toNat)) (by omega) (by omega) ?_
              exact ih69 (sx + 1) H2 er2 (by omega) (by omega) (by omega) hT (by rw [hsx]; exact hBQ) (by omega) hST
          refine JJ.widen (ca' := 24 + 6 * (1 + 4 * i.toNat + (0 : Int).toNat)) (sl' := 418 + 500 * (1 + 4 * i.toNat + (0 : Int).toNat)) (by omega) (by omega) ?_
          exact K69 5 0 H er (by decide) (by decide) (by decide) hT hBQ hser hST
      refine JJ.widen (ca' := 24 + 6 * (1 + 4 * fr.toNat)) (sl' := 418 + 500 * (1 + 4 * fr.toNat)) (by omega) (by omega) ?_
      exact K59 ((to - fr).toNat + 1) fr H er (by omega) (by omega) (by have := firstF_le (n := n) (by omega); omega) hT (by rw [hfr, fromW_0]; exact hBQ) hser hST
  refine JJ.widen (ca' := 24 + 6 * (1 + 4 * firstF 0)) (sl' := 418 + 500 * (1 + 4 * firstF 0)) (by show _ ≤ 24 + 6 * (1 + 4 * 0); omega) (by show _ ≤ 418 + 500 * (1 + 4 * 0); omega) ?_
  refine K39 5 0 1 0 H6 er _ (by decide) (by decide) (by decide) rfl hT hBQ hser hST (fun j j0 j1 => ?_)
  have ej : j = 0 := by omega
  subst ej
  rw [iup_s]; rfl
