/-! the class's ball: the object, its list of words, the ends -/
def BH (G : Gx) (H : Heap) (b eb : Nat) (en : Int → Int) : Prop := b + 2 ≤ eb ∧ ob G b 1 [.ref (b + 1), .ref eb] H ∧ ai G eb 5 en H
def BE (G : Gx) (H : Heap) (b eb : Nat) (en : Int → Int) : Prop := BH G H b eb en ∧ ∃ mc : Int, ob G (b + 1) 0 [.int (zI mc), .ref (zT G), .int (zI 0)] H
def BW (G : Gx) (H : Heap) (eb er cap : Nat) (f : Int → Option Nat) (ad : Int → Nat) (W : List (List Q4)) : Prop := ∀ i : Int, 0 ≤ i → i < W.length → f i = some (ad i) ∧ (eb < ad i ∧ (ad i + 5 ≤ er ∨ er < ad i)) ∧ PL G H (ad i) (wat W i).length (wat W i)
def BQ (G : Gx) (H : Heap) (b : Nat) (W : List (List Q4)) (en : Int → Int) (eb er : Nat) : Prop := BH G H b eb en ∧ ∃ (mc : Int) (cap : Nat) (f : Int → Option Nat) (ad : Int → Nat), ob G (b + 1) 0 [.int (zI mc), .ref er, .int (zI (W.length : Int))] H ∧ ao G er cap f H ∧ (eb < er ∧ W.length ≤ cap ∧ cap ≤ 242) ∧ BW G H eb er cap f ad W
theorem BH.lt {G : Gx} {H : Heap} {b eb : Nat} {en : Int → Int} (h : BH G H b eb en) : b + 2 ≤ eb ∧ eb < H.size := ⟨h.1, h.2.2.lt⟩
theorem BH.kept {G : Gx} {H H1 : Heap} {b eb : Nat} {en : Int → Int} (h : BH G H b eb en) (h1 : H1[b]? = H[b]?) (h2 : H1[eb]? = H[eb]?) : BH G H1 b eb en := ⟨h.1, obk h.2.1 h1, h.2.2.kept h2⟩
theorem BE.kept {G : Gx} {H H1 : Heap} {b eb : Nat} {en : Int → Int} (h : BE G H b eb en) (hq : ∀ q : Nat, b ≤ q → q < H.size → H1[q]? = H[q]?) : BE G H1 b eb en := by
  obtain ⟨hB, mc, hO⟩ := h
  have h1 := hB.lt
  exact ⟨hB.kept (hq _ (Nat.le_refl _) (by omega)) (hq _ (by omega) (by omega)), mc, obk hO (hq _ (by omega) (by omega))⟩
theorem BQ.kept {G : Gx} {H H1 : Heap} {b eb er : Nat} {en : Int → Int} {W : List (List Q4)} (h : BQ G H b W en eb er) (hq : ∀ q : Nat, b ≤ q → q < H.size → H1[q]? = H[q]?) : BQ G H1 b W en eb er := by
  obtain ⟨hB, mc, cap, f, ad, hO, hR, hc, hW⟩ := h
  have h1 := hB.lt
  refine ⟨hB.kept (hq _ (Nat.le_refl _) (by omega)) (hq _ (by omega) (by omega)), mc, cap, f, ad, obk hO (hq _ (by omega) (by omega)), hR.kept (hq _ (by omega) hR.lt), hc, fun i i0 i1 => ?_⟩
  obtain ⟨g1, g2, g3⟩ := hW i i0 i1
  have hl := g3.lt
  exact ⟨g1, g2, g3.kept (fun q q1 q2 => hq q (by omega) (by omega))⟩
theorem BE.frm {G : Gx} {H H1 : Heap} {b eb : Nat} {en : Int → Int} {A : Nat → Prop} (h : BE G H b eb en) (hF : Frm A H H1) (hA : ∀ q : Nat, q < H.size → A q → q < b) : BE G H1 b eb en := h.kept (fun q q1 q2 => hF.2 q q2 (fun a => by have := hA q q2 a; omega))
theorem BQ.frm {G : Gx} {H H1 : Heap} {b eb er : Nat} {en : Int → Int} {W : List (List Q4)} {A : Nat → Prop} (h : BQ G H b W en eb er) (hF : Frm A H H1) (hA : ∀ q : Nat, q < H.size → A q → q < b) : BQ G H1 b W en eb er := h.kept (fun q q1 q2 => hF.2 q q2 (fun a => by have := hA q q2 a; omega))
theorem BQ.ends {G : Gx} {H H1 : Heap} {b eb er : Nat} {en en' : Int → Int} {W : List (List Q4)} (h : BQ G H b W en eb er) (hE : ai G eb 5 en' H1) (hC : Chg eb H H1) : BQ G H1 b W en' eb er := by
  obtain ⟨hB, mc, cap, f, ad, hO, hR, hc, hW⟩ := h
  have h1 := hB.lt
  refine ⟨⟨hB.1, obk hB.2.1 (hC.2 _ (by omega)), hE⟩, mc, cap, f, ad, obk hO (hC.2 _ (by omega)), hR.kept (hC.2 _ (by omega)), hc, fun i i0 i1 => ?_⟩
  obtain ⟨g1, g2, g3⟩ := hW i i0 i1
  exact ⟨g1, g2, g3.chg hC (by omega)⟩
theorem BQ.lt {G : Gx} {H : Heap} {b eb er : Nat} {en : Int → Int} {W : List (List Q4)} (h : BQ G H b W en eb er) : b + 2 ≤ eb ∧ eb < er ∧ er < H.size := by
  obtain ⟨hB, mc, cap, f, ad, hO, hR, hc, hW⟩ := h
  exact ⟨hB.1, hc.1, hR.lt⟩
theorem wat_last {W : List (List Q4)} {L : List Q4} {i : Int} (h : i = W.length) : wat (W ++ [L]) i = L := by
  subst h
  unfold wat
  rw [List.getD_eq_getElem?_getD, List.getElem?_append_right (by omega)]
  simp
set_option maxHeartbeats 4000000 in
theorem c_X0_init (l : Launch) (G : Gx) (o b : Nat) : Met l yX0_init wsX0_init ({ frames := 4, cells := 2, slots := 8, locals := 80 } : Room) (cPc G [.ref b] (fun H => ob G b 1 [.null, .null] H ∧ HZ G o H ∧ o ≤ b ∧ H.size = b + 1)) (qmV (fun H => ∃ eb, BE G H b eb (fun _ => 0)) (fun q : Nat => b ≤ q)) 2 8 (fun q : Nat => b ≤ q) := by
  refine Met.ofJ (cc := cX0_init) (maxL := 1) (ret := none) (lv0 := [(0, .ref b)]) (by decide) rfl (Nat.le_of_ble_eq_true rfl) rfl ?_
  intro p e s m args below meth c C hr hnm hpre
  obtain ⟨hO, hZ, hob, hsz⟩ := hpre
  have hwX0 : ∀ w ∈ u_ws RX0 TX0 2, w ∈ wsX0_init := by decide +kernel
  have hwL : ∀ w ∈ u_ws RJx4a65c TJx4a65c 3, w ∈ wsX0_init := by decide +kernel
  refine j_aload_n C dX0_init_0 rfl ?_
  refine j_objinit C (idx := 3) (by decide +kernel) (by decide +kernel) (by decide +kernel) (Nat.le_of_ble_eq_true rfl) (Nat.le_of_ble_eq_true rfl) dX0_init_1 ?_
  refine j_aload_n C dX0_init_4 rfl ?_
  refine j_new (ci := 0) (fs := [.int (zI 0), .null, .int (zI 0)]) (h := b + 1) C tyJx4a65c tyJx4a65c_ok hwL rfl (index := 9) (by decide +kernel) (by decide +kernel) (by decide +kernel) (fun j hj => by rcases (show j = 0 ∨ j = 1 ∨ j = 2 by omega) with rfl | rfl | rfl <;> rfl) hsz (Nat.le_of_ble_eq_true rfl) (Nat.le_of_ble_eq_true rfl) dX0_init_5 (fun H1 hL hW => ?_)
  have hO := obk hO (hW.2 _ (by omega))
  have hZ := hZ.grw hW hsz
  refine j_dup C dX0_init_8 rfl ?_
  refine j_callmV (jrunI (rest := [.ref (b + 1), .ref b]) (As := []) C (c_L_init l G o (b + 1) .null (.int (zI 0))) gX0_init_Jx4a65c_init_da8c8 rfl 0 (by decide +kernel) (by decide +kernel) (by decide +kernel) rfl (by decide +kernel) rfl rfl ⟨Nat.le_of_ble_eq_true rfl, Nat.le_of_ble_eq_true rfl⟩ ⟨hL, hZ, by omega⟩ rfl rfl (Nat.le_of_ble_eq_true rfl) ⟨Nat.le_of_ble_eq_true rfl, Nat.le_of_ble_eq_true rfl⟩ dX0_init_9) (fun q hq => by have : q = b + 1 := hq; show b ≤ q; omega) (fun H2 hL hF => ?_)
  have hO := obk hO (hF.2 _ (by rw [hW.1]; omega) (by show ¬ b = b + 1; omega))
  have hs2 := hF.1
  rw [hW.1] at hs2
  refine j_putF (T := TX0) (N := 2) (fs' := [.ref (b + 1), .null]) (ty := .object "java/util/List") C tyX0 tyX0_ok nmX0 hwX0 hO 0 (by decide) rfl (index := 12) (ref := "TreePairs$Ball") (by decide +kernel) rfl rfl hnm rfl (by decide +kernel) rfl rfl (Nat.le_of_ble_eq_true rfl) rfl (Nat.le_refl _) dX0_init_12 (fun H3 hO hC => ?_)
  have hL := obk hL (hC.2 _ (by omega))
  obtain ⟨eb, heb⟩ : ∃ n : Nat, H3.size = n := ⟨_, rfl⟩
  have hs3 : b + 2 ≤ eb := by have := hC.1; omega
  refine j_aload_n C dX0_init_15 rfl ?_
  refine j_iconst C dX0_init_16 ?_
  refine j_newI (k := 5) (h := eb) C (by decide +kernel) rfl (by omega) heb (Nat.le_of_ble_eq_true rfl) (Nat.le_of_ble_eq_true rfl) dX0_init_17 (fun H4 hN hW => ?_)
  have hO := obk hO (hW.2 _ (by omega))
  have hL := obk hL (hW.2 _ (by omega))
  refine j_putF (T := TX0) (N := 2) (fs' := [.ref (b + 1), .ref eb]) (ty := .array .int) C tyX0 tyX0_ok nmX0 hwX0 hO 1 (by decide) rfl (index := 18) (ref := "TreePairs$Ball") (by decide +kernel) rfl rfl hnm rfl (by decide +kernel) rfl rfl (Nat.le_of_ble_eq_true rfl) rfl (Nat.le_refl _) dX0_init_19 (fun H5 hO hC => ?_)
  have hL := obk hL (hC.2 _ (by omega))
  have hN := hN.kept (hC.2 _ (by omega))
  exact j_vret C hr (Nat.le_refl _) (Nat.le_refl _) ⟨eb, ⟨hs3, hO, hN⟩, 0, hL⟩ dX0_init_22
set_option maxHeartbeats 4000000 in
theorem c_X0_placeOf (l : Launch) (G : Gx) (b eb er am capm : Nat) (W : List (List Q4)) (en : Int → Int) (L : List Q4) : Met l yX0_placeOf wsX0_placeOf ({ frames := 3, cells := 0, slots := 0, locals := 70 } : Room) (cPc G [.ref b, .ref am] (fun H => BQ G H b W en eb er ∧ PL G H am capm L ∧ (∀ x ∈ W, ∀ q ∈ x, LQ 46 q) ∧ (∀ q ∈ L, LQ 46 q))) (qI (fun r => (r = -1 ∧ L ∉ W) ∨ (0 ≤ r ∧ r < W.length ∧ wat W r = L ∧ ∀ v : Int, 0 ≤ v → v < r → wat W v ≠ L))) 0 0 (fun _ => False) := by
  refine Met.ofJ (cc := cX0_placeOf) (maxL := 3) (ret := (some .int)) (lv0 := [(0, .ref b), (1, .ref am)]) (by decide) rfl (Nat.le_of_ble_eq_true rfl) rfl ?_
  intro p e s m args below meth c C hr hnm hpre
  obtain ⟨⟨hB, mc, cap, f, ad, hO, hR, hc, hW⟩, hP, hB1, hB2⟩ := hpre
  have hwX0 : ∀ w ∈ u_ws RX0 TX0 2, w ∈ wsX0_placeOf := by decide +kernel
  refine j_iconst C dX0_placeOf_0 ?_
  refine j_istore_n (lv' := [(0, .ref b), (1, .ref am), (2, .int (zI 0))]) C dX0_placeOf_1 (by decide) rfl ?_
  have K : ∀ (fu : Nat) (i : Int), (W.length - i).toNat < fu → 0 ≤ i → i ≤ W.length → (∀ v : Int, 0 ≤ v → v < i → wat W v ≠ L) → JJ p l e ({ frames := 3, cells := 0, slots := 0, locals := 70 } : Room) s m args below meth c (MQ below (qI (fun r => (r = -1 ∧ L ∉ W) ∨ (0 ≤ r ∧ r < W.length ∧ wat W r = L ∧ ∀ v : Int, 0 ≤ v → v < r → wat W v ≠ L))) args s 0 0 (fun _ => False)) (fun _ => False) 3 s.heap 0 0 2 [(0, .ref b), (1, .ref am), (2, .int (zI i))] [] := by
    intro fu
    induction fu with
    | zero => intro i hm; exact absurd hm (Nat.not_lt_zero _)
    | succ fu ih =>
      intro i hm i0 i1 hno
      refine j_iload_n C dX0_placeOf_2 rfl ?_
      refine j_aload_n C dX0_placeOf_3 rfl ?_
      refine j_get (T := TX0) (N := 2) (fs := _) (v := .ref (b + 1)) C hwX0 hB.2.1 0 (by decide) rfl (index := 12) (ref := "TreePairs$Ball") (by decide +kernel) rfl rfl dX0_placeOf_4 ?_
      refine j_callI5 (jrunF (rest := [.int (zI i)]) (As := []) C (c_L_size l G (b + 1) (.int (zI mc)) (.ref er) W.length) gX0_placeOf_Jx4a65c_size_8abf5_f45Jx4a65c rfl C.kz.2.1 0 (by decide +kernel) rfl rfl ⟨Nat.le_of_ble_eq_true rfl, Nat.le_of_ble_eq_true rfl⟩ hO rfl hO rfl rfl (Nat.le_of_ble_eq_true rfl) ⟨Nat.le_of_ble_eq_true rfl, Nat.le_of_ble_eq_true rfl⟩ dX0_placeOf_7) (fun r7 h7 => ?_)
      subst h7
      refine j_icmp_ge (tgt := 43) C dX0_placeOf_12 (by decide) ⟨by omega, by omega⟩ ⟨by omega, by omega⟩ (fun c12 => ?_) (fun c12 => ?_)
      · refine j_iconst C dX0_placeOf_43 ?_
        exact j_ireti C hr (Nat.zero_le _) (Nat.zero_le _) (Or.inl ⟨rfl, fun h => by
          obtain ⟨w, w0, w1, ew⟩ := wat_of_mem h
          exact hno w w0 (by omega) ew⟩) dX0_placeOf_44
      · obtain ⟨g1, g2, g3⟩ := hW i i0 (by omega)
        refine j_aload_n C dX0_placeOf_15 rfl ?_
        refine j_get (T := TX0) (N := 2) (fs := _) (v := .ref (b + 1)) C hwX0 hB.2.1 0 (by decide) rfl (index := 12) (ref := "TreePairs$Ball") (by decide +kernel) rfl rfl dX0_placeOf_16 ?_
        refine j_iload_n C dX0_placeOf_19 rfl ?_
        refine j_callA5 (jrunF (rest := []) (As := [.int (zI i)]) C (c_L_get l G (b + 1) (.int (zI mc)) W.length er cap (ad i) f i) gX0_placeOf_Jx4a65c_get_915e3_f48Jx4a65c rfl C.kz.2.2.1 1 (by decide +kernel) rfl rfl ⟨Nat.le_of_ble_eq_true rfl, Nat.le_of_ble_eq_true rfl⟩ hO rfl ⟨hO, hR, ⟨i0, by omega⟩, by omega, g1⟩ rfl rfl (Nat.le_of_ble_eq_true rfl) ⟨Nat.le_of_ble_eq_true rfl, Nat.le_of_ble_eq_true rfl⟩ dX0_placeOf_20) (fun r20 h20 => ?_)
        subst h20
        refine j_castP (index := 26) C (by decide +kernel) g3.ob dX0_placeOf_25 ?_
        refine j_aload_n C dX0_placeOf_28 rfl ?_
        refine j_callI (jrunSN (rest := []) (As := [.ref (ad i), .ref am]) C (c_X2_areAlike l G (ad i) (wat W i).length am capm (wat W i) L) gX0_placeOf_X2_areAlike_n52 rfl 2 C.2.2.2.2.2.2.2.2.2.1 (by decide +kernel) (by decide +kernel) (by decide +kernel) rfl rfl ⟨Nat.le_of_ble_eq_true rfl, Nat.le_of_ble_eq_true rfl⟩ ⟨g3, hP, hB1 _ (wat_mem i0 (by omega)), hB2⟩ rfl rfl (Nat.le_of_ble_eq_true rfl) ⟨Nat.le_of_ble_eq_true rfl, Nat.le_of_ble_eq_true rfl⟩ dX0_placeOf_29) (fun r29 h29 => ?_)
        rcases h29 with ⟨h29, rfl⟩ | ⟨h29, rfl⟩
        · refine j_if_eq (tgt := 37) C dX0_placeOf_32 (by decide) ⟨by decide, by decide⟩ (fun c32 => absurd c32 (by decide)) (fun c32 => ?_)
          refine j_iload_n C dX0_placeOf_35 rfl ?_
          exact j_ireti C hr (Nat.zero_le _) (Nat.zero_le _) (Or.inr ⟨i0, by omega, h29, hno⟩) dX0_placeOf_36
        · refine j_if_eq (tgt := 37) C dX0_placeOf_32 (by decide) ⟨by decide, by decide⟩ (fun c32 => ?_) (fun c32 => absurd rfl c32)
          refine j_iinc (lv' := [(0, .ref b), (1, .ref am), (2, .int (zI (i + 1)))]) C dX0_placeOf_37 rfl (by decide) rfl ?_
          refine j_goto (tgt := 2) C dX0_placeOf_40 (by decide) ?_
          refine ih (i + 1) (by omega) (by omega) (by omega) (fun v v0 v1 => ?_)
          by_cases ev : v = i
          · subst ev; exact h29
          · exact hno v v0 (by omega)
  exact K ((W.length - 0 : Int).toNat + 1) 0 (by omega) (by decide) (by omega) (fun v v0 v1 => absurd v1 (by omega))
set_option maxHeartbeats 4000000 in
theorem c_X0_placeOf0 (l : Launch) (G : Gx) (b eb am : Nat) (en : Int → Int) : Met l yX0_placeOf wsX0_placeOf ({ frames := 3, cells := 0, slots := 0, locals := 70 } : Room) (cPc G [.ref b, .ref am] (fun H => BE G H b eb en)) (qI (fun r => r = -1)) 0 0 (fun _ => False) := by
  refine Met.ofJ (cc := cX0_placeOf) (maxL := 3) (ret := (some .int)) (lv0 := [(0, .ref b), (1, .ref am)]) (by decide) rfl (Nat.le_of_ble_eq_true rfl) rfl ?_
  intro p e s m args below meth c C hr hnm hpre
  obtain ⟨hB, mc, hO⟩ := hpre
  have hwX0 : ∀ w ∈ u_ws RX0 TX0 2, w ∈ wsX0_placeOf := by decide +kernel
  refine j_iconst C dX0_placeOf_0 ?_
  refine j_istore_n (lv' := [(0, .ref b), (1, .ref am), (2, .int (zI 0))]) C dX0_placeOf_1 (by decide) rfl ?_
  refine j_iload_n C dX0_placeOf_2 rfl ?_
  refine j_aload_n C dX0_placeOf_3 rfl ?_
  refine j_get (T := TX0) (N := 2) (fs := _) (v := .ref (b + 1)) C hwX0 hB.2.1 0 (by decide) rfl (index := 12) (ref := "TreePairs$Ball") (by decide +kernel) rfl rfl dX0_placeOf_4 ?_
  refine j_callI5 (jrunF (rest := [.int (zI 0)]) (As := []) C (c_L_size l G (b + 1) (.int (zI mc)) (.ref (zT G)) 0) gX0_placeOf_Jx4a65c_size_8abf5_f45Jx4a65c rfl C.kz.2.1 0 (by decide +kernel) rfl rfl ⟨Nat.le_of_ble_eq_true rfl, Nat.le_of_ble_eq_true rfl⟩ hO rfl hO rfl rfl (Nat.le_of_ble_eq_true rfl) ⟨Nat.le_of_ble_eq_true rfl, Nat.le_of_ble_eq_true rfl⟩ dX0_placeOf_7) (fun r7 h7 => ?_)
  subst h7
  refine j_icmp_ge (tgt := 43) C dX0_placeOf_12 (by decide) ⟨by decide, by decide⟩ ⟨by decide, by decide⟩ (fun c12 => ?_) (fun c12 => absurd (Int.le_refl 0) c12)
  refine j_iconst C dX0_placeOf_43 ?_
  exact j_ireti C hr (Nat.zero_le _) (Nat.zero_le _) rfl dX0_placeOf_44
set_option maxHeartbeats 4000000 in
theorem c_X0_addNew (l : Launch) (G : Gx) (b eb er am capm h : Nat) (W : List (List Q4)) (en : Int → Int) (L : List Q4) : Met l yX0_addNew wsX0_addNew ({ frames := 7, cells := 6, slots := 500, locals := 171 } : Room) (cPc G [.ref b, .ref am] (fun H => BQ G H b W en eb er ∧ PL G H am capm L ∧ (∀ x ∈ W, ∀ q ∈ x, LQ 46 q) ∧ (∀ q ∈ L, LQ 46 q) ∧ (1 ≤ W.length ∧ W.length ≤ 161) ∧ L.length ≤ 48 ∧ am + 5 ≤ b ∧ H.size = h)) (qmV (fun H => ∃ er2, (er2 = er ∨ h ≤ er2) ∧ BQ G H b (noteW W L) en eb er2) (fun q : Nat => q = b + 1 ∨ q = er ∨ h ≤ q)) 6 500 (fun q : Nat => q = b + 1 ∨ q = er ∨ h ≤ q) := by
  refine Met.ofJ (cc := cX0_addNew) (maxL := 3) (ret := none) (lv0 := [(0, .ref b), (1, .ref am)]) (by decide) rfl (Nat.le_of_ble_eq_true rfl) rfl ?_
  intro p e s m args below meth c C hr hnm hpre
  obtain ⟨hQ, hP, hB1, hB2, hWl, hLl, hab, hsz⟩ := hpre
  have hwX0 : ∀ w ∈ u_ws RX0 TX0 2, w ∈ wsX0_addNew := by decide +kernel
  have hwX1 : ∀ w ∈ u_ws RX1 TX1 5, w ∈ wsX0_addNew := by decide +kernel
  have hQ0 := hQ
  obtain ⟨hB, mc, cap, f, ad, hO, hR, hc, hW⟩ := hQ
  have hlB := hB.lt
  have hlR := hR.lt
  refine j_aload_n C dX0_addNew_0 rfl ?_
  refine j_aload_n C dX0_addNew_1 rfl ?_
  refine j_callI (jrunV (rest := []) (As := [.ref am]) C (c_X0_placeOf l G b eb er am capm W en L) gX0_addNew_X0_placeOf rfl 1 (by decide +kernel) rfl rfl ⟨Nat.le_of_ble_eq_true rfl, Nat.le_of_ble_eq_true rfl⟩ hB.2.1 rfl ⟨hQ0, hP, hB1, hB2⟩ rfl rfl (Nat.le_of_ble_eq_true rfl) ⟨Nat.le_of_ble_eq_true rfl, Nat.le_of_ble_eq_true rfl⟩ dX0_addNew_2) (fun r2 h2 => ?_)
  have hr2 : -1 ≤ r2 ∧ r2 ≤ 161 := by rcases h2 with ⟨h2, -⟩ | ⟨q0, q1, -⟩ <;> omega
  refine j_if_ge (tgt := 36) C dX0_addNew_5 (by decide) ⟨by omega, by omega⟩ (fun c5 => ?_) (fun c5 => ?_)
  · have hin : L ∈ W := by
      rcases h2 with ⟨h2, -⟩ | ⟨q0, q1, q2, -⟩
      · exact absurd h2 (by omega)
      · rw [← q2]; exact wat_mem q0 q1
    exact j_vret C hr (Nat.zero_le _) (Nat.zero_le _) ⟨er, Or.inl rfl, by unfold noteW; rw [if_pos hin]; exact hQ0⟩ dX0_addNew_36
  have hno : L ∉ W := by
    rcases h2 with ⟨-, h2⟩ | ⟨q0, -⟩
    · exact h2
    · exact absurd q0 c5
  refine j_new (ci := 2) (fs := [.null, .null, .null, .null, .int (zI 0)]) (h := h) C tyX1 tyX1_ok hwX1 rfl (index := 26) (by decide +kernel) (by decide +kernel) (by decide +kernel) (fun j hj => by rcases (show j = 0 ∨ j = 1 ∨ j = 2 ∨ j = 3 ∨ j = 4 by omega) with rfl | rfl | rfl | rfl | rfl <;> rfl) hsz (Nat.le_of_ble_eq_true rfl) (Nat.le_of_ble_eq_true rfl) dX0_addNew_8 (fun H1 hN hG => ?_)
  have hE1 : ∀ q : Nat, q < h → H1[q]? = s.heap[q]? := fun q hq => hG.2 q hq
  have hP1 := hP.grw hG (by have := hP.lt; omega)
  refine j_dup C dX0_addNew_11 rfl ?_
  refine j_aload_n C dX0_addNew_12 rfl ?_
  refine j_get (T := TX1) (N := 5) (fs := _) (v := .int (zI (L.length : Int))) C hwX1 hP1.ob 4 (by decide) rfl (index := 28) (ref := "TreePairs$Pairs") (by decide +kernel) rfl rfl dX0_addNew_13 ?_
  refine j_callmV (jrunI (rest := [.ref h]) (As := [.int (zI (L.length : Int))]) C (c_X1_init l G h L.length) gX0_addNew_X1_init rfl 1 (by decide +kernel) (by decide +kernel) (by decide +kernel) rfl (by decide +kernel) rfl rfl ⟨Nat.le_of_ble_eq_true rfl, Nat.le_of_ble_eq_true rfl⟩ ⟨hN, hG.1, hLl⟩ rfl rfl (Nat.le_of_ble_eq_true rfl) ⟨Nat.le_of_ble_eq_true rfl, by show 0 + 5 + 4 * L.length ≤ 500; omega⟩ dX0_addNew_16) (fun q hq => Or.inr (Or.inr hq)) (fun H2 h16 hF => ?_)
  obtain ⟨hN, hs2⟩ := h16
  have hE2 : ∀ q : Nat, q < h → H2[q]? = s.heap[q]? := fun q hq => (hF.2 q (by rw [hG.1]; omega) (by show ¬ h ≤ q; omega)).trans (hE1 q hq)
  have hlP := hP.lt
  have hP2 : PL G H2 am capm L := hP.kept (fun q q1 q2 => hE2 q (by omega))
  refine j_astore_n (lv' := [(0, .ref b), (1, .ref am), (2, .ref h)]) C dX0_addNew_19 (by decide) rfl ?_
  refine j_aload_n C dX0_addNew_20 rfl ?_
  refine j_aload_n C dX0_addNew_21 rfl ?_
  refine j_callmV (jrunSN (rest := []) (As := [.ref am, .ref h]) C (c_X2_putCopy l G am capm h L.length L []) gX0_addNew_X2_putCopy_n35 rfl 2 C.2.2.2.2.2.2.2.2.1 (by decide +kernel) (by decide +kernel) (by decide +kernel) rfl rfl ⟨Nat.le_of_ble_eq_true rfl, Nat.le_of_ble_eq_true rfl⟩ ⟨hP2, hN, Nat.le_refl _, by omega⟩ rfl rfl (Nat.le_of_ble_eq_true rfl) ⟨Nat.le_of_ble_eq_true rfl, by show 0 + 5 + 4 * L.length + 0 ≤ 500; omega⟩ dX0_addNew_22) (fun q hq => Or.inr (Or.inr hq.1)) (fun H3 hN hF => ?_)
  have hE3 : ∀ q : Nat, q < h → H3[q]? = s.heap[q]? := fun q hq => (hF.2 q (by omega) (by show ¬ (h ≤ q ∧ q < h + 5); omega)).trans (hE2 q hq)
  have hs3 := hF.1
  obtain ⟨h2, hh2⟩ : ∃ n : Nat, H3.size = n := ⟨_, rfl⟩
  have hO3 : ob G (b + 1) 0 [.int (zI mc), .ref er, .int (zI (W.length : Int))] H3 := obk hO (hE3 _ (by omega))
  have hR3 : ao G er cap f H3 := hR.kept (hE3 _ (by omega))
  have hB3 : BH G H3 b eb en := hB.kept (hE3 _ (by omega)) (hE3 _ (by omega))
  have hW3 : BW G H3 eb er cap f ad W := fun i i0 i1 => by
    obtain ⟨g1, g2, g3⟩ := hW i i0 i1
    have := g3.lt
    exact ⟨g1, g2, g3.kept (fun q q1 q2 => hE3 q (by omega))⟩
  refine j_aload_n C dX0_addNew_25 rfl ?_
  refine j_get (T := TX0) (N := 2) (fs := _) (v := .ref (b + 1)) C hwX0 hB3.2.1 0 (by decide) rfl (index := 12) (ref := "TreePairs$Ball") (by decide +kernel) rfl rfl dX0_addNew_26 ?_
  refine j_aload_n C dX0_addNew_29 rfl ?_
  refine JJ.widen (ca' := 5) (sl' := 200) (by omega) (by omega) ?_
  refine j_callmI5 (jrunF (rest := []) (As := [.ref h]) C (c_L_addN l G (b + 1) er cap h2 h mc W.length f _) gX0_addNew_Jx4a65c_add_9ea2d_f39Jx4a65c rfl C.kz.2.2.2.1 1 (by decide +kernel) rfl rfl ⟨Nat.le_of_ble_eq_true rfl, Nat.le_of_ble_eq_true rfl⟩ hO3 rfl ⟨hO3, hR3, ⟨by omega, by omega, by omega, by omega⟩, by omega, fun i i0 i1 y hy => by
    obtain ⟨g1, g2, g3⟩ := hW3 i i0 i1
    have ey : y = ad i := Option.some.inj (hy.symm.trans g1)
    subst ey
    exact ⟨by omega, _, g3.ob⟩, hh2, hN.ob, by omega, by omega⟩ rfl rfl (Nat.le_of_ble_eq_true rfl) ⟨Nat.le_of_ble_eq_true rfl, Nat.le_of_ble_eq_true rfl⟩ dX0_addNew_30) (fun q hq => by
    have hq' : q = b + 1 ∨ q = er ∨ h2 ≤ q := hq
    show q = b + 1 ∨ q = er ∨ h ≤ q
    omega) (fun r30 H4 h30 hF4 => ?_)
  obtain ⟨-, er2, k, f2, hO4, hR4, k1, k2, he2, hf1, hf2⟩ := h30
  refine j_pop C dX0_addNew_35 rfl ?_
  have hlN := hN.lt
  have eL : (((W ++ [L]).length : Nat) : Int) = (W.length : Int) + 1 := by rw [List.length_append, List.length_singleton]; omega
  have key : BQ G H4 b (W ++ [L]) en eb er2 := by
    refine ⟨hB3.kept (hF4.2 _ (by omega) (by show ¬ (b = b + 1 ∨ b = er ∨ h2 ≤ b); omega)) (hF4.2 _ (by omega) (by show ¬ (eb = b + 1 ∨ eb = er ∨ h2 ≤ eb); omega)), mc + 1, k, f2, iup ad W.length h, ?_, hR4, ⟨by omega, ?_, k2⟩, fun i i0 i1 => ?_⟩
    · rw [eL]; exact hO4
    · omega
    · rw [eL] at i1
      by_cases ei : i = W.length
      · rw [wat_last ei, ei, iup_s]
        refine ⟨hf1, by omega, hN.kept (fun q q1 q2 => hF4.2 q (by omega) (by show ¬ (q = b + 1 ∨ q = er ∨ h2 ≤ q); omega))⟩
      · obtain ⟨g1, g2, g3⟩ := hW3 i i0 (by omega)
        obtain ⟨-, -, g4⟩ := hW i i0 (by omega)
        have hl := g4.lt
        rw [iup_n ei, wat_pre (V := W) (List.prefix_append _ _) i0 (by omega)]
        refine ⟨(hf2 i i0 (by omega)).trans g1, by omega, g3.kept (fun q q1 q2 => hF4.2 q (by omega) (by show ¬ (q = b + 1 ∨ q = er ∨ h2 ≤ q); omega))⟩
  exact j_vret C hr (Nat.le_refl _) (Nat.le_refl _) ⟨er2, by omega, by unfold noteW; rw [if_neg hno]; exact key⟩ dX0_addNew_36
set_option maxHeartbeats 4000000 in
theorem c_X0_addNew0 (l : Launch) (G : Gx) (o b eb am capm h : Nat) (en : Int → Int) (L : List Q4) : Met l yX0_addNew wsX0_addNew ({ frames := 7, cells := 6, slots := 500, locals := 173 } : Room) (cPc G [.ref b, .ref am] (fun H => BE G H b eb en ∧ HZ G o H ∧ o ≤ b ∧ PL G H am capm L ∧ (∀ q ∈ L, LQ 46 q) ∧ L.length ≤ 48 ∧ am + 5 ≤ b ∧ H.size = h)) (qmV (fun H => ∃ er2, h ≤ er2 ∧ BQ G H b [L] en eb er2) (fun q : Nat => q = b + 1 ∨ h ≤ q)) 6 500 (fun q : Nat => q = b + 1 ∨ h ≤ q) := by
  refine Met.ofJ (cc := cX0_addNew) (maxL := 3) (ret := none) (lv0 := [(0, .ref b), (1, .ref am)]) (by decide) rfl (Nat.le_of_ble_eq_true rfl) rfl ?_
  intro p e s m args below meth c C hr hnm hpre
  obtain ⟨hQ, hZ, hob, hP, hB2, hLl, hab, hsz⟩ := hpre
  have hwX0 : ∀ w ∈ u_ws RX0 TX0 2, w ∈ wsX0_addNew := by decide +kernel
  have hwX1 : ∀ w ∈ u_ws RX1 TX1 5, w ∈ wsX0_addNew := by decide +kernel
  have hQ0 := hQ
  obtain ⟨hB, mc, hO⟩ := hQ
  have hlB := hB.lt
  refine j_aload_n C dX0_addNew_0 rfl ?_
  refine j_aload_n C dX0_addNew_1 rfl ?_
  refine j_callI (jrunV (rest := []) (As := [.ref am]) C (c_X0_placeOf0 l G b eb am en) gX0_addNew_X0_placeOf rfl 1 (by decide +kernel) rfl rfl ⟨Nat.le_of_ble_eq_true rfl, Nat.le_of_ble_eq_true rfl⟩ hB.2.1 rfl hQ0 rfl rfl (Nat.le_of_ble_eq_true rfl) ⟨Nat.le_of_ble_eq_true rfl, Nat.le_of_ble_eq_true rfl⟩ dX0_addNew_2) (fun r2 h2 => ?_)
  subst h2
  refine j_if_ge (tgt := 36) C dX0_addNew_5 (by decide) ⟨by decide, by decide⟩ (fun c5 => absurd c5 (by decide)) (fun c5 => ?_)
  refine j_new (ci := 2) (fs := [.null, .null, .null, .null, .int (zI 0)]) (h := h) C tyX1 tyX1_ok hwX1 rfl (index := 26) (by decide +kernel) (by decide +kernel) (by decide +kernel) (fun j hj => by rcases (show j = 0 ∨ j = 1 ∨ j = 2 ∨ j = 3 ∨ j = 4 by omega) with rfl | rfl | rfl | rfl | rfl <;> rfl) hsz (Nat.le_of_ble_eq_true rfl) (Nat.le_of_ble_eq_true rfl) dX0_addNew_8 (fun H1 hN hG => ?_)
  have hE1 : ∀ q : Nat, q < h → H1[q]? = s.heap[q]? := fun q hq => hG.2 q hq
  have hP1 := hP.grw hG (by have := hP.lt; omega)
  refine j_dup C dX0_addNew_11 rfl ?_
  refine j_aload_n C dX0_addNew_12 rfl ?_
  refine j_get (T := TX1) (N := 5) (fs := _) (v := .int (zI (L.length : Int))) C hwX1 hP1.ob 4 (by decide) rfl (index := 28) (ref := "TreePairs$Pairs") (by decide +kernel) rfl rfl dX0_addNew_13 ?_
  refine j_callmV (jrunI (rest := [.ref h]) (As := [.int (zI (L.length : Int))]) C (c_X1_init l G h L.length) gX0_addNew_X1_init rfl 1 (by decide +kernel) (by decide +kernel) (by decide +kernel) rfl (by decide +kernel) rfl rfl ⟨Nat.le_of_ble_eq_true rfl, Nat.le_of_ble_eq_true rfl⟩ ⟨hN, hG.1, hLl⟩ rfl rfl (Nat.le_of_ble_eq_true rfl) ⟨Nat.le_of_ble_eq_true rfl, by show 0 + 5 + 4 * L.length ≤ 500; omega⟩ dX0_addNew_16) (fun q hq => Or.inr hq) (fun H2 h16 hF => ?_)
  obtain ⟨hN, hs2⟩ := h16
  have hE2 : ∀ q : Nat, q < h → H2[q]? = s.heap[q]? := fun q hq => (hF.2 q (by rw [hG.1]; omega) (by show ¬ h ≤ q; omega)).trans (hE1 q hq)
  have hlP := hP.lt
  have hP2 : PL G H2 am capm L := hP.kept (fun q q1 q2 => hE2 q (by omega))
  refine j_astore_n (lv' := [(0, .ref b), (1, .ref am), (2, .ref h)]) C dX0_addNew_19 (by decide) rfl ?_
  refine j_aload_n C dX0_addNew_20 rfl ?_
  refine j_aload_n C dX0_addNew_21 rfl ?_
  refine j_callmV (jrunSN (rest := []) (As := [.ref am, .ref h]) C (c_X2_putCopy l G am capm h L.length L []) gX0_addNew_X2_putCopy_n35 rfl 2 C.2.2.2.2.2.2.2.2.1 (by decide +kernel) (by decide +kernel) (by decide +kernel) rfl rfl ⟨Nat.le_of_ble_eq_true rfl, Nat.le_of_ble_eq_true rfl⟩ ⟨hP2, hN, Nat.le_refl _, by omega⟩ rfl rfl (Nat.le_of_ble_eq_true rfl) ⟨Nat.le_of_ble_eq_true rfl, by show 0 + 5 + 4 * L.length + 0 ≤ 500; omega⟩ dX0_addNew_22) (fun q hq => Or.inr hq.1) (fun H3 hN hF => ?_)
  have hE3 : ∀ q : Nat, q < h → H3[q]? = s.heap[q]? := fun q hq => (hF.2 q (by omega) (by show ¬ (h ≤ q ∧ q < h + 5); omega)).trans (hE2 q hq)
  have hs3 := hF.1
  obtain ⟨h2, hh2⟩ : ∃ n : Nat, H3.size = n := ⟨_, rfl⟩
  have hO3 : ob G (b + 1) 0 [.int (zI mc), .ref (zT G), .int (zI 0)] H3 := obk hO (hE3 _ (by omega))
  have hB3 : BH G H3 b eb en := hB.kept (hE3 _ (by omega)) (hE3 _ (by omega))
  have hZ3 : HZ G o H3 := hZ.kept (fun q q1 q2 => hE3 q (by omega))
  refine j_aload_n C dX0_addNew_25 rfl ?_
  refine j_get (T := TX0) (N := 2) (fs := _) (v := .ref (b + 1)) C hwX0 hB3.2.1 0 (by decide) rfl (index := 12) (ref := "TreePairs$Ball") (by decide +kernel) rfl rfl dX0_addNew_26 ?_
  refine j_aload_n C dX0_addNew_29 rfl ?_
  refine JJ.widen (ca' := 5) (sl' := 200) (by omega) (by omega) ?_
  refine j_callmI5 (jrunF (rest := []) (As := [.ref h]) C (c_L_add0 l G o (b + 1) h2 h mc _) gX0_addNew_Jx4a65c_add_9ea2d_f39Jx4a65c rfl C.kz.2.2.2.1 1 (by decide +kernel) rfl rfl ⟨Nat.le_of_ble_eq_true rfl, Nat.le_of_ble_eq_true rfl⟩ hO3 rfl ⟨hO3, hZ3, hh2, hN.ob, by omega, by omega⟩ rfl rfl (Nat.le_of_ble_eq_true rfl) ⟨Nat.le_of_ble_eq_true rfl, Nat.le_of_ble_eq_true rfl⟩ dX0_addNew_30) (fun q hq => by
    have hq' : q = b + 1 ∨ h2 ≤ q := hq
    show q = b + 1 ∨ h ≤ q
    omega) (fun r30 H4 h30 hF4 => ?_)
  obtain ⟨-, hO4, hR4⟩ := h30
  refine j_pop C dX0_addNew_35 rfl ?_
  have hlN := hN.lt
  have key : BQ G H4 b [L] en eb h2 := by
    refine ⟨hB3.kept (hF4.2 _ (by omega) (by show ¬ (b = b + 1 ∨ h2 ≤ b); omega)) (hF4.2 _ (by omega) (by show ¬ (eb = b + 1 ∨ h2 ≤ eb); omega)), mc + 1, 10, _, fun _ => h, hO4, hR4, ⟨by omega, by show 1 ≤ 10; omega, by omega⟩, fun i i0 i1 => ?_⟩
    have ei : i = 0 := by simp only [List.length_singleton] at i1; omega
    subst ei
    exact ⟨iup_s, by show eb < h ∧ (h + 5 ≤ h2 ∨ h2 < h); omega, hN.kept (fun q q1 q2 => hF4.2 q (by omega) (by show ¬ (q = b + 1 ∨ h2 ≤ q); omega))⟩
  exact j_vret C hr (Nat.le_refl _) (Nat.le_refl _) ⟨h2, by omega, key⟩ dX0_addNew_36
