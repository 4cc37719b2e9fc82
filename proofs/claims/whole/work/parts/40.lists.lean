theorem obk {G : Gx} {a ci : Nat} {fs : List Value} {H H1 : Heap} (h : ob G a ci fs H) (hq : H1[a]? = H[a]?) : ob G a ci fs H1 := va_at.kept h hq
set_option maxHeartbeats 4000000 in
theorem c_L_size (l : Launch) (G : Gx) (a : Nat) (v0 v1 : Value) (n : Int) : Met l yJx4a65c_size_8abf5 wsJx4a65c_size_8abf5 ({ frames := 0, cells := 0, slots := 0, locals := 0 } : Room) (cPc G [.ref a] (fun H => ob G a 0 [v0, v1, .int (zI n)] H)) (qI (fun r => r = n)) 0 0 (fun _ => False) := by
  refine Met.ofJ (cc := cJx4a65c_size_8abf5) (maxL := 1) (ret := (some .int)) (lv0 := [(0, .ref a)]) (by decide) rfl (Nat.le_of_ble_eq_true rfl) rfl ?_
  intro p e s m args below meth c C hr hnm hpre
  have hwL : ∀ w ∈ u_ws RJx4a65c TJx4a65c 3, w ∈ wsJx4a65c_size_8abf5 := by decide +kernel
  refine j_aload_n C dJx4a65c_size_8abf5_0 rfl ?_
  refine j_get (T := TJx4a65c) (N := 3) (fs := _) (v := .int (zI n)) C hwL hpre 2 (by decide) rfl (index := 48) (ref := "java/util/ArrayList") (by decide +kernel) rfl rfl dJx4a65c_size_8abf5_1 ?_
  exact j_ireti C hr (Nat.zero_le _) (Nat.zero_le _) rfl dJx4a65c_size_8abf5_4
set_option maxHeartbeats 4000000 in
theorem c_L_check3 (l : Launch) (G : Gx) (i n : Int) : Met l yJ3_checkIndex_8e157 wsJ3_checkIndex_8e157 ({ frames := 0, cells := 0, slots := 0, locals := 0 } : Room) (cPc G [.int (zI i), .int (zI n), .null] (fun H => (0 ≤ i ∧ i < n) ∧ n < 2147483648)) (qI (fun r => r = i)) 0 0 (fun _ => False) := by
  refine Met.ofJ (cc := cJ3_checkIndex_8e157) (maxL := 3) (ret := (some .int)) (lv0 := [(0, .int (zI i)), (1, .int (zI n)), (2, .null)]) (by decide) rfl (Nat.le_of_ble_eq_true rfl) rfl ?_
  intro p e s m args below meth c C hr hnm hpre
  obtain ⟨⟨h0, h1⟩, h2⟩ := hpre
  refine j_iload_n C dJ3_checkIndex_8e157_0 rfl ?_
  refine j_if_lt (tgt := 9) C dJ3_checkIndex_8e157_1 (by decide) ⟨by omega, by omega⟩ (fun c1 => absurd c1 (by omega)) (fun c1 => ?_)
  refine j_iload_n C dJ3_checkIndex_8e157_4 rfl ?_
  refine j_iload_n C dJ3_checkIndex_8e157_5 rfl ?_
  refine j_icmp_lt (tgt := 16) C dJ3_checkIndex_8e157_6 (by decide) ⟨by omega, by omega⟩ ⟨by omega, by omega⟩ (fun c6 => ?_) (fun c6 => absurd h1 c6)
  refine j_iload_n C dJ3_checkIndex_8e157_16 rfl ?_
  exact j_ireti C hr (Nat.zero_le _) (Nat.zero_le _) rfl dJ3_checkIndex_8e157_17
set_option maxHeartbeats 4000000 in
theorem c_L_check2 (l : Launch) (G : Gx) (i n : Int) : Met l yJ15_checkIndex_7cf53 wsJ15_checkIndex_7cf53 ({ frames := 1, cells := 0, slots := 0, locals := 22 } : Room) (cPc G [.int (zI i), .int (zI n)] (fun H => (0 ≤ i ∧ i < n) ∧ n < 2147483648)) (qI (fun r => r = i)) 0 0 (fun _ => False) := by
  refine Met.ofJ (cc := cJ15_checkIndex_7cf53) (maxL := 2) (ret := (some .int)) (lv0 := [(0, .int (zI i)), (1, .int (zI n))]) (by decide) rfl (Nat.le_of_ble_eq_true rfl) rfl ?_
  intro p e s m args below meth c C hr hnm hpre
  refine j_iload_n C dJ15_checkIndex_7cf53_0 rfl ?_
  refine j_iload_n C dJ15_checkIndex_7cf53_1 rfl ?_
  refine j_aconst_null C dJ15_checkIndex_7cf53_2 ?_
  refine j_callI (jrunS (rest := []) (As := [.int (zI i), .int (zI n), .null]) C (c_L_check3 l G i n) gJ15_checkIndex_7cf53_J3_checkIndex_8e157 rfl 3 (by decide +kernel) rfl rfl ⟨Nat.le_of_ble_eq_true rfl, Nat.le_of_ble_eq_true rfl⟩ hpre rfl rfl (Nat.le_of_ble_eq_true rfl) ⟨Nat.le_of_ble_eq_true rfl, Nat.le_of_ble_eq_true rfl⟩ dJ15_checkIndex_7cf53_3) (fun r3 h3 => ?_)
  subst h3
  exact j_ireti C hr (Nat.zero_le _) (Nat.zero_le _) rfl dJ15_checkIndex_7cf53_6
set_option maxHeartbeats 4000000 in
theorem c_L_elem (l : Launch) (G : Gx) (a : Nat) (v0 v2 : Value) (er cap q : Nat) (f : Int → Option Nat) (i : Int) : Met l yJx4a65c_elementData_915e3 wsJx4a65c_elementData_915e3 ({ frames := 0, cells := 0, slots := 0, locals := 0 } : Room) (cPc G [.ref a, .int (zI i)] (fun H => ob G a 0 [v0, .ref er, v2] H ∧ ao G er cap f H ∧ (0 ≤ i ∧ i < cap) ∧ f i = some q)) (qA (fun r => r = q)) 0 0 (fun _ => False) := by
  refine Met.ofJ (cc := cJx4a65c_elementData_915e3) (maxL := 2) (ret := (some (.object "java/lang/Object"))) (lv0 := [(0, .ref a), (1, .int (zI i))]) (by decide) rfl (Nat.le_of_ble_eq_true rfl) rfl ?_
  intro p e s m args below meth c C hr hnm hpre
  obtain ⟨hO, hR, hi, hf⟩ := hpre
  have hwL : ∀ w ∈ u_ws RJx4a65c TJx4a65c 3, w ∈ wsJx4a65c_elementData_915e3 := by decide +kernel
  refine j_aload_n C dJx4a65c_elementData_915e3_0 rfl ?_
  refine j_get (T := TJx4a65c) (N := 3) (fs := _) (v := .ref er) C hwL hO 1 (by decide) rfl (index := 9) (ref := "java/util/ArrayList") (by decide +kernel) rfl rfl dJx4a65c_elementData_915e3_1 ?_
  refine j_iload_n C dJx4a65c_elementData_915e3_4 rfl ?_
  refine j_aaldO C hR hi hf dJx4a65c_elementData_915e3_5 ?_
  exact j_areti C hr (Or.inl ⟨_, rfl⟩) (Nat.zero_le _) (Nat.zero_le _) rfl dJx4a65c_elementData_915e3_6
set_option maxHeartbeats 4000000 in
theorem c_L_get (l : Launch) (G : Gx) (a : Nat) (v0 : Value) (n : Int) (er cap q : Nat) (f : Int → Option Nat) (i : Int) : Met l yJx4a65c_get_915e3 wsJx4a65c_get_915e3 ({ frames := 2, cells := 0, slots := 0, locals := 43 } : Room) (cPc G [.ref a, .int (zI i)] (fun H => ob G a 0 [v0, .ref er, .int (zI n)] H ∧ ao G er cap f H ∧ (0 ≤ i ∧ i < n) ∧ n ≤ cap ∧ f i = some q)) (qA (fun r => r = q)) 0 0 (fun _ => False) := by
  refine Met.ofJ (cc := cJx4a65c_get_915e3) (maxL := 2) (ret := (some (.object "java/lang/Object"))) (lv0 := [(0, .ref a), (1, .int (zI i))]) (by decide) rfl (Nat.le_of_ble_eq_true rfl) rfl ?_
  intro p e s m args below meth c C hr hnm hpre
  obtain ⟨hO, hR, hi, hn, hf⟩ := hpre
  have hwL : ∀ w ∈ u_ws RJx4a65c TJx4a65c 3, w ∈ wsJx4a65c_get_915e3 := by decide +kernel
  have hcap := hR.1
  refine j_iload_n C dJx4a65c_get_915e3_0 rfl ?_
  refine j_aload_n C dJx4a65c_get_915e3_1 rfl ?_
  refine j_get (T := TJx4a65c) (N := 3) (fs := _) (v := .int (zI n)) C hwL hO 2 (by decide) rfl (index := 48) (ref := "java/util/ArrayList") (by decide +kernel) rfl rfl dJx4a65c_get_915e3_2 ?_
  refine j_callI (jrunS (rest := []) (As := [.int (zI i), .int (zI n)]) C (c_L_check2 l G i n) gJx4a65c_get_915e3_J15_checkIndex_7cf53 rfl 2 (by decide +kernel) rfl rfl ⟨Nat.le_of_ble_eq_true rfl, Nat.le_of_ble_eq_true rfl⟩ ⟨hi, by omega⟩ rfl rfl (Nat.le_of_ble_eq_true rfl) ⟨Nat.le_of_ble_eq_true rfl, Nat.le_of_ble_eq_true rfl⟩ dJx4a65c_get_915e3_5) (fun r5 h5 => ?_)
  refine j_pop C dJx4a65c_get_915e3_8 rfl ?_
  refine j_aload_n C dJx4a65c_get_915e3_9 rfl ?_
  refine j_iload_n C dJx4a65c_get_915e3_10 rfl ?_
  refine j_callA (jrunV (rest := []) (As := [.int (zI i)]) C (c_L_elem l G a v0 (.int (zI n)) er cap q f i) gJx4a65c_get_915e3_Jx4a65c_elementData_915e3 rfl 1 (by decide +kernel) rfl rfl ⟨Nat.le_of_ble_eq_true rfl, Nat.le_of_ble_eq_true rfl⟩ hO rfl ⟨hO, hR, ⟨hi.1, by omega⟩, hf⟩ rfl rfl (Nat.le_of_ble_eq_true rfl) ⟨Nat.le_of_ble_eq_true rfl, Nat.le_of_ble_eq_true rfl⟩ dJx4a65c_get_915e3_11) (fun r11 h11 => ?_)
  subst h11
  exact j_areti C hr (Or.inl ⟨_, rfl⟩) (Nat.zero_le _) (Nat.zero_le _) rfl dJx4a65c_get_915e3_14
set_option maxHeartbeats 4000000 in
theorem c_L_newLength (l : Launch) (G : Gx) (x y z : Int) : Met l yJ8_newLength_cabcc wsJ8_newLength_cabcc ({ frames := 1, cells := 0, slots := 0, locals := 16 } : Room) (cPc G [.int (zI x), .int (zI y), .int (zI z)] (fun H => (0 ≤ x ∧ x ≤ 1000) ∧ (1 ≤ y ∧ y ≤ 1000) ∧ (0 ≤ z ∧ z ≤ 1000))) (qI (fun r => r = x + (if y < z then z else y))) 0 0 (fun _ => False) := by
  refine Met.ofJ (cc := cJ8_newLength_cabcc) (maxL := 4) (ret := (some .int)) (lv0 := [(0, .int (zI x)), (1, .int (zI y)), (2, .int (zI z))]) (by decide) rfl (Nat.le_of_ble_eq_true rfl) rfl ?_
  intro p e s m args below meth c C hr hnm hpre
  obtain ⟨hx, hy, hz⟩ := hpre
  have hw : 1 ≤ (if y < z then z else y) ∧ (if y < z then z else y) ≤ 1000 := by split <;> omega
  refine j_iload_n C dJ8_newLength_cabcc_0 rfl ?_
  refine j_iload_n C dJ8_newLength_cabcc_1 rfl ?_
  refine j_iload_n C dJ8_newLength_cabcc_2 rfl ?_
  refine j_mmax C (index := 194) (by decide +kernel) (by decide +kernel) (by decide +kernel) (by decide +kernel) (Nat.le_of_ble_eq_true rfl) (Nat.le_of_ble_eq_true rfl) (Nat.le_of_ble_eq_true rfl) (Nat.le_of_ble_eq_true rfl) ⟨by omega, by omega⟩ ⟨by omega, by omega⟩ dJ8_newLength_cabcc_3 ?_
  generalize (if y < z then z else y) = w at hw ⊢
  refine j_iadd C dJ8_newLength_cabcc_6 ?_
  refine j_istore_n (lv' := [(0, .int (zI x)), (1, .int (zI y)), (2, .int (zI z)), (3, .int (zI (x + w)))]) C dJ8_newLength_cabcc_7 (by decide) rfl ?_
  refine j_iconst C dJ8_newLength_cabcc_8 ?_
  refine j_iload_n C dJ8_newLength_cabcc_9 rfl ?_
  refine j_icmp_ge (tgt := 21) C dJ8_newLength_cabcc_10 (by decide) ⟨by decide, by decide⟩ ⟨by omega, by omega⟩ (fun c10 => absurd c10 (by omega)) (fun c10 => ?_)
  refine j_iload_n C dJ8_newLength_cabcc_13 rfl ?_
  refine j_ldcI (z := 2147483639) (index := 200) (v := 2147483639) C (by decide +kernel) (by decide) dJ8_newLength_cabcc_14 ?_
  refine j_icmp_gt (tgt := 21) C dJ8_newLength_cabcc_16 (by decide) ⟨by omega, by omega⟩ ⟨by decide, by decide⟩ (fun c16 => absurd c16 (by omega)) (fun c16 => ?_)
  refine j_iload_n C dJ8_newLength_cabcc_19 rfl ?_
  exact j_ireti C hr (Nat.zero_le _) (Nat.zero_le _) rfl dJ8_newLength_cabcc_20
set_option maxHeartbeats 4000000 in
theorem c_L_copyOf3 (l : Launch) (G : Gx) (er n0 k h : Nat) (f : Int → Option Nat) : Met l yJ7_copyOf_6403c wsJ7_copyOf_6403c ({ frames := 1, cells := 1, slots := 300, locals := 40 } : Room) (cPc G [.ref er, .int (zI (k : Int)), .ref (zM G)] (fun H => ao G er n0 f H ∧ n0 ≤ k ∧ k ≤ 300 ∧ (∀ i : Int, 0 ≤ i → i < n0 → ∀ y : Nat, f i = some y → ∃ vs, ob G y 2 vs H) ∧ H.size = h)) (qmR (fun r H => r = h ∧ ao G h k (cpo f (fun _ => none) n0) H) (fun q : Nat => q = er ∨ h ≤ q)) 1 300 (fun q : Nat => q = er ∨ h ≤ q) := by
  refine Met.ofJ (cc := cJ7_copyOf_6403c) (maxL := 4) (ret := (some (.array (.object "java/lang/Object")))) (lv0 := [(0, .ref er), (1, .int (zI (k : Int))), (2, .ref (zM G))]) (by decide) rfl (Nat.le_of_ble_eq_true rfl) rfl ?_
  intro p e s m args below meth c C hr hnm hpre
  obtain ⟨hR, hk, hk2, hel, hsz⟩ := hpre
  have hlt := hR.lt
  refine j_aload_n C dJ7_copyOf_6403c_0 rfl ?_
  refine j_ldcM (index := 110) C (by decide +kernel) dJ7_copyOf_6403c_1 ?_
  refine j_acmp_ne (tgt := 13) C dJ7_copyOf_6403c_3 (by decide) (fun c3 => absurd rfl c3) (fun c3 => ?_)
  refine j_iload_n C dJ7_copyOf_6403c_6 rfl ?_
  refine j_newO (k := k) (h := h) (index := 2) C (by decide +kernel) rfl (by omega) hsz (Nat.le_of_ble_eq_true rfl) (by show 0 + k ≤ 300; omega) dJ7_copyOf_6403c_7 (fun H1 hN hW => ?_)
  have hR := hR.kept (hW.2 _ (by omega))
  have hel1 : ∀ i : Int, 0 ≤ i → i < n0 → ∀ y : Nat, f i = some y → ∃ vs, ob G y 2 vs H1 := fun i i0 i1 y hy => by
    obtain ⟨vs, hv⟩ := hel i i0 i1 y hy
    exact ⟨vs, hv.kept (hW.2 _ (by have := ob.lt hv; omega))⟩
  refine j_goto (tgt := 24) C dJ7_copyOf_6403c_10 (by decide) ?_
  refine j_astore_n (lv' := [(0, .ref er), (1, .int (zI (k : Int))), (2, .ref (zM G)), (3, .ref h)]) C dJ7_copyOf_6403c_24 (by decide) rfl ?_
  refine j_aload_n C dJ7_copyOf_6403c_25 rfl ?_
  refine j_iconst C dJ7_copyOf_6403c_26 ?_
  refine j_aload_n C dJ7_copyOf_6403c_27 rfl ?_
  refine j_iconst C dJ7_copyOf_6403c_28 ?_
  refine j_aload_n C dJ7_copyOf_6403c_29 rfl ?_
  refine j_alenO C hR dJ7_copyOf_6403c_30 ?_
  refine j_iload_n C dJ7_copyOf_6403c_31 rfl ?_
  refine JJ.widen (ca' := 1) (sl' := 300) (by omega) (by omega) ?_
  refine j_mmin C (index := 304) (by decide +kernel) (by decide +kernel) (by decide +kernel) (by decide +kernel) (Nat.le_of_ble_eq_true rfl) (Nat.le_of_ble_eq_true rfl) (Nat.le_of_ble_eq_true rfl) (Nat.le_of_ble_eq_true rfl) ⟨by omega, by omega⟩ ⟨by omega, by omega⟩ dJ7_copyOf_6403c_32 ?_
  rw [show (if (k : Int) < (n0 : Int) then (k : Int) else (n0 : Int)) = (n0 : Int) from if_neg (by omega)]
  refine j_copyO C (index := 150) hR hN (by omega) (Or.inl rfl) (Or.inr (Nat.le_refl _)) ⟨by omega, by omega, by omega⟩ hel1 (by decide +kernel) (by decide +kernel) (by decide +kernel) (by decide +kernel) (Nat.le_of_ble_eq_true rfl) (Nat.le_of_ble_eq_true rfl) dJ7_copyOf_6403c_35 (fun H2 hN => ?_)
  refine j_aload_n C dJ7_copyOf_6403c_38 rfl ?_
  exact j_aret C hr (Or.inr ⟨_, rfl⟩) (Nat.le_refl _) (Nat.le_refl _) ⟨rfl, hN⟩ dJ7_copyOf_6403c_39
set_option maxHeartbeats 4000000 in
theorem c_L_copyOf2 (l : Launch) (G : Gx) (er n0 k h : Nat) (f : Int → Option Nat) : Met l yJ7_copyOf_1904c wsJ7_copyOf_1904c ({ frames := 2, cells := 1, slots := 300, locals := 63 } : Room) (cPc G [.ref er, .int (zI (k : Int))] (fun H => ao G er n0 f H ∧ n0 ≤ k ∧ k ≤ 300 ∧ (∀ i : Int, 0 ≤ i → i < n0 → ∀ y : Nat, f i = some y → ∃ vs, ob G y 2 vs H) ∧ H.size = h)) (qmR (fun r H => r = h ∧ ao G h k (cpo f (fun _ => none) n0) H) (fun q : Nat => q = er ∨ h ≤ q)) 1 300 (fun q : Nat => q = er ∨ h ≤ q) := by
  refine Met.ofJ (cc := cJ7_copyOf_1904c) (maxL := 2) (ret := (some (.array (.object "java/lang/Object")))) (lv0 := [(0, .ref er), (1, .int (zI (k : Int)))]) (by decide) rfl (Nat.le_of_ble_eq_true rfl) rfl ?_
  intro p e s m args below meth c C hr hnm hpre
  refine j_aload_n C dJ7_copyOf_1904c_0 rfl ?_
  refine j_iload_n C dJ7_copyOf_1904c_1 rfl ?_
  refine j_aload_n C dJ7_copyOf_1904c_2 rfl ?_
  refine j_getC C (index := 86) hpre.1 (by decide +kernel) (by decide +kernel) (by decide +kernel) (by decide +kernel) (Nat.le_of_ble_eq_true rfl) (Nat.le_of_ble_eq_true rfl) dJ7_copyOf_1904c_3 ?_
  refine j_callmR (jrunS (rest := []) (As := [.ref er, .int (zI (k : Int)), .ref (zM G)]) C (c_L_copyOf3 l G er n0 k h f) gJ7_copyOf_1904c_J7_copyOf_6403c rfl 3 (by decide +kernel) rfl rfl ⟨Nat.le_of_ble_eq_true rfl, Nat.le_of_ble_eq_true rfl⟩ hpre rfl rfl (Nat.le_of_ble_eq_true rfl) ⟨Nat.le_of_ble_eq_true rfl, Nat.le_of_ble_eq_true rfl⟩ dJ7_copyOf_1904c_6) (fun q hq => hq) (fun r6 H1 h6 hF => ?_)
  exact j_aret C hr (Or.inr ⟨_, rfl⟩) (Nat.le_refl _) (Nat.le_refl _) h6 dJ7_copyOf_1904c_9
set_option maxHeartbeats 4000000 in
theorem c_L_grow0 (l : Launch) (G : Gx) (o a h : Nat) (v0 : Value) : Met l yJx4a65c_grow_92f84 wsJx4a65c_grow_92f84 ({ frames := 3, cells := 1, slots := 300, locals := 86 } : Room) (cPc G [.ref a, .int (zI 1)] (fun H => ob G a 0 [v0, .ref (zT G), .int (zI 0)] H ∧ HZ G o H ∧ H.size = h)) (qmR (fun r H => r = h ∧ ob G a 0 [v0, .ref h, .int (zI 0)] H ∧ ao G h 10 (fun _ => none) H) (fun q : Nat => q = a ∨ h ≤ q)) 1 300 (fun q : Nat => q = a ∨ h ≤ q) := by
  refine Met.ofJ (cc := cJx4a65c_grow_92f84) (maxL := 4) (ret := (some (.array (.object "java/lang/Object")))) (lv0 := [(0, .ref a), (1, .int (zI 1))]) (by decide) rfl (Nat.le_of_ble_eq_true rfl) rfl ?_
  intro p e s m args below meth c C hr hnm hpre
  obtain ⟨hO, hZ, hsz⟩ := hpre
  have hwL : ∀ w ∈ u_ws RJx4a65c TJx4a65c 3, w ∈ wsJx4a65c_grow_92f84 := by decide +kernel
  have hlt := ob.lt hO
  refine j_aload_n C dJx4a65c_grow_92f84_0 rfl ?_
  refine j_get (T := TJx4a65c) (N := 3) (fs := _) (v := .ref (zT G)) C hwL hO 1 (by decide) rfl (index := 9) (ref := "java/util/ArrayList") (by decide +kernel) rfl rfl dJx4a65c_grow_92f84_1 ?_
  refine j_alenZ C hZ dJx4a65c_grow_92f84_4 ?_
  refine j_istore_n (lv' := [(0, .ref a), (1, .int (zI 1)), (2, .int (zI 0))]) C dJx4a65c_grow_92f84_5 (by decide) rfl ?_
  refine j_iload_n C dJx4a65c_grow_92f84_6 rfl ?_
  refine j_if_gt (tgt := 20) C dJx4a65c_grow_92f84_7 (by decide) ⟨by decide, by decide⟩ (fun c7 => absurd c7 (by decide)) (fun c7 => ?_)
  refine j_aload_n C dJx4a65c_grow_92f84_10 rfl ?_
  refine j_get (T := TJx4a65c) (N := 3) (fs := _) (v := .ref (zT G)) C hwL hO 1 (by decide) rfl (index := 9) (ref := "java/util/ArrayList") (by decide +kernel) rfl rfl dJx4a65c_grow_92f84_11 ?_
  refine j_getsZ C hZ (index := 39) (by decide +kernel) dJx4a65c_grow_92f84_14 ?_
  refine j_acmp_eq (tgt := 45) C dJx4a65c_grow_92f84_17 (by decide) (fun c17 => ?_) (fun c17 => absurd rfl c17)
  refine j_aload_n C dJx4a65c_grow_92f84_45 rfl ?_
  refine j_bipush C dJx4a65c_grow_92f84_46 (by decide) ?_
  refine j_iload_n C dJx4a65c_grow_92f84_48 rfl ?_
  refine j_mmax C (index := 79) (by decide +kernel) (by decide +kernel) (by decide +kernel) (by decide +kernel) (Nat.le_of_ble_eq_true rfl) (Nat.le_of_ble_eq_true rfl) (Nat.le_of_ble_eq_true rfl) (Nat.le_of_ble_eq_true rfl) ⟨by decide, by decide⟩ ⟨by decide, by decide⟩ dJx4a65c_grow_92f84_49 ?_
  refine j_newO (k := 10) (h := h) (index := 7) C (by decide +kernel) rfl (by decide) hsz (Nat.le_of_ble_eq_true rfl) (Nat.le_of_ble_eq_true rfl) dJx4a65c_grow_92f84_52 (fun H1 hN hW => ?_)
  have hO := obk hO (hW.2 _ (by omega))
  refine j_dup_x1 C dJx4a65c_grow_92f84_55 rfl rfl ?_
  refine j_put (T := TJx4a65c) (N := 3) (fs' := [v0, .ref h, .int (zI 0)]) (ty := .array (.object "java/lang/Object")) C tyJx4a65c tyJx4a65c_ok nmJx4a65c hwL hO 1 (by decide) rfl (index := 9) (ref := "java/util/ArrayList") (by decide +kernel) rfl rfl (by decide +kernel) rfl rfl (Nat.le_of_ble_eq_true rfl) rfl (Or.inl rfl) dJx4a65c_grow_92f84_56 (fun H2 hO hC => ?_)
  exact j_aret C hr (Or.inr ⟨_, rfl⟩) (Nat.le_refl _) (by omega) ⟨rfl, hO, hN.kept (hC.2 _ (by omega))⟩ dJx4a65c_grow_92f84_59
set_option maxHeartbeats 4000000 in
theorem c_L_growN (l : Launch) (G : Gx) (a er cap h : Nat) (v0 : Value) (f : Int → Option Nat) : Met l yJx4a65c_grow_92f84 wsJx4a65c_grow_92f84 ({ frames := 3, cells := 1, slots := 300, locals := 84 } : Room) (cPc G [.ref a, .int (zI ((cap : Int) + 1))] (fun H => ob G a 0 [v0, .ref er, .int (zI (cap : Int))] H ∧ ao G er cap f H ∧ (1 ≤ cap ∧ cap ≤ 161) ∧ a ≠ er ∧ (∀ i : Int, 0 ≤ i → i < cap → ∀ y : Nat, f i = some y → ∃ vs, ob G y 2 vs H) ∧ H.size = h)) (qmR (fun r H => r = h ∧ ob G a 0 [v0, .ref h, .int (zI (cap : Int))] H ∧ ∃ k : Nat, cap < k ∧ k ≤ 242 ∧ ao G h k (cpo f (fun _ => none) cap) H) (fun q : Nat => q = a ∨ q = er ∨ h ≤ q)) 1 300 (fun q : Nat => q = a ∨ q = er ∨ h ≤ q) := by
  refine Met.ofJ (cc := cJx4a65c_grow_92f84) (maxL := 4) (ret := (some (.array (.object "java/lang/Object")))) (lv0 := [(0, .ref a), (1, .int (zI ((cap : Int) + 1)))]) (by decide) rfl (Nat.le_of_ble_eq_true rfl) rfl ?_
  intro p e s m args below meth c C hr hnm hpre
  obtain ⟨hO, hR, hc, hne, hel, hsz⟩ := hpre
  have hwL : ∀ w ∈ u_ws RJx4a65c TJx4a65c 3, w ∈ wsJx4a65c_grow_92f84 := by decide +kernel
  have hlt := ob.lt hO
  refine j_aload_n C dJx4a65c_grow_92f84_0 rfl ?_
  refine j_get (T := TJx4a65c) (N := 3) (fs := _) (v := .ref er) C hwL hO 1 (by decide) rfl (index := 9) (ref := "java/util/ArrayList") (by decide +kernel) rfl rfl dJx4a65c_grow_92f84_1 ?_
  refine j_alenO C hR dJx4a65c_grow_92f84_4 ?_
  refine j_istore_n (lv' := [(0, .ref a), (1, .int (zI ((cap : Int) + 1))), (2, .int (zI (cap : Int)))]) C dJx4a65c_grow_92f84_5 (by decide) rfl ?_
  refine j_iload_n C dJx4a65c_grow_92f84_6 rfl ?_
  refine j_if_gt (tgt := 20) C dJx4a65c_grow_92f84_7 (by decide) ⟨by omega, by omega⟩ (fun c7 => ?_) (fun c7 => absurd c7 (by omega))
  refine j_iload_n C dJx4a65c_grow_92f84_20 rfl ?_
  refine j_iload_n C dJx4a65c_grow_92f84_21 rfl ?_
  refine j_iload_n C dJx4a65c_grow_92f84_22 rfl ?_
  refine j_isub C dJx4a65c_grow_92f84_23 ?_
  refine j_iload_n C dJx4a65c_grow_92f84_24 rfl ?_
  refine j_iconst C dJx4a65c_grow_92f84_25 ?_
  refine j_ishr C dJx4a65c_grow_92f84_26 ⟨by omega, by omega⟩ ⟨by decide, by decide⟩ ?_
  rw [show (cap : Int) + 1 - (cap : Int) = 1 by omega, show (2 : Int) ^ (1 : Int).toNat = 2 from rfl]
  refine j_callI (jrunS (rest := []) (As := [.int (zI (cap : Int)), .int (zI 1), .int (zI ((cap : Int) / 2))]) C (c_L_newLength l G cap 1 ((cap : Int) / 2)) gJx4a65c_grow_92f84_J8_newLength_cabcc rfl 3 (by decide +kernel) rfl rfl ⟨Nat.le_of_ble_eq_true rfl, Nat.le_of_ble_eq_true rfl⟩ ⟨⟨by omega, by omega⟩, ⟨by omega, by omega⟩, ⟨by omega, by omega⟩⟩ rfl rfl (Nat.le_of_ble_eq_true rfl) ⟨Nat.le_of_ble_eq_true rfl, Nat.le_of_ble_eq_true rfl⟩ dJx4a65c_grow_92f84_27) (fun r27 h27 => ?_)
  obtain ⟨k, hk⟩ : ∃ k : Nat, r27 = (k : Int) := ⟨r27.toNat, by rw [h27]; split <;> omega⟩
  have hk2 : cap < k ∧ k ≤ 242 := by
    rw [hk] at h27
    split at h27 <;> omega
  subst hk
  refine j_istore_n (lv' := [(0, .ref a), (1, .int (zI ((cap : Int) + 1))), (2, .int (zI (cap : Int))), (3, .int (zI (k : Int)))]) C dJx4a65c_grow_92f84_30 (by decide) rfl ?_
  refine j_aload_n C dJx4a65c_grow_92f84_31 rfl ?_
  refine j_aload_n C dJx4a65c_grow_92f84_32 rfl ?_
  refine j_get (T := TJx4a65c) (N := 3) (fs := _) (v := .ref er) C hwL hO 1 (by decide) rfl (index := 9) (ref := "java/util/ArrayList") (by decide +kernel) rfl rfl dJx4a65c_grow_92f84_33 ?_
  refine j_iload_n C dJx4a65c_grow_92f84_36 rfl ?_
  refine j_callmR (jrunS (rest := [.ref a]) (As := [.ref er, .int (zI (k : Int))]) C (c_L_copyOf2 l G er cap k h f) gJx4a65c_grow_92f84_J7_copyOf_1904c rfl 2 (by decide +kernel) rfl rfl ⟨Nat.le_of_ble_eq_true rfl, Nat.le_of_ble_eq_true rfl⟩ ⟨hR, by omega, by omega, hel, hsz⟩ rfl rfl (Nat.le_of_ble_eq_true rfl) ⟨Nat.le_of_ble_eq_true rfl, Nat.le_of_ble_eq_true rfl⟩ dJx4a65c_grow_92f84_37) (fun q hq => Or.inr hq) (fun r37 H1 h37 hF => ?_)
  obtain ⟨e37, hN⟩ := h37
  rw [e37]
  have hO := obk hO (hF.2 _ hlt (by show ¬ (a = er ∨ h ≤ a); omega))
  refine j_dup_x1 C dJx4a65c_grow_92f84_40 rfl rfl ?_
  refine j_put (T := TJx4a65c) (N := 3) (fs' := [v0, .ref h, .int (zI (cap : Int))]) (ty := .array (.object "java/lang/Object")) C tyJx4a65c tyJx4a65c_ok nmJx4a65c hwL hO 1 (by decide) rfl (index := 9) (ref := "java/util/ArrayList") (by decide +kernel) rfl rfl (by decide +kernel) rfl rfl (Nat.le_of_ble_eq_true rfl) rfl (Or.inl rfl) dJx4a65c_grow_92f84_41 (fun H2 hO hC => ?_)
  exact j_aret C hr (Or.inr ⟨_, rfl⟩) (Nat.le_refl _) (Nat.le_refl _) ⟨rfl, hO, k, hk2.1, hk2.2, hN.kept (hC.2 _ (by omega))⟩ dJx4a65c_grow_92f84_44
set_option maxHeartbeats 4000000 in
theorem c_L_gr0 (l : Launch) (G : Gx) (o a h : Nat) (v0 : Value) : Met l yJx4a65c_grow_d5877 wsJx4a65c_grow_d5877 ({ frames := 4, cells := 1, slots := 300, locals := 109 } : Room) (cPc G [.ref a] (fun H => ob G a 0 [v0, .ref (zT G), .int (zI 0)] H ∧ HZ G o H ∧ H.size = h)) (qmR (fun r H => r = h ∧ ob G a 0 [v0, .ref h, .int (zI 0)] H ∧ ao G h 10 (fun _ => none) H) (fun q : Nat => q = a ∨ h ≤ q)) 1 300 (fun q : Nat => q = a ∨ h ≤ q) := by
  refine Met.ofJ (cc := cJx4a65c_grow_d5877) (maxL := 1) (ret := (some (.array (.object "java/lang/Object")))) (lv0 := [(0, .ref a)]) (by decide) rfl (Nat.le_of_ble_eq_true rfl) rfl ?_
  intro p e s m args below meth c C hr hnm hpre
  have hwL : ∀ w ∈ u_ws RJx4a65c TJx4a65c 3, w ∈ wsJx4a65c_grow_d5877 := by decide +kernel
  refine j_aload_n C dJx4a65c_grow_d5877_0 rfl ?_
  refine j_aload_n C dJx4a65c_grow_d5877_1 rfl ?_
  refine j_get (T := TJx4a65c) (N := 3) (fs := _) (v := .int (zI 0)) C hwL hpre.1 2 (by decide) rfl (index := 48) (ref := "java/util/ArrayList") (by decide +kernel) rfl rfl dJx4a65c_grow_d5877_2 ?_
  refine j_iconst C dJx4a65c_grow_d5877_5 ?_
  refine j_iadd C dJx4a65c_grow_d5877_6 ?_
  refine j_callmR (jrunV (rest := []) (As := [.int (zI 1)]) C (c_L_grow0 l G o a h v0) gJx4a65c_grow_d5877_Jx4a65c_grow_92f84 rfl 1 (by decide +kernel) rfl rfl ⟨Nat.le_of_ble_eq_true rfl, Nat.le_of_ble_eq_true rfl⟩ hpre.1 rfl hpre rfl rfl (Nat.le_of_ble_eq_true rfl) ⟨Nat.le_of_ble_eq_true rfl, Nat.le_of_ble_eq_true rfl⟩ dJx4a65c_grow_d5877_7) (fun q hq => hq) (fun r7 H1 h7 hF => ?_)
  exact j_aret C hr (Or.inr ⟨_, rfl⟩) (Nat.le_refl _) (Nat.le_refl _) h7 dJx4a65c_grow_d5877_10
set_option maxHeartbeats 4000000 in
theorem c_L_grN (l : Launch) (G : Gx) (a er cap h : Nat) (v0 : Value) (f : Int → Option Nat) : Met l yJx4a65c_grow_d5877 wsJx4a65c_grow_d5877 ({ frames := 4, cells := 1, slots := 300, locals := 107 } : Room) (cPc G [.ref a] (fun H => ob G a 0 [v0, .ref er, .int (zI (cap : Int))] H ∧ ao G er cap f H ∧ (1 ≤ cap ∧ cap ≤ 161) ∧ a ≠ er ∧ (∀ i : Int, 0 ≤ i → i < cap → ∀ y : Nat, f i = some y → ∃ vs, ob G y 2 vs H) ∧ H.size = h)) (qmR (fun r H => r = h ∧ ob G a 0 [v0, .ref h, .int (zI (cap : Int))] H ∧ ∃ k : Nat, cap < k ∧ k ≤ 242 ∧ ao G h k (cpo f (fun _ => none) cap) H) (fun q : Nat => q = a ∨ q = er ∨ h ≤ q)) 1 300 (fun q : Nat => q = a ∨ q = er ∨ h ≤ q) := by
  refine Met.ofJ (cc := cJx4a65c_grow_d5877) (maxL := 1) (ret := (some (.array (.object "java/lang/Object")))) (lv0 := [(0, .ref a)]) (by decide) rfl (Nat.le_of_ble_eq_true rfl) rfl ?_
  intro p e s m args below meth c C hr hnm hpre
  have hwL : ∀ w ∈ u_ws RJx4a65c TJx4a65c 3, w ∈ wsJx4a65c_grow_d5877 := by decide +kernel
  refine j_aload_n C dJx4a65c_grow_d5877_0 rfl ?_
  refine j_aload_n C dJx4a65c_grow_d5877_1 rfl ?_
  refine j_get (T := TJx4a65c) (N := 3) (fs := _) (v := .int (zI (cap : Int))) C hwL hpre.1 2 (by decide) rfl (index := 48) (ref := "java/util/ArrayList") (by decide +kernel) rfl rfl dJx4a65c_grow_d5877_2 ?_
  refine j_iconst C dJx4a65c_grow_d5877_5 ?_
  refine j_iadd C dJx4a65c_grow_d5877_6 ?_
  refine j_callmR (jrunV (rest := []) (As := [.int (zI ((cap : Int) + 1))]) C (c_L_growN l G a er cap h v0 f) gJx4a65c_grow_d5877_Jx4a65c_grow_92f84 rfl 1 (by decide +kernel) rfl rfl ⟨Nat.le_of_ble_eq_true rfl, Nat.le_of_ble_eq_true rfl⟩ hpre.1 rfl hpre rfl rfl (Nat.le_of_ble_eq_true rfl) ⟨Nat.le_of_ble_eq_true rfl, Nat.le_of_ble_eq_true rfl⟩ dJx4a65c_grow_d5877_7) (fun q hq => hq) (fun r7 H1 h7 hF => ?_)
  exact j_aret C hr (Or.inr ⟨_, rfl⟩) (Nat.le_refl _) (Nat.le_refl _) h7 dJx4a65c_grow_d5877_10
set_option maxHeartbeats 4000000 in
theorem c_L_put0 (l : Launch) (G : Gx) (o a h q : Nat) (v0 : Value) (vs : List Value) : Met l yJx4a65c_add_72be8 wsJx4a65c_add_72be8 ({ frames := 5, cells := 1, slots := 300, locals := 129 } : Room) (cPc G [.ref a, .ref q, .ref (zT G), .int (zI 0)] (fun H => ob G a 0 [v0, .ref (zT G), .int (zI 0)] H ∧ HZ G o H ∧ H.size = h ∧ ob G q 2 vs H ∧ q ≠ a)) (qmV (fun H => ob G a 0 [v0, .ref h, .int (zI 1)] H ∧ ao G h 10 (iup (fun _ => none) 0 (some q)) H) (fun q : Nat => q = a ∨ h ≤ q)) 1 300 (fun q : Nat => q = a ∨ h ≤ q) := by
  refine Met.ofJ (cc := cJx4a65c_add_72be8) (maxL := 4) (ret := none) (lv0 := [(0, .ref a), (1, .ref q), (2, .ref (zT G)), (3, .int (zI 0))]) (by decide) rfl (Nat.le_of_ble_eq_true rfl) rfl ?_
  intro p e s m args below meth c C hr hnm hpre
  obtain ⟨hO, hZ, hsz, hQ, hqa⟩ := hpre
  have hwL : ∀ w ∈ u_ws RJx4a65c TJx4a65c 3, w ∈ wsJx4a65c_add_72be8 := by decide +kernel
  have hlt := ob.lt hO
  have hltq := ob.lt hQ
  refine j_iload_n C dJx4a65c_add_72be8_0 rfl ?_
  refine j_aload_n C dJx4a65c_add_72be8_1 rfl ?_
  refine j_alenZ C hZ dJx4a65c_add_72be8_2 ?_
  refine j_icmp_ne (tgt := 11) C dJx4a65c_add_72be8_3 (by decide) ⟨by decide, by decide⟩ ⟨by decide, by decide⟩ (fun c3 => absurd rfl c3) (fun c3 => ?_)
  refine j_aload_n C dJx4a65c_add_72be8_6 rfl ?_
  refine j_callmR (jrunV (rest := []) (As := []) C (c_L_gr0 l G o a h v0) gJx4a65c_add_72be8_Jx4a65c_grow_d5877 rfl 0 (by decide +kernel) rfl rfl ⟨Nat.le_of_ble_eq_true rfl, Nat.le_of_ble_eq_true rfl⟩ hO rfl ⟨hO, hZ, hsz⟩ rfl rfl (Nat.le_of_ble_eq_true rfl) ⟨Nat.le_of_ble_eq_true rfl, Nat.le_of_ble_eq_true rfl⟩ dJx4a65c_add_72be8_7) (fun q hq => hq) (fun r7 H1 h7 hF => ?_)
  obtain ⟨e7, hO, hN⟩ := h7
  rw [e7]
  have hQ := obk hQ (hF.2 _ hltq (by show ¬ (q = a ∨ h ≤ q); omega))
  refine j_astore_n (lv' := [(0, .ref a), (1, .ref q), (2, .ref h), (3, .int (zI 0))]) C dJx4a65c_add_72be8_10 (by decide) rfl ?_
  refine j_aload_n C dJx4a65c_add_72be8_11 rfl ?_
  refine j_iload_n C dJx4a65c_add_72be8_12 rfl ?_
  refine j_aload_n C dJx4a65c_add_72be8_13 rfl ?_
  refine j_aastO C hN hQ ⟨by decide, by decide⟩ (Or.inr (Nat.le_refl _)) dJx4a65c_add_72be8_14 (fun H2 hN hC => ?_)
  have hO := obk hO (hC.2 _ (by omega))
  refine j_aload_n C dJx4a65c_add_72be8_15 rfl ?_
  refine j_iload_n C dJx4a65c_add_72be8_16 rfl ?_
  refine j_iconst C dJx4a65c_add_72be8_17 ?_
  refine j_iadd C dJx4a65c_add_72be8_18 ?_
  refine j_put (T := TJx4a65c) (N := 3) (fs' := [v0, .ref h, .int (zI (0 + 1))]) (ty := .int) C tyJx4a65c tyJx4a65c_ok nmJx4a65c hwL hO 2 (by decide) rfl (index := 48) (ref := "java/util/ArrayList") (by decide +kernel) rfl rfl (by decide +kernel) rfl rfl (Nat.le_of_ble_eq_true rfl) rfl (Or.inl rfl) dJx4a65c_add_72be8_19 (fun H3 hO hC => ?_)
  exact j_vret C hr (Nat.le_refl _) (Nat.le_refl _) ⟨hO, hN.kept (hC.2 _ (by omega))⟩ dJx4a65c_add_72be8_22
set_option maxHeartbeats 4000000 in
theorem c_L_putN (l : Launch) (G : Gx) (a er cap h q : Nat) (v0 : Value) (n : Int) (f : Int → Option Nat) (vs : List Value) : Met l yJx4a65c_add_72be8 wsJx4a65c_add_72be8 ({ frames := 5, cells := 1, slots := 300, locals := 127 } : Room) (cPc G [.ref a, .ref q, .ref er, .int (zI n)] (fun H => ob G a 0 [v0, .ref er, .int (zI n)] H ∧ ao G er cap f H ∧ (1 ≤ n ∧ n ≤ cap ∧ n ≤ 161 ∧ cap ≤ 242) ∧ a ≠ er ∧ (∀ i : Int, 0 ≤ i → i < n → ∀ y : Nat, f i = some y → ∃ vs, ob G y 2 vs H) ∧ H.size = h ∧ ob G q 2 vs H ∧ q ≠ a ∧ q ≠ er)) (qmV (fun H => ∃ (er2 k : Nat) (f2 : Int → Option Nat), ob G a 0 [v0, .ref er2, .int (zI (n + 1))] H ∧ ao G er2 k f2 H ∧ n + 1 ≤ k ∧ k ≤ 242 ∧ (er2 = er ∨ h ≤ er2) ∧ f2 n = some q ∧ (∀ j : Int, 0 ≤ j → j < n → f2 j = f j)) (fun q : Nat => q = a ∨ q = er ∨ h ≤ q)) 1 300 (fun q : Nat => q = a ∨ q = er ∨ h ≤ q) := by
  refine Met.ofJ (cc := cJx4a65c_add_72be8) (maxL := 4) (ret := none) (lv0 := [(0, .ref a), (1, .ref q), (2, .ref er), (3, .int (zI n))]) (by decide) rfl (Nat.le_of_ble_eq_true rfl) rfl ?_
  intro p e s m args below meth c C hr hnm hpre
  obtain ⟨hO, hR, hn, hne, hel, hsz, hQ, hqa, hqe⟩ := hpre
  have hwL : ∀ w ∈ u_ws RJx4a65c TJx4a65c 3, w ∈ wsJx4a65c_add_72be8 := by decide +kernel
  have hlt := ob.lt hO
  have hltq := ob.lt hQ
  have hltr := hR.lt
  refine j_iload_n C dJx4a65c_add_72be8_0 rfl ?_
  refine j_aload_n C dJx4a65c_add_72be8_1 rfl ?_
  refine j_alenO C hR dJx4a65c_add_72be8_2 ?_
  refine j_icmp_ne (tgt := 11) C dJx4a65c_add_72be8_3 (by decide) ⟨by omega, by omega⟩ ⟨by omega, by omega⟩ (fun c3 => ?_) (fun c3 => ?_)
  · refine JJ.widen (ca' := 1) (sl' := 300) (by omega) (by omega) ?_
    refine j_aload_n C dJx4a65c_add_72be8_11 rfl ?_
    refine j_iload_n C dJx4a65c_add_72be8_12 rfl ?_
    refine j_aload_n C dJx4a65c_add_72be8_13 rfl ?_
    refine j_aastO C hR hQ ⟨by omega, by omega⟩ (Or.inr (Or.inl rfl)) dJx4a65c_add_72be8_14 (fun H2 hN hC => ?_)
    have hO := obk hO (hC.2 _ hne)
    refine j_aload_n C dJx4a65c_add_72be8_15 rfl ?_
    refine j_iload_n C dJx4a65c_add_72be8_16 rfl ?_
    refine j_iconst C dJx4a65c_add_72be8_17 ?_
    refine j_iadd C dJx4a65c_add_72be8_18 ?_
    refine j_put (T := TJx4a65c) (N := 3) (fs' := [v0, .ref er, .int (zI (n + 1))]) (ty := .int) C tyJx4a65c tyJx4a65c_ok nmJx4a65c hwL hO 2 (by decide) rfl (index := 48) (ref := "java/util/ArrayList") (by decide +kernel) rfl rfl (by decide +kernel) rfl rfl (Nat.le_of_ble_eq_true rfl) rfl (Or.inl rfl) dJx4a65c_add_72be8_19 (fun H3 hO hC => ?_)
    exact j_vret C hr (Nat.le_refl _) (Nat.le_refl _) ⟨er, cap, _, hO, hN.kept (hC.2 _ (Ne.symm hne)), by omega, by omega, Or.inl rfl, iup_s, fun j j0 j1 => iup_n (by omega)⟩ dJx4a65c_add_72be8_22
  · subst c3
    refine j_aload_n C dJx4a65c_add_72be8_6 rfl ?_
    refine j_callmR (jrunV (rest := []) (As := []) C (c_L_grN l G a er cap h v0 f) gJx4a65c_add_72be8_Jx4a65c_grow_d5877 rfl 0 (by decide +kernel) rfl rfl ⟨Nat.le_of_ble_eq_true rfl, Nat.le_of_ble_eq_true rfl⟩ hO rfl ⟨hO, hR, ⟨by omega, by omega⟩, hne, hel, hsz⟩ rfl rfl (Nat.le_of_ble_eq_true rfl) ⟨Nat.le_of_ble_eq_true rfl, Nat.le_of_ble_eq_true rfl⟩ dJx4a65c_add_72be8_7) (fun q hq => hq) (fun r7 H1 h7 hF => ?_)
    obtain ⟨e7, hO, k, hk1, hk2, hN⟩ := h7
    rw [e7]
    have hQ := obk hQ (hF.2 _ hltq (by show ¬ (q = a ∨ q = er ∨ h ≤ q); omega))
    refine j_astore_n (lv' := [(0, .ref a), (1, .ref q), (2, .ref h), (3, .int (zI (cap : Int)))]) C dJx4a65c_add_72be8_10 (by decide) rfl ?_
    refine j_aload_n C dJx4a65c_add_72be8_11 rfl ?_
    refine j_iload_n C dJx4a65c_add_72be8_12 rfl ?_
    refine j_aload_n C dJx4a65c_add_72be8_13 rfl ?_
    refine j_aastO C hN hQ ⟨by omega, by omega⟩ (Or.inr (Or.inr (Nat.le_refl _))) dJx4a65c_add_72be8_14 (fun H2 hN hC => ?_)
    have hO := obk hO (hC.2 _ (by omega))
    refine j_aload_n C dJx4a65c_add_72be8_15 rfl ?_
    refine j_iload_n C dJx4a65c_add_72be8_16 rfl ?_
    refine j_iconst C dJx4a65c_add_72be8_17 ?_
    refine j_iadd C dJx4a65c_add_72be8_18 ?_
    refine j_put (T := TJx4a65c) (N := 3) (fs' := [v0, .ref h, .int (zI ((cap : Int) + 1))]) (ty := .int) C tyJx4a65c tyJx4a65c_ok nmJx4a65c hwL hO 2 (by decide) rfl (index := 48) (ref := "java/util/ArrayList") (by decide +kernel) rfl rfl (by decide +kernel) rfl rfl (Nat.le_of_ble_eq_true rfl) rfl (Or.inl rfl) dJx4a65c_add_72be8_19 (fun H3 hO hC => ?_)
    exact j_vret C hr (Nat.le_refl _) (Nat.le_refl _) ⟨h, k, _, hO, hN.kept (hC.2 _ (by omega)), by omega, by omega, Or.inr (Nat.le_refl _), iup_s, fun j j0 j1 => (iup_n (by omega)).trans (if_pos ⟨j0, j1⟩)⟩ dJx4a65c_add_72be8_22
set_option maxHeartbeats 4000000 in
theorem c_L_add0 (l : Launch) (G : Gx) (o a h q : Nat) (mc : Int) (vs : List Value) : Met l yJx4a65c_add_9ea2d wsJx4a65c_add_9ea2d ({ frames := 6, cells := 1, slots := 300, locals := 152 } : Room) (cPc G [.ref a, .ref q] (fun H => ob G a 0 [.int (zI mc), .ref (zT G), .int (zI 0)] H ∧ HZ G o H ∧ H.size = h ∧ ob G q 2 vs H ∧ q ≠ a ∧ o ≤ a)) (qmI (fun r H => r = 1 ∧ ob G a 0 [.int (zI (mc + 1)), .ref h, .int (zI 1)] H ∧ ao G h 10 (iup (fun _ => none) 0 (some q)) H) (fun q : Nat => q = a ∨ h ≤ q)) 1 300 (fun q : Nat => q = a ∨ h ≤ q) := by
  refine Met.ofJ (cc := cJx4a65c_add_9ea2d) (maxL := 2) (ret := (some .boolean)) (lv0 := [(0, .ref a), (1, .ref q)]) (by decide) rfl (Nat.le_of_ble_eq_true rfl) rfl ?_
  intro p e s m args below meth c C hr hnm hpre
  obtain ⟨hO, hZ, hsz, hQ, hqa, hoa⟩ := hpre
  have hwL : ∀ w ∈ u_ws RJx4a65c TJx4a65c 3, w ∈ wsJx4a65c_add_9ea2d := by decide +kernel
  have hlt := ob.lt hO
  have hltq := ob.lt hQ
  
  refine j_aload_n C dJx4a65c_add_9ea2d_0 rfl ?_
  refine j_dup C dJx4a65c_add_9ea2d_1 rfl ?_
  refine j_getS (T := TJx4a65c) (N := 3) (fs := _) (v := .int (zI mc)) C hwL hO 0 (by decide) rfl (index := 63) (ref := "java/util/ArrayList") (by decide +kernel) (by decide +kernel) rfl dJx4a65c_add_9ea2d_2 ?_
  refine j_iconst C dJx4a65c_add_9ea2d_5 ?_
  refine j_iadd C dJx4a65c_add_9ea2d_6 ?_
  refine j_putS (T := TJx4a65c) (N := 3) (fs' := [.int (zI (mc + 1)), .ref (zT G), .int (zI 0)]) (ty := .int) C tyJx4a65c tyJx4a65c_ok nmJx4a65c hwL hO 0 (by decide) rfl (index := 63) (ref := "java/util/ArrayList") (by decide +kernel) (by decide +kernel) rfl (by decide +kernel) rfl rfl (Nat.le_of_ble_eq_true rfl) rfl (Or.inl rfl) dJx4a65c_add_9ea2d_7 (fun H1 hO hC => ?_)
  have hsz : H1.size = h := by rw [hC.1]; exact hsz
  have hZ := hZ.chg hC hoa
  have hQ := obk hQ (hC.2 _ hqa)
  refine j_aload_n C dJx4a65c_add_9ea2d_10 rfl ?_
  refine j_aload_n C dJx4a65c_add_9ea2d_11 rfl ?_
  refine j_aload_n C dJx4a65c_add_9ea2d_12 rfl ?_
  refine j_get (T := TJx4a65c) (N := 3) (fs := _) (v := .ref (zT G)) C hwL hO 1 (by decide) rfl (index := 9) (ref := "java/util/ArrayList") (by decide +kernel) rfl rfl dJx4a65c_add_9ea2d_13 ?_
  refine j_aload_n C dJx4a65c_add_9ea2d_16 rfl ?_
  refine j_get (T := TJx4a65c) (N := 3) (fs := _) (v := .int (zI 0)) C hwL hO 2 (by decide) rfl (index := 48) (ref := "java/util/ArrayList") (by decide +kernel) rfl rfl dJx4a65c_add_9ea2d_17 ?_
  refine j_callmV (jrunV (rest := []) (As := [.ref q, .ref (zT G), .int (zI 0)]) C (c_L_put0 l G o a h q (.int (zI (mc + 1))) vs) gJx4a65c_add_9ea2d_Jx4a65c_add_72be8 rfl 3 (by decide +kernel) rfl rfl ⟨Nat.le_of_ble_eq_true rfl, Nat.le_of_ble_eq_true rfl⟩ hO rfl ⟨hO, hZ, hsz, hQ, hqa⟩ rfl rfl (Nat.le_of_ble_eq_true rfl) ⟨Nat.le_of_ble_eq_true rfl, Nat.le_of_ble_eq_true rfl⟩ dJx4a65c_add_9ea2d_20) (fun q hq => hq) (fun H2 h20 hF => ?_)
  refine j_iconst C dJx4a65c_add_9ea2d_23 ?_
  exact j_zret C hr (Nat.le_refl _) (Nat.le_refl _) (Or.inr rfl) ⟨rfl, h20⟩ dJx4a65c_add_9ea2d_24
set_option maxHeartbeats 4000000 in
theorem c_L_addN (l : Launch) (G : Gx) (a er cap h q : Nat) (mc : Int) (n : Int) (f : Int → Option Nat) (vs : List Value) : Met l yJx4a65c_add_9ea2d wsJx4a65c_add_9ea2d ({ frames := 6, cells := 1, slots := 300, locals := 150 } : Room) (cPc G [.ref a, .ref q] (fun H => ob G a 0 [.int (zI mc), .ref er, .int (zI n)] H ∧ ao G er cap f H ∧ (1 ≤ n ∧ n ≤ cap ∧ n ≤ 161 ∧ cap ≤ 242) ∧ a ≠ er ∧ (∀ i : Int, 0 ≤ i → i < n → ∀ y : Nat, f i = some y → y ≠ a ∧ ∃ vs, ob G y 2 vs H) ∧ H.size = h ∧ ob G q 2 vs H ∧ q ≠ a ∧ q ≠ er)) (qmI (fun r H => r = 1 ∧ ∃ (er2 k : Nat) (f2 : Int → Option Nat), ob G a 0 [.int (zI (mc + 1)), .ref er2, .int (zI (n + 1))] H ∧ ao G er2 k f2 H ∧ n + 1 ≤ k ∧ k ≤ 242 ∧ (er2 = er ∨ h ≤ er2) ∧ f2 n = some q ∧ (∀ j : Int, 0 ≤ j → j < n → f2 j = f j)) (fun q : Nat => q = a ∨ q = er ∨ h ≤ q)) 1 300 (fun q : Nat => q = a ∨ q = er ∨ h ≤ q) := by
  refine Met.ofJ (cc := cJx4a65c_add_9ea2d) (maxL := 2) (ret := (some .boolean)) (lv0 := [(0, .ref a), (1, .ref q)]) (by decide) rfl (Nat.le_of_ble_eq_true rfl) rfl ?_
  intro p e s m args below meth c C hr hnm hpre
  obtain ⟨hO, hR, hn, hne, hel, hsz, hQ, hqa, hqe⟩ := hpre
  have hwL : ∀ w ∈ u_ws RJx4a65c TJx4a65c 3, w ∈ wsJx4a65c_add_9ea2d := by decide +kernel
  have hlt := ob.lt hO
  have hltq := ob.lt hQ
  
  refine j_aload_n C dJx4a65c_add_9ea2d_0 rfl ?_
  refine j_dup C dJx4a65c_add_9ea2d_1 rfl ?_
  refine j_getS (T := TJx4a65c) (N := 3) (fs := _) (v := .int (zI mc)) C hwL hO 0 (by decide) rfl (index := 63) (ref := "java/util/ArrayList") (by decide +kernel) (by decide +kernel) rfl dJx4a65c_add_9ea2d_2 ?_
  refine j_iconst C dJx4a65c_add_9ea2d_5 ?_
  refine j_iadd C dJx4a65c_add_9ea2d_6 ?_
  refine j_putS (T := TJx4a65c) (N := 3) (fs' := [.int (zI (mc + 1)), .ref er, .int (zI n)]) (ty := .int) C tyJx4a65c tyJx4a65c_ok nmJx4a65c hwL hO 0 (by decide) rfl (index := 63) (ref := "java/util/ArrayList") (by decide +kernel) (by decide +kernel) rfl (by decide +kernel) rfl rfl (Nat.le_of_ble_eq_true rfl) rfl (Or.inl rfl) dJx4a65c_add_9ea2d_7 (fun H1 hO hC => ?_)
  have hsz : H1.size = h := by rw [hC.1]; exact hsz
  have hR := hR.kept (hC.2 _ (Ne.symm hne))
  have hQ := obk hQ (hC.2 _ hqa)
  have hel : ∀ i : Int, 0 ≤ i → i < n → ∀ y : Nat, f i = some y → ∃ vs, ob G y 2 vs H1 := fun i i0 i1 y hy => by
    obtain ⟨hya, vs, hv⟩ := hel i i0 i1 y hy
    exact ⟨vs, obk hv (hC.2 _ hya)⟩
  refine j_aload_n C dJx4a65c_add_9ea2d_10 rfl ?_
  refine j_aload_n C dJx4a65c_add_9ea2d_11 rfl ?_
  refine j_aload_n C dJx4a65c_add_9ea2d_12 rfl ?_
  refine j_get (T := TJx4a65c) (N := 3) (fs := _) (v := .ref er) C hwL hO 1 (by decide) rfl (index := 9) (ref := "java/util/ArrayList") (by decide +kernel) rfl rfl dJx4a65c_add_9ea2d_13 ?_
  refine j_aload_n C dJx4a65c_add_9ea2d_16 rfl ?_
  refine j_get (T := TJx4a65c) (N := 3) (fs := _) (v := .int (zI n)) C hwL hO 2 (by decide) rfl (index := 48) (ref := "java/util/ArrayList") (by decide +kernel) rfl rfl dJx4a65c_add_9ea2d_17 ?_
  refine j_callmV (jrunV (rest := []) (As := [.ref q, .ref er, .int (zI n)]) C (c_L_putN l G a er cap h q (.int (zI (mc + 1))) n f vs) gJx4a65c_add_9ea2d_Jx4a65c_add_72be8 rfl 3 (by decide +kernel) rfl rfl ⟨Nat.le_of_ble_eq_true rfl, Nat.le_of_ble_eq_true rfl⟩ hO rfl ⟨hO, hR, hn, hne, hel, hsz, hQ, hqa, hqe⟩ rfl rfl (Nat.le_of_ble_eq_true rfl) ⟨Nat.le_of_ble_eq_true rfl, Nat.le_of_ble_eq_true rfl⟩ dJx4a65c_add_9ea2d_20) (fun q hq => hq) (fun H2 h20 hF => ?_)
  refine j_iconst C dJx4a65c_add_9ea2d_23 ?_
  exact j_zret C hr (Nat.le_refl _) (Nat.le_refl _) (Or.inr rfl) ⟨rfl, h20⟩ dJx4a65c_add_9ea2d_24
set_option maxHeartbeats 4000000 in
theorem c_L_init1 (l : Launch) (G : Gx) (a : Nat) : Met l yJxa1e45_init_da8c8 wsJxa1e45_init_da8c8 ({ frames := 1, cells := 0, slots := 0, locals := 12 } : Room) (cPc G [.ref a] (fun H => True)) (qmV (fun _ => True) (fun _ => False)) 0 0 (fun _ => False) := by
  refine Met.ofJ (cc := cJxa1e45_init_da8c8) (maxL := 1) (ret := none) (lv0 := [(0, .ref a)]) (by decide) rfl (Nat.le_of_ble_eq_true rfl) rfl ?_
  intro p e s m args below meth c C hr hnm hpre
  refine j_aload_n C dJxa1e45_init_da8c8_0 rfl ?_
  refine j_objinit C (idx := 1) (by decide +kernel) (by decide +kernel) (by decide +kernel) (Nat.le_of_ble_eq_true rfl) (Nat.le_of_ble_eq_true rfl) dJxa1e45_init_da8c8_1 ?_
  exact j_vret C hr (Nat.le_refl _) (Nat.le_refl _) trivial dJxa1e45_init_da8c8_4
set_option maxHeartbeats 4000000 in
theorem c_L_init2 (l : Launch) (G : Gx) (a : Nat) (v1 v2 : Value) : Met l yJxc12de_init_da8c8 wsJxc12de_init_da8c8 ({ frames := 2, cells := 0, slots := 0, locals := 32 } : Room) (cPc G [.ref a] (fun H => ob G a 0 [.int (zI 0), v1, v2] H)) (qmV (fun H => ob G a 0 [.int (zI 0), v1, v2] H) (fun q : Nat => q = a)) 0 0 (fun q : Nat => q = a) := by
  refine Met.ofJ (cc := cJxc12de_init_da8c8) (maxL := 1) (ret := none) (lv0 := [(0, .ref a)]) (by decide) rfl (Nat.le_of_ble_eq_true rfl) rfl ?_
  intro p e s m args below meth c C hr hnm hpre
  have hwL : ∀ w ∈ u_ws RJx4a65c TJx4a65c 3, w ∈ wsJxc12de_init_da8c8 := by decide +kernel
  have hlt := ob.lt hpre
  refine j_aload_n C dJxc12de_init_da8c8_0 rfl ?_
  refine j_callmV (jrunI (rest := []) (As := []) C (c_L_init1 l G a) gJxc12de_init_da8c8_Jxa1e45_init_da8c8 rfl 0 (by decide +kernel) (by decide +kernel) (by decide +kernel) rfl (by decide +kernel) rfl rfl ⟨Nat.le_of_ble_eq_true rfl, Nat.le_of_ble_eq_true rfl⟩ trivial rfl rfl (Nat.le_of_ble_eq_true rfl) ⟨Nat.le_of_ble_eq_true rfl, Nat.le_of_ble_eq_true rfl⟩ dJxc12de_init_da8c8_1) (fun q hq => False.elim hq) (fun H1 h1 hF => ?_)
  have hO := obk hpre (hF.2 _ hlt (fun z => z))
  refine j_aload_n C dJxc12de_init_da8c8_4 rfl ?_
  refine j_iconst C dJxc12de_init_da8c8_5 ?_
  refine j_put (T := TJx4a65c) (N := 3) (fs' := [.int (zI 0), v1, v2]) (ty := .int) C tyJx4a65c tyJx4a65c_ok nmJx4a65c hwL hO 0 (by decide) rfl (index := 7) (ref := "java/util/AbstractList") (by decide +kernel) rfl rfl (by decide +kernel) rfl rfl (Nat.le_of_ble_eq_true rfl) rfl rfl dJxc12de_init_da8c8_6 (fun H2 hO hC => ?_)
  exact j_vret C hr (Nat.le_refl _) (Nat.le_refl _) hO dJxc12de_init_da8c8_9
set_option maxHeartbeats 4000000 in
theorem c_L_init (l : Launch) (G : Gx) (o a : Nat) (v1 v2 : Value) : Met l yJx4a65c_init_da8c8 wsJx4a65c_init_da8c8 ({ frames := 3, cells := 0, slots := 0, locals := 52 } : Room) (cPc G [.ref a] (fun H => ob G a 0 [.int (zI 0), v1, .int (zI 0)] H ∧ HZ G o H ∧ o ≤ a)) (qmV (fun H => ob G a 0 [.int (zI 0), .ref (zT G), .int (zI 0)] H) (fun q : Nat => q = a)) 0 0 (fun q : Nat => q = a) := by
  refine Met.ofJ (cc := cJx4a65c_init_da8c8) (maxL := 1) (ret := none) (lv0 := [(0, .ref a)]) (by decide) rfl (Nat.le_of_ble_eq_true rfl) rfl ?_
  intro p e s m args below meth c C hr hnm hpre
  obtain ⟨hO, hZ, hoa⟩ := hpre
  have hwL : ∀ w ∈ u_ws RJx4a65c TJx4a65c 3, w ∈ wsJx4a65c_init_da8c8 := by decide +kernel
  have hlt := ob.lt hO
  refine j_aload_n C dJx4a65c_init_da8c8_0 rfl ?_
  refine j_callmV (jrunI (rest := []) (As := []) C (c_L_init2 l G a v1 (.int (zI 0))) gJx4a65c_init_da8c8_Jxc12de_init_da8c8 rfl 0 (by decide +kernel) (by decide +kernel) (by decide +kernel) rfl (by decide +kernel) rfl rfl ⟨Nat.le_of_ble_eq_true rfl, Nat.le_of_ble_eq_true rfl⟩ hO rfl rfl (Nat.le_of_ble_eq_true rfl) ⟨Nat.le_of_ble_eq_true rfl, Nat.le_of_ble_eq_true rfl⟩ dJx4a65c_init_da8c8_1) (fun q hq => hq) (fun H1 hO hF => ?_)
  have hZ := hZ.frm hF (fun q hq => by have : q = a := hq; omega)
  refine j_aload_n C dJx4a65c_init_da8c8_4 rfl ?_
  refine j_getsZ C hZ (index := 39) (by decide +kernel) dJx4a65c_init_da8c8_5 ?_
  refine j_put (T := TJx4a65c) (N := 3) (fs' := [.int (zI 0), .ref (zT G), .int (zI 0)]) (ty := .array (.object "java/lang/Object")) C tyJx4a65c tyJx4a65c_ok nmJx4a65c hwL hO 1 (by decide) rfl (index := 9) (ref := "java/util/ArrayList") (by decide +kernel) rfl rfl (by decide +kernel) rfl rfl (Nat.le_of_ble_eq_true rfl) rfl rfl dJx4a65c_init_da8c8_8 (fun H2 hO hC => ?_)
  exact j_vret C hr (Nat.le_refl _) (Nat.le_refl _) hO dJx4a65c_init_da8c8_11
