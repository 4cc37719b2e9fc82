set_option maxHeartbeats 8000000 in
theorem whole_start {p : Program} {e : Env} {s : State} {m : MethodId} {below : List Frame} {meth : Method} {c : Code} (l : Launch) (hflags : l.flags = flags0) {b L : Nat} {xs : Nat → Int32} (hL : L ≤ 2560) (C0 : lw_At p s m meth c b L xs) : W p l e room_1 s m #[Value.ref b] below meth c s.heap [] 0 0 (lw_Z below #[Value.ref b] s) (entryFrame m ([Value.ref b] : List Value).toArray 4) := by
  obtain ⟨hx, hb, hr, hml, hown, hts, hX, hbl, hlocks, hgv⟩ := C0
  have hgs := flat_of_before _ hgv
  obtain ⟨c0, iS0, hK0⟩ := u_known (C := RJx4a65c) (T := TJx4a65c) (N := 3) (n := 3) hts in_Jx4a65c (hts (.instantiable RJx4a65c 3) (List.mem_of_getElem? (i := 295) (by decide +kernel)))
  obtain ⟨c1, iS1, hK1⟩ := u_known (C := RX0) (T := TX0) (N := 2) (n := 2) hts in_X0 (hts (.instantiable RX0 2) (List.mem_of_getElem? (i := 289) (by decide +kernel)))
  obtain ⟨c2, iS2, hK2⟩ := u_known (C := RX1) (T := TX1) (N := 5) (n := 5) hts in_X1 (hts (.instantiable RX1 5) (List.mem_of_getElem? (i := 59) (by decide +kernel)))
  obtain ⟨c3, iS3, hK3⟩ := u_known (C := RX2) (T := TX2) (N := 8) (n := 8) hts in_X2 (hts (.instantiable RX2 8) (List.mem_of_getElem? (i := 50) (by decide +kernel)))
  obtain ⟨c4, iS4, hK4⟩ := u_known (C := RX3) (T := TX3) (N := 20) (n := 20) hts in_X3 (hts (.instantiable RX3 20) (List.mem_of_getElem? (i := 508) (by decide +kernel)))
  obtain ⟨cI, kI, compI, hI1, hI2, hI3⟩ := Cond.arrayClass_spec (hts (.arrayClass .int) (List.mem_of_getElem? (i := 89) (by decide +kernel)))
  obtain ⟨cJ, kJ, compJ, hJ1, hJ2, hJ3⟩ := Cond.arrayClass_spec (hts (.arrayClass .long) (List.mem_of_getElem? (i := 90) (by decide +kernel)))
  obtain ⟨compP, cP, kP, hP1, -, hP2, hP3, hP4⟩ := Cond.arrayOver_spec (n := "TreePairs$Pairs") (hts (.arrayOver (.object "TreePairs$Pairs")) (List.mem_of_getElem? (i := 58) (by decide +kernel)))
  obtain ⟨compO, cO, kO, hO1, -, hO2, hO3, hO4⟩ := Cond.arrayOver_spec (n := "java/lang/Object") (hts (.arrayOver (.object "java/lang/Object")) (List.mem_of_getElem? (i := 418) (by decide +kernel)))
  have harr : (Cond.arrayOf (.static "java/util/ArrayList" "DEFAULTCAPACITY_EMPTY_ELEMENTDATA" "[Ljava/lang/Object;") (.object "java/lang/Object")).before #[Value.ref b] s = true := hgs _ (by decide +kernel)
  have hlen0 : (Cond.eq (.length (.static "java/util/ArrayList" "DEFAULTCAPACITY_EMPTY_ELEMENTDATA" "[Ljava/lang/Object;")) (.int 0)).before #[Value.ref b] s = true := hgs _ (by decide +kernel)
  have hex : (Cond.exactly (.static "java/util/ArrayList" "DEFAULTCAPACITY_EMPTY_ELEMENTDATA" "[Ljava/lang/Object;") "[Ljava/lang/Object;").before #[Value.ref b] s = true := hgs _ (by decide +kernel)
  have hmir : (Cond.isRef (.mirror "[Ljava/lang/Object;")).before #[Value.ref b] s = true := hgs _ (by decide +kernel)
  obtain ⟨zt, hzt, hT0⟩ := va_Tof (A := fun _ => False) (f := fun _ => .null) (N := 0) (by decide) harr (va_eqt hlen0) (fun j hj => absurd hj (Nat.not_lt_zero _)) (fun _ _ h => h)
  obtain ⟨cf, kf, fi, f, zs, cellS, z1, z2, z3, z4, z5, z6, z7, -⟩ := va_Zof (A := fun _ => False) (hts (.laysStatic "java/util/ArrayList" "DEFAULTCAPACITY_EMPTY_ELEMENTDATA" "[Ljava/lang/Object;") (List.mem_of_getElem? (i := 307) (by decide +kernel))) (hts (.initialized "java/util/ArrayList") (List.mem_of_getElem? (i := 43) (by decide +kernel))) hzt (fun _ _ h => h)
  obtain ⟨cellT, t1, t2, t3, t4, t5, -, -⟩ := hT0
  obtain ⟨a2, cE, cell2, kE, e1, e2, e3, e4, e5, e6, -⟩ := Cond.exactly_spec hex
  cases hzt.symm.trans e1
  cases t1.symm.trans e3
  obtain ⟨mi, hMi⟩ := va_Mi.of hmir
  have hcls : cellT.cls = cO := e6.trans (Option.some.inj (e2.symm.trans hO4))
  obtain ⟨G, hG⟩ : ∃ G : Gx, G = ((fun k => if k = 0 then c0 else if k = 1 then c1 else if k = 2 then c2 else if k = 3 then c3 else c4, fun k => if k = 100 then (fun j => if j = 0 then zs else if j = 1 then f.slot else if j = 2 then zt else mi) else if k = 0 then iS0 else if k = 1 then iS1 else if k = 2 then iS2 else if k = 3 then iS3 else iS4), cI, cJ, cP, cO) := ⟨_, rfl⟩
  have hKK : KK G s := by
    subst hG
    refine ⟨⟨fun k q hq => ?_, fun k q hq => ?_⟩, ?_, ?_, ?_, ?_, ?_, ⟨cf, kf, fi, f, z1, z2, z3, z4, rfl⟩, ?_, ?_, ?_, hMi, ?_, ?_⟩
    · match k, hq with
      | 0, hq => cases hq; exact hK0
      | 1, hq => cases hq; exact hK1
      | 2, hq => cases hq; exact hK2
      | 3, hq => cases hq; exact hK3
      | 4, hq => cases hq; exact hK4
      | k + 5, hq => simp at hq
    · match k, hq with
      | 0, hq => cases hq; exact ⟨fun n z => ⟨fun k h => (by cases h), kI, hI2, compI, hI3⟩, hI1⟩
      | 1, hq => cases hq; exact ⟨fun n z => ⟨fun k h => (by cases h), kJ, hJ2, compJ, hJ3⟩, hJ1⟩
      | 2, hq => cases hq; exact ⟨fun n z => ⟨fun k h => (by cases h), kP, hP2, compP, hP3⟩, kP, compP, hP2, hP3, hP1, hP4⟩
      | 3, hq => cases hq; exact ⟨fun n z => ⟨fun k h => (by cases h), kO, hO2, compO, hO3⟩, kO, compO, hO2, hO3, hO1, hO4⟩
      | k + 4, hq => simp at hq
    · exact va_Nw.of rfl (hts (.methodLinkNest RX1 56 yX2_startOf RX2) (List.mem_of_getElem? (i := 149) (by decide +kernel)))
    · exact va_Nw.of rfl (hts (.methodLinkNest RX0 35 yX2_putCopy RX2) (List.mem_of_getElem? (i := 372) (by decide +kernel)))
    · exact va_Nw.of rfl (hts (.methodLinkNest RX0 52 yX2_areAlike RX2) (List.mem_of_getElem? (i := 370) (by decide +kernel)))
    · exact va_AO.of (hts (.arrayOver (.object "TreePairs$Pairs")) (List.mem_of_getElem? (i := 58) (by decide +kernel)))
    · exact va_AO.of (hts (.arrayOver (.object "java/lang/Object")) (List.mem_of_getElem? (i := 418) (by decide +kernel)))
    · exact va_Fw.of (hts (.declares yLsize) (List.mem_of_getElem? (i := 343) (by decide +kernel))) (hts (.interfaceMethod yLsize.cls yLsize.cls yLsize.name yLsize.desc) (List.mem_of_getElem? (i := 342) (by decide +kernel))) (hts (.publicMethod yJx4a65c_size_8abf5) (List.mem_of_getElem? (i := 348) (by decide +kernel))) (hts (.unhidden RJx4a65c yLsize.name yLsize.desc) (List.mem_of_getElem? (i := 346) (by decide +kernel))) (hts (.castable RJx4a65c yLsize.cls) (List.mem_of_getElem? (i := 344) (by decide +kernel)))
    · exact va_Fw.of (hts (.declares yLget) (List.mem_of_getElem? (i := 353) (by decide +kernel))) (hts (.interfaceMethod yLget.cls yLget.cls yLget.name yLget.desc) (List.mem_of_getElem? (i := 352) (by decide +kernel))) (hts (.publicMethod yJx4a65c_get_915e3) (List.mem_of_getElem? (i := 357) (by decide +kernel))) (hts (.unhidden RJx4a65c yLget.name yLget.desc) (List.mem_of_getElem? (i := 355) (by decide +kernel))) (hts (.castable RJx4a65c yLget.cls) (List.mem_of_getElem? (i := 344) (by decide +kernel)))
    · exact va_Fw.of (hts (.declares yLadd) (List.mem_of_getElem? (i := 376) (by decide +kernel))) (hts (.interfaceMethod yLadd.cls yLadd.cls yLadd.name yLadd.desc) (List.mem_of_getElem? (i := 375) (by decide +kernel))) (hts (.publicMethod yJx4a65c_add_9ea2d) (List.mem_of_getElem? (i := 380) (by decide +kernel))) (hts (.unhidden RJx4a65c yLadd.name yLadd.desc) (List.mem_of_getElem? (i := 378) (by decide +kernel))) (hts (.castable RJx4a65c yLadd.cls) (List.mem_of_getElem? (i := 344) (by decide +kernel)))
    · exact va_Dc.of (hts (.declares ⟨"java/lang/Object", "getClass", "()Ljava/lang/Class;"⟩) (List.mem_of_getElem? (i := 801) (by decide +kernel)))
    · exact va_Nw.of rfl (hts (.castable RX1 "java/lang/Object") (List.mem_of_getElem? (i := 794) (by decide +kernel)))
  have C : Cx G p s m #[Value.ref b] meth c code 4 RL wsL_law := ⟨hx, hb, hml, hown, fun w hw => hts w (wsL_law_in w hw), hlocks, hKK⟩
  obtain ⟨o, ho⟩ : ∃ n : Nat, s.heap.size = n := ⟨_, rfl⟩
  have hZ : HZ G o s.heap := by
    subst hG; subst ho
    exact ⟨⟨⟨cellS, z5, z6, z7⟩, cellT, t1, t2.1, hcls, t5⟩, (Array.getElem?_eq_some_iff.mp z5).1, (Array.getElem?_eq_some_iff.mp t1).1⟩
  clear hG
  have key : JJ p l e room_1 s m #[Value.ref b] below meth c (lw_Z below #[Value.ref b] s) (fun q : Nat => s.heap.size ≤ q) 4 s.heap 0 0 0 [(0, .ref b)] [] := by
    refine j_new (ci := 3) (fs := [.null, .null, .int (zI 0), .long (zL 0), .null, .null, .null, .null]) (h := o) C tyX2 tyX2_ok inlX2 rfl (index := 7) (by decide +kernel) (by decide +kernel) (by decide +kernel) (fun j hj => by rcases (show j = 0 ∨ j = 1 ∨ j = 2 ∨ j = 3 ∨ j = 4 ∨ j = 5 ∨ j = 6 ∨ j = 7 by omega) with rfl | rfl | rfl | rfl | rfl | rfl | rfl | rfl <;> rfl) ho (Nat.le_of_ble_eq_true rfl) (Nat.le_of_ble_eq_true rfl) dL_law_0 (fun H1 hN hG => ?_)
    have hZ := hZ.grw hG ho
    refine j_dup C dL_law_3 rfl ?_
    refine j_callmV (jrunI (rest := [.ref o]) (As := []) C (c_X2_init l G o) gL_law_X2_init rfl 0 (by decide +kernel) (by decide +kernel) (by decide +kernel) rfl (by decide +kernel) rfl rfl ⟨Nat.le_of_ble_eq_true rfl, Nat.le_of_ble_eq_true rfl⟩ ⟨hN, hG.1⟩ rfl rfl (Nat.le_of_ble_eq_true rfl) ⟨Nat.le_of_ble_eq_true rfl, Nat.le_of_ble_eq_true rfl⟩ dL_law_4) (fun q hq => by have hq' : o ≤ q := hq; show s.heap.size ≤ q; omega) (fun H2 h4 hF => ?_)
    obtain ⟨hT, hsz⟩ := h4
    have hZ := hZ.frm hF (fun q hq => hq)
    refine j_astore_n (lv' := [(0, .ref b), (1, .ref o)]) C dL_law_7 (by decide) rfl ?_
    refine j_new (ci := 4) (fs := [.null, .null, .int (zI 0), .null, .int (zI 0), .long (zL 0), .int (zI 0), .null, .null, .int (zI 0), .int (zI 0), .int (zI 0), .null, .null, .null, .null, .null, .long (zL 0), .long (zL 0), .long (zL 0)]) (h := o + 82) C tyX3 tyX3_ok inlX3 rfl (index := 10) (by decide +kernel) (by decide +kernel) (by decide +kernel) (fun j hj => by rcases (show j = 0 ∨ j = 1 ∨ j = 2 ∨ j = 3 ∨ j = 4 ∨ j = 5 ∨ j = 6 ∨ j = 7 ∨ j = 8 ∨ j = 9 ∨ j = 10 ∨ j = 11 ∨ j = 12 ∨ j = 13 ∨ j = 14 ∨ j = 15 ∨ j = 16 ∨ j = 17 ∨ j = 18 ∨ j = 19 by omega) with rfl | rfl | rfl | rfl | rfl | rfl | rfl | rfl | rfl | rfl | rfl | rfl | rfl | rfl | rfl | rfl | rfl | rfl | rfl | rfl <;> rfl) hsz (Nat.le_of_ble_eq_true rfl) (Nat.le_of_ble_eq_true rfl) dL_law_8 (fun H3 hN hG => ?_)
    have hZ := hZ.grw hG hsz
    have hT := hT.kept (fun q q1 q2 => hG.2 q (by omega))
    refine j_dup C dL_law_11 rfl ?_
    refine j_callmV (jrunI (rest := [.ref (o + 82)]) (As := []) C (c_X3_init l G (o + 82)) gL_law_X3_init rfl 0 (by decide +kernel) (by decide +kernel) (by decide +kernel) rfl (by decide +kernel) rfl rfl ⟨Nat.le_of_ble_eq_true rfl, Nat.le_of_ble_eq_true rfl⟩ ⟨hN, hG.1⟩ rfl rfl (Nat.le_of_ble_eq_true rfl) ⟨Nat.le_of_ble_eq_true rfl, Nat.le_of_ble_eq_true rfl⟩ dL_law_12) (fun q hq => by have hq' : o + 82 ≤ q := hq; show s.heap.size ≤ q; omega) (fun H4 h12 hF => ?_)
    obtain ⟨hM, hsz⟩ := h12
    have hZ := hZ.frm hF (fun q hq => by have hq' : o + 82 ≤ q := hq; omega)
    have hT := hT.frm hF (fun q q1 q2 => by show ¬ o + 82 ≤ q; omega)
    refine j_astore_n (lv' := [(0, .ref b), (1, .ref o), (2, .ref (o + 82))]) C dL_law_15 (by decide) rfl ?_
    refine j_iconst C dL_law_16 ?_
    refine j_istore_n (lv' := [(0, .ref b), (1, .ref o), (2, .ref (o + 82)), (3, .int (zI 0))]) C dL_law_17 (by decide) rfl ?_
    refine JJ.widen (ca' := 93) (sl' := 20725) (Nat.le_of_ble_eq_true rfl) (Nat.le_of_ble_eq_true rfl) ?_
    exact law_loop l C hX hbl hL ho hr (L + 1) 0 (fun _ => []) [] 0 0 .null 93 20725 H4 (by omega) (by decide) (by decide) ⟨fun t _ _ h => absurd h (by show ¬ 1 ≤ 0; decide), fun q hq => absurd hq List.not_mem_nil, Nat.zero_le _, by decide, hZ, hT, hM, by omega, Or.inl ⟨rfl, rfl, rfl⟩⟩
  rw [lg_entry_eq]
  exact key _ _ (lv_entry [.ref b] (n := 4) (Nat.le_of_ble_eq_true rfl)) va_S.rf
