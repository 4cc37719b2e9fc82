/-! the law: what holds between two calls -/
theorem go_uniq {L : List Q4} (h : VM L) {i j y : Int} (hi : 0 ≤ i ∧ i < L.length) (hj : 0 ≤ j ∧ j < L.length) (a : st1 (qat L i) ≤ y) (b : y < en1 (qat L i)) (c : st1 (qat L j) ≤ y) (d : y < en1 (qat L j)) : i = j := by
  have hl := cut_ltr h.cut h.B
  rcases Int.lt_trichotomy i j with g | g | g
  · have := hl.1 i j hi.1 g hj.2; omega
  · exact g
  · have := hl.1 j i hj.1 g hi.2; omega
theorem lowF_b : ∀ (n : Nat) (c : Int), 0 ≤ (lowF n c).1 ∧ (lowF n c).1 ≤ n
  | 0, c => ⟨Int.le_refl _, Int.le_refl _⟩
  | n + 1, c => by
    unfold lowF
    by_cases e : c % 2 = 0
    · rw [if_pos e]
      have := lowF_b n (c / 2)
      omega
    · rw [if_neg e]
      show 0 ≤ (n : Int) + 1 ∧ (n : Int) + 1 ≤ ((n + 1 : Nat) : Int)
      omega
theorem VMs.set {maps : Int → List Q4} (h : VMs maps) {t : Int} {L : List Q4} (hL : 1 ≤ L.length → VM L) : VMs (iup maps t L) := fun u u0 u1 hu => by
  by_cases e : u = t
  · subst e; rw [iup_s] at hu ⊢; exact hL hu
  · rw [iup_n e] at hu ⊢; exact h u u0 u1 hu
theorem VMs.at {maps : Int → List Q4} (h : VMs maps) {x : Int} (hx : thP maps x) : VM (maps x) := h x hx.1.1 hx.1.2 hx.2
theorem powF_VM {B : List Q4} (hB : VM B) : ∀ (n : Nat) (R : List Q4), powF B n = some R → VM R
  | 0, R, h => by cases h; exact VM.nothing
  | n + 1, R, h => by
    have e : powF B (n + 1) = (match powF B n with
      | none => none
      | some R => if (compF R B).length ≤ 24 then some (compF R B) else none) := rfl
    rw [e] at h
    cases hp : powF B n with
    | none => rw [hp] at h; cases h
    | some S =>
      rw [hp] at h
      have hS := powF_VM hB n S hp
      by_cases c : (compF S B).length ≤ 24
      · simp only [if_pos c, Option.some.injEq] at h
        rw [← h]; exact VM.comp hS hB c
      · simp only [if_neg c] at h
        cases h
theorem opThen_ok {maps : Int → List Q4} (h : VMs maps) (t x y : Int) : VMs (opThen maps t x y).2 := by
  unfold opThen
  split
  · rename_i g
    split
    · rename_i k
      exact h.set (fun _ => VM.comp (h.at g.2.1) (h.at g.2.2) k)
    · exact h
  · exact h
theorem opTurn_ok {maps : Int → List Q4} (h : VMs maps) (t x : Int) : VMs (opTurn maps t x).2 := by
  unfold opTurn
  split
  · rename_i g
    exact h.set (fun _ => (h.at g.2).turn)
  · exact h
theorem opStrong_ok {maps : Int → List Q4} (h : VMs maps) (t i : Int) : VMs (opStrong maps t i).2 := by
  unfold opStrong
  split
  · split
    · rename_i g
      exact h.set (fun _ => VM.strong g.1 g.2)
    · exact h
  · exact h
theorem opDrop_ok {maps : Int → List Q4} (h : VMs maps) (x : Int) : VMs (opDrop maps x).2 := by
  unfold opDrop
  split
  · exact h.set (fun k => absurd k (by decide))
  · exact h
theorem opPower_ok {maps : Int → List Q4} (h : VMs maps) (t x k : Int) : VMs (opPower maps t x k).2 := by
  unfold opPower
  split
  · rename_i g
    split
    · cases hp : powF (if k < 0 then turnF (maps x) else maps x) k.natAbs with
      | none => exact h
      | some R =>
        refine h.set (fun _ => powF_VM ?_ _ R hp)
        split
        · exact (h.at g.2).turn
        · exact h.at g.2
    · exact h
  · exact h
theorem opMake_ok {maps : Int → List Q4} {hand : List Q4} (h : VMs maps) (hH : ∀ q ∈ hand, LQ 23 q) (hl : hand.length ≤ 24) (t : Int) : VMs (opMake maps hand t).2.1 ∧ (∀ q ∈ (opMake maps hand t).2.2, LQ 23 q) ∧ (opMake maps hand t).2.2.length ≤ 24 := by
  unfold opMake
  split
  · split
    · rename_i g
      exact ⟨h.set (fun _ => VM.made hH hl g.1 g.2), fun q hq => absurd hq List.not_mem_nil, Nat.zero_le _⟩
    · exact ⟨h, hH, hl⟩
  · exact ⟨h, hH, hl⟩
theorem opPair_ok {hand : List Q4} (hH : ∀ q ∈ hand, LQ 23 q) (hl : hand.length ≤ 24) (x y z w : Int) : (∀ q ∈ (opPair hand x y z w).2, LQ 23 q) ∧ (opPair hand x y z w).2.length ≤ 24 := by
  unfold opPair
  split
  · rename_i g
    split
    · exact ⟨hH, hl⟩
    · refine ⟨fun q hq => ?_, ?_⟩
      · rcases List.mem_append.mp hq with k | k
        · exact hH q k
        · rw [List.mem_singleton.mp k]; exact g
      · show (hand ++ [(x, y, z, w)]).length ≤ 24
        rw [List.length_append, List.length_singleton]; omega
  · exact ⟨hH, hl⟩
theorem MX.frm {G : Gx} {H H1 : Heap} {o : Nat} {maps : Int → List Q4} {hand : List Q4} {ud uc : Int} {A : Nat → Prop} (h : MX G H o maps hand ud uc) (hF : Frm A H H1) (hA : ∀ q : Nat, o ≤ q → q < o + 11 → ¬ A q) : MX G H1 o maps hand ud uc := by
  obtain ⟨us, uo, ub, uw, ua, ue, ux, m0, m1, m3, m7, m8, m12, m13, m14, m15, m16, hM, r⟩ := h
  exact ⟨us, uo, ub, uw, ua, ue, ux, m0, m1, m3, m7, m8, m12, m13, m14, m15, m16, hM.frm hF hA, r⟩
/-- both objects side by side: the class's at o, the model's at o + 82, a ball (if one is kept) behind them -/
def lawS (G : Gx) (o : Nat) (H : Heap) (maps : Int → List Q4) (hand : List Q4) (sd sc : Int) (near : Value) (ca sl : Nat) : Prop := VMs maps ∧ (∀ q ∈ hand, LQ 23 q) ∧ hand.length ≤ 24 ∧ (0 ≤ sd ∧ sd ≤ 53) ∧ HZ G o H ∧ TP G H o maps hand sd sc near ∧ MX G H (o + 82) maps hand sd sc ∧ o + 93 ≤ H.size ∧ ((near = .null ∧ ca = 93 ∧ sl = 20725) ∨ (∃ bb : Nat, near = .ref bb ∧ o + 93 ≤ bb ∧ BF G H bb ∧ ca = 1396 ∧ sl = 130725))
theorem lawS.room {G : Gx} {o : Nat} {H : Heap} {maps : Int → List Q4} {hand : List Q4} {sd sc : Int} {near : Value} {ca sl : Nat} (h : lawS G o H maps hand sd sc near ca sl) : ca ≤ 1396 ∧ sl ≤ 130725 := by
  obtain ⟨-, -, -, -, -, -, -, -, hN⟩ := h
  rcases hN with ⟨-, h1, h2⟩ | ⟨bb, -, -, -, h1, h2⟩ <;> omega
theorem lawS.mid {G : Gx} {o : Nat} {H H1 : Heap} {maps : Int → List Q4} {hand : List Q4} {sd sc : Int} {near : Value} {ca sl : Nat} (h : lawS G o H maps hand sd sc near ca sl) (F1 : Frm (fun q : Nat => o ≤ q ∧ q < o + 82) H H1) : MX G H1 (o + 82) maps hand sd sc := h.2.2.2.2.2.2.1.frm F1 (fun q q1 q2 => by show ¬ (o ≤ q ∧ q < o + 82); omega)
theorem lawS.next {G : Gx} {o : Nat} {H H1 H2 : Heap} {maps : Int → List Q4} {hand : List Q4} {sd sc : Int} {near : Value} {ca sl : Nat} {maps' : Int → List Q4} {hand' : List Q4} {sd' sc' : Int} (h : lawS G o H maps hand sd sc near ca sl) (F1 : Frm (fun q : Nat => o ≤ q ∧ q < o + 82) H H1) (F2 : Frm (fun q : Nat => o + 82 ≤ q ∧ q < o + 82 + 11) H1 H2) (hT : TP G H1 o maps' hand' sd' sc' near) (hM : MX G H2 (o + 82) maps' hand' sd' sc') (hV : VMs maps') (hH : ∀ q ∈ hand', LQ 23 q) (hl : hand'.length ≤ 24) (hs : 0 ≤ sd' ∧ sd' ≤ 53) : lawS G o H2 maps' hand' sd' sc' near ca sl := by
  obtain ⟨-, -, -, -, hZ, -, -, hsz, hN⟩ := h
  have s1 := F1.1
  have s2 := F2.1
  refine ⟨hV, hH, hl, hs, (hZ.frm F1 (fun q hq => hq.1)).frm F2 (fun q hq => by have := hq.1; omega), hT.frm F2 (fun q q1 q2 => by show ¬ (o + 82 ≤ q ∧ q < o + 82 + 11); omega), hM, by omega, ?_⟩
  rcases hN with hN | ⟨bb, e, hb, hB, r⟩
  · exact Or.inl hN
  · refine Or.inr ⟨bb, e, hb, (hB.frm F1 (fun q q1 hq => ?_)).frm F2 (fun q q1 hq => ?_), r⟩
    · have := hq.2; omega
    · have := hq.2; omega
/-- the first ball -/
theorem lawS.grown {G : Gx} {o h : Nat} {H H1 H2 : Heap} {maps : Int → List Q4} {hand : List Q4} {sd sc : Int} {ca sl : Nat} (hS : lawS G o H maps hand sd sc .null ca sl) (hh : H.size = h) (F1 : Frm (fun q : Nat => (o ≤ q ∧ q < o + 82) ∨ h ≤ q) H H1) (hT : TP G H1 o maps hand sd sc (.ref h)) (hB : BF G H1 h) (F2 : Frm (fun q : Nat => o + 82 ≤ q ∧ q < o + 82 + 11) H1 H2) (hM : MX G H2 (o + 82) maps hand sd sc) : lawS G o H2 maps hand sd sc (.ref h) 1396 130725 := by
  obtain ⟨hV, hH, hl, hs, hZ, -, -, hsz, hN⟩ := hS
  have s1 := F1.1
  have s2 := F2.1
  refine ⟨hV, hH, hl, hs, (hZ.frm F1 (fun q hq => by have hq' : (o ≤ q ∧ q < o + 82) ∨ h ≤ q := hq; omega)).frm F2 (fun q hq => by have := hq.1; omega), hT.frm F2 (fun q q1 q2 => by show ¬ (o + 82 ≤ q ∧ q < o + 82 + 11); omega), hM, by omega, Or.inr ⟨h, rfl, by omega, hB.frm F2 (fun q q1 hq => ?_), rfl, rfl⟩⟩
  have := hq.2; omega
section
variable {G : Gx} {p : Program} {l : Launch} {e : Env} {R : Room} {s : State} {m : MethodId} {args : Array Value} {below : List Frame} {meth : Method} {c : Code} {Q : State → Prop} {A : Nat → Prop} {cc : ByteArray} {nL : Nat} {own : String} {Ts : List Cond} {H : Heap} {ca sl pc : Nat} {lv : List (Nat × Value)} {st : List Value}
/-- a cell of the script -/
def xv (xs : Nat → Int32) (i : Int) : Int := (xs i.toNat).toInt
theorem xv_R (xs : Nat → Int32) (i : Int) : iR (xv xs i) := zI_rng _
theorem j_sld (C : Cx G p s m args meth c cc nL own Ts) {b L : Nat} {xs : Nat → Int32} {i : Int} (hX : va_X b L xs s s.heap) (hbl : b < s.heap.size) (hbA : ¬ A b) (hL : (L : Int) < 2147483648) (hi : 0 ≤ i ∧ i < (L : Int)) (hdg : decode cc pc = .ok (.iaload, 1)) (kk : JJ p l e R s m args below meth c Q A nL H ca sl (pc + 1) lv (.int (zI (xv xs i)) :: st)) : JJ p l e R s m args below meth c Q A nL H ca sl pc lv (.int (zI i) :: .ref b :: st) := fun ls locs h hS =>
  va_sld C.1 C.2.1 hX hbl hbA hS (zI_in hi.1 hi.2 hL) hdg (by
    rw [zI_clamp hi.1 (by omega)]
    have e : xs i.toNat = zI (xv xs i) := (zI_of _).symm
    rw [e]
    exact kk ls locs h hS)
theorem j_slen (C : Cx G p s m args meth c cc nL own Ts) {b L : Nat} {xs : Nat → Int32} (hX : va_X b L xs s s.heap) (hbl : b < s.heap.size) (hbA : ¬ A b) (hdg : decode cc pc = .ok (.arraylength, 1)) (kk : JJ p l e R s m args below meth c Q A nL H ca sl (pc + 1) lv (.int (zI (L : Int)) :: st)) : JJ p l e R s m args below meth c Q A nL H ca sl pc lv (.ref b :: st) := fun ls locs h hS =>
  va_slen C.1 C.2.1 hX hbl hbA hS hdg (by
    rw [show Int32.ofNat L = zI (L : Int) from (Int32.ofInt_eq_ofNat).symm]
    exact kk ls locs h hS)
theorem j_iand31 (C : Cx G p s m args meth c cc nL own Ts) {a : Int} (hdg : decode cc pc = .ok (.iand, 1)) (kk : ∀ j : Int, 0 ≤ j → j < 32 → JJ p l e R s m args below meth c Q A nL H ca sl (pc + 1) lv (.int (zI j) :: st)) : JJ p l e R s m args below meth c Q A nL H ca sl pc lv (.int (zI 31) :: .int (zI a) :: st) := fun ls locs h hS =>
  lv_iand C.1 C.2.1 hdg (by
    obtain ⟨j, hj, ej⟩ := pk_andE (zI a) (m := zI 31) 5 (by decide)
    rw [ej, show nI j = zI (j : Int) from (Int32.ofInt_eq_ofNat).symm]
    exact kk j (by omega) (by omega) ls locs h hS)
theorem j_land (C : Cx G p s m args meth c cc nL own Ts) {a b : Int} (hdg : decode cc pc = .ok (.land, 1)) (kk : JJ p l e R s m args below meth c Q A nL H ca sl (pc + 1) lv (.long (zL ((zL a &&& zL b).toInt)) :: st)) : JJ p l e R s m args below meth c Q A nL H ca sl pc lv (.long (zL b) :: .long (zL a) :: st) := fun ls locs h hS => lv_land C.1 C.2.1 hdg (by
    have k := kk ls locs h hS
    rw [zL_of] at k
    exact k)
theorem j_icmp_same (C : Cx G p s m args meth c cc nL own Ts) {x : Int32} {off : Int} {tgt : Nat} (hdg : decode cc pc = .ok (.if_icmp .eq off, 3)) (ht : (pc : Int) + off = (tgt : Int)) (kt : JJ p l e R s m args below meth c Q A nL H ca sl tgt lv st) : JJ p l e R s m args below meth c Q A nL H ca sl pc lv (.int x :: .int x :: st) := fun ls locs h hS => lv_icmp_eq C.1 C.2.1 hdg ht (fun _ => kt ls locs h hS) (fun q => absurd rfl q)
theorem j_lcmp_same (C : Cx G p s m args meth c cc nL own Ts) {a : Int} {off : Int} {tgt : Nat} (hdg0 : decode cc pc = .ok (.lcmp, 1)) (hdg : decode cc (pc + 1) = .ok (.ifCond .eq off, 3)) (ht : ((pc + 1 : Nat) : Int) + off = (tgt : Int)) (kt : JJ p l e R s m args below meth c Q A nL H ca sl tgt lv st) : JJ p l e R s m args below meth c Q A nL H ca sl pc lv (.long (zL a) :: .long (zL a) :: st) := by
  have e : zL a = zL ((zL a).toInt) := (zL_of _).symm
  rw [e]
  exact j_lcmp_eq C hdg0 hdg ht (zL_rng _) (zL_rng _) (fun _ => kt) (fun q => absurd rfl q)
end
