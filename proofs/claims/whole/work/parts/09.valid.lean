/-! maps: cuts onto cuts -/
/-! the object TreePairs: itself, its row of maps, and the blocks of Pairs behind them -/
def mpA (o : Nat) (t : Int) : Nat := o + 2 + 5 * t.toNat
def TP (G : Gx) (H : Heap) (o : Nat) (maps : Int → List Q4) (hand : List Q4) (sd sc : Int) (near : Value) : Prop :=
  ob G o 3 [.ref (o + 1), .ref (o + 62), .int (zI sd), .long (zL sc), .ref (o + 67), .ref (o + 72), .ref (o + 77), near] H ∧ ap G (o + 1) 12 (fun t => some (mpA o t)) H ∧ (∀ t : Int, 0 ≤ t → t < 12 → PL G H (mpA o t) 24 (maps t)) ∧ PL G H (o + 62) 24 hand ∧ (∃ L, PL G H (o + 67) 48 L) ∧ (∃ L, PL G H (o + 72) 48 L) ∧ (∃ L, PL G H (o + 77) 48 L)
section
variable {G : Gx} {H H1 : Heap} {o : Nat} {maps : Int → List Q4} {hand : List Q4} {sd sc : Int} {near : Value}
theorem TP.map (h : TP G H o maps hand sd sc near) {t : Int} (h0 : 0 ≤ t ∧ t < 12) : PL G H (mpA o t) 24 (maps t) := h.2.2.1 t h0.1 h0.2
theorem TP.lt (h : TP G H o maps hand sd sc near) : o + 81 < H.size := by
  obtain ⟨L, hL⟩ := h.2.2.2.2.2.2
  exact hL.lt
theorem TP.kept (h : TP G H o maps hand sd sc near) (hq : ∀ q : Nat, o ≤ q → q < o + 82 → H1[q]? = H[q]?) : TP G H1 o maps hand sd sc near := by
  obtain ⟨h1, h2, h3, h4, ⟨L5, h5⟩, ⟨L6, h6⟩, ⟨L7, h7⟩⟩ := h
  exact ⟨h1.kept (hq _ (by show o ≤ o; omega) (by show o < o + 82; omega)), h2.kept (hq _ (by omega) (by omega)), fun t h0 h1 => (h3 t h0 h1).kept (fun q a b => hq q (by unfold mpA at a; omega) (by unfold mpA at b; omega)), h4.kept (fun q a b => hq q (by omega) (by omega)), ⟨L5, h5.kept (fun q a b => hq q (by omega) (by omega))⟩, ⟨L6, h6.kept (fun q a b => hq q (by omega) (by omega))⟩, ⟨L7, h7.kept (fun q a b => hq q (by omega) (by omega))⟩⟩
theorem TP.frm {A : Nat → Prop} (h : TP G H o maps hand sd sc near) (hF : Frm A H H1) (hA : ∀ q : Nat, o ≤ q → q < o + 82 → ¬ A q) : TP G H1 o maps hand sd sc near := h.kept (fun q h1 h2 => hF.2 q (by have := h.lt; omega) (hA q h1 h2))
theorem TP.put (h : TP G H o maps hand sd sc near) {sd' sc' : Int} {near' : Value} (hO : ob G o 3 [.ref (o + 1), .ref (o + 62), .int (zI sd'), .long (zL sc'), .ref (o + 67), .ref (o + 72), .ref (o + 77), near'] H1) (hC : Chg o H H1) : TP G H1 o maps hand sd' sc' near' := by
  obtain ⟨h1, h2, h3, h4, ⟨L5, h5⟩, ⟨L6, h6⟩, ⟨L7, h7⟩⟩ := h
  exact ⟨hO, h2.kept (hC.2 _ (by omega)), fun t h0 h1 => (h3 t h0 h1).chg hC (by unfold mpA; omega), h4.chg hC (by omega), ⟨L5, h5.chg hC (by omega)⟩, ⟨L6, h6.chg hC (by omega)⟩, ⟨L7, h7.chg hC (by omega)⟩⟩
/-- a block of Pairs anew -/
theorem TP.blk (h : TP G H o maps hand sd sc near) {a : Nat} {maps' : Int → List Q4} {hand' : List Q4} (hF : Frm (fun q => a ≤ q ∧ q < a + 5) H H1) (ha : o + 2 ≤ a) (hm : ∀ t : Int, 0 ≤ t → t < 12 → (PL G H1 (mpA o t) 24 (maps' t) ∨ (maps' t = maps t ∧ (mpA o t + 5 ≤ a ∨ a + 5 ≤ mpA o t)))) (hh : PL G H1 (o + 62) 24 hand' ∨ (hand' = hand ∧ (o + 67 ≤ a ∨ a + 5 ≤ o + 62))) (h5 : (∃ L, PL G H1 (o + 67) 48 L) ∨ (o + 72 ≤ a ∨ a + 5 ≤ o + 67)) (h6 : (∃ L, PL G H1 (o + 72) 48 L) ∨ (o + 77 ≤ a ∨ a + 5 ≤ o + 72)) (h7 : (∃ L, PL G H1 (o + 77) 48 L) ∨ (o + 82 ≤ a ∨ a + 5 ≤ o + 77)) : TP G H1 o maps' hand' sd sc near := by
  have hlt := h.lt
  obtain ⟨g1, g2, g3, g4, ⟨L5, g5⟩, ⟨L6, g6⟩, ⟨L7, g7⟩⟩ := h
  refine ⟨g1.kept (hF.2 _ (by show o < H.size; omega) (by show ¬ (a ≤ o ∧ o < a + 5); omega)), g2.kept (hF.2 _ (by omega) (by omega)), fun t t0 t1 => ?_, ?_, ?_, ?_, ?_⟩
  · rcases hm t t0 t1 with q | ⟨q1, q2⟩
    · exact q
    · rw [q1]; exact (g3 t t0 t1).frm hF (fun q a b c => by omega)
  · rcases hh with q | ⟨q1, q2⟩
    · exact q
    · rw [q1]; exact g4.frm hF (fun q a b c => by omega)
  · rcases h5 with q | q
    · exact q
    · exact ⟨L5, g5.frm hF (fun q a b c => by omega)⟩
  · rcases h6 with q | q
    · exact q
    · exact ⟨L6, g6.frm hF (fun q a b c => by omega)⟩
  · rcases h7 with q | q
    · exact q
    · exact ⟨L7, g7.frm hF (fun q a b c => by omega)⟩
theorem TP.setmap (h : TP G H o maps hand sd sc near) {t : Int} (ht : 0 ≤ t ∧ t < 12) {L : List Q4} (hL : PL G H1 (mpA o t) 24 L) (hF : Frm (fun q => mpA o t ≤ q ∧ q < mpA o t + 5) H H1) : TP G H1 o (iup maps t L) hand sd sc near :=
  h.blk hF (by unfold mpA; omega) (fun u u0 u1 => by
    by_cases e : u = t
    · subst e; rw [iup_s]; exact Or.inl hL
    · rw [iup_n e]; refine Or.inr ⟨rfl, ?_⟩; unfold mpA; omega) (Or.inr ⟨rfl, by unfold mpA; omega⟩) (Or.inr (by unfold mpA; omega)) (Or.inr (by unfold mpA; omega)) (Or.inr (by unfold mpA; omega))
theorem TP.sethand (h : TP G H o maps hand sd sc near) {L : List Q4} (hL : PL G H1 (o + 62) 24 L) (hF : Frm (fun q => o + 62 ≤ q ∧ q < o + 62 + 5) H H1) : TP G H1 o maps L sd sc near :=
  h.blk hF (by omega) (fun u u0 u1 => Or.inr ⟨rfl, by unfold mpA; omega⟩) (Or.inl hL) (Or.inr (by omega)) (Or.inr (by omega)) (Or.inr (by omega))
theorem TP.setmade (h : TP G H o maps hand sd sc near) {L : List Q4} (hL : PL G H1 (o + 67) 48 L) (hF : Frm (fun q => o + 67 ≤ q ∧ q < o + 67 + 5) H H1) : TP G H1 o maps hand sd sc near :=
  h.blk hF (by omega) (fun u u0 u1 => Or.inr ⟨rfl, by unfold mpA; omega⟩) (Or.inr ⟨rfl, by omega⟩) (Or.inl ⟨L, hL⟩) (Or.inr (by omega)) (Or.inr (by omega))
theorem TP.setraised (h : TP G H o maps hand sd sc near) {L : List Q4} (hL : PL G H1 (o + 72) 48 L) (hF : Frm (fun q => o + 72 ≤ q ∧ q < o + 72 + 5) H H1) : TP G H1 o maps hand sd sc near :=
  h.blk hF (by omega) (fun u u0 u1 => Or.inr ⟨rfl, by unfold mpA; omega⟩) (Or.inr ⟨rfl, by omega⟩) (Or.inr (by omega)) (Or.inl ⟨L, hL⟩) (Or.inr (by omega))
theorem TP.setturned (h : TP G H o maps hand sd sc near) {L : List Q4} (hL : PL G H1 (o + 77) 48 L) (hF : Frm (fun q => o + 77 ≤ q ∧ q < o + 77 + 5) H H1) : TP G H1 o maps hand sd sc near :=
  h.blk hF (by omega) (fun u u0 u1 => Or.inr ⟨rfl, by unfold mpA; omega⟩) (Or.inr ⟨rfl, by omega⟩) (Or.inr (by omega)) (Or.inr (by omega)) (Or.inl ⟨L, hL⟩)
theorem Chg.frm5 {a : Nat} (hC : Chg a H H1) : Frm (fun q => a ≤ q ∧ q < a + 5) H H1 := hC.frm (A := fun q => a ≤ q ∧ q < a + 5) ⟨by omega, by omega⟩
end
/-! the single points -/
def sA (q : Q4) : Int := if q.2.2.1 ≤ q.1 then -(q.2.2.2 - q.2.1) else q.2.2.2 - q.2.1
def sB (q : Q4) : Int := if 0 < (2 : Int) ^ q.2.2.1.toNat - 2 ^ q.1.toNat then (2 : Int) ^ q.2.2.1.toNat - 2 ^ q.1.toNat else -((2 : Int) ^ q.2.2.1.toNat - 2 ^ q.1.toNat)
abbrev hsP (q : Q4) : Prop := q.1 ≠ q.2.2.1 ∧ q.2.1 * sB q ≤ sA q * 2 ^ q.1.toNat ∧ sA q * 2 ^ q.1.toNat < (q.2.1 + 1) * sB q
def gcdF (a b : Int) : Int := ((Nat.gcd a.toNat b.toNat : Nat) : Int)
/-! lowest terms -/
def lowF : Nat → Int → Int × Int
  | 0, c => (0, c)
  | n + 1, c => if c % 2 = 0 then lowF n (c / 2) else ((n : Int) + 1, c)
abbrev thP (maps : Int → List Q4) (x : Int) : Prop := (0 ≤ x ∧ x < 12) ∧ 1 ≤ (maps x).length
theorem sAB_b {q : Q4} (h : LQ 23 q) : -8388608 ≤ sA q ∧ sA q ≤ 8388608 ∧ 0 ≤ sB q ∧ sB q ≤ 8388608 ∧ (q.1 ≠ q.2.2.1 → 0 < sB q) := by
  have h1 := h.1.b23
  have h2 := h.2.b23
  have p1 := pow_le_pow2 (m := q.1.toNat) (n := 23) (by omega)
  have p2 := pow_le_pow2 (m := q.2.2.1.toNat) (n := 23) (by omega)
  have p3 := two_pow_pos q.1.toNat
  have p4 := two_pow_pos q.2.2.1.toNat
  have p5 : (2 : Int) ^ 23 = 8388608 := rfl
  have hn : q.1 ≠ q.2.2.1 → (2 : Int) ^ q.1.toNat ≠ 2 ^ q.2.2.1.toNat := by
    intro hne he
    rcases Int.lt_or_gt_of_ne hne with g | g
    · have := pow_le_pow2 (m := q.1.toNat + 1) (n := q.2.2.1.toNat) (by omega)
      rw [Int.pow_succ] at this
      omega
    · have := pow_le_pow2 (m := q.2.2.1.toNat + 1) (n := q.1.toNat) (by omega)
      rw [Int.pow_succ] at this
      omega
  unfold sA sB
  refine ⟨?_, ?_, ?_, ?_, ?_⟩
  · split <;> omega
  · split <;> omega
  · split <;> omega
  · split <;> omega
  · intro hne
    have := hn hne
    split <;> omega
theorem mul_b {a b A B : Int} (h1 : -A ≤ a) (h2 : a ≤ A) (h3 : 0 ≤ b) (h4 : b ≤ B) (hA : 0 ≤ A) : -(A * B) ≤ a * b ∧ a * b ≤ A * B := by
  have e1 : a * b ≤ A * b := Int.mul_le_mul_of_nonneg_right h2 h3
  have e2 : A * b ≤ A * B := Int.mul_le_mul_of_nonneg_left h4 hA
  have e3 : (-A) * b ≤ a * b := Int.mul_le_mul_of_nonneg_right h1 h3
  have e4 : (-A) * b = -(A * b) := Int.neg_mul A b
  omega
section
variable {G : Gx} {p : Program} {l : Launch} {e : Env} {R : Room} {s : State} {m : MethodId} {args : Array Value} {below : List Frame} {meth : Method} {c : Code} {Q : State → Prop} {A : Nat → Prop} {cc : ByteArray} {nL : Nat} {own : String} {Ts : List Cond} {H : Heap} {ca sl pc : Nat} {lv : List (Nat × Value)} {st : List Value}
theorem j_iabs (C : Cx G p s m args meth c cc nL own Ts) {index : Nat} {a : Int} (hl : Cond.methodLink own index Lib.Math.abs.name ∈ Ts) (hs : Cond.static Lib.Math.abs.name ∈ Ts) (hi : Cond.initialized "java/lang/Math" ∈ Ts) (hc : Cond.code Lib.Math.abs.name Lib.Math.abs.code 1 (some .int) ∈ Ts) (hframes : 1 ≤ R.frames) (hlocals : (st.map fun v => v.category).sum + 13 ≤ R.locals) (hca : ca ≤ R.cells) (hsl : sl ≤ R.slots) (ha : iR a) (hdg : decode cc pc = .ok (.invokestatic index, 3)) (kk : JJ p l e R s m args below meth c Q A nL H ca sl (pc + 3) lv (.int (zI (if 0 ≤ a then a else -a)) :: st)) : JJ p l e R s m args below meth c Q A nL H ca sl pc lv (.int (zI a) :: st) := fun ls locs h hS =>
  va_mabs C.1 C.2.1 (C.2.2.1.trans h.1.symm) C.2.2.2.1 (C.2.2.2.2.1 _ hl) (C.2.2.2.2.1 _ hs) (C.2.2.2.2.1 _ hi) (C.2.2.2.2.1 _ hc) hframes hlocals hca hsl hdg (by
    have he : (if 0 ≤ zI a then zI a else 0 - zI a) = zI (if 0 ≤ a then a else -a) := by
      by_cases hlt : 0 ≤ a
      · rw [if_pos hlt, if_pos (show (0 : Int32) ≤ zI a from (zI_le (a := 0) ⟨by decide, by decide⟩ ha).mpr hlt)]
      · rw [if_neg hlt, if_neg (show ¬ (0 : Int32) ≤ zI a from fun q => hlt ((zI_le (a := 0) ⟨by decide, by decide⟩ ha).mp q)), show -a = 0 - a by omega, zI_sub, zI_0]
    rw [he]
    exact kk ls locs h hS)
theorem j_labs (C : Cx G p s m args meth c cc nL own Ts) {index : Nat} {a : Int} (hl : Cond.methodLink own index Lib.MathLoose.abs_long.x ∈ Ts) (hs : Cond.static Lib.MathLoose.abs_long.x ∈ Ts) (hi : Cond.initialized "java/lang/Math" ∈ Ts) (hc : Cond.code Lib.MathLoose.abs_long.x Lib.MathLoose.abs_long.code 2 (some .long) ∈ Ts) (hframes : 1 ≤ R.frames) (hlocals : (st.map fun v => v.category).sum + 13 ≤ R.locals) (hca : ca ≤ R.cells) (hsl : sl ≤ R.slots) (ha : lR a) (hdg : decode cc pc = .ok (.invokestatic index, 3)) (kk : JJ p l e R s m args below meth c Q A nL H ca sl (pc + 3) lv (.long (zL (if 0 < a then a else -a)) :: st)) : JJ p l e R s m args below meth c Q A nL H ca sl pc lv (.long (zL a) :: st) := fun ls locs h hS =>
  va_mabs_long C.1 C.2.1 (C.2.2.1.trans h.1.symm) C.2.2.2.1 (C.2.2.2.2.1 _ hl) (C.2.2.2.2.1 _ hs) (C.2.2.2.2.1 _ hi) (C.2.2.2.2.1 _ hc) hframes hlocals hca hsl hdg (by
    have he : (if 0 < zL a then zL a else -zL a) = zL (if 0 < a then a else -a) := by
      have h0 : zL 0 = 0 := rfl
      by_cases hlt : 0 < a
      · rw [if_pos hlt, if_pos (by rw [← h0]; exact (zL_lt (a := 0) ⟨by decide, by decide⟩ ha).mpr hlt)]
      · rw [if_neg hlt, if_neg (fun q => hlt ((zL_lt (a := 0) ⟨by decide, by decide⟩ ha).mp (by rw [h0]; exact q))), zL_neg]
    rw [he]
    exact kk ls locs h hS)
theorem zL_le {a b : Int} (ha : lR a) (hb : lR b) : zL a ≤ zL b ↔ a ≤ b := by rw [Int64.le_iff_toInt_le, zL_toInt ha, zL_toInt hb]
end
theorem hsP_nonneg {q : Q4} (h : LQ 23 q) (hs : hsP q) : 0 ≤ sA q := by
  have h1 := h.1.b23
  have h2 := (sAB_b h).2.2.1
  have h3 : 0 ≤ q.2.1 * sB q := Int.mul_nonneg (by omega) h2
  have h4 := hs.2.1
  have p3 := two_pow_pos q.1.toNat
  rcases Int.lt_or_le (sA q) 0 with g | g
  · have : sA q * 2 ^ q.1.toNat < 0 := Int.mul_neg_of_neg_of_pos g (by omega)
    omega
  · exact g
theorem gcdF_0 {u : Int} (h : 0 ≤ u) : gcdF u 0 = u := by
  unfold gcdF
  rw [show (0 : Int).toNat = 0 from rfl, Nat.gcd_zero_right]
  omega
theorem gcd_step {u v : Int} (h0 : 0 ≤ u) (h1 : 0 ≤ v) (h2 : v ≠ 0) : gcdF v (u % v) = gcdF u v := by
  unfold gcdF
  obtain ⟨m, rfl⟩ := Int.eq_ofNat_of_zero_le h0
  obtain ⟨n, rfl⟩ := Int.eq_ofNat_of_zero_le h1
  rw [← Int.natCast_emod, Int.toNat_natCast, Int.toNat_natCast, Int.toNat_natCast, Nat.gcd_comm m n, Nat.gcd_rec n m, Nat.gcd_comm]
theorem gcdF_pos {a b : Int} (h0 : 0 ≤ a) (h1 : 0 < b) : 0 < gcdF a b ∧ gcdF a b ≤ b := by
  unfold gcdF
  have h2 : 0 < Nat.gcd a.toNat b.toNat := Nat.gcd_pos_of_pos_right _ (by omega)
  have h3 : Nat.gcd a.toNat b.toNat ≤ b.toNat := Nat.gcd_le_right _ (by omega)
  omega
theorem gcd_bound {u v n : Int} (hn : 0 ≤ n) (hu : (0 ≤ u ∧ u ≤ 8388608) ∧ (0 ≤ v ∧ v ≤ 8388608)) (hw : n = 0 ∨ (1 ≤ n ∧ v < u ∧ u * v * 2 ^ (n - 1).toNat ≤ 70368744177664)) (hv : v ≠ 0) : n + 1 = 0 ∨ (1 ≤ n + 1 ∧ u % v < v ∧ v * (u % v) * 2 ^ (n + 1 - 1).toNat ≤ 70368744177664) := by
  have hr1 := Int.emod_nonneg u hv
  have hr2 := Int.emod_lt_of_pos u (show 0 < v by omega)
  refine Or.inr ⟨by omega, hr2, ?_⟩
  rcases hw with rfl | ⟨h1, h2, h3⟩
  · have h4 := (mul_b (a := v) (b := u % v) (A := 8388608) (B := 8388608) (by omega) (by omega) (by omega) (by omega) (by omega)).2
    rw [show (0 + 1 - 1 : Int).toNat = 0 from rfl, Int.pow_zero, Int.mul_one]
    omega
  · have hd := Int.mul_ediv_add_emod u v
    have hq : 1 ≤ u / v := by
      rcases Int.lt_or_le (u / v) 1 with g | g
      · have hq0 : 0 ≤ u / v := Int.ediv_nonneg hu.1.1 hu.2.1
        have : u / v = 0 := by omega
        rw [this, Int.mul_zero] at hd
        omega
      · exact g
    have hq2 : v * 1 ≤ v * (u / v) := Int.mul_le_mul_of_nonneg_left hq hu.2.1
    have h5 : 2 * (u % v) ≤ u := by omega
    have h6 : v * (2 * (u % v)) ≤ v * u := Int.mul_le_mul_of_nonneg_left h5 hu.2.1
    have hp := two_pow_pos (n - 1).toNat
    have h7 : v * (2 * (u % v)) * 2 ^ (n - 1).toNat ≤ v * u * 2 ^ (n - 1).toNat := Int.mul_le_mul_of_nonneg_right h6 (by omega)
    have e1 : v * (u % v) * 2 ^ (n + 1 - 1).toNat = v * (2 * (u % v)) * 2 ^ (n - 1).toNat := by
      rw [show (n + 1 - 1).toNat = (n - 1).toNat + 1 by omega, Int.pow_succ]
      simp only [Int.mul_assoc, Int.mul_left_comm, Int.mul_comm]
    rw [e1]
    rw [Int.mul_comm v u] at h7
    omega
theorem gcd_end {u v n : Int} (hn : 0 ≤ n ∧ n ≤ 100) (hu : (0 ≤ u ∧ u ≤ 8388608) ∧ (0 ≤ v ∧ v ≤ 8388608)) (hw : n = 0 ∨ (1 ≤ n ∧ v < u ∧ u * v * 2 ^ (n - 1).toNat ≤ 70368744177664)) (h : n = 100 ∨ v = 0) : v = 0 := by
  rcases h with h | h
  · rcases hw with g | ⟨h1, h2, h3⟩
    · omega
    · subst h
      rcases Int.lt_or_eq_of_le hu.2.1 with g | g
      · have h4 : 1 * 1 ≤ u * v := Int.mul_le_mul (by omega) (by omega) (by omega) (by omega)
        have h5 : 1 * (2 : Int) ^ (100 - 1 : Int).toNat ≤ u * v * 2 ^ (100 - 1 : Int).toNat := Int.mul_le_mul_of_nonneg_right (by omega) (by decide)
        have h6 : (70368744177664 : Int) < 1 * 2 ^ (100 - 1 : Int).toNat := by decide
        omega
      · exact g.symm
  · exact h
theorem lowF_0 {d c : Int} (h : d = 0) : lowF d.toNat c = (d, c) := by subst h; rfl
theorem lowF_t {d c : Int} (h : 0 < d) (hc : c % 2 = 0) : lowF (d + -1).toNat (c / 2) = lowF d.toNat c := by
  rw [show d.toNat = (d + -1).toNat + 1 by omega]
  conv => rhs; unfold lowF
  rw [if_pos hc]
theorem lowF_f {d c : Int} (h : 0 < d) (hc : c % 2 ≠ 0) : lowF d.toNat c = (d, c) := by
  rw [show d.toNat = (d - 1).toNat + 1 by omega]
  unfold lowF
  rw [if_neg hc, show (((d - 1).toNat : Nat) : Int) + 1 = d by omega]
/-! counting -/
noncomputable def cntK (maps : Int → List Q4) (w : Int) : Nat → Int
  | 0 => 0
  | n + 1 => cntK maps w n + if thP maps (n : Int) ∧ kindF (maps (n : Int)) = w then 1 else 0
theorem cntK_s {maps : Int → List Q4} {w i : Int} (h : 0 ≤ i) : cntK maps w (i + 1).toNat = cntK maps w i.toNat + if thP maps i ∧ kindF (maps i) = w then 1 else 0 := by
  rw [show (i + 1).toNat = i.toNat + 1 by omega]
  show cntK maps w i.toNat + _ = _
  rw [show ((i.toNat : Nat) : Int) = i by omega]
theorem cntK_b (maps : Int → List Q4) (w : Int) (n : Nat) : 0 ≤ cntK maps w n ∧ cntK maps w n ≤ n := by
  induction n with
  | zero => exact ⟨Int.le_refl _, Int.le_refl _⟩
  | succ n ih =>
    show 0 ≤ cntK maps w n + _ ∧ cntK maps w n + _ ≤ _
    split <;> omega
theorem kindF_b (L : List Q4) : 0 ≤ kindF L ∧ kindF L ≤ 2 := by
  unfold kindF
  split
  · omega
  · split <;> omega
def steep (q : Q4) : Int := q.1 - q.2.2.1
abbrev stP (q : Q4) : Prop := q.1 = q.2.2.1 ∧ q.2.1 = q.2.2.2
def stC (L : List Q4) : Int := ((L.countP (fun q => decide (stP q)) : Nat) : Int)
def hsC (L : List Q4) : Int := ((L.countP (fun q => decide (hsP q)) : Nat) : Int)
theorem stC_s {L : List Q4} {i : Int} (h0 : 0 ≤ i) (h1 : i < L.length) : stC (L.take (i + 1).toNat) = stC (L.take i.toNat) + if stP (qat L i) then 1 else 0 := by
  unfold stC
  rw [take_q L h0 h1, List.countP_append, List.countP_singleton]
  by_cases h : stP (qat L i)
  · rw [if_pos h, if_pos (by simpa using h)]; omega
  · rw [if_neg h, if_neg (by simpa using h)]; omega
theorem hsC_s {L : List Q4} {i : Int} (h0 : 0 ≤ i) (h1 : i < L.length) : hsC (L.take (i + 1).toNat) = hsC (L.take i.toNat) + if hsP (qat L i) then 1 else 0 := by
  unfold hsC
  rw [take_q L h0 h1, List.countP_append, List.countP_singleton]
  by_cases h : hsP (qat L i)
  · rw [if_pos h, if_pos (by simpa using h)]; omega
  · rw [if_neg h, if_neg (by simpa using h)]; omega
def partF (q : Q4) (w : Int) : Int := (if w = 0 then sA q else sB q) / gcdF (sA q) (sB q)
def ptG : List Q4 → Int → Int → Int
  | [], _, _ => -1
  | q :: T, k, w => if hsP q then (if k = 0 then partF q w else ptG T (k - 1) w) else ptG T k w
noncomputable def dgM (maps : Int → List Q4) : Nat → Int
  | 0 => 167
  | n + 1 => hmix (31 * dgM maps n + (if thP maps (n : Int) then ((maps (n : Int)).length : Int) else -1)) (maps (n : Int))
theorem dgM_s {maps : Int → List Q4} {i : Int} (h : 0 ≤ i) : dgM maps (i + 1).toNat = hmix (31 * dgM maps i.toNat + (if thP maps i then ((maps i).length : Int) else -1)) (maps i) := by
  rw [show (i + 1).toNat = i.toNat + 1 by omega]
  show hmix _ _ = _
  rw [show ((i.toNat : Nat) : Int) = i by omega]
noncomputable def dgF (maps : Int → List Q4) (hand : List Q4) (sd sc : Int) : Int := 31 * (31 * hmix (dgM maps 12) hand + sd) + sc
theorem B_of_nil {maps : Int → List Q4} (hV : ∀ t : Int, 0 ≤ t → t < 12 → 1 ≤ (maps t).length → VM (maps t)) {t : Int} (h0 : 0 ≤ t) (h1 : t < 12) : ∀ q ∈ maps t, LQ 23 q := by
  intro q hq
  exact (hV t h0 h1 (List.length_pos_of_mem hq)).B q hq
theorem ptG_c (q : Q4) (T : List Q4) (k w : Int) : ptG (q :: T) k w = if hsP q then (if k = 0 then partF q w else ptG T (k - 1) w) else ptG T k w := rfl
