/-! a Pairs object and its four rows, which stand behind it -/
def PQ (G : Gx) (H : Heap) (a cap : Nat) (n : Int) (d c e b : Int → Int) : Prop := ob G a 2 [.ref (a + 1), .ref (a + 2), .ref (a + 3), .ref (a + 4), .int (zI n)] H ∧ ai G (a + 1) cap d H ∧ al G (a + 2) cap c H ∧ ai G (a + 3) cap e H ∧ al G (a + 4) cap b H
section
variable {G : Gx} {H H1 : Heap} {a cap : Nat} {n : Int} {d c e b : Int → Int}
theorem PQ.put_size {n' : Int} (h : PQ G H a cap n d c e b) (hO : ob G a 2 [.ref (a + 1), .ref (a + 2), .ref (a + 3), .ref (a + 4), .int (zI n')] H1) (hC : Chg a H H1) : PQ G H1 a cap n' d c e b := ⟨hO, h.2.1.kept (hC.2 _ (by omega)), h.2.2.1.kept (hC.2 _ (by omega)), h.2.2.2.1.kept (hC.2 _ (by omega)), h.2.2.2.2.kept (hC.2 _ (by omega))⟩
theorem PQ.put_d {d' : Int → Int} (h : PQ G H a cap n d c e b) (hR : ai G (a + 1) cap d' H1) (hC : Chg (a + 1) H H1) : PQ G H1 a cap n d' c e b := ⟨h.1.kept (hC.2 _ (by show a ≠ a + 1; omega)), hR, h.2.2.1.kept (hC.2 _ (by omega)), h.2.2.2.1.kept (hC.2 _ (by omega)), h.2.2.2.2.kept (hC.2 _ (by omega))⟩
theorem PQ.put_c {c' : Int → Int} (h : PQ G H a cap n d c e b) (hR : al G (a + 2) cap c' H1) (hC : Chg (a + 2) H H1) : PQ G H1 a cap n d c' e b := ⟨h.1.kept (hC.2 _ (by show a ≠ a + 2; omega)), h.2.1.kept (hC.2 _ (by omega)), hR, h.2.2.2.1.kept (hC.2 _ (by omega)), h.2.2.2.2.kept (hC.2 _ (by omega))⟩
theorem PQ.put_e {e' : Int → Int} (h : PQ G H a cap n d c e b) (hR : ai G (a + 3) cap e' H1) (hC : Chg (a + 3) H H1) : PQ G H1 a cap n d c e' b := ⟨h.1.kept (hC.2 _ (by show a ≠ a + 3; omega)), h.2.1.kept (hC.2 _ (by omega)), h.2.2.1.kept (hC.2 _ (by omega)), hR, h.2.2.2.2.kept (hC.2 _ (by omega))⟩
theorem PQ.put_b {b' : Int → Int} (h : PQ G H a cap n d c e b) (hR : al G (a + 4) cap b' H1) (hC : Chg (a + 4) H H1) : PQ G H1 a cap n d c e b' := ⟨h.1.kept (hC.2 _ (by show a ≠ a + 4; omega)), h.2.1.kept (hC.2 _ (by omega)), h.2.2.1.kept (hC.2 _ (by omega)), h.2.2.2.1.kept (hC.2 _ (by omega)), hR⟩
theorem PQ.kept (h : PQ G H a cap n d c e b) (hq : ∀ q : Nat, a ≤ q → q < a + 5 → H1[q]? = H[q]?) : PQ G H1 a cap n d c e b := ⟨h.1.kept (hq _ (by show a ≤ a; omega) (by show a < a + 5; omega)), h.2.1.kept (hq _ (by omega) (by omega)), h.2.2.1.kept (hq _ (by omega) (by omega)), h.2.2.2.1.kept (hq _ (by omega) (by omega)), h.2.2.2.2.kept (hq _ (by omega) (by omega))⟩
theorem PQ.lt (h : PQ G H a cap n d c e b) : a + 4 < H.size := h.2.2.2.2.lt
theorem PQ.chg {x : Nat} (h : PQ G H a cap n d c e b) (hC : Chg x H H1) (hx : x < a ∨ a + 5 ≤ x) : PQ G H1 a cap n d c e b := h.kept (fun q h1 h2 => hC.2 q (by omega))
theorem PQ.frm {A : Nat → Prop} (h : PQ G H a cap n d c e b) (hF : Frm A H H1) (hA : ∀ q : Nat, a ≤ q → q < a + 5 → ¬ A q) : PQ G H1 a cap n d c e b := h.kept (fun q h1 h2 => hF.2 q (by have := h.lt; omega) (hA q h1 h2))
theorem PQ.grw {x : Nat} (h : PQ G H a cap n d c e b) (g : Grw x H H1) (hx : a + 4 < x) : PQ G H1 a cap n d c e b := h.kept (fun q h1 h2 => g.2 q (by omega))
theorem PQ.capR (h : PQ G H a cap n d c e b) : (cap : Int) < 2147483648 := h.2.1.1
end
section
variable {G : Gx} {p : Program} {l : Launch} {e : Env} {R : Room} {s : State} {m : MethodId} {args : Array Value} {below : List Frame} {meth : Method} {c : Code} {Q : State → Prop} {A : Nat → Prop} {cc : ByteArray} {nL : Nat} {own : String} {Ts : List Cond} {H : Heap} {ca sl pc : Nat} {lv : List (Nat × Value)} {st : List Value}
theorem j_tswIn (C : Cx G p s m args meth c cc nL own Ts) {dflt lo hi x off : Int} {offs : Array Int} {len tgt : Nat} (hdg : decode cc pc = .ok (.tableswitch dflt lo hi offs, len)) (hx : iR x) (h1 : lo ≤ x) (h2 : x ≤ hi) (ho : offs[(x - lo).toNat]? = some off) (ht : (pc : Int) + off = (tgt : Int)) (k : JJ p l e R s m args below meth c Q A nL H ca sl tgt lv st) : JJ p l e R s m args below meth c Q A nL H ca sl pc lv (.int (zI x) :: st) := fun ls locs h hS =>
  lv_tableIn C.1 C.2.1 hdg (by rw [zI_toInt hx]; omega) (by rw [zI_toInt hx]; omega) (by rw [zI_toInt hx]; exact ho) ht (k ls locs h hS)
theorem j_tswOut (C : Cx G p s m args meth c cc nL own Ts) {dflt lo hi x : Int} {offs : Array Int} {len tgt : Nat} (hdg : decode cc pc = .ok (.tableswitch dflt lo hi offs, len)) (hx : iR x) (h1 : x < lo ∨ hi < x) (ht : (pc : Int) + dflt = (tgt : Int)) (k : JJ p l e R s m args below meth c Q A nL H ca sl tgt lv st) : JJ p l e R s m args below meth c Q A nL H ca sl pc lv (.int (zI x) :: st) := fun ls locs h hS =>
  lv_tableOut C.1 C.2.1 hdg (by rw [zI_toInt hx]; exact h1) ht (k ls locs h hS)
theorem j_objinit (C : Cx G p s m args meth c cc nL own Ts) {idx a : Nat} (hl : Cond.methodLink own idx Lib.objectInit ∈ Ts) (hi : Cond.instanceMethod Lib.objectInit ∈ Ts) (hc : Cond.code Lib.objectInit ⟨#[0xb1]⟩ 1 none ∈ Ts) (hframes : 1 ≤ R.frames) (hlocals : (st.map fun v => v.category).sum + 12 ≤ R.locals) (hdg : decode cc pc = .ok (.invokespecial idx, 3)) (kk : JJ p l e R s m args below meth c Q A nL H ca sl (pc + 3) lv st) : JJ p l e R s m args below meth c Q A nL H ca sl pc lv (.ref a :: st) := fun ls locs h hS =>
  W.objInit C.1 C.2.1 C.2.2.2.1 (C.2.2.2.2.1 _ hl) (C.2.2.2.2.1 _ hi) (C.2.2.2.2.1 _ hc) rfl (by rw [C.2.2.1]; exact h.1) rfl hdg hframes (by show 2 * 0 + _ + 12 ≤ _; omega) (kk ls locs h hS)
end
/-! quadruples: a pair of leaves (d, c) onto (e, b); lists of them -/
abbrev Q4 : Type := Int × Int × Int × Int
def Lf (N d c : Int) : Prop := 0 ≤ d ∧ d ≤ N ∧ 0 ≤ c ∧ c < 2 ^ d.toNat
def LQ (N : Int) (q : Q4) : Prop := Lf N q.1 q.2.1 ∧ Lf N q.2.2.1 q.2.2.2
def qat (L : List Q4) (i : Int) : Q4 := L.getD i.toNat (0, 0, 0, 0)
theorem pow_le_pow2 {m n : Nat} (h : m ≤ n) : (2 : Int) ^ m ≤ 2 ^ n := by
  have h1 : 2 ^ m ≤ 2 ^ n := Nat.pow_le_pow_right (by decide) h
  have e1 : (2 ^ m : Int) = ((2 ^ m : Nat) : Int) := by simp
  have e2 : (2 ^ n : Int) = ((2 ^ n : Nat) : Int) := by simp
  omega
theorem Lf.b46 {d c : Int} (h : Lf 46 d c) : 0 ≤ d ∧ d ≤ 46 ∧ 0 ≤ c ∧ c < 70368744177664 := by
  obtain ⟨h1, h2, h3, h4⟩ := h
  have := pow_le_pow2 (m := d.toNat) (n := 46) (by omega)
  exact ⟨h1, h2, h3, Int.lt_of_lt_of_le h4 this⟩
theorem Lf.b23 {d c : Int} (h : Lf 23 d c) : 0 ≤ d ∧ d ≤ 23 ∧ 0 ≤ c ∧ c < 8388608 := by
  obtain ⟨h1, h2, h3, h4⟩ := h
  have := pow_le_pow2 (m := d.toNat) (n := 23) (by omega)
  exact ⟨h1, h2, h3, Int.lt_of_lt_of_le h4 this⟩
theorem Lf.st {d c : Int} (h : Lf 23 d c) : 0 ≤ c * 2 ^ (23 - d).toNat ∧ c * 2 ^ (23 - d).toNat < 8388608 ∧ 0 ≤ (c + 1) * 2 ^ (23 - d).toNat ∧ (c + 1) * 2 ^ (23 - d).toNat ≤ 8388608 ∧ c * 2 ^ (23 - d).toNat < (c + 1) * 2 ^ (23 - d).toNat := by
  obtain ⟨h1, h2, h3, h4⟩ := h
  have e : (2 : Int) ^ d.toNat * 2 ^ (23 - d).toNat = 8388608 := by
    rw [← Int.pow_add, show d.toNat + (23 - d).toNat = 23 by omega]
    rfl
  have hp : (1 : Int) ≤ 2 ^ (23 - d).toNat := two_pow_pos _
  have h5 : (c + 1) * 2 ^ (23 - d).toNat ≤ 2 ^ d.toNat * 2 ^ (23 - d).toNat := Int.mul_le_mul_of_nonneg_right (by omega) (by omega)
  have h6 : 0 ≤ c * 2 ^ (23 - d).toNat := Int.mul_nonneg h3 (by omega)
  have h7 : (c + 1) * 2 ^ (23 - d).toNat = c * 2 ^ (23 - d).toNat + 2 ^ (23 - d).toNat := by rw [Int.add_mul, Int.one_mul]
  omega
theorem Lf.mono {N M d c : Int} (h : Lf N d c) (hN : N ≤ M) : Lf M d c := ⟨h.1, by have := h.2.1; omega, h.2.2⟩
theorem LQ.mono {N M : Int} {q : Q4} (h : LQ N q) (hN : N ≤ M) : LQ M q := ⟨h.1.mono hN, h.2.mono hN⟩
/-- the rows hold the list -/
def Rp (L : List Q4) (d c e b : Int → Int) : Prop := ∀ i : Int, 0 ≤ i → i < L.length → qat L i = (d i, c i, e i, b i)
def PL (G : Gx) (H : Heap) (a cap : Nat) (L : List Q4) : Prop := ∃ d c e b : Int → Int, PQ G H a cap (L.length : Int) d c e b ∧ Rp L d c e b ∧ L.length ≤ cap
theorem PL.kept {G : Gx} {H H1 : Heap} {a cap : Nat} {L : List Q4} (h : PL G H a cap L) (hq : ∀ q : Nat, a ≤ q → q < a + 5 → H1[q]? = H[q]?) : PL G H1 a cap L := by
  obtain ⟨d, c, e, b, h1, h2⟩ := h
  exact ⟨d, c, e, b, h1.kept hq, h2⟩
theorem PL.lt {G : Gx} {H : Heap} {a cap : Nat} {L : List Q4} (h : PL G H a cap L) : a + 4 < H.size := by
  obtain ⟨d, c, e, b, h1, h2⟩ := h
  exact h1.lt
theorem PL.chg {G : Gx} {H H1 : Heap} {a cap : Nat} {L : List Q4} {x : Nat} (h : PL G H a cap L) (hC : Chg x H H1) (hx : x < a ∨ a + 5 ≤ x) : PL G H1 a cap L := h.kept (fun q h1 h2 => hC.2 q (by omega))
theorem PL.frm {G : Gx} {H H1 : Heap} {a cap : Nat} {L : List Q4} {A : Nat → Prop} (h : PL G H a cap L) (hF : Frm A H H1) (hA : ∀ q : Nat, a ≤ q → q < a + 5 → ¬ A q) : PL G H1 a cap L := h.kept (fun q h1 h2 => hF.2 q (by have := h.lt; omega) (hA q h1 h2))
theorem PL.grw {G : Gx} {H H1 : Heap} {a cap : Nat} {L : List Q4} {x : Nat} (h : PL G H a cap L) (g : Grw x H H1) (hx : a + 4 < x) : PL G H1 a cap L := h.kept (fun q h1 h2 => g.2 q (by omega))
theorem qat_app_lt {L M : List Q4} {i : Int} (h0 : 0 ≤ i) (h : i < L.length) : qat (L ++ M) i = qat L i := by
  unfold qat
  rw [List.getD_eq_getElem?_getD, List.getD_eq_getElem?_getD, List.getElem?_append_left (by omega)]
theorem qat_app_at {L M : List Q4} {q : Q4} {i : Int} (h : i = L.length) : qat (L ++ q :: M) i = q := by
  subst h
  unfold qat
  rw [List.getD_eq_getElem?_getD, List.getElem?_append_right (by omega)]
  simp
theorem Rp.app {L : List Q4} {d c e b : Int → Int} {x y z w n : Int} (h : Rp L d c e b) (hn : n = L.length) : Rp (L ++ [(x, y, z, w)]) (iup d n x) (iup c n y) (iup e n z) (iup b n w) := by
  intro i h0 h1
  by_cases hi : i = n
  · subst hi
    rw [qat_app_at hn, iup_s, iup_s, iup_s, iup_s]
  · simp only [List.length_append, List.length_cons, List.length_nil] at h1
    rw [qat_app_lt h0 (by omega), iup_n hi, iup_n hi, iup_n hi, iup_n hi]
    exact h i h0 (by omega)
theorem Rp.take {L : List Q4} {d c e b : Int → Int} (h : Rp L d c e b) {k : Nat} (hk : k ≤ L.length) : Rp (L.take k) d c e b := by
  intro i h0 h1
  rw [List.length_take] at h1
  have e : qat (L.take k) i = qat L i := by
    unfold qat
    rw [List.getD_eq_getElem?_getD, List.getD_eq_getElem?_getD, List.getElem?_take_of_lt (by omega)]
  rw [e]
  exact h i h0 (by omega)
theorem qat_mem {L : List Q4} {i : Int} (h0 : 0 ≤ i) (h : i < L.length) : qat L i ∈ L := by
  unfold qat
  rw [List.getD_eq_getElem?_getD, List.getElem?_eq_getElem (by omega)]
  exact List.getElem_mem _
theorem Rp.bnd {L : List Q4} {d c e b : Int → Int} {N : Int} (h : Rp L d c e b) (hB : ∀ q ∈ L, LQ N q) {i : Int} (h0 : 0 ≤ i) (h1 : i < L.length) : Lf N (d i) (c i) ∧ Lf N (e i) (b i) := by
  have := hB _ (qat_mem h0 h1)
  rw [h i h0 h1] at this
  exact this
section
variable {G : Gx} {p : Program} {l : Launch} {e : Env} {R : Room} {s : State} {m : MethodId} {args : Array Value} {below : List Frame} {meth : Method} {c : Code} {Q : State → Prop} {A : Nat → Prop} {cc : ByteArray} {nL : Nat} {own : String} {Ts : List Cond} {H : Heap} {ca sl pc : Nat} {lv : List (Nat × Value)} {st : List Value}
theorem j_alenI (C : Cx G p s m args meth c cc nL own Ts) {q n : Nat} {f : Int → Int} (hat : ai G q n f H) (hdg : decode cc pc = .ok (.arraylength, 1)) (kk : JJ p l e R s m args below meth c Q A nL H ca sl (pc + 1) lv (.int (zI (n : Int)) :: st)) : JJ p l e R s m args below meth c Q A nL H ca sl pc lv (.ref q :: st) := fun ls locs h hS =>
  va_alen C.1 C.2.1 C.2.2.2.2.2.2.1 (one_P hat.2) 0 0 rfl rfl (v := zI (n : Int)) (by show Int32.ofNat n = Int32.ofInt (n : Int); rw [Int32.ofInt_eq_ofNat]) hdg (kk ls locs h hS)
theorem j_alenP (C : Cx G p s m args meth c cc nL own Ts) {q n : Nat} {f : Int → Option Nat} (hat : ap G q n f H) (hdg : decode cc pc = .ok (.arraylength, 1)) (kk : JJ p l e R s m args below meth c Q A nL H ca sl (pc + 1) lv (.int (zI (n : Int)) :: st)) : JJ p l e R s m args below meth c Q A nL H ca sl pc lv (.ref q :: st) := fun ls locs h hS =>
  va_alen C.1 C.2.1 C.2.2.2.2.2.2.1 (one_P hat.2) 0 2 rfl rfl (v := zI (n : Int)) (by show Int32.ofNat n = Int32.ofInt (n : Int); rw [Int32.ofInt_eq_ofNat]) hdg (kk ls locs h hS)
theorem j_mmax (C : Cx G p s m args meth c cc nL own Ts) {index : Nat} {a b : Int} (hl : Cond.methodLink own index Lib.Math.max.name ∈ Ts) (hs : Cond.static Lib.Math.max.name ∈ Ts) (hi : Cond.initialized "java/lang/Math" ∈ Ts) (hc : Cond.code Lib.Math.max.name Lib.Math.max.code 2 (some .int) ∈ Ts) (hframes : 1 ≤ R.frames) (hlocals : (st.map fun v => v.category).sum + 13 ≤ R.locals) (hca : ca ≤ R.cells) (hsl : sl ≤ R.slots) (ha : iR a) (hb : iR b) (hdg : decode cc pc = .ok (.invokestatic index, 3)) (kk : JJ p l e R s m args below meth c Q A nL H ca sl (pc + 3) lv (.int (zI (if a < b then b else a)) :: st)) : JJ p l e R s m args below meth c Q A nL H ca sl pc lv (.int (zI b) :: .int (zI a) :: st) := fun ls locs h hS =>
  va_mmax C.1 C.2.1 (C.2.2.1.trans h.1.symm) C.2.2.2.1 (C.2.2.2.2.1 _ hl) (C.2.2.2.2.1 _ hs) (C.2.2.2.2.1 _ hi) (C.2.2.2.2.1 _ hc) hframes hlocals hca hsl hdg (by
    have he : (if zI a < zI b then zI b else zI a) = zI (if a < b then b else a) := by
      by_cases hlt : a < b
      · rw [if_pos hlt, if_pos ((zI_lt ha hb).mpr hlt)]
      · rw [if_neg hlt, if_neg (fun q => hlt ((zI_lt ha hb).mp q))]
    rw [he]
    exact kk ls locs h hS)
end
