/-! objects and arrays, one by one, in the heap itself -/
/-- an int row of n places, holding f -/
def ai (G : Gx) (q n : Nat) (f : Int → Int) (H : Heap) : Prop := (n : Int) < 2147483648 ∧ va_at G.1 vwCl (q, .inl (G.2.1, n, .inl (fun j : Nat => zI (f j)))) H
/-- a row of longs -/
def al (G : Gx) (q n : Nat) (f : Int → Int) (H : Heap) : Prop := (n : Int) < 2147483648 ∧ va_at G.1 vwCl (q, .inl (G.2.2.1, n, .inr (.inl (fun j : Nat => zL (f j))))) H
/-- a row of Pairs -/
def ap (G : Gx) (q n : Nat) (f : Int → Option Nat) (H : Heap) : Prop := (n : Int) < 2147483648 ∧ va_at G.1 vwCl (q, .inl (G.2.2.2.1, n, .inr (.inr (.inr (.inr (fun j : Nat => f j)))))) H
/-- a row of Objects -/
def ao (G : Gx) (q n : Nat) (f : Int → Option Nat) (H : Heap) : Prop := (n : Int) < 2147483648 ∧ va_at G.1 vwCl (q, .inl (G.2.2.2.2, n, .inr (.inr (.inr (.inr (fun j : Nat => f j)))))) H
abbrev ob (G : Gx) (a ci : Nat) (fs : List Value) (H : Heap) : Prop := va_at G.1 vwCl (a, .inr (ci, fs)) H
def iup {α : Type} (f : Int → α) (i : Int) (v : α) : Int → α := fun j => if j = i then v else f j
theorem iup_s {α : Type} {f : Int → α} {i : Int} {v : α} : iup f i v i = v := if_pos rfl
theorem iup_n {α : Type} {f : Int → α} {i j : Int} {v : α} (h : j ≠ i) : iup f i v j = f j := if_neg h
theorem ai.kept {G : Gx} {q n : Nat} {f : Int → Int} {H H1 : Heap} (h : ai G q n f H) (hq : H1[q]? = H[q]?) : ai G q n f H1 := ⟨h.1, h.2.kept hq⟩
theorem al.kept {G : Gx} {q n : Nat} {f : Int → Int} {H H1 : Heap} (h : al G q n f H) (hq : H1[q]? = H[q]?) : al G q n f H1 := ⟨h.1, h.2.kept hq⟩
theorem ap.kept {G : Gx} {q n : Nat} {f : Int → Option Nat} {H H1 : Heap} (h : ap G q n f H) (hq : H1[q]? = H[q]?) : ap G q n f H1 := ⟨h.1, h.2.kept hq⟩
theorem ao.kept {G : Gx} {q n : Nat} {f : Int → Option Nat} {H H1 : Heap} (h : ao G q n f H) (hq : H1[q]? = H[q]?) : ao G q n f H1 := ⟨h.1, h.2.kept hq⟩
theorem ai.lt {G : Gx} {q n : Nat} {f : Int → Int} {H : Heap} (h : ai G q n f H) : q < H.size := h.2.lt
theorem al.lt {G : Gx} {q n : Nat} {f : Int → Int} {H : Heap} (h : al G q n f H) : q < H.size := h.2.lt
theorem ap.lt {G : Gx} {q n : Nat} {f : Int → Option Nat} {H : Heap} (h : ap G q n f H) : q < H.size := h.2.lt
theorem ao.lt {G : Gx} {q n : Nat} {f : Int → Option Nat} {H : Heap} (h : ao G q n f H) : q < H.size := h.2.lt
theorem ob.lt {G : Gx} {a ci : Nat} {fs : List Value} {H : Heap} (h : ob G a ci fs H) : a < H.size := va_at.lt h
section
variable {G : Gx} {p : Program} {l : Launch} {e : Env} {R : Room} {s : State} {m : MethodId} {args : Array Value} {below : List Frame} {meth : Method} {c : Code} {Q : State → Prop} {A : Nat → Prop} {cc : ByteArray} {nL : Nat} {own : String} {Ts : List Cond} {H : Heap} {ca sl pc : Nat} {lv : List (Nat × Value)} {st : List Value}
theorem one_P {G : Gx} {q : Nat × va_E} {H : Heap} (h : va_at G.1 vwCl q H) : va_P G.1 vwCl [q] H := by
  intro k x hx
  cases k with
  | zero => cases hx; exact h
  | succ k => simp at hx
theorem j_get (C : Cx G p s m args meth c cc nL own Ts) {ref Cn : String} {T : u_T} {N ci index a : Nat} {fs : List Value} {v : Value} (hin : ∀ w ∈ u_ws Cn T N, w ∈ Ts) (hat : ob G a ci fs H) (k : Nat) (hk : k < N) (hc : vwCl[ci]? = some (Cn, T, N)) (hlink : Cond.fieldLink own index ref (T k).2.1 (T k).2.2.1 ∈ Ts) (href : (T k).1 = ref) (hv : fs[k]? = some v) (hdg : decode cc pc = .ok (.getfield index, 3))
    (kk : JJ p l e R s m args below meth c Q A nL H ca sl (pc + 3) lv (v :: st)) : JJ p l e R s m args below meth c Q A nL H ca sl pc lv (.ref a :: st) := fun ls locs h hS =>
  va_get (D := G.1) C.1 C.2.1 C.2.2.2.2.1 hin C.2.2.2.1 C.2.2.2.2.2.2.1 (one_P hat) 0 rfl hc k hk (C.2.2.2.2.1 _ hlink) (fun x hx => by rw [← href]; exact hx) hv hdg (kk ls locs h hS)
theorem j_put (C : Cx G p s m args meth c cc nL own Ts) {ref Cn : String} {T : u_T} {N ci index a : Nat} {fs fs' : List Value} {v : Value} {ty : FieldType} (ty0 : Nat → FieldType) (hty : ∀ k, k < N → parseFieldDescriptor (T k).2.2.1 = some (ty0 k)) (hnm : ∀ a, a < N → ∀ b, b < N → a ≠ b → (T a).2.1 ≠ (T b).2.1) (hin : ∀ w ∈ u_ws Cn T N, w ∈ Ts) (hat : ob G a ci fs H) (k : Nat) (hk : k < N) (hc : vwCl[ci]? = some (Cn, T, N)) (hlink : Cond.fieldLink own index ref (T k).2.1 (T k).2.2.1 ∈ Ts) (href : (T k).1 = ref) (hfin : (T k).2.2.2 = false) (hd : parseFieldDescriptor (T k).2.2.1 = some ty) (hn : narrow ty v = v) (hfit : fits ty v = true) (hl : k < fs.length) (hfs : fs.set k v = fs') (hA : A a) (hdg : decode cc pc = .ok (.putfield index, 3))
    (kk : ∀ H1 : Heap, ob G a ci fs' H1 → Chg a H H1 → JJ p l e R s m args below meth c Q A nL H1 ca sl (pc + 3) lv st) : JJ p l e R s m args below meth c Q A nL H ca sl pc lv (v :: .ref a :: st) := by
  intro ls locs h hS0
  subst hfs
  have hts := C.2.2.2.2.1
  have hK := C.2.2.2.2.2.2.1
  have hap := va_apart (own := own) hts hin ty0 hty hnm hK hc
  obtain ⟨r, h1, cell, q1, q2, q3, q4⟩ := hat
  have hr : r = (Cn, T, N) := Option.some.inj (h1.symm.trans hc)
  subst hr
  obtain ⟨hS, hfc, kC, hkC, hkind⟩ := hK.1 ci _ hc
  obtain ⟨cf, kf, fi, f, hi, hsl⟩ := hS k hk
  have hlay := hts _ (hin _ (u_in_lay hk))
  unfold u_lay at hlay
  rw [if_neg (by rw [hfin]; decide)] at hlay
  have hst := (u_facts hfc hkC (u_lays hts hin hk) hi).1
  have h6 := u_store hfc hkC hkind hlay hi hd hn hfit
  refine W.putK C.1 C.2.1 (f := f) ⟨C.2.2.2.1, hts _ hlink, ⟨_, _, _, by rw [← href]; exact hi⟩, hst⟩ (by rw [q2]; exact h6) q1 q3 (by rw [hsl]; exact k2_hasslot (q4 k hk)) rfl rfl hdg fun H' e1 e2 e3 => ?_
  rw [hsl] at e1 ⊢
  exact kk H' ⟨_, hc, t_OB.to (V := updV (vp_V fs) k v) ⟨_, e1, q2, q3, t_set q4 hap hk v⟩ (fun j _ => vp_updV_set hl v j)⟩ ⟨e2, e3⟩ ls _ h (hS0.put e2 e3 hA)
theorem j_putF (C : Cx G p s m args meth c cc nL own Ts) {ref Cn : String} {T : u_T} {N ci index a : Nat} {fs fs' : List Value} {v : Value} {ty : FieldType} (ty0 : Nat → FieldType) (hty : ∀ k, k < N → parseFieldDescriptor (T k).2.2.1 = some (ty0 k)) (hnm : ∀ a, a < N → ∀ b, b < N → a ≠ b → (T a).2.1 ≠ (T b).2.1) (hin : ∀ w ∈ u_ws Cn T N, w ∈ Ts) (hat : ob G a ci fs H) (k : Nat) (hk : k < N) (hc : vwCl[ci]? = some (Cn, T, N)) (hlink : Cond.fieldLink own index ref (T k).2.1 (T k).2.2.1 ∈ Ts) (href : (T k).1 = ref) (hfin : (T k).2.2.2 = true) (hin2 : meth.name = "<init>") (hdecl : (T k).1 = own) (hd : parseFieldDescriptor (T k).2.2.1 = some ty) (hn : narrow ty v = v) (hfit : fits ty v = true) (hl : k < fs.length) (hfs : fs.set k v = fs') (hA : A a) (hdg : decode cc pc = .ok (.putfield index, 3))
    (kk : ∀ H1 : Heap, ob G a ci fs' H1 → Chg a H H1 → JJ p l e R s m args below meth c Q A nL H1 ca sl (pc + 3) lv st) : JJ p l e R s m args below meth c Q A nL H ca sl pc lv (v :: .ref a :: st) := by
  intro ls locs h hS0
  subst hfs
  have hts := C.2.2.2.2.1
  have hK := C.2.2.2.2.2.2.1
  have hown := C.2.2.2.1
  have hap := va_apart (own := own) hts hin ty0 hty hnm hK hc
  obtain ⟨r, h1, cell, q1, q2, q3, q4⟩ := hat
  have hr : r = (Cn, T, N) := Option.some.inj (h1.symm.trans hc)
  subst hr
  obtain ⟨hS, hfc, kC, hkC, hkind⟩ := hK.1 ci _ hc
  obtain ⟨cf, kf, fi, f, hi, hsl⟩ := hS k hk
  have hlay := hts _ (hin _ (u_in_lay hk))
  unfold u_lay at hlay
  rw [if_pos hfin] at hlay
  have hst := (u_facts hfc hkC (u_lays hts hin hk) hi).1
  have hcf : m.cls = cf := by
    obtain ⟨_, _, c', _, _, _, -, -, hf', -, -, -, hown2, -⟩ := Cond.laysFinal_spec hlay
    have e1 : c' = cf := by have := hi.symm.trans hf'; simp at this; exact this.1.symm
    rw [hdecl] at hown2
    rw [← e1]; exact Option.some.inj (hown.symm.trans hown2)
  have h6 := u_fits hfc hkC hkind (Or.inr hlay) hi hd hn hfit
  refine W.putFinK C.1 C.2.1 hown (hts _ hlink) (by rw [← href]; exact hi) hst hcf hin2 (by rw [q2]; exact h6) q1 q3 (by rw [hsl]; exact k2_hasslot (q4 k hk)) rfl rfl hdg fun H' e1 e2 e3 => ?_
  rw [hsl] at e1 ⊢
  exact kk H' ⟨_, hc, t_OB.to (V := updV (vp_V fs) k v) ⟨_, e1, q2, q3, t_set q4 hap hk v⟩ (fun j _ => vp_updV_set hl v j)⟩ ⟨e2, e3⟩ ls _ h (hS0.put e2 e3 hA)
theorem j_iald (C : Cx G p s m args meth c cc nL own Ts) {q n : Nat} {f : Int → Int} {i : Int} (hat : ai G q n f H) (hi : 0 ≤ i ∧ i < (n : Int)) (hdg : decode cc pc = .ok (.iaload, 1)) (kk : JJ p l e R s m args below meth c Q A nL H ca sl (pc + 1) lv (.int (zI (f i)) :: st)) : JJ p l e R s m args below meth c Q A nL H ca sl pc lv (.int (zI i) :: .ref q :: st) := fun ls locs h hS =>
  va_iald C.1 C.2.1 C.2.2.2.2.2.2.1 (one_P hat.2) 0 0 rfl rfl (zI_in hi.1 hi.2 hat.1) hdg (by
    have he : ((zI i).toNatClampNeg : Int) = i := by rw [zI_clamp hi.1 (by have := hat.1; omega)]; exact Int.toNat_of_nonneg hi.1
    show W p l e R s m args below meth c H locs ca sl Q (F0 m (pc + 1) ls (.int (zI (f ((zI i).toNatClampNeg : Int))) :: st))
    rw [he]
    exact kk ls locs h hS)
theorem j_lald (C : Cx G p s m args meth c cc nL own Ts) {q n : Nat} {f : Int → Int} {i : Int} (hat : al G q n f H) (hi : 0 ≤ i ∧ i < (n : Int)) (hdg : decode cc pc = .ok (.laload, 1)) (kk : JJ p l e R s m args below meth c Q A nL H ca sl (pc + 1) lv (.long (zL (f i)) :: st)) : JJ p l e R s m args below meth c Q A nL H ca sl pc lv (.int (zI i) :: .ref q :: st) := fun ls locs h hS =>
  va_lald C.1 C.2.1 C.2.2.2.2.2.2.1 (one_P hat.2) 0 1 rfl rfl (zI_in hi.1 hi.2 hat.1) hdg (by
    have he : ((zI i).toNatClampNeg : Int) = i := by rw [zI_clamp hi.1 (by have := hat.1; omega)]; exact Int.toNat_of_nonneg hi.1
    show W p l e R s m args below meth c H locs ca sl Q (F0 m (pc + 1) ls (.long (zL (f ((zI i).toNatClampNeg : Int))) :: st))
    rw [he]
    exact kk ls locs h hS)
theorem j_aald (C : Cx G p s m args meth c cc nL own Ts) {q n a : Nat} {f : Int → Option Nat} {i : Int} (hat : ap G q n f H) (hi : 0 ≤ i ∧ i < (n : Int)) (hf : f i = some a) (hdg : decode cc pc = .ok (.aaload, 1)) (kk : JJ p l e R s m args below meth c Q A nL H ca sl (pc + 1) lv (.ref a :: st)) : JJ p l e R s m args below meth c Q A nL H ca sl pc lv (.int (zI i) :: .ref q :: st) := fun ls locs h hS =>
  va_aldq C.1 C.2.1 C.2.2.2.2.2.2.1 (one_P hat.2) 0 2 rfl rfl (zI_in hi.1 hi.2 hat.1) hdg (by
    have he : ((zI i).toNatClampNeg : Int) = i := by rw [zI_clamp hi.1 (by have := hat.1; omega)]; exact Int.toNat_of_nonneg hi.1
    show W p l e R s m args below meth c H locs ca sl Q (F0 m (pc + 1) ls (va_rf (f ((zI i).toNatClampNeg : Int)) :: st))
    rw [he, hf]
    exact kk ls locs h hS)
theorem j_iast (C : Cx G p s m args meth c cc nL own Ts) {q n : Nat} {f : Int → Int} {i v : Int} (hat : ai G q n f H) (hi : 0 ≤ i ∧ i < (n : Int)) (hA : A q) (hdg : decode cc pc = .ok (.iastore, 1)) (kk : ∀ H1 : Heap, ai G q n (iup f i v) H1 → Chg q H H1 → JJ p l e R s m args below meth c Q A nL H1 ca sl (pc + 1) lv st) : JJ p l e R s m args below meth c Q A nL H ca sl pc lv (.int (zI v) :: .int (zI i) :: .ref q :: st) := by
  intro ls locs h hS
  have hK := C.2.2.2.2.2.2.1
  have e : (zI i).toNatClampNeg = i.toNat := zI_clamp hi.1 (by have := hat.1; omega)
  refine W.iast C.1 C.2.1 hat.2 ((hK.2 0 _ rfl).1 n (fun j => .int (zI (f j)))) (fun q => by cases q) (by show ¬ (zI i < 0 ∨ (arrV _ _ _).slots.size ≤ _); rw [arrV_size]; exact zI_in hi.1 hi.2 hat.1) rfl rfl hdg fun H1 e1 z oq => ?_
  refine kk H1 ⟨hat.1, ?_⟩ ⟨z, oq⟩ ls _ h (hS.put z oq hA)
  show H1[q]? = some (vp_cell _ _)
  rw [e1]
  rw [vp_cell_i, vp_cell_i, arrV_store, e]
  congr 2
  funext j
  by_cases hj : j = i.toNat
  · subst hj
    simp only [updV, iup, if_true]
    rw [if_pos (Int.toNat_of_nonneg hi.1)]
  · simp only [updV, iup, if_neg hj]
    rw [if_neg (fun z => hj (by omega))]
theorem j_last (C : Cx G p s m args meth c cc nL own Ts) {q n : Nat} {f : Int → Int} {i v : Int} (hat : al G q n f H) (hi : 0 ≤ i ∧ i < (n : Int)) (hA : A q) (hdg : decode cc pc = .ok (.lastore, 1)) (kk : ∀ H1 : Heap, al G q n (iup f i v) H1 → Chg q H H1 → JJ p l e R s m args below meth c Q A nL H1 ca sl (pc + 1) lv st) : JJ p l e R s m args below meth c Q A nL H ca sl pc lv (.long (zL v) :: .int (zI i) :: .ref q :: st) := by
  intro ls locs h hS
  have hK := C.2.2.2.2.2.2.1
  have e : (zI i).toNatClampNeg = i.toNat := zI_clamp hi.1 (by have := hat.1; omega)
  refine W.last C.1 C.2.1 hat.2 ((hK.2 1 _ rfl).1 n (fun j => .long (zL (f j)))) (fun q => by cases q) (by show ¬ (zI i < 0 ∨ (arrV _ _ _).slots.size ≤ _); rw [arrV_size]; exact zI_in hi.1 hi.2 hat.1) rfl rfl hdg fun H1 e1 z oq => ?_
  refine kk H1 ⟨hat.1, ?_⟩ ⟨z, oq⟩ ls _ h (hS.put z oq hA)
  show H1[q]? = some (vp_cell _ _)
  rw [e1]
  rw [vp_cell_l, vp_cell_l, arrV_store, e]
  congr 2
  funext j
  by_cases hj : j = i.toNat
  · subst hj
    simp only [updV, iup, if_true]
    rw [if_pos (Int.toNat_of_nonneg hi.1)]
  · simp only [updV, iup, if_neg hj]
    rw [if_neg (fun z => hj (by omega))]
/-! the ends -/
theorem j_ireti (C : Cx G p s m args meth c cc nL own Ts) {P : Int → Prop} {mc ms : Nat} {v : Int} (hr : meth.sig.returnType = some .int) (hca : ca ≤ mc) (hsl : sl ≤ ms) (hq : P v) (hdg : decode cc pc = .ok (.ireturn, 1)) : JJ p l e R s m args below meth c (MQ below (qI P) args s mc ms A) A nL s.heap ca sl pc lv [.int (zI v)] := fun ls locs h hS =>
  W.widen hca hsl (W.iret C.1 C.2.1 hr (fun t ht _ => ⟨⟨v, rfl, hq⟩, ht⟩) hS.2.2 hdg C.2.2.2.2.2.1)
theorem j_zreti (C : Cx G p s m args meth c cc nL own Ts) {P : Int → Prop} {mc ms : Nat} {v : Int} (hr : meth.sig.returnType = some .boolean) (hca : ca ≤ mc) (hsl : sl ≤ ms) (hn : v = 0 ∨ v = 1) (hq : P v) (hdg : decode cc pc = .ok (.ireturn, 1)) : JJ p l e R s m args below meth c (MQ below (qI P) args s mc ms A) A nL s.heap ca sl pc lv [.int (zI v)] := fun ls locs h hS =>
  W.widen hca hsl (W.zret C.1 C.2.1 hr (by rcases hn with rfl | rfl <;> rfl) (fun t ht _ => ⟨⟨v, rfl, hq⟩, ht⟩) hS.2.2 hdg C.2.2.2.2.2.1)
theorem j_lretl (C : Cx G p s m args meth c cc nL own Ts) {P : Int → Prop} {mc ms : Nat} {v : Int} (hr : meth.sig.returnType = some .long) (hca : ca ≤ mc) (hsl : sl ≤ ms) (hq : P v) (hdg : decode cc pc = .ok (.lreturn, 1)) : JJ p l e R s m args below meth c (MQ below (qL P) args s mc ms A) A nL s.heap ca sl pc lv [.long (zL v)] := fun ls locs h hS =>
  W.widen hca hsl (W.lret C.1 C.2.1 hr (fun t ht _ => ⟨⟨v, rfl, hq⟩, ht⟩) hS.2.2 hdg C.2.2.2.2.2.1)
theorem j_iret (C : Cx G p s m args meth c cc nL own Ts) {P : Int → Heap → Prop} {mc ms : Nat} {v : Int} (hr : meth.sig.returnType = some .int) (hca : ca ≤ mc) (hsl : sl ≤ ms) (hq : P v H) (hdg : decode cc pc = .ok (.ireturn, 1)) : JJ p l e R s m args below meth c (MQ below (qmI P A) args s mc ms A) A nL H ca sl pc lv [.int (zI v)] := fun ls locs h hS =>
  W.widen hca hsl (W.iret C.1 C.2.1 hr (fun t ht _ => ⟨⟨v, rfl, by rw [ht]; exact hq⟩, by rw [ht]; exact hS.frm⟩) hS.2.2 hdg C.2.2.2.2.2.1)
theorem j_zret (C : Cx G p s m args meth c cc nL own Ts) {P : Int → Heap → Prop} {mc ms : Nat} {v : Int} (hr : meth.sig.returnType = some .boolean) (hca : ca ≤ mc) (hsl : sl ≤ ms) (hn : v = 0 ∨ v = 1) (hq : P v H) (hdg : decode cc pc = .ok (.ireturn, 1)) : JJ p l e R s m args below meth c (MQ below (qmI P A) args s mc ms A) A nL H ca sl pc lv [.int (zI v)] := fun ls locs h hS =>
  W.widen hca hsl (W.zret C.1 C.2.1 hr (by rcases hn with rfl | rfl <;> rfl) (fun t ht _ => ⟨⟨v, rfl, by rw [ht]; exact hq⟩, by rw [ht]; exact hS.frm⟩) hS.2.2 hdg C.2.2.2.2.2.1)
theorem j_lret (C : Cx G p s m args meth c cc nL own Ts) {P : Int → Heap → Prop} {mc ms : Nat} {v : Int} (hr : meth.sig.returnType = some .long) (hca : ca ≤ mc) (hsl : sl ≤ ms) (hq : P v H) (hdg : decode cc pc = .ok (.lreturn, 1)) : JJ p l e R s m args below meth c (MQ below (qmL P A) args s mc ms A) A nL H ca sl pc lv [.long (zL v)] := fun ls locs h hS =>
  W.widen hca hsl (W.lret C.1 C.2.1 hr (fun t ht _ => ⟨⟨v, rfl, by rw [ht]; exact hq⟩, by rw [ht]; exact hS.frm⟩) hS.2.2 hdg C.2.2.2.2.2.1)
theorem j_vret (C : Cx G p s m args meth c cc nL own Ts) {P : Heap → Prop} {mc ms : Nat} (hr : meth.sig.returnType = none) (hca : ca ≤ mc) (hsl : sl ≤ ms) (hq : P H) (hdg : decode cc pc = .ok (.return_, 1)) : JJ p l e R s m args below meth c (MQ below (qmV P A) args s mc ms A) A nL H ca sl pc lv [] := fun ls locs h hS =>
  W.widen hca hsl (W.vret C.1 C.2.1 hr (fun t ht _ => ⟨⟨rfl, by rw [ht]; exact hq⟩, by rw [ht]; exact hS.frm⟩) hS.2.2 hdg C.2.2.2.2.2.1)
theorem j_aret (C : Cx G p s m args meth c cc nL own Ts) {P : Nat → Heap → Prop} {mc ms : Nat} {v : Nat} {rt : FieldType} (hr : meth.sig.returnType = some rt) (hrt : (∃ n, rt = .object n) ∨ ∃ t, rt = .array t) (hca : ca ≤ mc) (hsl : sl ≤ ms) (hq : P v H) (hdg : decode cc pc = .ok (.areturn, 1)) : JJ p l e R s m args below meth c (MQ below (qmR P A) args s mc ms A) A nL H ca sl pc lv [.ref v] := fun ls locs h hS =>
  W.widen hca hsl (W.aret C.1 C.2.1 hr hrt (Or.inr ⟨v, rfl⟩) (fun t ht _ => ⟨⟨v, rfl, by rw [ht]; exact hq⟩, by rw [ht]; exact hS.frm⟩) hS.2.2 hdg C.2.2.2.2.2.1)
/-! calls -/
def JRun (p : Program) (l : Launch) (e : Env) (R : Room) (s : State) (m : MethodId) (args : Array Value) (below : List Frame) (meth : Method) (c : Code) (nL : Nat) (H : Heap) (ca sl mc ms pc : Nat) (lv : List (Nat × Value)) (st0 rest : List Value) (Qa : State → Outcome → State → Prop) (free : Addr → Prop) : Prop :=
  ∀ (ls : Array Slot) (locs : List Loc), lv_has ls nL lv → va_Run p l e R s m args below meth c H locs ca sl mc ms (F0 m pc ls st0) rest Qa free
theorem fix_of (C : Cx G p s m args meth c cc nL own Ts) : CallFix p m c cc nL s args Ts own := ⟨C.1, C.2.1, C.2.2.1, C.2.2.2.1, C.2.2.2.2.1⟩
theorem preS_of {As : List Value} {Pre : Heap → Prop} (hK : KK G s) (hp : Pre H) : PreS s H (cPc G As Pre) As := ⟨cPc_blind, fun U hU hW => ⟨rfl, KK.warm hW hK, by rw [hU]; exact hp⟩⟩
theorem preV_of {As : List Value} {Pre : Heap → Prop} {b ci : Nat} {fs : List Value} {q : vw_C} (hK : KK G s) (hat : ob G b ci fs H) (hc : vwCl[ci]? = some q) (hp : Pre H) : PreV s H q.1 b (cPc G (.ref b :: As) Pre) As :=
  ⟨cPc_blind, va_recv (D := G.1) (cl := vwCl) (ws := [(b, .inr (ci, fs))]) hK.1 (one_P hat) (q0 := 0) hc rfl, fun U hU hW => ⟨rfl, KK.warm hW hK, by rw [hU]; exact hp⟩⟩
variable {y : MethodName} {ws ws' : List Cond} {rm : Room} {Qc : Array Value → State → Outcome → State → Prop} {Pre : Heap → Prop} {mc ms maxL index n b ci : Nat} {free : Addr → Prop} {bytes : ByteArray} {ret : Option FieldType} {As rest st0 : List Value} {fs : List Value} {Cn : String} {T : u_T} {N : Nat} {host : String}
theorem jrunV (C : Cx G p s m args meth c cc nL own Ts) (hM : Met l y ws rm (cPc G (.ref b :: As) Pre) Qc mc ms free) (hG : GoodIn Ts (wsV own index Cn y ws)) (hw : ws = Cond.code y bytes maxL ret :: ws') (n : Nat) (hd : y.cls = Cn ∧ y.cls ≠ "java/lang/invoke/MethodHandle" ∧ y.cls ≠ "java/lang/invoke/VarHandle" ∧ (parseMethodDescriptor y.desc).map (fun d => d.parameters.length) = some n) (hrc : rm.cells = mc) (hrs : rm.slots = ms) (hR : rm.frames + 1 ≤ R.frames ∧ 8 + (maxL + 11) + rm.locals ≤ R.locals) (hat : ob G b ci fs H) (hc : vwCl[ci]? = some (Cn, T, N)) (hpre : Pre H) (hn : As.length = n) (hst : st0 = As.reverse ++ .ref b :: rest) (hW : (rest.map fun v => v.category).sum ≤ 8) (hf : ca + mc ≤ R.cells ∧ sl + ms ≤ R.slots) (hdg : decode cc pc = .ok (.invokevirtual index, 3)) : JRun p l e R s m args below meth c nL H ca sl mc ms pc lv st0 rest (Qc (Value.ref b :: As).toArray) free := fun ls locs h =>
  va_runV (fix_of C) hM (cwV n C.2.2.2.2.1 hG hw hrc hrs hd hR) (preV_of C.2.2.2.2.2.2 hat hc hpre) rfl hn h.1 hst (lv_room hW) hdg hf
theorem jrunS (C : Cx G p s m args meth c cc nL own Ts) (hM : Met l y ws rm (cPc G As Pre) Qc mc ms free) (hG : GoodIn Ts (va_wsS own index y ws)) (hw : ws = Cond.code y bytes maxL ret :: ws') (n : Nat) (hd : y.cls ≠ "java/lang/invoke/MethodHandle" ∧ y.cls ≠ "java/lang/invoke/VarHandle" ∧ (parseMethodDescriptor y.desc).map (fun d => d.parameters.length) = some n) (hrc : rm.cells = mc) (hrs : rm.slots = ms) (hR : rm.frames + 1 ≤ R.frames ∧ 8 + (maxL + 11) + rm.locals ≤ R.locals) (hpre : Pre H) (hn : As.length = n) (hst : st0 = As.reverse ++ rest) (hW : (rest.map fun v => v.category).sum ≤ 8) (hf : ca + mc ≤ R.cells ∧ sl + ms ≤ R.slots) (hdg : decode cc pc = .ok (.invokestatic index, 3)) : JRun p l e R s m args below meth c nL H ca sl mc ms pc lv st0 rest (Qc As.toArray) free := fun ls locs h => by
  have ok : ∀ w ∈ va_wsS own index y ws, w.before args s = true := fun w h => C.2.2.2.2.1 w (hG w h).1
  exact va_runS (fix_of C) hM ⟨callB_of n C.2.2.2.2.1 (fun w h => hG w (by unfold va_wsS; exact List.mem_append_right _ h)) hw hrc hrs (ok _ (by simp [va_wsS])) (ok _ (by simp [va_wsS])) hd hR, ok _ (by simp [va_wsS])⟩ (preS_of C.2.2.2.2.2.2 hpre) rfl hn h.1 hst (lv_room hW) hdg hf
theorem jrunI (C : Cx G p s m args meth c cc nL own Ts) (hM : Met l y ws rm (cPc G (.ref b :: As) Pre) Qc mc ms free) (hG : GoodIn Ts ws) (hw : ws = Cond.code y bytes maxL none :: ws') (n : Nat) (hl : Cond.methodLink own index y ∈ Ts) (hin : Cond.instanceMethod y ∈ Ts) (hini : Cond.initialized y.cls ∈ Ts) (hy1 : y.name = "<init>") (hd : y.cls ≠ "java/lang/invoke/MethodHandle" ∧ y.cls ≠ "java/lang/invoke/VarHandle" ∧ (parseMethodDescriptor y.desc).map (fun d => d.parameters.length) = some n) (hrc : rm.cells = mc) (hrs : rm.slots = ms) (hR : rm.frames + 1 ≤ R.frames ∧ 8 + (maxL + 11) + rm.locals ≤ R.locals) (hpre : Pre H) (hn : As.length = n) (hst : st0 = As.reverse ++ .ref b :: rest) (hW : (rest.map fun v => v.category).sum ≤ 8) (hf : ca + mc ≤ R.cells ∧ sl + ms ≤ R.slots) (hdg : decode cc pc = .ok (.invokespecial index, 3)) : JRun p l e R s m args below meth c nL H ca sl mc ms pc lv st0 rest (Qc (Value.ref b :: As).toArray) free := fun ls locs h =>
  va_runI (fix_of C) hM (cwI n C.2.2.2.2.1 hG hw hrc hrs (C.2.2.2.2.1 _ hini) (C.2.2.2.2.1 _ hl) (C.2.2.2.2.1 _ hin) hy1 hd hR) (preS_of C.2.2.2.2.2.2 hpre) rfl hn h.1 hst (lv_room hW) hdg hf
theorem jrunSN (C : Cx G p s m args meth c cc nL own Ts) (hM : Met l y ws rm (cPc G As Pre) Qc mc ms free) (hG : GoodIn Ts ws) (hw : ws = Cond.code y bytes maxL ret :: ws') (n : Nat) (hl : va_Nw (.methodLinkNest own index y host) s) (hstt : Cond.static y ∈ Ts) (hini : Cond.initialized y.cls ∈ Ts) (hd : y.cls ≠ "java/lang/invoke/MethodHandle" ∧ y.cls ≠ "java/lang/invoke/VarHandle" ∧ (parseMethodDescriptor y.desc).map (fun d => d.parameters.length) = some n) (hrc : rm.cells = mc) (hrs : rm.slots = ms) (hR : rm.frames + 1 ≤ R.frames ∧ 8 + (maxL + 11) + rm.locals ≤ R.locals) (hpre : Pre H) (hn : As.length = n) (hst : st0 = As.reverse ++ rest) (hW : (rest.map fun v => v.category).sum ≤ 8) (hf : ca + mc ≤ R.cells ∧ sl + ms ≤ R.slots) (hdg : decode cc pc = .ok (.invokestatic index, 3)) : JRun p l e R s m args below meth c nL H ca sl mc ms pc lv st0 rest (Qc As.toArray) free := fun ls locs h =>
  va_runSN (fix_of C) hM ⟨va_cnB n C.2.2.2.2.1 hG hw hrc hrs hl (C.2.2.2.2.1 _ hini) hd hR, C.2.2.2.2.1 _ hstt, trivial⟩ (preS_of C.2.2.2.2.2.2 hpre) rfl hn h.1 hst (lv_room hW) hdg hf
variable {A1 : Nat → Prop} {av : Array Value}
theorem j_callI {P : Int → Prop} (hr : JRun p l e R s m args below meth c nL H ca sl 0 0 pc lv st0 rest (qI P av) (fun _ => False)) (kk : ∀ r : Int, P r → JJ p l e R s m args below meth c Q A nL H ca sl (pc + 3) lv (.int (zI r) :: rest)) : JJ p l e R s m args below meth c Q A nL H ca sl pc lv st0 := by
  intro ls locs h hS T hT X
  obtain ⟨v, st₀, t, T', L, h0, X', hL, e1, e2, ⟨⟨r, hv, hp⟩, hh⟩, hgo⟩ := hr ls locs h T hT X
  cases hv
  obtain ⟨t2, a1, b1⟩ := kk r hp ls (locs ++ L) h ⟨hS.1, hS.2.1, fun q hq => (List.mem_append.mp hq).elim (fun z => hS.2.2 q z) (fun z => (hL q z).elim)⟩ T' (by rw [e1, hh, h0]) X'
  exact ⟨t2, hgo t2 a1, b1⟩
theorem j_callL {P : Int → Prop} (hr : JRun p l e R s m args below meth c nL H ca sl 0 0 pc lv st0 rest (qL P av) (fun _ => False)) (kk : ∀ r : Int, P r → JJ p l e R s m args below meth c Q A nL H ca sl (pc + 3) lv (.long (zL r) :: rest)) : JJ p l e R s m args below meth c Q A nL H ca sl pc lv st0 := by
  intro ls locs h hS T hT X
  obtain ⟨v, st₀, t, T', L, h0, X', hL, e1, e2, ⟨⟨r, hv, hp⟩, hh⟩, hgo⟩ := hr ls locs h T hT X
  cases hv
  obtain ⟨t2, a1, b1⟩ := kk r hp ls (locs ++ L) h ⟨hS.1, hS.2.1, fun q hq => (List.mem_append.mp hq).elim (fun z => hS.2.2 q z) (fun z => (hL q z).elim)⟩ T' (by rw [e1, hh, h0]) X'
  exact ⟨t2, hgo t2 a1, b1⟩
theorem va_S.call {A0 A1 : Nat → Prop} {H0 H H1 : Heap} {locs L : List Loc} (hS : va_S A0 H0 H locs) (hF : Frm A1 H H1) (hA : ∀ q, A1 q → A0 q) (hL : ∀ q ∈ L, A1 q.base) : va_S A0 H0 H1 (locs ++ L) :=
  ⟨Nat.le_trans hS.1 hF.1, fun q h1 h2 => (hF.2 q (Nat.lt_of_lt_of_le h1 hS.1) (fun z => h2 (hA q z))).trans (hS.2.1 q h1 h2), fun q hq => (List.mem_append.mp hq).elim (fun z => hS.2.2 q z) (fun z => hA _ (hL q z))⟩
theorem j_callmI {P : Int → Heap → Prop} (hr : JRun p l e R s m args below meth c nL H ca sl mc ms pc lv st0 rest (qmI P A1 av) A1) (hA : ∀ q, A1 q → A q) (kk : ∀ (r : Int) (H1 : Heap), P r H1 → Frm A1 H H1 → JJ p l e R s m args below meth c Q A nL H1 (ca + mc) (sl + ms) (pc + 3) lv (.int (zI r) :: rest)) : JJ p l e R s m args below meth c Q A nL H ca sl pc lv st0 := by
  intro ls locs h hS T hT X
  obtain ⟨v, st₀, t, T', L, h0, X', hL, e1, e2, ⟨⟨r, hv, hp⟩, hh⟩, hgo⟩ := hr ls locs h T hT X
  cases hv
  rw [h0, ← e1] at hh
  rw [← e1] at hp
  obtain ⟨t2, a1, b1⟩ := kk r T'.heap hp hh ls (locs ++ L) h (hS.call hh hA hL) T' rfl X'
  exact ⟨t2, hgo t2 a1, b1⟩
theorem j_callmL {P : Int → Heap → Prop} (hr : JRun p l e R s m args below meth c nL H ca sl mc ms pc lv st0 rest (qmL P A1 av) A1) (hA : ∀ q, A1 q → A q) (kk : ∀ (r : Int) (H1 : Heap), P r H1 → Frm A1 H H1 → JJ p l e R s m args below meth c Q A nL H1 (ca + mc) (sl + ms) (pc + 3) lv (.long (zL r) :: rest)) : JJ p l e R s m args below meth c Q A nL H ca sl pc lv st0 := by
  intro ls locs h hS T hT X
  obtain ⟨v, st₀, t, T', L, h0, X', hL, e1, e2, ⟨⟨r, hv, hp⟩, hh⟩, hgo⟩ := hr ls locs h T hT X
  cases hv
  rw [h0, ← e1] at hh
  rw [← e1] at hp
  obtain ⟨t2, a1, b1⟩ := kk r T'.heap hp hh ls (locs ++ L) h (hS.call hh hA hL) T' rfl X'
  exact ⟨t2, hgo t2 a1, b1⟩
theorem j_callmV {P : Heap → Prop} (hr : JRun p l e R s m args below meth c nL H ca sl mc ms pc lv st0 rest (qmV P A1 av) A1) (hA : ∀ q, A1 q → A q) (kk : ∀ H1 : Heap, P H1 → Frm A1 H H1 → JJ p l e R s m args below meth c Q A nL H1 (ca + mc) (sl + ms) (pc + 3) lv rest) : JJ p l e R s m args below meth c Q A nL H ca sl pc lv st0 := by
  intro ls locs h hS T hT X
  obtain ⟨v, st₀, t, T', L, h0, X', hL, e1, e2, ⟨⟨hv, hp⟩, hh⟩, hgo⟩ := hr ls locs h T hT X
  cases hv
  rw [h0, ← e1] at hh
  rw [← e1] at hp
  obtain ⟨t2, a1, b1⟩ := kk T'.heap hp hh ls (locs ++ L) h (hS.call hh hA hL) T' rfl X'
  exact ⟨t2, hgo t2 a1, b1⟩
theorem j_callmR {P : Nat → Heap → Prop} (hr : JRun p l e R s m args below meth c nL H ca sl mc ms pc lv st0 rest (qmR P A1 av) A1) (hA : ∀ q, A1 q → A q) (kk : ∀ (r : Nat) (H1 : Heap), P r H1 → Frm A1 H H1 → JJ p l e R s m args below meth c Q A nL H1 (ca + mc) (sl + ms) (pc + 3) lv (.ref r :: rest)) : JJ p l e R s m args below meth c Q A nL H ca sl pc lv st0 := by
  intro ls locs h hS T hT X
  obtain ⟨v, st₀, t, T', L, h0, X', hL, e1, e2, ⟨⟨r, hv, hp⟩, hh⟩, hgo⟩ := hr ls locs h T hT X
  cases hv
  rw [h0, ← e1] at hh
  rw [← e1] at hp
  obtain ⟨t2, a1, b1⟩ := kk r T'.heap hp hh ls (locs ++ L) h (hS.call hh hA hL) T' rfl X'
  exact ⟨t2, hgo t2 a1, b1⟩
end
