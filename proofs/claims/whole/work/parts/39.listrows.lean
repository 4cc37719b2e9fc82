/-! rows for the lists: the static empty row, rows of Objects, calls through an interface -/
def HZ (G : Gx) (o : Nat) (H : Heap) : Prop := ((∃ cell : Cell, H[zS G]? = some cell ∧ cell.vm.isStatics = true ∧ cell.slots[zK G]? = some (.ref (zT G))) ∧ ∃ cell : Cell, H[zT G]? = some cell ∧ (∀ k, cell.vm ≠ .statics k) ∧ cell.cls = G.2.2.2.2 ∧ cell.slots.size.toInt32 = 0) ∧ zS G < o ∧ zT G < o
theorem HZ.kept {G : Gx} {o : Nat} {H H1 : Heap} (h : HZ G o H) (hq : ∀ q : Nat, q < o → q < H.size → H1[q]? = H[q]?) : HZ G o H1 := by
  obtain ⟨⟨⟨c1, a1, a2⟩, c2, b1, b2⟩, h1, h2⟩ := h
  exact ⟨⟨⟨c1, by rw [hq _ h1 (Array.getElem?_eq_some_iff.mp a1).1]; exact a1, a2⟩, c2, by rw [hq _ h2 (Array.getElem?_eq_some_iff.mp b1).1]; exact b1, b2⟩, h1, h2⟩
theorem HZ.frm {G : Gx} {o : Nat} {H H1 : Heap} {A : Nat → Prop} (h : HZ G o H) (hF : Frm A H H1) (hA : ∀ q : Nat, A q → o ≤ q) : HZ G o H1 := h.kept (fun q q1 q2 => hF.2 q q2 (fun a => by have := hA q a; omega))
theorem HZ.chg {G : Gx} {o a : Nat} {H H1 : Heap} (h : HZ G o H) (hC : Chg a H H1) (ha : o ≤ a) : HZ G o H1 := h.kept (fun q q1 _ => hC.2 q (by omega))
theorem HZ.grw {G : Gx} {o x : Nat} {H H1 : Heap} (h : HZ G o H) (g : Grw x H H1) (hx : H.size = x) : HZ G o H1 := h.kept (fun q _ q2 => g.2 q (by omega))
theorem HZ.mono {G : Gx} {o p : Nat} {H : Heap} (h : HZ G o H) (hp : o ≤ p) : HZ G p H := ⟨h.1, Nat.lt_of_lt_of_le h.2.1 hp, Nat.lt_of_lt_of_le h.2.2 hp⟩
def qA (P : Nat → Prop) : Array Value → State → Outcome → State → Prop := fun _ st oc t => (∃ r : Nat, oc = .returned (some (.ref r)) ∧ P r) ∧ t.heap = st.heap
/-- the first n places of f, then g -/
def cpo (f g : Int → Option Nat) (n : Int) : Int → Option Nat := fun j => if 0 ≤ j ∧ j < n then f j else g j
section
variable {G : Gx} {p : Program} {l : Launch} {e : Env} {R : Room} {s : State} {m : MethodId} {args : Array Value} {below : List Frame} {meth : Method} {c : Code} {Q : State → Prop} {A : Nat → Prop} {cc : ByteArray} {nL : Nat} {own : String} {Ts : List Cond} {H : Heap} {ca sl pc : Nat} {lv : List (Nat × Value)} {st : List Value}
theorem Cx.kz (C : Cx G p s m args meth c cc nL own Ts) : KZ G s := C.2.2.2.2.2.2.2.2.2.2.2.2
theorem JJ.widen {ca' sl' : Nat} (hc : ca ≤ ca') (hs : sl ≤ sl') (k : JJ p l e R s m args below meth c Q A nL H ca' sl' pc lv st) : JJ p l e R s m args below meth c Q A nL H ca sl pc lv st := fun ls locs h hS => W.widen hc hs (k ls locs h hS)
theorem j_getsZ (C : Cx G p s m args meth c cc nL own Ts) {o index : Nat} (hZ : HZ G o H) (hlink : Cond.fieldLink own index "java/util/ArrayList" "DEFAULTCAPACITY_EMPTY_ELEMENTDATA" "[Ljava/lang/Object;" ∈ Ts) (hdg : decode cc pc = .ok (.getstatic index, 3)) (k : JJ p l e R s m args below meth c Q A nL H ca sl (pc + 3) lv (.ref (zT G) :: st)) : JJ p l e R s m args below meth c Q A nL H ca sl pc lv st := fun ls locs h hS => by
  obtain ⟨cf, kf, fi, f, h1, h2, h3, h4, h5⟩ := C.kz.1
  obtain ⟨⟨⟨cell, g1, g2, g3⟩, -⟩, -⟩ := hZ
  exact W.gets C.1 C.2.1 C.2.2.2.1 (C.2.2.2.2.1 _ hlink) h1 h2 h3 h4 g1 (fun e => by rw [e] at g2; cases g2) (by rw [h5]; exact g3) rfl hdg (k ls locs h hS)
theorem j_alenZ (C : Cx G p s m args meth c cc nL own Ts) {o : Nat} (hZ : HZ G o H) (hdg : decode cc pc = .ok (.arraylength, 1)) (k : JJ p l e R s m args below meth c Q A nL H ca sl (pc + 1) lv (.int (zI 0) :: st)) : JJ p l e R s m args below meth c Q A nL H ca sl pc lv (.ref (zT G) :: st) := fun ls locs h hS => by
  obtain ⟨⟨-, cell, g1, g2, g3, g4⟩, -⟩ := hZ
  have ha : s.isArrayOf cell (.object "java/lang/Object") := ⟨g2, by rw [g3]; exact ((C.2.2.2.2.2.2.1.2 3 _ rfl).1 0 (fun _ => .null)).2⟩
  exact W.alen (n := zI 0) C.1 C.2.1 g1 ha (by rw [zI_0]; exact g4) rfl rfl hdg (k ls locs h hS)
theorem j_aconst_null (C : Cx G p s m args meth c cc nL own Ts) (hdg : decode cc pc = .ok (.aconst_null, 1)) (k : JJ p l e R s m args below meth c Q A nL H ca sl (pc + 1) lv (.null :: st)) : JJ p l e R s m args below meth c Q A nL H ca sl pc lv st := fun ls locs h hS => lv_null C.1 C.2.1 hdg (k ls locs h hS)
theorem j_acmp_eq (C : Cx G p s m args meth c cc nL own Ts) {x y : Nat} {off : Int} {tgt : Nat} (hdg : decode cc pc = .ok (.if_acmp .eq off, 3)) (ht : (pc : Int) + off = (tgt : Int)) (kt : x = y → JJ p l e R s m args below meth c Q A nL H ca sl tgt lv st) (kf : ¬ x = y → JJ p l e R s m args below meth c Q A nL H ca sl (pc + 3) lv st) : JJ p l e R s m args below meth c Q A nL H ca sl pc lv (.ref y :: .ref x :: st) := fun ls locs h hS => lv_acmp_eq (rx := some x) (ry := some y) C.1 C.2.1 hdg ht (fun q => kt (Option.some.inj q) ls locs h hS) (fun q => kf (fun z => q (by rw [z])) ls locs h hS)
theorem j_acmp_ne (C : Cx G p s m args meth c cc nL own Ts) {x y : Nat} {off : Int} {tgt : Nat} (hdg : decode cc pc = .ok (.if_acmp .ne off, 3)) (ht : (pc : Int) + off = (tgt : Int)) (kt : ¬ x = y → JJ p l e R s m args below meth c Q A nL H ca sl tgt lv st) (kf : x = y → JJ p l e R s m args below meth c Q A nL H ca sl (pc + 3) lv st) : JJ p l e R s m args below meth c Q A nL H ca sl pc lv (.ref y :: .ref x :: st) := fun ls locs h hS => lv_acmp_ne (rx := some x) (ry := some y) C.1 C.2.1 hdg ht (fun q => kt (fun z => q (by rw [z])) ls locs h hS) (fun q => kf (Option.some.inj q) ls locs h hS)
theorem j_ldcI (C : Cx G p s m args meth c cc nL own Ts) {index : Nat} {v : Int32} {z : Int} (hw : Cond.constant own index v ∈ Ts) (hv : v = zI z) (hdg : decode cc pc = .ok (.ldc index, 2)) (k : JJ p l e R s m args below meth c Q A nL H ca sl (pc + 2) lv (.int (zI z) :: st)) : JJ p l e R s m args below meth c Q A nL H ca sl pc lv st := fun ls locs h hS => lv_ldc C.1 C.2.1 C.2.2.2.1 (C.2.2.2.2.1 _ hw) hdg (by rw [hv]; exact k ls locs h hS)
theorem j_ldcM (C : Cx G p s m args meth c cc nL own Ts) {index : Nat} (hw : Cond.classLink own index "[Ljava/lang/Object;" ∈ Ts) (hdg : decode cc pc = .ok (.ldc index, 2)) (k : JJ p l e R s m args below meth c Q A nL H ca sl (pc + 2) lv (.ref (zM G) :: st)) : JJ p l e R s m args below meth c Q A nL H ca sl pc lv st := fun ls locs h hS => va_ldcM C.1 C.2.1 C.2.2.2.1 (C.2.2.2.2.1 _ hw) C.kz.2.2.2.2.1 hdg (k ls locs h hS)
theorem j_getS (C : Cx G p s m args meth c cc nL own Ts) {ref Cn : String} {T : u_T} {N ci index a : Nat} {fs : List Value} {v : Value} (hin : ∀ w ∈ u_ws Cn T N, w ∈ Ts) (hat : ob G a ci fs H) (k : Nat) (hk : k < N) (hc : vwCl[ci]? = some (Cn, T, N)) (hlink : Cond.fieldLink own index ref (T k).2.1 (T k).2.2.1 ∈ Ts) (hsame : Cond.sameField ref (T k).1 (T k).2.1 (T k).2.2.1 ∈ Ts) (hv : fs[k]? = some v) (hdg : decode cc pc = .ok (.getfield index, 3))
    (kk : JJ p l e R s m args below meth c Q A nL H ca sl (pc + 3) lv (v :: st)) : JJ p l e R s m args below meth c Q A nL H ca sl pc lv (.ref a :: st) := fun ls locs h hS =>
  va_get (D := G.1) C.1 C.2.1 C.2.2.2.2.1 hin C.2.2.2.1 C.2.2.2.2.2.2.1 (one_P hat) 0 rfl hc k hk (C.2.2.2.2.1 _ hlink) (fun x hx => u_same (C.2.2.2.2.1 _ hsame) x hx) hv hdg (kk ls locs h hS)
theorem j_putS (C : Cx G p s m args meth c cc nL own Ts) {ref Cn : String} {T : u_T} {N ci index a : Nat} {fs fs' : List Value} {v : Value} {ty : FieldType} (ty0 : Nat → FieldType) (hty : ∀ k, k < N → parseFieldDescriptor (T k).2.2.1 = some (ty0 k)) (hnm : ∀ a, a < N → ∀ b, b < N → a ≠ b → (T a).2.1 ≠ (T b).2.1) (hin : ∀ w ∈ u_ws Cn T N, w ∈ Ts) (hat : ob G a ci fs H) (k : Nat) (hk : k < N) (hc : vwCl[ci]? = some (Cn, T, N)) (hlink : Cond.fieldLink own index ref (T k).2.1 (T k).2.2.1 ∈ Ts) (hsame : Cond.sameField ref (T k).1 (T k).2.1 (T k).2.2.1 ∈ Ts) (hfin : (T k).2.2.2 = false) (hd : parseFieldDescriptor (T k).2.2.1 = some ty) (hn : narrow ty v = v) (hfit : fits ty v = true) (hl : k < fs.length) (hfs : fs.set k v = fs') (hA : A a) (hdg : decode cc pc = .ok (.putfield index, 3))
    (kk : ∀ H1 : Heap, ob G a ci fs' H1 → Chg a H H1 → JJ p l e R s m args below meth c Q A nL H1 ca sl (pc + 3) lv st) : JJ p l e R s m args below meth c Q A nL H ca sl pc lv (v :: .ref a :: st) := by
  intro ls locs h hS0
  subst hfs
  have hts := C.2.2.2.2.1
  have hK := C.2.2.2.2.2.2.1
  have hap := va_apart (own := own) hts hin ty0 hty hnm hK hc
  obtain ⟨r, h1, cell, q1, q2, q3, q4⟩ := hat
  have hr : r = (Cn, T, N) := Option.some.inj (h1.symm.trans hc)
  subst hr
  obtain ⟨hS, hfc, kC, hkC, hkind⟩ := hK.1 ci _ hc
  obtain ⟨cf, kf, fi, f, hi, hsl⟩ := hS k hk
  have hlay := hts _ (hin _ (u_in_lay hk))
  unfold u_lay at hlay
  rw [if_neg (by rw [hfin]; decide)] at hlay
  have hst := (u_facts hfc hkC (u_lays hts hin hk) hi).1
  have h6 := u_store hfc hkC hkind hlay hi hd hn hfit
  refine W.putK C.1 C.2.1 (f := f) ⟨C.2.2.2.1, hts _ hlink, ⟨_, _, _, u_same (hts _ hsame) _ hi⟩, hst⟩ (by rw [q2]; exact h6) q1 q3 (by rw [hsl]; exact k2_hasslot (q4 k hk)) rfl rfl hdg fun H' e1 e2 e3 => ?_
  rw [hsl] at e1 ⊢
  exact kk H' ⟨_, hc, t_OB.to (V := updV (vp_V fs) k v) ⟨_, e1, q2, q3, t_set q4 hap hk v⟩ (fun j _ => vp_updV_set hl v j)⟩ ⟨e2, e3⟩ ls _ h (hS0.put e2 e3 hA)
theorem j_newO (C : Cx G p s m args meth c cc nL own Ts) {n : Int} {k index : Nat} {h : Nat} (hcl : Cond.classLink own index "java/lang/Object" ∈ Ts) (hn : n = (k : Int)) (hk : k ≤ 100000) (hh : H.size = h) (hcells : ca + 1 ≤ R.cells) (hslots : sl + k ≤ R.slots) (hdg : decode cc pc = .ok (.anewarray index, 3)) (kk : ∀ H1 : Heap, ao G h k (fun _ => none) H1 → Grw h H H1 → JJ p l e R s m args below meth c Q A nL H1 (ca + 1) (sl + k) (pc + 3) lv (.ref h :: st)) : JJ p l e R s m args below meth c Q A nL H ca sl pc lv (.int (zI n) :: st) := by
  intro ls locs hl hS
  subst hn
  subst hh
  have hz : (zI (k : Int)).toNatClampNeg = k := by rw [zI_clamp (by omega) (by omega)]; exact Int.toNat_natCast k
  refine W.anew C.1 C.2.1 C.2.2.2.1 (C.2.2.2.2.1 _ hcl) (va_AO.use C.2.2.2.2.2.2.2.2.2.2.2.1) rfl hdg rfl (by rw [← zI_0, zI_lt ⟨by omega, by omega⟩ ⟨by decide, by decide⟩]; omega) (by rw [hz]; omega) hcells (by rw [hz]; exact hslots) fun cA kA comp f1 f2 f3 f4 => ?_
  obtain ⟨kB, comp2, g1, g2, g3, g4⟩ := (C.2.2.2.2.2.2.1.2 3 _ rfl).2
  have hc : cA = G.2.2.2.2 := Option.some.inj (f1.symm.trans g4)
  subst hc
  rw [hz]
  generalize hH1 : H.push ({ cls := G.2.2.2.2, slots := Array.replicate k .null, vm := .none } : Cell) = H1
  have z1 : H1.size = H.size + 1 := by rw [← hH1, Array.size_push]
  have e1 : H1[H.size]? = some (arrV G.2.2.2.2 k (fun _ => .null)) := by rw [← hH1, Array.getElem?_push_size, ← arrV_new]
  have o1 : ∀ q : Nat, q < H.size → H1[q]? = H[q]? := fun q hq => by rw [← hH1, Array.getElem?_push, if_neg (Nat.ne_of_lt hq)]
  exact kk H1 ⟨by omega, by show H1[H.size]? = some (vp_cell _ _); rw [vp_cell_q]; exact e1⟩ ⟨z1, o1⟩ ls locs hl (hS.grw rfl ⟨z1, o1⟩)
theorem j_aastO (C : Cx G p s m args meth c cc nL own Ts) {q n a : Nat} {f : Int → Option Nat} {i : Int} {vs : List Value} (hat : ao G q n f H) (hv : ob G a 2 vs H) (hi : 0 ≤ i ∧ i < (n : Int)) (hA : A q) (hdg : decode cc pc = .ok (.aastore, 1)) (kk : ∀ H1 : Heap, ao G q n (iup f i (some a)) H1 → Chg q H H1 → JJ p l e R s m args below meth c Q A nL H1 ca sl (pc + 1) lv st) : JJ p l e R s m args below meth c Q A nL H ca sl pc lv (.ref a :: .int (zI i) :: .ref q :: st) := by
  intro ls locs h hS
  have hK := C.2.2.2.2.2.2.1
  have e : (zI i).toNatClampNeg = i.toNat := zI_clamp hi.1 (by have := hat.1; omega)
  obtain ⟨r', hr', cellV, g1, g2, g3, -⟩ := hv
  have hc : vwCl[2]? = some (RX1, TX1, 5) := rfl
  have hcls := (hK.1 2 _ hc).2
  obtain ⟨kA, comp, k1, k2, k3, -⟩ := (hK.2 3 _ rfl).2
  obtain ⟨kE, hkE, -⟩ := Vm.findClass_spec k3
  obtain ⟨c0, t1, f1, f2, f3⟩ := Cond.castable_spec (va_Nw.use (A := args) rfl C.kz.2.2.2.2.2.2)
  cases hcls.1.symm.trans f1
  cases k3.symm.trans f2
  obtain ⟨kC, hkC, -⟩ := hcls.2
  have hlt : (zI i).toNatClampNeg < (arrV G.2.2.2.2 n (fun j : Nat => va_rf (f j))).slots.size := by rw [arrV_size, e]; omega
  refine W.aast C.1 C.2.1 hat.2 (fun q h => by cases h) (fun h => by cases h) k1 k2 rfl hkE ⟨fun q => (zI_in hi.1 hi.2 hat.1) (Or.inl q), hlt⟩ g1 (fun q h => by rw [g3] at h; cases h) (by rw [g2]; exact hkC) (by rw [g2]; exact f3) rfl rfl hdg fun H1 e1 z oq => ?_
  refine kk H1 ⟨hat.1, ?_⟩ ⟨z, oq⟩ ls _ h (hS.put z oq hA)
  show H1[q]? = some (vp_cell _ _)
  rw [e1]
  rw [vp_cell_q, vp_cell_q, arrV_store, e]
  congr 2
  funext j
  by_cases hj : j = i.toNat
  · subst hj
    simp only [updV, iup, if_true]
    rw [if_pos (Int.toNat_of_nonneg hi.1)]
    rfl
  · simp only [updV, iup, if_neg hj]
    rw [if_neg (fun z => hj (by omega))]
theorem j_aaldO (C : Cx G p s m args meth c cc nL own Ts) {q n a : Nat} {f : Int → Option Nat} {i : Int} (hat : ao G q n f H) (hi : 0 ≤ i ∧ i < (n : Int)) (hf : f i = some a) (hdg : decode cc pc = .ok (.aaload, 1)) (kk : JJ p l e R s m args below meth c Q A nL H ca sl (pc + 1) lv (.ref a :: st)) : JJ p l e R s m args below meth c Q A nL H ca sl pc lv (.int (zI i) :: .ref q :: st) := fun ls locs h hS =>
  va_aldq C.1 C.2.1 C.2.2.2.2.2.2.1 (one_P hat.2) 0 3 rfl rfl (zI_in hi.1 hi.2 hat.1) hdg (by
    have he : ((zI i).toNatClampNeg : Int) = i := by rw [zI_clamp hi.1 (by have := hat.1; omega)]; exact Int.toNat_of_nonneg hi.1
    show W p l e R s m args below meth c H locs ca sl Q (F0 m (pc + 1) ls (va_rf (f ((zI i).toNatClampNeg : Int)) :: st))
    rw [he, hf]
    exact kk ls locs h hS)
theorem j_alenO (C : Cx G p s m args meth c cc nL own Ts) {q n : Nat} {f : Int → Option Nat} (hat : ao G q n f H) (hdg : decode cc pc = .ok (.arraylength, 1)) (kk : JJ p l e R s m args below meth c Q A nL H ca sl (pc + 1) lv (.int (zI (n : Int)) :: st)) : JJ p l e R s m args below meth c Q A nL H ca sl pc lv (.ref q :: st) := fun ls locs h hS =>
  va_alen C.1 C.2.1 C.2.2.2.2.2.2.1 (one_P hat.2) 0 3 rfl rfl (v := zI (n : Int)) (by show Int32.ofNat n = Int32.ofInt (n : Int); rw [Int32.ofInt_eq_ofNat]) hdg (kk ls locs h hS)
theorem j_castP (C : Cx G p s m args meth c cc nL own Ts) {index a : Nat} {vs : List Value} (hl : Cond.classLink own index RX1 ∈ Ts) (hat : ob G a 2 vs H) (hdg : decode cc pc = .ok (.checkcast index, 3)) (k : JJ p l e R s m args below meth c Q A nL H ca sl (pc + 3) lv (.ref a :: st)) : JJ p l e R s m args below meth c Q A nL H ca sl pc lv (.ref a :: st) := fun ls locs h hS =>
  va_castS C.1 C.2.1 C.2.2.2.1 (C.2.2.2.2.1 _ hl) (C.2.2.2.2.2.2.1.1 2 _ rfl).2 (va_recv (D := G.1) (cl := vwCl) (ws := [(a, .inr (2, vs))]) C.2.2.2.2.2.2.1 (one_P hat) (q0 := 0) (q := (RX1, TX1, 5)) rfl rfl) hdg (k ls locs h hS)
theorem j_mmin (C : Cx G p s m args meth c cc nL own Ts) {index : Nat} {a b : Int} (hl : Cond.methodLink own index Lib.Math.min.name ∈ Ts) (hs : Cond.static Lib.Math.min.name ∈ Ts) (hi : Cond.initialized "java/lang/Math" ∈ Ts) (hc : Cond.code Lib.Math.min.name Lib.Math.min.code 2 (some .int) ∈ Ts) (hframes : 1 ≤ R.frames) (hlocals : (st.map fun v => v.category).sum + 13 ≤ R.locals) (hca : ca ≤ R.cells) (hsl : sl ≤ R.slots) (ha : iR a) (hb : iR b) (hdg : decode cc pc = .ok (.invokestatic index, 3)) (kk : JJ p l e R s m args below meth c Q A nL H ca sl (pc + 3) lv (.int (zI (if b < a then b else a)) :: st)) : JJ p l e R s m args below meth c Q A nL H ca sl pc lv (.int (zI b) :: .int (zI a) :: st) := fun ls locs h hS =>
  va_mmin C.1 C.2.1 (C.2.2.1.trans h.1.symm) C.2.2.2.1 (C.2.2.2.2.1 _ hl) (C.2.2.2.2.1 _ hs) (C.2.2.2.2.1 _ hi) (C.2.2.2.2.1 _ hc) hframes hlocals hca hsl hdg (by
    have he : (if zI b < zI a then zI b else zI a) = zI (if b < a then b else a) := by
      by_cases hlt : b < a
      · rw [if_pos hlt, if_pos ((zI_lt hb ha).mpr hlt)]
      · rw [if_neg hlt, if_neg (fun q => hlt ((zI_lt hb ha).mp q))]
    rw [he]
    exact kk ls locs h hS)
theorem j_getC (C : Cx G p s m args meth c cc nL own Ts) {index q n : Nat} {f : Int → Option Nat} (hat : ao G q n f H) (hl : Cond.methodLink own index ⟨"java/lang/Object", "getClass", "()Ljava/lang/Class;"⟩ ∈ Ts) (hsel : Cond.selects "[Ljava/lang/Object;" ⟨"java/lang/Object", "getClass", "()Ljava/lang/Class;"⟩ ⟨"java/lang/Object", "getClass", "()Ljava/lang/Class;"⟩ ∈ Ts) (hin : Cond.instanceMethod ⟨"java/lang/Object", "getClass", "()Ljava/lang/Class;"⟩ ∈ Ts) (hnat : Cond.native ⟨"java/lang/Object", "getClass", "()Ljava/lang/Class;"⟩ ∈ Ts) (hframes : 1 ≤ R.frames) (hlocals : (st.map fun v => v.category).sum + 14 ≤ R.locals) (hdg : decode cc pc = .ok (.invokevirtual index, 3)) (k : JJ p l e R s m args below meth c Q A nL H ca sl (pc + 3) lv (.ref (zM G) :: st)) : JJ p l e R s m args below meth c Q A nL H ca sl pc lv (.ref q :: st) := fun ls locs h hS =>
  va_getC (C := "[Ljava/lang/Object;") C.1 C.2.1 (C.2.2.1.trans h.1.symm) C.2.2.2.1 (C.2.2.2.2.1 _ hl) (va_Dc.use C.kz.2.2.2.2.2.1) (C.2.2.2.2.1 _ hsel) (C.2.2.2.2.1 _ hin) (C.2.2.2.2.1 _ hnat) C.kz.2.2.2.2.1 ⟨_, hat.2, rfl, va_nmO (C.2.2.2.2.2.2.1.2 3 _ rfl).2 rfl⟩ hframes hlocals hdg (k ls locs h hS)
theorem cpo_eq {f g : Int → Option Nat} {n : Int} (hn : 0 ≤ n) : (fun j : Nat => cpo f g n (j : Int)) = va_cpy (fun j : Nat => f j) (fun j : Nat => g j) 0 0 n.toNat := by
  funext j
  by_cases hj : j < n.toNat
  · rw [pk_cpy_in (Nat.zero_le _) (by omega)]
    unfold cpo
    rw [if_pos ⟨by omega, by omega⟩, show 0 + (j - 0) = j by omega]
  · rw [pk_cpy_out (Or.inr (by omega))]
    unfold cpo
    rw [if_neg (by omega)]
theorem j_copyO (C : Cx G p s m args meth c cc nL own Ts) {index q0 q1 n0 n1 : Nat} {f g : Int → Option Nat} {n : Int} (h0 : ao G q0 n0 f H) (h1 : ao G q1 n1 g H) (hne : q0 ≠ q1) (hA0 : A q0) (hA1 : A q1) (hn : 0 ≤ n ∧ n ≤ n0 ∧ n ≤ n1) (hel : ∀ i : Int, 0 ≤ i → i < n → ∀ y : Nat, f i = some y → ∃ vs, ob G y 2 vs H) (hl : Cond.methodLink own index arraycopyName ∈ Ts) (hnat : Cond.native arraycopyName ∈ Ts) (hstat : Cond.static arraycopyName ∈ Ts) (hini : Cond.initialized "java/lang/System" ∈ Ts) (hframes : 1 ≤ R.frames) (hlocals : (st.map fun v => v.category).sum + (nativeFrameWords "java/lang/System" "arraycopy" 5 + 11) ≤ R.locals) (hdg : decode cc pc = .ok (.invokestatic index, 3))
    (kk : ∀ H1 : Heap, ao G q1 n1 (cpo f g n) H1 → JJ p l e R s m args below meth c Q A nL H1 ca sl (pc + 3) lv st) : JJ p l e R s m args below meth c Q A nL H ca sl pc lv (.int (zI n) :: .int (zI 0) :: .ref q1 :: .int (zI 0) :: .ref q0 :: st) := fun ls locs h hS => by
  have hK := C.2.2.2.2.2.2.1
  have hz0 : (zI 0).toNatClampNeg = 0 := by decide
  have hzn : (zI n).toNatClampNeg = n.toNat := zI_clamp hn.1 (by have := h0.1; omega)
  have b0 : ¬ zI 0 < 0 := by decide
  have bn : ¬ zI n < 0 := by rw [← zI_0, zI_lt ⟨by omega, by have := h0.1; omega⟩ ⟨by decide, by decide⟩]; omega
  have hcast : va_Nw (.castable RX1 "java/lang/Object") s := C.kz.2.2.2.2.2.2
  refine va_copyq (D := G.1) (cl := vwCl) (A := A) (H0 := s.heap) (locs := locs) (ws := [(q0, .inl (G.2.2.2.2, n0, .inr (.inr (.inr (.inr (fun j : Nat => f j)))))), (q1, .inl (G.2.2.2.2, n1, .inr (.inr (.inr (.inr (fun j : Nat => g j))))))]) (C := RX1) (E0 := "java/lang/Object") (E1 := "java/lang/Object") C.1 C.2.1 (C.2.2.1.trans h.1.symm) C.2.2.2.1 (C.2.2.2.2.1 _ hl) (C.2.2.2.2.1 _ hnat) (C.2.2.2.2.1 _ hstat) (C.2.2.2.2.1 _ hini) hK ?_ ?_ hS 0 1 3 3 rfl rfl rfl rfl b0 b0 bn (by rw [hz0, hzn]; omega) (by rw [hz0, hzn]; omega) ?_ (fun comp c0 g1 g2 => vb_asgC hcast comp c0 g1 g2) hframes hlocals hdg fun H1 locs1 hP1 hD1 hS1 => ?_
  · intro k x hx
    match k, hx with
    | 0, hx => cases hx; exact h0.2
    | 1, hx => cases hx; exact h1.2
    | k + 2, hx => simp at hx
  · refine ⟨fun i j a b ha hb hab => ?_, fun k x hx => ?_⟩
    · match i, j, ha, hb with
      | 0, 0, _, _ => rfl
      | 1, 1, _, _ => rfl
      | 0, 1, ha, hb => cases ha; cases hb; exact absurd hab hne
      | 1, 0, ha, hb => cases ha; cases hb; exact absurd hab.symm hne
      | i + 2, _, ha, _ => simp at ha
      | _, j + 2, _, hb => simp at hb
    · match k, hx with
      | 0, hx => cases hx; exact hA0
      | 1, hx => cases hx; exact hA1
      | k + 2, hx => simp at hx
  · intro i hi y hy
    rw [hz0, Nat.zero_add] at hy
    rw [hzn] at hi
    obtain ⟨vs, hv⟩ := hel i (by omega) (by omega) y hy
    exact va_recv (D := G.1) (cl := vwCl) (ws := [(y, .inr (2, vs))]) hK (one_P hv) (q0 := 0) (q := (RX1, TX1, 5)) rfl rfl
  · have h2 := hP1 1 _ rfl
    rw [hz0, hzn, ← cpo_eq hn.1] at h2
    exact kk H1 ⟨h1.1, h2⟩ ls locs1 h hS1
/-! ends and calls with a reference, nothing changed -/
theorem j_areti (C : Cx G p s m args meth c cc nL own Ts) {P : Nat → Prop} {mc ms : Nat} {v : Nat} {rt : FieldType} (hr : meth.sig.returnType = some rt) (hrt : (∃ n, rt = .object n) ∨ ∃ t, rt = .array t) (hca : ca ≤ mc) (hsl : sl ≤ ms) (hq : P v) (hdg : decode cc pc = .ok (.areturn, 1)) : JJ p l e R s m args below meth c (MQ below (qA P) args s mc ms A) A nL s.heap ca sl pc lv [.ref v] := fun ls locs h hS =>
  W.widen hca hsl (W.aret C.1 C.2.1 hr hrt (Or.inr ⟨v, rfl⟩) (fun t ht _ => ⟨⟨v, rfl, hq⟩, ht⟩) hS.2.2 hdg C.2.2.2.2.2.1)
def JRun5 (p : Program) (l : Launch) (e : Env) (R : Room) (s : State) (m : MethodId) (args : Array Value) (below : List Frame) (meth : Method) (c : Code) (nL : Nat) (H : Heap) (ca sl mc ms pc : Nat) (lv : List (Nat × Value)) (st0 rest : List Value) (Qa : State → Outcome → State → Prop) (free : Addr → Prop) : Prop :=
  ∀ (ls : Array Slot) (locs : List Loc), lv_has ls nL lv → va_Run5 p l e R s m args below meth c H locs ca sl mc ms (F0 m pc ls st0) rest Qa free
variable {y x : MethodName} {ws ws' : List Cond} {rm : Room} {Qc : Array Value → State → Outcome → State → Prop} {Pre : Heap → Prop} {mc ms maxL index n b ci : Nat} {free : Addr → Prop} {bytes : ByteArray} {ret : Option FieldType} {As rest st0 : List Value} {fs : List Value} {Cn : String} {T : u_T} {N count : Nat} {host : String}
theorem jrunF (C : Cx G p s m args meth c cc nL own Ts) (hM : Met l y ws rm (cPc G (.ref b :: As) Pre) Qc mc ms free) (hG : GoodIn Ts (va_wsF own index Cn x y ws)) (hw : ws = Cond.code y bytes maxL ret :: ws') (hF : va_Fw Cn x y s) (n : Nat) (hd : x.cls ≠ "java/lang/invoke/MethodHandle" ∧ x.cls ≠ "java/lang/invoke/VarHandle" ∧ (parseMethodDescriptor x.desc).map (fun d => d.parameters.length) = some n) (hrc : rm.cells = mc) (hrs : rm.slots = ms) (hR : rm.frames + 1 ≤ R.frames ∧ 8 + (maxL + 11) + rm.locals ≤ R.locals) (hat : ob G b ci fs H) (hc : vwCl[ci]? = some (Cn, T, N)) (hpre : Pre H) (hn : As.length = n) (hst : st0 = As.reverse ++ .ref b :: rest) (hW : (rest.map fun v => v.category).sum ≤ 8) (hf : ca + mc ≤ R.cells ∧ sl + ms ≤ R.slots) (hdg : decode cc pc = .ok (.invokeinterface index count, 5)) : JRun5 p l e R s m args below meth c nL H ca sl mc ms pc lv st0 rest (Qc (Value.ref b :: As).toArray) free := fun ls locs h =>
  va_runF (C.2.2.2.2.2.2.1.1 ci _ hc).2 (fix_of C) hM (va_cwF n C.2.2.2.2.1 hG hw hrc hrs hF hd hR) (preV_of C.2.2.2.2.2.2 hat hc hpre) rfl hn h.1 hst (lv_room hW) hdg hf
variable {A1 : Nat → Prop} {av : Array Value}
theorem j_callA {P : Nat → Prop} (hr : JRun p l e R s m args below meth c nL H ca sl 0 0 pc lv st0 rest (qA P av) (fun _ => False)) (kk : ∀ r : Nat, P r → JJ p l e R s m args below meth c Q A nL H ca sl (pc + 3) lv (.ref r :: rest)) : JJ p l e R s m args below meth c Q A nL H ca sl pc lv st0 := by
  intro ls locs h hS T hT X
  obtain ⟨v, st₀, t, T', L, h0, X', hL, e1, e2, ⟨⟨r, hv, hp⟩, hh⟩, hgo⟩ := hr ls locs h T hT X
  cases hv
  obtain ⟨t2, a1, b1⟩ := kk r hp ls (locs ++ L) h ⟨hS.1, hS.2.1, fun q hq => (List.mem_append.mp hq).elim (fun z => hS.2.2 q z) (fun z => (hL q z).elim)⟩ T' (by rw [e1, hh, h0]) X'
  exact ⟨t2, hgo t2 a1, b1⟩
theorem j_callA5 {P : Nat → Prop} (hr : JRun5 p l e R s m args below meth c nL H ca sl 0 0 pc lv st0 rest (qA P av) (fun _ => False)) (kk : ∀ r : Nat, P r → JJ p l e R s m args below meth c Q A nL H ca sl (pc + 5) lv (.ref r :: rest)) : JJ p l e R s m args below meth c Q A nL H ca sl pc lv st0 := by
  intro ls locs h hS T hT X
  obtain ⟨v, st₀, t, T', L, h0, X', hL, e1, e2, ⟨⟨r, hv, hp⟩, hh⟩, hgo⟩ := hr ls locs h T hT X
  cases hv
  obtain ⟨t2, a1, b1⟩ := kk r hp ls (locs ++ L) h ⟨hS.1, hS.2.1, fun q hq => (List.mem_append.mp hq).elim (fun z => hS.2.2 q z) (fun z => (hL q z).elim)⟩ T' (by rw [e1, hh, h0]) X'
  exact ⟨t2, hgo t2 a1, b1⟩
theorem j_callI5 {P : Int → Prop} (hr : JRun5 p l e R s m args below meth c nL H ca sl 0 0 pc lv st0 rest (qI P av) (fun _ => False)) (kk : ∀ r : Int, P r → JJ p l e R s m args below meth c Q A nL H ca sl (pc + 5) lv (.int (zI r) :: rest)) : JJ p l e R s m args below meth c Q A nL H ca sl pc lv st0 := by
  intro ls locs h hS T hT X
  obtain ⟨v, st₀, t, T', L, h0, X', hL, e1, e2, ⟨⟨r, hv, hp⟩, hh⟩, hgo⟩ := hr ls locs h T hT X
  cases hv
  obtain ⟨t2, a1, b1⟩ := kk r hp ls (locs ++ L) h ⟨hS.1, hS.2.1, fun q hq => (List.mem_append.mp hq).elim (fun z => hS.2.2 q z) (fun z => (hL q z).elim)⟩ T' (by rw [e1, hh, h0]) X'
  exact ⟨t2, hgo t2 a1, b1⟩
theorem j_callmI5 {P : Int → Heap → Prop} (hr : JRun5 p l e R s m args below meth c nL H ca sl mc ms pc lv st0 rest (qmI P A1 av) A1) (hA : ∀ q, A1 q → A q) (kk : ∀ (r : Int) (H1 : Heap), P r H1 → Frm A1 H H1 → JJ p l e R s m args below meth c Q A nL H1 (ca + mc) (sl + ms) (pc + 5) lv (.int (zI r) :: rest)) : JJ p l e R s m args below meth c Q A nL H ca sl pc lv st0 := by
  intro ls locs h hS T hT X
  obtain ⟨v, st₀, t, T', L, h0, X', hL, e1, e2, ⟨⟨r, hv, hp⟩, hh⟩, hgo⟩ := hr ls locs h T hT X
  cases hv
  rw [h0, ← e1] at hh
  rw [← e1] at hp
  obtain ⟨t2, a1, b1⟩ := kk r T'.heap hp hh ls (locs ++ L) h (hS.call hh hA hL) T' rfl X'
  exact ⟨t2, hgo t2 a1, b1⟩
end
