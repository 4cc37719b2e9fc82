/-! new cells: each stands at the heap's end -/
def Grw (h : Nat) (H H1 : Heap) : Prop := H1.size = h + 1 ∧ ∀ q : Nat, q < h → H1[q]? = H[q]?
theorem Grw.frm {h : Nat} {H H1 : Heap} (g : Grw h H H1) (hh : H.size = h) {A : Nat → Prop} : Frm A H H1 := ⟨by rw [g.1, hh]; omega, fun q hq _ => g.2 q (by omega)⟩
section
variable {G : Gx} {p : Program} {l : Launch} {e : Env} {R : Room} {s : State} {m : MethodId} {args : Array Value} {below : List Frame} {meth : Method} {c : Code} {Q : State → Prop} {A : Nat → Prop} {cc : ByteArray} {nL : Nat} {own : String} {Ts : List Cond} {H : Heap} {ca sl pc : Nat} {lv : List (Nat × Value)} {st : List Value}
theorem va_S.grw {A : Nat → Prop} {H0 H H1 : Heap} {locs : List Loc} {h : Nat} (hS : va_S A H0 H locs) (hh : H.size = h) (g : Grw h H H1) : va_S A H0 H1 locs := ⟨by rw [g.1, ← hh]; exact Nat.le_succ_of_le hS.1, fun q h1 h2 => (g.2 q (by rw [← hh]; exact Nat.lt_of_lt_of_le h1 hS.1)).trans (hS.2.1 q h1 h2), hS.2.2⟩
theorem j_newI (C : Cx G p s m args meth c cc nL own Ts) {n : Int} {k : Nat} {h : Nat} (hw : Cond.arrayClass .int ∈ Ts) (hn : n = (k : Int)) (hk : k ≤ 100000) (hh : H.size = h) (hcells : ca + 1 ≤ R.cells) (hslots : sl + k ≤ R.slots) (hdg : decode cc pc = .ok (.newarray .int, 2)) (kk : ∀ H1 : Heap, ai G h k (fun _ => 0) H1 → Grw h H H1 → JJ p l e R s m args below meth c Q A nL H1 (ca + 1) (sl + k) (pc + 2) lv (.ref h :: st)) : JJ p l e R s m args below meth c Q A nL H ca sl pc lv (.int (zI n) :: st) := by
  intro ls locs hl hS
  subst hn
  have hz : (zI (k : Int)).toNatClampNeg = k := by rw [zI_clamp (by omega) (by omega)]; exact Int.toNat_natCast k
  refine va_newaK C.1 C.2.1 (atype := .int) (C.2.2.2.2.1 _ hw) rfl hdg rfl (by rw [← zI_0, zI_lt ⟨by omega, by omega⟩ ⟨by decide, by decide⟩]; omega) hz (by show k * 4 ≤ _; omega) hcells hslots hh fun H1 cA e1 z1 o1 hAr hNm => ?_
  have hc : cA = G.2.1 := Option.some.inj (hNm.symm.trans (C.2.2.2.2.2.2.1.2 0 _ rfl).2)
  subst hc
  exact kk H1 ⟨by omega, e1⟩ ⟨z1, o1⟩ ls locs hl (hS.grw hh ⟨z1, o1⟩)
theorem j_newJ (C : Cx G p s m args meth c cc nL own Ts) {n : Int} {k : Nat} {h : Nat} (hw : Cond.arrayClass .long ∈ Ts) (hn : n = (k : Int)) (hk : k ≤ 100000) (hh : H.size = h) (hcells : ca + 1 ≤ R.cells) (hslots : sl + k ≤ R.slots) (hdg : decode cc pc = .ok (.newarray .long, 2)) (kk : ∀ H1 : Heap, al G h k (fun _ => 0) H1 → Grw h H H1 → JJ p l e R s m args below meth c Q A nL H1 (ca + 1) (sl + k) (pc + 2) lv (.ref h :: st)) : JJ p l e R s m args below meth c Q A nL H ca sl pc lv (.int (zI n) :: st) := by
  intro ls locs hl hS
  subst hn
  have hz : (zI (k : Int)).toNatClampNeg = k := by rw [zI_clamp (by omega) (by omega)]; exact Int.toNat_natCast k
  refine va_newaK C.1 C.2.1 (atype := .long) (C.2.2.2.2.1 _ hw) rfl hdg rfl (by rw [← zI_0, zI_lt ⟨by omega, by omega⟩ ⟨by decide, by decide⟩]; omega) hz (by show k * 8 ≤ _; omega) hcells hslots hh fun H1 cA e1 z1 o1 hAr hNm => ?_
  have hc : cA = G.2.2.1 := Option.some.inj (hNm.symm.trans (C.2.2.2.2.2.2.1.2 1 _ rfl).2)
  subst hc
  exact kk H1 ⟨by omega, e1⟩ ⟨z1, o1⟩ ls locs hl (hS.grw hh ⟨z1, o1⟩)
theorem j_newP (C : Cx G p s m args meth c cc nL own Ts) {n : Int} {k index : Nat} {h : Nat} (hcl : Cond.classLink own index "TreePairs$Pairs" ∈ Ts) (hn : n = (k : Int)) (hk : k ≤ 100000) (hh : H.size = h) (hcells : ca + 1 ≤ R.cells) (hslots : sl + k ≤ R.slots) (hdg : decode cc pc = .ok (.anewarray index, 3)) (kk : ∀ H1 : Heap, ap G h k (fun _ => none) H1 → Grw h H H1 → JJ p l e R s m args below meth c Q A nL H1 (ca + 1) (sl + k) (pc + 3) lv (.ref h :: st)) : JJ p l e R s m args below meth c Q A nL H ca sl pc lv (.int (zI n) :: st) := by
  intro ls locs hl hS
  subst hn
  subst hh
  have hz : (zI (k : Int)).toNatClampNeg = k := by rw [zI_clamp (by omega) (by omega)]; exact Int.toNat_natCast k
  refine W.anew C.1 C.2.1 C.2.2.2.1 (C.2.2.2.2.1 _ hcl) (va_AO.use C.2.2.2.2.2.2.2.2.2.2.1) rfl hdg rfl (by rw [← zI_0, zI_lt ⟨by omega, by omega⟩ ⟨by decide, by decide⟩]; omega) (by rw [hz]; omega) hcells (by rw [hz]; exact hslots) fun cA kA comp f1 f2 f3 f4 => ?_
  obtain ⟨kB, comp2, g1, g2, g3, g4⟩ := (C.2.2.2.2.2.2.1.2 2 _ rfl).2
  have hc : cA = G.2.2.2.1 := Option.some.inj (f1.symm.trans g4)
  subst hc
  rw [hz]
  generalize hH1 : H.push ({ cls := G.2.2.2.1, slots := Array.replicate k .null, vm := .none } : Cell) = H1
  have z1 : H1.size = H.size + 1 := by rw [← hH1, Array.size_push]
  have e1 : H1[H.size]? = some (arrV G.2.2.2.1 k (fun _ => .null)) := by rw [← hH1, Array.getElem?_push_size, ← arrV_new]
  have o1 : ∀ q : Nat, q < H.size → H1[q]? = H[q]? := fun q hq => by rw [← hH1, Array.getElem?_push, if_neg (Nat.ne_of_lt hq)]
  exact kk H1 ⟨by omega, by show H1[H.size]? = some (vp_cell _ _); rw [vp_cell_q]; exact e1⟩ ⟨z1, o1⟩ ls locs hl (hS.grw rfl ⟨z1, o1⟩)
theorem j_new (C : Cx G p s m args meth c cc nL own Ts) {Cn : String} {T : u_T} {N ci index : Nat} {fs : List Value} {h : Nat} (ty : Nat → FieldType) (hty : ∀ k, k < N → parseFieldDescriptor (T k).2.2.1 = some (ty k)) (hin : ∀ w ∈ u_ws Cn T N, w ∈ Ts) (hc : vwCl[ci]? = some (Cn, T, N)) (hcl : Cond.classLink own index Cn ∈ Ts) (hinst : Cond.instantiable Cn N ∈ Ts) (hini : Cond.initialized Cn ∈ Ts) (hfs : ∀ j, j < N → defaultValue (ty j) = vp_V fs j) (hh : H.size = h) (hcells : ca + 1 ≤ R.cells) (hslots : sl + N ≤ R.slots) (hdg : decode cc pc = .ok (.new index, 3)) (kk : ∀ H1 : Heap, ob G h ci fs H1 → Grw h H H1 → JJ p l e R s m args below meth c Q A nL H1 (ca + 1) (sl + N) (pc + 3) lv (.ref h :: st)) : JJ p l e R s m args below meth c Q A nL H ca sl pc lv st := by
  intro ls locs hl hS
  subst hh
  have hts := C.2.2.2.2.1
  have hKn := C.2.2.2.2.2.2.1.1 ci _ hc
  refine W.newcK C.1 C.2.1 C.2.2.2.1 (hts _ hcl) (hts _ hinst) (hts _ hini) rfl hdg hcells hslots hKn.2.1 rfl fun H1 kC hkC e1 z1 o1 => ?_
  exact kk H1 ⟨_, hc, (u_born ty hts hin hKn hkC e1 hty).to hfs⟩ ⟨z1, o1⟩ ls locs hl (hS.grw rfl ⟨z1, o1⟩)
theorem j_aast (C : Cx G p s m args meth c cc nL own Ts) {q n a : Nat} {f : Int → Option Nat} {i : Int} {vs : List Value} (hat : ap G q n f H) (hv : ob G a 2 vs H) (hi : 0 ≤ i ∧ i < (n : Int)) (hA : A q) (hdg : decode cc pc = .ok (.aastore, 1)) (kk : ∀ H1 : Heap, ap G q n (iup f i (some a)) H1 → Chg q H H1 → JJ p l e R s m args below meth c Q A nL H1 ca sl (pc + 1) lv st) : JJ p l e R s m args below meth c Q A nL H ca sl pc lv (.ref a :: .int (zI i) :: .ref q :: st) := by
  intro ls locs h hS
  have hK := C.2.2.2.2.2.2.1
  have e : (zI i).toNatClampNeg = i.toNat := zI_clamp hi.1 (by have := hat.1; omega)
  obtain ⟨r', hr', cellV, g1, g2, g3, -⟩ := hv
  have hc : vwCl[2]? = some (RX1, TX1, 5) := rfl
  have hcls := (hK.1 2 _ hc).2
  obtain ⟨kA, comp, k1, k2, k3, -⟩ := (hK.2 2 _ rfl).2
  have hcomp : comp = G.1.1 2 := Option.some.inj (k3.symm.trans hcls.1)
  subst hcomp
  obtain ⟨kC, hkC, -⟩ := hcls.2
  have hlt : (zI i).toNatClampNeg < (arrV G.2.2.2.1 n (fun j : Nat => va_rf (f j))).slots.size := by rw [arrV_size, e]; omega
  refine W.aast C.1 C.2.1 hat.2 (fun q h => by cases h) (fun h => by cases h) k1 k2 rfl hkC ⟨fun q => (zI_in hi.1 hi.2 hat.1) (Or.inl q), hlt⟩ g1 (fun q h => by rw [g3] at h; cases h) (by rw [g2]; exact hkC) (by rw [g2]; exact va_assign hcls) rfl rfl hdg fun H1 e1 z oq => ?_
  refine kk H1 ⟨hat.1, ?_⟩ ⟨z, oq⟩ ls _ h (hS.put z oq hA)
  show H1[q]? = some (vp_cell _ _)
  rw [e1]
  rw [vp_cell_q, vp_cell_q, arrV_store, e]
  congr 2
  funext j
  by_cases hj : j = i.toNat
  · subst hj
    simp only [updV, iup, if_true]
    rw [if_pos (Int.toNat_of_nonneg hi.1)]
    rfl
  · simp only [updV, iup, if_neg hj]
    rw [if_neg (fun z => hj (by omega))]
end
