/-! the kinds: turns of the second leaves -/
theorem one_of {n p : Nat} {f : Nat → Bool} (hp : p < n) (h1 : f p = true) (h2 : ∀ j, j < n → j ≠ p → f j = false) : ((List.range n).filter f).length = 1 := by
  have hm : p ∈ (List.range n).filter f := List.mem_filter.mpr ⟨List.mem_range.mpr hp, h1⟩
  have ha : ∀ x ∈ (List.range n).filter f, x = p := fun x hx => by
    obtain ⟨a, b⟩ := List.mem_filter.mp hx
    refine Classical.byContradiction fun e => ?_
    rw [h2 x (List.mem_range.mp a) e] at b
    exact absurd b (by decide)
  have hn : ((List.range n).filter f).Nodup := List.Pairwise.filter _ List.nodup_range
  generalize (List.range n).filter f = S at *
  match S, hm, ha, hn with
  | [], hm, _, _ => exact absurd hm List.not_mem_nil
  | [a], _, _, _ => rfl
  | a :: b :: T, _, ha, hn =>
    have e1 := ha a List.mem_cons_self
    have e2 := ha b (List.mem_cons_of_mem _ List.mem_cons_self)
    have := (List.nodup_cons.mp hn).1
    rw [e1, e2] at this
    exact absurd List.mem_cons_self this
theorem of_one {n : Nat} {f : Nat → Bool} (h : ((List.range n).filter f).length = 1) : ∃ p, p < n ∧ f p = true ∧ ∀ j, j < n → j ≠ p → f j = false := by
  obtain ⟨p, hp⟩ := List.length_eq_one_iff.mp h
  have hm : p ∈ (List.range n).filter f := by rw [hp]; exact List.mem_cons_self
  obtain ⟨a, b⟩ := List.mem_filter.mp hm
  refine ⟨p, List.mem_range.mp a, b, fun j hj e => ?_⟩
  rcases hb : f j with _ | _
  · rfl
  · have : j ∈ (List.range n).filter f := List.mem_filter.mpr ⟨List.mem_range.mpr hj, hb⟩
    rw [hp] at this
    exact absurd (List.mem_singleton.mp this) e
/-- exactly one turn -/
theorem trn_one {L : List Q4} : trnC L L.length = 1 ↔ ∃ p : Int, 0 ≤ p ∧ p < L.length ∧ trn L p = true ∧ ∀ j : Int, 0 ≤ j → j < L.length → j ≠ p → trn L j = false := by
  unfold trnC
  constructor
  · intro h
    obtain ⟨p, p1, p2, p3⟩ := of_one (f := fun k : Nat => trn L k) (n := L.length) (by omega)
    refine ⟨p, by omega, by omega, p2, fun j j0 j1 e => ?_⟩
    have := p3 j.toNat (by omega) (by omega)
    rw [show ((j.toNat : Nat) : Int) = j by omega] at this
    exact this
  · intro ⟨p, p0, p1, p2, p3⟩
    have := one_of (f := fun k : Nat => trn L k) (n := L.length) (p := p.toNat) (by omega) (by rw [show ((p.toNat : Nat) : Int) = p by omega]; exact p2) (fun j hj e => p3 j (by omega) (by omega) (by omega))
    rw [this]; rfl
theorem trn_0 {L : List Q4} : trn L 0 = true ↔ kq2 (qat L 0) < kq2 (qat L (L.length - 1)) := by
  unfold trn; rw [if_pos rfl, decide_eq_true_iff]
theorem trn_j {L : List Q4} {j : Int} (h : 1 ≤ j) : trn L j = true ↔ kq2 (qat L j) < kq2 (qat L (j - 1)) := by
  unfold trn; rw [if_neg (by omega), decide_eq_true_iff]
theorem kq2_st {q : Q4} (h : LQ 23 q) : kq2 q = st2 q * 8388608 ∧ kq2 q + wd46 q.2.2.1 = en2 q * 8388608 := ⟨st_lo h.2.b23.1 h.2.b23.2.1, en_hi h.2.b23.1 h.2.b23.2.1⟩
/-- second leaves of a map are apart -/
theorem VM.apart {L : List Q4} (h : VM L) {i j : Int} (i0 : 0 ≤ i) (i1 : i < L.length) (j0 : 0 ≤ j) (j1 : j < L.length) (e : i ≠ j) : en2 (qat L i) ≤ st2 (qat L j) ∨ en2 (qat L j) ≤ st2 (qat L i) := by
  have hB := map_swp_B h.B
  have hc : cutM (L.map swp4) := (cutM_iff hB).mpr (by rw [arr_turn h.B]; exact h.turn.cut)
  have hp := (apM_iff hB).mp hc.1
  rw [List.pairwise_map, List.pairwise_iff_getElem] at hp
  have hq : ∀ k : Int, 0 ≤ k → k < L.length → ∃ hk : k.toNat < L.length, qat L k = L[k.toNat] := fun k k0 k1 => by
    refine ⟨by omega, ?_⟩
    unfold qat
    rw [List.getD_eq_getElem?_getD, List.getElem?_eq_getElem (by omega)]; rfl
  obtain ⟨hi, ei⟩ := hq i i0 i1
  obtain ⟨hj, ej⟩ := hq j j0 j1
  have s1 := kq2_st (h.B _ (qat_mem i0 i1))
  have s2 := kq2_st (h.B _ (qat_mem j0 j1))
  have hd : dsj (swp4 (qat L i)) (swp4 (qat L j)) := by
    rw [ei, ej]
    rcases Nat.lt_or_ge i.toNat j.toNat with g | g
    · exact hp _ _ hi hj g
    · exact dsj_symm (hp _ _ hj hi (by omega))
  have hd : kq2 (qat L i) + wd46 (qat L i).2.2.1 ≤ kq2 (qat L j) ∨ kq2 (qat L j) + wd46 (qat L j).2.2.1 ≤ kq2 (qat L i) := hd
  omega
theorem en2_gt {q : Q4} (h : LQ 23 q) : 0 ≤ st2 q ∧ st2 q < en2 q ∧ en2 q ≤ 8388608 := ⟨h.2.st.1, h.2.st.2.2.2.2, h.2.st.2.2.2.1⟩
/-- a list whose second leaves rise is a cut by them -/
theorem rise_cut {L : List Q4} (hB : ∀ q ∈ L, LQ 23 q) (hc : cov2 L) (h : L.Pairwise (fun a b => st2 a ≤ st2 b)) : cutF (L.map swp4) := by
  rw [cutF_46 (map_swp_B hB)]
  refine cov_cut _ 0 (Int.le_refl _) (by decide) (toB46 (map_swp_B hB)) (fun q hq => (lo46_b (toB46 (map_swp_B hB) q hq).1).1) ?_ (fun y y0 y1 => cov_swp.mpr hc y y0 y1)
  rw [List.pairwise_map]
  refine List.Pairwise.imp_of_mem (fun {a b} ha hb g => ?_) h
  have s1 : kq (swp4 a) = st2 a * 8388608 := (kq2_st (hB a ha)).1
  have s2 : kq (swp4 b) = st2 b * 8388608 := (kq2_st (hB b hb)).1
  omega
/-- rising by index -/
theorem pw_of {L : List Q4} {f : Q4 → Int} (h : ∀ j : Int, 1 ≤ j → j < L.length → f (qat L (j - 1)) ≤ f (qat L j)) : L.Pairwise (fun a b => f a ≤ f b) := by
  rw [List.pairwise_iff_getElem]
  have hq : ∀ (k : Nat) (hk : k < L.length), qat L (k : Int) = L[k] := fun k hk => by
    unfold qat
    rw [show ((k : Int)).toNat = k by omega, List.getD_eq_getElem?_getD, List.getElem?_eq_getElem hk]; rfl
  intro i j hi hj hij
  have : ∀ d : Nat, ∀ hd : i + d < L.length, f L[i] ≤ f L[i + d] := by
    intro d
    induction d with
    | zero => intro hd; exact Int.le_refl _
    | succ d ih =>
      intro hd
      have h1 := ih (by omega)
      have h2 := h ((i + d + 1 : Nat) : Int) (by omega) (by omega)
      rw [show ((i + d + 1 : Nat) : Int) - 1 = ((i + d : Nat) : Int) by omega, hq _ (by omega), hq _ (by omega)] at h2
      exact Int.le_trans h1 h2
  have h3 := this (j - i) (by omega)
  have e : i + (j - i) = j := by omega
  simp only [e] at h3
  exact h3
theorem ord_iff {L : List Q4} (h : VM L) : ordM L ↔ inO L L.length := by
  have hl := h.len
  have hs := fun (j : Int) (a : 0 ≤ j) (b : j < L.length) => kq2_st (h.B _ (qat_mem a b))
  have hg := fun (j : Int) (a : 0 ≤ j) (b : j < L.length) => en2_gt (h.B _ (qat_mem a b))
  constructor
  · intro ho
    rcases ho with ho | ⟨o1, o2⟩
    · intro j h1 h2; omega
    · obtain ⟨p, p0, p1, p2, p3⟩ := trn_one.mp o2
      have e : p = 0 := Classical.byContradiction fun e => by
        have := p3 0 (by omega) (by omega) (fun z => e z.symm)
        rw [trn_0.mpr o1] at this
        exact absurd this (by decide)
      have hr : ∀ j : Int, 1 ≤ j → j < L.length → st2 (qat L (j - 1)) ≤ st2 (qat L j) := fun j h1 h2 => by
        have := p3 j (by omega) h2 (by omega)
        have hn : ¬ kq2 (qat L j) < kq2 (qat L (j - 1)) := fun z => by rw [(trn_j h1).mpr z] at this; exact absurd this (by decide)
        have s1 := hs j (by omega) h2
        have s2 := hs (j - 1) (by omega) (by omega)
        omega
      have hc := rise_cut h.B h.2.2.2 (pw_of (f := st2) hr)
      intro j h1 h2
      have := cut_s hc (j := j - 1) (by omega) (by rw [List.length_map]; omega)
      rw [show j - 1 + 1 = j by omega, qat_map (by omega) (by omega), qat_map (by omega) h2] at this
      exact this.symm
  · intro hi
    by_cases e : L.length = 1
    · exact Or.inl e
    · have hr : ∀ j : Int, 1 ≤ j → j < L.length → st2 (qat L (j - 1)) < st2 (qat L j) := fun j h1 h2 => by
        have := hi j h1 h2
        have := hg (j - 1) (by omega) (by omega)
        omega
      have hup : ∀ n : Nat, 1 ≤ n → (n : Int) < L.length → st2 (qat L 0) < st2 (qat L n) := by
        intro n
        induction n with
        | zero => intro a; omega
        | succ n ih =>
          intro a b
          have h1 := hr ((n + 1 : Nat) : Int) (by omega) b
          rw [show ((n + 1 : Nat) : Int) - 1 = (n : Int) by omega] at h1
          rcases Nat.eq_zero_or_pos n with z | z
          · rw [z] at h1 ⊢; exact h1
          · have := ih z (by omega); omega
      have h0 := hup (L.length - 1) (by omega) (by omega)
      rw [show ((L.length - 1 : Nat) : Int) = (L.length : Int) - 1 by omega] at h0
      have s0 := hs 0 (by omega) (by omega)
      have sl := hs (L.length - 1) (by omega) (by omega)
      have t0 : trn L 0 = true := trn_0.mpr (by omega)
      refine Or.inr ⟨trn_0.mp t0, trn_one.mpr ⟨0, by omega, by omega, t0, fun j j0 j1 e => ?_⟩⟩
      have h1 := hr j (by omega) j1
      have s1 := hs j (by omega) j1
      have s2 := hs (j - 1) (by omega) (by omega)
      exact Bool.eq_false_iff.mpr (fun z => by have := (trn_j (by omega)).mp z; omega)
/-- one turn, and not in order: it wraps once -/
theorem rnd_iff {L : List Q4} (h : VM L) (hno : ¬ inO L L.length) : trnC L L.length = 1 ↔ rnD L L.length := by
  have hl := h.len
  have hs := fun (j : Int) (a : 0 ≤ j) (b : j < L.length) => kq2_st (h.B _ (qat_mem a b))
  have hg := fun (j : Int) (a : 0 ≤ j) (b : j < L.length) => en2_gt (h.B _ (qat_mem a b))
  constructor
  · intro ht
    have hord : ¬ ordM L := fun z => hno ((ord_iff h).mp z)
    obtain ⟨p, p0, p1, p2, p3⟩ := trn_one.mp ht
    have ep : p ≠ 0 := fun z => by
      rw [z] at p2
      exact hord (Or.inr ⟨trn_0.mp p2, ht⟩)
    -- the row turned: from p on, then up to p - 1
    have hup : ∀ j : Int, 1 ≤ j → j < L.length → j ≠ p → st2 (qat L (j - 1)) ≤ st2 (qat L j) := fun j a b c => by
      have := p3 j (by omega) b c
      have hn : ¬ kq2 (qat L j) < kq2 (qat L (j - 1)) := fun z => by rw [(trn_j a).mpr z] at this; exact absurd this (by decide)
      have s1 := hs j (by omega) b
      have s2 := hs (j - 1) (by omega) (by omega)
      omega
    have h0 : st2 (qat L (L.length - 1)) ≤ st2 (qat L 0) := by
      have := p3 0 (by omega) (by omega) (fun z => ep z.symm)
      have hn : ¬ kq2 (qat L 0) < kq2 (qat L (L.length - 1)) := fun z => by rw [trn_0.mpr z] at this; exact absurd this (by decide)
      have s1 := hs 0 (by omega) (by omega)
      have s2 := hs (L.length - 1) (by omega) (by omega)
      omega
    have hperm : (L.drop p.toNat ++ L.take p.toNat).Perm L := by
      have := List.perm_append_comm (l₁ := L.drop p.toNat) (l₂ := L.take p.toNat)
      rw [List.take_append_drop] at this
      exact this
    have hlen : (L.drop p.toNat ++ L.take p.toNat).length = L.length := hperm.length_eq
    have hqd : ∀ i : Int, 0 ≤ i → i < (L.length : Int) - p → qat (L.drop p.toNat ++ L.take p.toNat) i = qat L (p + i) := fun i a b => by
      rw [qat_app_lt a (by rw [List.length_drop]; omega)]
      unfold qat
      rw [List.getD_eq_getElem?_getD, List.getD_eq_getElem?_getD, List.getElem?_drop, show p.toNat + i.toNat = (p + i).toNat by omega]
    have hqt : ∀ i : Int, (L.length : Int) - p ≤ i → i < L.length → qat (L.drop p.toNat ++ L.take p.toNat) i = qat L (i - (L.length - p)) := fun i a b => by
      rw [qat_app (by omega), if_neg (by rw [List.length_drop]; omega), List.length_drop]
      unfold qat
      rw [List.getD_eq_getElem?_getD, List.getD_eq_getElem?_getD, List.getElem?_take, if_pos (by omega), show (i - ((L.length - p.toNat : Nat) : Int)).toNat = (i - ((L.length : Int) - p)).toNat by omega]
    have hB2 : ∀ q ∈ L.drop p.toNat ++ L.take p.toNat, LQ 23 q := fun q hq => h.B q (hperm.mem_iff.mp hq)
    have hc2 : cov2 (L.drop p.toNat ++ L.take p.toNat) := fun y y0 y1 => by rw [hperm.countP_eq]; exact h.2.2.2 y y0 y1
    have hcut := rise_cut hB2 hc2 (pw_of (f := st2) (fun j a b => by
      rw [hlen] at b
      rcases Int.lt_or_le j (L.length - p) with g | g
      · rw [hqd (j - 1) (by omega) (by omega), hqd j (by omega) g]
        have := hup (p + j) (by omega) (by omega) (by omega)
        rw [show p + j - 1 = p + (j - 1) by omega] at this
        exact this
      · rw [hqt j g b]
        by_cases e : j = (L.length : Int) - p
        · rw [hqd (j - 1) (by omega) (by omega), e, Int.sub_self, show p + ((L.length : Int) - p - 1) = (L.length : Int) - 1 by omega]
          exact h0
        · rw [hqt (j - 1) (by omega) (by omega)]
          have := hup (j - (L.length - p)) (by omega) (by omega) (by omega)
          rw [show j - ((L.length : Int) - p) - 1 = j - 1 - ((L.length : Int) - p) by omega] at this
          exact this))
    have hml : (((L.drop p.toNat ++ L.take p.toNat).map swp4).length : Int) = L.length := by rw [List.length_map, hlen]
    intro j a b
    by_cases e : j = p
    · have c0 := cut_0 hcut
      have ce := cut_e hcut
      rw [qat_map (by omega) (by omega), hqd 0 (by omega) (by omega), Int.add_zero] at c0
      rw [hml, qat_map (by omega) (by omega), hqt _ (by omega) (by omega), show (L.length : Int) - 1 - (L.length - p) = p - 1 by omega] at ce
      have c0 : st2 (qat L p) = 0 := c0
      have ce : en2 (qat L (p - 1)) = 8388608 := ce
      rw [e, ce, if_pos rfl]; exact c0
    · have hstep : st2 (qat L j) = en2 (qat L (j - 1)) := by
        rcases Int.lt_or_le j p with g | g
        · have := cut_s hcut (j := j - 1 + (L.length - p)) (by omega) (by omega)
          rw [qat_map (by omega) (by omega), qat_map (by omega) (by omega), hqt _ (by omega) (by omega), hqt _ (by omega) (by omega), show j - 1 + ((L.length : Int) - p) - (L.length - p) = j - 1 by omega, show j - 1 + ((L.length : Int) - p) + 1 - (L.length - p) = j by omega] at this
          exact this.symm
        · have := cut_s hcut (j := j - 1 - p) (by omega) (by omega)
          rw [qat_map (by omega) (by omega), qat_map (by omega) (by omega), hqd _ (by omega) (by omega), hqd _ (by omega) (by omega), show p + (j - 1 - p) = j - 1 by omega, show p + (j - 1 - p + 1) = j by omega] at this
          exact this.symm
      have := hg j (by omega) b
      rw [hstep, if_neg (by omega)]
  · intro hr
    have : ∃ j : Int, 1 ≤ j ∧ j < L.length ∧ st2 (qat L j) ≠ en2 (qat L (j - 1)) := Classical.byContradiction fun no => hno (fun j a b => Classical.byContradiction fun z => no ⟨j, a, b, z⟩)
    obtain ⟨p, a, b, c⟩ := this
    have hp := hr p a b
    have hend : en2 (qat L (p - 1)) = 8388608 := Classical.byContradiction fun z => by rw [if_neg z] at hp; exact c hp
    rw [if_pos hend] at hp
    have hoth : ∀ j : Int, 1 ≤ j → j < L.length → j ≠ p → st2 (qat L j) = en2 (qat L (j - 1)) := fun j a' b' c' => by
      have h1 := hr j a' b'
      by_cases z : en2 (qat L (j - 1)) = 8388608
      · have h2 := h.apart (i := j - 1) (j := p - 1) (by omega) (by omega) (by omega) (by omega) (by omega)
        have := hg (j - 1) (by omega) (by omega)
        have := hg (p - 1) (by omega) (by omega)
        omega
      · rw [if_neg z] at h1; exact h1
    have hafter : ∀ n : Nat, p + n < L.length → en2 (qat L (p + n)) ≤ st2 (qat L 0) := by
      intro n
      induction n with
      | zero =>
        intro hn
        have h2 := h.apart (i := p + ((0 : Nat) : Int)) (j := 0) (by omega) (by omega) (by omega) (by omega) (by omega)
        have e0 : p + ((0 : Nat) : Int) = p := by omega
        rw [e0] at h2 ⊢
        have := hg 0 (by omega) (by omega)
        omega
      | succ n ih =>
        intro hn
        have h1 := ih (by omega)
        have h2 := hoth (p + ((n + 1 : Nat) : Int)) (by omega) (by omega) (by omega)
        rw [show p + ((n + 1 : Nat) : Int) - 1 = p + (n : Int) by omega] at h2
        have h3 := h.apart (i := p + ((n + 1 : Nat) : Int)) (j := 0) (by omega) (by omega) (by omega) (by omega) (by omega)
        have := hg 0 (by omega) (by omega)
        omega
    have hlast := hafter (L.length - 1 - p.toNat) (by omega)
    rw [show p + ((L.length - 1 - p.toNat : Nat) : Int) = (L.length : Int) - 1 by omega] at hlast
    refine trn_one.mpr ⟨p, by omega, b, ?_, fun j j0 j1 e => ?_⟩
    · refine (trn_j a).mpr ?_
      have s1 := hs p (by omega) b
      have s2 := hs (p - 1) (by omega) (by omega)
      have h3 := h.apart (i := p) (j := p - 1) (by omega) (by omega) (by omega) (by omega) (by omega)
      have := hg p (by omega) b
      have := hg (p - 1) (by omega) (by omega)
      omega
    · refine Bool.eq_false_iff.mpr (fun z => ?_)
      by_cases e0 : j = 0
      · rw [e0] at z
        have z := trn_0.mp z
        have s1 := hs 0 (by omega) (by omega)
        have s2 := hs (L.length - 1) (by omega) (by omega)
        have := hg (L.length - 1) (by omega) (by omega)
        omega
      · have z := (trn_j (by omega)).mp z
        have h1 := hoth j (by omega) j1 e
        have s1 := hs j (by omega) j1
        have s2 := hs (j - 1) (by omega) (by omega)
        have := hg (j - 1) (by omega) (by omega)
        omega
theorem kind_of {L : List Q4} (h : VM L) : kindM L = kindF L := by
  unfold kindM kindF
  by_cases c : inO L L.length
  · rw [if_pos ((ord_iff h).mpr c), if_pos c]
  · rw [if_neg (fun z => c ((ord_iff h).mp z)), if_neg c]
    by_cases d : rnD L L.length
    · rw [if_pos ((rnd_iff h c).mpr d), if_pos d]
    · rw [if_neg (fun z => d ((rnd_iff h c).mp z)), if_neg d]
