/-- the law's end: 1 -/
theorem j_lawret {G : Gx} {p : Program} {l : Launch} {e : Env} {s : State} {m : MethodId} {below : List Frame} {meth : Method} {c : Code} {b : Nat} (C : Cx G p s m #[Value.ref b] meth c code 4 RL wsL_law) (hr : meth.sig.returnType = ret) {H : Heap} {ca sl pc : Nat} {lv : List (Nat × Value)} (hca : ca ≤ room_1.cells) (hsl : sl ≤ room_1.slots) (hdg : decode code pc = .ok (.ireturn, 1)) : JJ p l e room_1 s m #[Value.ref b] below meth c (lw_Z below #[Value.ref b] s) (fun q : Nat => s.heap.size ≤ q) 4 H ca sl pc lv [.int (zI 1)] := fun ls locs h hS =>
  va_forget (fun q hq => hS.2.2 q hq) (W.widen hca hsl (lw_ret C.1 C.2.1 hr C.2.2.2.2.2.1 hdg))
set_option maxHeartbeats 8000000 in
theorem law_loop (l : Launch) {G : Gx} {p : Program} {e : Env} {s : State} {m : MethodId} {below : List Frame} {meth : Method} {c : Code} {b L o : Nat} {xs : Nat → Int32} (C : Cx G p s m #[Value.ref b] meth c code 4 RL wsL_law) (hX : va_X b L xs s s.heap) (hbl : b < s.heap.size) (hL : L ≤ 2560) (ho : s.heap.size = o) (hr : meth.sig.returnType = ret) : ∀ (fu : Nat) (i : Int) (maps : Int → List Q4) (hand : List Q4) (sd sc : Int) (near : Value) (ca sl : Nat) (H : Heap), (L - i).toNat < fu → 0 ≤ i → i ≤ 2565 → lawS G o H maps hand sd sc near ca sl → JJ p l e room_1 s m #[Value.ref b] below meth c (lw_Z below #[Value.ref b] s) (fun q : Nat => s.heap.size ≤ q) 4 H ca sl 18 [(0, .ref b), (1, .ref o), (2, .ref (o + 82)), (3, .int (zI i))] [] := by
  intro fu
  induction fu with
  | zero => intro i maps hand sd sc near ca sl H hm; exact absurd hm (Nat.not_lt_zero _)
  | succ fu ih =>
    intro i maps hand sd sc near ca sl H hm i0 i1 hS
    have hrm := hS.room
    have hbA : ¬ (fun q : Nat => s.heap.size ≤ q) b := by show ¬ s.heap.size ≤ b; omega
    have hLL : (L : Int) < 2147483648 := by omega
    refine j_iload_n C dL_law_18 rfl ?_
    refine j_aload_n C dL_law_19 rfl ?_
    refine j_slen C hX hbl hbA dL_law_20 ?_
    refine j_iconst C dL_law_21 ?_
    refine j_isub C dL_law_22 ?_
    refine j_icmp_gt (tgt := 895) C dL_law_23 (by decide) ⟨by omega, by omega⟩ ⟨by omega, by omega⟩ (fun c23 => ?_) (fun c23 => ?_)
    · refine j_iconst C dL_law_895 ?_
      exact j_lawret C hr (Nat.le_trans hrm.1 lw_rc) (Nat.le_trans hrm.2 lw_rs) dL_law_896
    have kk : ∀ (maps' : Int → List Q4) (hand' : List Q4) (sd' sc' : Int) (near' : Value) (ca' sl' : Nat) (H' : Heap), lawS G o H' maps' hand' sd' sc' near' ca' sl' → JJ p l e room_1 s m #[Value.ref b] below meth c (lw_Z below #[Value.ref b] s) (fun q : Nat => s.heap.size ≤ q) 4 H' ca' sl' 889 [(0, .ref b), (1, .ref o), (2, .ref (o + 82)), (3, .int (zI i))] [] := by
      intro maps' hand' sd' sc' near' ca' sl' H' hS'
      refine j_iinc (lv' := [(0, .ref b), (1, .ref o), (2, .ref (o + 82)), (3, .int (zI (i + 5)))]) C dL_law_889 rfl (by decide) rfl ?_
      refine j_goto (tgt := 18) C dL_law_892 (by decide) ?_
      exact ih (i + 5) maps' hand' sd' sc' near' ca' sl' H' (by omega) (by omega) (by omega) hS'
    refine j_aload_n C dL_law_26 rfl ?_
    refine j_iload_n C dL_law_27 rfl ?_
    refine j_sld C hX hbl hbA hLL ⟨by omega, by omega⟩ dL_law_28 ?_
    refine j_bipush C dL_law_29 (by decide) ?_
    refine j_iand31 C dL_law_31 (fun j j0 j1 => ?_)
    by_cases t0 : j = 0
    · subst t0
      refine j_tswIn (off := 112) (tgt := 144) C dL_law_32 ⟨by decide, by decide⟩ (by decide) (by decide) rfl (by decide) ?_
      exact law_0 l C hX hbl hL ho hS i0 (by omega) kk
    by_cases t1 : j = 1
    · subst t1
      refine j_tswIn (off := 165) (tgt := 197) C dL_law_32 ⟨by decide, by decide⟩ (by decide) (by decide) rfl (by decide) ?_
      exact law_1 l C hX hbl hL ho hS i0 (by omega) kk
    by_cases t2 : j = 2
    · subst t2
      refine j_tswIn (off := 178) (tgt := 210) C dL_law_32 ⟨by decide, by decide⟩ (by decide) (by decide) rfl (by decide) ?_
      exact law_2 l C hX hbl hL ho hS i0 (by omega) kk
    by_cases t3 : j = 3
    · subst t3
      refine j_tswIn (off := 201) (tgt := 233) C dL_law_32 ⟨by decide, by decide⟩ (by decide) (by decide) rfl (by decide) ?_
      exact law_3 l C hX hbl hL ho hS i0 (by omega) kk
    by_cases t4 : j = 4
    · subst t4
      refine j_tswIn (off := 234) (tgt := 266) C dL_law_32 ⟨by decide, by decide⟩ (by decide) (by decide) rfl (by decide) ?_
      exact law_4 l C hX hbl hL ho hS i0 (by omega) kk
    by_cases t5 : j = 5
    · subst t5
      refine j_tswIn (off := 277) (tgt := 309) C dL_law_32 ⟨by decide, by decide⟩ (by decide) (by decide) rfl (by decide) ?_
      exact law_5 l C hX hbl hL ho hS i0 (by omega) kk
    by_cases t6 : j = 6
    · subst t6
      refine j_tswIn (off := 310) (tgt := 342) C dL_law_32 ⟨by decide, by decide⟩ (by decide) (by decide) rfl (by decide) ?_
      exact law_6 l C hX hbl hL ho hS i0 (by omega) kk
    by_cases t7 : j = 7
    · subst t7
      refine j_tswIn (off := 353) (tgt := 385) C dL_law_32 ⟨by decide, by decide⟩ (by decide) (by decide) rfl (by decide) ?_
      exact law_7 l C hX hbl hL ho hS i0 (by omega) kk
    by_cases t8 : j = 8
    · subst t8
      refine j_tswIn (off := 376) (tgt := 408) C dL_law_32 ⟨by decide, by decide⟩ (by decide) (by decide) rfl (by decide) ?_
      exact law_8 l C hX hbl hL ho hS i0 (by omega) kk
    by_cases t9 : j = 9
    · subst t9
      refine j_tswIn (off := 399) (tgt := 431) C dL_law_32 ⟨by decide, by decide⟩ (by decide) (by decide) rfl (by decide) ?_
      exact law_9 l C hX hbl hL ho hS i0 (by omega) kk
    by_cases t10 : j = 10
    · subst t10
      refine j_tswIn (off := 422) (tgt := 454) C dL_law_32 ⟨by decide, by decide⟩ (by decide) (by decide) rfl (by decide) ?_
      exact law_10 l C hX hbl hL ho hS i0 (by omega) kk
    by_cases t11 : j = 11
    · subst t11
      refine j_tswIn (off := 465) (tgt := 497) C dL_law_32 ⟨by decide, by decide⟩ (by decide) (by decide) rfl (by decide) ?_
      exact law_11 l C hX hbl hL ho hS i0 (by omega) kk
    by_cases t12 : j = 12
    · subst t12
      refine j_tswIn (off := 498) (tgt := 530) C dL_law_32 ⟨by decide, by decide⟩ (by decide) (by decide) rfl (by decide) ?_
      exact law_12 l C hX hbl hL ho hS i0 (by omega) kk
    by_cases t13 : j = 13
    · subst t13
      refine j_tswIn (off := 531) (tgt := 563) C dL_law_32 ⟨by decide, by decide⟩ (by decide) (by decide) rfl (by decide) ?_
      exact law_13 l C hX hbl hL ho hS i0 (by omega) kk
    by_cases t14 : j = 14
    · subst t14
      refine j_tswIn (off := 554) (tgt := 586) C dL_law_32 ⟨by decide, by decide⟩ (by decide) (by decide) rfl (by decide) ?_
      exact law_14 l C hX hbl hL ho hS i0 (by omega) kk
    by_cases t15 : j = 15
    · subst t15
      refine j_tswIn (off := 577) (tgt := 609) C dL_law_32 ⟨by decide, by decide⟩ (by decide) (by decide) rfl (by decide) ?_
      exact law_15 l C hX hbl hL ho hS i0 (by omega) kk
    by_cases t16 : j = 16
    · subst t16
      refine j_tswIn (off := 600) (tgt := 632) C dL_law_32 ⟨by decide, by decide⟩ (by decide) (by decide) rfl (by decide) ?_
      exact law_16 l C hX hbl hL ho hS i0 (by omega) kk
    by_cases t17 : j = 17
    · subst t17
      refine j_tswIn (off := 673) (tgt := 705) C dL_law_32 ⟨by decide, by decide⟩ (by decide) (by decide) rfl (by decide) ?_
      exact law_17 l C hX hbl hL ho hS i0 (by omega) kk
    by_cases t18 : j = 18
    · subst t18
      refine j_tswIn (off := 697) (tgt := 729) C dL_law_32 ⟨by decide, by decide⟩ (by decide) (by decide) rfl (by decide) ?_
      exact law_18 l C hX hbl hL ho hS i0 (by omega) kk
    by_cases t19 : j = 19
    · subst t19
      refine j_tswIn (off := 730) (tgt := 762) C dL_law_32 ⟨by decide, by decide⟩ (by decide) (by decide) rfl (by decide) ?_
      exact law_19 l C hX hbl hL ho hS i0 (by omega) kk
    by_cases t20 : j = 20
    · subst t20
      refine j_tswIn (off := 753) (tgt := 785) C dL_law_32 ⟨by decide, by decide⟩ (by decide) (by decide) rfl (by decide) ?_
      exact law_20 l C hX hbl hL ho hS i0 (by omega) kk
    by_cases t21 : j = 21
    · subst t21
      refine j_tswIn (off := 776) (tgt := 808) C dL_law_32 ⟨by decide, by decide⟩ (by decide) (by decide) rfl (by decide) ?_
      exact law_21 l C hX hbl hL ho hS i0 (by omega) kk
    by_cases t22 : j = 22
    · subst t22
      refine j_tswIn (off := 820) (tgt := 852) C dL_law_32 ⟨by decide, by decide⟩ (by decide) (by decide) rfl (by decide) ?_
      exact law_22 l C hX hbl hL ho hS i0 (by omega) kk
    by_cases t23 : j = 23
    · subst t23
      refine j_tswIn (off := 843) (tgt := 875) C dL_law_32 ⟨by decide, by decide⟩ (by decide) (by decide) rfl (by decide) ?_
      exact law_23 l C hX hbl hL ho hS i0 (by omega) kk
    refine j_tswOut (tgt := 889) C dL_law_32 ⟨by omega, by omega⟩ (by omega) (by decide) ?_
    exact kk maps hand sd sc near ca sl H hS
