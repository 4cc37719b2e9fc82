/-! what the model's rows mean -/
theorem zI_shr {a k : Int} (ha : iR a) (h : 0 ≤ k ∧ k < 32) : zI a >>> (zI k &&& 31) = zI (a / 2 ^ k.toNat) := by
  apply Int32.toInt_inj.mp
  obtain ⟨n, rfl⟩ := Int.eq_ofNat_of_zero_le h.1
  have e : (zI a >>> (zI n &&& 31)).toInt = (zI a).toInt >>> n := by
    show ((zI a).toBitVec.sshiftRight ((zI n &&& 31).toBitVec.smod 32).toNat).toInt = _
    rw [zI_and31 n (by omega), BitVec.toInt_sshiftRight]
    rfl
  rw [e, zI_toInt ha, Int.shiftRight_eq_div_pow]
  have hr := ediv_rng (two_pow_pos n) ha.1 ha.2 (by decide)
  rw [show ((2 ^ n : Nat) : Int) = 2 ^ n by simp]
  exact (zI_toInt hr).symm
section
variable {G : Gx} {p : Program} {l : Launch} {e : Env} {R : Room} {s : State} {m : MethodId} {args : Array Value} {below : List Frame} {meth : Method} {c : Code} {Q : State → Prop} {A : Nat → Prop} {cc : ByteArray} {nL : Nat} {own : String} {Ts : List Cond} {H : Heap} {ca sl pc : Nat} {lv : List (Nat × Value)} {st : List Value}
theorem j_ishr (C : Cx G p s m args meth c cc nL own Ts) {a b : Int} (hdg : decode cc pc = .ok (.ishr, 1)) (ha : iR a) (hb : 0 ≤ b ∧ b < 32) (k : JJ p l e R s m args below meth c Q A nL H ca sl (pc + 1) lv (.int (zI (a / 2 ^ b.toNat)) :: st)) : JJ p l e R s m args below meth c Q A nL H ca sl pc lv (.int (zI b) :: .int (zI a) :: st) := fun ls locs h hS => lv_ishr C.1 C.2.1 hdg (by rw [zI_shr ha hb]; exact k ls locs h hS)
end
/-! turning -/
theorem strong_arr {i : Int} (h0 : 0 ≤ i) (h1 : i ≤ 6) : arrF (strongF i) = strongF i ∧ (∀ q ∈ strongF i, LQ 23 q) := by
  have : i = 0 ∨ i = 1 ∨ i = 2 ∨ i = 3 ∨ i = 4 ∨ i = 5 ∨ i = 6 := by omega
  rcases this with rfl | rfl | rfl | rfl | rfl | rfl | rfl <;> refine ⟨by decide +kernel, ?_⟩ <;> (unfold LQ Lf; decide +kernel)
theorem strong_len {i : Int} (h0 : 0 ≤ i) : ((strongF i).length : Int) = i + 3 := by
  unfold strongF
  rw [List.length_append, strongP_len]
  simp only [List.length_cons, List.length_nil]
  omega
/-! the cells at hand: apart, and together all -/
theorem wdF_s {L : List Q4} {i : Int} (h0 : 0 ≤ i) (h1 : i < L.length) : wdF (L.take (i + 1).toNat) = wdF (L.take i.toNat) + 2 ^ (23 - (qat L i).1).toNat := by
  unfold wdF
  rw [take_q L h0 h1, List.foldl_append]
  rfl
theorem wdF_aux : ∀ (L : List Q4) (s : Int), (∀ q ∈ L, 0 ≤ q.1) → s ≤ L.foldl (fun s q => s + 2 ^ (23 - q.1).toNat) s ∧ L.foldl (fun s q => s + 2 ^ (23 - q.1).toNat) s ≤ s + 8388608 * L.length
  | [], s, _ => ⟨Int.le_refl _, by simp⟩
  | q :: L, s, h => by
    have h2 := two_pow_pos (23 - q.1).toNat
    have h3 := pow_le_pow2 (m := (23 - q.1).toNat) (n := 23) (by have := h q List.mem_cons_self; omega)
    have h4 : (2 : Int) ^ 23 = 8388608 := rfl
    have ih := wdF_aux L (s + 2 ^ (23 - q.1).toNat) (fun x hx => h x (List.mem_cons_of_mem _ hx))
    rw [List.foldl_cons, List.length_cons]
    omega
theorem wdF_b {L : List Q4} (h : ∀ q ∈ L, LQ 23 q) (i : Nat) : 0 ≤ wdF (L.take i) ∧ wdF (L.take i) ≤ 8388608 * L.length := by
  have := wdF_aux (L.take i) 0 (fun q hq => (h q (List.mem_of_mem_take hq)).1.1)
  have hl : (L.take i).length ≤ L.length := by rw [List.length_take]; omega
  unfold wdF
  omega
/-! the maps of the model -/
def MT (maps : Int → List Q4) (m0 m1 : Int → Int) : Prop := ∀ t : Int, 0 ≤ t → t < 12 → m0 t = (maps t).length ∧ R4 (maps t) (fun k => m1 (96 * t + k))
abbrev VMs (maps : Int → List Q4) : Prop := ∀ t : Int, 0 ≤ t → t < 12 → 1 ≤ (maps t).length → VM (maps t)
theorem MT.iR {maps : Int → List Q4} {m0 m1 : Int → Int} (h : MT maps m0 m1) (hV : VMs maps) : ∀ t, 0 ≤ t → t < 12 → iR (m0 t) := fun t t0 t1 => by
  have h1 := (h t t0 t1).1
  rcases Nat.eq_zero_or_pos (maps t).length with e | e
  · exact ⟨by omega, by omega⟩
  · have := (hV t t0 t1 e).len
    exact ⟨by omega, by omega⟩
theorem MT.store {maps : Int → List Q4} {m0 m1 m7 : Int → Int} {t us : Int} {L : List Q4} (h : MT maps m0 m1) (ht : 0 ≤ t ∧ t < 12) (hus : us = L.length) (hl : L.length ≤ 24) (hL : R4 L m7) (hM : ∀ t, 0 ≤ t → t < 12 → (maps t).length ≤ 24) : MT (iup maps t L) (iup m0 t us) (cpf m1 m7 (96 * t) (4 * us)) := fun u u0 u1 => by
  by_cases e : u = t
  · subst e
    rw [iup_s, iup_s]
    exact ⟨hus, hL.congr (fun k k0 k1 => by rw [cpf_in (by omega), show 96 * u + k - 96 * u = k by omega])⟩
  · rw [iup_n e, iup_n e]
    have hl2 := hM u u0 u1
    exact ⟨(h u u0 u1).1, (h u u0 u1).2.congr (fun k k0 k1 => by rw [cpf_out (by omega)])⟩
theorem VMs.le {maps : Int → List Q4} (h : VMs maps) : ∀ t, 0 ≤ t → t < 12 → (maps t).length ≤ 24 := fun t t0 t1 => by
  rcases Nat.eq_zero_or_pos (maps t).length with e | e
  · omega
  · exact (h t t0 t1 e).len.2
/-! normal forms: to be proved with 09's -/
theorem comp_of {A B M : List Q4} (hA : VM A) (hB : VM B) (hG : Mg (prodF A B) M) (hN : nrm M) : arrF M = compF A B := comp_norm hA hB hG hN
