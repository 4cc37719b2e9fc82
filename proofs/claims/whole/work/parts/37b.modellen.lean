/-! lengths of words -/
def lenF (L : List Q4) : Int := if L ∈ ballL 0 then 0 else if L ∈ ballL 1 then 1 else if L ∈ ballL 2 then 2 else if L ∈ ballL 3 then 3 else if L ∈ ballL 4 then 4 else -1
theorem lenF_of {L : List Q4} {l : Int} (h0 : 0 ≤ l) (h4 : l ≤ 4) (hn : ∀ j : Int, 0 ≤ j → j < l → L ∉ ballL j.toNat) (hi : L ∈ ballL l.toNat) : lenF L = l := by
  have : l = 0 ∨ l = 1 ∨ l = 2 ∨ l = 3 ∨ l = 4 := by omega
  unfold lenF
  rcases this with rfl | rfl | rfl | rfl | rfl
  · rw [if_pos (show L ∈ ballL 0 from hi)]
  · rw [if_neg (show L ∉ ballL 0 from hn 0 (by decide) (by decide)), if_pos (show L ∈ ballL 1 from hi)]
  · rw [if_neg (show L ∉ ballL 0 from hn 0 (by decide) (by decide)), if_neg (show L ∉ ballL 1 from hn 1 (by decide) (by decide)), if_pos (show L ∈ ballL 2 from hi)]
  · rw [if_neg (show L ∉ ballL 0 from hn 0 (by decide) (by decide)), if_neg (show L ∉ ballL 1 from hn 1 (by decide) (by decide)), if_neg (show L ∉ ballL 2 from hn 2 (by decide) (by decide)), if_pos (show L ∈ ballL 3 from hi)]
  · rw [if_neg (show L ∉ ballL 0 from hn 0 (by decide) (by decide)), if_neg (show L ∉ ballL 1 from hn 1 (by decide) (by decide)), if_neg (show L ∉ ballL 2 from hn 2 (by decide) (by decide)), if_neg (show L ∉ ballL 3 from hn 3 (by decide) (by decide)), if_pos (show L ∈ ballL 4 from hi)]
theorem lenF_no {L : List Q4} (h : L ∉ ballL 4) : lenF L = -1 := by
  have hk : ∀ n : Nat, n ≤ 4 → L ∉ ballL n := fun n hn q => h ((ballL_4 hn).subset q)
  unfold lenF
  rw [if_neg (hk 0 (by omega)), if_neg (hk 1 (by omega)), if_neg (hk 2 (by omega)), if_neg (hk 3 (by omega)), if_neg h]
theorem in_iff {L : List Q4} {r : Int} (r0 : 0 ≤ r) (r1 : r < (ballL 4).length) (e : wat (ballL 4) r = L) (hf : ∀ v : Int, 0 ≤ v → v < r → wat (ballL 4) v ≠ L) {l : Int} (l0 : 0 ≤ l) (l4 : l ≤ 4) : r < (firstF (l + 1).toNat : Int) ↔ L ∈ ballL l.toNat := by
  have hp := ballL_4 (n := l.toNat) (by omega)
  have ef : firstF (l + 1).toNat = (ballL l.toNat).length := by rw [show (l + 1).toNat = l.toNat + 1 by omega]; rfl
  rw [ef]
  constructor
  · intro h
    rw [← e, wat_pre hp r0 h]
    exact wat_mem r0 h
  · intro h
    obtain ⟨v, v0, v1, ev⟩ := wat_of_mem h
    rcases Int.lt_or_le v r with g | g
    · exact absurd ((wat_pre hp v0 v1).trans ev) (hf v v0 g)
    · omega
theorem firstF_5 : firstF 5 = 161 := ball_count.1
theorem firstF_1 : firstF 1 = 1 := rfl
