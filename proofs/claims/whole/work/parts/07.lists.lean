/-! what the class does to a list of quadruples: push and merge halves; sink the last to its place -/
abbrev hlv (x y : Q4) : Prop := x.1 = y.1 ∧ x.2.2.1 = y.2.2.1 ∧ x.2.1 % 2 = 0 ∧ x.2.1 + 1 = y.2.1 ∧ x.2.2.2 % 2 = 0 ∧ x.2.2.2 + 1 = y.2.2.2
def par4 (x : Q4) : Q4 := (x.1 - 1, x.2.1 / 2, x.2.2.1 - 1, x.2.2.2 / 2)
def swp4 (x : Q4) : Q4 := (x.2.2.1, x.2.2.2, x.1, x.2.1)
def st1 (x : Q4) : Int := x.2.1 * 2 ^ (23 - x.1).toNat
def st2 (x : Q4) : Int := x.2.2.2 * 2 ^ (23 - x.2.2.1).toNat
def en1 (x : Q4) : Int := (x.2.1 + 1) * 2 ^ (23 - x.1).toNat
def en2 (x : Q4) : Int := (x.2.2.2 + 1) * 2 ^ (23 - x.2.2.1).toNat
def pushR : List Q4 → Q4 → List Q4
  | [], q => [q]
  | t :: S, q => if hlv t q then pushR S (par4 t) else q :: t :: S
def insR : List Q4 → Q4 → List Q4
  | [], q => [q]
  | t :: S, q => if st1 q < st1 t then t :: insR S q else q :: t :: S
def pushL (L : List Q4) (q : Q4) : List Q4 := (pushR L.reverse q).reverse
def insL (L : List Q4) (q : Q4) : List Q4 := (insR L.reverse q).reverse
def redF (P : List Q4) : List Q4 := P.foldl pushL []
def turnF (L : List Q4) : List Q4 := L.foldl (fun S q => insL S (swp4 q)) []
theorem pushL_nil (q : Q4) : pushL [] q = [q] := rfl
theorem pushL_t {M : List Q4} {t q : Q4} (h : hlv t q) : pushL (M ++ [t]) q = pushL M (par4 t) := by
  unfold pushL
  rw [List.reverse_append]
  show (pushR (t :: M.reverse) q).reverse = _
  conv => lhs; unfold pushR
  rw [if_pos h]
theorem pushL_f {M : List Q4} {t q : Q4} (h : ¬ hlv t q) : pushL (M ++ [t]) q = M ++ [t] ++ [q] := by
  unfold pushL
  rw [List.reverse_append]
  show (pushR (t :: M.reverse) q).reverse = _
  unfold pushR
  rw [if_neg h]
  simp
theorem insL_nil (q : Q4) : insL [] q = [q] := rfl
theorem insL_t {M : List Q4} {t q : Q4} (h : st1 q < st1 t) : insL (M ++ [t]) q = insL M q ++ [t] := by
  unfold insL
  rw [List.reverse_append]
  show (insR (t :: M.reverse) q).reverse = _
  conv => lhs; unfold insR
  rw [if_pos h]
  simp
theorem insL_f {M : List Q4} {t q : Q4} (h : ¬ st1 q < st1 t) : insL (M ++ [t]) q = M ++ [t] ++ [q] := by
  unfold insL
  rw [List.reverse_append]
  show (insR (t :: M.reverse) q).reverse = _
  unfold insR
  rw [if_neg h]
  simp
theorem LQ.par {N : Int} {t q : Q4} (ht : LQ N t) (hq : LQ N q) (h : hlv t q) : LQ N (par4 t) := by
  obtain ⟨⟨a1, a2, a3, a4⟩, b1, b2, b3, b4⟩ := ht
  obtain ⟨⟨c1, c2, c3, c4⟩, d1, d2, d3, d4⟩ := hq
  obtain ⟨h1, h2, h3, h4, h5, h6⟩ := h
  have half : ∀ x y z : Int, 0 ≤ x → 0 ≤ y → y % 2 = 0 → y + 1 < 2 ^ x.toNat → 1 ≤ x ∧ y / 2 < 2 ^ (x - 1).toNat := by
    intro x y z hx hy he hl
    by_cases h0 : x = 0
    · subst h0
      have : (2 : Int) ^ (0 : Int).toNat = 1 := rfl
      omega
    · refine ⟨by omega, ?_⟩
      have e : (2 : Int) ^ x.toNat = 2 * 2 ^ (x - 1).toNat := by
        rw [show x.toNat = (x - 1).toNat + 1 by omega, Int.pow_succ, Int.mul_comm]
      omega
  have e1 := half t.1 t.2.1 0 a1 a3 h3 (by rw [h4, h1]; exact c4)
  have e2 := half t.2.2.1 t.2.2.2 0 b1 b3 h5 (by rw [h6, h2]; exact d4)
  unfold par4
  exact ⟨⟨by omega, by show t.1 - 1 ≤ N; omega, by show 0 ≤ t.2.1 / 2; omega, e1.2⟩, ⟨by show 0 ≤ t.2.2.1 - 1; omega, by show t.2.2.1 - 1 ≤ N; omega, by show 0 ≤ t.2.2.2 / 2; omega, e2.2⟩⟩
theorem pushR_B {N : Int} : ∀ (S : List Q4) (q : Q4), (∀ x ∈ S, LQ N x) → LQ N q → ∀ x ∈ pushR S q, LQ N x
  | [], q, _, hq => by intro x hx; rw [show pushR [] q = [q] from rfl] at hx; rw [List.mem_singleton.mp hx]; exact hq
  | t :: S, q, hS, hq => by
    intro x hx
    unfold pushR at hx
    by_cases h : hlv t q
    · rw [if_pos h] at hx
      exact pushR_B S (par4 t) (fun y hy => hS y (List.mem_cons_of_mem _ hy)) ((hS t List.mem_cons_self).par hq h) x hx
    · rw [if_neg h] at hx
      rcases List.mem_cons.mp hx with rfl | hx
      · exact hq
      · exact hS x hx
theorem pushL_B {N : Int} {L : List Q4} {q : Q4} (hL : ∀ x ∈ L, LQ N x) (hq : LQ N q) : ∀ x ∈ pushL L q, LQ N x := by
  intro x hx
  exact pushR_B L.reverse q (fun y hy => hL y (List.mem_reverse.mp hy)) hq x (List.mem_reverse.mp hx)
theorem pushR_len : ∀ (S : List Q4) (q : Q4), (pushR S q).length ≤ S.length + 1
  | [], q => Nat.le_refl _
  | t :: S, q => by
    unfold pushR
    by_cases h : hlv t q
    · rw [if_pos h]; exact Nat.le_succ_of_le (pushR_len S (par4 t))
    · rw [if_neg h]; exact Nat.le_refl _
theorem pushL_len (L : List Q4) (q : Q4) : (pushL L q).length ≤ L.length + 1 := by
  unfold pushL
  rw [List.length_reverse]
  have := pushR_len L.reverse q
  rw [List.length_reverse] at this
  exact this
theorem insR_mem : ∀ (S : List Q4) (q x : Q4), x ∈ insR S q → x = q ∨ x ∈ S
  | [], q, x, h => by rw [show insR [] q = [q] from rfl] at h; exact Or.inl (List.mem_singleton.mp h)
  | t :: S, q, x, h => by
    unfold insR at h
    by_cases c : st1 q < st1 t
    · rw [if_pos c] at h
      rcases List.mem_cons.mp h with rfl | h
      · exact Or.inr List.mem_cons_self
      · rcases insR_mem S q x h with h | h
        · exact Or.inl h
        · exact Or.inr (List.mem_cons_of_mem _ h)
    · rw [if_neg c] at h
      rcases List.mem_cons.mp h with rfl | h
      · exact Or.inl rfl
      · exact Or.inr h
theorem insL_mem {L : List Q4} {q x : Q4} (h : x ∈ insL L q) : x = q ∨ x ∈ L := by
  rcases insR_mem L.reverse q x (List.mem_reverse.mp h) with h | h
  · exact Or.inl h
  · exact Or.inr (List.mem_reverse.mp h)
theorem insR_len : ∀ (S : List Q4) (q : Q4), (insR S q).length = S.length + 1
  | [], q => rfl
  | t :: S, q => by
    unfold insR
    by_cases c : st1 q < st1 t
    · rw [if_pos c, List.length_cons, insR_len S q, List.length_cons]
    · rw [if_neg c]; rfl
theorem insL_len (L : List Q4) (q : Q4) : (insL L q).length = L.length + 1 := by
  unfold insL
  rw [List.length_reverse, insR_len, List.length_reverse]
theorem LQ.swp {N : Int} {q : Q4} (h : LQ N q) : LQ N (swp4 q) := ⟨h.2, h.1⟩
/-! the rows under these -/
def swpF (f : Int → Int) (i : Int) : Int → Int := iup (iup f i (f (i - 1))) (i - 1) (f i)
theorem qat_app {L M : List Q4} {i : Int} (h0 : 0 ≤ i) : qat (L ++ M) i = if i < L.length then qat L i else qat M (i - L.length) := by
  by_cases h : i < L.length
  · rw [if_pos h, qat_app_lt h0 h]
  · rw [if_neg h]
    unfold qat
    rw [List.getD_eq_getElem?_getD, List.getD_eq_getElem?_getD, List.getElem?_append_right (by omega), show i.toNat - L.length = (i - L.length).toNat by omega]
theorem qat_0 {q : Q4} {M : List Q4} : qat (q :: M) 0 = q := rfl
theorem qat_1 {t q : Q4} {M : List Q4} : qat (t :: q :: M) 1 = q := rfl
theorem qat_s {q : Q4} {M : List Q4} {i : Int} (h : 1 ≤ i) : qat (q :: M) i = qat M (i - 1) := by
  unfold qat
  rw [List.getD_eq_getElem?_getD, List.getD_eq_getElem?_getD, show i.toNat = (i - 1).toNat + 1 by omega, List.getElem?_cons_succ]
theorem Rp.swap {M T : List Q4} {t q : Q4} {d c e b : Int → Int} {i : Int} (h : Rp (M ++ t :: q :: T) d c e b) (hi : i = M.length + 1) : Rp (M ++ q :: t :: T) (swpF d i) (swpF c i) (swpF e i) (swpF b i) := by
  subst hi
  have hl : (M ++ q :: t :: T).length = M.length + (T.length + 2) := by simp
  have hl' : (M ++ t :: q :: T).length = M.length + (T.length + 2) := by simp
  intro j h0 h1
  have e1 := h (M.length : Int) (by omega) (by rw [hl']; omega)
  have e2 := h (M.length + 1 : Int) (by omega) (by rw [hl']; omega)
  rw [qat_app (by omega), if_neg (by omega), show (M.length : Int) - M.length = 0 by omega, qat_0] at e1
  rw [qat_app (by omega), if_neg (by omega), show (M.length : Int) + 1 - M.length = 1 by omega, qat_1] at e2
  unfold swpF
  rw [show (M.length : Int) + 1 - 1 = M.length by omega]
  by_cases c1 : j = M.length
  · subst c1
    rw [qat_app (by omega), if_neg (by omega), show (M.length : Int) - M.length = 0 by omega, qat_0, iup_s, iup_s, iup_s, iup_s]
    exact e2
  · by_cases c2 : j = M.length + 1
    · subst c2
      rw [qat_app (by omega), if_neg (by omega), show (M.length : Int) + 1 - M.length = 1 by omega, qat_1, iup_n c1, iup_n c1, iup_n c1, iup_n c1, iup_s, iup_s, iup_s, iup_s]
      exact e1
    · rw [iup_n c1, iup_n c1, iup_n c1, iup_n c1, iup_n c2, iup_n c2, iup_n c2, iup_n c2, ← h j h0 (by omega)]
      rw [qat_app h0, qat_app h0]
      by_cases c3 : j < M.length
      · rw [if_pos c3, if_pos c3]
      · rw [if_neg c3, if_neg c3, qat_s (by omega), qat_s (by omega), qat_s (by omega), qat_s (by omega)]
theorem Rp.set_last {M X : List Q4} {t : Q4} {d c e b : Int → Int} {k x y z w : Int} (h : Rp (M ++ t :: X) d c e b) (hk : k = M.length) : Rp (M ++ [(x, y, z, w)]) (iup d k x) (iup c k y) (iup e k z) (iup b k w) := by
  subst hk
  intro j h0 h1
  have hl : (M ++ [(x, y, z, w)]).length = M.length + 1 := by simp
  have hl' : (M ++ t :: X).length = M.length + (X.length + 1) := by simp
  by_cases c1 : j = M.length
  · subst c1
    rw [qat_app (by omega), if_neg (by omega), show (M.length : Int) - M.length = 0 by omega, qat_0, iup_s, iup_s, iup_s, iup_s]
  · rw [iup_n c1, iup_n c1, iup_n c1, iup_n c1, ← h j h0 (by omega), qat_app h0, qat_app h0, if_pos (by omega), if_pos (by omega)]
theorem Rp.pre {M X : List Q4} {d c e b : Int → Int} (h : Rp (M ++ X) d c e b) : Rp M d c e b := by
  intro j h0 h1
  rw [← h j h0 (by rw [List.length_append]; omega), qat_app h0, if_pos h1]
theorem Rp.at_mid {M X : List Q4} {q : Q4} {d c e b : Int → Int} {k : Int} (h : Rp (M ++ q :: X) d c e b) (hk : k = M.length) : q = (d k, c k, e k, b k) := by
  rw [← h k (by omega) (by rw [List.length_append, List.length_cons]; omega), qat_app (by omega), if_neg (by omega), show k - M.length = 0 by omega, qat_0]
theorem Rp.nil {d c e b : Int → Int} : Rp [] d c e b := fun i h0 h1 => absurd h1 (by simp; omega)
section
variable {G : Gx} {H H1 : Heap} {a cap : Nat} {n : Int} {d c e b : Int → Int}
theorem PQ.fr_d {d' : Int → Int} (h : PQ G H a cap n d c e b) (hR : ai G (a + 1) cap d' H1) (hF : Frm (fun x => x = a + 1) H H1) : PQ G H1 a cap n d' c e b := by
  have := h.lt
  exact ⟨h.1.kept (hF.2 _ (by show a < H.size; omega) (by show ¬ a = a + 1; omega)), hR, h.2.2.1.kept (hF.2 _ (by omega) (by omega)), h.2.2.2.1.kept (hF.2 _ (by omega) (by omega)), h.2.2.2.2.kept (hF.2 _ (by omega) (by omega))⟩
theorem PQ.fr_c {c' : Int → Int} (h : PQ G H a cap n d c e b) (hR : al G (a + 2) cap c' H1) (hF : Frm (fun x => x = a + 2) H H1) : PQ G H1 a cap n d c' e b := by
  have := h.lt
  exact ⟨h.1.kept (hF.2 _ (by show a < H.size; omega) (by show ¬ a = a + 2; omega)), h.2.1.kept (hF.2 _ (by omega) (by omega)), hR, h.2.2.2.1.kept (hF.2 _ (by omega) (by omega)), h.2.2.2.2.kept (hF.2 _ (by omega) (by omega))⟩
theorem PQ.fr_e {e' : Int → Int} (h : PQ G H a cap n d c e b) (hR : ai G (a + 3) cap e' H1) (hF : Frm (fun x => x = a + 3) H H1) : PQ G H1 a cap n d c e' b := by
  have := h.lt
  exact ⟨h.1.kept (hF.2 _ (by show a < H.size; omega) (by show ¬ a = a + 3; omega)), h.2.1.kept (hF.2 _ (by omega) (by omega)), h.2.2.1.kept (hF.2 _ (by omega) (by omega)), hR, h.2.2.2.2.kept (hF.2 _ (by omega) (by omega))⟩
theorem PQ.fr_b {b' : Int → Int} (h : PQ G H a cap n d c e b) (hR : al G (a + 4) cap b' H1) (hF : Frm (fun x => x = a + 4) H H1) : PQ G H1 a cap n d c e b' := by
  have := h.lt
  exact ⟨h.1.kept (hF.2 _ (by show a < H.size; omega) (by show ¬ a = a + 4; omega)), h.2.1.kept (hF.2 _ (by omega) (by omega)), h.2.2.1.kept (hF.2 _ (by omega) (by omega)), h.2.2.2.1.kept (hF.2 _ (by omega) (by omega)), hR⟩
end
theorem snoc_of {α : Type} {M : List α} (h : 0 < M.length) : ∃ (M' : List α) (t : α), M = M' ++ [t] := by
  rcases List.eq_nil_or_concat M with rfl | ⟨M', t, h2⟩
  · simp at h
  · exact ⟨M', t, by rw [h2, List.concat_eq_append]⟩
theorem app_cons {α : Type} (M T : List α) (t : α) : M ++ [t] ++ T = M ++ t :: T := by rw [List.append_assoc]; rfl
