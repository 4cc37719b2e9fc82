section
-- ===== PART A: goes FIRST, ahead of the names: the tables' words, and 'selects' of the private methods out of them =====
/-- a private method of a class that the tables say can be made, by its rows of tables_1 -/
def lw_okq (q : MethodName × Nat) : Prop := (q.1.cls ≠ "java/lang/invoke/MethodHandle" ∧ q.1.cls ≠ "java/lang/invoke/VarHandle") ∧ Cond.instantiable q.1.cls q.2 ∈ tables_1 ∧ Cond.privateMethod q.1 ∈ tables_1 ∧ Cond.instanceMethod q.1 ∈ tables_1
theorem lw_p0 : lw_okq (⟨"TreePairs$Pairs", "areLastHalves", "()Z"⟩, 5) := ⟨⟨by decide +kernel, by decide +kernel⟩, List.mem_of_getElem? (i := 24) (by decide +kernel), List.mem_of_getElem? (i := 137) (by decide +kernel), List.mem_of_getElem? (i := 138) (by decide +kernel)⟩
theorem lw_p1 : lw_okq (⟨"TreePairs", "isThere", "(I)Z"⟩, 8) := ⟨⟨by decide +kernel, by decide +kernel⟩, List.mem_of_getElem? (i := 15) (by decide +kernel), List.mem_of_getElem? (i := 156) (by decide +kernel), List.mem_of_getElem? (i := 157) (by decide +kernel)⟩
theorem lw_p2 : lw_okq (⟨"TreePairs", "isRaised", "(LTreePairs$Pairs;I)Z"⟩, 8) := ⟨⟨by decide +kernel, by decide +kernel⟩, List.mem_of_getElem? (i := 15) (by decide +kernel), List.mem_of_getElem? (i := 189) (by decide +kernel), List.mem_of_getElem? (i := 190) (by decide +kernel)⟩
theorem lw_p3 : lw_okq (⟨"TreePairs", "isOneMore", "(LTreePairs$Pairs;)Z"⟩, 8) := ⟨⟨by decide +kernel, by decide +kernel⟩, List.mem_of_getElem? (i := 15) (by decide +kernel), List.mem_of_getElem? (i := 200) (by decide +kernel), List.mem_of_getElem? (i := 201) (by decide +kernel)⟩
theorem lw_p4 : lw_okq (⟨"TreePairs", "nearOnes", "()LTreePairs$Ball;"⟩, 8) := ⟨⟨by decide +kernel, by decide +kernel⟩, List.mem_of_getElem? (i := 15) (by decide +kernel), List.mem_of_getElem? (i := 246) (by decide +kernel), List.mem_of_getElem? (i := 247) (by decide +kernel)⟩
theorem lw_p5 : lw_okq (⟨"TreePairs", "grownBall", "()LTreePairs$Ball;"⟩, 8) := ⟨⟨by decide +kernel, by decide +kernel⟩, List.mem_of_getElem? (i := 15) (by decide +kernel), List.mem_of_getElem? (i := 250) (by decide +kernel), List.mem_of_getElem? (i := 251) (by decide +kernel)⟩
theorem lw_p6 : lw_okq (⟨"java/util/ArrayList", "add", "(Ljava/lang/Object;[Ljava/lang/Object;I)V"⟩, 3) := ⟨⟨by decide +kernel, by decide +kernel⟩, List.mem_of_getElem? (i := 260) (by decide +kernel), List.mem_of_getElem? (i := 348) (by decide +kernel), List.mem_of_getElem? (i := 349) (by decide +kernel)⟩
theorem lw_p7 : lw_okq (⟨"java/util/ArrayList", "grow", "()[Ljava/lang/Object;"⟩, 3) := ⟨⟨by decide +kernel, by decide +kernel⟩, List.mem_of_getElem? (i := 260) (by decide +kernel), List.mem_of_getElem? (i := 352) (by decide +kernel), List.mem_of_getElem? (i := 353) (by decide +kernel)⟩
theorem lw_p8 : lw_okq (⟨"java/util/ArrayList", "grow", "(I)[Ljava/lang/Object;"⟩, 3) := ⟨⟨by decide +kernel, by decide +kernel⟩, List.mem_of_getElem? (i := 260) (by decide +kernel), List.mem_of_getElem? (i := 356) (by decide +kernel), List.mem_of_getElem? (i := 357) (by decide +kernel)⟩
theorem lw_p9 : lw_okq (⟨"TreePairs", "see", "(IJ)V"⟩, 8) := ⟨⟨by decide +kernel, by decide +kernel⟩, List.mem_of_getElem? (i := 15) (by decide +kernel), List.mem_of_getElem? (i := 407) (by decide +kernel), List.mem_of_getElem? (i := 408) (by decide +kernel)⟩
theorem lw_p10 : lw_okq (⟨"TreePairs", "mapsOfKind", "(I)I"⟩, 8) := ⟨⟨by decide +kernel, by decide +kernel⟩, List.mem_of_getElem? (i := 15) (by decide +kernel), List.mem_of_getElem? (i := 460) (by decide +kernel), List.mem_of_getElem? (i := 461) (by decide +kernel)⟩
theorem lw_p11 : lw_okq (⟨"TreePairsModel", "isCut", "(I)Z"⟩, 20) := ⟨⟨by decide +kernel, by decide +kernel⟩, List.mem_of_getElem? (i := 473) (by decide +kernel), List.mem_of_getElem? (i := 563) (by decide +kernel), List.mem_of_getElem? (i := 564) (by decide +kernel)⟩
theorem lw_p12 : lw_okq (⟨"TreePairsModel", "put", "(JJJJ)V"⟩, 20) := ⟨⟨by decide +kernel, by decide +kernel⟩, List.mem_of_getElem? (i := 473) (by decide +kernel), List.mem_of_getElem? (i := 568) (by decide +kernel), List.mem_of_getElem? (i := 569) (by decide +kernel)⟩
theorem lw_p13 : lw_okq (⟨"TreePairsModel", "reduce", "()V"⟩, 20) := ⟨⟨by decide +kernel, by decide +kernel⟩, List.mem_of_getElem? (i := 473) (by decide +kernel), List.mem_of_getElem? (i := 572) (by decide +kernel), List.mem_of_getElem? (i := 573) (by decide +kernel)⟩
theorem lw_p14 : lw_okq (⟨"TreePairsModel", "remove", "(I)V"⟩, 20) := ⟨⟨by decide +kernel, by decide +kernel⟩, List.mem_of_getElem? (i := 473) (by decide +kernel), List.mem_of_getElem? (i := 577) (by decide +kernel), List.mem_of_getElem? (i := 578) (by decide +kernel)⟩
theorem lw_p15 : lw_okq (⟨"TreePairsModel", "arrange", "()V"⟩, 20) := ⟨⟨by decide +kernel, by decide +kernel⟩, List.mem_of_getElem? (i := 473) (by decide +kernel), List.mem_of_getElem? (i := 581) (by decide +kernel), List.mem_of_getElem? (i := 582) (by decide +kernel)⟩
def lw_privs_1 : List (MethodName × Nat) := [(⟨"TreePairs$Pairs", "areLastHalves", "()Z"⟩, 5), (⟨"TreePairs", "isThere", "(I)Z"⟩, 8), (⟨"TreePairs", "isRaised", "(LTreePairs$Pairs;I)Z"⟩, 8), (⟨"TreePairs", "isOneMore", "(LTreePairs$Pairs;)Z"⟩, 8), (⟨"TreePairs", "nearOnes", "()LTreePairs$Ball;"⟩, 8), (⟨"TreePairs", "grownBall", "()LTreePairs$Ball;"⟩, 8), (⟨"java/util/ArrayList", "add", "(Ljava/lang/Object;[Ljava/lang/Object;I)V"⟩, 3), (⟨"java/util/ArrayList", "grow", "()[Ljava/lang/Object;"⟩, 3), (⟨"java/util/ArrayList", "grow", "(I)[Ljava/lang/Object;"⟩, 3), (⟨"TreePairs", "see", "(IJ)V"⟩, 8), (⟨"TreePairs", "mapsOfKind", "(I)I"⟩, 8), (⟨"TreePairsModel", "isCut", "(I)Z"⟩, 20), (⟨"TreePairsModel", "put", "(JJJJ)V"⟩, 20), (⟨"TreePairsModel", "reduce", "()V"⟩, 20), (⟨"TreePairsModel", "remove", "(I)V"⟩, 20), (⟨"TreePairsModel", "arrange", "()V"⟩, 20)]
theorem lw_r1 : ∀ q ∈ lw_privs_1, lw_okq q := List.forall_mem_cons.mpr ⟨lw_p0, List.forall_mem_cons.mpr ⟨lw_p1, List.forall_mem_cons.mpr ⟨lw_p2, List.forall_mem_cons.mpr ⟨lw_p3, List.forall_mem_cons.mpr ⟨lw_p4, List.forall_mem_cons.mpr ⟨lw_p5, List.forall_mem_cons.mpr ⟨lw_p6, List.forall_mem_cons.mpr ⟨lw_p7, List.forall_mem_cons.mpr ⟨lw_p8, List.forall_mem_cons.mpr ⟨lw_p9, List.forall_mem_cons.mpr ⟨lw_p10, List.forall_mem_cons.mpr ⟨lw_p11, List.forall_mem_cons.mpr ⟨lw_p12, List.forall_mem_cons.mpr ⟨lw_p13, List.forall_mem_cons.mpr ⟨lw_p14, List.forall_mem_cons.mpr ⟨lw_p15, fun _ h => absurd h List.not_mem_nil⟩⟩⟩⟩⟩⟩⟩⟩⟩⟩⟩⟩⟩⟩⟩⟩
theorem lw_p16 : lw_okq (⟨"TreePairsModel", "isLeft", "(III)Z"⟩, 20) := ⟨⟨by decide +kernel, by decide +kernel⟩, List.mem_of_getElem? (i := 473) (by decide +kernel), List.mem_of_getElem? (i := 585) (by decide +kernel), List.mem_of_getElem? (i := 586) (by decide +kernel)⟩
theorem lw_p17 : lw_okq (⟨"TreePairsModel", "swap", "(II)V"⟩, 20) := ⟨⟨by decide +kernel, by decide +kernel⟩, List.mem_of_getElem? (i := 473) (by decide +kernel), List.mem_of_getElem? (i := 589) (by decide +kernel), List.mem_of_getElem? (i := 590) (by decide +kernel)⟩
theorem lw_p18 : lw_okq (⟨"TreePairsModel", "store", "(I)V"⟩, 20) := ⟨⟨by decide +kernel, by decide +kernel⟩, List.mem_of_getElem? (i := 473) (by decide +kernel), List.mem_of_getElem? (i := 593) (by decide +kernel), List.mem_of_getElem? (i := 594) (by decide +kernel)⟩
theorem lw_p19 : lw_okq (⟨"TreePairsModel", "makeStrong", "(I)V"⟩, 20) := ⟨⟨by decide +kernel, by decide +kernel⟩, List.mem_of_getElem? (i := 473) (by decide +kernel), List.mem_of_getElem? (i := 602) (by decide +kernel), List.mem_of_getElem? (i := 603) (by decide +kernel)⟩
theorem lw_p20 : lw_okq (⟨"TreePairsModel", "isMap", "(I)Z"⟩, 20) := ⟨⟨by decide +kernel, by decide +kernel⟩, List.mem_of_getElem? (i := 473) (by decide +kernel), List.mem_of_getElem? (i := 610) (by decide +kernel), List.mem_of_getElem? (i := 611) (by decide +kernel)⟩
theorem lw_p21 : lw_okq (⟨"TreePairsModel", "load", "(I)V"⟩, 20) := ⟨⟨by decide +kernel, by decide +kernel⟩, List.mem_of_getElem? (i := 473) (by decide +kernel), List.mem_of_getElem? (i := 614) (by decide +kernel), List.mem_of_getElem? (i := 615) (by decide +kernel)⟩
theorem lw_p22 : lw_okq (⟨"TreePairsModel", "aside", "()V"⟩, 20) := ⟨⟨by decide +kernel, by decide +kernel⟩, List.mem_of_getElem? (i := 473) (by decide +kernel), List.mem_of_getElem? (i := 618) (by decide +kernel), List.mem_of_getElem? (i := 619) (by decide +kernel)⟩
theorem lw_p23 : lw_okq (⟨"TreePairsModel", "follow", "()V"⟩, 20) := ⟨⟨by decide +kernel, by decide +kernel⟩, List.mem_of_getElem? (i := 473) (by decide +kernel), List.mem_of_getElem? (i := 622) (by decide +kernel), List.mem_of_getElem? (i := 623) (by decide +kernel)⟩
theorem lw_p24 : lw_okq (⟨"TreePairsModel", "turnWork", "()V"⟩, 20) := ⟨⟨by decide +kernel, by decide +kernel⟩, List.mem_of_getElem? (i := 473) (by decide +kernel), List.mem_of_getElem? (i := 630) (by decide +kernel), List.mem_of_getElem? (i := 631) (by decide +kernel)⟩
theorem lw_p25 : lw_okq (⟨"TreePairsModel", "nothing", "()V"⟩, 20) := ⟨⟨by decide +kernel, by decide +kernel⟩, List.mem_of_getElem? (i := 473) (by decide +kernel), List.mem_of_getElem? (i := 640) (by decide +kernel), List.mem_of_getElem? (i := 641) (by decide +kernel)⟩
theorem lw_p26 : lw_okq (⟨"TreePairsModel", "sortOf", "(I)I"⟩, 20) := ⟨⟨by decide +kernel, by decide +kernel⟩, List.mem_of_getElem? (i := 473) (by decide +kernel), List.mem_of_getElem? (i := 656) (by decide +kernel), List.mem_of_getElem? (i := 657) (by decide +kernel)⟩
theorem lw_p27 : lw_okq (⟨"TreePairsModel", "isNothing", "()Z"⟩, 20) := ⟨⟨by decide +kernel, by decide +kernel⟩, List.mem_of_getElem? (i := 473) (by decide +kernel), List.mem_of_getElem? (i := 677) (by decide +kernel), List.mem_of_getElem? (i := 678) (by decide +kernel)⟩
theorem lw_p28 : lw_okq (⟨"TreePairsModel", "makeBall", "()V"⟩, 20) := ⟨⟨by decide +kernel, by decide +kernel⟩, List.mem_of_getElem? (i := 473) (by decide +kernel), List.mem_of_getElem? (i := 685) (by decide +kernel), List.mem_of_getElem? (i := 686) (by decide +kernel)⟩
theorem lw_p29 : lw_okq (⟨"TreePairsModel", "note", "()V"⟩, 20) := ⟨⟨by decide +kernel, by decide +kernel⟩, List.mem_of_getElem? (i := 473) (by decide +kernel), List.mem_of_getElem? (i := 689) (by decide +kernel), List.mem_of_getElem? (i := 690) (by decide +kernel)⟩
theorem lw_p30 : lw_okq (⟨"TreePairsModel", "wordOf", "()I"⟩, 20) := ⟨⟨by decide +kernel, by decide +kernel⟩, List.mem_of_getElem? (i := 473) (by decide +kernel), List.mem_of_getElem? (i := 693) (by decide +kernel), List.mem_of_getElem? (i := 694) (by decide +kernel)⟩
theorem lw_p31 : lw_okq (⟨"TreePairsModel", "loadWord", "(I)V"⟩, 20) := ⟨⟨by decide +kernel, by decide +kernel⟩, List.mem_of_getElem? (i := 473) (by decide +kernel), List.mem_of_getElem? (i := 697) (by decide +kernel), List.mem_of_getElem? (i := 698) (by decide +kernel)⟩
def lw_privs_2 : List (MethodName × Nat) := [(⟨"TreePairsModel", "isLeft", "(III)Z"⟩, 20), (⟨"TreePairsModel", "swap", "(II)V"⟩, 20), (⟨"TreePairsModel", "store", "(I)V"⟩, 20), (⟨"TreePairsModel", "makeStrong", "(I)V"⟩, 20), (⟨"TreePairsModel", "isMap", "(I)Z"⟩, 20), (⟨"TreePairsModel", "load", "(I)V"⟩, 20), (⟨"TreePairsModel", "aside", "()V"⟩, 20), (⟨"TreePairsModel", "follow", "()V"⟩, 20), (⟨"TreePairsModel", "turnWork", "()V"⟩, 20), (⟨"TreePairsModel", "nothing", "()V"⟩, 20), (⟨"TreePairsModel", "sortOf", "(I)I"⟩, 20), (⟨"TreePairsModel", "isNothing", "()Z"⟩, 20), (⟨"TreePairsModel", "makeBall", "()V"⟩, 20), (⟨"TreePairsModel", "note", "()V"⟩, 20), (⟨"TreePairsModel", "wordOf", "()I"⟩, 20), (⟨"TreePairsModel", "loadWord", "(I)V"⟩, 20)]
theorem lw_r2 : ∀ q ∈ lw_privs_2, lw_okq q := List.forall_mem_cons.mpr ⟨lw_p16, List.forall_mem_cons.mpr ⟨lw_p17, List.forall_mem_cons.mpr ⟨lw_p18, List.forall_mem_cons.mpr ⟨lw_p19, List.forall_mem_cons.mpr ⟨lw_p20, List.forall_mem_cons.mpr ⟨lw_p21, List.forall_mem_cons.mpr ⟨lw_p22, List.forall_mem_cons.mpr ⟨lw_p23, List.forall_mem_cons.mpr ⟨lw_p24, List.forall_mem_cons.mpr ⟨lw_p25, List.forall_mem_cons.mpr ⟨lw_p26, List.forall_mem_cons.mpr ⟨lw_p27, List.forall_mem_cons.mpr ⟨lw_p28, List.forall_mem_cons.mpr ⟨lw_p29, List.forall_mem_cons.mpr ⟨lw_p30, List.forall_mem_cons.mpr ⟨lw_p31, fun _ h => absurd h List.not_mem_nil⟩⟩⟩⟩⟩⟩⟩⟩⟩⟩⟩⟩⟩⟩⟩⟩
theorem lw_p32 : lw_okq (⟨"TreePairsModel", "slope", "(II)I"⟩, 20) := ⟨⟨by decide +kernel, by decide +kernel⟩, List.mem_of_getElem? (i := 473) (by decide +kernel), List.mem_of_getElem? (i := 720) (by decide +kernel), List.mem_of_getElem? (i := 721) (by decide +kernel)⟩
theorem lw_p33 : lw_okq (⟨"TreePairsModel", "seek", "(II)I"⟩, 20) := ⟨⟨by decide +kernel, by decide +kernel⟩, List.mem_of_getElem? (i := 473) (by decide +kernel), List.mem_of_getElem? (i := 732) (by decide +kernel), List.mem_of_getElem? (i := 733) (by decide +kernel)⟩
theorem lw_p34 : lw_okq (⟨"TreePairsModel", "mix", "(J)V"⟩, 20) := ⟨⟨by decide +kernel, by decide +kernel⟩, List.mem_of_getElem? (i := 473) (by decide +kernel), List.mem_of_getElem? (i := 754) (by decide +kernel), List.mem_of_getElem? (i := 755) (by decide +kernel)⟩
def lw_privs_3 : List (MethodName × Nat) := [(⟨"TreePairsModel", "slope", "(II)I"⟩, 20), (⟨"TreePairsModel", "seek", "(II)I"⟩, 20), (⟨"TreePairsModel", "mix", "(J)V"⟩, 20)]
theorem lw_r3 : ∀ q ∈ lw_privs_3, lw_okq q := List.forall_mem_cons.mpr ⟨lw_p32, List.forall_mem_cons.mpr ⟨lw_p33, List.forall_mem_cons.mpr ⟨lw_p34, fun _ h => absurd h List.not_mem_nil⟩⟩⟩
def lw_privs : List (MethodName × Nat) := lw_privs_1 ++ (lw_privs_2 ++ (lw_privs_3))
def lw_tbl : List Cond := k2_sels lw_privs ++ tables_1
theorem lw_privs_ok : ∀ q ∈ lw_privs, lw_okq q := by
  show ∀ q ∈ lw_privs_1 ++ (lw_privs_2 ++ (lw_privs_3)), lw_okq q
  exact List.forall_mem_append.mpr ⟨lw_r1, List.forall_mem_append.mpr ⟨lw_r2, lw_r3⟩⟩
-- ===== end of PART A; then your names; then what follows =====
end
section
/-! ===== BEGIN words of one list among another's, by their places ===== -/
theorem goodIn_r {big : List Cond} (ws : List Cond) (ps : List Nat) (hp : ws = ps.filterMap (fun i => big[i]?)) (h : ws.all goodWord = true) : GoodIn big ws := by
  intro w hw
  have h1 := List.all_eq_true.mp h w hw
  rw [hp] at hw
  obtain ⟨i, -, hi⟩ := List.mem_filterMap.mp hw
  have hm : w ∈ big := by first | exact List.mem_of_getElem? hi | exact List.getElem?_mem hi
  exact ⟨hm, good_of_word h1⟩
theorem goodIn_app {big a b : List Cond} (ha : GoodIn big a) (hb : GoodIn big b) : GoodIn big (a ++ b) := fun w h => (List.mem_append.mp h).elim (ha w) (hb w)
theorem goodIn_ca {big a b : List Cond} {c : Cond} (ha : GoodIn big (c :: a)) (hb : GoodIn big b) : GoodIn big (c :: (a ++ b)) := fun w h => (List.mem_cons.mp h).elim (fun e => ha w (List.mem_cons.mpr (Or.inl e))) (fun h => (List.mem_append.mp h).elim (fun h => ha w (List.mem_cons.mpr (Or.inr h))) (hb w))
theorem goodIn_sub {big ws : List Cond} (hm : ∀ w ∈ ws, w ∈ big) (h : ws.all goodWord = true) : GoodIn big ws := fun w hw => ⟨hm w hw, good_of_word (List.all_eq_true.mp h w hw)⟩
/-! ===== END ===== -/

/-! ===== BEGIN printed: names, fields, word lists, decode rows ===== -/
def RX0 : String := "TreePairs$Ball"
def TX0 : u_T := fun k => match k with
  | 0 => ("TreePairs$Ball", "found", "Ljava/util/List;", true)
  | _ => ("TreePairs$Ball", "ends", "[I", true)
def tyX0 : Nat → FieldType := fun k => match k with
  | 0 => .object "java/util/List"
  | _ => .array .int
abbrev wsX00 : List Cond := u_ws RX0 TX0 2
theorem nmX0 : ∀ a, a < 2 → ∀ b, b < 2 → a ≠ b → (TX0 a).2.1 ≠ (TX0 b).2.1 := by decide +kernel
theorem tyX0_ok : ∀ k, k < 2 → parseFieldDescriptor (TX0 k).2.2.1 = some (tyX0 k) := by decide +kernel
abbrev cX0_init : ByteArray := prog_2_method_1_code
def yX0_init : MethodName := ⟨RX0, "<init>", "()V"⟩
abbrev cX0_addNew : ByteArray := prog_2_method_2_code
def yX0_addNew : MethodName := ⟨RX0, "addNew", "(LTreePairs$Pairs;)V"⟩
abbrev cX0_placeOf : ByteArray := prog_2_method_3_code
def yX0_placeOf : MethodName := ⟨RX0, "placeOf", "(LTreePairs$Pairs;)I"⟩
def RX1 : String := "TreePairs$Pairs"
def TX1 : u_T := fun k => match k with
  | 0 => ("TreePairs$Pairs", "firstDepth", "[I", true)
  | 1 => ("TreePairs$Pairs", "firstPlace", "[J", true)
  | 2 => ("TreePairs$Pairs", "secondDepth", "[I", true)
  | 3 => ("TreePairs$Pairs", "secondPlace", "[J", true)
  | _ => ("TreePairs$Pairs", "size", "I", false)
def tyX1 : Nat → FieldType := fun k => match k with
  | 0 => .array .int
  | 1 => .array .long
  | 2 => .array .int
  | 3 => .array .long
  | _ => .int
abbrev wsX10 : List Cond := u_ws RX1 TX1 5
theorem nmX1 : ∀ a, a < 5 → ∀ b, b < 5 → a ≠ b → (TX1 a).2.1 ≠ (TX1 b).2.1 := by decide +kernel
theorem tyX1_ok : ∀ k, k < 5 → parseFieldDescriptor (TX1 k).2.2.1 = some (tyX1 k) := by decide +kernel
abbrev cX1_init : ByteArray := prog_3_method_1_code
def yX1_init : MethodName := ⟨RX1, "<init>", "(I)V"⟩
abbrev cX1_becomeNothing : ByteArray := prog_3_method_2_code
def yX1_becomeNothing : MethodName := ⟨RX1, "becomeNothing", "()V"⟩
abbrev cX1_add : ByteArray := prog_3_method_3_code
def yX1_add : MethodName := ⟨RX1, "add", "(IJIJ)V"⟩
abbrev cX1_push : ByteArray := prog_3_method_4_code
def yX1_push : MethodName := ⟨RX1, "push", "(IJIJ)V"⟩
abbrev cX1_areLastHalves : ByteArray := prog_3_method_5_code
def yX1_areLastHalves : MethodName := ⟨RX1, "areLastHalves", "()Z"⟩
abbrev cX1_sinkLast : ByteArray := prog_3_method_6_code
def yX1_sinkLast : MethodName := ⟨RX1, "sinkLast", "()V"⟩
abbrev cX1_exchange : ByteArray := prog_3_method_7_code
def yX1_exchange : MethodName := ⟨RX1, "exchange", "([II)V"⟩
abbrev cX1_exchange_ : ByteArray := prog_3_method_8_code
def yX1_exchange_ : MethodName := ⟨RX1, "exchange", "([JI)V"⟩
abbrev cX1_told : ByteArray := prog_3_method_9_code
def yX1_told : MethodName := ⟨RX1, "told", "(II)J"⟩
abbrev cX1_steepness : ByteArray := prog_3_method_10_code
def yX1_steepness : MethodName := ⟨RX1, "steepness", "(I)I"⟩
abbrev cX1_firstStart : ByteArray := prog_3_method_11_code
def yX1_firstStart : MethodName := ⟨RX1, "firstStart", "(I)J"⟩
abbrev cX1_secondStart : ByteArray := prog_3_method_12_code
def yX1_secondStart : MethodName := ⟨RX1, "secondStart", "(I)J"⟩
abbrev cX1_secondEnd : ByteArray := prog_3_method_13_code
def yX1_secondEnd : MethodName := ⟨RX1, "secondEnd", "(I)J"⟩
abbrev cX1_holderOf : ByteArray := prog_3_method_14_code
def yX1_holderOf : MethodName := ⟨RX1, "holderOf", "(J)I"⟩
def RX2 : String := "TreePairs"
def TX2 : u_T := fun k => match k with
  | 0 => ("TreePairs", "maps", "[LTreePairs$Pairs;", true)
  | 1 => ("TreePairs", "hand", "LTreePairs$Pairs;", true)
  | 2 => ("TreePairs", "seenDepth", "I", false)
  | 3 => ("TreePairs", "seenPlace", "J", false)
  | 4 => ("TreePairs", "made", "LTreePairs$Pairs;", true)
  | 5 => ("TreePairs", "raised", "LTreePairs$Pairs;", true)
  | 6 => ("TreePairs", "turned", "LTreePairs$Pairs;", true)
  | _ => ("TreePairs", "near", "LTreePairs$Ball;", false)
def tyX2 : Nat → FieldType := fun k => match k with
  | 0 => .array (.object "TreePairs$Pairs")
  | 1 => .object "TreePairs$Pairs"
  | 2 => .int
  | 3 => .long
  | 4 => .object "TreePairs$Pairs"
  | 5 => .object "TreePairs$Pairs"
  | 6 => .object "TreePairs$Pairs"
  | _ => .object "TreePairs$Ball"
abbrev wsX20 : List Cond := u_ws RX2 TX2 8
theorem nmX2 : ∀ a, a < 8 → ∀ b, b < 8 → a ≠ b → (TX2 a).2.1 ≠ (TX2 b).2.1 := by decide +kernel
theorem tyX2_ok : ∀ k, k < 8 → parseFieldDescriptor (TX2 k).2.2.1 = some (tyX2 k) := by decide +kernel
abbrev cX2_init : ByteArray := prog_1_method_1_code
def yX2_init : MethodName := ⟨RX2, "<init>", "()V"⟩
abbrev cX2_pair : ByteArray := prog_1_method_2_code
def yX2_pair : MethodName := ⟨RX2, "pair", "(IIII)I"⟩
abbrev cX2_clear : ByteArray := prog_1_method_3_code
def yX2_clear : MethodName := ⟨RX2, "clear", "()I"⟩
abbrev cX2_make : ByteArray := prog_1_method_4_code
def yX2_make : MethodName := ⟨RX2, "make", "(I)I"⟩
abbrev cX2_strong : ByteArray := prog_1_method_5_code
def yX2_strong : MethodName := ⟨RX2, "strong", "(II)I"⟩
abbrev cX2_then : ByteArray := prog_1_method_6_code
def yX2_then : MethodName := ⟨RX2, "then", "(III)I"⟩
abbrev cX2_turn : ByteArray := prog_1_method_7_code
def yX2_turn : MethodName := ⟨RX2, "turn", "(II)I"⟩
abbrev cX2_power : ByteArray := prog_1_method_8_code
def yX2_power : MethodName := ⟨RX2, "power", "(III)I"⟩
abbrev cX2_drop : ByteArray := prog_1_method_9_code
def yX2_drop : MethodName := ⟨RX2, "drop", "(I)I"⟩
abbrev cX2_leaves : ByteArray := prog_1_method_10_code
def yX2_leaves : MethodName := ⟨RX2, "leaves", "(I)I"⟩
abbrev cX2_sort : ByteArray := prog_1_method_11_code
def yX2_sort : MethodName := ⟨RX2, "sort", "(I)I"⟩
abbrev cX2_leaf : ByteArray := prog_1_method_12_code
def yX2_leaf : MethodName := ⟨RX2, "leaf", "(III)I"⟩
abbrev cX2_same : ByteArray := prog_1_method_13_code
def yX2_same : MethodName := ⟨RX2, "same", "(II)I"⟩
abbrev cX2_commute : ByteArray := prog_1_method_14_code
def yX2_commute : MethodName := ⟨RX2, "commute", "(II)I"⟩
abbrev cX2_order : ByteArray := prog_1_method_15_code
def yX2_order : MethodName := ⟨RX2, "order", "(I)I"⟩
abbrev cX2_length : ByteArray := prog_1_method_16_code
def yX2_length : MethodName := ⟨RX2, "length", "(I)I"⟩
abbrev cX2_ball : ByteArray := prog_1_method_17_code
def yX2_ball : MethodName := ⟨RX2, "ball", "(I)I"⟩
abbrev cX2_go : ByteArray := prog_1_method_18_code
def yX2_go : MethodName := ⟨RX2, "go", "(IIJ)I"⟩
abbrev cX2_seen : ByteArray := prog_1_method_19_code
def yX2_seen : MethodName := ⟨RX2, "seen", "(I)J"⟩
abbrev cX2_bend : ByteArray := prog_1_method_20_code
def yX2_bend : MethodName := ⟨RX2, "bend", "(II)I"⟩
abbrev cX2_still : ByteArray := prog_1_method_21_code
def yX2_still : MethodName := ⟨RX2, "still", "(I)I"⟩
abbrev cX2_single : ByteArray := prog_1_method_22_code
def yX2_single : MethodName := ⟨RX2, "single", "(I)I"⟩
abbrev cX2_point : ByteArray := prog_1_method_23_code
def yX2_point : MethodName := ⟨RX2, "point", "(III)J"⟩
abbrev cX2_count : ByteArray := prog_1_method_24_code
def yX2_count : MethodName := ⟨RX2, "count", "(I)I"⟩
abbrev cX2_digest : ByteArray := prog_1_method_25_code
def yX2_digest : MethodName := ⟨RX2, "digest", "()J"⟩
abbrev cX2_mixedIn : ByteArray := prog_1_method_26_code
def yX2_mixedIn : MethodName := ⟨RX2, "mixedIn", "(JLTreePairs$Pairs;)J"⟩
abbrev cX2_isLeaf : ByteArray := prog_1_method_27_code
def yX2_isLeaf : MethodName := ⟨RX2, "isLeaf", "(II)Z"⟩
abbrev cX2_isNumber : ByteArray := prog_1_method_28_code
def yX2_isNumber : MethodName := ⟨RX2, "isNumber", "(I)Z"⟩
abbrev cX2_isThere : ByteArray := prog_1_method_29_code
def yX2_isThere : MethodName := ⟨RX2, "isThere", "(I)Z"⟩
abbrev cX2_mapsOfKind : ByteArray := prog_1_method_30_code
def yX2_mapsOfKind : MethodName := ⟨RX2, "mapsOfKind", "(I)I"⟩
abbrev cX2_kindOf : ByteArray := prog_1_method_31_code
def yX2_kindOf : MethodName := ⟨RX2, "kindOf", "(LTreePairs$Pairs;)I"⟩
abbrev cX2_startOf : ByteArray := prog_1_method_32_code
def yX2_startOf : MethodName := ⟨RX2, "startOf", "(IJ)J"⟩
abbrev cX2_isCut : ByteArray := prog_1_method_33_code
def yX2_isCut : MethodName := ⟨RX2, "isCut", "(LTreePairs$Pairs;)Z"⟩
abbrev cX2_areAlike : ByteArray := prog_1_method_34_code
def yX2_areAlike : MethodName := ⟨RX2, "areAlike", "(LTreePairs$Pairs;LTreePairs$Pairs;)Z"⟩
abbrev cX2_putCopy : ByteArray := prog_1_method_35_code
def yX2_putCopy : MethodName := ⟨RX2, "putCopy", "(LTreePairs$Pairs;LTreePairs$Pairs;)V"⟩
abbrev cX2_putReduced : ByteArray := prog_1_method_36_code
def yX2_putReduced : MethodName := ⟨RX2, "putReduced", "(LTreePairs$Pairs;LTreePairs$Pairs;)V"⟩
abbrev cX2_putTurned : ByteArray := prog_1_method_37_code
def yX2_putTurned : MethodName := ⟨RX2, "putTurned", "(LTreePairs$Pairs;LTreePairs$Pairs;)V"⟩
abbrev cX2_putStrong : ByteArray := prog_1_method_38_code
def yX2_putStrong : MethodName := ⟨RX2, "putStrong", "(ILTreePairs$Pairs;)V"⟩
abbrev cX2_putBehind : ByteArray := prog_1_method_39_code
def yX2_putBehind : MethodName := ⟨RX2, "putBehind", "(LTreePairs$Pairs;LTreePairs$Pairs;LTreePairs$Pairs;)V"⟩
abbrev cX2_putPiece : ByteArray := prog_1_method_40_code
def yX2_putPiece : MethodName := ⟨RX2, "putPiece", "(LTreePairs$Pairs;ILTreePairs$Pairs;ILTreePairs$Pairs;)V"⟩
abbrev cX2_isRaised : ByteArray := prog_1_method_41_code
def yX2_isRaised : MethodName := ⟨RX2, "isRaised", "(LTreePairs$Pairs;I)Z"⟩
abbrev cX2_isOneMore : ByteArray := prog_1_method_42_code
def yX2_isOneMore : MethodName := ⟨RX2, "isOneMore", "(LTreePairs$Pairs;)Z"⟩
abbrev cX2_nearOnes : ByteArray := prog_1_method_43_code
def yX2_nearOnes : MethodName := ⟨RX2, "nearOnes", "()LTreePairs$Ball;"⟩
abbrev cX2_grownBall : ByteArray := prog_1_method_44_code
def yX2_grownBall : MethodName := ⟨RX2, "grownBall", "()LTreePairs$Ball;"⟩
abbrev cX2_stepsOfLength : ByteArray := prog_1_method_45_code
def yX2_stepsOfLength : MethodName := ⟨RX2, "stepsOfLength", "()[LTreePairs$Pairs;"⟩
abbrev cX2_see : ByteArray := prog_1_method_46_code
def yX2_see : MethodName := ⟨RX2, "see", "(IJ)V"⟩
abbrev cX2_hasSingle : ByteArray := prog_1_method_47_code
def yX2_hasSingle : MethodName := ⟨RX2, "hasSingle", "(LTreePairs$Pairs;I)Z"⟩
abbrev cX2_singleAbove : ByteArray := prog_1_method_48_code
def yX2_singleAbove : MethodName := ⟨RX2, "singleAbove", "(LTreePairs$Pairs;I)J"⟩
abbrev cX2_singleBelow : ByteArray := prog_1_method_49_code
def yX2_singleBelow : MethodName := ⟨RX2, "singleBelow", "(LTreePairs$Pairs;I)J"⟩
abbrev cX2_partOfSingle : ByteArray := prog_1_method_50_code
def yX2_partOfSingle : MethodName := ⟨RX2, "partOfSingle", "(LTreePairs$Pairs;II)J"⟩
abbrev cX2_commonOf : ByteArray := prog_1_method_51_code
def yX2_commonOf : MethodName := ⟨RX2, "commonOf", "(JJ)J"⟩
def RX3 : String := "TreePairsModel"
def TX3 : u_T := fun k => match k with
  | 0 => ("TreePairsModel", "sizes", "[I", true)
  | 1 => ("TreePairsModel", "pairOf", "[I", true)
  | 2 => ("TreePairsModel", "hand", "I", false)
  | 3 => ("TreePairsModel", "atHand", "[I", true)
  | 4 => ("TreePairsModel", "seenD", "I", false)
  | 5 => ("TreePairsModel", "seenC", "J", false)
  | 6 => ("TreePairsModel", "size", "I", false)
  | 7 => ("TreePairsModel", "work", "[J", true)
  | 8 => ("TreePairsModel", "other", "[J", true)
  | 9 => ("TreePairsModel", "otherSize", "I", false)
  | 10 => ("TreePairsModel", "hasBall", "Z", false)
  | 11 => ("TreePairsModel", "words", "I", false)
  | 12 => ("TreePairsModel", "wordSize", "[I", true)
  | 13 => ("TreePairsModel", "wordPair", "[I", true)
  | 14 => ("TreePairsModel", "first", "[I", true)
  | 15 => ("TreePairsModel", "then", "[J", true)
  | 16 => ("TreePairsModel", "product", "[J", true)
  | 17 => ("TreePairsModel", "above", "J", false)
  | 18 => ("TreePairsModel", "below", "J", false)
  | _ => ("TreePairsModel", "h", "J", false)
def tyX3 : Nat → FieldType := fun k => match k with
  | 0 => .array .int
  | 1 => .array .int
  | 2 => .int
  | 3 => .array .int
  | 4 => .int
  | 5 => .long
  | 6 => .int
  | 7 => .array .long
  | 8 => .array .long
  | 9 => .int
  | 10 => .boolean
  | 11 => .int
  | 12 => .array .int
  | 13 => .array .int
  | 14 => .array .int
  | 15 => .array .long
  | 16 => .array .long
  | 17 => .long
  | 18 => .long
  | _ => .long
abbrev wsX30 : List Cond := u_ws RX3 TX3 20
theorem nmX3 : ∀ a, a < 20 → ∀ b, b < 20 → a ≠ b → (TX3 a).2.1 ≠ (TX3 b).2.1 := by decide +kernel
theorem tyX3_ok : ∀ k, k < 20 → parseFieldDescriptor (TX3 k).2.2.1 = some (tyX3 k) := by decide +kernel
abbrev cX3_init : ByteArray := prog_5_method_1_code
def yX3_init : MethodName := ⟨RX3, "<init>", "()V"⟩
abbrev cX3_in : ByteArray := prog_5_method_3_code
def yX3_in : MethodName := ⟨RX3, "in", "(JJJ)Z"⟩
abbrev cX3_isSlot : ByteArray := prog_5_method_4_code
def yX3_isSlot : MethodName := ⟨RX3, "isSlot", "(I)Z"⟩
abbrev cX3_isMap : ByteArray := prog_5_method_5_code
def yX3_isMap : MethodName := ⟨RX3, "isMap", "(I)Z"⟩
abbrev cX3_put : ByteArray := prog_5_method_6_code
def yX3_put : MethodName := ⟨RX3, "put", "(JJJJ)V"⟩
abbrev cX3_load : ByteArray := prog_5_method_7_code
def yX3_load : MethodName := ⟨RX3, "load", "(I)V"⟩
abbrev cX3_store : ByteArray := prog_5_method_8_code
def yX3_store : MethodName := ⟨RX3, "store", "(I)V"⟩
abbrev cX3_aside : ByteArray := prog_5_method_9_code
def yX3_aside : MethodName := ⟨RX3, "aside", "()V"⟩
abbrev cX3_nothing : ByteArray := prog_5_method_10_code
def yX3_nothing : MethodName := ⟨RX3, "nothing", "()V"⟩
abbrev cX3_turnWork : ByteArray := prog_5_method_11_code
def yX3_turnWork : MethodName := ⟨RX3, "turnWork", "()V"⟩
abbrev cX3_remove : ByteArray := prog_5_method_12_code
def yX3_remove : MethodName := ⟨RX3, "remove", "(I)V"⟩
abbrev cX3_reduce : ByteArray := prog_5_method_13_code
def yX3_reduce : MethodName := ⟨RX3, "reduce", "()V"⟩
abbrev cX3_isLeft : ByteArray := prog_5_method_14_code
def yX3_isLeft : MethodName := ⟨RX3, "isLeft", "(III)Z"⟩
abbrev cX3_swap : ByteArray := prog_5_method_15_code
def yX3_swap : MethodName := ⟨RX3, "swap", "(II)V"⟩
abbrev cX3_arrange : ByteArray := prog_5_method_16_code
def yX3_arrange : MethodName := ⟨RX3, "arrange", "()V"⟩
abbrev cX3_follow : ByteArray := prog_5_method_17_code
def yX3_follow : MethodName := ⟨RX3, "follow", "()V"⟩
abbrev cX3_isNothing : ByteArray := prog_5_method_18_code
def yX3_isNothing : MethodName := ⟨RX3, "isNothing", "()Z"⟩
abbrev cX3_isLeaf : ByteArray := prog_5_method_19_code
def yX3_isLeaf : MethodName := ⟨RX3, "isLeaf", "(II)Z"⟩
abbrev cX3_pair : ByteArray := prog_5_method_20_code
def yX3_pair : MethodName := ⟨RX3, "pair", "(IIII)I"⟩
abbrev cX3_clear : ByteArray := prog_5_method_21_code
def yX3_clear : MethodName := ⟨RX3, "clear", "()I"⟩
abbrev cX3_isCut : ByteArray := prog_5_method_22_code
def yX3_isCut : MethodName := ⟨RX3, "isCut", "(I)Z"⟩
abbrev cX3_make : ByteArray := prog_5_method_23_code
def yX3_make : MethodName := ⟨RX3, "make", "(I)I"⟩
abbrev cX3_makeStrong : ByteArray := prog_5_method_24_code
def yX3_makeStrong : MethodName := ⟨RX3, "makeStrong", "(I)V"⟩
abbrev cX3_strong : ByteArray := prog_5_method_25_code
def yX3_strong : MethodName := ⟨RX3, "strong", "(II)I"⟩
abbrev cX3_then : ByteArray := prog_5_method_26_code
def yX3_then : MethodName := ⟨RX3, "then", "(III)I"⟩
abbrev cX3_turn : ByteArray := prog_5_method_27_code
def yX3_turn : MethodName := ⟨RX3, "turn", "(II)I"⟩
abbrev cX3_power : ByteArray := prog_5_method_28_code
def yX3_power : MethodName := ⟨RX3, "power", "(III)I"⟩
abbrev cX3_drop : ByteArray := prog_5_method_29_code
def yX3_drop : MethodName := ⟨RX3, "drop", "(I)I"⟩
abbrev cX3_leaves : ByteArray := prog_5_method_30_code
def yX3_leaves : MethodName := ⟨RX3, "leaves", "(I)I"⟩
abbrev cX3_sortOf : ByteArray := prog_5_method_31_code
def yX3_sortOf : MethodName := ⟨RX3, "sortOf", "(I)I"⟩
abbrev cX3_sort : ByteArray := prog_5_method_32_code
def yX3_sort : MethodName := ⟨RX3, "sort", "(I)I"⟩
abbrev cX3_leaf : ByteArray := prog_5_method_33_code
def yX3_leaf : MethodName := ⟨RX3, "leaf", "(III)I"⟩
abbrev cX3_same : ByteArray := prog_5_method_34_code
def yX3_same : MethodName := ⟨RX3, "same", "(II)I"⟩
abbrev cX3_commute : ByteArray := prog_5_method_35_code
def yX3_commute : MethodName := ⟨RX3, "commute", "(II)I"⟩
abbrev cX3_order : ByteArray := prog_5_method_36_code
def yX3_order : MethodName := ⟨RX3, "order", "(I)I"⟩
abbrev cX3_wordOf : ByteArray := prog_5_method_37_code
def yX3_wordOf : MethodName := ⟨RX3, "wordOf", "()I"⟩
abbrev cX3_note : ByteArray := prog_5_method_38_code
def yX3_note : MethodName := ⟨RX3, "note", "()V"⟩
abbrev cX3_loadWord : ByteArray := prog_5_method_39_code
def yX3_loadWord : MethodName := ⟨RX3, "loadWord", "(I)V"⟩
abbrev cX3_makeBall : ByteArray := prog_5_method_40_code
def yX3_makeBall : MethodName := ⟨RX3, "makeBall", "()V"⟩
abbrev cX3_length : ByteArray := prog_5_method_41_code
def yX3_length : MethodName := ⟨RX3, "length", "(I)I"⟩
abbrev cX3_ball : ByteArray := prog_5_method_42_code
def yX3_ball : MethodName := ⟨RX3, "ball", "(I)I"⟩
abbrev cX3_go : ByteArray := prog_5_method_43_code
def yX3_go : MethodName := ⟨RX3, "go", "(IIJ)I"⟩
abbrev cX3_seen : ByteArray := prog_5_method_44_code
def yX3_seen : MethodName := ⟨RX3, "seen", "(I)J"⟩
abbrev cX3_slope : ByteArray := prog_5_method_45_code
def yX3_slope : MethodName := ⟨RX3, "slope", "(II)I"⟩
abbrev cX3_bend : ByteArray := prog_5_method_46_code
def yX3_bend : MethodName := ⟨RX3, "bend", "(II)I"⟩
abbrev cX3_still : ByteArray := prog_5_method_47_code
def yX3_still : MethodName := ⟨RX3, "still", "(I)I"⟩
abbrev cX3_common : ByteArray := prog_5_method_48_code
def yX3_common : MethodName := ⟨RX3, "common", "(JJ)J"⟩
abbrev cX3_seek : ByteArray := prog_5_method_49_code
def yX3_seek : MethodName := ⟨RX3, "seek", "(II)I"⟩
abbrev cX3_single : ByteArray := prog_5_method_50_code
def yX3_single : MethodName := ⟨RX3, "single", "(I)I"⟩
abbrev cX3_point : ByteArray := prog_5_method_51_code
def yX3_point : MethodName := ⟨RX3, "point", "(III)J"⟩
abbrev cX3_count : ByteArray := prog_5_method_52_code
def yX3_count : MethodName := ⟨RX3, "count", "(I)I"⟩
abbrev cX3_mix : ByteArray := prog_5_method_53_code
def yX3_mix : MethodName := ⟨RX3, "mix", "(J)V"⟩
abbrev cX3_digest : ByteArray := prog_5_method_54_code
def yX3_digest : MethodName := ⟨RX3, "digest", "()J"⟩
def RJx145de : String := "java/io/Serializable"
def TJx145de : u_T := fun k => match k with
  | _ => ("", "", "", false)
def tyJx145de : Nat → FieldType := fun k => match k with
  | _ => .int
abbrev wsJx145de0 : List Cond := u_ws RJx145de TJx145de 0
theorem nmJx145de : ∀ a, a < 0 → ∀ b, b < 0 → a ≠ b → (TJx145de a).2.1 ≠ (TJx145de b).2.1 := by decide +kernel
theorem tyJx145de_ok : ∀ k, k < 0 → parseFieldDescriptor (TJx145de k).2.2.1 = some (tyJx145de k) := by decide +kernel
def RJx8e188 : String := "java/lang/Cloneable"
def TJx8e188 : u_T := fun k => match k with
  | _ => ("", "", "", false)
def tyJx8e188 : Nat → FieldType := fun k => match k with
  | _ => .int
abbrev wsJx8e1880 : List Cond := u_ws RJx8e188 TJx8e188 0
theorem nmJx8e188 : ∀ a, a < 0 → ∀ b, b < 0 → a ≠ b → (TJx8e188 a).2.1 ≠ (TJx8e188 b).2.1 := by decide +kernel
theorem tyJx8e188_ok : ∀ k, k < 0 → parseFieldDescriptor (TJx8e188 k).2.2.1 = some (tyJx8e188 k) := by decide +kernel
def RJxab1ab : String := "java/lang/Iterable"
def TJxab1ab : u_T := fun k => match k with
  | _ => ("", "", "", false)
def tyJxab1ab : Nat → FieldType := fun k => match k with
  | _ => .int
abbrev wsJxab1ab0 : List Cond := u_ws RJxab1ab TJxab1ab 0
theorem nmJxab1ab : ∀ a, a < 0 → ∀ b, b < 0 → a ≠ b → (TJxab1ab a).2.1 ≠ (TJxab1ab b).2.1 := by decide +kernel
theorem tyJxab1ab_ok : ∀ k, k < 0 → parseFieldDescriptor (TJxab1ab k).2.2.1 = some (tyJxab1ab k) := by decide +kernel
def RJ9 : String := "java/lang/Math"
def TJ9 : u_T := fun k => match k with
  | _ => ("", "", "", false)
def tyJ9 : Nat → FieldType := fun k => match k with
  | _ => .int
abbrev wsJ90 : List Cond := u_ws RJ9 TJ9 0
theorem nmJ9 : ∀ a, a < 0 → ∀ b, b < 0 → a ≠ b → (TJ9 a).2.1 ≠ (TJ9 b).2.1 := by decide +kernel
theorem tyJ9_ok : ∀ k, k < 0 → parseFieldDescriptor (TJ9 k).2.2.1 = some (tyJ9 k) := by decide +kernel
abbrev cJ9_abs_0f7a4 : ByteArray := prog_9_method_59_code
def yJ9_abs_0f7a4 : MethodName := ⟨RJ9, "abs", "(I)I"⟩
abbrev cJ9_abs_067f4 : ByteArray := prog_9_method_61_code
def yJ9_abs_067f4 : MethodName := ⟨RJ9, "abs", "(J)J"⟩
abbrev cJ9_max_7cf53 : ByteArray := prog_9_method_65_code
def yJ9_max_7cf53 : MethodName := ⟨RJ9, "max", "(II)I"⟩
abbrev cJ9_min_7cf53 : ByteArray := prog_9_method_69_code
def yJ9_min_7cf53 : MethodName := ⟨RJ9, "min", "(II)I"⟩
def RJ10 : String := "java/lang/System"
def TJ10 : u_T := fun k => match k with
  | _ => ("", "", "", false)
def tyJ10 : Nat → FieldType := fun k => match k with
  | _ => .int
abbrev wsJ100 : List Cond := u_ws RJ10 TJ10 0
theorem nmJ10 : ∀ a, a < 0 → ∀ b, b < 0 → a ≠ b → (TJ10 a).2.1 ≠ (TJ10 b).2.1 := by decide +kernel
theorem tyJ10_ok : ∀ k, k < 0 → parseFieldDescriptor (TJ10 k).2.2.1 = some (tyJ10 k) := by decide +kernel
def RJxa1e45 : String := "java/util/AbstractCollection"
def TJxa1e45 : u_T := fun k => match k with
  | _ => ("", "", "", false)
def tyJxa1e45 : Nat → FieldType := fun k => match k with
  | _ => .int
abbrev wsJxa1e450 : List Cond := u_ws RJxa1e45 TJxa1e45 0
theorem nmJxa1e45 : ∀ a, a < 0 → ∀ b, b < 0 → a ≠ b → (TJxa1e45 a).2.1 ≠ (TJxa1e45 b).2.1 := by decide +kernel
theorem tyJxa1e45_ok : ∀ k, k < 0 → parseFieldDescriptor (TJxa1e45 k).2.2.1 = some (tyJxa1e45 k) := by decide +kernel
abbrev cJxa1e45_init_da8c8 : ByteArray := prog_11_method_1_code
def yJxa1e45_init_da8c8 : MethodName := ⟨RJxa1e45, "<init>", "()V"⟩
def RJxc12de : String := "java/util/AbstractList"
def TJxc12de : u_T := fun k => match k with
  | _ => ("", "", "", false)
def tyJxc12de : Nat → FieldType := fun k => match k with
  | _ => .int
abbrev wsJxc12de0 : List Cond := u_ws RJxc12de TJxc12de 0
theorem nmJxc12de : ∀ a, a < 0 → ∀ b, b < 0 → a ≠ b → (TJxc12de a).2.1 ≠ (TJxc12de b).2.1 := by decide +kernel
theorem tyJxc12de_ok : ∀ k, k < 0 → parseFieldDescriptor (TJxc12de k).2.2.1 = some (tyJxc12de k) := by decide +kernel
abbrev cJxc12de_init_da8c8 : ByteArray := prog_12_method_1_code
def yJxc12de_init_da8c8 : MethodName := ⟨RJxc12de, "<init>", "()V"⟩
def RJx4a65c : String := "java/util/ArrayList"
def TJx4a65c : u_T := fun k => match k with
  | 0 => ("java/util/AbstractList", "modCount", "I", false)
  | 1 => ("java/util/ArrayList", "elementData", "[Ljava/lang/Object;", false)
  | _ => ("java/util/ArrayList", "size", "I", false)
def tyJx4a65c : Nat → FieldType := fun k => match k with
  | 0 => .int
  | 1 => .array (.object "java/lang/Object")
  | _ => .int
abbrev wsJx4a65c0 : List Cond := u_ws RJx4a65c TJx4a65c 3
theorem nmJx4a65c : ∀ a, a < 3 → ∀ b, b < 3 → a ≠ b → (TJx4a65c a).2.1 ≠ (TJx4a65c b).2.1 := by decide +kernel
theorem tyJx4a65c_ok : ∀ k, k < 3 → parseFieldDescriptor (TJx4a65c k).2.2.1 = some (tyJx4a65c k) := by decide +kernel
abbrev cJx4a65c_init_da8c8 : ByteArray := prog_13_method_2_code
def yJx4a65c_init_da8c8 : MethodName := ⟨RJx4a65c, "<init>", "()V"⟩
abbrev cJx4a65c_grow_92f84 : ByteArray := prog_13_method_6_code
def yJx4a65c_grow_92f84 : MethodName := ⟨RJx4a65c, "grow", "(I)[Ljava/lang/Object;"⟩
abbrev cJx4a65c_grow_d5877 : ByteArray := prog_13_method_7_code
def yJx4a65c_grow_d5877 : MethodName := ⟨RJx4a65c, "grow", "()[Ljava/lang/Object;"⟩
abbrev cJx4a65c_size_8abf5 : ByteArray := prog_13_method_8_code
def yJx4a65c_size_8abf5 : MethodName := ⟨RJx4a65c, "size", "()I"⟩
abbrev cJx4a65c_elementData_915e3 : ByteArray := prog_13_method_18_code
def yJx4a65c_elementData_915e3 : MethodName := ⟨RJx4a65c, "elementData", "(I)Ljava/lang/Object;"⟩
abbrev cJx4a65c_get_915e3 : ByteArray := prog_13_method_20_code
def yJx4a65c_get_915e3 : MethodName := ⟨RJx4a65c, "get", "(I)Ljava/lang/Object;"⟩
abbrev cJx4a65c_add_72be8 : ByteArray := prog_13_method_24_code
def yJx4a65c_add_72be8 : MethodName := ⟨RJx4a65c, "add", "(Ljava/lang/Object;[Ljava/lang/Object;I)V"⟩
abbrev cJx4a65c_add_9ea2d : ByteArray := prog_13_method_25_code
def yJx4a65c_add_9ea2d : MethodName := ⟨RJx4a65c, "add", "(Ljava/lang/Object;)Z"⟩
def RJ7 : String := "java/util/Arrays"
def TJ7 : u_T := fun k => match k with
  | _ => ("", "", "", false)
def tyJ7 : Nat → FieldType := fun k => match k with
  | _ => .int
abbrev wsJ70 : List Cond := u_ws RJ7 TJ7 0
theorem nmJ7 : ∀ a, a < 0 → ∀ b, b < 0 → a ≠ b → (TJ7 a).2.1 ≠ (TJ7 b).2.1 := by decide +kernel
theorem tyJ7_ok : ∀ k, k < 0 → parseFieldDescriptor (TJ7 k).2.2.1 = some (tyJ7 k) := by decide +kernel
abbrev cJ7_copyOf_1904c : ByteArray := prog_14_method_119_code
def yJ7_copyOf_1904c : MethodName := ⟨RJ7, "copyOf", "([Ljava/lang/Object;I)[Ljava/lang/Object;"⟩
abbrev cJ7_copyOf_6403c : ByteArray := prog_14_method_120_code
def yJ7_copyOf_6403c : MethodName := ⟨RJ7, "copyOf", "([Ljava/lang/Object;ILjava/lang/Class;)[Ljava/lang/Object;"⟩
def RJx5ef63 : String := "java/util/Collection"
def TJx5ef63 : u_T := fun k => match k with
  | _ => ("", "", "", false)
def tyJx5ef63 : Nat → FieldType := fun k => match k with
  | _ => .int
abbrev wsJx5ef630 : List Cond := u_ws RJx5ef63 TJx5ef63 0
theorem nmJx5ef63 : ∀ a, a < 0 → ∀ b, b < 0 → a ≠ b → (TJx5ef63 a).2.1 ≠ (TJx5ef63 b).2.1 := by decide +kernel
theorem tyJx5ef63_ok : ∀ k, k < 0 → parseFieldDescriptor (TJx5ef63 k).2.2.1 = some (tyJx5ef63 k) := by decide +kernel
def RJxbd725 : String := "java/util/List"
def TJxbd725 : u_T := fun k => match k with
  | _ => ("", "", "", false)
def tyJxbd725 : Nat → FieldType := fun k => match k with
  | _ => .int
abbrev wsJxbd7250 : List Cond := u_ws RJxbd725 TJxbd725 0
theorem nmJxbd725 : ∀ a, a < 0 → ∀ b, b < 0 → a ≠ b → (TJxbd725 a).2.1 ≠ (TJxbd725 b).2.1 := by decide +kernel
theorem tyJxbd725_ok : ∀ k, k < 0 → parseFieldDescriptor (TJxbd725 k).2.2.1 = some (tyJxbd725 k) := by decide +kernel
def RJ15 : String := "java/util/Objects"
def TJ15 : u_T := fun k => match k with
  | _ => ("", "", "", false)
def tyJ15 : Nat → FieldType := fun k => match k with
  | _ => .int
abbrev wsJ150 : List Cond := u_ws RJ15 TJ15 0
theorem nmJ15 : ∀ a, a < 0 → ∀ b, b < 0 → a ≠ b → (TJ15 a).2.1 ≠ (TJ15 b).2.1 := by decide +kernel
theorem tyJ15_ok : ∀ k, k < 0 → parseFieldDescriptor (TJ15 k).2.2.1 = some (tyJ15 k) := by decide +kernel
abbrev cJ15_checkIndex_7cf53 : ByteArray := prog_17_method_17_code
def yJ15_checkIndex_7cf53 : MethodName := ⟨RJ15, "checkIndex", "(II)I"⟩
def RJxf0a74 : String := "java/util/RandomAccess"
def TJxf0a74 : u_T := fun k => match k with
  | _ => ("", "", "", false)
def tyJxf0a74 : Nat → FieldType := fun k => match k with
  | _ => .int
abbrev wsJxf0a740 : List Cond := u_ws RJxf0a74 TJxf0a74 0
theorem nmJxf0a74 : ∀ a, a < 0 → ∀ b, b < 0 → a ≠ b → (TJxf0a74 a).2.1 ≠ (TJxf0a74 b).2.1 := by decide +kernel
theorem tyJxf0a74_ok : ∀ k, k < 0 → parseFieldDescriptor (TJxf0a74 k).2.2.1 = some (tyJxf0a74 k) := by decide +kernel
def RJxa66e6 : String := "java/util/SequencedCollection"
def TJxa66e6 : u_T := fun k => match k with
  | _ => ("", "", "", false)
def tyJxa66e6 : Nat → FieldType := fun k => match k with
  | _ => .int
abbrev wsJxa66e60 : List Cond := u_ws RJxa66e6 TJxa66e6 0
theorem nmJxa66e6 : ∀ a, a < 0 → ∀ b, b < 0 → a ≠ b → (TJxa66e6 a).2.1 ≠ (TJxa66e6 b).2.1 := by decide +kernel
theorem tyJxa66e6_ok : ∀ k, k < 0 → parseFieldDescriptor (TJxa66e6 k).2.2.1 = some (tyJxa66e6 k) := by decide +kernel
def RJ8 : String := "jdk/internal/util/ArraysSupport"
def TJ8 : u_T := fun k => match k with
  | _ => ("", "", "", false)
def tyJ8 : Nat → FieldType := fun k => match k with
  | _ => .int
abbrev wsJ80 : List Cond := u_ws RJ8 TJ8 0
theorem nmJ8 : ∀ a, a < 0 → ∀ b, b < 0 → a ≠ b → (TJ8 a).2.1 ≠ (TJ8 b).2.1 := by decide +kernel
theorem tyJ8_ok : ∀ k, k < 0 → parseFieldDescriptor (TJ8 k).2.2.1 = some (tyJ8 k) := by decide +kernel
abbrev cJ8_newLength_cabcc : ByteArray := prog_20_method_27_code
def yJ8_newLength_cabcc : MethodName := ⟨RJ8, "newLength", "(III)I"⟩
abbrev cJ8_hugeLength_7cf53 : ByteArray := prog_20_method_28_code
def yJ8_hugeLength_7cf53 : MethodName := ⟨RJ8, "hugeLength", "(II)I"⟩
def RJ3 : String := "jdk/internal/util/Preconditions"
def TJ3 : u_T := fun k => match k with
  | _ => ("", "", "", false)
def tyJ3 : Nat → FieldType := fun k => match k with
  | _ => .int
abbrev wsJ30 : List Cond := u_ws RJ3 TJ3 0
theorem nmJ3 : ∀ a, a < 0 → ∀ b, b < 0 → a ≠ b → (TJ3 a).2.1 ≠ (TJ3 b).2.1 := by decide +kernel
theorem tyJ3_ok : ∀ k, k < 0 → parseFieldDescriptor (TJ3 k).2.2.1 = some (tyJ3 k) := by decide +kernel
abbrev cJ3_checkIndex_8e157 : ByteArray := prog_21_method_11_code
def yJ3_checkIndex_8e157 : MethodName := ⟨RJ3, "checkIndex", "(IILjava/util/function/BiFunction;)I"⟩
def RL : String := "TreePairsLaw"
abbrev cL_law : ByteArray := code
def yL_law : MethodName := ⟨RL, "law", "([I)Z"⟩
def wsJxa1e45_init_da8c8 : List Cond := .code yJxa1e45_init_da8c8 cJxa1e45_init_da8c8 1 none :: ([.methodLink RJxa1e45 1 objectInit, .instanceMethod objectInit, .code objectInit ⟨#[0xb1]⟩ 1 none])
def wsJxc12de_init_da8c8 : List Cond := .code yJxc12de_init_da8c8 cJxc12de_init_da8c8 1 none :: ([.fieldLink RJxc12de 7 "java/util/AbstractList" "modCount" "I", .methodLink RJxc12de 1 yJxa1e45_init_da8c8, .instanceMethod yJxa1e45_init_da8c8, .initialized RJxa1e45, .code yJxa1e45_init_da8c8 cJxa1e45_init_da8c8 1 none, .methodLink RJxa1e45 1 objectInit, .instanceMethod objectInit, .code objectInit ⟨#[0xb1]⟩ 1 none] ++ wsJx4a65c0)
def wsJx4a65c_init_da8c8 : List Cond := .code yJx4a65c_init_da8c8 cJx4a65c_init_da8c8 1 none :: ([.fieldLink RJx4a65c 39 "java/util/ArrayList" "DEFAULTCAPACITY_EMPTY_ELEMENTDATA" "[Ljava/lang/Object;", .fieldLink RJx4a65c 9 "java/util/ArrayList" "elementData" "[Ljava/lang/Object;", .methodLink RJx4a65c 1 yJxc12de_init_da8c8, .instanceMethod yJxc12de_init_da8c8, .initialized RJxc12de, .code yJxc12de_init_da8c8 cJxc12de_init_da8c8 1 none, .fieldLink RJxc12de 7 "java/util/AbstractList" "modCount" "I", .methodLink RJxc12de 1 yJxa1e45_init_da8c8, .instanceMethod yJxa1e45_init_da8c8, .initialized RJxa1e45, .code yJxa1e45_init_da8c8 cJxa1e45_init_da8c8 1 none, .methodLink RJxa1e45 1 objectInit, .instanceMethod objectInit, .code objectInit ⟨#[0xb1]⟩ 1 none] ++ wsJx4a65c0)
def wsX0_init : List Cond := .code yX0_init cX0_init 1 none :: ([.methodLink RX0 3 objectInit, .instanceMethod objectInit, .code objectInit ⟨#[0xb1]⟩ 1 none, .classLink RX0 9 RJx4a65c, .instantiable RJx4a65c 3, .initialized RJx4a65c, .fieldLink RX0 12 "TreePairs$Ball" "found" "Ljava/util/List;", .arrayClass .int, .fieldLink RX0 18 "TreePairs$Ball" "ends" "[I", .methodLink RX0 11 yJx4a65c_init_da8c8, .instanceMethod yJx4a65c_init_da8c8, .code yJx4a65c_init_da8c8 cJx4a65c_init_da8c8 1 none, .fieldLink RJx4a65c 39 "java/util/ArrayList" "DEFAULTCAPACITY_EMPTY_ELEMENTDATA" "[Ljava/lang/Object;", .fieldLink RJx4a65c 9 "java/util/ArrayList" "elementData" "[Ljava/lang/Object;", .methodLink RJx4a65c 1 yJxc12de_init_da8c8, .instanceMethod yJxc12de_init_da8c8, .initialized RJxc12de, .code yJxc12de_init_da8c8 cJxc12de_init_da8c8 1 none, .fieldLink RJxc12de 7 "java/util/AbstractList" "modCount" "I", .methodLink RJxc12de 1 yJxa1e45_init_da8c8, .instanceMethod yJxa1e45_init_da8c8, .initialized RJxa1e45, .code yJxa1e45_init_da8c8 cJxa1e45_init_da8c8 1 none, .methodLink RJxa1e45 1 objectInit] ++ wsJx4a65c0 ++ wsX00)
def wsJx4a65c_size_8abf5 : List Cond := .code yJx4a65c_size_8abf5 cJx4a65c_size_8abf5 1 (some .int) :: ([.fieldLink RJx4a65c 48 "java/util/ArrayList" "size" "I"] ++ wsJx4a65c0)
def wsJ3_checkIndex_8e157 : List Cond := .code yJ3_checkIndex_8e157 cJ3_checkIndex_8e157 3 (some .int) :: ([])
def wsJ15_checkIndex_7cf53 : List Cond := .code yJ15_checkIndex_7cf53 cJ15_checkIndex_7cf53 2 (some .int) :: ([.methodLink RJ15 105 yJ3_checkIndex_8e157, .static yJ3_checkIndex_8e157, .initialized RJ3, .code yJ3_checkIndex_8e157 cJ3_checkIndex_8e157 3 (some .int)])
def wsJx4a65c_elementData_915e3 : List Cond := .code yJx4a65c_elementData_915e3 cJx4a65c_elementData_915e3 2 (some (.object "java/lang/Object")) :: ([.fieldLink RJx4a65c 9 "java/util/ArrayList" "elementData" "[Ljava/lang/Object;"] ++ wsJx4a65c0)
def wsJx4a65c_get_915e3 : List Cond := .code yJx4a65c_get_915e3 cJx4a65c_get_915e3 2 (some (.object "java/lang/Object")) :: ([.fieldLink RJx4a65c 48 "java/util/ArrayList" "size" "I", .methodLink RJx4a65c 118 yJ15_checkIndex_7cf53, .static yJ15_checkIndex_7cf53, .initialized RJ15, .code yJ15_checkIndex_7cf53 cJ15_checkIndex_7cf53 2 (some .int), .methodLink RJ15 105 yJ3_checkIndex_8e157, .static yJ3_checkIndex_8e157, .initialized RJ3, .code yJ3_checkIndex_8e157 cJ3_checkIndex_8e157 3 (some .int), .methodLink RJx4a65c 123 yJx4a65c_elementData_915e3, .instanceMethod yJx4a65c_elementData_915e3, .selects RJx4a65c yJx4a65c_elementData_915e3 yJx4a65c_elementData_915e3, .initialized RJx4a65c, .code yJx4a65c_elementData_915e3 cJx4a65c_elementData_915e3 2 (some (.object "java/lang/Object")), .fieldLink RJx4a65c 9 "java/util/ArrayList" "elementData" "[Ljava/lang/Object;"] ++ wsJx4a65c0)
def wsX1_told : List Cond := .code yX1_told cX1_told 3 (some .long) :: ([.fieldLink RX1 15 "TreePairs$Pairs" "firstDepth" "[I", .fieldLink RX1 21 "TreePairs$Pairs" "firstPlace" "[J", .fieldLink RX1 25 "TreePairs$Pairs" "secondDepth" "[I", .fieldLink RX1 28 "TreePairs$Pairs" "secondPlace" "[J"] ++ wsX10)
def wsX2_areAlike : List Cond := .code yX2_areAlike cX2_areAlike 4 (some .boolean) :: ([.fieldLink RX2 35 "TreePairs$Pairs" "size" "I", .methodLink RX2 80 yX1_told, .instanceMethod yX1_told, .selects RX1 yX1_told yX1_told, .initialized RX1, .code yX1_told cX1_told 3 (some .long), .fieldLink RX1 15 "TreePairs$Pairs" "firstDepth" "[I", .fieldLink RX1 21 "TreePairs$Pairs" "firstPlace" "[J", .fieldLink RX1 25 "TreePairs$Pairs" "secondDepth" "[I", .fieldLink RX1 28 "TreePairs$Pairs" "secondPlace" "[J"] ++ wsX10)
def wsX0_placeOf_r1 : List Cond := [Cond.fieldLink RX0 12 "TreePairs$Ball" "found" "Ljava/util/List;", Cond.classLink RX0 26 "TreePairs$Pairs", Cond.methodLink RX0 45 ⟨"java/util/List", "size", "()I"⟩, Cond.selects RJx4a65c ⟨"java/util/List", "size", "()I"⟩ yJx4a65c_size_8abf5, Cond.instanceMethod yJx4a65c_size_8abf5, Cond.initialized RJx4a65c, Cond.code yJx4a65c_size_8abf5 cJx4a65c_size_8abf5 1 (some .int), Cond.fieldLink RJx4a65c 48 "java/util/ArrayList" "size" "I", Cond.methodLink RX0 48 ⟨"java/util/List", "get", "(I)Ljava/lang/Object;"⟩, Cond.selects RJx4a65c ⟨"java/util/List", "get", "(I)Ljava/lang/Object;"⟩ yJx4a65c_get_915e3, Cond.instanceMethod yJx4a65c_get_915e3, Cond.code yJx4a65c_get_915e3 cJx4a65c_get_915e3 2 (some (.object "java/lang/Object")), Cond.methodLink RJx4a65c 118 yJ15_checkIndex_7cf53, Cond.static yJ15_checkIndex_7cf53, Cond.initialized RJ15, Cond.code yJ15_checkIndex_7cf53 cJ15_checkIndex_7cf53 2 (some .int), Cond.methodLink RJ15 105 yJ3_checkIndex_8e157, Cond.static yJ3_checkIndex_8e157, Cond.initialized RJ3, Cond.code yJ3_checkIndex_8e157 cJ3_checkIndex_8e157 3 (some .int), Cond.methodLink RJx4a65c 123 yJx4a65c_elementData_915e3, Cond.instanceMethod yJx4a65c_elementData_915e3, Cond.selects RJx4a65c yJx4a65c_elementData_915e3 yJx4a65c_elementData_915e3, Cond.code yJx4a65c_elementData_915e3 cJx4a65c_elementData_915e3 2 (some (.object "java/lang/Object"))]
def wsX0_placeOf_r2 : List Cond := [Cond.fieldLink RJx4a65c 9 "java/util/ArrayList" "elementData" "[Ljava/lang/Object;", Cond.static yX2_areAlike, Cond.initialized RX2, Cond.code yX2_areAlike cX2_areAlike 4 (some .boolean), Cond.fieldLink RX2 35 "TreePairs$Pairs" "size" "I", Cond.methodLink RX2 80 yX1_told, Cond.instanceMethod yX1_told, Cond.selects RX1 yX1_told yX1_told, Cond.initialized RX1, Cond.code yX1_told cX1_told 3 (some .long), Cond.fieldLink RX1 15 "TreePairs$Pairs" "firstDepth" "[I", Cond.fieldLink RX1 21 "TreePairs$Pairs" "firstPlace" "[J", Cond.fieldLink RX1 25 "TreePairs$Pairs" "secondDepth" "[I", Cond.fieldLink RX1 28 "TreePairs$Pairs" "secondPlace" "[J"]
def wsX0_placeOf : List Cond := .code yX0_placeOf cX0_placeOf 3 (some .int) :: ((wsX0_placeOf_r1 ++ wsX0_placeOf_r2) ++ wsX00 ++ wsJx4a65c0 ++ wsX10)
def wsX1_init : List Cond := .code yX1_init cX1_init 3 none :: ([.methodLink RX1 3 objectInit, .instanceMethod objectInit, .code objectInit ⟨#[0xb1]⟩ 1 none, .methodLink RX1 9 Lib.Math.max.name, .static Lib.Math.max.name, .initialized "java/lang/Math", .code Lib.Math.max.name Lib.Math.max.code 2 (some .int), .arrayClass .int, .fieldLink RX1 15 "TreePairs$Pairs" "firstDepth" "[I", .arrayClass .long, .fieldLink RX1 21 "TreePairs$Pairs" "firstPlace" "[J", .fieldLink RX1 25 "TreePairs$Pairs" "secondDepth" "[I", .fieldLink RX1 28 "TreePairs$Pairs" "secondPlace" "[J"] ++ wsX10)
def wsX1_add : List Cond := .code yX1_add cX1_add 7 none :: ([.fieldLink RX1 31 "TreePairs$Pairs" "size" "I", .fieldLink RX1 15 "TreePairs$Pairs" "firstDepth" "[I", .fieldLink RX1 21 "TreePairs$Pairs" "firstPlace" "[J", .fieldLink RX1 25 "TreePairs$Pairs" "secondDepth" "[I", .fieldLink RX1 28 "TreePairs$Pairs" "secondPlace" "[J"] ++ wsX10)
def wsX2_putCopy : List Cond := .code yX2_putCopy cX2_putCopy 3 none :: ([.fieldLink RX2 35 "TreePairs$Pairs" "size" "I", .fieldLink RX2 111 "TreePairs$Pairs" "firstDepth" "[I", .fieldLink RX2 117 "TreePairs$Pairs" "firstPlace" "[J", .fieldLink RX2 114 "TreePairs$Pairs" "secondDepth" "[I", .fieldLink RX2 121 "TreePairs$Pairs" "secondPlace" "[J", .methodLink RX2 39 yX1_add, .instanceMethod yX1_add, .selects RX1 yX1_add yX1_add, .initialized RX1, .code yX1_add cX1_add 7 none, .fieldLink RX1 31 "TreePairs$Pairs" "size" "I", .fieldLink RX1 15 "TreePairs$Pairs" "firstDepth" "[I", .fieldLink RX1 21 "TreePairs$Pairs" "firstPlace" "[J", .fieldLink RX1 25 "TreePairs$Pairs" "secondDepth" "[I", .fieldLink RX1 28 "TreePairs$Pairs" "secondPlace" "[J"] ++ wsX10)
def wsJ8_hugeLength_7cf53 : List Cond := .code yJ8_hugeLength_7cf53 cJ8_hugeLength_7cf53 3 (some .int) :: ([.constant RJ8 200 (2147483639)])
def wsJ8_newLength_cabcc : List Cond := .code yJ8_newLength_cabcc cJ8_newLength_cabcc 4 (some .int) :: ([.methodLink RJ8 194 Lib.Math.max.name, .static Lib.Math.max.name, .initialized "java/lang/Math", .code Lib.Math.max.name Lib.Math.max.code 2 (some .int), .constant RJ8 200 (2147483639), .methodLink RJ8 201 yJ8_hugeLength_7cf53, .static yJ8_hugeLength_7cf53, .initialized RJ8, .code yJ8_hugeLength_7cf53 cJ8_hugeLength_7cf53 3 (some .int)])
def wsJ7_copyOf_6403c : List Cond := .code yJ7_copyOf_6403c cJ7_copyOf_6403c 4 (some (.array (.object "java/lang/Object"))) :: ([.classLink RJ7 110 "[Ljava/lang/Object;", .classLink RJ7 2 "java/lang/Object", .methodLink RJ7 304 Lib.Math.min.name, .static Lib.Math.min.name, .initialized "java/lang/Math", .code Lib.Math.min.name Lib.Math.min.code 2 (some .int), .methodLink RJ7 150 arraycopyName, .native arraycopyName, .static arraycopyName, .initialized "java/lang/System"])
def wsJ7_copyOf_1904c : List Cond := .code yJ7_copyOf_1904c cJ7_copyOf_1904c 2 (some (.array (.object "java/lang/Object"))) :: ([.methodLink RJ7 86 ⟨"java/lang/Object", "getClass", "()Ljava/lang/Class;"⟩, .selects "[Ljava/lang/Object;" ⟨"java/lang/Object", "getClass", "()Ljava/lang/Class;"⟩ ⟨"java/lang/Object", "getClass", "()Ljava/lang/Class;"⟩, .instanceMethod ⟨"java/lang/Object", "getClass", "()Ljava/lang/Class;"⟩, .native ⟨"java/lang/Object", "getClass", "()Ljava/lang/Class;"⟩, .methodLink RJ7 300 yJ7_copyOf_6403c, .static yJ7_copyOf_6403c, .initialized RJ7, .code yJ7_copyOf_6403c cJ7_copyOf_6403c 4 (some (.array (.object "java/lang/Object"))), .classLink RJ7 110 "[Ljava/lang/Object;", .classLink RJ7 2 "java/lang/Object", .methodLink RJ7 304 Lib.Math.min.name, .static Lib.Math.min.name, .initialized "java/lang/Math", .code Lib.Math.min.name Lib.Math.min.code 2 (some .int), .methodLink RJ7 150 arraycopyName, .native arraycopyName, .static arraycopyName, .initialized "java/lang/System"])
def wsJx4a65c_grow_92f84_r1 : List Cond := [Cond.fieldLink RJx4a65c 9 "java/util/ArrayList" "elementData" "[Ljava/lang/Object;", Cond.fieldLink RJx4a65c 39 "java/util/ArrayList" "DEFAULTCAPACITY_EMPTY_ELEMENTDATA" "[Ljava/lang/Object;", Cond.methodLink RJx4a65c 79 Lib.Math.max.name, Cond.static Lib.Math.max.name, Cond.initialized "java/lang/Math", Cond.code Lib.Math.max.name Lib.Math.max.code 2 (some .int), Cond.classLink RJx4a65c 7 "java/lang/Object", Cond.methodLink RJx4a65c 73 yJ8_newLength_cabcc, Cond.static yJ8_newLength_cabcc, Cond.initialized RJ8, Cond.code yJ8_newLength_cabcc cJ8_newLength_cabcc 4 (some .int), Cond.methodLink RJ8 194 Lib.Math.max.name, Cond.constant RJ8 200 (2147483639), Cond.methodLink RJ8 201 yJ8_hugeLength_7cf53, Cond.static yJ8_hugeLength_7cf53, Cond.code yJ8_hugeLength_7cf53 cJ8_hugeLength_7cf53 3 (some .int), Cond.methodLink RJx4a65c 66 yJ7_copyOf_1904c, Cond.static yJ7_copyOf_1904c, Cond.initialized RJ7, Cond.code yJ7_copyOf_1904c cJ7_copyOf_1904c 2 (some (.array (.object "java/lang/Object"))), Cond.methodLink RJ7 86 ⟨"java/lang/Object", "getClass", "()Ljava/lang/Class;"⟩, Cond.selects "[Ljava/lang/Object;" ⟨"java/lang/Object", "getClass", "()Ljava/lang/Class;"⟩ ⟨"java/lang/Object", "getClass", "()Ljava/lang/Class;"⟩, Cond.instanceMethod ⟨"java/lang/Object", "getClass", "()Ljava/lang/Class;"⟩, Cond.native ⟨"java/lang/Object", "getClass", "()Ljava/lang/Class;"⟩]
def wsJx4a65c_grow_92f84_r2 : List Cond := [Cond.methodLink RJ7 300 yJ7_copyOf_6403c, Cond.static yJ7_copyOf_6403c, Cond.code yJ7_copyOf_6403c cJ7_copyOf_6403c 4 (some (.array (.object "java/lang/Object"))), Cond.classLink RJ7 110 "[Ljava/lang/Object;", Cond.classLink RJ7 2 "java/lang/Object", Cond.methodLink RJ7 304 Lib.Math.min.name, Cond.static Lib.Math.min.name, Cond.code Lib.Math.min.name Lib.Math.min.code 2 (some .int), Cond.methodLink RJ7 150 arraycopyName, Cond.native arraycopyName, Cond.static arraycopyName, Cond.initialized "java/lang/System"]
def wsJx4a65c_grow_92f84 : List Cond := .code yJx4a65c_grow_92f84 cJx4a65c_grow_92f84 4 (some (.array (.object "java/lang/Object"))) :: ((wsJx4a65c_grow_92f84_r1 ++ wsJx4a65c_grow_92f84_r2) ++ wsJx4a65c0)
def wsJx4a65c_grow_d5877_r1 : List Cond := [Cond.fieldLink RJx4a65c 48 "java/util/ArrayList" "size" "I", Cond.methodLink RJx4a65c 69 yJx4a65c_grow_92f84, Cond.instanceMethod yJx4a65c_grow_92f84, Cond.selects RJx4a65c yJx4a65c_grow_92f84 yJx4a65c_grow_92f84, Cond.initialized RJx4a65c, Cond.code yJx4a65c_grow_92f84 cJx4a65c_grow_92f84 4 (some (.array (.object "java/lang/Object"))), Cond.fieldLink RJx4a65c 9 "java/util/ArrayList" "elementData" "[Ljava/lang/Object;", Cond.fieldLink RJx4a65c 39 "java/util/ArrayList" "DEFAULTCAPACITY_EMPTY_ELEMENTDATA" "[Ljava/lang/Object;", Cond.methodLink RJx4a65c 79 Lib.Math.max.name, Cond.static Lib.Math.max.name, Cond.initialized "java/lang/Math", Cond.code Lib.Math.max.name Lib.Math.max.code 2 (some .int), Cond.classLink RJx4a65c 7 "java/lang/Object", Cond.methodLink RJx4a65c 73 yJ8_newLength_cabcc, Cond.static yJ8_newLength_cabcc, Cond.initialized RJ8, Cond.code yJ8_newLength_cabcc cJ8_newLength_cabcc 4 (some .int), Cond.methodLink RJ8 194 Lib.Math.max.name, Cond.constant RJ8 200 (2147483639), Cond.methodLink RJ8 201 yJ8_hugeLength_7cf53, Cond.static yJ8_hugeLength_7cf53, Cond.code yJ8_hugeLength_7cf53 cJ8_hugeLength_7cf53 3 (some .int), Cond.methodLink RJx4a65c 66 yJ7_copyOf_1904c, Cond.static yJ7_copyOf_1904c]
def wsJx4a65c_grow_d5877_r2 : List Cond := [Cond.initialized RJ7, Cond.code yJ7_copyOf_1904c cJ7_copyOf_1904c 2 (some (.array (.object "java/lang/Object"))), Cond.methodLink RJ7 86 ⟨"java/lang/Object", "getClass", "()Ljava/lang/Class;"⟩, Cond.selects "[Ljava/lang/Object;" ⟨"java/lang/Object", "getClass", "()Ljava/lang/Class;"⟩ ⟨"java/lang/Object", "getClass", "()Ljava/lang/Class;"⟩, Cond.instanceMethod ⟨"java/lang/Object", "getClass", "()Ljava/lang/Class;"⟩, Cond.native ⟨"java/lang/Object", "getClass", "()Ljava/lang/Class;"⟩, Cond.methodLink RJ7 300 yJ7_copyOf_6403c, Cond.static yJ7_copyOf_6403c, Cond.code yJ7_copyOf_6403c cJ7_copyOf_6403c 4 (some (.array (.object "java/lang/Object"))), Cond.classLink RJ7 110 "[Ljava/lang/Object;", Cond.classLink RJ7 2 "java/lang/Object", Cond.methodLink RJ7 304 Lib.Math.min.name, Cond.static Lib.Math.min.name, Cond.code Lib.Math.min.name Lib.Math.min.code 2 (some .int), Cond.methodLink RJ7 150 arraycopyName, Cond.native arraycopyName, Cond.static arraycopyName, Cond.initialized "java/lang/System"]
def wsJx4a65c_grow_d5877 : List Cond := .code yJx4a65c_grow_d5877 cJx4a65c_grow_d5877 1 (some (.array (.object "java/lang/Object"))) :: ((wsJx4a65c_grow_d5877_r1 ++ wsJx4a65c_grow_d5877_r2) ++ wsJx4a65c0)
def wsJx4a65c_add_72be8_r1 : List Cond := [Cond.fieldLink RJx4a65c 48 "java/util/ArrayList" "size" "I", Cond.methodLink RJx4a65c 129 yJx4a65c_grow_d5877, Cond.instanceMethod yJx4a65c_grow_d5877, Cond.selects RJx4a65c yJx4a65c_grow_d5877 yJx4a65c_grow_d5877, Cond.initialized RJx4a65c, Cond.code yJx4a65c_grow_d5877 cJx4a65c_grow_d5877 1 (some (.array (.object "java/lang/Object"))), Cond.methodLink RJx4a65c 69 yJx4a65c_grow_92f84, Cond.instanceMethod yJx4a65c_grow_92f84, Cond.selects RJx4a65c yJx4a65c_grow_92f84 yJx4a65c_grow_92f84, Cond.code yJx4a65c_grow_92f84 cJx4a65c_grow_92f84 4 (some (.array (.object "java/lang/Object"))), Cond.fieldLink RJx4a65c 9 "java/util/ArrayList" "elementData" "[Ljava/lang/Object;", Cond.fieldLink RJx4a65c 39 "java/util/ArrayList" "DEFAULTCAPACITY_EMPTY_ELEMENTDATA" "[Ljava/lang/Object;", Cond.methodLink RJx4a65c 79 Lib.Math.max.name, Cond.static Lib.Math.max.name, Cond.initialized "java/lang/Math", Cond.code Lib.Math.max.name Lib.Math.max.code 2 (some .int), Cond.classLink RJx4a65c 7 "java/lang/Object", Cond.methodLink RJx4a65c 73 yJ8_newLength_cabcc, Cond.static yJ8_newLength_cabcc, Cond.initialized RJ8, Cond.code yJ8_newLength_cabcc cJ8_newLength_cabcc 4 (some .int), Cond.methodLink RJ8 194 Lib.Math.max.name, Cond.constant RJ8 200 (2147483639), Cond.methodLink RJ8 201 yJ8_hugeLength_7cf53]
def wsJx4a65c_add_72be8_r2 : List Cond := [Cond.static yJ8_hugeLength_7cf53, Cond.code yJ8_hugeLength_7cf53 cJ8_hugeLength_7cf53 3 (some .int), Cond.methodLink RJx4a65c 66 yJ7_copyOf_1904c, Cond.static yJ7_copyOf_1904c, Cond.initialized RJ7, Cond.code yJ7_copyOf_1904c cJ7_copyOf_1904c 2 (some (.array (.object "java/lang/Object"))), Cond.methodLink RJ7 86 ⟨"java/lang/Object", "getClass", "()Ljava/lang/Class;"⟩, Cond.selects "[Ljava/lang/Object;" ⟨"java/lang/Object", "getClass", "()Ljava/lang/Class;"⟩ ⟨"java/lang/Object", "getClass", "()Ljava/lang/Class;"⟩, Cond.instanceMethod ⟨"java/lang/Object", "getClass", "()Ljava/lang/Class;"⟩, Cond.native ⟨"java/lang/Object", "getClass", "()Ljava/lang/Class;"⟩, Cond.methodLink RJ7 300 yJ7_copyOf_6403c, Cond.static yJ7_copyOf_6403c, Cond.code yJ7_copyOf_6403c cJ7_copyOf_6403c 4 (some (.array (.object "java/lang/Object"))), Cond.classLink RJ7 110 "[Ljava/lang/Object;", Cond.classLink RJ7 2 "java/lang/Object", Cond.methodLink RJ7 304 Lib.Math.min.name, Cond.static Lib.Math.min.name, Cond.code Lib.Math.min.name Lib.Math.min.code 2 (some .int), Cond.methodLink RJ7 150 arraycopyName, Cond.native arraycopyName, Cond.static arraycopyName, Cond.initialized "java/lang/System"]
def wsJx4a65c_add_72be8 : List Cond := .code yJx4a65c_add_72be8 cJx4a65c_add_72be8 4 none :: ((wsJx4a65c_add_72be8_r1 ++ wsJx4a65c_add_72be8_r2) ++ wsJx4a65c0)
def wsJx4a65c_add_9ea2d_r1 : List Cond := [Cond.fieldLink RJx4a65c 63 "java/util/ArrayList" "modCount" "I", Cond.sameField "java/util/ArrayList" "java/util/AbstractList" "modCount" "I", Cond.fieldLink RJx4a65c 9 "java/util/ArrayList" "elementData" "[Ljava/lang/Object;", Cond.fieldLink RJx4a65c 48 "java/util/ArrayList" "size" "I", Cond.methodLink RJx4a65c 131 yJx4a65c_add_72be8, Cond.instanceMethod yJx4a65c_add_72be8, Cond.selects RJx4a65c yJx4a65c_add_72be8 yJx4a65c_add_72be8, Cond.initialized RJx4a65c, Cond.code yJx4a65c_add_72be8 cJx4a65c_add_72be8 4 none, Cond.methodLink RJx4a65c 129 yJx4a65c_grow_d5877, Cond.instanceMethod yJx4a65c_grow_d5877, Cond.selects RJx4a65c yJx4a65c_grow_d5877 yJx4a65c_grow_d5877, Cond.code yJx4a65c_grow_d5877 cJx4a65c_grow_d5877 1 (some (.array (.object "java/lang/Object"))), Cond.methodLink RJx4a65c 69 yJx4a65c_grow_92f84, Cond.instanceMethod yJx4a65c_grow_92f84, Cond.selects RJx4a65c yJx4a65c_grow_92f84 yJx4a65c_grow_92f84, Cond.code yJx4a65c_grow_92f84 cJx4a65c_grow_92f84 4 (some (.array (.object "java/lang/Object"))), Cond.fieldLink RJx4a65c 39 "java/util/ArrayList" "DEFAULTCAPACITY_EMPTY_ELEMENTDATA" "[Ljava/lang/Object;", Cond.methodLink RJx4a65c 79 Lib.Math.max.name, Cond.static Lib.Math.max.name, Cond.initialized "java/lang/Math", Cond.code Lib.Math.max.name Lib.Math.max.code 2 (some .int), Cond.classLink RJx4a65c 7 "java/lang/Object", Cond.methodLink RJx4a65c 73 yJ8_newLength_cabcc]
def wsJx4a65c_add_9ea2d_r2 : List Cond := [Cond.static yJ8_newLength_cabcc, Cond.initialized RJ8, Cond.code yJ8_newLength_cabcc cJ8_newLength_cabcc 4 (some .int), Cond.methodLink RJ8 194 Lib.Math.max.name, Cond.constant RJ8 200 (2147483639), Cond.methodLink RJ8 201 yJ8_hugeLength_7cf53, Cond.static yJ8_hugeLength_7cf53, Cond.code yJ8_hugeLength_7cf53 cJ8_hugeLength_7cf53 3 (some .int), Cond.methodLink RJx4a65c 66 yJ7_copyOf_1904c, Cond.static yJ7_copyOf_1904c, Cond.initialized RJ7, Cond.code yJ7_copyOf_1904c cJ7_copyOf_1904c 2 (some (.array (.object "java/lang/Object"))), Cond.methodLink RJ7 86 ⟨"java/lang/Object", "getClass", "()Ljava/lang/Class;"⟩, Cond.selects "[Ljava/lang/Object;" ⟨"java/lang/Object", "getClass", "()Ljava/lang/Class;"⟩ ⟨"java/lang/Object", "getClass", "()Ljava/lang/Class;"⟩, Cond.instanceMethod ⟨"java/lang/Object", "getClass", "()Ljava/lang/Class;"⟩, Cond.native ⟨"java/lang/Object", "getClass", "()Ljava/lang/Class;"⟩, Cond.methodLink RJ7 300 yJ7_copyOf_6403c, Cond.static yJ7_copyOf_6403c, Cond.code yJ7_copyOf_6403c cJ7_copyOf_6403c 4 (some (.array (.object "java/lang/Object"))), Cond.classLink RJ7 110 "[Ljava/lang/Object;", Cond.classLink RJ7 2 "java/lang/Object", Cond.methodLink RJ7 304 Lib.Math.min.name, Cond.static Lib.Math.min.name, Cond.code Lib.Math.min.name Lib.Math.min.code 2 (some .int)]
def wsJx4a65c_add_9ea2d_r3 : List Cond := [Cond.methodLink RJ7 150 arraycopyName, Cond.native arraycopyName, Cond.static arraycopyName, Cond.initialized "java/lang/System"]
def wsJx4a65c_add_9ea2d : List Cond := .code yJx4a65c_add_9ea2d cJx4a65c_add_9ea2d 2 (some .boolean) :: ((wsJx4a65c_add_9ea2d_r1 ++ (wsJx4a65c_add_9ea2d_r2 ++ wsJx4a65c_add_9ea2d_r3)) ++ wsJx4a65c0)
def wsX0_addNew_r1 : List Cond := [Cond.classLink RX0 26 RX1, Cond.instantiable RX1 5, Cond.initialized RX1, Cond.fieldLink RX0 28 "TreePairs$Pairs" "size" "I", Cond.fieldLink RX0 12 "TreePairs$Ball" "found" "Ljava/util/List;", Cond.methodLink RX0 22 yX0_placeOf, Cond.instanceMethod yX0_placeOf, Cond.selects RX0 yX0_placeOf yX0_placeOf, Cond.initialized RX0, Cond.code yX0_placeOf cX0_placeOf 3 (some .int), Cond.classLink RX0 26 "TreePairs$Pairs", Cond.methodLink RX0 45 ⟨"java/util/List", "size", "()I"⟩, Cond.selects RJx4a65c ⟨"java/util/List", "size", "()I"⟩ yJx4a65c_size_8abf5, Cond.instanceMethod yJx4a65c_size_8abf5, Cond.initialized RJx4a65c, Cond.code yJx4a65c_size_8abf5 cJx4a65c_size_8abf5 1 (some .int), Cond.fieldLink RJx4a65c 48 "java/util/ArrayList" "size" "I", Cond.methodLink RX0 48 ⟨"java/util/List", "get", "(I)Ljava/lang/Object;"⟩, Cond.selects RJx4a65c ⟨"java/util/List", "get", "(I)Ljava/lang/Object;"⟩ yJx4a65c_get_915e3, Cond.instanceMethod yJx4a65c_get_915e3, Cond.code yJx4a65c_get_915e3 cJx4a65c_get_915e3 2 (some (.object "java/lang/Object")), Cond.methodLink RJx4a65c 118 yJ15_checkIndex_7cf53, Cond.static yJ15_checkIndex_7cf53, Cond.initialized RJ15]
def wsX0_addNew_r2 : List Cond := [Cond.code yJ15_checkIndex_7cf53 cJ15_checkIndex_7cf53 2 (some .int), Cond.methodLink RJ15 105 yJ3_checkIndex_8e157, Cond.static yJ3_checkIndex_8e157, Cond.initialized RJ3, Cond.code yJ3_checkIndex_8e157 cJ3_checkIndex_8e157 3 (some .int), Cond.methodLink RJx4a65c 123 yJx4a65c_elementData_915e3, Cond.instanceMethod yJx4a65c_elementData_915e3, Cond.selects RJx4a65c yJx4a65c_elementData_915e3 yJx4a65c_elementData_915e3, Cond.code yJx4a65c_elementData_915e3 cJx4a65c_elementData_915e3 2 (some (.object "java/lang/Object")), Cond.fieldLink RJx4a65c 9 "java/util/ArrayList" "elementData" "[Ljava/lang/Object;", Cond.static yX2_areAlike, Cond.initialized RX2, Cond.code yX2_areAlike cX2_areAlike 4 (some .boolean), Cond.fieldLink RX2 35 "TreePairs$Pairs" "size" "I", Cond.methodLink RX2 80 yX1_told, Cond.instanceMethod yX1_told, Cond.selects RX1 yX1_told yX1_told, Cond.code yX1_told cX1_told 3 (some .long), Cond.fieldLink RX1 15 "TreePairs$Pairs" "firstDepth" "[I", Cond.fieldLink RX1 21 "TreePairs$Pairs" "firstPlace" "[J", Cond.fieldLink RX1 25 "TreePairs$Pairs" "secondDepth" "[I", Cond.fieldLink RX1 28 "TreePairs$Pairs" "secondPlace" "[J", Cond.methodLink RX0 32 yX1_init, Cond.instanceMethod yX1_init]
def wsX0_addNew_r3 : List Cond := [Cond.code yX1_init cX1_init 3 none, Cond.methodLink RX1 3 objectInit, Cond.instanceMethod objectInit, Cond.code objectInit ⟨#[0xb1]⟩ 1 none, Cond.methodLink RX1 9 Lib.Math.max.name, Cond.static Lib.Math.max.name, Cond.initialized "java/lang/Math", Cond.code Lib.Math.max.name Lib.Math.max.code 2 (some .int), Cond.arrayClass .int, Cond.arrayClass .long, Cond.static yX2_putCopy, Cond.code yX2_putCopy cX2_putCopy 3 none, Cond.fieldLink RX2 111 "TreePairs$Pairs" "firstDepth" "[I", Cond.fieldLink RX2 117 "TreePairs$Pairs" "firstPlace" "[J", Cond.fieldLink RX2 114 "TreePairs$Pairs" "secondDepth" "[I", Cond.fieldLink RX2 121 "TreePairs$Pairs" "secondPlace" "[J", Cond.methodLink RX2 39 yX1_add, Cond.instanceMethod yX1_add, Cond.selects RX1 yX1_add yX1_add, Cond.code yX1_add cX1_add 7 none, Cond.fieldLink RX1 31 "TreePairs$Pairs" "size" "I", Cond.methodLink RX0 39 ⟨"java/util/List", "add", "(Ljava/lang/Object;)Z"⟩, Cond.selects RJx4a65c ⟨"java/util/List", "add", "(Ljava/lang/Object;)Z"⟩ yJx4a65c_add_9ea2d, Cond.instanceMethod yJx4a65c_add_9ea2d]
def wsX0_addNew_r4 : List Cond := [Cond.code yJx4a65c_add_9ea2d cJx4a65c_add_9ea2d 2 (some .boolean), Cond.fieldLink RJx4a65c 63 "java/util/ArrayList" "modCount" "I", Cond.sameField "java/util/ArrayList" "java/util/AbstractList" "modCount" "I", Cond.methodLink RJx4a65c 131 yJx4a65c_add_72be8, Cond.instanceMethod yJx4a65c_add_72be8, Cond.selects RJx4a65c yJx4a65c_add_72be8 yJx4a65c_add_72be8, Cond.code yJx4a65c_add_72be8 cJx4a65c_add_72be8 4 none, Cond.methodLink RJx4a65c 129 yJx4a65c_grow_d5877, Cond.instanceMethod yJx4a65c_grow_d5877, Cond.selects RJx4a65c yJx4a65c_grow_d5877 yJx4a65c_grow_d5877, Cond.code yJx4a65c_grow_d5877 cJx4a65c_grow_d5877 1 (some (.array (.object "java/lang/Object"))), Cond.methodLink RJx4a65c 69 yJx4a65c_grow_92f84, Cond.instanceMethod yJx4a65c_grow_92f84, Cond.selects RJx4a65c yJx4a65c_grow_92f84 yJx4a65c_grow_92f84, Cond.code yJx4a65c_grow_92f84 cJx4a65c_grow_92f84 4 (some (.array (.object "java/lang/Object"))), Cond.fieldLink RJx4a65c 39 "java/util/ArrayList" "DEFAULTCAPACITY_EMPTY_ELEMENTDATA" "[Ljava/lang/Object;", Cond.methodLink RJx4a65c 79 Lib.Math.max.name, Cond.classLink RJx4a65c 7 "java/lang/Object", Cond.methodLink RJx4a65c 73 yJ8_newLength_cabcc, Cond.static yJ8_newLength_cabcc, Cond.initialized RJ8, Cond.code yJ8_newLength_cabcc cJ8_newLength_cabcc 4 (some .int), Cond.methodLink RJ8 194 Lib.Math.max.name, Cond.constant RJ8 200 (2147483639)]
def wsX0_addNew_r5 : List Cond := [Cond.methodLink RJ8 201 yJ8_hugeLength_7cf53, Cond.static yJ8_hugeLength_7cf53, Cond.code yJ8_hugeLength_7cf53 cJ8_hugeLength_7cf53 3 (some .int), Cond.methodLink RJx4a65c 66 yJ7_copyOf_1904c, Cond.static yJ7_copyOf_1904c, Cond.initialized RJ7, Cond.code yJ7_copyOf_1904c cJ7_copyOf_1904c 2 (some (.array (.object "java/lang/Object"))), Cond.methodLink RJ7 86 ⟨"java/lang/Object", "getClass", "()Ljava/lang/Class;"⟩, Cond.selects "[Ljava/lang/Object;" ⟨"java/lang/Object", "getClass", "()Ljava/lang/Class;"⟩ ⟨"java/lang/Object", "getClass", "()Ljava/lang/Class;"⟩, Cond.instanceMethod ⟨"java/lang/Object", "getClass", "()Ljava/lang/Class;"⟩, Cond.native ⟨"java/lang/Object", "getClass", "()Ljava/lang/Class;"⟩, Cond.methodLink RJ7 300 yJ7_copyOf_6403c, Cond.static yJ7_copyOf_6403c, Cond.code yJ7_copyOf_6403c cJ7_copyOf_6403c 4 (some (.array (.object "java/lang/Object"))), Cond.classLink RJ7 110 "[Ljava/lang/Object;", Cond.classLink RJ7 2 "java/lang/Object", Cond.methodLink RJ7 304 Lib.Math.min.name, Cond.static Lib.Math.min.name, Cond.code Lib.Math.min.name Lib.Math.min.code 2 (some .int), Cond.methodLink RJ7 150 arraycopyName, Cond.native arraycopyName, Cond.static arraycopyName, Cond.initialized "java/lang/System"]
def wsX0_addNew : List Cond := .code yX0_addNew cX0_addNew 3 none :: ((wsX0_addNew_r1 ++ (wsX0_addNew_r2 ++ (wsX0_addNew_r3 ++ (wsX0_addNew_r4 ++ wsX0_addNew_r5)))) ++ wsX10 ++ wsX00 ++ wsJx4a65c0)
def wsX1_becomeNothing : List Cond := .code yX1_becomeNothing cX1_becomeNothing 1 none :: ([.fieldLink RX1 31 "TreePairs$Pairs" "size" "I", .methodLink RX1 35 yX1_add, .instanceMethod yX1_add, .selects RX1 yX1_add yX1_add, .initialized RX1, .code yX1_add cX1_add 7 none, .fieldLink RX1 15 "TreePairs$Pairs" "firstDepth" "[I", .fieldLink RX1 21 "TreePairs$Pairs" "firstPlace" "[J", .fieldLink RX1 25 "TreePairs$Pairs" "secondDepth" "[I", .fieldLink RX1 28 "TreePairs$Pairs" "secondPlace" "[J"] ++ wsX10)
def wsX1_areLastHalves : List Cond := .code yX1_areLastHalves cX1_areLastHalves 3 (some .boolean) :: ([.fieldLink RX1 31 "TreePairs$Pairs" "size" "I", .fieldLink RX1 15 "TreePairs$Pairs" "firstDepth" "[I", .fieldLink RX1 25 "TreePairs$Pairs" "secondDepth" "[I", .fieldLink RX1 21 "TreePairs$Pairs" "firstPlace" "[J", .constantLong RX1 43 (2), .fieldLink RX1 28 "TreePairs$Pairs" "secondPlace" "[J"] ++ wsX10)
def wsX1_push : List Cond := .code yX1_push cX1_push 7 none :: ([.fieldLink RX1 31 "TreePairs$Pairs" "size" "I", .fieldLink RX1 15 "TreePairs$Pairs" "firstDepth" "[I", .fieldLink RX1 21 "TreePairs$Pairs" "firstPlace" "[J", .constantLong RX1 43 (2), .fieldLink RX1 25 "TreePairs$Pairs" "secondDepth" "[I", .fieldLink RX1 28 "TreePairs$Pairs" "secondPlace" "[J", .methodLink RX1 35 yX1_add, .instanceMethod yX1_add, .selects RX1 yX1_add yX1_add, .initialized RX1, .code yX1_add cX1_add 7 none, .methodLink RX1 39 yX1_areLastHalves, .instanceMethod yX1_areLastHalves, .selects RX1 yX1_areLastHalves yX1_areLastHalves, .code yX1_areLastHalves cX1_areLastHalves 3 (some .boolean)] ++ wsX10)
def wsX2_startOf : List Cond := .code yX2_startOf cX2_startOf 3 (some .long) :: ([])
def wsX1_firstStart : List Cond := .code yX1_firstStart cX1_firstStart 2 (some .long) :: ([.fieldLink RX1 15 "TreePairs$Pairs" "firstDepth" "[I", .fieldLink RX1 21 "TreePairs$Pairs" "firstPlace" "[J", .static yX2_startOf, .initialized RX2, .code yX2_startOf cX2_startOf 3 (some .long)] ++ wsX10)
def wsX1_exchange : List Cond := .code yX1_exchange cX1_exchange 3 none :: ([])
def wsX1_exchange_ : List Cond := .code yX1_exchange_ cX1_exchange_ 4 none :: ([])
def wsX1_sinkLast : List Cond := .code yX1_sinkLast cX1_sinkLast 2 none :: ([.fieldLink RX1 31 "TreePairs$Pairs" "size" "I", .fieldLink RX1 15 "TreePairs$Pairs" "firstDepth" "[I", .fieldLink RX1 21 "TreePairs$Pairs" "firstPlace" "[J", .fieldLink RX1 25 "TreePairs$Pairs" "secondDepth" "[I", .fieldLink RX1 28 "TreePairs$Pairs" "secondPlace" "[J", .methodLink RX1 45 yX1_firstStart, .instanceMethod yX1_firstStart, .selects RX1 yX1_firstStart yX1_firstStart, .initialized RX1, .code yX1_firstStart cX1_firstStart 2 (some .long), .static yX2_startOf, .initialized RX2, .code yX2_startOf cX2_startOf 3 (some .long), .methodLink RX1 49 yX1_exchange, .static yX1_exchange, .code yX1_exchange cX1_exchange 3 none, .methodLink RX1 53 yX1_exchange_, .static yX1_exchange_, .code yX1_exchange_ cX1_exchange_ 4 none] ++ wsX10)
def wsX1_steepness : List Cond := .code yX1_steepness cX1_steepness 2 (some .int) :: ([.fieldLink RX1 15 "TreePairs$Pairs" "firstDepth" "[I", .fieldLink RX1 25 "TreePairs$Pairs" "secondDepth" "[I"] ++ wsX10)
def wsX1_secondStart : List Cond := .code yX1_secondStart cX1_secondStart 2 (some .long) :: ([.fieldLink RX1 25 "TreePairs$Pairs" "secondDepth" "[I", .fieldLink RX1 28 "TreePairs$Pairs" "secondPlace" "[J", .static yX2_startOf, .initialized RX2, .code yX2_startOf cX2_startOf 3 (some .long)] ++ wsX10)
def wsX1_secondEnd : List Cond := .code yX1_secondEnd cX1_secondEnd 2 (some .long) :: ([.fieldLink RX1 25 "TreePairs$Pairs" "secondDepth" "[I", .fieldLink RX1 28 "TreePairs$Pairs" "secondPlace" "[J", .static yX2_startOf, .initialized RX2, .code yX2_startOf cX2_startOf 3 (some .long)] ++ wsX10)
def wsX1_holderOf : List Cond := .code yX1_holderOf cX1_holderOf 5 (some .int) :: ([.fieldLink RX1 31 "TreePairs$Pairs" "size" "I", .methodLink RX1 45 yX1_firstStart, .instanceMethod yX1_firstStart, .selects RX1 yX1_firstStart yX1_firstStart, .initialized RX1, .code yX1_firstStart cX1_firstStart 2 (some .long), .fieldLink RX1 15 "TreePairs$Pairs" "firstDepth" "[I", .fieldLink RX1 21 "TreePairs$Pairs" "firstPlace" "[J", .static yX2_startOf, .initialized RX2, .code yX2_startOf cX2_startOf 3 (some .long)] ++ wsX10)
def wsX2_init_r1 : List Cond := [Cond.methodLink RX2 3 objectInit, Cond.instanceMethod objectInit, Cond.code objectInit ⟨#[0xb1]⟩ 1 none, Cond.classLink RX2 9 RX1, Cond.fieldLink RX2 11 "TreePairs" "maps" "[LTreePairs$Pairs;", Cond.instantiable RX1 5, Cond.initialized RX1, Cond.fieldLink RX2 18 "TreePairs" "hand" "LTreePairs$Pairs;", Cond.fieldLink RX2 22 "TreePairs" "made" "LTreePairs$Pairs;", Cond.fieldLink RX2 25 "TreePairs" "raised" "LTreePairs$Pairs;", Cond.fieldLink RX2 28 "TreePairs" "turned" "LTreePairs$Pairs;", Cond.methodLink RX2 15 yX1_init, Cond.instanceMethod yX1_init, Cond.code yX1_init cX1_init 3 none, Cond.methodLink RX1 3 objectInit, Cond.methodLink RX1 9 Lib.Math.max.name, Cond.static Lib.Math.max.name, Cond.initialized "java/lang/Math", Cond.code Lib.Math.max.name Lib.Math.max.code 2 (some .int), Cond.arrayClass .int, Cond.fieldLink RX1 15 "TreePairs$Pairs" "firstDepth" "[I", Cond.arrayClass .long, Cond.fieldLink RX1 21 "TreePairs$Pairs" "firstPlace" "[J", Cond.fieldLink RX1 25 "TreePairs$Pairs" "secondDepth" "[I"]
def wsX2_init_r2 : List Cond := [Cond.fieldLink RX1 28 "TreePairs$Pairs" "secondPlace" "[J"]
def wsX2_init : List Cond := .code yX2_init cX2_init 2 none :: ((wsX2_init_r1 ++ wsX2_init_r2) ++ wsX20 ++ wsX10)
def wsX2_isLeaf : List Cond := .code yX2_isLeaf cX2_isLeaf 2 (some .boolean) :: ([])
def wsX2_pair : List Cond := .code yX2_pair cX2_pair 5 (some .int) :: ([.fieldLink RX2 18 "TreePairs" "hand" "LTreePairs$Pairs;", .fieldLink RX2 35 "TreePairs$Pairs" "size" "I", .methodLink RX2 31 yX2_isLeaf, .static yX2_isLeaf, .initialized RX2, .code yX2_isLeaf cX2_isLeaf 2 (some .boolean), .methodLink RX2 39 yX1_add, .instanceMethod yX1_add, .selects RX1 yX1_add yX1_add, .initialized RX1, .code yX1_add cX1_add 7 none, .fieldLink RX1 31 "TreePairs$Pairs" "size" "I", .fieldLink RX1 15 "TreePairs$Pairs" "firstDepth" "[I", .fieldLink RX1 21 "TreePairs$Pairs" "firstPlace" "[J", .fieldLink RX1 25 "TreePairs$Pairs" "secondDepth" "[I", .fieldLink RX1 28 "TreePairs$Pairs" "secondPlace" "[J"] ++ wsX20 ++ wsX10)
def wsX2_clear : List Cond := .code yX2_clear cX2_clear 2 (some .int) :: ([.fieldLink RX2 18 "TreePairs" "hand" "LTreePairs$Pairs;", .fieldLink RX2 35 "TreePairs$Pairs" "size" "I"] ++ wsX20 ++ wsX10)
def wsX2_isNumber : List Cond := .code yX2_isNumber cX2_isNumber 1 (some .boolean) :: ([])
def wsX2_putTurned_r1 : List Cond := [Cond.fieldLink RX2 35 "TreePairs$Pairs" "size" "I", Cond.fieldLink RX2 114 "TreePairs$Pairs" "secondDepth" "[I", Cond.fieldLink RX2 121 "TreePairs$Pairs" "secondPlace" "[J", Cond.fieldLink RX2 111 "TreePairs$Pairs" "firstDepth" "[I", Cond.fieldLink RX2 117 "TreePairs$Pairs" "firstPlace" "[J", Cond.methodLink RX2 39 yX1_add, Cond.instanceMethod yX1_add, Cond.selects RX1 yX1_add yX1_add, Cond.initialized RX1, Cond.code yX1_add cX1_add 7 none, Cond.fieldLink RX1 31 "TreePairs$Pairs" "size" "I", Cond.fieldLink RX1 15 "TreePairs$Pairs" "firstDepth" "[I", Cond.fieldLink RX1 21 "TreePairs$Pairs" "firstPlace" "[J", Cond.fieldLink RX1 25 "TreePairs$Pairs" "secondDepth" "[I", Cond.fieldLink RX1 28 "TreePairs$Pairs" "secondPlace" "[J", Cond.methodLink RX2 180 yX1_sinkLast, Cond.instanceMethod yX1_sinkLast, Cond.selects RX1 yX1_sinkLast yX1_sinkLast, Cond.code yX1_sinkLast cX1_sinkLast 2 none, Cond.methodLink RX1 45 yX1_firstStart, Cond.instanceMethod yX1_firstStart, Cond.selects RX1 yX1_firstStart yX1_firstStart, Cond.code yX1_firstStart cX1_firstStart 2 (some .long), Cond.static yX2_startOf]
def wsX2_putTurned_r2 : List Cond := [Cond.initialized RX2, Cond.code yX2_startOf cX2_startOf 3 (some .long), Cond.methodLink RX1 49 yX1_exchange, Cond.static yX1_exchange, Cond.code yX1_exchange cX1_exchange 3 none, Cond.methodLink RX1 53 yX1_exchange_, Cond.static yX1_exchange_, Cond.code yX1_exchange_ cX1_exchange_ 4 none]
def wsX2_putTurned : List Cond := .code yX2_putTurned cX2_putTurned 3 none :: ((wsX2_putTurned_r1 ++ wsX2_putTurned_r2) ++ wsX10)
def wsX2_isCut : List Cond := .code yX2_isCut cX2_isCut 4 (some .boolean) :: ([.fieldLink RX2 35 "TreePairs$Pairs" "size" "I", .fieldLink RX2 111 "TreePairs$Pairs" "firstDepth" "[I", .fieldLink RX2 117 "TreePairs$Pairs" "firstPlace" "[J", .methodLink RX2 174 yX1_firstStart, .instanceMethod yX1_firstStart, .selects RX1 yX1_firstStart yX1_firstStart, .initialized RX1, .code yX1_firstStart cX1_firstStart 2 (some .long), .fieldLink RX1 15 "TreePairs$Pairs" "firstDepth" "[I", .fieldLink RX1 21 "TreePairs$Pairs" "firstPlace" "[J", .static yX2_startOf, .initialized RX2, .code yX2_startOf cX2_startOf 3 (some .long), .methodLink RX2 170 yX2_startOf] ++ wsX10)
def wsX2_putReduced : List Cond := .code yX2_putReduced cX2_putReduced 3 none :: ([.fieldLink RX2 35 "TreePairs$Pairs" "size" "I", .fieldLink RX2 111 "TreePairs$Pairs" "firstDepth" "[I", .fieldLink RX2 117 "TreePairs$Pairs" "firstPlace" "[J", .fieldLink RX2 114 "TreePairs$Pairs" "secondDepth" "[I", .fieldLink RX2 121 "TreePairs$Pairs" "secondPlace" "[J", .methodLink RX2 177 yX1_push, .instanceMethod yX1_push, .selects RX1 yX1_push yX1_push, .initialized RX1, .code yX1_push cX1_push 7 none, .fieldLink RX1 31 "TreePairs$Pairs" "size" "I", .fieldLink RX1 15 "TreePairs$Pairs" "firstDepth" "[I", .fieldLink RX1 21 "TreePairs$Pairs" "firstPlace" "[J", .constantLong RX1 43 (2), .fieldLink RX1 25 "TreePairs$Pairs" "secondDepth" "[I", .fieldLink RX1 28 "TreePairs$Pairs" "secondPlace" "[J", .methodLink RX1 35 yX1_add, .instanceMethod yX1_add, .selects RX1 yX1_add yX1_add, .code yX1_add cX1_add 7 none, .methodLink RX1 39 yX1_areLastHalves, .instanceMethod yX1_areLastHalves, .selects RX1 yX1_areLastHalves yX1_areLastHalves, .code yX1_areLastHalves cX1_areLastHalves 3 (some .boolean)] ++ wsX10)
def wsX2_make_r1 : List Cond := [Cond.fieldLink RX2 18 "TreePairs" "hand" "LTreePairs$Pairs;", Cond.fieldLink RX2 28 "TreePairs" "turned" "LTreePairs$Pairs;", Cond.fieldLink RX2 25 "TreePairs" "raised" "LTreePairs$Pairs;", Cond.fieldLink RX2 35 "TreePairs$Pairs" "size" "I", Cond.fieldLink RX2 11 "TreePairs" "maps" "[LTreePairs$Pairs;", Cond.methodLink RX2 43 yX2_isNumber, Cond.static yX2_isNumber, Cond.initialized RX2, Cond.code yX2_isNumber cX2_isNumber 1 (some .boolean), Cond.methodLink RX2 47 yX2_putTurned, Cond.static yX2_putTurned, Cond.code yX2_putTurned cX2_putTurned 3 none, Cond.fieldLink RX2 114 "TreePairs$Pairs" "secondDepth" "[I", Cond.fieldLink RX2 121 "TreePairs$Pairs" "secondPlace" "[J", Cond.fieldLink RX2 111 "TreePairs$Pairs" "firstDepth" "[I", Cond.fieldLink RX2 117 "TreePairs$Pairs" "firstPlace" "[J", Cond.methodLink RX2 39 yX1_add, Cond.instanceMethod yX1_add, Cond.selects RX1 yX1_add yX1_add, Cond.initialized RX1, Cond.code yX1_add cX1_add 7 none, Cond.fieldLink RX1 31 "TreePairs$Pairs" "size" "I", Cond.fieldLink RX1 15 "TreePairs$Pairs" "firstDepth" "[I", Cond.fieldLink RX1 21 "TreePairs$Pairs" "firstPlace" "[J"]
def wsX2_make_r2 : List Cond := [Cond.fieldLink RX1 25 "TreePairs$Pairs" "secondDepth" "[I", Cond.fieldLink RX1 28 "TreePairs$Pairs" "secondPlace" "[J", Cond.methodLink RX2 180 yX1_sinkLast, Cond.instanceMethod yX1_sinkLast, Cond.selects RX1 yX1_sinkLast yX1_sinkLast, Cond.code yX1_sinkLast cX1_sinkLast 2 none, Cond.methodLink RX1 45 yX1_firstStart, Cond.instanceMethod yX1_firstStart, Cond.selects RX1 yX1_firstStart yX1_firstStart, Cond.code yX1_firstStart cX1_firstStart 2 (some .long), Cond.static yX2_startOf, Cond.code yX2_startOf cX2_startOf 3 (some .long), Cond.methodLink RX1 49 yX1_exchange, Cond.static yX1_exchange, Cond.code yX1_exchange cX1_exchange 3 none, Cond.methodLink RX1 53 yX1_exchange_, Cond.static yX1_exchange_, Cond.code yX1_exchange_ cX1_exchange_ 4 none, Cond.methodLink RX2 51 yX2_isCut, Cond.static yX2_isCut, Cond.code yX2_isCut cX2_isCut 4 (some .boolean), Cond.methodLink RX2 174 yX1_firstStart, Cond.methodLink RX2 170 yX2_startOf, Cond.methodLink RX2 55 yX2_putReduced]
def wsX2_make_r3 : List Cond := [Cond.static yX2_putReduced, Cond.code yX2_putReduced cX2_putReduced 3 none, Cond.methodLink RX2 177 yX1_push, Cond.instanceMethod yX1_push, Cond.selects RX1 yX1_push yX1_push, Cond.code yX1_push cX1_push 7 none, Cond.constantLong RX1 43 (2), Cond.methodLink RX1 35 yX1_add, Cond.methodLink RX1 39 yX1_areLastHalves, Cond.instanceMethod yX1_areLastHalves, Cond.selects RX1 yX1_areLastHalves yX1_areLastHalves, Cond.code yX1_areLastHalves cX1_areLastHalves 3 (some .boolean)]
def wsX2_make : List Cond := .code yX2_make cX2_make 2 (some .int) :: ((wsX2_make_r1 ++ (wsX2_make_r2 ++ wsX2_make_r3)) ++ wsX20 ++ wsX10)
def wsX2_putStrong : List Cond := .code yX2_putStrong cX2_putStrong 5 none :: ([.fieldLink RX2 35 "TreePairs$Pairs" "size" "I", .constantLong RX2 183 (2), .constantLong RX2 185 (4), .constantLong RX2 187 (3), .methodLink RX2 39 yX1_add, .instanceMethod yX1_add, .selects RX1 yX1_add yX1_add, .initialized RX1, .code yX1_add cX1_add 7 none, .fieldLink RX1 31 "TreePairs$Pairs" "size" "I", .fieldLink RX1 15 "TreePairs$Pairs" "firstDepth" "[I", .fieldLink RX1 21 "TreePairs$Pairs" "firstPlace" "[J", .fieldLink RX1 25 "TreePairs$Pairs" "secondDepth" "[I", .fieldLink RX1 28 "TreePairs$Pairs" "secondPlace" "[J"] ++ wsX10)
def wsX2_strong : List Cond := .code yX2_strong cX2_strong 3 (some .int) :: ([.fieldLink RX2 11 "TreePairs" "maps" "[LTreePairs$Pairs;", .fieldLink RX2 35 "TreePairs$Pairs" "size" "I", .methodLink RX2 43 yX2_isNumber, .static yX2_isNumber, .initialized RX2, .code yX2_isNumber cX2_isNumber 1 (some .boolean), .methodLink RX2 58 yX2_putStrong, .static yX2_putStrong, .code yX2_putStrong cX2_putStrong 5 none, .constantLong RX2 183 (2), .constantLong RX2 185 (4), .constantLong RX2 187 (3), .methodLink RX2 39 yX1_add, .instanceMethod yX1_add, .selects RX1 yX1_add yX1_add, .initialized RX1, .code yX1_add cX1_add 7 none, .fieldLink RX1 31 "TreePairs$Pairs" "size" "I", .fieldLink RX1 15 "TreePairs$Pairs" "firstDepth" "[I", .fieldLink RX1 21 "TreePairs$Pairs" "firstPlace" "[J", .fieldLink RX1 25 "TreePairs$Pairs" "secondDepth" "[I", .fieldLink RX1 28 "TreePairs$Pairs" "secondPlace" "[J"] ++ wsX20 ++ wsX10)
def wsX2_isThere : List Cond := .code yX2_isThere cX2_isThere 2 (some .boolean) :: ([.fieldLink RX2 11 "TreePairs" "maps" "[LTreePairs$Pairs;", .fieldLink RX2 35 "TreePairs$Pairs" "size" "I", .methodLink RX2 43 yX2_isNumber, .static yX2_isNumber, .initialized RX2, .code yX2_isNumber cX2_isNumber 1 (some .boolean)] ++ wsX20 ++ wsX10)
def wsX2_putPiece : List Cond := .code yX2_putPiece cX2_putPiece 8 none :: ([.fieldLink RX2 111 "TreePairs$Pairs" "firstDepth" "[I", .fieldLink RX2 114 "TreePairs$Pairs" "secondDepth" "[I", .fieldLink RX2 117 "TreePairs$Pairs" "firstPlace" "[J", .fieldLink RX2 121 "TreePairs$Pairs" "secondPlace" "[J", .methodLink RX2 177 yX1_push, .instanceMethod yX1_push, .selects RX1 yX1_push yX1_push, .initialized RX1, .code yX1_push cX1_push 7 none, .fieldLink RX1 31 "TreePairs$Pairs" "size" "I", .fieldLink RX1 15 "TreePairs$Pairs" "firstDepth" "[I", .fieldLink RX1 21 "TreePairs$Pairs" "firstPlace" "[J", .constantLong RX1 43 (2), .fieldLink RX1 25 "TreePairs$Pairs" "secondDepth" "[I", .fieldLink RX1 28 "TreePairs$Pairs" "secondPlace" "[J", .methodLink RX1 35 yX1_add, .instanceMethod yX1_add, .selects RX1 yX1_add yX1_add, .code yX1_add cX1_add 7 none, .methodLink RX1 39 yX1_areLastHalves, .instanceMethod yX1_areLastHalves, .selects RX1 yX1_areLastHalves yX1_areLastHalves, .code yX1_areLastHalves cX1_areLastHalves 3 (some .boolean)] ++ wsX10)
def wsX2_putBehind_r1 : List Cond := [Cond.fieldLink RX2 35 "TreePairs$Pairs" "size" "I", Cond.methodLink RX2 163 yX1_secondEnd, Cond.instanceMethod yX1_secondEnd, Cond.selects RX1 yX1_secondEnd yX1_secondEnd, Cond.initialized RX1, Cond.code yX1_secondEnd cX1_secondEnd 2 (some .long), Cond.fieldLink RX1 25 "TreePairs$Pairs" "secondDepth" "[I", Cond.fieldLink RX1 28 "TreePairs$Pairs" "secondPlace" "[J", Cond.static yX2_startOf, Cond.initialized RX2, Cond.code yX2_startOf cX2_startOf 3 (some .long), Cond.methodLink RX2 167 yX1_secondStart, Cond.instanceMethod yX1_secondStart, Cond.selects RX1 yX1_secondStart yX1_secondStart, Cond.code yX1_secondStart cX1_secondStart 2 (some .long), Cond.methodLink RX2 107 yX1_holderOf, Cond.instanceMethod yX1_holderOf, Cond.selects RX1 yX1_holderOf yX1_holderOf, Cond.code yX1_holderOf cX1_holderOf 5 (some .int), Cond.fieldLink RX1 31 "TreePairs$Pairs" "size" "I", Cond.methodLink RX1 45 yX1_firstStart, Cond.instanceMethod yX1_firstStart, Cond.selects RX1 yX1_firstStart yX1_firstStart, Cond.code yX1_firstStart cX1_firstStart 2 (some .long)]
def wsX2_putBehind_r2 : List Cond := [Cond.fieldLink RX1 15 "TreePairs$Pairs" "firstDepth" "[I", Cond.fieldLink RX1 21 "TreePairs$Pairs" "firstPlace" "[J", Cond.methodLink RX2 174 yX1_firstStart, Cond.methodLink RX2 189 yX2_putPiece, Cond.static yX2_putPiece, Cond.code yX2_putPiece cX2_putPiece 8 none, Cond.fieldLink RX2 111 "TreePairs$Pairs" "firstDepth" "[I", Cond.fieldLink RX2 114 "TreePairs$Pairs" "secondDepth" "[I", Cond.fieldLink RX2 117 "TreePairs$Pairs" "firstPlace" "[J", Cond.fieldLink RX2 121 "TreePairs$Pairs" "secondPlace" "[J", Cond.methodLink RX2 177 yX1_push, Cond.instanceMethod yX1_push, Cond.selects RX1 yX1_push yX1_push, Cond.code yX1_push cX1_push 7 none, Cond.constantLong RX1 43 (2), Cond.methodLink RX1 35 yX1_add, Cond.instanceMethod yX1_add, Cond.selects RX1 yX1_add yX1_add, Cond.code yX1_add cX1_add 7 none, Cond.methodLink RX1 39 yX1_areLastHalves, Cond.instanceMethod yX1_areLastHalves, Cond.selects RX1 yX1_areLastHalves yX1_areLastHalves, Cond.code yX1_areLastHalves cX1_areLastHalves 3 (some .boolean)]
def wsX2_putBehind : List Cond := .code yX2_putBehind cX2_putBehind 8 none :: ((wsX2_putBehind_r1 ++ wsX2_putBehind_r2) ++ wsX10)
def wsX2_then_r1 : List Cond := [Cond.fieldLink RX2 11 "TreePairs" "maps" "[LTreePairs$Pairs;", Cond.fieldLink RX2 22 "TreePairs" "made" "LTreePairs$Pairs;", Cond.fieldLink RX2 35 "TreePairs$Pairs" "size" "I", Cond.methodLink RX2 43 yX2_isNumber, Cond.static yX2_isNumber, Cond.initialized RX2, Cond.code yX2_isNumber cX2_isNumber 1 (some .boolean), Cond.methodLink RX2 62 yX2_isThere, Cond.instanceMethod yX2_isThere, Cond.selects RX2 yX2_isThere yX2_isThere, Cond.code yX2_isThere cX2_isThere 2 (some .boolean), Cond.methodLink RX2 65 yX2_putBehind, Cond.static yX2_putBehind, Cond.code yX2_putBehind cX2_putBehind 8 none, Cond.methodLink RX2 163 yX1_secondEnd, Cond.instanceMethod yX1_secondEnd, Cond.selects RX1 yX1_secondEnd yX1_secondEnd, Cond.initialized RX1, Cond.code yX1_secondEnd cX1_secondEnd 2 (some .long), Cond.fieldLink RX1 25 "TreePairs$Pairs" "secondDepth" "[I", Cond.fieldLink RX1 28 "TreePairs$Pairs" "secondPlace" "[J", Cond.static yX2_startOf, Cond.code yX2_startOf cX2_startOf 3 (some .long), Cond.methodLink RX2 167 yX1_secondStart]
def wsX2_then_r2 : List Cond := [Cond.instanceMethod yX1_secondStart, Cond.selects RX1 yX1_secondStart yX1_secondStart, Cond.code yX1_secondStart cX1_secondStart 2 (some .long), Cond.methodLink RX2 107 yX1_holderOf, Cond.instanceMethod yX1_holderOf, Cond.selects RX1 yX1_holderOf yX1_holderOf, Cond.code yX1_holderOf cX1_holderOf 5 (some .int), Cond.fieldLink RX1 31 "TreePairs$Pairs" "size" "I", Cond.methodLink RX1 45 yX1_firstStart, Cond.instanceMethod yX1_firstStart, Cond.selects RX1 yX1_firstStart yX1_firstStart, Cond.code yX1_firstStart cX1_firstStart 2 (some .long), Cond.fieldLink RX1 15 "TreePairs$Pairs" "firstDepth" "[I", Cond.fieldLink RX1 21 "TreePairs$Pairs" "firstPlace" "[J", Cond.methodLink RX2 174 yX1_firstStart, Cond.methodLink RX2 189 yX2_putPiece, Cond.static yX2_putPiece, Cond.code yX2_putPiece cX2_putPiece 8 none, Cond.fieldLink RX2 111 "TreePairs$Pairs" "firstDepth" "[I", Cond.fieldLink RX2 114 "TreePairs$Pairs" "secondDepth" "[I", Cond.fieldLink RX2 117 "TreePairs$Pairs" "firstPlace" "[J", Cond.fieldLink RX2 121 "TreePairs$Pairs" "secondPlace" "[J", Cond.methodLink RX2 177 yX1_push, Cond.instanceMethod yX1_push]
def wsX2_then_r3 : List Cond := [Cond.selects RX1 yX1_push yX1_push, Cond.code yX1_push cX1_push 7 none, Cond.constantLong RX1 43 (2), Cond.methodLink RX1 35 yX1_add, Cond.instanceMethod yX1_add, Cond.selects RX1 yX1_add yX1_add, Cond.code yX1_add cX1_add 7 none, Cond.methodLink RX1 39 yX1_areLastHalves, Cond.instanceMethod yX1_areLastHalves, Cond.selects RX1 yX1_areLastHalves yX1_areLastHalves, Cond.code yX1_areLastHalves cX1_areLastHalves 3 (some .boolean), Cond.methodLink RX2 69 yX2_putCopy, Cond.static yX2_putCopy, Cond.code yX2_putCopy cX2_putCopy 3 none, Cond.methodLink RX2 39 yX1_add]
def wsX2_then : List Cond := .code yX2_then cX2_then 4 (some .int) :: ((wsX2_then_r1 ++ (wsX2_then_r2 ++ wsX2_then_r3)) ++ wsX20 ++ wsX10)
def wsX2_turn_r1 : List Cond := [Cond.fieldLink RX2 11 "TreePairs" "maps" "[LTreePairs$Pairs;", Cond.fieldLink RX2 28 "TreePairs" "turned" "LTreePairs$Pairs;", Cond.fieldLink RX2 35 "TreePairs$Pairs" "size" "I", Cond.methodLink RX2 43 yX2_isNumber, Cond.static yX2_isNumber, Cond.initialized RX2, Cond.code yX2_isNumber cX2_isNumber 1 (some .boolean), Cond.methodLink RX2 62 yX2_isThere, Cond.instanceMethod yX2_isThere, Cond.selects RX2 yX2_isThere yX2_isThere, Cond.code yX2_isThere cX2_isThere 2 (some .boolean), Cond.methodLink RX2 47 yX2_putTurned, Cond.static yX2_putTurned, Cond.code yX2_putTurned cX2_putTurned 3 none, Cond.fieldLink RX2 114 "TreePairs$Pairs" "secondDepth" "[I", Cond.fieldLink RX2 121 "TreePairs$Pairs" "secondPlace" "[J", Cond.fieldLink RX2 111 "TreePairs$Pairs" "firstDepth" "[I", Cond.fieldLink RX2 117 "TreePairs$Pairs" "firstPlace" "[J", Cond.methodLink RX2 39 yX1_add, Cond.instanceMethod yX1_add, Cond.selects RX1 yX1_add yX1_add, Cond.initialized RX1, Cond.code yX1_add cX1_add 7 none, Cond.fieldLink RX1 31 "TreePairs$Pairs" "size" "I"]
def wsX2_turn_r2 : List Cond := [Cond.fieldLink RX1 15 "TreePairs$Pairs" "firstDepth" "[I", Cond.fieldLink RX1 21 "TreePairs$Pairs" "firstPlace" "[J", Cond.fieldLink RX1 25 "TreePairs$Pairs" "secondDepth" "[I", Cond.fieldLink RX1 28 "TreePairs$Pairs" "secondPlace" "[J", Cond.methodLink RX2 180 yX1_sinkLast, Cond.instanceMethod yX1_sinkLast, Cond.selects RX1 yX1_sinkLast yX1_sinkLast, Cond.code yX1_sinkLast cX1_sinkLast 2 none, Cond.methodLink RX1 45 yX1_firstStart, Cond.instanceMethod yX1_firstStart, Cond.selects RX1 yX1_firstStart yX1_firstStart, Cond.code yX1_firstStart cX1_firstStart 2 (some .long), Cond.static yX2_startOf, Cond.code yX2_startOf cX2_startOf 3 (some .long), Cond.methodLink RX1 49 yX1_exchange, Cond.static yX1_exchange, Cond.code yX1_exchange cX1_exchange 3 none, Cond.methodLink RX1 53 yX1_exchange_, Cond.static yX1_exchange_, Cond.code yX1_exchange_ cX1_exchange_ 4 none, Cond.methodLink RX2 69 yX2_putCopy, Cond.static yX2_putCopy, Cond.code yX2_putCopy cX2_putCopy 3 none]
def wsX2_turn : List Cond := .code yX2_turn cX2_turn 3 (some .int) :: ((wsX2_turn_r1 ++ wsX2_turn_r2) ++ wsX20 ++ wsX10)
def wsX2_isOneMore_r1 : List Cond := [Cond.fieldLink RX2 25 "TreePairs" "raised" "LTreePairs$Pairs;", Cond.fieldLink RX2 22 "TreePairs" "made" "LTreePairs$Pairs;", Cond.fieldLink RX2 35 "TreePairs$Pairs" "size" "I", Cond.methodLink RX2 65 yX2_putBehind, Cond.static yX2_putBehind, Cond.initialized RX2, Cond.code yX2_putBehind cX2_putBehind 8 none, Cond.methodLink RX2 163 yX1_secondEnd, Cond.instanceMethod yX1_secondEnd, Cond.selects RX1 yX1_secondEnd yX1_secondEnd, Cond.initialized RX1, Cond.code yX1_secondEnd cX1_secondEnd 2 (some .long), Cond.fieldLink RX1 25 "TreePairs$Pairs" "secondDepth" "[I", Cond.fieldLink RX1 28 "TreePairs$Pairs" "secondPlace" "[J", Cond.static yX2_startOf, Cond.code yX2_startOf cX2_startOf 3 (some .long), Cond.methodLink RX2 167 yX1_secondStart, Cond.instanceMethod yX1_secondStart, Cond.selects RX1 yX1_secondStart yX1_secondStart, Cond.code yX1_secondStart cX1_secondStart 2 (some .long), Cond.methodLink RX2 107 yX1_holderOf, Cond.instanceMethod yX1_holderOf, Cond.selects RX1 yX1_holderOf yX1_holderOf, Cond.code yX1_holderOf cX1_holderOf 5 (some .int)]
def wsX2_isOneMore_r2 : List Cond := [Cond.fieldLink RX1 31 "TreePairs$Pairs" "size" "I", Cond.methodLink RX1 45 yX1_firstStart, Cond.instanceMethod yX1_firstStart, Cond.selects RX1 yX1_firstStart yX1_firstStart, Cond.code yX1_firstStart cX1_firstStart 2 (some .long), Cond.fieldLink RX1 15 "TreePairs$Pairs" "firstDepth" "[I", Cond.fieldLink RX1 21 "TreePairs$Pairs" "firstPlace" "[J", Cond.methodLink RX2 174 yX1_firstStart, Cond.methodLink RX2 189 yX2_putPiece, Cond.static yX2_putPiece, Cond.code yX2_putPiece cX2_putPiece 8 none, Cond.fieldLink RX2 111 "TreePairs$Pairs" "firstDepth" "[I", Cond.fieldLink RX2 114 "TreePairs$Pairs" "secondDepth" "[I", Cond.fieldLink RX2 117 "TreePairs$Pairs" "firstPlace" "[J", Cond.fieldLink RX2 121 "TreePairs$Pairs" "secondPlace" "[J", Cond.methodLink RX2 177 yX1_push, Cond.instanceMethod yX1_push, Cond.selects RX1 yX1_push yX1_push, Cond.code yX1_push cX1_push 7 none, Cond.constantLong RX1 43 (2), Cond.methodLink RX1 35 yX1_add, Cond.instanceMethod yX1_add, Cond.selects RX1 yX1_add yX1_add, Cond.code yX1_add cX1_add 7 none]
def wsX2_isOneMore_r3 : List Cond := [Cond.methodLink RX1 39 yX1_areLastHalves, Cond.instanceMethod yX1_areLastHalves, Cond.selects RX1 yX1_areLastHalves yX1_areLastHalves, Cond.code yX1_areLastHalves cX1_areLastHalves 3 (some .boolean), Cond.methodLink RX2 69 yX2_putCopy, Cond.static yX2_putCopy, Cond.code yX2_putCopy cX2_putCopy 3 none, Cond.methodLink RX2 39 yX1_add]
def wsX2_isOneMore : List Cond := .code yX2_isOneMore cX2_isOneMore 2 (some .boolean) :: ((wsX2_isOneMore_r1 ++ (wsX2_isOneMore_r2 ++ wsX2_isOneMore_r3)) ++ wsX20 ++ wsX10)
def wsX2_isRaised_r1 : List Cond := [Cond.fieldLink RX2 28 "TreePairs" "turned" "LTreePairs$Pairs;", Cond.fieldLink RX2 25 "TreePairs" "raised" "LTreePairs$Pairs;", Cond.methodLink RX2 193 Lib.Math.abs.name, Cond.static Lib.Math.abs.name, Cond.initialized "java/lang/Math", Cond.code Lib.Math.abs.name Lib.Math.abs.code 1 (some .int), Cond.methodLink RX2 47 yX2_putTurned, Cond.static yX2_putTurned, Cond.initialized RX2, Cond.code yX2_putTurned cX2_putTurned 3 none, Cond.fieldLink RX2 35 "TreePairs$Pairs" "size" "I", Cond.fieldLink RX2 114 "TreePairs$Pairs" "secondDepth" "[I", Cond.fieldLink RX2 121 "TreePairs$Pairs" "secondPlace" "[J", Cond.fieldLink RX2 111 "TreePairs$Pairs" "firstDepth" "[I", Cond.fieldLink RX2 117 "TreePairs$Pairs" "firstPlace" "[J", Cond.methodLink RX2 39 yX1_add, Cond.instanceMethod yX1_add, Cond.selects RX1 yX1_add yX1_add, Cond.initialized RX1, Cond.code yX1_add cX1_add 7 none, Cond.fieldLink RX1 31 "TreePairs$Pairs" "size" "I", Cond.fieldLink RX1 15 "TreePairs$Pairs" "firstDepth" "[I", Cond.fieldLink RX1 21 "TreePairs$Pairs" "firstPlace" "[J", Cond.fieldLink RX1 25 "TreePairs$Pairs" "secondDepth" "[I"]
def wsX2_isRaised_r2 : List Cond := [Cond.fieldLink RX1 28 "TreePairs$Pairs" "secondPlace" "[J", Cond.methodLink RX2 180 yX1_sinkLast, Cond.instanceMethod yX1_sinkLast, Cond.selects RX1 yX1_sinkLast yX1_sinkLast, Cond.code yX1_sinkLast cX1_sinkLast 2 none, Cond.methodLink RX1 45 yX1_firstStart, Cond.instanceMethod yX1_firstStart, Cond.selects RX1 yX1_firstStart yX1_firstStart, Cond.code yX1_firstStart cX1_firstStart 2 (some .long), Cond.static yX2_startOf, Cond.code yX2_startOf cX2_startOf 3 (some .long), Cond.methodLink RX1 49 yX1_exchange, Cond.static yX1_exchange, Cond.code yX1_exchange cX1_exchange 3 none, Cond.methodLink RX1 53 yX1_exchange_, Cond.static yX1_exchange_, Cond.code yX1_exchange_ cX1_exchange_ 4 none, Cond.methodLink RX2 88 yX1_becomeNothing, Cond.instanceMethod yX1_becomeNothing, Cond.selects RX1 yX1_becomeNothing yX1_becomeNothing, Cond.code yX1_becomeNothing cX1_becomeNothing 1 none, Cond.methodLink RX1 35 yX1_add, Cond.methodLink RX2 91 yX2_isOneMore, Cond.instanceMethod yX2_isOneMore]
def wsX2_isRaised_r3 : List Cond := [Cond.selects RX2 yX2_isOneMore yX2_isOneMore, Cond.code yX2_isOneMore cX2_isOneMore 2 (some .boolean), Cond.fieldLink RX2 22 "TreePairs" "made" "LTreePairs$Pairs;", Cond.methodLink RX2 65 yX2_putBehind, Cond.static yX2_putBehind, Cond.code yX2_putBehind cX2_putBehind 8 none, Cond.methodLink RX2 163 yX1_secondEnd, Cond.instanceMethod yX1_secondEnd, Cond.selects RX1 yX1_secondEnd yX1_secondEnd, Cond.code yX1_secondEnd cX1_secondEnd 2 (some .long), Cond.methodLink RX2 167 yX1_secondStart, Cond.instanceMethod yX1_secondStart, Cond.selects RX1 yX1_secondStart yX1_secondStart, Cond.code yX1_secondStart cX1_secondStart 2 (some .long), Cond.methodLink RX2 107 yX1_holderOf, Cond.instanceMethod yX1_holderOf, Cond.selects RX1 yX1_holderOf yX1_holderOf, Cond.code yX1_holderOf cX1_holderOf 5 (some .int), Cond.methodLink RX2 174 yX1_firstStart, Cond.methodLink RX2 189 yX2_putPiece, Cond.static yX2_putPiece, Cond.code yX2_putPiece cX2_putPiece 8 none, Cond.methodLink RX2 177 yX1_push, Cond.instanceMethod yX1_push]
def wsX2_isRaised_r4 : List Cond := [Cond.selects RX1 yX1_push yX1_push, Cond.code yX1_push cX1_push 7 none, Cond.constantLong RX1 43 (2), Cond.methodLink RX1 39 yX1_areLastHalves, Cond.instanceMethod yX1_areLastHalves, Cond.selects RX1 yX1_areLastHalves yX1_areLastHalves, Cond.code yX1_areLastHalves cX1_areLastHalves 3 (some .boolean), Cond.methodLink RX2 69 yX2_putCopy, Cond.static yX2_putCopy, Cond.code yX2_putCopy cX2_putCopy 3 none]
def wsX2_isRaised : List Cond := .code yX2_isRaised cX2_isRaised 6 (some .boolean) :: ((wsX2_isRaised_r1 ++ (wsX2_isRaised_r2 ++ (wsX2_isRaised_r3 ++ wsX2_isRaised_r4))) ++ wsX20 ++ wsX10)
def wsX2_power_r1 : List Cond := [Cond.fieldLink RX2 11 "TreePairs" "maps" "[LTreePairs$Pairs;", Cond.fieldLink RX2 25 "TreePairs" "raised" "LTreePairs$Pairs;", Cond.fieldLink RX2 35 "TreePairs$Pairs" "size" "I", Cond.methodLink RX2 43 yX2_isNumber, Cond.static yX2_isNumber, Cond.initialized RX2, Cond.code yX2_isNumber cX2_isNumber 1 (some .boolean), Cond.methodLink RX2 62 yX2_isThere, Cond.instanceMethod yX2_isThere, Cond.selects RX2 yX2_isThere yX2_isThere, Cond.code yX2_isThere cX2_isThere 2 (some .boolean), Cond.methodLink RX2 72 yX2_isRaised, Cond.instanceMethod yX2_isRaised, Cond.selects RX2 yX2_isRaised yX2_isRaised, Cond.code yX2_isRaised cX2_isRaised 6 (some .boolean), Cond.fieldLink RX2 28 "TreePairs" "turned" "LTreePairs$Pairs;", Cond.methodLink RX2 193 Lib.Math.abs.name, Cond.static Lib.Math.abs.name, Cond.initialized "java/lang/Math", Cond.code Lib.Math.abs.name Lib.Math.abs.code 1 (some .int), Cond.methodLink RX2 47 yX2_putTurned, Cond.static yX2_putTurned, Cond.code yX2_putTurned cX2_putTurned 3 none, Cond.fieldLink RX2 114 "TreePairs$Pairs" "secondDepth" "[I"]
def wsX2_power_r2 : List Cond := [Cond.fieldLink RX2 121 "TreePairs$Pairs" "secondPlace" "[J", Cond.fieldLink RX2 111 "TreePairs$Pairs" "firstDepth" "[I", Cond.fieldLink RX2 117 "TreePairs$Pairs" "firstPlace" "[J", Cond.methodLink RX2 39 yX1_add, Cond.instanceMethod yX1_add, Cond.selects RX1 yX1_add yX1_add, Cond.initialized RX1, Cond.code yX1_add cX1_add 7 none, Cond.fieldLink RX1 31 "TreePairs$Pairs" "size" "I", Cond.fieldLink RX1 15 "TreePairs$Pairs" "firstDepth" "[I", Cond.fieldLink RX1 21 "TreePairs$Pairs" "firstPlace" "[J", Cond.fieldLink RX1 25 "TreePairs$Pairs" "secondDepth" "[I", Cond.fieldLink RX1 28 "TreePairs$Pairs" "secondPlace" "[J", Cond.methodLink RX2 180 yX1_sinkLast, Cond.instanceMethod yX1_sinkLast, Cond.selects RX1 yX1_sinkLast yX1_sinkLast, Cond.code yX1_sinkLast cX1_sinkLast 2 none, Cond.methodLink RX1 45 yX1_firstStart, Cond.instanceMethod yX1_firstStart, Cond.selects RX1 yX1_firstStart yX1_firstStart, Cond.code yX1_firstStart cX1_firstStart 2 (some .long), Cond.static yX2_startOf, Cond.code yX2_startOf cX2_startOf 3 (some .long), Cond.methodLink RX1 49 yX1_exchange]
def wsX2_power_r3 : List Cond := [Cond.static yX1_exchange, Cond.code yX1_exchange cX1_exchange 3 none, Cond.methodLink RX1 53 yX1_exchange_, Cond.static yX1_exchange_, Cond.code yX1_exchange_ cX1_exchange_ 4 none, Cond.methodLink RX2 88 yX1_becomeNothing, Cond.instanceMethod yX1_becomeNothing, Cond.selects RX1 yX1_becomeNothing yX1_becomeNothing, Cond.code yX1_becomeNothing cX1_becomeNothing 1 none, Cond.methodLink RX1 35 yX1_add, Cond.methodLink RX2 91 yX2_isOneMore, Cond.instanceMethod yX2_isOneMore, Cond.selects RX2 yX2_isOneMore yX2_isOneMore, Cond.code yX2_isOneMore cX2_isOneMore 2 (some .boolean), Cond.fieldLink RX2 22 "TreePairs" "made" "LTreePairs$Pairs;", Cond.methodLink RX2 65 yX2_putBehind, Cond.static yX2_putBehind, Cond.code yX2_putBehind cX2_putBehind 8 none, Cond.methodLink RX2 163 yX1_secondEnd, Cond.instanceMethod yX1_secondEnd, Cond.selects RX1 yX1_secondEnd yX1_secondEnd, Cond.code yX1_secondEnd cX1_secondEnd 2 (some .long), Cond.methodLink RX2 167 yX1_secondStart, Cond.instanceMethod yX1_secondStart]
def wsX2_power_r4 : List Cond := [Cond.selects RX1 yX1_secondStart yX1_secondStart, Cond.code yX1_secondStart cX1_secondStart 2 (some .long), Cond.methodLink RX2 107 yX1_holderOf, Cond.instanceMethod yX1_holderOf, Cond.selects RX1 yX1_holderOf yX1_holderOf, Cond.code yX1_holderOf cX1_holderOf 5 (some .int), Cond.methodLink RX2 174 yX1_firstStart, Cond.methodLink RX2 189 yX2_putPiece, Cond.static yX2_putPiece, Cond.code yX2_putPiece cX2_putPiece 8 none, Cond.methodLink RX2 177 yX1_push, Cond.instanceMethod yX1_push, Cond.selects RX1 yX1_push yX1_push, Cond.code yX1_push cX1_push 7 none, Cond.constantLong RX1 43 (2), Cond.methodLink RX1 39 yX1_areLastHalves, Cond.instanceMethod yX1_areLastHalves, Cond.selects RX1 yX1_areLastHalves yX1_areLastHalves, Cond.code yX1_areLastHalves cX1_areLastHalves 3 (some .boolean), Cond.methodLink RX2 69 yX2_putCopy, Cond.static yX2_putCopy, Cond.code yX2_putCopy cX2_putCopy 3 none]
def wsX2_power : List Cond := .code yX2_power cX2_power 4 (some .int) :: ((wsX2_power_r1 ++ (wsX2_power_r2 ++ (wsX2_power_r3 ++ wsX2_power_r4))) ++ wsX20 ++ wsX10)
def wsX2_drop : List Cond := .code yX2_drop cX2_drop 3 (some .int) :: ([.fieldLink RX2 11 "TreePairs" "maps" "[LTreePairs$Pairs;", .fieldLink RX2 35 "TreePairs$Pairs" "size" "I", .methodLink RX2 62 yX2_isThere, .instanceMethod yX2_isThere, .selects RX2 yX2_isThere yX2_isThere, .initialized RX2, .code yX2_isThere cX2_isThere 2 (some .boolean), .methodLink RX2 43 yX2_isNumber, .static yX2_isNumber, .code yX2_isNumber cX2_isNumber 1 (some .boolean)] ++ wsX20 ++ wsX10)
def wsX2_leaves : List Cond := .code yX2_leaves cX2_leaves 2 (some .int) :: ([.fieldLink RX2 11 "TreePairs" "maps" "[LTreePairs$Pairs;", .fieldLink RX2 35 "TreePairs$Pairs" "size" "I", .methodLink RX2 62 yX2_isThere, .instanceMethod yX2_isThere, .selects RX2 yX2_isThere yX2_isThere, .initialized RX2, .code yX2_isThere cX2_isThere 2 (some .boolean), .methodLink RX2 43 yX2_isNumber, .static yX2_isNumber, .code yX2_isNumber cX2_isNumber 1 (some .boolean)] ++ wsX20 ++ wsX10)
def wsX2_kindOf : List Cond := .code yX2_kindOf cX2_kindOf 8 (some .int) :: ([.fieldLink RX2 35 "TreePairs$Pairs" "size" "I", .methodLink RX2 163 yX1_secondEnd, .instanceMethod yX1_secondEnd, .selects RX1 yX1_secondEnd yX1_secondEnd, .initialized RX1, .code yX1_secondEnd cX1_secondEnd 2 (some .long), .fieldLink RX1 25 "TreePairs$Pairs" "secondDepth" "[I", .fieldLink RX1 28 "TreePairs$Pairs" "secondPlace" "[J", .static yX2_startOf, .initialized RX2, .code yX2_startOf cX2_startOf 3 (some .long), .methodLink RX2 167 yX1_secondStart, .instanceMethod yX1_secondStart, .selects RX1 yX1_secondStart yX1_secondStart, .code yX1_secondStart cX1_secondStart 2 (some .long), .methodLink RX2 170 yX2_startOf] ++ wsX10)
def wsX2_sort_r1 : List Cond := [Cond.fieldLink RX2 11 "TreePairs" "maps" "[LTreePairs$Pairs;", Cond.methodLink RX2 62 yX2_isThere, Cond.instanceMethod yX2_isThere, Cond.selects RX2 yX2_isThere yX2_isThere, Cond.initialized RX2, Cond.code yX2_isThere cX2_isThere 2 (some .boolean), Cond.fieldLink RX2 35 "TreePairs$Pairs" "size" "I", Cond.methodLink RX2 43 yX2_isNumber, Cond.static yX2_isNumber, Cond.code yX2_isNumber cX2_isNumber 1 (some .boolean), Cond.methodLink RX2 76 yX2_kindOf, Cond.static yX2_kindOf, Cond.code yX2_kindOf cX2_kindOf 8 (some .int), Cond.methodLink RX2 163 yX1_secondEnd, Cond.instanceMethod yX1_secondEnd, Cond.selects RX1 yX1_secondEnd yX1_secondEnd, Cond.initialized RX1, Cond.code yX1_secondEnd cX1_secondEnd 2 (some .long), Cond.fieldLink RX1 25 "TreePairs$Pairs" "secondDepth" "[I", Cond.fieldLink RX1 28 "TreePairs$Pairs" "secondPlace" "[J", Cond.static yX2_startOf, Cond.code yX2_startOf cX2_startOf 3 (some .long), Cond.methodLink RX2 167 yX1_secondStart, Cond.instanceMethod yX1_secondStart]
def wsX2_sort_r2 : List Cond := [Cond.selects RX1 yX1_secondStart yX1_secondStart, Cond.code yX1_secondStart cX1_secondStart 2 (some .long), Cond.methodLink RX2 170 yX2_startOf]
def wsX2_sort : List Cond := .code yX2_sort cX2_sort 2 (some .int) :: ((wsX2_sort_r1 ++ wsX2_sort_r2) ++ wsX20 ++ wsX10)
def wsX2_leaf : List Cond := .code yX2_leaf cX2_leaf 4 (some .int) :: ([.fieldLink RX2 11 "TreePairs" "maps" "[LTreePairs$Pairs;", .fieldLink RX2 35 "TreePairs$Pairs" "size" "I", .methodLink RX2 62 yX2_isThere, .instanceMethod yX2_isThere, .selects RX2 yX2_isThere yX2_isThere, .initialized RX2, .code yX2_isThere cX2_isThere 2 (some .boolean), .methodLink RX2 43 yX2_isNumber, .static yX2_isNumber, .code yX2_isNumber cX2_isNumber 1 (some .boolean), .methodLink RX2 80 yX1_told, .instanceMethod yX1_told, .selects RX1 yX1_told yX1_told, .initialized RX1, .code yX1_told cX1_told 3 (some .long), .fieldLink RX1 15 "TreePairs$Pairs" "firstDepth" "[I", .fieldLink RX1 21 "TreePairs$Pairs" "firstPlace" "[J", .fieldLink RX1 25 "TreePairs$Pairs" "secondDepth" "[I", .fieldLink RX1 28 "TreePairs$Pairs" "secondPlace" "[J"] ++ wsX20 ++ wsX10)
def wsX2_same : List Cond := .code yX2_same cX2_same 3 (some .int) :: ([.fieldLink RX2 11 "TreePairs" "maps" "[LTreePairs$Pairs;", .methodLink RX2 62 yX2_isThere, .instanceMethod yX2_isThere, .selects RX2 yX2_isThere yX2_isThere, .initialized RX2, .code yX2_isThere cX2_isThere 2 (some .boolean), .fieldLink RX2 35 "TreePairs$Pairs" "size" "I", .methodLink RX2 43 yX2_isNumber, .static yX2_isNumber, .code yX2_isNumber cX2_isNumber 1 (some .boolean), .methodLink RX2 84 yX2_areAlike, .static yX2_areAlike, .code yX2_areAlike cX2_areAlike 4 (some .boolean), .methodLink RX2 80 yX1_told, .instanceMethod yX1_told, .selects RX1 yX1_told yX1_told, .initialized RX1, .code yX1_told cX1_told 3 (some .long), .fieldLink RX1 15 "TreePairs$Pairs" "firstDepth" "[I", .fieldLink RX1 21 "TreePairs$Pairs" "firstPlace" "[J", .fieldLink RX1 25 "TreePairs$Pairs" "secondDepth" "[I", .fieldLink RX1 28 "TreePairs$Pairs" "secondPlace" "[J"] ++ wsX20 ++ wsX10)
def wsX2_commute_r1 : List Cond := [Cond.fieldLink RX2 11 "TreePairs" "maps" "[LTreePairs$Pairs;", Cond.fieldLink RX2 25 "TreePairs" "raised" "LTreePairs$Pairs;", Cond.fieldLink RX2 22 "TreePairs" "made" "LTreePairs$Pairs;", Cond.fieldLink RX2 35 "TreePairs$Pairs" "size" "I", Cond.methodLink RX2 62 yX2_isThere, Cond.instanceMethod yX2_isThere, Cond.selects RX2 yX2_isThere yX2_isThere, Cond.initialized RX2, Cond.code yX2_isThere cX2_isThere 2 (some .boolean), Cond.methodLink RX2 43 yX2_isNumber, Cond.static yX2_isNumber, Cond.code yX2_isNumber cX2_isNumber 1 (some .boolean), Cond.methodLink RX2 65 yX2_putBehind, Cond.static yX2_putBehind, Cond.code yX2_putBehind cX2_putBehind 8 none, Cond.methodLink RX2 163 yX1_secondEnd, Cond.instanceMethod yX1_secondEnd, Cond.selects RX1 yX1_secondEnd yX1_secondEnd, Cond.initialized RX1, Cond.code yX1_secondEnd cX1_secondEnd 2 (some .long), Cond.fieldLink RX1 25 "TreePairs$Pairs" "secondDepth" "[I", Cond.fieldLink RX1 28 "TreePairs$Pairs" "secondPlace" "[J", Cond.static yX2_startOf, Cond.code yX2_startOf cX2_startOf 3 (some .long)]
def wsX2_commute_r2 : List Cond := [Cond.methodLink RX2 167 yX1_secondStart, Cond.instanceMethod yX1_secondStart, Cond.selects RX1 yX1_secondStart yX1_secondStart, Cond.code yX1_secondStart cX1_secondStart 2 (some .long), Cond.methodLink RX2 107 yX1_holderOf, Cond.instanceMethod yX1_holderOf, Cond.selects RX1 yX1_holderOf yX1_holderOf, Cond.code yX1_holderOf cX1_holderOf 5 (some .int), Cond.fieldLink RX1 31 "TreePairs$Pairs" "size" "I", Cond.methodLink RX1 45 yX1_firstStart, Cond.instanceMethod yX1_firstStart, Cond.selects RX1 yX1_firstStart yX1_firstStart, Cond.code yX1_firstStart cX1_firstStart 2 (some .long), Cond.fieldLink RX1 15 "TreePairs$Pairs" "firstDepth" "[I", Cond.fieldLink RX1 21 "TreePairs$Pairs" "firstPlace" "[J", Cond.methodLink RX2 174 yX1_firstStart, Cond.methodLink RX2 189 yX2_putPiece, Cond.static yX2_putPiece, Cond.code yX2_putPiece cX2_putPiece 8 none, Cond.fieldLink RX2 111 "TreePairs$Pairs" "firstDepth" "[I", Cond.fieldLink RX2 114 "TreePairs$Pairs" "secondDepth" "[I", Cond.fieldLink RX2 117 "TreePairs$Pairs" "firstPlace" "[J", Cond.fieldLink RX2 121 "TreePairs$Pairs" "secondPlace" "[J", Cond.methodLink RX2 177 yX1_push]
def wsX2_commute_r3 : List Cond := [Cond.instanceMethod yX1_push, Cond.selects RX1 yX1_push yX1_push, Cond.code yX1_push cX1_push 7 none, Cond.constantLong RX1 43 (2), Cond.methodLink RX1 35 yX1_add, Cond.instanceMethod yX1_add, Cond.selects RX1 yX1_add yX1_add, Cond.code yX1_add cX1_add 7 none, Cond.methodLink RX1 39 yX1_areLastHalves, Cond.instanceMethod yX1_areLastHalves, Cond.selects RX1 yX1_areLastHalves yX1_areLastHalves, Cond.code yX1_areLastHalves cX1_areLastHalves 3 (some .boolean), Cond.methodLink RX2 84 yX2_areAlike, Cond.static yX2_areAlike, Cond.code yX2_areAlike cX2_areAlike 4 (some .boolean), Cond.methodLink RX2 80 yX1_told, Cond.instanceMethod yX1_told, Cond.selects RX1 yX1_told yX1_told, Cond.code yX1_told cX1_told 3 (some .long)]
def wsX2_commute : List Cond := .code yX2_commute cX2_commute 3 (some .int) :: ((wsX2_commute_r1 ++ (wsX2_commute_r2 ++ wsX2_commute_r3)) ++ wsX20 ++ wsX10)
def wsX2_order_r1 : List Cond := [Cond.fieldLink RX2 25 "TreePairs" "raised" "LTreePairs$Pairs;", Cond.fieldLink RX2 11 "TreePairs" "maps" "[LTreePairs$Pairs;", Cond.fieldLink RX2 35 "TreePairs$Pairs" "size" "I", Cond.methodLink RX2 62 yX2_isThere, Cond.instanceMethod yX2_isThere, Cond.selects RX2 yX2_isThere yX2_isThere, Cond.initialized RX2, Cond.code yX2_isThere cX2_isThere 2 (some .boolean), Cond.methodLink RX2 43 yX2_isNumber, Cond.static yX2_isNumber, Cond.code yX2_isNumber cX2_isNumber 1 (some .boolean), Cond.methodLink RX2 88 yX1_becomeNothing, Cond.instanceMethod yX1_becomeNothing, Cond.selects RX1 yX1_becomeNothing yX1_becomeNothing, Cond.initialized RX1, Cond.code yX1_becomeNothing cX1_becomeNothing 1 none, Cond.fieldLink RX1 31 "TreePairs$Pairs" "size" "I", Cond.methodLink RX1 35 yX1_add, Cond.instanceMethod yX1_add, Cond.selects RX1 yX1_add yX1_add, Cond.code yX1_add cX1_add 7 none, Cond.fieldLink RX1 15 "TreePairs$Pairs" "firstDepth" "[I", Cond.fieldLink RX1 21 "TreePairs$Pairs" "firstPlace" "[J", Cond.fieldLink RX1 25 "TreePairs$Pairs" "secondDepth" "[I"]
def wsX2_order_r2 : List Cond := [Cond.fieldLink RX1 28 "TreePairs$Pairs" "secondPlace" "[J", Cond.methodLink RX2 91 yX2_isOneMore, Cond.instanceMethod yX2_isOneMore, Cond.selects RX2 yX2_isOneMore yX2_isOneMore, Cond.code yX2_isOneMore cX2_isOneMore 2 (some .boolean), Cond.fieldLink RX2 22 "TreePairs" "made" "LTreePairs$Pairs;", Cond.methodLink RX2 65 yX2_putBehind, Cond.static yX2_putBehind, Cond.code yX2_putBehind cX2_putBehind 8 none, Cond.methodLink RX2 163 yX1_secondEnd, Cond.instanceMethod yX1_secondEnd, Cond.selects RX1 yX1_secondEnd yX1_secondEnd, Cond.code yX1_secondEnd cX1_secondEnd 2 (some .long), Cond.static yX2_startOf, Cond.code yX2_startOf cX2_startOf 3 (some .long), Cond.methodLink RX2 167 yX1_secondStart, Cond.instanceMethod yX1_secondStart, Cond.selects RX1 yX1_secondStart yX1_secondStart, Cond.code yX1_secondStart cX1_secondStart 2 (some .long), Cond.methodLink RX2 107 yX1_holderOf, Cond.instanceMethod yX1_holderOf, Cond.selects RX1 yX1_holderOf yX1_holderOf, Cond.code yX1_holderOf cX1_holderOf 5 (some .int), Cond.methodLink RX1 45 yX1_firstStart]
def wsX2_order_r3 : List Cond := [Cond.instanceMethod yX1_firstStart, Cond.selects RX1 yX1_firstStart yX1_firstStart, Cond.code yX1_firstStart cX1_firstStart 2 (some .long), Cond.methodLink RX2 174 yX1_firstStart, Cond.methodLink RX2 189 yX2_putPiece, Cond.static yX2_putPiece, Cond.code yX2_putPiece cX2_putPiece 8 none, Cond.fieldLink RX2 111 "TreePairs$Pairs" "firstDepth" "[I", Cond.fieldLink RX2 114 "TreePairs$Pairs" "secondDepth" "[I", Cond.fieldLink RX2 117 "TreePairs$Pairs" "firstPlace" "[J", Cond.fieldLink RX2 121 "TreePairs$Pairs" "secondPlace" "[J", Cond.methodLink RX2 177 yX1_push, Cond.instanceMethod yX1_push, Cond.selects RX1 yX1_push yX1_push, Cond.code yX1_push cX1_push 7 none, Cond.constantLong RX1 43 (2), Cond.methodLink RX1 39 yX1_areLastHalves, Cond.instanceMethod yX1_areLastHalves, Cond.selects RX1 yX1_areLastHalves yX1_areLastHalves, Cond.code yX1_areLastHalves cX1_areLastHalves 3 (some .boolean), Cond.methodLink RX2 69 yX2_putCopy, Cond.static yX2_putCopy, Cond.code yX2_putCopy cX2_putCopy 3 none, Cond.methodLink RX2 39 yX1_add]
def wsX2_order : List Cond := .code yX2_order cX2_order 3 (some .int) :: ((wsX2_order_r1 ++ (wsX2_order_r2 ++ wsX2_order_r3)) ++ wsX20 ++ wsX10)
def wsX2_stepsOfLength_r1 : List Cond := [Cond.classLink RX2 9 RX1, Cond.instantiable RX1 5, Cond.initialized RX1, Cond.methodLink RX2 15 yX1_init, Cond.instanceMethod yX1_init, Cond.code yX1_init cX1_init 3 none, Cond.methodLink RX1 3 objectInit, Cond.instanceMethod objectInit, Cond.code objectInit ⟨#[0xb1]⟩ 1 none, Cond.methodLink RX1 9 Lib.Math.max.name, Cond.static Lib.Math.max.name, Cond.initialized "java/lang/Math", Cond.code Lib.Math.max.name Lib.Math.max.code 2 (some .int), Cond.arrayClass .int, Cond.fieldLink RX1 15 "TreePairs$Pairs" "firstDepth" "[I", Cond.arrayClass .long, Cond.fieldLink RX1 21 "TreePairs$Pairs" "firstPlace" "[J", Cond.fieldLink RX1 25 "TreePairs$Pairs" "secondDepth" "[I", Cond.fieldLink RX1 28 "TreePairs$Pairs" "secondPlace" "[J", Cond.methodLink RX2 58 yX2_putStrong, Cond.static yX2_putStrong, Cond.initialized RX2, Cond.code yX2_putStrong cX2_putStrong 5 none, Cond.fieldLink RX2 35 "TreePairs$Pairs" "size" "I"]
def wsX2_stepsOfLength_r2 : List Cond := [Cond.constantLong RX2 183 (2), Cond.constantLong RX2 185 (4), Cond.constantLong RX2 187 (3), Cond.methodLink RX2 39 yX1_add, Cond.instanceMethod yX1_add, Cond.selects RX1 yX1_add yX1_add, Cond.code yX1_add cX1_add 7 none, Cond.fieldLink RX1 31 "TreePairs$Pairs" "size" "I", Cond.methodLink RX2 47 yX2_putTurned, Cond.static yX2_putTurned, Cond.code yX2_putTurned cX2_putTurned 3 none, Cond.fieldLink RX2 114 "TreePairs$Pairs" "secondDepth" "[I", Cond.fieldLink RX2 121 "TreePairs$Pairs" "secondPlace" "[J", Cond.fieldLink RX2 111 "TreePairs$Pairs" "firstDepth" "[I", Cond.fieldLink RX2 117 "TreePairs$Pairs" "firstPlace" "[J", Cond.methodLink RX2 180 yX1_sinkLast, Cond.instanceMethod yX1_sinkLast, Cond.selects RX1 yX1_sinkLast yX1_sinkLast, Cond.code yX1_sinkLast cX1_sinkLast 2 none, Cond.methodLink RX1 45 yX1_firstStart, Cond.instanceMethod yX1_firstStart, Cond.selects RX1 yX1_firstStart yX1_firstStart, Cond.code yX1_firstStart cX1_firstStart 2 (some .long), Cond.static yX2_startOf]
def wsX2_stepsOfLength_r3 : List Cond := [Cond.code yX2_startOf cX2_startOf 3 (some .long), Cond.methodLink RX1 49 yX1_exchange, Cond.static yX1_exchange, Cond.code yX1_exchange cX1_exchange 3 none, Cond.methodLink RX1 53 yX1_exchange_, Cond.static yX1_exchange_, Cond.code yX1_exchange_ cX1_exchange_ 4 none]
def wsX2_stepsOfLength : List Cond := .code yX2_stepsOfLength cX2_stepsOfLength 2 (some (.array (.object "TreePairs$Pairs"))) :: ((wsX2_stepsOfLength_r1 ++ (wsX2_stepsOfLength_r2 ++ wsX2_stepsOfLength_r3)) ++ wsX10)
def wsX2_grownBall_r1 : List Cond := [Cond.classLink RX2 99 RX0, Cond.instantiable RX0 2, Cond.initialized RX0, Cond.fieldLink RX2 25 "TreePairs" "raised" "LTreePairs$Pairs;", Cond.fieldLink RX2 103 "TreePairs$Ball" "ends" "[I", Cond.fieldLink RX2 214 "TreePairs$Ball" "found" "Ljava/util/List;", Cond.classLink RX2 9 "TreePairs$Pairs", Cond.fieldLink RX2 22 "TreePairs" "made" "LTreePairs$Pairs;", Cond.methodLink RX2 205 yX0_init, Cond.instanceMethod yX0_init, Cond.code yX0_init cX0_init 1 none, Cond.methodLink RX0 3 objectInit, Cond.instanceMethod objectInit, Cond.code objectInit ⟨#[0xb1]⟩ 1 none, Cond.classLink RX0 9 RJx4a65c, Cond.instantiable RJx4a65c 3, Cond.initialized RJx4a65c, Cond.fieldLink RX0 12 "TreePairs$Ball" "found" "Ljava/util/List;", Cond.arrayClass .int, Cond.fieldLink RX0 18 "TreePairs$Ball" "ends" "[I", Cond.methodLink RX0 11 yJx4a65c_init_da8c8, Cond.instanceMethod yJx4a65c_init_da8c8, Cond.code yJx4a65c_init_da8c8 cJx4a65c_init_da8c8 1 none, Cond.fieldLink RJx4a65c 39 "java/util/ArrayList" "DEFAULTCAPACITY_EMPTY_ELEMENTDATA" "[Ljava/lang/Object;"]
def wsX2_grownBall_r2 : List Cond := [Cond.fieldLink RJx4a65c 9 "java/util/ArrayList" "elementData" "[Ljava/lang/Object;", Cond.methodLink RJx4a65c 1 yJxc12de_init_da8c8, Cond.instanceMethod yJxc12de_init_da8c8, Cond.initialized RJxc12de, Cond.code yJxc12de_init_da8c8 cJxc12de_init_da8c8 1 none, Cond.fieldLink RJxc12de 7 "java/util/AbstractList" "modCount" "I", Cond.methodLink RJxc12de 1 yJxa1e45_init_da8c8, Cond.instanceMethod yJxa1e45_init_da8c8, Cond.initialized RJxa1e45, Cond.code yJxa1e45_init_da8c8 cJxa1e45_init_da8c8 1 none, Cond.methodLink RJxa1e45 1 objectInit, Cond.methodLink RX2 206 yX2_stepsOfLength, Cond.static yX2_stepsOfLength, Cond.initialized RX2, Cond.code yX2_stepsOfLength cX2_stepsOfLength 2 (some (.array (.object "TreePairs$Pairs"))), Cond.classLink RX2 9 RX1, Cond.instantiable RX1 5, Cond.initialized RX1, Cond.methodLink RX2 15 yX1_init, Cond.instanceMethod yX1_init, Cond.code yX1_init cX1_init 3 none, Cond.methodLink RX1 3 objectInit, Cond.methodLink RX1 9 Lib.Math.max.name, Cond.static Lib.Math.max.name]
def wsX2_grownBall_r3 : List Cond := [Cond.initialized "java/lang/Math", Cond.code Lib.Math.max.name Lib.Math.max.code 2 (some .int), Cond.fieldLink RX1 15 "TreePairs$Pairs" "firstDepth" "[I", Cond.arrayClass .long, Cond.fieldLink RX1 21 "TreePairs$Pairs" "firstPlace" "[J", Cond.fieldLink RX1 25 "TreePairs$Pairs" "secondDepth" "[I", Cond.fieldLink RX1 28 "TreePairs$Pairs" "secondPlace" "[J", Cond.methodLink RX2 58 yX2_putStrong, Cond.static yX2_putStrong, Cond.code yX2_putStrong cX2_putStrong 5 none, Cond.fieldLink RX2 35 "TreePairs$Pairs" "size" "I", Cond.constantLong RX2 183 (2), Cond.constantLong RX2 185 (4), Cond.constantLong RX2 187 (3), Cond.methodLink RX2 39 yX1_add, Cond.instanceMethod yX1_add, Cond.selects RX1 yX1_add yX1_add, Cond.code yX1_add cX1_add 7 none, Cond.fieldLink RX1 31 "TreePairs$Pairs" "size" "I", Cond.methodLink RX2 47 yX2_putTurned, Cond.static yX2_putTurned, Cond.code yX2_putTurned cX2_putTurned 3 none, Cond.fieldLink RX2 114 "TreePairs$Pairs" "secondDepth" "[I", Cond.fieldLink RX2 121 "TreePairs$Pairs" "secondPlace" "[J"]
def wsX2_grownBall_r4 : List Cond := [Cond.fieldLink RX2 111 "TreePairs$Pairs" "firstDepth" "[I", Cond.fieldLink RX2 117 "TreePairs$Pairs" "firstPlace" "[J", Cond.methodLink RX2 180 yX1_sinkLast, Cond.instanceMethod yX1_sinkLast, Cond.selects RX1 yX1_sinkLast yX1_sinkLast, Cond.code yX1_sinkLast cX1_sinkLast 2 none, Cond.methodLink RX1 45 yX1_firstStart, Cond.instanceMethod yX1_firstStart, Cond.selects RX1 yX1_firstStart yX1_firstStart, Cond.code yX1_firstStart cX1_firstStart 2 (some .long), Cond.static yX2_startOf, Cond.code yX2_startOf cX2_startOf 3 (some .long), Cond.methodLink RX1 49 yX1_exchange, Cond.static yX1_exchange, Cond.code yX1_exchange cX1_exchange 3 none, Cond.methodLink RX1 53 yX1_exchange_, Cond.static yX1_exchange_, Cond.code yX1_exchange_ cX1_exchange_ 4 none, Cond.methodLink RX2 88 yX1_becomeNothing, Cond.instanceMethod yX1_becomeNothing, Cond.selects RX1 yX1_becomeNothing yX1_becomeNothing, Cond.code yX1_becomeNothing cX1_becomeNothing 1 none, Cond.methodLink RX1 35 yX1_add, Cond.methodLink RX2 210 yX0_addNew]
def wsX2_grownBall_r5 : List Cond := [Cond.instanceMethod yX0_addNew, Cond.selects RX0 yX0_addNew yX0_addNew, Cond.code yX0_addNew cX0_addNew 3 none, Cond.classLink RX0 26 RX1, Cond.fieldLink RX0 28 "TreePairs$Pairs" "size" "I", Cond.methodLink RX0 22 yX0_placeOf, Cond.instanceMethod yX0_placeOf, Cond.selects RX0 yX0_placeOf yX0_placeOf, Cond.code yX0_placeOf cX0_placeOf 3 (some .int), Cond.classLink RX0 26 "TreePairs$Pairs", Cond.methodLink RX0 45 ⟨"java/util/List", "size", "()I"⟩, Cond.selects RJx4a65c ⟨"java/util/List", "size", "()I"⟩ yJx4a65c_size_8abf5, Cond.instanceMethod yJx4a65c_size_8abf5, Cond.code yJx4a65c_size_8abf5 cJx4a65c_size_8abf5 1 (some .int), Cond.fieldLink RJx4a65c 48 "java/util/ArrayList" "size" "I", Cond.methodLink RX0 48 ⟨"java/util/List", "get", "(I)Ljava/lang/Object;"⟩, Cond.selects RJx4a65c ⟨"java/util/List", "get", "(I)Ljava/lang/Object;"⟩ yJx4a65c_get_915e3, Cond.instanceMethod yJx4a65c_get_915e3, Cond.code yJx4a65c_get_915e3 cJx4a65c_get_915e3 2 (some (.object "java/lang/Object")), Cond.methodLink RJx4a65c 118 yJ15_checkIndex_7cf53, Cond.static yJ15_checkIndex_7cf53, Cond.initialized RJ15, Cond.code yJ15_checkIndex_7cf53 cJ15_checkIndex_7cf53 2 (some .int), Cond.methodLink RJ15 105 yJ3_checkIndex_8e157]
def wsX2_grownBall_r6 : List Cond := [Cond.static yJ3_checkIndex_8e157, Cond.initialized RJ3, Cond.code yJ3_checkIndex_8e157 cJ3_checkIndex_8e157 3 (some .int), Cond.methodLink RJx4a65c 123 yJx4a65c_elementData_915e3, Cond.instanceMethod yJx4a65c_elementData_915e3, Cond.selects RJx4a65c yJx4a65c_elementData_915e3 yJx4a65c_elementData_915e3, Cond.code yJx4a65c_elementData_915e3 cJx4a65c_elementData_915e3 2 (some (.object "java/lang/Object")), Cond.static yX2_areAlike, Cond.code yX2_areAlike cX2_areAlike 4 (some .boolean), Cond.methodLink RX2 80 yX1_told, Cond.instanceMethod yX1_told, Cond.selects RX1 yX1_told yX1_told, Cond.code yX1_told cX1_told 3 (some .long), Cond.methodLink RX0 32 yX1_init, Cond.static yX2_putCopy, Cond.code yX2_putCopy cX2_putCopy 3 none, Cond.methodLink RX0 39 ⟨"java/util/List", "add", "(Ljava/lang/Object;)Z"⟩, Cond.selects RJx4a65c ⟨"java/util/List", "add", "(Ljava/lang/Object;)Z"⟩ yJx4a65c_add_9ea2d, Cond.instanceMethod yJx4a65c_add_9ea2d, Cond.code yJx4a65c_add_9ea2d cJx4a65c_add_9ea2d 2 (some .boolean), Cond.fieldLink RJx4a65c 63 "java/util/ArrayList" "modCount" "I", Cond.sameField "java/util/ArrayList" "java/util/AbstractList" "modCount" "I", Cond.methodLink RJx4a65c 131 yJx4a65c_add_72be8, Cond.instanceMethod yJx4a65c_add_72be8]
def wsX2_grownBall_r7 : List Cond := [Cond.selects RJx4a65c yJx4a65c_add_72be8 yJx4a65c_add_72be8, Cond.code yJx4a65c_add_72be8 cJx4a65c_add_72be8 4 none, Cond.methodLink RJx4a65c 129 yJx4a65c_grow_d5877, Cond.instanceMethod yJx4a65c_grow_d5877, Cond.selects RJx4a65c yJx4a65c_grow_d5877 yJx4a65c_grow_d5877, Cond.code yJx4a65c_grow_d5877 cJx4a65c_grow_d5877 1 (some (.array (.object "java/lang/Object"))), Cond.methodLink RJx4a65c 69 yJx4a65c_grow_92f84, Cond.instanceMethod yJx4a65c_grow_92f84, Cond.selects RJx4a65c yJx4a65c_grow_92f84 yJx4a65c_grow_92f84, Cond.code yJx4a65c_grow_92f84 cJx4a65c_grow_92f84 4 (some (.array (.object "java/lang/Object"))), Cond.methodLink RJx4a65c 79 Lib.Math.max.name, Cond.classLink RJx4a65c 7 "java/lang/Object", Cond.methodLink RJx4a65c 73 yJ8_newLength_cabcc, Cond.static yJ8_newLength_cabcc, Cond.initialized RJ8, Cond.code yJ8_newLength_cabcc cJ8_newLength_cabcc 4 (some .int), Cond.methodLink RJ8 194 Lib.Math.max.name, Cond.constant RJ8 200 (2147483639), Cond.methodLink RJ8 201 yJ8_hugeLength_7cf53, Cond.static yJ8_hugeLength_7cf53, Cond.code yJ8_hugeLength_7cf53 cJ8_hugeLength_7cf53 3 (some .int), Cond.methodLink RJx4a65c 66 yJ7_copyOf_1904c, Cond.static yJ7_copyOf_1904c, Cond.initialized RJ7]
def wsX2_grownBall_r8 : List Cond := [Cond.code yJ7_copyOf_1904c cJ7_copyOf_1904c 2 (some (.array (.object "java/lang/Object"))), Cond.methodLink RJ7 86 ⟨"java/lang/Object", "getClass", "()Ljava/lang/Class;"⟩, Cond.selects "[Ljava/lang/Object;" ⟨"java/lang/Object", "getClass", "()Ljava/lang/Class;"⟩ ⟨"java/lang/Object", "getClass", "()Ljava/lang/Class;"⟩, Cond.instanceMethod ⟨"java/lang/Object", "getClass", "()Ljava/lang/Class;"⟩, Cond.native ⟨"java/lang/Object", "getClass", "()Ljava/lang/Class;"⟩, Cond.methodLink RJ7 300 yJ7_copyOf_6403c, Cond.static yJ7_copyOf_6403c, Cond.code yJ7_copyOf_6403c cJ7_copyOf_6403c 4 (some (.array (.object "java/lang/Object"))), Cond.classLink RJ7 110 "[Ljava/lang/Object;", Cond.classLink RJ7 2 "java/lang/Object", Cond.methodLink RJ7 304 Lib.Math.min.name, Cond.static Lib.Math.min.name, Cond.code Lib.Math.min.name Lib.Math.min.code 2 (some .int), Cond.methodLink RJ7 150 arraycopyName, Cond.native arraycopyName, Cond.static arraycopyName, Cond.initialized "java/lang/System", Cond.methodLink RX2 218 ⟨"java/util/List", "get", "(I)Ljava/lang/Object;"⟩, Cond.methodLink RX2 65 yX2_putBehind, Cond.static yX2_putBehind, Cond.code yX2_putBehind cX2_putBehind 8 none, Cond.methodLink RX2 163 yX1_secondEnd, Cond.instanceMethod yX1_secondEnd, Cond.selects RX1 yX1_secondEnd yX1_secondEnd]
def wsX2_grownBall_r9 : List Cond := [Cond.code yX1_secondEnd cX1_secondEnd 2 (some .long), Cond.methodLink RX2 167 yX1_secondStart, Cond.instanceMethod yX1_secondStart, Cond.selects RX1 yX1_secondStart yX1_secondStart, Cond.code yX1_secondStart cX1_secondStart 2 (some .long), Cond.methodLink RX2 107 yX1_holderOf, Cond.instanceMethod yX1_holderOf, Cond.selects RX1 yX1_holderOf yX1_holderOf, Cond.code yX1_holderOf cX1_holderOf 5 (some .int), Cond.methodLink RX2 174 yX1_firstStart, Cond.methodLink RX2 189 yX2_putPiece, Cond.static yX2_putPiece, Cond.code yX2_putPiece cX2_putPiece 8 none, Cond.methodLink RX2 177 yX1_push, Cond.instanceMethod yX1_push, Cond.selects RX1 yX1_push yX1_push, Cond.code yX1_push cX1_push 7 none, Cond.constantLong RX1 43 (2), Cond.methodLink RX1 39 yX1_areLastHalves, Cond.instanceMethod yX1_areLastHalves, Cond.selects RX1 yX1_areLastHalves yX1_areLastHalves, Cond.code yX1_areLastHalves cX1_areLastHalves 3 (some .boolean), Cond.methodLink RX2 224 ⟨"java/util/List", "size", "()I"⟩]
def wsX2_grownBall : List Cond := .code yX2_grownBall cX2_grownBall 8 (some (.object "TreePairs$Ball")) :: ((wsX2_grownBall_r1 ++ (wsX2_grownBall_r2 ++ (wsX2_grownBall_r3 ++ (wsX2_grownBall_r4 ++ (wsX2_grownBall_r5 ++ (wsX2_grownBall_r6 ++ (wsX2_grownBall_r7 ++ (wsX2_grownBall_r8 ++ wsX2_grownBall_r9)))))))) ++ wsX00 ++ wsX20 ++ wsJx4a65c0 ++ wsX10)
def wsX2_nearOnes_r1 : List Cond := [Cond.fieldLink RX2 198 "TreePairs" "near" "LTreePairs$Ball;", Cond.methodLink RX2 202 yX2_grownBall, Cond.instanceMethod yX2_grownBall, Cond.selects RX2 yX2_grownBall yX2_grownBall, Cond.initialized RX2, Cond.code yX2_grownBall cX2_grownBall 8 (some (.object "TreePairs$Ball")), Cond.classLink RX2 99 RX0, Cond.instantiable RX0 2, Cond.initialized RX0, Cond.fieldLink RX2 25 "TreePairs" "raised" "LTreePairs$Pairs;", Cond.fieldLink RX2 103 "TreePairs$Ball" "ends" "[I", Cond.fieldLink RX2 214 "TreePairs$Ball" "found" "Ljava/util/List;", Cond.classLink RX2 9 "TreePairs$Pairs", Cond.fieldLink RX2 22 "TreePairs" "made" "LTreePairs$Pairs;", Cond.methodLink RX2 205 yX0_init, Cond.instanceMethod yX0_init, Cond.code yX0_init cX0_init 1 none, Cond.methodLink RX0 3 objectInit, Cond.instanceMethod objectInit, Cond.code objectInit ⟨#[0xb1]⟩ 1 none, Cond.classLink RX0 9 RJx4a65c, Cond.instantiable RJx4a65c 3, Cond.initialized RJx4a65c, Cond.fieldLink RX0 12 "TreePairs$Ball" "found" "Ljava/util/List;"]
def wsX2_nearOnes_r2 : List Cond := [Cond.arrayClass .int, Cond.fieldLink RX0 18 "TreePairs$Ball" "ends" "[I", Cond.methodLink RX0 11 yJx4a65c_init_da8c8, Cond.instanceMethod yJx4a65c_init_da8c8, Cond.code yJx4a65c_init_da8c8 cJx4a65c_init_da8c8 1 none, Cond.fieldLink RJx4a65c 39 "java/util/ArrayList" "DEFAULTCAPACITY_EMPTY_ELEMENTDATA" "[Ljava/lang/Object;", Cond.fieldLink RJx4a65c 9 "java/util/ArrayList" "elementData" "[Ljava/lang/Object;", Cond.methodLink RJx4a65c 1 yJxc12de_init_da8c8, Cond.instanceMethod yJxc12de_init_da8c8, Cond.initialized RJxc12de, Cond.code yJxc12de_init_da8c8 cJxc12de_init_da8c8 1 none, Cond.fieldLink RJxc12de 7 "java/util/AbstractList" "modCount" "I", Cond.methodLink RJxc12de 1 yJxa1e45_init_da8c8, Cond.instanceMethod yJxa1e45_init_da8c8, Cond.initialized RJxa1e45, Cond.code yJxa1e45_init_da8c8 cJxa1e45_init_da8c8 1 none, Cond.methodLink RJxa1e45 1 objectInit, Cond.methodLink RX2 206 yX2_stepsOfLength, Cond.static yX2_stepsOfLength, Cond.code yX2_stepsOfLength cX2_stepsOfLength 2 (some (.array (.object "TreePairs$Pairs"))), Cond.classLink RX2 9 RX1, Cond.instantiable RX1 5, Cond.initialized RX1, Cond.methodLink RX2 15 yX1_init]
def wsX2_nearOnes_r3 : List Cond := [Cond.instanceMethod yX1_init, Cond.code yX1_init cX1_init 3 none, Cond.methodLink RX1 3 objectInit, Cond.methodLink RX1 9 Lib.Math.max.name, Cond.static Lib.Math.max.name, Cond.initialized "java/lang/Math", Cond.code Lib.Math.max.name Lib.Math.max.code 2 (some .int), Cond.fieldLink RX1 15 "TreePairs$Pairs" "firstDepth" "[I", Cond.arrayClass .long, Cond.fieldLink RX1 21 "TreePairs$Pairs" "firstPlace" "[J", Cond.fieldLink RX1 25 "TreePairs$Pairs" "secondDepth" "[I", Cond.fieldLink RX1 28 "TreePairs$Pairs" "secondPlace" "[J", Cond.methodLink RX2 58 yX2_putStrong, Cond.static yX2_putStrong, Cond.code yX2_putStrong cX2_putStrong 5 none, Cond.fieldLink RX2 35 "TreePairs$Pairs" "size" "I", Cond.constantLong RX2 183 (2), Cond.constantLong RX2 185 (4), Cond.constantLong RX2 187 (3), Cond.methodLink RX2 39 yX1_add, Cond.instanceMethod yX1_add, Cond.selects RX1 yX1_add yX1_add, Cond.code yX1_add cX1_add 7 none, Cond.fieldLink RX1 31 "TreePairs$Pairs" "size" "I"]
def wsX2_nearOnes_r4 : List Cond := [Cond.methodLink RX2 47 yX2_putTurned, Cond.static yX2_putTurned, Cond.code yX2_putTurned cX2_putTurned 3 none, Cond.fieldLink RX2 114 "TreePairs$Pairs" "secondDepth" "[I", Cond.fieldLink RX2 121 "TreePairs$Pairs" "secondPlace" "[J", Cond.fieldLink RX2 111 "TreePairs$Pairs" "firstDepth" "[I", Cond.fieldLink RX2 117 "TreePairs$Pairs" "firstPlace" "[J", Cond.methodLink RX2 180 yX1_sinkLast, Cond.instanceMethod yX1_sinkLast, Cond.selects RX1 yX1_sinkLast yX1_sinkLast, Cond.code yX1_sinkLast cX1_sinkLast 2 none, Cond.methodLink RX1 45 yX1_firstStart, Cond.instanceMethod yX1_firstStart, Cond.selects RX1 yX1_firstStart yX1_firstStart, Cond.code yX1_firstStart cX1_firstStart 2 (some .long), Cond.static yX2_startOf, Cond.code yX2_startOf cX2_startOf 3 (some .long), Cond.methodLink RX1 49 yX1_exchange, Cond.static yX1_exchange, Cond.code yX1_exchange cX1_exchange 3 none, Cond.methodLink RX1 53 yX1_exchange_, Cond.static yX1_exchange_, Cond.code yX1_exchange_ cX1_exchange_ 4 none, Cond.methodLink RX2 88 yX1_becomeNothing]
def wsX2_nearOnes_r5 : List Cond := [Cond.instanceMethod yX1_becomeNothing, Cond.selects RX1 yX1_becomeNothing yX1_becomeNothing, Cond.code yX1_becomeNothing cX1_becomeNothing 1 none, Cond.methodLink RX1 35 yX1_add, Cond.methodLink RX2 210 yX0_addNew, Cond.instanceMethod yX0_addNew, Cond.selects RX0 yX0_addNew yX0_addNew, Cond.code yX0_addNew cX0_addNew 3 none, Cond.classLink RX0 26 RX1, Cond.fieldLink RX0 28 "TreePairs$Pairs" "size" "I", Cond.methodLink RX0 22 yX0_placeOf, Cond.instanceMethod yX0_placeOf, Cond.selects RX0 yX0_placeOf yX0_placeOf, Cond.code yX0_placeOf cX0_placeOf 3 (some .int), Cond.classLink RX0 26 "TreePairs$Pairs", Cond.methodLink RX0 45 ⟨"java/util/List", "size", "()I"⟩, Cond.selects RJx4a65c ⟨"java/util/List", "size", "()I"⟩ yJx4a65c_size_8abf5, Cond.instanceMethod yJx4a65c_size_8abf5, Cond.code yJx4a65c_size_8abf5 cJx4a65c_size_8abf5 1 (some .int), Cond.fieldLink RJx4a65c 48 "java/util/ArrayList" "size" "I", Cond.methodLink RX0 48 ⟨"java/util/List", "get", "(I)Ljava/lang/Object;"⟩, Cond.selects RJx4a65c ⟨"java/util/List", "get", "(I)Ljava/lang/Object;"⟩ yJx4a65c_get_915e3, Cond.instanceMethod yJx4a65c_get_915e3, Cond.code yJx4a65c_get_915e3 cJx4a65c_get_915e3 2 (some (.object "java/lang/Object"))]
def wsX2_nearOnes_r6 : List Cond := [Cond.methodLink RJx4a65c 118 yJ15_checkIndex_7cf53, Cond.static yJ15_checkIndex_7cf53, Cond.initialized RJ15, Cond.code yJ15_checkIndex_7cf53 cJ15_checkIndex_7cf53 2 (some .int), Cond.methodLink RJ15 105 yJ3_checkIndex_8e157, Cond.static yJ3_checkIndex_8e157, Cond.initialized RJ3, Cond.code yJ3_checkIndex_8e157 cJ3_checkIndex_8e157 3 (some .int), Cond.methodLink RJx4a65c 123 yJx4a65c_elementData_915e3, Cond.instanceMethod yJx4a65c_elementData_915e3, Cond.selects RJx4a65c yJx4a65c_elementData_915e3 yJx4a65c_elementData_915e3, Cond.code yJx4a65c_elementData_915e3 cJx4a65c_elementData_915e3 2 (some (.object "java/lang/Object")), Cond.static yX2_areAlike, Cond.code yX2_areAlike cX2_areAlike 4 (some .boolean), Cond.methodLink RX2 80 yX1_told, Cond.instanceMethod yX1_told, Cond.selects RX1 yX1_told yX1_told, Cond.code yX1_told cX1_told 3 (some .long), Cond.methodLink RX0 32 yX1_init, Cond.static yX2_putCopy, Cond.code yX2_putCopy cX2_putCopy 3 none, Cond.methodLink RX0 39 ⟨"java/util/List", "add", "(Ljava/lang/Object;)Z"⟩, Cond.selects RJx4a65c ⟨"java/util/List", "add", "(Ljava/lang/Object;)Z"⟩ yJx4a65c_add_9ea2d, Cond.instanceMethod yJx4a65c_add_9ea2d]
def wsX2_nearOnes_r7 : List Cond := [Cond.code yJx4a65c_add_9ea2d cJx4a65c_add_9ea2d 2 (some .boolean), Cond.fieldLink RJx4a65c 63 "java/util/ArrayList" "modCount" "I", Cond.sameField "java/util/ArrayList" "java/util/AbstractList" "modCount" "I", Cond.methodLink RJx4a65c 131 yJx4a65c_add_72be8, Cond.instanceMethod yJx4a65c_add_72be8, Cond.selects RJx4a65c yJx4a65c_add_72be8 yJx4a65c_add_72be8, Cond.code yJx4a65c_add_72be8 cJx4a65c_add_72be8 4 none, Cond.methodLink RJx4a65c 129 yJx4a65c_grow_d5877, Cond.instanceMethod yJx4a65c_grow_d5877, Cond.selects RJx4a65c yJx4a65c_grow_d5877 yJx4a65c_grow_d5877, Cond.code yJx4a65c_grow_d5877 cJx4a65c_grow_d5877 1 (some (.array (.object "java/lang/Object"))), Cond.methodLink RJx4a65c 69 yJx4a65c_grow_92f84, Cond.instanceMethod yJx4a65c_grow_92f84, Cond.selects RJx4a65c yJx4a65c_grow_92f84 yJx4a65c_grow_92f84, Cond.code yJx4a65c_grow_92f84 cJx4a65c_grow_92f84 4 (some (.array (.object "java/lang/Object"))), Cond.methodLink RJx4a65c 79 Lib.Math.max.name, Cond.classLink RJx4a65c 7 "java/lang/Object", Cond.methodLink RJx4a65c 73 yJ8_newLength_cabcc, Cond.static yJ8_newLength_cabcc, Cond.initialized RJ8, Cond.code yJ8_newLength_cabcc cJ8_newLength_cabcc 4 (some .int), Cond.methodLink RJ8 194 Lib.Math.max.name, Cond.constant RJ8 200 (2147483639), Cond.methodLink RJ8 201 yJ8_hugeLength_7cf53]
def wsX2_nearOnes_r8 : List Cond := [Cond.static yJ8_hugeLength_7cf53, Cond.code yJ8_hugeLength_7cf53 cJ8_hugeLength_7cf53 3 (some .int), Cond.methodLink RJx4a65c 66 yJ7_copyOf_1904c, Cond.static yJ7_copyOf_1904c, Cond.initialized RJ7, Cond.code yJ7_copyOf_1904c cJ7_copyOf_1904c 2 (some (.array (.object "java/lang/Object"))), Cond.methodLink RJ7 86 ⟨"java/lang/Object", "getClass", "()Ljava/lang/Class;"⟩, Cond.selects "[Ljava/lang/Object;" ⟨"java/lang/Object", "getClass", "()Ljava/lang/Class;"⟩ ⟨"java/lang/Object", "getClass", "()Ljava/lang/Class;"⟩, Cond.instanceMethod ⟨"java/lang/Object", "getClass", "()Ljava/lang/Class;"⟩, Cond.native ⟨"java/lang/Object", "getClass", "()Ljava/lang/Class;"⟩, Cond.methodLink RJ7 300 yJ7_copyOf_6403c, Cond.static yJ7_copyOf_6403c, Cond.code yJ7_copyOf_6403c cJ7_copyOf_6403c 4 (some (.array (.object "java/lang/Object"))), Cond.classLink RJ7 110 "[Ljava/lang/Object;", Cond.classLink RJ7 2 "java/lang/Object", Cond.methodLink RJ7 304 Lib.Math.min.name, Cond.static Lib.Math.min.name, Cond.code Lib.Math.min.name Lib.Math.min.code 2 (some .int), Cond.methodLink RJ7 150 arraycopyName, Cond.native arraycopyName, Cond.static arraycopyName, Cond.initialized "java/lang/System", Cond.methodLink RX2 218 ⟨"java/util/List", "get", "(I)Ljava/lang/Object;"⟩, Cond.methodLink RX2 65 yX2_putBehind]
def wsX2_nearOnes_r9 : List Cond := [Cond.static yX2_putBehind, Cond.code yX2_putBehind cX2_putBehind 8 none, Cond.methodLink RX2 163 yX1_secondEnd, Cond.instanceMethod yX1_secondEnd, Cond.selects RX1 yX1_secondEnd yX1_secondEnd, Cond.code yX1_secondEnd cX1_secondEnd 2 (some .long), Cond.methodLink RX2 167 yX1_secondStart, Cond.instanceMethod yX1_secondStart, Cond.selects RX1 yX1_secondStart yX1_secondStart, Cond.code yX1_secondStart cX1_secondStart 2 (some .long), Cond.methodLink RX2 107 yX1_holderOf, Cond.instanceMethod yX1_holderOf, Cond.selects RX1 yX1_holderOf yX1_holderOf, Cond.code yX1_holderOf cX1_holderOf 5 (some .int), Cond.methodLink RX2 174 yX1_firstStart, Cond.methodLink RX2 189 yX2_putPiece, Cond.static yX2_putPiece, Cond.code yX2_putPiece cX2_putPiece 8 none, Cond.methodLink RX2 177 yX1_push, Cond.instanceMethod yX1_push, Cond.selects RX1 yX1_push yX1_push, Cond.code yX1_push cX1_push 7 none, Cond.constantLong RX1 43 (2), Cond.methodLink RX1 39 yX1_areLastHalves]
def wsX2_nearOnes_r10 : List Cond := [Cond.instanceMethod yX1_areLastHalves, Cond.selects RX1 yX1_areLastHalves yX1_areLastHalves, Cond.code yX1_areLastHalves cX1_areLastHalves 3 (some .boolean), Cond.methodLink RX2 224 ⟨"java/util/List", "size", "()I"⟩]
def wsX2_nearOnes : List Cond := .code yX2_nearOnes cX2_nearOnes 1 (some (.object "TreePairs$Ball")) :: ((wsX2_nearOnes_r1 ++ (wsX2_nearOnes_r2 ++ (wsX2_nearOnes_r3 ++ (wsX2_nearOnes_r4 ++ (wsX2_nearOnes_r5 ++ (wsX2_nearOnes_r6 ++ (wsX2_nearOnes_r7 ++ (wsX2_nearOnes_r8 ++ (wsX2_nearOnes_r9 ++ wsX2_nearOnes_r10))))))))) ++ wsX20 ++ wsX00 ++ wsJx4a65c0 ++ wsX10)
def wsX2_length_r1 : List Cond := [Cond.fieldLink RX2 11 "TreePairs" "maps" "[LTreePairs$Pairs;", Cond.fieldLink RX2 103 "TreePairs$Ball" "ends" "[I", Cond.methodLink RX2 62 yX2_isThere, Cond.instanceMethod yX2_isThere, Cond.selects RX2 yX2_isThere yX2_isThere, Cond.initialized RX2, Cond.code yX2_isThere cX2_isThere 2 (some .boolean), Cond.fieldLink RX2 35 "TreePairs$Pairs" "size" "I", Cond.methodLink RX2 43 yX2_isNumber, Cond.static yX2_isNumber, Cond.code yX2_isNumber cX2_isNumber 1 (some .boolean), Cond.methodLink RX2 94 yX2_nearOnes, Cond.instanceMethod yX2_nearOnes, Cond.selects RX2 yX2_nearOnes yX2_nearOnes, Cond.code yX2_nearOnes cX2_nearOnes 1 (some (.object "TreePairs$Ball")), Cond.fieldLink RX2 198 "TreePairs" "near" "LTreePairs$Ball;", Cond.methodLink RX2 202 yX2_grownBall, Cond.instanceMethod yX2_grownBall, Cond.selects RX2 yX2_grownBall yX2_grownBall, Cond.code yX2_grownBall cX2_grownBall 8 (some (.object "TreePairs$Ball")), Cond.classLink RX2 99 RX0, Cond.instantiable RX0 2, Cond.initialized RX0, Cond.fieldLink RX2 25 "TreePairs" "raised" "LTreePairs$Pairs;"]
def wsX2_length_r2 : List Cond := [Cond.fieldLink RX2 214 "TreePairs$Ball" "found" "Ljava/util/List;", Cond.classLink RX2 9 "TreePairs$Pairs", Cond.fieldLink RX2 22 "TreePairs" "made" "LTreePairs$Pairs;", Cond.methodLink RX2 205 yX0_init, Cond.instanceMethod yX0_init, Cond.code yX0_init cX0_init 1 none, Cond.methodLink RX0 3 objectInit, Cond.instanceMethod objectInit, Cond.code objectInit ⟨#[0xb1]⟩ 1 none, Cond.classLink RX0 9 RJx4a65c, Cond.instantiable RJx4a65c 3, Cond.initialized RJx4a65c, Cond.fieldLink RX0 12 "TreePairs$Ball" "found" "Ljava/util/List;", Cond.arrayClass .int, Cond.fieldLink RX0 18 "TreePairs$Ball" "ends" "[I", Cond.methodLink RX0 11 yJx4a65c_init_da8c8, Cond.instanceMethod yJx4a65c_init_da8c8, Cond.code yJx4a65c_init_da8c8 cJx4a65c_init_da8c8 1 none, Cond.fieldLink RJx4a65c 39 "java/util/ArrayList" "DEFAULTCAPACITY_EMPTY_ELEMENTDATA" "[Ljava/lang/Object;", Cond.fieldLink RJx4a65c 9 "java/util/ArrayList" "elementData" "[Ljava/lang/Object;", Cond.methodLink RJx4a65c 1 yJxc12de_init_da8c8, Cond.instanceMethod yJxc12de_init_da8c8, Cond.initialized RJxc12de, Cond.code yJxc12de_init_da8c8 cJxc12de_init_da8c8 1 none]
def wsX2_length_r3 : List Cond := [Cond.fieldLink RJxc12de 7 "java/util/AbstractList" "modCount" "I", Cond.methodLink RJxc12de 1 yJxa1e45_init_da8c8, Cond.instanceMethod yJxa1e45_init_da8c8, Cond.initialized RJxa1e45, Cond.code yJxa1e45_init_da8c8 cJxa1e45_init_da8c8 1 none, Cond.methodLink RJxa1e45 1 objectInit, Cond.methodLink RX2 206 yX2_stepsOfLength, Cond.static yX2_stepsOfLength, Cond.code yX2_stepsOfLength cX2_stepsOfLength 2 (some (.array (.object "TreePairs$Pairs"))), Cond.classLink RX2 9 RX1, Cond.instantiable RX1 5, Cond.initialized RX1, Cond.methodLink RX2 15 yX1_init, Cond.instanceMethod yX1_init, Cond.code yX1_init cX1_init 3 none, Cond.methodLink RX1 3 objectInit, Cond.methodLink RX1 9 Lib.Math.max.name, Cond.static Lib.Math.max.name, Cond.initialized "java/lang/Math", Cond.code Lib.Math.max.name Lib.Math.max.code 2 (some .int), Cond.fieldLink RX1 15 "TreePairs$Pairs" "firstDepth" "[I", Cond.arrayClass .long, Cond.fieldLink RX1 21 "TreePairs$Pairs" "firstPlace" "[J", Cond.fieldLink RX1 25 "TreePairs$Pairs" "secondDepth" "[I"]
def wsX2_length_r4 : List Cond := [Cond.fieldLink RX1 28 "TreePairs$Pairs" "secondPlace" "[J", Cond.methodLink RX2 58 yX2_putStrong, Cond.static yX2_putStrong, Cond.code yX2_putStrong cX2_putStrong 5 none, Cond.constantLong RX2 183 (2), Cond.constantLong RX2 185 (4), Cond.constantLong RX2 187 (3), Cond.methodLink RX2 39 yX1_add, Cond.instanceMethod yX1_add, Cond.selects RX1 yX1_add yX1_add, Cond.code yX1_add cX1_add 7 none, Cond.fieldLink RX1 31 "TreePairs$Pairs" "size" "I", Cond.methodLink RX2 47 yX2_putTurned, Cond.static yX2_putTurned, Cond.code yX2_putTurned cX2_putTurned 3 none, Cond.fieldLink RX2 114 "TreePairs$Pairs" "secondDepth" "[I", Cond.fieldLink RX2 121 "TreePairs$Pairs" "secondPlace" "[J", Cond.fieldLink RX2 111 "TreePairs$Pairs" "firstDepth" "[I", Cond.fieldLink RX2 117 "TreePairs$Pairs" "firstPlace" "[J", Cond.methodLink RX2 180 yX1_sinkLast, Cond.instanceMethod yX1_sinkLast, Cond.selects RX1 yX1_sinkLast yX1_sinkLast, Cond.code yX1_sinkLast cX1_sinkLast 2 none, Cond.methodLink RX1 45 yX1_firstStart]
def wsX2_length_r5 : List Cond := [Cond.instanceMethod yX1_firstStart, Cond.selects RX1 yX1_firstStart yX1_firstStart, Cond.code yX1_firstStart cX1_firstStart 2 (some .long), Cond.static yX2_startOf, Cond.code yX2_startOf cX2_startOf 3 (some .long), Cond.methodLink RX1 49 yX1_exchange, Cond.static yX1_exchange, Cond.code yX1_exchange cX1_exchange 3 none, Cond.methodLink RX1 53 yX1_exchange_, Cond.static yX1_exchange_, Cond.code yX1_exchange_ cX1_exchange_ 4 none, Cond.methodLink RX2 88 yX1_becomeNothing, Cond.instanceMethod yX1_becomeNothing, Cond.selects RX1 yX1_becomeNothing yX1_becomeNothing, Cond.code yX1_becomeNothing cX1_becomeNothing 1 none, Cond.methodLink RX1 35 yX1_add, Cond.methodLink RX2 210 yX0_addNew, Cond.instanceMethod yX0_addNew, Cond.selects RX0 yX0_addNew yX0_addNew, Cond.code yX0_addNew cX0_addNew 3 none, Cond.classLink RX0 26 RX1, Cond.fieldLink RX0 28 "TreePairs$Pairs" "size" "I", Cond.methodLink RX0 22 yX0_placeOf, Cond.instanceMethod yX0_placeOf]
def wsX2_length_r6 : List Cond := [Cond.selects RX0 yX0_placeOf yX0_placeOf, Cond.code yX0_placeOf cX0_placeOf 3 (some .int), Cond.classLink RX0 26 "TreePairs$Pairs", Cond.methodLink RX0 45 ⟨"java/util/List", "size", "()I"⟩, Cond.selects RJx4a65c ⟨"java/util/List", "size", "()I"⟩ yJx4a65c_size_8abf5, Cond.instanceMethod yJx4a65c_size_8abf5, Cond.code yJx4a65c_size_8abf5 cJx4a65c_size_8abf5 1 (some .int), Cond.fieldLink RJx4a65c 48 "java/util/ArrayList" "size" "I", Cond.methodLink RX0 48 ⟨"java/util/List", "get", "(I)Ljava/lang/Object;"⟩, Cond.selects RJx4a65c ⟨"java/util/List", "get", "(I)Ljava/lang/Object;"⟩ yJx4a65c_get_915e3, Cond.instanceMethod yJx4a65c_get_915e3, Cond.code yJx4a65c_get_915e3 cJx4a65c_get_915e3 2 (some (.object "java/lang/Object")), Cond.methodLink RJx4a65c 118 yJ15_checkIndex_7cf53, Cond.static yJ15_checkIndex_7cf53, Cond.initialized RJ15, Cond.code yJ15_checkIndex_7cf53 cJ15_checkIndex_7cf53 2 (some .int), Cond.methodLink RJ15 105 yJ3_checkIndex_8e157, Cond.static yJ3_checkIndex_8e157, Cond.initialized RJ3, Cond.code yJ3_checkIndex_8e157 cJ3_checkIndex_8e157 3 (some .int), Cond.methodLink RJx4a65c 123 yJx4a65c_elementData_915e3, Cond.instanceMethod yJx4a65c_elementData_915e3, Cond.selects RJx4a65c yJx4a65c_elementData_915e3 yJx4a65c_elementData_915e3, Cond.code yJx4a65c_elementData_915e3 cJx4a65c_elementData_915e3 2 (some (.object "java/lang/Object"))]
def wsX2_length_r7 : List Cond := [Cond.static yX2_areAlike, Cond.code yX2_areAlike cX2_areAlike 4 (some .boolean), Cond.methodLink RX2 80 yX1_told, Cond.instanceMethod yX1_told, Cond.selects RX1 yX1_told yX1_told, Cond.code yX1_told cX1_told 3 (some .long), Cond.methodLink RX0 32 yX1_init, Cond.static yX2_putCopy, Cond.code yX2_putCopy cX2_putCopy 3 none, Cond.methodLink RX0 39 ⟨"java/util/List", "add", "(Ljava/lang/Object;)Z"⟩, Cond.selects RJx4a65c ⟨"java/util/List", "add", "(Ljava/lang/Object;)Z"⟩ yJx4a65c_add_9ea2d, Cond.instanceMethod yJx4a65c_add_9ea2d, Cond.code yJx4a65c_add_9ea2d cJx4a65c_add_9ea2d 2 (some .boolean), Cond.fieldLink RJx4a65c 63 "java/util/ArrayList" "modCount" "I", Cond.sameField "java/util/ArrayList" "java/util/AbstractList" "modCount" "I", Cond.methodLink RJx4a65c 131 yJx4a65c_add_72be8, Cond.instanceMethod yJx4a65c_add_72be8, Cond.selects RJx4a65c yJx4a65c_add_72be8 yJx4a65c_add_72be8, Cond.code yJx4a65c_add_72be8 cJx4a65c_add_72be8 4 none, Cond.methodLink RJx4a65c 129 yJx4a65c_grow_d5877, Cond.instanceMethod yJx4a65c_grow_d5877, Cond.selects RJx4a65c yJx4a65c_grow_d5877 yJx4a65c_grow_d5877, Cond.code yJx4a65c_grow_d5877 cJx4a65c_grow_d5877 1 (some (.array (.object "java/lang/Object"))), Cond.methodLink RJx4a65c 69 yJx4a65c_grow_92f84]
def wsX2_length_r8 : List Cond := [Cond.instanceMethod yJx4a65c_grow_92f84, Cond.selects RJx4a65c yJx4a65c_grow_92f84 yJx4a65c_grow_92f84, Cond.code yJx4a65c_grow_92f84 cJx4a65c_grow_92f84 4 (some (.array (.object "java/lang/Object"))), Cond.methodLink RJx4a65c 79 Lib.Math.max.name, Cond.classLink RJx4a65c 7 "java/lang/Object", Cond.methodLink RJx4a65c 73 yJ8_newLength_cabcc, Cond.static yJ8_newLength_cabcc, Cond.initialized RJ8, Cond.code yJ8_newLength_cabcc cJ8_newLength_cabcc 4 (some .int), Cond.methodLink RJ8 194 Lib.Math.max.name, Cond.constant RJ8 200 (2147483639), Cond.methodLink RJ8 201 yJ8_hugeLength_7cf53, Cond.static yJ8_hugeLength_7cf53, Cond.code yJ8_hugeLength_7cf53 cJ8_hugeLength_7cf53 3 (some .int), Cond.methodLink RJx4a65c 66 yJ7_copyOf_1904c, Cond.static yJ7_copyOf_1904c, Cond.initialized RJ7, Cond.code yJ7_copyOf_1904c cJ7_copyOf_1904c 2 (some (.array (.object "java/lang/Object"))), Cond.methodLink RJ7 86 ⟨"java/lang/Object", "getClass", "()Ljava/lang/Class;"⟩, Cond.selects "[Ljava/lang/Object;" ⟨"java/lang/Object", "getClass", "()Ljava/lang/Class;"⟩ ⟨"java/lang/Object", "getClass", "()Ljava/lang/Class;"⟩, Cond.instanceMethod ⟨"java/lang/Object", "getClass", "()Ljava/lang/Class;"⟩, Cond.native ⟨"java/lang/Object", "getClass", "()Ljava/lang/Class;"⟩, Cond.methodLink RJ7 300 yJ7_copyOf_6403c, Cond.static yJ7_copyOf_6403c]
def wsX2_length_r9 : List Cond := [Cond.code yJ7_copyOf_6403c cJ7_copyOf_6403c 4 (some (.array (.object "java/lang/Object"))), Cond.classLink RJ7 110 "[Ljava/lang/Object;", Cond.classLink RJ7 2 "java/lang/Object", Cond.methodLink RJ7 304 Lib.Math.min.name, Cond.static Lib.Math.min.name, Cond.code Lib.Math.min.name Lib.Math.min.code 2 (some .int), Cond.methodLink RJ7 150 arraycopyName, Cond.native arraycopyName, Cond.static arraycopyName, Cond.initialized "java/lang/System", Cond.methodLink RX2 218 ⟨"java/util/List", "get", "(I)Ljava/lang/Object;"⟩, Cond.methodLink RX2 65 yX2_putBehind, Cond.static yX2_putBehind, Cond.code yX2_putBehind cX2_putBehind 8 none, Cond.methodLink RX2 163 yX1_secondEnd, Cond.instanceMethod yX1_secondEnd, Cond.selects RX1 yX1_secondEnd yX1_secondEnd, Cond.code yX1_secondEnd cX1_secondEnd 2 (some .long), Cond.methodLink RX2 167 yX1_secondStart, Cond.instanceMethod yX1_secondStart, Cond.selects RX1 yX1_secondStart yX1_secondStart, Cond.code yX1_secondStart cX1_secondStart 2 (some .long), Cond.methodLink RX2 107 yX1_holderOf, Cond.instanceMethod yX1_holderOf]
def wsX2_length_r10 : List Cond := [Cond.selects RX1 yX1_holderOf yX1_holderOf, Cond.code yX1_holderOf cX1_holderOf 5 (some .int), Cond.methodLink RX2 174 yX1_firstStart, Cond.methodLink RX2 189 yX2_putPiece, Cond.static yX2_putPiece, Cond.code yX2_putPiece cX2_putPiece 8 none, Cond.methodLink RX2 177 yX1_push, Cond.instanceMethod yX1_push, Cond.selects RX1 yX1_push yX1_push, Cond.code yX1_push cX1_push 7 none, Cond.constantLong RX1 43 (2), Cond.methodLink RX1 39 yX1_areLastHalves, Cond.instanceMethod yX1_areLastHalves, Cond.selects RX1 yX1_areLastHalves yX1_areLastHalves, Cond.code yX1_areLastHalves cX1_areLastHalves 3 (some .boolean), Cond.methodLink RX2 224 ⟨"java/util/List", "size", "()I"⟩, Cond.methodLink RX2 98 yX0_placeOf]
def wsX2_length : List Cond := .code yX2_length cX2_length 5 (some .int) :: ((wsX2_length_r1 ++ (wsX2_length_r2 ++ (wsX2_length_r3 ++ (wsX2_length_r4 ++ (wsX2_length_r5 ++ (wsX2_length_r6 ++ (wsX2_length_r7 ++ (wsX2_length_r8 ++ (wsX2_length_r9 ++ wsX2_length_r10))))))))) ++ wsX20 ++ wsX00 ++ wsX10 ++ wsJx4a65c0)
def wsX2_ball_r1 : List Cond := [Cond.fieldLink RX2 103 "TreePairs$Ball" "ends" "[I", Cond.methodLink RX2 94 yX2_nearOnes, Cond.instanceMethod yX2_nearOnes, Cond.selects RX2 yX2_nearOnes yX2_nearOnes, Cond.initialized RX2, Cond.code yX2_nearOnes cX2_nearOnes 1 (some (.object "TreePairs$Ball")), Cond.fieldLink RX2 198 "TreePairs" "near" "LTreePairs$Ball;", Cond.methodLink RX2 202 yX2_grownBall, Cond.instanceMethod yX2_grownBall, Cond.selects RX2 yX2_grownBall yX2_grownBall, Cond.code yX2_grownBall cX2_grownBall 8 (some (.object "TreePairs$Ball")), Cond.classLink RX2 99 RX0, Cond.instantiable RX0 2, Cond.initialized RX0, Cond.fieldLink RX2 25 "TreePairs" "raised" "LTreePairs$Pairs;", Cond.fieldLink RX2 214 "TreePairs$Ball" "found" "Ljava/util/List;", Cond.classLink RX2 9 "TreePairs$Pairs", Cond.fieldLink RX2 22 "TreePairs" "made" "LTreePairs$Pairs;", Cond.methodLink RX2 205 yX0_init, Cond.instanceMethod yX0_init, Cond.code yX0_init cX0_init 1 none, Cond.methodLink RX0 3 objectInit, Cond.instanceMethod objectInit, Cond.code objectInit ⟨#[0xb1]⟩ 1 none]
def wsX2_ball_r2 : List Cond := [Cond.classLink RX0 9 RJx4a65c, Cond.instantiable RJx4a65c 3, Cond.initialized RJx4a65c, Cond.fieldLink RX0 12 "TreePairs$Ball" "found" "Ljava/util/List;", Cond.arrayClass .int, Cond.fieldLink RX0 18 "TreePairs$Ball" "ends" "[I", Cond.methodLink RX0 11 yJx4a65c_init_da8c8, Cond.instanceMethod yJx4a65c_init_da8c8, Cond.code yJx4a65c_init_da8c8 cJx4a65c_init_da8c8 1 none, Cond.fieldLink RJx4a65c 39 "java/util/ArrayList" "DEFAULTCAPACITY_EMPTY_ELEMENTDATA" "[Ljava/lang/Object;", Cond.fieldLink RJx4a65c 9 "java/util/ArrayList" "elementData" "[Ljava/lang/Object;", Cond.methodLink RJx4a65c 1 yJxc12de_init_da8c8, Cond.instanceMethod yJxc12de_init_da8c8, Cond.initialized RJxc12de, Cond.code yJxc12de_init_da8c8 cJxc12de_init_da8c8 1 none, Cond.fieldLink RJxc12de 7 "java/util/AbstractList" "modCount" "I", Cond.methodLink RJxc12de 1 yJxa1e45_init_da8c8, Cond.instanceMethod yJxa1e45_init_da8c8, Cond.initialized RJxa1e45, Cond.code yJxa1e45_init_da8c8 cJxa1e45_init_da8c8 1 none, Cond.methodLink RJxa1e45 1 objectInit, Cond.methodLink RX2 206 yX2_stepsOfLength, Cond.static yX2_stepsOfLength, Cond.code yX2_stepsOfLength cX2_stepsOfLength 2 (some (.array (.object "TreePairs$Pairs")))]
def wsX2_ball_r3 : List Cond := [Cond.classLink RX2 9 RX1, Cond.instantiable RX1 5, Cond.initialized RX1, Cond.methodLink RX2 15 yX1_init, Cond.instanceMethod yX1_init, Cond.code yX1_init cX1_init 3 none, Cond.methodLink RX1 3 objectInit, Cond.methodLink RX1 9 Lib.Math.max.name, Cond.static Lib.Math.max.name, Cond.initialized "java/lang/Math", Cond.code Lib.Math.max.name Lib.Math.max.code 2 (some .int), Cond.fieldLink RX1 15 "TreePairs$Pairs" "firstDepth" "[I", Cond.arrayClass .long, Cond.fieldLink RX1 21 "TreePairs$Pairs" "firstPlace" "[J", Cond.fieldLink RX1 25 "TreePairs$Pairs" "secondDepth" "[I", Cond.fieldLink RX1 28 "TreePairs$Pairs" "secondPlace" "[J", Cond.methodLink RX2 58 yX2_putStrong, Cond.static yX2_putStrong, Cond.code yX2_putStrong cX2_putStrong 5 none, Cond.fieldLink RX2 35 "TreePairs$Pairs" "size" "I", Cond.constantLong RX2 183 (2), Cond.constantLong RX2 185 (4), Cond.constantLong RX2 187 (3), Cond.methodLink RX2 39 yX1_add]
def wsX2_ball_r4 : List Cond := [Cond.instanceMethod yX1_add, Cond.selects RX1 yX1_add yX1_add, Cond.code yX1_add cX1_add 7 none, Cond.fieldLink RX1 31 "TreePairs$Pairs" "size" "I", Cond.methodLink RX2 47 yX2_putTurned, Cond.static yX2_putTurned, Cond.code yX2_putTurned cX2_putTurned 3 none, Cond.fieldLink RX2 114 "TreePairs$Pairs" "secondDepth" "[I", Cond.fieldLink RX2 121 "TreePairs$Pairs" "secondPlace" "[J", Cond.fieldLink RX2 111 "TreePairs$Pairs" "firstDepth" "[I", Cond.fieldLink RX2 117 "TreePairs$Pairs" "firstPlace" "[J", Cond.methodLink RX2 180 yX1_sinkLast, Cond.instanceMethod yX1_sinkLast, Cond.selects RX1 yX1_sinkLast yX1_sinkLast, Cond.code yX1_sinkLast cX1_sinkLast 2 none, Cond.methodLink RX1 45 yX1_firstStart, Cond.instanceMethod yX1_firstStart, Cond.selects RX1 yX1_firstStart yX1_firstStart, Cond.code yX1_firstStart cX1_firstStart 2 (some .long), Cond.static yX2_startOf, Cond.code yX2_startOf cX2_startOf 3 (some .long), Cond.methodLink RX1 49 yX1_exchange, Cond.static yX1_exchange, Cond.code yX1_exchange cX1_exchange 3 none]
def wsX2_ball_r5 : List Cond := [Cond.methodLink RX1 53 yX1_exchange_, Cond.static yX1_exchange_, Cond.code yX1_exchange_ cX1_exchange_ 4 none, Cond.methodLink RX2 88 yX1_becomeNothing, Cond.instanceMethod yX1_becomeNothing, Cond.selects RX1 yX1_becomeNothing yX1_becomeNothing, Cond.code yX1_becomeNothing cX1_becomeNothing 1 none, Cond.methodLink RX1 35 yX1_add, Cond.methodLink RX2 210 yX0_addNew, Cond.instanceMethod yX0_addNew, Cond.selects RX0 yX0_addNew yX0_addNew, Cond.code yX0_addNew cX0_addNew 3 none, Cond.classLink RX0 26 RX1, Cond.fieldLink RX0 28 "TreePairs$Pairs" "size" "I", Cond.methodLink RX0 22 yX0_placeOf, Cond.instanceMethod yX0_placeOf, Cond.selects RX0 yX0_placeOf yX0_placeOf, Cond.code yX0_placeOf cX0_placeOf 3 (some .int), Cond.classLink RX0 26 "TreePairs$Pairs", Cond.methodLink RX0 45 ⟨"java/util/List", "size", "()I"⟩, Cond.selects RJx4a65c ⟨"java/util/List", "size", "()I"⟩ yJx4a65c_size_8abf5, Cond.instanceMethod yJx4a65c_size_8abf5, Cond.code yJx4a65c_size_8abf5 cJx4a65c_size_8abf5 1 (some .int), Cond.fieldLink RJx4a65c 48 "java/util/ArrayList" "size" "I"]
def wsX2_ball_r6 : List Cond := [Cond.methodLink RX0 48 ⟨"java/util/List", "get", "(I)Ljava/lang/Object;"⟩, Cond.selects RJx4a65c ⟨"java/util/List", "get", "(I)Ljava/lang/Object;"⟩ yJx4a65c_get_915e3, Cond.instanceMethod yJx4a65c_get_915e3, Cond.code yJx4a65c_get_915e3 cJx4a65c_get_915e3 2 (some (.object "java/lang/Object")), Cond.methodLink RJx4a65c 118 yJ15_checkIndex_7cf53, Cond.static yJ15_checkIndex_7cf53, Cond.initialized RJ15, Cond.code yJ15_checkIndex_7cf53 cJ15_checkIndex_7cf53 2 (some .int), Cond.methodLink RJ15 105 yJ3_checkIndex_8e157, Cond.static yJ3_checkIndex_8e157, Cond.initialized RJ3, Cond.code yJ3_checkIndex_8e157 cJ3_checkIndex_8e157 3 (some .int), Cond.methodLink RJx4a65c 123 yJx4a65c_elementData_915e3, Cond.instanceMethod yJx4a65c_elementData_915e3, Cond.selects RJx4a65c yJx4a65c_elementData_915e3 yJx4a65c_elementData_915e3, Cond.code yJx4a65c_elementData_915e3 cJx4a65c_elementData_915e3 2 (some (.object "java/lang/Object")), Cond.static yX2_areAlike, Cond.code yX2_areAlike cX2_areAlike 4 (some .boolean), Cond.methodLink RX2 80 yX1_told, Cond.instanceMethod yX1_told, Cond.selects RX1 yX1_told yX1_told, Cond.code yX1_told cX1_told 3 (some .long), Cond.methodLink RX0 32 yX1_init, Cond.static yX2_putCopy]
def wsX2_ball_r7 : List Cond := [Cond.code yX2_putCopy cX2_putCopy 3 none, Cond.methodLink RX0 39 ⟨"java/util/List", "add", "(Ljava/lang/Object;)Z"⟩, Cond.selects RJx4a65c ⟨"java/util/List", "add", "(Ljava/lang/Object;)Z"⟩ yJx4a65c_add_9ea2d, Cond.instanceMethod yJx4a65c_add_9ea2d, Cond.code yJx4a65c_add_9ea2d cJx4a65c_add_9ea2d 2 (some .boolean), Cond.fieldLink RJx4a65c 63 "java/util/ArrayList" "modCount" "I", Cond.sameField "java/util/ArrayList" "java/util/AbstractList" "modCount" "I", Cond.methodLink RJx4a65c 131 yJx4a65c_add_72be8, Cond.instanceMethod yJx4a65c_add_72be8, Cond.selects RJx4a65c yJx4a65c_add_72be8 yJx4a65c_add_72be8, Cond.code yJx4a65c_add_72be8 cJx4a65c_add_72be8 4 none, Cond.methodLink RJx4a65c 129 yJx4a65c_grow_d5877, Cond.instanceMethod yJx4a65c_grow_d5877, Cond.selects RJx4a65c yJx4a65c_grow_d5877 yJx4a65c_grow_d5877, Cond.code yJx4a65c_grow_d5877 cJx4a65c_grow_d5877 1 (some (.array (.object "java/lang/Object"))), Cond.methodLink RJx4a65c 69 yJx4a65c_grow_92f84, Cond.instanceMethod yJx4a65c_grow_92f84, Cond.selects RJx4a65c yJx4a65c_grow_92f84 yJx4a65c_grow_92f84, Cond.code yJx4a65c_grow_92f84 cJx4a65c_grow_92f84 4 (some (.array (.object "java/lang/Object"))), Cond.methodLink RJx4a65c 79 Lib.Math.max.name, Cond.classLink RJx4a65c 7 "java/lang/Object", Cond.methodLink RJx4a65c 73 yJ8_newLength_cabcc, Cond.static yJ8_newLength_cabcc, Cond.initialized RJ8]
def wsX2_ball_r8 : List Cond := [Cond.code yJ8_newLength_cabcc cJ8_newLength_cabcc 4 (some .int), Cond.methodLink RJ8 194 Lib.Math.max.name, Cond.constant RJ8 200 (2147483639), Cond.methodLink RJ8 201 yJ8_hugeLength_7cf53, Cond.static yJ8_hugeLength_7cf53, Cond.code yJ8_hugeLength_7cf53 cJ8_hugeLength_7cf53 3 (some .int), Cond.methodLink RJx4a65c 66 yJ7_copyOf_1904c, Cond.static yJ7_copyOf_1904c, Cond.initialized RJ7, Cond.code yJ7_copyOf_1904c cJ7_copyOf_1904c 2 (some (.array (.object "java/lang/Object"))), Cond.methodLink RJ7 86 ⟨"java/lang/Object", "getClass", "()Ljava/lang/Class;"⟩, Cond.selects "[Ljava/lang/Object;" ⟨"java/lang/Object", "getClass", "()Ljava/lang/Class;"⟩ ⟨"java/lang/Object", "getClass", "()Ljava/lang/Class;"⟩, Cond.instanceMethod ⟨"java/lang/Object", "getClass", "()Ljava/lang/Class;"⟩, Cond.native ⟨"java/lang/Object", "getClass", "()Ljava/lang/Class;"⟩, Cond.methodLink RJ7 300 yJ7_copyOf_6403c, Cond.static yJ7_copyOf_6403c, Cond.code yJ7_copyOf_6403c cJ7_copyOf_6403c 4 (some (.array (.object "java/lang/Object"))), Cond.classLink RJ7 110 "[Ljava/lang/Object;", Cond.classLink RJ7 2 "java/lang/Object", Cond.methodLink RJ7 304 Lib.Math.min.name, Cond.static Lib.Math.min.name, Cond.code Lib.Math.min.name Lib.Math.min.code 2 (some .int), Cond.methodLink RJ7 150 arraycopyName, Cond.native arraycopyName]
def wsX2_ball_r9 : List Cond := [Cond.static arraycopyName, Cond.initialized "java/lang/System", Cond.methodLink RX2 218 ⟨"java/util/List", "get", "(I)Ljava/lang/Object;"⟩, Cond.methodLink RX2 65 yX2_putBehind, Cond.static yX2_putBehind, Cond.code yX2_putBehind cX2_putBehind 8 none, Cond.methodLink RX2 163 yX1_secondEnd, Cond.instanceMethod yX1_secondEnd, Cond.selects RX1 yX1_secondEnd yX1_secondEnd, Cond.code yX1_secondEnd cX1_secondEnd 2 (some .long), Cond.methodLink RX2 167 yX1_secondStart, Cond.instanceMethod yX1_secondStart, Cond.selects RX1 yX1_secondStart yX1_secondStart, Cond.code yX1_secondStart cX1_secondStart 2 (some .long), Cond.methodLink RX2 107 yX1_holderOf, Cond.instanceMethod yX1_holderOf, Cond.selects RX1 yX1_holderOf yX1_holderOf, Cond.code yX1_holderOf cX1_holderOf 5 (some .int), Cond.methodLink RX2 174 yX1_firstStart, Cond.methodLink RX2 189 yX2_putPiece, Cond.static yX2_putPiece, Cond.code yX2_putPiece cX2_putPiece 8 none, Cond.methodLink RX2 177 yX1_push, Cond.instanceMethod yX1_push]
def wsX2_ball_r10 : List Cond := [Cond.selects RX1 yX1_push yX1_push, Cond.code yX1_push cX1_push 7 none, Cond.constantLong RX1 43 (2), Cond.methodLink RX1 39 yX1_areLastHalves, Cond.instanceMethod yX1_areLastHalves, Cond.selects RX1 yX1_areLastHalves yX1_areLastHalves, Cond.code yX1_areLastHalves cX1_areLastHalves 3 (some .boolean), Cond.methodLink RX2 224 ⟨"java/util/List", "size", "()I"⟩]
def wsX2_ball : List Cond := .code yX2_ball cX2_ball 3 (some .int) :: ((wsX2_ball_r1 ++ (wsX2_ball_r2 ++ (wsX2_ball_r3 ++ (wsX2_ball_r4 ++ (wsX2_ball_r5 ++ (wsX2_ball_r6 ++ (wsX2_ball_r7 ++ (wsX2_ball_r8 ++ (wsX2_ball_r9 ++ wsX2_ball_r10))))))))) ++ wsX00 ++ wsX20 ++ wsJx4a65c0 ++ wsX10)
def wsX2_see : List Cond := .code yX2_see cX2_see 7 none :: ([.constantLong RX2 183 (2), .fieldLink RX2 128 "TreePairs" "seenDepth" "I", .fieldLink RX2 131 "TreePairs" "seenPlace" "J"] ++ wsX20)
def wsX2_go_r1 : List Cond := [Cond.fieldLink RX2 11 "TreePairs" "maps" "[LTreePairs$Pairs;", Cond.fieldLink RX2 111 "TreePairs$Pairs" "firstDepth" "[I", Cond.fieldLink RX2 114 "TreePairs$Pairs" "secondDepth" "[I", Cond.fieldLink RX2 117 "TreePairs$Pairs" "firstPlace" "[J", Cond.fieldLink RX2 121 "TreePairs$Pairs" "secondPlace" "[J", Cond.methodLink RX2 62 yX2_isThere, Cond.instanceMethod yX2_isThere, Cond.selects RX2 yX2_isThere yX2_isThere, Cond.initialized RX2, Cond.code yX2_isThere cX2_isThere 2 (some .boolean), Cond.fieldLink RX2 35 "TreePairs$Pairs" "size" "I", Cond.methodLink RX2 43 yX2_isNumber, Cond.static yX2_isNumber, Cond.code yX2_isNumber cX2_isNumber 1 (some .boolean), Cond.methodLink RX2 107 yX1_holderOf, Cond.instanceMethod yX1_holderOf, Cond.selects RX1 yX1_holderOf yX1_holderOf, Cond.initialized RX1, Cond.code yX1_holderOf cX1_holderOf 5 (some .int), Cond.fieldLink RX1 31 "TreePairs$Pairs" "size" "I", Cond.methodLink RX1 45 yX1_firstStart, Cond.instanceMethod yX1_firstStart, Cond.selects RX1 yX1_firstStart yX1_firstStart, Cond.code yX1_firstStart cX1_firstStart 2 (some .long)]
def wsX2_go_r2 : List Cond := [Cond.fieldLink RX1 15 "TreePairs$Pairs" "firstDepth" "[I", Cond.fieldLink RX1 21 "TreePairs$Pairs" "firstPlace" "[J", Cond.static yX2_startOf, Cond.code yX2_startOf cX2_startOf 3 (some .long), Cond.methodLink RX2 124 yX2_see, Cond.instanceMethod yX2_see, Cond.selects RX2 yX2_see yX2_see, Cond.code yX2_see cX2_see 7 none, Cond.constantLong RX2 183 (2), Cond.fieldLink RX2 128 "TreePairs" "seenDepth" "I", Cond.fieldLink RX2 131 "TreePairs" "seenPlace" "J"]
def wsX2_go : List Cond := .code yX2_go cX2_go 15 (some .int) :: ((wsX2_go_r1 ++ wsX2_go_r2) ++ wsX20 ++ wsX10)
def wsX2_seen : List Cond := .code yX2_seen cX2_seen 2 (some .long) :: ([.fieldLink RX2 128 "TreePairs" "seenDepth" "I", .fieldLink RX2 131 "TreePairs" "seenPlace" "J", .constantLong RX2 135 (-102)] ++ wsX20)
def wsX2_bend : List Cond := .code yX2_bend cX2_bend 4 (some .int) :: ([.fieldLink RX2 11 "TreePairs" "maps" "[LTreePairs$Pairs;", .fieldLink RX2 35 "TreePairs$Pairs" "size" "I", .methodLink RX2 62 yX2_isThere, .instanceMethod yX2_isThere, .selects RX2 yX2_isThere yX2_isThere, .initialized RX2, .code yX2_isThere cX2_isThere 2 (some .boolean), .methodLink RX2 43 yX2_isNumber, .static yX2_isNumber, .code yX2_isNumber cX2_isNumber 1 (some .boolean), .methodLink RX2 137 yX1_steepness, .instanceMethod yX1_steepness, .selects RX1 yX1_steepness yX1_steepness, .initialized RX1, .code yX1_steepness cX1_steepness 2 (some .int), .fieldLink RX1 15 "TreePairs$Pairs" "firstDepth" "[I", .fieldLink RX1 25 "TreePairs$Pairs" "secondDepth" "[I"] ++ wsX20 ++ wsX10)
def wsX2_still : List Cond := .code yX2_still cX2_still 5 (some .int) :: ([.fieldLink RX2 11 "TreePairs" "maps" "[LTreePairs$Pairs;", .fieldLink RX2 35 "TreePairs$Pairs" "size" "I", .fieldLink RX2 111 "TreePairs$Pairs" "firstDepth" "[I", .fieldLink RX2 114 "TreePairs$Pairs" "secondDepth" "[I", .fieldLink RX2 117 "TreePairs$Pairs" "firstPlace" "[J", .fieldLink RX2 121 "TreePairs$Pairs" "secondPlace" "[J", .methodLink RX2 62 yX2_isThere, .instanceMethod yX2_isThere, .selects RX2 yX2_isThere yX2_isThere, .initialized RX2, .code yX2_isThere cX2_isThere 2 (some .boolean), .methodLink RX2 43 yX2_isNumber, .static yX2_isNumber, .code yX2_isNumber cX2_isNumber 1 (some .boolean)] ++ wsX20 ++ wsX10)
def wsX2_singleAbove : List Cond := .code yX2_singleAbove cX2_singleAbove 4 (some .long) :: ([.fieldLink RX2 121 "TreePairs$Pairs" "secondPlace" "[J", .fieldLink RX2 117 "TreePairs$Pairs" "firstPlace" "[J", .fieldLink RX2 114 "TreePairs$Pairs" "secondDepth" "[I", .fieldLink RX2 111 "TreePairs$Pairs" "firstDepth" "[I"] ++ wsX10)
def wsX2_singleBelow : List Cond := .code yX2_singleBelow cX2_singleBelow 2 (some .long) :: ([.fieldLink RX2 114 "TreePairs$Pairs" "secondDepth" "[I", .fieldLink RX2 111 "TreePairs$Pairs" "firstDepth" "[I", .methodLink RX2 234 Lib.MathLoose.abs_long.x, .static Lib.MathLoose.abs_long.x, .initialized "java/lang/Math", .code Lib.MathLoose.abs_long.x Lib.MathLoose.abs_long.code 2 (some .long)] ++ wsX10)
def wsX2_hasSingle : List Cond := .code yX2_hasSingle cX2_hasSingle 9 (some .boolean) :: ([.fieldLink RX2 111 "TreePairs$Pairs" "firstDepth" "[I", .fieldLink RX2 117 "TreePairs$Pairs" "firstPlace" "[J", .fieldLink RX2 114 "TreePairs$Pairs" "secondDepth" "[I", .methodLink RX2 227 yX2_singleAbove, .static yX2_singleAbove, .initialized RX2, .code yX2_singleAbove cX2_singleAbove 4 (some .long), .fieldLink RX2 121 "TreePairs$Pairs" "secondPlace" "[J", .methodLink RX2 231 yX2_singleBelow, .static yX2_singleBelow, .code yX2_singleBelow cX2_singleBelow 2 (some .long), .methodLink RX2 234 Lib.MathLoose.abs_long.x, .static Lib.MathLoose.abs_long.x, .initialized "java/lang/Math", .code Lib.MathLoose.abs_long.x Lib.MathLoose.abs_long.code 2 (some .long)] ++ wsX10)
def wsX2_single_r1 : List Cond := [Cond.fieldLink RX2 11 "TreePairs" "maps" "[LTreePairs$Pairs;", Cond.fieldLink RX2 35 "TreePairs$Pairs" "size" "I", Cond.methodLink RX2 62 yX2_isThere, Cond.instanceMethod yX2_isThere, Cond.selects RX2 yX2_isThere yX2_isThere, Cond.initialized RX2, Cond.code yX2_isThere cX2_isThere 2 (some .boolean), Cond.methodLink RX2 43 yX2_isNumber, Cond.static yX2_isNumber, Cond.code yX2_isNumber cX2_isNumber 1 (some .boolean), Cond.methodLink RX2 141 yX2_hasSingle, Cond.static yX2_hasSingle, Cond.code yX2_hasSingle cX2_hasSingle 9 (some .boolean), Cond.fieldLink RX2 111 "TreePairs$Pairs" "firstDepth" "[I", Cond.fieldLink RX2 117 "TreePairs$Pairs" "firstPlace" "[J", Cond.fieldLink RX2 114 "TreePairs$Pairs" "secondDepth" "[I", Cond.methodLink RX2 227 yX2_singleAbove, Cond.static yX2_singleAbove, Cond.code yX2_singleAbove cX2_singleAbove 4 (some .long), Cond.fieldLink RX2 121 "TreePairs$Pairs" "secondPlace" "[J", Cond.methodLink RX2 231 yX2_singleBelow, Cond.static yX2_singleBelow, Cond.code yX2_singleBelow cX2_singleBelow 2 (some .long), Cond.methodLink RX2 234 Lib.MathLoose.abs_long.x]
def wsX2_single_r2 : List Cond := [Cond.static Lib.MathLoose.abs_long.x, Cond.initialized "java/lang/Math", Cond.code Lib.MathLoose.abs_long.x Lib.MathLoose.abs_long.code 2 (some .long)]
def wsX2_single : List Cond := .code yX2_single cX2_single 4 (some .int) :: ((wsX2_single_r1 ++ wsX2_single_r2) ++ wsX20 ++ wsX10)
def wsX2_commonOf : List Cond := .code yX2_commonOf cX2_commonOf 11 (some .long) :: ([])
def wsX2_partOfSingle : List Cond := .code yX2_partOfSingle cX2_partOfSingle 9 (some .long) :: ([.constantLong RX2 150 (-1), .methodLink RX2 227 yX2_singleAbove, .static yX2_singleAbove, .initialized RX2, .code yX2_singleAbove cX2_singleAbove 4 (some .long), .fieldLink RX2 121 "TreePairs$Pairs" "secondPlace" "[J", .fieldLink RX2 117 "TreePairs$Pairs" "firstPlace" "[J", .fieldLink RX2 114 "TreePairs$Pairs" "secondDepth" "[I", .fieldLink RX2 111 "TreePairs$Pairs" "firstDepth" "[I", .methodLink RX2 231 yX2_singleBelow, .static yX2_singleBelow, .code yX2_singleBelow cX2_singleBelow 2 (some .long), .methodLink RX2 234 Lib.MathLoose.abs_long.x, .static Lib.MathLoose.abs_long.x, .initialized "java/lang/Math", .code Lib.MathLoose.abs_long.x Lib.MathLoose.abs_long.code 2 (some .long), .methodLink RX2 237 yX2_commonOf, .static yX2_commonOf, .code yX2_commonOf cX2_commonOf 11 (some .long)] ++ wsX10)
def wsX2_point_r1 : List Cond := [Cond.constantLong RX2 144 (-101), Cond.constantLong RX2 135 (-102), Cond.fieldLink RX2 11 "TreePairs" "maps" "[LTreePairs$Pairs;", Cond.fieldLink RX2 35 "TreePairs$Pairs" "size" "I", Cond.constantLong RX2 150 (-1), Cond.methodLink RX2 62 yX2_isThere, Cond.instanceMethod yX2_isThere, Cond.selects RX2 yX2_isThere yX2_isThere, Cond.initialized RX2, Cond.code yX2_isThere cX2_isThere 2 (some .boolean), Cond.methodLink RX2 43 yX2_isNumber, Cond.static yX2_isNumber, Cond.code yX2_isNumber cX2_isNumber 1 (some .boolean), Cond.methodLink RX2 141 yX2_hasSingle, Cond.static yX2_hasSingle, Cond.code yX2_hasSingle cX2_hasSingle 9 (some .boolean), Cond.fieldLink RX2 111 "TreePairs$Pairs" "firstDepth" "[I", Cond.fieldLink RX2 117 "TreePairs$Pairs" "firstPlace" "[J", Cond.fieldLink RX2 114 "TreePairs$Pairs" "secondDepth" "[I", Cond.methodLink RX2 227 yX2_singleAbove, Cond.static yX2_singleAbove, Cond.code yX2_singleAbove cX2_singleAbove 4 (some .long), Cond.fieldLink RX2 121 "TreePairs$Pairs" "secondPlace" "[J", Cond.methodLink RX2 231 yX2_singleBelow]
def wsX2_point_r2 : List Cond := [Cond.static yX2_singleBelow, Cond.code yX2_singleBelow cX2_singleBelow 2 (some .long), Cond.methodLink RX2 234 Lib.MathLoose.abs_long.x, Cond.static Lib.MathLoose.abs_long.x, Cond.initialized "java/lang/Math", Cond.code Lib.MathLoose.abs_long.x Lib.MathLoose.abs_long.code 2 (some .long), Cond.methodLink RX2 146 yX2_partOfSingle, Cond.static yX2_partOfSingle, Cond.code yX2_partOfSingle cX2_partOfSingle 9 (some .long), Cond.methodLink RX2 237 yX2_commonOf, Cond.static yX2_commonOf, Cond.code yX2_commonOf cX2_commonOf 11 (some .long)]
def wsX2_point : List Cond := .code yX2_point cX2_point 6 (some .long) :: ((wsX2_point_r1 ++ wsX2_point_r2) ++ wsX20 ++ wsX10)
def wsX2_mapsOfKind_r1 : List Cond := [Cond.fieldLink RX2 11 "TreePairs" "maps" "[LTreePairs$Pairs;", Cond.methodLink RX2 62 yX2_isThere, Cond.instanceMethod yX2_isThere, Cond.selects RX2 yX2_isThere yX2_isThere, Cond.initialized RX2, Cond.code yX2_isThere cX2_isThere 2 (some .boolean), Cond.fieldLink RX2 35 "TreePairs$Pairs" "size" "I", Cond.methodLink RX2 43 yX2_isNumber, Cond.static yX2_isNumber, Cond.code yX2_isNumber cX2_isNumber 1 (some .boolean), Cond.methodLink RX2 76 yX2_kindOf, Cond.static yX2_kindOf, Cond.code yX2_kindOf cX2_kindOf 8 (some .int), Cond.methodLink RX2 163 yX1_secondEnd, Cond.instanceMethod yX1_secondEnd, Cond.selects RX1 yX1_secondEnd yX1_secondEnd, Cond.initialized RX1, Cond.code yX1_secondEnd cX1_secondEnd 2 (some .long), Cond.fieldLink RX1 25 "TreePairs$Pairs" "secondDepth" "[I", Cond.fieldLink RX1 28 "TreePairs$Pairs" "secondPlace" "[J", Cond.static yX2_startOf, Cond.code yX2_startOf cX2_startOf 3 (some .long), Cond.methodLink RX2 167 yX1_secondStart, Cond.instanceMethod yX1_secondStart]
def wsX2_mapsOfKind_r2 : List Cond := [Cond.selects RX1 yX1_secondStart yX1_secondStart, Cond.code yX1_secondStart cX1_secondStart 2 (some .long), Cond.methodLink RX2 170 yX2_startOf]
def wsX2_mapsOfKind : List Cond := .code yX2_mapsOfKind cX2_mapsOfKind 4 (some .int) :: ((wsX2_mapsOfKind_r1 ++ wsX2_mapsOfKind_r2) ++ wsX20 ++ wsX10)
def wsX2_count_r1 : List Cond := [Cond.fieldLink RX2 18 "TreePairs" "hand" "LTreePairs$Pairs;", Cond.fieldLink RX2 35 "TreePairs$Pairs" "size" "I", Cond.methodLink RX2 152 yX2_mapsOfKind, Cond.instanceMethod yX2_mapsOfKind, Cond.selects RX2 yX2_mapsOfKind yX2_mapsOfKind, Cond.initialized RX2, Cond.code yX2_mapsOfKind cX2_mapsOfKind 4 (some .int), Cond.fieldLink RX2 11 "TreePairs" "maps" "[LTreePairs$Pairs;", Cond.methodLink RX2 62 yX2_isThere, Cond.instanceMethod yX2_isThere, Cond.selects RX2 yX2_isThere yX2_isThere, Cond.code yX2_isThere cX2_isThere 2 (some .boolean), Cond.methodLink RX2 43 yX2_isNumber, Cond.static yX2_isNumber, Cond.code yX2_isNumber cX2_isNumber 1 (some .boolean), Cond.methodLink RX2 76 yX2_kindOf, Cond.static yX2_kindOf, Cond.code yX2_kindOf cX2_kindOf 8 (some .int), Cond.methodLink RX2 163 yX1_secondEnd, Cond.instanceMethod yX1_secondEnd, Cond.selects RX1 yX1_secondEnd yX1_secondEnd, Cond.initialized RX1, Cond.code yX1_secondEnd cX1_secondEnd 2 (some .long), Cond.fieldLink RX1 25 "TreePairs$Pairs" "secondDepth" "[I"]
def wsX2_count_r2 : List Cond := [Cond.fieldLink RX1 28 "TreePairs$Pairs" "secondPlace" "[J", Cond.static yX2_startOf, Cond.code yX2_startOf cX2_startOf 3 (some .long), Cond.methodLink RX2 167 yX1_secondStart, Cond.instanceMethod yX1_secondStart, Cond.selects RX1 yX1_secondStart yX1_secondStart, Cond.code yX1_secondStart cX1_secondStart 2 (some .long), Cond.methodLink RX2 170 yX2_startOf]
def wsX2_count : List Cond := .code yX2_count cX2_count 2 (some .int) :: ((wsX2_count_r1 ++ wsX2_count_r2) ++ wsX20 ++ wsX10)
def wsX2_mixedIn : List Cond := .code yX2_mixedIn cX2_mixedIn 7 (some .long) :: ([.fieldLink RX2 35 "TreePairs$Pairs" "size" "I", .constantLong RX2 157 (31), .methodLink RX2 80 yX1_told, .instanceMethod yX1_told, .selects RX1 yX1_told yX1_told, .initialized RX1, .code yX1_told cX1_told 3 (some .long), .fieldLink RX1 15 "TreePairs$Pairs" "firstDepth" "[I", .fieldLink RX1 21 "TreePairs$Pairs" "firstPlace" "[J", .fieldLink RX1 25 "TreePairs$Pairs" "secondDepth" "[I", .fieldLink RX1 28 "TreePairs$Pairs" "secondPlace" "[J"] ++ wsX10)
def wsX2_digest_r1 : List Cond := [Cond.constantLong RX2 155 (167), Cond.constantLong RX2 157 (31), Cond.fieldLink RX2 11 "TreePairs" "maps" "[LTreePairs$Pairs;", Cond.fieldLink RX2 35 "TreePairs$Pairs" "size" "I", Cond.fieldLink RX2 18 "TreePairs" "hand" "LTreePairs$Pairs;", Cond.fieldLink RX2 128 "TreePairs" "seenDepth" "I", Cond.fieldLink RX2 131 "TreePairs" "seenPlace" "J", Cond.methodLink RX2 62 yX2_isThere, Cond.instanceMethod yX2_isThere, Cond.selects RX2 yX2_isThere yX2_isThere, Cond.initialized RX2, Cond.code yX2_isThere cX2_isThere 2 (some .boolean), Cond.methodLink RX2 43 yX2_isNumber, Cond.static yX2_isNumber, Cond.code yX2_isNumber cX2_isNumber 1 (some .boolean), Cond.methodLink RX2 159 yX2_mixedIn, Cond.static yX2_mixedIn, Cond.code yX2_mixedIn cX2_mixedIn 7 (some .long), Cond.methodLink RX2 80 yX1_told, Cond.instanceMethod yX1_told, Cond.selects RX1 yX1_told yX1_told, Cond.initialized RX1, Cond.code yX1_told cX1_told 3 (some .long), Cond.fieldLink RX1 15 "TreePairs$Pairs" "firstDepth" "[I"]
def wsX2_digest_r2 : List Cond := [Cond.fieldLink RX1 21 "TreePairs$Pairs" "firstPlace" "[J", Cond.fieldLink RX1 25 "TreePairs$Pairs" "secondDepth" "[I", Cond.fieldLink RX1 28 "TreePairs$Pairs" "secondPlace" "[J"]
def wsX2_digest : List Cond := .code yX2_digest cX2_digest 4 (some .long) :: ((wsX2_digest_r1 ++ wsX2_digest_r2) ++ wsX20 ++ wsX10)
def wsX3_init : List Cond := .code yX3_init cX3_init 1 none :: ([.methodLink RX3 1 objectInit, .instanceMethod objectInit, .code objectInit ⟨#[0xb1]⟩ 1 none, .arrayClass .int, .fieldLink RX3 7 "TreePairsModel" "sizes" "[I", .fieldLink RX3 13 "TreePairsModel" "pairOf" "[I", .fieldLink RX3 16 "TreePairsModel" "atHand" "[I", .arrayClass .long, .fieldLink RX3 19 "TreePairsModel" "work" "[J", .fieldLink RX3 23 "TreePairsModel" "other" "[J", .fieldLink RX3 26 "TreePairsModel" "wordSize" "[I", .fieldLink RX3 29 "TreePairsModel" "wordPair" "[I", .fieldLink RX3 32 "TreePairsModel" "first" "[I", .fieldLink RX3 35 "TreePairsModel" "then" "[J", .fieldLink RX3 38 "TreePairsModel" "product" "[J"] ++ wsX30)
def wsX3_in : List Cond := .code yX3_in cX3_in 6 (some .boolean) :: ([])
def wsX3_isSlot : List Cond := .code yX3_isSlot cX3_isSlot 1 (some .boolean) :: ([.constantLong RX3 41 (11), .methodLink RX3 43 yX3_in, .static yX3_in, .initialized RX3, .code yX3_in cX3_in 6 (some .boolean)])
def wsX3_isMap : List Cond := .code yX3_isMap cX3_isMap 2 (some .boolean) :: ([.fieldLink RX3 7 "TreePairsModel" "sizes" "[I", .methodLink RX3 47 yX3_isSlot, .static yX3_isSlot, .initialized RX3, .code yX3_isSlot cX3_isSlot 1 (some .boolean), .constantLong RX3 41 (11), .methodLink RX3 43 yX3_in, .static yX3_in, .code yX3_in cX3_in 6 (some .boolean)] ++ wsX30)
def wsX3_put : List Cond := .code yX3_put cX3_put 9 none :: ([.fieldLink RX3 19 "TreePairsModel" "work" "[J", .fieldLink RX3 51 "TreePairsModel" "size" "I"] ++ wsX30)
def wsX3_load : List Cond := .code yX3_load cX3_load 4 none :: ([.fieldLink RX3 51 "TreePairsModel" "size" "I", .fieldLink RX3 7 "TreePairsModel" "sizes" "[I", .fieldLink RX3 13 "TreePairsModel" "pairOf" "[I", .methodLink RX3 55 yX3_put, .instanceMethod yX3_put, .selects RX3 yX3_put yX3_put, .initialized RX3, .code yX3_put cX3_put 9 none, .fieldLink RX3 19 "TreePairsModel" "work" "[J"] ++ wsX30)
def wsX3_store : List Cond := .code yX3_store cX3_store 3 none :: ([.fieldLink RX3 7 "TreePairsModel" "sizes" "[I", .fieldLink RX3 51 "TreePairsModel" "size" "I", .fieldLink RX3 13 "TreePairsModel" "pairOf" "[I", .fieldLink RX3 19 "TreePairsModel" "work" "[J"] ++ wsX30)
def wsX3_aside : List Cond := .code yX3_aside cX3_aside 2 none :: ([.fieldLink RX3 51 "TreePairsModel" "size" "I", .fieldLink RX3 59 "TreePairsModel" "otherSize" "I", .fieldLink RX3 23 "TreePairsModel" "other" "[J", .fieldLink RX3 19 "TreePairsModel" "work" "[J"] ++ wsX30)
def wsX3_nothing : List Cond := .code yX3_nothing cX3_nothing 1 none :: ([.fieldLink RX3 51 "TreePairsModel" "size" "I", .methodLink RX3 55 yX3_put, .instanceMethod yX3_put, .selects RX3 yX3_put yX3_put, .initialized RX3, .code yX3_put cX3_put 9 none, .fieldLink RX3 19 "TreePairsModel" "work" "[J"] ++ wsX30)
def wsX3_isLeft : List Cond := .code yX3_isLeft cX3_isLeft 10 (some .boolean) :: ([.fieldLink RX3 19 "TreePairsModel" "work" "[J"] ++ wsX30)
def wsX3_swap : List Cond := .code yX3_swap cX3_swap 6 none :: ([.fieldLink RX3 19 "TreePairsModel" "work" "[J"] ++ wsX30)
def wsX3_arrange : List Cond := .code yX3_arrange cX3_arrange 3 none :: ([.fieldLink RX3 51 "TreePairsModel" "size" "I", .methodLink RX3 71 yX3_isLeft, .instanceMethod yX3_isLeft, .selects RX3 yX3_isLeft yX3_isLeft, .initialized RX3, .code yX3_isLeft cX3_isLeft 10 (some .boolean), .fieldLink RX3 19 "TreePairsModel" "work" "[J", .methodLink RX3 75 yX3_swap, .instanceMethod yX3_swap, .selects RX3 yX3_swap yX3_swap, .code yX3_swap cX3_swap 6 none] ++ wsX30)
def wsX3_turnWork : List Cond := .code yX3_turnWork cX3_turnWork 6 none :: ([.fieldLink RX3 51 "TreePairsModel" "size" "I", .fieldLink RX3 19 "TreePairsModel" "work" "[J", .methodLink RX3 62 yX3_arrange, .instanceMethod yX3_arrange, .selects RX3 yX3_arrange yX3_arrange, .initialized RX3, .code yX3_arrange cX3_arrange 3 none, .methodLink RX3 71 yX3_isLeft, .instanceMethod yX3_isLeft, .selects RX3 yX3_isLeft yX3_isLeft, .code yX3_isLeft cX3_isLeft 10 (some .boolean), .methodLink RX3 75 yX3_swap, .instanceMethod yX3_swap, .selects RX3 yX3_swap yX3_swap, .code yX3_swap cX3_swap 6 none] ++ wsX30)
def wsX3_remove : List Cond := .code yX3_remove cX3_remove 3 none :: ([.fieldLink RX3 51 "TreePairsModel" "size" "I", .fieldLink RX3 19 "TreePairsModel" "work" "[J"] ++ wsX30)
def wsX3_reduce : List Cond := .code yX3_reduce cX3_reduce 4 none :: ([.fieldLink RX3 51 "TreePairsModel" "size" "I", .fieldLink RX3 19 "TreePairsModel" "work" "[J", .constantLong RX3 65 (2), .methodLink RX3 67 yX3_remove, .instanceMethod yX3_remove, .selects RX3 yX3_remove yX3_remove, .initialized RX3, .code yX3_remove cX3_remove 3 none, .methodLink RX3 62 yX3_arrange, .instanceMethod yX3_arrange, .selects RX3 yX3_arrange yX3_arrange, .code yX3_arrange cX3_arrange 3 none, .methodLink RX3 71 yX3_isLeft, .instanceMethod yX3_isLeft, .selects RX3 yX3_isLeft yX3_isLeft, .code yX3_isLeft cX3_isLeft 10 (some .boolean), .methodLink RX3 75 yX3_swap, .instanceMethod yX3_swap, .selects RX3 yX3_swap yX3_swap, .code yX3_swap cX3_swap 6 none] ++ wsX30)
def wsX3_follow_r1 : List Cond := [Cond.fieldLink RX3 59 "TreePairsModel" "otherSize" "I", Cond.fieldLink RX3 51 "TreePairsModel" "size" "I", Cond.fieldLink RX3 23 "TreePairsModel" "other" "[J", Cond.fieldLink RX3 19 "TreePairsModel" "work" "[J", Cond.fieldLink RX3 35 "TreePairsModel" "then" "[J", Cond.methodLink RX3 79 yX3_reduce, Cond.instanceMethod yX3_reduce, Cond.selects RX3 yX3_reduce yX3_reduce, Cond.initialized RX3, Cond.code yX3_reduce cX3_reduce 4 none, Cond.constantLong RX3 65 (2), Cond.methodLink RX3 67 yX3_remove, Cond.instanceMethod yX3_remove, Cond.selects RX3 yX3_remove yX3_remove, Cond.code yX3_remove cX3_remove 3 none, Cond.methodLink RX3 62 yX3_arrange, Cond.instanceMethod yX3_arrange, Cond.selects RX3 yX3_arrange yX3_arrange, Cond.code yX3_arrange cX3_arrange 3 none, Cond.methodLink RX3 71 yX3_isLeft, Cond.instanceMethod yX3_isLeft, Cond.selects RX3 yX3_isLeft yX3_isLeft, Cond.code yX3_isLeft cX3_isLeft 10 (some .boolean), Cond.methodLink RX3 75 yX3_swap]
def wsX3_follow_r2 : List Cond := [Cond.instanceMethod yX3_swap, Cond.selects RX3 yX3_swap yX3_swap, Cond.code yX3_swap cX3_swap 6 none]
def wsX3_follow : List Cond := .code yX3_follow cX3_follow 14 none :: ((wsX3_follow_r1 ++ wsX3_follow_r2) ++ wsX30)
def wsX3_isNothing : List Cond := .code yX3_isNothing cX3_isNothing 1 (some .boolean) :: ([.fieldLink RX3 51 "TreePairsModel" "size" "I"] ++ wsX30)
def wsX3_isLeaf : List Cond := .code yX3_isLeaf cX3_isLeaf 2 (some .boolean) :: ([.constantLong RX3 82 (23), .methodLink RX3 43 yX3_in, .static yX3_in, .initialized RX3, .code yX3_in cX3_in 6 (some .boolean)])
def wsX3_pair : List Cond := .code yX3_pair cX3_pair 5 (some .int) :: ([.fieldLink RX3 88 "TreePairsModel" "hand" "I", .fieldLink RX3 16 "TreePairsModel" "atHand" "[I", .methodLink RX3 84 yX3_isLeaf, .static yX3_isLeaf, .initialized RX3, .code yX3_isLeaf cX3_isLeaf 2 (some .boolean), .constantLong RX3 82 (23), .methodLink RX3 43 yX3_in, .static yX3_in, .code yX3_in cX3_in 6 (some .boolean)] ++ wsX30)
def wsX3_clear : List Cond := .code yX3_clear cX3_clear 2 (some .int) :: ([.fieldLink RX3 88 "TreePairsModel" "hand" "I"] ++ wsX30)
def wsX3_isCut : List Cond := .code yX3_isCut cX3_isCut 10 (some .boolean) :: ([.fieldLink RX3 88 "TreePairsModel" "hand" "I", .fieldLink RX3 16 "TreePairsModel" "atHand" "[I", .constantLong RX3 91 (8388608)] ++ wsX30)
def wsX3_make_r1 : List Cond := [Cond.fieldLink RX3 51 "TreePairsModel" "size" "I", Cond.fieldLink RX3 88 "TreePairsModel" "hand" "I", Cond.fieldLink RX3 16 "TreePairsModel" "atHand" "[I", Cond.methodLink RX3 47 yX3_isSlot, Cond.static yX3_isSlot, Cond.initialized RX3, Cond.code yX3_isSlot cX3_isSlot 1 (some .boolean), Cond.constantLong RX3 41 (11), Cond.methodLink RX3 43 yX3_in, Cond.static yX3_in, Cond.code yX3_in cX3_in 6 (some .boolean), Cond.methodLink RX3 93 yX3_isCut, Cond.instanceMethod yX3_isCut, Cond.selects RX3 yX3_isCut yX3_isCut, Cond.code yX3_isCut cX3_isCut 10 (some .boolean), Cond.constantLong RX3 91 (8388608), Cond.methodLink RX3 55 yX3_put, Cond.instanceMethod yX3_put, Cond.selects RX3 yX3_put yX3_put, Cond.code yX3_put cX3_put 9 none, Cond.fieldLink RX3 19 "TreePairsModel" "work" "[J", Cond.methodLink RX3 79 yX3_reduce, Cond.instanceMethod yX3_reduce, Cond.selects RX3 yX3_reduce yX3_reduce]
def wsX3_make_r2 : List Cond := [Cond.code yX3_reduce cX3_reduce 4 none, Cond.constantLong RX3 65 (2), Cond.methodLink RX3 67 yX3_remove, Cond.instanceMethod yX3_remove, Cond.selects RX3 yX3_remove yX3_remove, Cond.code yX3_remove cX3_remove 3 none, Cond.methodLink RX3 62 yX3_arrange, Cond.instanceMethod yX3_arrange, Cond.selects RX3 yX3_arrange yX3_arrange, Cond.code yX3_arrange cX3_arrange 3 none, Cond.methodLink RX3 71 yX3_isLeft, Cond.instanceMethod yX3_isLeft, Cond.selects RX3 yX3_isLeft yX3_isLeft, Cond.code yX3_isLeft cX3_isLeft 10 (some .boolean), Cond.methodLink RX3 75 yX3_swap, Cond.instanceMethod yX3_swap, Cond.selects RX3 yX3_swap yX3_swap, Cond.code yX3_swap cX3_swap 6 none, Cond.methodLink RX3 96 yX3_store, Cond.instanceMethod yX3_store, Cond.selects RX3 yX3_store yX3_store, Cond.code yX3_store cX3_store 3 none, Cond.fieldLink RX3 7 "TreePairsModel" "sizes" "[I", Cond.fieldLink RX3 13 "TreePairsModel" "pairOf" "[I"]
def wsX3_make : List Cond := .code yX3_make cX3_make 3 (some .int) :: ((wsX3_make_r1 ++ wsX3_make_r2) ++ wsX30)
def wsX3_makeStrong : List Cond := .code yX3_makeStrong cX3_makeStrong 3 none :: ([.fieldLink RX3 51 "TreePairsModel" "size" "I", .methodLink RX3 55 yX3_put, .instanceMethod yX3_put, .selects RX3 yX3_put yX3_put, .initialized RX3, .code yX3_put cX3_put 9 none, .fieldLink RX3 19 "TreePairsModel" "work" "[J", .methodLink RX3 62 yX3_arrange, .instanceMethod yX3_arrange, .selects RX3 yX3_arrange yX3_arrange, .code yX3_arrange cX3_arrange 3 none, .methodLink RX3 71 yX3_isLeft, .instanceMethod yX3_isLeft, .selects RX3 yX3_isLeft yX3_isLeft, .code yX3_isLeft cX3_isLeft 10 (some .boolean), .methodLink RX3 75 yX3_swap, .instanceMethod yX3_swap, .selects RX3 yX3_swap yX3_swap, .code yX3_swap cX3_swap 6 none] ++ wsX30)
def wsX3_strong_r1 : List Cond := [Cond.constantLong RX3 99 (6), Cond.fieldLink RX3 51 "TreePairsModel" "size" "I", Cond.methodLink RX3 47 yX3_isSlot, Cond.static yX3_isSlot, Cond.initialized RX3, Cond.code yX3_isSlot cX3_isSlot 1 (some .boolean), Cond.constantLong RX3 41 (11), Cond.methodLink RX3 43 yX3_in, Cond.static yX3_in, Cond.code yX3_in cX3_in 6 (some .boolean), Cond.methodLink RX3 101 yX3_makeStrong, Cond.instanceMethod yX3_makeStrong, Cond.selects RX3 yX3_makeStrong yX3_makeStrong, Cond.code yX3_makeStrong cX3_makeStrong 3 none, Cond.methodLink RX3 55 yX3_put, Cond.instanceMethod yX3_put, Cond.selects RX3 yX3_put yX3_put, Cond.code yX3_put cX3_put 9 none, Cond.fieldLink RX3 19 "TreePairsModel" "work" "[J", Cond.methodLink RX3 62 yX3_arrange, Cond.instanceMethod yX3_arrange, Cond.selects RX3 yX3_arrange yX3_arrange, Cond.code yX3_arrange cX3_arrange 3 none, Cond.methodLink RX3 71 yX3_isLeft]
def wsX3_strong_r2 : List Cond := [Cond.instanceMethod yX3_isLeft, Cond.selects RX3 yX3_isLeft yX3_isLeft, Cond.code yX3_isLeft cX3_isLeft 10 (some .boolean), Cond.methodLink RX3 75 yX3_swap, Cond.instanceMethod yX3_swap, Cond.selects RX3 yX3_swap yX3_swap, Cond.code yX3_swap cX3_swap 6 none, Cond.methodLink RX3 96 yX3_store, Cond.instanceMethod yX3_store, Cond.selects RX3 yX3_store yX3_store, Cond.code yX3_store cX3_store 3 none, Cond.fieldLink RX3 7 "TreePairsModel" "sizes" "[I", Cond.fieldLink RX3 13 "TreePairsModel" "pairOf" "[I"]
def wsX3_strong : List Cond := .code yX3_strong cX3_strong 3 (some .int) :: ((wsX3_strong_r1 ++ wsX3_strong_r2) ++ wsX30)
def wsX3_then_r1 : List Cond := [Cond.fieldLink RX3 51 "TreePairsModel" "size" "I", Cond.methodLink RX3 47 yX3_isSlot, Cond.static yX3_isSlot, Cond.initialized RX3, Cond.code yX3_isSlot cX3_isSlot 1 (some .boolean), Cond.constantLong RX3 41 (11), Cond.methodLink RX3 43 yX3_in, Cond.static yX3_in, Cond.code yX3_in cX3_in 6 (some .boolean), Cond.methodLink RX3 104 yX3_isMap, Cond.instanceMethod yX3_isMap, Cond.selects RX3 yX3_isMap yX3_isMap, Cond.code yX3_isMap cX3_isMap 2 (some .boolean), Cond.fieldLink RX3 7 "TreePairsModel" "sizes" "[I", Cond.methodLink RX3 107 yX3_load, Cond.instanceMethod yX3_load, Cond.selects RX3 yX3_load yX3_load, Cond.code yX3_load cX3_load 4 none, Cond.fieldLink RX3 13 "TreePairsModel" "pairOf" "[I", Cond.methodLink RX3 55 yX3_put, Cond.instanceMethod yX3_put, Cond.selects RX3 yX3_put yX3_put, Cond.code yX3_put cX3_put 9 none, Cond.fieldLink RX3 19 "TreePairsModel" "work" "[J"]
def wsX3_then_r2 : List Cond := [Cond.methodLink RX3 110 yX3_aside, Cond.instanceMethod yX3_aside, Cond.selects RX3 yX3_aside yX3_aside, Cond.code yX3_aside cX3_aside 2 none, Cond.fieldLink RX3 59 "TreePairsModel" "otherSize" "I", Cond.fieldLink RX3 23 "TreePairsModel" "other" "[J", Cond.methodLink RX3 113 yX3_follow, Cond.instanceMethod yX3_follow, Cond.selects RX3 yX3_follow yX3_follow, Cond.code yX3_follow cX3_follow 14 none, Cond.fieldLink RX3 35 "TreePairsModel" "then" "[J", Cond.methodLink RX3 79 yX3_reduce, Cond.instanceMethod yX3_reduce, Cond.selects RX3 yX3_reduce yX3_reduce, Cond.code yX3_reduce cX3_reduce 4 none, Cond.constantLong RX3 65 (2), Cond.methodLink RX3 67 yX3_remove, Cond.instanceMethod yX3_remove, Cond.selects RX3 yX3_remove yX3_remove, Cond.code yX3_remove cX3_remove 3 none, Cond.methodLink RX3 62 yX3_arrange, Cond.instanceMethod yX3_arrange, Cond.selects RX3 yX3_arrange yX3_arrange, Cond.code yX3_arrange cX3_arrange 3 none]
def wsX3_then_r3 : List Cond := [Cond.methodLink RX3 71 yX3_isLeft, Cond.instanceMethod yX3_isLeft, Cond.selects RX3 yX3_isLeft yX3_isLeft, Cond.code yX3_isLeft cX3_isLeft 10 (some .boolean), Cond.methodLink RX3 75 yX3_swap, Cond.instanceMethod yX3_swap, Cond.selects RX3 yX3_swap yX3_swap, Cond.code yX3_swap cX3_swap 6 none, Cond.methodLink RX3 96 yX3_store, Cond.instanceMethod yX3_store, Cond.selects RX3 yX3_store yX3_store, Cond.code yX3_store cX3_store 3 none]
def wsX3_then : List Cond := .code yX3_then cX3_then 4 (some .int) :: ((wsX3_then_r1 ++ (wsX3_then_r2 ++ wsX3_then_r3)) ++ wsX30)
def wsX3_turn_r1 : List Cond := [Cond.fieldLink RX3 51 "TreePairsModel" "size" "I", Cond.methodLink RX3 47 yX3_isSlot, Cond.static yX3_isSlot, Cond.initialized RX3, Cond.code yX3_isSlot cX3_isSlot 1 (some .boolean), Cond.constantLong RX3 41 (11), Cond.methodLink RX3 43 yX3_in, Cond.static yX3_in, Cond.code yX3_in cX3_in 6 (some .boolean), Cond.methodLink RX3 104 yX3_isMap, Cond.instanceMethod yX3_isMap, Cond.selects RX3 yX3_isMap yX3_isMap, Cond.code yX3_isMap cX3_isMap 2 (some .boolean), Cond.fieldLink RX3 7 "TreePairsModel" "sizes" "[I", Cond.methodLink RX3 107 yX3_load, Cond.instanceMethod yX3_load, Cond.selects RX3 yX3_load yX3_load, Cond.code yX3_load cX3_load 4 none, Cond.fieldLink RX3 13 "TreePairsModel" "pairOf" "[I", Cond.methodLink RX3 55 yX3_put, Cond.instanceMethod yX3_put, Cond.selects RX3 yX3_put yX3_put, Cond.code yX3_put cX3_put 9 none, Cond.fieldLink RX3 19 "TreePairsModel" "work" "[J"]
def wsX3_turn_r2 : List Cond := [Cond.methodLink RX3 116 yX3_turnWork, Cond.instanceMethod yX3_turnWork, Cond.selects RX3 yX3_turnWork yX3_turnWork, Cond.code yX3_turnWork cX3_turnWork 6 none, Cond.methodLink RX3 62 yX3_arrange, Cond.instanceMethod yX3_arrange, Cond.selects RX3 yX3_arrange yX3_arrange, Cond.code yX3_arrange cX3_arrange 3 none, Cond.methodLink RX3 71 yX3_isLeft, Cond.instanceMethod yX3_isLeft, Cond.selects RX3 yX3_isLeft yX3_isLeft, Cond.code yX3_isLeft cX3_isLeft 10 (some .boolean), Cond.methodLink RX3 75 yX3_swap, Cond.instanceMethod yX3_swap, Cond.selects RX3 yX3_swap yX3_swap, Cond.code yX3_swap cX3_swap 6 none, Cond.methodLink RX3 96 yX3_store, Cond.instanceMethod yX3_store, Cond.selects RX3 yX3_store yX3_store, Cond.code yX3_store cX3_store 3 none]
def wsX3_turn : List Cond := .code yX3_turn cX3_turn 3 (some .int) :: ((wsX3_turn_r1 ++ wsX3_turn_r2) ++ wsX30)
def wsX3_power_r1 : List Cond := [Cond.constantLong RX3 119 (-12), Cond.constantLong RX3 121 (12), Cond.fieldLink RX3 51 "TreePairsModel" "size" "I", Cond.methodLink RX3 47 yX3_isSlot, Cond.static yX3_isSlot, Cond.initialized RX3, Cond.code yX3_isSlot cX3_isSlot 1 (some .boolean), Cond.constantLong RX3 41 (11), Cond.methodLink RX3 43 yX3_in, Cond.static yX3_in, Cond.code yX3_in cX3_in 6 (some .boolean), Cond.methodLink RX3 104 yX3_isMap, Cond.instanceMethod yX3_isMap, Cond.selects RX3 yX3_isMap yX3_isMap, Cond.code yX3_isMap cX3_isMap 2 (some .boolean), Cond.fieldLink RX3 7 "TreePairsModel" "sizes" "[I", Cond.methodLink RX3 123 yX3_nothing, Cond.instanceMethod yX3_nothing, Cond.selects RX3 yX3_nothing yX3_nothing, Cond.code yX3_nothing cX3_nothing 1 none, Cond.methodLink RX3 55 yX3_put, Cond.instanceMethod yX3_put, Cond.selects RX3 yX3_put yX3_put, Cond.code yX3_put cX3_put 9 none]
def wsX3_power_r2 : List Cond := [Cond.fieldLink RX3 19 "TreePairsModel" "work" "[J", Cond.methodLink RX3 110 yX3_aside, Cond.instanceMethod yX3_aside, Cond.selects RX3 yX3_aside yX3_aside, Cond.code yX3_aside cX3_aside 2 none, Cond.fieldLink RX3 59 "TreePairsModel" "otherSize" "I", Cond.fieldLink RX3 23 "TreePairsModel" "other" "[J", Cond.methodLink RX3 107 yX3_load, Cond.instanceMethod yX3_load, Cond.selects RX3 yX3_load yX3_load, Cond.code yX3_load cX3_load 4 none, Cond.fieldLink RX3 13 "TreePairsModel" "pairOf" "[I", Cond.methodLink RX3 116 yX3_turnWork, Cond.instanceMethod yX3_turnWork, Cond.selects RX3 yX3_turnWork yX3_turnWork, Cond.code yX3_turnWork cX3_turnWork 6 none, Cond.methodLink RX3 62 yX3_arrange, Cond.instanceMethod yX3_arrange, Cond.selects RX3 yX3_arrange yX3_arrange, Cond.code yX3_arrange cX3_arrange 3 none, Cond.methodLink RX3 71 yX3_isLeft, Cond.instanceMethod yX3_isLeft, Cond.selects RX3 yX3_isLeft yX3_isLeft, Cond.code yX3_isLeft cX3_isLeft 10 (some .boolean)]
def wsX3_power_r3 : List Cond := [Cond.methodLink RX3 75 yX3_swap, Cond.instanceMethod yX3_swap, Cond.selects RX3 yX3_swap yX3_swap, Cond.code yX3_swap cX3_swap 6 none, Cond.methodLink RX3 113 yX3_follow, Cond.instanceMethod yX3_follow, Cond.selects RX3 yX3_follow yX3_follow, Cond.code yX3_follow cX3_follow 14 none, Cond.fieldLink RX3 35 "TreePairsModel" "then" "[J", Cond.methodLink RX3 79 yX3_reduce, Cond.instanceMethod yX3_reduce, Cond.selects RX3 yX3_reduce yX3_reduce, Cond.code yX3_reduce cX3_reduce 4 none, Cond.constantLong RX3 65 (2), Cond.methodLink RX3 67 yX3_remove, Cond.instanceMethod yX3_remove, Cond.selects RX3 yX3_remove yX3_remove, Cond.code yX3_remove cX3_remove 3 none, Cond.methodLink RX3 96 yX3_store, Cond.instanceMethod yX3_store, Cond.selects RX3 yX3_store yX3_store, Cond.code yX3_store cX3_store 3 none]
def wsX3_power : List Cond := .code yX3_power cX3_power 5 (some .int) :: ((wsX3_power_r1 ++ (wsX3_power_r2 ++ wsX3_power_r3)) ++ wsX30)
def wsX3_drop : List Cond := .code yX3_drop cX3_drop 3 (some .int) :: ([.fieldLink RX3 7 "TreePairsModel" "sizes" "[I", .methodLink RX3 104 yX3_isMap, .instanceMethod yX3_isMap, .selects RX3 yX3_isMap yX3_isMap, .initialized RX3, .code yX3_isMap cX3_isMap 2 (some .boolean), .methodLink RX3 47 yX3_isSlot, .static yX3_isSlot, .code yX3_isSlot cX3_isSlot 1 (some .boolean), .constantLong RX3 41 (11), .methodLink RX3 43 yX3_in, .static yX3_in, .code yX3_in cX3_in 6 (some .boolean)] ++ wsX30)
def wsX3_leaves : List Cond := .code yX3_leaves cX3_leaves 2 (some .int) :: ([.fieldLink RX3 7 "TreePairsModel" "sizes" "[I", .methodLink RX3 104 yX3_isMap, .instanceMethod yX3_isMap, .selects RX3 yX3_isMap yX3_isMap, .initialized RX3, .code yX3_isMap cX3_isMap 2 (some .boolean), .methodLink RX3 47 yX3_isSlot, .static yX3_isSlot, .code yX3_isSlot cX3_isSlot 1 (some .boolean), .constantLong RX3 41 (11), .methodLink RX3 43 yX3_in, .static yX3_in, .code yX3_in cX3_in 6 (some .boolean)] ++ wsX30)
def wsX3_sortOf : List Cond := .code yX3_sortOf cX3_sortOf 5 (some .int) :: ([.fieldLink RX3 51 "TreePairsModel" "size" "I", .methodLink RX3 107 yX3_load, .instanceMethod yX3_load, .selects RX3 yX3_load yX3_load, .initialized RX3, .code yX3_load cX3_load 4 none, .fieldLink RX3 7 "TreePairsModel" "sizes" "[I", .fieldLink RX3 13 "TreePairsModel" "pairOf" "[I", .methodLink RX3 55 yX3_put, .instanceMethod yX3_put, .selects RX3 yX3_put yX3_put, .code yX3_put cX3_put 9 none, .fieldLink RX3 19 "TreePairsModel" "work" "[J", .methodLink RX3 71 yX3_isLeft, .instanceMethod yX3_isLeft, .selects RX3 yX3_isLeft yX3_isLeft, .code yX3_isLeft cX3_isLeft 10 (some .boolean)] ++ wsX30)
def wsX3_sort_r1 : List Cond := [Cond.methodLink RX3 104 yX3_isMap, Cond.instanceMethod yX3_isMap, Cond.selects RX3 yX3_isMap yX3_isMap, Cond.initialized RX3, Cond.code yX3_isMap cX3_isMap 2 (some .boolean), Cond.fieldLink RX3 7 "TreePairsModel" "sizes" "[I", Cond.methodLink RX3 47 yX3_isSlot, Cond.static yX3_isSlot, Cond.code yX3_isSlot cX3_isSlot 1 (some .boolean), Cond.constantLong RX3 41 (11), Cond.methodLink RX3 43 yX3_in, Cond.static yX3_in, Cond.code yX3_in cX3_in 6 (some .boolean), Cond.methodLink RX3 126 yX3_sortOf, Cond.instanceMethod yX3_sortOf, Cond.selects RX3 yX3_sortOf yX3_sortOf, Cond.code yX3_sortOf cX3_sortOf 5 (some .int), Cond.fieldLink RX3 51 "TreePairsModel" "size" "I", Cond.methodLink RX3 107 yX3_load, Cond.instanceMethod yX3_load, Cond.selects RX3 yX3_load yX3_load, Cond.code yX3_load cX3_load 4 none, Cond.fieldLink RX3 13 "TreePairsModel" "pairOf" "[I", Cond.methodLink RX3 55 yX3_put]
def wsX3_sort_r2 : List Cond := [Cond.instanceMethod yX3_put, Cond.selects RX3 yX3_put yX3_put, Cond.code yX3_put cX3_put 9 none, Cond.fieldLink RX3 19 "TreePairsModel" "work" "[J", Cond.methodLink RX3 71 yX3_isLeft, Cond.instanceMethod yX3_isLeft, Cond.selects RX3 yX3_isLeft yX3_isLeft, Cond.code yX3_isLeft cX3_isLeft 10 (some .boolean)]
def wsX3_sort : List Cond := .code yX3_sort cX3_sort 2 (some .int) :: ((wsX3_sort_r1 ++ wsX3_sort_r2) ++ wsX30)
def wsX3_leaf : List Cond := .code yX3_leaf cX3_leaf 4 (some .int) :: ([.fieldLink RX3 7 "TreePairsModel" "sizes" "[I", .constantLong RX3 130 (3), .fieldLink RX3 13 "TreePairsModel" "pairOf" "[I", .methodLink RX3 104 yX3_isMap, .instanceMethod yX3_isMap, .selects RX3 yX3_isMap yX3_isMap, .initialized RX3, .code yX3_isMap cX3_isMap 2 (some .boolean), .methodLink RX3 47 yX3_isSlot, .static yX3_isSlot, .code yX3_isSlot cX3_isSlot 1 (some .boolean), .constantLong RX3 41 (11), .methodLink RX3 43 yX3_in, .static yX3_in, .code yX3_in cX3_in 6 (some .boolean)] ++ wsX30)
def wsX3_same : List Cond := .code yX3_same cX3_same 5 (some .int) :: ([.fieldLink RX3 7 "TreePairsModel" "sizes" "[I", .fieldLink RX3 13 "TreePairsModel" "pairOf" "[I", .methodLink RX3 104 yX3_isMap, .instanceMethod yX3_isMap, .selects RX3 yX3_isMap yX3_isMap, .initialized RX3, .code yX3_isMap cX3_isMap 2 (some .boolean), .methodLink RX3 47 yX3_isSlot, .static yX3_isSlot, .code yX3_isSlot cX3_isSlot 1 (some .boolean), .constantLong RX3 41 (11), .methodLink RX3 43 yX3_in, .static yX3_in, .code yX3_in cX3_in 6 (some .boolean)] ++ wsX30)
def wsX3_commute_r1 : List Cond := [Cond.fieldLink RX3 51 "TreePairsModel" "size" "I", Cond.fieldLink RX3 38 "TreePairsModel" "product" "[J", Cond.fieldLink RX3 19 "TreePairsModel" "work" "[J", Cond.methodLink RX3 104 yX3_isMap, Cond.instanceMethod yX3_isMap, Cond.selects RX3 yX3_isMap yX3_isMap, Cond.initialized RX3, Cond.code yX3_isMap cX3_isMap 2 (some .boolean), Cond.fieldLink RX3 7 "TreePairsModel" "sizes" "[I", Cond.methodLink RX3 47 yX3_isSlot, Cond.static yX3_isSlot, Cond.code yX3_isSlot cX3_isSlot 1 (some .boolean), Cond.constantLong RX3 41 (11), Cond.methodLink RX3 43 yX3_in, Cond.static yX3_in, Cond.code yX3_in cX3_in 6 (some .boolean), Cond.methodLink RX3 107 yX3_load, Cond.instanceMethod yX3_load, Cond.selects RX3 yX3_load yX3_load, Cond.code yX3_load cX3_load 4 none, Cond.fieldLink RX3 13 "TreePairsModel" "pairOf" "[I", Cond.methodLink RX3 55 yX3_put, Cond.instanceMethod yX3_put, Cond.selects RX3 yX3_put yX3_put]
def wsX3_commute_r2 : List Cond := [Cond.code yX3_put cX3_put 9 none, Cond.methodLink RX3 110 yX3_aside, Cond.instanceMethod yX3_aside, Cond.selects RX3 yX3_aside yX3_aside, Cond.code yX3_aside cX3_aside 2 none, Cond.fieldLink RX3 59 "TreePairsModel" "otherSize" "I", Cond.fieldLink RX3 23 "TreePairsModel" "other" "[J", Cond.methodLink RX3 113 yX3_follow, Cond.instanceMethod yX3_follow, Cond.selects RX3 yX3_follow yX3_follow, Cond.code yX3_follow cX3_follow 14 none, Cond.fieldLink RX3 35 "TreePairsModel" "then" "[J", Cond.methodLink RX3 79 yX3_reduce, Cond.instanceMethod yX3_reduce, Cond.selects RX3 yX3_reduce yX3_reduce, Cond.code yX3_reduce cX3_reduce 4 none, Cond.constantLong RX3 65 (2), Cond.methodLink RX3 67 yX3_remove, Cond.instanceMethod yX3_remove, Cond.selects RX3 yX3_remove yX3_remove, Cond.code yX3_remove cX3_remove 3 none, Cond.methodLink RX3 62 yX3_arrange, Cond.instanceMethod yX3_arrange, Cond.selects RX3 yX3_arrange yX3_arrange]
def wsX3_commute_r3 : List Cond := [Cond.code yX3_arrange cX3_arrange 3 none, Cond.methodLink RX3 71 yX3_isLeft, Cond.instanceMethod yX3_isLeft, Cond.selects RX3 yX3_isLeft yX3_isLeft, Cond.code yX3_isLeft cX3_isLeft 10 (some .boolean), Cond.methodLink RX3 75 yX3_swap, Cond.instanceMethod yX3_swap, Cond.selects RX3 yX3_swap yX3_swap, Cond.code yX3_swap cX3_swap 6 none]
def wsX3_commute : List Cond := .code yX3_commute cX3_commute 6 (some .int) :: ((wsX3_commute_r1 ++ (wsX3_commute_r2 ++ wsX3_commute_r3)) ++ wsX30)
def wsX3_order_r1 : List Cond := [Cond.fieldLink RX3 51 "TreePairsModel" "size" "I", Cond.methodLink RX3 104 yX3_isMap, Cond.instanceMethod yX3_isMap, Cond.selects RX3 yX3_isMap yX3_isMap, Cond.initialized RX3, Cond.code yX3_isMap cX3_isMap 2 (some .boolean), Cond.fieldLink RX3 7 "TreePairsModel" "sizes" "[I", Cond.methodLink RX3 47 yX3_isSlot, Cond.static yX3_isSlot, Cond.code yX3_isSlot cX3_isSlot 1 (some .boolean), Cond.constantLong RX3 41 (11), Cond.methodLink RX3 43 yX3_in, Cond.static yX3_in, Cond.code yX3_in cX3_in 6 (some .boolean), Cond.methodLink RX3 123 yX3_nothing, Cond.instanceMethod yX3_nothing, Cond.selects RX3 yX3_nothing yX3_nothing, Cond.code yX3_nothing cX3_nothing 1 none, Cond.methodLink RX3 55 yX3_put, Cond.instanceMethod yX3_put, Cond.selects RX3 yX3_put yX3_put, Cond.code yX3_put cX3_put 9 none, Cond.fieldLink RX3 19 "TreePairsModel" "work" "[J", Cond.methodLink RX3 110 yX3_aside]
def wsX3_order_r2 : List Cond := [Cond.instanceMethod yX3_aside, Cond.selects RX3 yX3_aside yX3_aside, Cond.code yX3_aside cX3_aside 2 none, Cond.fieldLink RX3 59 "TreePairsModel" "otherSize" "I", Cond.fieldLink RX3 23 "TreePairsModel" "other" "[J", Cond.methodLink RX3 107 yX3_load, Cond.instanceMethod yX3_load, Cond.selects RX3 yX3_load yX3_load, Cond.code yX3_load cX3_load 4 none, Cond.fieldLink RX3 13 "TreePairsModel" "pairOf" "[I", Cond.methodLink RX3 113 yX3_follow, Cond.instanceMethod yX3_follow, Cond.selects RX3 yX3_follow yX3_follow, Cond.code yX3_follow cX3_follow 14 none, Cond.fieldLink RX3 35 "TreePairsModel" "then" "[J", Cond.methodLink RX3 79 yX3_reduce, Cond.instanceMethod yX3_reduce, Cond.selects RX3 yX3_reduce yX3_reduce, Cond.code yX3_reduce cX3_reduce 4 none, Cond.constantLong RX3 65 (2), Cond.methodLink RX3 67 yX3_remove, Cond.instanceMethod yX3_remove, Cond.selects RX3 yX3_remove yX3_remove, Cond.code yX3_remove cX3_remove 3 none]
def wsX3_order_r3 : List Cond := [Cond.methodLink RX3 62 yX3_arrange, Cond.instanceMethod yX3_arrange, Cond.selects RX3 yX3_arrange yX3_arrange, Cond.code yX3_arrange cX3_arrange 3 none, Cond.methodLink RX3 71 yX3_isLeft, Cond.instanceMethod yX3_isLeft, Cond.selects RX3 yX3_isLeft yX3_isLeft, Cond.code yX3_isLeft cX3_isLeft 10 (some .boolean), Cond.methodLink RX3 75 yX3_swap, Cond.instanceMethod yX3_swap, Cond.selects RX3 yX3_swap yX3_swap, Cond.code yX3_swap cX3_swap 6 none, Cond.methodLink RX3 132 yX3_isNothing, Cond.instanceMethod yX3_isNothing, Cond.selects RX3 yX3_isNothing yX3_isNothing, Cond.code yX3_isNothing cX3_isNothing 1 (some .boolean)]
def wsX3_order : List Cond := .code yX3_order cX3_order 3 (some .int) :: ((wsX3_order_r1 ++ (wsX3_order_r2 ++ wsX3_order_r3)) ++ wsX30)
def wsX3_wordOf : List Cond := .code yX3_wordOf cX3_wordOf 4 (some .int) :: ([.fieldLink RX3 136 "TreePairsModel" "words" "I", .fieldLink RX3 26 "TreePairsModel" "wordSize" "[I", .fieldLink RX3 51 "TreePairsModel" "size" "I", .fieldLink RX3 29 "TreePairsModel" "wordPair" "[I", .fieldLink RX3 19 "TreePairsModel" "work" "[J"] ++ wsX30)
def wsX3_note : List Cond := .code yX3_note cX3_note 2 none :: ([.fieldLink RX3 26 "TreePairsModel" "wordSize" "[I", .fieldLink RX3 136 "TreePairsModel" "words" "I", .fieldLink RX3 51 "TreePairsModel" "size" "I", .fieldLink RX3 29 "TreePairsModel" "wordPair" "[I", .fieldLink RX3 19 "TreePairsModel" "work" "[J", .methodLink RX3 139 yX3_wordOf, .instanceMethod yX3_wordOf, .selects RX3 yX3_wordOf yX3_wordOf, .initialized RX3, .code yX3_wordOf cX3_wordOf 4 (some .int)] ++ wsX30)
def wsX3_loadWord : List Cond := .code yX3_loadWord cX3_loadWord 4 none :: ([.fieldLink RX3 51 "TreePairsModel" "size" "I", .fieldLink RX3 26 "TreePairsModel" "wordSize" "[I", .fieldLink RX3 29 "TreePairsModel" "wordPair" "[I", .methodLink RX3 55 yX3_put, .instanceMethod yX3_put, .selects RX3 yX3_put yX3_put, .initialized RX3, .code yX3_put cX3_put 9 none, .fieldLink RX3 19 "TreePairsModel" "work" "[J"] ++ wsX30)
def wsX3_makeBall_r1 : List Cond := [Cond.fieldLink RX3 143 "TreePairsModel" "hasBall" "Z", Cond.fieldLink RX3 32 "TreePairsModel" "first" "[I", Cond.fieldLink RX3 136 "TreePairsModel" "words" "I", Cond.methodLink RX3 123 yX3_nothing, Cond.instanceMethod yX3_nothing, Cond.selects RX3 yX3_nothing yX3_nothing, Cond.initialized RX3, Cond.code yX3_nothing cX3_nothing 1 none, Cond.fieldLink RX3 51 "TreePairsModel" "size" "I", Cond.methodLink RX3 55 yX3_put, Cond.instanceMethod yX3_put, Cond.selects RX3 yX3_put yX3_put, Cond.code yX3_put cX3_put 9 none, Cond.fieldLink RX3 19 "TreePairsModel" "work" "[J", Cond.methodLink RX3 147 yX3_note, Cond.instanceMethod yX3_note, Cond.selects RX3 yX3_note yX3_note, Cond.code yX3_note cX3_note 2 none, Cond.fieldLink RX3 26 "TreePairsModel" "wordSize" "[I", Cond.fieldLink RX3 29 "TreePairsModel" "wordPair" "[I", Cond.methodLink RX3 139 yX3_wordOf, Cond.instanceMethod yX3_wordOf, Cond.selects RX3 yX3_wordOf yX3_wordOf, Cond.code yX3_wordOf cX3_wordOf 4 (some .int)]
def wsX3_makeBall_r2 : List Cond := [Cond.methodLink RX3 150 yX3_loadWord, Cond.instanceMethod yX3_loadWord, Cond.selects RX3 yX3_loadWord yX3_loadWord, Cond.code yX3_loadWord cX3_loadWord 4 none, Cond.methodLink RX3 110 yX3_aside, Cond.instanceMethod yX3_aside, Cond.selects RX3 yX3_aside yX3_aside, Cond.code yX3_aside cX3_aside 2 none, Cond.fieldLink RX3 59 "TreePairsModel" "otherSize" "I", Cond.fieldLink RX3 23 "TreePairsModel" "other" "[J", Cond.methodLink RX3 101 yX3_makeStrong, Cond.instanceMethod yX3_makeStrong, Cond.selects RX3 yX3_makeStrong yX3_makeStrong, Cond.code yX3_makeStrong cX3_makeStrong 3 none, Cond.methodLink RX3 62 yX3_arrange, Cond.instanceMethod yX3_arrange, Cond.selects RX3 yX3_arrange yX3_arrange, Cond.code yX3_arrange cX3_arrange 3 none, Cond.methodLink RX3 71 yX3_isLeft, Cond.instanceMethod yX3_isLeft, Cond.selects RX3 yX3_isLeft yX3_isLeft, Cond.code yX3_isLeft cX3_isLeft 10 (some .boolean), Cond.methodLink RX3 75 yX3_swap, Cond.instanceMethod yX3_swap]
def wsX3_makeBall_r3 : List Cond := [Cond.selects RX3 yX3_swap yX3_swap, Cond.code yX3_swap cX3_swap 6 none, Cond.methodLink RX3 116 yX3_turnWork, Cond.instanceMethod yX3_turnWork, Cond.selects RX3 yX3_turnWork yX3_turnWork, Cond.code yX3_turnWork cX3_turnWork 6 none, Cond.methodLink RX3 113 yX3_follow, Cond.instanceMethod yX3_follow, Cond.selects RX3 yX3_follow yX3_follow, Cond.code yX3_follow cX3_follow 14 none, Cond.fieldLink RX3 35 "TreePairsModel" "then" "[J", Cond.methodLink RX3 79 yX3_reduce, Cond.instanceMethod yX3_reduce, Cond.selects RX3 yX3_reduce yX3_reduce, Cond.code yX3_reduce cX3_reduce 4 none, Cond.constantLong RX3 65 (2), Cond.methodLink RX3 67 yX3_remove, Cond.instanceMethod yX3_remove, Cond.selects RX3 yX3_remove yX3_remove, Cond.code yX3_remove cX3_remove 3 none]
def wsX3_makeBall : List Cond := .code yX3_makeBall cX3_makeBall 4 none :: ((wsX3_makeBall_r1 ++ (wsX3_makeBall_r2 ++ wsX3_makeBall_r3)) ++ wsX30)
def wsX3_length_r1 : List Cond := [Cond.fieldLink RX3 32 "TreePairsModel" "first" "[I", Cond.methodLink RX3 104 yX3_isMap, Cond.instanceMethod yX3_isMap, Cond.selects RX3 yX3_isMap yX3_isMap, Cond.initialized RX3, Cond.code yX3_isMap cX3_isMap 2 (some .boolean), Cond.fieldLink RX3 7 "TreePairsModel" "sizes" "[I", Cond.methodLink RX3 47 yX3_isSlot, Cond.static yX3_isSlot, Cond.code yX3_isSlot cX3_isSlot 1 (some .boolean), Cond.constantLong RX3 41 (11), Cond.methodLink RX3 43 yX3_in, Cond.static yX3_in, Cond.code yX3_in cX3_in 6 (some .boolean), Cond.methodLink RX3 153 yX3_makeBall, Cond.instanceMethod yX3_makeBall, Cond.selects RX3 yX3_makeBall yX3_makeBall, Cond.code yX3_makeBall cX3_makeBall 4 none, Cond.fieldLink RX3 143 "TreePairsModel" "hasBall" "Z", Cond.fieldLink RX3 136 "TreePairsModel" "words" "I", Cond.methodLink RX3 123 yX3_nothing, Cond.instanceMethod yX3_nothing, Cond.selects RX3 yX3_nothing yX3_nothing, Cond.code yX3_nothing cX3_nothing 1 none]
def wsX3_length_r2 : List Cond := [Cond.fieldLink RX3 51 "TreePairsModel" "size" "I", Cond.methodLink RX3 55 yX3_put, Cond.instanceMethod yX3_put, Cond.selects RX3 yX3_put yX3_put, Cond.code yX3_put cX3_put 9 none, Cond.fieldLink RX3 19 "TreePairsModel" "work" "[J", Cond.methodLink RX3 147 yX3_note, Cond.instanceMethod yX3_note, Cond.selects RX3 yX3_note yX3_note, Cond.code yX3_note cX3_note 2 none, Cond.fieldLink RX3 26 "TreePairsModel" "wordSize" "[I", Cond.fieldLink RX3 29 "TreePairsModel" "wordPair" "[I", Cond.methodLink RX3 139 yX3_wordOf, Cond.instanceMethod yX3_wordOf, Cond.selects RX3 yX3_wordOf yX3_wordOf, Cond.code yX3_wordOf cX3_wordOf 4 (some .int), Cond.methodLink RX3 150 yX3_loadWord, Cond.instanceMethod yX3_loadWord, Cond.selects RX3 yX3_loadWord yX3_loadWord, Cond.code yX3_loadWord cX3_loadWord 4 none, Cond.methodLink RX3 110 yX3_aside, Cond.instanceMethod yX3_aside, Cond.selects RX3 yX3_aside yX3_aside, Cond.code yX3_aside cX3_aside 2 none]
def wsX3_length_r3 : List Cond := [Cond.fieldLink RX3 59 "TreePairsModel" "otherSize" "I", Cond.fieldLink RX3 23 "TreePairsModel" "other" "[J", Cond.methodLink RX3 101 yX3_makeStrong, Cond.instanceMethod yX3_makeStrong, Cond.selects RX3 yX3_makeStrong yX3_makeStrong, Cond.code yX3_makeStrong cX3_makeStrong 3 none, Cond.methodLink RX3 62 yX3_arrange, Cond.instanceMethod yX3_arrange, Cond.selects RX3 yX3_arrange yX3_arrange, Cond.code yX3_arrange cX3_arrange 3 none, Cond.methodLink RX3 71 yX3_isLeft, Cond.instanceMethod yX3_isLeft, Cond.selects RX3 yX3_isLeft yX3_isLeft, Cond.code yX3_isLeft cX3_isLeft 10 (some .boolean), Cond.methodLink RX3 75 yX3_swap, Cond.instanceMethod yX3_swap, Cond.selects RX3 yX3_swap yX3_swap, Cond.code yX3_swap cX3_swap 6 none, Cond.methodLink RX3 116 yX3_turnWork, Cond.instanceMethod yX3_turnWork, Cond.selects RX3 yX3_turnWork yX3_turnWork, Cond.code yX3_turnWork cX3_turnWork 6 none, Cond.methodLink RX3 113 yX3_follow, Cond.instanceMethod yX3_follow]
def wsX3_length_r4 : List Cond := [Cond.selects RX3 yX3_follow yX3_follow, Cond.code yX3_follow cX3_follow 14 none, Cond.fieldLink RX3 35 "TreePairsModel" "then" "[J", Cond.methodLink RX3 79 yX3_reduce, Cond.instanceMethod yX3_reduce, Cond.selects RX3 yX3_reduce yX3_reduce, Cond.code yX3_reduce cX3_reduce 4 none, Cond.constantLong RX3 65 (2), Cond.methodLink RX3 67 yX3_remove, Cond.instanceMethod yX3_remove, Cond.selects RX3 yX3_remove yX3_remove, Cond.code yX3_remove cX3_remove 3 none, Cond.methodLink RX3 107 yX3_load, Cond.instanceMethod yX3_load, Cond.selects RX3 yX3_load yX3_load, Cond.code yX3_load cX3_load 4 none, Cond.fieldLink RX3 13 "TreePairsModel" "pairOf" "[I"]
def wsX3_length : List Cond := .code yX3_length cX3_length 4 (some .int) :: ((wsX3_length_r1 ++ (wsX3_length_r2 ++ (wsX3_length_r3 ++ wsX3_length_r4))) ++ wsX30)
def wsX3_ball_r1 : List Cond := [Cond.constantLong RX3 156 (4), Cond.fieldLink RX3 32 "TreePairsModel" "first" "[I", Cond.methodLink RX3 43 yX3_in, Cond.static yX3_in, Cond.initialized RX3, Cond.code yX3_in cX3_in 6 (some .boolean), Cond.methodLink RX3 153 yX3_makeBall, Cond.instanceMethod yX3_makeBall, Cond.selects RX3 yX3_makeBall yX3_makeBall, Cond.code yX3_makeBall cX3_makeBall 4 none, Cond.fieldLink RX3 143 "TreePairsModel" "hasBall" "Z", Cond.fieldLink RX3 136 "TreePairsModel" "words" "I", Cond.methodLink RX3 123 yX3_nothing, Cond.instanceMethod yX3_nothing, Cond.selects RX3 yX3_nothing yX3_nothing, Cond.code yX3_nothing cX3_nothing 1 none, Cond.fieldLink RX3 51 "TreePairsModel" "size" "I", Cond.methodLink RX3 55 yX3_put, Cond.instanceMethod yX3_put, Cond.selects RX3 yX3_put yX3_put, Cond.code yX3_put cX3_put 9 none, Cond.fieldLink RX3 19 "TreePairsModel" "work" "[J", Cond.methodLink RX3 147 yX3_note, Cond.instanceMethod yX3_note]
def wsX3_ball_r2 : List Cond := [Cond.selects RX3 yX3_note yX3_note, Cond.code yX3_note cX3_note 2 none, Cond.fieldLink RX3 26 "TreePairsModel" "wordSize" "[I", Cond.fieldLink RX3 29 "TreePairsModel" "wordPair" "[I", Cond.methodLink RX3 139 yX3_wordOf, Cond.instanceMethod yX3_wordOf, Cond.selects RX3 yX3_wordOf yX3_wordOf, Cond.code yX3_wordOf cX3_wordOf 4 (some .int), Cond.methodLink RX3 150 yX3_loadWord, Cond.instanceMethod yX3_loadWord, Cond.selects RX3 yX3_loadWord yX3_loadWord, Cond.code yX3_loadWord cX3_loadWord 4 none, Cond.methodLink RX3 110 yX3_aside, Cond.instanceMethod yX3_aside, Cond.selects RX3 yX3_aside yX3_aside, Cond.code yX3_aside cX3_aside 2 none, Cond.fieldLink RX3 59 "TreePairsModel" "otherSize" "I", Cond.fieldLink RX3 23 "TreePairsModel" "other" "[J", Cond.methodLink RX3 101 yX3_makeStrong, Cond.instanceMethod yX3_makeStrong, Cond.selects RX3 yX3_makeStrong yX3_makeStrong, Cond.code yX3_makeStrong cX3_makeStrong 3 none, Cond.methodLink RX3 62 yX3_arrange, Cond.instanceMethod yX3_arrange]
def wsX3_ball_r3 : List Cond := [Cond.selects RX3 yX3_arrange yX3_arrange, Cond.code yX3_arrange cX3_arrange 3 none, Cond.methodLink RX3 71 yX3_isLeft, Cond.instanceMethod yX3_isLeft, Cond.selects RX3 yX3_isLeft yX3_isLeft, Cond.code yX3_isLeft cX3_isLeft 10 (some .boolean), Cond.methodLink RX3 75 yX3_swap, Cond.instanceMethod yX3_swap, Cond.selects RX3 yX3_swap yX3_swap, Cond.code yX3_swap cX3_swap 6 none, Cond.methodLink RX3 116 yX3_turnWork, Cond.instanceMethod yX3_turnWork, Cond.selects RX3 yX3_turnWork yX3_turnWork, Cond.code yX3_turnWork cX3_turnWork 6 none, Cond.methodLink RX3 113 yX3_follow, Cond.instanceMethod yX3_follow, Cond.selects RX3 yX3_follow yX3_follow, Cond.code yX3_follow cX3_follow 14 none, Cond.fieldLink RX3 35 "TreePairsModel" "then" "[J", Cond.methodLink RX3 79 yX3_reduce, Cond.instanceMethod yX3_reduce, Cond.selects RX3 yX3_reduce yX3_reduce, Cond.code yX3_reduce cX3_reduce 4 none, Cond.constantLong RX3 65 (2)]
def wsX3_ball_r4 : List Cond := [Cond.methodLink RX3 67 yX3_remove, Cond.instanceMethod yX3_remove, Cond.selects RX3 yX3_remove yX3_remove, Cond.code yX3_remove cX3_remove 3 none]
def wsX3_ball : List Cond := .code yX3_ball cX3_ball 2 (some .int) :: ((wsX3_ball_r1 ++ (wsX3_ball_r2 ++ (wsX3_ball_r3 ++ wsX3_ball_r4))) ++ wsX30)
def wsX3_go : List Cond := .code yX3_go cX3_go 12 (some .int) :: ([.constantLong RX3 158 (30), .fieldLink RX3 7 "TreePairsModel" "sizes" "[I", .fieldLink RX3 13 "TreePairsModel" "pairOf" "[I", .fieldLink RX3 160 "TreePairsModel" "seenD" "I", .fieldLink RX3 163 "TreePairsModel" "seenC" "J", .constantLong RX3 65 (2), .methodLink RX3 104 yX3_isMap, .instanceMethod yX3_isMap, .selects RX3 yX3_isMap yX3_isMap, .initialized RX3, .code yX3_isMap cX3_isMap 2 (some .boolean), .methodLink RX3 47 yX3_isSlot, .static yX3_isSlot, .code yX3_isSlot cX3_isSlot 1 (some .boolean), .constantLong RX3 41 (11), .methodLink RX3 43 yX3_in, .static yX3_in, .code yX3_in cX3_in 6 (some .boolean)] ++ wsX30)
def wsX3_seen : List Cond := .code yX3_seen cX3_seen 2 (some .long) :: ([.fieldLink RX3 160 "TreePairsModel" "seenD" "I", .fieldLink RX3 163 "TreePairsModel" "seenC" "J", .constantLong RX3 167 (-102)] ++ wsX30)
def wsX3_slope : List Cond := .code yX3_slope cX3_slope 3 (some .int) :: ([.fieldLink RX3 13 "TreePairsModel" "pairOf" "[I"] ++ wsX30)
def wsX3_bend : List Cond := .code yX3_bend cX3_bend 3 (some .int) :: ([.fieldLink RX3 7 "TreePairsModel" "sizes" "[I", .methodLink RX3 104 yX3_isMap, .instanceMethod yX3_isMap, .selects RX3 yX3_isMap yX3_isMap, .initialized RX3, .code yX3_isMap cX3_isMap 2 (some .boolean), .methodLink RX3 47 yX3_isSlot, .static yX3_isSlot, .code yX3_isSlot cX3_isSlot 1 (some .boolean), .constantLong RX3 41 (11), .methodLink RX3 43 yX3_in, .static yX3_in, .code yX3_in cX3_in 6 (some .boolean), .methodLink RX3 169 yX3_slope, .instanceMethod yX3_slope, .selects RX3 yX3_slope yX3_slope, .code yX3_slope cX3_slope 3 (some .int), .fieldLink RX3 13 "TreePairsModel" "pairOf" "[I"] ++ wsX30)
def wsX3_still : List Cond := .code yX3_still cX3_still 5 (some .int) :: ([.fieldLink RX3 7 "TreePairsModel" "sizes" "[I", .fieldLink RX3 13 "TreePairsModel" "pairOf" "[I", .methodLink RX3 104 yX3_isMap, .instanceMethod yX3_isMap, .selects RX3 yX3_isMap yX3_isMap, .initialized RX3, .code yX3_isMap cX3_isMap 2 (some .boolean), .methodLink RX3 47 yX3_isSlot, .static yX3_isSlot, .code yX3_isSlot cX3_isSlot 1 (some .boolean), .constantLong RX3 41 (11), .methodLink RX3 43 yX3_in, .static yX3_in, .code yX3_in cX3_in 6 (some .boolean)] ++ wsX30)
def wsX3_common : List Cond := .code yX3_common cX3_common 10 (some .long) :: ([])
def wsX3_seek : List Cond := .code yX3_seek cX3_seek 16 (some .int) :: ([.constantLong RX3 173 (-1), .fieldLink RX3 175 "TreePairsModel" "above" "J", .fieldLink RX3 178 "TreePairsModel" "below" "J", .fieldLink RX3 7 "TreePairsModel" "sizes" "[I", .fieldLink RX3 13 "TreePairsModel" "pairOf" "[I", .methodLink RX3 181 yX3_common, .static yX3_common, .initialized RX3, .code yX3_common cX3_common 10 (some .long)] ++ wsX30)
def wsX3_single : List Cond := .code yX3_single cX3_single 2 (some .int) :: ([.methodLink RX3 104 yX3_isMap, .instanceMethod yX3_isMap, .selects RX3 yX3_isMap yX3_isMap, .initialized RX3, .code yX3_isMap cX3_isMap 2 (some .boolean), .fieldLink RX3 7 "TreePairsModel" "sizes" "[I", .methodLink RX3 47 yX3_isSlot, .static yX3_isSlot, .code yX3_isSlot cX3_isSlot 1 (some .boolean), .constantLong RX3 41 (11), .methodLink RX3 43 yX3_in, .static yX3_in, .code yX3_in cX3_in 6 (some .boolean), .methodLink RX3 185 yX3_seek, .instanceMethod yX3_seek, .selects RX3 yX3_seek yX3_seek, .code yX3_seek cX3_seek 16 (some .int), .constantLong RX3 173 (-1), .fieldLink RX3 175 "TreePairsModel" "above" "J", .fieldLink RX3 178 "TreePairsModel" "below" "J", .fieldLink RX3 13 "TreePairsModel" "pairOf" "[I", .methodLink RX3 181 yX3_common, .static yX3_common, .code yX3_common cX3_common 10 (some .long)] ++ wsX30)
def wsX3_point_r1 : List Cond := [Cond.constantLong RX3 188 (-101), Cond.constantLong RX3 167 (-102), Cond.fieldLink RX3 175 "TreePairsModel" "above" "J", Cond.fieldLink RX3 178 "TreePairsModel" "below" "J", Cond.methodLink RX3 104 yX3_isMap, Cond.instanceMethod yX3_isMap, Cond.selects RX3 yX3_isMap yX3_isMap, Cond.initialized RX3, Cond.code yX3_isMap cX3_isMap 2 (some .boolean), Cond.fieldLink RX3 7 "TreePairsModel" "sizes" "[I", Cond.methodLink RX3 47 yX3_isSlot, Cond.static yX3_isSlot, Cond.code yX3_isSlot cX3_isSlot 1 (some .boolean), Cond.constantLong RX3 41 (11), Cond.methodLink RX3 43 yX3_in, Cond.static yX3_in, Cond.code yX3_in cX3_in 6 (some .boolean), Cond.methodLink RX3 185 yX3_seek, Cond.instanceMethod yX3_seek, Cond.selects RX3 yX3_seek yX3_seek, Cond.code yX3_seek cX3_seek 16 (some .int), Cond.constantLong RX3 173 (-1), Cond.fieldLink RX3 13 "TreePairsModel" "pairOf" "[I", Cond.methodLink RX3 181 yX3_common]
def wsX3_point_r2 : List Cond := [Cond.static yX3_common, Cond.code yX3_common cX3_common 10 (some .long)]
def wsX3_point : List Cond := .code yX3_point cX3_point 4 (some .long) :: ((wsX3_point_r1 ++ wsX3_point_r2) ++ wsX30)
def wsX3_count_r1 : List Cond := [Cond.fieldLink RX3 88 "TreePairsModel" "hand" "I", Cond.constantLong RX3 65 (2), Cond.constantLong RX3 156 (4), Cond.fieldLink RX3 7 "TreePairsModel" "sizes" "[I", Cond.methodLink RX3 43 yX3_in, Cond.static yX3_in, Cond.initialized RX3, Cond.code yX3_in cX3_in 6 (some .boolean), Cond.methodLink RX3 126 yX3_sortOf, Cond.instanceMethod yX3_sortOf, Cond.selects RX3 yX3_sortOf yX3_sortOf, Cond.code yX3_sortOf cX3_sortOf 5 (some .int), Cond.fieldLink RX3 51 "TreePairsModel" "size" "I", Cond.methodLink RX3 107 yX3_load, Cond.instanceMethod yX3_load, Cond.selects RX3 yX3_load yX3_load, Cond.code yX3_load cX3_load 4 none, Cond.fieldLink RX3 13 "TreePairsModel" "pairOf" "[I", Cond.methodLink RX3 55 yX3_put, Cond.instanceMethod yX3_put, Cond.selects RX3 yX3_put yX3_put, Cond.code yX3_put cX3_put 9 none, Cond.fieldLink RX3 19 "TreePairsModel" "work" "[J", Cond.methodLink RX3 71 yX3_isLeft]
def wsX3_count_r2 : List Cond := [Cond.instanceMethod yX3_isLeft, Cond.selects RX3 yX3_isLeft yX3_isLeft, Cond.code yX3_isLeft cX3_isLeft 10 (some .boolean)]
def wsX3_count : List Cond := .code yX3_count cX3_count 4 (some .int) :: ((wsX3_count_r1 ++ wsX3_count_r2) ++ wsX30)
def wsX3_mix : List Cond := .code yX3_mix cX3_mix 3 none :: ([.constantLong RX3 190 (31), .fieldLink RX3 192 "TreePairsModel" "h" "J"] ++ wsX30)
def wsX3_digest : List Cond := .code yX3_digest cX3_digest 3 (some .long) :: ([.constantLong RX3 195 (167), .fieldLink RX3 192 "TreePairsModel" "h" "J", .fieldLink RX3 7 "TreePairsModel" "sizes" "[I", .constantLong RX3 173 (-1), .fieldLink RX3 13 "TreePairsModel" "pairOf" "[I", .fieldLink RX3 88 "TreePairsModel" "hand" "I", .fieldLink RX3 16 "TreePairsModel" "atHand" "[I", .fieldLink RX3 160 "TreePairsModel" "seenD" "I", .fieldLink RX3 163 "TreePairsModel" "seenC" "J", .methodLink RX3 197 yX3_mix, .instanceMethod yX3_mix, .selects RX3 yX3_mix yX3_mix, .initialized RX3, .code yX3_mix cX3_mix 3 none, .constantLong RX3 190 (31)] ++ wsX30)
def wsJ9_abs_0f7a4 : List Cond := .code yJ9_abs_0f7a4 cJ9_abs_0f7a4 1 (some .int) :: ([])
def wsJ9_abs_067f4 : List Cond := .code yJ9_abs_067f4 cJ9_abs_067f4 2 (some .long) :: ([])
def wsJ9_max_7cf53 : List Cond := .code yJ9_max_7cf53 cJ9_max_7cf53 2 (some .int) :: ([])
def wsJ9_min_7cf53 : List Cond := .code yJ9_min_7cf53 cJ9_min_7cf53 2 (some .int) :: ([])
def wsL_law_r1 : List Cond := [Cond.classLink RL 7 RX2, Cond.instantiable RX2 8, Cond.initialized RX2, Cond.classLink RL 10 RX3, Cond.instantiable RX3 20, Cond.initialized RX3, Cond.constantLong RL 82 (4294967295), Cond.methodLink RL 9 yX2_init, Cond.instanceMethod yX2_init, Cond.code yX2_init cX2_init 2 none, Cond.methodLink RX2 3 objectInit, Cond.instanceMethod objectInit, Cond.code objectInit ⟨#[0xb1]⟩ 1 none, Cond.classLink RX2 9 RX1, Cond.fieldLink RX2 11 "TreePairs" "maps" "[LTreePairs$Pairs;", Cond.instantiable RX1 5, Cond.initialized RX1, Cond.fieldLink RX2 18 "TreePairs" "hand" "LTreePairs$Pairs;", Cond.fieldLink RX2 22 "TreePairs" "made" "LTreePairs$Pairs;", Cond.fieldLink RX2 25 "TreePairs" "raised" "LTreePairs$Pairs;", Cond.fieldLink RX2 28 "TreePairs" "turned" "LTreePairs$Pairs;", Cond.methodLink RX2 15 yX1_init, Cond.instanceMethod yX1_init, Cond.code yX1_init cX1_init 3 none]
def wsL_law_r2 : List Cond := [Cond.methodLink RX1 3 objectInit, Cond.methodLink RX1 9 Lib.Math.max.name, Cond.static Lib.Math.max.name, Cond.initialized "java/lang/Math", Cond.code Lib.Math.max.name Lib.Math.max.code 2 (some .int), Cond.arrayClass .int, Cond.fieldLink RX1 15 "TreePairs$Pairs" "firstDepth" "[I", Cond.arrayClass .long, Cond.fieldLink RX1 21 "TreePairs$Pairs" "firstPlace" "[J", Cond.fieldLink RX1 25 "TreePairs$Pairs" "secondDepth" "[I", Cond.fieldLink RX1 28 "TreePairs$Pairs" "secondPlace" "[J", Cond.methodLink RL 12 yX3_init, Cond.instanceMethod yX3_init, Cond.code yX3_init cX3_init 1 none, Cond.methodLink RX3 1 objectInit, Cond.fieldLink RX3 7 "TreePairsModel" "sizes" "[I", Cond.fieldLink RX3 13 "TreePairsModel" "pairOf" "[I", Cond.fieldLink RX3 16 "TreePairsModel" "atHand" "[I", Cond.fieldLink RX3 19 "TreePairsModel" "work" "[J", Cond.fieldLink RX3 23 "TreePairsModel" "other" "[J", Cond.fieldLink RX3 26 "TreePairsModel" "wordSize" "[I", Cond.fieldLink RX3 29 "TreePairsModel" "wordPair" "[I", Cond.fieldLink RX3 32 "TreePairsModel" "first" "[I", Cond.fieldLink RX3 35 "TreePairsModel" "then" "[J"]
def wsL_law_r3 : List Cond := [Cond.fieldLink RX3 38 "TreePairsModel" "product" "[J", Cond.methodLink RL 13 yX2_pair, Cond.instanceMethod yX2_pair, Cond.selects RX2 yX2_pair yX2_pair, Cond.code yX2_pair cX2_pair 5 (some .int), Cond.fieldLink RX2 35 "TreePairs$Pairs" "size" "I", Cond.methodLink RX2 31 yX2_isLeaf, Cond.static yX2_isLeaf, Cond.code yX2_isLeaf cX2_isLeaf 2 (some .boolean), Cond.methodLink RX2 39 yX1_add, Cond.instanceMethod yX1_add, Cond.selects RX1 yX1_add yX1_add, Cond.code yX1_add cX1_add 7 none, Cond.fieldLink RX1 31 "TreePairs$Pairs" "size" "I", Cond.methodLink RL 17 yX3_pair, Cond.instanceMethod yX3_pair, Cond.selects RX3 yX3_pair yX3_pair, Cond.code yX3_pair cX3_pair 5 (some .int), Cond.fieldLink RX3 88 "TreePairsModel" "hand" "I", Cond.methodLink RX3 84 yX3_isLeaf, Cond.static yX3_isLeaf, Cond.code yX3_isLeaf cX3_isLeaf 2 (some .boolean), Cond.constantLong RX3 82 (23), Cond.methodLink RX3 43 yX3_in]
def wsL_law_r4 : List Cond := [Cond.static yX3_in, Cond.code yX3_in cX3_in 6 (some .boolean), Cond.methodLink RL 18 yX2_clear, Cond.instanceMethod yX2_clear, Cond.selects RX2 yX2_clear yX2_clear, Cond.code yX2_clear cX2_clear 2 (some .int), Cond.methodLink RL 22 yX3_clear, Cond.instanceMethod yX3_clear, Cond.selects RX3 yX3_clear yX3_clear, Cond.code yX3_clear cX3_clear 2 (some .int), Cond.methodLink RL 23 yX2_make, Cond.instanceMethod yX2_make, Cond.selects RX2 yX2_make yX2_make, Cond.code yX2_make cX2_make 2 (some .int), Cond.methodLink RX2 43 yX2_isNumber, Cond.static yX2_isNumber, Cond.code yX2_isNumber cX2_isNumber 1 (some .boolean), Cond.methodLink RX2 47 yX2_putTurned, Cond.static yX2_putTurned, Cond.code yX2_putTurned cX2_putTurned 3 none, Cond.fieldLink RX2 114 "TreePairs$Pairs" "secondDepth" "[I", Cond.fieldLink RX2 121 "TreePairs$Pairs" "secondPlace" "[J", Cond.fieldLink RX2 111 "TreePairs$Pairs" "firstDepth" "[I", Cond.fieldLink RX2 117 "TreePairs$Pairs" "firstPlace" "[J"]
def wsL_law_r5 : List Cond := [Cond.methodLink RX2 180 yX1_sinkLast, Cond.instanceMethod yX1_sinkLast, Cond.selects RX1 yX1_sinkLast yX1_sinkLast, Cond.code yX1_sinkLast cX1_sinkLast 2 none, Cond.methodLink RX1 45 yX1_firstStart, Cond.instanceMethod yX1_firstStart, Cond.selects RX1 yX1_firstStart yX1_firstStart, Cond.code yX1_firstStart cX1_firstStart 2 (some .long), Cond.static yX2_startOf, Cond.code yX2_startOf cX2_startOf 3 (some .long), Cond.methodLink RX1 49 yX1_exchange, Cond.static yX1_exchange, Cond.code yX1_exchange cX1_exchange 3 none, Cond.methodLink RX1 53 yX1_exchange_, Cond.static yX1_exchange_, Cond.code yX1_exchange_ cX1_exchange_ 4 none, Cond.methodLink RX2 51 yX2_isCut, Cond.static yX2_isCut, Cond.code yX2_isCut cX2_isCut 4 (some .boolean), Cond.methodLink RX2 174 yX1_firstStart, Cond.methodLink RX2 170 yX2_startOf, Cond.methodLink RX2 55 yX2_putReduced, Cond.static yX2_putReduced, Cond.code yX2_putReduced cX2_putReduced 3 none]
def wsL_law_r6 : List Cond := [Cond.methodLink RX2 177 yX1_push, Cond.instanceMethod yX1_push, Cond.selects RX1 yX1_push yX1_push, Cond.code yX1_push cX1_push 7 none, Cond.constantLong RX1 43 (2), Cond.methodLink RX1 35 yX1_add, Cond.methodLink RX1 39 yX1_areLastHalves, Cond.instanceMethod yX1_areLastHalves, Cond.selects RX1 yX1_areLastHalves yX1_areLastHalves, Cond.code yX1_areLastHalves cX1_areLastHalves 3 (some .boolean), Cond.methodLink RL 27 yX3_make, Cond.instanceMethod yX3_make, Cond.selects RX3 yX3_make yX3_make, Cond.code yX3_make cX3_make 3 (some .int), Cond.fieldLink RX3 51 "TreePairsModel" "size" "I", Cond.methodLink RX3 47 yX3_isSlot, Cond.static yX3_isSlot, Cond.code yX3_isSlot cX3_isSlot 1 (some .boolean), Cond.constantLong RX3 41 (11), Cond.methodLink RX3 93 yX3_isCut, Cond.instanceMethod yX3_isCut, Cond.selects RX3 yX3_isCut yX3_isCut, Cond.code yX3_isCut cX3_isCut 10 (some .boolean), Cond.constantLong RX3 91 (8388608)]
def wsL_law_r7 : List Cond := [Cond.methodLink RX3 55 yX3_put, Cond.instanceMethod yX3_put, Cond.selects RX3 yX3_put yX3_put, Cond.code yX3_put cX3_put 9 none, Cond.methodLink RX3 79 yX3_reduce, Cond.instanceMethod yX3_reduce, Cond.selects RX3 yX3_reduce yX3_reduce, Cond.code yX3_reduce cX3_reduce 4 none, Cond.constantLong RX3 65 (2), Cond.methodLink RX3 67 yX3_remove, Cond.instanceMethod yX3_remove, Cond.selects RX3 yX3_remove yX3_remove, Cond.code yX3_remove cX3_remove 3 none, Cond.methodLink RX3 62 yX3_arrange, Cond.instanceMethod yX3_arrange, Cond.selects RX3 yX3_arrange yX3_arrange, Cond.code yX3_arrange cX3_arrange 3 none, Cond.methodLink RX3 71 yX3_isLeft, Cond.instanceMethod yX3_isLeft, Cond.selects RX3 yX3_isLeft yX3_isLeft, Cond.code yX3_isLeft cX3_isLeft 10 (some .boolean), Cond.methodLink RX3 75 yX3_swap, Cond.instanceMethod yX3_swap, Cond.selects RX3 yX3_swap yX3_swap]
def wsL_law_r8 : List Cond := [Cond.code yX3_swap cX3_swap 6 none, Cond.methodLink RX3 96 yX3_store, Cond.instanceMethod yX3_store, Cond.selects RX3 yX3_store yX3_store, Cond.code yX3_store cX3_store 3 none, Cond.methodLink RL 28 yX2_strong, Cond.instanceMethod yX2_strong, Cond.selects RX2 yX2_strong yX2_strong, Cond.code yX2_strong cX2_strong 3 (some .int), Cond.methodLink RX2 58 yX2_putStrong, Cond.static yX2_putStrong, Cond.code yX2_putStrong cX2_putStrong 5 none, Cond.constantLong RX2 183 (2), Cond.constantLong RX2 185 (4), Cond.constantLong RX2 187 (3), Cond.methodLink RL 32 yX3_strong, Cond.instanceMethod yX3_strong, Cond.selects RX3 yX3_strong yX3_strong, Cond.code yX3_strong cX3_strong 3 (some .int), Cond.constantLong RX3 99 (6), Cond.methodLink RX3 101 yX3_makeStrong, Cond.instanceMethod yX3_makeStrong, Cond.selects RX3 yX3_makeStrong yX3_makeStrong, Cond.code yX3_makeStrong cX3_makeStrong 3 none]
def wsL_law_r9 : List Cond := [Cond.methodLink RL 33 yX2_then, Cond.instanceMethod yX2_then, Cond.selects RX2 yX2_then yX2_then, Cond.code yX2_then cX2_then 4 (some .int), Cond.methodLink RX2 62 yX2_isThere, Cond.instanceMethod yX2_isThere, Cond.selects RX2 yX2_isThere yX2_isThere, Cond.code yX2_isThere cX2_isThere 2 (some .boolean), Cond.methodLink RX2 65 yX2_putBehind, Cond.static yX2_putBehind, Cond.code yX2_putBehind cX2_putBehind 8 none, Cond.methodLink RX2 163 yX1_secondEnd, Cond.instanceMethod yX1_secondEnd, Cond.selects RX1 yX1_secondEnd yX1_secondEnd, Cond.code yX1_secondEnd cX1_secondEnd 2 (some .long), Cond.methodLink RX2 167 yX1_secondStart, Cond.instanceMethod yX1_secondStart, Cond.selects RX1 yX1_secondStart yX1_secondStart, Cond.code yX1_secondStart cX1_secondStart 2 (some .long), Cond.methodLink RX2 107 yX1_holderOf, Cond.instanceMethod yX1_holderOf, Cond.selects RX1 yX1_holderOf yX1_holderOf, Cond.code yX1_holderOf cX1_holderOf 5 (some .int), Cond.methodLink RX2 189 yX2_putPiece]
def wsL_law_r10 : List Cond := [Cond.static yX2_putPiece, Cond.code yX2_putPiece cX2_putPiece 8 none, Cond.methodLink RX2 69 yX2_putCopy, Cond.static yX2_putCopy, Cond.code yX2_putCopy cX2_putCopy 3 none, Cond.methodLink RL 37 yX3_then, Cond.instanceMethod yX3_then, Cond.selects RX3 yX3_then yX3_then, Cond.code yX3_then cX3_then 4 (some .int), Cond.methodLink RX3 104 yX3_isMap, Cond.instanceMethod yX3_isMap, Cond.selects RX3 yX3_isMap yX3_isMap, Cond.code yX3_isMap cX3_isMap 2 (some .boolean), Cond.methodLink RX3 107 yX3_load, Cond.instanceMethod yX3_load, Cond.selects RX3 yX3_load yX3_load, Cond.code yX3_load cX3_load 4 none, Cond.methodLink RX3 110 yX3_aside, Cond.instanceMethod yX3_aside, Cond.selects RX3 yX3_aside yX3_aside, Cond.code yX3_aside cX3_aside 2 none, Cond.fieldLink RX3 59 "TreePairsModel" "otherSize" "I", Cond.methodLink RX3 113 yX3_follow, Cond.instanceMethod yX3_follow]
def wsL_law_r11 : List Cond := [Cond.selects RX3 yX3_follow yX3_follow, Cond.code yX3_follow cX3_follow 14 none, Cond.methodLink RL 38 yX2_turn, Cond.instanceMethod yX2_turn, Cond.selects RX2 yX2_turn yX2_turn, Cond.code yX2_turn cX2_turn 3 (some .int), Cond.methodLink RL 41 yX3_turn, Cond.instanceMethod yX3_turn, Cond.selects RX3 yX3_turn yX3_turn, Cond.code yX3_turn cX3_turn 3 (some .int), Cond.methodLink RX3 116 yX3_turnWork, Cond.instanceMethod yX3_turnWork, Cond.selects RX3 yX3_turnWork yX3_turnWork, Cond.code yX3_turnWork cX3_turnWork 6 none, Cond.methodLink RL 42 yX2_power, Cond.instanceMethod yX2_power, Cond.selects RX2 yX2_power yX2_power, Cond.code yX2_power cX2_power 4 (some .int), Cond.methodLink RX2 72 yX2_isRaised, Cond.instanceMethod yX2_isRaised, Cond.selects RX2 yX2_isRaised yX2_isRaised, Cond.code yX2_isRaised cX2_isRaised 6 (some .boolean), Cond.methodLink RX2 193 Lib.Math.abs.name, Cond.static Lib.Math.abs.name]
def wsL_law_r12 : List Cond := [Cond.code Lib.Math.abs.name Lib.Math.abs.code 1 (some .int), Cond.methodLink RX2 88 yX1_becomeNothing, Cond.instanceMethod yX1_becomeNothing, Cond.selects RX1 yX1_becomeNothing yX1_becomeNothing, Cond.code yX1_becomeNothing cX1_becomeNothing 1 none, Cond.methodLink RX2 91 yX2_isOneMore, Cond.instanceMethod yX2_isOneMore, Cond.selects RX2 yX2_isOneMore yX2_isOneMore, Cond.code yX2_isOneMore cX2_isOneMore 2 (some .boolean), Cond.methodLink RL 45 yX3_power, Cond.instanceMethod yX3_power, Cond.selects RX3 yX3_power yX3_power, Cond.code yX3_power cX3_power 5 (some .int), Cond.constantLong RX3 119 (-12), Cond.constantLong RX3 121 (12), Cond.methodLink RX3 123 yX3_nothing, Cond.instanceMethod yX3_nothing, Cond.selects RX3 yX3_nothing yX3_nothing, Cond.code yX3_nothing cX3_nothing 1 none, Cond.methodLink RL 46 yX2_drop, Cond.instanceMethod yX2_drop, Cond.selects RX2 yX2_drop yX2_drop, Cond.code yX2_drop cX2_drop 3 (some .int), Cond.methodLink RL 49 yX3_drop]
def wsL_law_r13 : List Cond := [Cond.instanceMethod yX3_drop, Cond.selects RX3 yX3_drop yX3_drop, Cond.code yX3_drop cX3_drop 3 (some .int), Cond.methodLink RL 50 yX2_leaves, Cond.instanceMethod yX2_leaves, Cond.selects RX2 yX2_leaves yX2_leaves, Cond.code yX2_leaves cX2_leaves 2 (some .int), Cond.methodLink RL 53 yX3_leaves, Cond.instanceMethod yX3_leaves, Cond.selects RX3 yX3_leaves yX3_leaves, Cond.code yX3_leaves cX3_leaves 2 (some .int), Cond.methodLink RL 54 yX2_sort, Cond.instanceMethod yX2_sort, Cond.selects RX2 yX2_sort yX2_sort, Cond.code yX2_sort cX2_sort 2 (some .int), Cond.methodLink RX2 76 yX2_kindOf, Cond.static yX2_kindOf, Cond.code yX2_kindOf cX2_kindOf 8 (some .int), Cond.methodLink RL 57 yX3_sort, Cond.instanceMethod yX3_sort, Cond.selects RX3 yX3_sort yX3_sort, Cond.code yX3_sort cX3_sort 2 (some .int), Cond.methodLink RX3 126 yX3_sortOf, Cond.instanceMethod yX3_sortOf]
def wsL_law_r14 : List Cond := [Cond.selects RX3 yX3_sortOf yX3_sortOf, Cond.code yX3_sortOf cX3_sortOf 5 (some .int), Cond.methodLink RL 58 yX2_leaf, Cond.instanceMethod yX2_leaf, Cond.selects RX2 yX2_leaf yX2_leaf, Cond.code yX2_leaf cX2_leaf 4 (some .int), Cond.methodLink RX2 80 yX1_told, Cond.instanceMethod yX1_told, Cond.selects RX1 yX1_told yX1_told, Cond.code yX1_told cX1_told 3 (some .long), Cond.methodLink RL 61 yX3_leaf, Cond.instanceMethod yX3_leaf, Cond.selects RX3 yX3_leaf yX3_leaf, Cond.code yX3_leaf cX3_leaf 4 (some .int), Cond.constantLong RX3 130 (3), Cond.methodLink RL 62 yX2_same, Cond.instanceMethod yX2_same, Cond.selects RX2 yX2_same yX2_same, Cond.code yX2_same cX2_same 3 (some .int), Cond.methodLink RX2 84 yX2_areAlike, Cond.static yX2_areAlike, Cond.code yX2_areAlike cX2_areAlike 4 (some .boolean), Cond.methodLink RL 65 yX3_same, Cond.instanceMethod yX3_same]
def wsL_law_r15 : List Cond := [Cond.selects RX3 yX3_same yX3_same, Cond.code yX3_same cX3_same 5 (some .int), Cond.methodLink RL 66 yX2_commute, Cond.instanceMethod yX2_commute, Cond.selects RX2 yX2_commute yX2_commute, Cond.code yX2_commute cX2_commute 3 (some .int), Cond.methodLink RL 69 yX3_commute, Cond.instanceMethod yX3_commute, Cond.selects RX3 yX3_commute yX3_commute, Cond.code yX3_commute cX3_commute 6 (some .int), Cond.methodLink RL 70 yX2_order, Cond.instanceMethod yX2_order, Cond.selects RX2 yX2_order yX2_order, Cond.code yX2_order cX2_order 3 (some .int), Cond.methodLink RL 73 yX3_order, Cond.instanceMethod yX3_order, Cond.selects RX3 yX3_order yX3_order, Cond.code yX3_order cX3_order 3 (some .int), Cond.methodLink RX3 132 yX3_isNothing, Cond.instanceMethod yX3_isNothing, Cond.selects RX3 yX3_isNothing yX3_isNothing, Cond.code yX3_isNothing cX3_isNothing 1 (some .boolean), Cond.methodLink RL 74 yX2_length, Cond.instanceMethod yX2_length]
def wsL_law_r16 : List Cond := [Cond.selects RX2 yX2_length yX2_length, Cond.code yX2_length cX2_length 5 (some .int), Cond.fieldLink RX2 103 "TreePairs$Ball" "ends" "[I", Cond.methodLink RX2 94 yX2_nearOnes, Cond.instanceMethod yX2_nearOnes, Cond.selects RX2 yX2_nearOnes yX2_nearOnes, Cond.code yX2_nearOnes cX2_nearOnes 1 (some (.object "TreePairs$Ball")), Cond.fieldLink RX2 198 "TreePairs" "near" "LTreePairs$Ball;", Cond.methodLink RX2 202 yX2_grownBall, Cond.instanceMethod yX2_grownBall, Cond.selects RX2 yX2_grownBall yX2_grownBall, Cond.code yX2_grownBall cX2_grownBall 8 (some (.object "TreePairs$Ball")), Cond.classLink RX2 99 RX0, Cond.instantiable RX0 2, Cond.initialized RX0, Cond.fieldLink RX2 214 "TreePairs$Ball" "found" "Ljava/util/List;", Cond.classLink RX2 9 "TreePairs$Pairs", Cond.methodLink RX2 205 yX0_init, Cond.instanceMethod yX0_init, Cond.code yX0_init cX0_init 1 none, Cond.methodLink RX0 3 objectInit, Cond.classLink RX0 9 RJx4a65c, Cond.instantiable RJx4a65c 3, Cond.initialized RJx4a65c]
def wsL_law_r17 : List Cond := [Cond.fieldLink RX0 12 "TreePairs$Ball" "found" "Ljava/util/List;", Cond.fieldLink RX0 18 "TreePairs$Ball" "ends" "[I", Cond.methodLink RX0 11 yJx4a65c_init_da8c8, Cond.instanceMethod yJx4a65c_init_da8c8, Cond.code yJx4a65c_init_da8c8 cJx4a65c_init_da8c8 1 none, Cond.fieldLink RJx4a65c 39 "java/util/ArrayList" "DEFAULTCAPACITY_EMPTY_ELEMENTDATA" "[Ljava/lang/Object;", Cond.fieldLink RJx4a65c 9 "java/util/ArrayList" "elementData" "[Ljava/lang/Object;", Cond.methodLink RJx4a65c 1 yJxc12de_init_da8c8, Cond.instanceMethod yJxc12de_init_da8c8, Cond.initialized RJxc12de, Cond.code yJxc12de_init_da8c8 cJxc12de_init_da8c8 1 none, Cond.fieldLink RJxc12de 7 "java/util/AbstractList" "modCount" "I", Cond.methodLink RJxc12de 1 yJxa1e45_init_da8c8, Cond.instanceMethod yJxa1e45_init_da8c8, Cond.initialized RJxa1e45, Cond.code yJxa1e45_init_da8c8 cJxa1e45_init_da8c8 1 none, Cond.methodLink RJxa1e45 1 objectInit, Cond.methodLink RX2 206 yX2_stepsOfLength, Cond.static yX2_stepsOfLength, Cond.code yX2_stepsOfLength cX2_stepsOfLength 2 (some (.array (.object "TreePairs$Pairs"))), Cond.methodLink RX2 210 yX0_addNew, Cond.instanceMethod yX0_addNew, Cond.selects RX0 yX0_addNew yX0_addNew, Cond.code yX0_addNew cX0_addNew 3 none]
def wsL_law_r18 : List Cond := [Cond.classLink RX0 26 RX1, Cond.fieldLink RX0 28 "TreePairs$Pairs" "size" "I", Cond.methodLink RX0 22 yX0_placeOf, Cond.instanceMethod yX0_placeOf, Cond.selects RX0 yX0_placeOf yX0_placeOf, Cond.code yX0_placeOf cX0_placeOf 3 (some .int), Cond.classLink RX0 26 "TreePairs$Pairs", Cond.methodLink RX0 45 ⟨"java/util/List", "size", "()I"⟩, Cond.selects RJx4a65c ⟨"java/util/List", "size", "()I"⟩ yJx4a65c_size_8abf5, Cond.instanceMethod yJx4a65c_size_8abf5, Cond.code yJx4a65c_size_8abf5 cJx4a65c_size_8abf5 1 (some .int), Cond.fieldLink RJx4a65c 48 "java/util/ArrayList" "size" "I", Cond.methodLink RX0 48 ⟨"java/util/List", "get", "(I)Ljava/lang/Object;"⟩, Cond.selects RJx4a65c ⟨"java/util/List", "get", "(I)Ljava/lang/Object;"⟩ yJx4a65c_get_915e3, Cond.instanceMethod yJx4a65c_get_915e3, Cond.code yJx4a65c_get_915e3 cJx4a65c_get_915e3 2 (some (.object "java/lang/Object")), Cond.methodLink RJx4a65c 118 yJ15_checkIndex_7cf53, Cond.static yJ15_checkIndex_7cf53, Cond.initialized RJ15, Cond.code yJ15_checkIndex_7cf53 cJ15_checkIndex_7cf53 2 (some .int), Cond.methodLink RJ15 105 yJ3_checkIndex_8e157, Cond.static yJ3_checkIndex_8e157, Cond.initialized RJ3, Cond.code yJ3_checkIndex_8e157 cJ3_checkIndex_8e157 3 (some .int)]
def wsL_law_r19 : List Cond := [Cond.methodLink RJx4a65c 123 yJx4a65c_elementData_915e3, Cond.instanceMethod yJx4a65c_elementData_915e3, Cond.selects RJx4a65c yJx4a65c_elementData_915e3 yJx4a65c_elementData_915e3, Cond.code yJx4a65c_elementData_915e3 cJx4a65c_elementData_915e3 2 (some (.object "java/lang/Object")), Cond.methodLink RX0 32 yX1_init, Cond.methodLink RX0 39 ⟨"java/util/List", "add", "(Ljava/lang/Object;)Z"⟩, Cond.selects RJx4a65c ⟨"java/util/List", "add", "(Ljava/lang/Object;)Z"⟩ yJx4a65c_add_9ea2d, Cond.instanceMethod yJx4a65c_add_9ea2d, Cond.code yJx4a65c_add_9ea2d cJx4a65c_add_9ea2d 2 (some .boolean), Cond.fieldLink RJx4a65c 63 "java/util/ArrayList" "modCount" "I", Cond.sameField "java/util/ArrayList" "java/util/AbstractList" "modCount" "I", Cond.methodLink RJx4a65c 131 yJx4a65c_add_72be8, Cond.instanceMethod yJx4a65c_add_72be8, Cond.selects RJx4a65c yJx4a65c_add_72be8 yJx4a65c_add_72be8, Cond.code yJx4a65c_add_72be8 cJx4a65c_add_72be8 4 none, Cond.methodLink RJx4a65c 129 yJx4a65c_grow_d5877, Cond.instanceMethod yJx4a65c_grow_d5877, Cond.selects RJx4a65c yJx4a65c_grow_d5877 yJx4a65c_grow_d5877, Cond.code yJx4a65c_grow_d5877 cJx4a65c_grow_d5877 1 (some (.array (.object "java/lang/Object"))), Cond.methodLink RJx4a65c 69 yJx4a65c_grow_92f84, Cond.instanceMethod yJx4a65c_grow_92f84, Cond.selects RJx4a65c yJx4a65c_grow_92f84 yJx4a65c_grow_92f84, Cond.code yJx4a65c_grow_92f84 cJx4a65c_grow_92f84 4 (some (.array (.object "java/lang/Object"))), Cond.methodLink RJx4a65c 79 Lib.Math.max.name]
def wsL_law_r20 : List Cond := [Cond.classLink RJx4a65c 7 "java/lang/Object", Cond.methodLink RJx4a65c 73 yJ8_newLength_cabcc, Cond.static yJ8_newLength_cabcc, Cond.initialized RJ8, Cond.code yJ8_newLength_cabcc cJ8_newLength_cabcc 4 (some .int), Cond.methodLink RJ8 194 Lib.Math.max.name, Cond.constant RJ8 200 (2147483639), Cond.methodLink RJ8 201 yJ8_hugeLength_7cf53, Cond.static yJ8_hugeLength_7cf53, Cond.code yJ8_hugeLength_7cf53 cJ8_hugeLength_7cf53 3 (some .int), Cond.methodLink RJx4a65c 66 yJ7_copyOf_1904c, Cond.static yJ7_copyOf_1904c, Cond.initialized RJ7, Cond.code yJ7_copyOf_1904c cJ7_copyOf_1904c 2 (some (.array (.object "java/lang/Object"))), Cond.methodLink RJ7 86 ⟨"java/lang/Object", "getClass", "()Ljava/lang/Class;"⟩, Cond.selects "[Ljava/lang/Object;" ⟨"java/lang/Object", "getClass", "()Ljava/lang/Class;"⟩ ⟨"java/lang/Object", "getClass", "()Ljava/lang/Class;"⟩, Cond.instanceMethod ⟨"java/lang/Object", "getClass", "()Ljava/lang/Class;"⟩, Cond.native ⟨"java/lang/Object", "getClass", "()Ljava/lang/Class;"⟩, Cond.methodLink RJ7 300 yJ7_copyOf_6403c, Cond.static yJ7_copyOf_6403c, Cond.code yJ7_copyOf_6403c cJ7_copyOf_6403c 4 (some (.array (.object "java/lang/Object"))), Cond.classLink RJ7 110 "[Ljava/lang/Object;", Cond.classLink RJ7 2 "java/lang/Object", Cond.methodLink RJ7 304 Lib.Math.min.name]
def wsL_law_r21 : List Cond := [Cond.static Lib.Math.min.name, Cond.code Lib.Math.min.name Lib.Math.min.code 2 (some .int), Cond.methodLink RJ7 150 arraycopyName, Cond.native arraycopyName, Cond.static arraycopyName, Cond.initialized "java/lang/System", Cond.methodLink RX2 218 ⟨"java/util/List", "get", "(I)Ljava/lang/Object;"⟩, Cond.methodLink RX2 224 ⟨"java/util/List", "size", "()I"⟩, Cond.methodLink RX2 98 yX0_placeOf, Cond.methodLink RL 77 yX3_length, Cond.instanceMethod yX3_length, Cond.selects RX3 yX3_length yX3_length, Cond.code yX3_length cX3_length 4 (some .int), Cond.methodLink RX3 153 yX3_makeBall, Cond.instanceMethod yX3_makeBall, Cond.selects RX3 yX3_makeBall yX3_makeBall, Cond.code yX3_makeBall cX3_makeBall 4 none, Cond.fieldLink RX3 143 "TreePairsModel" "hasBall" "Z", Cond.fieldLink RX3 136 "TreePairsModel" "words" "I", Cond.methodLink RX3 147 yX3_note, Cond.instanceMethod yX3_note, Cond.selects RX3 yX3_note yX3_note, Cond.code yX3_note cX3_note 2 none, Cond.methodLink RX3 139 yX3_wordOf]
def wsL_law_r22 : List Cond := [Cond.instanceMethod yX3_wordOf, Cond.selects RX3 yX3_wordOf yX3_wordOf, Cond.code yX3_wordOf cX3_wordOf 4 (some .int), Cond.methodLink RX3 150 yX3_loadWord, Cond.instanceMethod yX3_loadWord, Cond.selects RX3 yX3_loadWord yX3_loadWord, Cond.code yX3_loadWord cX3_loadWord 4 none, Cond.methodLink RL 78 yX2_ball, Cond.instanceMethod yX2_ball, Cond.selects RX2 yX2_ball yX2_ball, Cond.code yX2_ball cX2_ball 3 (some .int), Cond.methodLink RL 81 yX3_ball, Cond.instanceMethod yX3_ball, Cond.selects RX3 yX3_ball yX3_ball, Cond.code yX3_ball cX3_ball 2 (some .int), Cond.constantLong RX3 156 (4), Cond.methodLink RL 84 yX2_go, Cond.instanceMethod yX2_go, Cond.selects RX2 yX2_go yX2_go, Cond.code yX2_go cX2_go 15 (some .int), Cond.methodLink RX2 124 yX2_see, Cond.instanceMethod yX2_see, Cond.selects RX2 yX2_see yX2_see, Cond.code yX2_see cX2_see 7 none]
def wsL_law_r23 : List Cond := [Cond.fieldLink RX2 128 "TreePairs" "seenDepth" "I", Cond.fieldLink RX2 131 "TreePairs" "seenPlace" "J", Cond.methodLink RL 88 yX3_go, Cond.instanceMethod yX3_go, Cond.selects RX3 yX3_go yX3_go, Cond.code yX3_go cX3_go 12 (some .int), Cond.constantLong RX3 158 (30), Cond.fieldLink RX3 160 "TreePairsModel" "seenD" "I", Cond.fieldLink RX3 163 "TreePairsModel" "seenC" "J", Cond.methodLink RL 89 yX2_seen, Cond.instanceMethod yX2_seen, Cond.selects RX2 yX2_seen yX2_seen, Cond.code yX2_seen cX2_seen 2 (some .long), Cond.constantLong RX2 135 (-102), Cond.methodLink RL 93 yX3_seen, Cond.instanceMethod yX3_seen, Cond.selects RX3 yX3_seen yX3_seen, Cond.code yX3_seen cX3_seen 2 (some .long), Cond.constantLong RX3 167 (-102), Cond.methodLink RL 94 yX2_bend, Cond.instanceMethod yX2_bend, Cond.selects RX2 yX2_bend yX2_bend, Cond.code yX2_bend cX2_bend 4 (some .int), Cond.methodLink RX2 137 yX1_steepness]
def wsL_law_r24 : List Cond := [Cond.instanceMethod yX1_steepness, Cond.selects RX1 yX1_steepness yX1_steepness, Cond.code yX1_steepness cX1_steepness 2 (some .int), Cond.methodLink RL 97 yX3_bend, Cond.instanceMethod yX3_bend, Cond.selects RX3 yX3_bend yX3_bend, Cond.code yX3_bend cX3_bend 3 (some .int), Cond.methodLink RX3 169 yX3_slope, Cond.instanceMethod yX3_slope, Cond.selects RX3 yX3_slope yX3_slope, Cond.code yX3_slope cX3_slope 3 (some .int), Cond.methodLink RL 98 yX2_still, Cond.instanceMethod yX2_still, Cond.selects RX2 yX2_still yX2_still, Cond.code yX2_still cX2_still 5 (some .int), Cond.methodLink RL 101 yX3_still, Cond.instanceMethod yX3_still, Cond.selects RX3 yX3_still yX3_still, Cond.code yX3_still cX3_still 5 (some .int), Cond.methodLink RL 102 yX2_single, Cond.instanceMethod yX2_single, Cond.selects RX2 yX2_single yX2_single, Cond.code yX2_single cX2_single 4 (some .int), Cond.methodLink RX2 141 yX2_hasSingle]
def wsL_law_r25 : List Cond := [Cond.static yX2_hasSingle, Cond.code yX2_hasSingle cX2_hasSingle 9 (some .boolean), Cond.methodLink RX2 227 yX2_singleAbove, Cond.static yX2_singleAbove, Cond.code yX2_singleAbove cX2_singleAbove 4 (some .long), Cond.methodLink RX2 231 yX2_singleBelow, Cond.static yX2_singleBelow, Cond.code yX2_singleBelow cX2_singleBelow 2 (some .long), Cond.methodLink RX2 234 Lib.MathLoose.abs_long.x, Cond.static Lib.MathLoose.abs_long.x, Cond.code Lib.MathLoose.abs_long.x Lib.MathLoose.abs_long.code 2 (some .long), Cond.methodLink RL 105 yX3_single, Cond.instanceMethod yX3_single, Cond.selects RX3 yX3_single yX3_single, Cond.code yX3_single cX3_single 2 (some .int), Cond.methodLink RX3 185 yX3_seek, Cond.instanceMethod yX3_seek, Cond.selects RX3 yX3_seek yX3_seek, Cond.code yX3_seek cX3_seek 16 (some .int), Cond.constantLong RX3 173 (-1), Cond.fieldLink RX3 175 "TreePairsModel" "above" "J", Cond.fieldLink RX3 178 "TreePairsModel" "below" "J", Cond.methodLink RX3 181 yX3_common, Cond.static yX3_common]
def wsL_law_r26 : List Cond := [Cond.code yX3_common cX3_common 10 (some .long), Cond.methodLink RL 106 yX2_point, Cond.instanceMethod yX2_point, Cond.selects RX2 yX2_point yX2_point, Cond.code yX2_point cX2_point 6 (some .long), Cond.constantLong RX2 144 (-101), Cond.constantLong RX2 150 (-1), Cond.methodLink RX2 146 yX2_partOfSingle, Cond.static yX2_partOfSingle, Cond.code yX2_partOfSingle cX2_partOfSingle 9 (some .long), Cond.methodLink RX2 237 yX2_commonOf, Cond.static yX2_commonOf, Cond.code yX2_commonOf cX2_commonOf 11 (some .long), Cond.methodLink RL 110 yX3_point, Cond.instanceMethod yX3_point, Cond.selects RX3 yX3_point yX3_point, Cond.code yX3_point cX3_point 4 (some .long), Cond.constantLong RX3 188 (-101), Cond.methodLink RL 111 yX2_count, Cond.instanceMethod yX2_count, Cond.selects RX2 yX2_count yX2_count, Cond.code yX2_count cX2_count 2 (some .int), Cond.methodLink RX2 152 yX2_mapsOfKind, Cond.instanceMethod yX2_mapsOfKind]
def wsL_law_r27 : List Cond := [Cond.selects RX2 yX2_mapsOfKind yX2_mapsOfKind, Cond.code yX2_mapsOfKind cX2_mapsOfKind 4 (some .int), Cond.methodLink RL 114 yX3_count, Cond.instanceMethod yX3_count, Cond.selects RX3 yX3_count yX3_count, Cond.code yX3_count cX3_count 4 (some .int), Cond.methodLink RL 115 yX2_digest, Cond.instanceMethod yX2_digest, Cond.selects RX2 yX2_digest yX2_digest, Cond.code yX2_digest cX2_digest 4 (some .long), Cond.constantLong RX2 155 (167), Cond.constantLong RX2 157 (31), Cond.methodLink RX2 159 yX2_mixedIn, Cond.static yX2_mixedIn, Cond.code yX2_mixedIn cX2_mixedIn 7 (some .long), Cond.methodLink RL 119 yX3_digest, Cond.instanceMethod yX3_digest, Cond.selects RX3 yX3_digest yX3_digest, Cond.code yX3_digest cX3_digest 3 (some .long), Cond.constantLong RX3 195 (167), Cond.fieldLink RX3 192 "TreePairsModel" "h" "J", Cond.methodLink RX3 197 yX3_mix, Cond.instanceMethod yX3_mix, Cond.selects RX3 yX3_mix yX3_mix]
def wsL_law_r28 : List Cond := [Cond.code yX3_mix cX3_mix 3 none, Cond.constantLong RX3 190 (31)]
def wsL_law : List Cond := (wsL_law_r1 ++ (wsL_law_r2 ++ (wsL_law_r3 ++ (wsL_law_r4 ++ (wsL_law_r5 ++ (wsL_law_r6 ++ (wsL_law_r7 ++ (wsL_law_r8 ++ (wsL_law_r9 ++ (wsL_law_r10 ++ (wsL_law_r11 ++ (wsL_law_r12 ++ (wsL_law_r13 ++ (wsL_law_r14 ++ (wsL_law_r15 ++ (wsL_law_r16 ++ (wsL_law_r17 ++ (wsL_law_r18 ++ (wsL_law_r19 ++ (wsL_law_r20 ++ (wsL_law_r21 ++ (wsL_law_r22 ++ (wsL_law_r23 ++ (wsL_law_r24 ++ (wsL_law_r25 ++ (wsL_law_r26 ++ (wsL_law_r27 ++ wsL_law_r28))))))))))))))))))))))))))) ++ wsX20 ++ wsX30 ++ wsX10 ++ wsX00 ++ wsJx4a65c0 ++ ([] : List Cond)
set_option maxRecDepth 20000 in
theorem wsL_law_in : ∀ w ∈ wsL_law, w ∈ lw_tbl := fun w h => (goodIn_p wsL_law [53, 56, 62, 66, 511, 119, 122, 126, 577, 580, 584, 130, 588, 134, 137, 140, 144, 148, 151, 154, 157, 160, 165, 169, 174, 592, 595, 600, 605, 609, 614, 618, 622, 626, 630, 179, 182, 634, 639, 189, 193, 196, 200, 204, 208, 211, 214, 643, 647, 651, 655, 659, 218, 663, 667, 222, 226, 233, 230, 237, 671, 677, 241, 681, 245, 685, 249, 252, 689, 693, 256, 260, 697, 264, 267, 702, 271, 706, 275, 710, 714, 279, 283, 287, 292, 298, 301, 304, 331, 335, 339, 349, 358, 361, 364, 368, 381, 385, 389, 393, 396, 401, 404, 416, 422, 718, 722, 726, 730, 734, 436, 738, 440, 444, 743, 448, 748, 453, 457, 753, 757, 461, 761, 465, 468, 471, 474, 477, 765, 769, 773, 481, 485, 488, 777, 493, 497, 782, 501, 506, 786, 791] (by decide +kernel) (by decide +kernel) w h).1
theorem inlX0 : ∀ w ∈ wsX00, w ∈ wsL_law := fun _ h => List.mem_append_left _ (List.mem_append_left _ (List.mem_append_right _ h))
theorem inX0 : ∀ w ∈ wsX00, w ∈ lw_tbl := fun w h => wsL_law_in w (inlX0 w h)
theorem inlX1 : ∀ w ∈ wsX10, w ∈ wsL_law := fun _ h => List.mem_append_left _ (List.mem_append_left _ (List.mem_append_left _ (List.mem_append_right _ h)))
theorem inX1 : ∀ w ∈ wsX10, w ∈ lw_tbl := fun w h => wsL_law_in w (inlX1 w h)
theorem inlX2 : ∀ w ∈ wsX20, w ∈ wsL_law := fun _ h => List.mem_append_left _ (List.mem_append_left _ (List.mem_append_left _ (List.mem_append_left _ (List.mem_append_left _ (List.mem_append_right _ h)))))
theorem inX2 : ∀ w ∈ wsX20, w ∈ lw_tbl := fun w h => wsL_law_in w (inlX2 w h)
theorem inlX3 : ∀ w ∈ wsX30, w ∈ wsL_law := fun _ h => List.mem_append_left _ (List.mem_append_left _ (List.mem_append_left _ (List.mem_append_left _ (List.mem_append_right _ h))))
theorem inX3 : ∀ w ∈ wsX30, w ∈ lw_tbl := fun w h => wsL_law_in w (inlX3 w h)
theorem inJx145de : ∀ w ∈ wsJx145de0, w ∈ lw_tbl := by decide +kernel
theorem inJx8e188 : ∀ w ∈ wsJx8e1880, w ∈ lw_tbl := by decide +kernel
theorem inJxab1ab : ∀ w ∈ wsJxab1ab0, w ∈ lw_tbl := by decide +kernel
theorem inJ9 : ∀ w ∈ wsJ90, w ∈ lw_tbl := by decide +kernel
theorem inJ10 : ∀ w ∈ wsJ100, w ∈ lw_tbl := by decide +kernel
theorem inJxa1e45 : ∀ w ∈ wsJxa1e450, w ∈ lw_tbl := by decide +kernel
theorem inJxc12de : ∀ w ∈ wsJxc12de0, w ∈ lw_tbl := by decide +kernel
theorem inlJx4a65c : ∀ w ∈ wsJx4a65c0, w ∈ wsL_law := fun _ h => List.mem_append_left _ (List.mem_append_right _ h)
theorem inJx4a65c : ∀ w ∈ wsJx4a65c0, w ∈ lw_tbl := fun w h => wsL_law_in w (inlJx4a65c w h)
theorem inJ7 : ∀ w ∈ wsJ70, w ∈ lw_tbl := by decide +kernel
theorem inJx5ef63 : ∀ w ∈ wsJx5ef630, w ∈ lw_tbl := by decide +kernel
theorem inJxbd725 : ∀ w ∈ wsJxbd7250, w ∈ lw_tbl := by decide +kernel
theorem inJ15 : ∀ w ∈ wsJ150, w ∈ lw_tbl := by decide +kernel
theorem inJxf0a74 : ∀ w ∈ wsJxf0a740, w ∈ lw_tbl := by decide +kernel
theorem inJxa66e6 : ∀ w ∈ wsJxa66e60, w ∈ lw_tbl := by decide +kernel
theorem inJ8 : ∀ w ∈ wsJ80, w ∈ lw_tbl := by decide +kernel
theorem inJ3 : ∀ w ∈ wsJ30, w ∈ lw_tbl := by decide +kernel
set_option maxRecDepth 20000 in
theorem ggX0_init_Jx4a65c_init_da8c8 : GoodIn wsX0_init wsJx4a65c_init_da8c8 := goodIn_r _ [12, 13, 14, 15, 16, 17, 18, 19, 20, 21, 22, 23, 24, 2, 3, 25, 26, 27] (by decide +kernel) (by decide +kernel)
set_option maxRecDepth 20000 in
theorem gX0_init_Jx4a65c_init_da8c8 : GoodIn wsX0_init (wsJx4a65c_init_da8c8) := ggX0_init_Jx4a65c_init_da8c8
theorem dX0_init_0 : decode cX0_init 0 = .ok (.aload_n 0, 1) := by decide +kernel
theorem dX0_init_1 : decode cX0_init 1 = .ok (.invokespecial 3, 3) := by decide +kernel
theorem dX0_init_4 : decode cX0_init 4 = .ok (.aload_n 0, 1) := by decide +kernel
theorem dX0_init_5 : decode cX0_init 5 = .ok (.new 9, 3) := by decide +kernel
theorem dX0_init_8 : decode cX0_init 8 = .ok (.dup, 1) := by decide +kernel
theorem dX0_init_9 : decode cX0_init 9 = .ok (.invokespecial 11, 3) := by decide +kernel
theorem dX0_init_12 : decode cX0_init 12 = .ok (.putfield 12, 3) := by decide +kernel
theorem dX0_init_15 : decode cX0_init 15 = .ok (.aload_n 0, 1) := by decide +kernel
theorem dX0_init_16 : decode cX0_init 16 = .ok (.iconst 5, 1) := by decide +kernel
theorem dX0_init_17 : decode cX0_init 17 = .ok (.newarray .int, 2) := by decide +kernel
theorem dX0_init_19 : decode cX0_init 19 = .ok (.putfield 18, 3) := by decide +kernel
theorem dX0_init_22 : decode cX0_init 22 = .ok (.return_, 1) := by decide +kernel
set_option maxRecDepth 20000 in
theorem ggX0_addNew_X0_placeOf : GoodIn wsX0_addNew wsX0_placeOf := goodIn_r _ [10, 5, 11, 12, 13, 14, 15, 16, 17, 18, 19, 20, 21, 22, 23, 24, 25, 26, 27, 28, 29, 30, 31, 32, 33, 34, 35, 36, 37, 38, 39, 40, 41, 3, 42, 43, 44, 45, 46, 125, 126, 127, 128, 129, 120, 121, 122, 123, 124] (by decide +kernel) (by decide +kernel)
set_option maxRecDepth 20000 in
theorem gX0_addNew_X0_placeOf : GoodIn wsX0_addNew (wsV RX0 22 RX0 yX0_placeOf wsX0_placeOf) := goodIn_app (goodIn_of _ (by decide +kernel)) ggX0_addNew_X0_placeOf
set_option maxRecDepth 20000 in
theorem ggX0_addNew_X1_init : GoodIn wsX0_addNew wsX1_init := goodIn_r _ [49, 50, 51, 52, 53, 54, 55, 56, 57, 43, 58, 44, 45, 46, 120, 121, 122, 123, 124] (by decide +kernel) (by decide +kernel)
set_option maxRecDepth 20000 in
theorem gX0_addNew_X1_init : GoodIn wsX0_addNew (wsX1_init) := ggX0_addNew_X1_init
set_option maxRecDepth 20000 in
theorem ggX0_addNew_X2_putCopy : GoodIn wsX0_addNew wsX2_putCopy := goodIn_r _ [60, 38, 61, 62, 63, 64, 65, 66, 67, 3, 68, 69, 43, 44, 45, 46, 120, 121, 122, 123, 124] (by decide +kernel) (by decide +kernel)
set_option maxRecDepth 20000 in
theorem gX0_addNew_X2_putCopy_n35 : GoodIn wsX0_addNew (wsX2_putCopy) := ggX0_addNew_X2_putCopy
set_option maxRecDepth 20000 in
theorem ggX0_addNew_Jx4a65c_add_9ea2d : GoodIn wsX0_addNew wsJx4a65c_add_9ea2d := goodIn_r _ [73, 74, 75, 34, 17, 76, 77, 78, 15, 79, 80, 81, 82, 83, 84, 85, 86, 87, 88, 89, 54, 55, 56, 90, 91, 92, 93, 94, 95, 96, 97, 98, 99, 100, 101, 102, 103, 104, 105, 106, 107, 108, 109, 110, 111, 112, 113, 114, 115, 116, 117, 118, 119, 127, 128, 129] (by decide +kernel) (by decide +kernel)
set_option maxRecDepth 20000 in
theorem gX0_addNew_Jx4a65c_add_9ea2d_f39Jx4a65c : GoodIn wsX0_addNew (va_wsF RX0 39 RJx4a65c ⟨"java/util/List", "add", "(Ljava/lang/Object;)Z"⟩ yJx4a65c_add_9ea2d wsJx4a65c_add_9ea2d) := goodIn_app (goodIn_of _ (by decide +kernel)) ggX0_addNew_Jx4a65c_add_9ea2d
theorem dX0_addNew_0 : decode cX0_addNew 0 = .ok (.aload_n 0, 1) := by decide +kernel
theorem dX0_addNew_1 : decode cX0_addNew 1 = .ok (.aload_n 1, 1) := by decide +kernel
theorem dX0_addNew_2 : decode cX0_addNew 2 = .ok (.invokevirtual 22, 3) := by decide +kernel
theorem dX0_addNew_5 : decode cX0_addNew 5 = .ok (.ifCond .ge 31, 3) := by decide +kernel
theorem dX0_addNew_8 : decode cX0_addNew 8 = .ok (.new 26, 3) := by decide +kernel
theorem dX0_addNew_11 : decode cX0_addNew 11 = .ok (.dup, 1) := by decide +kernel
theorem dX0_addNew_12 : decode cX0_addNew 12 = .ok (.aload_n 1, 1) := by decide +kernel
theorem dX0_addNew_13 : decode cX0_addNew 13 = .ok (.getfield 28, 3) := by decide +kernel
theorem dX0_addNew_16 : decode cX0_addNew 16 = .ok (.invokespecial 32, 3) := by decide +kernel
theorem dX0_addNew_19 : decode cX0_addNew 19 = .ok (.astore_n 2, 1) := by decide +kernel
theorem dX0_addNew_20 : decode cX0_addNew 20 = .ok (.aload_n 1, 1) := by decide +kernel
theorem dX0_addNew_21 : decode cX0_addNew 21 = .ok (.aload_n 2, 1) := by decide +kernel
theorem dX0_addNew_22 : decode cX0_addNew 22 = .ok (.invokestatic 35, 3) := by decide +kernel
theorem dX0_addNew_25 : decode cX0_addNew 25 = .ok (.aload_n 0, 1) := by decide +kernel
theorem dX0_addNew_26 : decode cX0_addNew 26 = .ok (.getfield 12, 3) := by decide +kernel
theorem dX0_addNew_29 : decode cX0_addNew 29 = .ok (.aload_n 2, 1) := by decide +kernel
theorem dX0_addNew_30 : decode cX0_addNew 30 = .ok (.invokeinterface 39 2, 5) := by decide +kernel
theorem dX0_addNew_35 : decode cX0_addNew 35 = .ok (.pop, 1) := by decide +kernel
theorem dX0_addNew_36 : decode cX0_addNew 36 = .ok (.return_, 1) := by decide +kernel
set_option maxRecDepth 20000 in
theorem ggX0_placeOf_Jx4a65c_size_8abf5 : GoodIn wsX0_placeOf wsJx4a65c_size_8abf5 := goodIn_r _ [7, 8, 41, 42, 43] (by decide +kernel) (by decide +kernel)
set_option maxRecDepth 20000 in
theorem gX0_placeOf_Jx4a65c_size_8abf5_f45Jx4a65c : GoodIn wsX0_placeOf (va_wsF RX0 45 RJx4a65c ⟨"java/util/List", "size", "()I"⟩ yJx4a65c_size_8abf5 wsJx4a65c_size_8abf5) := goodIn_app (goodIn_of _ (by decide +kernel)) ggX0_placeOf_Jx4a65c_size_8abf5
set_option maxRecDepth 20000 in
theorem ggX0_placeOf_Jx4a65c_get_915e3 : GoodIn wsX0_placeOf wsJx4a65c_get_915e3 := goodIn_r _ [12, 8, 13, 14, 15, 16, 17, 18, 19, 20, 21, 22, 23, 6, 24, 25, 41, 42, 43] (by decide +kernel) (by decide +kernel)
set_option maxRecDepth 20000 in
theorem gX0_placeOf_Jx4a65c_get_915e3_f48Jx4a65c : GoodIn wsX0_placeOf (va_wsF RX0 48 RJx4a65c ⟨"java/util/List", "get", "(I)Ljava/lang/Object;"⟩ yJx4a65c_get_915e3 wsJx4a65c_get_915e3) := goodIn_app (goodIn_of _ (by decide +kernel)) ggX0_placeOf_Jx4a65c_get_915e3
set_option maxRecDepth 20000 in
theorem ggX0_placeOf_X2_areAlike : GoodIn wsX0_placeOf wsX2_areAlike := goodIn_r _ [28, 29, 30, 31, 32, 33, 34, 35, 36, 37, 38, 44, 45, 46, 47, 48] (by decide +kernel) (by decide +kernel)
set_option maxRecDepth 20000 in
theorem gX0_placeOf_X2_areAlike_n52 : GoodIn wsX0_placeOf (wsX2_areAlike) := ggX0_placeOf_X2_areAlike
theorem dX0_placeOf_0 : decode cX0_placeOf 0 = .ok (.iconst 0, 1) := by decide +kernel
theorem dX0_placeOf_1 : decode cX0_placeOf 1 = .ok (.istore_n 2, 1) := by decide +kernel
theorem dX0_placeOf_2 : decode cX0_placeOf 2 = .ok (.iload_n 2, 1) := by decide +kernel
theorem dX0_placeOf_3 : decode cX0_placeOf 3 = .ok (.aload_n 0, 1) := by decide +kernel
theorem dX0_placeOf_4 : decode cX0_placeOf 4 = .ok (.getfield 12, 3) := by decide +kernel
theorem dX0_placeOf_7 : decode cX0_placeOf 7 = .ok (.invokeinterface 45 1, 5) := by decide +kernel
theorem dX0_placeOf_12 : decode cX0_placeOf 12 = .ok (.if_icmp .ge 31, 3) := by decide +kernel
theorem dX0_placeOf_15 : decode cX0_placeOf 15 = .ok (.aload_n 0, 1) := by decide +kernel
theorem dX0_placeOf_16 : decode cX0_placeOf 16 = .ok (.getfield 12, 3) := by decide +kernel
theorem dX0_placeOf_19 : decode cX0_placeOf 19 = .ok (.iload_n 2, 1) := by decide +kernel
theorem dX0_placeOf_20 : decode cX0_placeOf 20 = .ok (.invokeinterface 48 2, 5) := by decide +kernel
theorem dX0_placeOf_25 : decode cX0_placeOf 25 = .ok (.checkcast 26, 3) := by decide +kernel
theorem dX0_placeOf_28 : decode cX0_placeOf 28 = .ok (.aload_n 1, 1) := by decide +kernel
theorem dX0_placeOf_29 : decode cX0_placeOf 29 = .ok (.invokestatic 52, 3) := by decide +kernel
theorem dX0_placeOf_32 : decode cX0_placeOf 32 = .ok (.ifCond .eq 5, 3) := by decide +kernel
theorem dX0_placeOf_35 : decode cX0_placeOf 35 = .ok (.iload_n 2, 1) := by decide +kernel
theorem dX0_placeOf_36 : decode cX0_placeOf 36 = .ok (.ireturn, 1) := by decide +kernel
theorem dX0_placeOf_37 : decode cX0_placeOf 37 = .ok (.iinc 2 1, 3) := by decide +kernel
theorem dX0_placeOf_40 : decode cX0_placeOf 40 = .ok (.goto (-38), 3) := by decide +kernel
theorem dX0_placeOf_43 : decode cX0_placeOf 43 = .ok (.iconst (-1), 1) := by decide +kernel
theorem dX0_placeOf_44 : decode cX0_placeOf 44 = .ok (.ireturn, 1) := by decide +kernel
theorem dX1_init_0 : decode cX1_init 0 = .ok (.aload_n 0, 1) := by decide +kernel
theorem dX1_init_1 : decode cX1_init 1 = .ok (.invokespecial 3, 3) := by decide +kernel
theorem dX1_init_4 : decode cX1_init 4 = .ok (.iconst 0, 1) := by decide +kernel
theorem dX1_init_5 : decode cX1_init 5 = .ok (.iload_n 1, 1) := by decide +kernel
theorem dX1_init_6 : decode cX1_init 6 = .ok (.invokestatic 9, 3) := by decide +kernel
theorem dX1_init_9 : decode cX1_init 9 = .ok (.istore_n 2, 1) := by decide +kernel
theorem dX1_init_10 : decode cX1_init 10 = .ok (.aload_n 0, 1) := by decide +kernel
theorem dX1_init_11 : decode cX1_init 11 = .ok (.iload_n 2, 1) := by decide +kernel
theorem dX1_init_12 : decode cX1_init 12 = .ok (.newarray .int, 2) := by decide +kernel
theorem dX1_init_14 : decode cX1_init 14 = .ok (.putfield 15, 3) := by decide +kernel
theorem dX1_init_17 : decode cX1_init 17 = .ok (.aload_n 0, 1) := by decide +kernel
theorem dX1_init_18 : decode cX1_init 18 = .ok (.iload_n 2, 1) := by decide +kernel
theorem dX1_init_19 : decode cX1_init 19 = .ok (.newarray .long, 2) := by decide +kernel
theorem dX1_init_21 : decode cX1_init 21 = .ok (.putfield 21, 3) := by decide +kernel
theorem dX1_init_24 : decode cX1_init 24 = .ok (.aload_n 0, 1) := by decide +kernel
theorem dX1_init_25 : decode cX1_init 25 = .ok (.iload_n 2, 1) := by decide +kernel
theorem dX1_init_26 : decode cX1_init 26 = .ok (.newarray .int, 2) := by decide +kernel
theorem dX1_init_28 : decode cX1_init 28 = .ok (.putfield 25, 3) := by decide +kernel
theorem dX1_init_31 : decode cX1_init 31 = .ok (.aload_n 0, 1) := by decide +kernel
theorem dX1_init_32 : decode cX1_init 32 = .ok (.iload_n 2, 1) := by decide +kernel
theorem dX1_init_33 : decode cX1_init 33 = .ok (.newarray .long, 2) := by decide +kernel
theorem dX1_init_35 : decode cX1_init 35 = .ok (.putfield 28, 3) := by decide +kernel
theorem dX1_init_38 : decode cX1_init 38 = .ok (.return_, 1) := by decide +kernel
set_option maxRecDepth 20000 in
theorem ggX1_becomeNothing_X1_add : GoodIn wsX1_becomeNothing wsX1_add := goodIn_r _ [6, 1, 7, 8, 9, 10, 11, 12, 13, 14, 15] (by decide +kernel) (by decide +kernel)
set_option maxRecDepth 20000 in
theorem gX1_becomeNothing_X1_add : GoodIn wsX1_becomeNothing (wsV RX1 35 RX1 yX1_add wsX1_add) := goodIn_app (goodIn_of _ (by decide +kernel)) ggX1_becomeNothing_X1_add
theorem dX1_becomeNothing_0 : decode cX1_becomeNothing 0 = .ok (.aload_n 0, 1) := by decide +kernel
theorem dX1_becomeNothing_1 : decode cX1_becomeNothing 1 = .ok (.iconst 0, 1) := by decide +kernel
theorem dX1_becomeNothing_2 : decode cX1_becomeNothing 2 = .ok (.putfield 31, 3) := by decide +kernel
theorem dX1_becomeNothing_5 : decode cX1_becomeNothing 5 = .ok (.aload_n 0, 1) := by decide +kernel
theorem dX1_becomeNothing_6 : decode cX1_becomeNothing 6 = .ok (.iconst 0, 1) := by decide +kernel
theorem dX1_becomeNothing_7 : decode cX1_becomeNothing 7 = .ok (.lconst 0, 1) := by decide +kernel
theorem dX1_becomeNothing_8 : decode cX1_becomeNothing 8 = .ok (.iconst 0, 1) := by decide +kernel
theorem dX1_becomeNothing_9 : decode cX1_becomeNothing 9 = .ok (.lconst 0, 1) := by decide +kernel
theorem dX1_becomeNothing_10 : decode cX1_becomeNothing 10 = .ok (.invokevirtual 35, 3) := by decide +kernel
theorem dX1_becomeNothing_13 : decode cX1_becomeNothing 13 = .ok (.return_, 1) := by decide +kernel
theorem dX1_add_0 : decode cX1_add 0 = .ok (.aload_n 0, 1) := by decide +kernel
theorem dX1_add_1 : decode cX1_add 1 = .ok (.getfield 31, 3) := by decide +kernel
theorem dX1_add_4 : decode cX1_add 4 = .ok (.aload_n 0, 1) := by decide +kernel
theorem dX1_add_5 : decode cX1_add 5 = .ok (.getfield 15, 3) := by decide +kernel
theorem dX1_add_8 : decode cX1_add 8 = .ok (.arraylength, 1) := by decide +kernel
theorem dX1_add_9 : decode cX1_add 9 = .ok (.if_icmp .lt 4, 3) := by decide +kernel
theorem dX1_add_12 : decode cX1_add 12 = .ok (.return_, 1) := by decide +kernel
theorem dX1_add_13 : decode cX1_add 13 = .ok (.aload_n 0, 1) := by decide +kernel
theorem dX1_add_14 : decode cX1_add 14 = .ok (.getfield 15, 3) := by decide +kernel
theorem dX1_add_17 : decode cX1_add 17 = .ok (.aload_n 0, 1) := by decide +kernel
theorem dX1_add_18 : decode cX1_add 18 = .ok (.getfield 31, 3) := by decide +kernel
theorem dX1_add_21 : decode cX1_add 21 = .ok (.iload_n 1, 1) := by decide +kernel
theorem dX1_add_22 : decode cX1_add 22 = .ok (.iastore, 1) := by decide +kernel
theorem dX1_add_23 : decode cX1_add 23 = .ok (.aload_n 0, 1) := by decide +kernel
theorem dX1_add_24 : decode cX1_add 24 = .ok (.getfield 21, 3) := by decide +kernel
theorem dX1_add_27 : decode cX1_add 27 = .ok (.aload_n 0, 1) := by decide +kernel
theorem dX1_add_28 : decode cX1_add 28 = .ok (.getfield 31, 3) := by decide +kernel
theorem dX1_add_31 : decode cX1_add 31 = .ok (.lload_n 2, 1) := by decide +kernel
theorem dX1_add_32 : decode cX1_add 32 = .ok (.lastore, 1) := by decide +kernel
theorem dX1_add_33 : decode cX1_add 33 = .ok (.aload_n 0, 1) := by decide +kernel
theorem dX1_add_34 : decode cX1_add 34 = .ok (.getfield 25, 3) := by decide +kernel
theorem dX1_add_37 : decode cX1_add 37 = .ok (.aload_n 0, 1) := by decide +kernel
theorem dX1_add_38 : decode cX1_add 38 = .ok (.getfield 31, 3) := by decide +kernel
theorem dX1_add_41 : decode cX1_add 41 = .ok (.iload 4, 2) := by decide +kernel
theorem dX1_add_43 : decode cX1_add 43 = .ok (.iastore, 1) := by decide +kernel
theorem dX1_add_44 : decode cX1_add 44 = .ok (.aload_n 0, 1) := by decide +kernel
theorem dX1_add_45 : decode cX1_add 45 = .ok (.getfield 28, 3) := by decide +kernel
theorem dX1_add_48 : decode cX1_add 48 = .ok (.aload_n 0, 1) := by decide +kernel
theorem dX1_add_49 : decode cX1_add 49 = .ok (.getfield 31, 3) := by decide +kernel
theorem dX1_add_52 : decode cX1_add 52 = .ok (.lload 5, 2) := by decide +kernel
theorem dX1_add_54 : decode cX1_add 54 = .ok (.lastore, 1) := by decide +kernel
theorem dX1_add_55 : decode cX1_add 55 = .ok (.aload_n 0, 1) := by decide +kernel
theorem dX1_add_56 : decode cX1_add 56 = .ok (.dup, 1) := by decide +kernel
theorem dX1_add_57 : decode cX1_add 57 = .ok (.getfield 31, 3) := by decide +kernel
theorem dX1_add_60 : decode cX1_add 60 = .ok (.iconst 1, 1) := by decide +kernel
theorem dX1_add_61 : decode cX1_add 61 = .ok (.iadd, 1) := by decide +kernel
theorem dX1_add_62 : decode cX1_add 62 = .ok (.putfield 31, 3) := by decide +kernel
theorem dX1_add_65 : decode cX1_add 65 = .ok (.return_, 1) := by decide +kernel
set_option maxRecDepth 20000 in
theorem ggX1_push_X1_add : GoodIn wsX1_push wsX1_add := goodIn_r _ [11, 1, 2, 3, 5, 6, 16, 17, 18, 19, 20] (by decide +kernel) (by decide +kernel)
set_option maxRecDepth 20000 in
theorem gX1_push_X1_add : GoodIn wsX1_push (wsV RX1 35 RX1 yX1_add wsX1_add) := goodIn_app (goodIn_of _ (by decide +kernel)) ggX1_push_X1_add
set_option maxRecDepth 20000 in
theorem ggX1_push_X1_areLastHalves : GoodIn wsX1_push wsX1_areLastHalves := goodIn_r _ [15, 1, 2, 5, 3, 4, 6, 16, 17, 18, 19, 20] (by decide +kernel) (by decide +kernel)
set_option maxRecDepth 20000 in
theorem gX1_push_X1_areLastHalves : GoodIn wsX1_push (wsV RX1 39 RX1 yX1_areLastHalves wsX1_areLastHalves) := goodIn_app (goodIn_of _ (by decide +kernel)) ggX1_push_X1_areLastHalves
theorem dX1_push_0 : decode cX1_push 0 = .ok (.aload_n 0, 1) := by decide +kernel
theorem dX1_push_1 : decode cX1_push 1 = .ok (.iload_n 1, 1) := by decide +kernel
theorem dX1_push_2 : decode cX1_push 2 = .ok (.lload_n 2, 1) := by decide +kernel
theorem dX1_push_3 : decode cX1_push 3 = .ok (.iload 4, 2) := by decide +kernel
theorem dX1_push_5 : decode cX1_push 5 = .ok (.lload 5, 2) := by decide +kernel
theorem dX1_push_7 : decode cX1_push 7 = .ok (.invokevirtual 35, 3) := by decide +kernel
theorem dX1_push_10 : decode cX1_push 10 = .ok (.aload_n 0, 1) := by decide +kernel
theorem dX1_push_11 : decode cX1_push 11 = .ok (.getfield 31, 3) := by decide +kernel
theorem dX1_push_14 : decode cX1_push 14 = .ok (.iconst 1, 1) := by decide +kernel
theorem dX1_push_15 : decode cX1_push 15 = .ok (.if_icmp .le 87, 3) := by decide +kernel
theorem dX1_push_18 : decode cX1_push 18 = .ok (.aload_n 0, 1) := by decide +kernel
theorem dX1_push_19 : decode cX1_push 19 = .ok (.invokevirtual 39, 3) := by decide +kernel
theorem dX1_push_22 : decode cX1_push 22 = .ok (.ifCond .eq 80, 3) := by decide +kernel
theorem dX1_push_25 : decode cX1_push 25 = .ok (.aload_n 0, 1) := by decide +kernel
theorem dX1_push_26 : decode cX1_push 26 = .ok (.dup, 1) := by decide +kernel
theorem dX1_push_27 : decode cX1_push 27 = .ok (.getfield 31, 3) := by decide +kernel
theorem dX1_push_30 : decode cX1_push 30 = .ok (.iconst 1, 1) := by decide +kernel
theorem dX1_push_31 : decode cX1_push 31 = .ok (.isub, 1) := by decide +kernel
theorem dX1_push_32 : decode cX1_push 32 = .ok (.putfield 31, 3) := by decide +kernel
theorem dX1_push_35 : decode cX1_push 35 = .ok (.aload_n 0, 1) := by decide +kernel
theorem dX1_push_36 : decode cX1_push 36 = .ok (.getfield 15, 3) := by decide +kernel
theorem dX1_push_39 : decode cX1_push 39 = .ok (.aload_n 0, 1) := by decide +kernel
theorem dX1_push_40 : decode cX1_push 40 = .ok (.getfield 31, 3) := by decide +kernel
theorem dX1_push_43 : decode cX1_push 43 = .ok (.iconst 1, 1) := by decide +kernel
theorem dX1_push_44 : decode cX1_push 44 = .ok (.isub, 1) := by decide +kernel
theorem dX1_push_45 : decode cX1_push 45 = .ok (.dup2, 1) := by decide +kernel
theorem dX1_push_46 : decode cX1_push 46 = .ok (.iaload, 1) := by decide +kernel
theorem dX1_push_47 : decode cX1_push 47 = .ok (.iconst 1, 1) := by decide +kernel
theorem dX1_push_48 : decode cX1_push 48 = .ok (.isub, 1) := by decide +kernel
theorem dX1_push_49 : decode cX1_push 49 = .ok (.iastore, 1) := by decide +kernel
theorem dX1_push_50 : decode cX1_push 50 = .ok (.aload_n 0, 1) := by decide +kernel
theorem dX1_push_51 : decode cX1_push 51 = .ok (.getfield 21, 3) := by decide +kernel
theorem dX1_push_54 : decode cX1_push 54 = .ok (.aload_n 0, 1) := by decide +kernel
theorem dX1_push_55 : decode cX1_push 55 = .ok (.getfield 31, 3) := by decide +kernel
theorem dX1_push_58 : decode cX1_push 58 = .ok (.iconst 1, 1) := by decide +kernel
theorem dX1_push_59 : decode cX1_push 59 = .ok (.isub, 1) := by decide +kernel
theorem dX1_push_60 : decode cX1_push 60 = .ok (.dup2, 1) := by decide +kernel
theorem dX1_push_61 : decode cX1_push 61 = .ok (.laload, 1) := by decide +kernel
theorem dX1_push_62 : decode cX1_push 62 = .ok (.ldc2_w 43, 3) := by decide +kernel
theorem dX1_push_65 : decode cX1_push 65 = .ok (.ldiv, 1) := by decide +kernel
theorem dX1_push_66 : decode cX1_push 66 = .ok (.lastore, 1) := by decide +kernel
theorem dX1_push_67 : decode cX1_push 67 = .ok (.aload_n 0, 1) := by decide +kernel
theorem dX1_push_68 : decode cX1_push 68 = .ok (.getfield 25, 3) := by decide +kernel
theorem dX1_push_71 : decode cX1_push 71 = .ok (.aload_n 0, 1) := by decide +kernel
theorem dX1_push_72 : decode cX1_push 72 = .ok (.getfield 31, 3) := by decide +kernel
theorem dX1_push_75 : decode cX1_push 75 = .ok (.iconst 1, 1) := by decide +kernel
theorem dX1_push_76 : decode cX1_push 76 = .ok (.isub, 1) := by decide +kernel
theorem dX1_push_77 : decode cX1_push 77 = .ok (.dup2, 1) := by decide +kernel
theorem dX1_push_78 : decode cX1_push 78 = .ok (.iaload, 1) := by decide +kernel
theorem dX1_push_79 : decode cX1_push 79 = .ok (.iconst 1, 1) := by decide +kernel
theorem dX1_push_80 : decode cX1_push 80 = .ok (.isub, 1) := by decide +kernel
theorem dX1_push_81 : decode cX1_push 81 = .ok (.iastore, 1) := by decide +kernel
theorem dX1_push_82 : decode cX1_push 82 = .ok (.aload_n 0, 1) := by decide +kernel
theorem dX1_push_83 : decode cX1_push 83 = .ok (.getfield 28, 3) := by decide +kernel
theorem dX1_push_86 : decode cX1_push 86 = .ok (.aload_n 0, 1) := by decide +kernel
theorem dX1_push_87 : decode cX1_push 87 = .ok (.getfield 31, 3) := by decide +kernel
theorem dX1_push_90 : decode cX1_push 90 = .ok (.iconst 1, 1) := by decide +kernel
theorem dX1_push_91 : decode cX1_push 91 = .ok (.isub, 1) := by decide +kernel
theorem dX1_push_92 : decode cX1_push 92 = .ok (.dup2, 1) := by decide +kernel
theorem dX1_push_93 : decode cX1_push 93 = .ok (.laload, 1) := by decide +kernel
theorem dX1_push_94 : decode cX1_push 94 = .ok (.ldc2_w 43, 3) := by decide +kernel
theorem dX1_push_97 : decode cX1_push 97 = .ok (.ldiv, 1) := by decide +kernel
theorem dX1_push_98 : decode cX1_push 98 = .ok (.lastore, 1) := by decide +kernel
theorem dX1_push_99 : decode cX1_push 99 = .ok (.goto (-89), 3) := by decide +kernel
theorem dX1_push_102 : decode cX1_push 102 = .ok (.return_, 1) := by decide +kernel
theorem dX1_areLastHalves_0 : decode cX1_areLastHalves 0 = .ok (.aload_n 0, 1) := by decide +kernel
theorem dX1_areLastHalves_1 : decode cX1_areLastHalves 1 = .ok (.getfield 31, 3) := by decide +kernel
theorem dX1_areLastHalves_4 : decode cX1_areLastHalves 4 = .ok (.iconst 1, 1) := by decide +kernel
theorem dX1_areLastHalves_5 : decode cX1_areLastHalves 5 = .ok (.isub, 1) := by decide +kernel
theorem dX1_areLastHalves_6 : decode cX1_areLastHalves 6 = .ok (.istore_n 1, 1) := by decide +kernel
theorem dX1_areLastHalves_7 : decode cX1_areLastHalves 7 = .ok (.aload_n 0, 1) := by decide +kernel
theorem dX1_areLastHalves_8 : decode cX1_areLastHalves 8 = .ok (.getfield 31, 3) := by decide +kernel
theorem dX1_areLastHalves_11 : decode cX1_areLastHalves 11 = .ok (.iconst 2, 1) := by decide +kernel
theorem dX1_areLastHalves_12 : decode cX1_areLastHalves 12 = .ok (.isub, 1) := by decide +kernel
theorem dX1_areLastHalves_13 : decode cX1_areLastHalves 13 = .ok (.istore_n 2, 1) := by decide +kernel
theorem dX1_areLastHalves_14 : decode cX1_areLastHalves 14 = .ok (.aload_n 0, 1) := by decide +kernel
theorem dX1_areLastHalves_15 : decode cX1_areLastHalves 15 = .ok (.getfield 15, 3) := by decide +kernel
theorem dX1_areLastHalves_18 : decode cX1_areLastHalves 18 = .ok (.iload_n 2, 1) := by decide +kernel
theorem dX1_areLastHalves_19 : decode cX1_areLastHalves 19 = .ok (.iaload, 1) := by decide +kernel
theorem dX1_areLastHalves_20 : decode cX1_areLastHalves 20 = .ok (.aload_n 0, 1) := by decide +kernel
theorem dX1_areLastHalves_21 : decode cX1_areLastHalves 21 = .ok (.getfield 15, 3) := by decide +kernel
theorem dX1_areLastHalves_24 : decode cX1_areLastHalves 24 = .ok (.iload_n 1, 1) := by decide +kernel
theorem dX1_areLastHalves_25 : decode cX1_areLastHalves 25 = .ok (.iaload, 1) := by decide +kernel
theorem dX1_areLastHalves_26 : decode cX1_areLastHalves 26 = .ok (.if_icmp .ne 88, 3) := by decide +kernel
theorem dX1_areLastHalves_29 : decode cX1_areLastHalves 29 = .ok (.aload_n 0, 1) := by decide +kernel
theorem dX1_areLastHalves_30 : decode cX1_areLastHalves 30 = .ok (.getfield 25, 3) := by decide +kernel
theorem dX1_areLastHalves_33 : decode cX1_areLastHalves 33 = .ok (.iload_n 2, 1) := by decide +kernel
theorem dX1_areLastHalves_34 : decode cX1_areLastHalves 34 = .ok (.iaload, 1) := by decide +kernel
theorem dX1_areLastHalves_35 : decode cX1_areLastHalves 35 = .ok (.aload_n 0, 1) := by decide +kernel
theorem dX1_areLastHalves_36 : decode cX1_areLastHalves 36 = .ok (.getfield 25, 3) := by decide +kernel
theorem dX1_areLastHalves_39 : decode cX1_areLastHalves 39 = .ok (.iload_n 1, 1) := by decide +kernel
theorem dX1_areLastHalves_40 : decode cX1_areLastHalves 40 = .ok (.iaload, 1) := by decide +kernel
theorem dX1_areLastHalves_41 : decode cX1_areLastHalves 41 = .ok (.if_icmp .ne 73, 3) := by decide +kernel
theorem dX1_areLastHalves_44 : decode cX1_areLastHalves 44 = .ok (.aload_n 0, 1) := by decide +kernel
theorem dX1_areLastHalves_45 : decode cX1_areLastHalves 45 = .ok (.getfield 21, 3) := by decide +kernel
theorem dX1_areLastHalves_48 : decode cX1_areLastHalves 48 = .ok (.iload_n 2, 1) := by decide +kernel
theorem dX1_areLastHalves_49 : decode cX1_areLastHalves 49 = .ok (.laload, 1) := by decide +kernel
theorem dX1_areLastHalves_50 : decode cX1_areLastHalves 50 = .ok (.ldc2_w 43, 3) := by decide +kernel
theorem dX1_areLastHalves_53 : decode cX1_areLastHalves 53 = .ok (.lrem, 1) := by decide +kernel
theorem dX1_areLastHalves_54 : decode cX1_areLastHalves 54 = .ok (.lconst 0, 1) := by decide +kernel
theorem dX1_areLastHalves_55 : decode cX1_areLastHalves 55 = .ok (.lcmp, 1) := by decide +kernel
theorem dX1_areLastHalves_56 : decode cX1_areLastHalves 56 = .ok (.ifCond .ne 58, 3) := by decide +kernel
theorem dX1_areLastHalves_59 : decode cX1_areLastHalves 59 = .ok (.aload_n 0, 1) := by decide +kernel
theorem dX1_areLastHalves_60 : decode cX1_areLastHalves 60 = .ok (.getfield 21, 3) := by decide +kernel
theorem dX1_areLastHalves_63 : decode cX1_areLastHalves 63 = .ok (.iload_n 2, 1) := by decide +kernel
theorem dX1_areLastHalves_64 : decode cX1_areLastHalves 64 = .ok (.laload, 1) := by decide +kernel
theorem dX1_areLastHalves_65 : decode cX1_areLastHalves 65 = .ok (.lconst 1, 1) := by decide +kernel
theorem dX1_areLastHalves_66 : decode cX1_areLastHalves 66 = .ok (.ladd, 1) := by decide +kernel
theorem dX1_areLastHalves_67 : decode cX1_areLastHalves 67 = .ok (.aload_n 0, 1) := by decide +kernel
theorem dX1_areLastHalves_68 : decode cX1_areLastHalves 68 = .ok (.getfield 21, 3) := by decide +kernel
theorem dX1_areLastHalves_71 : decode cX1_areLastHalves 71 = .ok (.iload_n 1, 1) := by decide +kernel
theorem dX1_areLastHalves_72 : decode cX1_areLastHalves 72 = .ok (.laload, 1) := by decide +kernel
theorem dX1_areLastHalves_73 : decode cX1_areLastHalves 73 = .ok (.lcmp, 1) := by decide +kernel
theorem dX1_areLastHalves_74 : decode cX1_areLastHalves 74 = .ok (.ifCond .ne 40, 3) := by decide +kernel
theorem dX1_areLastHalves_77 : decode cX1_areLastHalves 77 = .ok (.aload_n 0, 1) := by decide +kernel
theorem dX1_areLastHalves_78 : decode cX1_areLastHalves 78 = .ok (.getfield 28, 3) := by decide +kernel
theorem dX1_areLastHalves_81 : decode cX1_areLastHalves 81 = .ok (.iload_n 2, 1) := by decide +kernel
theorem dX1_areLastHalves_82 : decode cX1_areLastHalves 82 = .ok (.laload, 1) := by decide +kernel
theorem dX1_areLastHalves_83 : decode cX1_areLastHalves 83 = .ok (.ldc2_w 43, 3) := by decide +kernel
theorem dX1_areLastHalves_86 : decode cX1_areLastHalves 86 = .ok (.lrem, 1) := by decide +kernel
theorem dX1_areLastHalves_87 : decode cX1_areLastHalves 87 = .ok (.lconst 0, 1) := by decide +kernel
theorem dX1_areLastHalves_88 : decode cX1_areLastHalves 88 = .ok (.lcmp, 1) := by decide +kernel
theorem dX1_areLastHalves_89 : decode cX1_areLastHalves 89 = .ok (.ifCond .ne 25, 3) := by decide +kernel
theorem dX1_areLastHalves_92 : decode cX1_areLastHalves 92 = .ok (.aload_n 0, 1) := by decide +kernel
theorem dX1_areLastHalves_93 : decode cX1_areLastHalves 93 = .ok (.getfield 28, 3) := by decide +kernel
theorem dX1_areLastHalves_96 : decode cX1_areLastHalves 96 = .ok (.iload_n 2, 1) := by decide +kernel
theorem dX1_areLastHalves_97 : decode cX1_areLastHalves 97 = .ok (.laload, 1) := by decide +kernel
theorem dX1_areLastHalves_98 : decode cX1_areLastHalves 98 = .ok (.lconst 1, 1) := by decide +kernel
theorem dX1_areLastHalves_99 : decode cX1_areLastHalves 99 = .ok (.ladd, 1) := by decide +kernel
theorem dX1_areLastHalves_100 : decode cX1_areLastHalves 100 = .ok (.aload_n 0, 1) := by decide +kernel
theorem dX1_areLastHalves_101 : decode cX1_areLastHalves 101 = .ok (.getfield 28, 3) := by decide +kernel
theorem dX1_areLastHalves_104 : decode cX1_areLastHalves 104 = .ok (.iload_n 1, 1) := by decide +kernel
theorem dX1_areLastHalves_105 : decode cX1_areLastHalves 105 = .ok (.laload, 1) := by decide +kernel
theorem dX1_areLastHalves_106 : decode cX1_areLastHalves 106 = .ok (.lcmp, 1) := by decide +kernel
theorem dX1_areLastHalves_107 : decode cX1_areLastHalves 107 = .ok (.ifCond .ne 7, 3) := by decide +kernel
theorem dX1_areLastHalves_110 : decode cX1_areLastHalves 110 = .ok (.iconst 1, 1) := by decide +kernel
theorem dX1_areLastHalves_111 : decode cX1_areLastHalves 111 = .ok (.goto 4, 3) := by decide +kernel
theorem dX1_areLastHalves_114 : decode cX1_areLastHalves 114 = .ok (.iconst 0, 1) := by decide +kernel
theorem dX1_areLastHalves_115 : decode cX1_areLastHalves 115 = .ok (.ireturn, 1) := by decide +kernel
set_option maxRecDepth 20000 in
theorem ggX1_sinkLast_X1_firstStart : GoodIn wsX1_sinkLast wsX1_firstStart := goodIn_r _ [10, 2, 3, 11, 12, 13, 20, 21, 22, 23, 24] (by decide +kernel) (by decide +kernel)
set_option maxRecDepth 20000 in
theorem gX1_sinkLast_X1_firstStart : GoodIn wsX1_sinkLast (wsV RX1 45 RX1 yX1_firstStart wsX1_firstStart) := goodIn_app (goodIn_of _ (by decide +kernel)) ggX1_sinkLast_X1_firstStart
set_option maxRecDepth 20000 in
theorem ggX1_sinkLast_X1_exchange : GoodIn wsX1_sinkLast wsX1_exchange := goodIn_r _ [16] (by decide +kernel) (by decide +kernel)
set_option maxRecDepth 20000 in
theorem gX1_sinkLast_X1_exchange : GoodIn wsX1_sinkLast (va_wsS RX1 49 yX1_exchange wsX1_exchange) := goodIn_app (goodIn_of _ (by decide +kernel)) ggX1_sinkLast_X1_exchange
set_option maxRecDepth 20000 in
theorem ggX1_sinkLast_X1_exchange_ : GoodIn wsX1_sinkLast wsX1_exchange_ := goodIn_r _ [19] (by decide +kernel) (by decide +kernel)
set_option maxRecDepth 20000 in
theorem gX1_sinkLast_X1_exchange_ : GoodIn wsX1_sinkLast (va_wsS RX1 53 yX1_exchange_ wsX1_exchange_) := goodIn_app (goodIn_of _ (by decide +kernel)) ggX1_sinkLast_X1_exchange_
theorem dX1_sinkLast_0 : decode cX1_sinkLast 0 = .ok (.aload_n 0, 1) := by decide +kernel
theorem dX1_sinkLast_1 : decode cX1_sinkLast 1 = .ok (.getfield 31, 3) := by decide +kernel
theorem dX1_sinkLast_4 : decode cX1_sinkLast 4 = .ok (.iconst 1, 1) := by decide +kernel
theorem dX1_sinkLast_5 : decode cX1_sinkLast 5 = .ok (.isub, 1) := by decide +kernel
theorem dX1_sinkLast_6 : decode cX1_sinkLast 6 = .ok (.istore_n 1, 1) := by decide +kernel
theorem dX1_sinkLast_7 : decode cX1_sinkLast 7 = .ok (.iload_n 1, 1) := by decide +kernel
theorem dX1_sinkLast_8 : decode cX1_sinkLast 8 = .ok (.ifCond .le 57, 3) := by decide +kernel
theorem dX1_sinkLast_11 : decode cX1_sinkLast 11 = .ok (.aload_n 0, 1) := by decide +kernel
theorem dX1_sinkLast_12 : decode cX1_sinkLast 12 = .ok (.iload_n 1, 1) := by decide +kernel
theorem dX1_sinkLast_13 : decode cX1_sinkLast 13 = .ok (.invokevirtual 45, 3) := by decide +kernel
theorem dX1_sinkLast_16 : decode cX1_sinkLast 16 = .ok (.aload_n 0, 1) := by decide +kernel
theorem dX1_sinkLast_17 : decode cX1_sinkLast 17 = .ok (.iload_n 1, 1) := by decide +kernel
theorem dX1_sinkLast_18 : decode cX1_sinkLast 18 = .ok (.iconst 1, 1) := by decide +kernel
theorem dX1_sinkLast_19 : decode cX1_sinkLast 19 = .ok (.isub, 1) := by decide +kernel
theorem dX1_sinkLast_20 : decode cX1_sinkLast 20 = .ok (.invokevirtual 45, 3) := by decide +kernel
theorem dX1_sinkLast_23 : decode cX1_sinkLast 23 = .ok (.lcmp, 1) := by decide +kernel
theorem dX1_sinkLast_24 : decode cX1_sinkLast 24 = .ok (.ifCond .ge 41, 3) := by decide +kernel
theorem dX1_sinkLast_27 : decode cX1_sinkLast 27 = .ok (.aload_n 0, 1) := by decide +kernel
theorem dX1_sinkLast_28 : decode cX1_sinkLast 28 = .ok (.getfield 15, 3) := by decide +kernel
theorem dX1_sinkLast_31 : decode cX1_sinkLast 31 = .ok (.iload_n 1, 1) := by decide +kernel
theorem dX1_sinkLast_32 : decode cX1_sinkLast 32 = .ok (.invokestatic 49, 3) := by decide +kernel
theorem dX1_sinkLast_35 : decode cX1_sinkLast 35 = .ok (.aload_n 0, 1) := by decide +kernel
theorem dX1_sinkLast_36 : decode cX1_sinkLast 36 = .ok (.getfield 21, 3) := by decide +kernel
theorem dX1_sinkLast_39 : decode cX1_sinkLast 39 = .ok (.iload_n 1, 1) := by decide +kernel
theorem dX1_sinkLast_40 : decode cX1_sinkLast 40 = .ok (.invokestatic 53, 3) := by decide +kernel
theorem dX1_sinkLast_43 : decode cX1_sinkLast 43 = .ok (.aload_n 0, 1) := by decide +kernel
theorem dX1_sinkLast_44 : decode cX1_sinkLast 44 = .ok (.getfield 25, 3) := by decide +kernel
theorem dX1_sinkLast_47 : decode cX1_sinkLast 47 = .ok (.iload_n 1, 1) := by decide +kernel
theorem dX1_sinkLast_48 : decode cX1_sinkLast 48 = .ok (.invokestatic 49, 3) := by decide +kernel
theorem dX1_sinkLast_51 : decode cX1_sinkLast 51 = .ok (.aload_n 0, 1) := by decide +kernel
theorem dX1_sinkLast_52 : decode cX1_sinkLast 52 = .ok (.getfield 28, 3) := by decide +kernel
theorem dX1_sinkLast_55 : decode cX1_sinkLast 55 = .ok (.iload_n 1, 1) := by decide +kernel
theorem dX1_sinkLast_56 : decode cX1_sinkLast 56 = .ok (.invokestatic 53, 3) := by decide +kernel
theorem dX1_sinkLast_59 : decode cX1_sinkLast 59 = .ok (.iinc 1 (-1), 3) := by decide +kernel
theorem dX1_sinkLast_62 : decode cX1_sinkLast 62 = .ok (.goto (-55), 3) := by decide +kernel
theorem dX1_sinkLast_65 : decode cX1_sinkLast 65 = .ok (.return_, 1) := by decide +kernel
theorem dX1_exchange_0 : decode cX1_exchange 0 = .ok (.aload_n 0, 1) := by decide +kernel
theorem dX1_exchange_1 : decode cX1_exchange 1 = .ok (.iload_n 1, 1) := by decide +kernel
theorem dX1_exchange_2 : decode cX1_exchange 2 = .ok (.iaload, 1) := by decide +kernel
theorem dX1_exchange_3 : decode cX1_exchange 3 = .ok (.istore_n 2, 1) := by decide +kernel
theorem dX1_exchange_4 : decode cX1_exchange 4 = .ok (.aload_n 0, 1) := by decide +kernel
theorem dX1_exchange_5 : decode cX1_exchange 5 = .ok (.iload_n 1, 1) := by decide +kernel
theorem dX1_exchange_6 : decode cX1_exchange 6 = .ok (.aload_n 0, 1) := by decide +kernel
theorem dX1_exchange_7 : decode cX1_exchange 7 = .ok (.iload_n 1, 1) := by decide +kernel
theorem dX1_exchange_8 : decode cX1_exchange 8 = .ok (.iconst 1, 1) := by decide +kernel
theorem dX1_exchange_9 : decode cX1_exchange 9 = .ok (.isub, 1) := by decide +kernel
theorem dX1_exchange_10 : decode cX1_exchange 10 = .ok (.iaload, 1) := by decide +kernel
theorem dX1_exchange_11 : decode cX1_exchange 11 = .ok (.iastore, 1) := by decide +kernel
theorem dX1_exchange_12 : decode cX1_exchange 12 = .ok (.aload_n 0, 1) := by decide +kernel
theorem dX1_exchange_13 : decode cX1_exchange 13 = .ok (.iload_n 1, 1) := by decide +kernel
theorem dX1_exchange_14 : decode cX1_exchange 14 = .ok (.iconst 1, 1) := by decide +kernel
theorem dX1_exchange_15 : decode cX1_exchange 15 = .ok (.isub, 1) := by decide +kernel
theorem dX1_exchange_16 : decode cX1_exchange 16 = .ok (.iload_n 2, 1) := by decide +kernel
theorem dX1_exchange_17 : decode cX1_exchange 17 = .ok (.iastore, 1) := by decide +kernel
theorem dX1_exchange_18 : decode cX1_exchange 18 = .ok (.return_, 1) := by decide +kernel
theorem dX1_exchange__0 : decode cX1_exchange_ 0 = .ok (.aload_n 0, 1) := by decide +kernel
theorem dX1_exchange__1 : decode cX1_exchange_ 1 = .ok (.iload_n 1, 1) := by decide +kernel
theorem dX1_exchange__2 : decode cX1_exchange_ 2 = .ok (.laload, 1) := by decide +kernel
theorem dX1_exchange__3 : decode cX1_exchange_ 3 = .ok (.lstore_n 2, 1) := by decide +kernel
theorem dX1_exchange__4 : decode cX1_exchange_ 4 = .ok (.aload_n 0, 1) := by decide +kernel
theorem dX1_exchange__5 : decode cX1_exchange_ 5 = .ok (.iload_n 1, 1) := by decide +kernel
theorem dX1_exchange__6 : decode cX1_exchange_ 6 = .ok (.aload_n 0, 1) := by decide +kernel
theorem dX1_exchange__7 : decode cX1_exchange_ 7 = .ok (.iload_n 1, 1) := by decide +kernel
theorem dX1_exchange__8 : decode cX1_exchange_ 8 = .ok (.iconst 1, 1) := by decide +kernel
theorem dX1_exchange__9 : decode cX1_exchange_ 9 = .ok (.isub, 1) := by decide +kernel
theorem dX1_exchange__10 : decode cX1_exchange_ 10 = .ok (.laload, 1) := by decide +kernel
theorem dX1_exchange__11 : decode cX1_exchange_ 11 = .ok (.lastore, 1) := by decide +kernel
theorem dX1_exchange__12 : decode cX1_exchange_ 12 = .ok (.aload_n 0, 1) := by decide +kernel
theorem dX1_exchange__13 : decode cX1_exchange_ 13 = .ok (.iload_n 1, 1) := by decide +kernel
theorem dX1_exchange__14 : decode cX1_exchange_ 14 = .ok (.iconst 1, 1) := by decide +kernel
theorem dX1_exchange__15 : decode cX1_exchange_ 15 = .ok (.isub, 1) := by decide +kernel
theorem dX1_exchange__16 : decode cX1_exchange_ 16 = .ok (.lload_n 2, 1) := by decide +kernel
theorem dX1_exchange__17 : decode cX1_exchange_ 17 = .ok (.lastore, 1) := by decide +kernel
theorem dX1_exchange__18 : decode cX1_exchange_ 18 = .ok (.return_, 1) := by decide +kernel
theorem dX1_told_0 : decode cX1_told 0 = .ok (.iload_n 2, 1) := by decide +kernel
theorem dX1_told_1 : decode cX1_told 1 = .ok (.tableswitch 50 0 2 #[27, 35, 42], 27) := by decide +kernel
theorem dX1_told_28 : decode cX1_told 28 = .ok (.aload_n 0, 1) := by decide +kernel
theorem dX1_told_29 : decode cX1_told 29 = .ok (.getfield 15, 3) := by decide +kernel
theorem dX1_told_32 : decode cX1_told 32 = .ok (.iload_n 1, 1) := by decide +kernel
theorem dX1_told_33 : decode cX1_told 33 = .ok (.iaload, 1) := by decide +kernel
theorem dX1_told_34 : decode cX1_told 34 = .ok (.i2l, 1) := by decide +kernel
theorem dX1_told_35 : decode cX1_told 35 = .ok (.lreturn, 1) := by decide +kernel
theorem dX1_told_36 : decode cX1_told 36 = .ok (.aload_n 0, 1) := by decide +kernel
theorem dX1_told_37 : decode cX1_told 37 = .ok (.getfield 21, 3) := by decide +kernel
theorem dX1_told_40 : decode cX1_told 40 = .ok (.iload_n 1, 1) := by decide +kernel
theorem dX1_told_41 : decode cX1_told 41 = .ok (.laload, 1) := by decide +kernel
theorem dX1_told_42 : decode cX1_told 42 = .ok (.lreturn, 1) := by decide +kernel
theorem dX1_told_43 : decode cX1_told 43 = .ok (.aload_n 0, 1) := by decide +kernel
theorem dX1_told_44 : decode cX1_told 44 = .ok (.getfield 25, 3) := by decide +kernel
theorem dX1_told_47 : decode cX1_told 47 = .ok (.iload_n 1, 1) := by decide +kernel
theorem dX1_told_48 : decode cX1_told 48 = .ok (.iaload, 1) := by decide +kernel
theorem dX1_told_49 : decode cX1_told 49 = .ok (.i2l, 1) := by decide +kernel
theorem dX1_told_50 : decode cX1_told 50 = .ok (.lreturn, 1) := by decide +kernel
theorem dX1_told_51 : decode cX1_told 51 = .ok (.aload_n 0, 1) := by decide +kernel
theorem dX1_told_52 : decode cX1_told 52 = .ok (.getfield 28, 3) := by decide +kernel
theorem dX1_told_55 : decode cX1_told 55 = .ok (.iload_n 1, 1) := by decide +kernel
theorem dX1_told_56 : decode cX1_told 56 = .ok (.laload, 1) := by decide +kernel
theorem dX1_told_57 : decode cX1_told 57 = .ok (.lreturn, 1) := by decide +kernel
theorem dX1_steepness_0 : decode cX1_steepness 0 = .ok (.aload_n 0, 1) := by decide +kernel
theorem dX1_steepness_1 : decode cX1_steepness 1 = .ok (.getfield 15, 3) := by decide +kernel
theorem dX1_steepness_4 : decode cX1_steepness 4 = .ok (.iload_n 1, 1) := by decide +kernel
theorem dX1_steepness_5 : decode cX1_steepness 5 = .ok (.iaload, 1) := by decide +kernel
theorem dX1_steepness_6 : decode cX1_steepness 6 = .ok (.aload_n 0, 1) := by decide +kernel
theorem dX1_steepness_7 : decode cX1_steepness 7 = .ok (.getfield 25, 3) := by decide +kernel
theorem dX1_steepness_10 : decode cX1_steepness 10 = .ok (.iload_n 1, 1) := by decide +kernel
theorem dX1_steepness_11 : decode cX1_steepness 11 = .ok (.iaload, 1) := by decide +kernel
theorem dX1_steepness_12 : decode cX1_steepness 12 = .ok (.isub, 1) := by decide +kernel
theorem dX1_steepness_13 : decode cX1_steepness 13 = .ok (.ireturn, 1) := by decide +kernel
set_option maxRecDepth 20000 in
theorem ggX1_firstStart_X2_startOf : GoodIn wsX1_firstStart wsX2_startOf := goodIn_r _ [5] (by decide +kernel) (by decide +kernel)
set_option maxRecDepth 20000 in
theorem gX1_firstStart_X2_startOf_n56 : GoodIn wsX1_firstStart (wsX2_startOf) := ggX1_firstStart_X2_startOf
theorem dX1_firstStart_0 : decode cX1_firstStart 0 = .ok (.aload_n 0, 1) := by decide +kernel
theorem dX1_firstStart_1 : decode cX1_firstStart 1 = .ok (.getfield 15, 3) := by decide +kernel
theorem dX1_firstStart_4 : decode cX1_firstStart 4 = .ok (.iload_n 1, 1) := by decide +kernel
theorem dX1_firstStart_5 : decode cX1_firstStart 5 = .ok (.iaload, 1) := by decide +kernel
theorem dX1_firstStart_6 : decode cX1_firstStart 6 = .ok (.aload_n 0, 1) := by decide +kernel
theorem dX1_firstStart_7 : decode cX1_firstStart 7 = .ok (.getfield 21, 3) := by decide +kernel
theorem dX1_firstStart_10 : decode cX1_firstStart 10 = .ok (.iload_n 1, 1) := by decide +kernel
theorem dX1_firstStart_11 : decode cX1_firstStart 11 = .ok (.laload, 1) := by decide +kernel
theorem dX1_firstStart_12 : decode cX1_firstStart 12 = .ok (.invokestatic 56, 3) := by decide +kernel
theorem dX1_firstStart_15 : decode cX1_firstStart 15 = .ok (.lreturn, 1) := by decide +kernel
set_option maxRecDepth 20000 in
theorem ggX1_secondStart_X2_startOf : GoodIn wsX1_secondStart wsX2_startOf := goodIn_r _ [5] (by decide +kernel) (by decide +kernel)
set_option maxRecDepth 20000 in
theorem gX1_secondStart_X2_startOf_n56 : GoodIn wsX1_secondStart (wsX2_startOf) := ggX1_secondStart_X2_startOf
theorem dX1_secondStart_0 : decode cX1_secondStart 0 = .ok (.aload_n 0, 1) := by decide +kernel
theorem dX1_secondStart_1 : decode cX1_secondStart 1 = .ok (.getfield 25, 3) := by decide +kernel
theorem dX1_secondStart_4 : decode cX1_secondStart 4 = .ok (.iload_n 1, 1) := by decide +kernel
theorem dX1_secondStart_5 : decode cX1_secondStart 5 = .ok (.iaload, 1) := by decide +kernel
theorem dX1_secondStart_6 : decode cX1_secondStart 6 = .ok (.aload_n 0, 1) := by decide +kernel
theorem dX1_secondStart_7 : decode cX1_secondStart 7 = .ok (.getfield 28, 3) := by decide +kernel
theorem dX1_secondStart_10 : decode cX1_secondStart 10 = .ok (.iload_n 1, 1) := by decide +kernel
theorem dX1_secondStart_11 : decode cX1_secondStart 11 = .ok (.laload, 1) := by decide +kernel
theorem dX1_secondStart_12 : decode cX1_secondStart 12 = .ok (.invokestatic 56, 3) := by decide +kernel
theorem dX1_secondStart_15 : decode cX1_secondStart 15 = .ok (.lreturn, 1) := by decide +kernel
set_option maxRecDepth 20000 in
theorem ggX1_secondEnd_X2_startOf : GoodIn wsX1_secondEnd wsX2_startOf := goodIn_r _ [5] (by decide +kernel) (by decide +kernel)
set_option maxRecDepth 20000 in
theorem gX1_secondEnd_X2_startOf_n56 : GoodIn wsX1_secondEnd (wsX2_startOf) := ggX1_secondEnd_X2_startOf
theorem dX1_secondEnd_0 : decode cX1_secondEnd 0 = .ok (.aload_n 0, 1) := by decide +kernel
theorem dX1_secondEnd_1 : decode cX1_secondEnd 1 = .ok (.getfield 25, 3) := by decide +kernel
theorem dX1_secondEnd_4 : decode cX1_secondEnd 4 = .ok (.iload_n 1, 1) := by decide +kernel
theorem dX1_secondEnd_5 : decode cX1_secondEnd 5 = .ok (.iaload, 1) := by decide +kernel
theorem dX1_secondEnd_6 : decode cX1_secondEnd 6 = .ok (.aload_n 0, 1) := by decide +kernel
theorem dX1_secondEnd_7 : decode cX1_secondEnd 7 = .ok (.getfield 28, 3) := by decide +kernel
theorem dX1_secondEnd_10 : decode cX1_secondEnd 10 = .ok (.iload_n 1, 1) := by decide +kernel
theorem dX1_secondEnd_11 : decode cX1_secondEnd 11 = .ok (.laload, 1) := by decide +kernel
theorem dX1_secondEnd_12 : decode cX1_secondEnd 12 = .ok (.lconst 1, 1) := by decide +kernel
theorem dX1_secondEnd_13 : decode cX1_secondEnd 13 = .ok (.ladd, 1) := by decide +kernel
theorem dX1_secondEnd_14 : decode cX1_secondEnd 14 = .ok (.invokestatic 56, 3) := by decide +kernel
theorem dX1_secondEnd_17 : decode cX1_secondEnd 17 = .ok (.lreturn, 1) := by decide +kernel
set_option maxRecDepth 20000 in
theorem ggX1_holderOf_X1_firstStart : GoodIn wsX1_holderOf wsX1_firstStart := goodIn_r _ [6, 7, 8, 9, 10, 11, 12, 13, 14, 15, 16] (by decide +kernel) (by decide +kernel)
set_option maxRecDepth 20000 in
theorem gX1_holderOf_X1_firstStart : GoodIn wsX1_holderOf (wsV RX1 45 RX1 yX1_firstStart wsX1_firstStart) := goodIn_app (goodIn_of _ (by decide +kernel)) ggX1_holderOf_X1_firstStart
theorem dX1_holderOf_0 : decode cX1_holderOf 0 = .ok (.iconst 0, 1) := by decide +kernel
theorem dX1_holderOf_1 : decode cX1_holderOf 1 = .ok (.istore_n 3, 1) := by decide +kernel
theorem dX1_holderOf_2 : decode cX1_holderOf 2 = .ok (.bipush 32, 2) := by decide +kernel
theorem dX1_holderOf_4 : decode cX1_holderOf 4 = .ok (.istore 4, 2) := by decide +kernel
theorem dX1_holderOf_6 : decode cX1_holderOf 6 = .ok (.iload 4, 2) := by decide +kernel
theorem dX1_holderOf_8 : decode cX1_holderOf 8 = .ok (.ifCond .le 41, 3) := by decide +kernel
theorem dX1_holderOf_11 : decode cX1_holderOf 11 = .ok (.iload_n 3, 1) := by decide +kernel
theorem dX1_holderOf_12 : decode cX1_holderOf 12 = .ok (.iload 4, 2) := by decide +kernel
theorem dX1_holderOf_14 : decode cX1_holderOf 14 = .ok (.iadd, 1) := by decide +kernel
theorem dX1_holderOf_15 : decode cX1_holderOf 15 = .ok (.aload_n 0, 1) := by decide +kernel
theorem dX1_holderOf_16 : decode cX1_holderOf 16 = .ok (.getfield 31, 3) := by decide +kernel
theorem dX1_holderOf_19 : decode cX1_holderOf 19 = .ok (.if_icmp .ge 21, 3) := by decide +kernel
theorem dX1_holderOf_22 : decode cX1_holderOf 22 = .ok (.aload_n 0, 1) := by decide +kernel
theorem dX1_holderOf_23 : decode cX1_holderOf 23 = .ok (.iload_n 3, 1) := by decide +kernel
theorem dX1_holderOf_24 : decode cX1_holderOf 24 = .ok (.iload 4, 2) := by decide +kernel
theorem dX1_holderOf_26 : decode cX1_holderOf 26 = .ok (.iadd, 1) := by decide +kernel
theorem dX1_holderOf_27 : decode cX1_holderOf 27 = .ok (.invokevirtual 45, 3) := by decide +kernel
theorem dX1_holderOf_30 : decode cX1_holderOf 30 = .ok (.lload_n 1, 1) := by decide +kernel
theorem dX1_holderOf_31 : decode cX1_holderOf 31 = .ok (.lcmp, 1) := by decide +kernel
theorem dX1_holderOf_32 : decode cX1_holderOf 32 = .ok (.ifCond .gt 8, 3) := by decide +kernel
theorem dX1_holderOf_35 : decode cX1_holderOf 35 = .ok (.iload_n 3, 1) := by decide +kernel
theorem dX1_holderOf_36 : decode cX1_holderOf 36 = .ok (.iload 4, 2) := by decide +kernel
theorem dX1_holderOf_38 : decode cX1_holderOf 38 = .ok (.iadd, 1) := by decide +kernel
theorem dX1_holderOf_39 : decode cX1_holderOf 39 = .ok (.istore_n 3, 1) := by decide +kernel
theorem dX1_holderOf_40 : decode cX1_holderOf 40 = .ok (.iload 4, 2) := by decide +kernel
theorem dX1_holderOf_42 : decode cX1_holderOf 42 = .ok (.iconst 2, 1) := by decide +kernel
theorem dX1_holderOf_43 : decode cX1_holderOf 43 = .ok (.idiv, 1) := by decide +kernel
theorem dX1_holderOf_44 : decode cX1_holderOf 44 = .ok (.istore 4, 2) := by decide +kernel
theorem dX1_holderOf_46 : decode cX1_holderOf 46 = .ok (.goto (-40), 3) := by decide +kernel
theorem dX1_holderOf_49 : decode cX1_holderOf 49 = .ok (.iload_n 3, 1) := by decide +kernel
theorem dX1_holderOf_50 : decode cX1_holderOf 50 = .ok (.ireturn, 1) := by decide +kernel
set_option maxRecDepth 20000 in
theorem ggX2_init_X1_init : GoodIn wsX2_init wsX1_init := goodIn_r _ [14, 15, 2, 3, 16, 17, 18, 19, 20, 21, 22, 23, 24, 25, 34, 35, 36, 37, 38] (by decide +kernel) (by decide +kernel)
set_option maxRecDepth 20000 in
theorem gX2_init_X1_init : GoodIn wsX2_init (wsX1_init) := ggX2_init_X1_init
theorem dX2_init_0 : decode cX2_init 0 = .ok (.aload_n 0, 1) := by decide +kernel
theorem dX2_init_1 : decode cX2_init 1 = .ok (.invokespecial 3, 3) := by decide +kernel
theorem dX2_init_4 : decode cX2_init 4 = .ok (.aload_n 0, 1) := by decide +kernel
theorem dX2_init_5 : decode cX2_init 5 = .ok (.bipush 12, 2) := by decide +kernel
theorem dX2_init_7 : decode cX2_init 7 = .ok (.anewarray 9, 3) := by decide +kernel
theorem dX2_init_10 : decode cX2_init 10 = .ok (.putfield 11, 3) := by decide +kernel
theorem dX2_init_13 : decode cX2_init 13 = .ok (.iconst 0, 1) := by decide +kernel
theorem dX2_init_14 : decode cX2_init 14 = .ok (.istore_n 1, 1) := by decide +kernel
theorem dX2_init_15 : decode cX2_init 15 = .ok (.iload_n 1, 1) := by decide +kernel
theorem dX2_init_16 : decode cX2_init 16 = .ok (.bipush 12, 2) := by decide +kernel
theorem dX2_init_18 : decode cX2_init 18 = .ok (.if_icmp .ge 24, 3) := by decide +kernel
theorem dX2_init_21 : decode cX2_init 21 = .ok (.aload_n 0, 1) := by decide +kernel
theorem dX2_init_22 : decode cX2_init 22 = .ok (.getfield 11, 3) := by decide +kernel
theorem dX2_init_25 : decode cX2_init 25 = .ok (.iload_n 1, 1) := by decide +kernel
theorem dX2_init_26 : decode cX2_init 26 = .ok (.new 9, 3) := by decide +kernel
theorem dX2_init_29 : decode cX2_init 29 = .ok (.dup, 1) := by decide +kernel
theorem dX2_init_30 : decode cX2_init 30 = .ok (.bipush 24, 2) := by decide +kernel
theorem dX2_init_32 : decode cX2_init 32 = .ok (.invokespecial 15, 3) := by decide +kernel
theorem dX2_init_35 : decode cX2_init 35 = .ok (.aastore, 1) := by decide +kernel
theorem dX2_init_36 : decode cX2_init 36 = .ok (.iinc 1 1, 3) := by decide +kernel
theorem dX2_init_39 : decode cX2_init 39 = .ok (.goto (-24), 3) := by decide +kernel
theorem dX2_init_42 : decode cX2_init 42 = .ok (.aload_n 0, 1) := by decide +kernel
theorem dX2_init_43 : decode cX2_init 43 = .ok (.new 9, 3) := by decide +kernel
theorem dX2_init_46 : decode cX2_init 46 = .ok (.dup, 1) := by decide +kernel
theorem dX2_init_47 : decode cX2_init 47 = .ok (.bipush 24, 2) := by decide +kernel
theorem dX2_init_49 : decode cX2_init 49 = .ok (.invokespecial 15, 3) := by decide +kernel
theorem dX2_init_52 : decode cX2_init 52 = .ok (.putfield 18, 3) := by decide +kernel
theorem dX2_init_55 : decode cX2_init 55 = .ok (.aload_n 0, 1) := by decide +kernel
theorem dX2_init_56 : decode cX2_init 56 = .ok (.new 9, 3) := by decide +kernel
theorem dX2_init_59 : decode cX2_init 59 = .ok (.dup, 1) := by decide +kernel
theorem dX2_init_60 : decode cX2_init 60 = .ok (.bipush 48, 2) := by decide +kernel
theorem dX2_init_62 : decode cX2_init 62 = .ok (.invokespecial 15, 3) := by decide +kernel
theorem dX2_init_65 : decode cX2_init 65 = .ok (.putfield 22, 3) := by decide +kernel
theorem dX2_init_68 : decode cX2_init 68 = .ok (.aload_n 0, 1) := by decide +kernel
theorem dX2_init_69 : decode cX2_init 69 = .ok (.new 9, 3) := by decide +kernel
theorem dX2_init_72 : decode cX2_init 72 = .ok (.dup, 1) := by decide +kernel
theorem dX2_init_73 : decode cX2_init 73 = .ok (.bipush 48, 2) := by decide +kernel
theorem dX2_init_75 : decode cX2_init 75 = .ok (.invokespecial 15, 3) := by decide +kernel
theorem dX2_init_78 : decode cX2_init 78 = .ok (.putfield 25, 3) := by decide +kernel
theorem dX2_init_81 : decode cX2_init 81 = .ok (.aload_n 0, 1) := by decide +kernel
theorem dX2_init_82 : decode cX2_init 82 = .ok (.new 9, 3) := by decide +kernel
theorem dX2_init_85 : decode cX2_init 85 = .ok (.dup, 1) := by decide +kernel
theorem dX2_init_86 : decode cX2_init 86 = .ok (.bipush 48, 2) := by decide +kernel
theorem dX2_init_88 : decode cX2_init 88 = .ok (.invokespecial 15, 3) := by decide +kernel
theorem dX2_init_91 : decode cX2_init 91 = .ok (.putfield 28, 3) := by decide +kernel
theorem dX2_init_94 : decode cX2_init 94 = .ok (.return_, 1) := by decide +kernel
set_option maxRecDepth 20000 in
theorem ggX2_pair_X2_isLeaf : GoodIn wsX2_pair wsX2_isLeaf := goodIn_r _ [6] (by decide +kernel) (by decide +kernel)
set_option maxRecDepth 20000 in
theorem gX2_pair_X2_isLeaf : GoodIn wsX2_pair (va_wsS RX2 31 yX2_isLeaf wsX2_isLeaf) := goodIn_app (goodIn_of _ (by decide +kernel)) ggX2_pair_X2_isLeaf
set_option maxRecDepth 20000 in
theorem ggX2_pair_X1_add : GoodIn wsX2_pair wsX1_add := goodIn_r _ [11, 12, 13, 14, 15, 16, 25, 26, 27, 28, 29] (by decide +kernel) (by decide +kernel)
set_option maxRecDepth 20000 in
theorem gX2_pair_X1_add : GoodIn wsX2_pair (wsV RX2 39 RX1 yX1_add wsX1_add) := goodIn_app (goodIn_of _ (by decide +kernel)) ggX2_pair_X1_add
theorem dX2_pair_0 : decode cX2_pair 0 = .ok (.iload_n 1, 1) := by decide +kernel
theorem dX2_pair_1 : decode cX2_pair 1 = .ok (.iload_n 2, 1) := by decide +kernel
theorem dX2_pair_2 : decode cX2_pair 2 = .ok (.invokestatic 31, 3) := by decide +kernel
theorem dX2_pair_5 : decode cX2_pair 5 = .ok (.ifCond .eq 12, 3) := by decide +kernel
theorem dX2_pair_8 : decode cX2_pair 8 = .ok (.iload_n 3, 1) := by decide +kernel
theorem dX2_pair_9 : decode cX2_pair 9 = .ok (.iload 4, 2) := by decide +kernel
theorem dX2_pair_11 : decode cX2_pair 11 = .ok (.invokestatic 31, 3) := by decide +kernel
theorem dX2_pair_14 : decode cX2_pair 14 = .ok (.ifCond .ne 6, 3) := by decide +kernel
theorem dX2_pair_17 : decode cX2_pair 17 = .ok (.bipush (-102), 2) := by decide +kernel
theorem dX2_pair_19 : decode cX2_pair 19 = .ok (.ireturn, 1) := by decide +kernel
theorem dX2_pair_20 : decode cX2_pair 20 = .ok (.aload_n 0, 1) := by decide +kernel
theorem dX2_pair_21 : decode cX2_pair 21 = .ok (.getfield 18, 3) := by decide +kernel
theorem dX2_pair_24 : decode cX2_pair 24 = .ok (.getfield 35, 3) := by decide +kernel
theorem dX2_pair_27 : decode cX2_pair 27 = .ok (.bipush 24, 2) := by decide +kernel
theorem dX2_pair_29 : decode cX2_pair 29 = .ok (.if_icmp .lt 6, 3) := by decide +kernel
theorem dX2_pair_32 : decode cX2_pair 32 = .ok (.bipush (-104), 2) := by decide +kernel
theorem dX2_pair_34 : decode cX2_pair 34 = .ok (.ireturn, 1) := by decide +kernel
theorem dX2_pair_35 : decode cX2_pair 35 = .ok (.aload_n 0, 1) := by decide +kernel
theorem dX2_pair_36 : decode cX2_pair 36 = .ok (.getfield 18, 3) := by decide +kernel
theorem dX2_pair_39 : decode cX2_pair 39 = .ok (.iload_n 1, 1) := by decide +kernel
theorem dX2_pair_40 : decode cX2_pair 40 = .ok (.iload_n 2, 1) := by decide +kernel
theorem dX2_pair_41 : decode cX2_pair 41 = .ok (.i2l, 1) := by decide +kernel
theorem dX2_pair_42 : decode cX2_pair 42 = .ok (.iload_n 3, 1) := by decide +kernel
theorem dX2_pair_43 : decode cX2_pair 43 = .ok (.iload 4, 2) := by decide +kernel
theorem dX2_pair_45 : decode cX2_pair 45 = .ok (.i2l, 1) := by decide +kernel
theorem dX2_pair_46 : decode cX2_pair 46 = .ok (.invokevirtual 39, 3) := by decide +kernel
theorem dX2_pair_49 : decode cX2_pair 49 = .ok (.aload_n 0, 1) := by decide +kernel
theorem dX2_pair_50 : decode cX2_pair 50 = .ok (.getfield 18, 3) := by decide +kernel
theorem dX2_pair_53 : decode cX2_pair 53 = .ok (.getfield 35, 3) := by decide +kernel
theorem dX2_pair_56 : decode cX2_pair 56 = .ok (.ireturn, 1) := by decide +kernel
theorem dX2_clear_0 : decode cX2_clear 0 = .ok (.aload_n 0, 1) := by decide +kernel
theorem dX2_clear_1 : decode cX2_clear 1 = .ok (.getfield 18, 3) := by decide +kernel
theorem dX2_clear_4 : decode cX2_clear 4 = .ok (.getfield 35, 3) := by decide +kernel
theorem dX2_clear_7 : decode cX2_clear 7 = .ok (.istore_n 1, 1) := by decide +kernel
theorem dX2_clear_8 : decode cX2_clear 8 = .ok (.aload_n 0, 1) := by decide +kernel
theorem dX2_clear_9 : decode cX2_clear 9 = .ok (.getfield 18, 3) := by decide +kernel
theorem dX2_clear_12 : decode cX2_clear 12 = .ok (.iconst 0, 1) := by decide +kernel
theorem dX2_clear_13 : decode cX2_clear 13 = .ok (.putfield 35, 3) := by decide +kernel
theorem dX2_clear_16 : decode cX2_clear 16 = .ok (.iload_n 1, 1) := by decide +kernel
theorem dX2_clear_17 : decode cX2_clear 17 = .ok (.ireturn, 1) := by decide +kernel
set_option maxRecDepth 20000 in
theorem ggX2_make_X2_isNumber : GoodIn wsX2_make wsX2_isNumber := goodIn_r _ [9] (by decide +kernel) (by decide +kernel)
set_option maxRecDepth 20000 in
theorem gX2_make_X2_isNumber : GoodIn wsX2_make (va_wsS RX2 43 yX2_isNumber wsX2_isNumber) := goodIn_app (goodIn_of _ (by decide +kernel)) ggX2_make_X2_isNumber
set_option maxRecDepth 20000 in
theorem ggX2_make_X2_putTurned : GoodIn wsX2_make wsX2_putTurned := goodIn_r _ [12, 4, 13, 14, 15, 16, 17, 18, 19, 20, 21, 22, 23, 24, 25, 26, 27, 28, 29, 30, 31, 32, 33, 34, 35, 8, 36, 37, 38, 39, 40, 41, 42, 69, 70, 71, 72, 73] (by decide +kernel) (by decide +kernel)
set_option maxRecDepth 20000 in
theorem gX2_make_X2_putTurned : GoodIn wsX2_make (va_wsS RX2 47 yX2_putTurned wsX2_putTurned) := goodIn_app (goodIn_of _ (by decide +kernel)) ggX2_make_X2_putTurned
set_option maxRecDepth 20000 in
theorem ggX2_make_X2_isCut : GoodIn wsX2_make wsX2_isCut := goodIn_r _ [45, 4, 15, 16, 46, 32, 33, 20, 34, 23, 24, 35, 8, 36, 47, 69, 70, 71, 72, 73] (by decide +kernel) (by decide +kernel)
set_option maxRecDepth 20000 in
theorem gX2_make_X2_isCut : GoodIn wsX2_make (va_wsS RX2 51 yX2_isCut wsX2_isCut) := goodIn_app (goodIn_of _ (by decide +kernel)) ggX2_make_X2_isCut
set_option maxRecDepth 20000 in
theorem ggX2_make_X2_putReduced : GoodIn wsX2_make wsX2_putReduced := goodIn_r _ [50, 4, 15, 16, 13, 14, 51, 52, 53, 20, 54, 22, 23, 24, 55, 25, 26, 56, 18, 19, 21, 57, 58, 59, 60, 69, 70, 71, 72, 73] (by decide +kernel) (by decide +kernel)
set_option maxRecDepth 20000 in
theorem gX2_make_X2_putReduced : GoodIn wsX2_make (va_wsS RX2 55 yX2_putReduced wsX2_putReduced) := goodIn_app (goodIn_of _ (by decide +kernel)) ggX2_make_X2_putReduced
theorem dX2_make_0 : decode cX2_make 0 = .ok (.iload_n 1, 1) := by decide +kernel
theorem dX2_make_1 : decode cX2_make 1 = .ok (.invokestatic 43, 3) := by decide +kernel
theorem dX2_make_4 : decode cX2_make 4 = .ok (.ifCond .ne 6, 3) := by decide +kernel
theorem dX2_make_7 : decode cX2_make 7 = .ok (.bipush (-101), 2) := by decide +kernel
theorem dX2_make_9 : decode cX2_make 9 = .ok (.ireturn, 1) := by decide +kernel
theorem dX2_make_10 : decode cX2_make 10 = .ok (.aload_n 0, 1) := by decide +kernel
theorem dX2_make_11 : decode cX2_make 11 = .ok (.getfield 18, 3) := by decide +kernel
theorem dX2_make_14 : decode cX2_make 14 = .ok (.aload_n 0, 1) := by decide +kernel
theorem dX2_make_15 : decode cX2_make 15 = .ok (.getfield 28, 3) := by decide +kernel
theorem dX2_make_18 : decode cX2_make 18 = .ok (.invokestatic 47, 3) := by decide +kernel
theorem dX2_make_21 : decode cX2_make 21 = .ok (.aload_n 0, 1) := by decide +kernel
theorem dX2_make_22 : decode cX2_make 22 = .ok (.getfield 28, 3) := by decide +kernel
theorem dX2_make_25 : decode cX2_make 25 = .ok (.invokestatic 51, 3) := by decide +kernel
theorem dX2_make_28 : decode cX2_make 28 = .ok (.ifCond .ne 6, 3) := by decide +kernel
theorem dX2_make_31 : decode cX2_make 31 = .ok (.bipush (-103), 2) := by decide +kernel
theorem dX2_make_33 : decode cX2_make 33 = .ok (.ireturn, 1) := by decide +kernel
theorem dX2_make_34 : decode cX2_make 34 = .ok (.aload_n 0, 1) := by decide +kernel
theorem dX2_make_35 : decode cX2_make 35 = .ok (.getfield 28, 3) := by decide +kernel
theorem dX2_make_38 : decode cX2_make 38 = .ok (.aload_n 0, 1) := by decide +kernel
theorem dX2_make_39 : decode cX2_make 39 = .ok (.getfield 25, 3) := by decide +kernel
theorem dX2_make_42 : decode cX2_make 42 = .ok (.invokestatic 47, 3) := by decide +kernel
theorem dX2_make_45 : decode cX2_make 45 = .ok (.aload_n 0, 1) := by decide +kernel
theorem dX2_make_46 : decode cX2_make 46 = .ok (.getfield 25, 3) := by decide +kernel
theorem dX2_make_49 : decode cX2_make 49 = .ok (.invokestatic 51, 3) := by decide +kernel
theorem dX2_make_52 : decode cX2_make 52 = .ok (.ifCond .ne 6, 3) := by decide +kernel
theorem dX2_make_55 : decode cX2_make 55 = .ok (.bipush (-103), 2) := by decide +kernel
theorem dX2_make_57 : decode cX2_make 57 = .ok (.ireturn, 1) := by decide +kernel
theorem dX2_make_58 : decode cX2_make 58 = .ok (.aload_n 0, 1) := by decide +kernel
theorem dX2_make_59 : decode cX2_make 59 = .ok (.getfield 18, 3) := by decide +kernel
theorem dX2_make_62 : decode cX2_make 62 = .ok (.iconst 0, 1) := by decide +kernel
theorem dX2_make_63 : decode cX2_make 63 = .ok (.putfield 35, 3) := by decide +kernel
theorem dX2_make_66 : decode cX2_make 66 = .ok (.aload_n 0, 1) := by decide +kernel
theorem dX2_make_67 : decode cX2_make 67 = .ok (.getfield 25, 3) := by decide +kernel
theorem dX2_make_70 : decode cX2_make 70 = .ok (.aload_n 0, 1) := by decide +kernel
theorem dX2_make_71 : decode cX2_make 71 = .ok (.getfield 11, 3) := by decide +kernel
theorem dX2_make_74 : decode cX2_make 74 = .ok (.iload_n 1, 1) := by decide +kernel
theorem dX2_make_75 : decode cX2_make 75 = .ok (.aaload, 1) := by decide +kernel
theorem dX2_make_76 : decode cX2_make 76 = .ok (.invokestatic 55, 3) := by decide +kernel
theorem dX2_make_79 : decode cX2_make 79 = .ok (.aload_n 0, 1) := by decide +kernel
theorem dX2_make_80 : decode cX2_make 80 = .ok (.getfield 11, 3) := by decide +kernel
theorem dX2_make_83 : decode cX2_make 83 = .ok (.iload_n 1, 1) := by decide +kernel
theorem dX2_make_84 : decode cX2_make 84 = .ok (.aaload, 1) := by decide +kernel
theorem dX2_make_85 : decode cX2_make 85 = .ok (.getfield 35, 3) := by decide +kernel
theorem dX2_make_88 : decode cX2_make 88 = .ok (.ireturn, 1) := by decide +kernel
set_option maxRecDepth 20000 in
theorem ggX2_strong_X2_isNumber : GoodIn wsX2_strong wsX2_isNumber := goodIn_r _ [6] (by decide +kernel) (by decide +kernel)
set_option maxRecDepth 20000 in
theorem gX2_strong_X2_isNumber : GoodIn wsX2_strong (va_wsS RX2 43 yX2_isNumber wsX2_isNumber) := goodIn_app (goodIn_of _ (by decide +kernel)) ggX2_strong_X2_isNumber
set_option maxRecDepth 20000 in
theorem ggX2_strong_X2_putStrong : GoodIn wsX2_strong wsX2_putStrong := goodIn_r _ [9, 2, 10, 11, 12, 13, 14, 15, 16, 17, 18, 19, 20, 21, 22, 31, 32, 33, 34, 35] (by decide +kernel) (by decide +kernel)
set_option maxRecDepth 20000 in
theorem gX2_strong_X2_putStrong : GoodIn wsX2_strong (va_wsS RX2 58 yX2_putStrong wsX2_putStrong) := goodIn_app (goodIn_of _ (by decide +kernel)) ggX2_strong_X2_putStrong
theorem dX2_strong_0 : decode cX2_strong 0 = .ok (.iload_n 1, 1) := by decide +kernel
theorem dX2_strong_1 : decode cX2_strong 1 = .ok (.invokestatic 43, 3) := by decide +kernel
theorem dX2_strong_4 : decode cX2_strong 4 = .ok (.ifCond .ne 6, 3) := by decide +kernel
theorem dX2_strong_7 : decode cX2_strong 7 = .ok (.bipush (-101), 2) := by decide +kernel
theorem dX2_strong_9 : decode cX2_strong 9 = .ok (.ireturn, 1) := by decide +kernel
theorem dX2_strong_10 : decode cX2_strong 10 = .ok (.iload_n 2, 1) := by decide +kernel
theorem dX2_strong_11 : decode cX2_strong 11 = .ok (.ifCond .lt 9, 3) := by decide +kernel
theorem dX2_strong_14 : decode cX2_strong 14 = .ok (.iload_n 2, 1) := by decide +kernel
theorem dX2_strong_15 : decode cX2_strong 15 = .ok (.bipush 6, 2) := by decide +kernel
theorem dX2_strong_17 : decode cX2_strong 17 = .ok (.if_icmp .le 6, 3) := by decide +kernel
theorem dX2_strong_20 : decode cX2_strong 20 = .ok (.bipush (-102), 2) := by decide +kernel
theorem dX2_strong_22 : decode cX2_strong 22 = .ok (.ireturn, 1) := by decide +kernel
theorem dX2_strong_23 : decode cX2_strong 23 = .ok (.iload_n 2, 1) := by decide +kernel
theorem dX2_strong_24 : decode cX2_strong 24 = .ok (.aload_n 0, 1) := by decide +kernel
theorem dX2_strong_25 : decode cX2_strong 25 = .ok (.getfield 11, 3) := by decide +kernel
theorem dX2_strong_28 : decode cX2_strong 28 = .ok (.iload_n 1, 1) := by decide +kernel
theorem dX2_strong_29 : decode cX2_strong 29 = .ok (.aaload, 1) := by decide +kernel
theorem dX2_strong_30 : decode cX2_strong 30 = .ok (.invokestatic 58, 3) := by decide +kernel
theorem dX2_strong_33 : decode cX2_strong 33 = .ok (.aload_n 0, 1) := by decide +kernel
theorem dX2_strong_34 : decode cX2_strong 34 = .ok (.getfield 11, 3) := by decide +kernel
theorem dX2_strong_37 : decode cX2_strong 37 = .ok (.iload_n 1, 1) := by decide +kernel
theorem dX2_strong_38 : decode cX2_strong 38 = .ok (.aaload, 1) := by decide +kernel
theorem dX2_strong_39 : decode cX2_strong 39 = .ok (.getfield 35, 3) := by decide +kernel
theorem dX2_strong_42 : decode cX2_strong 42 = .ok (.ireturn, 1) := by decide +kernel
set_option maxRecDepth 20000 in
theorem ggX2_then_X2_isNumber : GoodIn wsX2_then wsX2_isNumber := goodIn_r _ [7] (by decide +kernel) (by decide +kernel)
set_option maxRecDepth 20000 in
theorem gX2_then_X2_isNumber : GoodIn wsX2_then (va_wsS RX2 43 yX2_isNumber wsX2_isNumber) := goodIn_app (goodIn_of _ (by decide +kernel)) ggX2_then_X2_isNumber
set_option maxRecDepth 20000 in
theorem ggX2_then_X2_isThere : GoodIn wsX2_then wsX2_isThere := goodIn_r _ [11, 1, 3, 4, 5, 6, 7, 64, 65, 66, 67, 68, 69, 70, 71, 72, 73, 74, 75, 76] (by decide +kernel) (by decide +kernel)
set_option maxRecDepth 20000 in
theorem gX2_then_X2_isThere : GoodIn wsX2_then (wsV RX2 62 RX2 yX2_isThere wsX2_isThere) := goodIn_app (goodIn_of _ (by decide +kernel)) ggX2_then_X2_isThere
set_option maxRecDepth 20000 in
theorem ggX2_then_X2_putBehind : GoodIn wsX2_then wsX2_putBehind := goodIn_r _ [14, 3, 15, 16, 17, 18, 19, 20, 21, 22, 6, 23, 24, 25, 26, 27, 28, 29, 30, 31, 32, 33, 34, 35, 36, 37, 38, 39, 40, 41, 42, 43, 44, 45, 46, 47, 48, 49, 50, 51, 52, 53, 54, 55, 56, 57, 58, 59, 72, 73, 74, 75, 76] (by decide +kernel) (by decide +kernel)
set_option maxRecDepth 20000 in
theorem gX2_then_X2_putBehind : GoodIn wsX2_then (va_wsS RX2 65 yX2_putBehind wsX2_putBehind) := goodIn_app (goodIn_of _ (by decide +kernel)) ggX2_then_X2_putBehind
set_option maxRecDepth 20000 in
theorem ggX2_then_X2_putCopy : GoodIn wsX2_then wsX2_putCopy := goodIn_r _ [62, 3, 43, 45, 44, 46, 63, 53, 54, 18, 55, 32, 37, 38, 20, 21, 72, 73, 74, 75, 76] (by decide +kernel) (by decide +kernel)
set_option maxRecDepth 20000 in
theorem gX2_then_X2_putCopy : GoodIn wsX2_then (va_wsS RX2 69 yX2_putCopy wsX2_putCopy) := goodIn_app (goodIn_of _ (by decide +kernel)) ggX2_then_X2_putCopy
theorem dX2_then_0 : decode cX2_then 0 = .ok (.iload_n 1, 1) := by decide +kernel
theorem dX2_then_1 : decode cX2_then 1 = .ok (.invokestatic 43, 3) := by decide +kernel
theorem dX2_then_4 : decode cX2_then 4 = .ok (.ifCond .eq 19, 3) := by decide +kernel
theorem dX2_then_7 : decode cX2_then 7 = .ok (.aload_n 0, 1) := by decide +kernel
theorem dX2_then_8 : decode cX2_then 8 = .ok (.iload_n 2, 1) := by decide +kernel
theorem dX2_then_9 : decode cX2_then 9 = .ok (.invokevirtual 62, 3) := by decide +kernel
theorem dX2_then_12 : decode cX2_then 12 = .ok (.ifCond .eq 11, 3) := by decide +kernel
theorem dX2_then_15 : decode cX2_then 15 = .ok (.aload_n 0, 1) := by decide +kernel
theorem dX2_then_16 : decode cX2_then 16 = .ok (.iload_n 3, 1) := by decide +kernel
theorem dX2_then_17 : decode cX2_then 17 = .ok (.invokevirtual 62, 3) := by decide +kernel
theorem dX2_then_20 : decode cX2_then 20 = .ok (.ifCond .ne 6, 3) := by decide +kernel
theorem dX2_then_23 : decode cX2_then 23 = .ok (.bipush (-101), 2) := by decide +kernel
theorem dX2_then_25 : decode cX2_then 25 = .ok (.ireturn, 1) := by decide +kernel
theorem dX2_then_26 : decode cX2_then 26 = .ok (.aload_n 0, 1) := by decide +kernel
theorem dX2_then_27 : decode cX2_then 27 = .ok (.getfield 11, 3) := by decide +kernel
theorem dX2_then_30 : decode cX2_then 30 = .ok (.iload_n 2, 1) := by decide +kernel
theorem dX2_then_31 : decode cX2_then 31 = .ok (.aaload, 1) := by decide +kernel
theorem dX2_then_32 : decode cX2_then 32 = .ok (.aload_n 0, 1) := by decide +kernel
theorem dX2_then_33 : decode cX2_then 33 = .ok (.getfield 11, 3) := by decide +kernel
theorem dX2_then_36 : decode cX2_then 36 = .ok (.iload_n 3, 1) := by decide +kernel
theorem dX2_then_37 : decode cX2_then 37 = .ok (.aaload, 1) := by decide +kernel
theorem dX2_then_38 : decode cX2_then 38 = .ok (.aload_n 0, 1) := by decide +kernel
theorem dX2_then_39 : decode cX2_then 39 = .ok (.getfield 22, 3) := by decide +kernel
theorem dX2_then_42 : decode cX2_then 42 = .ok (.invokestatic 65, 3) := by decide +kernel
theorem dX2_then_45 : decode cX2_then 45 = .ok (.aload_n 0, 1) := by decide +kernel
theorem dX2_then_46 : decode cX2_then 46 = .ok (.getfield 22, 3) := by decide +kernel
theorem dX2_then_49 : decode cX2_then 49 = .ok (.getfield 35, 3) := by decide +kernel
theorem dX2_then_52 : decode cX2_then 52 = .ok (.bipush 24, 2) := by decide +kernel
theorem dX2_then_54 : decode cX2_then 54 = .ok (.if_icmp .le 6, 3) := by decide +kernel
theorem dX2_then_57 : decode cX2_then 57 = .ok (.bipush (-104), 2) := by decide +kernel
theorem dX2_then_59 : decode cX2_then 59 = .ok (.ireturn, 1) := by decide +kernel
theorem dX2_then_60 : decode cX2_then 60 = .ok (.aload_n 0, 1) := by decide +kernel
theorem dX2_then_61 : decode cX2_then 61 = .ok (.getfield 22, 3) := by decide +kernel
theorem dX2_then_64 : decode cX2_then 64 = .ok (.aload_n 0, 1) := by decide +kernel
theorem dX2_then_65 : decode cX2_then 65 = .ok (.getfield 11, 3) := by decide +kernel
theorem dX2_then_68 : decode cX2_then 68 = .ok (.iload_n 1, 1) := by decide +kernel
theorem dX2_then_69 : decode cX2_then 69 = .ok (.aaload, 1) := by decide +kernel
theorem dX2_then_70 : decode cX2_then 70 = .ok (.invokestatic 69, 3) := by decide +kernel
theorem dX2_then_73 : decode cX2_then 73 = .ok (.aload_n 0, 1) := by decide +kernel
theorem dX2_then_74 : decode cX2_then 74 = .ok (.getfield 11, 3) := by decide +kernel
theorem dX2_then_77 : decode cX2_then 77 = .ok (.iload_n 1, 1) := by decide +kernel
theorem dX2_then_78 : decode cX2_then 78 = .ok (.aaload, 1) := by decide +kernel
theorem dX2_then_79 : decode cX2_then 79 = .ok (.getfield 35, 3) := by decide +kernel
theorem dX2_then_82 : decode cX2_then 82 = .ok (.ireturn, 1) := by decide +kernel
set_option maxRecDepth 20000 in
theorem ggX2_turn_X2_isNumber : GoodIn wsX2_turn wsX2_isNumber := goodIn_r _ [7] (by decide +kernel) (by decide +kernel)
set_option maxRecDepth 20000 in
theorem gX2_turn_X2_isNumber : GoodIn wsX2_turn (va_wsS RX2 43 yX2_isNumber wsX2_isNumber) := goodIn_app (goodIn_of _ (by decide +kernel)) ggX2_turn_X2_isNumber
set_option maxRecDepth 20000 in
theorem ggX2_turn_X2_isThere : GoodIn wsX2_turn wsX2_isThere := goodIn_r _ [11, 1, 3, 4, 5, 6, 7, 48, 49, 50, 51, 52, 53, 54, 55, 56, 57, 58, 59, 60] (by decide +kernel) (by decide +kernel)
set_option maxRecDepth 20000 in
theorem gX2_turn_X2_isThere : GoodIn wsX2_turn (wsV RX2 62 RX2 yX2_isThere wsX2_isThere) := goodIn_app (goodIn_of _ (by decide +kernel)) ggX2_turn_X2_isThere
set_option maxRecDepth 20000 in
theorem ggX2_turn_X2_putTurned : GoodIn wsX2_turn wsX2_putTurned := goodIn_r _ [14, 3, 15, 16, 17, 18, 19, 20, 21, 22, 23, 24, 25, 26, 27, 28, 29, 30, 31, 32, 33, 34, 35, 36, 37, 6, 38, 39, 40, 41, 42, 43, 44, 56, 57, 58, 59, 60] (by decide +kernel) (by decide +kernel)
set_option maxRecDepth 20000 in
theorem gX2_turn_X2_putTurned : GoodIn wsX2_turn (va_wsS RX2 47 yX2_putTurned wsX2_putTurned) := goodIn_app (goodIn_of _ (by decide +kernel)) ggX2_turn_X2_putTurned
set_option maxRecDepth 20000 in
theorem ggX2_turn_X2_putCopy : GoodIn wsX2_turn wsX2_putCopy := goodIn_r _ [47, 3, 17, 18, 15, 16, 19, 20, 21, 22, 23, 24, 25, 26, 27, 28, 56, 57, 58, 59, 60] (by decide +kernel) (by decide +kernel)
set_option maxRecDepth 20000 in
theorem gX2_turn_X2_putCopy : GoodIn wsX2_turn (va_wsS RX2 69 yX2_putCopy wsX2_putCopy) := goodIn_app (goodIn_of _ (by decide +kernel)) ggX2_turn_X2_putCopy
theorem dX2_turn_0 : decode cX2_turn 0 = .ok (.iload_n 1, 1) := by decide +kernel
theorem dX2_turn_1 : decode cX2_turn 1 = .ok (.invokestatic 43, 3) := by decide +kernel
theorem dX2_turn_4 : decode cX2_turn 4 = .ok (.ifCond .eq 11, 3) := by decide +kernel
theorem dX2_turn_7 : decode cX2_turn 7 = .ok (.aload_n 0, 1) := by decide +kernel
theorem dX2_turn_8 : decode cX2_turn 8 = .ok (.iload_n 2, 1) := by decide +kernel
theorem dX2_turn_9 : decode cX2_turn 9 = .ok (.invokevirtual 62, 3) := by decide +kernel
theorem dX2_turn_12 : decode cX2_turn 12 = .ok (.ifCond .ne 6, 3) := by decide +kernel
theorem dX2_turn_15 : decode cX2_turn 15 = .ok (.bipush (-101), 2) := by decide +kernel
theorem dX2_turn_17 : decode cX2_turn 17 = .ok (.ireturn, 1) := by decide +kernel
theorem dX2_turn_18 : decode cX2_turn 18 = .ok (.aload_n 0, 1) := by decide +kernel
theorem dX2_turn_19 : decode cX2_turn 19 = .ok (.getfield 11, 3) := by decide +kernel
theorem dX2_turn_22 : decode cX2_turn 22 = .ok (.iload_n 2, 1) := by decide +kernel
theorem dX2_turn_23 : decode cX2_turn 23 = .ok (.aaload, 1) := by decide +kernel
theorem dX2_turn_24 : decode cX2_turn 24 = .ok (.aload_n 0, 1) := by decide +kernel
theorem dX2_turn_25 : decode cX2_turn 25 = .ok (.getfield 28, 3) := by decide +kernel
theorem dX2_turn_28 : decode cX2_turn 28 = .ok (.invokestatic 47, 3) := by decide +kernel
theorem dX2_turn_31 : decode cX2_turn 31 = .ok (.aload_n 0, 1) := by decide +kernel
theorem dX2_turn_32 : decode cX2_turn 32 = .ok (.getfield 28, 3) := by decide +kernel
theorem dX2_turn_35 : decode cX2_turn 35 = .ok (.aload_n 0, 1) := by decide +kernel
theorem dX2_turn_36 : decode cX2_turn 36 = .ok (.getfield 11, 3) := by decide +kernel
theorem dX2_turn_39 : decode cX2_turn 39 = .ok (.iload_n 1, 1) := by decide +kernel
theorem dX2_turn_40 : decode cX2_turn 40 = .ok (.aaload, 1) := by decide +kernel
theorem dX2_turn_41 : decode cX2_turn 41 = .ok (.invokestatic 69, 3) := by decide +kernel
theorem dX2_turn_44 : decode cX2_turn 44 = .ok (.aload_n 0, 1) := by decide +kernel
theorem dX2_turn_45 : decode cX2_turn 45 = .ok (.getfield 11, 3) := by decide +kernel
theorem dX2_turn_48 : decode cX2_turn 48 = .ok (.iload_n 1, 1) := by decide +kernel
theorem dX2_turn_49 : decode cX2_turn 49 = .ok (.aaload, 1) := by decide +kernel
theorem dX2_turn_50 : decode cX2_turn 50 = .ok (.getfield 35, 3) := by decide +kernel
theorem dX2_turn_53 : decode cX2_turn 53 = .ok (.ireturn, 1) := by decide +kernel
set_option maxRecDepth 20000 in
theorem ggX2_power_X2_isNumber : GoodIn wsX2_power wsX2_isNumber := goodIn_r _ [7] (by decide +kernel) (by decide +kernel)
set_option maxRecDepth 20000 in
theorem gX2_power_X2_isNumber : GoodIn wsX2_power (va_wsS RX2 43 yX2_isNumber wsX2_isNumber) := goodIn_app (goodIn_of _ (by decide +kernel)) ggX2_power_X2_isNumber
set_option maxRecDepth 20000 in
theorem ggX2_power_X2_isThere : GoodIn wsX2_power wsX2_isThere := goodIn_r _ [11, 1, 3, 4, 5, 6, 7, 95, 96, 97, 98, 99, 100, 101, 102, 103, 104, 105, 106, 107] (by decide +kernel) (by decide +kernel)
set_option maxRecDepth 20000 in
theorem gX2_power_X2_isThere : GoodIn wsX2_power (wsV RX2 62 RX2 yX2_isThere wsX2_isThere) := goodIn_app (goodIn_of _ (by decide +kernel)) ggX2_power_X2_isThere
set_option maxRecDepth 20000 in
theorem ggX2_power_X2_isRaised : GoodIn wsX2_power wsX2_isRaised := goodIn_r _ [15, 16, 2, 17, 18, 19, 20, 21, 22, 6, 23, 3, 24, 25, 26, 27, 28, 29, 30, 31, 32, 33, 34, 35, 36, 37, 38, 39, 40, 41, 42, 43, 44, 45, 46, 47, 48, 49, 50, 51, 52, 53, 54, 55, 56, 57, 58, 59, 60, 61, 62, 63, 64, 65, 66, 67, 68, 69, 70, 71, 72, 73, 74, 75, 76, 77, 78, 79, 80, 81, 82, 83, 84, 85, 86, 87, 88, 89, 90, 91, 92, 93, 94, 95, 96, 97, 98, 99, 100, 101, 102, 103, 104, 105, 106, 107] (by decide +kernel) (by decide +kernel)
set_option maxRecDepth 20000 in
theorem gX2_power_X2_isRaised : GoodIn wsX2_power (wsV RX2 72 RX2 yX2_isRaised wsX2_isRaised) := goodIn_app (goodIn_of _ (by decide +kernel)) ggX2_power_X2_isRaised
set_option maxRecDepth 20000 in
theorem ggX2_power_X2_putCopy : GoodIn wsX2_power wsX2_putCopy := goodIn_r _ [94, 3, 26, 27, 24, 25, 28, 29, 30, 31, 32, 33, 34, 35, 36, 37, 103, 104, 105, 106, 107] (by decide +kernel) (by decide +kernel)
set_option maxRecDepth 20000 in
theorem gX2_power_X2_putCopy : GoodIn wsX2_power (va_wsS RX2 69 yX2_putCopy wsX2_putCopy) := goodIn_app (goodIn_of _ (by decide +kernel)) ggX2_power_X2_putCopy
theorem dX2_power_0 : decode cX2_power 0 = .ok (.iload_n 1, 1) := by decide +kernel
theorem dX2_power_1 : decode cX2_power 1 = .ok (.invokestatic 43, 3) := by decide +kernel
theorem dX2_power_4 : decode cX2_power 4 = .ok (.ifCond .eq 11, 3) := by decide +kernel
theorem dX2_power_7 : decode cX2_power 7 = .ok (.aload_n 0, 1) := by decide +kernel
theorem dX2_power_8 : decode cX2_power 8 = .ok (.iload_n 2, 1) := by decide +kernel
theorem dX2_power_9 : decode cX2_power 9 = .ok (.invokevirtual 62, 3) := by decide +kernel
theorem dX2_power_12 : decode cX2_power 12 = .ok (.ifCond .ne 6, 3) := by decide +kernel
theorem dX2_power_15 : decode cX2_power 15 = .ok (.bipush (-101), 2) := by decide +kernel
theorem dX2_power_17 : decode cX2_power 17 = .ok (.ireturn, 1) := by decide +kernel
theorem dX2_power_18 : decode cX2_power 18 = .ok (.iload_n 3, 1) := by decide +kernel
theorem dX2_power_19 : decode cX2_power 19 = .ok (.bipush (-12), 2) := by decide +kernel
theorem dX2_power_21 : decode cX2_power 21 = .ok (.if_icmp .lt 9, 3) := by decide +kernel
theorem dX2_power_24 : decode cX2_power 24 = .ok (.iload_n 3, 1) := by decide +kernel
theorem dX2_power_25 : decode cX2_power 25 = .ok (.bipush 12, 2) := by decide +kernel
theorem dX2_power_27 : decode cX2_power 27 = .ok (.if_icmp .le 6, 3) := by decide +kernel
theorem dX2_power_30 : decode cX2_power 30 = .ok (.bipush (-102), 2) := by decide +kernel
theorem dX2_power_32 : decode cX2_power 32 = .ok (.ireturn, 1) := by decide +kernel
theorem dX2_power_33 : decode cX2_power 33 = .ok (.aload_n 0, 1) := by decide +kernel
theorem dX2_power_34 : decode cX2_power 34 = .ok (.aload_n 0, 1) := by decide +kernel
theorem dX2_power_35 : decode cX2_power 35 = .ok (.getfield 11, 3) := by decide +kernel
theorem dX2_power_38 : decode cX2_power 38 = .ok (.iload_n 2, 1) := by decide +kernel
theorem dX2_power_39 : decode cX2_power 39 = .ok (.aaload, 1) := by decide +kernel
theorem dX2_power_40 : decode cX2_power 40 = .ok (.iload_n 3, 1) := by decide +kernel
theorem dX2_power_41 : decode cX2_power 41 = .ok (.invokevirtual 72, 3) := by decide +kernel
theorem dX2_power_44 : decode cX2_power 44 = .ok (.ifCond .ne 6, 3) := by decide +kernel
theorem dX2_power_47 : decode cX2_power 47 = .ok (.bipush (-104), 2) := by decide +kernel
theorem dX2_power_49 : decode cX2_power 49 = .ok (.ireturn, 1) := by decide +kernel
theorem dX2_power_50 : decode cX2_power 50 = .ok (.aload_n 0, 1) := by decide +kernel
theorem dX2_power_51 : decode cX2_power 51 = .ok (.getfield 25, 3) := by decide +kernel
theorem dX2_power_54 : decode cX2_power 54 = .ok (.aload_n 0, 1) := by decide +kernel
theorem dX2_power_55 : decode cX2_power 55 = .ok (.getfield 11, 3) := by decide +kernel
theorem dX2_power_58 : decode cX2_power 58 = .ok (.iload_n 1, 1) := by decide +kernel
theorem dX2_power_59 : decode cX2_power 59 = .ok (.aaload, 1) := by decide +kernel
theorem dX2_power_60 : decode cX2_power 60 = .ok (.invokestatic 69, 3) := by decide +kernel
theorem dX2_power_63 : decode cX2_power 63 = .ok (.aload_n 0, 1) := by decide +kernel
theorem dX2_power_64 : decode cX2_power 64 = .ok (.getfield 11, 3) := by decide +kernel
theorem dX2_power_67 : decode cX2_power 67 = .ok (.iload_n 1, 1) := by decide +kernel
theorem dX2_power_68 : decode cX2_power 68 = .ok (.aaload, 1) := by decide +kernel
theorem dX2_power_69 : decode cX2_power 69 = .ok (.getfield 35, 3) := by decide +kernel
theorem dX2_power_72 : decode cX2_power 72 = .ok (.ireturn, 1) := by decide +kernel
set_option maxRecDepth 20000 in
theorem ggX2_drop_X2_isThere : GoodIn wsX2_drop wsX2_isThere := goodIn_r _ [7, 1, 2, 8, 9, 6, 10, 11, 12, 13, 14, 15, 16, 17, 18, 19, 20, 21, 22, 23] (by decide +kernel) (by decide +kernel)
set_option maxRecDepth 20000 in
theorem gX2_drop_X2_isThere : GoodIn wsX2_drop (wsV RX2 62 RX2 yX2_isThere wsX2_isThere) := goodIn_app (goodIn_of _ (by decide +kernel)) ggX2_drop_X2_isThere
theorem dX2_drop_0 : decode cX2_drop 0 = .ok (.aload_n 0, 1) := by decide +kernel
theorem dX2_drop_1 : decode cX2_drop 1 = .ok (.iload_n 1, 1) := by decide +kernel
theorem dX2_drop_2 : decode cX2_drop 2 = .ok (.invokevirtual 62, 3) := by decide +kernel
theorem dX2_drop_5 : decode cX2_drop 5 = .ok (.ifCond .ne 6, 3) := by decide +kernel
theorem dX2_drop_8 : decode cX2_drop 8 = .ok (.bipush (-101), 2) := by decide +kernel
theorem dX2_drop_10 : decode cX2_drop 10 = .ok (.ireturn, 1) := by decide +kernel
theorem dX2_drop_11 : decode cX2_drop 11 = .ok (.aload_n 0, 1) := by decide +kernel
theorem dX2_drop_12 : decode cX2_drop 12 = .ok (.getfield 11, 3) := by decide +kernel
theorem dX2_drop_15 : decode cX2_drop 15 = .ok (.iload_n 1, 1) := by decide +kernel
theorem dX2_drop_16 : decode cX2_drop 16 = .ok (.aaload, 1) := by decide +kernel
theorem dX2_drop_17 : decode cX2_drop 17 = .ok (.getfield 35, 3) := by decide +kernel
theorem dX2_drop_20 : decode cX2_drop 20 = .ok (.istore_n 2, 1) := by decide +kernel
theorem dX2_drop_21 : decode cX2_drop 21 = .ok (.aload_n 0, 1) := by decide +kernel
theorem dX2_drop_22 : decode cX2_drop 22 = .ok (.getfield 11, 3) := by decide +kernel
theorem dX2_drop_25 : decode cX2_drop 25 = .ok (.iload_n 1, 1) := by decide +kernel
theorem dX2_drop_26 : decode cX2_drop 26 = .ok (.aaload, 1) := by decide +kernel
theorem dX2_drop_27 : decode cX2_drop 27 = .ok (.iconst 0, 1) := by decide +kernel
theorem dX2_drop_28 : decode cX2_drop 28 = .ok (.putfield 35, 3) := by decide +kernel
theorem dX2_drop_31 : decode cX2_drop 31 = .ok (.iload_n 2, 1) := by decide +kernel
theorem dX2_drop_32 : decode cX2_drop 32 = .ok (.ireturn, 1) := by decide +kernel
set_option maxRecDepth 20000 in
theorem ggX2_leaves_X2_isThere : GoodIn wsX2_leaves wsX2_isThere := goodIn_r _ [7, 1, 2, 8, 9, 6, 10, 11, 12, 13, 14, 15, 16, 17, 18, 19, 20, 21, 22, 23] (by decide +kernel) (by decide +kernel)
set_option maxRecDepth 20000 in
theorem gX2_leaves_X2_isThere : GoodIn wsX2_leaves (wsV RX2 62 RX2 yX2_isThere wsX2_isThere) := goodIn_app (goodIn_of _ (by decide +kernel)) ggX2_leaves_X2_isThere
theorem dX2_leaves_0 : decode cX2_leaves 0 = .ok (.aload_n 0, 1) := by decide +kernel
theorem dX2_leaves_1 : decode cX2_leaves 1 = .ok (.iload_n 1, 1) := by decide +kernel
theorem dX2_leaves_2 : decode cX2_leaves 2 = .ok (.invokevirtual 62, 3) := by decide +kernel
theorem dX2_leaves_5 : decode cX2_leaves 5 = .ok (.ifCond .eq 15, 3) := by decide +kernel
theorem dX2_leaves_8 : decode cX2_leaves 8 = .ok (.aload_n 0, 1) := by decide +kernel
theorem dX2_leaves_9 : decode cX2_leaves 9 = .ok (.getfield 11, 3) := by decide +kernel
theorem dX2_leaves_12 : decode cX2_leaves 12 = .ok (.iload_n 1, 1) := by decide +kernel
theorem dX2_leaves_13 : decode cX2_leaves 13 = .ok (.aaload, 1) := by decide +kernel
theorem dX2_leaves_14 : decode cX2_leaves 14 = .ok (.getfield 35, 3) := by decide +kernel
theorem dX2_leaves_17 : decode cX2_leaves 17 = .ok (.goto 5, 3) := by decide +kernel
theorem dX2_leaves_20 : decode cX2_leaves 20 = .ok (.bipush (-101), 2) := by decide +kernel
theorem dX2_leaves_22 : decode cX2_leaves 22 = .ok (.ireturn, 1) := by decide +kernel
set_option maxRecDepth 20000 in
theorem ggX2_sort_X2_isThere : GoodIn wsX2_sort wsX2_isThere := goodIn_r _ [6, 1, 7, 8, 9, 5, 10, 28, 29, 30, 31, 32, 33, 34, 35, 36, 37, 38, 39, 40] (by decide +kernel) (by decide +kernel)
set_option maxRecDepth 20000 in
theorem gX2_sort_X2_isThere : GoodIn wsX2_sort (wsV RX2 62 RX2 yX2_isThere wsX2_isThere) := goodIn_app (goodIn_of _ (by decide +kernel)) ggX2_sort_X2_isThere
set_option maxRecDepth 20000 in
theorem ggX2_sort_X2_kindOf : GoodIn wsX2_sort wsX2_kindOf := goodIn_r _ [13, 7, 14, 15, 16, 17, 18, 19, 20, 21, 5, 22, 23, 24, 25, 26, 27, 36, 37, 38, 39, 40] (by decide +kernel) (by decide +kernel)
set_option maxRecDepth 20000 in
theorem gX2_sort_X2_kindOf : GoodIn wsX2_sort (va_wsS RX2 76 yX2_kindOf wsX2_kindOf) := goodIn_app (goodIn_of _ (by decide +kernel)) ggX2_sort_X2_kindOf
theorem dX2_sort_0 : decode cX2_sort 0 = .ok (.aload_n 0, 1) := by decide +kernel
theorem dX2_sort_1 : decode cX2_sort 1 = .ok (.iload_n 1, 1) := by decide +kernel
theorem dX2_sort_2 : decode cX2_sort 2 = .ok (.invokevirtual 62, 3) := by decide +kernel
theorem dX2_sort_5 : decode cX2_sort 5 = .ok (.ifCond .eq 15, 3) := by decide +kernel
theorem dX2_sort_8 : decode cX2_sort 8 = .ok (.aload_n 0, 1) := by decide +kernel
theorem dX2_sort_9 : decode cX2_sort 9 = .ok (.getfield 11, 3) := by decide +kernel
theorem dX2_sort_12 : decode cX2_sort 12 = .ok (.iload_n 1, 1) := by decide +kernel
theorem dX2_sort_13 : decode cX2_sort 13 = .ok (.aaload, 1) := by decide +kernel
theorem dX2_sort_14 : decode cX2_sort 14 = .ok (.invokestatic 76, 3) := by decide +kernel
theorem dX2_sort_17 : decode cX2_sort 17 = .ok (.goto 5, 3) := by decide +kernel
theorem dX2_sort_20 : decode cX2_sort 20 = .ok (.bipush (-101), 2) := by decide +kernel
theorem dX2_sort_22 : decode cX2_sort 22 = .ok (.ireturn, 1) := by decide +kernel
set_option maxRecDepth 20000 in
theorem ggX2_leaf_X2_isThere : GoodIn wsX2_leaf wsX2_isThere := goodIn_r _ [7, 1, 2, 8, 9, 6, 10, 20, 21, 22, 23, 24, 25, 26, 27, 28, 29, 30, 31, 32] (by decide +kernel) (by decide +kernel)
set_option maxRecDepth 20000 in
theorem gX2_leaf_X2_isThere : GoodIn wsX2_leaf (wsV RX2 62 RX2 yX2_isThere wsX2_isThere) := goodIn_app (goodIn_of _ (by decide +kernel)) ggX2_leaf_X2_isThere
set_option maxRecDepth 20000 in
theorem ggX2_leaf_X1_told : GoodIn wsX2_leaf wsX1_told := goodIn_r _ [15, 16, 17, 18, 19, 28, 29, 30, 31, 32] (by decide +kernel) (by decide +kernel)
set_option maxRecDepth 20000 in
theorem gX2_leaf_X1_told : GoodIn wsX2_leaf (wsV RX2 80 RX1 yX1_told wsX1_told) := goodIn_app (goodIn_of _ (by decide +kernel)) ggX2_leaf_X1_told
theorem dX2_leaf_0 : decode cX2_leaf 0 = .ok (.aload_n 0, 1) := by decide +kernel
theorem dX2_leaf_1 : decode cX2_leaf 1 = .ok (.iload_n 1, 1) := by decide +kernel
theorem dX2_leaf_2 : decode cX2_leaf 2 = .ok (.invokevirtual 62, 3) := by decide +kernel
theorem dX2_leaf_5 : decode cX2_leaf 5 = .ok (.ifCond .eq 20, 3) := by decide +kernel
theorem dX2_leaf_8 : decode cX2_leaf 8 = .ok (.iload_n 2, 1) := by decide +kernel
theorem dX2_leaf_9 : decode cX2_leaf 9 = .ok (.ifCond .lt 16, 3) := by decide +kernel
theorem dX2_leaf_12 : decode cX2_leaf 12 = .ok (.iload_n 2, 1) := by decide +kernel
theorem dX2_leaf_13 : decode cX2_leaf 13 = .ok (.aload_n 0, 1) := by decide +kernel
theorem dX2_leaf_14 : decode cX2_leaf 14 = .ok (.getfield 11, 3) := by decide +kernel
theorem dX2_leaf_17 : decode cX2_leaf 17 = .ok (.iload_n 1, 1) := by decide +kernel
theorem dX2_leaf_18 : decode cX2_leaf 18 = .ok (.aaload, 1) := by decide +kernel
theorem dX2_leaf_19 : decode cX2_leaf 19 = .ok (.getfield 35, 3) := by decide +kernel
theorem dX2_leaf_22 : decode cX2_leaf 22 = .ok (.if_icmp .lt 6, 3) := by decide +kernel
theorem dX2_leaf_25 : decode cX2_leaf 25 = .ok (.bipush (-101), 2) := by decide +kernel
theorem dX2_leaf_27 : decode cX2_leaf 27 = .ok (.ireturn, 1) := by decide +kernel
theorem dX2_leaf_28 : decode cX2_leaf 28 = .ok (.iload_n 3, 1) := by decide +kernel
theorem dX2_leaf_29 : decode cX2_leaf 29 = .ok (.ifCond .lt 8, 3) := by decide +kernel
theorem dX2_leaf_32 : decode cX2_leaf 32 = .ok (.iload_n 3, 1) := by decide +kernel
theorem dX2_leaf_33 : decode cX2_leaf 33 = .ok (.iconst 3, 1) := by decide +kernel
theorem dX2_leaf_34 : decode cX2_leaf 34 = .ok (.if_icmp .le 6, 3) := by decide +kernel
theorem dX2_leaf_37 : decode cX2_leaf 37 = .ok (.bipush (-102), 2) := by decide +kernel
theorem dX2_leaf_39 : decode cX2_leaf 39 = .ok (.ireturn, 1) := by decide +kernel
theorem dX2_leaf_40 : decode cX2_leaf 40 = .ok (.aload_n 0, 1) := by decide +kernel
theorem dX2_leaf_41 : decode cX2_leaf 41 = .ok (.getfield 11, 3) := by decide +kernel
theorem dX2_leaf_44 : decode cX2_leaf 44 = .ok (.iload_n 1, 1) := by decide +kernel
theorem dX2_leaf_45 : decode cX2_leaf 45 = .ok (.aaload, 1) := by decide +kernel
theorem dX2_leaf_46 : decode cX2_leaf 46 = .ok (.iload_n 2, 1) := by decide +kernel
theorem dX2_leaf_47 : decode cX2_leaf 47 = .ok (.iload_n 3, 1) := by decide +kernel
theorem dX2_leaf_48 : decode cX2_leaf 48 = .ok (.invokevirtual 80, 3) := by decide +kernel
theorem dX2_leaf_51 : decode cX2_leaf 51 = .ok (.l2i, 1) := by decide +kernel
theorem dX2_leaf_52 : decode cX2_leaf 52 = .ok (.ireturn, 1) := by decide +kernel
set_option maxRecDepth 20000 in
theorem ggX2_same_X2_isThere : GoodIn wsX2_same wsX2_isThere := goodIn_r _ [6, 1, 7, 8, 9, 5, 10, 23, 24, 25, 26, 27, 28, 29, 30, 31, 32, 33, 34, 35] (by decide +kernel) (by decide +kernel)
set_option maxRecDepth 20000 in
theorem gX2_same_X2_isThere : GoodIn wsX2_same (wsV RX2 62 RX2 yX2_isThere wsX2_isThere) := goodIn_app (goodIn_of _ (by decide +kernel)) ggX2_same_X2_isThere
set_option maxRecDepth 20000 in
theorem ggX2_same_X2_areAlike : GoodIn wsX2_same wsX2_areAlike := goodIn_r _ [13, 7, 14, 15, 16, 17, 18, 19, 20, 21, 22, 31, 32, 33, 34, 35] (by decide +kernel) (by decide +kernel)
set_option maxRecDepth 20000 in
theorem gX2_same_X2_areAlike : GoodIn wsX2_same (va_wsS RX2 84 yX2_areAlike wsX2_areAlike) := goodIn_app (goodIn_of _ (by decide +kernel)) ggX2_same_X2_areAlike
theorem dX2_same_0 : decode cX2_same 0 = .ok (.aload_n 0, 1) := by decide +kernel
theorem dX2_same_1 : decode cX2_same 1 = .ok (.iload_n 1, 1) := by decide +kernel
theorem dX2_same_2 : decode cX2_same 2 = .ok (.invokevirtual 62, 3) := by decide +kernel
theorem dX2_same_5 : decode cX2_same 5 = .ok (.ifCond .eq 11, 3) := by decide +kernel
theorem dX2_same_8 : decode cX2_same 8 = .ok (.aload_n 0, 1) := by decide +kernel
theorem dX2_same_9 : decode cX2_same 9 = .ok (.iload_n 2, 1) := by decide +kernel
theorem dX2_same_10 : decode cX2_same 10 = .ok (.invokevirtual 62, 3) := by decide +kernel
theorem dX2_same_13 : decode cX2_same 13 = .ok (.ifCond .ne 6, 3) := by decide +kernel
theorem dX2_same_16 : decode cX2_same 16 = .ok (.bipush (-101), 2) := by decide +kernel
theorem dX2_same_18 : decode cX2_same 18 = .ok (.ireturn, 1) := by decide +kernel
theorem dX2_same_19 : decode cX2_same 19 = .ok (.aload_n 0, 1) := by decide +kernel
theorem dX2_same_20 : decode cX2_same 20 = .ok (.getfield 11, 3) := by decide +kernel
theorem dX2_same_23 : decode cX2_same 23 = .ok (.iload_n 1, 1) := by decide +kernel
theorem dX2_same_24 : decode cX2_same 24 = .ok (.aaload, 1) := by decide +kernel
theorem dX2_same_25 : decode cX2_same 25 = .ok (.aload_n 0, 1) := by decide +kernel
theorem dX2_same_26 : decode cX2_same 26 = .ok (.getfield 11, 3) := by decide +kernel
theorem dX2_same_29 : decode cX2_same 29 = .ok (.iload_n 2, 1) := by decide +kernel
theorem dX2_same_30 : decode cX2_same 30 = .ok (.aaload, 1) := by decide +kernel
theorem dX2_same_31 : decode cX2_same 31 = .ok (.invokestatic 84, 3) := by decide +kernel
theorem dX2_same_34 : decode cX2_same 34 = .ok (.ifCond .eq 7, 3) := by decide +kernel
theorem dX2_same_37 : decode cX2_same 37 = .ok (.iconst 1, 1) := by decide +kernel
theorem dX2_same_38 : decode cX2_same 38 = .ok (.goto 4, 3) := by decide +kernel
theorem dX2_same_41 : decode cX2_same 41 = .ok (.iconst 0, 1) := by decide +kernel
theorem dX2_same_42 : decode cX2_same 42 = .ok (.ireturn, 1) := by decide +kernel
set_option maxRecDepth 20000 in
theorem ggX2_commute_X2_isThere : GoodIn wsX2_commute wsX2_isThere := goodIn_r _ [9, 1, 4, 10, 11, 8, 12, 68, 69, 70, 71, 72, 73, 74, 75, 76, 77, 78, 79, 80] (by decide +kernel) (by decide +kernel)
set_option maxRecDepth 20000 in
theorem gX2_commute_X2_isThere : GoodIn wsX2_commute (wsV RX2 62 RX2 yX2_isThere wsX2_isThere) := goodIn_app (goodIn_of _ (by decide +kernel)) ggX2_commute_X2_isThere
set_option maxRecDepth 20000 in
theorem ggX2_commute_X2_putBehind : GoodIn wsX2_commute wsX2_putBehind := goodIn_r _ [15, 4, 16, 17, 18, 19, 20, 21, 22, 23, 8, 24, 25, 26, 27, 28, 29, 30, 31, 32, 33, 34, 35, 36, 37, 38, 39, 40, 41, 42, 43, 44, 45, 46, 47, 48, 49, 50, 51, 52, 53, 54, 55, 56, 57, 58, 59, 60, 76, 77, 78, 79, 80] (by decide +kernel) (by decide +kernel)
set_option maxRecDepth 20000 in
theorem gX2_commute_X2_putBehind : GoodIn wsX2_commute (va_wsS RX2 65 yX2_putBehind wsX2_putBehind) := goodIn_app (goodIn_of _ (by decide +kernel)) ggX2_commute_X2_putBehind
set_option maxRecDepth 20000 in
theorem ggX2_commute_X2_areAlike : GoodIn wsX2_commute wsX2_areAlike := goodIn_r _ [63, 4, 64, 65, 66, 19, 67, 38, 39, 21, 22, 76, 77, 78, 79, 80] (by decide +kernel) (by decide +kernel)
set_option maxRecDepth 20000 in
theorem gX2_commute_X2_areAlike : GoodIn wsX2_commute (va_wsS RX2 84 yX2_areAlike wsX2_areAlike) := goodIn_app (goodIn_of _ (by decide +kernel)) ggX2_commute_X2_areAlike
theorem dX2_commute_0 : decode cX2_commute 0 = .ok (.aload_n 0, 1) := by decide +kernel
theorem dX2_commute_1 : decode cX2_commute 1 = .ok (.iload_n 1, 1) := by decide +kernel
theorem dX2_commute_2 : decode cX2_commute 2 = .ok (.invokevirtual 62, 3) := by decide +kernel
theorem dX2_commute_5 : decode cX2_commute 5 = .ok (.ifCond .eq 11, 3) := by decide +kernel
theorem dX2_commute_8 : decode cX2_commute 8 = .ok (.aload_n 0, 1) := by decide +kernel
theorem dX2_commute_9 : decode cX2_commute 9 = .ok (.iload_n 2, 1) := by decide +kernel
theorem dX2_commute_10 : decode cX2_commute 10 = .ok (.invokevirtual 62, 3) := by decide +kernel
theorem dX2_commute_13 : decode cX2_commute 13 = .ok (.ifCond .ne 6, 3) := by decide +kernel
theorem dX2_commute_16 : decode cX2_commute 16 = .ok (.bipush (-101), 2) := by decide +kernel
theorem dX2_commute_18 : decode cX2_commute 18 = .ok (.ireturn, 1) := by decide +kernel
theorem dX2_commute_19 : decode cX2_commute 19 = .ok (.aload_n 0, 1) := by decide +kernel
theorem dX2_commute_20 : decode cX2_commute 20 = .ok (.getfield 11, 3) := by decide +kernel
theorem dX2_commute_23 : decode cX2_commute 23 = .ok (.iload_n 1, 1) := by decide +kernel
theorem dX2_commute_24 : decode cX2_commute 24 = .ok (.aaload, 1) := by decide +kernel
theorem dX2_commute_25 : decode cX2_commute 25 = .ok (.aload_n 0, 1) := by decide +kernel
theorem dX2_commute_26 : decode cX2_commute 26 = .ok (.getfield 11, 3) := by decide +kernel
theorem dX2_commute_29 : decode cX2_commute 29 = .ok (.iload_n 2, 1) := by decide +kernel
theorem dX2_commute_30 : decode cX2_commute 30 = .ok (.aaload, 1) := by decide +kernel
theorem dX2_commute_31 : decode cX2_commute 31 = .ok (.aload_n 0, 1) := by decide +kernel
theorem dX2_commute_32 : decode cX2_commute 32 = .ok (.getfield 25, 3) := by decide +kernel
theorem dX2_commute_35 : decode cX2_commute 35 = .ok (.invokestatic 65, 3) := by decide +kernel
theorem dX2_commute_38 : decode cX2_commute 38 = .ok (.aload_n 0, 1) := by decide +kernel
theorem dX2_commute_39 : decode cX2_commute 39 = .ok (.getfield 11, 3) := by decide +kernel
theorem dX2_commute_42 : decode cX2_commute 42 = .ok (.iload_n 2, 1) := by decide +kernel
theorem dX2_commute_43 : decode cX2_commute 43 = .ok (.aaload, 1) := by decide +kernel
theorem dX2_commute_44 : decode cX2_commute 44 = .ok (.aload_n 0, 1) := by decide +kernel
theorem dX2_commute_45 : decode cX2_commute 45 = .ok (.getfield 11, 3) := by decide +kernel
theorem dX2_commute_48 : decode cX2_commute 48 = .ok (.iload_n 1, 1) := by decide +kernel
theorem dX2_commute_49 : decode cX2_commute 49 = .ok (.aaload, 1) := by decide +kernel
theorem dX2_commute_50 : decode cX2_commute 50 = .ok (.aload_n 0, 1) := by decide +kernel
theorem dX2_commute_51 : decode cX2_commute 51 = .ok (.getfield 22, 3) := by decide +kernel
theorem dX2_commute_54 : decode cX2_commute 54 = .ok (.invokestatic 65, 3) := by decide +kernel
theorem dX2_commute_57 : decode cX2_commute 57 = .ok (.aload_n 0, 1) := by decide +kernel
theorem dX2_commute_58 : decode cX2_commute 58 = .ok (.getfield 25, 3) := by decide +kernel
theorem dX2_commute_61 : decode cX2_commute 61 = .ok (.getfield 35, 3) := by decide +kernel
theorem dX2_commute_64 : decode cX2_commute 64 = .ok (.bipush 24, 2) := by decide +kernel
theorem dX2_commute_66 : decode cX2_commute 66 = .ok (.if_icmp .gt 15, 3) := by decide +kernel
theorem dX2_commute_69 : decode cX2_commute 69 = .ok (.aload_n 0, 1) := by decide +kernel
theorem dX2_commute_70 : decode cX2_commute 70 = .ok (.getfield 22, 3) := by decide +kernel
theorem dX2_commute_73 : decode cX2_commute 73 = .ok (.getfield 35, 3) := by decide +kernel
theorem dX2_commute_76 : decode cX2_commute 76 = .ok (.bipush 24, 2) := by decide +kernel
theorem dX2_commute_78 : decode cX2_commute 78 = .ok (.if_icmp .le 6, 3) := by decide +kernel
theorem dX2_commute_81 : decode cX2_commute 81 = .ok (.bipush (-104), 2) := by decide +kernel
theorem dX2_commute_83 : decode cX2_commute 83 = .ok (.ireturn, 1) := by decide +kernel
theorem dX2_commute_84 : decode cX2_commute 84 = .ok (.aload_n 0, 1) := by decide +kernel
theorem dX2_commute_85 : decode cX2_commute 85 = .ok (.getfield 25, 3) := by decide +kernel
theorem dX2_commute_88 : decode cX2_commute 88 = .ok (.aload_n 0, 1) := by decide +kernel
theorem dX2_commute_89 : decode cX2_commute 89 = .ok (.getfield 22, 3) := by decide +kernel
theorem dX2_commute_92 : decode cX2_commute 92 = .ok (.invokestatic 84, 3) := by decide +kernel
theorem dX2_commute_95 : decode cX2_commute 95 = .ok (.ifCond .eq 7, 3) := by decide +kernel
theorem dX2_commute_98 : decode cX2_commute 98 = .ok (.iconst 1, 1) := by decide +kernel
theorem dX2_commute_99 : decode cX2_commute 99 = .ok (.goto 4, 3) := by decide +kernel
theorem dX2_commute_102 : decode cX2_commute 102 = .ok (.iconst 0, 1) := by decide +kernel
theorem dX2_commute_103 : decode cX2_commute 103 = .ok (.ireturn, 1) := by decide +kernel
set_option maxRecDepth 20000 in
theorem ggX2_order_X2_isThere : GoodIn wsX2_order wsX2_isThere := goodIn_r _ [8, 2, 3, 9, 10, 7, 11, 73, 74, 75, 76, 77, 78, 79, 80, 81, 82, 83, 84, 85] (by decide +kernel) (by decide +kernel)
set_option maxRecDepth 20000 in
theorem gX2_order_X2_isThere : GoodIn wsX2_order (wsV RX2 62 RX2 yX2_isThere wsX2_isThere) := goodIn_app (goodIn_of _ (by decide +kernel)) ggX2_order_X2_isThere
set_option maxRecDepth 20000 in
theorem ggX2_order_X1_becomeNothing : GoodIn wsX2_order wsX1_becomeNothing := goodIn_r _ [16, 17, 18, 19, 20, 15, 21, 22, 23, 24, 25, 81, 82, 83, 84, 85] (by decide +kernel) (by decide +kernel)
set_option maxRecDepth 20000 in
theorem gX2_order_X1_becomeNothing : GoodIn wsX2_order (wsV RX2 88 RX1 yX1_becomeNothing wsX1_becomeNothing) := goodIn_app (goodIn_of _ (by decide +kernel)) ggX2_order_X1_becomeNothing
set_option maxRecDepth 20000 in
theorem ggX2_order_X2_isOneMore : GoodIn wsX2_order wsX2_isOneMore := goodIn_r _ [29, 1, 30, 3, 31, 32, 7, 33, 34, 35, 36, 15, 37, 24, 25, 38, 39, 40, 41, 42, 43, 44, 45, 46, 47, 17, 48, 49, 50, 51, 22, 23, 52, 53, 54, 55, 56, 57, 58, 59, 60, 61, 62, 63, 64, 18, 19, 20, 21, 65, 66, 67, 68, 69, 70, 71, 72, 73, 74, 75, 76, 77, 78, 79, 80, 81, 82, 83, 84, 85] (by decide +kernel) (by decide +kernel)
set_option maxRecDepth 20000 in
theorem gX2_order_X2_isOneMore : GoodIn wsX2_order (wsV RX2 91 RX2 yX2_isOneMore wsX2_isOneMore) := goodIn_app (goodIn_of _ (by decide +kernel)) ggX2_order_X2_isOneMore
theorem dX2_order_0 : decode cX2_order 0 = .ok (.aload_n 0, 1) := by decide +kernel
theorem dX2_order_1 : decode cX2_order 1 = .ok (.iload_n 1, 1) := by decide +kernel
theorem dX2_order_2 : decode cX2_order 2 = .ok (.invokevirtual 62, 3) := by decide +kernel
theorem dX2_order_5 : decode cX2_order 5 = .ok (.ifCond .ne 6, 3) := by decide +kernel
theorem dX2_order_8 : decode cX2_order 8 = .ok (.bipush (-101), 2) := by decide +kernel
theorem dX2_order_10 : decode cX2_order 10 = .ok (.ireturn, 1) := by decide +kernel
theorem dX2_order_11 : decode cX2_order 11 = .ok (.aload_n 0, 1) := by decide +kernel
theorem dX2_order_12 : decode cX2_order 12 = .ok (.getfield 25, 3) := by decide +kernel
theorem dX2_order_15 : decode cX2_order 15 = .ok (.invokevirtual 88, 3) := by decide +kernel
theorem dX2_order_18 : decode cX2_order 18 = .ok (.iconst 1, 1) := by decide +kernel
theorem dX2_order_19 : decode cX2_order 19 = .ok (.istore_n 2, 1) := by decide +kernel
theorem dX2_order_20 : decode cX2_order 20 = .ok (.iload_n 2, 1) := by decide +kernel
theorem dX2_order_21 : decode cX2_order 21 = .ok (.bipush 40, 2) := by decide +kernel
theorem dX2_order_23 : decode cX2_order 23 = .ok (.if_icmp .gt 37, 3) := by decide +kernel
theorem dX2_order_26 : decode cX2_order 26 = .ok (.aload_n 0, 1) := by decide +kernel
theorem dX2_order_27 : decode cX2_order 27 = .ok (.aload_n 0, 1) := by decide +kernel
theorem dX2_order_28 : decode cX2_order 28 = .ok (.getfield 11, 3) := by decide +kernel
theorem dX2_order_31 : decode cX2_order 31 = .ok (.iload_n 1, 1) := by decide +kernel
theorem dX2_order_32 : decode cX2_order 32 = .ok (.aaload, 1) := by decide +kernel
theorem dX2_order_33 : decode cX2_order 33 = .ok (.invokevirtual 91, 3) := by decide +kernel
theorem dX2_order_36 : decode cX2_order 36 = .ok (.ifCond .ne 5, 3) := by decide +kernel
theorem dX2_order_39 : decode cX2_order 39 = .ok (.iconst 0, 1) := by decide +kernel
theorem dX2_order_40 : decode cX2_order 40 = .ok (.ireturn, 1) := by decide +kernel
theorem dX2_order_41 : decode cX2_order 41 = .ok (.aload_n 0, 1) := by decide +kernel
theorem dX2_order_42 : decode cX2_order 42 = .ok (.getfield 25, 3) := by decide +kernel
theorem dX2_order_45 : decode cX2_order 45 = .ok (.getfield 35, 3) := by decide +kernel
theorem dX2_order_48 : decode cX2_order 48 = .ok (.iconst 1, 1) := by decide +kernel
theorem dX2_order_49 : decode cX2_order 49 = .ok (.if_icmp .ne 5, 3) := by decide +kernel
theorem dX2_order_52 : decode cX2_order 52 = .ok (.iload_n 2, 1) := by decide +kernel
theorem dX2_order_53 : decode cX2_order 53 = .ok (.ireturn, 1) := by decide +kernel
theorem dX2_order_54 : decode cX2_order 54 = .ok (.iinc 2 1, 3) := by decide +kernel
theorem dX2_order_57 : decode cX2_order 57 = .ok (.goto (-37), 3) := by decide +kernel
theorem dX2_order_60 : decode cX2_order 60 = .ok (.iconst 0, 1) := by decide +kernel
theorem dX2_order_61 : decode cX2_order 61 = .ok (.ireturn, 1) := by decide +kernel
set_option maxRecDepth 20000 in
theorem ggX2_length_X2_isThere : GoodIn wsX2_length wsX2_isThere := goodIn_r _ [7, 1, 8, 9, 10, 6, 11, 234, 235, 236, 237, 238, 239, 240, 241, 244, 245, 246, 247, 248] (by decide +kernel) (by decide +kernel)
set_option maxRecDepth 20000 in
theorem gX2_length_X2_isThere : GoodIn wsX2_length (wsV RX2 62 RX2 yX2_isThere wsX2_isThere) := goodIn_app (goodIn_of _ (by decide +kernel)) ggX2_length_X2_isThere
set_option maxRecDepth 20000 in
theorem ggX2_length_X2_nearOnes : GoodIn wsX2_length wsX2_nearOnes := goodIn_r _ [15, 16, 17, 18, 19, 6, 20, 21, 22, 23, 24, 2, 25, 26, 27, 28, 29, 30, 31, 32, 33, 34, 35, 36, 37, 38, 39, 40, 41, 42, 43, 44, 45, 46, 47, 48, 49, 50, 51, 52, 53, 54, 55, 56, 57, 58, 59, 60, 61, 62, 63, 64, 65, 66, 67, 68, 69, 70, 71, 72, 73, 74, 75, 76, 8, 77, 78, 79, 80, 81, 82, 83, 84, 85, 86, 87, 88, 89, 90, 91, 92, 93, 94, 95, 96, 97, 98, 99, 100, 101, 102, 103, 104, 105, 106, 107, 108, 109, 110, 111, 112, 113, 114, 115, 116, 117, 118, 119, 120, 121, 122, 123, 124, 125, 126, 127, 128, 129, 130, 131, 132, 133, 134, 135, 136, 137, 138, 139, 140, 141, 142, 143, 144, 145, 146, 147, 148, 149, 150, 151, 152, 153, 154, 155, 156, 157, 158, 159, 160, 161, 162, 163, 164, 165, 166, 167, 168, 169, 170, 171, 172, 173, 174, 175, 176, 177, 178, 179, 180, 181, 182, 183, 184, 185, 186, 187, 188, 189, 190, 191, 192, 193, 194, 195, 196, 197, 198, 199, 200, 201, 202, 203, 204, 205, 206, 207, 208, 209, 210, 211, 212, 213, 214, 215, 216, 217, 218, 219, 220, 221, 222, 223, 224, 225, 226, 227, 228, 229, 230, 231, 232, 234, 235, 236, 237, 238, 239, 240, 241, 242, 243, 249, 250, 251, 244, 245, 246, 247, 248] (by decide +kernel) (by decide +kernel)
set_option maxRecDepth 20000 in
theorem gX2_length_X2_nearOnes : GoodIn wsX2_length (wsV RX2 94 RX2 yX2_nearOnes wsX2_nearOnes) := goodIn_app (goodIn_of _ (by decide +kernel)) ggX2_length_X2_nearOnes
set_option maxRecDepth 20000 in
theorem ggX2_length_X0_placeOf : GoodIn wsX2_length wsX0_placeOf := goodIn_r _ [122, 37, 123, 124, 125, 126, 36, 127, 128, 129, 130, 131, 132, 133, 134, 135, 136, 137, 138, 139, 140, 141, 142, 143, 144, 44, 145, 6, 146, 8, 147, 148, 149, 60, 150, 69, 71, 72, 73, 242, 243, 249, 250, 251, 244, 245, 246, 247, 248] (by decide +kernel) (by decide +kernel)
set_option maxRecDepth 20000 in
theorem gX2_length_X0_placeOf : GoodIn wsX2_length (wsV RX2 98 RX0 yX0_placeOf wsX0_placeOf) := goodIn_app (goodIn_of _ (by decide +kernel)) ggX2_length_X0_placeOf
theorem dX2_length_0 : decode cX2_length 0 = .ok (.aload_n 0, 1) := by decide +kernel
theorem dX2_length_1 : decode cX2_length 1 = .ok (.iload_n 1, 1) := by decide +kernel
theorem dX2_length_2 : decode cX2_length 2 = .ok (.invokevirtual 62, 3) := by decide +kernel
theorem dX2_length_5 : decode cX2_length 5 = .ok (.ifCond .ne 6, 3) := by decide +kernel
theorem dX2_length_8 : decode cX2_length 8 = .ok (.bipush (-101), 2) := by decide +kernel
theorem dX2_length_10 : decode cX2_length 10 = .ok (.ireturn, 1) := by decide +kernel
theorem dX2_length_11 : decode cX2_length 11 = .ok (.aload_n 0, 1) := by decide +kernel
theorem dX2_length_12 : decode cX2_length 12 = .ok (.invokevirtual 94, 3) := by decide +kernel
theorem dX2_length_15 : decode cX2_length 15 = .ok (.astore_n 2, 1) := by decide +kernel
theorem dX2_length_16 : decode cX2_length 16 = .ok (.aload_n 2, 1) := by decide +kernel
theorem dX2_length_17 : decode cX2_length 17 = .ok (.aload_n 0, 1) := by decide +kernel
theorem dX2_length_18 : decode cX2_length 18 = .ok (.getfield 11, 3) := by decide +kernel
theorem dX2_length_21 : decode cX2_length 21 = .ok (.iload_n 1, 1) := by decide +kernel
theorem dX2_length_22 : decode cX2_length 22 = .ok (.aaload, 1) := by decide +kernel
theorem dX2_length_23 : decode cX2_length 23 = .ok (.invokevirtual 98, 3) := by decide +kernel
theorem dX2_length_26 : decode cX2_length 26 = .ok (.istore_n 3, 1) := by decide +kernel
theorem dX2_length_27 : decode cX2_length 27 = .ok (.iload_n 3, 1) := by decide +kernel
theorem dX2_length_28 : decode cX2_length 28 = .ok (.ifCond .ge 5, 3) := by decide +kernel
theorem dX2_length_31 : decode cX2_length 31 = .ok (.iconst (-1), 1) := by decide +kernel
theorem dX2_length_32 : decode cX2_length 32 = .ok (.ireturn, 1) := by decide +kernel
theorem dX2_length_33 : decode cX2_length 33 = .ok (.iconst 0, 1) := by decide +kernel
theorem dX2_length_34 : decode cX2_length 34 = .ok (.istore 4, 2) := by decide +kernel
theorem dX2_length_36 : decode cX2_length 36 = .ok (.iload 4, 2) := by decide +kernel
theorem dX2_length_38 : decode cX2_length 38 = .ok (.iconst 4, 1) := by decide +kernel
theorem dX2_length_39 : decode cX2_length 39 = .ok (.if_icmp .gt 23, 3) := by decide +kernel
theorem dX2_length_42 : decode cX2_length 42 = .ok (.iload_n 3, 1) := by decide +kernel
theorem dX2_length_43 : decode cX2_length 43 = .ok (.aload_n 2, 1) := by decide +kernel
theorem dX2_length_44 : decode cX2_length 44 = .ok (.getfield 103, 3) := by decide +kernel
theorem dX2_length_47 : decode cX2_length 47 = .ok (.iload 4, 2) := by decide +kernel
theorem dX2_length_49 : decode cX2_length 49 = .ok (.iaload, 1) := by decide +kernel
theorem dX2_length_50 : decode cX2_length 50 = .ok (.if_icmp .ge 6, 3) := by decide +kernel
theorem dX2_length_53 : decode cX2_length 53 = .ok (.iload 4, 2) := by decide +kernel
theorem dX2_length_55 : decode cX2_length 55 = .ok (.ireturn, 1) := by decide +kernel
theorem dX2_length_56 : decode cX2_length 56 = .ok (.iinc 4 1, 3) := by decide +kernel
theorem dX2_length_59 : decode cX2_length 59 = .ok (.goto (-23), 3) := by decide +kernel
theorem dX2_length_62 : decode cX2_length 62 = .ok (.iconst (-1), 1) := by decide +kernel
theorem dX2_length_63 : decode cX2_length 63 = .ok (.ireturn, 1) := by decide +kernel
set_option maxRecDepth 20000 in
theorem ggX2_ball_X2_nearOnes : GoodIn wsX2_ball wsX2_nearOnes := goodIn_r _ [6, 7, 8, 9, 10, 5, 11, 12, 13, 14, 15, 1, 16, 17, 18, 19, 20, 21, 22, 23, 24, 25, 26, 27, 28, 29, 30, 31, 32, 33, 34, 35, 36, 37, 38, 39, 40, 41, 42, 43, 44, 45, 46, 47, 48, 49, 50, 51, 52, 53, 54, 55, 56, 57, 58, 59, 60, 61, 62, 63, 64, 65, 66, 67, 68, 69, 70, 71, 72, 73, 74, 75, 76, 77, 78, 79, 80, 81, 82, 83, 84, 85, 86, 87, 88, 89, 90, 91, 92, 93, 94, 95, 96, 97, 98, 99, 100, 101, 102, 103, 104, 105, 106, 107, 108, 109, 110, 111, 112, 113, 114, 115, 116, 117, 118, 119, 120, 121, 122, 123, 124, 125, 126, 127, 128, 129, 130, 131, 132, 133, 134, 135, 136, 137, 138, 139, 140, 141, 142, 143, 144, 145, 146, 147, 148, 149, 150, 151, 152, 153, 154, 155, 156, 157, 158, 159, 160, 161, 162, 163, 164, 165, 166, 167, 168, 169, 170, 171, 172, 173, 174, 175, 176, 177, 178, 179, 180, 181, 182, 183, 184, 185, 186, 187, 188, 189, 190, 191, 192, 193, 194, 195, 196, 197, 198, 199, 200, 201, 202, 203, 204, 205, 206, 207, 208, 209, 210, 211, 212, 213, 214, 215, 216, 217, 218, 219, 220, 221, 222, 223, 224, 227, 228, 229, 230, 231, 232, 233, 234, 225, 226, 235, 236, 237, 238, 239, 240, 241, 242] (by decide +kernel) (by decide +kernel)
set_option maxRecDepth 20000 in
theorem gX2_ball_X2_nearOnes : GoodIn wsX2_ball (wsV RX2 94 RX2 yX2_nearOnes wsX2_nearOnes) := goodIn_app (goodIn_of _ (by decide +kernel)) ggX2_ball_X2_nearOnes
theorem dX2_ball_0 : decode cX2_ball 0 = .ok (.iload_n 1, 1) := by decide +kernel
theorem dX2_ball_1 : decode cX2_ball 1 = .ok (.ifCond .lt 8, 3) := by decide +kernel
theorem dX2_ball_4 : decode cX2_ball 4 = .ok (.iload_n 1, 1) := by decide +kernel
theorem dX2_ball_5 : decode cX2_ball 5 = .ok (.iconst 4, 1) := by decide +kernel
theorem dX2_ball_6 : decode cX2_ball 6 = .ok (.if_icmp .le 6, 3) := by decide +kernel
theorem dX2_ball_9 : decode cX2_ball 9 = .ok (.bipush (-102), 2) := by decide +kernel
theorem dX2_ball_11 : decode cX2_ball 11 = .ok (.ireturn, 1) := by decide +kernel
theorem dX2_ball_12 : decode cX2_ball 12 = .ok (.aload_n 0, 1) := by decide +kernel
theorem dX2_ball_13 : decode cX2_ball 13 = .ok (.invokevirtual 94, 3) := by decide +kernel
theorem dX2_ball_16 : decode cX2_ball 16 = .ok (.astore_n 2, 1) := by decide +kernel
theorem dX2_ball_17 : decode cX2_ball 17 = .ok (.iload_n 1, 1) := by decide +kernel
theorem dX2_ball_18 : decode cX2_ball 18 = .ok (.ifCond .ne 12, 3) := by decide +kernel
theorem dX2_ball_21 : decode cX2_ball 21 = .ok (.aload_n 2, 1) := by decide +kernel
theorem dX2_ball_22 : decode cX2_ball 22 = .ok (.getfield 103, 3) := by decide +kernel
theorem dX2_ball_25 : decode cX2_ball 25 = .ok (.iconst 0, 1) := by decide +kernel
theorem dX2_ball_26 : decode cX2_ball 26 = .ok (.iaload, 1) := by decide +kernel
theorem dX2_ball_27 : decode cX2_ball 27 = .ok (.goto 18, 3) := by decide +kernel
theorem dX2_ball_30 : decode cX2_ball 30 = .ok (.aload_n 2, 1) := by decide +kernel
theorem dX2_ball_31 : decode cX2_ball 31 = .ok (.getfield 103, 3) := by decide +kernel
theorem dX2_ball_34 : decode cX2_ball 34 = .ok (.iload_n 1, 1) := by decide +kernel
theorem dX2_ball_35 : decode cX2_ball 35 = .ok (.iaload, 1) := by decide +kernel
theorem dX2_ball_36 : decode cX2_ball 36 = .ok (.aload_n 2, 1) := by decide +kernel
theorem dX2_ball_37 : decode cX2_ball 37 = .ok (.getfield 103, 3) := by decide +kernel
theorem dX2_ball_40 : decode cX2_ball 40 = .ok (.iload_n 1, 1) := by decide +kernel
theorem dX2_ball_41 : decode cX2_ball 41 = .ok (.iconst 1, 1) := by decide +kernel
theorem dX2_ball_42 : decode cX2_ball 42 = .ok (.isub, 1) := by decide +kernel
theorem dX2_ball_43 : decode cX2_ball 43 = .ok (.iaload, 1) := by decide +kernel
theorem dX2_ball_44 : decode cX2_ball 44 = .ok (.isub, 1) := by decide +kernel
theorem dX2_ball_45 : decode cX2_ball 45 = .ok (.ireturn, 1) := by decide +kernel
set_option maxRecDepth 20000 in
theorem ggX2_go_X2_isThere : GoodIn wsX2_go wsX2_isThere := goodIn_r _ [10, 1, 11, 12, 13, 9, 14, 36, 37, 38, 39, 40, 41, 42, 43, 44, 45, 46, 47, 48] (by decide +kernel) (by decide +kernel)
set_option maxRecDepth 20000 in
theorem gX2_go_X2_isThere : GoodIn wsX2_go (wsV RX2 62 RX2 yX2_isThere wsX2_isThere) := goodIn_app (goodIn_of _ (by decide +kernel)) ggX2_go_X2_isThere
set_option maxRecDepth 20000 in
theorem ggX2_go_X1_holderOf : GoodIn wsX2_go wsX1_holderOf := goodIn_r _ [19, 20, 21, 22, 23, 18, 24, 25, 26, 27, 9, 28, 44, 45, 46, 47, 48] (by decide +kernel) (by decide +kernel)
set_option maxRecDepth 20000 in
theorem gX2_go_X1_holderOf : GoodIn wsX2_go (wsV RX2 107 RX1 yX1_holderOf wsX1_holderOf) := goodIn_app (goodIn_of _ (by decide +kernel)) ggX2_go_X1_holderOf
set_option maxRecDepth 20000 in
theorem ggX2_go_X2_see : GoodIn wsX2_go wsX2_see := goodIn_r _ [32, 33, 34, 35, 36, 37, 38, 39, 40, 41, 42, 43] (by decide +kernel) (by decide +kernel)
set_option maxRecDepth 20000 in
theorem gX2_go_X2_see : GoodIn wsX2_go (wsV RX2 124 RX2 yX2_see wsX2_see) := goodIn_app (goodIn_of _ (by decide +kernel)) ggX2_go_X2_see
theorem dX2_go_0 : decode cX2_go 0 = .ok (.aload_n 0, 1) := by decide +kernel
theorem dX2_go_1 : decode cX2_go 1 = .ok (.iload_n 1, 1) := by decide +kernel
theorem dX2_go_2 : decode cX2_go 2 = .ok (.invokevirtual 62, 3) := by decide +kernel
theorem dX2_go_5 : decode cX2_go 5 = .ok (.ifCond .ne 6, 3) := by decide +kernel
theorem dX2_go_8 : decode cX2_go 8 = .ok (.bipush (-101), 2) := by decide +kernel
theorem dX2_go_10 : decode cX2_go 10 = .ok (.ireturn, 1) := by decide +kernel
theorem dX2_go_11 : decode cX2_go 11 = .ok (.iload_n 2, 1) := by decide +kernel
theorem dX2_go_12 : decode cX2_go 12 = .ok (.ifCond .lt 23, 3) := by decide +kernel
theorem dX2_go_15 : decode cX2_go 15 = .ok (.iload_n 2, 1) := by decide +kernel
theorem dX2_go_16 : decode cX2_go 16 = .ok (.bipush 30, 2) := by decide +kernel
theorem dX2_go_18 : decode cX2_go 18 = .ok (.if_icmp .gt 17, 3) := by decide +kernel
theorem dX2_go_21 : decode cX2_go 21 = .ok (.lload_n 3, 1) := by decide +kernel
theorem dX2_go_22 : decode cX2_go 22 = .ok (.lconst 0, 1) := by decide +kernel
theorem dX2_go_23 : decode cX2_go 23 = .ok (.lcmp, 1) := by decide +kernel
theorem dX2_go_24 : decode cX2_go 24 = .ok (.ifCond .lt 11, 3) := by decide +kernel
theorem dX2_go_27 : decode cX2_go 27 = .ok (.lload_n 3, 1) := by decide +kernel
theorem dX2_go_28 : decode cX2_go 28 = .ok (.lconst 1, 1) := by decide +kernel
theorem dX2_go_29 : decode cX2_go 29 = .ok (.iload_n 2, 1) := by decide +kernel
theorem dX2_go_30 : decode cX2_go 30 = .ok (.lshl, 1) := by decide +kernel
theorem dX2_go_31 : decode cX2_go 31 = .ok (.lcmp, 1) := by decide +kernel
theorem dX2_go_32 : decode cX2_go 32 = .ok (.ifCond .lt 6, 3) := by decide +kernel
theorem dX2_go_35 : decode cX2_go 35 = .ok (.bipush (-102), 2) := by decide +kernel
theorem dX2_go_37 : decode cX2_go 37 = .ok (.ireturn, 1) := by decide +kernel
theorem dX2_go_38 : decode cX2_go 38 = .ok (.aload_n 0, 1) := by decide +kernel
theorem dX2_go_39 : decode cX2_go 39 = .ok (.getfield 11, 3) := by decide +kernel
theorem dX2_go_42 : decode cX2_go 42 = .ok (.iload_n 1, 1) := by decide +kernel
theorem dX2_go_43 : decode cX2_go 43 = .ok (.aaload, 1) := by decide +kernel
theorem dX2_go_44 : decode cX2_go 44 = .ok (.astore 5, 2) := by decide +kernel
theorem dX2_go_46 : decode cX2_go 46 = .ok (.lload_n 3, 1) := by decide +kernel
theorem dX2_go_47 : decode cX2_go 47 = .ok (.bipush 30, 2) := by decide +kernel
theorem dX2_go_49 : decode cX2_go 49 = .ok (.iload_n 2, 1) := by decide +kernel
theorem dX2_go_50 : decode cX2_go 50 = .ok (.isub, 1) := by decide +kernel
theorem dX2_go_51 : decode cX2_go 51 = .ok (.lshl, 1) := by decide +kernel
theorem dX2_go_52 : decode cX2_go 52 = .ok (.lstore 6, 2) := by decide +kernel
theorem dX2_go_54 : decode cX2_go 54 = .ok (.aload 5, 2) := by decide +kernel
theorem dX2_go_56 : decode cX2_go 56 = .ok (.lload 6, 2) := by decide +kernel
theorem dX2_go_58 : decode cX2_go 58 = .ok (.bipush 7, 2) := by decide +kernel
theorem dX2_go_60 : decode cX2_go 60 = .ok (.lshr, 1) := by decide +kernel
theorem dX2_go_61 : decode cX2_go 61 = .ok (.invokevirtual 107, 3) := by decide +kernel
theorem dX2_go_64 : decode cX2_go 64 = .ok (.istore 8, 2) := by decide +kernel
theorem dX2_go_66 : decode cX2_go 66 = .ok (.aload 5, 2) := by decide +kernel
theorem dX2_go_68 : decode cX2_go 68 = .ok (.getfield 111, 3) := by decide +kernel
theorem dX2_go_71 : decode cX2_go 71 = .ok (.iload 8, 2) := by decide +kernel
theorem dX2_go_73 : decode cX2_go 73 = .ok (.iaload, 1) := by decide +kernel
theorem dX2_go_74 : decode cX2_go 74 = .ok (.istore 9, 2) := by decide +kernel
theorem dX2_go_76 : decode cX2_go 76 = .ok (.aload 5, 2) := by decide +kernel
theorem dX2_go_78 : decode cX2_go 78 = .ok (.getfield 114, 3) := by decide +kernel
theorem dX2_go_81 : decode cX2_go 81 = .ok (.iload 8, 2) := by decide +kernel
theorem dX2_go_83 : decode cX2_go 83 = .ok (.iaload, 1) := by decide +kernel
theorem dX2_go_84 : decode cX2_go 84 = .ok (.istore 10, 2) := by decide +kernel
theorem dX2_go_86 : decode cX2_go 86 = .ok (.lload 6, 2) := by decide +kernel
theorem dX2_go_88 : decode cX2_go 88 = .ok (.aload 5, 2) := by decide +kernel
theorem dX2_go_90 : decode cX2_go 90 = .ok (.getfield 117, 3) := by decide +kernel
theorem dX2_go_93 : decode cX2_go 93 = .ok (.iload 8, 2) := by decide +kernel
theorem dX2_go_95 : decode cX2_go 95 = .ok (.laload, 1) := by decide +kernel
theorem dX2_go_96 : decode cX2_go 96 = .ok (.bipush 30, 2) := by decide +kernel
theorem dX2_go_98 : decode cX2_go 98 = .ok (.iload 9, 2) := by decide +kernel
theorem dX2_go_100 : decode cX2_go 100 = .ok (.isub, 1) := by decide +kernel
theorem dX2_go_101 : decode cX2_go 101 = .ok (.lshl, 1) := by decide +kernel
theorem dX2_go_102 : decode cX2_go 102 = .ok (.lsub, 1) := by decide +kernel
theorem dX2_go_103 : decode cX2_go 103 = .ok (.lstore 11, 2) := by decide +kernel
theorem dX2_go_105 : decode cX2_go 105 = .ok (.aload 5, 2) := by decide +kernel
theorem dX2_go_107 : decode cX2_go 107 = .ok (.getfield 121, 3) := by decide +kernel
theorem dX2_go_110 : decode cX2_go 110 = .ok (.iload 8, 2) := by decide +kernel
theorem dX2_go_112 : decode cX2_go 112 = .ok (.laload, 1) := by decide +kernel
theorem dX2_go_113 : decode cX2_go 113 = .ok (.bipush 53, 2) := by decide +kernel
theorem dX2_go_115 : decode cX2_go 115 = .ok (.iload 10, 2) := by decide +kernel
theorem dX2_go_117 : decode cX2_go 117 = .ok (.isub, 1) := by decide +kernel
theorem dX2_go_118 : decode cX2_go 118 = .ok (.lshl, 1) := by decide +kernel
theorem dX2_go_119 : decode cX2_go 119 = .ok (.lstore 13, 2) := by decide +kernel
theorem dX2_go_121 : decode cX2_go 121 = .ok (.aload_n 0, 1) := by decide +kernel
theorem dX2_go_122 : decode cX2_go 122 = .ok (.bipush 53, 2) := by decide +kernel
theorem dX2_go_124 : decode cX2_go 124 = .ok (.lload 13, 2) := by decide +kernel
theorem dX2_go_126 : decode cX2_go 126 = .ok (.lload 11, 2) := by decide +kernel
theorem dX2_go_128 : decode cX2_go 128 = .ok (.bipush 23, 2) := by decide +kernel
theorem dX2_go_130 : decode cX2_go 130 = .ok (.iload 9, 2) := by decide +kernel
theorem dX2_go_132 : decode cX2_go 132 = .ok (.iadd, 1) := by decide +kernel
theorem dX2_go_133 : decode cX2_go 133 = .ok (.iload 10, 2) := by decide +kernel
theorem dX2_go_135 : decode cX2_go 135 = .ok (.isub, 1) := by decide +kernel
theorem dX2_go_136 : decode cX2_go 136 = .ok (.lshl, 1) := by decide +kernel
theorem dX2_go_137 : decode cX2_go 137 = .ok (.ladd, 1) := by decide +kernel
theorem dX2_go_138 : decode cX2_go 138 = .ok (.invokevirtual 124, 3) := by decide +kernel
theorem dX2_go_141 : decode cX2_go 141 = .ok (.iconst 1, 1) := by decide +kernel
theorem dX2_go_142 : decode cX2_go 142 = .ok (.ireturn, 1) := by decide +kernel
theorem dX2_seen_0 : decode cX2_seen 0 = .ok (.iload_n 1, 1) := by decide +kernel
theorem dX2_seen_1 : decode cX2_seen 1 = .ok (.ifCond .ne 9, 3) := by decide +kernel
theorem dX2_seen_4 : decode cX2_seen 4 = .ok (.aload_n 0, 1) := by decide +kernel
theorem dX2_seen_5 : decode cX2_seen 5 = .ok (.getfield 128, 3) := by decide +kernel
theorem dX2_seen_8 : decode cX2_seen 8 = .ok (.i2l, 1) := by decide +kernel
theorem dX2_seen_9 : decode cX2_seen 9 = .ok (.lreturn, 1) := by decide +kernel
theorem dX2_seen_10 : decode cX2_seen 10 = .ok (.iload_n 1, 1) := by decide +kernel
theorem dX2_seen_11 : decode cX2_seen 11 = .ok (.iconst 1, 1) := by decide +kernel
theorem dX2_seen_12 : decode cX2_seen 12 = .ok (.if_icmp .ne 10, 3) := by decide +kernel
theorem dX2_seen_15 : decode cX2_seen 15 = .ok (.aload_n 0, 1) := by decide +kernel
theorem dX2_seen_16 : decode cX2_seen 16 = .ok (.getfield 131, 3) := by decide +kernel
theorem dX2_seen_19 : decode cX2_seen 19 = .ok (.goto 6, 3) := by decide +kernel
theorem dX2_seen_22 : decode cX2_seen 22 = .ok (.ldc2_w 135, 3) := by decide +kernel
theorem dX2_seen_25 : decode cX2_seen 25 = .ok (.lreturn, 1) := by decide +kernel
set_option maxRecDepth 20000 in
theorem ggX2_bend_X2_isThere : GoodIn wsX2_bend wsX2_isThere := goodIn_r _ [7, 1, 2, 8, 9, 6, 10, 18, 19, 20, 21, 22, 23, 24, 25, 26, 27, 28, 29, 30] (by decide +kernel) (by decide +kernel)
set_option maxRecDepth 20000 in
theorem gX2_bend_X2_isThere : GoodIn wsX2_bend (wsV RX2 62 RX2 yX2_isThere wsX2_isThere) := goodIn_app (goodIn_of _ (by decide +kernel)) ggX2_bend_X2_isThere
set_option maxRecDepth 20000 in
theorem ggX2_bend_X1_steepness : GoodIn wsX2_bend wsX1_steepness := goodIn_r _ [15, 16, 17, 26, 27, 28, 29, 30] (by decide +kernel) (by decide +kernel)
set_option maxRecDepth 20000 in
theorem gX2_bend_X1_steepness : GoodIn wsX2_bend (wsV RX2 137 RX1 yX1_steepness wsX1_steepness) := goodIn_app (goodIn_of _ (by decide +kernel)) ggX2_bend_X1_steepness
theorem dX2_bend_0 : decode cX2_bend 0 = .ok (.aload_n 0, 1) := by decide +kernel
theorem dX2_bend_1 : decode cX2_bend 1 = .ok (.iload_n 1, 1) := by decide +kernel
theorem dX2_bend_2 : decode cX2_bend 2 = .ok (.invokevirtual 62, 3) := by decide +kernel
theorem dX2_bend_5 : decode cX2_bend 5 = .ok (.ifCond .eq 20, 3) := by decide +kernel
theorem dX2_bend_8 : decode cX2_bend 8 = .ok (.iload_n 2, 1) := by decide +kernel
theorem dX2_bend_9 : decode cX2_bend 9 = .ok (.ifCond .lt 16, 3) := by decide +kernel
theorem dX2_bend_12 : decode cX2_bend 12 = .ok (.iload_n 2, 1) := by decide +kernel
theorem dX2_bend_13 : decode cX2_bend 13 = .ok (.aload_n 0, 1) := by decide +kernel
theorem dX2_bend_14 : decode cX2_bend 14 = .ok (.getfield 11, 3) := by decide +kernel
theorem dX2_bend_17 : decode cX2_bend 17 = .ok (.iload_n 1, 1) := by decide +kernel
theorem dX2_bend_18 : decode cX2_bend 18 = .ok (.aaload, 1) := by decide +kernel
theorem dX2_bend_19 : decode cX2_bend 19 = .ok (.getfield 35, 3) := by decide +kernel
theorem dX2_bend_22 : decode cX2_bend 22 = .ok (.if_icmp .lt 7, 3) := by decide +kernel
theorem dX2_bend_25 : decode cX2_bend 25 = .ok (.sipush (-1000), 3) := by decide +kernel
theorem dX2_bend_28 : decode cX2_bend 28 = .ok (.ireturn, 1) := by decide +kernel
theorem dX2_bend_29 : decode cX2_bend 29 = .ok (.aload_n 0, 1) := by decide +kernel
theorem dX2_bend_30 : decode cX2_bend 30 = .ok (.getfield 11, 3) := by decide +kernel
theorem dX2_bend_33 : decode cX2_bend 33 = .ok (.iload_n 1, 1) := by decide +kernel
theorem dX2_bend_34 : decode cX2_bend 34 = .ok (.aaload, 1) := by decide +kernel
theorem dX2_bend_35 : decode cX2_bend 35 = .ok (.iload_n 2, 1) := by decide +kernel
theorem dX2_bend_36 : decode cX2_bend 36 = .ok (.invokevirtual 137, 3) := by decide +kernel
theorem dX2_bend_39 : decode cX2_bend 39 = .ok (.istore_n 3, 1) := by decide +kernel
theorem dX2_bend_40 : decode cX2_bend 40 = .ok (.iload_n 2, 1) := by decide +kernel
theorem dX2_bend_41 : decode cX2_bend 41 = .ok (.ifCond .ne 7, 3) := by decide +kernel
theorem dX2_bend_44 : decode cX2_bend 44 = .ok (.iload_n 3, 1) := by decide +kernel
theorem dX2_bend_45 : decode cX2_bend 45 = .ok (.goto 17, 3) := by decide +kernel
theorem dX2_bend_48 : decode cX2_bend 48 = .ok (.iload_n 3, 1) := by decide +kernel
theorem dX2_bend_49 : decode cX2_bend 49 = .ok (.aload_n 0, 1) := by decide +kernel
theorem dX2_bend_50 : decode cX2_bend 50 = .ok (.getfield 11, 3) := by decide +kernel
theorem dX2_bend_53 : decode cX2_bend 53 = .ok (.iload_n 1, 1) := by decide +kernel
theorem dX2_bend_54 : decode cX2_bend 54 = .ok (.aaload, 1) := by decide +kernel
theorem dX2_bend_55 : decode cX2_bend 55 = .ok (.iload_n 2, 1) := by decide +kernel
theorem dX2_bend_56 : decode cX2_bend 56 = .ok (.iconst 1, 1) := by decide +kernel
theorem dX2_bend_57 : decode cX2_bend 57 = .ok (.isub, 1) := by decide +kernel
theorem dX2_bend_58 : decode cX2_bend 58 = .ok (.invokevirtual 137, 3) := by decide +kernel
theorem dX2_bend_61 : decode cX2_bend 61 = .ok (.isub, 1) := by decide +kernel
theorem dX2_bend_62 : decode cX2_bend 62 = .ok (.ireturn, 1) := by decide +kernel
set_option maxRecDepth 20000 in
theorem ggX2_still_X2_isThere : GoodIn wsX2_still wsX2_isThere := goodIn_r _ [11, 1, 2, 12, 13, 10, 14, 15, 16, 17, 18, 19, 20, 21, 22, 23, 24, 25, 26, 27] (by decide +kernel) (by decide +kernel)
set_option maxRecDepth 20000 in
theorem gX2_still_X2_isThere : GoodIn wsX2_still (wsV RX2 62 RX2 yX2_isThere wsX2_isThere) := goodIn_app (goodIn_of _ (by decide +kernel)) ggX2_still_X2_isThere
theorem dX2_still_0 : decode cX2_still 0 = .ok (.aload_n 0, 1) := by decide +kernel
theorem dX2_still_1 : decode cX2_still 1 = .ok (.iload_n 1, 1) := by decide +kernel
theorem dX2_still_2 : decode cX2_still 2 = .ok (.invokevirtual 62, 3) := by decide +kernel
theorem dX2_still_5 : decode cX2_still 5 = .ok (.ifCond .ne 6, 3) := by decide +kernel
theorem dX2_still_8 : decode cX2_still 8 = .ok (.bipush (-101), 2) := by decide +kernel
theorem dX2_still_10 : decode cX2_still 10 = .ok (.ireturn, 1) := by decide +kernel
theorem dX2_still_11 : decode cX2_still 11 = .ok (.aload_n 0, 1) := by decide +kernel
theorem dX2_still_12 : decode cX2_still 12 = .ok (.getfield 11, 3) := by decide +kernel
theorem dX2_still_15 : decode cX2_still 15 = .ok (.iload_n 1, 1) := by decide +kernel
theorem dX2_still_16 : decode cX2_still 16 = .ok (.aaload, 1) := by decide +kernel
theorem dX2_still_17 : decode cX2_still 17 = .ok (.astore_n 2, 1) := by decide +kernel
theorem dX2_still_18 : decode cX2_still 18 = .ok (.iconst 0, 1) := by decide +kernel
theorem dX2_still_19 : decode cX2_still 19 = .ok (.istore_n 3, 1) := by decide +kernel
theorem dX2_still_20 : decode cX2_still 20 = .ok (.iconst 0, 1) := by decide +kernel
theorem dX2_still_21 : decode cX2_still 21 = .ok (.istore 4, 2) := by decide +kernel
theorem dX2_still_23 : decode cX2_still 23 = .ok (.iload 4, 2) := by decide +kernel
theorem dX2_still_25 : decode cX2_still 25 = .ok (.aload_n 2, 1) := by decide +kernel
theorem dX2_still_26 : decode cX2_still 26 = .ok (.getfield 35, 3) := by decide +kernel
theorem dX2_still_29 : decode cX2_still 29 = .ok (.if_icmp .ge 47, 3) := by decide +kernel
theorem dX2_still_32 : decode cX2_still 32 = .ok (.aload_n 2, 1) := by decide +kernel
theorem dX2_still_33 : decode cX2_still 33 = .ok (.getfield 111, 3) := by decide +kernel
theorem dX2_still_36 : decode cX2_still 36 = .ok (.iload 4, 2) := by decide +kernel
theorem dX2_still_38 : decode cX2_still 38 = .ok (.iaload, 1) := by decide +kernel
theorem dX2_still_39 : decode cX2_still 39 = .ok (.aload_n 2, 1) := by decide +kernel
theorem dX2_still_40 : decode cX2_still 40 = .ok (.getfield 114, 3) := by decide +kernel
theorem dX2_still_43 : decode cX2_still 43 = .ok (.iload 4, 2) := by decide +kernel
theorem dX2_still_45 : decode cX2_still 45 = .ok (.iaload, 1) := by decide +kernel
theorem dX2_still_46 : decode cX2_still 46 = .ok (.if_icmp .ne 24, 3) := by decide +kernel
theorem dX2_still_49 : decode cX2_still 49 = .ok (.aload_n 2, 1) := by decide +kernel
theorem dX2_still_50 : decode cX2_still 50 = .ok (.getfield 117, 3) := by decide +kernel
theorem dX2_still_53 : decode cX2_still 53 = .ok (.iload 4, 2) := by decide +kernel
theorem dX2_still_55 : decode cX2_still 55 = .ok (.laload, 1) := by decide +kernel
theorem dX2_still_56 : decode cX2_still 56 = .ok (.aload_n 2, 1) := by decide +kernel
theorem dX2_still_57 : decode cX2_still 57 = .ok (.getfield 121, 3) := by decide +kernel
theorem dX2_still_60 : decode cX2_still 60 = .ok (.iload 4, 2) := by decide +kernel
theorem dX2_still_62 : decode cX2_still 62 = .ok (.laload, 1) := by decide +kernel
theorem dX2_still_63 : decode cX2_still 63 = .ok (.lcmp, 1) := by decide +kernel
theorem dX2_still_64 : decode cX2_still 64 = .ok (.ifCond .ne 6, 3) := by decide +kernel
theorem dX2_still_67 : decode cX2_still 67 = .ok (.iinc 3 1, 3) := by decide +kernel
theorem dX2_still_70 : decode cX2_still 70 = .ok (.iinc 4 1, 3) := by decide +kernel
theorem dX2_still_73 : decode cX2_still 73 = .ok (.goto (-50), 3) := by decide +kernel
theorem dX2_still_76 : decode cX2_still 76 = .ok (.iload_n 3, 1) := by decide +kernel
theorem dX2_still_77 : decode cX2_still 77 = .ok (.ireturn, 1) := by decide +kernel
set_option maxRecDepth 20000 in
theorem ggX2_single_X2_isThere : GoodIn wsX2_single wsX2_isThere := goodIn_r _ [7, 1, 2, 8, 9, 6, 10, 28, 29, 30, 31, 32, 33, 34, 35, 36, 37, 38, 39, 40] (by decide +kernel) (by decide +kernel)
set_option maxRecDepth 20000 in
theorem gX2_single_X2_isThere : GoodIn wsX2_single (wsV RX2 62 RX2 yX2_isThere wsX2_isThere) := goodIn_app (goodIn_of _ (by decide +kernel)) ggX2_single_X2_isThere
set_option maxRecDepth 20000 in
theorem ggX2_single_X2_hasSingle : GoodIn wsX2_single wsX2_hasSingle := goodIn_r _ [13, 14, 15, 16, 17, 18, 6, 19, 20, 21, 22, 23, 24, 25, 26, 27, 36, 37, 38, 39, 40] (by decide +kernel) (by decide +kernel)
set_option maxRecDepth 20000 in
theorem gX2_single_X2_hasSingle : GoodIn wsX2_single (va_wsS RX2 141 yX2_hasSingle wsX2_hasSingle) := goodIn_app (goodIn_of _ (by decide +kernel)) ggX2_single_X2_hasSingle
theorem dX2_single_0 : decode cX2_single 0 = .ok (.aload_n 0, 1) := by decide +kernel
theorem dX2_single_1 : decode cX2_single 1 = .ok (.iload_n 1, 1) := by decide +kernel
theorem dX2_single_2 : decode cX2_single 2 = .ok (.invokevirtual 62, 3) := by decide +kernel
theorem dX2_single_5 : decode cX2_single 5 = .ok (.ifCond .ne 6, 3) := by decide +kernel
theorem dX2_single_8 : decode cX2_single 8 = .ok (.bipush (-101), 2) := by decide +kernel
theorem dX2_single_10 : decode cX2_single 10 = .ok (.ireturn, 1) := by decide +kernel
theorem dX2_single_11 : decode cX2_single 11 = .ok (.iconst 0, 1) := by decide +kernel
theorem dX2_single_12 : decode cX2_single 12 = .ok (.istore_n 2, 1) := by decide +kernel
theorem dX2_single_13 : decode cX2_single 13 = .ok (.iconst 0, 1) := by decide +kernel
theorem dX2_single_14 : decode cX2_single 14 = .ok (.istore_n 3, 1) := by decide +kernel
theorem dX2_single_15 : decode cX2_single 15 = .ok (.iload_n 3, 1) := by decide +kernel
theorem dX2_single_16 : decode cX2_single 16 = .ok (.aload_n 0, 1) := by decide +kernel
theorem dX2_single_17 : decode cX2_single 17 = .ok (.getfield 11, 3) := by decide +kernel
theorem dX2_single_20 : decode cX2_single 20 = .ok (.iload_n 1, 1) := by decide +kernel
theorem dX2_single_21 : decode cX2_single 21 = .ok (.aaload, 1) := by decide +kernel
theorem dX2_single_22 : decode cX2_single 22 = .ok (.getfield 35, 3) := by decide +kernel
theorem dX2_single_25 : decode cX2_single 25 = .ok (.if_icmp .ge 25, 3) := by decide +kernel
theorem dX2_single_28 : decode cX2_single 28 = .ok (.aload_n 0, 1) := by decide +kernel
theorem dX2_single_29 : decode cX2_single 29 = .ok (.getfield 11, 3) := by decide +kernel
theorem dX2_single_32 : decode cX2_single 32 = .ok (.iload_n 1, 1) := by decide +kernel
theorem dX2_single_33 : decode cX2_single 33 = .ok (.aaload, 1) := by decide +kernel
theorem dX2_single_34 : decode cX2_single 34 = .ok (.iload_n 3, 1) := by decide +kernel
theorem dX2_single_35 : decode cX2_single 35 = .ok (.invokestatic 141, 3) := by decide +kernel
theorem dX2_single_38 : decode cX2_single 38 = .ok (.ifCond .eq 6, 3) := by decide +kernel
theorem dX2_single_41 : decode cX2_single 41 = .ok (.iinc 2 1, 3) := by decide +kernel
theorem dX2_single_44 : decode cX2_single 44 = .ok (.iinc 3 1, 3) := by decide +kernel
theorem dX2_single_47 : decode cX2_single 47 = .ok (.goto (-32), 3) := by decide +kernel
theorem dX2_single_50 : decode cX2_single 50 = .ok (.iload_n 2, 1) := by decide +kernel
theorem dX2_single_51 : decode cX2_single 51 = .ok (.ireturn, 1) := by decide +kernel
set_option maxRecDepth 20000 in
theorem ggX2_point_X2_isThere : GoodIn wsX2_point wsX2_isThere := goodIn_r _ [10, 3, 4, 11, 12, 9, 13, 37, 38, 39, 40, 41, 42, 43, 44, 45, 46, 47, 48, 49] (by decide +kernel) (by decide +kernel)
set_option maxRecDepth 20000 in
theorem gX2_point_X2_isThere : GoodIn wsX2_point (wsV RX2 62 RX2 yX2_isThere wsX2_isThere) := goodIn_app (goodIn_of _ (by decide +kernel)) ggX2_point_X2_isThere
set_option maxRecDepth 20000 in
theorem ggX2_point_X2_hasSingle : GoodIn wsX2_point wsX2_hasSingle := goodIn_r _ [16, 17, 18, 19, 20, 21, 9, 22, 23, 24, 25, 26, 27, 28, 29, 30, 45, 46, 47, 48, 49] (by decide +kernel) (by decide +kernel)
set_option maxRecDepth 20000 in
theorem gX2_point_X2_hasSingle : GoodIn wsX2_point (va_wsS RX2 141 yX2_hasSingle wsX2_hasSingle) := goodIn_app (goodIn_of _ (by decide +kernel)) ggX2_point_X2_hasSingle
set_option maxRecDepth 20000 in
theorem ggX2_point_X2_partOfSingle : GoodIn wsX2_point wsX2_partOfSingle := goodIn_r _ [33, 5, 20, 21, 9, 22, 23, 18, 19, 17, 24, 25, 26, 27, 28, 29, 30, 34, 35, 36, 45, 46, 47, 48, 49] (by decide +kernel) (by decide +kernel)
set_option maxRecDepth 20000 in
theorem gX2_point_X2_partOfSingle : GoodIn wsX2_point (va_wsS RX2 146 yX2_partOfSingle wsX2_partOfSingle) := goodIn_app (goodIn_of _ (by decide +kernel)) ggX2_point_X2_partOfSingle
theorem dX2_point_0 : decode cX2_point 0 = .ok (.aload_n 0, 1) := by decide +kernel
theorem dX2_point_1 : decode cX2_point 1 = .ok (.iload_n 1, 1) := by decide +kernel
theorem dX2_point_2 : decode cX2_point 2 = .ok (.invokevirtual 62, 3) := by decide +kernel
theorem dX2_point_5 : decode cX2_point 5 = .ok (.ifCond .ne 7, 3) := by decide +kernel
theorem dX2_point_8 : decode cX2_point 8 = .ok (.ldc2_w 144, 3) := by decide +kernel
theorem dX2_point_11 : decode cX2_point 11 = .ok (.lreturn, 1) := by decide +kernel
theorem dX2_point_12 : decode cX2_point 12 = .ok (.iload_n 3, 1) := by decide +kernel
theorem dX2_point_13 : decode cX2_point 13 = .ok (.ifCond .lt 8, 3) := by decide +kernel
theorem dX2_point_16 : decode cX2_point 16 = .ok (.iload_n 3, 1) := by decide +kernel
theorem dX2_point_17 : decode cX2_point 17 = .ok (.iconst 1, 1) := by decide +kernel
theorem dX2_point_18 : decode cX2_point 18 = .ok (.if_icmp .le 7, 3) := by decide +kernel
theorem dX2_point_21 : decode cX2_point 21 = .ok (.ldc2_w 135, 3) := by decide +kernel
theorem dX2_point_24 : decode cX2_point 24 = .ok (.lreturn, 1) := by decide +kernel
theorem dX2_point_25 : decode cX2_point 25 = .ok (.iconst 0, 1) := by decide +kernel
theorem dX2_point_26 : decode cX2_point 26 = .ok (.istore 4, 2) := by decide +kernel
theorem dX2_point_28 : decode cX2_point 28 = .ok (.iconst 0, 1) := by decide +kernel
theorem dX2_point_29 : decode cX2_point 29 = .ok (.istore 5, 2) := by decide +kernel
theorem dX2_point_31 : decode cX2_point 31 = .ok (.iload 5, 2) := by decide +kernel
theorem dX2_point_33 : decode cX2_point 33 = .ok (.aload_n 0, 1) := by decide +kernel
theorem dX2_point_34 : decode cX2_point 34 = .ok (.getfield 11, 3) := by decide +kernel
theorem dX2_point_37 : decode cX2_point 37 = .ok (.iload_n 1, 1) := by decide +kernel
theorem dX2_point_38 : decode cX2_point 38 = .ok (.aaload, 1) := by decide +kernel
theorem dX2_point_39 : decode cX2_point 39 = .ok (.getfield 35, 3) := by decide +kernel
theorem dX2_point_42 : decode cX2_point 42 = .ok (.if_icmp .ge 45, 3) := by decide +kernel
theorem dX2_point_45 : decode cX2_point 45 = .ok (.aload_n 0, 1) := by decide +kernel
theorem dX2_point_46 : decode cX2_point 46 = .ok (.getfield 11, 3) := by decide +kernel
theorem dX2_point_49 : decode cX2_point 49 = .ok (.iload_n 1, 1) := by decide +kernel
theorem dX2_point_50 : decode cX2_point 50 = .ok (.aaload, 1) := by decide +kernel
theorem dX2_point_51 : decode cX2_point 51 = .ok (.iload 5, 2) := by decide +kernel
theorem dX2_point_53 : decode cX2_point 53 = .ok (.invokestatic 141, 3) := by decide +kernel
theorem dX2_point_56 : decode cX2_point 56 = .ok (.ifCond .eq 25, 3) := by decide +kernel
theorem dX2_point_59 : decode cX2_point 59 = .ok (.iload 4, 2) := by decide +kernel
theorem dX2_point_61 : decode cX2_point 61 = .ok (.iload_n 2, 1) := by decide +kernel
theorem dX2_point_62 : decode cX2_point 62 = .ok (.if_icmp .ne 16, 3) := by decide +kernel
theorem dX2_point_65 : decode cX2_point 65 = .ok (.aload_n 0, 1) := by decide +kernel
theorem dX2_point_66 : decode cX2_point 66 = .ok (.getfield 11, 3) := by decide +kernel
theorem dX2_point_69 : decode cX2_point 69 = .ok (.iload_n 1, 1) := by decide +kernel
theorem dX2_point_70 : decode cX2_point 70 = .ok (.aaload, 1) := by decide +kernel
theorem dX2_point_71 : decode cX2_point 71 = .ok (.iload 5, 2) := by decide +kernel
theorem dX2_point_73 : decode cX2_point 73 = .ok (.iload_n 3, 1) := by decide +kernel
theorem dX2_point_74 : decode cX2_point 74 = .ok (.invokestatic 146, 3) := by decide +kernel
theorem dX2_point_77 : decode cX2_point 77 = .ok (.lreturn, 1) := by decide +kernel
theorem dX2_point_78 : decode cX2_point 78 = .ok (.iinc 4 1, 3) := by decide +kernel
theorem dX2_point_81 : decode cX2_point 81 = .ok (.iinc 5 1, 3) := by decide +kernel
theorem dX2_point_84 : decode cX2_point 84 = .ok (.goto (-53), 3) := by decide +kernel
theorem dX2_point_87 : decode cX2_point 87 = .ok (.ldc2_w 150, 3) := by decide +kernel
theorem dX2_point_90 : decode cX2_point 90 = .ok (.lreturn, 1) := by decide +kernel
set_option maxRecDepth 20000 in
theorem ggX2_count_X2_mapsOfKind : GoodIn wsX2_count wsX2_mapsOfKind := goodIn_r _ [7, 8, 9, 10, 11, 6, 12, 2, 13, 14, 15, 16, 17, 18, 19, 20, 21, 22, 23, 24, 25, 26, 27, 28, 29, 30, 31, 32, 33, 34, 35, 36, 37, 38, 39, 40, 41, 42, 43, 44, 45] (by decide +kernel) (by decide +kernel)
set_option maxRecDepth 20000 in
theorem gX2_count_X2_mapsOfKind : GoodIn wsX2_count (wsV RX2 152 RX2 yX2_mapsOfKind wsX2_mapsOfKind) := goodIn_app (goodIn_of _ (by decide +kernel)) ggX2_count_X2_mapsOfKind
theorem dX2_count_0 : decode cX2_count 0 = .ok (.iload_n 1, 1) := by decide +kernel
theorem dX2_count_1 : decode cX2_count 1 = .ok (.tableswitch 79 0 4 #[35, 53, 61, 67, 73], 35) := by decide +kernel
theorem dX2_count_36 : decode cX2_count 36 = .ok (.aload_n 0, 1) := by decide +kernel
theorem dX2_count_37 : decode cX2_count 37 = .ok (.iconst 0, 1) := by decide +kernel
theorem dX2_count_38 : decode cX2_count 38 = .ok (.invokevirtual 152, 3) := by decide +kernel
theorem dX2_count_41 : decode cX2_count 41 = .ok (.aload_n 0, 1) := by decide +kernel
theorem dX2_count_42 : decode cX2_count 42 = .ok (.iconst 1, 1) := by decide +kernel
theorem dX2_count_43 : decode cX2_count 43 = .ok (.invokevirtual 152, 3) := by decide +kernel
theorem dX2_count_46 : decode cX2_count 46 = .ok (.iadd, 1) := by decide +kernel
theorem dX2_count_47 : decode cX2_count 47 = .ok (.aload_n 0, 1) := by decide +kernel
theorem dX2_count_48 : decode cX2_count 48 = .ok (.iconst 2, 1) := by decide +kernel
theorem dX2_count_49 : decode cX2_count 49 = .ok (.invokevirtual 152, 3) := by decide +kernel
theorem dX2_count_52 : decode cX2_count 52 = .ok (.iadd, 1) := by decide +kernel
theorem dX2_count_53 : decode cX2_count 53 = .ok (.ireturn, 1) := by decide +kernel
theorem dX2_count_54 : decode cX2_count 54 = .ok (.aload_n 0, 1) := by decide +kernel
theorem dX2_count_55 : decode cX2_count 55 = .ok (.getfield 18, 3) := by decide +kernel
theorem dX2_count_58 : decode cX2_count 58 = .ok (.getfield 35, 3) := by decide +kernel
theorem dX2_count_61 : decode cX2_count 61 = .ok (.ireturn, 1) := by decide +kernel
theorem dX2_count_62 : decode cX2_count 62 = .ok (.aload_n 0, 1) := by decide +kernel
theorem dX2_count_63 : decode cX2_count 63 = .ok (.iconst 0, 1) := by decide +kernel
theorem dX2_count_64 : decode cX2_count 64 = .ok (.invokevirtual 152, 3) := by decide +kernel
theorem dX2_count_67 : decode cX2_count 67 = .ok (.ireturn, 1) := by decide +kernel
theorem dX2_count_68 : decode cX2_count 68 = .ok (.aload_n 0, 1) := by decide +kernel
theorem dX2_count_69 : decode cX2_count 69 = .ok (.iconst 1, 1) := by decide +kernel
theorem dX2_count_70 : decode cX2_count 70 = .ok (.invokevirtual 152, 3) := by decide +kernel
theorem dX2_count_73 : decode cX2_count 73 = .ok (.ireturn, 1) := by decide +kernel
theorem dX2_count_74 : decode cX2_count 74 = .ok (.aload_n 0, 1) := by decide +kernel
theorem dX2_count_75 : decode cX2_count 75 = .ok (.iconst 2, 1) := by decide +kernel
theorem dX2_count_76 : decode cX2_count 76 = .ok (.invokevirtual 152, 3) := by decide +kernel
theorem dX2_count_79 : decode cX2_count 79 = .ok (.ireturn, 1) := by decide +kernel
theorem dX2_count_80 : decode cX2_count 80 = .ok (.bipush (-102), 2) := by decide +kernel
theorem dX2_count_82 : decode cX2_count 82 = .ok (.ireturn, 1) := by decide +kernel
set_option maxRecDepth 20000 in
theorem ggX2_digest_X2_isThere : GoodIn wsX2_digest wsX2_isThere := goodIn_r _ [12, 3, 4, 13, 14, 11, 15, 28, 29, 30, 31, 32, 33, 34, 35, 36, 37, 38, 39, 40] (by decide +kernel) (by decide +kernel)
set_option maxRecDepth 20000 in
theorem gX2_digest_X2_isThere : GoodIn wsX2_digest (wsV RX2 62 RX2 yX2_isThere wsX2_isThere) := goodIn_app (goodIn_of _ (by decide +kernel)) ggX2_digest_X2_isThere
set_option maxRecDepth 20000 in
theorem ggX2_digest_X2_mixedIn : GoodIn wsX2_digest wsX2_mixedIn := goodIn_r _ [18, 4, 2, 19, 20, 21, 22, 23, 24, 25, 26, 27, 36, 37, 38, 39, 40] (by decide +kernel) (by decide +kernel)
set_option maxRecDepth 20000 in
theorem gX2_digest_X2_mixedIn : GoodIn wsX2_digest (va_wsS RX2 159 yX2_mixedIn wsX2_mixedIn) := goodIn_app (goodIn_of _ (by decide +kernel)) ggX2_digest_X2_mixedIn
theorem dX2_digest_0 : decode cX2_digest 0 = .ok (.ldc2_w 155, 3) := by decide +kernel
theorem dX2_digest_3 : decode cX2_digest 3 = .ok (.lstore_n 1, 1) := by decide +kernel
theorem dX2_digest_4 : decode cX2_digest 4 = .ok (.iconst 0, 1) := by decide +kernel
theorem dX2_digest_5 : decode cX2_digest 5 = .ok (.istore_n 3, 1) := by decide +kernel
theorem dX2_digest_6 : decode cX2_digest 6 = .ok (.iload_n 3, 1) := by decide +kernel
theorem dX2_digest_7 : decode cX2_digest 7 = .ok (.bipush 12, 2) := by decide +kernel
theorem dX2_digest_9 : decode cX2_digest 9 = .ok (.if_icmp .ge 49, 3) := by decide +kernel
theorem dX2_digest_12 : decode cX2_digest 12 = .ok (.ldc2_w 157, 3) := by decide +kernel
theorem dX2_digest_15 : decode cX2_digest 15 = .ok (.lload_n 1, 1) := by decide +kernel
theorem dX2_digest_16 : decode cX2_digest 16 = .ok (.lmul, 1) := by decide +kernel
theorem dX2_digest_17 : decode cX2_digest 17 = .ok (.aload_n 0, 1) := by decide +kernel
theorem dX2_digest_18 : decode cX2_digest 18 = .ok (.iload_n 3, 1) := by decide +kernel
theorem dX2_digest_19 : decode cX2_digest 19 = .ok (.invokevirtual 62, 3) := by decide +kernel
theorem dX2_digest_22 : decode cX2_digest 22 = .ok (.ifCond .eq 15, 3) := by decide +kernel
theorem dX2_digest_25 : decode cX2_digest 25 = .ok (.aload_n 0, 1) := by decide +kernel
theorem dX2_digest_26 : decode cX2_digest 26 = .ok (.getfield 11, 3) := by decide +kernel
theorem dX2_digest_29 : decode cX2_digest 29 = .ok (.iload_n 3, 1) := by decide +kernel
theorem dX2_digest_30 : decode cX2_digest 30 = .ok (.aaload, 1) := by decide +kernel
theorem dX2_digest_31 : decode cX2_digest 31 = .ok (.getfield 35, 3) := by decide +kernel
theorem dX2_digest_34 : decode cX2_digest 34 = .ok (.goto 4, 3) := by decide +kernel
theorem dX2_digest_37 : decode cX2_digest 37 = .ok (.iconst (-1), 1) := by decide +kernel
theorem dX2_digest_38 : decode cX2_digest 38 = .ok (.i2l, 1) := by decide +kernel
theorem dX2_digest_39 : decode cX2_digest 39 = .ok (.ladd, 1) := by decide +kernel
theorem dX2_digest_40 : decode cX2_digest 40 = .ok (.lstore_n 1, 1) := by decide +kernel
theorem dX2_digest_41 : decode cX2_digest 41 = .ok (.lload_n 1, 1) := by decide +kernel
theorem dX2_digest_42 : decode cX2_digest 42 = .ok (.aload_n 0, 1) := by decide +kernel
theorem dX2_digest_43 : decode cX2_digest 43 = .ok (.getfield 11, 3) := by decide +kernel
theorem dX2_digest_46 : decode cX2_digest 46 = .ok (.iload_n 3, 1) := by decide +kernel
theorem dX2_digest_47 : decode cX2_digest 47 = .ok (.aaload, 1) := by decide +kernel
theorem dX2_digest_48 : decode cX2_digest 48 = .ok (.invokestatic 159, 3) := by decide +kernel
theorem dX2_digest_51 : decode cX2_digest 51 = .ok (.lstore_n 1, 1) := by decide +kernel
theorem dX2_digest_52 : decode cX2_digest 52 = .ok (.iinc 3 1, 3) := by decide +kernel
theorem dX2_digest_55 : decode cX2_digest 55 = .ok (.goto (-49), 3) := by decide +kernel
theorem dX2_digest_58 : decode cX2_digest 58 = .ok (.lload_n 1, 1) := by decide +kernel
theorem dX2_digest_59 : decode cX2_digest 59 = .ok (.aload_n 0, 1) := by decide +kernel
theorem dX2_digest_60 : decode cX2_digest 60 = .ok (.getfield 18, 3) := by decide +kernel
theorem dX2_digest_63 : decode cX2_digest 63 = .ok (.invokestatic 159, 3) := by decide +kernel
theorem dX2_digest_66 : decode cX2_digest 66 = .ok (.lstore_n 1, 1) := by decide +kernel
theorem dX2_digest_67 : decode cX2_digest 67 = .ok (.ldc2_w 157, 3) := by decide +kernel
theorem dX2_digest_70 : decode cX2_digest 70 = .ok (.lload_n 1, 1) := by decide +kernel
theorem dX2_digest_71 : decode cX2_digest 71 = .ok (.lmul, 1) := by decide +kernel
theorem dX2_digest_72 : decode cX2_digest 72 = .ok (.aload_n 0, 1) := by decide +kernel
theorem dX2_digest_73 : decode cX2_digest 73 = .ok (.getfield 128, 3) := by decide +kernel
theorem dX2_digest_76 : decode cX2_digest 76 = .ok (.i2l, 1) := by decide +kernel
theorem dX2_digest_77 : decode cX2_digest 77 = .ok (.ladd, 1) := by decide +kernel
theorem dX2_digest_78 : decode cX2_digest 78 = .ok (.lstore_n 1, 1) := by decide +kernel
theorem dX2_digest_79 : decode cX2_digest 79 = .ok (.ldc2_w 157, 3) := by decide +kernel
theorem dX2_digest_82 : decode cX2_digest 82 = .ok (.lload_n 1, 1) := by decide +kernel
theorem dX2_digest_83 : decode cX2_digest 83 = .ok (.lmul, 1) := by decide +kernel
theorem dX2_digest_84 : decode cX2_digest 84 = .ok (.aload_n 0, 1) := by decide +kernel
theorem dX2_digest_85 : decode cX2_digest 85 = .ok (.getfield 131, 3) := by decide +kernel
theorem dX2_digest_88 : decode cX2_digest 88 = .ok (.ladd, 1) := by decide +kernel
theorem dX2_digest_89 : decode cX2_digest 89 = .ok (.lreturn, 1) := by decide +kernel
set_option maxRecDepth 20000 in
theorem ggX2_mixedIn_X1_told : GoodIn wsX2_mixedIn wsX1_told := goodIn_r _ [7, 8, 9, 10, 11, 12, 13, 14, 15, 16] (by decide +kernel) (by decide +kernel)
set_option maxRecDepth 20000 in
theorem gX2_mixedIn_X1_told : GoodIn wsX2_mixedIn (wsV RX2 80 RX1 yX1_told wsX1_told) := goodIn_app (goodIn_of _ (by decide +kernel)) ggX2_mixedIn_X1_told
theorem dX2_mixedIn_0 : decode cX2_mixedIn 0 = .ok (.lload_n 0, 1) := by decide +kernel
theorem dX2_mixedIn_1 : decode cX2_mixedIn 1 = .ok (.lstore_n 3, 1) := by decide +kernel
theorem dX2_mixedIn_2 : decode cX2_mixedIn 2 = .ok (.iconst 0, 1) := by decide +kernel
theorem dX2_mixedIn_3 : decode cX2_mixedIn 3 = .ok (.istore 5, 2) := by decide +kernel
theorem dX2_mixedIn_5 : decode cX2_mixedIn 5 = .ok (.iload 5, 2) := by decide +kernel
theorem dX2_mixedIn_7 : decode cX2_mixedIn 7 = .ok (.aload_n 2, 1) := by decide +kernel
theorem dX2_mixedIn_8 : decode cX2_mixedIn 8 = .ok (.getfield 35, 3) := by decide +kernel
theorem dX2_mixedIn_11 : decode cX2_mixedIn 11 = .ok (.if_icmp .ge 39, 3) := by decide +kernel
theorem dX2_mixedIn_14 : decode cX2_mixedIn 14 = .ok (.iconst 0, 1) := by decide +kernel
theorem dX2_mixedIn_15 : decode cX2_mixedIn 15 = .ok (.istore 6, 2) := by decide +kernel
theorem dX2_mixedIn_17 : decode cX2_mixedIn 17 = .ok (.iload 6, 2) := by decide +kernel
theorem dX2_mixedIn_19 : decode cX2_mixedIn 19 = .ok (.iconst 4, 1) := by decide +kernel
theorem dX2_mixedIn_20 : decode cX2_mixedIn 20 = .ok (.if_icmp .ge 24, 3) := by decide +kernel
theorem dX2_mixedIn_23 : decode cX2_mixedIn 23 = .ok (.ldc2_w 157, 3) := by decide +kernel
theorem dX2_mixedIn_26 : decode cX2_mixedIn 26 = .ok (.lload_n 3, 1) := by decide +kernel
theorem dX2_mixedIn_27 : decode cX2_mixedIn 27 = .ok (.lmul, 1) := by decide +kernel
theorem dX2_mixedIn_28 : decode cX2_mixedIn 28 = .ok (.aload_n 2, 1) := by decide +kernel
theorem dX2_mixedIn_29 : decode cX2_mixedIn 29 = .ok (.iload 5, 2) := by decide +kernel
theorem dX2_mixedIn_31 : decode cX2_mixedIn 31 = .ok (.iload 6, 2) := by decide +kernel
theorem dX2_mixedIn_33 : decode cX2_mixedIn 33 = .ok (.invokevirtual 80, 3) := by decide +kernel
theorem dX2_mixedIn_36 : decode cX2_mixedIn 36 = .ok (.ladd, 1) := by decide +kernel
theorem dX2_mixedIn_37 : decode cX2_mixedIn 37 = .ok (.lstore_n 3, 1) := by decide +kernel
theorem dX2_mixedIn_38 : decode cX2_mixedIn 38 = .ok (.iinc 6 1, 3) := by decide +kernel
theorem dX2_mixedIn_41 : decode cX2_mixedIn 41 = .ok (.goto (-24), 3) := by decide +kernel
theorem dX2_mixedIn_44 : decode cX2_mixedIn 44 = .ok (.iinc 5 1, 3) := by decide +kernel
theorem dX2_mixedIn_47 : decode cX2_mixedIn 47 = .ok (.goto (-42), 3) := by decide +kernel
theorem dX2_mixedIn_50 : decode cX2_mixedIn 50 = .ok (.lload_n 3, 1) := by decide +kernel
theorem dX2_mixedIn_51 : decode cX2_mixedIn 51 = .ok (.lreturn, 1) := by decide +kernel
theorem dX2_isLeaf_0 : decode cX2_isLeaf 0 = .ok (.iload_n 0, 1) := by decide +kernel
theorem dX2_isLeaf_1 : decode cX2_isLeaf 1 = .ok (.ifCond .lt 24, 3) := by decide +kernel
theorem dX2_isLeaf_4 : decode cX2_isLeaf 4 = .ok (.iload_n 0, 1) := by decide +kernel
theorem dX2_isLeaf_5 : decode cX2_isLeaf 5 = .ok (.bipush 23, 2) := by decide +kernel
theorem dX2_isLeaf_7 : decode cX2_isLeaf 7 = .ok (.if_icmp .gt 18, 3) := by decide +kernel
theorem dX2_isLeaf_10 : decode cX2_isLeaf 10 = .ok (.iload_n 1, 1) := by decide +kernel
theorem dX2_isLeaf_11 : decode cX2_isLeaf 11 = .ok (.ifCond .lt 14, 3) := by decide +kernel
theorem dX2_isLeaf_14 : decode cX2_isLeaf 14 = .ok (.iload_n 1, 1) := by decide +kernel
theorem dX2_isLeaf_15 : decode cX2_isLeaf 15 = .ok (.iconst 1, 1) := by decide +kernel
theorem dX2_isLeaf_16 : decode cX2_isLeaf 16 = .ok (.iload_n 0, 1) := by decide +kernel
theorem dX2_isLeaf_17 : decode cX2_isLeaf 17 = .ok (.ishl, 1) := by decide +kernel
theorem dX2_isLeaf_18 : decode cX2_isLeaf 18 = .ok (.if_icmp .ge 7, 3) := by decide +kernel
theorem dX2_isLeaf_21 : decode cX2_isLeaf 21 = .ok (.iconst 1, 1) := by decide +kernel
theorem dX2_isLeaf_22 : decode cX2_isLeaf 22 = .ok (.goto 4, 3) := by decide +kernel
theorem dX2_isLeaf_25 : decode cX2_isLeaf 25 = .ok (.iconst 0, 1) := by decide +kernel
theorem dX2_isLeaf_26 : decode cX2_isLeaf 26 = .ok (.ireturn, 1) := by decide +kernel
theorem dX2_isNumber_0 : decode cX2_isNumber 0 = .ok (.iload_n 0, 1) := by decide +kernel
theorem dX2_isNumber_1 : decode cX2_isNumber 1 = .ok (.ifCond .lt 13, 3) := by decide +kernel
theorem dX2_isNumber_4 : decode cX2_isNumber 4 = .ok (.iload_n 0, 1) := by decide +kernel
theorem dX2_isNumber_5 : decode cX2_isNumber 5 = .ok (.bipush 12, 2) := by decide +kernel
theorem dX2_isNumber_7 : decode cX2_isNumber 7 = .ok (.if_icmp .ge 7, 3) := by decide +kernel
theorem dX2_isNumber_10 : decode cX2_isNumber 10 = .ok (.iconst 1, 1) := by decide +kernel
theorem dX2_isNumber_11 : decode cX2_isNumber 11 = .ok (.goto 4, 3) := by decide +kernel
theorem dX2_isNumber_14 : decode cX2_isNumber 14 = .ok (.iconst 0, 1) := by decide +kernel
theorem dX2_isNumber_15 : decode cX2_isNumber 15 = .ok (.ireturn, 1) := by decide +kernel
set_option maxRecDepth 20000 in
theorem ggX2_isThere_X2_isNumber : GoodIn wsX2_isThere wsX2_isNumber := goodIn_r _ [6] (by decide +kernel) (by decide +kernel)
set_option maxRecDepth 20000 in
theorem gX2_isThere_X2_isNumber : GoodIn wsX2_isThere (va_wsS RX2 43 yX2_isNumber wsX2_isNumber) := goodIn_app (goodIn_of _ (by decide +kernel)) ggX2_isThere_X2_isNumber
theorem dX2_isThere_0 : decode cX2_isThere 0 = .ok (.iload_n 1, 1) := by decide +kernel
theorem dX2_isThere_1 : decode cX2_isThere 1 = .ok (.invokestatic 43, 3) := by decide +kernel
theorem dX2_isThere_4 : decode cX2_isThere 4 = .ok (.ifCond .eq 19, 3) := by decide +kernel
theorem dX2_isThere_7 : decode cX2_isThere 7 = .ok (.aload_n 0, 1) := by decide +kernel
theorem dX2_isThere_8 : decode cX2_isThere 8 = .ok (.getfield 11, 3) := by decide +kernel
theorem dX2_isThere_11 : decode cX2_isThere 11 = .ok (.iload_n 1, 1) := by decide +kernel
theorem dX2_isThere_12 : decode cX2_isThere 12 = .ok (.aaload, 1) := by decide +kernel
theorem dX2_isThere_13 : decode cX2_isThere 13 = .ok (.getfield 35, 3) := by decide +kernel
theorem dX2_isThere_16 : decode cX2_isThere 16 = .ok (.ifCond .le 7, 3) := by decide +kernel
theorem dX2_isThere_19 : decode cX2_isThere 19 = .ok (.iconst 1, 1) := by decide +kernel
theorem dX2_isThere_20 : decode cX2_isThere 20 = .ok (.goto 4, 3) := by decide +kernel
theorem dX2_isThere_23 : decode cX2_isThere 23 = .ok (.iconst 0, 1) := by decide +kernel
theorem dX2_isThere_24 : decode cX2_isThere 24 = .ok (.ireturn, 1) := by decide +kernel
set_option maxRecDepth 20000 in
theorem ggX2_mapsOfKind_X2_isThere : GoodIn wsX2_mapsOfKind wsX2_isThere := goodIn_r _ [6, 1, 7, 8, 9, 5, 10, 28, 29, 30, 31, 32, 33, 34, 35, 36, 37, 38, 39, 40] (by decide +kernel) (by decide +kernel)
set_option maxRecDepth 20000 in
theorem gX2_mapsOfKind_X2_isThere : GoodIn wsX2_mapsOfKind (wsV RX2 62 RX2 yX2_isThere wsX2_isThere) := goodIn_app (goodIn_of _ (by decide +kernel)) ggX2_mapsOfKind_X2_isThere
set_option maxRecDepth 20000 in
theorem ggX2_mapsOfKind_X2_kindOf : GoodIn wsX2_mapsOfKind wsX2_kindOf := goodIn_r _ [13, 7, 14, 15, 16, 17, 18, 19, 20, 21, 5, 22, 23, 24, 25, 26, 27, 36, 37, 38, 39, 40] (by decide +kernel) (by decide +kernel)
set_option maxRecDepth 20000 in
theorem gX2_mapsOfKind_X2_kindOf : GoodIn wsX2_mapsOfKind (va_wsS RX2 76 yX2_kindOf wsX2_kindOf) := goodIn_app (goodIn_of _ (by decide +kernel)) ggX2_mapsOfKind_X2_kindOf
theorem dX2_mapsOfKind_0 : decode cX2_mapsOfKind 0 = .ok (.iconst 0, 1) := by decide +kernel
theorem dX2_mapsOfKind_1 : decode cX2_mapsOfKind 1 = .ok (.istore_n 2, 1) := by decide +kernel
theorem dX2_mapsOfKind_2 : decode cX2_mapsOfKind 2 = .ok (.iconst 0, 1) := by decide +kernel
theorem dX2_mapsOfKind_3 : decode cX2_mapsOfKind 3 = .ok (.istore_n 3, 1) := by decide +kernel
theorem dX2_mapsOfKind_4 : decode cX2_mapsOfKind 4 = .ok (.iload_n 3, 1) := by decide +kernel
theorem dX2_mapsOfKind_5 : decode cX2_mapsOfKind 5 = .ok (.bipush 12, 2) := by decide +kernel
theorem dX2_mapsOfKind_7 : decode cX2_mapsOfKind 7 = .ok (.if_icmp .ge 33, 3) := by decide +kernel
theorem dX2_mapsOfKind_10 : decode cX2_mapsOfKind 10 = .ok (.aload_n 0, 1) := by decide +kernel
theorem dX2_mapsOfKind_11 : decode cX2_mapsOfKind 11 = .ok (.iload_n 3, 1) := by decide +kernel
theorem dX2_mapsOfKind_12 : decode cX2_mapsOfKind 12 = .ok (.invokevirtual 62, 3) := by decide +kernel
theorem dX2_mapsOfKind_15 : decode cX2_mapsOfKind 15 = .ok (.ifCond .eq 19, 3) := by decide +kernel
theorem dX2_mapsOfKind_18 : decode cX2_mapsOfKind 18 = .ok (.aload_n 0, 1) := by decide +kernel
theorem dX2_mapsOfKind_19 : decode cX2_mapsOfKind 19 = .ok (.getfield 11, 3) := by decide +kernel
theorem dX2_mapsOfKind_22 : decode cX2_mapsOfKind 22 = .ok (.iload_n 3, 1) := by decide +kernel
theorem dX2_mapsOfKind_23 : decode cX2_mapsOfKind 23 = .ok (.aaload, 1) := by decide +kernel
theorem dX2_mapsOfKind_24 : decode cX2_mapsOfKind 24 = .ok (.invokestatic 76, 3) := by decide +kernel
theorem dX2_mapsOfKind_27 : decode cX2_mapsOfKind 27 = .ok (.iload_n 1, 1) := by decide +kernel
theorem dX2_mapsOfKind_28 : decode cX2_mapsOfKind 28 = .ok (.if_icmp .ne 6, 3) := by decide +kernel
theorem dX2_mapsOfKind_31 : decode cX2_mapsOfKind 31 = .ok (.iinc 2 1, 3) := by decide +kernel
theorem dX2_mapsOfKind_34 : decode cX2_mapsOfKind 34 = .ok (.iinc 3 1, 3) := by decide +kernel
theorem dX2_mapsOfKind_37 : decode cX2_mapsOfKind 37 = .ok (.goto (-33), 3) := by decide +kernel
theorem dX2_mapsOfKind_40 : decode cX2_mapsOfKind 40 = .ok (.iload_n 2, 1) := by decide +kernel
theorem dX2_mapsOfKind_41 : decode cX2_mapsOfKind 41 = .ok (.ireturn, 1) := by decide +kernel
set_option maxRecDepth 20000 in
theorem ggX2_kindOf_X1_secondEnd : GoodIn wsX2_kindOf wsX1_secondEnd := goodIn_r _ [6, 7, 8, 9, 10, 11, 17, 18, 19, 20, 21] (by decide +kernel) (by decide +kernel)
set_option maxRecDepth 20000 in
theorem gX2_kindOf_X1_secondEnd : GoodIn wsX2_kindOf (wsV RX2 163 RX1 yX1_secondEnd wsX1_secondEnd) := goodIn_app (goodIn_of _ (by decide +kernel)) ggX2_kindOf_X1_secondEnd
set_option maxRecDepth 20000 in
theorem ggX2_kindOf_X1_secondStart : GoodIn wsX2_kindOf wsX1_secondStart := goodIn_r _ [15, 7, 8, 9, 10, 11, 17, 18, 19, 20, 21] (by decide +kernel) (by decide +kernel)
set_option maxRecDepth 20000 in
theorem gX2_kindOf_X1_secondStart : GoodIn wsX2_kindOf (wsV RX2 167 RX1 yX1_secondStart wsX1_secondStart) := goodIn_app (goodIn_of _ (by decide +kernel)) ggX2_kindOf_X1_secondStart
set_option maxRecDepth 20000 in
theorem ggX2_kindOf_X2_startOf : GoodIn wsX2_kindOf wsX2_startOf := goodIn_r _ [11] (by decide +kernel) (by decide +kernel)
set_option maxRecDepth 20000 in
theorem gX2_kindOf_X2_startOf : GoodIn wsX2_kindOf (va_wsS RX2 170 yX2_startOf wsX2_startOf) := goodIn_app (goodIn_of _ (by decide +kernel)) ggX2_kindOf_X2_startOf
theorem dX2_kindOf_0 : decode cX2_kindOf 0 = .ok (.iconst 1, 1) := by decide +kernel
theorem dX2_kindOf_1 : decode cX2_kindOf 1 = .ok (.istore_n 1, 1) := by decide +kernel
theorem dX2_kindOf_2 : decode cX2_kindOf 2 = .ok (.iconst 1, 1) := by decide +kernel
theorem dX2_kindOf_3 : decode cX2_kindOf 3 = .ok (.istore_n 2, 1) := by decide +kernel
theorem dX2_kindOf_4 : decode cX2_kindOf 4 = .ok (.iconst 1, 1) := by decide +kernel
theorem dX2_kindOf_5 : decode cX2_kindOf 5 = .ok (.istore_n 3, 1) := by decide +kernel
theorem dX2_kindOf_6 : decode cX2_kindOf 6 = .ok (.iload_n 3, 1) := by decide +kernel
theorem dX2_kindOf_7 : decode cX2_kindOf 7 = .ok (.aload_n 0, 1) := by decide +kernel
theorem dX2_kindOf_8 : decode cX2_kindOf 8 = .ok (.getfield 35, 3) := by decide +kernel
theorem dX2_kindOf_11 : decode cX2_kindOf 11 = .ok (.if_icmp .ge 76, 3) := by decide +kernel
theorem dX2_kindOf_14 : decode cX2_kindOf 14 = .ok (.aload_n 0, 1) := by decide +kernel
theorem dX2_kindOf_15 : decode cX2_kindOf 15 = .ok (.iload_n 3, 1) := by decide +kernel
theorem dX2_kindOf_16 : decode cX2_kindOf 16 = .ok (.iconst 1, 1) := by decide +kernel
theorem dX2_kindOf_17 : decode cX2_kindOf 17 = .ok (.isub, 1) := by decide +kernel
theorem dX2_kindOf_18 : decode cX2_kindOf 18 = .ok (.invokevirtual 163, 3) := by decide +kernel
theorem dX2_kindOf_21 : decode cX2_kindOf 21 = .ok (.lstore 4, 2) := by decide +kernel
theorem dX2_kindOf_23 : decode cX2_kindOf 23 = .ok (.aload_n 0, 1) := by decide +kernel
theorem dX2_kindOf_24 : decode cX2_kindOf 24 = .ok (.iload_n 3, 1) := by decide +kernel
theorem dX2_kindOf_25 : decode cX2_kindOf 25 = .ok (.invokevirtual 167, 3) := by decide +kernel
theorem dX2_kindOf_28 : decode cX2_kindOf 28 = .ok (.lstore 6, 2) := by decide +kernel
theorem dX2_kindOf_30 : decode cX2_kindOf 30 = .ok (.iload_n 1, 1) := by decide +kernel
theorem dX2_kindOf_31 : decode cX2_kindOf 31 = .ok (.ifCond .eq 15, 3) := by decide +kernel
theorem dX2_kindOf_34 : decode cX2_kindOf 34 = .ok (.lload 6, 2) := by decide +kernel
theorem dX2_kindOf_36 : decode cX2_kindOf 36 = .ok (.lload 4, 2) := by decide +kernel
theorem dX2_kindOf_38 : decode cX2_kindOf 38 = .ok (.lcmp, 1) := by decide +kernel
theorem dX2_kindOf_39 : decode cX2_kindOf 39 = .ok (.ifCond .ne 7, 3) := by decide +kernel
theorem dX2_kindOf_42 : decode cX2_kindOf 42 = .ok (.iconst 1, 1) := by decide +kernel
theorem dX2_kindOf_43 : decode cX2_kindOf 43 = .ok (.goto 4, 3) := by decide +kernel
theorem dX2_kindOf_46 : decode cX2_kindOf 46 = .ok (.iconst 0, 1) := by decide +kernel
theorem dX2_kindOf_47 : decode cX2_kindOf 47 = .ok (.istore_n 1, 1) := by decide +kernel
theorem dX2_kindOf_48 : decode cX2_kindOf 48 = .ok (.iload_n 2, 1) := by decide +kernel
theorem dX2_kindOf_49 : decode cX2_kindOf 49 = .ok (.ifCond .eq 30, 3) := by decide +kernel
theorem dX2_kindOf_52 : decode cX2_kindOf 52 = .ok (.lload 6, 2) := by decide +kernel
theorem dX2_kindOf_54 : decode cX2_kindOf 54 = .ok (.lload 4, 2) := by decide +kernel
theorem dX2_kindOf_56 : decode cX2_kindOf 56 = .ok (.iconst 0, 1) := by decide +kernel
theorem dX2_kindOf_57 : decode cX2_kindOf 57 = .ok (.lconst 1, 1) := by decide +kernel
theorem dX2_kindOf_58 : decode cX2_kindOf 58 = .ok (.invokestatic 170, 3) := by decide +kernel
theorem dX2_kindOf_61 : decode cX2_kindOf 61 = .ok (.lcmp, 1) := by decide +kernel
theorem dX2_kindOf_62 : decode cX2_kindOf 62 = .ok (.ifCond .ne 7, 3) := by decide +kernel
theorem dX2_kindOf_65 : decode cX2_kindOf 65 = .ok (.lconst 0, 1) := by decide +kernel
theorem dX2_kindOf_66 : decode cX2_kindOf 66 = .ok (.goto 5, 3) := by decide +kernel
theorem dX2_kindOf_69 : decode cX2_kindOf 69 = .ok (.lload 4, 2) := by decide +kernel
theorem dX2_kindOf_71 : decode cX2_kindOf 71 = .ok (.lcmp, 1) := by decide +kernel
theorem dX2_kindOf_72 : decode cX2_kindOf 72 = .ok (.ifCond .ne 7, 3) := by decide +kernel
theorem dX2_kindOf_75 : decode cX2_kindOf 75 = .ok (.iconst 1, 1) := by decide +kernel
theorem dX2_kindOf_76 : decode cX2_kindOf 76 = .ok (.goto 4, 3) := by decide +kernel
theorem dX2_kindOf_79 : decode cX2_kindOf 79 = .ok (.iconst 0, 1) := by decide +kernel
theorem dX2_kindOf_80 : decode cX2_kindOf 80 = .ok (.istore_n 2, 1) := by decide +kernel
theorem dX2_kindOf_81 : decode cX2_kindOf 81 = .ok (.iinc 3 1, 3) := by decide +kernel
theorem dX2_kindOf_84 : decode cX2_kindOf 84 = .ok (.goto (-78), 3) := by decide +kernel
theorem dX2_kindOf_87 : decode cX2_kindOf 87 = .ok (.iload_n 1, 1) := by decide +kernel
theorem dX2_kindOf_88 : decode cX2_kindOf 88 = .ok (.ifCond .eq 5, 3) := by decide +kernel
theorem dX2_kindOf_91 : decode cX2_kindOf 91 = .ok (.iconst 0, 1) := by decide +kernel
theorem dX2_kindOf_92 : decode cX2_kindOf 92 = .ok (.ireturn, 1) := by decide +kernel
theorem dX2_kindOf_93 : decode cX2_kindOf 93 = .ok (.iload_n 2, 1) := by decide +kernel
theorem dX2_kindOf_94 : decode cX2_kindOf 94 = .ok (.ifCond .eq 7, 3) := by decide +kernel
theorem dX2_kindOf_97 : decode cX2_kindOf 97 = .ok (.iconst 1, 1) := by decide +kernel
theorem dX2_kindOf_98 : decode cX2_kindOf 98 = .ok (.goto 4, 3) := by decide +kernel
theorem dX2_kindOf_101 : decode cX2_kindOf 101 = .ok (.iconst 2, 1) := by decide +kernel
theorem dX2_kindOf_102 : decode cX2_kindOf 102 = .ok (.ireturn, 1) := by decide +kernel
theorem dX2_startOf_0 : decode cX2_startOf 0 = .ok (.lload_n 1, 1) := by decide +kernel
theorem dX2_startOf_1 : decode cX2_startOf 1 = .ok (.bipush 23, 2) := by decide +kernel
theorem dX2_startOf_3 : decode cX2_startOf 3 = .ok (.iload_n 0, 1) := by decide +kernel
theorem dX2_startOf_4 : decode cX2_startOf 4 = .ok (.isub, 1) := by decide +kernel
theorem dX2_startOf_5 : decode cX2_startOf 5 = .ok (.lshl, 1) := by decide +kernel
theorem dX2_startOf_6 : decode cX2_startOf 6 = .ok (.lreturn, 1) := by decide +kernel
set_option maxRecDepth 20000 in
theorem ggX2_isCut_X1_firstStart : GoodIn wsX2_isCut wsX1_firstStart := goodIn_r _ [8, 9, 10, 11, 12, 13, 15, 16, 17, 18, 19] (by decide +kernel) (by decide +kernel)
set_option maxRecDepth 20000 in
theorem gX2_isCut_X1_firstStart : GoodIn wsX2_isCut (wsV RX2 174 RX1 yX1_firstStart wsX1_firstStart) := goodIn_app (goodIn_of _ (by decide +kernel)) ggX2_isCut_X1_firstStart
set_option maxRecDepth 20000 in
theorem ggX2_isCut_X2_startOf : GoodIn wsX2_isCut wsX2_startOf := goodIn_r _ [13] (by decide +kernel) (by decide +kernel)
set_option maxRecDepth 20000 in
theorem gX2_isCut_X2_startOf : GoodIn wsX2_isCut (va_wsS RX2 170 yX2_startOf wsX2_startOf) := goodIn_app (goodIn_of _ (by decide +kernel)) ggX2_isCut_X2_startOf
theorem dX2_isCut_0 : decode cX2_isCut 0 = .ok (.lconst 0, 1) := by decide +kernel
theorem dX2_isCut_1 : decode cX2_isCut 1 = .ok (.lstore_n 1, 1) := by decide +kernel
theorem dX2_isCut_2 : decode cX2_isCut 2 = .ok (.iconst 0, 1) := by decide +kernel
theorem dX2_isCut_3 : decode cX2_isCut 3 = .ok (.istore_n 3, 1) := by decide +kernel
theorem dX2_isCut_4 : decode cX2_isCut 4 = .ok (.iload_n 3, 1) := by decide +kernel
theorem dX2_isCut_5 : decode cX2_isCut 5 = .ok (.aload_n 0, 1) := by decide +kernel
theorem dX2_isCut_6 : decode cX2_isCut 6 = .ok (.getfield 35, 3) := by decide +kernel
theorem dX2_isCut_9 : decode cX2_isCut 9 = .ok (.if_icmp .ge 39, 3) := by decide +kernel
theorem dX2_isCut_12 : decode cX2_isCut 12 = .ok (.aload_n 0, 1) := by decide +kernel
theorem dX2_isCut_13 : decode cX2_isCut 13 = .ok (.iload_n 3, 1) := by decide +kernel
theorem dX2_isCut_14 : decode cX2_isCut 14 = .ok (.invokevirtual 174, 3) := by decide +kernel
theorem dX2_isCut_17 : decode cX2_isCut 17 = .ok (.lload_n 1, 1) := by decide +kernel
theorem dX2_isCut_18 : decode cX2_isCut 18 = .ok (.lcmp, 1) := by decide +kernel
theorem dX2_isCut_19 : decode cX2_isCut 19 = .ok (.ifCond .eq 5, 3) := by decide +kernel
theorem dX2_isCut_22 : decode cX2_isCut 22 = .ok (.iconst 0, 1) := by decide +kernel
theorem dX2_isCut_23 : decode cX2_isCut 23 = .ok (.ireturn, 1) := by decide +kernel
theorem dX2_isCut_24 : decode cX2_isCut 24 = .ok (.aload_n 0, 1) := by decide +kernel
theorem dX2_isCut_25 : decode cX2_isCut 25 = .ok (.getfield 111, 3) := by decide +kernel
theorem dX2_isCut_28 : decode cX2_isCut 28 = .ok (.iload_n 3, 1) := by decide +kernel
theorem dX2_isCut_29 : decode cX2_isCut 29 = .ok (.iaload, 1) := by decide +kernel
theorem dX2_isCut_30 : decode cX2_isCut 30 = .ok (.aload_n 0, 1) := by decide +kernel
theorem dX2_isCut_31 : decode cX2_isCut 31 = .ok (.getfield 117, 3) := by decide +kernel
theorem dX2_isCut_34 : decode cX2_isCut 34 = .ok (.iload_n 3, 1) := by decide +kernel
theorem dX2_isCut_35 : decode cX2_isCut 35 = .ok (.laload, 1) := by decide +kernel
theorem dX2_isCut_36 : decode cX2_isCut 36 = .ok (.lconst 1, 1) := by decide +kernel
theorem dX2_isCut_37 : decode cX2_isCut 37 = .ok (.ladd, 1) := by decide +kernel
theorem dX2_isCut_38 : decode cX2_isCut 38 = .ok (.invokestatic 170, 3) := by decide +kernel
theorem dX2_isCut_41 : decode cX2_isCut 41 = .ok (.lstore_n 1, 1) := by decide +kernel
theorem dX2_isCut_42 : decode cX2_isCut 42 = .ok (.iinc 3 1, 3) := by decide +kernel
theorem dX2_isCut_45 : decode cX2_isCut 45 = .ok (.goto (-41), 3) := by decide +kernel
theorem dX2_isCut_48 : decode cX2_isCut 48 = .ok (.lload_n 1, 1) := by decide +kernel
theorem dX2_isCut_49 : decode cX2_isCut 49 = .ok (.iconst 0, 1) := by decide +kernel
theorem dX2_isCut_50 : decode cX2_isCut 50 = .ok (.lconst 1, 1) := by decide +kernel
theorem dX2_isCut_51 : decode cX2_isCut 51 = .ok (.invokestatic 170, 3) := by decide +kernel
theorem dX2_isCut_54 : decode cX2_isCut 54 = .ok (.lcmp, 1) := by decide +kernel
theorem dX2_isCut_55 : decode cX2_isCut 55 = .ok (.ifCond .ne 7, 3) := by decide +kernel
theorem dX2_isCut_58 : decode cX2_isCut 58 = .ok (.iconst 1, 1) := by decide +kernel
theorem dX2_isCut_59 : decode cX2_isCut 59 = .ok (.goto 4, 3) := by decide +kernel
theorem dX2_isCut_62 : decode cX2_isCut 62 = .ok (.iconst 0, 1) := by decide +kernel
theorem dX2_isCut_63 : decode cX2_isCut 63 = .ok (.ireturn, 1) := by decide +kernel
set_option maxRecDepth 20000 in
theorem ggX2_areAlike_X1_told : GoodIn wsX2_areAlike wsX1_told := goodIn_r _ [6, 7, 8, 9, 10, 11, 12, 13, 14, 15] (by decide +kernel) (by decide +kernel)
set_option maxRecDepth 20000 in
theorem gX2_areAlike_X1_told : GoodIn wsX2_areAlike (wsV RX2 80 RX1 yX1_told wsX1_told) := goodIn_app (goodIn_of _ (by decide +kernel)) ggX2_areAlike_X1_told
theorem dX2_areAlike_0 : decode cX2_areAlike 0 = .ok (.aload_n 0, 1) := by decide +kernel
theorem dX2_areAlike_1 : decode cX2_areAlike 1 = .ok (.getfield 35, 3) := by decide +kernel
theorem dX2_areAlike_4 : decode cX2_areAlike 4 = .ok (.aload_n 1, 1) := by decide +kernel
theorem dX2_areAlike_5 : decode cX2_areAlike 5 = .ok (.getfield 35, 3) := by decide +kernel
theorem dX2_areAlike_8 : decode cX2_areAlike 8 = .ok (.if_icmp .eq 5, 3) := by decide +kernel
theorem dX2_areAlike_11 : decode cX2_areAlike 11 = .ok (.iconst 0, 1) := by decide +kernel
theorem dX2_areAlike_12 : decode cX2_areAlike 12 = .ok (.ireturn, 1) := by decide +kernel
theorem dX2_areAlike_13 : decode cX2_areAlike 13 = .ok (.iconst 0, 1) := by decide +kernel
theorem dX2_areAlike_14 : decode cX2_areAlike 14 = .ok (.istore_n 2, 1) := by decide +kernel
theorem dX2_areAlike_15 : decode cX2_areAlike 15 = .ok (.iload_n 2, 1) := by decide +kernel
theorem dX2_areAlike_16 : decode cX2_areAlike 16 = .ok (.aload_n 0, 1) := by decide +kernel
theorem dX2_areAlike_17 : decode cX2_areAlike 17 = .ok (.getfield 35, 3) := by decide +kernel
theorem dX2_areAlike_20 : decode cX2_areAlike 20 = .ok (.if_icmp .ge 40, 3) := by decide +kernel
theorem dX2_areAlike_23 : decode cX2_areAlike 23 = .ok (.iconst 0, 1) := by decide +kernel
theorem dX2_areAlike_24 : decode cX2_areAlike 24 = .ok (.istore_n 3, 1) := by decide +kernel
theorem dX2_areAlike_25 : decode cX2_areAlike 25 = .ok (.iload_n 3, 1) := by decide +kernel
theorem dX2_areAlike_26 : decode cX2_areAlike 26 = .ok (.iconst 4, 1) := by decide +kernel
theorem dX2_areAlike_27 : decode cX2_areAlike 27 = .ok (.if_icmp .ge 27, 3) := by decide +kernel
theorem dX2_areAlike_30 : decode cX2_areAlike 30 = .ok (.aload_n 0, 1) := by decide +kernel
theorem dX2_areAlike_31 : decode cX2_areAlike 31 = .ok (.iload_n 2, 1) := by decide +kernel
theorem dX2_areAlike_32 : decode cX2_areAlike 32 = .ok (.iload_n 3, 1) := by decide +kernel
theorem dX2_areAlike_33 : decode cX2_areAlike 33 = .ok (.invokevirtual 80, 3) := by decide +kernel
theorem dX2_areAlike_36 : decode cX2_areAlike 36 = .ok (.aload_n 1, 1) := by decide +kernel
theorem dX2_areAlike_37 : decode cX2_areAlike 37 = .ok (.iload_n 2, 1) := by decide +kernel
theorem dX2_areAlike_38 : decode cX2_areAlike 38 = .ok (.iload_n 3, 1) := by decide +kernel
theorem dX2_areAlike_39 : decode cX2_areAlike 39 = .ok (.invokevirtual 80, 3) := by decide +kernel
theorem dX2_areAlike_42 : decode cX2_areAlike 42 = .ok (.lcmp, 1) := by decide +kernel
theorem dX2_areAlike_43 : decode cX2_areAlike 43 = .ok (.ifCond .eq 5, 3) := by decide +kernel
theorem dX2_areAlike_46 : decode cX2_areAlike 46 = .ok (.iconst 0, 1) := by decide +kernel
theorem dX2_areAlike_47 : decode cX2_areAlike 47 = .ok (.ireturn, 1) := by decide +kernel
theorem dX2_areAlike_48 : decode cX2_areAlike 48 = .ok (.iinc 3 1, 3) := by decide +kernel
theorem dX2_areAlike_51 : decode cX2_areAlike 51 = .ok (.goto (-26), 3) := by decide +kernel
theorem dX2_areAlike_54 : decode cX2_areAlike 54 = .ok (.iinc 2 1, 3) := by decide +kernel
theorem dX2_areAlike_57 : decode cX2_areAlike 57 = .ok (.goto (-42), 3) := by decide +kernel
theorem dX2_areAlike_60 : decode cX2_areAlike 60 = .ok (.iconst 1, 1) := by decide +kernel
theorem dX2_areAlike_61 : decode cX2_areAlike 61 = .ok (.ireturn, 1) := by decide +kernel
set_option maxRecDepth 20000 in
theorem ggX2_putCopy_X1_add : GoodIn wsX2_putCopy wsX1_add := goodIn_r _ [10, 11, 12, 13, 14, 15, 16, 17, 18, 19, 20] (by decide +kernel) (by decide +kernel)
set_option maxRecDepth 20000 in
theorem gX2_putCopy_X1_add : GoodIn wsX2_putCopy (wsV RX2 39 RX1 yX1_add wsX1_add) := goodIn_app (goodIn_of _ (by decide +kernel)) ggX2_putCopy_X1_add
theorem dX2_putCopy_0 : decode cX2_putCopy 0 = .ok (.aload_n 1, 1) := by decide +kernel
theorem dX2_putCopy_1 : decode cX2_putCopy 1 = .ok (.iconst 0, 1) := by decide +kernel
theorem dX2_putCopy_2 : decode cX2_putCopy 2 = .ok (.putfield 35, 3) := by decide +kernel
theorem dX2_putCopy_5 : decode cX2_putCopy 5 = .ok (.iconst 0, 1) := by decide +kernel
theorem dX2_putCopy_6 : decode cX2_putCopy 6 = .ok (.istore_n 2, 1) := by decide +kernel
theorem dX2_putCopy_7 : decode cX2_putCopy 7 = .ok (.iload_n 2, 1) := by decide +kernel
theorem dX2_putCopy_8 : decode cX2_putCopy 8 = .ok (.aload_n 0, 1) := by decide +kernel
theorem dX2_putCopy_9 : decode cX2_putCopy 9 = .ok (.getfield 35, 3) := by decide +kernel
theorem dX2_putCopy_12 : decode cX2_putCopy 12 = .ok (.if_icmp .ge 37, 3) := by decide +kernel
theorem dX2_putCopy_15 : decode cX2_putCopy 15 = .ok (.aload_n 1, 1) := by decide +kernel
theorem dX2_putCopy_16 : decode cX2_putCopy 16 = .ok (.aload_n 0, 1) := by decide +kernel
theorem dX2_putCopy_17 : decode cX2_putCopy 17 = .ok (.getfield 111, 3) := by decide +kernel
theorem dX2_putCopy_20 : decode cX2_putCopy 20 = .ok (.iload_n 2, 1) := by decide +kernel
theorem dX2_putCopy_21 : decode cX2_putCopy 21 = .ok (.iaload, 1) := by decide +kernel
theorem dX2_putCopy_22 : decode cX2_putCopy 22 = .ok (.aload_n 0, 1) := by decide +kernel
theorem dX2_putCopy_23 : decode cX2_putCopy 23 = .ok (.getfield 117, 3) := by decide +kernel
theorem dX2_putCopy_26 : decode cX2_putCopy 26 = .ok (.iload_n 2, 1) := by decide +kernel
theorem dX2_putCopy_27 : decode cX2_putCopy 27 = .ok (.laload, 1) := by decide +kernel
theorem dX2_putCopy_28 : decode cX2_putCopy 28 = .ok (.aload_n 0, 1) := by decide +kernel
theorem dX2_putCopy_29 : decode cX2_putCopy 29 = .ok (.getfield 114, 3) := by decide +kernel
theorem dX2_putCopy_32 : decode cX2_putCopy 32 = .ok (.iload_n 2, 1) := by decide +kernel
theorem dX2_putCopy_33 : decode cX2_putCopy 33 = .ok (.iaload, 1) := by decide +kernel
theorem dX2_putCopy_34 : decode cX2_putCopy 34 = .ok (.aload_n 0, 1) := by decide +kernel
theorem dX2_putCopy_35 : decode cX2_putCopy 35 = .ok (.getfield 121, 3) := by decide +kernel
theorem dX2_putCopy_38 : decode cX2_putCopy 38 = .ok (.iload_n 2, 1) := by decide +kernel
theorem dX2_putCopy_39 : decode cX2_putCopy 39 = .ok (.laload, 1) := by decide +kernel
theorem dX2_putCopy_40 : decode cX2_putCopy 40 = .ok (.invokevirtual 39, 3) := by decide +kernel
theorem dX2_putCopy_43 : decode cX2_putCopy 43 = .ok (.iinc 2 1, 3) := by decide +kernel
theorem dX2_putCopy_46 : decode cX2_putCopy 46 = .ok (.goto (-39), 3) := by decide +kernel
theorem dX2_putCopy_49 : decode cX2_putCopy 49 = .ok (.return_, 1) := by decide +kernel
set_option maxRecDepth 20000 in
theorem ggX2_putReduced_X1_push : GoodIn wsX2_putReduced wsX1_push := goodIn_r _ [10, 11, 12, 13, 14, 15, 16, 17, 18, 19, 9, 20, 21, 22, 23, 24, 25, 26, 27, 28, 29] (by decide +kernel) (by decide +kernel)
set_option maxRecDepth 20000 in
theorem gX2_putReduced_X1_push : GoodIn wsX2_putReduced (wsV RX2 177 RX1 yX1_push wsX1_push) := goodIn_app (goodIn_of _ (by decide +kernel)) ggX2_putReduced_X1_push
theorem dX2_putReduced_0 : decode cX2_putReduced 0 = .ok (.aload_n 1, 1) := by decide +kernel
theorem dX2_putReduced_1 : decode cX2_putReduced 1 = .ok (.iconst 0, 1) := by decide +kernel
theorem dX2_putReduced_2 : decode cX2_putReduced 2 = .ok (.putfield 35, 3) := by decide +kernel
theorem dX2_putReduced_5 : decode cX2_putReduced 5 = .ok (.iconst 0, 1) := by decide +kernel
theorem dX2_putReduced_6 : decode cX2_putReduced 6 = .ok (.istore_n 2, 1) := by decide +kernel
theorem dX2_putReduced_7 : decode cX2_putReduced 7 = .ok (.iload_n 2, 1) := by decide +kernel
theorem dX2_putReduced_8 : decode cX2_putReduced 8 = .ok (.aload_n 0, 1) := by decide +kernel
theorem dX2_putReduced_9 : decode cX2_putReduced 9 = .ok (.getfield 35, 3) := by decide +kernel
theorem dX2_putReduced_12 : decode cX2_putReduced 12 = .ok (.if_icmp .ge 37, 3) := by decide +kernel
theorem dX2_putReduced_15 : decode cX2_putReduced 15 = .ok (.aload_n 1, 1) := by decide +kernel
theorem dX2_putReduced_16 : decode cX2_putReduced 16 = .ok (.aload_n 0, 1) := by decide +kernel
theorem dX2_putReduced_17 : decode cX2_putReduced 17 = .ok (.getfield 111, 3) := by decide +kernel
theorem dX2_putReduced_20 : decode cX2_putReduced 20 = .ok (.iload_n 2, 1) := by decide +kernel
theorem dX2_putReduced_21 : decode cX2_putReduced 21 = .ok (.iaload, 1) := by decide +kernel
theorem dX2_putReduced_22 : decode cX2_putReduced 22 = .ok (.aload_n 0, 1) := by decide +kernel
theorem dX2_putReduced_23 : decode cX2_putReduced 23 = .ok (.getfield 117, 3) := by decide +kernel
theorem dX2_putReduced_26 : decode cX2_putReduced 26 = .ok (.iload_n 2, 1) := by decide +kernel
theorem dX2_putReduced_27 : decode cX2_putReduced 27 = .ok (.laload, 1) := by decide +kernel
theorem dX2_putReduced_28 : decode cX2_putReduced 28 = .ok (.aload_n 0, 1) := by decide +kernel
theorem dX2_putReduced_29 : decode cX2_putReduced 29 = .ok (.getfield 114, 3) := by decide +kernel
theorem dX2_putReduced_32 : decode cX2_putReduced 32 = .ok (.iload_n 2, 1) := by decide +kernel
theorem dX2_putReduced_33 : decode cX2_putReduced 33 = .ok (.iaload, 1) := by decide +kernel
theorem dX2_putReduced_34 : decode cX2_putReduced 34 = .ok (.aload_n 0, 1) := by decide +kernel
theorem dX2_putReduced_35 : decode cX2_putReduced 35 = .ok (.getfield 121, 3) := by decide +kernel
theorem dX2_putReduced_38 : decode cX2_putReduced 38 = .ok (.iload_n 2, 1) := by decide +kernel
theorem dX2_putReduced_39 : decode cX2_putReduced 39 = .ok (.laload, 1) := by decide +kernel
theorem dX2_putReduced_40 : decode cX2_putReduced 40 = .ok (.invokevirtual 177, 3) := by decide +kernel
theorem dX2_putReduced_43 : decode cX2_putReduced 43 = .ok (.iinc 2 1, 3) := by decide +kernel
theorem dX2_putReduced_46 : decode cX2_putReduced 46 = .ok (.goto (-39), 3) := by decide +kernel
theorem dX2_putReduced_49 : decode cX2_putReduced 49 = .ok (.return_, 1) := by decide +kernel
set_option maxRecDepth 20000 in
theorem ggX2_putTurned_X1_add : GoodIn wsX2_putTurned wsX1_add := goodIn_r _ [10, 11, 12, 13, 14, 15, 33, 34, 35, 36, 37] (by decide +kernel) (by decide +kernel)
set_option maxRecDepth 20000 in
theorem gX2_putTurned_X1_add : GoodIn wsX2_putTurned (wsV RX2 39 RX1 yX1_add wsX1_add) := goodIn_app (goodIn_of _ (by decide +kernel)) ggX2_putTurned_X1_add
set_option maxRecDepth 20000 in
theorem ggX2_putTurned_X1_sinkLast : GoodIn wsX2_putTurned wsX1_sinkLast := goodIn_r _ [19, 11, 12, 13, 14, 15, 20, 21, 22, 9, 23, 24, 25, 26, 27, 28, 29, 30, 31, 32, 33, 34, 35, 36, 37] (by decide +kernel) (by decide +kernel)
set_option maxRecDepth 20000 in
theorem gX2_putTurned_X1_sinkLast : GoodIn wsX2_putTurned (wsV RX2 180 RX1 yX1_sinkLast wsX1_sinkLast) := goodIn_app (goodIn_of _ (by decide +kernel)) ggX2_putTurned_X1_sinkLast
theorem dX2_putTurned_0 : decode cX2_putTurned 0 = .ok (.aload_n 1, 1) := by decide +kernel
theorem dX2_putTurned_1 : decode cX2_putTurned 1 = .ok (.iconst 0, 1) := by decide +kernel
theorem dX2_putTurned_2 : decode cX2_putTurned 2 = .ok (.putfield 35, 3) := by decide +kernel
theorem dX2_putTurned_5 : decode cX2_putTurned 5 = .ok (.iconst 0, 1) := by decide +kernel
theorem dX2_putTurned_6 : decode cX2_putTurned 6 = .ok (.istore_n 2, 1) := by decide +kernel
theorem dX2_putTurned_7 : decode cX2_putTurned 7 = .ok (.iload_n 2, 1) := by decide +kernel
theorem dX2_putTurned_8 : decode cX2_putTurned 8 = .ok (.aload_n 0, 1) := by decide +kernel
theorem dX2_putTurned_9 : decode cX2_putTurned 9 = .ok (.getfield 35, 3) := by decide +kernel
theorem dX2_putTurned_12 : decode cX2_putTurned 12 = .ok (.if_icmp .ge 41, 3) := by decide +kernel
theorem dX2_putTurned_15 : decode cX2_putTurned 15 = .ok (.aload_n 1, 1) := by decide +kernel
theorem dX2_putTurned_16 : decode cX2_putTurned 16 = .ok (.aload_n 0, 1) := by decide +kernel
theorem dX2_putTurned_17 : decode cX2_putTurned 17 = .ok (.getfield 114, 3) := by decide +kernel
theorem dX2_putTurned_20 : decode cX2_putTurned 20 = .ok (.iload_n 2, 1) := by decide +kernel
theorem dX2_putTurned_21 : decode cX2_putTurned 21 = .ok (.iaload, 1) := by decide +kernel
theorem dX2_putTurned_22 : decode cX2_putTurned 22 = .ok (.aload_n 0, 1) := by decide +kernel
theorem dX2_putTurned_23 : decode cX2_putTurned 23 = .ok (.getfield 121, 3) := by decide +kernel
theorem dX2_putTurned_26 : decode cX2_putTurned 26 = .ok (.iload_n 2, 1) := by decide +kernel
theorem dX2_putTurned_27 : decode cX2_putTurned 27 = .ok (.laload, 1) := by decide +kernel
theorem dX2_putTurned_28 : decode cX2_putTurned 28 = .ok (.aload_n 0, 1) := by decide +kernel
theorem dX2_putTurned_29 : decode cX2_putTurned 29 = .ok (.getfield 111, 3) := by decide +kernel
theorem dX2_putTurned_32 : decode cX2_putTurned 32 = .ok (.iload_n 2, 1) := by decide +kernel
theorem dX2_putTurned_33 : decode cX2_putTurned 33 = .ok (.iaload, 1) := by decide +kernel
theorem dX2_putTurned_34 : decode cX2_putTurned 34 = .ok (.aload_n 0, 1) := by decide +kernel
theorem dX2_putTurned_35 : decode cX2_putTurned 35 = .ok (.getfield 117, 3) := by decide +kernel
theorem dX2_putTurned_38 : decode cX2_putTurned 38 = .ok (.iload_n 2, 1) := by decide +kernel
theorem dX2_putTurned_39 : decode cX2_putTurned 39 = .ok (.laload, 1) := by decide +kernel
theorem dX2_putTurned_40 : decode cX2_putTurned 40 = .ok (.invokevirtual 39, 3) := by decide +kernel
theorem dX2_putTurned_43 : decode cX2_putTurned 43 = .ok (.aload_n 1, 1) := by decide +kernel
theorem dX2_putTurned_44 : decode cX2_putTurned 44 = .ok (.invokevirtual 180, 3) := by decide +kernel
theorem dX2_putTurned_47 : decode cX2_putTurned 47 = .ok (.iinc 2 1, 3) := by decide +kernel
theorem dX2_putTurned_50 : decode cX2_putTurned 50 = .ok (.goto (-43), 3) := by decide +kernel
theorem dX2_putTurned_53 : decode cX2_putTurned 53 = .ok (.return_, 1) := by decide +kernel
set_option maxRecDepth 20000 in
theorem ggX2_putStrong_X1_add : GoodIn wsX2_putStrong wsX1_add := goodIn_r _ [9, 10, 11, 12, 13, 14, 15, 16, 17, 18, 19] (by decide +kernel) (by decide +kernel)
set_option maxRecDepth 20000 in
theorem gX2_putStrong_X1_add : GoodIn wsX2_putStrong (wsV RX2 39 RX1 yX1_add wsX1_add) := goodIn_app (goodIn_of _ (by decide +kernel)) ggX2_putStrong_X1_add
theorem dX2_putStrong_0 : decode cX2_putStrong 0 = .ok (.aload_n 1, 1) := by decide +kernel
theorem dX2_putStrong_1 : decode cX2_putStrong 1 = .ok (.iconst 0, 1) := by decide +kernel
theorem dX2_putStrong_2 : decode cX2_putStrong 2 = .ok (.putfield 35, 3) := by decide +kernel
theorem dX2_putStrong_5 : decode cX2_putStrong 5 = .ok (.iconst 1, 1) := by decide +kernel
theorem dX2_putStrong_6 : decode cX2_putStrong 6 = .ok (.istore_n 2, 1) := by decide +kernel
theorem dX2_putStrong_7 : decode cX2_putStrong 7 = .ok (.iload_n 2, 1) := by decide +kernel
theorem dX2_putStrong_8 : decode cX2_putStrong 8 = .ok (.iload_n 0, 1) := by decide +kernel
theorem dX2_putStrong_9 : decode cX2_putStrong 9 = .ok (.if_icmp .gt 25, 3) := by decide +kernel
theorem dX2_putStrong_12 : decode cX2_putStrong 12 = .ok (.lconst 1, 1) := by decide +kernel
theorem dX2_putStrong_13 : decode cX2_putStrong 13 = .ok (.iload_n 2, 1) := by decide +kernel
theorem dX2_putStrong_14 : decode cX2_putStrong 14 = .ok (.lshl, 1) := by decide +kernel
theorem dX2_putStrong_15 : decode cX2_putStrong 15 = .ok (.ldc2_w 183, 3) := by decide +kernel
theorem dX2_putStrong_18 : decode cX2_putStrong 18 = .ok (.lsub, 1) := by decide +kernel
theorem dX2_putStrong_19 : decode cX2_putStrong 19 = .ok (.lstore_n 3, 1) := by decide +kernel
theorem dX2_putStrong_20 : decode cX2_putStrong 20 = .ok (.aload_n 1, 1) := by decide +kernel
theorem dX2_putStrong_21 : decode cX2_putStrong 21 = .ok (.iload_n 2, 1) := by decide +kernel
theorem dX2_putStrong_22 : decode cX2_putStrong 22 = .ok (.lload_n 3, 1) := by decide +kernel
theorem dX2_putStrong_23 : decode cX2_putStrong 23 = .ok (.iload_n 2, 1) := by decide +kernel
theorem dX2_putStrong_24 : decode cX2_putStrong 24 = .ok (.lload_n 3, 1) := by decide +kernel
theorem dX2_putStrong_25 : decode cX2_putStrong 25 = .ok (.invokevirtual 39, 3) := by decide +kernel
theorem dX2_putStrong_28 : decode cX2_putStrong 28 = .ok (.iinc 2 1, 3) := by decide +kernel
theorem dX2_putStrong_31 : decode cX2_putStrong 31 = .ok (.goto (-24), 3) := by decide +kernel
theorem dX2_putStrong_34 : decode cX2_putStrong 34 = .ok (.lconst 1, 1) := by decide +kernel
theorem dX2_putStrong_35 : decode cX2_putStrong 35 = .ok (.iload_n 0, 1) := by decide +kernel
theorem dX2_putStrong_36 : decode cX2_putStrong 36 = .ok (.lshl, 1) := by decide +kernel
theorem dX2_putStrong_37 : decode cX2_putStrong 37 = .ok (.lconst 1, 1) := by decide +kernel
theorem dX2_putStrong_38 : decode cX2_putStrong 38 = .ok (.lsub, 1) := by decide +kernel
theorem dX2_putStrong_39 : decode cX2_putStrong 39 = .ok (.lstore_n 2, 1) := by decide +kernel
theorem dX2_putStrong_40 : decode cX2_putStrong 40 = .ok (.aload_n 1, 1) := by decide +kernel
theorem dX2_putStrong_41 : decode cX2_putStrong 41 = .ok (.iload_n 0, 1) := by decide +kernel
theorem dX2_putStrong_42 : decode cX2_putStrong 42 = .ok (.iconst 1, 1) := by decide +kernel
theorem dX2_putStrong_43 : decode cX2_putStrong 43 = .ok (.iadd, 1) := by decide +kernel
theorem dX2_putStrong_44 : decode cX2_putStrong 44 = .ok (.ldc2_w 183, 3) := by decide +kernel
theorem dX2_putStrong_47 : decode cX2_putStrong 47 = .ok (.lload_n 2, 1) := by decide +kernel
theorem dX2_putStrong_48 : decode cX2_putStrong 48 = .ok (.lmul, 1) := by decide +kernel
theorem dX2_putStrong_49 : decode cX2_putStrong 49 = .ok (.iload_n 0, 1) := by decide +kernel
theorem dX2_putStrong_50 : decode cX2_putStrong 50 = .ok (.iconst 2, 1) := by decide +kernel
theorem dX2_putStrong_51 : decode cX2_putStrong 51 = .ok (.iadd, 1) := by decide +kernel
theorem dX2_putStrong_52 : decode cX2_putStrong 52 = .ok (.ldc2_w 185, 3) := by decide +kernel
theorem dX2_putStrong_55 : decode cX2_putStrong 55 = .ok (.lload_n 2, 1) := by decide +kernel
theorem dX2_putStrong_56 : decode cX2_putStrong 56 = .ok (.lmul, 1) := by decide +kernel
theorem dX2_putStrong_57 : decode cX2_putStrong 57 = .ok (.invokevirtual 39, 3) := by decide +kernel
theorem dX2_putStrong_60 : decode cX2_putStrong 60 = .ok (.aload_n 1, 1) := by decide +kernel
theorem dX2_putStrong_61 : decode cX2_putStrong 61 = .ok (.iload_n 0, 1) := by decide +kernel
theorem dX2_putStrong_62 : decode cX2_putStrong 62 = .ok (.iconst 2, 1) := by decide +kernel
theorem dX2_putStrong_63 : decode cX2_putStrong 63 = .ok (.iadd, 1) := by decide +kernel
theorem dX2_putStrong_64 : decode cX2_putStrong 64 = .ok (.ldc2_w 185, 3) := by decide +kernel
theorem dX2_putStrong_67 : decode cX2_putStrong 67 = .ok (.lload_n 2, 1) := by decide +kernel
theorem dX2_putStrong_68 : decode cX2_putStrong 68 = .ok (.lmul, 1) := by decide +kernel
theorem dX2_putStrong_69 : decode cX2_putStrong 69 = .ok (.ldc2_w 183, 3) := by decide +kernel
theorem dX2_putStrong_72 : decode cX2_putStrong 72 = .ok (.ladd, 1) := by decide +kernel
theorem dX2_putStrong_73 : decode cX2_putStrong 73 = .ok (.iload_n 0, 1) := by decide +kernel
theorem dX2_putStrong_74 : decode cX2_putStrong 74 = .ok (.iconst 2, 1) := by decide +kernel
theorem dX2_putStrong_75 : decode cX2_putStrong 75 = .ok (.iadd, 1) := by decide +kernel
theorem dX2_putStrong_76 : decode cX2_putStrong 76 = .ok (.ldc2_w 185, 3) := by decide +kernel
theorem dX2_putStrong_79 : decode cX2_putStrong 79 = .ok (.lload_n 2, 1) := by decide +kernel
theorem dX2_putStrong_80 : decode cX2_putStrong 80 = .ok (.lmul, 1) := by decide +kernel
theorem dX2_putStrong_81 : decode cX2_putStrong 81 = .ok (.lconst 1, 1) := by decide +kernel
theorem dX2_putStrong_82 : decode cX2_putStrong 82 = .ok (.ladd, 1) := by decide +kernel
theorem dX2_putStrong_83 : decode cX2_putStrong 83 = .ok (.invokevirtual 39, 3) := by decide +kernel
theorem dX2_putStrong_86 : decode cX2_putStrong 86 = .ok (.aload_n 1, 1) := by decide +kernel
theorem dX2_putStrong_87 : decode cX2_putStrong 87 = .ok (.iload_n 0, 1) := by decide +kernel
theorem dX2_putStrong_88 : decode cX2_putStrong 88 = .ok (.iconst 2, 1) := by decide +kernel
theorem dX2_putStrong_89 : decode cX2_putStrong 89 = .ok (.iadd, 1) := by decide +kernel
theorem dX2_putStrong_90 : decode cX2_putStrong 90 = .ok (.ldc2_w 185, 3) := by decide +kernel
theorem dX2_putStrong_93 : decode cX2_putStrong 93 = .ok (.lload_n 2, 1) := by decide +kernel
theorem dX2_putStrong_94 : decode cX2_putStrong 94 = .ok (.lmul, 1) := by decide +kernel
theorem dX2_putStrong_95 : decode cX2_putStrong 95 = .ok (.ldc2_w 187, 3) := by decide +kernel
theorem dX2_putStrong_98 : decode cX2_putStrong 98 = .ok (.ladd, 1) := by decide +kernel
theorem dX2_putStrong_99 : decode cX2_putStrong 99 = .ok (.iload_n 0, 1) := by decide +kernel
theorem dX2_putStrong_100 : decode cX2_putStrong 100 = .ok (.iconst 1, 1) := by decide +kernel
theorem dX2_putStrong_101 : decode cX2_putStrong 101 = .ok (.iadd, 1) := by decide +kernel
theorem dX2_putStrong_102 : decode cX2_putStrong 102 = .ok (.ldc2_w 183, 3) := by decide +kernel
theorem dX2_putStrong_105 : decode cX2_putStrong 105 = .ok (.lload_n 2, 1) := by decide +kernel
theorem dX2_putStrong_106 : decode cX2_putStrong 106 = .ok (.lmul, 1) := by decide +kernel
theorem dX2_putStrong_107 : decode cX2_putStrong 107 = .ok (.lconst 1, 1) := by decide +kernel
theorem dX2_putStrong_108 : decode cX2_putStrong 108 = .ok (.ladd, 1) := by decide +kernel
theorem dX2_putStrong_109 : decode cX2_putStrong 109 = .ok (.invokevirtual 39, 3) := by decide +kernel
theorem dX2_putStrong_112 : decode cX2_putStrong 112 = .ok (.return_, 1) := by decide +kernel
set_option maxRecDepth 20000 in
theorem ggX2_putBehind_X1_secondEnd : GoodIn wsX2_putBehind wsX1_secondEnd := goodIn_r _ [6, 7, 8, 9, 10, 11, 48, 49, 50, 51, 52] (by decide +kernel) (by decide +kernel)
set_option maxRecDepth 20000 in
theorem gX2_putBehind_X1_secondEnd : GoodIn wsX2_putBehind (wsV RX2 163 RX1 yX1_secondEnd wsX1_secondEnd) := goodIn_app (goodIn_of _ (by decide +kernel)) ggX2_putBehind_X1_secondEnd
set_option maxRecDepth 20000 in
theorem ggX2_putBehind_X1_secondStart : GoodIn wsX2_putBehind wsX1_secondStart := goodIn_r _ [15, 7, 8, 9, 10, 11, 48, 49, 50, 51, 52] (by decide +kernel) (by decide +kernel)
set_option maxRecDepth 20000 in
theorem gX2_putBehind_X1_secondStart : GoodIn wsX2_putBehind (wsV RX2 167 RX1 yX1_secondStart wsX1_secondStart) := goodIn_app (goodIn_of _ (by decide +kernel)) ggX2_putBehind_X1_secondStart
set_option maxRecDepth 20000 in
theorem ggX2_putBehind_X1_holderOf : GoodIn wsX2_putBehind wsX1_holderOf := goodIn_r _ [19, 20, 21, 22, 23, 5, 24, 25, 26, 9, 10, 11, 48, 49, 50, 51, 52] (by decide +kernel) (by decide +kernel)
set_option maxRecDepth 20000 in
theorem gX2_putBehind_X1_holderOf : GoodIn wsX2_putBehind (wsV RX2 107 RX1 yX1_holderOf wsX1_holderOf) := goodIn_app (goodIn_of _ (by decide +kernel)) ggX2_putBehind_X1_holderOf
set_option maxRecDepth 20000 in
theorem ggX2_putBehind_X1_firstStart : GoodIn wsX2_putBehind wsX1_firstStart := goodIn_r _ [24, 25, 26, 9, 10, 11, 48, 49, 50, 51, 52] (by decide +kernel) (by decide +kernel)
set_option maxRecDepth 20000 in
theorem gX2_putBehind_X1_firstStart : GoodIn wsX2_putBehind (wsV RX2 174 RX1 yX1_firstStart wsX1_firstStart) := goodIn_app (goodIn_of _ (by decide +kernel)) ggX2_putBehind_X1_firstStart
set_option maxRecDepth 20000 in
theorem ggX2_putBehind_X2_putPiece : GoodIn wsX2_putBehind wsX2_putPiece := goodIn_r _ [30, 31, 32, 33, 34, 35, 36, 37, 5, 38, 20, 25, 26, 39, 7, 8, 40, 41, 42, 43, 44, 45, 46, 47, 48, 49, 50, 51, 52] (by decide +kernel) (by decide +kernel)
set_option maxRecDepth 20000 in
theorem gX2_putBehind_X2_putPiece : GoodIn wsX2_putBehind (va_wsS RX2 189 yX2_putPiece wsX2_putPiece) := goodIn_app (goodIn_of _ (by decide +kernel)) ggX2_putBehind_X2_putPiece
theorem dX2_putBehind_0 : decode cX2_putBehind 0 = .ok (.aload_n 2, 1) := by decide +kernel
theorem dX2_putBehind_1 : decode cX2_putBehind 1 = .ok (.iconst 0, 1) := by decide +kernel
theorem dX2_putBehind_2 : decode cX2_putBehind 2 = .ok (.putfield 35, 3) := by decide +kernel
theorem dX2_putBehind_5 : decode cX2_putBehind 5 = .ok (.iconst 0, 1) := by decide +kernel
theorem dX2_putBehind_6 : decode cX2_putBehind 6 = .ok (.istore_n 3, 1) := by decide +kernel
theorem dX2_putBehind_7 : decode cX2_putBehind 7 = .ok (.iload_n 3, 1) := by decide +kernel
theorem dX2_putBehind_8 : decode cX2_putBehind 8 = .ok (.aload_n 0, 1) := by decide +kernel
theorem dX2_putBehind_9 : decode cX2_putBehind 9 = .ok (.getfield 35, 3) := by decide +kernel
theorem dX2_putBehind_12 : decode cX2_putBehind 12 = .ok (.if_icmp .ge 67, 3) := by decide +kernel
theorem dX2_putBehind_15 : decode cX2_putBehind 15 = .ok (.aload_n 0, 1) := by decide +kernel
theorem dX2_putBehind_16 : decode cX2_putBehind 16 = .ok (.iload_n 3, 1) := by decide +kernel
theorem dX2_putBehind_17 : decode cX2_putBehind 17 = .ok (.invokevirtual 163, 3) := by decide +kernel
theorem dX2_putBehind_20 : decode cX2_putBehind 20 = .ok (.lstore 4, 2) := by decide +kernel
theorem dX2_putBehind_22 : decode cX2_putBehind 22 = .ok (.aload_n 1, 1) := by decide +kernel
theorem dX2_putBehind_23 : decode cX2_putBehind 23 = .ok (.aload_n 0, 1) := by decide +kernel
theorem dX2_putBehind_24 : decode cX2_putBehind 24 = .ok (.iload_n 3, 1) := by decide +kernel
theorem dX2_putBehind_25 : decode cX2_putBehind 25 = .ok (.invokevirtual 167, 3) := by decide +kernel
theorem dX2_putBehind_28 : decode cX2_putBehind 28 = .ok (.invokevirtual 107, 3) := by decide +kernel
theorem dX2_putBehind_31 : decode cX2_putBehind 31 = .ok (.istore 6, 2) := by decide +kernel
theorem dX2_putBehind_33 : decode cX2_putBehind 33 = .ok (.iload 6, 2) := by decide +kernel
theorem dX2_putBehind_35 : decode cX2_putBehind 35 = .ok (.istore 7, 2) := by decide +kernel
theorem dX2_putBehind_37 : decode cX2_putBehind 37 = .ok (.iload 7, 2) := by decide +kernel
theorem dX2_putBehind_39 : decode cX2_putBehind 39 = .ok (.aload_n 1, 1) := by decide +kernel
theorem dX2_putBehind_40 : decode cX2_putBehind 40 = .ok (.getfield 35, 3) := by decide +kernel
theorem dX2_putBehind_43 : decode cX2_putBehind 43 = .ok (.if_icmp .ge 30, 3) := by decide +kernel
theorem dX2_putBehind_46 : decode cX2_putBehind 46 = .ok (.aload_n 1, 1) := by decide +kernel
theorem dX2_putBehind_47 : decode cX2_putBehind 47 = .ok (.iload 7, 2) := by decide +kernel
theorem dX2_putBehind_49 : decode cX2_putBehind 49 = .ok (.invokevirtual 174, 3) := by decide +kernel
theorem dX2_putBehind_52 : decode cX2_putBehind 52 = .ok (.lload 4, 2) := by decide +kernel
theorem dX2_putBehind_54 : decode cX2_putBehind 54 = .ok (.lcmp, 1) := by decide +kernel
theorem dX2_putBehind_55 : decode cX2_putBehind 55 = .ok (.ifCond .ge 18, 3) := by decide +kernel
theorem dX2_putBehind_58 : decode cX2_putBehind 58 = .ok (.aload_n 0, 1) := by decide +kernel
theorem dX2_putBehind_59 : decode cX2_putBehind 59 = .ok (.iload_n 3, 1) := by decide +kernel
theorem dX2_putBehind_60 : decode cX2_putBehind 60 = .ok (.aload_n 1, 1) := by decide +kernel
theorem dX2_putBehind_61 : decode cX2_putBehind 61 = .ok (.iload 7, 2) := by decide +kernel
theorem dX2_putBehind_63 : decode cX2_putBehind 63 = .ok (.aload_n 2, 1) := by decide +kernel
theorem dX2_putBehind_64 : decode cX2_putBehind 64 = .ok (.invokestatic 189, 3) := by decide +kernel
theorem dX2_putBehind_67 : decode cX2_putBehind 67 = .ok (.iinc 7 1, 3) := by decide +kernel
theorem dX2_putBehind_70 : decode cX2_putBehind 70 = .ok (.goto (-33), 3) := by decide +kernel
theorem dX2_putBehind_73 : decode cX2_putBehind 73 = .ok (.iinc 3 1, 3) := by decide +kernel
theorem dX2_putBehind_76 : decode cX2_putBehind 76 = .ok (.goto (-69), 3) := by decide +kernel
theorem dX2_putBehind_79 : decode cX2_putBehind 79 = .ok (.return_, 1) := by decide +kernel
set_option maxRecDepth 20000 in
theorem ggX2_putPiece_X1_push : GoodIn wsX2_putPiece wsX1_push := goodIn_r _ [9, 10, 11, 12, 13, 14, 15, 16, 17, 18, 8, 19, 20, 21, 22, 23, 24, 25, 26, 27, 28] (by decide +kernel) (by decide +kernel)
set_option maxRecDepth 20000 in
theorem gX2_putPiece_X1_push : GoodIn wsX2_putPiece (wsV RX2 177 RX1 yX1_push wsX1_push) := goodIn_app (goodIn_of _ (by decide +kernel)) ggX2_putPiece_X1_push
theorem dX2_putPiece_0 : decode cX2_putPiece 0 = .ok (.aload_n 2, 1) := by decide +kernel
theorem dX2_putPiece_1 : decode cX2_putPiece 1 = .ok (.getfield 111, 3) := by decide +kernel
theorem dX2_putPiece_4 : decode cX2_putPiece 4 = .ok (.iload_n 3, 1) := by decide +kernel
theorem dX2_putPiece_5 : decode cX2_putPiece 5 = .ok (.iaload, 1) := by decide +kernel
theorem dX2_putPiece_6 : decode cX2_putPiece 6 = .ok (.aload_n 0, 1) := by decide +kernel
theorem dX2_putPiece_7 : decode cX2_putPiece 7 = .ok (.getfield 114, 3) := by decide +kernel
theorem dX2_putPiece_10 : decode cX2_putPiece 10 = .ok (.iload_n 1, 1) := by decide +kernel
theorem dX2_putPiece_11 : decode cX2_putPiece 11 = .ok (.iaload, 1) := by decide +kernel
theorem dX2_putPiece_12 : decode cX2_putPiece 12 = .ok (.isub, 1) := by decide +kernel
theorem dX2_putPiece_13 : decode cX2_putPiece 13 = .ok (.istore 5, 2) := by decide +kernel
theorem dX2_putPiece_15 : decode cX2_putPiece 15 = .ok (.iload 5, 2) := by decide +kernel
theorem dX2_putPiece_17 : decode cX2_putPiece 17 = .ok (.ifCond .lt 62, 3) := by decide +kernel
theorem dX2_putPiece_20 : decode cX2_putPiece 20 = .ok (.aload_n 2, 1) := by decide +kernel
theorem dX2_putPiece_21 : decode cX2_putPiece 21 = .ok (.getfield 117, 3) := by decide +kernel
theorem dX2_putPiece_24 : decode cX2_putPiece 24 = .ok (.iload_n 3, 1) := by decide +kernel
theorem dX2_putPiece_25 : decode cX2_putPiece 25 = .ok (.laload, 1) := by decide +kernel
theorem dX2_putPiece_26 : decode cX2_putPiece 26 = .ok (.aload_n 0, 1) := by decide +kernel
theorem dX2_putPiece_27 : decode cX2_putPiece 27 = .ok (.getfield 121, 3) := by decide +kernel
theorem dX2_putPiece_30 : decode cX2_putPiece 30 = .ok (.iload_n 1, 1) := by decide +kernel
theorem dX2_putPiece_31 : decode cX2_putPiece 31 = .ok (.laload, 1) := by decide +kernel
theorem dX2_putPiece_32 : decode cX2_putPiece 32 = .ok (.iload 5, 2) := by decide +kernel
theorem dX2_putPiece_34 : decode cX2_putPiece 34 = .ok (.lshl, 1) := by decide +kernel
theorem dX2_putPiece_35 : decode cX2_putPiece 35 = .ok (.lsub, 1) := by decide +kernel
theorem dX2_putPiece_36 : decode cX2_putPiece 36 = .ok (.lstore 6, 2) := by decide +kernel
theorem dX2_putPiece_38 : decode cX2_putPiece 38 = .ok (.aload 4, 2) := by decide +kernel
theorem dX2_putPiece_40 : decode cX2_putPiece 40 = .ok (.aload_n 0, 1) := by decide +kernel
theorem dX2_putPiece_41 : decode cX2_putPiece 41 = .ok (.getfield 111, 3) := by decide +kernel
theorem dX2_putPiece_44 : decode cX2_putPiece 44 = .ok (.iload_n 1, 1) := by decide +kernel
theorem dX2_putPiece_45 : decode cX2_putPiece 45 = .ok (.iaload, 1) := by decide +kernel
theorem dX2_putPiece_46 : decode cX2_putPiece 46 = .ok (.iload 5, 2) := by decide +kernel
theorem dX2_putPiece_48 : decode cX2_putPiece 48 = .ok (.iadd, 1) := by decide +kernel
theorem dX2_putPiece_49 : decode cX2_putPiece 49 = .ok (.aload_n 0, 1) := by decide +kernel
theorem dX2_putPiece_50 : decode cX2_putPiece 50 = .ok (.getfield 117, 3) := by decide +kernel
theorem dX2_putPiece_53 : decode cX2_putPiece 53 = .ok (.iload_n 1, 1) := by decide +kernel
theorem dX2_putPiece_54 : decode cX2_putPiece 54 = .ok (.laload, 1) := by decide +kernel
theorem dX2_putPiece_55 : decode cX2_putPiece 55 = .ok (.iload 5, 2) := by decide +kernel
theorem dX2_putPiece_57 : decode cX2_putPiece 57 = .ok (.lshl, 1) := by decide +kernel
theorem dX2_putPiece_58 : decode cX2_putPiece 58 = .ok (.lload 6, 2) := by decide +kernel
theorem dX2_putPiece_60 : decode cX2_putPiece 60 = .ok (.ladd, 1) := by decide +kernel
theorem dX2_putPiece_61 : decode cX2_putPiece 61 = .ok (.aload_n 2, 1) := by decide +kernel
theorem dX2_putPiece_62 : decode cX2_putPiece 62 = .ok (.getfield 114, 3) := by decide +kernel
theorem dX2_putPiece_65 : decode cX2_putPiece 65 = .ok (.iload_n 3, 1) := by decide +kernel
theorem dX2_putPiece_66 : decode cX2_putPiece 66 = .ok (.iaload, 1) := by decide +kernel
theorem dX2_putPiece_67 : decode cX2_putPiece 67 = .ok (.aload_n 2, 1) := by decide +kernel
theorem dX2_putPiece_68 : decode cX2_putPiece 68 = .ok (.getfield 121, 3) := by decide +kernel
theorem dX2_putPiece_71 : decode cX2_putPiece 71 = .ok (.iload_n 3, 1) := by decide +kernel
theorem dX2_putPiece_72 : decode cX2_putPiece 72 = .ok (.laload, 1) := by decide +kernel
theorem dX2_putPiece_73 : decode cX2_putPiece 73 = .ok (.invokevirtual 177, 3) := by decide +kernel
theorem dX2_putPiece_76 : decode cX2_putPiece 76 = .ok (.goto 61, 3) := by decide +kernel
theorem dX2_putPiece_79 : decode cX2_putPiece 79 = .ok (.aload_n 0, 1) := by decide +kernel
theorem dX2_putPiece_80 : decode cX2_putPiece 80 = .ok (.getfield 121, 3) := by decide +kernel
theorem dX2_putPiece_83 : decode cX2_putPiece 83 = .ok (.iload_n 1, 1) := by decide +kernel
theorem dX2_putPiece_84 : decode cX2_putPiece 84 = .ok (.laload, 1) := by decide +kernel
theorem dX2_putPiece_85 : decode cX2_putPiece 85 = .ok (.aload_n 2, 1) := by decide +kernel
theorem dX2_putPiece_86 : decode cX2_putPiece 86 = .ok (.getfield 117, 3) := by decide +kernel
theorem dX2_putPiece_89 : decode cX2_putPiece 89 = .ok (.iload_n 3, 1) := by decide +kernel
theorem dX2_putPiece_90 : decode cX2_putPiece 90 = .ok (.laload, 1) := by decide +kernel
theorem dX2_putPiece_91 : decode cX2_putPiece 91 = .ok (.iload 5, 2) := by decide +kernel
theorem dX2_putPiece_93 : decode cX2_putPiece 93 = .ok (.ineg, 1) := by decide +kernel
theorem dX2_putPiece_94 : decode cX2_putPiece 94 = .ok (.lshl, 1) := by decide +kernel
theorem dX2_putPiece_95 : decode cX2_putPiece 95 = .ok (.lsub, 1) := by decide +kernel
theorem dX2_putPiece_96 : decode cX2_putPiece 96 = .ok (.lstore 6, 2) := by decide +kernel
theorem dX2_putPiece_98 : decode cX2_putPiece 98 = .ok (.aload 4, 2) := by decide +kernel
theorem dX2_putPiece_100 : decode cX2_putPiece 100 = .ok (.aload_n 0, 1) := by decide +kernel
theorem dX2_putPiece_101 : decode cX2_putPiece 101 = .ok (.getfield 111, 3) := by decide +kernel
theorem dX2_putPiece_104 : decode cX2_putPiece 104 = .ok (.iload_n 1, 1) := by decide +kernel
theorem dX2_putPiece_105 : decode cX2_putPiece 105 = .ok (.iaload, 1) := by decide +kernel
theorem dX2_putPiece_106 : decode cX2_putPiece 106 = .ok (.aload_n 0, 1) := by decide +kernel
theorem dX2_putPiece_107 : decode cX2_putPiece 107 = .ok (.getfield 117, 3) := by decide +kernel
theorem dX2_putPiece_110 : decode cX2_putPiece 110 = .ok (.iload_n 1, 1) := by decide +kernel
theorem dX2_putPiece_111 : decode cX2_putPiece 111 = .ok (.laload, 1) := by decide +kernel
theorem dX2_putPiece_112 : decode cX2_putPiece 112 = .ok (.aload_n 2, 1) := by decide +kernel
theorem dX2_putPiece_113 : decode cX2_putPiece 113 = .ok (.getfield 114, 3) := by decide +kernel
theorem dX2_putPiece_116 : decode cX2_putPiece 116 = .ok (.iload_n 3, 1) := by decide +kernel
theorem dX2_putPiece_117 : decode cX2_putPiece 117 = .ok (.iaload, 1) := by decide +kernel
theorem dX2_putPiece_118 : decode cX2_putPiece 118 = .ok (.iload 5, 2) := by decide +kernel
theorem dX2_putPiece_120 : decode cX2_putPiece 120 = .ok (.isub, 1) := by decide +kernel
theorem dX2_putPiece_121 : decode cX2_putPiece 121 = .ok (.aload_n 2, 1) := by decide +kernel
theorem dX2_putPiece_122 : decode cX2_putPiece 122 = .ok (.getfield 121, 3) := by decide +kernel
theorem dX2_putPiece_125 : decode cX2_putPiece 125 = .ok (.iload_n 3, 1) := by decide +kernel
theorem dX2_putPiece_126 : decode cX2_putPiece 126 = .ok (.laload, 1) := by decide +kernel
theorem dX2_putPiece_127 : decode cX2_putPiece 127 = .ok (.iload 5, 2) := by decide +kernel
theorem dX2_putPiece_129 : decode cX2_putPiece 129 = .ok (.ineg, 1) := by decide +kernel
theorem dX2_putPiece_130 : decode cX2_putPiece 130 = .ok (.lshl, 1) := by decide +kernel
theorem dX2_putPiece_131 : decode cX2_putPiece 131 = .ok (.lload 6, 2) := by decide +kernel
theorem dX2_putPiece_133 : decode cX2_putPiece 133 = .ok (.ladd, 1) := by decide +kernel
theorem dX2_putPiece_134 : decode cX2_putPiece 134 = .ok (.invokevirtual 177, 3) := by decide +kernel
theorem dX2_putPiece_137 : decode cX2_putPiece 137 = .ok (.return_, 1) := by decide +kernel
set_option maxRecDepth 20000 in
theorem ggX2_isRaised_X2_putTurned : GoodIn wsX2_isRaised wsX2_putTurned := goodIn_r _ [10, 11, 12, 13, 14, 15, 16, 17, 18, 19, 20, 21, 22, 23, 24, 25, 26, 27, 28, 29, 30, 31, 32, 33, 34, 9, 35, 36, 37, 38, 39, 40, 41, 91, 92, 93, 94, 95] (by decide +kernel) (by decide +kernel)
set_option maxRecDepth 20000 in
theorem gX2_isRaised_X2_putTurned : GoodIn wsX2_isRaised (va_wsS RX2 47 yX2_putTurned wsX2_putTurned) := goodIn_app (goodIn_of _ (by decide +kernel)) ggX2_isRaised_X2_putTurned
set_option maxRecDepth 20000 in
theorem ggX2_isRaised_X1_becomeNothing : GoodIn wsX2_isRaised wsX1_becomeNothing := goodIn_r _ [45, 21, 46, 17, 18, 19, 20, 22, 23, 24, 25, 91, 92, 93, 94, 95] (by decide +kernel) (by decide +kernel)
set_option maxRecDepth 20000 in
theorem gX2_isRaised_X1_becomeNothing : GoodIn wsX2_isRaised (wsV RX2 88 RX1 yX1_becomeNothing wsX1_becomeNothing) := goodIn_app (goodIn_of _ (by decide +kernel)) ggX2_isRaised_X1_becomeNothing
set_option maxRecDepth 20000 in
theorem ggX2_isRaised_X2_isOneMore : GoodIn wsX2_isRaised wsX2_isOneMore := goodIn_r _ [50, 2, 51, 11, 52, 53, 9, 54, 55, 56, 57, 19, 58, 24, 25, 34, 35, 59, 60, 61, 62, 63, 64, 65, 66, 21, 30, 31, 32, 33, 22, 23, 67, 68, 69, 70, 14, 12, 15, 13, 71, 72, 73, 74, 75, 46, 17, 18, 20, 76, 77, 78, 79, 80, 81, 82, 16, 83, 84, 85, 86, 87, 88, 89, 90, 91, 92, 93, 94, 95] (by decide +kernel) (by decide +kernel)
set_option maxRecDepth 20000 in
theorem gX2_isRaised_X2_isOneMore : GoodIn wsX2_isRaised (wsV RX2 91 RX2 yX2_isOneMore wsX2_isOneMore) := goodIn_app (goodIn_of _ (by decide +kernel)) ggX2_isRaised_X2_isOneMore
theorem dX2_isRaised_0 : decode cX2_isRaised 0 = .ok (.aload_n 1, 1) := by decide +kernel
theorem dX2_isRaised_1 : decode cX2_isRaised 1 = .ok (.astore_n 3, 1) := by decide +kernel
theorem dX2_isRaised_2 : decode cX2_isRaised 2 = .ok (.iload_n 2, 1) := by decide +kernel
theorem dX2_isRaised_3 : decode cX2_isRaised 3 = .ok (.ifCond .ge 16, 3) := by decide +kernel
theorem dX2_isRaised_6 : decode cX2_isRaised 6 = .ok (.aload_n 1, 1) := by decide +kernel
theorem dX2_isRaised_7 : decode cX2_isRaised 7 = .ok (.aload_n 0, 1) := by decide +kernel
theorem dX2_isRaised_8 : decode cX2_isRaised 8 = .ok (.getfield 28, 3) := by decide +kernel
theorem dX2_isRaised_11 : decode cX2_isRaised 11 = .ok (.invokestatic 47, 3) := by decide +kernel
theorem dX2_isRaised_14 : decode cX2_isRaised 14 = .ok (.aload_n 0, 1) := by decide +kernel
theorem dX2_isRaised_15 : decode cX2_isRaised 15 = .ok (.getfield 28, 3) := by decide +kernel
theorem dX2_isRaised_18 : decode cX2_isRaised 18 = .ok (.astore_n 3, 1) := by decide +kernel
theorem dX2_isRaised_19 : decode cX2_isRaised 19 = .ok (.aload_n 0, 1) := by decide +kernel
theorem dX2_isRaised_20 : decode cX2_isRaised 20 = .ok (.getfield 25, 3) := by decide +kernel
theorem dX2_isRaised_23 : decode cX2_isRaised 23 = .ok (.invokevirtual 88, 3) := by decide +kernel
theorem dX2_isRaised_26 : decode cX2_isRaised 26 = .ok (.iload_n 2, 1) := by decide +kernel
theorem dX2_isRaised_27 : decode cX2_isRaised 27 = .ok (.invokestatic 193, 3) := by decide +kernel
theorem dX2_isRaised_30 : decode cX2_isRaised 30 = .ok (.istore 4, 2) := by decide +kernel
theorem dX2_isRaised_32 : decode cX2_isRaised 32 = .ok (.iconst 0, 1) := by decide +kernel
theorem dX2_isRaised_33 : decode cX2_isRaised 33 = .ok (.istore 5, 2) := by decide +kernel
theorem dX2_isRaised_35 : decode cX2_isRaised 35 = .ok (.iload 5, 2) := by decide +kernel
theorem dX2_isRaised_37 : decode cX2_isRaised 37 = .ok (.iload 4, 2) := by decide +kernel
theorem dX2_isRaised_39 : decode cX2_isRaised 39 = .ok (.if_icmp .ge 19, 3) := by decide +kernel
theorem dX2_isRaised_42 : decode cX2_isRaised 42 = .ok (.aload_n 0, 1) := by decide +kernel
theorem dX2_isRaised_43 : decode cX2_isRaised 43 = .ok (.aload_n 3, 1) := by decide +kernel
theorem dX2_isRaised_44 : decode cX2_isRaised 44 = .ok (.invokevirtual 91, 3) := by decide +kernel
theorem dX2_isRaised_47 : decode cX2_isRaised 47 = .ok (.ifCond .ne 5, 3) := by decide +kernel
theorem dX2_isRaised_50 : decode cX2_isRaised 50 = .ok (.iconst 0, 1) := by decide +kernel
theorem dX2_isRaised_51 : decode cX2_isRaised 51 = .ok (.ireturn, 1) := by decide +kernel
theorem dX2_isRaised_52 : decode cX2_isRaised 52 = .ok (.iinc 5 1, 3) := by decide +kernel
theorem dX2_isRaised_55 : decode cX2_isRaised 55 = .ok (.goto (-20), 3) := by decide +kernel
theorem dX2_isRaised_58 : decode cX2_isRaised 58 = .ok (.iconst 1, 1) := by decide +kernel
theorem dX2_isRaised_59 : decode cX2_isRaised 59 = .ok (.ireturn, 1) := by decide +kernel
set_option maxRecDepth 20000 in
theorem ggX2_isOneMore_X2_putBehind : GoodIn wsX2_isOneMore wsX2_putBehind := goodIn_r _ [7, 3, 8, 9, 10, 11, 12, 13, 14, 15, 6, 16, 17, 18, 19, 20, 21, 22, 23, 24, 25, 26, 27, 28, 29, 30, 31, 32, 33, 34, 35, 36, 37, 38, 39, 40, 41, 42, 43, 44, 45, 46, 47, 48, 49, 50, 51, 52, 65, 66, 67, 68, 69] (by decide +kernel) (by decide +kernel)
set_option maxRecDepth 20000 in
theorem gX2_isOneMore_X2_putBehind : GoodIn wsX2_isOneMore (va_wsS RX2 65 yX2_putBehind wsX2_putBehind) := goodIn_app (goodIn_of _ (by decide +kernel)) ggX2_isOneMore_X2_putBehind
set_option maxRecDepth 20000 in
theorem ggX2_isOneMore_X2_putCopy : GoodIn wsX2_isOneMore wsX2_putCopy := goodIn_r _ [55, 3, 36, 38, 37, 39, 56, 46, 47, 11, 48, 25, 30, 31, 13, 14, 65, 66, 67, 68, 69] (by decide +kernel) (by decide +kernel)
set_option maxRecDepth 20000 in
theorem gX2_isOneMore_X2_putCopy : GoodIn wsX2_isOneMore (va_wsS RX2 69 yX2_putCopy wsX2_putCopy) := goodIn_app (goodIn_of _ (by decide +kernel)) ggX2_isOneMore_X2_putCopy
theorem dX2_isOneMore_0 : decode cX2_isOneMore 0 = .ok (.aload_n 0, 1) := by decide +kernel
theorem dX2_isOneMore_1 : decode cX2_isOneMore 1 = .ok (.getfield 25, 3) := by decide +kernel
theorem dX2_isOneMore_4 : decode cX2_isOneMore 4 = .ok (.aload_n 1, 1) := by decide +kernel
theorem dX2_isOneMore_5 : decode cX2_isOneMore 5 = .ok (.aload_n 0, 1) := by decide +kernel
theorem dX2_isOneMore_6 : decode cX2_isOneMore 6 = .ok (.getfield 22, 3) := by decide +kernel
theorem dX2_isOneMore_9 : decode cX2_isOneMore 9 = .ok (.invokestatic 65, 3) := by decide +kernel
theorem dX2_isOneMore_12 : decode cX2_isOneMore 12 = .ok (.aload_n 0, 1) := by decide +kernel
theorem dX2_isOneMore_13 : decode cX2_isOneMore 13 = .ok (.getfield 22, 3) := by decide +kernel
theorem dX2_isOneMore_16 : decode cX2_isOneMore 16 = .ok (.getfield 35, 3) := by decide +kernel
theorem dX2_isOneMore_19 : decode cX2_isOneMore 19 = .ok (.bipush 24, 2) := by decide +kernel
theorem dX2_isOneMore_21 : decode cX2_isOneMore 21 = .ok (.if_icmp .le 5, 3) := by decide +kernel
theorem dX2_isOneMore_24 : decode cX2_isOneMore 24 = .ok (.iconst 0, 1) := by decide +kernel
theorem dX2_isOneMore_25 : decode cX2_isOneMore 25 = .ok (.ireturn, 1) := by decide +kernel
theorem dX2_isOneMore_26 : decode cX2_isOneMore 26 = .ok (.aload_n 0, 1) := by decide +kernel
theorem dX2_isOneMore_27 : decode cX2_isOneMore 27 = .ok (.getfield 22, 3) := by decide +kernel
theorem dX2_isOneMore_30 : decode cX2_isOneMore 30 = .ok (.aload_n 0, 1) := by decide +kernel
theorem dX2_isOneMore_31 : decode cX2_isOneMore 31 = .ok (.getfield 25, 3) := by decide +kernel
theorem dX2_isOneMore_34 : decode cX2_isOneMore 34 = .ok (.invokestatic 69, 3) := by decide +kernel
theorem dX2_isOneMore_37 : decode cX2_isOneMore 37 = .ok (.iconst 1, 1) := by decide +kernel
theorem dX2_isOneMore_38 : decode cX2_isOneMore 38 = .ok (.ireturn, 1) := by decide +kernel
set_option maxRecDepth 20000 in
theorem ggX2_nearOnes_X2_grownBall : GoodIn wsX2_nearOnes wsX2_grownBall := goodIn_r _ [6, 7, 8, 9, 10, 11, 12, 13, 14, 15, 16, 17, 18, 19, 20, 21, 22, 23, 24, 25, 26, 27, 28, 29, 30, 31, 32, 33, 34, 35, 36, 37, 38, 39, 40, 41, 42, 43, 5, 44, 45, 46, 47, 48, 49, 50, 51, 52, 53, 54, 55, 56, 57, 58, 59, 60, 61, 62, 63, 64, 65, 66, 67, 68, 69, 70, 71, 72, 73, 74, 75, 76, 77, 78, 79, 80, 81, 82, 83, 84, 85, 86, 87, 88, 89, 90, 91, 92, 93, 94, 95, 96, 97, 98, 99, 100, 101, 102, 103, 104, 105, 106, 107, 108, 109, 110, 111, 112, 113, 114, 115, 116, 117, 118, 119, 120, 121, 122, 123, 124, 125, 126, 127, 128, 129, 130, 131, 132, 133, 134, 135, 136, 137, 138, 139, 140, 141, 142, 143, 144, 145, 146, 147, 148, 149, 150, 151, 152, 153, 154, 155, 156, 157, 158, 159, 160, 161, 162, 163, 164, 165, 166, 167, 168, 169, 170, 171, 172, 173, 174, 175, 176, 177, 178, 179, 180, 181, 182, 183, 184, 185, 186, 187, 188, 189, 190, 191, 192, 193, 194, 195, 196, 197, 198, 199, 200, 201, 202, 203, 204, 205, 206, 207, 208, 209, 210, 211, 212, 213, 214, 215, 216, 217, 218, 219, 220, 229, 230, 221, 222, 223, 224, 225, 226, 227, 228, 231, 232, 233, 234, 235, 236, 237, 238] (by decide +kernel) (by decide +kernel)
set_option maxRecDepth 20000 in
theorem gX2_nearOnes_X2_grownBall : GoodIn wsX2_nearOnes (wsV RX2 202 RX2 yX2_grownBall wsX2_grownBall) := goodIn_app (goodIn_of _ (by decide +kernel)) ggX2_nearOnes_X2_grownBall
theorem dX2_nearOnes_0 : decode cX2_nearOnes 0 = .ok (.aload_n 0, 1) := by decide +kernel
theorem dX2_nearOnes_1 : decode cX2_nearOnes 1 = .ok (.getfield 198, 3) := by decide +kernel
theorem dX2_nearOnes_4 : decode cX2_nearOnes 4 = .ok (.ifnonnull 11, 3) := by decide +kernel
theorem dX2_nearOnes_7 : decode cX2_nearOnes 7 = .ok (.aload_n 0, 1) := by decide +kernel
theorem dX2_nearOnes_8 : decode cX2_nearOnes 8 = .ok (.aload_n 0, 1) := by decide +kernel
theorem dX2_nearOnes_9 : decode cX2_nearOnes 9 = .ok (.invokevirtual 202, 3) := by decide +kernel
theorem dX2_nearOnes_12 : decode cX2_nearOnes 12 = .ok (.putfield 198, 3) := by decide +kernel
theorem dX2_nearOnes_15 : decode cX2_nearOnes 15 = .ok (.aload_n 0, 1) := by decide +kernel
theorem dX2_nearOnes_16 : decode cX2_nearOnes 16 = .ok (.getfield 198, 3) := by decide +kernel
theorem dX2_nearOnes_19 : decode cX2_nearOnes 19 = .ok (.areturn, 1) := by decide +kernel
set_option maxRecDepth 20000 in
theorem ggX2_grownBall_X0_init : GoodIn wsX2_grownBall wsX0_init := goodIn_r _ [11, 12, 13, 14, 15, 16, 17, 18, 19, 20, 21, 22, 23, 24, 25, 26, 27, 28, 29, 30, 31, 32, 33, 34, 35, 226, 227, 228, 216, 217] (by decide +kernel) (by decide +kernel)
set_option maxRecDepth 20000 in
theorem gX2_grownBall_X0_init : GoodIn wsX2_grownBall (wsX0_init) := ggX2_grownBall_X0_init
set_option maxRecDepth 20000 in
theorem ggX2_grownBall_X2_stepsOfLength : GoodIn wsX2_grownBall wsX2_stepsOfLength := goodIn_r _ [39, 40, 41, 42, 43, 44, 45, 46, 13, 14, 47, 48, 49, 50, 19, 51, 52, 53, 54, 55, 56, 57, 38, 58, 59, 60, 61, 62, 63, 64, 65, 66, 67, 68, 69, 70, 71, 72, 73, 74, 75, 76, 77, 78, 79, 80, 81, 82, 83, 84, 85, 86, 87, 88, 89, 90, 229, 230, 231, 232, 233] (by decide +kernel) (by decide +kernel)
set_option maxRecDepth 20000 in
theorem gX2_grownBall_X2_stepsOfLength : GoodIn wsX2_grownBall (va_wsS RX2 206 yX2_stepsOfLength wsX2_stepsOfLength) := goodIn_app (goodIn_of _ (by decide +kernel)) ggX2_grownBall_X2_stepsOfLength
set_option maxRecDepth 20000 in
theorem ggX2_grownBall_X1_becomeNothing : GoodIn wsX2_grownBall wsX1_becomeNothing := goodIn_r _ [94, 67, 95, 64, 65, 42, 66, 51, 53, 54, 55, 229, 230, 231, 232, 233] (by decide +kernel) (by decide +kernel)
set_option maxRecDepth 20000 in
theorem gX2_grownBall_X1_becomeNothing : GoodIn wsX2_grownBall (wsV RX2 88 RX1 yX1_becomeNothing wsX1_becomeNothing) := goodIn_app (goodIn_of _ (by decide +kernel)) ggX2_grownBall_X1_becomeNothing
set_option maxRecDepth 20000 in
theorem ggX2_grownBall_X0_addNew : GoodIn wsX2_grownBall wsX0_addNew := goodIn_r _ [99, 100, 41, 42, 101, 18, 102, 103, 104, 3, 105, 106, 107, 108, 109, 17, 110, 111, 112, 113, 114, 115, 116, 117, 118, 119, 120, 121, 122, 123, 124, 125, 126, 127, 25, 128, 38, 129, 59, 130, 131, 132, 133, 51, 53, 54, 55, 134, 44, 45, 46, 13, 14, 47, 48, 49, 50, 19, 52, 135, 136, 73, 74, 71, 72, 63, 64, 65, 66, 67, 137, 138, 139, 140, 141, 142, 143, 144, 145, 146, 147, 148, 149, 150, 151, 152, 153, 154, 24, 155, 156, 157, 158, 159, 160, 161, 162, 163, 164, 165, 166, 167, 168, 169, 170, 171, 172, 173, 174, 175, 176, 177, 178, 179, 180, 181, 182, 183, 184, 185, 229, 230, 231, 232, 233, 216, 217, 226, 227, 228] (by decide +kernel) (by decide +kernel)
set_option maxRecDepth 20000 in
theorem gX2_grownBall_X0_addNew : GoodIn wsX2_grownBall (wsV RX2 210 RX0 yX0_addNew wsX0_addNew) := goodIn_app (goodIn_of _ (by decide +kernel)) ggX2_grownBall_X0_addNew
set_option maxRecDepth 20000 in
theorem ggX2_grownBall_Jx4a65c_get_915e3 : GoodIn wsX2_grownBall wsJx4a65c_get_915e3 := goodIn_r _ [115, 111, 116, 117, 118, 119, 120, 121, 122, 123, 124, 125, 126, 17, 127, 25, 226, 227, 228] (by decide +kernel) (by decide +kernel)
set_option maxRecDepth 20000 in
theorem gX2_grownBall_Jx4a65c_get_915e3_f218Jx4a65c : GoodIn wsX2_grownBall (va_wsF RX2 218 RJx4a65c ⟨"java/util/List", "get", "(I)Ljava/lang/Object;"⟩ yJx4a65c_get_915e3 wsJx4a65c_get_915e3) := goodIn_app (goodIn_of _ (by decide +kernel)) ggX2_grownBall_Jx4a65c_get_915e3
set_option maxRecDepth 20000 in
theorem ggX2_grownBall_X2_putBehind : GoodIn wsX2_grownBall wsX2_putBehind := goodIn_r _ [189, 59, 190, 191, 192, 42, 193, 54, 55, 83, 38, 84, 194, 195, 196, 197, 198, 199, 200, 201, 67, 79, 80, 81, 82, 51, 53, 202, 203, 204, 205, 73, 71, 74, 72, 206, 207, 208, 209, 210, 95, 64, 65, 66, 211, 212, 213, 214, 229, 230, 231, 232, 233] (by decide +kernel) (by decide +kernel)
set_option maxRecDepth 20000 in
theorem gX2_grownBall_X2_putBehind : GoodIn wsX2_grownBall (va_wsS RX2 65 yX2_putBehind wsX2_putBehind) := goodIn_app (goodIn_of _ (by decide +kernel)) ggX2_grownBall_X2_putBehind
set_option maxRecDepth 20000 in
theorem ggX2_grownBall_Jx4a65c_size_8abf5 : GoodIn wsX2_grownBall wsJx4a65c_size_8abf5 := goodIn_r _ [110, 111, 226, 227, 228] (by decide +kernel) (by decide +kernel)
set_option maxRecDepth 20000 in
theorem gX2_grownBall_Jx4a65c_size_8abf5_f224Jx4a65c : GoodIn wsX2_grownBall (va_wsF RX2 224 RJx4a65c ⟨"java/util/List", "size", "()I"⟩ yJx4a65c_size_8abf5 wsJx4a65c_size_8abf5) := goodIn_app (goodIn_of _ (by decide +kernel)) ggX2_grownBall_Jx4a65c_size_8abf5
theorem dX2_grownBall_0 : decode cX2_grownBall 0 = .ok (.new 99, 3) := by decide +kernel
theorem dX2_grownBall_3 : decode cX2_grownBall 3 = .ok (.dup, 1) := by decide +kernel
theorem dX2_grownBall_4 : decode cX2_grownBall 4 = .ok (.invokespecial 205, 3) := by decide +kernel
theorem dX2_grownBall_7 : decode cX2_grownBall 7 = .ok (.astore_n 1, 1) := by decide +kernel
theorem dX2_grownBall_8 : decode cX2_grownBall 8 = .ok (.invokestatic 206, 3) := by decide +kernel
theorem dX2_grownBall_11 : decode cX2_grownBall 11 = .ok (.astore_n 2, 1) := by decide +kernel
theorem dX2_grownBall_12 : decode cX2_grownBall 12 = .ok (.aload_n 0, 1) := by decide +kernel
theorem dX2_grownBall_13 : decode cX2_grownBall 13 = .ok (.getfield 25, 3) := by decide +kernel
theorem dX2_grownBall_16 : decode cX2_grownBall 16 = .ok (.invokevirtual 88, 3) := by decide +kernel
theorem dX2_grownBall_19 : decode cX2_grownBall 19 = .ok (.aload_n 1, 1) := by decide +kernel
theorem dX2_grownBall_20 : decode cX2_grownBall 20 = .ok (.aload_n 0, 1) := by decide +kernel
theorem dX2_grownBall_21 : decode cX2_grownBall 21 = .ok (.getfield 25, 3) := by decide +kernel
theorem dX2_grownBall_24 : decode cX2_grownBall 24 = .ok (.invokevirtual 210, 3) := by decide +kernel
theorem dX2_grownBall_27 : decode cX2_grownBall 27 = .ok (.aload_n 1, 1) := by decide +kernel
theorem dX2_grownBall_28 : decode cX2_grownBall 28 = .ok (.getfield 103, 3) := by decide +kernel
theorem dX2_grownBall_31 : decode cX2_grownBall 31 = .ok (.iconst 0, 1) := by decide +kernel
theorem dX2_grownBall_32 : decode cX2_grownBall 32 = .ok (.iconst 1, 1) := by decide +kernel
theorem dX2_grownBall_33 : decode cX2_grownBall 33 = .ok (.iastore, 1) := by decide +kernel
theorem dX2_grownBall_34 : decode cX2_grownBall 34 = .ok (.iconst 0, 1) := by decide +kernel
theorem dX2_grownBall_35 : decode cX2_grownBall 35 = .ok (.istore_n 3, 1) := by decide +kernel
theorem dX2_grownBall_36 : decode cX2_grownBall 36 = .ok (.iconst 1, 1) := by decide +kernel
theorem dX2_grownBall_37 : decode cX2_grownBall 37 = .ok (.istore 4, 2) := by decide +kernel
theorem dX2_grownBall_39 : decode cX2_grownBall 39 = .ok (.iload 4, 2) := by decide +kernel
theorem dX2_grownBall_41 : decode cX2_grownBall 41 = .ok (.iconst 4, 1) := by decide +kernel
theorem dX2_grownBall_42 : decode cX2_grownBall 42 = .ok (.if_icmp .gt 104, 3) := by decide +kernel
theorem dX2_grownBall_45 : decode cX2_grownBall 45 = .ok (.aload_n 1, 1) := by decide +kernel
theorem dX2_grownBall_46 : decode cX2_grownBall 46 = .ok (.getfield 103, 3) := by decide +kernel
theorem dX2_grownBall_49 : decode cX2_grownBall 49 = .ok (.iload 4, 2) := by decide +kernel
theorem dX2_grownBall_51 : decode cX2_grownBall 51 = .ok (.iconst 1, 1) := by decide +kernel
theorem dX2_grownBall_52 : decode cX2_grownBall 52 = .ok (.isub, 1) := by decide +kernel
theorem dX2_grownBall_53 : decode cX2_grownBall 53 = .ok (.iaload, 1) := by decide +kernel
theorem dX2_grownBall_54 : decode cX2_grownBall 54 = .ok (.istore 5, 2) := by decide +kernel
theorem dX2_grownBall_56 : decode cX2_grownBall 56 = .ok (.iload_n 3, 1) := by decide +kernel
theorem dX2_grownBall_57 : decode cX2_grownBall 57 = .ok (.istore 6, 2) := by decide +kernel
theorem dX2_grownBall_59 : decode cX2_grownBall 59 = .ok (.iload 6, 2) := by decide +kernel
theorem dX2_grownBall_61 : decode cX2_grownBall 61 = .ok (.iload 5, 2) := by decide +kernel
theorem dX2_grownBall_63 : decode cX2_grownBall 63 = .ok (.if_icmp .ge 58, 3) := by decide +kernel
theorem dX2_grownBall_66 : decode cX2_grownBall 66 = .ok (.iconst 0, 1) := by decide +kernel
theorem dX2_grownBall_67 : decode cX2_grownBall 67 = .ok (.istore 7, 2) := by decide +kernel
theorem dX2_grownBall_69 : decode cX2_grownBall 69 = .ok (.iload 7, 2) := by decide +kernel
theorem dX2_grownBall_71 : decode cX2_grownBall 71 = .ok (.aload_n 2, 1) := by decide +kernel
theorem dX2_grownBall_72 : decode cX2_grownBall 72 = .ok (.arraylength, 1) := by decide +kernel
theorem dX2_grownBall_73 : decode cX2_grownBall 73 = .ok (.if_icmp .ge 42, 3) := by decide +kernel
theorem dX2_grownBall_76 : decode cX2_grownBall 76 = .ok (.aload_n 1, 1) := by decide +kernel
theorem dX2_grownBall_77 : decode cX2_grownBall 77 = .ok (.getfield 214, 3) := by decide +kernel
theorem dX2_grownBall_80 : decode cX2_grownBall 80 = .ok (.iload 6, 2) := by decide +kernel
theorem dX2_grownBall_82 : decode cX2_grownBall 82 = .ok (.invokeinterface 218 2, 5) := by decide +kernel
theorem dX2_grownBall_87 : decode cX2_grownBall 87 = .ok (.checkcast 9, 3) := by decide +kernel
theorem dX2_grownBall_90 : decode cX2_grownBall 90 = .ok (.aload_n 2, 1) := by decide +kernel
theorem dX2_grownBall_91 : decode cX2_grownBall 91 = .ok (.iload 7, 2) := by decide +kernel
theorem dX2_grownBall_93 : decode cX2_grownBall 93 = .ok (.aaload, 1) := by decide +kernel
theorem dX2_grownBall_94 : decode cX2_grownBall 94 = .ok (.aload_n 0, 1) := by decide +kernel
theorem dX2_grownBall_95 : decode cX2_grownBall 95 = .ok (.getfield 22, 3) := by decide +kernel
theorem dX2_grownBall_98 : decode cX2_grownBall 98 = .ok (.invokestatic 65, 3) := by decide +kernel
theorem dX2_grownBall_101 : decode cX2_grownBall 101 = .ok (.aload_n 1, 1) := by decide +kernel
theorem dX2_grownBall_102 : decode cX2_grownBall 102 = .ok (.aload_n 0, 1) := by decide +kernel
theorem dX2_grownBall_103 : decode cX2_grownBall 103 = .ok (.getfield 22, 3) := by decide +kernel
theorem dX2_grownBall_106 : decode cX2_grownBall 106 = .ok (.invokevirtual 210, 3) := by decide +kernel
theorem dX2_grownBall_109 : decode cX2_grownBall 109 = .ok (.iinc 7 1, 3) := by decide +kernel
theorem dX2_grownBall_112 : decode cX2_grownBall 112 = .ok (.goto (-43), 3) := by decide +kernel
theorem dX2_grownBall_115 : decode cX2_grownBall 115 = .ok (.iinc 6 1, 3) := by decide +kernel
theorem dX2_grownBall_118 : decode cX2_grownBall 118 = .ok (.goto (-59), 3) := by decide +kernel
theorem dX2_grownBall_121 : decode cX2_grownBall 121 = .ok (.iload 5, 2) := by decide +kernel
theorem dX2_grownBall_123 : decode cX2_grownBall 123 = .ok (.istore_n 3, 1) := by decide +kernel
theorem dX2_grownBall_124 : decode cX2_grownBall 124 = .ok (.aload_n 1, 1) := by decide +kernel
theorem dX2_grownBall_125 : decode cX2_grownBall 125 = .ok (.getfield 103, 3) := by decide +kernel
theorem dX2_grownBall_128 : decode cX2_grownBall 128 = .ok (.iload 4, 2) := by decide +kernel
theorem dX2_grownBall_130 : decode cX2_grownBall 130 = .ok (.aload_n 1, 1) := by decide +kernel
theorem dX2_grownBall_131 : decode cX2_grownBall 131 = .ok (.getfield 214, 3) := by decide +kernel
theorem dX2_grownBall_134 : decode cX2_grownBall 134 = .ok (.invokeinterface 224 1, 5) := by decide +kernel
theorem dX2_grownBall_139 : decode cX2_grownBall 139 = .ok (.iastore, 1) := by decide +kernel
theorem dX2_grownBall_140 : decode cX2_grownBall 140 = .ok (.iinc 4 1, 3) := by decide +kernel
theorem dX2_grownBall_143 : decode cX2_grownBall 143 = .ok (.goto (-104), 3) := by decide +kernel
theorem dX2_grownBall_146 : decode cX2_grownBall 146 = .ok (.aload_n 1, 1) := by decide +kernel
theorem dX2_grownBall_147 : decode cX2_grownBall 147 = .ok (.areturn, 1) := by decide +kernel
set_option maxRecDepth 20000 in
theorem ggX2_stepsOfLength_X1_init : GoodIn wsX2_stepsOfLength wsX1_init := goodIn_r _ [6, 7, 8, 9, 10, 11, 12, 13, 14, 15, 16, 17, 18, 19, 56, 57, 58, 59, 60] (by decide +kernel) (by decide +kernel)
set_option maxRecDepth 20000 in
theorem gX2_stepsOfLength_X1_init : GoodIn wsX2_stepsOfLength (wsX1_init) := ggX2_stepsOfLength_X1_init
set_option maxRecDepth 20000 in
theorem ggX2_stepsOfLength_X2_putStrong : GoodIn wsX2_stepsOfLength wsX2_putStrong := goodIn_r _ [23, 24, 25, 26, 27, 28, 29, 30, 3, 31, 32, 15, 17, 18, 19, 56, 57, 58, 59, 60] (by decide +kernel) (by decide +kernel)
set_option maxRecDepth 20000 in
theorem gX2_stepsOfLength_X2_putStrong : GoodIn wsX2_stepsOfLength (va_wsS RX2 58 yX2_putStrong wsX2_putStrong) := goodIn_app (goodIn_of _ (by decide +kernel)) ggX2_stepsOfLength_X2_putStrong
set_option maxRecDepth 20000 in
theorem ggX2_stepsOfLength_X2_putTurned : GoodIn wsX2_stepsOfLength wsX2_putTurned := goodIn_r _ [35, 24, 36, 37, 38, 39, 28, 29, 30, 3, 31, 32, 15, 17, 18, 19, 40, 41, 42, 43, 44, 45, 46, 47, 48, 22, 49, 50, 51, 52, 53, 54, 55, 56, 57, 58, 59, 60] (by decide +kernel) (by decide +kernel)
set_option maxRecDepth 20000 in
theorem gX2_stepsOfLength_X2_putTurned : GoodIn wsX2_stepsOfLength (va_wsS RX2 47 yX2_putTurned wsX2_putTurned) := goodIn_app (goodIn_of _ (by decide +kernel)) ggX2_stepsOfLength_X2_putTurned
theorem dX2_stepsOfLength_0 : decode cX2_stepsOfLength 0 = .ok (.iconst 4, 1) := by decide +kernel
theorem dX2_stepsOfLength_1 : decode cX2_stepsOfLength 1 = .ok (.anewarray 9, 3) := by decide +kernel
theorem dX2_stepsOfLength_4 : decode cX2_stepsOfLength 4 = .ok (.astore_n 0, 1) := by decide +kernel
theorem dX2_stepsOfLength_5 : decode cX2_stepsOfLength 5 = .ok (.iconst 0, 1) := by decide +kernel
theorem dX2_stepsOfLength_6 : decode cX2_stepsOfLength 6 = .ok (.istore_n 1, 1) := by decide +kernel
theorem dX2_stepsOfLength_7 : decode cX2_stepsOfLength 7 = .ok (.iload_n 1, 1) := by decide +kernel
theorem dX2_stepsOfLength_8 : decode cX2_stepsOfLength 8 = .ok (.iconst 2, 1) := by decide +kernel
theorem dX2_stepsOfLength_9 : decode cX2_stepsOfLength 9 = .ok (.if_icmp .ge 63, 3) := by decide +kernel
theorem dX2_stepsOfLength_12 : decode cX2_stepsOfLength 12 = .ok (.aload_n 0, 1) := by decide +kernel
theorem dX2_stepsOfLength_13 : decode cX2_stepsOfLength 13 = .ok (.iconst 2, 1) := by decide +kernel
theorem dX2_stepsOfLength_14 : decode cX2_stepsOfLength 14 = .ok (.iload_n 1, 1) := by decide +kernel
theorem dX2_stepsOfLength_15 : decode cX2_stepsOfLength 15 = .ok (.imul, 1) := by decide +kernel
theorem dX2_stepsOfLength_16 : decode cX2_stepsOfLength 16 = .ok (.new 9, 3) := by decide +kernel
theorem dX2_stepsOfLength_19 : decode cX2_stepsOfLength 19 = .ok (.dup, 1) := by decide +kernel
theorem dX2_stepsOfLength_20 : decode cX2_stepsOfLength 20 = .ok (.bipush 24, 2) := by decide +kernel
theorem dX2_stepsOfLength_22 : decode cX2_stepsOfLength 22 = .ok (.invokespecial 15, 3) := by decide +kernel
theorem dX2_stepsOfLength_25 : decode cX2_stepsOfLength 25 = .ok (.aastore, 1) := by decide +kernel
theorem dX2_stepsOfLength_26 : decode cX2_stepsOfLength 26 = .ok (.aload_n 0, 1) := by decide +kernel
theorem dX2_stepsOfLength_27 : decode cX2_stepsOfLength 27 = .ok (.iconst 2, 1) := by decide +kernel
theorem dX2_stepsOfLength_28 : decode cX2_stepsOfLength 28 = .ok (.iload_n 1, 1) := by decide +kernel
theorem dX2_stepsOfLength_29 : decode cX2_stepsOfLength 29 = .ok (.imul, 1) := by decide +kernel
theorem dX2_stepsOfLength_30 : decode cX2_stepsOfLength 30 = .ok (.iconst 1, 1) := by decide +kernel
theorem dX2_stepsOfLength_31 : decode cX2_stepsOfLength 31 = .ok (.iadd, 1) := by decide +kernel
theorem dX2_stepsOfLength_32 : decode cX2_stepsOfLength 32 = .ok (.new 9, 3) := by decide +kernel
theorem dX2_stepsOfLength_35 : decode cX2_stepsOfLength 35 = .ok (.dup, 1) := by decide +kernel
theorem dX2_stepsOfLength_36 : decode cX2_stepsOfLength 36 = .ok (.bipush 24, 2) := by decide +kernel
theorem dX2_stepsOfLength_38 : decode cX2_stepsOfLength 38 = .ok (.invokespecial 15, 3) := by decide +kernel
theorem dX2_stepsOfLength_41 : decode cX2_stepsOfLength 41 = .ok (.aastore, 1) := by decide +kernel
theorem dX2_stepsOfLength_42 : decode cX2_stepsOfLength 42 = .ok (.iload_n 1, 1) := by decide +kernel
theorem dX2_stepsOfLength_43 : decode cX2_stepsOfLength 43 = .ok (.aload_n 0, 1) := by decide +kernel
theorem dX2_stepsOfLength_44 : decode cX2_stepsOfLength 44 = .ok (.iconst 2, 1) := by decide +kernel
theorem dX2_stepsOfLength_45 : decode cX2_stepsOfLength 45 = .ok (.iload_n 1, 1) := by decide +kernel
theorem dX2_stepsOfLength_46 : decode cX2_stepsOfLength 46 = .ok (.imul, 1) := by decide +kernel
theorem dX2_stepsOfLength_47 : decode cX2_stepsOfLength 47 = .ok (.aaload, 1) := by decide +kernel
theorem dX2_stepsOfLength_48 : decode cX2_stepsOfLength 48 = .ok (.invokestatic 58, 3) := by decide +kernel
theorem dX2_stepsOfLength_51 : decode cX2_stepsOfLength 51 = .ok (.aload_n 0, 1) := by decide +kernel
theorem dX2_stepsOfLength_52 : decode cX2_stepsOfLength 52 = .ok (.iconst 2, 1) := by decide +kernel
theorem dX2_stepsOfLength_53 : decode cX2_stepsOfLength 53 = .ok (.iload_n 1, 1) := by decide +kernel
theorem dX2_stepsOfLength_54 : decode cX2_stepsOfLength 54 = .ok (.imul, 1) := by decide +kernel
theorem dX2_stepsOfLength_55 : decode cX2_stepsOfLength 55 = .ok (.aaload, 1) := by decide +kernel
theorem dX2_stepsOfLength_56 : decode cX2_stepsOfLength 56 = .ok (.aload_n 0, 1) := by decide +kernel
theorem dX2_stepsOfLength_57 : decode cX2_stepsOfLength 57 = .ok (.iconst 2, 1) := by decide +kernel
theorem dX2_stepsOfLength_58 : decode cX2_stepsOfLength 58 = .ok (.iload_n 1, 1) := by decide +kernel
theorem dX2_stepsOfLength_59 : decode cX2_stepsOfLength 59 = .ok (.imul, 1) := by decide +kernel
theorem dX2_stepsOfLength_60 : decode cX2_stepsOfLength 60 = .ok (.iconst 1, 1) := by decide +kernel
theorem dX2_stepsOfLength_61 : decode cX2_stepsOfLength 61 = .ok (.iadd, 1) := by decide +kernel
theorem dX2_stepsOfLength_62 : decode cX2_stepsOfLength 62 = .ok (.aaload, 1) := by decide +kernel
theorem dX2_stepsOfLength_63 : decode cX2_stepsOfLength 63 = .ok (.invokestatic 47, 3) := by decide +kernel
theorem dX2_stepsOfLength_66 : decode cX2_stepsOfLength 66 = .ok (.iinc 1 1, 3) := by decide +kernel
theorem dX2_stepsOfLength_69 : decode cX2_stepsOfLength 69 = .ok (.goto (-62), 3) := by decide +kernel
theorem dX2_stepsOfLength_72 : decode cX2_stepsOfLength 72 = .ok (.aload_n 0, 1) := by decide +kernel
theorem dX2_stepsOfLength_73 : decode cX2_stepsOfLength 73 = .ok (.areturn, 1) := by decide +kernel
theorem dX2_see_0 : decode cX2_see 0 = .ok (.iload_n 1, 1) := by decide +kernel
theorem dX2_see_1 : decode cX2_see 1 = .ok (.istore 4, 2) := by decide +kernel
theorem dX2_see_3 : decode cX2_see 3 = .ok (.lload_n 2, 1) := by decide +kernel
theorem dX2_see_4 : decode cX2_see 4 = .ok (.lstore 5, 2) := by decide +kernel
theorem dX2_see_6 : decode cX2_see 6 = .ok (.iload 4, 2) := by decide +kernel
theorem dX2_see_8 : decode cX2_see 8 = .ok (.ifCond .le 28, 3) := by decide +kernel
theorem dX2_see_11 : decode cX2_see 11 = .ok (.lload 5, 2) := by decide +kernel
theorem dX2_see_13 : decode cX2_see 13 = .ok (.ldc2_w 183, 3) := by decide +kernel
theorem dX2_see_16 : decode cX2_see 16 = .ok (.lrem, 1) := by decide +kernel
theorem dX2_see_17 : decode cX2_see 17 = .ok (.lconst 0, 1) := by decide +kernel
theorem dX2_see_18 : decode cX2_see 18 = .ok (.lcmp, 1) := by decide +kernel
theorem dX2_see_19 : decode cX2_see 19 = .ok (.ifCond .ne 17, 3) := by decide +kernel
theorem dX2_see_22 : decode cX2_see 22 = .ok (.lload 5, 2) := by decide +kernel
theorem dX2_see_24 : decode cX2_see 24 = .ok (.ldc2_w 183, 3) := by decide +kernel
theorem dX2_see_27 : decode cX2_see 27 = .ok (.ldiv, 1) := by decide +kernel
theorem dX2_see_28 : decode cX2_see 28 = .ok (.lstore 5, 2) := by decide +kernel
theorem dX2_see_30 : decode cX2_see 30 = .ok (.iinc 4 (-1), 3) := by decide +kernel
theorem dX2_see_33 : decode cX2_see 33 = .ok (.goto (-27), 3) := by decide +kernel
theorem dX2_see_36 : decode cX2_see 36 = .ok (.aload_n 0, 1) := by decide +kernel
theorem dX2_see_37 : decode cX2_see 37 = .ok (.iload 4, 2) := by decide +kernel
theorem dX2_see_39 : decode cX2_see 39 = .ok (.putfield 128, 3) := by decide +kernel
theorem dX2_see_42 : decode cX2_see 42 = .ok (.aload_n 0, 1) := by decide +kernel
theorem dX2_see_43 : decode cX2_see 43 = .ok (.lload 5, 2) := by decide +kernel
theorem dX2_see_45 : decode cX2_see 45 = .ok (.putfield 131, 3) := by decide +kernel
theorem dX2_see_48 : decode cX2_see 48 = .ok (.return_, 1) := by decide +kernel
set_option maxRecDepth 20000 in
theorem ggX2_hasSingle_X2_singleAbove : GoodIn wsX2_hasSingle wsX2_singleAbove := goodIn_r _ [7, 8, 2, 3, 1, 16, 17, 18, 19, 20] (by decide +kernel) (by decide +kernel)
set_option maxRecDepth 20000 in
theorem gX2_hasSingle_X2_singleAbove : GoodIn wsX2_hasSingle (va_wsS RX2 227 yX2_singleAbove wsX2_singleAbove) := goodIn_app (goodIn_of _ (by decide +kernel)) ggX2_hasSingle_X2_singleAbove
set_option maxRecDepth 20000 in
theorem ggX2_hasSingle_X2_singleBelow : GoodIn wsX2_hasSingle wsX2_singleBelow := goodIn_r _ [11, 3, 1, 12, 13, 14, 15, 16, 17, 18, 19, 20] (by decide +kernel) (by decide +kernel)
set_option maxRecDepth 20000 in
theorem gX2_hasSingle_X2_singleBelow : GoodIn wsX2_hasSingle (va_wsS RX2 231 yX2_singleBelow wsX2_singleBelow) := goodIn_app (goodIn_of _ (by decide +kernel)) ggX2_hasSingle_X2_singleBelow
theorem dX2_hasSingle_0 : decode cX2_hasSingle 0 = .ok (.aload_n 0, 1) := by decide +kernel
theorem dX2_hasSingle_1 : decode cX2_hasSingle 1 = .ok (.getfield 111, 3) := by decide +kernel
theorem dX2_hasSingle_4 : decode cX2_hasSingle 4 = .ok (.iload_n 1, 1) := by decide +kernel
theorem dX2_hasSingle_5 : decode cX2_hasSingle 5 = .ok (.iaload, 1) := by decide +kernel
theorem dX2_hasSingle_6 : decode cX2_hasSingle 6 = .ok (.istore_n 2, 1) := by decide +kernel
theorem dX2_hasSingle_7 : decode cX2_hasSingle 7 = .ok (.aload_n 0, 1) := by decide +kernel
theorem dX2_hasSingle_8 : decode cX2_hasSingle 8 = .ok (.getfield 117, 3) := by decide +kernel
theorem dX2_hasSingle_11 : decode cX2_hasSingle 11 = .ok (.iload_n 1, 1) := by decide +kernel
theorem dX2_hasSingle_12 : decode cX2_hasSingle 12 = .ok (.laload, 1) := by decide +kernel
theorem dX2_hasSingle_13 : decode cX2_hasSingle 13 = .ok (.lstore_n 3, 1) := by decide +kernel
theorem dX2_hasSingle_14 : decode cX2_hasSingle 14 = .ok (.iload_n 2, 1) := by decide +kernel
theorem dX2_hasSingle_15 : decode cX2_hasSingle 15 = .ok (.aload_n 0, 1) := by decide +kernel
theorem dX2_hasSingle_16 : decode cX2_hasSingle 16 = .ok (.getfield 114, 3) := by decide +kernel
theorem dX2_hasSingle_19 : decode cX2_hasSingle 19 = .ok (.iload_n 1, 1) := by decide +kernel
theorem dX2_hasSingle_20 : decode cX2_hasSingle 20 = .ok (.iaload, 1) := by decide +kernel
theorem dX2_hasSingle_21 : decode cX2_hasSingle 21 = .ok (.if_icmp .ne 5, 3) := by decide +kernel
theorem dX2_hasSingle_24 : decode cX2_hasSingle 24 = .ok (.iconst 0, 1) := by decide +kernel
theorem dX2_hasSingle_25 : decode cX2_hasSingle 25 = .ok (.ireturn, 1) := by decide +kernel
theorem dX2_hasSingle_26 : decode cX2_hasSingle 26 = .ok (.aload_n 0, 1) := by decide +kernel
theorem dX2_hasSingle_27 : decode cX2_hasSingle 27 = .ok (.iload_n 1, 1) := by decide +kernel
theorem dX2_hasSingle_28 : decode cX2_hasSingle 28 = .ok (.invokestatic 227, 3) := by decide +kernel
theorem dX2_hasSingle_31 : decode cX2_hasSingle 31 = .ok (.iload_n 2, 1) := by decide +kernel
theorem dX2_hasSingle_32 : decode cX2_hasSingle 32 = .ok (.lshl, 1) := by decide +kernel
theorem dX2_hasSingle_33 : decode cX2_hasSingle 33 = .ok (.lstore 5, 2) := by decide +kernel
theorem dX2_hasSingle_35 : decode cX2_hasSingle 35 = .ok (.aload_n 0, 1) := by decide +kernel
theorem dX2_hasSingle_36 : decode cX2_hasSingle 36 = .ok (.iload_n 1, 1) := by decide +kernel
theorem dX2_hasSingle_37 : decode cX2_hasSingle 37 = .ok (.invokestatic 231, 3) := by decide +kernel
theorem dX2_hasSingle_40 : decode cX2_hasSingle 40 = .ok (.lstore 7, 2) := by decide +kernel
theorem dX2_hasSingle_42 : decode cX2_hasSingle 42 = .ok (.lload 5, 2) := by decide +kernel
theorem dX2_hasSingle_44 : decode cX2_hasSingle 44 = .ok (.lload_n 3, 1) := by decide +kernel
theorem dX2_hasSingle_45 : decode cX2_hasSingle 45 = .ok (.lload 7, 2) := by decide +kernel
theorem dX2_hasSingle_47 : decode cX2_hasSingle 47 = .ok (.lmul, 1) := by decide +kernel
theorem dX2_hasSingle_48 : decode cX2_hasSingle 48 = .ok (.lcmp, 1) := by decide +kernel
theorem dX2_hasSingle_49 : decode cX2_hasSingle 49 = .ok (.ifCond .lt 19, 3) := by decide +kernel
theorem dX2_hasSingle_52 : decode cX2_hasSingle 52 = .ok (.lload 5, 2) := by decide +kernel
theorem dX2_hasSingle_54 : decode cX2_hasSingle 54 = .ok (.lload_n 3, 1) := by decide +kernel
theorem dX2_hasSingle_55 : decode cX2_hasSingle 55 = .ok (.lconst 1, 1) := by decide +kernel
theorem dX2_hasSingle_56 : decode cX2_hasSingle 56 = .ok (.ladd, 1) := by decide +kernel
theorem dX2_hasSingle_57 : decode cX2_hasSingle 57 = .ok (.lload 7, 2) := by decide +kernel
theorem dX2_hasSingle_59 : decode cX2_hasSingle 59 = .ok (.lmul, 1) := by decide +kernel
theorem dX2_hasSingle_60 : decode cX2_hasSingle 60 = .ok (.lcmp, 1) := by decide +kernel
theorem dX2_hasSingle_61 : decode cX2_hasSingle 61 = .ok (.ifCond .ge 7, 3) := by decide +kernel
theorem dX2_hasSingle_64 : decode cX2_hasSingle 64 = .ok (.iconst 1, 1) := by decide +kernel
theorem dX2_hasSingle_65 : decode cX2_hasSingle 65 = .ok (.goto 4, 3) := by decide +kernel
theorem dX2_hasSingle_68 : decode cX2_hasSingle 68 = .ok (.iconst 0, 1) := by decide +kernel
theorem dX2_hasSingle_69 : decode cX2_hasSingle 69 = .ok (.ireturn, 1) := by decide +kernel
theorem dX2_singleAbove_0 : decode cX2_singleAbove 0 = .ok (.aload_n 0, 1) := by decide +kernel
theorem dX2_singleAbove_1 : decode cX2_singleAbove 1 = .ok (.getfield 121, 3) := by decide +kernel
theorem dX2_singleAbove_4 : decode cX2_singleAbove 4 = .ok (.iload_n 1, 1) := by decide +kernel
theorem dX2_singleAbove_5 : decode cX2_singleAbove 5 = .ok (.laload, 1) := by decide +kernel
theorem dX2_singleAbove_6 : decode cX2_singleAbove 6 = .ok (.aload_n 0, 1) := by decide +kernel
theorem dX2_singleAbove_7 : decode cX2_singleAbove 7 = .ok (.getfield 117, 3) := by decide +kernel
theorem dX2_singleAbove_10 : decode cX2_singleAbove 10 = .ok (.iload_n 1, 1) := by decide +kernel
theorem dX2_singleAbove_11 : decode cX2_singleAbove 11 = .ok (.laload, 1) := by decide +kernel
theorem dX2_singleAbove_12 : decode cX2_singleAbove 12 = .ok (.lsub, 1) := by decide +kernel
theorem dX2_singleAbove_13 : decode cX2_singleAbove 13 = .ok (.lstore_n 2, 1) := by decide +kernel
theorem dX2_singleAbove_14 : decode cX2_singleAbove 14 = .ok (.aload_n 0, 1) := by decide +kernel
theorem dX2_singleAbove_15 : decode cX2_singleAbove 15 = .ok (.getfield 114, 3) := by decide +kernel
theorem dX2_singleAbove_18 : decode cX2_singleAbove 18 = .ok (.iload_n 1, 1) := by decide +kernel
theorem dX2_singleAbove_19 : decode cX2_singleAbove 19 = .ok (.iaload, 1) := by decide +kernel
theorem dX2_singleAbove_20 : decode cX2_singleAbove 20 = .ok (.aload_n 0, 1) := by decide +kernel
theorem dX2_singleAbove_21 : decode cX2_singleAbove 21 = .ok (.getfield 111, 3) := by decide +kernel
theorem dX2_singleAbove_24 : decode cX2_singleAbove 24 = .ok (.iload_n 1, 1) := by decide +kernel
theorem dX2_singleAbove_25 : decode cX2_singleAbove 25 = .ok (.iaload, 1) := by decide +kernel
theorem dX2_singleAbove_26 : decode cX2_singleAbove 26 = .ok (.if_icmp .le 7, 3) := by decide +kernel
theorem dX2_singleAbove_29 : decode cX2_singleAbove 29 = .ok (.lload_n 2, 1) := by decide +kernel
theorem dX2_singleAbove_30 : decode cX2_singleAbove 30 = .ok (.goto 5, 3) := by decide +kernel
theorem dX2_singleAbove_33 : decode cX2_singleAbove 33 = .ok (.lload_n 2, 1) := by decide +kernel
theorem dX2_singleAbove_34 : decode cX2_singleAbove 34 = .ok (.lneg, 1) := by decide +kernel
theorem dX2_singleAbove_35 : decode cX2_singleAbove 35 = .ok (.lreturn, 1) := by decide +kernel
theorem dX2_singleBelow_0 : decode cX2_singleBelow 0 = .ok (.lconst 1, 1) := by decide +kernel
theorem dX2_singleBelow_1 : decode cX2_singleBelow 1 = .ok (.aload_n 0, 1) := by decide +kernel
theorem dX2_singleBelow_2 : decode cX2_singleBelow 2 = .ok (.getfield 114, 3) := by decide +kernel
theorem dX2_singleBelow_5 : decode cX2_singleBelow 5 = .ok (.iload_n 1, 1) := by decide +kernel
theorem dX2_singleBelow_6 : decode cX2_singleBelow 6 = .ok (.iaload, 1) := by decide +kernel
theorem dX2_singleBelow_7 : decode cX2_singleBelow 7 = .ok (.lshl, 1) := by decide +kernel
theorem dX2_singleBelow_8 : decode cX2_singleBelow 8 = .ok (.lconst 1, 1) := by decide +kernel
theorem dX2_singleBelow_9 : decode cX2_singleBelow 9 = .ok (.aload_n 0, 1) := by decide +kernel
theorem dX2_singleBelow_10 : decode cX2_singleBelow 10 = .ok (.getfield 111, 3) := by decide +kernel
theorem dX2_singleBelow_13 : decode cX2_singleBelow 13 = .ok (.iload_n 1, 1) := by decide +kernel
theorem dX2_singleBelow_14 : decode cX2_singleBelow 14 = .ok (.iaload, 1) := by decide +kernel
theorem dX2_singleBelow_15 : decode cX2_singleBelow 15 = .ok (.lshl, 1) := by decide +kernel
theorem dX2_singleBelow_16 : decode cX2_singleBelow 16 = .ok (.lsub, 1) := by decide +kernel
theorem dX2_singleBelow_17 : decode cX2_singleBelow 17 = .ok (.invokestatic 234, 3) := by decide +kernel
theorem dX2_singleBelow_20 : decode cX2_singleBelow 20 = .ok (.lreturn, 1) := by decide +kernel
set_option maxRecDepth 20000 in
theorem ggX2_partOfSingle_X2_singleAbove : GoodIn wsX2_partOfSingle wsX2_singleAbove := goodIn_r _ [5, 6, 7, 8, 9, 20, 21, 22, 23, 24] (by decide +kernel) (by decide +kernel)
set_option maxRecDepth 20000 in
theorem gX2_partOfSingle_X2_singleAbove : GoodIn wsX2_partOfSingle (va_wsS RX2 227 yX2_singleAbove wsX2_singleAbove) := goodIn_app (goodIn_of _ (by decide +kernel)) ggX2_partOfSingle_X2_singleAbove
set_option maxRecDepth 20000 in
theorem ggX2_partOfSingle_X2_singleBelow : GoodIn wsX2_partOfSingle wsX2_singleBelow := goodIn_r _ [12, 8, 9, 13, 14, 15, 16, 20, 21, 22, 23, 24] (by decide +kernel) (by decide +kernel)
set_option maxRecDepth 20000 in
theorem gX2_partOfSingle_X2_singleBelow : GoodIn wsX2_partOfSingle (va_wsS RX2 231 yX2_singleBelow wsX2_singleBelow) := goodIn_app (goodIn_of _ (by decide +kernel)) ggX2_partOfSingle_X2_singleBelow
set_option maxRecDepth 20000 in
theorem ggX2_partOfSingle_X2_commonOf : GoodIn wsX2_partOfSingle wsX2_commonOf := goodIn_r _ [19] (by decide +kernel) (by decide +kernel)
set_option maxRecDepth 20000 in
theorem gX2_partOfSingle_X2_commonOf : GoodIn wsX2_partOfSingle (va_wsS RX2 237 yX2_commonOf wsX2_commonOf) := goodIn_app (goodIn_of _ (by decide +kernel)) ggX2_partOfSingle_X2_commonOf
theorem dX2_partOfSingle_0 : decode cX2_partOfSingle 0 = .ok (.aload_n 0, 1) := by decide +kernel
theorem dX2_partOfSingle_1 : decode cX2_partOfSingle 1 = .ok (.iload_n 1, 1) := by decide +kernel
theorem dX2_partOfSingle_2 : decode cX2_partOfSingle 2 = .ok (.invokestatic 227, 3) := by decide +kernel
theorem dX2_partOfSingle_5 : decode cX2_partOfSingle 5 = .ok (.lstore_n 3, 1) := by decide +kernel
theorem dX2_partOfSingle_6 : decode cX2_partOfSingle 6 = .ok (.aload_n 0, 1) := by decide +kernel
theorem dX2_partOfSingle_7 : decode cX2_partOfSingle 7 = .ok (.iload_n 1, 1) := by decide +kernel
theorem dX2_partOfSingle_8 : decode cX2_partOfSingle 8 = .ok (.invokestatic 231, 3) := by decide +kernel
theorem dX2_partOfSingle_11 : decode cX2_partOfSingle 11 = .ok (.lstore 5, 2) := by decide +kernel
theorem dX2_partOfSingle_13 : decode cX2_partOfSingle 13 = .ok (.lload_n 3, 1) := by decide +kernel
theorem dX2_partOfSingle_14 : decode cX2_partOfSingle 14 = .ok (.lload 5, 2) := by decide +kernel
theorem dX2_partOfSingle_16 : decode cX2_partOfSingle 16 = .ok (.invokestatic 237, 3) := by decide +kernel
theorem dX2_partOfSingle_19 : decode cX2_partOfSingle 19 = .ok (.lstore 7, 2) := by decide +kernel
theorem dX2_partOfSingle_21 : decode cX2_partOfSingle 21 = .ok (.lload 7, 2) := by decide +kernel
theorem dX2_partOfSingle_23 : decode cX2_partOfSingle 23 = .ok (.lconst 0, 1) := by decide +kernel
theorem dX2_partOfSingle_24 : decode cX2_partOfSingle 24 = .ok (.lcmp, 1) := by decide +kernel
theorem dX2_partOfSingle_25 : decode cX2_partOfSingle 25 = .ok (.ifCond .ne 7, 3) := by decide +kernel
theorem dX2_partOfSingle_28 : decode cX2_partOfSingle 28 = .ok (.ldc2_w 150, 3) := by decide +kernel
theorem dX2_partOfSingle_31 : decode cX2_partOfSingle 31 = .ok (.lreturn, 1) := by decide +kernel
theorem dX2_partOfSingle_32 : decode cX2_partOfSingle 32 = .ok (.iload_n 2, 1) := by decide +kernel
theorem dX2_partOfSingle_33 : decode cX2_partOfSingle 33 = .ok (.ifCond .ne 7, 3) := by decide +kernel
theorem dX2_partOfSingle_36 : decode cX2_partOfSingle 36 = .ok (.lload_n 3, 1) := by decide +kernel
theorem dX2_partOfSingle_37 : decode cX2_partOfSingle 37 = .ok (.goto 5, 3) := by decide +kernel
theorem dX2_partOfSingle_40 : decode cX2_partOfSingle 40 = .ok (.lload 5, 2) := by decide +kernel
theorem dX2_partOfSingle_42 : decode cX2_partOfSingle 42 = .ok (.lload 7, 2) := by decide +kernel
theorem dX2_partOfSingle_44 : decode cX2_partOfSingle 44 = .ok (.ldiv, 1) := by decide +kernel
theorem dX2_partOfSingle_45 : decode cX2_partOfSingle 45 = .ok (.lreturn, 1) := by decide +kernel
theorem dX2_commonOf_0 : decode cX2_commonOf 0 = .ok (.lload_n 0, 1) := by decide +kernel
theorem dX2_commonOf_1 : decode cX2_commonOf 1 = .ok (.lstore 4, 2) := by decide +kernel
theorem dX2_commonOf_3 : decode cX2_commonOf 3 = .ok (.lload_n 2, 1) := by decide +kernel
theorem dX2_commonOf_4 : decode cX2_commonOf 4 = .ok (.lstore 6, 2) := by decide +kernel
theorem dX2_commonOf_6 : decode cX2_commonOf 6 = .ok (.iconst 0, 1) := by decide +kernel
theorem dX2_commonOf_7 : decode cX2_commonOf 7 = .ok (.istore 8, 2) := by decide +kernel
theorem dX2_commonOf_9 : decode cX2_commonOf 9 = .ok (.iload 8, 2) := by decide +kernel
theorem dX2_commonOf_11 : decode cX2_commonOf 11 = .ok (.bipush 100, 2) := by decide +kernel
theorem dX2_commonOf_13 : decode cX2_commonOf 13 = .ok (.if_icmp .ge 31, 3) := by decide +kernel
theorem dX2_commonOf_16 : decode cX2_commonOf 16 = .ok (.lload 6, 2) := by decide +kernel
theorem dX2_commonOf_18 : decode cX2_commonOf 18 = .ok (.lconst 0, 1) := by decide +kernel
theorem dX2_commonOf_19 : decode cX2_commonOf 19 = .ok (.lcmp, 1) := by decide +kernel
theorem dX2_commonOf_20 : decode cX2_commonOf 20 = .ok (.ifCond .eq 24, 3) := by decide +kernel
theorem dX2_commonOf_23 : decode cX2_commonOf 23 = .ok (.lload 4, 2) := by decide +kernel
theorem dX2_commonOf_25 : decode cX2_commonOf 25 = .ok (.lload 6, 2) := by decide +kernel
theorem dX2_commonOf_27 : decode cX2_commonOf 27 = .ok (.lrem, 1) := by decide +kernel
theorem dX2_commonOf_28 : decode cX2_commonOf 28 = .ok (.lstore 9, 2) := by decide +kernel
theorem dX2_commonOf_30 : decode cX2_commonOf 30 = .ok (.lload 6, 2) := by decide +kernel
theorem dX2_commonOf_32 : decode cX2_commonOf 32 = .ok (.lstore 4, 2) := by decide +kernel
theorem dX2_commonOf_34 : decode cX2_commonOf 34 = .ok (.lload 9, 2) := by decide +kernel
theorem dX2_commonOf_36 : decode cX2_commonOf 36 = .ok (.lstore 6, 2) := by decide +kernel
theorem dX2_commonOf_38 : decode cX2_commonOf 38 = .ok (.iinc 8 1, 3) := by decide +kernel
theorem dX2_commonOf_41 : decode cX2_commonOf 41 = .ok (.goto (-32), 3) := by decide +kernel
theorem dX2_commonOf_44 : decode cX2_commonOf 44 = .ok (.lload 4, 2) := by decide +kernel
theorem dX2_commonOf_46 : decode cX2_commonOf 46 = .ok (.lreturn, 1) := by decide +kernel
theorem dX3_init_0 : decode cX3_init 0 = .ok (.aload_n 0, 1) := by decide +kernel
theorem dX3_init_1 : decode cX3_init 1 = .ok (.invokespecial 1, 3) := by decide +kernel
theorem dX3_init_4 : decode cX3_init 4 = .ok (.aload_n 0, 1) := by decide +kernel
theorem dX3_init_5 : decode cX3_init 5 = .ok (.bipush 12, 2) := by decide +kernel
theorem dX3_init_7 : decode cX3_init 7 = .ok (.newarray .int, 2) := by decide +kernel
theorem dX3_init_9 : decode cX3_init 9 = .ok (.putfield 7, 3) := by decide +kernel
theorem dX3_init_12 : decode cX3_init 12 = .ok (.aload_n 0, 1) := by decide +kernel
theorem dX3_init_13 : decode cX3_init 13 = .ok (.sipush 1152, 3) := by decide +kernel
theorem dX3_init_16 : decode cX3_init 16 = .ok (.newarray .int, 2) := by decide +kernel
theorem dX3_init_18 : decode cX3_init 18 = .ok (.putfield 13, 3) := by decide +kernel
theorem dX3_init_21 : decode cX3_init 21 = .ok (.aload_n 0, 1) := by decide +kernel
theorem dX3_init_22 : decode cX3_init 22 = .ok (.bipush 96, 2) := by decide +kernel
theorem dX3_init_24 : decode cX3_init 24 = .ok (.newarray .int, 2) := by decide +kernel
theorem dX3_init_26 : decode cX3_init 26 = .ok (.putfield 16, 3) := by decide +kernel
theorem dX3_init_29 : decode cX3_init 29 = .ok (.aload_n 0, 1) := by decide +kernel
theorem dX3_init_30 : decode cX3_init 30 = .ok (.sipush 256, 3) := by decide +kernel
theorem dX3_init_33 : decode cX3_init 33 = .ok (.newarray .long, 2) := by decide +kernel
theorem dX3_init_35 : decode cX3_init 35 = .ok (.putfield 19, 3) := by decide +kernel
theorem dX3_init_38 : decode cX3_init 38 = .ok (.aload_n 0, 1) := by decide +kernel
theorem dX3_init_39 : decode cX3_init 39 = .ok (.sipush 256, 3) := by decide +kernel
theorem dX3_init_42 : decode cX3_init 42 = .ok (.newarray .long, 2) := by decide +kernel
theorem dX3_init_44 : decode cX3_init 44 = .ok (.putfield 23, 3) := by decide +kernel
theorem dX3_init_47 : decode cX3_init 47 = .ok (.aload_n 0, 1) := by decide +kernel
theorem dX3_init_48 : decode cX3_init 48 = .ok (.sipush 170, 3) := by decide +kernel
theorem dX3_init_51 : decode cX3_init 51 = .ok (.newarray .int, 2) := by decide +kernel
theorem dX3_init_53 : decode cX3_init 53 = .ok (.putfield 26, 3) := by decide +kernel
theorem dX3_init_56 : decode cX3_init 56 = .ok (.aload_n 0, 1) := by decide +kernel
theorem dX3_init_57 : decode cX3_init 57 = .ok (.sipush 16320, 3) := by decide +kernel
theorem dX3_init_60 : decode cX3_init 60 = .ok (.newarray .int, 2) := by decide +kernel
theorem dX3_init_62 : decode cX3_init 62 = .ok (.putfield 29, 3) := by decide +kernel
theorem dX3_init_65 : decode cX3_init 65 = .ok (.aload_n 0, 1) := by decide +kernel
theorem dX3_init_66 : decode cX3_init 66 = .ok (.bipush 7, 2) := by decide +kernel
theorem dX3_init_68 : decode cX3_init 68 = .ok (.newarray .int, 2) := by decide +kernel
theorem dX3_init_70 : decode cX3_init 70 = .ok (.putfield 32, 3) := by decide +kernel
theorem dX3_init_73 : decode cX3_init 73 = .ok (.aload_n 0, 1) := by decide +kernel
theorem dX3_init_74 : decode cX3_init 74 = .ok (.sipush 256, 3) := by decide +kernel
theorem dX3_init_77 : decode cX3_init 77 = .ok (.newarray .long, 2) := by decide +kernel
theorem dX3_init_79 : decode cX3_init 79 = .ok (.putfield 35, 3) := by decide +kernel
theorem dX3_init_82 : decode cX3_init 82 = .ok (.aload_n 0, 1) := by decide +kernel
theorem dX3_init_83 : decode cX3_init 83 = .ok (.sipush 256, 3) := by decide +kernel
theorem dX3_init_86 : decode cX3_init 86 = .ok (.newarray .long, 2) := by decide +kernel
theorem dX3_init_88 : decode cX3_init 88 = .ok (.putfield 38, 3) := by decide +kernel
theorem dX3_init_91 : decode cX3_init 91 = .ok (.return_, 1) := by decide +kernel
theorem dX3_in_0 : decode cX3_in 0 = .ok (.lload_n 0, 1) := by decide +kernel
theorem dX3_in_1 : decode cX3_in 1 = .ok (.lload_n 2, 1) := by decide +kernel
theorem dX3_in_2 : decode cX3_in 2 = .ok (.lcmp, 1) := by decide +kernel
theorem dX3_in_3 : decode cX3_in 3 = .ok (.ifCond .lt 14, 3) := by decide +kernel
theorem dX3_in_6 : decode cX3_in 6 = .ok (.lload_n 0, 1) := by decide +kernel
theorem dX3_in_7 : decode cX3_in 7 = .ok (.lload 4, 2) := by decide +kernel
theorem dX3_in_9 : decode cX3_in 9 = .ok (.lcmp, 1) := by decide +kernel
theorem dX3_in_10 : decode cX3_in 10 = .ok (.ifCond .gt 7, 3) := by decide +kernel
theorem dX3_in_13 : decode cX3_in 13 = .ok (.iconst 1, 1) := by decide +kernel
theorem dX3_in_14 : decode cX3_in 14 = .ok (.goto 4, 3) := by decide +kernel
theorem dX3_in_17 : decode cX3_in 17 = .ok (.iconst 0, 1) := by decide +kernel
theorem dX3_in_18 : decode cX3_in 18 = .ok (.ireturn, 1) := by decide +kernel
set_option maxRecDepth 20000 in
theorem ggX3_isSlot_X3_in : GoodIn wsX3_isSlot wsX3_in := goodIn_r _ [5] (by decide +kernel) (by decide +kernel)
set_option maxRecDepth 20000 in
theorem gX3_isSlot_X3_in : GoodIn wsX3_isSlot (va_wsS RX3 43 yX3_in wsX3_in) := goodIn_app (goodIn_of _ (by decide +kernel)) ggX3_isSlot_X3_in
theorem dX3_isSlot_0 : decode cX3_isSlot 0 = .ok (.iload_n 0, 1) := by decide +kernel
theorem dX3_isSlot_1 : decode cX3_isSlot 1 = .ok (.i2l, 1) := by decide +kernel
theorem dX3_isSlot_2 : decode cX3_isSlot 2 = .ok (.lconst 0, 1) := by decide +kernel
theorem dX3_isSlot_3 : decode cX3_isSlot 3 = .ok (.ldc2_w 41, 3) := by decide +kernel
theorem dX3_isSlot_6 : decode cX3_isSlot 6 = .ok (.invokestatic 43, 3) := by decide +kernel
theorem dX3_isSlot_9 : decode cX3_isSlot 9 = .ok (.ireturn, 1) := by decide +kernel
set_option maxRecDepth 20000 in
theorem ggX3_isMap_X3_isSlot : GoodIn wsX3_isMap wsX3_isSlot := goodIn_r _ [5, 6, 7, 8, 4, 9] (by decide +kernel) (by decide +kernel)
set_option maxRecDepth 20000 in
theorem gX3_isMap_X3_isSlot : GoodIn wsX3_isMap (va_wsS RX3 47 yX3_isSlot wsX3_isSlot) := goodIn_app (goodIn_of _ (by decide +kernel)) ggX3_isMap_X3_isSlot
theorem dX3_isMap_0 : decode cX3_isMap 0 = .ok (.iload_n 1, 1) := by decide +kernel
theorem dX3_isMap_1 : decode cX3_isMap 1 = .ok (.invokestatic 47, 3) := by decide +kernel
theorem dX3_isMap_4 : decode cX3_isMap 4 = .ok (.ifCond .eq 16, 3) := by decide +kernel
theorem dX3_isMap_7 : decode cX3_isMap 7 = .ok (.aload_n 0, 1) := by decide +kernel
theorem dX3_isMap_8 : decode cX3_isMap 8 = .ok (.getfield 7, 3) := by decide +kernel
theorem dX3_isMap_11 : decode cX3_isMap 11 = .ok (.iload_n 1, 1) := by decide +kernel
theorem dX3_isMap_12 : decode cX3_isMap 12 = .ok (.iaload, 1) := by decide +kernel
theorem dX3_isMap_13 : decode cX3_isMap 13 = .ok (.ifCond .le 7, 3) := by decide +kernel
theorem dX3_isMap_16 : decode cX3_isMap 16 = .ok (.iconst 1, 1) := by decide +kernel
theorem dX3_isMap_17 : decode cX3_isMap 17 = .ok (.goto 4, 3) := by decide +kernel
theorem dX3_isMap_20 : decode cX3_isMap 20 = .ok (.iconst 0, 1) := by decide +kernel
theorem dX3_isMap_21 : decode cX3_isMap 21 = .ok (.ireturn, 1) := by decide +kernel
theorem dX3_put_0 : decode cX3_put 0 = .ok (.aload_n 0, 1) := by decide +kernel
theorem dX3_put_1 : decode cX3_put 1 = .ok (.getfield 19, 3) := by decide +kernel
theorem dX3_put_4 : decode cX3_put 4 = .ok (.iconst 4, 1) := by decide +kernel
theorem dX3_put_5 : decode cX3_put 5 = .ok (.aload_n 0, 1) := by decide +kernel
theorem dX3_put_6 : decode cX3_put 6 = .ok (.getfield 51, 3) := by decide +kernel
theorem dX3_put_9 : decode cX3_put 9 = .ok (.imul, 1) := by decide +kernel
theorem dX3_put_10 : decode cX3_put 10 = .ok (.lload_n 1, 1) := by decide +kernel
theorem dX3_put_11 : decode cX3_put 11 = .ok (.lastore, 1) := by decide +kernel
theorem dX3_put_12 : decode cX3_put 12 = .ok (.aload_n 0, 1) := by decide +kernel
theorem dX3_put_13 : decode cX3_put 13 = .ok (.getfield 19, 3) := by decide +kernel
theorem dX3_put_16 : decode cX3_put 16 = .ok (.iconst 4, 1) := by decide +kernel
theorem dX3_put_17 : decode cX3_put 17 = .ok (.aload_n 0, 1) := by decide +kernel
theorem dX3_put_18 : decode cX3_put 18 = .ok (.getfield 51, 3) := by decide +kernel
theorem dX3_put_21 : decode cX3_put 21 = .ok (.imul, 1) := by decide +kernel
theorem dX3_put_22 : decode cX3_put 22 = .ok (.iconst 1, 1) := by decide +kernel
theorem dX3_put_23 : decode cX3_put 23 = .ok (.iadd, 1) := by decide +kernel
theorem dX3_put_24 : decode cX3_put 24 = .ok (.lload_n 3, 1) := by decide +kernel
theorem dX3_put_25 : decode cX3_put 25 = .ok (.lastore, 1) := by decide +kernel
theorem dX3_put_26 : decode cX3_put 26 = .ok (.aload_n 0, 1) := by decide +kernel
theorem dX3_put_27 : decode cX3_put 27 = .ok (.getfield 19, 3) := by decide +kernel
theorem dX3_put_30 : decode cX3_put 30 = .ok (.iconst 4, 1) := by decide +kernel
theorem dX3_put_31 : decode cX3_put 31 = .ok (.aload_n 0, 1) := by decide +kernel
theorem dX3_put_32 : decode cX3_put 32 = .ok (.getfield 51, 3) := by decide +kernel
theorem dX3_put_35 : decode cX3_put 35 = .ok (.imul, 1) := by decide +kernel
theorem dX3_put_36 : decode cX3_put 36 = .ok (.iconst 2, 1) := by decide +kernel
theorem dX3_put_37 : decode cX3_put 37 = .ok (.iadd, 1) := by decide +kernel
theorem dX3_put_38 : decode cX3_put 38 = .ok (.lload 5, 2) := by decide +kernel
theorem dX3_put_40 : decode cX3_put 40 = .ok (.lastore, 1) := by decide +kernel
theorem dX3_put_41 : decode cX3_put 41 = .ok (.aload_n 0, 1) := by decide +kernel
theorem dX3_put_42 : decode cX3_put 42 = .ok (.getfield 19, 3) := by decide +kernel
theorem dX3_put_45 : decode cX3_put 45 = .ok (.iconst 4, 1) := by decide +kernel
theorem dX3_put_46 : decode cX3_put 46 = .ok (.aload_n 0, 1) := by decide +kernel
theorem dX3_put_47 : decode cX3_put 47 = .ok (.getfield 51, 3) := by decide +kernel
theorem dX3_put_50 : decode cX3_put 50 = .ok (.imul, 1) := by decide +kernel
theorem dX3_put_51 : decode cX3_put 51 = .ok (.iconst 3, 1) := by decide +kernel
theorem dX3_put_52 : decode cX3_put 52 = .ok (.iadd, 1) := by decide +kernel
theorem dX3_put_53 : decode cX3_put 53 = .ok (.lload 7, 2) := by decide +kernel
theorem dX3_put_55 : decode cX3_put 55 = .ok (.lastore, 1) := by decide +kernel
theorem dX3_put_56 : decode cX3_put 56 = .ok (.aload_n 0, 1) := by decide +kernel
theorem dX3_put_57 : decode cX3_put 57 = .ok (.dup, 1) := by decide +kernel
theorem dX3_put_58 : decode cX3_put 58 = .ok (.getfield 51, 3) := by decide +kernel
theorem dX3_put_61 : decode cX3_put 61 = .ok (.iconst 1, 1) := by decide +kernel
theorem dX3_put_62 : decode cX3_put 62 = .ok (.iadd, 1) := by decide +kernel
theorem dX3_put_63 : decode cX3_put 63 = .ok (.putfield 51, 3) := by decide +kernel
theorem dX3_put_66 : decode cX3_put 66 = .ok (.return_, 1) := by decide +kernel
set_option maxRecDepth 20000 in
theorem ggX3_load_X3_put : GoodIn wsX3_load wsX3_put := goodIn_r _ [8, 9, 1, 10, 11, 12, 13, 14, 15, 16, 17, 18, 19, 20, 21, 22, 23, 24, 25, 26, 27, 28, 29] (by decide +kernel) (by decide +kernel)
set_option maxRecDepth 20000 in
theorem gX3_load_X3_put : GoodIn wsX3_load (wsV RX3 55 RX3 yX3_put wsX3_put) := goodIn_app (goodIn_of _ (by decide +kernel)) ggX3_load_X3_put
theorem dX3_load_0 : decode cX3_load 0 = .ok (.aload_n 0, 1) := by decide +kernel
theorem dX3_load_1 : decode cX3_load 1 = .ok (.iconst 0, 1) := by decide +kernel
theorem dX3_load_2 : decode cX3_load 2 = .ok (.putfield 51, 3) := by decide +kernel
theorem dX3_load_5 : decode cX3_load 5 = .ok (.iconst 0, 1) := by decide +kernel
theorem dX3_load_6 : decode cX3_load 6 = .ok (.istore_n 2, 1) := by decide +kernel
theorem dX3_load_7 : decode cX3_load 7 = .ok (.iload_n 2, 1) := by decide +kernel
theorem dX3_load_8 : decode cX3_load 8 = .ok (.aload_n 0, 1) := by decide +kernel
theorem dX3_load_9 : decode cX3_load 9 = .ok (.getfield 7, 3) := by decide +kernel
theorem dX3_load_12 : decode cX3_load 12 = .ok (.iload_n 1, 1) := by decide +kernel
theorem dX3_load_13 : decode cX3_load 13 = .ok (.iaload, 1) := by decide +kernel
theorem dX3_load_14 : decode cX3_load 14 = .ok (.if_icmp .ge 56, 3) := by decide +kernel
theorem dX3_load_17 : decode cX3_load 17 = .ok (.bipush 96, 2) := by decide +kernel
theorem dX3_load_19 : decode cX3_load 19 = .ok (.iload_n 1, 1) := by decide +kernel
theorem dX3_load_20 : decode cX3_load 20 = .ok (.imul, 1) := by decide +kernel
theorem dX3_load_21 : decode cX3_load 21 = .ok (.iconst 4, 1) := by decide +kernel
theorem dX3_load_22 : decode cX3_load 22 = .ok (.iload_n 2, 1) := by decide +kernel
theorem dX3_load_23 : decode cX3_load 23 = .ok (.imul, 1) := by decide +kernel
theorem dX3_load_24 : decode cX3_load 24 = .ok (.iadd, 1) := by decide +kernel
theorem dX3_load_25 : decode cX3_load 25 = .ok (.istore_n 3, 1) := by decide +kernel
theorem dX3_load_26 : decode cX3_load 26 = .ok (.aload_n 0, 1) := by decide +kernel
theorem dX3_load_27 : decode cX3_load 27 = .ok (.aload_n 0, 1) := by decide +kernel
theorem dX3_load_28 : decode cX3_load 28 = .ok (.getfield 13, 3) := by decide +kernel
theorem dX3_load_31 : decode cX3_load 31 = .ok (.iload_n 3, 1) := by decide +kernel
theorem dX3_load_32 : decode cX3_load 32 = .ok (.iaload, 1) := by decide +kernel
theorem dX3_load_33 : decode cX3_load 33 = .ok (.i2l, 1) := by decide +kernel
theorem dX3_load_34 : decode cX3_load 34 = .ok (.aload_n 0, 1) := by decide +kernel
theorem dX3_load_35 : decode cX3_load 35 = .ok (.getfield 13, 3) := by decide +kernel
theorem dX3_load_38 : decode cX3_load 38 = .ok (.iload_n 3, 1) := by decide +kernel
theorem dX3_load_39 : decode cX3_load 39 = .ok (.iconst 1, 1) := by decide +kernel
theorem dX3_load_40 : decode cX3_load 40 = .ok (.iadd, 1) := by decide +kernel
theorem dX3_load_41 : decode cX3_load 41 = .ok (.iaload, 1) := by decide +kernel
theorem dX3_load_42 : decode cX3_load 42 = .ok (.i2l, 1) := by decide +kernel
theorem dX3_load_43 : decode cX3_load 43 = .ok (.aload_n 0, 1) := by decide +kernel
theorem dX3_load_44 : decode cX3_load 44 = .ok (.getfield 13, 3) := by decide +kernel
theorem dX3_load_47 : decode cX3_load 47 = .ok (.iload_n 3, 1) := by decide +kernel
theorem dX3_load_48 : decode cX3_load 48 = .ok (.iconst 2, 1) := by decide +kernel
theorem dX3_load_49 : decode cX3_load 49 = .ok (.iadd, 1) := by decide +kernel
theorem dX3_load_50 : decode cX3_load 50 = .ok (.iaload, 1) := by decide +kernel
theorem dX3_load_51 : decode cX3_load 51 = .ok (.i2l, 1) := by decide +kernel
theorem dX3_load_52 : decode cX3_load 52 = .ok (.aload_n 0, 1) := by decide +kernel
theorem dX3_load_53 : decode cX3_load 53 = .ok (.getfield 13, 3) := by decide +kernel
theorem dX3_load_56 : decode cX3_load 56 = .ok (.iload_n 3, 1) := by decide +kernel
theorem dX3_load_57 : decode cX3_load 57 = .ok (.iconst 3, 1) := by decide +kernel
theorem dX3_load_58 : decode cX3_load 58 = .ok (.iadd, 1) := by decide +kernel
theorem dX3_load_59 : decode cX3_load 59 = .ok (.iaload, 1) := by decide +kernel
theorem dX3_load_60 : decode cX3_load 60 = .ok (.i2l, 1) := by decide +kernel
theorem dX3_load_61 : decode cX3_load 61 = .ok (.invokevirtual 55, 3) := by decide +kernel
theorem dX3_load_64 : decode cX3_load 64 = .ok (.iinc 2 1, 3) := by decide +kernel
theorem dX3_load_67 : decode cX3_load 67 = .ok (.goto (-60), 3) := by decide +kernel
theorem dX3_load_70 : decode cX3_load 70 = .ok (.return_, 1) := by decide +kernel
theorem dX3_store_0 : decode cX3_store 0 = .ok (.aload_n 0, 1) := by decide +kernel
theorem dX3_store_1 : decode cX3_store 1 = .ok (.getfield 7, 3) := by decide +kernel
theorem dX3_store_4 : decode cX3_store 4 = .ok (.iload_n 1, 1) := by decide +kernel
theorem dX3_store_5 : decode cX3_store 5 = .ok (.aload_n 0, 1) := by decide +kernel
theorem dX3_store_6 : decode cX3_store 6 = .ok (.getfield 51, 3) := by decide +kernel
theorem dX3_store_9 : decode cX3_store 9 = .ok (.iastore, 1) := by decide +kernel
theorem dX3_store_10 : decode cX3_store 10 = .ok (.iconst 0, 1) := by decide +kernel
theorem dX3_store_11 : decode cX3_store 11 = .ok (.istore_n 2, 1) := by decide +kernel
theorem dX3_store_12 : decode cX3_store 12 = .ok (.iload_n 2, 1) := by decide +kernel
theorem dX3_store_13 : decode cX3_store 13 = .ok (.iconst 4, 1) := by decide +kernel
theorem dX3_store_14 : decode cX3_store 14 = .ok (.aload_n 0, 1) := by decide +kernel
theorem dX3_store_15 : decode cX3_store 15 = .ok (.getfield 51, 3) := by decide +kernel
theorem dX3_store_18 : decode cX3_store 18 = .ok (.imul, 1) := by decide +kernel
theorem dX3_store_19 : decode cX3_store 19 = .ok (.if_icmp .ge 27, 3) := by decide +kernel
theorem dX3_store_22 : decode cX3_store 22 = .ok (.aload_n 0, 1) := by decide +kernel
theorem dX3_store_23 : decode cX3_store 23 = .ok (.getfield 13, 3) := by decide +kernel
theorem dX3_store_26 : decode cX3_store 26 = .ok (.bipush 96, 2) := by decide +kernel
theorem dX3_store_28 : decode cX3_store 28 = .ok (.iload_n 1, 1) := by decide +kernel
theorem dX3_store_29 : decode cX3_store 29 = .ok (.imul, 1) := by decide +kernel
theorem dX3_store_30 : decode cX3_store 30 = .ok (.iload_n 2, 1) := by decide +kernel
theorem dX3_store_31 : decode cX3_store 31 = .ok (.iadd, 1) := by decide +kernel
theorem dX3_store_32 : decode cX3_store 32 = .ok (.aload_n 0, 1) := by decide +kernel
theorem dX3_store_33 : decode cX3_store 33 = .ok (.getfield 19, 3) := by decide +kernel
theorem dX3_store_36 : decode cX3_store 36 = .ok (.iload_n 2, 1) := by decide +kernel
theorem dX3_store_37 : decode cX3_store 37 = .ok (.laload, 1) := by decide +kernel
theorem dX3_store_38 : decode cX3_store 38 = .ok (.l2i, 1) := by decide +kernel
theorem dX3_store_39 : decode cX3_store 39 = .ok (.iastore, 1) := by decide +kernel
theorem dX3_store_40 : decode cX3_store 40 = .ok (.iinc 2 1, 3) := by decide +kernel
theorem dX3_store_43 : decode cX3_store 43 = .ok (.goto (-31), 3) := by decide +kernel
theorem dX3_store_46 : decode cX3_store 46 = .ok (.return_, 1) := by decide +kernel
theorem dX3_aside_0 : decode cX3_aside 0 = .ok (.aload_n 0, 1) := by decide +kernel
theorem dX3_aside_1 : decode cX3_aside 1 = .ok (.aload_n 0, 1) := by decide +kernel
theorem dX3_aside_2 : decode cX3_aside 2 = .ok (.getfield 51, 3) := by decide +kernel
theorem dX3_aside_5 : decode cX3_aside 5 = .ok (.putfield 59, 3) := by decide +kernel
theorem dX3_aside_8 : decode cX3_aside 8 = .ok (.iconst 0, 1) := by decide +kernel
theorem dX3_aside_9 : decode cX3_aside 9 = .ok (.istore_n 1, 1) := by decide +kernel
theorem dX3_aside_10 : decode cX3_aside 10 = .ok (.iload_n 1, 1) := by decide +kernel
theorem dX3_aside_11 : decode cX3_aside 11 = .ok (.iconst 4, 1) := by decide +kernel
theorem dX3_aside_12 : decode cX3_aside 12 = .ok (.aload_n 0, 1) := by decide +kernel
theorem dX3_aside_13 : decode cX3_aside 13 = .ok (.getfield 51, 3) := by decide +kernel
theorem dX3_aside_16 : decode cX3_aside 16 = .ok (.imul, 1) := by decide +kernel
theorem dX3_aside_17 : decode cX3_aside 17 = .ok (.if_icmp .ge 21, 3) := by decide +kernel
theorem dX3_aside_20 : decode cX3_aside 20 = .ok (.aload_n 0, 1) := by decide +kernel
theorem dX3_aside_21 : decode cX3_aside 21 = .ok (.getfield 23, 3) := by decide +kernel
theorem dX3_aside_24 : decode cX3_aside 24 = .ok (.iload_n 1, 1) := by decide +kernel
theorem dX3_aside_25 : decode cX3_aside 25 = .ok (.aload_n 0, 1) := by decide +kernel
theorem dX3_aside_26 : decode cX3_aside 26 = .ok (.getfield 19, 3) := by decide +kernel
theorem dX3_aside_29 : decode cX3_aside 29 = .ok (.iload_n 1, 1) := by decide +kernel
theorem dX3_aside_30 : decode cX3_aside 30 = .ok (.laload, 1) := by decide +kernel
theorem dX3_aside_31 : decode cX3_aside 31 = .ok (.lastore, 1) := by decide +kernel
theorem dX3_aside_32 : decode cX3_aside 32 = .ok (.iinc 1 1, 3) := by decide +kernel
theorem dX3_aside_35 : decode cX3_aside 35 = .ok (.goto (-25), 3) := by decide +kernel
theorem dX3_aside_38 : decode cX3_aside 38 = .ok (.return_, 1) := by decide +kernel
set_option maxRecDepth 20000 in
theorem ggX3_nothing_X3_put : GoodIn wsX3_nothing wsX3_put := goodIn_r _ [6, 7, 1, 8, 9, 10, 11, 12, 13, 14, 15, 16, 17, 18, 19, 20, 21, 22, 23, 24, 25, 26, 27] (by decide +kernel) (by decide +kernel)
set_option maxRecDepth 20000 in
theorem gX3_nothing_X3_put : GoodIn wsX3_nothing (wsV RX3 55 RX3 yX3_put wsX3_put) := goodIn_app (goodIn_of _ (by decide +kernel)) ggX3_nothing_X3_put
theorem dX3_nothing_0 : decode cX3_nothing 0 = .ok (.aload_n 0, 1) := by decide +kernel
theorem dX3_nothing_1 : decode cX3_nothing 1 = .ok (.iconst 0, 1) := by decide +kernel
theorem dX3_nothing_2 : decode cX3_nothing 2 = .ok (.putfield 51, 3) := by decide +kernel
theorem dX3_nothing_5 : decode cX3_nothing 5 = .ok (.aload_n 0, 1) := by decide +kernel
theorem dX3_nothing_6 : decode cX3_nothing 6 = .ok (.lconst 0, 1) := by decide +kernel
theorem dX3_nothing_7 : decode cX3_nothing 7 = .ok (.lconst 0, 1) := by decide +kernel
theorem dX3_nothing_8 : decode cX3_nothing 8 = .ok (.lconst 0, 1) := by decide +kernel
theorem dX3_nothing_9 : decode cX3_nothing 9 = .ok (.lconst 0, 1) := by decide +kernel
theorem dX3_nothing_10 : decode cX3_nothing 10 = .ok (.invokevirtual 55, 3) := by decide +kernel
theorem dX3_nothing_13 : decode cX3_nothing 13 = .ok (.return_, 1) := by decide +kernel
set_option maxRecDepth 20000 in
theorem ggX3_turnWork_X3_arrange : GoodIn wsX3_turnWork wsX3_arrange := goodIn_r _ [7, 1, 8, 9, 10, 6, 11, 2, 12, 13, 14, 15, 16, 17, 18, 19, 20, 21, 22, 23, 24, 25, 26, 27, 28, 29, 30, 31, 32, 33, 34, 35] (by decide +kernel) (by decide +kernel)
set_option maxRecDepth 20000 in
theorem gX3_turnWork_X3_arrange : GoodIn wsX3_turnWork (wsV RX3 62 RX3 yX3_arrange wsX3_arrange) := goodIn_app (goodIn_of _ (by decide +kernel)) ggX3_turnWork_X3_arrange
theorem dX3_turnWork_0 : decode cX3_turnWork 0 = .ok (.iconst 0, 1) := by decide +kernel
theorem dX3_turnWork_1 : decode cX3_turnWork 1 = .ok (.istore_n 1, 1) := by decide +kernel
theorem dX3_turnWork_2 : decode cX3_turnWork 2 = .ok (.iload_n 1, 1) := by decide +kernel
theorem dX3_turnWork_3 : decode cX3_turnWork 3 = .ok (.aload_n 0, 1) := by decide +kernel
theorem dX3_turnWork_4 : decode cX3_turnWork 4 = .ok (.getfield 51, 3) := by decide +kernel
theorem dX3_turnWork_7 : decode cX3_turnWork 7 = .ok (.if_icmp .ge 91, 3) := by decide +kernel
theorem dX3_turnWork_10 : decode cX3_turnWork 10 = .ok (.aload_n 0, 1) := by decide +kernel
theorem dX3_turnWork_11 : decode cX3_turnWork 11 = .ok (.getfield 19, 3) := by decide +kernel
theorem dX3_turnWork_14 : decode cX3_turnWork 14 = .ok (.iconst 4, 1) := by decide +kernel
theorem dX3_turnWork_15 : decode cX3_turnWork 15 = .ok (.iload_n 1, 1) := by decide +kernel
theorem dX3_turnWork_16 : decode cX3_turnWork 16 = .ok (.imul, 1) := by decide +kernel
theorem dX3_turnWork_17 : decode cX3_turnWork 17 = .ok (.laload, 1) := by decide +kernel
theorem dX3_turnWork_18 : decode cX3_turnWork 18 = .ok (.lstore_n 2, 1) := by decide +kernel
theorem dX3_turnWork_19 : decode cX3_turnWork 19 = .ok (.aload_n 0, 1) := by decide +kernel
theorem dX3_turnWork_20 : decode cX3_turnWork 20 = .ok (.getfield 19, 3) := by decide +kernel
theorem dX3_turnWork_23 : decode cX3_turnWork 23 = .ok (.iconst 4, 1) := by decide +kernel
theorem dX3_turnWork_24 : decode cX3_turnWork 24 = .ok (.iload_n 1, 1) := by decide +kernel
theorem dX3_turnWork_25 : decode cX3_turnWork 25 = .ok (.imul, 1) := by decide +kernel
theorem dX3_turnWork_26 : decode cX3_turnWork 26 = .ok (.iconst 1, 1) := by decide +kernel
theorem dX3_turnWork_27 : decode cX3_turnWork 27 = .ok (.iadd, 1) := by decide +kernel
theorem dX3_turnWork_28 : decode cX3_turnWork 28 = .ok (.laload, 1) := by decide +kernel
theorem dX3_turnWork_29 : decode cX3_turnWork 29 = .ok (.lstore 4, 2) := by decide +kernel
theorem dX3_turnWork_31 : decode cX3_turnWork 31 = .ok (.aload_n 0, 1) := by decide +kernel
theorem dX3_turnWork_32 : decode cX3_turnWork 32 = .ok (.getfield 19, 3) := by decide +kernel
theorem dX3_turnWork_35 : decode cX3_turnWork 35 = .ok (.iconst 4, 1) := by decide +kernel
theorem dX3_turnWork_36 : decode cX3_turnWork 36 = .ok (.iload_n 1, 1) := by decide +kernel
theorem dX3_turnWork_37 : decode cX3_turnWork 37 = .ok (.imul, 1) := by decide +kernel
theorem dX3_turnWork_38 : decode cX3_turnWork 38 = .ok (.aload_n 0, 1) := by decide +kernel
theorem dX3_turnWork_39 : decode cX3_turnWork 39 = .ok (.getfield 19, 3) := by decide +kernel
theorem dX3_turnWork_42 : decode cX3_turnWork 42 = .ok (.iconst 4, 1) := by decide +kernel
theorem dX3_turnWork_43 : decode cX3_turnWork 43 = .ok (.iload_n 1, 1) := by decide +kernel
theorem dX3_turnWork_44 : decode cX3_turnWork 44 = .ok (.imul, 1) := by decide +kernel
theorem dX3_turnWork_45 : decode cX3_turnWork 45 = .ok (.iconst 2, 1) := by decide +kernel
theorem dX3_turnWork_46 : decode cX3_turnWork 46 = .ok (.iadd, 1) := by decide +kernel
theorem dX3_turnWork_47 : decode cX3_turnWork 47 = .ok (.laload, 1) := by decide +kernel
theorem dX3_turnWork_48 : decode cX3_turnWork 48 = .ok (.lastore, 1) := by decide +kernel
theorem dX3_turnWork_49 : decode cX3_turnWork 49 = .ok (.aload_n 0, 1) := by decide +kernel
theorem dX3_turnWork_50 : decode cX3_turnWork 50 = .ok (.getfield 19, 3) := by decide +kernel
theorem dX3_turnWork_53 : decode cX3_turnWork 53 = .ok (.iconst 4, 1) := by decide +kernel
theorem dX3_turnWork_54 : decode cX3_turnWork 54 = .ok (.iload_n 1, 1) := by decide +kernel
theorem dX3_turnWork_55 : decode cX3_turnWork 55 = .ok (.imul, 1) := by decide +kernel
theorem dX3_turnWork_56 : decode cX3_turnWork 56 = .ok (.iconst 1, 1) := by decide +kernel
theorem dX3_turnWork_57 : decode cX3_turnWork 57 = .ok (.iadd, 1) := by decide +kernel
theorem dX3_turnWork_58 : decode cX3_turnWork 58 = .ok (.aload_n 0, 1) := by decide +kernel
theorem dX3_turnWork_59 : decode cX3_turnWork 59 = .ok (.getfield 19, 3) := by decide +kernel
theorem dX3_turnWork_62 : decode cX3_turnWork 62 = .ok (.iconst 4, 1) := by decide +kernel
theorem dX3_turnWork_63 : decode cX3_turnWork 63 = .ok (.iload_n 1, 1) := by decide +kernel
theorem dX3_turnWork_64 : decode cX3_turnWork 64 = .ok (.imul, 1) := by decide +kernel
theorem dX3_turnWork_65 : decode cX3_turnWork 65 = .ok (.iconst 3, 1) := by decide +kernel
theorem dX3_turnWork_66 : decode cX3_turnWork 66 = .ok (.iadd, 1) := by decide +kernel
theorem dX3_turnWork_67 : decode cX3_turnWork 67 = .ok (.laload, 1) := by decide +kernel
theorem dX3_turnWork_68 : decode cX3_turnWork 68 = .ok (.lastore, 1) := by decide +kernel
theorem dX3_turnWork_69 : decode cX3_turnWork 69 = .ok (.aload_n 0, 1) := by decide +kernel
theorem dX3_turnWork_70 : decode cX3_turnWork 70 = .ok (.getfield 19, 3) := by decide +kernel
theorem dX3_turnWork_73 : decode cX3_turnWork 73 = .ok (.iconst 4, 1) := by decide +kernel
theorem dX3_turnWork_74 : decode cX3_turnWork 74 = .ok (.iload_n 1, 1) := by decide +kernel
theorem dX3_turnWork_75 : decode cX3_turnWork 75 = .ok (.imul, 1) := by decide +kernel
theorem dX3_turnWork_76 : decode cX3_turnWork 76 = .ok (.iconst 2, 1) := by decide +kernel
theorem dX3_turnWork_77 : decode cX3_turnWork 77 = .ok (.iadd, 1) := by decide +kernel
theorem dX3_turnWork_78 : decode cX3_turnWork 78 = .ok (.lload_n 2, 1) := by decide +kernel
theorem dX3_turnWork_79 : decode cX3_turnWork 79 = .ok (.lastore, 1) := by decide +kernel
theorem dX3_turnWork_80 : decode cX3_turnWork 80 = .ok (.aload_n 0, 1) := by decide +kernel
theorem dX3_turnWork_81 : decode cX3_turnWork 81 = .ok (.getfield 19, 3) := by decide +kernel
theorem dX3_turnWork_84 : decode cX3_turnWork 84 = .ok (.iconst 4, 1) := by decide +kernel
theorem dX3_turnWork_85 : decode cX3_turnWork 85 = .ok (.iload_n 1, 1) := by decide +kernel
theorem dX3_turnWork_86 : decode cX3_turnWork 86 = .ok (.imul, 1) := by decide +kernel
theorem dX3_turnWork_87 : decode cX3_turnWork 87 = .ok (.iconst 3, 1) := by decide +kernel
theorem dX3_turnWork_88 : decode cX3_turnWork 88 = .ok (.iadd, 1) := by decide +kernel
theorem dX3_turnWork_89 : decode cX3_turnWork 89 = .ok (.lload 4, 2) := by decide +kernel
theorem dX3_turnWork_91 : decode cX3_turnWork 91 = .ok (.lastore, 1) := by decide +kernel
theorem dX3_turnWork_92 : decode cX3_turnWork 92 = .ok (.iinc 1 1, 3) := by decide +kernel
theorem dX3_turnWork_95 : decode cX3_turnWork 95 = .ok (.goto (-93), 3) := by decide +kernel
theorem dX3_turnWork_98 : decode cX3_turnWork 98 = .ok (.aload_n 0, 1) := by decide +kernel
theorem dX3_turnWork_99 : decode cX3_turnWork 99 = .ok (.invokevirtual 62, 3) := by decide +kernel
theorem dX3_turnWork_102 : decode cX3_turnWork 102 = .ok (.return_, 1) := by decide +kernel
theorem dX3_remove_0 : decode cX3_remove 0 = .ok (.aload_n 0, 1) := by decide +kernel
theorem dX3_remove_1 : decode cX3_remove 1 = .ok (.dup, 1) := by decide +kernel
theorem dX3_remove_2 : decode cX3_remove 2 = .ok (.getfield 51, 3) := by decide +kernel
theorem dX3_remove_5 : decode cX3_remove 5 = .ok (.iconst 1, 1) := by decide +kernel
theorem dX3_remove_6 : decode cX3_remove 6 = .ok (.isub, 1) := by decide +kernel
theorem dX3_remove_7 : decode cX3_remove 7 = .ok (.putfield 51, 3) := by decide +kernel
theorem dX3_remove_10 : decode cX3_remove 10 = .ok (.iconst 0, 1) := by decide +kernel
theorem dX3_remove_11 : decode cX3_remove 11 = .ok (.istore_n 2, 1) := by decide +kernel
theorem dX3_remove_12 : decode cX3_remove 12 = .ok (.iload_n 2, 1) := by decide +kernel
theorem dX3_remove_13 : decode cX3_remove 13 = .ok (.iconst 4, 1) := by decide +kernel
theorem dX3_remove_14 : decode cX3_remove 14 = .ok (.if_icmp .ge 32, 3) := by decide +kernel
theorem dX3_remove_17 : decode cX3_remove 17 = .ok (.aload_n 0, 1) := by decide +kernel
theorem dX3_remove_18 : decode cX3_remove 18 = .ok (.getfield 19, 3) := by decide +kernel
theorem dX3_remove_21 : decode cX3_remove 21 = .ok (.iconst 4, 1) := by decide +kernel
theorem dX3_remove_22 : decode cX3_remove 22 = .ok (.iload_n 1, 1) := by decide +kernel
theorem dX3_remove_23 : decode cX3_remove 23 = .ok (.imul, 1) := by decide +kernel
theorem dX3_remove_24 : decode cX3_remove 24 = .ok (.iload_n 2, 1) := by decide +kernel
theorem dX3_remove_25 : decode cX3_remove 25 = .ok (.iadd, 1) := by decide +kernel
theorem dX3_remove_26 : decode cX3_remove 26 = .ok (.aload_n 0, 1) := by decide +kernel
theorem dX3_remove_27 : decode cX3_remove 27 = .ok (.getfield 19, 3) := by decide +kernel
theorem dX3_remove_30 : decode cX3_remove 30 = .ok (.iconst 4, 1) := by decide +kernel
theorem dX3_remove_31 : decode cX3_remove 31 = .ok (.aload_n 0, 1) := by decide +kernel
theorem dX3_remove_32 : decode cX3_remove 32 = .ok (.getfield 51, 3) := by decide +kernel
theorem dX3_remove_35 : decode cX3_remove 35 = .ok (.imul, 1) := by decide +kernel
theorem dX3_remove_36 : decode cX3_remove 36 = .ok (.iload_n 2, 1) := by decide +kernel
theorem dX3_remove_37 : decode cX3_remove 37 = .ok (.iadd, 1) := by decide +kernel
theorem dX3_remove_38 : decode cX3_remove 38 = .ok (.laload, 1) := by decide +kernel
theorem dX3_remove_39 : decode cX3_remove 39 = .ok (.lastore, 1) := by decide +kernel
theorem dX3_remove_40 : decode cX3_remove 40 = .ok (.iinc 2 1, 3) := by decide +kernel
theorem dX3_remove_43 : decode cX3_remove 43 = .ok (.goto (-31), 3) := by decide +kernel
theorem dX3_remove_46 : decode cX3_remove 46 = .ok (.return_, 1) := by decide +kernel
set_option maxRecDepth 20000 in
theorem ggX3_reduce_X3_remove : GoodIn wsX3_reduce wsX3_remove := goodIn_r _ [8, 1, 2, 21, 22, 23, 24, 25, 26, 27, 28, 29, 30, 31, 32, 33, 34, 35, 36, 37, 38, 39, 40] (by decide +kernel) (by decide +kernel)
set_option maxRecDepth 20000 in
theorem gX3_reduce_X3_remove : GoodIn wsX3_reduce (wsV RX3 67 RX3 yX3_remove wsX3_remove) := goodIn_app (goodIn_of _ (by decide +kernel)) ggX3_reduce_X3_remove
set_option maxRecDepth 20000 in
theorem ggX3_reduce_X3_arrange : GoodIn wsX3_reduce wsX3_arrange := goodIn_r _ [12, 1, 13, 14, 15, 7, 16, 2, 17, 18, 19, 20, 21, 22, 23, 24, 25, 26, 27, 28, 29, 30, 31, 32, 33, 34, 35, 36, 37, 38, 39, 40] (by decide +kernel) (by decide +kernel)
set_option maxRecDepth 20000 in
theorem gX3_reduce_X3_arrange : GoodIn wsX3_reduce (wsV RX3 62 RX3 yX3_arrange wsX3_arrange) := goodIn_app (goodIn_of _ (by decide +kernel)) ggX3_reduce_X3_arrange
theorem dX3_reduce_0 : decode cX3_reduce 0 = .ok (.iconst 1, 1) := by decide +kernel
theorem dX3_reduce_1 : decode cX3_reduce 1 = .ok (.istore_n 1, 1) := by decide +kernel
theorem dX3_reduce_2 : decode cX3_reduce 2 = .ok (.iload_n 1, 1) := by decide +kernel
theorem dX3_reduce_3 : decode cX3_reduce 3 = .ok (.ifCond .eq 275, 3) := by decide +kernel
theorem dX3_reduce_6 : decode cX3_reduce 6 = .ok (.iconst 0, 1) := by decide +kernel
theorem dX3_reduce_7 : decode cX3_reduce 7 = .ok (.istore_n 1, 1) := by decide +kernel
theorem dX3_reduce_8 : decode cX3_reduce 8 = .ok (.iconst 0, 1) := by decide +kernel
theorem dX3_reduce_9 : decode cX3_reduce 9 = .ok (.istore_n 2, 1) := by decide +kernel
theorem dX3_reduce_10 : decode cX3_reduce 10 = .ok (.iload_n 2, 1) := by decide +kernel
theorem dX3_reduce_11 : decode cX3_reduce 11 = .ok (.aload_n 0, 1) := by decide +kernel
theorem dX3_reduce_12 : decode cX3_reduce 12 = .ok (.getfield 51, 3) := by decide +kernel
theorem dX3_reduce_15 : decode cX3_reduce 15 = .ok (.if_icmp .ge 260, 3) := by decide +kernel
theorem dX3_reduce_18 : decode cX3_reduce 18 = .ok (.iload_n 1, 1) := by decide +kernel
theorem dX3_reduce_19 : decode cX3_reduce 19 = .ok (.ifCond .ne 256, 3) := by decide +kernel
theorem dX3_reduce_22 : decode cX3_reduce 22 = .ok (.iconst 0, 1) := by decide +kernel
theorem dX3_reduce_23 : decode cX3_reduce 23 = .ok (.istore_n 3, 1) := by decide +kernel
theorem dX3_reduce_24 : decode cX3_reduce 24 = .ok (.iload_n 3, 1) := by decide +kernel
theorem dX3_reduce_25 : decode cX3_reduce 25 = .ok (.aload_n 0, 1) := by decide +kernel
theorem dX3_reduce_26 : decode cX3_reduce 26 = .ok (.getfield 51, 3) := by decide +kernel
theorem dX3_reduce_29 : decode cX3_reduce 29 = .ok (.if_icmp .ge 240, 3) := by decide +kernel
theorem dX3_reduce_32 : decode cX3_reduce 32 = .ok (.iload_n 1, 1) := by decide +kernel
theorem dX3_reduce_33 : decode cX3_reduce 33 = .ok (.ifCond .ne 236, 3) := by decide +kernel
theorem dX3_reduce_36 : decode cX3_reduce 36 = .ok (.aload_n 0, 1) := by decide +kernel
theorem dX3_reduce_37 : decode cX3_reduce 37 = .ok (.getfield 19, 3) := by decide +kernel
theorem dX3_reduce_40 : decode cX3_reduce 40 = .ok (.iconst 4, 1) := by decide +kernel
theorem dX3_reduce_41 : decode cX3_reduce 41 = .ok (.iload_n 2, 1) := by decide +kernel
theorem dX3_reduce_42 : decode cX3_reduce 42 = .ok (.imul, 1) := by decide +kernel
theorem dX3_reduce_43 : decode cX3_reduce 43 = .ok (.laload, 1) := by decide +kernel
theorem dX3_reduce_44 : decode cX3_reduce 44 = .ok (.lconst 0, 1) := by decide +kernel
theorem dX3_reduce_45 : decode cX3_reduce 45 = .ok (.lcmp, 1) := by decide +kernel
theorem dX3_reduce_46 : decode cX3_reduce 46 = .ok (.ifCond .le 217, 3) := by decide +kernel
theorem dX3_reduce_49 : decode cX3_reduce 49 = .ok (.aload_n 0, 1) := by decide +kernel
theorem dX3_reduce_50 : decode cX3_reduce 50 = .ok (.getfield 19, 3) := by decide +kernel
theorem dX3_reduce_53 : decode cX3_reduce 53 = .ok (.iconst 4, 1) := by decide +kernel
theorem dX3_reduce_54 : decode cX3_reduce 54 = .ok (.iload_n 2, 1) := by decide +kernel
theorem dX3_reduce_55 : decode cX3_reduce 55 = .ok (.imul, 1) := by decide +kernel
theorem dX3_reduce_56 : decode cX3_reduce 56 = .ok (.iconst 2, 1) := by decide +kernel
theorem dX3_reduce_57 : decode cX3_reduce 57 = .ok (.iadd, 1) := by decide +kernel
theorem dX3_reduce_58 : decode cX3_reduce 58 = .ok (.laload, 1) := by decide +kernel
theorem dX3_reduce_59 : decode cX3_reduce 59 = .ok (.lconst 0, 1) := by decide +kernel
theorem dX3_reduce_60 : decode cX3_reduce 60 = .ok (.lcmp, 1) := by decide +kernel
theorem dX3_reduce_61 : decode cX3_reduce 61 = .ok (.ifCond .le 202, 3) := by decide +kernel
theorem dX3_reduce_64 : decode cX3_reduce 64 = .ok (.aload_n 0, 1) := by decide +kernel
theorem dX3_reduce_65 : decode cX3_reduce 65 = .ok (.getfield 19, 3) := by decide +kernel
theorem dX3_reduce_68 : decode cX3_reduce 68 = .ok (.iconst 4, 1) := by decide +kernel
theorem dX3_reduce_69 : decode cX3_reduce 69 = .ok (.iload_n 2, 1) := by decide +kernel
theorem dX3_reduce_70 : decode cX3_reduce 70 = .ok (.imul, 1) := by decide +kernel
theorem dX3_reduce_71 : decode cX3_reduce 71 = .ok (.laload, 1) := by decide +kernel
theorem dX3_reduce_72 : decode cX3_reduce 72 = .ok (.aload_n 0, 1) := by decide +kernel
theorem dX3_reduce_73 : decode cX3_reduce 73 = .ok (.getfield 19, 3) := by decide +kernel
theorem dX3_reduce_76 : decode cX3_reduce 76 = .ok (.iconst 4, 1) := by decide +kernel
theorem dX3_reduce_77 : decode cX3_reduce 77 = .ok (.iload_n 3, 1) := by decide +kernel
theorem dX3_reduce_78 : decode cX3_reduce 78 = .ok (.imul, 1) := by decide +kernel
theorem dX3_reduce_79 : decode cX3_reduce 79 = .ok (.laload, 1) := by decide +kernel
theorem dX3_reduce_80 : decode cX3_reduce 80 = .ok (.lcmp, 1) := by decide +kernel
theorem dX3_reduce_81 : decode cX3_reduce 81 = .ok (.ifCond .ne 182, 3) := by decide +kernel
theorem dX3_reduce_84 : decode cX3_reduce 84 = .ok (.aload_n 0, 1) := by decide +kernel
theorem dX3_reduce_85 : decode cX3_reduce 85 = .ok (.getfield 19, 3) := by decide +kernel
theorem dX3_reduce_88 : decode cX3_reduce 88 = .ok (.iconst 4, 1) := by decide +kernel
theorem dX3_reduce_89 : decode cX3_reduce 89 = .ok (.iload_n 2, 1) := by decide +kernel
theorem dX3_reduce_90 : decode cX3_reduce 90 = .ok (.imul, 1) := by decide +kernel
theorem dX3_reduce_91 : decode cX3_reduce 91 = .ok (.iconst 2, 1) := by decide +kernel
theorem dX3_reduce_92 : decode cX3_reduce 92 = .ok (.iadd, 1) := by decide +kernel
theorem dX3_reduce_93 : decode cX3_reduce 93 = .ok (.laload, 1) := by decide +kernel
theorem dX3_reduce_94 : decode cX3_reduce 94 = .ok (.aload_n 0, 1) := by decide +kernel
theorem dX3_reduce_95 : decode cX3_reduce 95 = .ok (.getfield 19, 3) := by decide +kernel
theorem dX3_reduce_98 : decode cX3_reduce 98 = .ok (.iconst 4, 1) := by decide +kernel
theorem dX3_reduce_99 : decode cX3_reduce 99 = .ok (.iload_n 3, 1) := by decide +kernel
theorem dX3_reduce_100 : decode cX3_reduce 100 = .ok (.imul, 1) := by decide +kernel
theorem dX3_reduce_101 : decode cX3_reduce 101 = .ok (.iconst 2, 1) := by decide +kernel
theorem dX3_reduce_102 : decode cX3_reduce 102 = .ok (.iadd, 1) := by decide +kernel
theorem dX3_reduce_103 : decode cX3_reduce 103 = .ok (.laload, 1) := by decide +kernel
theorem dX3_reduce_104 : decode cX3_reduce 104 = .ok (.lcmp, 1) := by decide +kernel
theorem dX3_reduce_105 : decode cX3_reduce 105 = .ok (.ifCond .ne 158, 3) := by decide +kernel
theorem dX3_reduce_108 : decode cX3_reduce 108 = .ok (.aload_n 0, 1) := by decide +kernel
theorem dX3_reduce_109 : decode cX3_reduce 109 = .ok (.getfield 19, 3) := by decide +kernel
theorem dX3_reduce_112 : decode cX3_reduce 112 = .ok (.iconst 4, 1) := by decide +kernel
theorem dX3_reduce_113 : decode cX3_reduce 113 = .ok (.iload_n 2, 1) := by decide +kernel
theorem dX3_reduce_114 : decode cX3_reduce 114 = .ok (.imul, 1) := by decide +kernel
theorem dX3_reduce_115 : decode cX3_reduce 115 = .ok (.iconst 1, 1) := by decide +kernel
theorem dX3_reduce_116 : decode cX3_reduce 116 = .ok (.iadd, 1) := by decide +kernel
theorem dX3_reduce_117 : decode cX3_reduce 117 = .ok (.laload, 1) := by decide +kernel
theorem dX3_reduce_118 : decode cX3_reduce 118 = .ok (.ldc2_w 65, 3) := by decide +kernel
theorem dX3_reduce_121 : decode cX3_reduce 121 = .ok (.lrem, 1) := by decide +kernel
theorem dX3_reduce_122 : decode cX3_reduce 122 = .ok (.lconst 0, 1) := by decide +kernel
theorem dX3_reduce_123 : decode cX3_reduce 123 = .ok (.lcmp, 1) := by decide +kernel
theorem dX3_reduce_124 : decode cX3_reduce 124 = .ok (.ifCond .ne 139, 3) := by decide +kernel
theorem dX3_reduce_127 : decode cX3_reduce 127 = .ok (.aload_n 0, 1) := by decide +kernel
theorem dX3_reduce_128 : decode cX3_reduce 128 = .ok (.getfield 19, 3) := by decide +kernel
theorem dX3_reduce_131 : decode cX3_reduce 131 = .ok (.iconst 4, 1) := by decide +kernel
theorem dX3_reduce_132 : decode cX3_reduce 132 = .ok (.iload_n 3, 1) := by decide +kernel
theorem dX3_reduce_133 : decode cX3_reduce 133 = .ok (.imul, 1) := by decide +kernel
theorem dX3_reduce_134 : decode cX3_reduce 134 = .ok (.iconst 1, 1) := by decide +kernel
theorem dX3_reduce_135 : decode cX3_reduce 135 = .ok (.iadd, 1) := by decide +kernel
theorem dX3_reduce_136 : decode cX3_reduce 136 = .ok (.laload, 1) := by decide +kernel
theorem dX3_reduce_137 : decode cX3_reduce 137 = .ok (.aload_n 0, 1) := by decide +kernel
theorem dX3_reduce_138 : decode cX3_reduce 138 = .ok (.getfield 19, 3) := by decide +kernel
theorem dX3_reduce_141 : decode cX3_reduce 141 = .ok (.iconst 4, 1) := by decide +kernel
theorem dX3_reduce_142 : decode cX3_reduce 142 = .ok (.iload_n 2, 1) := by decide +kernel
theorem dX3_reduce_143 : decode cX3_reduce 143 = .ok (.imul, 1) := by decide +kernel
theorem dX3_reduce_144 : decode cX3_reduce 144 = .ok (.iconst 1, 1) := by decide +kernel
theorem dX3_reduce_145 : decode cX3_reduce 145 = .ok (.iadd, 1) := by decide +kernel
theorem dX3_reduce_146 : decode cX3_reduce 146 = .ok (.laload, 1) := by decide +kernel
theorem dX3_reduce_147 : decode cX3_reduce 147 = .ok (.lconst 1, 1) := by decide +kernel
theorem dX3_reduce_148 : decode cX3_reduce 148 = .ok (.ladd, 1) := by decide +kernel
theorem dX3_reduce_149 : decode cX3_reduce 149 = .ok (.lcmp, 1) := by decide +kernel
theorem dX3_reduce_150 : decode cX3_reduce 150 = .ok (.ifCond .ne 113, 3) := by decide +kernel
theorem dX3_reduce_153 : decode cX3_reduce 153 = .ok (.aload_n 0, 1) := by decide +kernel
theorem dX3_reduce_154 : decode cX3_reduce 154 = .ok (.getfield 19, 3) := by decide +kernel
theorem dX3_reduce_157 : decode cX3_reduce 157 = .ok (.iconst 4, 1) := by decide +kernel
theorem dX3_reduce_158 : decode cX3_reduce 158 = .ok (.iload_n 2, 1) := by decide +kernel
theorem dX3_reduce_159 : decode cX3_reduce 159 = .ok (.imul, 1) := by decide +kernel
theorem dX3_reduce_160 : decode cX3_reduce 160 = .ok (.iconst 3, 1) := by decide +kernel
theorem dX3_reduce_161 : decode cX3_reduce 161 = .ok (.iadd, 1) := by decide +kernel
theorem dX3_reduce_162 : decode cX3_reduce 162 = .ok (.laload, 1) := by decide +kernel
theorem dX3_reduce_163 : decode cX3_reduce 163 = .ok (.ldc2_w 65, 3) := by decide +kernel
theorem dX3_reduce_166 : decode cX3_reduce 166 = .ok (.lrem, 1) := by decide +kernel
theorem dX3_reduce_167 : decode cX3_reduce 167 = .ok (.lconst 0, 1) := by decide +kernel
theorem dX3_reduce_168 : decode cX3_reduce 168 = .ok (.lcmp, 1) := by decide +kernel
theorem dX3_reduce_169 : decode cX3_reduce 169 = .ok (.ifCond .ne 94, 3) := by decide +kernel
theorem dX3_reduce_172 : decode cX3_reduce 172 = .ok (.aload_n 0, 1) := by decide +kernel
theorem dX3_reduce_173 : decode cX3_reduce 173 = .ok (.getfield 19, 3) := by decide +kernel
theorem dX3_reduce_176 : decode cX3_reduce 176 = .ok (.iconst 4, 1) := by decide +kernel
theorem dX3_reduce_177 : decode cX3_reduce 177 = .ok (.iload_n 3, 1) := by decide +kernel
theorem dX3_reduce_178 : decode cX3_reduce 178 = .ok (.imul, 1) := by decide +kernel
theorem dX3_reduce_179 : decode cX3_reduce 179 = .ok (.iconst 3, 1) := by decide +kernel
theorem dX3_reduce_180 : decode cX3_reduce 180 = .ok (.iadd, 1) := by decide +kernel
theorem dX3_reduce_181 : decode cX3_reduce 181 = .ok (.laload, 1) := by decide +kernel
theorem dX3_reduce_182 : decode cX3_reduce 182 = .ok (.aload_n 0, 1) := by decide +kernel
theorem dX3_reduce_183 : decode cX3_reduce 183 = .ok (.getfield 19, 3) := by decide +kernel
theorem dX3_reduce_186 : decode cX3_reduce 186 = .ok (.iconst 4, 1) := by decide +kernel
theorem dX3_reduce_187 : decode cX3_reduce 187 = .ok (.iload_n 2, 1) := by decide +kernel
theorem dX3_reduce_188 : decode cX3_reduce 188 = .ok (.imul, 1) := by decide +kernel
theorem dX3_reduce_189 : decode cX3_reduce 189 = .ok (.iconst 3, 1) := by decide +kernel
theorem dX3_reduce_190 : decode cX3_reduce 190 = .ok (.iadd, 1) := by decide +kernel
theorem dX3_reduce_191 : decode cX3_reduce 191 = .ok (.laload, 1) := by decide +kernel
theorem dX3_reduce_192 : decode cX3_reduce 192 = .ok (.lconst 1, 1) := by decide +kernel
theorem dX3_reduce_193 : decode cX3_reduce 193 = .ok (.ladd, 1) := by decide +kernel
theorem dX3_reduce_194 : decode cX3_reduce 194 = .ok (.lcmp, 1) := by decide +kernel
theorem dX3_reduce_195 : decode cX3_reduce 195 = .ok (.ifCond .ne 68, 3) := by decide +kernel
theorem dX3_reduce_198 : decode cX3_reduce 198 = .ok (.aload_n 0, 1) := by decide +kernel
theorem dX3_reduce_199 : decode cX3_reduce 199 = .ok (.getfield 19, 3) := by decide +kernel
theorem dX3_reduce_202 : decode cX3_reduce 202 = .ok (.iconst 4, 1) := by decide +kernel
theorem dX3_reduce_203 : decode cX3_reduce 203 = .ok (.iload_n 2, 1) := by decide +kernel
theorem dX3_reduce_204 : decode cX3_reduce 204 = .ok (.imul, 1) := by decide +kernel
theorem dX3_reduce_205 : decode cX3_reduce 205 = .ok (.dup2, 1) := by decide +kernel
theorem dX3_reduce_206 : decode cX3_reduce 206 = .ok (.laload, 1) := by decide +kernel
theorem dX3_reduce_207 : decode cX3_reduce 207 = .ok (.lconst 1, 1) := by decide +kernel
theorem dX3_reduce_208 : decode cX3_reduce 208 = .ok (.lsub, 1) := by decide +kernel
theorem dX3_reduce_209 : decode cX3_reduce 209 = .ok (.lastore, 1) := by decide +kernel
theorem dX3_reduce_210 : decode cX3_reduce 210 = .ok (.aload_n 0, 1) := by decide +kernel
theorem dX3_reduce_211 : decode cX3_reduce 211 = .ok (.getfield 19, 3) := by decide +kernel
theorem dX3_reduce_214 : decode cX3_reduce 214 = .ok (.iconst 4, 1) := by decide +kernel
theorem dX3_reduce_215 : decode cX3_reduce 215 = .ok (.iload_n 2, 1) := by decide +kernel
theorem dX3_reduce_216 : decode cX3_reduce 216 = .ok (.imul, 1) := by decide +kernel
theorem dX3_reduce_217 : decode cX3_reduce 217 = .ok (.iconst 1, 1) := by decide +kernel
theorem dX3_reduce_218 : decode cX3_reduce 218 = .ok (.iadd, 1) := by decide +kernel
theorem dX3_reduce_219 : decode cX3_reduce 219 = .ok (.dup2, 1) := by decide +kernel
theorem dX3_reduce_220 : decode cX3_reduce 220 = .ok (.laload, 1) := by decide +kernel
theorem dX3_reduce_221 : decode cX3_reduce 221 = .ok (.ldc2_w 65, 3) := by decide +kernel
theorem dX3_reduce_224 : decode cX3_reduce 224 = .ok (.ldiv, 1) := by decide +kernel
theorem dX3_reduce_225 : decode cX3_reduce 225 = .ok (.lastore, 1) := by decide +kernel
theorem dX3_reduce_226 : decode cX3_reduce 226 = .ok (.aload_n 0, 1) := by decide +kernel
theorem dX3_reduce_227 : decode cX3_reduce 227 = .ok (.getfield 19, 3) := by decide +kernel
theorem dX3_reduce_230 : decode cX3_reduce 230 = .ok (.iconst 4, 1) := by decide +kernel
theorem dX3_reduce_231 : decode cX3_reduce 231 = .ok (.iload_n 2, 1) := by decide +kernel
theorem dX3_reduce_232 : decode cX3_reduce 232 = .ok (.imul, 1) := by decide +kernel
theorem dX3_reduce_233 : decode cX3_reduce 233 = .ok (.iconst 2, 1) := by decide +kernel
theorem dX3_reduce_234 : decode cX3_reduce 234 = .ok (.iadd, 1) := by decide +kernel
theorem dX3_reduce_235 : decode cX3_reduce 235 = .ok (.dup2, 1) := by decide +kernel
theorem dX3_reduce_236 : decode cX3_reduce 236 = .ok (.laload, 1) := by decide +kernel
theorem dX3_reduce_237 : decode cX3_reduce 237 = .ok (.lconst 1, 1) := by decide +kernel
theorem dX3_reduce_238 : decode cX3_reduce 238 = .ok (.lsub, 1) := by decide +kernel
theorem dX3_reduce_239 : decode cX3_reduce 239 = .ok (.lastore, 1) := by decide +kernel
theorem dX3_reduce_240 : decode cX3_reduce 240 = .ok (.aload_n 0, 1) := by decide +kernel
theorem dX3_reduce_241 : decode cX3_reduce 241 = .ok (.getfield 19, 3) := by decide +kernel
theorem dX3_reduce_244 : decode cX3_reduce 244 = .ok (.iconst 4, 1) := by decide +kernel
theorem dX3_reduce_245 : decode cX3_reduce 245 = .ok (.iload_n 2, 1) := by decide +kernel
theorem dX3_reduce_246 : decode cX3_reduce 246 = .ok (.imul, 1) := by decide +kernel
theorem dX3_reduce_247 : decode cX3_reduce 247 = .ok (.iconst 3, 1) := by decide +kernel
theorem dX3_reduce_248 : decode cX3_reduce 248 = .ok (.iadd, 1) := by decide +kernel
theorem dX3_reduce_249 : decode cX3_reduce 249 = .ok (.dup2, 1) := by decide +kernel
theorem dX3_reduce_250 : decode cX3_reduce 250 = .ok (.laload, 1) := by decide +kernel
theorem dX3_reduce_251 : decode cX3_reduce 251 = .ok (.ldc2_w 65, 3) := by decide +kernel
theorem dX3_reduce_254 : decode cX3_reduce 254 = .ok (.ldiv, 1) := by decide +kernel
theorem dX3_reduce_255 : decode cX3_reduce 255 = .ok (.lastore, 1) := by decide +kernel
theorem dX3_reduce_256 : decode cX3_reduce 256 = .ok (.aload_n 0, 1) := by decide +kernel
theorem dX3_reduce_257 : decode cX3_reduce 257 = .ok (.iload_n 3, 1) := by decide +kernel
theorem dX3_reduce_258 : decode cX3_reduce 258 = .ok (.invokevirtual 67, 3) := by decide +kernel
theorem dX3_reduce_261 : decode cX3_reduce 261 = .ok (.iconst 1, 1) := by decide +kernel
theorem dX3_reduce_262 : decode cX3_reduce 262 = .ok (.istore_n 1, 1) := by decide +kernel
theorem dX3_reduce_263 : decode cX3_reduce 263 = .ok (.iinc 3 1, 3) := by decide +kernel
theorem dX3_reduce_266 : decode cX3_reduce 266 = .ok (.goto (-242), 3) := by decide +kernel
theorem dX3_reduce_269 : decode cX3_reduce 269 = .ok (.iinc 2 1, 3) := by decide +kernel
theorem dX3_reduce_272 : decode cX3_reduce 272 = .ok (.goto (-262), 3) := by decide +kernel
theorem dX3_reduce_275 : decode cX3_reduce 275 = .ok (.goto (-273), 3) := by decide +kernel
theorem dX3_reduce_278 : decode cX3_reduce 278 = .ok (.aload_n 0, 1) := by decide +kernel
theorem dX3_reduce_279 : decode cX3_reduce 279 = .ok (.invokevirtual 62, 3) := by decide +kernel
theorem dX3_reduce_282 : decode cX3_reduce 282 = .ok (.return_, 1) := by decide +kernel
theorem dX3_isLeft_0 : decode cX3_isLeft 0 = .ok (.aload_n 0, 1) := by decide +kernel
theorem dX3_isLeft_1 : decode cX3_isLeft 1 = .ok (.getfield 19, 3) := by decide +kernel
theorem dX3_isLeft_4 : decode cX3_isLeft 4 = .ok (.iconst 4, 1) := by decide +kernel
theorem dX3_isLeft_5 : decode cX3_isLeft 5 = .ok (.iload_n 1, 1) := by decide +kernel
theorem dX3_isLeft_6 : decode cX3_isLeft 6 = .ok (.imul, 1) := by decide +kernel
theorem dX3_isLeft_7 : decode cX3_isLeft 7 = .ok (.iload_n 3, 1) := by decide +kernel
theorem dX3_isLeft_8 : decode cX3_isLeft 8 = .ok (.iadd, 1) := by decide +kernel
theorem dX3_isLeft_9 : decode cX3_isLeft 9 = .ok (.laload, 1) := by decide +kernel
theorem dX3_isLeft_10 : decode cX3_isLeft 10 = .ok (.lstore 4, 2) := by decide +kernel
theorem dX3_isLeft_12 : decode cX3_isLeft 12 = .ok (.aload_n 0, 1) := by decide +kernel
theorem dX3_isLeft_13 : decode cX3_isLeft 13 = .ok (.getfield 19, 3) := by decide +kernel
theorem dX3_isLeft_16 : decode cX3_isLeft 16 = .ok (.iconst 4, 1) := by decide +kernel
theorem dX3_isLeft_17 : decode cX3_isLeft 17 = .ok (.iload_n 2, 1) := by decide +kernel
theorem dX3_isLeft_18 : decode cX3_isLeft 18 = .ok (.imul, 1) := by decide +kernel
theorem dX3_isLeft_19 : decode cX3_isLeft 19 = .ok (.iload_n 3, 1) := by decide +kernel
theorem dX3_isLeft_20 : decode cX3_isLeft 20 = .ok (.iadd, 1) := by decide +kernel
theorem dX3_isLeft_21 : decode cX3_isLeft 21 = .ok (.laload, 1) := by decide +kernel
theorem dX3_isLeft_22 : decode cX3_isLeft 22 = .ok (.lstore 6, 2) := by decide +kernel
theorem dX3_isLeft_24 : decode cX3_isLeft 24 = .ok (.lload 4, 2) := by decide +kernel
theorem dX3_isLeft_26 : decode cX3_isLeft 26 = .ok (.lload 6, 2) := by decide +kernel
theorem dX3_isLeft_28 : decode cX3_isLeft 28 = .ok (.lcmp, 1) := by decide +kernel
theorem dX3_isLeft_29 : decode cX3_isLeft 29 = .ok (.ifCond .le 8, 3) := by decide +kernel
theorem dX3_isLeft_32 : decode cX3_isLeft 32 = .ok (.lload 4, 2) := by decide +kernel
theorem dX3_isLeft_34 : decode cX3_isLeft 34 = .ok (.goto 5, 3) := by decide +kernel
theorem dX3_isLeft_37 : decode cX3_isLeft 37 = .ok (.lload 6, 2) := by decide +kernel
theorem dX3_isLeft_39 : decode cX3_isLeft 39 = .ok (.lstore 8, 2) := by decide +kernel
theorem dX3_isLeft_41 : decode cX3_isLeft 41 = .ok (.aload_n 0, 1) := by decide +kernel
theorem dX3_isLeft_42 : decode cX3_isLeft 42 = .ok (.getfield 19, 3) := by decide +kernel
theorem dX3_isLeft_45 : decode cX3_isLeft 45 = .ok (.iconst 4, 1) := by decide +kernel
theorem dX3_isLeft_46 : decode cX3_isLeft 46 = .ok (.iload_n 1, 1) := by decide +kernel
theorem dX3_isLeft_47 : decode cX3_isLeft 47 = .ok (.imul, 1) := by decide +kernel
theorem dX3_isLeft_48 : decode cX3_isLeft 48 = .ok (.iload_n 3, 1) := by decide +kernel
theorem dX3_isLeft_49 : decode cX3_isLeft 49 = .ok (.iadd, 1) := by decide +kernel
theorem dX3_isLeft_50 : decode cX3_isLeft 50 = .ok (.iconst 1, 1) := by decide +kernel
theorem dX3_isLeft_51 : decode cX3_isLeft 51 = .ok (.iadd, 1) := by decide +kernel
theorem dX3_isLeft_52 : decode cX3_isLeft 52 = .ok (.laload, 1) := by decide +kernel
theorem dX3_isLeft_53 : decode cX3_isLeft 53 = .ok (.lload 8, 2) := by decide +kernel
theorem dX3_isLeft_55 : decode cX3_isLeft 55 = .ok (.lload 4, 2) := by decide +kernel
theorem dX3_isLeft_57 : decode cX3_isLeft 57 = .ok (.lsub, 1) := by decide +kernel
theorem dX3_isLeft_58 : decode cX3_isLeft 58 = .ok (.l2i, 1) := by decide +kernel
theorem dX3_isLeft_59 : decode cX3_isLeft 59 = .ok (.lshl, 1) := by decide +kernel
theorem dX3_isLeft_60 : decode cX3_isLeft 60 = .ok (.aload_n 0, 1) := by decide +kernel
theorem dX3_isLeft_61 : decode cX3_isLeft 61 = .ok (.getfield 19, 3) := by decide +kernel
theorem dX3_isLeft_64 : decode cX3_isLeft 64 = .ok (.iconst 4, 1) := by decide +kernel
theorem dX3_isLeft_65 : decode cX3_isLeft 65 = .ok (.iload_n 2, 1) := by decide +kernel
theorem dX3_isLeft_66 : decode cX3_isLeft 66 = .ok (.imul, 1) := by decide +kernel
theorem dX3_isLeft_67 : decode cX3_isLeft 67 = .ok (.iload_n 3, 1) := by decide +kernel
theorem dX3_isLeft_68 : decode cX3_isLeft 68 = .ok (.iadd, 1) := by decide +kernel
theorem dX3_isLeft_69 : decode cX3_isLeft 69 = .ok (.iconst 1, 1) := by decide +kernel
theorem dX3_isLeft_70 : decode cX3_isLeft 70 = .ok (.iadd, 1) := by decide +kernel
theorem dX3_isLeft_71 : decode cX3_isLeft 71 = .ok (.laload, 1) := by decide +kernel
theorem dX3_isLeft_72 : decode cX3_isLeft 72 = .ok (.lload 8, 2) := by decide +kernel
theorem dX3_isLeft_74 : decode cX3_isLeft 74 = .ok (.lload 6, 2) := by decide +kernel
theorem dX3_isLeft_76 : decode cX3_isLeft 76 = .ok (.lsub, 1) := by decide +kernel
theorem dX3_isLeft_77 : decode cX3_isLeft 77 = .ok (.l2i, 1) := by decide +kernel
theorem dX3_isLeft_78 : decode cX3_isLeft 78 = .ok (.lshl, 1) := by decide +kernel
theorem dX3_isLeft_79 : decode cX3_isLeft 79 = .ok (.lcmp, 1) := by decide +kernel
theorem dX3_isLeft_80 : decode cX3_isLeft 80 = .ok (.ifCond .ge 7, 3) := by decide +kernel
theorem dX3_isLeft_83 : decode cX3_isLeft 83 = .ok (.iconst 1, 1) := by decide +kernel
theorem dX3_isLeft_84 : decode cX3_isLeft 84 = .ok (.goto 4, 3) := by decide +kernel
theorem dX3_isLeft_87 : decode cX3_isLeft 87 = .ok (.iconst 0, 1) := by decide +kernel
theorem dX3_isLeft_88 : decode cX3_isLeft 88 = .ok (.ireturn, 1) := by decide +kernel
theorem dX3_swap_0 : decode cX3_swap 0 = .ok (.iconst 0, 1) := by decide +kernel
theorem dX3_swap_1 : decode cX3_swap 1 = .ok (.istore_n 3, 1) := by decide +kernel
theorem dX3_swap_2 : decode cX3_swap 2 = .ok (.iload_n 3, 1) := by decide +kernel
theorem dX3_swap_3 : decode cX3_swap 3 = .ok (.iconst 4, 1) := by decide +kernel
theorem dX3_swap_4 : decode cX3_swap 4 = .ok (.if_icmp .ge 53, 3) := by decide +kernel
theorem dX3_swap_7 : decode cX3_swap 7 = .ok (.aload_n 0, 1) := by decide +kernel
theorem dX3_swap_8 : decode cX3_swap 8 = .ok (.getfield 19, 3) := by decide +kernel
theorem dX3_swap_11 : decode cX3_swap 11 = .ok (.iconst 4, 1) := by decide +kernel
theorem dX3_swap_12 : decode cX3_swap 12 = .ok (.iload_n 1, 1) := by decide +kernel
theorem dX3_swap_13 : decode cX3_swap 13 = .ok (.imul, 1) := by decide +kernel
theorem dX3_swap_14 : decode cX3_swap 14 = .ok (.iload_n 3, 1) := by decide +kernel
theorem dX3_swap_15 : decode cX3_swap 15 = .ok (.iadd, 1) := by decide +kernel
theorem dX3_swap_16 : decode cX3_swap 16 = .ok (.laload, 1) := by decide +kernel
theorem dX3_swap_17 : decode cX3_swap 17 = .ok (.lstore 4, 2) := by decide +kernel
theorem dX3_swap_19 : decode cX3_swap 19 = .ok (.aload_n 0, 1) := by decide +kernel
theorem dX3_swap_20 : decode cX3_swap 20 = .ok (.getfield 19, 3) := by decide +kernel
theorem dX3_swap_23 : decode cX3_swap 23 = .ok (.iconst 4, 1) := by decide +kernel
theorem dX3_swap_24 : decode cX3_swap 24 = .ok (.iload_n 1, 1) := by decide +kernel
theorem dX3_swap_25 : decode cX3_swap 25 = .ok (.imul, 1) := by decide +kernel
theorem dX3_swap_26 : decode cX3_swap 26 = .ok (.iload_n 3, 1) := by decide +kernel
theorem dX3_swap_27 : decode cX3_swap 27 = .ok (.iadd, 1) := by decide +kernel
theorem dX3_swap_28 : decode cX3_swap 28 = .ok (.aload_n 0, 1) := by decide +kernel
theorem dX3_swap_29 : decode cX3_swap 29 = .ok (.getfield 19, 3) := by decide +kernel
theorem dX3_swap_32 : decode cX3_swap 32 = .ok (.iconst 4, 1) := by decide +kernel
theorem dX3_swap_33 : decode cX3_swap 33 = .ok (.iload_n 2, 1) := by decide +kernel
theorem dX3_swap_34 : decode cX3_swap 34 = .ok (.imul, 1) := by decide +kernel
theorem dX3_swap_35 : decode cX3_swap 35 = .ok (.iload_n 3, 1) := by decide +kernel
theorem dX3_swap_36 : decode cX3_swap 36 = .ok (.iadd, 1) := by decide +kernel
theorem dX3_swap_37 : decode cX3_swap 37 = .ok (.laload, 1) := by decide +kernel
theorem dX3_swap_38 : decode cX3_swap 38 = .ok (.lastore, 1) := by decide +kernel
theorem dX3_swap_39 : decode cX3_swap 39 = .ok (.aload_n 0, 1) := by decide +kernel
theorem dX3_swap_40 : decode cX3_swap 40 = .ok (.getfield 19, 3) := by decide +kernel
theorem dX3_swap_43 : decode cX3_swap 43 = .ok (.iconst 4, 1) := by decide +kernel
theorem dX3_swap_44 : decode cX3_swap 44 = .ok (.iload_n 2, 1) := by decide +kernel
theorem dX3_swap_45 : decode cX3_swap 45 = .ok (.imul, 1) := by decide +kernel
theorem dX3_swap_46 : decode cX3_swap 46 = .ok (.iload_n 3, 1) := by decide +kernel
theorem dX3_swap_47 : decode cX3_swap 47 = .ok (.iadd, 1) := by decide +kernel
theorem dX3_swap_48 : decode cX3_swap 48 = .ok (.lload 4, 2) := by decide +kernel
theorem dX3_swap_50 : decode cX3_swap 50 = .ok (.lastore, 1) := by decide +kernel
theorem dX3_swap_51 : decode cX3_swap 51 = .ok (.iinc 3 1, 3) := by decide +kernel
theorem dX3_swap_54 : decode cX3_swap 54 = .ok (.goto (-52), 3) := by decide +kernel
theorem dX3_swap_57 : decode cX3_swap 57 = .ok (.return_, 1) := by decide +kernel
set_option maxRecDepth 20000 in
theorem ggX3_arrange_X3_isLeft : GoodIn wsX3_arrange wsX3_isLeft := goodIn_r _ [6, 7, 12, 13, 14, 15, 16, 17, 18, 19, 20, 21, 22, 23, 24, 25, 26, 27, 28, 29, 30, 31] (by decide +kernel) (by decide +kernel)
set_option maxRecDepth 20000 in
theorem gX3_arrange_X3_isLeft : GoodIn wsX3_arrange (wsV RX3 71 RX3 yX3_isLeft wsX3_isLeft) := goodIn_app (goodIn_of _ (by decide +kernel)) ggX3_arrange_X3_isLeft
set_option maxRecDepth 20000 in
theorem ggX3_arrange_X3_swap : GoodIn wsX3_arrange wsX3_swap := goodIn_r _ [11, 7, 12, 13, 14, 15, 16, 17, 18, 19, 20, 21, 22, 23, 24, 25, 26, 27, 28, 29, 30, 31] (by decide +kernel) (by decide +kernel)
set_option maxRecDepth 20000 in
theorem gX3_arrange_X3_swap : GoodIn wsX3_arrange (wsV RX3 75 RX3 yX3_swap wsX3_swap) := goodIn_app (goodIn_of _ (by decide +kernel)) ggX3_arrange_X3_swap
theorem dX3_arrange_0 : decode cX3_arrange 0 = .ok (.iconst 1, 1) := by decide +kernel
theorem dX3_arrange_1 : decode cX3_arrange 1 = .ok (.istore_n 1, 1) := by decide +kernel
theorem dX3_arrange_2 : decode cX3_arrange 2 = .ok (.iload_n 1, 1) := by decide +kernel
theorem dX3_arrange_3 : decode cX3_arrange 3 = .ok (.aload_n 0, 1) := by decide +kernel
theorem dX3_arrange_4 : decode cX3_arrange 4 = .ok (.getfield 51, 3) := by decide +kernel
theorem dX3_arrange_7 : decode cX3_arrange 7 = .ok (.if_icmp .ge 41, 3) := by decide +kernel
theorem dX3_arrange_10 : decode cX3_arrange 10 = .ok (.iload_n 1, 1) := by decide +kernel
theorem dX3_arrange_11 : decode cX3_arrange 11 = .ok (.istore_n 2, 1) := by decide +kernel
theorem dX3_arrange_12 : decode cX3_arrange 12 = .ok (.iload_n 2, 1) := by decide +kernel
theorem dX3_arrange_13 : decode cX3_arrange 13 = .ok (.ifCond .le 29, 3) := by decide +kernel
theorem dX3_arrange_16 : decode cX3_arrange 16 = .ok (.aload_n 0, 1) := by decide +kernel
theorem dX3_arrange_17 : decode cX3_arrange 17 = .ok (.iload_n 2, 1) := by decide +kernel
theorem dX3_arrange_18 : decode cX3_arrange 18 = .ok (.iload_n 2, 1) := by decide +kernel
theorem dX3_arrange_19 : decode cX3_arrange 19 = .ok (.iconst 1, 1) := by decide +kernel
theorem dX3_arrange_20 : decode cX3_arrange 20 = .ok (.isub, 1) := by decide +kernel
theorem dX3_arrange_21 : decode cX3_arrange 21 = .ok (.iconst 0, 1) := by decide +kernel
theorem dX3_arrange_22 : decode cX3_arrange 22 = .ok (.invokevirtual 71, 3) := by decide +kernel
theorem dX3_arrange_25 : decode cX3_arrange 25 = .ok (.ifCond .eq 17, 3) := by decide +kernel
theorem dX3_arrange_28 : decode cX3_arrange 28 = .ok (.aload_n 0, 1) := by decide +kernel
theorem dX3_arrange_29 : decode cX3_arrange 29 = .ok (.iload_n 2, 1) := by decide +kernel
theorem dX3_arrange_30 : decode cX3_arrange 30 = .ok (.iload_n 2, 1) := by decide +kernel
theorem dX3_arrange_31 : decode cX3_arrange 31 = .ok (.iconst 1, 1) := by decide +kernel
theorem dX3_arrange_32 : decode cX3_arrange 32 = .ok (.isub, 1) := by decide +kernel
theorem dX3_arrange_33 : decode cX3_arrange 33 = .ok (.invokevirtual 75, 3) := by decide +kernel
theorem dX3_arrange_36 : decode cX3_arrange 36 = .ok (.iinc 2 (-1), 3) := by decide +kernel
theorem dX3_arrange_39 : decode cX3_arrange 39 = .ok (.goto (-27), 3) := by decide +kernel
theorem dX3_arrange_42 : decode cX3_arrange 42 = .ok (.iinc 1 1, 3) := by decide +kernel
theorem dX3_arrange_45 : decode cX3_arrange 45 = .ok (.goto (-43), 3) := by decide +kernel
theorem dX3_arrange_48 : decode cX3_arrange 48 = .ok (.return_, 1) := by decide +kernel
set_option maxRecDepth 20000 in
theorem ggX3_follow_X3_reduce : GoodIn wsX3_follow wsX3_reduce := goodIn_r _ [10, 2, 4, 11, 12, 13, 14, 9, 15, 16, 17, 18, 19, 20, 21, 22, 23, 24, 25, 26, 27, 28, 29, 30, 31, 32, 33, 34, 35, 36, 37, 38, 39, 40, 41, 42, 43, 44, 45, 46, 47] (by decide +kernel) (by decide +kernel)
set_option maxRecDepth 20000 in
theorem gX3_follow_X3_reduce : GoodIn wsX3_follow (wsV RX3 79 RX3 yX3_reduce wsX3_reduce) := goodIn_app (goodIn_of _ (by decide +kernel)) ggX3_follow_X3_reduce
theorem dX3_follow_0 : decode cX3_follow 0 = .ok (.iconst 0, 1) := by decide +kernel
theorem dX3_follow_1 : decode cX3_follow 1 = .ok (.istore_n 1, 1) := by decide +kernel
theorem dX3_follow_2 : decode cX3_follow 2 = .ok (.iconst 0, 1) := by decide +kernel
theorem dX3_follow_3 : decode cX3_follow 3 = .ok (.istore_n 2, 1) := by decide +kernel
theorem dX3_follow_4 : decode cX3_follow 4 = .ok (.iload_n 2, 1) := by decide +kernel
theorem dX3_follow_5 : decode cX3_follow 5 = .ok (.aload_n 0, 1) := by decide +kernel
theorem dX3_follow_6 : decode cX3_follow 6 = .ok (.getfield 59, 3) := by decide +kernel
theorem dX3_follow_9 : decode cX3_follow 9 = .ok (.if_icmp .ge 326, 3) := by decide +kernel
theorem dX3_follow_12 : decode cX3_follow 12 = .ok (.iconst 0, 1) := by decide +kernel
theorem dX3_follow_13 : decode cX3_follow 13 = .ok (.istore_n 3, 1) := by decide +kernel
theorem dX3_follow_14 : decode cX3_follow 14 = .ok (.iload_n 3, 1) := by decide +kernel
theorem dX3_follow_15 : decode cX3_follow 15 = .ok (.aload_n 0, 1) := by decide +kernel
theorem dX3_follow_16 : decode cX3_follow 16 = .ok (.getfield 51, 3) := by decide +kernel
theorem dX3_follow_19 : decode cX3_follow 19 = .ok (.if_icmp .ge 310, 3) := by decide +kernel
theorem dX3_follow_22 : decode cX3_follow 22 = .ok (.aload_n 0, 1) := by decide +kernel
theorem dX3_follow_23 : decode cX3_follow 23 = .ok (.getfield 23, 3) := by decide +kernel
theorem dX3_follow_26 : decode cX3_follow 26 = .ok (.iconst 4, 1) := by decide +kernel
theorem dX3_follow_27 : decode cX3_follow 27 = .ok (.iload_n 2, 1) := by decide +kernel
theorem dX3_follow_28 : decode cX3_follow 28 = .ok (.imul, 1) := by decide +kernel
theorem dX3_follow_29 : decode cX3_follow 29 = .ok (.iconst 2, 1) := by decide +kernel
theorem dX3_follow_30 : decode cX3_follow 30 = .ok (.iadd, 1) := by decide +kernel
theorem dX3_follow_31 : decode cX3_follow 31 = .ok (.laload, 1) := by decide +kernel
theorem dX3_follow_32 : decode cX3_follow 32 = .ok (.lstore 4, 2) := by decide +kernel
theorem dX3_follow_34 : decode cX3_follow 34 = .ok (.aload_n 0, 1) := by decide +kernel
theorem dX3_follow_35 : decode cX3_follow 35 = .ok (.getfield 23, 3) := by decide +kernel
theorem dX3_follow_38 : decode cX3_follow 38 = .ok (.iconst 4, 1) := by decide +kernel
theorem dX3_follow_39 : decode cX3_follow 39 = .ok (.iload_n 2, 1) := by decide +kernel
theorem dX3_follow_40 : decode cX3_follow 40 = .ok (.imul, 1) := by decide +kernel
theorem dX3_follow_41 : decode cX3_follow 41 = .ok (.iconst 3, 1) := by decide +kernel
theorem dX3_follow_42 : decode cX3_follow 42 = .ok (.iadd, 1) := by decide +kernel
theorem dX3_follow_43 : decode cX3_follow 43 = .ok (.laload, 1) := by decide +kernel
theorem dX3_follow_44 : decode cX3_follow 44 = .ok (.lstore 6, 2) := by decide +kernel
theorem dX3_follow_46 : decode cX3_follow 46 = .ok (.aload_n 0, 1) := by decide +kernel
theorem dX3_follow_47 : decode cX3_follow 47 = .ok (.getfield 19, 3) := by decide +kernel
theorem dX3_follow_50 : decode cX3_follow 50 = .ok (.iconst 4, 1) := by decide +kernel
theorem dX3_follow_51 : decode cX3_follow 51 = .ok (.iload_n 3, 1) := by decide +kernel
theorem dX3_follow_52 : decode cX3_follow 52 = .ok (.imul, 1) := by decide +kernel
theorem dX3_follow_53 : decode cX3_follow 53 = .ok (.laload, 1) := by decide +kernel
theorem dX3_follow_54 : decode cX3_follow 54 = .ok (.lstore 8, 2) := by decide +kernel
theorem dX3_follow_56 : decode cX3_follow 56 = .ok (.aload_n 0, 1) := by decide +kernel
theorem dX3_follow_57 : decode cX3_follow 57 = .ok (.getfield 19, 3) := by decide +kernel
theorem dX3_follow_60 : decode cX3_follow 60 = .ok (.iconst 4, 1) := by decide +kernel
theorem dX3_follow_61 : decode cX3_follow 61 = .ok (.iload_n 3, 1) := by decide +kernel
theorem dX3_follow_62 : decode cX3_follow 62 = .ok (.imul, 1) := by decide +kernel
theorem dX3_follow_63 : decode cX3_follow 63 = .ok (.iconst 1, 1) := by decide +kernel
theorem dX3_follow_64 : decode cX3_follow 64 = .ok (.iadd, 1) := by decide +kernel
theorem dX3_follow_65 : decode cX3_follow 65 = .ok (.laload, 1) := by decide +kernel
theorem dX3_follow_66 : decode cX3_follow 66 = .ok (.lstore 10, 2) := by decide +kernel
theorem dX3_follow_68 : decode cX3_follow 68 = .ok (.lload 4, 2) := by decide +kernel
theorem dX3_follow_70 : decode cX3_follow 70 = .ok (.lload 8, 2) := by decide +kernel
theorem dX3_follow_72 : decode cX3_follow 72 = .ok (.lcmp, 1) := by decide +kernel
theorem dX3_follow_73 : decode cX3_follow 73 = .ok (.ifCond .lt 124, 3) := by decide +kernel
theorem dX3_follow_76 : decode cX3_follow 76 = .ok (.lload 6, 2) := by decide +kernel
theorem dX3_follow_78 : decode cX3_follow 78 = .ok (.lload 4, 2) := by decide +kernel
theorem dX3_follow_80 : decode cX3_follow 80 = .ok (.lload 8, 2) := by decide +kernel
theorem dX3_follow_82 : decode cX3_follow 82 = .ok (.lsub, 1) := by decide +kernel
theorem dX3_follow_83 : decode cX3_follow 83 = .ok (.l2i, 1) := by decide +kernel
theorem dX3_follow_84 : decode cX3_follow 84 = .ok (.lshr, 1) := by decide +kernel
theorem dX3_follow_85 : decode cX3_follow 85 = .ok (.lload 10, 2) := by decide +kernel
theorem dX3_follow_87 : decode cX3_follow 87 = .ok (.lcmp, 1) := by decide +kernel
theorem dX3_follow_88 : decode cX3_follow 88 = .ok (.ifCond .ne 109, 3) := by decide +kernel
theorem dX3_follow_91 : decode cX3_follow 91 = .ok (.lload 4, 2) := by decide +kernel
theorem dX3_follow_93 : decode cX3_follow 93 = .ok (.lload 8, 2) := by decide +kernel
theorem dX3_follow_95 : decode cX3_follow 95 = .ok (.lsub, 1) := by decide +kernel
theorem dX3_follow_96 : decode cX3_follow 96 = .ok (.lstore 12, 2) := by decide +kernel
theorem dX3_follow_98 : decode cX3_follow 98 = .ok (.aload_n 0, 1) := by decide +kernel
theorem dX3_follow_99 : decode cX3_follow 99 = .ok (.getfield 35, 3) := by decide +kernel
theorem dX3_follow_102 : decode cX3_follow 102 = .ok (.iconst 4, 1) := by decide +kernel
theorem dX3_follow_103 : decode cX3_follow 103 = .ok (.iload_n 1, 1) := by decide +kernel
theorem dX3_follow_104 : decode cX3_follow 104 = .ok (.imul, 1) := by decide +kernel
theorem dX3_follow_105 : decode cX3_follow 105 = .ok (.aload_n 0, 1) := by decide +kernel
theorem dX3_follow_106 : decode cX3_follow 106 = .ok (.getfield 23, 3) := by decide +kernel
theorem dX3_follow_109 : decode cX3_follow 109 = .ok (.iconst 4, 1) := by decide +kernel
theorem dX3_follow_110 : decode cX3_follow 110 = .ok (.iload_n 2, 1) := by decide +kernel
theorem dX3_follow_111 : decode cX3_follow 111 = .ok (.imul, 1) := by decide +kernel
theorem dX3_follow_112 : decode cX3_follow 112 = .ok (.laload, 1) := by decide +kernel
theorem dX3_follow_113 : decode cX3_follow 113 = .ok (.lastore, 1) := by decide +kernel
theorem dX3_follow_114 : decode cX3_follow 114 = .ok (.aload_n 0, 1) := by decide +kernel
theorem dX3_follow_115 : decode cX3_follow 115 = .ok (.getfield 35, 3) := by decide +kernel
theorem dX3_follow_118 : decode cX3_follow 118 = .ok (.iconst 4, 1) := by decide +kernel
theorem dX3_follow_119 : decode cX3_follow 119 = .ok (.iload_n 1, 1) := by decide +kernel
theorem dX3_follow_120 : decode cX3_follow 120 = .ok (.imul, 1) := by decide +kernel
theorem dX3_follow_121 : decode cX3_follow 121 = .ok (.iconst 1, 1) := by decide +kernel
theorem dX3_follow_122 : decode cX3_follow 122 = .ok (.iadd, 1) := by decide +kernel
theorem dX3_follow_123 : decode cX3_follow 123 = .ok (.aload_n 0, 1) := by decide +kernel
theorem dX3_follow_124 : decode cX3_follow 124 = .ok (.getfield 23, 3) := by decide +kernel
theorem dX3_follow_127 : decode cX3_follow 127 = .ok (.iconst 4, 1) := by decide +kernel
theorem dX3_follow_128 : decode cX3_follow 128 = .ok (.iload_n 2, 1) := by decide +kernel
theorem dX3_follow_129 : decode cX3_follow 129 = .ok (.imul, 1) := by decide +kernel
theorem dX3_follow_130 : decode cX3_follow 130 = .ok (.iconst 1, 1) := by decide +kernel
theorem dX3_follow_131 : decode cX3_follow 131 = .ok (.iadd, 1) := by decide +kernel
theorem dX3_follow_132 : decode cX3_follow 132 = .ok (.laload, 1) := by decide +kernel
theorem dX3_follow_133 : decode cX3_follow 133 = .ok (.lastore, 1) := by decide +kernel
theorem dX3_follow_134 : decode cX3_follow 134 = .ok (.aload_n 0, 1) := by decide +kernel
theorem dX3_follow_135 : decode cX3_follow 135 = .ok (.getfield 35, 3) := by decide +kernel
theorem dX3_follow_138 : decode cX3_follow 138 = .ok (.iconst 4, 1) := by decide +kernel
theorem dX3_follow_139 : decode cX3_follow 139 = .ok (.iload_n 1, 1) := by decide +kernel
theorem dX3_follow_140 : decode cX3_follow 140 = .ok (.imul, 1) := by decide +kernel
theorem dX3_follow_141 : decode cX3_follow 141 = .ok (.iconst 2, 1) := by decide +kernel
theorem dX3_follow_142 : decode cX3_follow 142 = .ok (.iadd, 1) := by decide +kernel
theorem dX3_follow_143 : decode cX3_follow 143 = .ok (.aload_n 0, 1) := by decide +kernel
theorem dX3_follow_144 : decode cX3_follow 144 = .ok (.getfield 19, 3) := by decide +kernel
theorem dX3_follow_147 : decode cX3_follow 147 = .ok (.iconst 4, 1) := by decide +kernel
theorem dX3_follow_148 : decode cX3_follow 148 = .ok (.iload_n 3, 1) := by decide +kernel
theorem dX3_follow_149 : decode cX3_follow 149 = .ok (.imul, 1) := by decide +kernel
theorem dX3_follow_150 : decode cX3_follow 150 = .ok (.iconst 2, 1) := by decide +kernel
theorem dX3_follow_151 : decode cX3_follow 151 = .ok (.iadd, 1) := by decide +kernel
theorem dX3_follow_152 : decode cX3_follow 152 = .ok (.laload, 1) := by decide +kernel
theorem dX3_follow_153 : decode cX3_follow 153 = .ok (.lload 12, 2) := by decide +kernel
theorem dX3_follow_155 : decode cX3_follow 155 = .ok (.ladd, 1) := by decide +kernel
theorem dX3_follow_156 : decode cX3_follow 156 = .ok (.lastore, 1) := by decide +kernel
theorem dX3_follow_157 : decode cX3_follow 157 = .ok (.aload_n 0, 1) := by decide +kernel
theorem dX3_follow_158 : decode cX3_follow 158 = .ok (.getfield 35, 3) := by decide +kernel
theorem dX3_follow_161 : decode cX3_follow 161 = .ok (.iconst 4, 1) := by decide +kernel
theorem dX3_follow_162 : decode cX3_follow 162 = .ok (.iload_n 1, 1) := by decide +kernel
theorem dX3_follow_163 : decode cX3_follow 163 = .ok (.imul, 1) := by decide +kernel
theorem dX3_follow_164 : decode cX3_follow 164 = .ok (.iconst 3, 1) := by decide +kernel
theorem dX3_follow_165 : decode cX3_follow 165 = .ok (.iadd, 1) := by decide +kernel
theorem dX3_follow_166 : decode cX3_follow 166 = .ok (.aload_n 0, 1) := by decide +kernel
theorem dX3_follow_167 : decode cX3_follow 167 = .ok (.getfield 19, 3) := by decide +kernel
theorem dX3_follow_170 : decode cX3_follow 170 = .ok (.iconst 4, 1) := by decide +kernel
theorem dX3_follow_171 : decode cX3_follow 171 = .ok (.iload_n 3, 1) := by decide +kernel
theorem dX3_follow_172 : decode cX3_follow 172 = .ok (.imul, 1) := by decide +kernel
theorem dX3_follow_173 : decode cX3_follow 173 = .ok (.iconst 3, 1) := by decide +kernel
theorem dX3_follow_174 : decode cX3_follow 174 = .ok (.iadd, 1) := by decide +kernel
theorem dX3_follow_175 : decode cX3_follow 175 = .ok (.laload, 1) := by decide +kernel
theorem dX3_follow_176 : decode cX3_follow 176 = .ok (.lload 12, 2) := by decide +kernel
theorem dX3_follow_178 : decode cX3_follow 178 = .ok (.l2i, 1) := by decide +kernel
theorem dX3_follow_179 : decode cX3_follow 179 = .ok (.lshl, 1) := by decide +kernel
theorem dX3_follow_180 : decode cX3_follow 180 = .ok (.lload 6, 2) := by decide +kernel
theorem dX3_follow_182 : decode cX3_follow 182 = .ok (.lload 10, 2) := by decide +kernel
theorem dX3_follow_184 : decode cX3_follow 184 = .ok (.lload 12, 2) := by decide +kernel
theorem dX3_follow_186 : decode cX3_follow 186 = .ok (.l2i, 1) := by decide +kernel
theorem dX3_follow_187 : decode cX3_follow 187 = .ok (.lshl, 1) := by decide +kernel
theorem dX3_follow_188 : decode cX3_follow 188 = .ok (.lsub, 1) := by decide +kernel
theorem dX3_follow_189 : decode cX3_follow 189 = .ok (.lor, 1) := by decide +kernel
theorem dX3_follow_190 : decode cX3_follow 190 = .ok (.lastore, 1) := by decide +kernel
theorem dX3_follow_191 : decode cX3_follow 191 = .ok (.iinc 1 1, 3) := by decide +kernel
theorem dX3_follow_194 : decode cX3_follow 194 = .ok (.goto 129, 3) := by decide +kernel
theorem dX3_follow_197 : decode cX3_follow 197 = .ok (.lload 8, 2) := by decide +kernel
theorem dX3_follow_199 : decode cX3_follow 199 = .ok (.lload 4, 2) := by decide +kernel
theorem dX3_follow_201 : decode cX3_follow 201 = .ok (.lcmp, 1) := by decide +kernel
theorem dX3_follow_202 : decode cX3_follow 202 = .ok (.ifCond .le 121, 3) := by decide +kernel
theorem dX3_follow_205 : decode cX3_follow 205 = .ok (.lload 10, 2) := by decide +kernel
theorem dX3_follow_207 : decode cX3_follow 207 = .ok (.lload 8, 2) := by decide +kernel
theorem dX3_follow_209 : decode cX3_follow 209 = .ok (.lload 4, 2) := by decide +kernel
theorem dX3_follow_211 : decode cX3_follow 211 = .ok (.lsub, 1) := by decide +kernel
theorem dX3_follow_212 : decode cX3_follow 212 = .ok (.l2i, 1) := by decide +kernel
theorem dX3_follow_213 : decode cX3_follow 213 = .ok (.lshr, 1) := by decide +kernel
theorem dX3_follow_214 : decode cX3_follow 214 = .ok (.lload 6, 2) := by decide +kernel
theorem dX3_follow_216 : decode cX3_follow 216 = .ok (.lcmp, 1) := by decide +kernel
theorem dX3_follow_217 : decode cX3_follow 217 = .ok (.ifCond .ne 106, 3) := by decide +kernel
theorem dX3_follow_220 : decode cX3_follow 220 = .ok (.lload 8, 2) := by decide +kernel
theorem dX3_follow_222 : decode cX3_follow 222 = .ok (.lload 4, 2) := by decide +kernel
theorem dX3_follow_224 : decode cX3_follow 224 = .ok (.lsub, 1) := by decide +kernel
theorem dX3_follow_225 : decode cX3_follow 225 = .ok (.lstore 12, 2) := by decide +kernel
theorem dX3_follow_227 : decode cX3_follow 227 = .ok (.aload_n 0, 1) := by decide +kernel
theorem dX3_follow_228 : decode cX3_follow 228 = .ok (.getfield 35, 3) := by decide +kernel
theorem dX3_follow_231 : decode cX3_follow 231 = .ok (.iconst 4, 1) := by decide +kernel
theorem dX3_follow_232 : decode cX3_follow 232 = .ok (.iload_n 1, 1) := by decide +kernel
theorem dX3_follow_233 : decode cX3_follow 233 = .ok (.imul, 1) := by decide +kernel
theorem dX3_follow_234 : decode cX3_follow 234 = .ok (.aload_n 0, 1) := by decide +kernel
theorem dX3_follow_235 : decode cX3_follow 235 = .ok (.getfield 23, 3) := by decide +kernel
theorem dX3_follow_238 : decode cX3_follow 238 = .ok (.iconst 4, 1) := by decide +kernel
theorem dX3_follow_239 : decode cX3_follow 239 = .ok (.iload_n 2, 1) := by decide +kernel
theorem dX3_follow_240 : decode cX3_follow 240 = .ok (.imul, 1) := by decide +kernel
theorem dX3_follow_241 : decode cX3_follow 241 = .ok (.laload, 1) := by decide +kernel
theorem dX3_follow_242 : decode cX3_follow 242 = .ok (.lload 12, 2) := by decide +kernel
theorem dX3_follow_244 : decode cX3_follow 244 = .ok (.ladd, 1) := by decide +kernel
theorem dX3_follow_245 : decode cX3_follow 245 = .ok (.lastore, 1) := by decide +kernel
theorem dX3_follow_246 : decode cX3_follow 246 = .ok (.aload_n 0, 1) := by decide +kernel
theorem dX3_follow_247 : decode cX3_follow 247 = .ok (.getfield 35, 3) := by decide +kernel
theorem dX3_follow_250 : decode cX3_follow 250 = .ok (.iconst 4, 1) := by decide +kernel
theorem dX3_follow_251 : decode cX3_follow 251 = .ok (.iload_n 1, 1) := by decide +kernel
theorem dX3_follow_252 : decode cX3_follow 252 = .ok (.imul, 1) := by decide +kernel
theorem dX3_follow_253 : decode cX3_follow 253 = .ok (.iconst 1, 1) := by decide +kernel
theorem dX3_follow_254 : decode cX3_follow 254 = .ok (.iadd, 1) := by decide +kernel
theorem dX3_follow_255 : decode cX3_follow 255 = .ok (.aload_n 0, 1) := by decide +kernel
theorem dX3_follow_256 : decode cX3_follow 256 = .ok (.getfield 23, 3) := by decide +kernel
theorem dX3_follow_259 : decode cX3_follow 259 = .ok (.iconst 4, 1) := by decide +kernel
theorem dX3_follow_260 : decode cX3_follow 260 = .ok (.iload_n 2, 1) := by decide +kernel
theorem dX3_follow_261 : decode cX3_follow 261 = .ok (.imul, 1) := by decide +kernel
theorem dX3_follow_262 : decode cX3_follow 262 = .ok (.iconst 1, 1) := by decide +kernel
theorem dX3_follow_263 : decode cX3_follow 263 = .ok (.iadd, 1) := by decide +kernel
theorem dX3_follow_264 : decode cX3_follow 264 = .ok (.laload, 1) := by decide +kernel
theorem dX3_follow_265 : decode cX3_follow 265 = .ok (.lload 12, 2) := by decide +kernel
theorem dX3_follow_267 : decode cX3_follow 267 = .ok (.l2i, 1) := by decide +kernel
theorem dX3_follow_268 : decode cX3_follow 268 = .ok (.lshl, 1) := by decide +kernel
theorem dX3_follow_269 : decode cX3_follow 269 = .ok (.lload 10, 2) := by decide +kernel
theorem dX3_follow_271 : decode cX3_follow 271 = .ok (.lload 6, 2) := by decide +kernel
theorem dX3_follow_273 : decode cX3_follow 273 = .ok (.lload 12, 2) := by decide +kernel
theorem dX3_follow_275 : decode cX3_follow 275 = .ok (.l2i, 1) := by decide +kernel
theorem dX3_follow_276 : decode cX3_follow 276 = .ok (.lshl, 1) := by decide +kernel
theorem dX3_follow_277 : decode cX3_follow 277 = .ok (.lsub, 1) := by decide +kernel
theorem dX3_follow_278 : decode cX3_follow 278 = .ok (.lor, 1) := by decide +kernel
theorem dX3_follow_279 : decode cX3_follow 279 = .ok (.lastore, 1) := by decide +kernel
theorem dX3_follow_280 : decode cX3_follow 280 = .ok (.aload_n 0, 1) := by decide +kernel
theorem dX3_follow_281 : decode cX3_follow 281 = .ok (.getfield 35, 3) := by decide +kernel
theorem dX3_follow_284 : decode cX3_follow 284 = .ok (.iconst 4, 1) := by decide +kernel
theorem dX3_follow_285 : decode cX3_follow 285 = .ok (.iload_n 1, 1) := by decide +kernel
theorem dX3_follow_286 : decode cX3_follow 286 = .ok (.imul, 1) := by decide +kernel
theorem dX3_follow_287 : decode cX3_follow 287 = .ok (.iconst 2, 1) := by decide +kernel
theorem dX3_follow_288 : decode cX3_follow 288 = .ok (.iadd, 1) := by decide +kernel
theorem dX3_follow_289 : decode cX3_follow 289 = .ok (.aload_n 0, 1) := by decide +kernel
theorem dX3_follow_290 : decode cX3_follow 290 = .ok (.getfield 19, 3) := by decide +kernel
theorem dX3_follow_293 : decode cX3_follow 293 = .ok (.iconst 4, 1) := by decide +kernel
theorem dX3_follow_294 : decode cX3_follow 294 = .ok (.iload_n 3, 1) := by decide +kernel
theorem dX3_follow_295 : decode cX3_follow 295 = .ok (.imul, 1) := by decide +kernel
theorem dX3_follow_296 : decode cX3_follow 296 = .ok (.iconst 2, 1) := by decide +kernel
theorem dX3_follow_297 : decode cX3_follow 297 = .ok (.iadd, 1) := by decide +kernel
theorem dX3_follow_298 : decode cX3_follow 298 = .ok (.laload, 1) := by decide +kernel
theorem dX3_follow_299 : decode cX3_follow 299 = .ok (.lastore, 1) := by decide +kernel
theorem dX3_follow_300 : decode cX3_follow 300 = .ok (.aload_n 0, 1) := by decide +kernel
theorem dX3_follow_301 : decode cX3_follow 301 = .ok (.getfield 35, 3) := by decide +kernel
theorem dX3_follow_304 : decode cX3_follow 304 = .ok (.iconst 4, 1) := by decide +kernel
theorem dX3_follow_305 : decode cX3_follow 305 = .ok (.iload_n 1, 1) := by decide +kernel
theorem dX3_follow_306 : decode cX3_follow 306 = .ok (.imul, 1) := by decide +kernel
theorem dX3_follow_307 : decode cX3_follow 307 = .ok (.iconst 3, 1) := by decide +kernel
theorem dX3_follow_308 : decode cX3_follow 308 = .ok (.iadd, 1) := by decide +kernel
theorem dX3_follow_309 : decode cX3_follow 309 = .ok (.aload_n 0, 1) := by decide +kernel
theorem dX3_follow_310 : decode cX3_follow 310 = .ok (.getfield 19, 3) := by decide +kernel
theorem dX3_follow_313 : decode cX3_follow 313 = .ok (.iconst 4, 1) := by decide +kernel
theorem dX3_follow_314 : decode cX3_follow 314 = .ok (.iload_n 3, 1) := by decide +kernel
theorem dX3_follow_315 : decode cX3_follow 315 = .ok (.imul, 1) := by decide +kernel
theorem dX3_follow_316 : decode cX3_follow 316 = .ok (.iconst 3, 1) := by decide +kernel
theorem dX3_follow_317 : decode cX3_follow 317 = .ok (.iadd, 1) := by decide +kernel
theorem dX3_follow_318 : decode cX3_follow 318 = .ok (.laload, 1) := by decide +kernel
theorem dX3_follow_319 : decode cX3_follow 319 = .ok (.lastore, 1) := by decide +kernel
theorem dX3_follow_320 : decode cX3_follow 320 = .ok (.iinc 1 1, 3) := by decide +kernel
theorem dX3_follow_323 : decode cX3_follow 323 = .ok (.iinc 3 1, 3) := by decide +kernel
theorem dX3_follow_326 : decode cX3_follow 326 = .ok (.goto (-312), 3) := by decide +kernel
theorem dX3_follow_329 : decode cX3_follow 329 = .ok (.iinc 2 1, 3) := by decide +kernel
theorem dX3_follow_332 : decode cX3_follow 332 = .ok (.goto (-328), 3) := by decide +kernel
theorem dX3_follow_335 : decode cX3_follow 335 = .ok (.aload_n 0, 1) := by decide +kernel
theorem dX3_follow_336 : decode cX3_follow 336 = .ok (.iload_n 1, 1) := by decide +kernel
theorem dX3_follow_337 : decode cX3_follow 337 = .ok (.putfield 51, 3) := by decide +kernel
theorem dX3_follow_340 : decode cX3_follow 340 = .ok (.iconst 0, 1) := by decide +kernel
theorem dX3_follow_341 : decode cX3_follow 341 = .ok (.istore_n 2, 1) := by decide +kernel
theorem dX3_follow_342 : decode cX3_follow 342 = .ok (.iload_n 2, 1) := by decide +kernel
theorem dX3_follow_343 : decode cX3_follow 343 = .ok (.iconst 4, 1) := by decide +kernel
theorem dX3_follow_344 : decode cX3_follow 344 = .ok (.iload_n 1, 1) := by decide +kernel
theorem dX3_follow_345 : decode cX3_follow 345 = .ok (.imul, 1) := by decide +kernel
theorem dX3_follow_346 : decode cX3_follow 346 = .ok (.if_icmp .ge 21, 3) := by decide +kernel
theorem dX3_follow_349 : decode cX3_follow 349 = .ok (.aload_n 0, 1) := by decide +kernel
theorem dX3_follow_350 : decode cX3_follow 350 = .ok (.getfield 19, 3) := by decide +kernel
theorem dX3_follow_353 : decode cX3_follow 353 = .ok (.iload_n 2, 1) := by decide +kernel
theorem dX3_follow_354 : decode cX3_follow 354 = .ok (.aload_n 0, 1) := by decide +kernel
theorem dX3_follow_355 : decode cX3_follow 355 = .ok (.getfield 35, 3) := by decide +kernel
theorem dX3_follow_358 : decode cX3_follow 358 = .ok (.iload_n 2, 1) := by decide +kernel
theorem dX3_follow_359 : decode cX3_follow 359 = .ok (.laload, 1) := by decide +kernel
theorem dX3_follow_360 : decode cX3_follow 360 = .ok (.lastore, 1) := by decide +kernel
theorem dX3_follow_361 : decode cX3_follow 361 = .ok (.iinc 2 1, 3) := by decide +kernel
theorem dX3_follow_364 : decode cX3_follow 364 = .ok (.goto (-22), 3) := by decide +kernel
theorem dX3_follow_367 : decode cX3_follow 367 = .ok (.aload_n 0, 1) := by decide +kernel
theorem dX3_follow_368 : decode cX3_follow 368 = .ok (.invokevirtual 79, 3) := by decide +kernel
theorem dX3_follow_371 : decode cX3_follow 371 = .ok (.return_, 1) := by decide +kernel
theorem dX3_isNothing_0 : decode cX3_isNothing 0 = .ok (.aload_n 0, 1) := by decide +kernel
theorem dX3_isNothing_1 : decode cX3_isNothing 1 = .ok (.getfield 51, 3) := by decide +kernel
theorem dX3_isNothing_4 : decode cX3_isNothing 4 = .ok (.iconst 1, 1) := by decide +kernel
theorem dX3_isNothing_5 : decode cX3_isNothing 5 = .ok (.if_icmp .ne 7, 3) := by decide +kernel
theorem dX3_isNothing_8 : decode cX3_isNothing 8 = .ok (.iconst 1, 1) := by decide +kernel
theorem dX3_isNothing_9 : decode cX3_isNothing 9 = .ok (.goto 4, 3) := by decide +kernel
theorem dX3_isNothing_12 : decode cX3_isNothing 12 = .ok (.iconst 0, 1) := by decide +kernel
theorem dX3_isNothing_13 : decode cX3_isNothing 13 = .ok (.ireturn, 1) := by decide +kernel
set_option maxRecDepth 20000 in
theorem ggX3_isLeaf_X3_in : GoodIn wsX3_isLeaf wsX3_in := goodIn_r _ [5] (by decide +kernel) (by decide +kernel)
set_option maxRecDepth 20000 in
theorem gX3_isLeaf_X3_in : GoodIn wsX3_isLeaf (va_wsS RX3 43 yX3_in wsX3_in) := goodIn_app (goodIn_of _ (by decide +kernel)) ggX3_isLeaf_X3_in
theorem dX3_isLeaf_0 : decode cX3_isLeaf 0 = .ok (.iload_n 0, 1) := by decide +kernel
theorem dX3_isLeaf_1 : decode cX3_isLeaf 1 = .ok (.i2l, 1) := by decide +kernel
theorem dX3_isLeaf_2 : decode cX3_isLeaf 2 = .ok (.lconst 0, 1) := by decide +kernel
theorem dX3_isLeaf_3 : decode cX3_isLeaf 3 = .ok (.ldc2_w 82, 3) := by decide +kernel
theorem dX3_isLeaf_6 : decode cX3_isLeaf 6 = .ok (.invokestatic 43, 3) := by decide +kernel
theorem dX3_isLeaf_9 : decode cX3_isLeaf 9 = .ok (.ifCond .eq 22, 3) := by decide +kernel
theorem dX3_isLeaf_12 : decode cX3_isLeaf 12 = .ok (.iload_n 1, 1) := by decide +kernel
theorem dX3_isLeaf_13 : decode cX3_isLeaf 13 = .ok (.i2l, 1) := by decide +kernel
theorem dX3_isLeaf_14 : decode cX3_isLeaf 14 = .ok (.lconst 0, 1) := by decide +kernel
theorem dX3_isLeaf_15 : decode cX3_isLeaf 15 = .ok (.iconst 1, 1) := by decide +kernel
theorem dX3_isLeaf_16 : decode cX3_isLeaf 16 = .ok (.iload_n 0, 1) := by decide +kernel
theorem dX3_isLeaf_17 : decode cX3_isLeaf 17 = .ok (.ishl, 1) := by decide +kernel
theorem dX3_isLeaf_18 : decode cX3_isLeaf 18 = .ok (.iconst 1, 1) := by decide +kernel
theorem dX3_isLeaf_19 : decode cX3_isLeaf 19 = .ok (.isub, 1) := by decide +kernel
theorem dX3_isLeaf_20 : decode cX3_isLeaf 20 = .ok (.i2l, 1) := by decide +kernel
theorem dX3_isLeaf_21 : decode cX3_isLeaf 21 = .ok (.invokestatic 43, 3) := by decide +kernel
theorem dX3_isLeaf_24 : decode cX3_isLeaf 24 = .ok (.ifCond .eq 7, 3) := by decide +kernel
theorem dX3_isLeaf_27 : decode cX3_isLeaf 27 = .ok (.iconst 1, 1) := by decide +kernel
theorem dX3_isLeaf_28 : decode cX3_isLeaf 28 = .ok (.goto 4, 3) := by decide +kernel
theorem dX3_isLeaf_31 : decode cX3_isLeaf 31 = .ok (.iconst 0, 1) := by decide +kernel
theorem dX3_isLeaf_32 : decode cX3_isLeaf 32 = .ok (.ireturn, 1) := by decide +kernel
set_option maxRecDepth 20000 in
theorem ggX3_pair_X3_isLeaf : GoodIn wsX3_pair wsX3_isLeaf := goodIn_r _ [6, 7, 8, 9, 5, 10] (by decide +kernel) (by decide +kernel)
set_option maxRecDepth 20000 in
theorem gX3_pair_X3_isLeaf : GoodIn wsX3_pair (va_wsS RX3 84 yX3_isLeaf wsX3_isLeaf) := goodIn_app (goodIn_of _ (by decide +kernel)) ggX3_pair_X3_isLeaf
theorem dX3_pair_0 : decode cX3_pair 0 = .ok (.iload_n 1, 1) := by decide +kernel
theorem dX3_pair_1 : decode cX3_pair 1 = .ok (.iload_n 2, 1) := by decide +kernel
theorem dX3_pair_2 : decode cX3_pair 2 = .ok (.invokestatic 84, 3) := by decide +kernel
theorem dX3_pair_5 : decode cX3_pair 5 = .ok (.ifCond .eq 12, 3) := by decide +kernel
theorem dX3_pair_8 : decode cX3_pair 8 = .ok (.iload_n 3, 1) := by decide +kernel
theorem dX3_pair_9 : decode cX3_pair 9 = .ok (.iload 4, 2) := by decide +kernel
theorem dX3_pair_11 : decode cX3_pair 11 = .ok (.invokestatic 84, 3) := by decide +kernel
theorem dX3_pair_14 : decode cX3_pair 14 = .ok (.ifCond .ne 6, 3) := by decide +kernel
theorem dX3_pair_17 : decode cX3_pair 17 = .ok (.bipush (-102), 2) := by decide +kernel
theorem dX3_pair_19 : decode cX3_pair 19 = .ok (.ireturn, 1) := by decide +kernel
theorem dX3_pair_20 : decode cX3_pair 20 = .ok (.aload_n 0, 1) := by decide +kernel
theorem dX3_pair_21 : decode cX3_pair 21 = .ok (.getfield 88, 3) := by decide +kernel
theorem dX3_pair_24 : decode cX3_pair 24 = .ok (.bipush 24, 2) := by decide +kernel
theorem dX3_pair_26 : decode cX3_pair 26 = .ok (.if_icmp .ne 6, 3) := by decide +kernel
theorem dX3_pair_29 : decode cX3_pair 29 = .ok (.bipush (-104), 2) := by decide +kernel
theorem dX3_pair_31 : decode cX3_pair 31 = .ok (.ireturn, 1) := by decide +kernel
theorem dX3_pair_32 : decode cX3_pair 32 = .ok (.aload_n 0, 1) := by decide +kernel
theorem dX3_pair_33 : decode cX3_pair 33 = .ok (.getfield 16, 3) := by decide +kernel
theorem dX3_pair_36 : decode cX3_pair 36 = .ok (.iconst 4, 1) := by decide +kernel
theorem dX3_pair_37 : decode cX3_pair 37 = .ok (.aload_n 0, 1) := by decide +kernel
theorem dX3_pair_38 : decode cX3_pair 38 = .ok (.getfield 88, 3) := by decide +kernel
theorem dX3_pair_41 : decode cX3_pair 41 = .ok (.imul, 1) := by decide +kernel
theorem dX3_pair_42 : decode cX3_pair 42 = .ok (.iload_n 1, 1) := by decide +kernel
theorem dX3_pair_43 : decode cX3_pair 43 = .ok (.iastore, 1) := by decide +kernel
theorem dX3_pair_44 : decode cX3_pair 44 = .ok (.aload_n 0, 1) := by decide +kernel
theorem dX3_pair_45 : decode cX3_pair 45 = .ok (.getfield 16, 3) := by decide +kernel
theorem dX3_pair_48 : decode cX3_pair 48 = .ok (.iconst 4, 1) := by decide +kernel
theorem dX3_pair_49 : decode cX3_pair 49 = .ok (.aload_n 0, 1) := by decide +kernel
theorem dX3_pair_50 : decode cX3_pair 50 = .ok (.getfield 88, 3) := by decide +kernel
theorem dX3_pair_53 : decode cX3_pair 53 = .ok (.imul, 1) := by decide +kernel
theorem dX3_pair_54 : decode cX3_pair 54 = .ok (.iconst 1, 1) := by decide +kernel
theorem dX3_pair_55 : decode cX3_pair 55 = .ok (.iadd, 1) := by decide +kernel
theorem dX3_pair_56 : decode cX3_pair 56 = .ok (.iload_n 2, 1) := by decide +kernel
theorem dX3_pair_57 : decode cX3_pair 57 = .ok (.iastore, 1) := by decide +kernel
theorem dX3_pair_58 : decode cX3_pair 58 = .ok (.aload_n 0, 1) := by decide +kernel
theorem dX3_pair_59 : decode cX3_pair 59 = .ok (.getfield 16, 3) := by decide +kernel
theorem dX3_pair_62 : decode cX3_pair 62 = .ok (.iconst 4, 1) := by decide +kernel
theorem dX3_pair_63 : decode cX3_pair 63 = .ok (.aload_n 0, 1) := by decide +kernel
theorem dX3_pair_64 : decode cX3_pair 64 = .ok (.getfield 88, 3) := by decide +kernel
theorem dX3_pair_67 : decode cX3_pair 67 = .ok (.imul, 1) := by decide +kernel
theorem dX3_pair_68 : decode cX3_pair 68 = .ok (.iconst 2, 1) := by decide +kernel
theorem dX3_pair_69 : decode cX3_pair 69 = .ok (.iadd, 1) := by decide +kernel
theorem dX3_pair_70 : decode cX3_pair 70 = .ok (.iload_n 3, 1) := by decide +kernel
theorem dX3_pair_71 : decode cX3_pair 71 = .ok (.iastore, 1) := by decide +kernel
theorem dX3_pair_72 : decode cX3_pair 72 = .ok (.aload_n 0, 1) := by decide +kernel
theorem dX3_pair_73 : decode cX3_pair 73 = .ok (.getfield 16, 3) := by decide +kernel
theorem dX3_pair_76 : decode cX3_pair 76 = .ok (.iconst 4, 1) := by decide +kernel
theorem dX3_pair_77 : decode cX3_pair 77 = .ok (.aload_n 0, 1) := by decide +kernel
theorem dX3_pair_78 : decode cX3_pair 78 = .ok (.getfield 88, 3) := by decide +kernel
theorem dX3_pair_81 : decode cX3_pair 81 = .ok (.imul, 1) := by decide +kernel
theorem dX3_pair_82 : decode cX3_pair 82 = .ok (.iconst 3, 1) := by decide +kernel
theorem dX3_pair_83 : decode cX3_pair 83 = .ok (.iadd, 1) := by decide +kernel
theorem dX3_pair_84 : decode cX3_pair 84 = .ok (.iload 4, 2) := by decide +kernel
theorem dX3_pair_86 : decode cX3_pair 86 = .ok (.iastore, 1) := by decide +kernel
theorem dX3_pair_87 : decode cX3_pair 87 = .ok (.aload_n 0, 1) := by decide +kernel
theorem dX3_pair_88 : decode cX3_pair 88 = .ok (.dup, 1) := by decide +kernel
theorem dX3_pair_89 : decode cX3_pair 89 = .ok (.getfield 88, 3) := by decide +kernel
theorem dX3_pair_92 : decode cX3_pair 92 = .ok (.iconst 1, 1) := by decide +kernel
theorem dX3_pair_93 : decode cX3_pair 93 = .ok (.iadd, 1) := by decide +kernel
theorem dX3_pair_94 : decode cX3_pair 94 = .ok (.putfield 88, 3) := by decide +kernel
theorem dX3_pair_97 : decode cX3_pair 97 = .ok (.aload_n 0, 1) := by decide +kernel
theorem dX3_pair_98 : decode cX3_pair 98 = .ok (.getfield 88, 3) := by decide +kernel
theorem dX3_pair_101 : decode cX3_pair 101 = .ok (.ireturn, 1) := by decide +kernel
theorem dX3_clear_0 : decode cX3_clear 0 = .ok (.aload_n 0, 1) := by decide +kernel
theorem dX3_clear_1 : decode cX3_clear 1 = .ok (.getfield 88, 3) := by decide +kernel
theorem dX3_clear_4 : decode cX3_clear 4 = .ok (.istore_n 1, 1) := by decide +kernel
theorem dX3_clear_5 : decode cX3_clear 5 = .ok (.aload_n 0, 1) := by decide +kernel
theorem dX3_clear_6 : decode cX3_clear 6 = .ok (.iconst 0, 1) := by decide +kernel
theorem dX3_clear_7 : decode cX3_clear 7 = .ok (.putfield 88, 3) := by decide +kernel
theorem dX3_clear_10 : decode cX3_clear 10 = .ok (.iload_n 1, 1) := by decide +kernel
theorem dX3_clear_11 : decode cX3_clear 11 = .ok (.ireturn, 1) := by decide +kernel
theorem dX3_isCut_0 : decode cX3_isCut 0 = .ok (.lconst 0, 1) := by decide +kernel
theorem dX3_isCut_1 : decode cX3_isCut 1 = .ok (.lstore_n 2, 1) := by decide +kernel
theorem dX3_isCut_2 : decode cX3_isCut 2 = .ok (.iconst 1, 1) := by decide +kernel
theorem dX3_isCut_3 : decode cX3_isCut 3 = .ok (.istore 4, 2) := by decide +kernel
theorem dX3_isCut_5 : decode cX3_isCut 5 = .ok (.iconst 0, 1) := by decide +kernel
theorem dX3_isCut_6 : decode cX3_isCut 6 = .ok (.istore 5, 2) := by decide +kernel
theorem dX3_isCut_8 : decode cX3_isCut 8 = .ok (.iload 5, 2) := by decide +kernel
theorem dX3_isCut_10 : decode cX3_isCut 10 = .ok (.aload_n 0, 1) := by decide +kernel
theorem dX3_isCut_11 : decode cX3_isCut 11 = .ok (.getfield 88, 3) := by decide +kernel
theorem dX3_isCut_14 : decode cX3_isCut 14 = .ok (.if_icmp .ge 128, 3) := by decide +kernel
theorem dX3_isCut_17 : decode cX3_isCut 17 = .ok (.aload_n 0, 1) := by decide +kernel
theorem dX3_isCut_18 : decode cX3_isCut 18 = .ok (.getfield 16, 3) := by decide +kernel
theorem dX3_isCut_21 : decode cX3_isCut 21 = .ok (.iconst 4, 1) := by decide +kernel
theorem dX3_isCut_22 : decode cX3_isCut 22 = .ok (.iload 5, 2) := by decide +kernel
theorem dX3_isCut_24 : decode cX3_isCut 24 = .ok (.imul, 1) := by decide +kernel
theorem dX3_isCut_25 : decode cX3_isCut 25 = .ok (.iload_n 1, 1) := by decide +kernel
theorem dX3_isCut_26 : decode cX3_isCut 26 = .ok (.iadd, 1) := by decide +kernel
theorem dX3_isCut_27 : decode cX3_isCut 27 = .ok (.iaload, 1) := by decide +kernel
theorem dX3_isCut_28 : decode cX3_isCut 28 = .ok (.istore 6, 2) := by decide +kernel
theorem dX3_isCut_30 : decode cX3_isCut 30 = .ok (.aload_n 0, 1) := by decide +kernel
theorem dX3_isCut_31 : decode cX3_isCut 31 = .ok (.getfield 16, 3) := by decide +kernel
theorem dX3_isCut_34 : decode cX3_isCut 34 = .ok (.iconst 4, 1) := by decide +kernel
theorem dX3_isCut_35 : decode cX3_isCut 35 = .ok (.iload 5, 2) := by decide +kernel
theorem dX3_isCut_37 : decode cX3_isCut 37 = .ok (.imul, 1) := by decide +kernel
theorem dX3_isCut_38 : decode cX3_isCut 38 = .ok (.iload_n 1, 1) := by decide +kernel
theorem dX3_isCut_39 : decode cX3_isCut 39 = .ok (.iadd, 1) := by decide +kernel
theorem dX3_isCut_40 : decode cX3_isCut 40 = .ok (.iconst 1, 1) := by decide +kernel
theorem dX3_isCut_41 : decode cX3_isCut 41 = .ok (.iadd, 1) := by decide +kernel
theorem dX3_isCut_42 : decode cX3_isCut 42 = .ok (.iaload, 1) := by decide +kernel
theorem dX3_isCut_43 : decode cX3_isCut 43 = .ok (.istore 7, 2) := by decide +kernel
theorem dX3_isCut_45 : decode cX3_isCut 45 = .ok (.lload_n 2, 1) := by decide +kernel
theorem dX3_isCut_46 : decode cX3_isCut 46 = .ok (.lconst 1, 1) := by decide +kernel
theorem dX3_isCut_47 : decode cX3_isCut 47 = .ok (.bipush 23, 2) := by decide +kernel
theorem dX3_isCut_49 : decode cX3_isCut 49 = .ok (.iload 6, 2) := by decide +kernel
theorem dX3_isCut_51 : decode cX3_isCut 51 = .ok (.isub, 1) := by decide +kernel
theorem dX3_isCut_52 : decode cX3_isCut 52 = .ok (.lshl, 1) := by decide +kernel
theorem dX3_isCut_53 : decode cX3_isCut 53 = .ok (.ladd, 1) := by decide +kernel
theorem dX3_isCut_54 : decode cX3_isCut 54 = .ok (.lstore_n 2, 1) := by decide +kernel
theorem dX3_isCut_55 : decode cX3_isCut 55 = .ok (.iconst 0, 1) := by decide +kernel
theorem dX3_isCut_56 : decode cX3_isCut 56 = .ok (.istore 8, 2) := by decide +kernel
theorem dX3_isCut_58 : decode cX3_isCut 58 = .ok (.iload 8, 2) := by decide +kernel
theorem dX3_isCut_60 : decode cX3_isCut 60 = .ok (.aload_n 0, 1) := by decide +kernel
theorem dX3_isCut_61 : decode cX3_isCut 61 = .ok (.getfield 88, 3) := by decide +kernel
theorem dX3_isCut_64 : decode cX3_isCut 64 = .ok (.if_icmp .ge 72, 3) := by decide +kernel
theorem dX3_isCut_67 : decode cX3_isCut 67 = .ok (.aload_n 0, 1) := by decide +kernel
theorem dX3_isCut_68 : decode cX3_isCut 68 = .ok (.getfield 16, 3) := by decide +kernel
theorem dX3_isCut_71 : decode cX3_isCut 71 = .ok (.iconst 4, 1) := by decide +kernel
theorem dX3_isCut_72 : decode cX3_isCut 72 = .ok (.iload 8, 2) := by decide +kernel
theorem dX3_isCut_74 : decode cX3_isCut 74 = .ok (.imul, 1) := by decide +kernel
theorem dX3_isCut_75 : decode cX3_isCut 75 = .ok (.iload_n 1, 1) := by decide +kernel
theorem dX3_isCut_76 : decode cX3_isCut 76 = .ok (.iadd, 1) := by decide +kernel
theorem dX3_isCut_77 : decode cX3_isCut 77 = .ok (.iaload, 1) := by decide +kernel
theorem dX3_isCut_78 : decode cX3_isCut 78 = .ok (.istore 9, 2) := by decide +kernel
theorem dX3_isCut_80 : decode cX3_isCut 80 = .ok (.iload 4, 2) := by decide +kernel
theorem dX3_isCut_82 : decode cX3_isCut 82 = .ok (.ifCond .eq 45, 3) := by decide +kernel
theorem dX3_isCut_85 : decode cX3_isCut 85 = .ok (.iload 5, 2) := by decide +kernel
theorem dX3_isCut_87 : decode cX3_isCut 87 = .ok (.iload 8, 2) := by decide +kernel
theorem dX3_isCut_89 : decode cX3_isCut 89 = .ok (.if_icmp .eq 34, 3) := by decide +kernel
theorem dX3_isCut_92 : decode cX3_isCut 92 = .ok (.iload 9, 2) := by decide +kernel
theorem dX3_isCut_94 : decode cX3_isCut 94 = .ok (.iload 6, 2) := by decide +kernel
theorem dX3_isCut_96 : decode cX3_isCut 96 = .ok (.if_icmp .lt 27, 3) := by decide +kernel
theorem dX3_isCut_99 : decode cX3_isCut 99 = .ok (.aload_n 0, 1) := by decide +kernel
theorem dX3_isCut_100 : decode cX3_isCut 100 = .ok (.getfield 16, 3) := by decide +kernel
theorem dX3_isCut_103 : decode cX3_isCut 103 = .ok (.iconst 4, 1) := by decide +kernel
theorem dX3_isCut_104 : decode cX3_isCut 104 = .ok (.iload 8, 2) := by decide +kernel
theorem dX3_isCut_106 : decode cX3_isCut 106 = .ok (.imul, 1) := by decide +kernel
theorem dX3_isCut_107 : decode cX3_isCut 107 = .ok (.iload_n 1, 1) := by decide +kernel
theorem dX3_isCut_108 : decode cX3_isCut 108 = .ok (.iadd, 1) := by decide +kernel
theorem dX3_isCut_109 : decode cX3_isCut 109 = .ok (.iconst 1, 1) := by decide +kernel
theorem dX3_isCut_110 : decode cX3_isCut 110 = .ok (.iadd, 1) := by decide +kernel
theorem dX3_isCut_111 : decode cX3_isCut 111 = .ok (.iaload, 1) := by decide +kernel
theorem dX3_isCut_112 : decode cX3_isCut 112 = .ok (.iload 9, 2) := by decide +kernel
theorem dX3_isCut_114 : decode cX3_isCut 114 = .ok (.iload 6, 2) := by decide +kernel
theorem dX3_isCut_116 : decode cX3_isCut 116 = .ok (.isub, 1) := by decide +kernel
theorem dX3_isCut_117 : decode cX3_isCut 117 = .ok (.ishr, 1) := by decide +kernel
theorem dX3_isCut_118 : decode cX3_isCut 118 = .ok (.iload 7, 2) := by decide +kernel
theorem dX3_isCut_120 : decode cX3_isCut 120 = .ok (.if_icmp .eq 7, 3) := by decide +kernel
theorem dX3_isCut_123 : decode cX3_isCut 123 = .ok (.iconst 1, 1) := by decide +kernel
theorem dX3_isCut_124 : decode cX3_isCut 124 = .ok (.goto 4, 3) := by decide +kernel
theorem dX3_isCut_127 : decode cX3_isCut 127 = .ok (.iconst 0, 1) := by decide +kernel
theorem dX3_isCut_128 : decode cX3_isCut 128 = .ok (.istore 4, 2) := by decide +kernel
theorem dX3_isCut_130 : decode cX3_isCut 130 = .ok (.iinc 8 1, 3) := by decide +kernel
theorem dX3_isCut_133 : decode cX3_isCut 133 = .ok (.goto (-75), 3) := by decide +kernel
theorem dX3_isCut_136 : decode cX3_isCut 136 = .ok (.iinc 5 1, 3) := by decide +kernel
theorem dX3_isCut_139 : decode cX3_isCut 139 = .ok (.goto (-131), 3) := by decide +kernel
theorem dX3_isCut_142 : decode cX3_isCut 142 = .ok (.iload 4, 2) := by decide +kernel
theorem dX3_isCut_144 : decode cX3_isCut 144 = .ok (.ifCond .eq 15, 3) := by decide +kernel
theorem dX3_isCut_147 : decode cX3_isCut 147 = .ok (.lload_n 2, 1) := by decide +kernel
theorem dX3_isCut_148 : decode cX3_isCut 148 = .ok (.ldc2_w 91, 3) := by decide +kernel
theorem dX3_isCut_151 : decode cX3_isCut 151 = .ok (.lcmp, 1) := by decide +kernel
theorem dX3_isCut_152 : decode cX3_isCut 152 = .ok (.ifCond .ne 7, 3) := by decide +kernel
theorem dX3_isCut_155 : decode cX3_isCut 155 = .ok (.iconst 1, 1) := by decide +kernel
theorem dX3_isCut_156 : decode cX3_isCut 156 = .ok (.goto 4, 3) := by decide +kernel
theorem dX3_isCut_159 : decode cX3_isCut 159 = .ok (.iconst 0, 1) := by decide +kernel
theorem dX3_isCut_160 : decode cX3_isCut 160 = .ok (.ireturn, 1) := by decide +kernel
set_option maxRecDepth 20000 in
theorem ggX3_make_X3_isSlot : GoodIn wsX3_make wsX3_isSlot := goodIn_r _ [7, 8, 9, 10, 6, 11] (by decide +kernel) (by decide +kernel)
set_option maxRecDepth 20000 in
theorem gX3_make_X3_isSlot : GoodIn wsX3_make (va_wsS RX3 47 yX3_isSlot wsX3_isSlot) := goodIn_app (goodIn_of _ (by decide +kernel)) ggX3_make_X3_isSlot
set_option maxRecDepth 20000 in
theorem ggX3_make_X3_isCut : GoodIn wsX3_make wsX3_isCut := goodIn_r _ [15, 2, 3, 16, 49, 50, 51, 52, 53, 54, 55, 56, 57, 58, 59, 60, 61, 62, 63, 64, 65, 66, 67, 68] (by decide +kernel) (by decide +kernel)
set_option maxRecDepth 20000 in
theorem gX3_make_X3_isCut : GoodIn wsX3_make (wsV RX3 93 RX3 yX3_isCut wsX3_isCut) := goodIn_app (goodIn_of _ (by decide +kernel)) ggX3_make_X3_isCut
set_option maxRecDepth 20000 in
theorem ggX3_make_X3_put : GoodIn wsX3_make wsX3_put := goodIn_r _ [20, 21, 1, 49, 50, 51, 52, 53, 54, 55, 56, 57, 58, 59, 60, 61, 62, 63, 64, 65, 66, 67, 68] (by decide +kernel) (by decide +kernel)
set_option maxRecDepth 20000 in
theorem gX3_make_X3_put : GoodIn wsX3_make (wsV RX3 55 RX3 yX3_put wsX3_put) := goodIn_app (goodIn_of _ (by decide +kernel)) ggX3_make_X3_put
set_option maxRecDepth 20000 in
theorem ggX3_make_X3_reduce : GoodIn wsX3_make wsX3_reduce := goodIn_r _ [25, 1, 21, 26, 27, 28, 29, 6, 30, 31, 32, 33, 34, 35, 36, 37, 38, 39, 40, 41, 42, 49, 50, 51, 52, 53, 54, 55, 56, 57, 58, 59, 60, 61, 62, 63, 64, 65, 66, 67, 68] (by decide +kernel) (by decide +kernel)
set_option maxRecDepth 20000 in
theorem gX3_make_X3_reduce : GoodIn wsX3_make (wsV RX3 79 RX3 yX3_reduce wsX3_reduce) := goodIn_app (goodIn_of _ (by decide +kernel)) ggX3_make_X3_reduce
set_option maxRecDepth 20000 in
theorem ggX3_make_X3_store : GoodIn wsX3_make wsX3_store := goodIn_r _ [46, 47, 1, 48, 21, 49, 50, 51, 52, 53, 54, 55, 56, 57, 58, 59, 60, 61, 62, 63, 64, 65, 66, 67, 68] (by decide +kernel) (by decide +kernel)
set_option maxRecDepth 20000 in
theorem gX3_make_X3_store : GoodIn wsX3_make (wsV RX3 96 RX3 yX3_store wsX3_store) := goodIn_app (goodIn_of _ (by decide +kernel)) ggX3_make_X3_store
theorem dX3_make_0 : decode cX3_make 0 = .ok (.iload_n 1, 1) := by decide +kernel
theorem dX3_make_1 : decode cX3_make 1 = .ok (.invokestatic 47, 3) := by decide +kernel
theorem dX3_make_4 : decode cX3_make 4 = .ok (.ifCond .ne 6, 3) := by decide +kernel
theorem dX3_make_7 : decode cX3_make 7 = .ok (.bipush (-101), 2) := by decide +kernel
theorem dX3_make_9 : decode cX3_make 9 = .ok (.ireturn, 1) := by decide +kernel
theorem dX3_make_10 : decode cX3_make 10 = .ok (.aload_n 0, 1) := by decide +kernel
theorem dX3_make_11 : decode cX3_make 11 = .ok (.iconst 0, 1) := by decide +kernel
theorem dX3_make_12 : decode cX3_make 12 = .ok (.invokevirtual 93, 3) := by decide +kernel
theorem dX3_make_15 : decode cX3_make 15 = .ok (.ifCond .eq 11, 3) := by decide +kernel
theorem dX3_make_18 : decode cX3_make 18 = .ok (.aload_n 0, 1) := by decide +kernel
theorem dX3_make_19 : decode cX3_make 19 = .ok (.iconst 2, 1) := by decide +kernel
theorem dX3_make_20 : decode cX3_make 20 = .ok (.invokevirtual 93, 3) := by decide +kernel
theorem dX3_make_23 : decode cX3_make 23 = .ok (.ifCond .ne 6, 3) := by decide +kernel
theorem dX3_make_26 : decode cX3_make 26 = .ok (.bipush (-103), 2) := by decide +kernel
theorem dX3_make_28 : decode cX3_make 28 = .ok (.ireturn, 1) := by decide +kernel
theorem dX3_make_29 : decode cX3_make 29 = .ok (.aload_n 0, 1) := by decide +kernel
theorem dX3_make_30 : decode cX3_make 30 = .ok (.iconst 0, 1) := by decide +kernel
theorem dX3_make_31 : decode cX3_make 31 = .ok (.putfield 51, 3) := by decide +kernel
theorem dX3_make_34 : decode cX3_make 34 = .ok (.iconst 0, 1) := by decide +kernel
theorem dX3_make_35 : decode cX3_make 35 = .ok (.istore_n 2, 1) := by decide +kernel
theorem dX3_make_36 : decode cX3_make 36 = .ok (.iload_n 2, 1) := by decide +kernel
theorem dX3_make_37 : decode cX3_make 37 = .ok (.aload_n 0, 1) := by decide +kernel
theorem dX3_make_38 : decode cX3_make 38 = .ok (.getfield 88, 3) := by decide +kernel
theorem dX3_make_41 : decode cX3_make 41 = .ok (.if_icmp .ge 55, 3) := by decide +kernel
theorem dX3_make_44 : decode cX3_make 44 = .ok (.aload_n 0, 1) := by decide +kernel
theorem dX3_make_45 : decode cX3_make 45 = .ok (.aload_n 0, 1) := by decide +kernel
theorem dX3_make_46 : decode cX3_make 46 = .ok (.getfield 16, 3) := by decide +kernel
theorem dX3_make_49 : decode cX3_make 49 = .ok (.iconst 4, 1) := by decide +kernel
theorem dX3_make_50 : decode cX3_make 50 = .ok (.iload_n 2, 1) := by decide +kernel
theorem dX3_make_51 : decode cX3_make 51 = .ok (.imul, 1) := by decide +kernel
theorem dX3_make_52 : decode cX3_make 52 = .ok (.iaload, 1) := by decide +kernel
theorem dX3_make_53 : decode cX3_make 53 = .ok (.i2l, 1) := by decide +kernel
theorem dX3_make_54 : decode cX3_make 54 = .ok (.aload_n 0, 1) := by decide +kernel
theorem dX3_make_55 : decode cX3_make 55 = .ok (.getfield 16, 3) := by decide +kernel
theorem dX3_make_58 : decode cX3_make 58 = .ok (.iconst 4, 1) := by decide +kernel
theorem dX3_make_59 : decode cX3_make 59 = .ok (.iload_n 2, 1) := by decide +kernel
theorem dX3_make_60 : decode cX3_make 60 = .ok (.imul, 1) := by decide +kernel
theorem dX3_make_61 : decode cX3_make 61 = .ok (.iconst 1, 1) := by decide +kernel
theorem dX3_make_62 : decode cX3_make 62 = .ok (.iadd, 1) := by decide +kernel
theorem dX3_make_63 : decode cX3_make 63 = .ok (.iaload, 1) := by decide +kernel
theorem dX3_make_64 : decode cX3_make 64 = .ok (.i2l, 1) := by decide +kernel
theorem dX3_make_65 : decode cX3_make 65 = .ok (.aload_n 0, 1) := by decide +kernel
theorem dX3_make_66 : decode cX3_make 66 = .ok (.getfield 16, 3) := by decide +kernel
theorem dX3_make_69 : decode cX3_make 69 = .ok (.iconst 4, 1) := by decide +kernel
theorem dX3_make_70 : decode cX3_make 70 = .ok (.iload_n 2, 1) := by decide +kernel
theorem dX3_make_71 : decode cX3_make 71 = .ok (.imul, 1) := by decide +kernel
theorem dX3_make_72 : decode cX3_make 72 = .ok (.iconst 2, 1) := by decide +kernel
theorem dX3_make_73 : decode cX3_make 73 = .ok (.iadd, 1) := by decide +kernel
theorem dX3_make_74 : decode cX3_make 74 = .ok (.iaload, 1) := by decide +kernel
theorem dX3_make_75 : decode cX3_make 75 = .ok (.i2l, 1) := by decide +kernel
theorem dX3_make_76 : decode cX3_make 76 = .ok (.aload_n 0, 1) := by decide +kernel
theorem dX3_make_77 : decode cX3_make 77 = .ok (.getfield 16, 3) := by decide +kernel
theorem dX3_make_80 : decode cX3_make 80 = .ok (.iconst 4, 1) := by decide +kernel
theorem dX3_make_81 : decode cX3_make 81 = .ok (.iload_n 2, 1) := by decide +kernel
theorem dX3_make_82 : decode cX3_make 82 = .ok (.imul, 1) := by decide +kernel
theorem dX3_make_83 : decode cX3_make 83 = .ok (.iconst 3, 1) := by decide +kernel
theorem dX3_make_84 : decode cX3_make 84 = .ok (.iadd, 1) := by decide +kernel
theorem dX3_make_85 : decode cX3_make 85 = .ok (.iaload, 1) := by decide +kernel
theorem dX3_make_86 : decode cX3_make 86 = .ok (.i2l, 1) := by decide +kernel
theorem dX3_make_87 : decode cX3_make 87 = .ok (.invokevirtual 55, 3) := by decide +kernel
theorem dX3_make_90 : decode cX3_make 90 = .ok (.iinc 2 1, 3) := by decide +kernel
theorem dX3_make_93 : decode cX3_make 93 = .ok (.goto (-57), 3) := by decide +kernel
theorem dX3_make_96 : decode cX3_make 96 = .ok (.aload_n 0, 1) := by decide +kernel
theorem dX3_make_97 : decode cX3_make 97 = .ok (.iconst 0, 1) := by decide +kernel
theorem dX3_make_98 : decode cX3_make 98 = .ok (.putfield 88, 3) := by decide +kernel
theorem dX3_make_101 : decode cX3_make 101 = .ok (.aload_n 0, 1) := by decide +kernel
theorem dX3_make_102 : decode cX3_make 102 = .ok (.invokevirtual 79, 3) := by decide +kernel
theorem dX3_make_105 : decode cX3_make 105 = .ok (.aload_n 0, 1) := by decide +kernel
theorem dX3_make_106 : decode cX3_make 106 = .ok (.iload_n 1, 1) := by decide +kernel
theorem dX3_make_107 : decode cX3_make 107 = .ok (.invokevirtual 96, 3) := by decide +kernel
theorem dX3_make_110 : decode cX3_make 110 = .ok (.aload_n 0, 1) := by decide +kernel
theorem dX3_make_111 : decode cX3_make 111 = .ok (.getfield 51, 3) := by decide +kernel
theorem dX3_make_114 : decode cX3_make 114 = .ok (.ireturn, 1) := by decide +kernel
set_option maxRecDepth 20000 in
theorem ggX3_makeStrong_X3_put : GoodIn wsX3_makeStrong wsX3_put := goodIn_r _ [6, 7, 1, 20, 21, 22, 23, 24, 25, 26, 27, 28, 29, 30, 31, 32, 33, 34, 35, 36, 37, 38, 39] (by decide +kernel) (by decide +kernel)
set_option maxRecDepth 20000 in
theorem gX3_makeStrong_X3_put : GoodIn wsX3_makeStrong (wsV RX3 55 RX3 yX3_put wsX3_put) := goodIn_app (goodIn_of _ (by decide +kernel)) ggX3_makeStrong_X3_put
set_option maxRecDepth 20000 in
theorem ggX3_makeStrong_X3_arrange : GoodIn wsX3_makeStrong wsX3_arrange := goodIn_r _ [11, 1, 12, 13, 14, 5, 15, 7, 16, 17, 18, 19, 20, 21, 22, 23, 24, 25, 26, 27, 28, 29, 30, 31, 32, 33, 34, 35, 36, 37, 38, 39] (by decide +kernel) (by decide +kernel)
set_option maxRecDepth 20000 in
theorem gX3_makeStrong_X3_arrange : GoodIn wsX3_makeStrong (wsV RX3 62 RX3 yX3_arrange wsX3_arrange) := goodIn_app (goodIn_of _ (by decide +kernel)) ggX3_makeStrong_X3_arrange
theorem dX3_makeStrong_0 : decode cX3_makeStrong 0 = .ok (.aload_n 0, 1) := by decide +kernel
theorem dX3_makeStrong_1 : decode cX3_makeStrong 1 = .ok (.iconst 0, 1) := by decide +kernel
theorem dX3_makeStrong_2 : decode cX3_makeStrong 2 = .ok (.putfield 51, 3) := by decide +kernel
theorem dX3_makeStrong_5 : decode cX3_makeStrong 5 = .ok (.iconst 1, 1) := by decide +kernel
theorem dX3_makeStrong_6 : decode cX3_makeStrong 6 = .ok (.istore_n 2, 1) := by decide +kernel
theorem dX3_makeStrong_7 : decode cX3_makeStrong 7 = .ok (.iload_n 2, 1) := by decide +kernel
theorem dX3_makeStrong_8 : decode cX3_makeStrong 8 = .ok (.iload_n 1, 1) := by decide +kernel
theorem dX3_makeStrong_9 : decode cX3_makeStrong 9 = .ok (.if_icmp .gt 29, 3) := by decide +kernel
theorem dX3_makeStrong_12 : decode cX3_makeStrong 12 = .ok (.aload_n 0, 1) := by decide +kernel
theorem dX3_makeStrong_13 : decode cX3_makeStrong 13 = .ok (.iload_n 2, 1) := by decide +kernel
theorem dX3_makeStrong_14 : decode cX3_makeStrong 14 = .ok (.i2l, 1) := by decide +kernel
theorem dX3_makeStrong_15 : decode cX3_makeStrong 15 = .ok (.iconst 1, 1) := by decide +kernel
theorem dX3_makeStrong_16 : decode cX3_makeStrong 16 = .ok (.iload_n 2, 1) := by decide +kernel
theorem dX3_makeStrong_17 : decode cX3_makeStrong 17 = .ok (.ishl, 1) := by decide +kernel
theorem dX3_makeStrong_18 : decode cX3_makeStrong 18 = .ok (.iconst 2, 1) := by decide +kernel
theorem dX3_makeStrong_19 : decode cX3_makeStrong 19 = .ok (.isub, 1) := by decide +kernel
theorem dX3_makeStrong_20 : decode cX3_makeStrong 20 = .ok (.i2l, 1) := by decide +kernel
theorem dX3_makeStrong_21 : decode cX3_makeStrong 21 = .ok (.iload_n 2, 1) := by decide +kernel
theorem dX3_makeStrong_22 : decode cX3_makeStrong 22 = .ok (.i2l, 1) := by decide +kernel
theorem dX3_makeStrong_23 : decode cX3_makeStrong 23 = .ok (.iconst 1, 1) := by decide +kernel
theorem dX3_makeStrong_24 : decode cX3_makeStrong 24 = .ok (.iload_n 2, 1) := by decide +kernel
theorem dX3_makeStrong_25 : decode cX3_makeStrong 25 = .ok (.ishl, 1) := by decide +kernel
theorem dX3_makeStrong_26 : decode cX3_makeStrong 26 = .ok (.iconst 2, 1) := by decide +kernel
theorem dX3_makeStrong_27 : decode cX3_makeStrong 27 = .ok (.isub, 1) := by decide +kernel
theorem dX3_makeStrong_28 : decode cX3_makeStrong 28 = .ok (.i2l, 1) := by decide +kernel
theorem dX3_makeStrong_29 : decode cX3_makeStrong 29 = .ok (.invokevirtual 55, 3) := by decide +kernel
theorem dX3_makeStrong_32 : decode cX3_makeStrong 32 = .ok (.iinc 2 1, 3) := by decide +kernel
theorem dX3_makeStrong_35 : decode cX3_makeStrong 35 = .ok (.goto (-28), 3) := by decide +kernel
theorem dX3_makeStrong_38 : decode cX3_makeStrong 38 = .ok (.iconst 1, 1) := by decide +kernel
theorem dX3_makeStrong_39 : decode cX3_makeStrong 39 = .ok (.iload_n 1, 1) := by decide +kernel
theorem dX3_makeStrong_40 : decode cX3_makeStrong 40 = .ok (.ishl, 1) := by decide +kernel
theorem dX3_makeStrong_41 : decode cX3_makeStrong 41 = .ok (.iconst 1, 1) := by decide +kernel
theorem dX3_makeStrong_42 : decode cX3_makeStrong 42 = .ok (.isub, 1) := by decide +kernel
theorem dX3_makeStrong_43 : decode cX3_makeStrong 43 = .ok (.istore_n 2, 1) := by decide +kernel
theorem dX3_makeStrong_44 : decode cX3_makeStrong 44 = .ok (.aload_n 0, 1) := by decide +kernel
theorem dX3_makeStrong_45 : decode cX3_makeStrong 45 = .ok (.iload_n 1, 1) := by decide +kernel
theorem dX3_makeStrong_46 : decode cX3_makeStrong 46 = .ok (.iconst 1, 1) := by decide +kernel
theorem dX3_makeStrong_47 : decode cX3_makeStrong 47 = .ok (.iadd, 1) := by decide +kernel
theorem dX3_makeStrong_48 : decode cX3_makeStrong 48 = .ok (.i2l, 1) := by decide +kernel
theorem dX3_makeStrong_49 : decode cX3_makeStrong 49 = .ok (.iconst 2, 1) := by decide +kernel
theorem dX3_makeStrong_50 : decode cX3_makeStrong 50 = .ok (.iload_n 2, 1) := by decide +kernel
theorem dX3_makeStrong_51 : decode cX3_makeStrong 51 = .ok (.imul, 1) := by decide +kernel
theorem dX3_makeStrong_52 : decode cX3_makeStrong 52 = .ok (.i2l, 1) := by decide +kernel
theorem dX3_makeStrong_53 : decode cX3_makeStrong 53 = .ok (.iload_n 1, 1) := by decide +kernel
theorem dX3_makeStrong_54 : decode cX3_makeStrong 54 = .ok (.iconst 2, 1) := by decide +kernel
theorem dX3_makeStrong_55 : decode cX3_makeStrong 55 = .ok (.iadd, 1) := by decide +kernel
theorem dX3_makeStrong_56 : decode cX3_makeStrong 56 = .ok (.i2l, 1) := by decide +kernel
theorem dX3_makeStrong_57 : decode cX3_makeStrong 57 = .ok (.iconst 4, 1) := by decide +kernel
theorem dX3_makeStrong_58 : decode cX3_makeStrong 58 = .ok (.iload_n 2, 1) := by decide +kernel
theorem dX3_makeStrong_59 : decode cX3_makeStrong 59 = .ok (.imul, 1) := by decide +kernel
theorem dX3_makeStrong_60 : decode cX3_makeStrong 60 = .ok (.i2l, 1) := by decide +kernel
theorem dX3_makeStrong_61 : decode cX3_makeStrong 61 = .ok (.invokevirtual 55, 3) := by decide +kernel
theorem dX3_makeStrong_64 : decode cX3_makeStrong 64 = .ok (.aload_n 0, 1) := by decide +kernel
theorem dX3_makeStrong_65 : decode cX3_makeStrong 65 = .ok (.iload_n 1, 1) := by decide +kernel
theorem dX3_makeStrong_66 : decode cX3_makeStrong 66 = .ok (.iconst 2, 1) := by decide +kernel
theorem dX3_makeStrong_67 : decode cX3_makeStrong 67 = .ok (.iadd, 1) := by decide +kernel
theorem dX3_makeStrong_68 : decode cX3_makeStrong 68 = .ok (.i2l, 1) := by decide +kernel
theorem dX3_makeStrong_69 : decode cX3_makeStrong 69 = .ok (.iconst 4, 1) := by decide +kernel
theorem dX3_makeStrong_70 : decode cX3_makeStrong 70 = .ok (.iload_n 2, 1) := by decide +kernel
theorem dX3_makeStrong_71 : decode cX3_makeStrong 71 = .ok (.imul, 1) := by decide +kernel
theorem dX3_makeStrong_72 : decode cX3_makeStrong 72 = .ok (.iconst 2, 1) := by decide +kernel
theorem dX3_makeStrong_73 : decode cX3_makeStrong 73 = .ok (.iadd, 1) := by decide +kernel
theorem dX3_makeStrong_74 : decode cX3_makeStrong 74 = .ok (.i2l, 1) := by decide +kernel
theorem dX3_makeStrong_75 : decode cX3_makeStrong 75 = .ok (.iload_n 1, 1) := by decide +kernel
theorem dX3_makeStrong_76 : decode cX3_makeStrong 76 = .ok (.iconst 2, 1) := by decide +kernel
theorem dX3_makeStrong_77 : decode cX3_makeStrong 77 = .ok (.iadd, 1) := by decide +kernel
theorem dX3_makeStrong_78 : decode cX3_makeStrong 78 = .ok (.i2l, 1) := by decide +kernel
theorem dX3_makeStrong_79 : decode cX3_makeStrong 79 = .ok (.iconst 4, 1) := by decide +kernel
theorem dX3_makeStrong_80 : decode cX3_makeStrong 80 = .ok (.iload_n 2, 1) := by decide +kernel
theorem dX3_makeStrong_81 : decode cX3_makeStrong 81 = .ok (.imul, 1) := by decide +kernel
theorem dX3_makeStrong_82 : decode cX3_makeStrong 82 = .ok (.iconst 1, 1) := by decide +kernel
theorem dX3_makeStrong_83 : decode cX3_makeStrong 83 = .ok (.iadd, 1) := by decide +kernel
theorem dX3_makeStrong_84 : decode cX3_makeStrong 84 = .ok (.i2l, 1) := by decide +kernel
theorem dX3_makeStrong_85 : decode cX3_makeStrong 85 = .ok (.invokevirtual 55, 3) := by decide +kernel
theorem dX3_makeStrong_88 : decode cX3_makeStrong 88 = .ok (.aload_n 0, 1) := by decide +kernel
theorem dX3_makeStrong_89 : decode cX3_makeStrong 89 = .ok (.iload_n 1, 1) := by decide +kernel
theorem dX3_makeStrong_90 : decode cX3_makeStrong 90 = .ok (.iconst 2, 1) := by decide +kernel
theorem dX3_makeStrong_91 : decode cX3_makeStrong 91 = .ok (.iadd, 1) := by decide +kernel
theorem dX3_makeStrong_92 : decode cX3_makeStrong 92 = .ok (.i2l, 1) := by decide +kernel
theorem dX3_makeStrong_93 : decode cX3_makeStrong 93 = .ok (.iconst 4, 1) := by decide +kernel
theorem dX3_makeStrong_94 : decode cX3_makeStrong 94 = .ok (.iload_n 2, 1) := by decide +kernel
theorem dX3_makeStrong_95 : decode cX3_makeStrong 95 = .ok (.imul, 1) := by decide +kernel
theorem dX3_makeStrong_96 : decode cX3_makeStrong 96 = .ok (.iconst 3, 1) := by decide +kernel
theorem dX3_makeStrong_97 : decode cX3_makeStrong 97 = .ok (.iadd, 1) := by decide +kernel
theorem dX3_makeStrong_98 : decode cX3_makeStrong 98 = .ok (.i2l, 1) := by decide +kernel
theorem dX3_makeStrong_99 : decode cX3_makeStrong 99 = .ok (.iload_n 1, 1) := by decide +kernel
theorem dX3_makeStrong_100 : decode cX3_makeStrong 100 = .ok (.iconst 1, 1) := by decide +kernel
theorem dX3_makeStrong_101 : decode cX3_makeStrong 101 = .ok (.iadd, 1) := by decide +kernel
theorem dX3_makeStrong_102 : decode cX3_makeStrong 102 = .ok (.i2l, 1) := by decide +kernel
theorem dX3_makeStrong_103 : decode cX3_makeStrong 103 = .ok (.iconst 2, 1) := by decide +kernel
theorem dX3_makeStrong_104 : decode cX3_makeStrong 104 = .ok (.iload_n 2, 1) := by decide +kernel
theorem dX3_makeStrong_105 : decode cX3_makeStrong 105 = .ok (.imul, 1) := by decide +kernel
theorem dX3_makeStrong_106 : decode cX3_makeStrong 106 = .ok (.iconst 1, 1) := by decide +kernel
theorem dX3_makeStrong_107 : decode cX3_makeStrong 107 = .ok (.iadd, 1) := by decide +kernel
theorem dX3_makeStrong_108 : decode cX3_makeStrong 108 = .ok (.i2l, 1) := by decide +kernel
theorem dX3_makeStrong_109 : decode cX3_makeStrong 109 = .ok (.invokevirtual 55, 3) := by decide +kernel
theorem dX3_makeStrong_112 : decode cX3_makeStrong 112 = .ok (.aload_n 0, 1) := by decide +kernel
theorem dX3_makeStrong_113 : decode cX3_makeStrong 113 = .ok (.invokevirtual 62, 3) := by decide +kernel
theorem dX3_makeStrong_116 : decode cX3_makeStrong 116 = .ok (.return_, 1) := by decide +kernel
set_option maxRecDepth 20000 in
theorem ggX3_strong_X3_isSlot : GoodIn wsX3_strong wsX3_isSlot := goodIn_r _ [6, 7, 8, 9, 5, 10] (by decide +kernel) (by decide +kernel)
set_option maxRecDepth 20000 in
theorem gX3_strong_X3_isSlot : GoodIn wsX3_strong (va_wsS RX3 47 yX3_isSlot wsX3_isSlot) := goodIn_app (goodIn_of _ (by decide +kernel)) ggX3_strong_X3_isSlot
set_option maxRecDepth 20000 in
theorem ggX3_strong_X3_in : GoodIn wsX3_strong wsX3_in := goodIn_r _ [10] (by decide +kernel) (by decide +kernel)
set_option maxRecDepth 20000 in
theorem gX3_strong_X3_in : GoodIn wsX3_strong (va_wsS RX3 43 yX3_in wsX3_in) := goodIn_app (goodIn_of _ (by decide +kernel)) ggX3_strong_X3_in
set_option maxRecDepth 20000 in
theorem ggX3_strong_X3_makeStrong : GoodIn wsX3_strong wsX3_makeStrong := goodIn_r _ [14, 2, 15, 16, 17, 5, 18, 19, 20, 21, 22, 23, 24, 25, 26, 27, 28, 29, 30, 31, 38, 39, 40, 41, 42, 43, 44, 45, 46, 47, 48, 49, 50, 51, 52, 53, 54, 55, 56, 57] (by decide +kernel) (by decide +kernel)
set_option maxRecDepth 20000 in
theorem gX3_strong_X3_makeStrong : GoodIn wsX3_strong (wsV RX3 101 RX3 yX3_makeStrong wsX3_makeStrong) := goodIn_app (goodIn_of _ (by decide +kernel)) ggX3_strong_X3_makeStrong
set_option maxRecDepth 20000 in
theorem ggX3_strong_X3_store : GoodIn wsX3_strong wsX3_store := goodIn_r _ [35, 36, 2, 37, 19, 38, 39, 40, 41, 42, 43, 44, 45, 46, 47, 48, 49, 50, 51, 52, 53, 54, 55, 56, 57] (by decide +kernel) (by decide +kernel)
set_option maxRecDepth 20000 in
theorem gX3_strong_X3_store : GoodIn wsX3_strong (wsV RX3 96 RX3 yX3_store wsX3_store) := goodIn_app (goodIn_of _ (by decide +kernel)) ggX3_strong_X3_store
theorem dX3_strong_0 : decode cX3_strong 0 = .ok (.iload_n 1, 1) := by decide +kernel
theorem dX3_strong_1 : decode cX3_strong 1 = .ok (.invokestatic 47, 3) := by decide +kernel
theorem dX3_strong_4 : decode cX3_strong 4 = .ok (.ifCond .ne 6, 3) := by decide +kernel
theorem dX3_strong_7 : decode cX3_strong 7 = .ok (.bipush (-101), 2) := by decide +kernel
theorem dX3_strong_9 : decode cX3_strong 9 = .ok (.ireturn, 1) := by decide +kernel
theorem dX3_strong_10 : decode cX3_strong 10 = .ok (.iload_n 2, 1) := by decide +kernel
theorem dX3_strong_11 : decode cX3_strong 11 = .ok (.i2l, 1) := by decide +kernel
theorem dX3_strong_12 : decode cX3_strong 12 = .ok (.lconst 0, 1) := by decide +kernel
theorem dX3_strong_13 : decode cX3_strong 13 = .ok (.ldc2_w 99, 3) := by decide +kernel
theorem dX3_strong_16 : decode cX3_strong 16 = .ok (.invokestatic 43, 3) := by decide +kernel
theorem dX3_strong_19 : decode cX3_strong 19 = .ok (.ifCond .ne 6, 3) := by decide +kernel
theorem dX3_strong_22 : decode cX3_strong 22 = .ok (.bipush (-102), 2) := by decide +kernel
theorem dX3_strong_24 : decode cX3_strong 24 = .ok (.ireturn, 1) := by decide +kernel
theorem dX3_strong_25 : decode cX3_strong 25 = .ok (.aload_n 0, 1) := by decide +kernel
theorem dX3_strong_26 : decode cX3_strong 26 = .ok (.iload_n 2, 1) := by decide +kernel
theorem dX3_strong_27 : decode cX3_strong 27 = .ok (.invokevirtual 101, 3) := by decide +kernel
theorem dX3_strong_30 : decode cX3_strong 30 = .ok (.aload_n 0, 1) := by decide +kernel
theorem dX3_strong_31 : decode cX3_strong 31 = .ok (.iload_n 1, 1) := by decide +kernel
theorem dX3_strong_32 : decode cX3_strong 32 = .ok (.invokevirtual 96, 3) := by decide +kernel
theorem dX3_strong_35 : decode cX3_strong 35 = .ok (.aload_n 0, 1) := by decide +kernel
theorem dX3_strong_36 : decode cX3_strong 36 = .ok (.getfield 51, 3) := by decide +kernel
theorem dX3_strong_39 : decode cX3_strong 39 = .ok (.ireturn, 1) := by decide +kernel
set_option maxRecDepth 20000 in
theorem ggX3_then_X3_isSlot : GoodIn wsX3_then wsX3_isSlot := goodIn_r _ [5, 6, 7, 8, 4, 9] (by decide +kernel) (by decide +kernel)
set_option maxRecDepth 20000 in
theorem gX3_then_X3_isSlot : GoodIn wsX3_then (va_wsS RX3 47 yX3_isSlot wsX3_isSlot) := goodIn_app (goodIn_of _ (by decide +kernel)) ggX3_then_X3_isSlot
set_option maxRecDepth 20000 in
theorem ggX3_then_X3_isMap : GoodIn wsX3_then wsX3_isMap := goodIn_r _ [13, 14, 2, 3, 4, 5, 6, 7, 8, 9, 61, 62, 63, 64, 65, 66, 67, 68, 69, 70, 71, 72, 73, 74, 75, 76, 77, 78, 79, 80] (by decide +kernel) (by decide +kernel)
set_option maxRecDepth 20000 in
theorem gX3_then_X3_isMap : GoodIn wsX3_then (wsV RX3 104 RX3 yX3_isMap wsX3_isMap) := goodIn_app (goodIn_of _ (by decide +kernel)) ggX3_then_X3_isMap
set_option maxRecDepth 20000 in
theorem ggX3_then_X3_load : GoodIn wsX3_then wsX3_load := goodIn_r _ [18, 1, 14, 19, 20, 21, 22, 4, 23, 24, 61, 62, 63, 64, 65, 66, 67, 68, 69, 70, 71, 72, 73, 74, 75, 76, 77, 78, 79, 80] (by decide +kernel) (by decide +kernel)
set_option maxRecDepth 20000 in
theorem gX3_then_X3_load : GoodIn wsX3_then (wsV RX3 107 RX3 yX3_load wsX3_load) := goodIn_app (goodIn_of _ (by decide +kernel)) ggX3_then_X3_load
set_option maxRecDepth 20000 in
theorem ggX3_then_X3_aside : GoodIn wsX3_then wsX3_aside := goodIn_r _ [28, 1, 29, 30, 24, 61, 62, 63, 64, 65, 66, 67, 68, 69, 70, 71, 72, 73, 74, 75, 76, 77, 78, 79, 80] (by decide +kernel) (by decide +kernel)
set_option maxRecDepth 20000 in
theorem gX3_then_X3_aside : GoodIn wsX3_then (wsV RX3 110 RX3 yX3_aside wsX3_aside) := goodIn_app (goodIn_of _ (by decide +kernel)) ggX3_then_X3_aside
set_option maxRecDepth 20000 in
theorem ggX3_then_X3_follow : GoodIn wsX3_then wsX3_follow := goodIn_r _ [34, 29, 1, 30, 24, 35, 36, 37, 38, 4, 39, 40, 41, 42, 43, 44, 45, 46, 47, 48, 49, 50, 51, 52, 53, 54, 55, 56, 61, 62, 63, 64, 65, 66, 67, 68, 69, 70, 71, 72, 73, 74, 75, 76, 77, 78, 79, 80] (by decide +kernel) (by decide +kernel)
set_option maxRecDepth 20000 in
theorem gX3_then_X3_follow : GoodIn wsX3_then (wsV RX3 113 RX3 yX3_follow wsX3_follow) := goodIn_app (goodIn_of _ (by decide +kernel)) ggX3_then_X3_follow
set_option maxRecDepth 20000 in
theorem ggX3_then_X3_store : GoodIn wsX3_then wsX3_store := goodIn_r _ [60, 14, 1, 19, 24, 61, 62, 63, 64, 65, 66, 67, 68, 69, 70, 71, 72, 73, 74, 75, 76, 77, 78, 79, 80] (by decide +kernel) (by decide +kernel)
set_option maxRecDepth 20000 in
theorem gX3_then_X3_store : GoodIn wsX3_then (wsV RX3 96 RX3 yX3_store wsX3_store) := goodIn_app (goodIn_of _ (by decide +kernel)) ggX3_then_X3_store
theorem dX3_then_0 : decode cX3_then 0 = .ok (.iload_n 1, 1) := by decide +kernel
theorem dX3_then_1 : decode cX3_then 1 = .ok (.invokestatic 47, 3) := by decide +kernel
theorem dX3_then_4 : decode cX3_then 4 = .ok (.ifCond .eq 19, 3) := by decide +kernel
theorem dX3_then_7 : decode cX3_then 7 = .ok (.aload_n 0, 1) := by decide +kernel
theorem dX3_then_8 : decode cX3_then 8 = .ok (.iload_n 2, 1) := by decide +kernel
theorem dX3_then_9 : decode cX3_then 9 = .ok (.invokevirtual 104, 3) := by decide +kernel
theorem dX3_then_12 : decode cX3_then 12 = .ok (.ifCond .eq 11, 3) := by decide +kernel
theorem dX3_then_15 : decode cX3_then 15 = .ok (.aload_n 0, 1) := by decide +kernel
theorem dX3_then_16 : decode cX3_then 16 = .ok (.iload_n 3, 1) := by decide +kernel
theorem dX3_then_17 : decode cX3_then 17 = .ok (.invokevirtual 104, 3) := by decide +kernel
theorem dX3_then_20 : decode cX3_then 20 = .ok (.ifCond .ne 6, 3) := by decide +kernel
theorem dX3_then_23 : decode cX3_then 23 = .ok (.bipush (-101), 2) := by decide +kernel
theorem dX3_then_25 : decode cX3_then 25 = .ok (.ireturn, 1) := by decide +kernel
theorem dX3_then_26 : decode cX3_then 26 = .ok (.aload_n 0, 1) := by decide +kernel
theorem dX3_then_27 : decode cX3_then 27 = .ok (.iload_n 2, 1) := by decide +kernel
theorem dX3_then_28 : decode cX3_then 28 = .ok (.invokevirtual 107, 3) := by decide +kernel
theorem dX3_then_31 : decode cX3_then 31 = .ok (.aload_n 0, 1) := by decide +kernel
theorem dX3_then_32 : decode cX3_then 32 = .ok (.invokevirtual 110, 3) := by decide +kernel
theorem dX3_then_35 : decode cX3_then 35 = .ok (.aload_n 0, 1) := by decide +kernel
theorem dX3_then_36 : decode cX3_then 36 = .ok (.iload_n 3, 1) := by decide +kernel
theorem dX3_then_37 : decode cX3_then 37 = .ok (.invokevirtual 107, 3) := by decide +kernel
theorem dX3_then_40 : decode cX3_then 40 = .ok (.aload_n 0, 1) := by decide +kernel
theorem dX3_then_41 : decode cX3_then 41 = .ok (.invokevirtual 113, 3) := by decide +kernel
theorem dX3_then_44 : decode cX3_then 44 = .ok (.aload_n 0, 1) := by decide +kernel
theorem dX3_then_45 : decode cX3_then 45 = .ok (.getfield 51, 3) := by decide +kernel
theorem dX3_then_48 : decode cX3_then 48 = .ok (.bipush 24, 2) := by decide +kernel
theorem dX3_then_50 : decode cX3_then 50 = .ok (.if_icmp .le 6, 3) := by decide +kernel
theorem dX3_then_53 : decode cX3_then 53 = .ok (.bipush (-104), 2) := by decide +kernel
theorem dX3_then_55 : decode cX3_then 55 = .ok (.ireturn, 1) := by decide +kernel
theorem dX3_then_56 : decode cX3_then 56 = .ok (.aload_n 0, 1) := by decide +kernel
theorem dX3_then_57 : decode cX3_then 57 = .ok (.iload_n 1, 1) := by decide +kernel
theorem dX3_then_58 : decode cX3_then 58 = .ok (.invokevirtual 96, 3) := by decide +kernel
theorem dX3_then_61 : decode cX3_then 61 = .ok (.aload_n 0, 1) := by decide +kernel
theorem dX3_then_62 : decode cX3_then 62 = .ok (.getfield 51, 3) := by decide +kernel
theorem dX3_then_65 : decode cX3_then 65 = .ok (.ireturn, 1) := by decide +kernel
set_option maxRecDepth 20000 in
theorem ggX3_turn_X3_isSlot : GoodIn wsX3_turn wsX3_isSlot := goodIn_r _ [5, 6, 7, 8, 4, 9] (by decide +kernel) (by decide +kernel)
set_option maxRecDepth 20000 in
theorem gX3_turn_X3_isSlot : GoodIn wsX3_turn (va_wsS RX3 47 yX3_isSlot wsX3_isSlot) := goodIn_app (goodIn_of _ (by decide +kernel)) ggX3_turn_X3_isSlot
set_option maxRecDepth 20000 in
theorem ggX3_turn_X3_isMap : GoodIn wsX3_turn wsX3_isMap := goodIn_r _ [13, 14, 2, 3, 4, 5, 6, 7, 8, 9, 45, 46, 47, 48, 49, 50, 51, 52, 53, 54, 55, 56, 57, 58, 59, 60, 61, 62, 63, 64] (by decide +kernel) (by decide +kernel)
set_option maxRecDepth 20000 in
theorem gX3_turn_X3_isMap : GoodIn wsX3_turn (wsV RX3 104 RX3 yX3_isMap wsX3_isMap) := goodIn_app (goodIn_of _ (by decide +kernel)) ggX3_turn_X3_isMap
set_option maxRecDepth 20000 in
theorem ggX3_turn_X3_load : GoodIn wsX3_turn wsX3_load := goodIn_r _ [18, 1, 14, 19, 20, 21, 22, 4, 23, 24, 45, 46, 47, 48, 49, 50, 51, 52, 53, 54, 55, 56, 57, 58, 59, 60, 61, 62, 63, 64] (by decide +kernel) (by decide +kernel)
set_option maxRecDepth 20000 in
theorem gX3_turn_X3_load : GoodIn wsX3_turn (wsV RX3 107 RX3 yX3_load wsX3_load) := goodIn_app (goodIn_of _ (by decide +kernel)) ggX3_turn_X3_load
set_option maxRecDepth 20000 in
theorem ggX3_turn_X3_turnWork : GoodIn wsX3_turn wsX3_turnWork := goodIn_r _ [28, 1, 24, 29, 30, 31, 4, 32, 33, 34, 35, 36, 37, 38, 39, 40, 45, 46, 47, 48, 49, 50, 51, 52, 53, 54, 55, 56, 57, 58, 59, 60, 61, 62, 63, 64] (by decide +kernel) (by decide +kernel)
set_option maxRecDepth 20000 in
theorem gX3_turn_X3_turnWork : GoodIn wsX3_turn (wsV RX3 116 RX3 yX3_turnWork wsX3_turnWork) := goodIn_app (goodIn_of _ (by decide +kernel)) ggX3_turn_X3_turnWork
set_option maxRecDepth 20000 in
theorem ggX3_turn_X3_store : GoodIn wsX3_turn wsX3_store := goodIn_r _ [44, 14, 1, 19, 24, 45, 46, 47, 48, 49, 50, 51, 52, 53, 54, 55, 56, 57, 58, 59, 60, 61, 62, 63, 64] (by decide +kernel) (by decide +kernel)
set_option maxRecDepth 20000 in
theorem gX3_turn_X3_store : GoodIn wsX3_turn (wsV RX3 96 RX3 yX3_store wsX3_store) := goodIn_app (goodIn_of _ (by decide +kernel)) ggX3_turn_X3_store
theorem dX3_turn_0 : decode cX3_turn 0 = .ok (.iload_n 1, 1) := by decide +kernel
theorem dX3_turn_1 : decode cX3_turn 1 = .ok (.invokestatic 47, 3) := by decide +kernel
theorem dX3_turn_4 : decode cX3_turn 4 = .ok (.ifCond .eq 11, 3) := by decide +kernel
theorem dX3_turn_7 : decode cX3_turn 7 = .ok (.aload_n 0, 1) := by decide +kernel
theorem dX3_turn_8 : decode cX3_turn 8 = .ok (.iload_n 2, 1) := by decide +kernel
theorem dX3_turn_9 : decode cX3_turn 9 = .ok (.invokevirtual 104, 3) := by decide +kernel
theorem dX3_turn_12 : decode cX3_turn 12 = .ok (.ifCond .ne 6, 3) := by decide +kernel
theorem dX3_turn_15 : decode cX3_turn 15 = .ok (.bipush (-101), 2) := by decide +kernel
theorem dX3_turn_17 : decode cX3_turn 17 = .ok (.ireturn, 1) := by decide +kernel
theorem dX3_turn_18 : decode cX3_turn 18 = .ok (.aload_n 0, 1) := by decide +kernel
theorem dX3_turn_19 : decode cX3_turn 19 = .ok (.iload_n 2, 1) := by decide +kernel
theorem dX3_turn_20 : decode cX3_turn 20 = .ok (.invokevirtual 107, 3) := by decide +kernel
theorem dX3_turn_23 : decode cX3_turn 23 = .ok (.aload_n 0, 1) := by decide +kernel
theorem dX3_turn_24 : decode cX3_turn 24 = .ok (.invokevirtual 116, 3) := by decide +kernel
theorem dX3_turn_27 : decode cX3_turn 27 = .ok (.aload_n 0, 1) := by decide +kernel
theorem dX3_turn_28 : decode cX3_turn 28 = .ok (.iload_n 1, 1) := by decide +kernel
theorem dX3_turn_29 : decode cX3_turn 29 = .ok (.invokevirtual 96, 3) := by decide +kernel
theorem dX3_turn_32 : decode cX3_turn 32 = .ok (.aload_n 0, 1) := by decide +kernel
theorem dX3_turn_33 : decode cX3_turn 33 = .ok (.getfield 51, 3) := by decide +kernel
theorem dX3_turn_36 : decode cX3_turn 36 = .ok (.ireturn, 1) := by decide +kernel
set_option maxRecDepth 20000 in
theorem ggX3_power_X3_isSlot : GoodIn wsX3_power wsX3_isSlot := goodIn_r _ [7, 8, 9, 10, 6, 11] (by decide +kernel) (by decide +kernel)
set_option maxRecDepth 20000 in
theorem gX3_power_X3_isSlot : GoodIn wsX3_power (va_wsS RX3 47 yX3_isSlot wsX3_isSlot) := goodIn_app (goodIn_of _ (by decide +kernel)) ggX3_power_X3_isSlot
set_option maxRecDepth 20000 in
theorem ggX3_power_X3_isMap : GoodIn wsX3_power wsX3_isMap := goodIn_r _ [15, 16, 4, 5, 6, 7, 8, 9, 10, 11, 71, 72, 73, 74, 75, 76, 77, 78, 79, 80, 81, 82, 83, 84, 85, 86, 87, 88, 89, 90] (by decide +kernel) (by decide +kernel)
set_option maxRecDepth 20000 in
theorem gX3_power_X3_isMap : GoodIn wsX3_power (wsV RX3 104 RX3 yX3_isMap wsX3_isMap) := goodIn_app (goodIn_of _ (by decide +kernel)) ggX3_power_X3_isMap
set_option maxRecDepth 20000 in
theorem ggX3_power_X3_in : GoodIn wsX3_power wsX3_in := goodIn_r _ [11] (by decide +kernel) (by decide +kernel)
set_option maxRecDepth 20000 in
theorem gX3_power_X3_in : GoodIn wsX3_power (va_wsS RX3 43 yX3_in wsX3_in) := goodIn_app (goodIn_of _ (by decide +kernel)) ggX3_power_X3_in
set_option maxRecDepth 20000 in
theorem ggX3_power_X3_nothing : GoodIn wsX3_power wsX3_nothing := goodIn_r _ [20, 3, 21, 22, 23, 6, 24, 25, 71, 72, 73, 74, 75, 76, 77, 78, 79, 80, 81, 82, 83, 84, 85, 86, 87, 88, 89, 90] (by decide +kernel) (by decide +kernel)
set_option maxRecDepth 20000 in
theorem gX3_power_X3_nothing : GoodIn wsX3_power (wsV RX3 123 RX3 yX3_nothing wsX3_nothing) := goodIn_app (goodIn_of _ (by decide +kernel)) ggX3_power_X3_nothing
set_option maxRecDepth 20000 in
theorem ggX3_power_X3_aside : GoodIn wsX3_power wsX3_aside := goodIn_r _ [29, 3, 30, 31, 25, 71, 72, 73, 74, 75, 76, 77, 78, 79, 80, 81, 82, 83, 84, 85, 86, 87, 88, 89, 90] (by decide +kernel) (by decide +kernel)
set_option maxRecDepth 20000 in
theorem gX3_power_X3_aside : GoodIn wsX3_power (wsV RX3 110 RX3 yX3_aside wsX3_aside) := goodIn_app (goodIn_of _ (by decide +kernel)) ggX3_power_X3_aside
set_option maxRecDepth 20000 in
theorem ggX3_power_X3_load : GoodIn wsX3_power wsX3_load := goodIn_r _ [35, 3, 16, 36, 21, 22, 23, 6, 24, 25, 71, 72, 73, 74, 75, 76, 77, 78, 79, 80, 81, 82, 83, 84, 85, 86, 87, 88, 89, 90] (by decide +kernel) (by decide +kernel)
set_option maxRecDepth 20000 in
theorem gX3_power_X3_load : GoodIn wsX3_power (wsV RX3 107 RX3 yX3_load wsX3_load) := goodIn_app (goodIn_of _ (by decide +kernel)) ggX3_power_X3_load
set_option maxRecDepth 20000 in
theorem ggX3_power_X3_turnWork : GoodIn wsX3_power wsX3_turnWork := goodIn_r _ [40, 3, 25, 41, 42, 43, 6, 44, 45, 46, 47, 48, 49, 50, 51, 52, 71, 72, 73, 74, 75, 76, 77, 78, 79, 80, 81, 82, 83, 84, 85, 86, 87, 88, 89, 90] (by decide +kernel) (by decide +kernel)
set_option maxRecDepth 20000 in
theorem gX3_power_X3_turnWork : GoodIn wsX3_power (wsV RX3 116 RX3 yX3_turnWork wsX3_turnWork) := goodIn_app (goodIn_of _ (by decide +kernel)) ggX3_power_X3_turnWork
set_option maxRecDepth 20000 in
theorem ggX3_power_X3_follow : GoodIn wsX3_power wsX3_follow := goodIn_r _ [56, 30, 3, 31, 25, 57, 58, 59, 60, 6, 61, 62, 63, 64, 65, 66, 41, 42, 43, 44, 45, 46, 47, 48, 49, 50, 51, 52, 71, 72, 73, 74, 75, 76, 77, 78, 79, 80, 81, 82, 83, 84, 85, 86, 87, 88, 89, 90] (by decide +kernel) (by decide +kernel)
set_option maxRecDepth 20000 in
theorem gX3_power_X3_follow : GoodIn wsX3_power (wsV RX3 113 RX3 yX3_follow wsX3_follow) := goodIn_app (goodIn_of _ (by decide +kernel)) ggX3_power_X3_follow
set_option maxRecDepth 20000 in
theorem ggX3_power_X3_store : GoodIn wsX3_power wsX3_store := goodIn_r _ [70, 16, 3, 36, 25, 71, 72, 73, 74, 75, 76, 77, 78, 79, 80, 81, 82, 83, 84, 85, 86, 87, 88, 89, 90] (by decide +kernel) (by decide +kernel)
set_option maxRecDepth 20000 in
theorem gX3_power_X3_store : GoodIn wsX3_power (wsV RX3 96 RX3 yX3_store wsX3_store) := goodIn_app (goodIn_of _ (by decide +kernel)) ggX3_power_X3_store
theorem dX3_power_0 : decode cX3_power 0 = .ok (.iload_n 1, 1) := by decide +kernel
theorem dX3_power_1 : decode cX3_power 1 = .ok (.invokestatic 47, 3) := by decide +kernel
theorem dX3_power_4 : decode cX3_power 4 = .ok (.ifCond .eq 11, 3) := by decide +kernel
theorem dX3_power_7 : decode cX3_power 7 = .ok (.aload_n 0, 1) := by decide +kernel
theorem dX3_power_8 : decode cX3_power 8 = .ok (.iload_n 2, 1) := by decide +kernel
theorem dX3_power_9 : decode cX3_power 9 = .ok (.invokevirtual 104, 3) := by decide +kernel
theorem dX3_power_12 : decode cX3_power 12 = .ok (.ifCond .ne 6, 3) := by decide +kernel
theorem dX3_power_15 : decode cX3_power 15 = .ok (.bipush (-101), 2) := by decide +kernel
theorem dX3_power_17 : decode cX3_power 17 = .ok (.ireturn, 1) := by decide +kernel
theorem dX3_power_18 : decode cX3_power 18 = .ok (.iload_n 3, 1) := by decide +kernel
theorem dX3_power_19 : decode cX3_power 19 = .ok (.i2l, 1) := by decide +kernel
theorem dX3_power_20 : decode cX3_power 20 = .ok (.ldc2_w 119, 3) := by decide +kernel
theorem dX3_power_23 : decode cX3_power 23 = .ok (.ldc2_w 121, 3) := by decide +kernel
theorem dX3_power_26 : decode cX3_power 26 = .ok (.invokestatic 43, 3) := by decide +kernel
theorem dX3_power_29 : decode cX3_power 29 = .ok (.ifCond .ne 6, 3) := by decide +kernel
theorem dX3_power_32 : decode cX3_power 32 = .ok (.bipush (-102), 2) := by decide +kernel
theorem dX3_power_34 : decode cX3_power 34 = .ok (.ireturn, 1) := by decide +kernel
theorem dX3_power_35 : decode cX3_power 35 = .ok (.aload_n 0, 1) := by decide +kernel
theorem dX3_power_36 : decode cX3_power 36 = .ok (.invokevirtual 123, 3) := by decide +kernel
theorem dX3_power_39 : decode cX3_power 39 = .ok (.iconst 0, 1) := by decide +kernel
theorem dX3_power_40 : decode cX3_power 40 = .ok (.istore 4, 2) := by decide +kernel
theorem dX3_power_42 : decode cX3_power 42 = .ok (.iload 4, 2) := by decide +kernel
theorem dX3_power_44 : decode cX3_power 44 = .ok (.iload_n 3, 1) := by decide +kernel
theorem dX3_power_45 : decode cX3_power 45 = .ok (.ifCond .ge 8, 3) := by decide +kernel
theorem dX3_power_48 : decode cX3_power 48 = .ok (.iload_n 3, 1) := by decide +kernel
theorem dX3_power_49 : decode cX3_power 49 = .ok (.ineg, 1) := by decide +kernel
theorem dX3_power_50 : decode cX3_power 50 = .ok (.goto 4, 3) := by decide +kernel
theorem dX3_power_53 : decode cX3_power 53 = .ok (.iload_n 3, 1) := by decide +kernel
theorem dX3_power_54 : decode cX3_power 54 = .ok (.if_icmp .ge 42, 3) := by decide +kernel
theorem dX3_power_57 : decode cX3_power 57 = .ok (.aload_n 0, 1) := by decide +kernel
theorem dX3_power_58 : decode cX3_power 58 = .ok (.invokevirtual 110, 3) := by decide +kernel
theorem dX3_power_61 : decode cX3_power 61 = .ok (.aload_n 0, 1) := by decide +kernel
theorem dX3_power_62 : decode cX3_power 62 = .ok (.iload_n 2, 1) := by decide +kernel
theorem dX3_power_63 : decode cX3_power 63 = .ok (.invokevirtual 107, 3) := by decide +kernel
theorem dX3_power_66 : decode cX3_power 66 = .ok (.iload_n 3, 1) := by decide +kernel
theorem dX3_power_67 : decode cX3_power 67 = .ok (.ifCond .ge 7, 3) := by decide +kernel
theorem dX3_power_70 : decode cX3_power 70 = .ok (.aload_n 0, 1) := by decide +kernel
theorem dX3_power_71 : decode cX3_power 71 = .ok (.invokevirtual 116, 3) := by decide +kernel
theorem dX3_power_74 : decode cX3_power 74 = .ok (.aload_n 0, 1) := by decide +kernel
theorem dX3_power_75 : decode cX3_power 75 = .ok (.invokevirtual 113, 3) := by decide +kernel
theorem dX3_power_78 : decode cX3_power 78 = .ok (.aload_n 0, 1) := by decide +kernel
theorem dX3_power_79 : decode cX3_power 79 = .ok (.getfield 51, 3) := by decide +kernel
theorem dX3_power_82 : decode cX3_power 82 = .ok (.bipush 24, 2) := by decide +kernel
theorem dX3_power_84 : decode cX3_power 84 = .ok (.if_icmp .le 6, 3) := by decide +kernel
theorem dX3_power_87 : decode cX3_power 87 = .ok (.bipush (-104), 2) := by decide +kernel
theorem dX3_power_89 : decode cX3_power 89 = .ok (.ireturn, 1) := by decide +kernel
theorem dX3_power_90 : decode cX3_power 90 = .ok (.iinc 4 1, 3) := by decide +kernel
theorem dX3_power_93 : decode cX3_power 93 = .ok (.goto (-51), 3) := by decide +kernel
theorem dX3_power_96 : decode cX3_power 96 = .ok (.aload_n 0, 1) := by decide +kernel
theorem dX3_power_97 : decode cX3_power 97 = .ok (.iload_n 1, 1) := by decide +kernel
theorem dX3_power_98 : decode cX3_power 98 = .ok (.invokevirtual 96, 3) := by decide +kernel
theorem dX3_power_101 : decode cX3_power 101 = .ok (.aload_n 0, 1) := by decide +kernel
theorem dX3_power_102 : decode cX3_power 102 = .ok (.getfield 51, 3) := by decide +kernel
theorem dX3_power_105 : decode cX3_power 105 = .ok (.ireturn, 1) := by decide +kernel
set_option maxRecDepth 20000 in
theorem ggX3_drop_X3_isMap : GoodIn wsX3_drop wsX3_isMap := goodIn_r _ [6, 1, 7, 8, 5, 9, 10, 11, 12, 13, 14, 15, 16, 17, 18, 19, 20, 21, 22, 23, 24, 25, 26, 27, 28, 29, 30, 31, 32, 33] (by decide +kernel) (by decide +kernel)
set_option maxRecDepth 20000 in
theorem gX3_drop_X3_isMap : GoodIn wsX3_drop (wsV RX3 104 RX3 yX3_isMap wsX3_isMap) := goodIn_app (goodIn_of _ (by decide +kernel)) ggX3_drop_X3_isMap
theorem dX3_drop_0 : decode cX3_drop 0 = .ok (.aload_n 0, 1) := by decide +kernel
theorem dX3_drop_1 : decode cX3_drop 1 = .ok (.iload_n 1, 1) := by decide +kernel
theorem dX3_drop_2 : decode cX3_drop 2 = .ok (.invokevirtual 104, 3) := by decide +kernel
theorem dX3_drop_5 : decode cX3_drop 5 = .ok (.ifCond .ne 6, 3) := by decide +kernel
theorem dX3_drop_8 : decode cX3_drop 8 = .ok (.bipush (-101), 2) := by decide +kernel
theorem dX3_drop_10 : decode cX3_drop 10 = .ok (.ireturn, 1) := by decide +kernel
theorem dX3_drop_11 : decode cX3_drop 11 = .ok (.aload_n 0, 1) := by decide +kernel
theorem dX3_drop_12 : decode cX3_drop 12 = .ok (.getfield 7, 3) := by decide +kernel
theorem dX3_drop_15 : decode cX3_drop 15 = .ok (.iload_n 1, 1) := by decide +kernel
theorem dX3_drop_16 : decode cX3_drop 16 = .ok (.iaload, 1) := by decide +kernel
theorem dX3_drop_17 : decode cX3_drop 17 = .ok (.istore_n 2, 1) := by decide +kernel
theorem dX3_drop_18 : decode cX3_drop 18 = .ok (.aload_n 0, 1) := by decide +kernel
theorem dX3_drop_19 : decode cX3_drop 19 = .ok (.getfield 7, 3) := by decide +kernel
theorem dX3_drop_22 : decode cX3_drop 22 = .ok (.iload_n 1, 1) := by decide +kernel
theorem dX3_drop_23 : decode cX3_drop 23 = .ok (.iconst 0, 1) := by decide +kernel
theorem dX3_drop_24 : decode cX3_drop 24 = .ok (.iastore, 1) := by decide +kernel
theorem dX3_drop_25 : decode cX3_drop 25 = .ok (.iload_n 2, 1) := by decide +kernel
theorem dX3_drop_26 : decode cX3_drop 26 = .ok (.ireturn, 1) := by decide +kernel
set_option maxRecDepth 20000 in
theorem ggX3_leaves_X3_isMap : GoodIn wsX3_leaves wsX3_isMap := goodIn_r _ [6, 1, 7, 8, 5, 9, 10, 11, 12, 13, 14, 15, 16, 17, 18, 19, 20, 21, 22, 23, 24, 25, 26, 27, 28, 29, 30, 31, 32, 33] (by decide +kernel) (by decide +kernel)
set_option maxRecDepth 20000 in
theorem gX3_leaves_X3_isMap : GoodIn wsX3_leaves (wsV RX3 104 RX3 yX3_isMap wsX3_isMap) := goodIn_app (goodIn_of _ (by decide +kernel)) ggX3_leaves_X3_isMap
theorem dX3_leaves_0 : decode cX3_leaves 0 = .ok (.aload_n 0, 1) := by decide +kernel
theorem dX3_leaves_1 : decode cX3_leaves 1 = .ok (.iload_n 1, 1) := by decide +kernel
theorem dX3_leaves_2 : decode cX3_leaves 2 = .ok (.invokevirtual 104, 3) := by decide +kernel
theorem dX3_leaves_5 : decode cX3_leaves 5 = .ok (.ifCond .eq 12, 3) := by decide +kernel
theorem dX3_leaves_8 : decode cX3_leaves 8 = .ok (.aload_n 0, 1) := by decide +kernel
theorem dX3_leaves_9 : decode cX3_leaves 9 = .ok (.getfield 7, 3) := by decide +kernel
theorem dX3_leaves_12 : decode cX3_leaves 12 = .ok (.iload_n 1, 1) := by decide +kernel
theorem dX3_leaves_13 : decode cX3_leaves 13 = .ok (.iaload, 1) := by decide +kernel
theorem dX3_leaves_14 : decode cX3_leaves 14 = .ok (.goto 5, 3) := by decide +kernel
theorem dX3_leaves_17 : decode cX3_leaves 17 = .ok (.bipush (-101), 2) := by decide +kernel
theorem dX3_leaves_19 : decode cX3_leaves 19 = .ok (.ireturn, 1) := by decide +kernel
set_option maxRecDepth 20000 in
theorem ggX3_sortOf_X3_load : GoodIn wsX3_sortOf wsX3_load := goodIn_r _ [6, 1, 7, 8, 9, 10, 11, 5, 12, 13, 18, 19, 20, 21, 22, 23, 24, 25, 26, 27, 28, 29, 30, 31, 32, 33, 34, 35, 36, 37] (by decide +kernel) (by decide +kernel)
set_option maxRecDepth 20000 in
theorem gX3_sortOf_X3_load : GoodIn wsX3_sortOf (wsV RX3 107 RX3 yX3_load wsX3_load) := goodIn_app (goodIn_of _ (by decide +kernel)) ggX3_sortOf_X3_load
set_option maxRecDepth 20000 in
theorem ggX3_sortOf_X3_isLeft : GoodIn wsX3_sortOf wsX3_isLeft := goodIn_r _ [17, 13, 18, 19, 20, 21, 22, 23, 24, 25, 26, 27, 28, 29, 30, 31, 32, 33, 34, 35, 36, 37] (by decide +kernel) (by decide +kernel)
set_option maxRecDepth 20000 in
theorem gX3_sortOf_X3_isLeft : GoodIn wsX3_sortOf (wsV RX3 71 RX3 yX3_isLeft wsX3_isLeft) := goodIn_app (goodIn_of _ (by decide +kernel)) ggX3_sortOf_X3_isLeft
theorem dX3_sortOf_0 : decode cX3_sortOf 0 = .ok (.aload_n 0, 1) := by decide +kernel
theorem dX3_sortOf_1 : decode cX3_sortOf 1 = .ok (.iload_n 1, 1) := by decide +kernel
theorem dX3_sortOf_2 : decode cX3_sortOf 2 = .ok (.invokevirtual 107, 3) := by decide +kernel
theorem dX3_sortOf_5 : decode cX3_sortOf 5 = .ok (.iconst 0, 1) := by decide +kernel
theorem dX3_sortOf_6 : decode cX3_sortOf 6 = .ok (.istore_n 2, 1) := by decide +kernel
theorem dX3_sortOf_7 : decode cX3_sortOf 7 = .ok (.iconst 0, 1) := by decide +kernel
theorem dX3_sortOf_8 : decode cX3_sortOf 8 = .ok (.istore_n 3, 1) := by decide +kernel
theorem dX3_sortOf_9 : decode cX3_sortOf 9 = .ok (.iload_n 3, 1) := by decide +kernel
theorem dX3_sortOf_10 : decode cX3_sortOf 10 = .ok (.aload_n 0, 1) := by decide +kernel
theorem dX3_sortOf_11 : decode cX3_sortOf 11 = .ok (.getfield 51, 3) := by decide +kernel
theorem dX3_sortOf_14 : decode cX3_sortOf 14 = .ok (.if_icmp .ge 46, 3) := by decide +kernel
theorem dX3_sortOf_17 : decode cX3_sortOf 17 = .ok (.iload_n 3, 1) := by decide +kernel
theorem dX3_sortOf_18 : decode cX3_sortOf 18 = .ok (.ifCond .ne 12, 3) := by decide +kernel
theorem dX3_sortOf_21 : decode cX3_sortOf 21 = .ok (.aload_n 0, 1) := by decide +kernel
theorem dX3_sortOf_22 : decode cX3_sortOf 22 = .ok (.getfield 51, 3) := by decide +kernel
theorem dX3_sortOf_25 : decode cX3_sortOf 25 = .ok (.iconst 1, 1) := by decide +kernel
theorem dX3_sortOf_26 : decode cX3_sortOf 26 = .ok (.isub, 1) := by decide +kernel
theorem dX3_sortOf_27 : decode cX3_sortOf 27 = .ok (.goto 6, 3) := by decide +kernel
theorem dX3_sortOf_30 : decode cX3_sortOf 30 = .ok (.iload_n 3, 1) := by decide +kernel
theorem dX3_sortOf_31 : decode cX3_sortOf 31 = .ok (.iconst 1, 1) := by decide +kernel
theorem dX3_sortOf_32 : decode cX3_sortOf 32 = .ok (.isub, 1) := by decide +kernel
theorem dX3_sortOf_33 : decode cX3_sortOf 33 = .ok (.istore 4, 2) := by decide +kernel
theorem dX3_sortOf_35 : decode cX3_sortOf 35 = .ok (.iload_n 2, 1) := by decide +kernel
theorem dX3_sortOf_36 : decode cX3_sortOf 36 = .ok (.aload_n 0, 1) := by decide +kernel
theorem dX3_sortOf_37 : decode cX3_sortOf 37 = .ok (.iload_n 3, 1) := by decide +kernel
theorem dX3_sortOf_38 : decode cX3_sortOf 38 = .ok (.iload 4, 2) := by decide +kernel
theorem dX3_sortOf_40 : decode cX3_sortOf 40 = .ok (.iconst 2, 1) := by decide +kernel
theorem dX3_sortOf_41 : decode cX3_sortOf 41 = .ok (.invokevirtual 71, 3) := by decide +kernel
theorem dX3_sortOf_44 : decode cX3_sortOf 44 = .ok (.ifCond .eq 7, 3) := by decide +kernel
theorem dX3_sortOf_47 : decode cX3_sortOf 47 = .ok (.iconst 1, 1) := by decide +kernel
theorem dX3_sortOf_48 : decode cX3_sortOf 48 = .ok (.goto 4, 3) := by decide +kernel
theorem dX3_sortOf_51 : decode cX3_sortOf 51 = .ok (.iconst 0, 1) := by decide +kernel
theorem dX3_sortOf_52 : decode cX3_sortOf 52 = .ok (.iadd, 1) := by decide +kernel
theorem dX3_sortOf_53 : decode cX3_sortOf 53 = .ok (.istore_n 2, 1) := by decide +kernel
theorem dX3_sortOf_54 : decode cX3_sortOf 54 = .ok (.iinc 3 1, 3) := by decide +kernel
theorem dX3_sortOf_57 : decode cX3_sortOf 57 = .ok (.goto (-48), 3) := by decide +kernel
theorem dX3_sortOf_60 : decode cX3_sortOf 60 = .ok (.aload_n 0, 1) := by decide +kernel
theorem dX3_sortOf_61 : decode cX3_sortOf 61 = .ok (.getfield 51, 3) := by decide +kernel
theorem dX3_sortOf_64 : decode cX3_sortOf 64 = .ok (.iconst 1, 1) := by decide +kernel
theorem dX3_sortOf_65 : decode cX3_sortOf 65 = .ok (.if_icmp .eq 23, 3) := by decide +kernel
theorem dX3_sortOf_68 : decode cX3_sortOf 68 = .ok (.aload_n 0, 1) := by decide +kernel
theorem dX3_sortOf_69 : decode cX3_sortOf 69 = .ok (.iconst 0, 1) := by decide +kernel
theorem dX3_sortOf_70 : decode cX3_sortOf 70 = .ok (.aload_n 0, 1) := by decide +kernel
theorem dX3_sortOf_71 : decode cX3_sortOf 71 = .ok (.getfield 51, 3) := by decide +kernel
theorem dX3_sortOf_74 : decode cX3_sortOf 74 = .ok (.iconst 1, 1) := by decide +kernel
theorem dX3_sortOf_75 : decode cX3_sortOf 75 = .ok (.isub, 1) := by decide +kernel
theorem dX3_sortOf_76 : decode cX3_sortOf 76 = .ok (.iconst 2, 1) := by decide +kernel
theorem dX3_sortOf_77 : decode cX3_sortOf 77 = .ok (.invokevirtual 71, 3) := by decide +kernel
theorem dX3_sortOf_80 : decode cX3_sortOf 80 = .ok (.ifCond .eq 12, 3) := by decide +kernel
theorem dX3_sortOf_83 : decode cX3_sortOf 83 = .ok (.iload_n 2, 1) := by decide +kernel
theorem dX3_sortOf_84 : decode cX3_sortOf 84 = .ok (.iconst 1, 1) := by decide +kernel
theorem dX3_sortOf_85 : decode cX3_sortOf 85 = .ok (.if_icmp .ne 7, 3) := by decide +kernel
theorem dX3_sortOf_88 : decode cX3_sortOf 88 = .ok (.iconst 1, 1) := by decide +kernel
theorem dX3_sortOf_89 : decode cX3_sortOf 89 = .ok (.goto 4, 3) := by decide +kernel
theorem dX3_sortOf_92 : decode cX3_sortOf 92 = .ok (.iconst 0, 1) := by decide +kernel
theorem dX3_sortOf_93 : decode cX3_sortOf 93 = .ok (.istore_n 3, 1) := by decide +kernel
theorem dX3_sortOf_94 : decode cX3_sortOf 94 = .ok (.iload_n 3, 1) := by decide +kernel
theorem dX3_sortOf_95 : decode cX3_sortOf 95 = .ok (.ifCond .eq 7, 3) := by decide +kernel
theorem dX3_sortOf_98 : decode cX3_sortOf 98 = .ok (.iconst 0, 1) := by decide +kernel
theorem dX3_sortOf_99 : decode cX3_sortOf 99 = .ok (.goto 13, 3) := by decide +kernel
theorem dX3_sortOf_102 : decode cX3_sortOf 102 = .ok (.iload_n 2, 1) := by decide +kernel
theorem dX3_sortOf_103 : decode cX3_sortOf 103 = .ok (.iconst 1, 1) := by decide +kernel
theorem dX3_sortOf_104 : decode cX3_sortOf 104 = .ok (.if_icmp .ne 7, 3) := by decide +kernel
theorem dX3_sortOf_107 : decode cX3_sortOf 107 = .ok (.iconst 1, 1) := by decide +kernel
theorem dX3_sortOf_108 : decode cX3_sortOf 108 = .ok (.goto 4, 3) := by decide +kernel
theorem dX3_sortOf_111 : decode cX3_sortOf 111 = .ok (.iconst 2, 1) := by decide +kernel
theorem dX3_sortOf_112 : decode cX3_sortOf 112 = .ok (.ireturn, 1) := by decide +kernel
set_option maxRecDepth 20000 in
theorem ggX3_sort_X3_isMap : GoodIn wsX3_sort wsX3_isMap := goodIn_r _ [5, 6, 7, 8, 4, 9, 10, 11, 12, 13, 33, 34, 35, 36, 37, 38, 39, 40, 41, 42, 43, 44, 45, 46, 47, 48, 49, 50, 51, 52] (by decide +kernel) (by decide +kernel)
set_option maxRecDepth 20000 in
theorem gX3_sort_X3_isMap : GoodIn wsX3_sort (wsV RX3 104 RX3 yX3_isMap wsX3_isMap) := goodIn_app (goodIn_of _ (by decide +kernel)) ggX3_sort_X3_isMap
set_option maxRecDepth 20000 in
theorem ggX3_sort_X3_sortOf : GoodIn wsX3_sort wsX3_sortOf := goodIn_r _ [17, 18, 19, 20, 21, 4, 22, 6, 23, 24, 25, 26, 27, 28, 29, 30, 31, 32, 33, 34, 35, 36, 37, 38, 39, 40, 41, 42, 43, 44, 45, 46, 47, 48, 49, 50, 51, 52] (by decide +kernel) (by decide +kernel)
set_option maxRecDepth 20000 in
theorem gX3_sort_X3_sortOf : GoodIn wsX3_sort (wsV RX3 126 RX3 yX3_sortOf wsX3_sortOf) := goodIn_app (goodIn_of _ (by decide +kernel)) ggX3_sort_X3_sortOf
theorem dX3_sort_0 : decode cX3_sort 0 = .ok (.aload_n 0, 1) := by decide +kernel
theorem dX3_sort_1 : decode cX3_sort 1 = .ok (.iload_n 1, 1) := by decide +kernel
theorem dX3_sort_2 : decode cX3_sort 2 = .ok (.invokevirtual 104, 3) := by decide +kernel
theorem dX3_sort_5 : decode cX3_sort 5 = .ok (.ifCond .eq 11, 3) := by decide +kernel
theorem dX3_sort_8 : decode cX3_sort 8 = .ok (.aload_n 0, 1) := by decide +kernel
theorem dX3_sort_9 : decode cX3_sort 9 = .ok (.iload_n 1, 1) := by decide +kernel
theorem dX3_sort_10 : decode cX3_sort 10 = .ok (.invokevirtual 126, 3) := by decide +kernel
theorem dX3_sort_13 : decode cX3_sort 13 = .ok (.goto 5, 3) := by decide +kernel
theorem dX3_sort_16 : decode cX3_sort 16 = .ok (.bipush (-101), 2) := by decide +kernel
theorem dX3_sort_18 : decode cX3_sort 18 = .ok (.ireturn, 1) := by decide +kernel
set_option maxRecDepth 20000 in
theorem ggX3_leaf_X3_isMap : GoodIn wsX3_leaf wsX3_isMap := goodIn_r _ [8, 1, 9, 10, 7, 11, 12, 13, 14, 15, 16, 17, 18, 19, 20, 21, 22, 23, 24, 25, 26, 27, 28, 29, 30, 31, 32, 33, 34, 35] (by decide +kernel) (by decide +kernel)
set_option maxRecDepth 20000 in
theorem gX3_leaf_X3_isMap : GoodIn wsX3_leaf (wsV RX3 104 RX3 yX3_isMap wsX3_isMap) := goodIn_app (goodIn_of _ (by decide +kernel)) ggX3_leaf_X3_isMap
set_option maxRecDepth 20000 in
theorem ggX3_leaf_X3_in : GoodIn wsX3_leaf wsX3_in := goodIn_r _ [15] (by decide +kernel) (by decide +kernel)
set_option maxRecDepth 20000 in
theorem gX3_leaf_X3_in : GoodIn wsX3_leaf (va_wsS RX3 43 yX3_in wsX3_in) := goodIn_app (goodIn_of _ (by decide +kernel)) ggX3_leaf_X3_in
theorem dX3_leaf_0 : decode cX3_leaf 0 = .ok (.aload_n 0, 1) := by decide +kernel
theorem dX3_leaf_1 : decode cX3_leaf 1 = .ok (.iload_n 1, 1) := by decide +kernel
theorem dX3_leaf_2 : decode cX3_leaf 2 = .ok (.invokevirtual 104, 3) := by decide +kernel
theorem dX3_leaf_5 : decode cX3_leaf 5 = .ok (.ifCond .eq 21, 3) := by decide +kernel
theorem dX3_leaf_8 : decode cX3_leaf 8 = .ok (.iload_n 2, 1) := by decide +kernel
theorem dX3_leaf_9 : decode cX3_leaf 9 = .ok (.i2l, 1) := by decide +kernel
theorem dX3_leaf_10 : decode cX3_leaf 10 = .ok (.lconst 0, 1) := by decide +kernel
theorem dX3_leaf_11 : decode cX3_leaf 11 = .ok (.aload_n 0, 1) := by decide +kernel
theorem dX3_leaf_12 : decode cX3_leaf 12 = .ok (.getfield 7, 3) := by decide +kernel
theorem dX3_leaf_15 : decode cX3_leaf 15 = .ok (.iload_n 1, 1) := by decide +kernel
theorem dX3_leaf_16 : decode cX3_leaf 16 = .ok (.iaload, 1) := by decide +kernel
theorem dX3_leaf_17 : decode cX3_leaf 17 = .ok (.iconst 1, 1) := by decide +kernel
theorem dX3_leaf_18 : decode cX3_leaf 18 = .ok (.isub, 1) := by decide +kernel
theorem dX3_leaf_19 : decode cX3_leaf 19 = .ok (.i2l, 1) := by decide +kernel
theorem dX3_leaf_20 : decode cX3_leaf 20 = .ok (.invokestatic 43, 3) := by decide +kernel
theorem dX3_leaf_23 : decode cX3_leaf 23 = .ok (.ifCond .ne 6, 3) := by decide +kernel
theorem dX3_leaf_26 : decode cX3_leaf 26 = .ok (.bipush (-101), 2) := by decide +kernel
theorem dX3_leaf_28 : decode cX3_leaf 28 = .ok (.ireturn, 1) := by decide +kernel
theorem dX3_leaf_29 : decode cX3_leaf 29 = .ok (.iload_n 3, 1) := by decide +kernel
theorem dX3_leaf_30 : decode cX3_leaf 30 = .ok (.i2l, 1) := by decide +kernel
theorem dX3_leaf_31 : decode cX3_leaf 31 = .ok (.lconst 0, 1) := by decide +kernel
theorem dX3_leaf_32 : decode cX3_leaf 32 = .ok (.ldc2_w 130, 3) := by decide +kernel
theorem dX3_leaf_35 : decode cX3_leaf 35 = .ok (.invokestatic 43, 3) := by decide +kernel
theorem dX3_leaf_38 : decode cX3_leaf 38 = .ok (.ifCond .eq 21, 3) := by decide +kernel
theorem dX3_leaf_41 : decode cX3_leaf 41 = .ok (.aload_n 0, 1) := by decide +kernel
theorem dX3_leaf_42 : decode cX3_leaf 42 = .ok (.getfield 13, 3) := by decide +kernel
theorem dX3_leaf_45 : decode cX3_leaf 45 = .ok (.bipush 96, 2) := by decide +kernel
theorem dX3_leaf_47 : decode cX3_leaf 47 = .ok (.iload_n 1, 1) := by decide +kernel
theorem dX3_leaf_48 : decode cX3_leaf 48 = .ok (.imul, 1) := by decide +kernel
theorem dX3_leaf_49 : decode cX3_leaf 49 = .ok (.iconst 4, 1) := by decide +kernel
theorem dX3_leaf_50 : decode cX3_leaf 50 = .ok (.iload_n 2, 1) := by decide +kernel
theorem dX3_leaf_51 : decode cX3_leaf 51 = .ok (.imul, 1) := by decide +kernel
theorem dX3_leaf_52 : decode cX3_leaf 52 = .ok (.iadd, 1) := by decide +kernel
theorem dX3_leaf_53 : decode cX3_leaf 53 = .ok (.iload_n 3, 1) := by decide +kernel
theorem dX3_leaf_54 : decode cX3_leaf 54 = .ok (.iadd, 1) := by decide +kernel
theorem dX3_leaf_55 : decode cX3_leaf 55 = .ok (.iaload, 1) := by decide +kernel
theorem dX3_leaf_56 : decode cX3_leaf 56 = .ok (.goto 5, 3) := by decide +kernel
theorem dX3_leaf_59 : decode cX3_leaf 59 = .ok (.bipush (-102), 2) := by decide +kernel
theorem dX3_leaf_61 : decode cX3_leaf 61 = .ok (.ireturn, 1) := by decide +kernel
set_option maxRecDepth 20000 in
theorem ggX3_same_X3_isMap : GoodIn wsX3_same wsX3_isMap := goodIn_r _ [7, 1, 8, 9, 6, 10, 11, 12, 13, 14, 15, 16, 17, 18, 19, 20, 21, 22, 23, 24, 25, 26, 27, 28, 29, 30, 31, 32, 33, 34] (by decide +kernel) (by decide +kernel)
set_option maxRecDepth 20000 in
theorem gX3_same_X3_isMap : GoodIn wsX3_same (wsV RX3 104 RX3 yX3_isMap wsX3_isMap) := goodIn_app (goodIn_of _ (by decide +kernel)) ggX3_same_X3_isMap
theorem dX3_same_0 : decode cX3_same 0 = .ok (.aload_n 0, 1) := by decide +kernel
theorem dX3_same_1 : decode cX3_same 1 = .ok (.iload_n 1, 1) := by decide +kernel
theorem dX3_same_2 : decode cX3_same 2 = .ok (.invokevirtual 104, 3) := by decide +kernel
theorem dX3_same_5 : decode cX3_same 5 = .ok (.ifCond .eq 11, 3) := by decide +kernel
theorem dX3_same_8 : decode cX3_same 8 = .ok (.aload_n 0, 1) := by decide +kernel
theorem dX3_same_9 : decode cX3_same 9 = .ok (.iload_n 2, 1) := by decide +kernel
theorem dX3_same_10 : decode cX3_same 10 = .ok (.invokevirtual 104, 3) := by decide +kernel
theorem dX3_same_13 : decode cX3_same 13 = .ok (.ifCond .ne 6, 3) := by decide +kernel
theorem dX3_same_16 : decode cX3_same 16 = .ok (.bipush (-101), 2) := by decide +kernel
theorem dX3_same_18 : decode cX3_same 18 = .ok (.ireturn, 1) := by decide +kernel
theorem dX3_same_19 : decode cX3_same 19 = .ok (.aload_n 0, 1) := by decide +kernel
theorem dX3_same_20 : decode cX3_same 20 = .ok (.getfield 7, 3) := by decide +kernel
theorem dX3_same_23 : decode cX3_same 23 = .ok (.iload_n 1, 1) := by decide +kernel
theorem dX3_same_24 : decode cX3_same 24 = .ok (.iaload, 1) := by decide +kernel
theorem dX3_same_25 : decode cX3_same 25 = .ok (.aload_n 0, 1) := by decide +kernel
theorem dX3_same_26 : decode cX3_same 26 = .ok (.getfield 7, 3) := by decide +kernel
theorem dX3_same_29 : decode cX3_same 29 = .ok (.iload_n 2, 1) := by decide +kernel
theorem dX3_same_30 : decode cX3_same 30 = .ok (.iaload, 1) := by decide +kernel
theorem dX3_same_31 : decode cX3_same 31 = .ok (.if_icmp .ne 7, 3) := by decide +kernel
theorem dX3_same_34 : decode cX3_same 34 = .ok (.iconst 1, 1) := by decide +kernel
theorem dX3_same_35 : decode cX3_same 35 = .ok (.goto 4, 3) := by decide +kernel
theorem dX3_same_38 : decode cX3_same 38 = .ok (.iconst 0, 1) := by decide +kernel
theorem dX3_same_39 : decode cX3_same 39 = .ok (.istore_n 3, 1) := by decide +kernel
theorem dX3_same_40 : decode cX3_same 40 = .ok (.iconst 0, 1) := by decide +kernel
theorem dX3_same_41 : decode cX3_same 41 = .ok (.istore 4, 2) := by decide +kernel
theorem dX3_same_43 : decode cX3_same 43 = .ok (.iload 4, 2) := by decide +kernel
theorem dX3_same_45 : decode cX3_same 45 = .ok (.iconst 4, 1) := by decide +kernel
theorem dX3_same_46 : decode cX3_same 46 = .ok (.aload_n 0, 1) := by decide +kernel
theorem dX3_same_47 : decode cX3_same 47 = .ok (.getfield 7, 3) := by decide +kernel
theorem dX3_same_50 : decode cX3_same 50 = .ok (.iload_n 1, 1) := by decide +kernel
theorem dX3_same_51 : decode cX3_same 51 = .ok (.iaload, 1) := by decide +kernel
theorem dX3_same_52 : decode cX3_same 52 = .ok (.imul, 1) := by decide +kernel
theorem dX3_same_53 : decode cX3_same 53 = .ok (.if_icmp .ge 46, 3) := by decide +kernel
theorem dX3_same_56 : decode cX3_same 56 = .ok (.iload_n 3, 1) := by decide +kernel
theorem dX3_same_57 : decode cX3_same 57 = .ok (.ifCond .eq 42, 3) := by decide +kernel
theorem dX3_same_60 : decode cX3_same 60 = .ok (.aload_n 0, 1) := by decide +kernel
theorem dX3_same_61 : decode cX3_same 61 = .ok (.getfield 13, 3) := by decide +kernel
theorem dX3_same_64 : decode cX3_same 64 = .ok (.bipush 96, 2) := by decide +kernel
theorem dX3_same_66 : decode cX3_same 66 = .ok (.iload_n 1, 1) := by decide +kernel
theorem dX3_same_67 : decode cX3_same 67 = .ok (.imul, 1) := by decide +kernel
theorem dX3_same_68 : decode cX3_same 68 = .ok (.iload 4, 2) := by decide +kernel
theorem dX3_same_70 : decode cX3_same 70 = .ok (.iadd, 1) := by decide +kernel
theorem dX3_same_71 : decode cX3_same 71 = .ok (.iaload, 1) := by decide +kernel
theorem dX3_same_72 : decode cX3_same 72 = .ok (.aload_n 0, 1) := by decide +kernel
theorem dX3_same_73 : decode cX3_same 73 = .ok (.getfield 13, 3) := by decide +kernel
theorem dX3_same_76 : decode cX3_same 76 = .ok (.bipush 96, 2) := by decide +kernel
theorem dX3_same_78 : decode cX3_same 78 = .ok (.iload_n 2, 1) := by decide +kernel
theorem dX3_same_79 : decode cX3_same 79 = .ok (.imul, 1) := by decide +kernel
theorem dX3_same_80 : decode cX3_same 80 = .ok (.iload 4, 2) := by decide +kernel
theorem dX3_same_82 : decode cX3_same 82 = .ok (.iadd, 1) := by decide +kernel
theorem dX3_same_83 : decode cX3_same 83 = .ok (.iaload, 1) := by decide +kernel
theorem dX3_same_84 : decode cX3_same 84 = .ok (.if_icmp .ne 7, 3) := by decide +kernel
theorem dX3_same_87 : decode cX3_same 87 = .ok (.iconst 1, 1) := by decide +kernel
theorem dX3_same_88 : decode cX3_same 88 = .ok (.goto 4, 3) := by decide +kernel
theorem dX3_same_91 : decode cX3_same 91 = .ok (.iconst 0, 1) := by decide +kernel
theorem dX3_same_92 : decode cX3_same 92 = .ok (.istore_n 3, 1) := by decide +kernel
theorem dX3_same_93 : decode cX3_same 93 = .ok (.iinc 4 1, 3) := by decide +kernel
theorem dX3_same_96 : decode cX3_same 96 = .ok (.goto (-53), 3) := by decide +kernel
theorem dX3_same_99 : decode cX3_same 99 = .ok (.iload_n 3, 1) := by decide +kernel
theorem dX3_same_100 : decode cX3_same 100 = .ok (.ifCond .eq 7, 3) := by decide +kernel
theorem dX3_same_103 : decode cX3_same 103 = .ok (.iconst 1, 1) := by decide +kernel
theorem dX3_same_104 : decode cX3_same 104 = .ok (.goto 4, 3) := by decide +kernel
theorem dX3_same_107 : decode cX3_same 107 = .ok (.iconst 0, 1) := by decide +kernel
theorem dX3_same_108 : decode cX3_same 108 = .ok (.ireturn, 1) := by decide +kernel
set_option maxRecDepth 20000 in
theorem ggX3_commute_X3_isMap : GoodIn wsX3_commute wsX3_isMap := goodIn_r _ [8, 9, 10, 11, 7, 12, 13, 14, 15, 16, 58, 59, 60, 61, 62, 63, 64, 65, 66, 67, 68, 69, 70, 71, 72, 73, 74, 75, 76, 77] (by decide +kernel) (by decide +kernel)
set_option maxRecDepth 20000 in
theorem gX3_commute_X3_isMap : GoodIn wsX3_commute (wsV RX3 104 RX3 yX3_isMap wsX3_isMap) := goodIn_app (goodIn_of _ (by decide +kernel)) ggX3_commute_X3_isMap
set_option maxRecDepth 20000 in
theorem ggX3_commute_X3_load : GoodIn wsX3_commute wsX3_load := goodIn_r _ [20, 1, 9, 21, 22, 23, 24, 7, 25, 3, 58, 59, 60, 61, 62, 63, 64, 65, 66, 67, 68, 69, 70, 71, 72, 73, 74, 75, 76, 77] (by decide +kernel) (by decide +kernel)
set_option maxRecDepth 20000 in
theorem gX3_commute_X3_load : GoodIn wsX3_commute (wsV RX3 107 RX3 yX3_load wsX3_load) := goodIn_app (goodIn_of _ (by decide +kernel)) ggX3_commute_X3_load
set_option maxRecDepth 20000 in
theorem ggX3_commute_X3_aside : GoodIn wsX3_commute wsX3_aside := goodIn_r _ [29, 1, 30, 31, 3, 58, 59, 60, 61, 62, 63, 64, 65, 66, 67, 68, 69, 70, 71, 72, 73, 74, 75, 76, 77] (by decide +kernel) (by decide +kernel)
set_option maxRecDepth 20000 in
theorem gX3_commute_X3_aside : GoodIn wsX3_commute (wsV RX3 110 RX3 yX3_aside wsX3_aside) := goodIn_app (goodIn_of _ (by decide +kernel)) ggX3_commute_X3_aside
set_option maxRecDepth 20000 in
theorem ggX3_commute_X3_follow : GoodIn wsX3_commute wsX3_follow := goodIn_r _ [35, 30, 1, 31, 3, 36, 37, 38, 39, 7, 40, 41, 42, 43, 44, 45, 46, 47, 48, 49, 50, 51, 52, 53, 54, 55, 56, 57, 58, 59, 60, 61, 62, 63, 64, 65, 66, 67, 68, 69, 70, 71, 72, 73, 74, 75, 76, 77] (by decide +kernel) (by decide +kernel)
set_option maxRecDepth 20000 in
theorem gX3_commute_X3_follow : GoodIn wsX3_commute (wsV RX3 113 RX3 yX3_follow wsX3_follow) := goodIn_app (goodIn_of _ (by decide +kernel)) ggX3_commute_X3_follow
theorem dX3_commute_0 : decode cX3_commute 0 = .ok (.aload_n 0, 1) := by decide +kernel
theorem dX3_commute_1 : decode cX3_commute 1 = .ok (.iload_n 1, 1) := by decide +kernel
theorem dX3_commute_2 : decode cX3_commute 2 = .ok (.invokevirtual 104, 3) := by decide +kernel
theorem dX3_commute_5 : decode cX3_commute 5 = .ok (.ifCond .eq 11, 3) := by decide +kernel
theorem dX3_commute_8 : decode cX3_commute 8 = .ok (.aload_n 0, 1) := by decide +kernel
theorem dX3_commute_9 : decode cX3_commute 9 = .ok (.iload_n 2, 1) := by decide +kernel
theorem dX3_commute_10 : decode cX3_commute 10 = .ok (.invokevirtual 104, 3) := by decide +kernel
theorem dX3_commute_13 : decode cX3_commute 13 = .ok (.ifCond .ne 6, 3) := by decide +kernel
theorem dX3_commute_16 : decode cX3_commute 16 = .ok (.bipush (-101), 2) := by decide +kernel
theorem dX3_commute_18 : decode cX3_commute 18 = .ok (.ireturn, 1) := by decide +kernel
theorem dX3_commute_19 : decode cX3_commute 19 = .ok (.aload_n 0, 1) := by decide +kernel
theorem dX3_commute_20 : decode cX3_commute 20 = .ok (.iload_n 1, 1) := by decide +kernel
theorem dX3_commute_21 : decode cX3_commute 21 = .ok (.invokevirtual 107, 3) := by decide +kernel
theorem dX3_commute_24 : decode cX3_commute 24 = .ok (.aload_n 0, 1) := by decide +kernel
theorem dX3_commute_25 : decode cX3_commute 25 = .ok (.invokevirtual 110, 3) := by decide +kernel
theorem dX3_commute_28 : decode cX3_commute 28 = .ok (.aload_n 0, 1) := by decide +kernel
theorem dX3_commute_29 : decode cX3_commute 29 = .ok (.iload_n 2, 1) := by decide +kernel
theorem dX3_commute_30 : decode cX3_commute 30 = .ok (.invokevirtual 107, 3) := by decide +kernel
theorem dX3_commute_33 : decode cX3_commute 33 = .ok (.aload_n 0, 1) := by decide +kernel
theorem dX3_commute_34 : decode cX3_commute 34 = .ok (.invokevirtual 113, 3) := by decide +kernel
theorem dX3_commute_37 : decode cX3_commute 37 = .ok (.aload_n 0, 1) := by decide +kernel
theorem dX3_commute_38 : decode cX3_commute 38 = .ok (.getfield 51, 3) := by decide +kernel
theorem dX3_commute_41 : decode cX3_commute 41 = .ok (.istore_n 3, 1) := by decide +kernel
theorem dX3_commute_42 : decode cX3_commute 42 = .ok (.iconst 0, 1) := by decide +kernel
theorem dX3_commute_43 : decode cX3_commute 43 = .ok (.istore 4, 2) := by decide +kernel
theorem dX3_commute_45 : decode cX3_commute 45 = .ok (.iload 4, 2) := by decide +kernel
theorem dX3_commute_47 : decode cX3_commute 47 = .ok (.iconst 4, 1) := by decide +kernel
theorem dX3_commute_48 : decode cX3_commute 48 = .ok (.aload_n 0, 1) := by decide +kernel
theorem dX3_commute_49 : decode cX3_commute 49 = .ok (.getfield 51, 3) := by decide +kernel
theorem dX3_commute_52 : decode cX3_commute 52 = .ok (.imul, 1) := by decide +kernel
theorem dX3_commute_53 : decode cX3_commute 53 = .ok (.if_icmp .ge 23, 3) := by decide +kernel
theorem dX3_commute_56 : decode cX3_commute 56 = .ok (.aload_n 0, 1) := by decide +kernel
theorem dX3_commute_57 : decode cX3_commute 57 = .ok (.getfield 38, 3) := by decide +kernel
theorem dX3_commute_60 : decode cX3_commute 60 = .ok (.iload 4, 2) := by decide +kernel
theorem dX3_commute_62 : decode cX3_commute 62 = .ok (.aload_n 0, 1) := by decide +kernel
theorem dX3_commute_63 : decode cX3_commute 63 = .ok (.getfield 19, 3) := by decide +kernel
theorem dX3_commute_66 : decode cX3_commute 66 = .ok (.iload 4, 2) := by decide +kernel
theorem dX3_commute_68 : decode cX3_commute 68 = .ok (.laload, 1) := by decide +kernel
theorem dX3_commute_69 : decode cX3_commute 69 = .ok (.lastore, 1) := by decide +kernel
theorem dX3_commute_70 : decode cX3_commute 70 = .ok (.iinc 4 1, 3) := by decide +kernel
theorem dX3_commute_73 : decode cX3_commute 73 = .ok (.goto (-28), 3) := by decide +kernel
theorem dX3_commute_76 : decode cX3_commute 76 = .ok (.aload_n 0, 1) := by decide +kernel
theorem dX3_commute_77 : decode cX3_commute 77 = .ok (.iload_n 2, 1) := by decide +kernel
theorem dX3_commute_78 : decode cX3_commute 78 = .ok (.invokevirtual 107, 3) := by decide +kernel
theorem dX3_commute_81 : decode cX3_commute 81 = .ok (.aload_n 0, 1) := by decide +kernel
theorem dX3_commute_82 : decode cX3_commute 82 = .ok (.invokevirtual 110, 3) := by decide +kernel
theorem dX3_commute_85 : decode cX3_commute 85 = .ok (.aload_n 0, 1) := by decide +kernel
theorem dX3_commute_86 : decode cX3_commute 86 = .ok (.iload_n 1, 1) := by decide +kernel
theorem dX3_commute_87 : decode cX3_commute 87 = .ok (.invokevirtual 107, 3) := by decide +kernel
theorem dX3_commute_90 : decode cX3_commute 90 = .ok (.aload_n 0, 1) := by decide +kernel
theorem dX3_commute_91 : decode cX3_commute 91 = .ok (.invokevirtual 113, 3) := by decide +kernel
theorem dX3_commute_94 : decode cX3_commute 94 = .ok (.iload_n 3, 1) := by decide +kernel
theorem dX3_commute_95 : decode cX3_commute 95 = .ok (.bipush 24, 2) := by decide +kernel
theorem dX3_commute_97 : decode cX3_commute 97 = .ok (.if_icmp .gt 12, 3) := by decide +kernel
theorem dX3_commute_100 : decode cX3_commute 100 = .ok (.aload_n 0, 1) := by decide +kernel
theorem dX3_commute_101 : decode cX3_commute 101 = .ok (.getfield 51, 3) := by decide +kernel
theorem dX3_commute_104 : decode cX3_commute 104 = .ok (.bipush 24, 2) := by decide +kernel
theorem dX3_commute_106 : decode cX3_commute 106 = .ok (.if_icmp .le 6, 3) := by decide +kernel
theorem dX3_commute_109 : decode cX3_commute 109 = .ok (.bipush (-104), 2) := by decide +kernel
theorem dX3_commute_111 : decode cX3_commute 111 = .ok (.ireturn, 1) := by decide +kernel
theorem dX3_commute_112 : decode cX3_commute 112 = .ok (.iload_n 3, 1) := by decide +kernel
theorem dX3_commute_113 : decode cX3_commute 113 = .ok (.aload_n 0, 1) := by decide +kernel
theorem dX3_commute_114 : decode cX3_commute 114 = .ok (.getfield 51, 3) := by decide +kernel
theorem dX3_commute_117 : decode cX3_commute 117 = .ok (.if_icmp .ne 7, 3) := by decide +kernel
theorem dX3_commute_120 : decode cX3_commute 120 = .ok (.iconst 1, 1) := by decide +kernel
theorem dX3_commute_121 : decode cX3_commute 121 = .ok (.goto 4, 3) := by decide +kernel
theorem dX3_commute_124 : decode cX3_commute 124 = .ok (.iconst 0, 1) := by decide +kernel
theorem dX3_commute_125 : decode cX3_commute 125 = .ok (.istore 4, 2) := by decide +kernel
theorem dX3_commute_127 : decode cX3_commute 127 = .ok (.iconst 0, 1) := by decide +kernel
theorem dX3_commute_128 : decode cX3_commute 128 = .ok (.istore 5, 2) := by decide +kernel
theorem dX3_commute_130 : decode cX3_commute 130 = .ok (.iload 5, 2) := by decide +kernel
theorem dX3_commute_132 : decode cX3_commute 132 = .ok (.iconst 4, 1) := by decide +kernel
theorem dX3_commute_133 : decode cX3_commute 133 = .ok (.aload_n 0, 1) := by decide +kernel
theorem dX3_commute_134 : decode cX3_commute 134 = .ok (.getfield 51, 3) := by decide +kernel
theorem dX3_commute_137 : decode cX3_commute 137 = .ok (.imul, 1) := by decide +kernel
theorem dX3_commute_138 : decode cX3_commute 138 = .ok (.if_icmp .ge 39, 3) := by decide +kernel
theorem dX3_commute_141 : decode cX3_commute 141 = .ok (.iload 4, 2) := by decide +kernel
theorem dX3_commute_143 : decode cX3_commute 143 = .ok (.ifCond .eq 34, 3) := by decide +kernel
theorem dX3_commute_146 : decode cX3_commute 146 = .ok (.aload_n 0, 1) := by decide +kernel
theorem dX3_commute_147 : decode cX3_commute 147 = .ok (.getfield 38, 3) := by decide +kernel
theorem dX3_commute_150 : decode cX3_commute 150 = .ok (.iload 5, 2) := by decide +kernel
theorem dX3_commute_152 : decode cX3_commute 152 = .ok (.laload, 1) := by decide +kernel
theorem dX3_commute_153 : decode cX3_commute 153 = .ok (.aload_n 0, 1) := by decide +kernel
theorem dX3_commute_154 : decode cX3_commute 154 = .ok (.getfield 19, 3) := by decide +kernel
theorem dX3_commute_157 : decode cX3_commute 157 = .ok (.iload 5, 2) := by decide +kernel
theorem dX3_commute_159 : decode cX3_commute 159 = .ok (.laload, 1) := by decide +kernel
theorem dX3_commute_160 : decode cX3_commute 160 = .ok (.lcmp, 1) := by decide +kernel
theorem dX3_commute_161 : decode cX3_commute 161 = .ok (.ifCond .ne 7, 3) := by decide +kernel
theorem dX3_commute_164 : decode cX3_commute 164 = .ok (.iconst 1, 1) := by decide +kernel
theorem dX3_commute_165 : decode cX3_commute 165 = .ok (.goto 4, 3) := by decide +kernel
theorem dX3_commute_168 : decode cX3_commute 168 = .ok (.iconst 0, 1) := by decide +kernel
theorem dX3_commute_169 : decode cX3_commute 169 = .ok (.istore 4, 2) := by decide +kernel
theorem dX3_commute_171 : decode cX3_commute 171 = .ok (.iinc 5 1, 3) := by decide +kernel
theorem dX3_commute_174 : decode cX3_commute 174 = .ok (.goto (-44), 3) := by decide +kernel
theorem dX3_commute_177 : decode cX3_commute 177 = .ok (.iload 4, 2) := by decide +kernel
theorem dX3_commute_179 : decode cX3_commute 179 = .ok (.ifCond .eq 7, 3) := by decide +kernel
theorem dX3_commute_182 : decode cX3_commute 182 = .ok (.iconst 1, 1) := by decide +kernel
theorem dX3_commute_183 : decode cX3_commute 183 = .ok (.goto 4, 3) := by decide +kernel
theorem dX3_commute_186 : decode cX3_commute 186 = .ok (.iconst 0, 1) := by decide +kernel
theorem dX3_commute_187 : decode cX3_commute 187 = .ok (.ireturn, 1) := by decide +kernel
set_option maxRecDepth 20000 in
theorem ggX3_order_X3_isMap : GoodIn wsX3_order wsX3_isMap := goodIn_r _ [6, 7, 8, 9, 5, 10, 11, 12, 13, 14, 65, 66, 67, 68, 69, 70, 71, 72, 73, 74, 75, 76, 77, 78, 79, 80, 81, 82, 83, 84] (by decide +kernel) (by decide +kernel)
set_option maxRecDepth 20000 in
theorem gX3_order_X3_isMap : GoodIn wsX3_order (wsV RX3 104 RX3 yX3_isMap wsX3_isMap) := goodIn_app (goodIn_of _ (by decide +kernel)) ggX3_order_X3_isMap
set_option maxRecDepth 20000 in
theorem ggX3_order_X3_nothing : GoodIn wsX3_order wsX3_nothing := goodIn_r _ [18, 1, 19, 20, 21, 5, 22, 23, 65, 66, 67, 68, 69, 70, 71, 72, 73, 74, 75, 76, 77, 78, 79, 80, 81, 82, 83, 84] (by decide +kernel) (by decide +kernel)
set_option maxRecDepth 20000 in
theorem gX3_order_X3_nothing : GoodIn wsX3_order (wsV RX3 123 RX3 yX3_nothing wsX3_nothing) := goodIn_app (goodIn_of _ (by decide +kernel)) ggX3_order_X3_nothing
set_option maxRecDepth 20000 in
theorem ggX3_order_X3_aside : GoodIn wsX3_order wsX3_aside := goodIn_r _ [27, 1, 28, 29, 23, 65, 66, 67, 68, 69, 70, 71, 72, 73, 74, 75, 76, 77, 78, 79, 80, 81, 82, 83, 84] (by decide +kernel) (by decide +kernel)
set_option maxRecDepth 20000 in
theorem gX3_order_X3_aside : GoodIn wsX3_order (wsV RX3 110 RX3 yX3_aside wsX3_aside) := goodIn_app (goodIn_of _ (by decide +kernel)) ggX3_order_X3_aside
set_option maxRecDepth 20000 in
theorem ggX3_order_X3_load : GoodIn wsX3_order wsX3_load := goodIn_r _ [33, 1, 7, 34, 19, 20, 21, 5, 22, 23, 65, 66, 67, 68, 69, 70, 71, 72, 73, 74, 75, 76, 77, 78, 79, 80, 81, 82, 83, 84] (by decide +kernel) (by decide +kernel)
set_option maxRecDepth 20000 in
theorem gX3_order_X3_load : GoodIn wsX3_order (wsV RX3 107 RX3 yX3_load wsX3_load) := goodIn_app (goodIn_of _ (by decide +kernel)) ggX3_order_X3_load
set_option maxRecDepth 20000 in
theorem ggX3_order_X3_follow : GoodIn wsX3_order wsX3_follow := goodIn_r _ [38, 28, 1, 29, 23, 39, 40, 41, 42, 5, 43, 44, 45, 46, 47, 48, 49, 50, 51, 52, 53, 54, 55, 56, 57, 58, 59, 60, 65, 66, 67, 68, 69, 70, 71, 72, 73, 74, 75, 76, 77, 78, 79, 80, 81, 82, 83, 84] (by decide +kernel) (by decide +kernel)
set_option maxRecDepth 20000 in
theorem gX3_order_X3_follow : GoodIn wsX3_order (wsV RX3 113 RX3 yX3_follow wsX3_follow) := goodIn_app (goodIn_of _ (by decide +kernel)) ggX3_order_X3_follow
set_option maxRecDepth 20000 in
theorem ggX3_order_X3_isNothing : GoodIn wsX3_order wsX3_isNothing := goodIn_r _ [64, 1, 65, 66, 67, 68, 69, 70, 71, 72, 73, 74, 75, 76, 77, 78, 79, 80, 81, 82, 83, 84] (by decide +kernel) (by decide +kernel)
set_option maxRecDepth 20000 in
theorem gX3_order_X3_isNothing : GoodIn wsX3_order (wsV RX3 132 RX3 yX3_isNothing wsX3_isNothing) := goodIn_app (goodIn_of _ (by decide +kernel)) ggX3_order_X3_isNothing
theorem dX3_order_0 : decode cX3_order 0 = .ok (.aload_n 0, 1) := by decide +kernel
theorem dX3_order_1 : decode cX3_order 1 = .ok (.iload_n 1, 1) := by decide +kernel
theorem dX3_order_2 : decode cX3_order 2 = .ok (.invokevirtual 104, 3) := by decide +kernel
theorem dX3_order_5 : decode cX3_order 5 = .ok (.ifCond .ne 6, 3) := by decide +kernel
theorem dX3_order_8 : decode cX3_order 8 = .ok (.bipush (-101), 2) := by decide +kernel
theorem dX3_order_10 : decode cX3_order 10 = .ok (.ireturn, 1) := by decide +kernel
theorem dX3_order_11 : decode cX3_order 11 = .ok (.aload_n 0, 1) := by decide +kernel
theorem dX3_order_12 : decode cX3_order 12 = .ok (.invokevirtual 123, 3) := by decide +kernel
theorem dX3_order_15 : decode cX3_order 15 = .ok (.iconst 1, 1) := by decide +kernel
theorem dX3_order_16 : decode cX3_order 16 = .ok (.istore_n 2, 1) := by decide +kernel
theorem dX3_order_17 : decode cX3_order 17 = .ok (.iload_n 2, 1) := by decide +kernel
theorem dX3_order_18 : decode cX3_order 18 = .ok (.bipush 40, 2) := by decide +kernel
theorem dX3_order_20 : decode cX3_order 20 = .ok (.if_icmp .gt 42, 3) := by decide +kernel
theorem dX3_order_23 : decode cX3_order 23 = .ok (.aload_n 0, 1) := by decide +kernel
theorem dX3_order_24 : decode cX3_order 24 = .ok (.invokevirtual 110, 3) := by decide +kernel
theorem dX3_order_27 : decode cX3_order 27 = .ok (.aload_n 0, 1) := by decide +kernel
theorem dX3_order_28 : decode cX3_order 28 = .ok (.iload_n 1, 1) := by decide +kernel
theorem dX3_order_29 : decode cX3_order 29 = .ok (.invokevirtual 107, 3) := by decide +kernel
theorem dX3_order_32 : decode cX3_order 32 = .ok (.aload_n 0, 1) := by decide +kernel
theorem dX3_order_33 : decode cX3_order 33 = .ok (.invokevirtual 113, 3) := by decide +kernel
theorem dX3_order_36 : decode cX3_order 36 = .ok (.aload_n 0, 1) := by decide +kernel
theorem dX3_order_37 : decode cX3_order 37 = .ok (.getfield 51, 3) := by decide +kernel
theorem dX3_order_40 : decode cX3_order 40 = .ok (.bipush 24, 2) := by decide +kernel
theorem dX3_order_42 : decode cX3_order 42 = .ok (.if_icmp .le 5, 3) := by decide +kernel
theorem dX3_order_45 : decode cX3_order 45 = .ok (.iconst 0, 1) := by decide +kernel
theorem dX3_order_46 : decode cX3_order 46 = .ok (.ireturn, 1) := by decide +kernel
theorem dX3_order_47 : decode cX3_order 47 = .ok (.aload_n 0, 1) := by decide +kernel
theorem dX3_order_48 : decode cX3_order 48 = .ok (.invokevirtual 132, 3) := by decide +kernel
theorem dX3_order_51 : decode cX3_order 51 = .ok (.ifCond .eq 5, 3) := by decide +kernel
theorem dX3_order_54 : decode cX3_order 54 = .ok (.iload_n 2, 1) := by decide +kernel
theorem dX3_order_55 : decode cX3_order 55 = .ok (.ireturn, 1) := by decide +kernel
theorem dX3_order_56 : decode cX3_order 56 = .ok (.iinc 2 1, 3) := by decide +kernel
theorem dX3_order_59 : decode cX3_order 59 = .ok (.goto (-42), 3) := by decide +kernel
theorem dX3_order_62 : decode cX3_order 62 = .ok (.iconst 0, 1) := by decide +kernel
theorem dX3_order_63 : decode cX3_order 63 = .ok (.ireturn, 1) := by decide +kernel
theorem dX3_wordOf_0 : decode cX3_wordOf 0 = .ok (.iconst 0, 1) := by decide +kernel
theorem dX3_wordOf_1 : decode cX3_wordOf 1 = .ok (.istore_n 1, 1) := by decide +kernel
theorem dX3_wordOf_2 : decode cX3_wordOf 2 = .ok (.iload_n 1, 1) := by decide +kernel
theorem dX3_wordOf_3 : decode cX3_wordOf 3 = .ok (.aload_n 0, 1) := by decide +kernel
theorem dX3_wordOf_4 : decode cX3_wordOf 4 = .ok (.getfield 136, 3) := by decide +kernel
theorem dX3_wordOf_7 : decode cX3_wordOf 7 = .ok (.if_icmp .ge 84, 3) := by decide +kernel
theorem dX3_wordOf_10 : decode cX3_wordOf 10 = .ok (.aload_n 0, 1) := by decide +kernel
theorem dX3_wordOf_11 : decode cX3_wordOf 11 = .ok (.getfield 26, 3) := by decide +kernel
theorem dX3_wordOf_14 : decode cX3_wordOf 14 = .ok (.iload_n 1, 1) := by decide +kernel
theorem dX3_wordOf_15 : decode cX3_wordOf 15 = .ok (.iaload, 1) := by decide +kernel
theorem dX3_wordOf_16 : decode cX3_wordOf 16 = .ok (.aload_n 0, 1) := by decide +kernel
theorem dX3_wordOf_17 : decode cX3_wordOf 17 = .ok (.getfield 51, 3) := by decide +kernel
theorem dX3_wordOf_20 : decode cX3_wordOf 20 = .ok (.if_icmp .ne 7, 3) := by decide +kernel
theorem dX3_wordOf_23 : decode cX3_wordOf 23 = .ok (.iconst 1, 1) := by decide +kernel
theorem dX3_wordOf_24 : decode cX3_wordOf 24 = .ok (.goto 4, 3) := by decide +kernel
theorem dX3_wordOf_27 : decode cX3_wordOf 27 = .ok (.iconst 0, 1) := by decide +kernel
theorem dX3_wordOf_28 : decode cX3_wordOf 28 = .ok (.istore_n 2, 1) := by decide +kernel
theorem dX3_wordOf_29 : decode cX3_wordOf 29 = .ok (.iconst 0, 1) := by decide +kernel
theorem dX3_wordOf_30 : decode cX3_wordOf 30 = .ok (.istore_n 3, 1) := by decide +kernel
theorem dX3_wordOf_31 : decode cX3_wordOf 31 = .ok (.iload_n 3, 1) := by decide +kernel
theorem dX3_wordOf_32 : decode cX3_wordOf 32 = .ok (.iconst 4, 1) := by decide +kernel
theorem dX3_wordOf_33 : decode cX3_wordOf 33 = .ok (.aload_n 0, 1) := by decide +kernel
theorem dX3_wordOf_34 : decode cX3_wordOf 34 = .ok (.getfield 51, 3) := by decide +kernel
theorem dX3_wordOf_37 : decode cX3_wordOf 37 = .ok (.imul, 1) := by decide +kernel
theorem dX3_wordOf_38 : decode cX3_wordOf 38 = .ok (.if_icmp .ge 41, 3) := by decide +kernel
theorem dX3_wordOf_41 : decode cX3_wordOf 41 = .ok (.iload_n 2, 1) := by decide +kernel
theorem dX3_wordOf_42 : decode cX3_wordOf 42 = .ok (.ifCond .eq 37, 3) := by decide +kernel
theorem dX3_wordOf_45 : decode cX3_wordOf 45 = .ok (.aload_n 0, 1) := by decide +kernel
theorem dX3_wordOf_46 : decode cX3_wordOf 46 = .ok (.getfield 29, 3) := by decide +kernel
theorem dX3_wordOf_49 : decode cX3_wordOf 49 = .ok (.bipush 96, 2) := by decide +kernel
theorem dX3_wordOf_51 : decode cX3_wordOf 51 = .ok (.iload_n 1, 1) := by decide +kernel
theorem dX3_wordOf_52 : decode cX3_wordOf 52 = .ok (.imul, 1) := by decide +kernel
theorem dX3_wordOf_53 : decode cX3_wordOf 53 = .ok (.iload_n 3, 1) := by decide +kernel
theorem dX3_wordOf_54 : decode cX3_wordOf 54 = .ok (.iadd, 1) := by decide +kernel
theorem dX3_wordOf_55 : decode cX3_wordOf 55 = .ok (.iaload, 1) := by decide +kernel
theorem dX3_wordOf_56 : decode cX3_wordOf 56 = .ok (.i2l, 1) := by decide +kernel
theorem dX3_wordOf_57 : decode cX3_wordOf 57 = .ok (.aload_n 0, 1) := by decide +kernel
theorem dX3_wordOf_58 : decode cX3_wordOf 58 = .ok (.getfield 19, 3) := by decide +kernel
theorem dX3_wordOf_61 : decode cX3_wordOf 61 = .ok (.iload_n 3, 1) := by decide +kernel
theorem dX3_wordOf_62 : decode cX3_wordOf 62 = .ok (.laload, 1) := by decide +kernel
theorem dX3_wordOf_63 : decode cX3_wordOf 63 = .ok (.lcmp, 1) := by decide +kernel
theorem dX3_wordOf_64 : decode cX3_wordOf 64 = .ok (.ifCond .ne 7, 3) := by decide +kernel
theorem dX3_wordOf_67 : decode cX3_wordOf 67 = .ok (.iconst 1, 1) := by decide +kernel
theorem dX3_wordOf_68 : decode cX3_wordOf 68 = .ok (.goto 4, 3) := by decide +kernel
theorem dX3_wordOf_71 : decode cX3_wordOf 71 = .ok (.iconst 0, 1) := by decide +kernel
theorem dX3_wordOf_72 : decode cX3_wordOf 72 = .ok (.istore_n 2, 1) := by decide +kernel
theorem dX3_wordOf_73 : decode cX3_wordOf 73 = .ok (.iinc 3 1, 3) := by decide +kernel
theorem dX3_wordOf_76 : decode cX3_wordOf 76 = .ok (.goto (-45), 3) := by decide +kernel
theorem dX3_wordOf_79 : decode cX3_wordOf 79 = .ok (.iload_n 2, 1) := by decide +kernel
theorem dX3_wordOf_80 : decode cX3_wordOf 80 = .ok (.ifCond .eq 5, 3) := by decide +kernel
theorem dX3_wordOf_83 : decode cX3_wordOf 83 = .ok (.iload_n 1, 1) := by decide +kernel
theorem dX3_wordOf_84 : decode cX3_wordOf 84 = .ok (.ireturn, 1) := by decide +kernel
theorem dX3_wordOf_85 : decode cX3_wordOf 85 = .ok (.iinc 1 1, 3) := by decide +kernel
theorem dX3_wordOf_88 : decode cX3_wordOf 88 = .ok (.goto (-86), 3) := by decide +kernel
theorem dX3_wordOf_91 : decode cX3_wordOf 91 = .ok (.iconst (-1), 1) := by decide +kernel
theorem dX3_wordOf_92 : decode cX3_wordOf 92 = .ok (.ireturn, 1) := by decide +kernel
set_option maxRecDepth 20000 in
theorem ggX3_note_X3_wordOf : GoodIn wsX3_note wsX3_wordOf := goodIn_r _ [10, 2, 1, 3, 4, 5, 11, 12, 13, 14, 15, 16, 17, 18, 19, 20, 21, 22, 23, 24, 25, 26, 27, 28, 29, 30] (by decide +kernel) (by decide +kernel)
set_option maxRecDepth 20000 in
theorem gX3_note_X3_wordOf : GoodIn wsX3_note (wsV RX3 139 RX3 yX3_wordOf wsX3_wordOf) := goodIn_app (goodIn_of _ (by decide +kernel)) ggX3_note_X3_wordOf
theorem dX3_note_0 : decode cX3_note 0 = .ok (.aload_n 0, 1) := by decide +kernel
theorem dX3_note_1 : decode cX3_note 1 = .ok (.invokevirtual 139, 3) := by decide +kernel
theorem dX3_note_4 : decode cX3_note 4 = .ok (.iconst (-1), 1) := by decide +kernel
theorem dX3_note_5 : decode cX3_note 5 = .ok (.if_icmp .ne 65, 3) := by decide +kernel
theorem dX3_note_8 : decode cX3_note 8 = .ok (.aload_n 0, 1) := by decide +kernel
theorem dX3_note_9 : decode cX3_note 9 = .ok (.getfield 26, 3) := by decide +kernel
theorem dX3_note_12 : decode cX3_note 12 = .ok (.aload_n 0, 1) := by decide +kernel
theorem dX3_note_13 : decode cX3_note 13 = .ok (.getfield 136, 3) := by decide +kernel
theorem dX3_note_16 : decode cX3_note 16 = .ok (.aload_n 0, 1) := by decide +kernel
theorem dX3_note_17 : decode cX3_note 17 = .ok (.getfield 51, 3) := by decide +kernel
theorem dX3_note_20 : decode cX3_note 20 = .ok (.iastore, 1) := by decide +kernel
theorem dX3_note_21 : decode cX3_note 21 = .ok (.iconst 0, 1) := by decide +kernel
theorem dX3_note_22 : decode cX3_note 22 = .ok (.istore_n 1, 1) := by decide +kernel
theorem dX3_note_23 : decode cX3_note 23 = .ok (.iload_n 1, 1) := by decide +kernel
theorem dX3_note_24 : decode cX3_note 24 = .ok (.iconst 4, 1) := by decide +kernel
theorem dX3_note_25 : decode cX3_note 25 = .ok (.aload_n 0, 1) := by decide +kernel
theorem dX3_note_26 : decode cX3_note 26 = .ok (.getfield 51, 3) := by decide +kernel
theorem dX3_note_29 : decode cX3_note 29 = .ok (.imul, 1) := by decide +kernel
theorem dX3_note_30 : decode cX3_note 30 = .ok (.if_icmp .ge 30, 3) := by decide +kernel
theorem dX3_note_33 : decode cX3_note 33 = .ok (.aload_n 0, 1) := by decide +kernel
theorem dX3_note_34 : decode cX3_note 34 = .ok (.getfield 29, 3) := by decide +kernel
theorem dX3_note_37 : decode cX3_note 37 = .ok (.bipush 96, 2) := by decide +kernel
theorem dX3_note_39 : decode cX3_note 39 = .ok (.aload_n 0, 1) := by decide +kernel
theorem dX3_note_40 : decode cX3_note 40 = .ok (.getfield 136, 3) := by decide +kernel
theorem dX3_note_43 : decode cX3_note 43 = .ok (.imul, 1) := by decide +kernel
theorem dX3_note_44 : decode cX3_note 44 = .ok (.iload_n 1, 1) := by decide +kernel
theorem dX3_note_45 : decode cX3_note 45 = .ok (.iadd, 1) := by decide +kernel
theorem dX3_note_46 : decode cX3_note 46 = .ok (.aload_n 0, 1) := by decide +kernel
theorem dX3_note_47 : decode cX3_note 47 = .ok (.getfield 19, 3) := by decide +kernel
theorem dX3_note_50 : decode cX3_note 50 = .ok (.iload_n 1, 1) := by decide +kernel
theorem dX3_note_51 : decode cX3_note 51 = .ok (.laload, 1) := by decide +kernel
theorem dX3_note_52 : decode cX3_note 52 = .ok (.l2i, 1) := by decide +kernel
theorem dX3_note_53 : decode cX3_note 53 = .ok (.iastore, 1) := by decide +kernel
theorem dX3_note_54 : decode cX3_note 54 = .ok (.iinc 1 1, 3) := by decide +kernel
theorem dX3_note_57 : decode cX3_note 57 = .ok (.goto (-34), 3) := by decide +kernel
theorem dX3_note_60 : decode cX3_note 60 = .ok (.aload_n 0, 1) := by decide +kernel
theorem dX3_note_61 : decode cX3_note 61 = .ok (.dup, 1) := by decide +kernel
theorem dX3_note_62 : decode cX3_note 62 = .ok (.getfield 136, 3) := by decide +kernel
theorem dX3_note_65 : decode cX3_note 65 = .ok (.iconst 1, 1) := by decide +kernel
theorem dX3_note_66 : decode cX3_note 66 = .ok (.iadd, 1) := by decide +kernel
theorem dX3_note_67 : decode cX3_note 67 = .ok (.putfield 136, 3) := by decide +kernel
theorem dX3_note_70 : decode cX3_note 70 = .ok (.return_, 1) := by decide +kernel
set_option maxRecDepth 20000 in
theorem ggX3_loadWord_X3_put : GoodIn wsX3_loadWord wsX3_put := goodIn_r _ [8, 9, 1, 10, 11, 12, 13, 14, 15, 16, 17, 18, 19, 20, 21, 22, 23, 24, 25, 26, 27, 28, 29] (by decide +kernel) (by decide +kernel)
set_option maxRecDepth 20000 in
theorem gX3_loadWord_X3_put : GoodIn wsX3_loadWord (wsV RX3 55 RX3 yX3_put wsX3_put) := goodIn_app (goodIn_of _ (by decide +kernel)) ggX3_loadWord_X3_put
theorem dX3_loadWord_0 : decode cX3_loadWord 0 = .ok (.aload_n 0, 1) := by decide +kernel
theorem dX3_loadWord_1 : decode cX3_loadWord 1 = .ok (.iconst 0, 1) := by decide +kernel
theorem dX3_loadWord_2 : decode cX3_loadWord 2 = .ok (.putfield 51, 3) := by decide +kernel
theorem dX3_loadWord_5 : decode cX3_loadWord 5 = .ok (.iconst 0, 1) := by decide +kernel
theorem dX3_loadWord_6 : decode cX3_loadWord 6 = .ok (.istore_n 2, 1) := by decide +kernel
theorem dX3_loadWord_7 : decode cX3_loadWord 7 = .ok (.iload_n 2, 1) := by decide +kernel
theorem dX3_loadWord_8 : decode cX3_loadWord 8 = .ok (.aload_n 0, 1) := by decide +kernel
theorem dX3_loadWord_9 : decode cX3_loadWord 9 = .ok (.getfield 26, 3) := by decide +kernel
theorem dX3_loadWord_12 : decode cX3_loadWord 12 = .ok (.iload_n 1, 1) := by decide +kernel
theorem dX3_loadWord_13 : decode cX3_loadWord 13 = .ok (.iaload, 1) := by decide +kernel
theorem dX3_loadWord_14 : decode cX3_loadWord 14 = .ok (.if_icmp .ge 56, 3) := by decide +kernel
theorem dX3_loadWord_17 : decode cX3_loadWord 17 = .ok (.bipush 96, 2) := by decide +kernel
theorem dX3_loadWord_19 : decode cX3_loadWord 19 = .ok (.iload_n 1, 1) := by decide +kernel
theorem dX3_loadWord_20 : decode cX3_loadWord 20 = .ok (.imul, 1) := by decide +kernel
theorem dX3_loadWord_21 : decode cX3_loadWord 21 = .ok (.iconst 4, 1) := by decide +kernel
theorem dX3_loadWord_22 : decode cX3_loadWord 22 = .ok (.iload_n 2, 1) := by decide +kernel
theorem dX3_loadWord_23 : decode cX3_loadWord 23 = .ok (.imul, 1) := by decide +kernel
theorem dX3_loadWord_24 : decode cX3_loadWord 24 = .ok (.iadd, 1) := by decide +kernel
theorem dX3_loadWord_25 : decode cX3_loadWord 25 = .ok (.istore_n 3, 1) := by decide +kernel
theorem dX3_loadWord_26 : decode cX3_loadWord 26 = .ok (.aload_n 0, 1) := by decide +kernel
theorem dX3_loadWord_27 : decode cX3_loadWord 27 = .ok (.aload_n 0, 1) := by decide +kernel
theorem dX3_loadWord_28 : decode cX3_loadWord 28 = .ok (.getfield 29, 3) := by decide +kernel
theorem dX3_loadWord_31 : decode cX3_loadWord 31 = .ok (.iload_n 3, 1) := by decide +kernel
theorem dX3_loadWord_32 : decode cX3_loadWord 32 = .ok (.iaload, 1) := by decide +kernel
theorem dX3_loadWord_33 : decode cX3_loadWord 33 = .ok (.i2l, 1) := by decide +kernel
theorem dX3_loadWord_34 : decode cX3_loadWord 34 = .ok (.aload_n 0, 1) := by decide +kernel
theorem dX3_loadWord_35 : decode cX3_loadWord 35 = .ok (.getfield 29, 3) := by decide +kernel
theorem dX3_loadWord_38 : decode cX3_loadWord 38 = .ok (.iload_n 3, 1) := by decide +kernel
theorem dX3_loadWord_39 : decode cX3_loadWord 39 = .ok (.iconst 1, 1) := by decide +kernel
theorem dX3_loadWord_40 : decode cX3_loadWord 40 = .ok (.iadd, 1) := by decide +kernel
theorem dX3_loadWord_41 : decode cX3_loadWord 41 = .ok (.iaload, 1) := by decide +kernel
theorem dX3_loadWord_42 : decode cX3_loadWord 42 = .ok (.i2l, 1) := by decide +kernel
theorem dX3_loadWord_43 : decode cX3_loadWord 43 = .ok (.aload_n 0, 1) := by decide +kernel
theorem dX3_loadWord_44 : decode cX3_loadWord 44 = .ok (.getfield 29, 3) := by decide +kernel
theorem dX3_loadWord_47 : decode cX3_loadWord 47 = .ok (.iload_n 3, 1) := by decide +kernel
theorem dX3_loadWord_48 : decode cX3_loadWord 48 = .ok (.iconst 2, 1) := by decide +kernel
theorem dX3_loadWord_49 : decode cX3_loadWord 49 = .ok (.iadd, 1) := by decide +kernel
theorem dX3_loadWord_50 : decode cX3_loadWord 50 = .ok (.iaload, 1) := by decide +kernel
theorem dX3_loadWord_51 : decode cX3_loadWord 51 = .ok (.i2l, 1) := by decide +kernel
theorem dX3_loadWord_52 : decode cX3_loadWord 52 = .ok (.aload_n 0, 1) := by decide +kernel
theorem dX3_loadWord_53 : decode cX3_loadWord 53 = .ok (.getfield 29, 3) := by decide +kernel
theorem dX3_loadWord_56 : decode cX3_loadWord 56 = .ok (.iload_n 3, 1) := by decide +kernel
theorem dX3_loadWord_57 : decode cX3_loadWord 57 = .ok (.iconst 3, 1) := by decide +kernel
theorem dX3_loadWord_58 : decode cX3_loadWord 58 = .ok (.iadd, 1) := by decide +kernel
theorem dX3_loadWord_59 : decode cX3_loadWord 59 = .ok (.iaload, 1) := by decide +kernel
theorem dX3_loadWord_60 : decode cX3_loadWord 60 = .ok (.i2l, 1) := by decide +kernel
theorem dX3_loadWord_61 : decode cX3_loadWord 61 = .ok (.invokevirtual 55, 3) := by decide +kernel
theorem dX3_loadWord_64 : decode cX3_loadWord 64 = .ok (.iinc 2 1, 3) := by decide +kernel
theorem dX3_loadWord_67 : decode cX3_loadWord 67 = .ok (.goto (-60), 3) := by decide +kernel
theorem dX3_loadWord_70 : decode cX3_loadWord 70 = .ok (.return_, 1) := by decide +kernel
set_option maxRecDepth 20000 in
theorem ggX3_makeBall_X3_nothing : GoodIn wsX3_makeBall wsX3_nothing := goodIn_r _ [8, 9, 10, 11, 12, 7, 13, 14, 69, 70, 71, 72, 73, 74, 75, 76, 77, 78, 79, 80, 81, 82, 83, 84, 85, 86, 87, 88] (by decide +kernel) (by decide +kernel)
set_option maxRecDepth 20000 in
theorem gX3_makeBall_X3_nothing : GoodIn wsX3_makeBall (wsV RX3 123 RX3 yX3_nothing wsX3_nothing) := goodIn_app (goodIn_of _ (by decide +kernel)) ggX3_makeBall_X3_nothing
set_option maxRecDepth 20000 in
theorem ggX3_makeBall_X3_note : GoodIn wsX3_makeBall wsX3_note := goodIn_r _ [18, 19, 3, 9, 20, 14, 21, 22, 23, 7, 24, 69, 70, 71, 72, 73, 74, 75, 76, 77, 78, 79, 80, 81, 82, 83, 84, 85, 86, 87, 88] (by decide +kernel) (by decide +kernel)
set_option maxRecDepth 20000 in
theorem gX3_makeBall_X3_note : GoodIn wsX3_makeBall (wsV RX3 147 RX3 yX3_note wsX3_note) := goodIn_app (goodIn_of _ (by decide +kernel)) ggX3_makeBall_X3_note
set_option maxRecDepth 20000 in
theorem ggX3_makeBall_X3_loadWord : GoodIn wsX3_makeBall wsX3_loadWord := goodIn_r _ [28, 9, 19, 20, 10, 11, 12, 7, 13, 14, 69, 70, 71, 72, 73, 74, 75, 76, 77, 78, 79, 80, 81, 82, 83, 84, 85, 86, 87, 88] (by decide +kernel) (by decide +kernel)
set_option maxRecDepth 20000 in
theorem gX3_makeBall_X3_loadWord : GoodIn wsX3_makeBall (wsV RX3 150 RX3 yX3_loadWord wsX3_loadWord) := goodIn_app (goodIn_of _ (by decide +kernel)) ggX3_makeBall_X3_loadWord
set_option maxRecDepth 20000 in
theorem ggX3_makeBall_X3_aside : GoodIn wsX3_makeBall wsX3_aside := goodIn_r _ [32, 9, 33, 34, 14, 69, 70, 71, 72, 73, 74, 75, 76, 77, 78, 79, 80, 81, 82, 83, 84, 85, 86, 87, 88] (by decide +kernel) (by decide +kernel)
set_option maxRecDepth 20000 in
theorem gX3_makeBall_X3_aside : GoodIn wsX3_makeBall (wsV RX3 110 RX3 yX3_aside wsX3_aside) := goodIn_app (goodIn_of _ (by decide +kernel)) ggX3_makeBall_X3_aside
set_option maxRecDepth 20000 in
theorem ggX3_makeBall_X3_makeStrong : GoodIn wsX3_makeBall wsX3_makeStrong := goodIn_r _ [38, 9, 10, 11, 12, 7, 13, 14, 39, 40, 41, 42, 43, 44, 45, 46, 47, 48, 49, 50, 69, 70, 71, 72, 73, 74, 75, 76, 77, 78, 79, 80, 81, 82, 83, 84, 85, 86, 87, 88] (by decide +kernel) (by decide +kernel)
set_option maxRecDepth 20000 in
theorem gX3_makeBall_X3_makeStrong : GoodIn wsX3_makeBall (wsV RX3 101 RX3 yX3_makeStrong wsX3_makeStrong) := goodIn_app (goodIn_of _ (by decide +kernel)) ggX3_makeBall_X3_makeStrong
set_option maxRecDepth 20000 in
theorem ggX3_makeBall_X3_turnWork : GoodIn wsX3_makeBall wsX3_turnWork := goodIn_r _ [54, 9, 14, 39, 40, 41, 7, 42, 43, 44, 45, 46, 47, 48, 49, 50, 69, 70, 71, 72, 73, 74, 75, 76, 77, 78, 79, 80, 81, 82, 83, 84, 85, 86, 87, 88] (by decide +kernel) (by decide +kernel)
set_option maxRecDepth 20000 in
theorem gX3_makeBall_X3_turnWork : GoodIn wsX3_makeBall (wsV RX3 116 RX3 yX3_turnWork wsX3_turnWork) := goodIn_app (goodIn_of _ (by decide +kernel)) ggX3_makeBall_X3_turnWork
set_option maxRecDepth 20000 in
theorem ggX3_makeBall_X3_follow : GoodIn wsX3_makeBall wsX3_follow := goodIn_r _ [58, 33, 9, 34, 14, 59, 60, 61, 62, 7, 63, 64, 65, 66, 67, 68, 39, 40, 41, 42, 43, 44, 45, 46, 47, 48, 49, 50, 69, 70, 71, 72, 73, 74, 75, 76, 77, 78, 79, 80, 81, 82, 83, 84, 85, 86, 87, 88] (by decide +kernel) (by decide +kernel)
set_option maxRecDepth 20000 in
theorem gX3_makeBall_X3_follow : GoodIn wsX3_makeBall (wsV RX3 113 RX3 yX3_follow wsX3_follow) := goodIn_app (goodIn_of _ (by decide +kernel)) ggX3_makeBall_X3_follow
theorem dX3_makeBall_0 : decode cX3_makeBall 0 = .ok (.aload_n 0, 1) := by decide +kernel
theorem dX3_makeBall_1 : decode cX3_makeBall 1 = .ok (.getfield 143, 3) := by decide +kernel
theorem dX3_makeBall_4 : decode cX3_makeBall 4 = .ok (.ifCond .eq 4, 3) := by decide +kernel
theorem dX3_makeBall_7 : decode cX3_makeBall 7 = .ok (.return_, 1) := by decide +kernel
theorem dX3_makeBall_8 : decode cX3_makeBall 8 = .ok (.aload_n 0, 1) := by decide +kernel
theorem dX3_makeBall_9 : decode cX3_makeBall 9 = .ok (.iconst 1, 1) := by decide +kernel
theorem dX3_makeBall_10 : decode cX3_makeBall 10 = .ok (.putfield 143, 3) := by decide +kernel
theorem dX3_makeBall_13 : decode cX3_makeBall 13 = .ok (.aload_n 0, 1) := by decide +kernel
theorem dX3_makeBall_14 : decode cX3_makeBall 14 = .ok (.invokevirtual 123, 3) := by decide +kernel
theorem dX3_makeBall_17 : decode cX3_makeBall 17 = .ok (.aload_n 0, 1) := by decide +kernel
theorem dX3_makeBall_18 : decode cX3_makeBall 18 = .ok (.invokevirtual 147, 3) := by decide +kernel
theorem dX3_makeBall_21 : decode cX3_makeBall 21 = .ok (.aload_n 0, 1) := by decide +kernel
theorem dX3_makeBall_22 : decode cX3_makeBall 22 = .ok (.getfield 32, 3) := by decide +kernel
theorem dX3_makeBall_25 : decode cX3_makeBall 25 = .ok (.iconst 0, 1) := by decide +kernel
theorem dX3_makeBall_26 : decode cX3_makeBall 26 = .ok (.iconst 0, 1) := by decide +kernel
theorem dX3_makeBall_27 : decode cX3_makeBall 27 = .ok (.iastore, 1) := by decide +kernel
theorem dX3_makeBall_28 : decode cX3_makeBall 28 = .ok (.aload_n 0, 1) := by decide +kernel
theorem dX3_makeBall_29 : decode cX3_makeBall 29 = .ok (.getfield 32, 3) := by decide +kernel
theorem dX3_makeBall_32 : decode cX3_makeBall 32 = .ok (.iconst 1, 1) := by decide +kernel
theorem dX3_makeBall_33 : decode cX3_makeBall 33 = .ok (.iconst 1, 1) := by decide +kernel
theorem dX3_makeBall_34 : decode cX3_makeBall 34 = .ok (.iastore, 1) := by decide +kernel
theorem dX3_makeBall_35 : decode cX3_makeBall 35 = .ok (.iconst 1, 1) := by decide +kernel
theorem dX3_makeBall_36 : decode cX3_makeBall 36 = .ok (.istore_n 1, 1) := by decide +kernel
theorem dX3_makeBall_37 : decode cX3_makeBall 37 = .ok (.iload_n 1, 1) := by decide +kernel
theorem dX3_makeBall_38 : decode cX3_makeBall 38 = .ok (.iconst 4, 1) := by decide +kernel
theorem dX3_makeBall_39 : decode cX3_makeBall 39 = .ok (.if_icmp .gt 94, 3) := by decide +kernel
theorem dX3_makeBall_42 : decode cX3_makeBall 42 = .ok (.aload_n 0, 1) := by decide +kernel
theorem dX3_makeBall_43 : decode cX3_makeBall 43 = .ok (.getfield 32, 3) := by decide +kernel
theorem dX3_makeBall_46 : decode cX3_makeBall 46 = .ok (.iload_n 1, 1) := by decide +kernel
theorem dX3_makeBall_47 : decode cX3_makeBall 47 = .ok (.iconst 1, 1) := by decide +kernel
theorem dX3_makeBall_48 : decode cX3_makeBall 48 = .ok (.isub, 1) := by decide +kernel
theorem dX3_makeBall_49 : decode cX3_makeBall 49 = .ok (.iaload, 1) := by decide +kernel
theorem dX3_makeBall_50 : decode cX3_makeBall 50 = .ok (.istore_n 2, 1) := by decide +kernel
theorem dX3_makeBall_51 : decode cX3_makeBall 51 = .ok (.iload_n 2, 1) := by decide +kernel
theorem dX3_makeBall_52 : decode cX3_makeBall 52 = .ok (.aload_n 0, 1) := by decide +kernel
theorem dX3_makeBall_53 : decode cX3_makeBall 53 = .ok (.getfield 32, 3) := by decide +kernel
theorem dX3_makeBall_56 : decode cX3_makeBall 56 = .ok (.iload_n 1, 1) := by decide +kernel
theorem dX3_makeBall_57 : decode cX3_makeBall 57 = .ok (.iaload, 1) := by decide +kernel
theorem dX3_makeBall_58 : decode cX3_makeBall 58 = .ok (.if_icmp .ge 57, 3) := by decide +kernel
theorem dX3_makeBall_61 : decode cX3_makeBall 61 = .ok (.iconst 0, 1) := by decide +kernel
theorem dX3_makeBall_62 : decode cX3_makeBall 62 = .ok (.istore_n 3, 1) := by decide +kernel
theorem dX3_makeBall_63 : decode cX3_makeBall 63 = .ok (.iload_n 3, 1) := by decide +kernel
theorem dX3_makeBall_64 : decode cX3_makeBall 64 = .ok (.iconst 4, 1) := by decide +kernel
theorem dX3_makeBall_65 : decode cX3_makeBall 65 = .ok (.if_icmp .ge 44, 3) := by decide +kernel
theorem dX3_makeBall_68 : decode cX3_makeBall 68 = .ok (.aload_n 0, 1) := by decide +kernel
theorem dX3_makeBall_69 : decode cX3_makeBall 69 = .ok (.iload_n 2, 1) := by decide +kernel
theorem dX3_makeBall_70 : decode cX3_makeBall 70 = .ok (.invokevirtual 150, 3) := by decide +kernel
theorem dX3_makeBall_73 : decode cX3_makeBall 73 = .ok (.aload_n 0, 1) := by decide +kernel
theorem dX3_makeBall_74 : decode cX3_makeBall 74 = .ok (.invokevirtual 110, 3) := by decide +kernel
theorem dX3_makeBall_77 : decode cX3_makeBall 77 = .ok (.aload_n 0, 1) := by decide +kernel
theorem dX3_makeBall_78 : decode cX3_makeBall 78 = .ok (.iload_n 3, 1) := by decide +kernel
theorem dX3_makeBall_79 : decode cX3_makeBall 79 = .ok (.iconst 2, 1) := by decide +kernel
theorem dX3_makeBall_80 : decode cX3_makeBall 80 = .ok (.idiv, 1) := by decide +kernel
theorem dX3_makeBall_81 : decode cX3_makeBall 81 = .ok (.invokevirtual 101, 3) := by decide +kernel
theorem dX3_makeBall_84 : decode cX3_makeBall 84 = .ok (.iload_n 3, 1) := by decide +kernel
theorem dX3_makeBall_85 : decode cX3_makeBall 85 = .ok (.iconst 2, 1) := by decide +kernel
theorem dX3_makeBall_86 : decode cX3_makeBall 86 = .ok (.irem, 1) := by decide +kernel
theorem dX3_makeBall_87 : decode cX3_makeBall 87 = .ok (.iconst 1, 1) := by decide +kernel
theorem dX3_makeBall_88 : decode cX3_makeBall 88 = .ok (.if_icmp .ne 7, 3) := by decide +kernel
theorem dX3_makeBall_91 : decode cX3_makeBall 91 = .ok (.aload_n 0, 1) := by decide +kernel
theorem dX3_makeBall_92 : decode cX3_makeBall 92 = .ok (.invokevirtual 116, 3) := by decide +kernel
theorem dX3_makeBall_95 : decode cX3_makeBall 95 = .ok (.aload_n 0, 1) := by decide +kernel
theorem dX3_makeBall_96 : decode cX3_makeBall 96 = .ok (.invokevirtual 113, 3) := by decide +kernel
theorem dX3_makeBall_99 : decode cX3_makeBall 99 = .ok (.aload_n 0, 1) := by decide +kernel
theorem dX3_makeBall_100 : decode cX3_makeBall 100 = .ok (.invokevirtual 147, 3) := by decide +kernel
theorem dX3_makeBall_103 : decode cX3_makeBall 103 = .ok (.iinc 3 1, 3) := by decide +kernel
theorem dX3_makeBall_106 : decode cX3_makeBall 106 = .ok (.goto (-43), 3) := by decide +kernel
theorem dX3_makeBall_109 : decode cX3_makeBall 109 = .ok (.iinc 2 1, 3) := by decide +kernel
theorem dX3_makeBall_112 : decode cX3_makeBall 112 = .ok (.goto (-61), 3) := by decide +kernel
theorem dX3_makeBall_115 : decode cX3_makeBall 115 = .ok (.aload_n 0, 1) := by decide +kernel
theorem dX3_makeBall_116 : decode cX3_makeBall 116 = .ok (.getfield 32, 3) := by decide +kernel
theorem dX3_makeBall_119 : decode cX3_makeBall 119 = .ok (.iload_n 1, 1) := by decide +kernel
theorem dX3_makeBall_120 : decode cX3_makeBall 120 = .ok (.iconst 1, 1) := by decide +kernel
theorem dX3_makeBall_121 : decode cX3_makeBall 121 = .ok (.iadd, 1) := by decide +kernel
theorem dX3_makeBall_122 : decode cX3_makeBall 122 = .ok (.aload_n 0, 1) := by decide +kernel
theorem dX3_makeBall_123 : decode cX3_makeBall 123 = .ok (.getfield 136, 3) := by decide +kernel
theorem dX3_makeBall_126 : decode cX3_makeBall 126 = .ok (.iastore, 1) := by decide +kernel
theorem dX3_makeBall_127 : decode cX3_makeBall 127 = .ok (.iinc 1 1, 3) := by decide +kernel
theorem dX3_makeBall_130 : decode cX3_makeBall 130 = .ok (.goto (-93), 3) := by decide +kernel
theorem dX3_makeBall_133 : decode cX3_makeBall 133 = .ok (.return_, 1) := by decide +kernel
set_option maxRecDepth 20000 in
theorem ggX3_length_X3_isMap : GoodIn wsX3_length wsX3_isMap := goodIn_r _ [6, 7, 8, 9, 5, 10, 11, 12, 13, 14, 90, 91, 92, 93, 94, 95, 96, 97, 98, 99, 100, 101, 102, 103, 104, 105, 106, 107, 108, 109] (by decide +kernel) (by decide +kernel)
set_option maxRecDepth 20000 in
theorem gX3_length_X3_isMap : GoodIn wsX3_length (wsV RX3 104 RX3 yX3_isMap wsX3_isMap) := goodIn_app (goodIn_of _ (by decide +kernel)) ggX3_length_X3_isMap
set_option maxRecDepth 20000 in
theorem ggX3_length_X3_makeBall : GoodIn wsX3_length wsX3_makeBall := goodIn_r _ [18, 19, 1, 20, 21, 22, 23, 5, 24, 25, 26, 27, 28, 29, 30, 31, 32, 33, 34, 35, 36, 37, 38, 39, 40, 41, 42, 43, 44, 45, 46, 47, 48, 49, 50, 51, 52, 53, 54, 55, 56, 57, 58, 59, 60, 61, 62, 63, 64, 65, 66, 67, 68, 69, 70, 71, 72, 73, 74, 75, 76, 77, 78, 79, 80, 81, 82, 83, 84, 90, 91, 92, 93, 94, 95, 96, 97, 98, 99, 100, 101, 102, 103, 104, 105, 106, 107, 108, 109] (by decide +kernel) (by decide +kernel)
set_option maxRecDepth 20000 in
theorem gX3_length_X3_makeBall : GoodIn wsX3_length (wsV RX3 153 RX3 yX3_makeBall wsX3_makeBall) := goodIn_app (goodIn_of _ (by decide +kernel)) ggX3_length_X3_makeBall
set_option maxRecDepth 20000 in
theorem ggX3_length_X3_load : GoodIn wsX3_length wsX3_load := goodIn_r _ [88, 25, 7, 89, 26, 27, 28, 5, 29, 30, 90, 91, 92, 93, 94, 95, 96, 97, 98, 99, 100, 101, 102, 103, 104, 105, 106, 107, 108, 109] (by decide +kernel) (by decide +kernel)
set_option maxRecDepth 20000 in
theorem gX3_length_X3_load : GoodIn wsX3_length (wsV RX3 107 RX3 yX3_load wsX3_load) := goodIn_app (goodIn_of _ (by decide +kernel)) ggX3_length_X3_load
set_option maxRecDepth 20000 in
theorem ggX3_length_X3_wordOf : GoodIn wsX3_length wsX3_wordOf := goodIn_r _ [40, 20, 35, 25, 36, 30, 90, 91, 92, 93, 94, 95, 96, 97, 98, 99, 100, 101, 102, 103, 104, 105, 106, 107, 108, 109] (by decide +kernel) (by decide +kernel)
set_option maxRecDepth 20000 in
theorem gX3_length_X3_wordOf : GoodIn wsX3_length (wsV RX3 139 RX3 yX3_wordOf wsX3_wordOf) := goodIn_app (goodIn_of _ (by decide +kernel)) ggX3_length_X3_wordOf
theorem dX3_length_0 : decode cX3_length 0 = .ok (.aload_n 0, 1) := by decide +kernel
theorem dX3_length_1 : decode cX3_length 1 = .ok (.iload_n 1, 1) := by decide +kernel
theorem dX3_length_2 : decode cX3_length 2 = .ok (.invokevirtual 104, 3) := by decide +kernel
theorem dX3_length_5 : decode cX3_length 5 = .ok (.ifCond .ne 6, 3) := by decide +kernel
theorem dX3_length_8 : decode cX3_length 8 = .ok (.bipush (-101), 2) := by decide +kernel
theorem dX3_length_10 : decode cX3_length 10 = .ok (.ireturn, 1) := by decide +kernel
theorem dX3_length_11 : decode cX3_length 11 = .ok (.aload_n 0, 1) := by decide +kernel
theorem dX3_length_12 : decode cX3_length 12 = .ok (.invokevirtual 153, 3) := by decide +kernel
theorem dX3_length_15 : decode cX3_length 15 = .ok (.aload_n 0, 1) := by decide +kernel
theorem dX3_length_16 : decode cX3_length 16 = .ok (.iload_n 1, 1) := by decide +kernel
theorem dX3_length_17 : decode cX3_length 17 = .ok (.invokevirtual 107, 3) := by decide +kernel
theorem dX3_length_20 : decode cX3_length 20 = .ok (.aload_n 0, 1) := by decide +kernel
theorem dX3_length_21 : decode cX3_length 21 = .ok (.invokevirtual 139, 3) := by decide +kernel
theorem dX3_length_24 : decode cX3_length 24 = .ok (.istore_n 2, 1) := by decide +kernel
theorem dX3_length_25 : decode cX3_length 25 = .ok (.iconst 0, 1) := by decide +kernel
theorem dX3_length_26 : decode cX3_length 26 = .ok (.istore_n 3, 1) := by decide +kernel
theorem dX3_length_27 : decode cX3_length 27 = .ok (.iload_n 2, 1) := by decide +kernel
theorem dX3_length_28 : decode cX3_length 28 = .ok (.aload_n 0, 1) := by decide +kernel
theorem dX3_length_29 : decode cX3_length 29 = .ok (.getfield 32, 3) := by decide +kernel
theorem dX3_length_32 : decode cX3_length 32 = .ok (.iload_n 3, 1) := by decide +kernel
theorem dX3_length_33 : decode cX3_length 33 = .ok (.iconst 1, 1) := by decide +kernel
theorem dX3_length_34 : decode cX3_length 34 = .ok (.iadd, 1) := by decide +kernel
theorem dX3_length_35 : decode cX3_length 35 = .ok (.iaload, 1) := by decide +kernel
theorem dX3_length_36 : decode cX3_length 36 = .ok (.if_icmp .lt 9, 3) := by decide +kernel
theorem dX3_length_39 : decode cX3_length 39 = .ok (.iinc 3 1, 3) := by decide +kernel
theorem dX3_length_42 : decode cX3_length 42 = .ok (.goto (-15), 3) := by decide +kernel
theorem dX3_length_45 : decode cX3_length 45 = .ok (.iload_n 2, 1) := by decide +kernel
theorem dX3_length_46 : decode cX3_length 46 = .ok (.iconst (-1), 1) := by decide +kernel
theorem dX3_length_47 : decode cX3_length 47 = .ok (.if_icmp .ne 7, 3) := by decide +kernel
theorem dX3_length_50 : decode cX3_length 50 = .ok (.iconst (-1), 1) := by decide +kernel
theorem dX3_length_51 : decode cX3_length 51 = .ok (.goto 4, 3) := by decide +kernel
theorem dX3_length_54 : decode cX3_length 54 = .ok (.iload_n 3, 1) := by decide +kernel
theorem dX3_length_55 : decode cX3_length 55 = .ok (.ireturn, 1) := by decide +kernel
set_option maxRecDepth 20000 in
theorem ggX3_ball_X3_in : GoodIn wsX3_ball wsX3_in := goodIn_r _ [6] (by decide +kernel) (by decide +kernel)
set_option maxRecDepth 20000 in
theorem gX3_ball_X3_in : GoodIn wsX3_ball (va_wsS RX3 43 yX3_in wsX3_in) := goodIn_app (goodIn_of _ (by decide +kernel)) ggX3_ball_X3_in
set_option maxRecDepth 20000 in
theorem ggX3_ball_X3_makeBall : GoodIn wsX3_ball wsX3_makeBall := goodIn_r _ [10, 11, 2, 12, 13, 14, 15, 5, 16, 17, 18, 19, 20, 21, 22, 23, 24, 25, 26, 27, 28, 29, 30, 31, 32, 33, 34, 35, 36, 37, 38, 39, 40, 41, 42, 43, 44, 45, 46, 47, 48, 49, 50, 51, 52, 53, 54, 55, 56, 57, 58, 59, 60, 61, 62, 63, 64, 65, 66, 67, 68, 69, 70, 71, 72, 73, 74, 75, 76, 77, 78, 79, 80, 81, 82, 83, 84, 85, 86, 87, 88, 89, 90, 91, 92, 93, 94, 95, 96] (by decide +kernel) (by decide +kernel)
set_option maxRecDepth 20000 in
theorem gX3_ball_X3_makeBall : GoodIn wsX3_ball (wsV RX3 153 RX3 yX3_makeBall wsX3_makeBall) := goodIn_app (goodIn_of _ (by decide +kernel)) ggX3_ball_X3_makeBall
theorem dX3_ball_0 : decode cX3_ball 0 = .ok (.iload_n 1, 1) := by decide +kernel
theorem dX3_ball_1 : decode cX3_ball 1 = .ok (.i2l, 1) := by decide +kernel
theorem dX3_ball_2 : decode cX3_ball 2 = .ok (.lconst 0, 1) := by decide +kernel
theorem dX3_ball_3 : decode cX3_ball 3 = .ok (.ldc2_w 156, 3) := by decide +kernel
theorem dX3_ball_6 : decode cX3_ball 6 = .ok (.invokestatic 43, 3) := by decide +kernel
theorem dX3_ball_9 : decode cX3_ball 9 = .ok (.ifCond .ne 6, 3) := by decide +kernel
theorem dX3_ball_12 : decode cX3_ball 12 = .ok (.bipush (-102), 2) := by decide +kernel
theorem dX3_ball_14 : decode cX3_ball 14 = .ok (.ireturn, 1) := by decide +kernel
theorem dX3_ball_15 : decode cX3_ball 15 = .ok (.aload_n 0, 1) := by decide +kernel
theorem dX3_ball_16 : decode cX3_ball 16 = .ok (.invokevirtual 153, 3) := by decide +kernel
theorem dX3_ball_19 : decode cX3_ball 19 = .ok (.aload_n 0, 1) := by decide +kernel
theorem dX3_ball_20 : decode cX3_ball 20 = .ok (.getfield 32, 3) := by decide +kernel
theorem dX3_ball_23 : decode cX3_ball 23 = .ok (.iload_n 1, 1) := by decide +kernel
theorem dX3_ball_24 : decode cX3_ball 24 = .ok (.iconst 1, 1) := by decide +kernel
theorem dX3_ball_25 : decode cX3_ball 25 = .ok (.iadd, 1) := by decide +kernel
theorem dX3_ball_26 : decode cX3_ball 26 = .ok (.iaload, 1) := by decide +kernel
theorem dX3_ball_27 : decode cX3_ball 27 = .ok (.aload_n 0, 1) := by decide +kernel
theorem dX3_ball_28 : decode cX3_ball 28 = .ok (.getfield 32, 3) := by decide +kernel
theorem dX3_ball_31 : decode cX3_ball 31 = .ok (.iload_n 1, 1) := by decide +kernel
theorem dX3_ball_32 : decode cX3_ball 32 = .ok (.iaload, 1) := by decide +kernel
theorem dX3_ball_33 : decode cX3_ball 33 = .ok (.isub, 1) := by decide +kernel
theorem dX3_ball_34 : decode cX3_ball 34 = .ok (.ireturn, 1) := by decide +kernel
set_option maxRecDepth 20000 in
theorem ggX3_go_X3_isMap : GoodIn wsX3_go wsX3_isMap := goodIn_r _ [11, 2, 12, 13, 10, 14, 15, 16, 17, 18, 19, 20, 21, 22, 23, 24, 25, 26, 27, 28, 29, 30, 31, 32, 33, 34, 35, 36, 37, 38] (by decide +kernel) (by decide +kernel)
set_option maxRecDepth 20000 in
theorem gX3_go_X3_isMap : GoodIn wsX3_go (wsV RX3 104 RX3 yX3_isMap wsX3_isMap) := goodIn_app (goodIn_of _ (by decide +kernel)) ggX3_go_X3_isMap
set_option maxRecDepth 20000 in
theorem ggX3_go_X3_in : GoodIn wsX3_go wsX3_in := goodIn_r _ [18] (by decide +kernel) (by decide +kernel)
set_option maxRecDepth 20000 in
theorem gX3_go_X3_in : GoodIn wsX3_go (va_wsS RX3 43 yX3_in wsX3_in) := goodIn_app (goodIn_of _ (by decide +kernel)) ggX3_go_X3_in
theorem dX3_go_0 : decode cX3_go 0 = .ok (.aload_n 0, 1) := by decide +kernel
theorem dX3_go_1 : decode cX3_go 1 = .ok (.iload_n 1, 1) := by decide +kernel
theorem dX3_go_2 : decode cX3_go 2 = .ok (.invokevirtual 104, 3) := by decide +kernel
theorem dX3_go_5 : decode cX3_go 5 = .ok (.ifCond .ne 6, 3) := by decide +kernel
theorem dX3_go_8 : decode cX3_go 8 = .ok (.bipush (-101), 2) := by decide +kernel
theorem dX3_go_10 : decode cX3_go 10 = .ok (.ireturn, 1) := by decide +kernel
theorem dX3_go_11 : decode cX3_go 11 = .ok (.iload_n 2, 1) := by decide +kernel
theorem dX3_go_12 : decode cX3_go 12 = .ok (.i2l, 1) := by decide +kernel
theorem dX3_go_13 : decode cX3_go 13 = .ok (.lconst 0, 1) := by decide +kernel
theorem dX3_go_14 : decode cX3_go 14 = .ok (.ldc2_w 158, 3) := by decide +kernel
theorem dX3_go_17 : decode cX3_go 17 = .ok (.invokestatic 43, 3) := by decide +kernel
theorem dX3_go_20 : decode cX3_go 20 = .ok (.ifCond .eq 16, 3) := by decide +kernel
theorem dX3_go_23 : decode cX3_go 23 = .ok (.lload_n 3, 1) := by decide +kernel
theorem dX3_go_24 : decode cX3_go 24 = .ok (.lconst 0, 1) := by decide +kernel
theorem dX3_go_25 : decode cX3_go 25 = .ok (.lconst 1, 1) := by decide +kernel
theorem dX3_go_26 : decode cX3_go 26 = .ok (.iload_n 2, 1) := by decide +kernel
theorem dX3_go_27 : decode cX3_go 27 = .ok (.lshl, 1) := by decide +kernel
theorem dX3_go_28 : decode cX3_go 28 = .ok (.lconst 1, 1) := by decide +kernel
theorem dX3_go_29 : decode cX3_go 29 = .ok (.lsub, 1) := by decide +kernel
theorem dX3_go_30 : decode cX3_go 30 = .ok (.invokestatic 43, 3) := by decide +kernel
theorem dX3_go_33 : decode cX3_go 33 = .ok (.ifCond .ne 6, 3) := by decide +kernel
theorem dX3_go_36 : decode cX3_go 36 = .ok (.bipush (-102), 2) := by decide +kernel
theorem dX3_go_38 : decode cX3_go 38 = .ok (.ireturn, 1) := by decide +kernel
theorem dX3_go_39 : decode cX3_go 39 = .ok (.iconst 0, 1) := by decide +kernel
theorem dX3_go_40 : decode cX3_go 40 = .ok (.istore 5, 2) := by decide +kernel
theorem dX3_go_42 : decode cX3_go 42 = .ok (.iload 5, 2) := by decide +kernel
theorem dX3_go_44 : decode cX3_go 44 = .ok (.aload_n 0, 1) := by decide +kernel
theorem dX3_go_45 : decode cX3_go 45 = .ok (.getfield 7, 3) := by decide +kernel
theorem dX3_go_48 : decode cX3_go 48 = .ok (.iload_n 1, 1) := by decide +kernel
theorem dX3_go_49 : decode cX3_go 49 = .ok (.iaload, 1) := by decide +kernel
theorem dX3_go_50 : decode cX3_go 50 = .ok (.if_icmp .ge 127, 3) := by decide +kernel
theorem dX3_go_53 : decode cX3_go 53 = .ok (.bipush 96, 2) := by decide +kernel
theorem dX3_go_55 : decode cX3_go 55 = .ok (.iload_n 1, 1) := by decide +kernel
theorem dX3_go_56 : decode cX3_go 56 = .ok (.imul, 1) := by decide +kernel
theorem dX3_go_57 : decode cX3_go 57 = .ok (.iconst 4, 1) := by decide +kernel
theorem dX3_go_58 : decode cX3_go 58 = .ok (.iload 5, 2) := by decide +kernel
theorem dX3_go_60 : decode cX3_go 60 = .ok (.imul, 1) := by decide +kernel
theorem dX3_go_61 : decode cX3_go 61 = .ok (.iadd, 1) := by decide +kernel
theorem dX3_go_62 : decode cX3_go 62 = .ok (.istore 6, 2) := by decide +kernel
theorem dX3_go_64 : decode cX3_go 64 = .ok (.aload_n 0, 1) := by decide +kernel
theorem dX3_go_65 : decode cX3_go 65 = .ok (.getfield 13, 3) := by decide +kernel
theorem dX3_go_68 : decode cX3_go 68 = .ok (.iload 6, 2) := by decide +kernel
theorem dX3_go_70 : decode cX3_go 70 = .ok (.iaload, 1) := by decide +kernel
theorem dX3_go_71 : decode cX3_go 71 = .ok (.istore 7, 2) := by decide +kernel
theorem dX3_go_73 : decode cX3_go 73 = .ok (.iload_n 2, 1) := by decide +kernel
theorem dX3_go_74 : decode cX3_go 74 = .ok (.iload 7, 2) := by decide +kernel
theorem dX3_go_76 : decode cX3_go 76 = .ok (.if_icmp .le 7, 3) := by decide +kernel
theorem dX3_go_79 : decode cX3_go 79 = .ok (.iload_n 2, 1) := by decide +kernel
theorem dX3_go_80 : decode cX3_go 80 = .ok (.goto 5, 3) := by decide +kernel
theorem dX3_go_83 : decode cX3_go 83 = .ok (.iload 7, 2) := by decide +kernel
theorem dX3_go_85 : decode cX3_go 85 = .ok (.istore 8, 2) := by decide +kernel
theorem dX3_go_87 : decode cX3_go 87 = .ok (.lload_n 3, 1) := by decide +kernel
theorem dX3_go_88 : decode cX3_go 88 = .ok (.iload 8, 2) := by decide +kernel
theorem dX3_go_90 : decode cX3_go 90 = .ok (.iload_n 2, 1) := by decide +kernel
theorem dX3_go_91 : decode cX3_go 91 = .ok (.isub, 1) := by decide +kernel
theorem dX3_go_92 : decode cX3_go 92 = .ok (.lshl, 1) := by decide +kernel
theorem dX3_go_93 : decode cX3_go 93 = .ok (.lstore 9, 2) := by decide +kernel
theorem dX3_go_95 : decode cX3_go 95 = .ok (.iload 8, 2) := by decide +kernel
theorem dX3_go_97 : decode cX3_go 97 = .ok (.iload 7, 2) := by decide +kernel
theorem dX3_go_99 : decode cX3_go 99 = .ok (.isub, 1) := by decide +kernel
theorem dX3_go_100 : decode cX3_go 100 = .ok (.istore 11, 2) := by decide +kernel
theorem dX3_go_102 : decode cX3_go 102 = .ok (.lload 9, 2) := by decide +kernel
theorem dX3_go_104 : decode cX3_go 104 = .ok (.iload 11, 2) := by decide +kernel
theorem dX3_go_106 : decode cX3_go 106 = .ok (.lshr, 1) := by decide +kernel
theorem dX3_go_107 : decode cX3_go 107 = .ok (.aload_n 0, 1) := by decide +kernel
theorem dX3_go_108 : decode cX3_go 108 = .ok (.getfield 13, 3) := by decide +kernel
theorem dX3_go_111 : decode cX3_go 111 = .ok (.iload 6, 2) := by decide +kernel
theorem dX3_go_113 : decode cX3_go 113 = .ok (.iconst 1, 1) := by decide +kernel
theorem dX3_go_114 : decode cX3_go 114 = .ok (.iadd, 1) := by decide +kernel
theorem dX3_go_115 : decode cX3_go 115 = .ok (.iaload, 1) := by decide +kernel
theorem dX3_go_116 : decode cX3_go 116 = .ok (.i2l, 1) := by decide +kernel
theorem dX3_go_117 : decode cX3_go 117 = .ok (.lcmp, 1) := by decide +kernel
theorem dX3_go_118 : decode cX3_go 118 = .ok (.ifCond .ne 53, 3) := by decide +kernel
theorem dX3_go_121 : decode cX3_go 121 = .ok (.aload_n 0, 1) := by decide +kernel
theorem dX3_go_122 : decode cX3_go 122 = .ok (.aload_n 0, 1) := by decide +kernel
theorem dX3_go_123 : decode cX3_go 123 = .ok (.getfield 13, 3) := by decide +kernel
theorem dX3_go_126 : decode cX3_go 126 = .ok (.iload 6, 2) := by decide +kernel
theorem dX3_go_128 : decode cX3_go 128 = .ok (.iconst 2, 1) := by decide +kernel
theorem dX3_go_129 : decode cX3_go 129 = .ok (.iadd, 1) := by decide +kernel
theorem dX3_go_130 : decode cX3_go 130 = .ok (.iaload, 1) := by decide +kernel
theorem dX3_go_131 : decode cX3_go 131 = .ok (.iload 11, 2) := by decide +kernel
theorem dX3_go_133 : decode cX3_go 133 = .ok (.iadd, 1) := by decide +kernel
theorem dX3_go_134 : decode cX3_go 134 = .ok (.putfield 160, 3) := by decide +kernel
theorem dX3_go_137 : decode cX3_go 137 = .ok (.aload_n 0, 1) := by decide +kernel
theorem dX3_go_138 : decode cX3_go 138 = .ok (.aload_n 0, 1) := by decide +kernel
theorem dX3_go_139 : decode cX3_go 139 = .ok (.getfield 13, 3) := by decide +kernel
theorem dX3_go_142 : decode cX3_go 142 = .ok (.iload 6, 2) := by decide +kernel
theorem dX3_go_144 : decode cX3_go 144 = .ok (.iconst 3, 1) := by decide +kernel
theorem dX3_go_145 : decode cX3_go 145 = .ok (.iadd, 1) := by decide +kernel
theorem dX3_go_146 : decode cX3_go 146 = .ok (.iaload, 1) := by decide +kernel
theorem dX3_go_147 : decode cX3_go 147 = .ok (.i2l, 1) := by decide +kernel
theorem dX3_go_148 : decode cX3_go 148 = .ok (.iload 11, 2) := by decide +kernel
theorem dX3_go_150 : decode cX3_go 150 = .ok (.lshl, 1) := by decide +kernel
theorem dX3_go_151 : decode cX3_go 151 = .ok (.lload 9, 2) := by decide +kernel
theorem dX3_go_153 : decode cX3_go 153 = .ok (.aload_n 0, 1) := by decide +kernel
theorem dX3_go_154 : decode cX3_go 154 = .ok (.getfield 13, 3) := by decide +kernel
theorem dX3_go_157 : decode cX3_go 157 = .ok (.iload 6, 2) := by decide +kernel
theorem dX3_go_159 : decode cX3_go 159 = .ok (.iconst 1, 1) := by decide +kernel
theorem dX3_go_160 : decode cX3_go 160 = .ok (.iadd, 1) := by decide +kernel
theorem dX3_go_161 : decode cX3_go 161 = .ok (.iaload, 1) := by decide +kernel
theorem dX3_go_162 : decode cX3_go 162 = .ok (.i2l, 1) := by decide +kernel
theorem dX3_go_163 : decode cX3_go 163 = .ok (.iload 11, 2) := by decide +kernel
theorem dX3_go_165 : decode cX3_go 165 = .ok (.lshl, 1) := by decide +kernel
theorem dX3_go_166 : decode cX3_go 166 = .ok (.lsub, 1) := by decide +kernel
theorem dX3_go_167 : decode cX3_go 167 = .ok (.ladd, 1) := by decide +kernel
theorem dX3_go_168 : decode cX3_go 168 = .ok (.putfield 163, 3) := by decide +kernel
theorem dX3_go_171 : decode cX3_go 171 = .ok (.iinc 5 1, 3) := by decide +kernel
theorem dX3_go_174 : decode cX3_go 174 = .ok (.goto (-132), 3) := by decide +kernel
theorem dX3_go_177 : decode cX3_go 177 = .ok (.aload_n 0, 1) := by decide +kernel
theorem dX3_go_178 : decode cX3_go 178 = .ok (.getfield 160, 3) := by decide +kernel
theorem dX3_go_181 : decode cX3_go 181 = .ok (.ifCond .le 41, 3) := by decide +kernel
theorem dX3_go_184 : decode cX3_go 184 = .ok (.aload_n 0, 1) := by decide +kernel
theorem dX3_go_185 : decode cX3_go 185 = .ok (.getfield 163, 3) := by decide +kernel
theorem dX3_go_188 : decode cX3_go 188 = .ok (.ldc2_w 65, 3) := by decide +kernel
theorem dX3_go_191 : decode cX3_go 191 = .ok (.lrem, 1) := by decide +kernel
theorem dX3_go_192 : decode cX3_go 192 = .ok (.lconst 0, 1) := by decide +kernel
theorem dX3_go_193 : decode cX3_go 193 = .ok (.lcmp, 1) := by decide +kernel
theorem dX3_go_194 : decode cX3_go 194 = .ok (.ifCond .ne 28, 3) := by decide +kernel
theorem dX3_go_197 : decode cX3_go 197 = .ok (.aload_n 0, 1) := by decide +kernel
theorem dX3_go_198 : decode cX3_go 198 = .ok (.dup, 1) := by decide +kernel
theorem dX3_go_199 : decode cX3_go 199 = .ok (.getfield 160, 3) := by decide +kernel
theorem dX3_go_202 : decode cX3_go 202 = .ok (.iconst 1, 1) := by decide +kernel
theorem dX3_go_203 : decode cX3_go 203 = .ok (.isub, 1) := by decide +kernel
theorem dX3_go_204 : decode cX3_go 204 = .ok (.putfield 160, 3) := by decide +kernel
theorem dX3_go_207 : decode cX3_go 207 = .ok (.aload_n 0, 1) := by decide +kernel
theorem dX3_go_208 : decode cX3_go 208 = .ok (.dup, 1) := by decide +kernel
theorem dX3_go_209 : decode cX3_go 209 = .ok (.getfield 163, 3) := by decide +kernel
theorem dX3_go_212 : decode cX3_go 212 = .ok (.ldc2_w 65, 3) := by decide +kernel
theorem dX3_go_215 : decode cX3_go 215 = .ok (.ldiv, 1) := by decide +kernel
theorem dX3_go_216 : decode cX3_go 216 = .ok (.putfield 163, 3) := by decide +kernel
theorem dX3_go_219 : decode cX3_go 219 = .ok (.goto (-42), 3) := by decide +kernel
theorem dX3_go_222 : decode cX3_go 222 = .ok (.iconst 1, 1) := by decide +kernel
theorem dX3_go_223 : decode cX3_go 223 = .ok (.ireturn, 1) := by decide +kernel
theorem dX3_seen_0 : decode cX3_seen 0 = .ok (.iload_n 1, 1) := by decide +kernel
theorem dX3_seen_1 : decode cX3_seen 1 = .ok (.ifCond .ne 11, 3) := by decide +kernel
theorem dX3_seen_4 : decode cX3_seen 4 = .ok (.aload_n 0, 1) := by decide +kernel
theorem dX3_seen_5 : decode cX3_seen 5 = .ok (.getfield 160, 3) := by decide +kernel
theorem dX3_seen_8 : decode cX3_seen 8 = .ok (.i2l, 1) := by decide +kernel
theorem dX3_seen_9 : decode cX3_seen 9 = .ok (.goto 18, 3) := by decide +kernel
theorem dX3_seen_12 : decode cX3_seen 12 = .ok (.iload_n 1, 1) := by decide +kernel
theorem dX3_seen_13 : decode cX3_seen 13 = .ok (.iconst 1, 1) := by decide +kernel
theorem dX3_seen_14 : decode cX3_seen 14 = .ok (.if_icmp .ne 10, 3) := by decide +kernel
theorem dX3_seen_17 : decode cX3_seen 17 = .ok (.aload_n 0, 1) := by decide +kernel
theorem dX3_seen_18 : decode cX3_seen 18 = .ok (.getfield 163, 3) := by decide +kernel
theorem dX3_seen_21 : decode cX3_seen 21 = .ok (.goto 6, 3) := by decide +kernel
theorem dX3_seen_24 : decode cX3_seen 24 = .ok (.ldc2_w 167, 3) := by decide +kernel
theorem dX3_seen_27 : decode cX3_seen 27 = .ok (.lreturn, 1) := by decide +kernel
theorem dX3_slope_0 : decode cX3_slope 0 = .ok (.aload_n 0, 1) := by decide +kernel
theorem dX3_slope_1 : decode cX3_slope 1 = .ok (.getfield 13, 3) := by decide +kernel
theorem dX3_slope_4 : decode cX3_slope 4 = .ok (.bipush 96, 2) := by decide +kernel
theorem dX3_slope_6 : decode cX3_slope 6 = .ok (.iload_n 1, 1) := by decide +kernel
theorem dX3_slope_7 : decode cX3_slope 7 = .ok (.imul, 1) := by decide +kernel
theorem dX3_slope_8 : decode cX3_slope 8 = .ok (.iconst 4, 1) := by decide +kernel
theorem dX3_slope_9 : decode cX3_slope 9 = .ok (.iload_n 2, 1) := by decide +kernel
theorem dX3_slope_10 : decode cX3_slope 10 = .ok (.imul, 1) := by decide +kernel
theorem dX3_slope_11 : decode cX3_slope 11 = .ok (.iadd, 1) := by decide +kernel
theorem dX3_slope_12 : decode cX3_slope 12 = .ok (.iaload, 1) := by decide +kernel
theorem dX3_slope_13 : decode cX3_slope 13 = .ok (.aload_n 0, 1) := by decide +kernel
theorem dX3_slope_14 : decode cX3_slope 14 = .ok (.getfield 13, 3) := by decide +kernel
theorem dX3_slope_17 : decode cX3_slope 17 = .ok (.bipush 96, 2) := by decide +kernel
theorem dX3_slope_19 : decode cX3_slope 19 = .ok (.iload_n 1, 1) := by decide +kernel
theorem dX3_slope_20 : decode cX3_slope 20 = .ok (.imul, 1) := by decide +kernel
theorem dX3_slope_21 : decode cX3_slope 21 = .ok (.iconst 4, 1) := by decide +kernel
theorem dX3_slope_22 : decode cX3_slope 22 = .ok (.iload_n 2, 1) := by decide +kernel
theorem dX3_slope_23 : decode cX3_slope 23 = .ok (.imul, 1) := by decide +kernel
theorem dX3_slope_24 : decode cX3_slope 24 = .ok (.iadd, 1) := by decide +kernel
theorem dX3_slope_25 : decode cX3_slope 25 = .ok (.iconst 2, 1) := by decide +kernel
theorem dX3_slope_26 : decode cX3_slope 26 = .ok (.iadd, 1) := by decide +kernel
theorem dX3_slope_27 : decode cX3_slope 27 = .ok (.iaload, 1) := by decide +kernel
theorem dX3_slope_28 : decode cX3_slope 28 = .ok (.isub, 1) := by decide +kernel
theorem dX3_slope_29 : decode cX3_slope 29 = .ok (.ireturn, 1) := by decide +kernel
set_option maxRecDepth 20000 in
theorem ggX3_bend_X3_isMap : GoodIn wsX3_bend wsX3_isMap := goodIn_r _ [6, 1, 7, 8, 5, 9, 10, 11, 12, 13, 19, 20, 21, 22, 23, 24, 25, 26, 27, 28, 29, 30, 31, 32, 33, 34, 35, 36, 37, 38] (by decide +kernel) (by decide +kernel)
set_option maxRecDepth 20000 in
theorem gX3_bend_X3_isMap : GoodIn wsX3_bend (wsV RX3 104 RX3 yX3_isMap wsX3_isMap) := goodIn_app (goodIn_of _ (by decide +kernel)) ggX3_bend_X3_isMap
set_option maxRecDepth 20000 in
theorem ggX3_bend_X3_in : GoodIn wsX3_bend wsX3_in := goodIn_r _ [13] (by decide +kernel) (by decide +kernel)
set_option maxRecDepth 20000 in
theorem gX3_bend_X3_in : GoodIn wsX3_bend (va_wsS RX3 43 yX3_in wsX3_in) := goodIn_app (goodIn_of _ (by decide +kernel)) ggX3_bend_X3_in
set_option maxRecDepth 20000 in
theorem ggX3_bend_X3_slope : GoodIn wsX3_bend wsX3_slope := goodIn_r _ [17, 18, 19, 20, 21, 22, 23, 24, 25, 26, 27, 28, 29, 30, 31, 32, 33, 34, 35, 36, 37, 38] (by decide +kernel) (by decide +kernel)
set_option maxRecDepth 20000 in
theorem gX3_bend_X3_slope : GoodIn wsX3_bend (wsV RX3 169 RX3 yX3_slope wsX3_slope) := goodIn_app (goodIn_of _ (by decide +kernel)) ggX3_bend_X3_slope
theorem dX3_bend_0 : decode cX3_bend 0 = .ok (.aload_n 0, 1) := by decide +kernel
theorem dX3_bend_1 : decode cX3_bend 1 = .ok (.iload_n 1, 1) := by decide +kernel
theorem dX3_bend_2 : decode cX3_bend 2 = .ok (.invokevirtual 104, 3) := by decide +kernel
theorem dX3_bend_5 : decode cX3_bend 5 = .ok (.ifCond .eq 21, 3) := by decide +kernel
theorem dX3_bend_8 : decode cX3_bend 8 = .ok (.iload_n 2, 1) := by decide +kernel
theorem dX3_bend_9 : decode cX3_bend 9 = .ok (.i2l, 1) := by decide +kernel
theorem dX3_bend_10 : decode cX3_bend 10 = .ok (.lconst 0, 1) := by decide +kernel
theorem dX3_bend_11 : decode cX3_bend 11 = .ok (.aload_n 0, 1) := by decide +kernel
theorem dX3_bend_12 : decode cX3_bend 12 = .ok (.getfield 7, 3) := by decide +kernel
theorem dX3_bend_15 : decode cX3_bend 15 = .ok (.iload_n 1, 1) := by decide +kernel
theorem dX3_bend_16 : decode cX3_bend 16 = .ok (.iaload, 1) := by decide +kernel
theorem dX3_bend_17 : decode cX3_bend 17 = .ok (.iconst 1, 1) := by decide +kernel
theorem dX3_bend_18 : decode cX3_bend 18 = .ok (.isub, 1) := by decide +kernel
theorem dX3_bend_19 : decode cX3_bend 19 = .ok (.i2l, 1) := by decide +kernel
theorem dX3_bend_20 : decode cX3_bend 20 = .ok (.invokestatic 43, 3) := by decide +kernel
theorem dX3_bend_23 : decode cX3_bend 23 = .ok (.ifCond .ne 7, 3) := by decide +kernel
theorem dX3_bend_26 : decode cX3_bend 26 = .ok (.sipush (-1000), 3) := by decide +kernel
theorem dX3_bend_29 : decode cX3_bend 29 = .ok (.ireturn, 1) := by decide +kernel
theorem dX3_bend_30 : decode cX3_bend 30 = .ok (.iload_n 2, 1) := by decide +kernel
theorem dX3_bend_31 : decode cX3_bend 31 = .ok (.ifCond .ne 12, 3) := by decide +kernel
theorem dX3_bend_34 : decode cX3_bend 34 = .ok (.aload_n 0, 1) := by decide +kernel
theorem dX3_bend_35 : decode cX3_bend 35 = .ok (.iload_n 1, 1) := by decide +kernel
theorem dX3_bend_36 : decode cX3_bend 36 = .ok (.iconst 0, 1) := by decide +kernel
theorem dX3_bend_37 : decode cX3_bend 37 = .ok (.invokevirtual 169, 3) := by decide +kernel
theorem dX3_bend_40 : decode cX3_bend 40 = .ok (.goto 18, 3) := by decide +kernel
theorem dX3_bend_43 : decode cX3_bend 43 = .ok (.aload_n 0, 1) := by decide +kernel
theorem dX3_bend_44 : decode cX3_bend 44 = .ok (.iload_n 1, 1) := by decide +kernel
theorem dX3_bend_45 : decode cX3_bend 45 = .ok (.iload_n 2, 1) := by decide +kernel
theorem dX3_bend_46 : decode cX3_bend 46 = .ok (.invokevirtual 169, 3) := by decide +kernel
theorem dX3_bend_49 : decode cX3_bend 49 = .ok (.aload_n 0, 1) := by decide +kernel
theorem dX3_bend_50 : decode cX3_bend 50 = .ok (.iload_n 1, 1) := by decide +kernel
theorem dX3_bend_51 : decode cX3_bend 51 = .ok (.iload_n 2, 1) := by decide +kernel
theorem dX3_bend_52 : decode cX3_bend 52 = .ok (.iconst 1, 1) := by decide +kernel
theorem dX3_bend_53 : decode cX3_bend 53 = .ok (.isub, 1) := by decide +kernel
theorem dX3_bend_54 : decode cX3_bend 54 = .ok (.invokevirtual 169, 3) := by decide +kernel
theorem dX3_bend_57 : decode cX3_bend 57 = .ok (.isub, 1) := by decide +kernel
theorem dX3_bend_58 : decode cX3_bend 58 = .ok (.ireturn, 1) := by decide +kernel
set_option maxRecDepth 20000 in
theorem ggX3_still_X3_isMap : GoodIn wsX3_still wsX3_isMap := goodIn_r _ [7, 1, 8, 9, 6, 10, 11, 12, 13, 14, 15, 16, 17, 18, 19, 20, 21, 22, 23, 24, 25, 26, 27, 28, 29, 30, 31, 32, 33, 34] (by decide +kernel) (by decide +kernel)
set_option maxRecDepth 20000 in
theorem gX3_still_X3_isMap : GoodIn wsX3_still (wsV RX3 104 RX3 yX3_isMap wsX3_isMap) := goodIn_app (goodIn_of _ (by decide +kernel)) ggX3_still_X3_isMap
theorem dX3_still_0 : decode cX3_still 0 = .ok (.aload_n 0, 1) := by decide +kernel
theorem dX3_still_1 : decode cX3_still 1 = .ok (.iload_n 1, 1) := by decide +kernel
theorem dX3_still_2 : decode cX3_still 2 = .ok (.invokevirtual 104, 3) := by decide +kernel
theorem dX3_still_5 : decode cX3_still 5 = .ok (.ifCond .ne 6, 3) := by decide +kernel
theorem dX3_still_8 : decode cX3_still 8 = .ok (.bipush (-101), 2) := by decide +kernel
theorem dX3_still_10 : decode cX3_still 10 = .ok (.ireturn, 1) := by decide +kernel
theorem dX3_still_11 : decode cX3_still 11 = .ok (.iconst 0, 1) := by decide +kernel
theorem dX3_still_12 : decode cX3_still 12 = .ok (.istore_n 2, 1) := by decide +kernel
theorem dX3_still_13 : decode cX3_still 13 = .ok (.iconst 0, 1) := by decide +kernel
theorem dX3_still_14 : decode cX3_still 14 = .ok (.istore_n 3, 1) := by decide +kernel
theorem dX3_still_15 : decode cX3_still 15 = .ok (.iload_n 3, 1) := by decide +kernel
theorem dX3_still_16 : decode cX3_still 16 = .ok (.aload_n 0, 1) := by decide +kernel
theorem dX3_still_17 : decode cX3_still 17 = .ok (.getfield 7, 3) := by decide +kernel
theorem dX3_still_20 : decode cX3_still 20 = .ok (.iload_n 1, 1) := by decide +kernel
theorem dX3_still_21 : decode cX3_still 21 = .ok (.iaload, 1) := by decide +kernel
theorem dX3_still_22 : decode cX3_still 22 = .ok (.if_icmp .ge 67, 3) := by decide +kernel
theorem dX3_still_25 : decode cX3_still 25 = .ok (.bipush 96, 2) := by decide +kernel
theorem dX3_still_27 : decode cX3_still 27 = .ok (.iload_n 1, 1) := by decide +kernel
theorem dX3_still_28 : decode cX3_still 28 = .ok (.imul, 1) := by decide +kernel
theorem dX3_still_29 : decode cX3_still 29 = .ok (.iconst 4, 1) := by decide +kernel
theorem dX3_still_30 : decode cX3_still 30 = .ok (.iload_n 3, 1) := by decide +kernel
theorem dX3_still_31 : decode cX3_still 31 = .ok (.imul, 1) := by decide +kernel
theorem dX3_still_32 : decode cX3_still 32 = .ok (.iadd, 1) := by decide +kernel
theorem dX3_still_33 : decode cX3_still 33 = .ok (.istore 4, 2) := by decide +kernel
theorem dX3_still_35 : decode cX3_still 35 = .ok (.iload_n 2, 1) := by decide +kernel
theorem dX3_still_36 : decode cX3_still 36 = .ok (.aload_n 0, 1) := by decide +kernel
theorem dX3_still_37 : decode cX3_still 37 = .ok (.getfield 13, 3) := by decide +kernel
theorem dX3_still_40 : decode cX3_still 40 = .ok (.iload 4, 2) := by decide +kernel
theorem dX3_still_42 : decode cX3_still 42 = .ok (.iaload, 1) := by decide +kernel
theorem dX3_still_43 : decode cX3_still 43 = .ok (.aload_n 0, 1) := by decide +kernel
theorem dX3_still_44 : decode cX3_still 44 = .ok (.getfield 13, 3) := by decide +kernel
theorem dX3_still_47 : decode cX3_still 47 = .ok (.iload 4, 2) := by decide +kernel
theorem dX3_still_49 : decode cX3_still 49 = .ok (.iconst 2, 1) := by decide +kernel
theorem dX3_still_50 : decode cX3_still 50 = .ok (.iadd, 1) := by decide +kernel
theorem dX3_still_51 : decode cX3_still 51 = .ok (.iaload, 1) := by decide +kernel
theorem dX3_still_52 : decode cX3_still 52 = .ok (.if_icmp .ne 28, 3) := by decide +kernel
theorem dX3_still_55 : decode cX3_still 55 = .ok (.aload_n 0, 1) := by decide +kernel
theorem dX3_still_56 : decode cX3_still 56 = .ok (.getfield 13, 3) := by decide +kernel
theorem dX3_still_59 : decode cX3_still 59 = .ok (.iload 4, 2) := by decide +kernel
theorem dX3_still_61 : decode cX3_still 61 = .ok (.iconst 1, 1) := by decide +kernel
theorem dX3_still_62 : decode cX3_still 62 = .ok (.iadd, 1) := by decide +kernel
theorem dX3_still_63 : decode cX3_still 63 = .ok (.iaload, 1) := by decide +kernel
theorem dX3_still_64 : decode cX3_still 64 = .ok (.aload_n 0, 1) := by decide +kernel
theorem dX3_still_65 : decode cX3_still 65 = .ok (.getfield 13, 3) := by decide +kernel
theorem dX3_still_68 : decode cX3_still 68 = .ok (.iload 4, 2) := by decide +kernel
theorem dX3_still_70 : decode cX3_still 70 = .ok (.iconst 3, 1) := by decide +kernel
theorem dX3_still_71 : decode cX3_still 71 = .ok (.iadd, 1) := by decide +kernel
theorem dX3_still_72 : decode cX3_still 72 = .ok (.iaload, 1) := by decide +kernel
theorem dX3_still_73 : decode cX3_still 73 = .ok (.if_icmp .ne 7, 3) := by decide +kernel
theorem dX3_still_76 : decode cX3_still 76 = .ok (.iconst 1, 1) := by decide +kernel
theorem dX3_still_77 : decode cX3_still 77 = .ok (.goto 4, 3) := by decide +kernel
theorem dX3_still_80 : decode cX3_still 80 = .ok (.iconst 0, 1) := by decide +kernel
theorem dX3_still_81 : decode cX3_still 81 = .ok (.iadd, 1) := by decide +kernel
theorem dX3_still_82 : decode cX3_still 82 = .ok (.istore_n 2, 1) := by decide +kernel
theorem dX3_still_83 : decode cX3_still 83 = .ok (.iinc 3 1, 3) := by decide +kernel
theorem dX3_still_86 : decode cX3_still 86 = .ok (.goto (-71), 3) := by decide +kernel
theorem dX3_still_89 : decode cX3_still 89 = .ok (.iload_n 2, 1) := by decide +kernel
theorem dX3_still_90 : decode cX3_still 90 = .ok (.ireturn, 1) := by decide +kernel
theorem dX3_common_0 : decode cX3_common 0 = .ok (.lload_n 0, 1) := by decide +kernel
theorem dX3_common_1 : decode cX3_common 1 = .ok (.lstore 4, 2) := by decide +kernel
theorem dX3_common_3 : decode cX3_common 3 = .ok (.lload_n 2, 1) := by decide +kernel
theorem dX3_common_4 : decode cX3_common 4 = .ok (.lstore 6, 2) := by decide +kernel
theorem dX3_common_6 : decode cX3_common 6 = .ok (.lload 6, 2) := by decide +kernel
theorem dX3_common_8 : decode cX3_common 8 = .ok (.lconst 0, 1) := by decide +kernel
theorem dX3_common_9 : decode cX3_common 9 = .ok (.lcmp, 1) := by decide +kernel
theorem dX3_common_10 : decode cX3_common 10 = .ok (.ifCond .eq 21, 3) := by decide +kernel
theorem dX3_common_13 : decode cX3_common 13 = .ok (.lload 4, 2) := by decide +kernel
theorem dX3_common_15 : decode cX3_common 15 = .ok (.lload 6, 2) := by decide +kernel
theorem dX3_common_17 : decode cX3_common 17 = .ok (.lrem, 1) := by decide +kernel
theorem dX3_common_18 : decode cX3_common 18 = .ok (.lstore 8, 2) := by decide +kernel
theorem dX3_common_20 : decode cX3_common 20 = .ok (.lload 6, 2) := by decide +kernel
theorem dX3_common_22 : decode cX3_common 22 = .ok (.lstore 4, 2) := by decide +kernel
theorem dX3_common_24 : decode cX3_common 24 = .ok (.lload 8, 2) := by decide +kernel
theorem dX3_common_26 : decode cX3_common 26 = .ok (.lstore 6, 2) := by decide +kernel
theorem dX3_common_28 : decode cX3_common 28 = .ok (.goto (-22), 3) := by decide +kernel
theorem dX3_common_31 : decode cX3_common 31 = .ok (.lload 4, 2) := by decide +kernel
theorem dX3_common_33 : decode cX3_common 33 = .ok (.lreturn, 1) := by decide +kernel
set_option maxRecDepth 20000 in
theorem ggX3_seek_X3_common : GoodIn wsX3_seek wsX3_common := goodIn_r _ [9] (by decide +kernel) (by decide +kernel)
set_option maxRecDepth 20000 in
theorem gX3_seek_X3_common : GoodIn wsX3_seek (va_wsS RX3 181 yX3_common wsX3_common) := goodIn_app (goodIn_of _ (by decide +kernel)) ggX3_seek_X3_common
theorem dX3_seek_0 : decode cX3_seek 0 = .ok (.iconst 0, 1) := by decide +kernel
theorem dX3_seek_1 : decode cX3_seek 1 = .ok (.istore_n 3, 1) := by decide +kernel
theorem dX3_seek_2 : decode cX3_seek 2 = .ok (.aload_n 0, 1) := by decide +kernel
theorem dX3_seek_3 : decode cX3_seek 3 = .ok (.ldc2_w 173, 3) := by decide +kernel
theorem dX3_seek_6 : decode cX3_seek 6 = .ok (.putfield 175, 3) := by decide +kernel
theorem dX3_seek_9 : decode cX3_seek 9 = .ok (.aload_n 0, 1) := by decide +kernel
theorem dX3_seek_10 : decode cX3_seek 10 = .ok (.ldc2_w 173, 3) := by decide +kernel
theorem dX3_seek_13 : decode cX3_seek 13 = .ok (.putfield 178, 3) := by decide +kernel
theorem dX3_seek_16 : decode cX3_seek 16 = .ok (.iconst 0, 1) := by decide +kernel
theorem dX3_seek_17 : decode cX3_seek 17 = .ok (.istore 4, 2) := by decide +kernel
theorem dX3_seek_19 : decode cX3_seek 19 = .ok (.iload 4, 2) := by decide +kernel
theorem dX3_seek_21 : decode cX3_seek 21 = .ok (.aload_n 0, 1) := by decide +kernel
theorem dX3_seek_22 : decode cX3_seek 22 = .ok (.getfield 7, 3) := by decide +kernel
theorem dX3_seek_25 : decode cX3_seek 25 = .ok (.iload_n 1, 1) := by decide +kernel
theorem dX3_seek_26 : decode cX3_seek 26 = .ok (.iaload, 1) := by decide +kernel
theorem dX3_seek_27 : decode cX3_seek 27 = .ok (.if_icmp .ge 186, 3) := by decide +kernel
theorem dX3_seek_30 : decode cX3_seek 30 = .ok (.bipush 96, 2) := by decide +kernel
theorem dX3_seek_32 : decode cX3_seek 32 = .ok (.iload_n 1, 1) := by decide +kernel
theorem dX3_seek_33 : decode cX3_seek 33 = .ok (.imul, 1) := by decide +kernel
theorem dX3_seek_34 : decode cX3_seek 34 = .ok (.iconst 4, 1) := by decide +kernel
theorem dX3_seek_35 : decode cX3_seek 35 = .ok (.iload 4, 2) := by decide +kernel
theorem dX3_seek_37 : decode cX3_seek 37 = .ok (.imul, 1) := by decide +kernel
theorem dX3_seek_38 : decode cX3_seek 38 = .ok (.iadd, 1) := by decide +kernel
theorem dX3_seek_39 : decode cX3_seek 39 = .ok (.istore 5, 2) := by decide +kernel
theorem dX3_seek_41 : decode cX3_seek 41 = .ok (.aload_n 0, 1) := by decide +kernel
theorem dX3_seek_42 : decode cX3_seek 42 = .ok (.getfield 13, 3) := by decide +kernel
theorem dX3_seek_45 : decode cX3_seek 45 = .ok (.iload 5, 2) := by decide +kernel
theorem dX3_seek_47 : decode cX3_seek 47 = .ok (.iaload, 1) := by decide +kernel
theorem dX3_seek_48 : decode cX3_seek 48 = .ok (.istore 6, 2) := by decide +kernel
theorem dX3_seek_50 : decode cX3_seek 50 = .ok (.aload_n 0, 1) := by decide +kernel
theorem dX3_seek_51 : decode cX3_seek 51 = .ok (.getfield 13, 3) := by decide +kernel
theorem dX3_seek_54 : decode cX3_seek 54 = .ok (.iload 5, 2) := by decide +kernel
theorem dX3_seek_56 : decode cX3_seek 56 = .ok (.iconst 2, 1) := by decide +kernel
theorem dX3_seek_57 : decode cX3_seek 57 = .ok (.iadd, 1) := by decide +kernel
theorem dX3_seek_58 : decode cX3_seek 58 = .ok (.iaload, 1) := by decide +kernel
theorem dX3_seek_59 : decode cX3_seek 59 = .ok (.istore 7, 2) := by decide +kernel
theorem dX3_seek_61 : decode cX3_seek 61 = .ok (.iload 6, 2) := by decide +kernel
theorem dX3_seek_63 : decode cX3_seek 63 = .ok (.iload 7, 2) := by decide +kernel
theorem dX3_seek_65 : decode cX3_seek 65 = .ok (.if_icmp .eq 142, 3) := by decide +kernel
theorem dX3_seek_68 : decode cX3_seek 68 = .ok (.aload_n 0, 1) := by decide +kernel
theorem dX3_seek_69 : decode cX3_seek 69 = .ok (.getfield 13, 3) := by decide +kernel
theorem dX3_seek_72 : decode cX3_seek 72 = .ok (.iload 5, 2) := by decide +kernel
theorem dX3_seek_74 : decode cX3_seek 74 = .ok (.iconst 3, 1) := by decide +kernel
theorem dX3_seek_75 : decode cX3_seek 75 = .ok (.iadd, 1) := by decide +kernel
theorem dX3_seek_76 : decode cX3_seek 76 = .ok (.iaload, 1) := by decide +kernel
theorem dX3_seek_77 : decode cX3_seek 77 = .ok (.aload_n 0, 1) := by decide +kernel
theorem dX3_seek_78 : decode cX3_seek 78 = .ok (.getfield 13, 3) := by decide +kernel
theorem dX3_seek_81 : decode cX3_seek 81 = .ok (.iload 5, 2) := by decide +kernel
theorem dX3_seek_83 : decode cX3_seek 83 = .ok (.iconst 1, 1) := by decide +kernel
theorem dX3_seek_84 : decode cX3_seek 84 = .ok (.iadd, 1) := by decide +kernel
theorem dX3_seek_85 : decode cX3_seek 85 = .ok (.iaload, 1) := by decide +kernel
theorem dX3_seek_86 : decode cX3_seek 86 = .ok (.isub, 1) := by decide +kernel
theorem dX3_seek_87 : decode cX3_seek 87 = .ok (.i2l, 1) := by decide +kernel
theorem dX3_seek_88 : decode cX3_seek 88 = .ok (.lstore 8, 2) := by decide +kernel
theorem dX3_seek_90 : decode cX3_seek 90 = .ok (.lconst 1, 1) := by decide +kernel
theorem dX3_seek_91 : decode cX3_seek 91 = .ok (.iload 7, 2) := by decide +kernel
theorem dX3_seek_93 : decode cX3_seek 93 = .ok (.lshl, 1) := by decide +kernel
theorem dX3_seek_94 : decode cX3_seek 94 = .ok (.lconst 1, 1) := by decide +kernel
theorem dX3_seek_95 : decode cX3_seek 95 = .ok (.iload 6, 2) := by decide +kernel
theorem dX3_seek_97 : decode cX3_seek 97 = .ok (.lshl, 1) := by decide +kernel
theorem dX3_seek_98 : decode cX3_seek 98 = .ok (.lsub, 1) := by decide +kernel
theorem dX3_seek_99 : decode cX3_seek 99 = .ok (.lstore 10, 2) := by decide +kernel
theorem dX3_seek_101 : decode cX3_seek 101 = .ok (.lload 10, 2) := by decide +kernel
theorem dX3_seek_103 : decode cX3_seek 103 = .ok (.lconst 0, 1) := by decide +kernel
theorem dX3_seek_104 : decode cX3_seek 104 = .ok (.lcmp, 1) := by decide +kernel
theorem dX3_seek_105 : decode cX3_seek 105 = .ok (.ifCond .ge 13, 3) := by decide +kernel
theorem dX3_seek_108 : decode cX3_seek 108 = .ok (.lload 8, 2) := by decide +kernel
theorem dX3_seek_110 : decode cX3_seek 110 = .ok (.lneg, 1) := by decide +kernel
theorem dX3_seek_111 : decode cX3_seek 111 = .ok (.lstore 8, 2) := by decide +kernel
theorem dX3_seek_113 : decode cX3_seek 113 = .ok (.lload 10, 2) := by decide +kernel
theorem dX3_seek_115 : decode cX3_seek 115 = .ok (.lneg, 1) := by decide +kernel
theorem dX3_seek_116 : decode cX3_seek 116 = .ok (.lstore 10, 2) := by decide +kernel
theorem dX3_seek_118 : decode cX3_seek 118 = .ok (.lload 8, 2) := by decide +kernel
theorem dX3_seek_120 : decode cX3_seek 120 = .ok (.iload 6, 2) := by decide +kernel
theorem dX3_seek_122 : decode cX3_seek 122 = .ok (.lshl, 1) := by decide +kernel
theorem dX3_seek_123 : decode cX3_seek 123 = .ok (.lstore 12, 2) := by decide +kernel
theorem dX3_seek_125 : decode cX3_seek 125 = .ok (.lload 8, 2) := by decide +kernel
theorem dX3_seek_127 : decode cX3_seek 127 = .ok (.lconst 0, 1) := by decide +kernel
theorem dX3_seek_128 : decode cX3_seek 128 = .ok (.lcmp, 1) := by decide +kernel
theorem dX3_seek_129 : decode cX3_seek 129 = .ok (.ifCond .lt 78, 3) := by decide +kernel
theorem dX3_seek_132 : decode cX3_seek 132 = .ok (.lload 12, 2) := by decide +kernel
theorem dX3_seek_134 : decode cX3_seek 134 = .ok (.aload_n 0, 1) := by decide +kernel
theorem dX3_seek_135 : decode cX3_seek 135 = .ok (.getfield 13, 3) := by decide +kernel
theorem dX3_seek_138 : decode cX3_seek 138 = .ok (.iload 5, 2) := by decide +kernel
theorem dX3_seek_140 : decode cX3_seek 140 = .ok (.iconst 1, 1) := by decide +kernel
theorem dX3_seek_141 : decode cX3_seek 141 = .ok (.iadd, 1) := by decide +kernel
theorem dX3_seek_142 : decode cX3_seek 142 = .ok (.iaload, 1) := by decide +kernel
theorem dX3_seek_143 : decode cX3_seek 143 = .ok (.i2l, 1) := by decide +kernel
theorem dX3_seek_144 : decode cX3_seek 144 = .ok (.lload 10, 2) := by decide +kernel
theorem dX3_seek_146 : decode cX3_seek 146 = .ok (.lmul, 1) := by decide +kernel
theorem dX3_seek_147 : decode cX3_seek 147 = .ok (.lcmp, 1) := by decide +kernel
theorem dX3_seek_148 : decode cX3_seek 148 = .ok (.ifCond .lt 59, 3) := by decide +kernel
theorem dX3_seek_151 : decode cX3_seek 151 = .ok (.lload 12, 2) := by decide +kernel
theorem dX3_seek_153 : decode cX3_seek 153 = .ok (.aload_n 0, 1) := by decide +kernel
theorem dX3_seek_154 : decode cX3_seek 154 = .ok (.getfield 13, 3) := by decide +kernel
theorem dX3_seek_157 : decode cX3_seek 157 = .ok (.iload 5, 2) := by decide +kernel
theorem dX3_seek_159 : decode cX3_seek 159 = .ok (.iconst 1, 1) := by decide +kernel
theorem dX3_seek_160 : decode cX3_seek 160 = .ok (.iadd, 1) := by decide +kernel
theorem dX3_seek_161 : decode cX3_seek 161 = .ok (.iaload, 1) := by decide +kernel
theorem dX3_seek_162 : decode cX3_seek 162 = .ok (.i2l, 1) := by decide +kernel
theorem dX3_seek_163 : decode cX3_seek 163 = .ok (.lconst 1, 1) := by decide +kernel
theorem dX3_seek_164 : decode cX3_seek 164 = .ok (.ladd, 1) := by decide +kernel
theorem dX3_seek_165 : decode cX3_seek 165 = .ok (.lload 10, 2) := by decide +kernel
theorem dX3_seek_167 : decode cX3_seek 167 = .ok (.lmul, 1) := by decide +kernel
theorem dX3_seek_168 : decode cX3_seek 168 = .ok (.lcmp, 1) := by decide +kernel
theorem dX3_seek_169 : decode cX3_seek 169 = .ok (.ifCond .ge 38, 3) := by decide +kernel
theorem dX3_seek_172 : decode cX3_seek 172 = .ok (.iload_n 3, 1) := by decide +kernel
theorem dX3_seek_173 : decode cX3_seek 173 = .ok (.iload_n 2, 1) := by decide +kernel
theorem dX3_seek_174 : decode cX3_seek 174 = .ok (.if_icmp .ne 30, 3) := by decide +kernel
theorem dX3_seek_177 : decode cX3_seek 177 = .ok (.lload 8, 2) := by decide +kernel
theorem dX3_seek_179 : decode cX3_seek 179 = .ok (.lload 10, 2) := by decide +kernel
theorem dX3_seek_181 : decode cX3_seek 181 = .ok (.invokestatic 181, 3) := by decide +kernel
theorem dX3_seek_184 : decode cX3_seek 184 = .ok (.lstore 14, 2) := by decide +kernel
theorem dX3_seek_186 : decode cX3_seek 186 = .ok (.aload_n 0, 1) := by decide +kernel
theorem dX3_seek_187 : decode cX3_seek 187 = .ok (.lload 8, 2) := by decide +kernel
theorem dX3_seek_189 : decode cX3_seek 189 = .ok (.lload 14, 2) := by decide +kernel
theorem dX3_seek_191 : decode cX3_seek 191 = .ok (.ldiv, 1) := by decide +kernel
theorem dX3_seek_192 : decode cX3_seek 192 = .ok (.putfield 175, 3) := by decide +kernel
theorem dX3_seek_195 : decode cX3_seek 195 = .ok (.aload_n 0, 1) := by decide +kernel
theorem dX3_seek_196 : decode cX3_seek 196 = .ok (.lload 10, 2) := by decide +kernel
theorem dX3_seek_198 : decode cX3_seek 198 = .ok (.lload 14, 2) := by decide +kernel
theorem dX3_seek_200 : decode cX3_seek 200 = .ok (.ldiv, 1) := by decide +kernel
theorem dX3_seek_201 : decode cX3_seek 201 = .ok (.putfield 178, 3) := by decide +kernel
theorem dX3_seek_204 : decode cX3_seek 204 = .ok (.iinc 3 1, 3) := by decide +kernel
theorem dX3_seek_207 : decode cX3_seek 207 = .ok (.iinc 4 1, 3) := by decide +kernel
theorem dX3_seek_210 : decode cX3_seek 210 = .ok (.goto (-191), 3) := by decide +kernel
theorem dX3_seek_213 : decode cX3_seek 213 = .ok (.iload_n 3, 1) := by decide +kernel
theorem dX3_seek_214 : decode cX3_seek 214 = .ok (.ireturn, 1) := by decide +kernel
set_option maxRecDepth 20000 in
theorem ggX3_single_X3_isMap : GoodIn wsX3_single wsX3_isMap := goodIn_r _ [5, 6, 7, 8, 4, 9, 10, 11, 12, 13, 25, 26, 27, 28, 29, 30, 31, 32, 33, 34, 35, 36, 37, 38, 39, 40, 41, 42, 43, 44] (by decide +kernel) (by decide +kernel)
set_option maxRecDepth 20000 in
theorem gX3_single_X3_isMap : GoodIn wsX3_single (wsV RX3 104 RX3 yX3_isMap wsX3_isMap) := goodIn_app (goodIn_of _ (by decide +kernel)) ggX3_single_X3_isMap
set_option maxRecDepth 20000 in
theorem ggX3_single_X3_seek : GoodIn wsX3_single wsX3_seek := goodIn_r _ [17, 18, 19, 20, 6, 21, 22, 23, 4, 24, 25, 26, 27, 28, 29, 30, 31, 32, 33, 34, 35, 36, 37, 38, 39, 40, 41, 42, 43, 44] (by decide +kernel) (by decide +kernel)
set_option maxRecDepth 20000 in
theorem gX3_single_X3_seek : GoodIn wsX3_single (wsV RX3 185 RX3 yX3_seek wsX3_seek) := goodIn_app (goodIn_of _ (by decide +kernel)) ggX3_single_X3_seek
theorem dX3_single_0 : decode cX3_single 0 = .ok (.aload_n 0, 1) := by decide +kernel
theorem dX3_single_1 : decode cX3_single 1 = .ok (.iload_n 1, 1) := by decide +kernel
theorem dX3_single_2 : decode cX3_single 2 = .ok (.invokevirtual 104, 3) := by decide +kernel
theorem dX3_single_5 : decode cX3_single 5 = .ok (.ifCond .eq 12, 3) := by decide +kernel
theorem dX3_single_8 : decode cX3_single 8 = .ok (.aload_n 0, 1) := by decide +kernel
theorem dX3_single_9 : decode cX3_single 9 = .ok (.iload_n 1, 1) := by decide +kernel
theorem dX3_single_10 : decode cX3_single 10 = .ok (.iconst (-1), 1) := by decide +kernel
theorem dX3_single_11 : decode cX3_single 11 = .ok (.invokevirtual 185, 3) := by decide +kernel
theorem dX3_single_14 : decode cX3_single 14 = .ok (.goto 5, 3) := by decide +kernel
theorem dX3_single_17 : decode cX3_single 17 = .ok (.bipush (-101), 2) := by decide +kernel
theorem dX3_single_19 : decode cX3_single 19 = .ok (.ireturn, 1) := by decide +kernel
set_option maxRecDepth 20000 in
theorem ggX3_point_X3_isMap : GoodIn wsX3_point wsX3_isMap := goodIn_r _ [9, 10, 11, 12, 8, 13, 14, 15, 16, 17, 27, 28, 29, 30, 31, 32, 33, 34, 35, 36, 37, 38, 39, 40, 41, 42, 43, 44, 45, 46] (by decide +kernel) (by decide +kernel)
set_option maxRecDepth 20000 in
theorem gX3_point_X3_isMap : GoodIn wsX3_point (wsV RX3 104 RX3 yX3_isMap wsX3_isMap) := goodIn_app (goodIn_of _ (by decide +kernel)) ggX3_point_X3_isMap
set_option maxRecDepth 20000 in
theorem ggX3_point_X3_in : GoodIn wsX3_point wsX3_in := goodIn_r _ [17] (by decide +kernel) (by decide +kernel)
set_option maxRecDepth 20000 in
theorem gX3_point_X3_in : GoodIn wsX3_point (va_wsS RX3 43 yX3_in wsX3_in) := goodIn_app (goodIn_of _ (by decide +kernel)) ggX3_point_X3_in
set_option maxRecDepth 20000 in
theorem ggX3_point_X3_seek : GoodIn wsX3_point wsX3_seek := goodIn_r _ [21, 22, 3, 4, 10, 23, 24, 25, 8, 26, 27, 28, 29, 30, 31, 32, 33, 34, 35, 36, 37, 38, 39, 40, 41, 42, 43, 44, 45, 46] (by decide +kernel) (by decide +kernel)
set_option maxRecDepth 20000 in
theorem gX3_point_X3_seek : GoodIn wsX3_point (wsV RX3 185 RX3 yX3_seek wsX3_seek) := goodIn_app (goodIn_of _ (by decide +kernel)) ggX3_point_X3_seek
theorem dX3_point_0 : decode cX3_point 0 = .ok (.aload_n 0, 1) := by decide +kernel
theorem dX3_point_1 : decode cX3_point 1 = .ok (.iload_n 1, 1) := by decide +kernel
theorem dX3_point_2 : decode cX3_point 2 = .ok (.invokevirtual 104, 3) := by decide +kernel
theorem dX3_point_5 : decode cX3_point 5 = .ok (.ifCond .ne 7, 3) := by decide +kernel
theorem dX3_point_8 : decode cX3_point 8 = .ok (.ldc2_w 188, 3) := by decide +kernel
theorem dX3_point_11 : decode cX3_point 11 = .ok (.lreturn, 1) := by decide +kernel
theorem dX3_point_12 : decode cX3_point 12 = .ok (.iload_n 3, 1) := by decide +kernel
theorem dX3_point_13 : decode cX3_point 13 = .ok (.i2l, 1) := by decide +kernel
theorem dX3_point_14 : decode cX3_point 14 = .ok (.lconst 0, 1) := by decide +kernel
theorem dX3_point_15 : decode cX3_point 15 = .ok (.lconst 1, 1) := by decide +kernel
theorem dX3_point_16 : decode cX3_point 16 = .ok (.invokestatic 43, 3) := by decide +kernel
theorem dX3_point_19 : decode cX3_point 19 = .ok (.ifCond .ne 7, 3) := by decide +kernel
theorem dX3_point_22 : decode cX3_point 22 = .ok (.ldc2_w 167, 3) := by decide +kernel
theorem dX3_point_25 : decode cX3_point 25 = .ok (.lreturn, 1) := by decide +kernel
theorem dX3_point_26 : decode cX3_point 26 = .ok (.aload_n 0, 1) := by decide +kernel
theorem dX3_point_27 : decode cX3_point 27 = .ok (.iload_n 1, 1) := by decide +kernel
theorem dX3_point_28 : decode cX3_point 28 = .ok (.iload_n 2, 1) := by decide +kernel
theorem dX3_point_29 : decode cX3_point 29 = .ok (.invokevirtual 185, 3) := by decide +kernel
theorem dX3_point_32 : decode cX3_point 32 = .ok (.pop, 1) := by decide +kernel
theorem dX3_point_33 : decode cX3_point 33 = .ok (.iload_n 3, 1) := by decide +kernel
theorem dX3_point_34 : decode cX3_point 34 = .ok (.ifCond .ne 10, 3) := by decide +kernel
theorem dX3_point_37 : decode cX3_point 37 = .ok (.aload_n 0, 1) := by decide +kernel
theorem dX3_point_38 : decode cX3_point 38 = .ok (.getfield 175, 3) := by decide +kernel
theorem dX3_point_41 : decode cX3_point 41 = .ok (.goto 7, 3) := by decide +kernel
theorem dX3_point_44 : decode cX3_point 44 = .ok (.aload_n 0, 1) := by decide +kernel
theorem dX3_point_45 : decode cX3_point 45 = .ok (.getfield 178, 3) := by decide +kernel
theorem dX3_point_48 : decode cX3_point 48 = .ok (.lreturn, 1) := by decide +kernel
set_option maxRecDepth 20000 in
theorem ggX3_count_X3_in : GoodIn wsX3_count wsX3_in := goodIn_r _ [8] (by decide +kernel) (by decide +kernel)
set_option maxRecDepth 20000 in
theorem gX3_count_X3_in : GoodIn wsX3_count (va_wsS RX3 43 yX3_in wsX3_in) := goodIn_app (goodIn_of _ (by decide +kernel)) ggX3_count_X3_in
set_option maxRecDepth 20000 in
theorem ggX3_count_X3_sortOf : GoodIn wsX3_count wsX3_sortOf := goodIn_r _ [12, 13, 14, 15, 16, 7, 17, 4, 18, 19, 20, 21, 22, 23, 24, 25, 26, 27, 28, 29, 30, 31, 32, 33, 34, 35, 36, 37, 38, 39, 40, 41, 42, 43, 44, 45, 46, 47] (by decide +kernel) (by decide +kernel)
set_option maxRecDepth 20000 in
theorem gX3_count_X3_sortOf : GoodIn wsX3_count (wsV RX3 126 RX3 yX3_sortOf wsX3_sortOf) := goodIn_app (goodIn_of _ (by decide +kernel)) ggX3_count_X3_sortOf
theorem dX3_count_0 : decode cX3_count 0 = .ok (.iload_n 1, 1) := by decide +kernel
theorem dX3_count_1 : decode cX3_count 1 = .ok (.iconst 1, 1) := by decide +kernel
theorem dX3_count_2 : decode cX3_count 2 = .ok (.if_icmp .ne 8, 3) := by decide +kernel
theorem dX3_count_5 : decode cX3_count 5 = .ok (.aload_n 0, 1) := by decide +kernel
theorem dX3_count_6 : decode cX3_count 6 = .ok (.getfield 88, 3) := by decide +kernel
theorem dX3_count_9 : decode cX3_count 9 = .ok (.ireturn, 1) := by decide +kernel
theorem dX3_count_10 : decode cX3_count 10 = .ok (.iload_n 1, 1) := by decide +kernel
theorem dX3_count_11 : decode cX3_count 11 = .ok (.ifCond .eq 20, 3) := by decide +kernel
theorem dX3_count_14 : decode cX3_count 14 = .ok (.iload_n 1, 1) := by decide +kernel
theorem dX3_count_15 : decode cX3_count 15 = .ok (.i2l, 1) := by decide +kernel
theorem dX3_count_16 : decode cX3_count 16 = .ok (.ldc2_w 65, 3) := by decide +kernel
theorem dX3_count_19 : decode cX3_count 19 = .ok (.ldc2_w 156, 3) := by decide +kernel
theorem dX3_count_22 : decode cX3_count 22 = .ok (.invokestatic 43, 3) := by decide +kernel
theorem dX3_count_25 : decode cX3_count 25 = .ok (.ifCond .ne 6, 3) := by decide +kernel
theorem dX3_count_28 : decode cX3_count 28 = .ok (.bipush (-102), 2) := by decide +kernel
theorem dX3_count_30 : decode cX3_count 30 = .ok (.ireturn, 1) := by decide +kernel
theorem dX3_count_31 : decode cX3_count 31 = .ok (.iconst 0, 1) := by decide +kernel
theorem dX3_count_32 : decode cX3_count 32 = .ok (.istore_n 2, 1) := by decide +kernel
theorem dX3_count_33 : decode cX3_count 33 = .ok (.iconst 0, 1) := by decide +kernel
theorem dX3_count_34 : decode cX3_count 34 = .ok (.istore_n 3, 1) := by decide +kernel
theorem dX3_count_35 : decode cX3_count 35 = .ok (.iload_n 3, 1) := by decide +kernel
theorem dX3_count_36 : decode cX3_count 36 = .ok (.bipush 12, 2) := by decide +kernel
theorem dX3_count_38 : decode cX3_count 38 = .ok (.if_icmp .ge 41, 3) := by decide +kernel
theorem dX3_count_41 : decode cX3_count 41 = .ok (.iload_n 2, 1) := by decide +kernel
theorem dX3_count_42 : decode cX3_count 42 = .ok (.aload_n 0, 1) := by decide +kernel
theorem dX3_count_43 : decode cX3_count 43 = .ok (.getfield 7, 3) := by decide +kernel
theorem dX3_count_46 : decode cX3_count 46 = .ok (.iload_n 3, 1) := by decide +kernel
theorem dX3_count_47 : decode cX3_count 47 = .ok (.iaload, 1) := by decide +kernel
theorem dX3_count_48 : decode cX3_count 48 = .ok (.ifCond .le 22, 3) := by decide +kernel
theorem dX3_count_51 : decode cX3_count 51 = .ok (.iload_n 1, 1) := by decide +kernel
theorem dX3_count_52 : decode cX3_count 52 = .ok (.ifCond .eq 14, 3) := by decide +kernel
theorem dX3_count_55 : decode cX3_count 55 = .ok (.aload_n 0, 1) := by decide +kernel
theorem dX3_count_56 : decode cX3_count 56 = .ok (.iload_n 3, 1) := by decide +kernel
theorem dX3_count_57 : decode cX3_count 57 = .ok (.invokevirtual 126, 3) := by decide +kernel
theorem dX3_count_60 : decode cX3_count 60 = .ok (.iload_n 1, 1) := by decide +kernel
theorem dX3_count_61 : decode cX3_count 61 = .ok (.iconst 2, 1) := by decide +kernel
theorem dX3_count_62 : decode cX3_count 62 = .ok (.isub, 1) := by decide +kernel
theorem dX3_count_63 : decode cX3_count 63 = .ok (.if_icmp .ne 7, 3) := by decide +kernel
theorem dX3_count_66 : decode cX3_count 66 = .ok (.iconst 1, 1) := by decide +kernel
theorem dX3_count_67 : decode cX3_count 67 = .ok (.goto 4, 3) := by decide +kernel
theorem dX3_count_70 : decode cX3_count 70 = .ok (.iconst 0, 1) := by decide +kernel
theorem dX3_count_71 : decode cX3_count 71 = .ok (.iadd, 1) := by decide +kernel
theorem dX3_count_72 : decode cX3_count 72 = .ok (.istore_n 2, 1) := by decide +kernel
theorem dX3_count_73 : decode cX3_count 73 = .ok (.iinc 3 1, 3) := by decide +kernel
theorem dX3_count_76 : decode cX3_count 76 = .ok (.goto (-41), 3) := by decide +kernel
theorem dX3_count_79 : decode cX3_count 79 = .ok (.iload_n 2, 1) := by decide +kernel
theorem dX3_count_80 : decode cX3_count 80 = .ok (.ireturn, 1) := by decide +kernel
theorem dX3_mix_0 : decode cX3_mix 0 = .ok (.aload_n 0, 1) := by decide +kernel
theorem dX3_mix_1 : decode cX3_mix 1 = .ok (.ldc2_w 190, 3) := by decide +kernel
theorem dX3_mix_4 : decode cX3_mix 4 = .ok (.aload_n 0, 1) := by decide +kernel
theorem dX3_mix_5 : decode cX3_mix 5 = .ok (.getfield 192, 3) := by decide +kernel
theorem dX3_mix_8 : decode cX3_mix 8 = .ok (.lmul, 1) := by decide +kernel
theorem dX3_mix_9 : decode cX3_mix 9 = .ok (.lload_n 1, 1) := by decide +kernel
theorem dX3_mix_10 : decode cX3_mix 10 = .ok (.ladd, 1) := by decide +kernel
theorem dX3_mix_11 : decode cX3_mix 11 = .ok (.putfield 192, 3) := by decide +kernel
theorem dX3_mix_14 : decode cX3_mix 14 = .ok (.return_, 1) := by decide +kernel
set_option maxRecDepth 20000 in
theorem ggX3_digest_X3_mix : GoodIn wsX3_digest wsX3_mix := goodIn_r _ [14, 15, 2, 16, 17, 18, 19, 20, 21, 22, 23, 24, 25, 26, 27, 28, 29, 30, 31, 32, 33, 34, 35] (by decide +kernel) (by decide +kernel)
set_option maxRecDepth 20000 in
theorem gX3_digest_X3_mix : GoodIn wsX3_digest (wsV RX3 197 RX3 yX3_mix wsX3_mix) := goodIn_app (goodIn_of _ (by decide +kernel)) ggX3_digest_X3_mix
theorem dX3_digest_0 : decode cX3_digest 0 = .ok (.aload_n 0, 1) := by decide +kernel
theorem dX3_digest_1 : decode cX3_digest 1 = .ok (.ldc2_w 195, 3) := by decide +kernel
theorem dX3_digest_4 : decode cX3_digest 4 = .ok (.putfield 192, 3) := by decide +kernel
theorem dX3_digest_7 : decode cX3_digest 7 = .ok (.iconst 0, 1) := by decide +kernel
theorem dX3_digest_8 : decode cX3_digest 8 = .ok (.istore_n 1, 1) := by decide +kernel
theorem dX3_digest_9 : decode cX3_digest 9 = .ok (.iload_n 1, 1) := by decide +kernel
theorem dX3_digest_10 : decode cX3_digest 10 = .ok (.bipush 12, 2) := by decide +kernel
theorem dX3_digest_12 : decode cX3_digest 12 = .ok (.if_icmp .ge 71, 3) := by decide +kernel
theorem dX3_digest_15 : decode cX3_digest 15 = .ok (.aload_n 0, 1) := by decide +kernel
theorem dX3_digest_16 : decode cX3_digest 16 = .ok (.aload_n 0, 1) := by decide +kernel
theorem dX3_digest_17 : decode cX3_digest 17 = .ok (.getfield 7, 3) := by decide +kernel
theorem dX3_digest_20 : decode cX3_digest 20 = .ok (.iload_n 1, 1) := by decide +kernel
theorem dX3_digest_21 : decode cX3_digest 21 = .ok (.iaload, 1) := by decide +kernel
theorem dX3_digest_22 : decode cX3_digest 22 = .ok (.ifCond .ne 9, 3) := by decide +kernel
theorem dX3_digest_25 : decode cX3_digest 25 = .ok (.ldc2_w 173, 3) := by decide +kernel
theorem dX3_digest_28 : decode cX3_digest 28 = .ok (.goto 10, 3) := by decide +kernel
theorem dX3_digest_31 : decode cX3_digest 31 = .ok (.aload_n 0, 1) := by decide +kernel
theorem dX3_digest_32 : decode cX3_digest 32 = .ok (.getfield 7, 3) := by decide +kernel
theorem dX3_digest_35 : decode cX3_digest 35 = .ok (.iload_n 1, 1) := by decide +kernel
theorem dX3_digest_36 : decode cX3_digest 36 = .ok (.iaload, 1) := by decide +kernel
theorem dX3_digest_37 : decode cX3_digest 37 = .ok (.i2l, 1) := by decide +kernel
theorem dX3_digest_38 : decode cX3_digest 38 = .ok (.invokevirtual 197, 3) := by decide +kernel
theorem dX3_digest_41 : decode cX3_digest 41 = .ok (.iconst 0, 1) := by decide +kernel
theorem dX3_digest_42 : decode cX3_digest 42 = .ok (.istore_n 2, 1) := by decide +kernel
theorem dX3_digest_43 : decode cX3_digest 43 = .ok (.iload_n 2, 1) := by decide +kernel
theorem dX3_digest_44 : decode cX3_digest 44 = .ok (.iconst 4, 1) := by decide +kernel
theorem dX3_digest_45 : decode cX3_digest 45 = .ok (.aload_n 0, 1) := by decide +kernel
theorem dX3_digest_46 : decode cX3_digest 46 = .ok (.getfield 7, 3) := by decide +kernel
theorem dX3_digest_49 : decode cX3_digest 49 = .ok (.iload_n 1, 1) := by decide +kernel
theorem dX3_digest_50 : decode cX3_digest 50 = .ok (.iaload, 1) := by decide +kernel
theorem dX3_digest_51 : decode cX3_digest 51 = .ok (.imul, 1) := by decide +kernel
theorem dX3_digest_52 : decode cX3_digest 52 = .ok (.if_icmp .ge 25, 3) := by decide +kernel
theorem dX3_digest_55 : decode cX3_digest 55 = .ok (.aload_n 0, 1) := by decide +kernel
theorem dX3_digest_56 : decode cX3_digest 56 = .ok (.aload_n 0, 1) := by decide +kernel
theorem dX3_digest_57 : decode cX3_digest 57 = .ok (.getfield 13, 3) := by decide +kernel
theorem dX3_digest_60 : decode cX3_digest 60 = .ok (.bipush 96, 2) := by decide +kernel
theorem dX3_digest_62 : decode cX3_digest 62 = .ok (.iload_n 1, 1) := by decide +kernel
theorem dX3_digest_63 : decode cX3_digest 63 = .ok (.imul, 1) := by decide +kernel
theorem dX3_digest_64 : decode cX3_digest 64 = .ok (.iload_n 2, 1) := by decide +kernel
theorem dX3_digest_65 : decode cX3_digest 65 = .ok (.iadd, 1) := by decide +kernel
theorem dX3_digest_66 : decode cX3_digest 66 = .ok (.iaload, 1) := by decide +kernel
theorem dX3_digest_67 : decode cX3_digest 67 = .ok (.i2l, 1) := by decide +kernel
theorem dX3_digest_68 : decode cX3_digest 68 = .ok (.invokevirtual 197, 3) := by decide +kernel
theorem dX3_digest_71 : decode cX3_digest 71 = .ok (.iinc 2 1, 3) := by decide +kernel
theorem dX3_digest_74 : decode cX3_digest 74 = .ok (.goto (-31), 3) := by decide +kernel
theorem dX3_digest_77 : decode cX3_digest 77 = .ok (.iinc 1 1, 3) := by decide +kernel
theorem dX3_digest_80 : decode cX3_digest 80 = .ok (.goto (-71), 3) := by decide +kernel
theorem dX3_digest_83 : decode cX3_digest 83 = .ok (.iconst 0, 1) := by decide +kernel
theorem dX3_digest_84 : decode cX3_digest 84 = .ok (.istore_n 1, 1) := by decide +kernel
theorem dX3_digest_85 : decode cX3_digest 85 = .ok (.iload_n 1, 1) := by decide +kernel
theorem dX3_digest_86 : decode cX3_digest 86 = .ok (.iconst 4, 1) := by decide +kernel
theorem dX3_digest_87 : decode cX3_digest 87 = .ok (.aload_n 0, 1) := by decide +kernel
theorem dX3_digest_88 : decode cX3_digest 88 = .ok (.getfield 88, 3) := by decide +kernel
theorem dX3_digest_91 : decode cX3_digest 91 = .ok (.imul, 1) := by decide +kernel
theorem dX3_digest_92 : decode cX3_digest 92 = .ok (.if_icmp .ge 20, 3) := by decide +kernel
theorem dX3_digest_95 : decode cX3_digest 95 = .ok (.aload_n 0, 1) := by decide +kernel
theorem dX3_digest_96 : decode cX3_digest 96 = .ok (.aload_n 0, 1) := by decide +kernel
theorem dX3_digest_97 : decode cX3_digest 97 = .ok (.getfield 16, 3) := by decide +kernel
theorem dX3_digest_100 : decode cX3_digest 100 = .ok (.iload_n 1, 1) := by decide +kernel
theorem dX3_digest_101 : decode cX3_digest 101 = .ok (.iaload, 1) := by decide +kernel
theorem dX3_digest_102 : decode cX3_digest 102 = .ok (.i2l, 1) := by decide +kernel
theorem dX3_digest_103 : decode cX3_digest 103 = .ok (.invokevirtual 197, 3) := by decide +kernel
theorem dX3_digest_106 : decode cX3_digest 106 = .ok (.iinc 1 1, 3) := by decide +kernel
theorem dX3_digest_109 : decode cX3_digest 109 = .ok (.goto (-24), 3) := by decide +kernel
theorem dX3_digest_112 : decode cX3_digest 112 = .ok (.aload_n 0, 1) := by decide +kernel
theorem dX3_digest_113 : decode cX3_digest 113 = .ok (.aload_n 0, 1) := by decide +kernel
theorem dX3_digest_114 : decode cX3_digest 114 = .ok (.getfield 160, 3) := by decide +kernel
theorem dX3_digest_117 : decode cX3_digest 117 = .ok (.i2l, 1) := by decide +kernel
theorem dX3_digest_118 : decode cX3_digest 118 = .ok (.invokevirtual 197, 3) := by decide +kernel
theorem dX3_digest_121 : decode cX3_digest 121 = .ok (.aload_n 0, 1) := by decide +kernel
theorem dX3_digest_122 : decode cX3_digest 122 = .ok (.aload_n 0, 1) := by decide +kernel
theorem dX3_digest_123 : decode cX3_digest 123 = .ok (.getfield 163, 3) := by decide +kernel
theorem dX3_digest_126 : decode cX3_digest 126 = .ok (.invokevirtual 197, 3) := by decide +kernel
theorem dX3_digest_129 : decode cX3_digest 129 = .ok (.aload_n 0, 1) := by decide +kernel
theorem dX3_digest_130 : decode cX3_digest 130 = .ok (.getfield 192, 3) := by decide +kernel
theorem dX3_digest_133 : decode cX3_digest 133 = .ok (.lreturn, 1) := by decide +kernel
theorem dJ9_abs_0f7a4_0 : decode cJ9_abs_0f7a4 0 = .ok (.iload_n 0, 1) := by decide +kernel
theorem dJ9_abs_0f7a4_1 : decode cJ9_abs_0f7a4 1 = .ok (.ifCond .ge 8, 3) := by decide +kernel
theorem dJ9_abs_0f7a4_4 : decode cJ9_abs_0f7a4 4 = .ok (.iload_n 0, 1) := by decide +kernel
theorem dJ9_abs_0f7a4_5 : decode cJ9_abs_0f7a4 5 = .ok (.ineg, 1) := by decide +kernel
theorem dJ9_abs_0f7a4_6 : decode cJ9_abs_0f7a4 6 = .ok (.goto 4, 3) := by decide +kernel
theorem dJ9_abs_0f7a4_9 : decode cJ9_abs_0f7a4 9 = .ok (.iload_n 0, 1) := by decide +kernel
theorem dJ9_abs_0f7a4_10 : decode cJ9_abs_0f7a4 10 = .ok (.ireturn, 1) := by decide +kernel
theorem dJ9_abs_067f4_0 : decode cJ9_abs_067f4 0 = .ok (.lload_n 0, 1) := by decide +kernel
theorem dJ9_abs_067f4_1 : decode cJ9_abs_067f4 1 = .ok (.lconst 0, 1) := by decide +kernel
theorem dJ9_abs_067f4_2 : decode cJ9_abs_067f4 2 = .ok (.lcmp, 1) := by decide +kernel
theorem dJ9_abs_067f4_3 : decode cJ9_abs_067f4 3 = .ok (.ifCond .ge 8, 3) := by decide +kernel
theorem dJ9_abs_067f4_6 : decode cJ9_abs_067f4 6 = .ok (.lload_n 0, 1) := by decide +kernel
theorem dJ9_abs_067f4_7 : decode cJ9_abs_067f4 7 = .ok (.lneg, 1) := by decide +kernel
theorem dJ9_abs_067f4_8 : decode cJ9_abs_067f4 8 = .ok (.goto 4, 3) := by decide +kernel
theorem dJ9_abs_067f4_11 : decode cJ9_abs_067f4 11 = .ok (.lload_n 0, 1) := by decide +kernel
theorem dJ9_abs_067f4_12 : decode cJ9_abs_067f4 12 = .ok (.lreturn, 1) := by decide +kernel
theorem dJ9_max_7cf53_0 : decode cJ9_max_7cf53 0 = .ok (.iload_n 0, 1) := by decide +kernel
theorem dJ9_max_7cf53_1 : decode cJ9_max_7cf53 1 = .ok (.iload_n 1, 1) := by decide +kernel
theorem dJ9_max_7cf53_2 : decode cJ9_max_7cf53 2 = .ok (.if_icmp .lt 7, 3) := by decide +kernel
theorem dJ9_max_7cf53_5 : decode cJ9_max_7cf53 5 = .ok (.iload_n 0, 1) := by decide +kernel
theorem dJ9_max_7cf53_6 : decode cJ9_max_7cf53 6 = .ok (.goto 4, 3) := by decide +kernel
theorem dJ9_max_7cf53_9 : decode cJ9_max_7cf53 9 = .ok (.iload_n 1, 1) := by decide +kernel
theorem dJ9_max_7cf53_10 : decode cJ9_max_7cf53 10 = .ok (.ireturn, 1) := by decide +kernel
theorem dJ9_min_7cf53_0 : decode cJ9_min_7cf53 0 = .ok (.iload_n 0, 1) := by decide +kernel
theorem dJ9_min_7cf53_1 : decode cJ9_min_7cf53 1 = .ok (.iload_n 1, 1) := by decide +kernel
theorem dJ9_min_7cf53_2 : decode cJ9_min_7cf53 2 = .ok (.if_icmp .gt 7, 3) := by decide +kernel
theorem dJ9_min_7cf53_5 : decode cJ9_min_7cf53 5 = .ok (.iload_n 0, 1) := by decide +kernel
theorem dJ9_min_7cf53_6 : decode cJ9_min_7cf53 6 = .ok (.goto 4, 3) := by decide +kernel
theorem dJ9_min_7cf53_9 : decode cJ9_min_7cf53 9 = .ok (.iload_n 1, 1) := by decide +kernel
theorem dJ9_min_7cf53_10 : decode cJ9_min_7cf53 10 = .ok (.ireturn, 1) := by decide +kernel
theorem dJxa1e45_init_da8c8_0 : decode cJxa1e45_init_da8c8 0 = .ok (.aload_n 0, 1) := by decide +kernel
theorem dJxa1e45_init_da8c8_1 : decode cJxa1e45_init_da8c8 1 = .ok (.invokespecial 1, 3) := by decide +kernel
theorem dJxa1e45_init_da8c8_4 : decode cJxa1e45_init_da8c8 4 = .ok (.return_, 1) := by decide +kernel
set_option maxRecDepth 20000 in
theorem ggJxc12de_init_da8c8_Jxa1e45_init_da8c8 : GoodIn wsJxc12de_init_da8c8 wsJxa1e45_init_da8c8 := goodIn_r _ [5, 6, 7, 8] (by decide +kernel) (by decide +kernel)
set_option maxRecDepth 20000 in
theorem gJxc12de_init_da8c8_Jxa1e45_init_da8c8 : GoodIn wsJxc12de_init_da8c8 (wsJxa1e45_init_da8c8) := ggJxc12de_init_da8c8_Jxa1e45_init_da8c8
theorem dJxc12de_init_da8c8_0 : decode cJxc12de_init_da8c8 0 = .ok (.aload_n 0, 1) := by decide +kernel
theorem dJxc12de_init_da8c8_1 : decode cJxc12de_init_da8c8 1 = .ok (.invokespecial 1, 3) := by decide +kernel
theorem dJxc12de_init_da8c8_4 : decode cJxc12de_init_da8c8 4 = .ok (.aload_n 0, 1) := by decide +kernel
theorem dJxc12de_init_da8c8_5 : decode cJxc12de_init_da8c8 5 = .ok (.iconst 0, 1) := by decide +kernel
theorem dJxc12de_init_da8c8_6 : decode cJxc12de_init_da8c8 6 = .ok (.putfield 7, 3) := by decide +kernel
theorem dJxc12de_init_da8c8_9 : decode cJxc12de_init_da8c8 9 = .ok (.return_, 1) := by decide +kernel
set_option maxRecDepth 20000 in
theorem ggJx4a65c_init_da8c8_Jxc12de_init_da8c8 : GoodIn wsJx4a65c_init_da8c8 wsJxc12de_init_da8c8 := goodIn_r _ [6, 7, 8, 9, 10, 11, 12, 13, 14, 15, 16, 17] (by decide +kernel) (by decide +kernel)
set_option maxRecDepth 20000 in
theorem gJx4a65c_init_da8c8_Jxc12de_init_da8c8 : GoodIn wsJx4a65c_init_da8c8 (wsJxc12de_init_da8c8) := ggJx4a65c_init_da8c8_Jxc12de_init_da8c8
theorem dJx4a65c_init_da8c8_0 : decode cJx4a65c_init_da8c8 0 = .ok (.aload_n 0, 1) := by decide +kernel
theorem dJx4a65c_init_da8c8_1 : decode cJx4a65c_init_da8c8 1 = .ok (.invokespecial 1, 3) := by decide +kernel
theorem dJx4a65c_init_da8c8_4 : decode cJx4a65c_init_da8c8 4 = .ok (.aload_n 0, 1) := by decide +kernel
theorem dJx4a65c_init_da8c8_5 : decode cJx4a65c_init_da8c8 5 = .ok (.getstatic 39, 3) := by decide +kernel
theorem dJx4a65c_init_da8c8_8 : decode cJx4a65c_init_da8c8 8 = .ok (.putfield 9, 3) := by decide +kernel
theorem dJx4a65c_init_da8c8_11 : decode cJx4a65c_init_da8c8 11 = .ok (.return_, 1) := by decide +kernel
set_option maxRecDepth 20000 in
theorem ggJx4a65c_grow_92f84_J8_newLength_cabcc : GoodIn wsJx4a65c_grow_92f84 wsJ8_newLength_cabcc := goodIn_r _ [11, 12, 4, 5, 6, 13, 14, 15, 10, 16] (by decide +kernel) (by decide +kernel)
set_option maxRecDepth 20000 in
theorem gJx4a65c_grow_92f84_J8_newLength_cabcc : GoodIn wsJx4a65c_grow_92f84 (va_wsS RJx4a65c 73 yJ8_newLength_cabcc wsJ8_newLength_cabcc) := goodIn_app (goodIn_of _ (by decide +kernel)) ggJx4a65c_grow_92f84_J8_newLength_cabcc
set_option maxRecDepth 20000 in
theorem ggJx4a65c_grow_92f84_J7_copyOf_1904c : GoodIn wsJx4a65c_grow_92f84 wsJ7_copyOf_1904c := goodIn_r _ [20, 21, 22, 23, 24, 25, 26, 19, 27, 28, 29, 30, 31, 5, 32, 33, 34, 35, 36] (by decide +kernel) (by decide +kernel)
set_option maxRecDepth 20000 in
theorem gJx4a65c_grow_92f84_J7_copyOf_1904c : GoodIn wsJx4a65c_grow_92f84 (va_wsS RJx4a65c 66 yJ7_copyOf_1904c wsJ7_copyOf_1904c) := goodIn_app (goodIn_of _ (by decide +kernel)) ggJx4a65c_grow_92f84_J7_copyOf_1904c
theorem dJx4a65c_grow_92f84_0 : decode cJx4a65c_grow_92f84 0 = .ok (.aload_n 0, 1) := by decide +kernel
theorem dJx4a65c_grow_92f84_1 : decode cJx4a65c_grow_92f84 1 = .ok (.getfield 9, 3) := by decide +kernel
theorem dJx4a65c_grow_92f84_4 : decode cJx4a65c_grow_92f84 4 = .ok (.arraylength, 1) := by decide +kernel
theorem dJx4a65c_grow_92f84_5 : decode cJx4a65c_grow_92f84 5 = .ok (.istore_n 2, 1) := by decide +kernel
theorem dJx4a65c_grow_92f84_6 : decode cJx4a65c_grow_92f84 6 = .ok (.iload_n 2, 1) := by decide +kernel
theorem dJx4a65c_grow_92f84_7 : decode cJx4a65c_grow_92f84 7 = .ok (.ifCond .gt 13, 3) := by decide +kernel
theorem dJx4a65c_grow_92f84_10 : decode cJx4a65c_grow_92f84 10 = .ok (.aload_n 0, 1) := by decide +kernel
theorem dJx4a65c_grow_92f84_11 : decode cJx4a65c_grow_92f84 11 = .ok (.getfield 9, 3) := by decide +kernel
theorem dJx4a65c_grow_92f84_14 : decode cJx4a65c_grow_92f84 14 = .ok (.getstatic 39, 3) := by decide +kernel
theorem dJx4a65c_grow_92f84_17 : decode cJx4a65c_grow_92f84 17 = .ok (.if_acmp .eq 28, 3) := by decide +kernel
theorem dJx4a65c_grow_92f84_20 : decode cJx4a65c_grow_92f84 20 = .ok (.iload_n 2, 1) := by decide +kernel
theorem dJx4a65c_grow_92f84_21 : decode cJx4a65c_grow_92f84 21 = .ok (.iload_n 1, 1) := by decide +kernel
theorem dJx4a65c_grow_92f84_22 : decode cJx4a65c_grow_92f84 22 = .ok (.iload_n 2, 1) := by decide +kernel
theorem dJx4a65c_grow_92f84_23 : decode cJx4a65c_grow_92f84 23 = .ok (.isub, 1) := by decide +kernel
theorem dJx4a65c_grow_92f84_24 : decode cJx4a65c_grow_92f84 24 = .ok (.iload_n 2, 1) := by decide +kernel
theorem dJx4a65c_grow_92f84_25 : decode cJx4a65c_grow_92f84 25 = .ok (.iconst 1, 1) := by decide +kernel
theorem dJx4a65c_grow_92f84_26 : decode cJx4a65c_grow_92f84 26 = .ok (.ishr, 1) := by decide +kernel
theorem dJx4a65c_grow_92f84_27 : decode cJx4a65c_grow_92f84 27 = .ok (.invokestatic 73, 3) := by decide +kernel
theorem dJx4a65c_grow_92f84_30 : decode cJx4a65c_grow_92f84 30 = .ok (.istore_n 3, 1) := by decide +kernel
theorem dJx4a65c_grow_92f84_31 : decode cJx4a65c_grow_92f84 31 = .ok (.aload_n 0, 1) := by decide +kernel
theorem dJx4a65c_grow_92f84_32 : decode cJx4a65c_grow_92f84 32 = .ok (.aload_n 0, 1) := by decide +kernel
theorem dJx4a65c_grow_92f84_33 : decode cJx4a65c_grow_92f84 33 = .ok (.getfield 9, 3) := by decide +kernel
theorem dJx4a65c_grow_92f84_36 : decode cJx4a65c_grow_92f84 36 = .ok (.iload_n 3, 1) := by decide +kernel
theorem dJx4a65c_grow_92f84_37 : decode cJx4a65c_grow_92f84 37 = .ok (.invokestatic 66, 3) := by decide +kernel
theorem dJx4a65c_grow_92f84_40 : decode cJx4a65c_grow_92f84 40 = .ok (.dup_x1, 1) := by decide +kernel
theorem dJx4a65c_grow_92f84_41 : decode cJx4a65c_grow_92f84 41 = .ok (.putfield 9, 3) := by decide +kernel
theorem dJx4a65c_grow_92f84_44 : decode cJx4a65c_grow_92f84 44 = .ok (.areturn, 1) := by decide +kernel
theorem dJx4a65c_grow_92f84_45 : decode cJx4a65c_grow_92f84 45 = .ok (.aload_n 0, 1) := by decide +kernel
theorem dJx4a65c_grow_92f84_46 : decode cJx4a65c_grow_92f84 46 = .ok (.bipush 10, 2) := by decide +kernel
theorem dJx4a65c_grow_92f84_48 : decode cJx4a65c_grow_92f84 48 = .ok (.iload_n 1, 1) := by decide +kernel
theorem dJx4a65c_grow_92f84_49 : decode cJx4a65c_grow_92f84 49 = .ok (.invokestatic 79, 3) := by decide +kernel
theorem dJx4a65c_grow_92f84_52 : decode cJx4a65c_grow_92f84 52 = .ok (.anewarray 7, 3) := by decide +kernel
theorem dJx4a65c_grow_92f84_55 : decode cJx4a65c_grow_92f84 55 = .ok (.dup_x1, 1) := by decide +kernel
theorem dJx4a65c_grow_92f84_56 : decode cJx4a65c_grow_92f84 56 = .ok (.putfield 9, 3) := by decide +kernel
theorem dJx4a65c_grow_92f84_59 : decode cJx4a65c_grow_92f84 59 = .ok (.areturn, 1) := by decide +kernel
set_option maxRecDepth 20000 in
theorem ggJx4a65c_grow_d5877_Jx4a65c_grow_92f84 : GoodIn wsJx4a65c_grow_d5877 wsJx4a65c_grow_92f84 := goodIn_r _ [6, 7, 8, 9, 10, 11, 12, 13, 14, 15, 16, 17, 18, 19, 20, 21, 22, 23, 24, 25, 26, 27, 28, 29, 30, 31, 32, 33, 34, 35, 36, 37, 38, 39, 40, 41, 42, 43, 44, 45] (by decide +kernel) (by decide +kernel)
set_option maxRecDepth 20000 in
theorem gJx4a65c_grow_d5877_Jx4a65c_grow_92f84 : GoodIn wsJx4a65c_grow_d5877 (wsV RJx4a65c 69 RJx4a65c yJx4a65c_grow_92f84 wsJx4a65c_grow_92f84) := goodIn_app (goodIn_of _ (by decide +kernel)) ggJx4a65c_grow_d5877_Jx4a65c_grow_92f84
theorem dJx4a65c_grow_d5877_0 : decode cJx4a65c_grow_d5877 0 = .ok (.aload_n 0, 1) := by decide +kernel
theorem dJx4a65c_grow_d5877_1 : decode cJx4a65c_grow_d5877 1 = .ok (.aload_n 0, 1) := by decide +kernel
theorem dJx4a65c_grow_d5877_2 : decode cJx4a65c_grow_d5877 2 = .ok (.getfield 48, 3) := by decide +kernel
theorem dJx4a65c_grow_d5877_5 : decode cJx4a65c_grow_d5877 5 = .ok (.iconst 1, 1) := by decide +kernel
theorem dJx4a65c_grow_d5877_6 : decode cJx4a65c_grow_d5877 6 = .ok (.iadd, 1) := by decide +kernel
theorem dJx4a65c_grow_d5877_7 : decode cJx4a65c_grow_d5877 7 = .ok (.invokevirtual 69, 3) := by decide +kernel
theorem dJx4a65c_grow_d5877_10 : decode cJx4a65c_grow_d5877 10 = .ok (.areturn, 1) := by decide +kernel
theorem dJx4a65c_size_8abf5_0 : decode cJx4a65c_size_8abf5 0 = .ok (.aload_n 0, 1) := by decide +kernel
theorem dJx4a65c_size_8abf5_1 : decode cJx4a65c_size_8abf5 1 = .ok (.getfield 48, 3) := by decide +kernel
theorem dJx4a65c_size_8abf5_4 : decode cJx4a65c_size_8abf5 4 = .ok (.ireturn, 1) := by decide +kernel
theorem dJx4a65c_elementData_915e3_0 : decode cJx4a65c_elementData_915e3 0 = .ok (.aload_n 0, 1) := by decide +kernel
theorem dJx4a65c_elementData_915e3_1 : decode cJx4a65c_elementData_915e3 1 = .ok (.getfield 9, 3) := by decide +kernel
theorem dJx4a65c_elementData_915e3_4 : decode cJx4a65c_elementData_915e3 4 = .ok (.iload_n 1, 1) := by decide +kernel
theorem dJx4a65c_elementData_915e3_5 : decode cJx4a65c_elementData_915e3 5 = .ok (.aaload, 1) := by decide +kernel
theorem dJx4a65c_elementData_915e3_6 : decode cJx4a65c_elementData_915e3 6 = .ok (.areturn, 1) := by decide +kernel
set_option maxRecDepth 20000 in
theorem ggJx4a65c_get_915e3_J15_checkIndex_7cf53 : GoodIn wsJx4a65c_get_915e3 wsJ15_checkIndex_7cf53 := goodIn_r _ [5, 6, 7, 8, 9] (by decide +kernel) (by decide +kernel)
set_option maxRecDepth 20000 in
theorem gJx4a65c_get_915e3_J15_checkIndex_7cf53 : GoodIn wsJx4a65c_get_915e3 (va_wsS RJx4a65c 118 yJ15_checkIndex_7cf53 wsJ15_checkIndex_7cf53) := goodIn_app (goodIn_of _ (by decide +kernel)) ggJx4a65c_get_915e3_J15_checkIndex_7cf53
set_option maxRecDepth 20000 in
theorem ggJx4a65c_get_915e3_Jx4a65c_elementData_915e3 : GoodIn wsJx4a65c_get_915e3 wsJx4a65c_elementData_915e3 := goodIn_r _ [14, 15, 16, 17, 18] (by decide +kernel) (by decide +kernel)
set_option maxRecDepth 20000 in
theorem gJx4a65c_get_915e3_Jx4a65c_elementData_915e3 : GoodIn wsJx4a65c_get_915e3 (wsV RJx4a65c 123 RJx4a65c yJx4a65c_elementData_915e3 wsJx4a65c_elementData_915e3) := goodIn_app (goodIn_of _ (by decide +kernel)) ggJx4a65c_get_915e3_Jx4a65c_elementData_915e3
theorem dJx4a65c_get_915e3_0 : decode cJx4a65c_get_915e3 0 = .ok (.iload_n 1, 1) := by decide +kernel
theorem dJx4a65c_get_915e3_1 : decode cJx4a65c_get_915e3 1 = .ok (.aload_n 0, 1) := by decide +kernel
theorem dJx4a65c_get_915e3_2 : decode cJx4a65c_get_915e3 2 = .ok (.getfield 48, 3) := by decide +kernel
theorem dJx4a65c_get_915e3_5 : decode cJx4a65c_get_915e3 5 = .ok (.invokestatic 118, 3) := by decide +kernel
theorem dJx4a65c_get_915e3_8 : decode cJx4a65c_get_915e3 8 = .ok (.pop, 1) := by decide +kernel
theorem dJx4a65c_get_915e3_9 : decode cJx4a65c_get_915e3 9 = .ok (.aload_n 0, 1) := by decide +kernel
theorem dJx4a65c_get_915e3_10 : decode cJx4a65c_get_915e3 10 = .ok (.iload_n 1, 1) := by decide +kernel
theorem dJx4a65c_get_915e3_11 : decode cJx4a65c_get_915e3 11 = .ok (.invokevirtual 123, 3) := by decide +kernel
theorem dJx4a65c_get_915e3_14 : decode cJx4a65c_get_915e3 14 = .ok (.areturn, 1) := by decide +kernel
set_option maxRecDepth 20000 in
theorem ggJx4a65c_add_72be8_Jx4a65c_grow_d5877 : GoodIn wsJx4a65c_add_72be8 wsJx4a65c_grow_d5877 := goodIn_r _ [6, 1, 7, 8, 9, 5, 10, 11, 12, 13, 14, 15, 16, 17, 18, 19, 20, 21, 22, 23, 24, 25, 26, 27, 28, 29, 30, 31, 32, 33, 34, 35, 36, 37, 38, 39, 40, 41, 42, 43, 44, 45, 46, 47, 48, 49] (by decide +kernel) (by decide +kernel)
set_option maxRecDepth 20000 in
theorem gJx4a65c_add_72be8_Jx4a65c_grow_d5877 : GoodIn wsJx4a65c_add_72be8 (wsV RJx4a65c 129 RJx4a65c yJx4a65c_grow_d5877 wsJx4a65c_grow_d5877) := goodIn_app (goodIn_of _ (by decide +kernel)) ggJx4a65c_add_72be8_Jx4a65c_grow_d5877
theorem dJx4a65c_add_72be8_0 : decode cJx4a65c_add_72be8 0 = .ok (.iload_n 3, 1) := by decide +kernel
theorem dJx4a65c_add_72be8_1 : decode cJx4a65c_add_72be8 1 = .ok (.aload_n 2, 1) := by decide +kernel
theorem dJx4a65c_add_72be8_2 : decode cJx4a65c_add_72be8 2 = .ok (.arraylength, 1) := by decide +kernel
theorem dJx4a65c_add_72be8_3 : decode cJx4a65c_add_72be8 3 = .ok (.if_icmp .ne 8, 3) := by decide +kernel
theorem dJx4a65c_add_72be8_6 : decode cJx4a65c_add_72be8 6 = .ok (.aload_n 0, 1) := by decide +kernel
theorem dJx4a65c_add_72be8_7 : decode cJx4a65c_add_72be8 7 = .ok (.invokevirtual 129, 3) := by decide +kernel
theorem dJx4a65c_add_72be8_10 : decode cJx4a65c_add_72be8 10 = .ok (.astore_n 2, 1) := by decide +kernel
theorem dJx4a65c_add_72be8_11 : decode cJx4a65c_add_72be8 11 = .ok (.aload_n 2, 1) := by decide +kernel
theorem dJx4a65c_add_72be8_12 : decode cJx4a65c_add_72be8 12 = .ok (.iload_n 3, 1) := by decide +kernel
theorem dJx4a65c_add_72be8_13 : decode cJx4a65c_add_72be8 13 = .ok (.aload_n 1, 1) := by decide +kernel
theorem dJx4a65c_add_72be8_14 : decode cJx4a65c_add_72be8 14 = .ok (.aastore, 1) := by decide +kernel
theorem dJx4a65c_add_72be8_15 : decode cJx4a65c_add_72be8 15 = .ok (.aload_n 0, 1) := by decide +kernel
theorem dJx4a65c_add_72be8_16 : decode cJx4a65c_add_72be8 16 = .ok (.iload_n 3, 1) := by decide +kernel
theorem dJx4a65c_add_72be8_17 : decode cJx4a65c_add_72be8 17 = .ok (.iconst 1, 1) := by decide +kernel
theorem dJx4a65c_add_72be8_18 : decode cJx4a65c_add_72be8 18 = .ok (.iadd, 1) := by decide +kernel
theorem dJx4a65c_add_72be8_19 : decode cJx4a65c_add_72be8 19 = .ok (.putfield 48, 3) := by decide +kernel
theorem dJx4a65c_add_72be8_22 : decode cJx4a65c_add_72be8 22 = .ok (.return_, 1) := by decide +kernel
set_option maxRecDepth 20000 in
theorem ggJx4a65c_add_9ea2d_Jx4a65c_add_72be8 : GoodIn wsJx4a65c_add_9ea2d wsJx4a65c_add_72be8 := goodIn_r _ [9, 4, 10, 11, 12, 8, 13, 14, 15, 16, 17, 3, 18, 19, 20, 21, 22, 23, 24, 25, 26, 27, 28, 29, 30, 31, 32, 33, 34, 35, 36, 37, 38, 39, 40, 41, 42, 43, 44, 45, 46, 47, 48, 49, 50, 51, 52, 53, 54, 55] (by decide +kernel) (by decide +kernel)
set_option maxRecDepth 20000 in
theorem gJx4a65c_add_9ea2d_Jx4a65c_add_72be8 : GoodIn wsJx4a65c_add_9ea2d (wsV RJx4a65c 131 RJx4a65c yJx4a65c_add_72be8 wsJx4a65c_add_72be8) := goodIn_app (goodIn_of _ (by decide +kernel)) ggJx4a65c_add_9ea2d_Jx4a65c_add_72be8
theorem dJx4a65c_add_9ea2d_0 : decode cJx4a65c_add_9ea2d 0 = .ok (.aload_n 0, 1) := by decide +kernel
theorem dJx4a65c_add_9ea2d_1 : decode cJx4a65c_add_9ea2d 1 = .ok (.dup, 1) := by decide +kernel
theorem dJx4a65c_add_9ea2d_2 : decode cJx4a65c_add_9ea2d 2 = .ok (.getfield 63, 3) := by decide +kernel
theorem dJx4a65c_add_9ea2d_5 : decode cJx4a65c_add_9ea2d 5 = .ok (.iconst 1, 1) := by decide +kernel
theorem dJx4a65c_add_9ea2d_6 : decode cJx4a65c_add_9ea2d 6 = .ok (.iadd, 1) := by decide +kernel
theorem dJx4a65c_add_9ea2d_7 : decode cJx4a65c_add_9ea2d 7 = .ok (.putfield 63, 3) := by decide +kernel
theorem dJx4a65c_add_9ea2d_10 : decode cJx4a65c_add_9ea2d 10 = .ok (.aload_n 0, 1) := by decide +kernel
theorem dJx4a65c_add_9ea2d_11 : decode cJx4a65c_add_9ea2d 11 = .ok (.aload_n 1, 1) := by decide +kernel
theorem dJx4a65c_add_9ea2d_12 : decode cJx4a65c_add_9ea2d 12 = .ok (.aload_n 0, 1) := by decide +kernel
theorem dJx4a65c_add_9ea2d_13 : decode cJx4a65c_add_9ea2d 13 = .ok (.getfield 9, 3) := by decide +kernel
theorem dJx4a65c_add_9ea2d_16 : decode cJx4a65c_add_9ea2d 16 = .ok (.aload_n 0, 1) := by decide +kernel
theorem dJx4a65c_add_9ea2d_17 : decode cJx4a65c_add_9ea2d 17 = .ok (.getfield 48, 3) := by decide +kernel
theorem dJx4a65c_add_9ea2d_20 : decode cJx4a65c_add_9ea2d 20 = .ok (.invokevirtual 131, 3) := by decide +kernel
theorem dJx4a65c_add_9ea2d_23 : decode cJx4a65c_add_9ea2d 23 = .ok (.iconst 1, 1) := by decide +kernel
theorem dJx4a65c_add_9ea2d_24 : decode cJx4a65c_add_9ea2d 24 = .ok (.ireturn, 1) := by decide +kernel
set_option maxRecDepth 20000 in
theorem ggJ7_copyOf_1904c_J7_copyOf_6403c : GoodIn wsJ7_copyOf_1904c wsJ7_copyOf_6403c := goodIn_r _ [8, 9, 10, 11, 12, 13, 14, 15, 16, 17, 18] (by decide +kernel) (by decide +kernel)
set_option maxRecDepth 20000 in
theorem gJ7_copyOf_1904c_J7_copyOf_6403c : GoodIn wsJ7_copyOf_1904c (va_wsS RJ7 300 yJ7_copyOf_6403c wsJ7_copyOf_6403c) := goodIn_app (goodIn_of _ (by decide +kernel)) ggJ7_copyOf_1904c_J7_copyOf_6403c
theorem dJ7_copyOf_1904c_0 : decode cJ7_copyOf_1904c 0 = .ok (.aload_n 0, 1) := by decide +kernel
theorem dJ7_copyOf_1904c_1 : decode cJ7_copyOf_1904c 1 = .ok (.iload_n 1, 1) := by decide +kernel
theorem dJ7_copyOf_1904c_2 : decode cJ7_copyOf_1904c 2 = .ok (.aload_n 0, 1) := by decide +kernel
theorem dJ7_copyOf_1904c_3 : decode cJ7_copyOf_1904c 3 = .ok (.invokevirtual 86, 3) := by decide +kernel
theorem dJ7_copyOf_1904c_6 : decode cJ7_copyOf_1904c 6 = .ok (.invokestatic 300, 3) := by decide +kernel
theorem dJ7_copyOf_1904c_9 : decode cJ7_copyOf_1904c 9 = .ok (.areturn, 1) := by decide +kernel
theorem dJ7_copyOf_6403c_0 : decode cJ7_copyOf_6403c 0 = .ok (.aload_n 2, 1) := by decide +kernel
theorem dJ7_copyOf_6403c_1 : decode cJ7_copyOf_6403c 1 = .ok (.ldc 110, 2) := by decide +kernel
theorem dJ7_copyOf_6403c_3 : decode cJ7_copyOf_6403c 3 = .ok (.if_acmp .ne 10, 3) := by decide +kernel
theorem dJ7_copyOf_6403c_6 : decode cJ7_copyOf_6403c 6 = .ok (.iload_n 1, 1) := by decide +kernel
theorem dJ7_copyOf_6403c_7 : decode cJ7_copyOf_6403c 7 = .ok (.anewarray 2, 3) := by decide +kernel
theorem dJ7_copyOf_6403c_10 : decode cJ7_copyOf_6403c 10 = .ok (.goto 14, 3) := by decide +kernel
theorem dJ7_copyOf_6403c_13 : decode cJ7_copyOf_6403c 13 = .ok (.aload_n 2, 1) := by decide +kernel
theorem dJ7_copyOf_6403c_14 : decode cJ7_copyOf_6403c 14 = .ok (.invokevirtual 90, 3) := by decide +kernel
theorem dJ7_copyOf_6403c_17 : decode cJ7_copyOf_6403c 17 = .ok (.iload_n 1, 1) := by decide +kernel
theorem dJ7_copyOf_6403c_18 : decode cJ7_copyOf_6403c 18 = .ok (.invokestatic 95, 3) := by decide +kernel
theorem dJ7_copyOf_6403c_21 : decode cJ7_copyOf_6403c 21 = .ok (.checkcast 110, 3) := by decide +kernel
theorem dJ7_copyOf_6403c_24 : decode cJ7_copyOf_6403c 24 = .ok (.astore_n 3, 1) := by decide +kernel
theorem dJ7_copyOf_6403c_25 : decode cJ7_copyOf_6403c 25 = .ok (.aload_n 0, 1) := by decide +kernel
theorem dJ7_copyOf_6403c_26 : decode cJ7_copyOf_6403c 26 = .ok (.iconst 0, 1) := by decide +kernel
theorem dJ7_copyOf_6403c_27 : decode cJ7_copyOf_6403c 27 = .ok (.aload_n 3, 1) := by decide +kernel
theorem dJ7_copyOf_6403c_28 : decode cJ7_copyOf_6403c 28 = .ok (.iconst 0, 1) := by decide +kernel
theorem dJ7_copyOf_6403c_29 : decode cJ7_copyOf_6403c 29 = .ok (.aload_n 0, 1) := by decide +kernel
theorem dJ7_copyOf_6403c_30 : decode cJ7_copyOf_6403c 30 = .ok (.arraylength, 1) := by decide +kernel
theorem dJ7_copyOf_6403c_31 : decode cJ7_copyOf_6403c 31 = .ok (.iload_n 1, 1) := by decide +kernel
theorem dJ7_copyOf_6403c_32 : decode cJ7_copyOf_6403c 32 = .ok (.invokestatic 304, 3) := by decide +kernel
theorem dJ7_copyOf_6403c_35 : decode cJ7_copyOf_6403c 35 = .ok (.invokestatic 150, 3) := by decide +kernel
theorem dJ7_copyOf_6403c_38 : decode cJ7_copyOf_6403c 38 = .ok (.aload_n 3, 1) := by decide +kernel
theorem dJ7_copyOf_6403c_39 : decode cJ7_copyOf_6403c 39 = .ok (.areturn, 1) := by decide +kernel
set_option maxRecDepth 20000 in
theorem ggJ15_checkIndex_7cf53_J3_checkIndex_8e157 : GoodIn wsJ15_checkIndex_7cf53 wsJ3_checkIndex_8e157 := goodIn_r _ [4] (by decide +kernel) (by decide +kernel)
set_option maxRecDepth 20000 in
theorem gJ15_checkIndex_7cf53_J3_checkIndex_8e157 : GoodIn wsJ15_checkIndex_7cf53 (va_wsS RJ15 105 yJ3_checkIndex_8e157 wsJ3_checkIndex_8e157) := goodIn_app (goodIn_of _ (by decide +kernel)) ggJ15_checkIndex_7cf53_J3_checkIndex_8e157
theorem dJ15_checkIndex_7cf53_0 : decode cJ15_checkIndex_7cf53 0 = .ok (.iload_n 0, 1) := by decide +kernel
theorem dJ15_checkIndex_7cf53_1 : decode cJ15_checkIndex_7cf53 1 = .ok (.iload_n 1, 1) := by decide +kernel
theorem dJ15_checkIndex_7cf53_2 : decode cJ15_checkIndex_7cf53 2 = .ok (.aconst_null, 1) := by decide +kernel
theorem dJ15_checkIndex_7cf53_3 : decode cJ15_checkIndex_7cf53 3 = .ok (.invokestatic 105, 3) := by decide +kernel
theorem dJ15_checkIndex_7cf53_6 : decode cJ15_checkIndex_7cf53 6 = .ok (.ireturn, 1) := by decide +kernel
set_option maxRecDepth 20000 in
theorem ggJ8_newLength_cabcc_J8_hugeLength_7cf53 : GoodIn wsJ8_newLength_cabcc wsJ8_hugeLength_7cf53 := goodIn_r _ [9, 5] (by decide +kernel) (by decide +kernel)
set_option maxRecDepth 20000 in
theorem gJ8_newLength_cabcc_J8_hugeLength_7cf53 : GoodIn wsJ8_newLength_cabcc (va_wsS RJ8 201 yJ8_hugeLength_7cf53 wsJ8_hugeLength_7cf53) := goodIn_app (goodIn_of _ (by decide +kernel)) ggJ8_newLength_cabcc_J8_hugeLength_7cf53
theorem dJ8_newLength_cabcc_0 : decode cJ8_newLength_cabcc 0 = .ok (.iload_n 0, 1) := by decide +kernel
theorem dJ8_newLength_cabcc_1 : decode cJ8_newLength_cabcc 1 = .ok (.iload_n 1, 1) := by decide +kernel
theorem dJ8_newLength_cabcc_2 : decode cJ8_newLength_cabcc 2 = .ok (.iload_n 2, 1) := by decide +kernel
theorem dJ8_newLength_cabcc_3 : decode cJ8_newLength_cabcc 3 = .ok (.invokestatic 194, 3) := by decide +kernel
theorem dJ8_newLength_cabcc_6 : decode cJ8_newLength_cabcc 6 = .ok (.iadd, 1) := by decide +kernel
theorem dJ8_newLength_cabcc_7 : decode cJ8_newLength_cabcc 7 = .ok (.istore_n 3, 1) := by decide +kernel
theorem dJ8_newLength_cabcc_8 : decode cJ8_newLength_cabcc 8 = .ok (.iconst 0, 1) := by decide +kernel
theorem dJ8_newLength_cabcc_9 : decode cJ8_newLength_cabcc 9 = .ok (.iload_n 3, 1) := by decide +kernel
theorem dJ8_newLength_cabcc_10 : decode cJ8_newLength_cabcc 10 = .ok (.if_icmp .ge 11, 3) := by decide +kernel
theorem dJ8_newLength_cabcc_13 : decode cJ8_newLength_cabcc 13 = .ok (.iload_n 3, 1) := by decide +kernel
theorem dJ8_newLength_cabcc_14 : decode cJ8_newLength_cabcc 14 = .ok (.ldc 200, 2) := by decide +kernel
theorem dJ8_newLength_cabcc_16 : decode cJ8_newLength_cabcc 16 = .ok (.if_icmp .gt 5, 3) := by decide +kernel
theorem dJ8_newLength_cabcc_19 : decode cJ8_newLength_cabcc 19 = .ok (.iload_n 3, 1) := by decide +kernel
theorem dJ8_newLength_cabcc_20 : decode cJ8_newLength_cabcc 20 = .ok (.ireturn, 1) := by decide +kernel
theorem dJ8_newLength_cabcc_21 : decode cJ8_newLength_cabcc 21 = .ok (.iload_n 0, 1) := by decide +kernel
theorem dJ8_newLength_cabcc_22 : decode cJ8_newLength_cabcc 22 = .ok (.iload_n 1, 1) := by decide +kernel
theorem dJ8_newLength_cabcc_23 : decode cJ8_newLength_cabcc 23 = .ok (.invokestatic 201, 3) := by decide +kernel
theorem dJ8_newLength_cabcc_26 : decode cJ8_newLength_cabcc 26 = .ok (.ireturn, 1) := by decide +kernel
theorem dJ8_hugeLength_7cf53_0 : decode cJ8_hugeLength_7cf53 0 = .ok (.iload_n 0, 1) := by decide +kernel
theorem dJ8_hugeLength_7cf53_1 : decode cJ8_hugeLength_7cf53 1 = .ok (.iload_n 1, 1) := by decide +kernel
theorem dJ8_hugeLength_7cf53_2 : decode cJ8_hugeLength_7cf53 2 = .ok (.iadd, 1) := by decide +kernel
theorem dJ8_hugeLength_7cf53_3 : decode cJ8_hugeLength_7cf53 3 = .ok (.istore_n 2, 1) := by decide +kernel
theorem dJ8_hugeLength_7cf53_4 : decode cJ8_hugeLength_7cf53 4 = .ok (.iload_n 2, 1) := by decide +kernel
theorem dJ8_hugeLength_7cf53_5 : decode cJ8_hugeLength_7cf53 5 = .ok (.ifCond .ge 44, 3) := by decide +kernel
theorem dJ8_hugeLength_7cf53_8 : decode cJ8_hugeLength_7cf53 8 = .ok (.new 204, 3) := by decide +kernel
theorem dJ8_hugeLength_7cf53_11 : decode cJ8_hugeLength_7cf53 11 = .ok (.dup, 1) := by decide +kernel
theorem dJ8_hugeLength_7cf53_12 : decode cJ8_hugeLength_7cf53 12 = .ok (.new 89, 3) := by decide +kernel
theorem dJ8_hugeLength_7cf53_15 : decode cJ8_hugeLength_7cf53 15 = .ok (.dup, 1) := by decide +kernel
theorem dJ8_hugeLength_7cf53_16 : decode cJ8_hugeLength_7cf53 16 = .ok (.invokespecial 91, 3) := by decide +kernel
theorem dJ8_hugeLength_7cf53_19 : decode cJ8_hugeLength_7cf53 19 = .ok (.ldc 206, 2) := by decide +kernel
theorem dJ8_hugeLength_7cf53_21 : decode cJ8_hugeLength_7cf53 21 = .ok (.invokevirtual 94, 3) := by decide +kernel
theorem dJ8_hugeLength_7cf53_24 : decode cJ8_hugeLength_7cf53 24 = .ok (.iload_n 0, 1) := by decide +kernel
theorem dJ8_hugeLength_7cf53_25 : decode cJ8_hugeLength_7cf53 25 = .ok (.invokevirtual 98, 3) := by decide +kernel
theorem dJ8_hugeLength_7cf53_28 : decode cJ8_hugeLength_7cf53 28 = .ok (.ldc 208, 2) := by decide +kernel
theorem dJ8_hugeLength_7cf53_30 : decode cJ8_hugeLength_7cf53 30 = .ok (.invokevirtual 94, 3) := by decide +kernel
theorem dJ8_hugeLength_7cf53_33 : decode cJ8_hugeLength_7cf53 33 = .ok (.iload_n 1, 1) := by decide +kernel
theorem dJ8_hugeLength_7cf53_34 : decode cJ8_hugeLength_7cf53 34 = .ok (.invokevirtual 98, 3) := by decide +kernel
theorem dJ8_hugeLength_7cf53_37 : decode cJ8_hugeLength_7cf53 37 = .ok (.ldc 210, 2) := by decide +kernel
theorem dJ8_hugeLength_7cf53_39 : decode cJ8_hugeLength_7cf53 39 = .ok (.invokevirtual 94, 3) := by decide +kernel
theorem dJ8_hugeLength_7cf53_42 : decode cJ8_hugeLength_7cf53 42 = .ok (.invokevirtual 101, 3) := by decide +kernel
theorem dJ8_hugeLength_7cf53_45 : decode cJ8_hugeLength_7cf53 45 = .ok (.invokespecial 212, 3) := by decide +kernel
theorem dJ8_hugeLength_7cf53_48 : decode cJ8_hugeLength_7cf53 48 = .ok (.athrow, 1) := by decide +kernel
theorem dJ8_hugeLength_7cf53_49 : decode cJ8_hugeLength_7cf53 49 = .ok (.iload_n 2, 1) := by decide +kernel
theorem dJ8_hugeLength_7cf53_50 : decode cJ8_hugeLength_7cf53 50 = .ok (.ldc 200, 2) := by decide +kernel
theorem dJ8_hugeLength_7cf53_52 : decode cJ8_hugeLength_7cf53 52 = .ok (.if_icmp .gt 6, 3) := by decide +kernel
theorem dJ8_hugeLength_7cf53_55 : decode cJ8_hugeLength_7cf53 55 = .ok (.ldc 200, 2) := by decide +kernel
theorem dJ8_hugeLength_7cf53_57 : decode cJ8_hugeLength_7cf53 57 = .ok (.ireturn, 1) := by decide +kernel
theorem dJ8_hugeLength_7cf53_58 : decode cJ8_hugeLength_7cf53 58 = .ok (.iload_n 2, 1) := by decide +kernel
theorem dJ8_hugeLength_7cf53_59 : decode cJ8_hugeLength_7cf53 59 = .ok (.ireturn, 1) := by decide +kernel
theorem dJ3_checkIndex_8e157_0 : decode cJ3_checkIndex_8e157 0 = .ok (.iload_n 0, 1) := by decide +kernel
theorem dJ3_checkIndex_8e157_1 : decode cJ3_checkIndex_8e157 1 = .ok (.ifCond .lt 8, 3) := by decide +kernel
theorem dJ3_checkIndex_8e157_4 : decode cJ3_checkIndex_8e157 4 = .ok (.iload_n 0, 1) := by decide +kernel
theorem dJ3_checkIndex_8e157_5 : decode cJ3_checkIndex_8e157 5 = .ok (.iload_n 1, 1) := by decide +kernel
theorem dJ3_checkIndex_8e157_6 : decode cJ3_checkIndex_8e157 6 = .ok (.if_icmp .lt 10, 3) := by decide +kernel
theorem dJ3_checkIndex_8e157_9 : decode cJ3_checkIndex_8e157 9 = .ok (.aload_n 2, 1) := by decide +kernel
theorem dJ3_checkIndex_8e157_10 : decode cJ3_checkIndex_8e157 10 = .ok (.iload_n 0, 1) := by decide +kernel
theorem dJ3_checkIndex_8e157_11 : decode cJ3_checkIndex_8e157 11 = .ok (.iload_n 1, 1) := by decide +kernel
theorem dJ3_checkIndex_8e157_12 : decode cJ3_checkIndex_8e157 12 = .ok (.invokestatic 95, 3) := by decide +kernel
theorem dJ3_checkIndex_8e157_15 : decode cJ3_checkIndex_8e157 15 = .ok (.athrow, 1) := by decide +kernel
theorem dJ3_checkIndex_8e157_16 : decode cJ3_checkIndex_8e157 16 = .ok (.iload_n 0, 1) := by decide +kernel
theorem dJ3_checkIndex_8e157_17 : decode cJ3_checkIndex_8e157 17 = .ok (.ireturn, 1) := by decide +kernel
set_option maxRecDepth 20000 in
theorem ggL_law_X2_init : GoodIn wsL_law wsX2_init := goodIn_r _ [9, 10, 11, 12, 13, 14, 15, 16, 17, 18, 19, 20, 21, 22, 23, 24, 25, 26, 27, 28, 29, 30, 31, 32, 33, 34, 650, 651, 652, 653, 654, 655, 656, 657, 678, 679, 680, 681, 682] (by decide +kernel) (by decide +kernel)
set_option maxRecDepth 20000 in
theorem gL_law_X2_init : GoodIn wsL_law (wsX2_init) := ggL_law_X2_init
set_option maxRecDepth 20000 in
theorem ggL_law_X3_init : GoodIn wsL_law wsX3_init := goodIn_r _ [37, 38, 11, 12, 29, 39, 40, 41, 31, 42, 43, 44, 45, 46, 47, 48, 658, 659, 660, 661, 662, 663, 664, 665, 666, 667, 668, 669, 670, 671, 672, 673, 674, 675, 676, 677] (by decide +kernel) (by decide +kernel)
set_option maxRecDepth 20000 in
theorem gL_law_X3_init : GoodIn wsL_law (wsX3_init) := ggL_law_X3_init
set_option maxRecDepth 20000 in
theorem ggL_law_X2_pair : GoodIn wsL_law wsX2_pair := goodIn_r _ [52, 17, 53, 54, 55, 2, 56, 57, 58, 59, 16, 60, 61, 30, 32, 33, 34, 650, 651, 652, 653, 654, 655, 656, 657, 678, 679, 680, 681, 682] (by decide +kernel) (by decide +kernel)
set_option maxRecDepth 20000 in
theorem gL_law_X2_pair : GoodIn wsL_law (wsV RL 13 RX2 yX2_pair wsX2_pair) := goodIn_app (goodIn_of _ (by decide +kernel)) ggL_law_X2_pair
set_option maxRecDepth 20000 in
theorem ggL_law_X3_pair : GoodIn wsL_law wsX3_pair := goodIn_r _ [65, 66, 41, 67, 68, 5, 69, 70, 71, 72, 73, 658, 659, 660, 661, 662, 663, 664, 665, 666, 667, 668, 669, 670, 671, 672, 673, 674, 675, 676, 677] (by decide +kernel) (by decide +kernel)
set_option maxRecDepth 20000 in
theorem gL_law_X3_pair : GoodIn wsL_law (wsV RL 17 RX3 yX3_pair wsX3_pair) := goodIn_app (goodIn_of _ (by decide +kernel)) ggL_law_X3_pair
set_option maxRecDepth 20000 in
theorem ggL_law_X2_clear : GoodIn wsL_law wsX2_clear := goodIn_r _ [77, 17, 53, 650, 651, 652, 653, 654, 655, 656, 657, 678, 679, 680, 681, 682] (by decide +kernel) (by decide +kernel)
set_option maxRecDepth 20000 in
theorem gL_law_X2_clear : GoodIn wsL_law (wsV RL 18 RX2 yX2_clear wsX2_clear) := goodIn_app (goodIn_of _ (by decide +kernel)) ggL_law_X2_clear
set_option maxRecDepth 20000 in
theorem ggL_law_X3_clear : GoodIn wsL_law wsX3_clear := goodIn_r _ [81, 66, 658, 659, 660, 661, 662, 663, 664, 665, 666, 667, 668, 669, 670, 671, 672, 673, 674, 675, 676, 677] (by decide +kernel) (by decide +kernel)
set_option maxRecDepth 20000 in
theorem gL_law_X3_clear : GoodIn wsL_law (wsV RL 22 RX3 yX3_clear wsX3_clear) := goodIn_app (goodIn_of _ (by decide +kernel)) ggL_law_X3_clear
set_option maxRecDepth 20000 in
theorem ggL_law_X2_make : GoodIn wsL_law wsX2_make := goodIn_r _ [85, 17, 20, 19, 53, 14, 86, 87, 2, 88, 89, 90, 91, 92, 93, 94, 95, 57, 58, 59, 16, 60, 61, 30, 32, 33, 34, 96, 97, 98, 99, 100, 101, 102, 103, 104, 105, 106, 107, 108, 109, 110, 111, 112, 113, 114, 115, 116, 117, 118, 119, 120, 121, 122, 123, 124, 125, 126, 127, 128, 129, 650, 651, 652, 653, 654, 655, 656, 657, 678, 679, 680, 681, 682] (by decide +kernel) (by decide +kernel)
set_option maxRecDepth 20000 in
theorem gL_law_X2_make : GoodIn wsL_law (wsV RL 23 RX2 yX2_make wsX2_make) := goodIn_app (goodIn_of _ (by decide +kernel)) ggL_law_X2_make
set_option maxRecDepth 20000 in
theorem ggL_law_X3_make : GoodIn wsL_law wsX3_make := goodIn_r _ [133, 134, 66, 41, 135, 136, 5, 137, 138, 71, 72, 73, 139, 140, 141, 142, 143, 144, 145, 146, 147, 42, 148, 149, 150, 151, 152, 153, 154, 155, 156, 157, 158, 159, 160, 161, 162, 163, 164, 165, 166, 167, 168, 169, 170, 171, 172, 39, 40, 658, 659, 660, 661, 662, 663, 664, 665, 666, 667, 668, 669, 670, 671, 672, 673, 674, 675, 676, 677] (by decide +kernel) (by decide +kernel)
set_option maxRecDepth 20000 in
theorem gL_law_X3_make : GoodIn wsL_law (wsV RL 27 RX3 yX3_make wsX3_make) := goodIn_app (goodIn_of _ (by decide +kernel)) ggL_law_X3_make
set_option maxRecDepth 20000 in
theorem ggL_law_X2_strong : GoodIn wsL_law wsX2_strong := goodIn_r _ [176, 14, 53, 86, 87, 2, 88, 177, 178, 179, 180, 181, 182, 57, 58, 59, 16, 60, 61, 30, 32, 33, 34, 650, 651, 652, 653, 654, 655, 656, 657, 678, 679, 680, 681, 682] (by decide +kernel) (by decide +kernel)
set_option maxRecDepth 20000 in
theorem gL_law_X2_strong : GoodIn wsL_law (wsV RL 28 RX2 yX2_strong wsX2_strong) := goodIn_app (goodIn_of _ (by decide +kernel)) ggL_law_X2_strong
set_option maxRecDepth 20000 in
theorem ggL_law_X3_strong : GoodIn wsL_law wsX3_strong := goodIn_r _ [186, 187, 134, 135, 136, 5, 137, 138, 71, 72, 73, 188, 189, 190, 191, 144, 145, 146, 147, 42, 157, 158, 159, 160, 161, 162, 163, 164, 165, 166, 167, 168, 169, 170, 171, 172, 39, 40, 658, 659, 660, 661, 662, 663, 664, 665, 666, 667, 668, 669, 670, 671, 672, 673, 674, 675, 676, 677] (by decide +kernel) (by decide +kernel)
set_option maxRecDepth 20000 in
theorem gL_law_X3_strong : GoodIn wsL_law (wsV RL 32 RX3 yX3_strong wsX3_strong) := goodIn_app (goodIn_of _ (by decide +kernel)) ggL_law_X3_strong
set_option maxRecDepth 20000 in
theorem ggL_law_X2_then : GoodIn wsL_law wsX2_then := goodIn_r _ [195, 14, 18, 53, 86, 87, 2, 88, 196, 197, 198, 199, 200, 201, 202, 203, 204, 205, 16, 206, 33, 34, 104, 105, 207, 208, 209, 210, 211, 212, 213, 214, 61, 100, 101, 102, 103, 30, 32, 115, 215, 216, 217, 94, 92, 95, 93, 120, 121, 122, 123, 124, 125, 58, 59, 60, 126, 127, 128, 129, 218, 219, 220, 57, 650, 651, 652, 653, 654, 655, 656, 657, 678, 679, 680, 681, 682] (by decide +kernel) (by decide +kernel)
set_option maxRecDepth 20000 in
theorem gL_law_X2_then : GoodIn wsL_law (wsV RL 33 RX2 yX2_then wsX2_then) := goodIn_app (goodIn_of _ (by decide +kernel)) ggL_law_X2_then
set_option maxRecDepth 20000 in
theorem ggL_law_X3_then : GoodIn wsL_law wsX3_then := goodIn_r _ [224, 134, 135, 136, 5, 137, 138, 71, 72, 73, 225, 226, 227, 228, 39, 229, 230, 231, 232, 40, 144, 145, 146, 147, 42, 233, 234, 235, 236, 237, 43, 238, 239, 240, 241, 47, 148, 149, 150, 151, 152, 153, 154, 155, 156, 157, 158, 159, 160, 161, 162, 163, 164, 165, 166, 167, 168, 169, 170, 171, 172, 658, 659, 660, 661, 662, 663, 664, 665, 666, 667, 668, 669, 670, 671, 672, 673, 674, 675, 676, 677] (by decide +kernel) (by decide +kernel)
set_option maxRecDepth 20000 in
theorem gL_law_X3_then : GoodIn wsL_law (wsV RL 37 RX3 yX3_then wsX3_then) := goodIn_app (goodIn_of _ (by decide +kernel)) ggL_law_X3_then
set_option maxRecDepth 20000 in
theorem ggL_law_X2_turn : GoodIn wsL_law wsX2_turn := goodIn_r _ [245, 14, 20, 53, 86, 87, 2, 88, 196, 197, 198, 199, 89, 90, 91, 92, 93, 94, 95, 57, 58, 59, 16, 60, 61, 30, 32, 33, 34, 96, 97, 98, 99, 100, 101, 102, 103, 104, 105, 106, 107, 108, 109, 110, 111, 218, 219, 220, 650, 651, 652, 653, 654, 655, 656, 657, 678, 679, 680, 681, 682] (by decide +kernel) (by decide +kernel)
set_option maxRecDepth 20000 in
theorem gL_law_X2_turn : GoodIn wsL_law (wsV RL 38 RX2 yX2_turn wsX2_turn) := goodIn_app (goodIn_of _ (by decide +kernel)) ggL_law_X2_turn
set_option maxRecDepth 20000 in
theorem ggL_law_X3_turn : GoodIn wsL_law wsX3_turn := goodIn_r _ [249, 134, 135, 136, 5, 137, 138, 71, 72, 73, 225, 226, 227, 228, 39, 229, 230, 231, 232, 40, 144, 145, 146, 147, 42, 250, 251, 252, 253, 157, 158, 159, 160, 161, 162, 163, 164, 165, 166, 167, 168, 169, 170, 171, 172, 658, 659, 660, 661, 662, 663, 664, 665, 666, 667, 668, 669, 670, 671, 672, 673, 674, 675, 676, 677] (by decide +kernel) (by decide +kernel)
set_option maxRecDepth 20000 in
theorem gL_law_X3_turn : GoodIn wsL_law (wsV RL 41 RX3 yX3_turn wsX3_turn) := goodIn_app (goodIn_of _ (by decide +kernel)) ggL_law_X3_turn
set_option maxRecDepth 20000 in
theorem ggL_law_X2_power : GoodIn wsL_law wsX2_power := goodIn_r _ [257, 14, 19, 53, 86, 87, 2, 88, 196, 197, 198, 199, 258, 259, 260, 261, 20, 262, 263, 27, 264, 89, 90, 91, 92, 93, 94, 95, 57, 58, 59, 16, 60, 61, 30, 32, 33, 34, 96, 97, 98, 99, 100, 101, 102, 103, 104, 105, 106, 107, 108, 109, 110, 111, 265, 266, 267, 268, 125, 269, 270, 271, 272, 18, 200, 201, 202, 203, 204, 205, 206, 207, 208, 209, 210, 211, 212, 213, 214, 115, 215, 216, 217, 120, 121, 122, 123, 124, 126, 127, 128, 129, 218, 219, 220, 650, 651, 652, 653, 654, 655, 656, 657, 678, 679, 680, 681, 682] (by decide +kernel) (by decide +kernel)
set_option maxRecDepth 20000 in
theorem gL_law_X2_power : GoodIn wsL_law (wsV RL 42 RX2 yX2_power wsX2_power) := goodIn_app (goodIn_of _ (by decide +kernel)) ggL_law_X2_power
set_option maxRecDepth 20000 in
theorem ggL_law_X3_power : GoodIn wsL_law wsX3_power := goodIn_r _ [276, 277, 278, 134, 135, 136, 5, 137, 138, 71, 72, 73, 225, 226, 227, 228, 39, 279, 280, 281, 282, 144, 145, 146, 147, 42, 233, 234, 235, 236, 237, 43, 229, 230, 231, 232, 40, 250, 251, 252, 253, 157, 158, 159, 160, 161, 162, 163, 164, 165, 166, 167, 168, 238, 239, 240, 241, 47, 148, 149, 150, 151, 152, 153, 154, 155, 156, 169, 170, 171, 172, 658, 659, 660, 661, 662, 663, 664, 665, 666, 667, 668, 669, 670, 671, 672, 673, 674, 675, 676, 677] (by decide +kernel) (by decide +kernel)
set_option maxRecDepth 20000 in
theorem gL_law_X3_power : GoodIn wsL_law (wsV RL 45 RX3 yX3_power wsX3_power) := goodIn_app (goodIn_of _ (by decide +kernel)) ggL_law_X3_power
set_option maxRecDepth 20000 in
theorem ggL_law_X2_drop : GoodIn wsL_law wsX2_drop := goodIn_r _ [286, 14, 53, 196, 197, 198, 2, 199, 86, 87, 88, 650, 651, 652, 653, 654, 655, 656, 657, 678, 679, 680, 681, 682] (by decide +kernel) (by decide +kernel)
set_option maxRecDepth 20000 in
theorem gL_law_X2_drop : GoodIn wsL_law (wsV RL 46 RX2 yX2_drop wsX2_drop) := goodIn_app (goodIn_of _ (by decide +kernel)) ggL_law_X2_drop
set_option maxRecDepth 20000 in
theorem ggL_law_X3_drop : GoodIn wsL_law wsX3_drop := goodIn_r _ [290, 39, 225, 226, 227, 5, 228, 135, 136, 137, 138, 71, 72, 73, 658, 659, 660, 661, 662, 663, 664, 665, 666, 667, 668, 669, 670, 671, 672, 673, 674, 675, 676, 677] (by decide +kernel) (by decide +kernel)
set_option maxRecDepth 20000 in
theorem gL_law_X3_drop : GoodIn wsL_law (wsV RL 49 RX3 yX3_drop wsX3_drop) := goodIn_app (goodIn_of _ (by decide +kernel)) ggL_law_X3_drop
set_option maxRecDepth 20000 in
theorem ggL_law_X2_leaves : GoodIn wsL_law wsX2_leaves := goodIn_r _ [294, 14, 53, 196, 197, 198, 2, 199, 86, 87, 88, 650, 651, 652, 653, 654, 655, 656, 657, 678, 679, 680, 681, 682] (by decide +kernel) (by decide +kernel)
set_option maxRecDepth 20000 in
theorem gL_law_X2_leaves : GoodIn wsL_law (wsV RL 50 RX2 yX2_leaves wsX2_leaves) := goodIn_app (goodIn_of _ (by decide +kernel)) ggL_law_X2_leaves
set_option maxRecDepth 20000 in
theorem ggL_law_X3_leaves : GoodIn wsL_law wsX3_leaves := goodIn_r _ [298, 39, 225, 226, 227, 5, 228, 135, 136, 137, 138, 71, 72, 73, 658, 659, 660, 661, 662, 663, 664, 665, 666, 667, 668, 669, 670, 671, 672, 673, 674, 675, 676, 677] (by decide +kernel) (by decide +kernel)
set_option maxRecDepth 20000 in
theorem gL_law_X3_leaves : GoodIn wsL_law (wsV RL 53 RX3 yX3_leaves wsX3_leaves) := goodIn_app (goodIn_of _ (by decide +kernel)) ggL_law_X3_leaves
set_option maxRecDepth 20000 in
theorem ggL_law_X2_sort : GoodIn wsL_law wsX2_sort := goodIn_r _ [302, 14, 196, 197, 198, 2, 199, 53, 86, 87, 88, 303, 304, 305, 203, 204, 205, 16, 206, 33, 34, 104, 105, 207, 208, 209, 210, 116, 650, 651, 652, 653, 654, 655, 656, 657, 678, 679, 680, 681, 682] (by decide +kernel) (by decide +kernel)
set_option maxRecDepth 20000 in
theorem gL_law_X2_sort : GoodIn wsL_law (wsV RL 54 RX2 yX2_sort wsX2_sort) := goodIn_app (goodIn_of _ (by decide +kernel)) ggL_law_X2_sort
set_option maxRecDepth 20000 in
theorem ggL_law_X3_sort : GoodIn wsL_law wsX3_sort := goodIn_r _ [309, 225, 226, 227, 5, 228, 39, 135, 136, 137, 138, 71, 72, 73, 310, 311, 312, 313, 134, 229, 230, 231, 232, 40, 144, 145, 146, 147, 42, 161, 162, 163, 164, 658, 659, 660, 661, 662, 663, 664, 665, 666, 667, 668, 669, 670, 671, 672, 673, 674, 675, 676, 677] (by decide +kernel) (by decide +kernel)
set_option maxRecDepth 20000 in
theorem gL_law_X3_sort : GoodIn wsL_law (wsV RL 57 RX3 yX3_sort wsX3_sort) := goodIn_app (goodIn_of _ (by decide +kernel)) ggL_law_X3_sort
set_option maxRecDepth 20000 in
theorem ggL_law_X2_leaf : GoodIn wsL_law wsX2_leaf := goodIn_r _ [317, 14, 53, 196, 197, 198, 2, 199, 86, 87, 88, 318, 319, 320, 16, 321, 30, 32, 33, 34, 650, 651, 652, 653, 654, 655, 656, 657, 678, 679, 680, 681, 682] (by decide +kernel) (by decide +kernel)
set_option maxRecDepth 20000 in
theorem gL_law_X2_leaf : GoodIn wsL_law (wsV RL 58 RX2 yX2_leaf wsX2_leaf) := goodIn_app (goodIn_of _ (by decide +kernel)) ggL_law_X2_leaf
set_option maxRecDepth 20000 in
theorem ggL_law_X3_leaf : GoodIn wsL_law wsX3_leaf := goodIn_r _ [325, 39, 326, 40, 225, 226, 227, 5, 228, 135, 136, 137, 138, 71, 72, 73, 658, 659, 660, 661, 662, 663, 664, 665, 666, 667, 668, 669, 670, 671, 672, 673, 674, 675, 676, 677] (by decide +kernel) (by decide +kernel)
set_option maxRecDepth 20000 in
theorem gL_law_X3_leaf : GoodIn wsL_law (wsV RL 61 RX3 yX3_leaf wsX3_leaf) := goodIn_app (goodIn_of _ (by decide +kernel)) ggL_law_X3_leaf
set_option maxRecDepth 20000 in
theorem ggL_law_X2_same : GoodIn wsL_law wsX2_same := goodIn_r _ [330, 14, 196, 197, 198, 2, 199, 53, 86, 87, 88, 331, 332, 333, 318, 319, 320, 16, 321, 30, 32, 33, 34, 650, 651, 652, 653, 654, 655, 656, 657, 678, 679, 680, 681, 682] (by decide +kernel) (by decide +kernel)
set_option maxRecDepth 20000 in
theorem gL_law_X2_same : GoodIn wsL_law (wsV RL 62 RX2 yX2_same wsX2_same) := goodIn_app (goodIn_of _ (by decide +kernel)) ggL_law_X2_same
set_option maxRecDepth 20000 in
theorem ggL_law_X3_same : GoodIn wsL_law wsX3_same := goodIn_r _ [337, 39, 40, 225, 226, 227, 5, 228, 135, 136, 137, 138, 71, 72, 73, 658, 659, 660, 661, 662, 663, 664, 665, 666, 667, 668, 669, 670, 671, 672, 673, 674, 675, 676, 677] (by decide +kernel) (by decide +kernel)
set_option maxRecDepth 20000 in
theorem gL_law_X3_same : GoodIn wsL_law (wsV RL 65 RX3 yX3_same wsX3_same) := goodIn_app (goodIn_of _ (by decide +kernel)) ggL_law_X3_same
set_option maxRecDepth 20000 in
theorem ggL_law_X2_commute : GoodIn wsL_law wsX2_commute := goodIn_r _ [341, 14, 19, 18, 53, 196, 197, 198, 2, 199, 86, 87, 88, 200, 201, 202, 203, 204, 205, 16, 206, 33, 34, 104, 105, 207, 208, 209, 210, 211, 212, 213, 214, 61, 100, 101, 102, 103, 30, 32, 115, 215, 216, 217, 94, 92, 95, 93, 120, 121, 122, 123, 124, 125, 58, 59, 60, 126, 127, 128, 129, 331, 332, 333, 318, 319, 320, 321, 650, 651, 652, 653, 654, 655, 656, 657, 678, 679, 680, 681, 682] (by decide +kernel) (by decide +kernel)
set_option maxRecDepth 20000 in
theorem gL_law_X2_commute : GoodIn wsL_law (wsV RL 66 RX2 yX2_commute wsX2_commute) := goodIn_app (goodIn_of _ (by decide +kernel)) ggL_law_X2_commute
set_option maxRecDepth 20000 in
theorem ggL_law_X3_commute : GoodIn wsL_law wsX3_commute := goodIn_r _ [345, 134, 48, 42, 225, 226, 227, 5, 228, 39, 135, 136, 137, 138, 71, 72, 73, 229, 230, 231, 232, 40, 144, 145, 146, 147, 233, 234, 235, 236, 237, 43, 238, 239, 240, 241, 47, 148, 149, 150, 151, 152, 153, 154, 155, 156, 157, 158, 159, 160, 161, 162, 163, 164, 165, 166, 167, 168, 658, 659, 660, 661, 662, 663, 664, 665, 666, 667, 668, 669, 670, 671, 672, 673, 674, 675, 676, 677] (by decide +kernel) (by decide +kernel)
set_option maxRecDepth 20000 in
theorem gL_law_X3_commute : GoodIn wsL_law (wsV RL 69 RX3 yX3_commute wsX3_commute) := goodIn_app (goodIn_of _ (by decide +kernel)) ggL_law_X3_commute
set_option maxRecDepth 20000 in
theorem ggL_law_X2_order : GoodIn wsL_law wsX2_order := goodIn_r _ [349, 19, 14, 53, 196, 197, 198, 2, 199, 86, 87, 88, 265, 266, 267, 16, 268, 61, 125, 58, 59, 60, 30, 32, 33, 34, 269, 270, 271, 272, 18, 200, 201, 202, 203, 204, 205, 206, 104, 105, 207, 208, 209, 210, 211, 212, 213, 214, 100, 101, 102, 103, 115, 215, 216, 217, 94, 92, 95, 93, 120, 121, 122, 123, 124, 126, 127, 128, 129, 218, 219, 220, 57, 650, 651, 652, 653, 654, 655, 656, 657, 678, 679, 680, 681, 682] (by decide +kernel) (by decide +kernel)
set_option maxRecDepth 20000 in
theorem gL_law_X2_order : GoodIn wsL_law (wsV RL 70 RX2 yX2_order wsX2_order) := goodIn_app (goodIn_of _ (by decide +kernel)) ggL_law_X2_order
set_option maxRecDepth 20000 in
theorem ggL_law_X3_order : GoodIn wsL_law wsX3_order := goodIn_r _ [353, 134, 225, 226, 227, 5, 228, 39, 135, 136, 137, 138, 71, 72, 73, 279, 280, 281, 282, 144, 145, 146, 147, 42, 233, 234, 235, 236, 237, 43, 229, 230, 231, 232, 40, 238, 239, 240, 241, 47, 148, 149, 150, 151, 152, 153, 154, 155, 156, 157, 158, 159, 160, 161, 162, 163, 164, 165, 166, 167, 168, 354, 355, 356, 357, 658, 659, 660, 661, 662, 663, 664, 665, 666, 667, 668, 669, 670, 671, 672, 673, 674, 675, 676, 677] (by decide +kernel) (by decide +kernel)
set_option maxRecDepth 20000 in
theorem gL_law_X3_order : GoodIn wsL_law (wsV RL 73 RX3 yX3_order wsX3_order) := goodIn_app (goodIn_of _ (by decide +kernel)) ggL_law_X3_order
set_option maxRecDepth 20000 in
theorem ggL_law_X2_length : GoodIn wsL_law wsX2_length := goodIn_r _ [361, 14, 362, 196, 197, 198, 2, 199, 53, 86, 87, 88, 363, 364, 365, 366, 367, 368, 369, 370, 371, 372, 373, 374, 19, 375, 376, 18, 377, 378, 379, 380, 11, 12, 381, 382, 383, 384, 29, 385, 386, 387, 388, 389, 390, 391, 392, 393, 394, 395, 396, 397, 398, 399, 400, 401, 402, 403, 13, 15, 16, 21, 22, 23, 24, 25, 26, 27, 28, 30, 31, 32, 33, 34, 177, 178, 179, 180, 181, 182, 57, 58, 59, 60, 61, 89, 90, 91, 92, 93, 94, 95, 96, 97, 98, 99, 100, 101, 102, 103, 104, 105, 106, 107, 108, 109, 110, 111, 265, 266, 267, 268, 125, 404, 405, 406, 407, 408, 409, 410, 411, 412, 413, 414, 415, 416, 417, 418, 419, 420, 421, 422, 423, 424, 425, 426, 427, 428, 429, 430, 431, 432, 433, 434, 435, 332, 333, 318, 319, 320, 321, 436, 219, 220, 437, 438, 439, 440, 441, 442, 443, 444, 445, 446, 447, 448, 449, 450, 451, 452, 453, 454, 455, 456, 457, 458, 459, 460, 461, 462, 463, 464, 465, 466, 467, 468, 469, 470, 471, 472, 473, 474, 475, 476, 477, 478, 479, 480, 481, 482, 483, 484, 485, 486, 200, 201, 202, 203, 204, 205, 206, 207, 208, 209, 210, 211, 212, 213, 214, 115, 215, 216, 217, 120, 121, 122, 123, 124, 126, 127, 128, 129, 487, 488, 650, 651, 652, 653, 654, 655, 656, 657, 683, 684, 678, 679, 680, 681, 682, 685, 686, 687] (by decide +kernel) (by decide +kernel)
set_option maxRecDepth 20000 in
theorem gL_law_X2_length : GoodIn wsL_law (wsV RL 74 RX2 yX2_length wsX2_length) := goodIn_app (goodIn_of _ (by decide +kernel)) ggL_law_X2_length
set_option maxRecDepth 20000 in
theorem ggL_law_X3_length : GoodIn wsL_law wsX3_length := goodIn_r _ [492, 46, 225, 226, 227, 5, 228, 39, 135, 136, 137, 138, 71, 72, 73, 493, 494, 495, 496, 497, 498, 279, 280, 281, 282, 134, 144, 145, 146, 147, 42, 499, 500, 501, 502, 44, 45, 503, 504, 505, 506, 507, 508, 509, 510, 233, 234, 235, 236, 237, 43, 188, 189, 190, 191, 157, 158, 159, 160, 161, 162, 163, 164, 165, 166, 167, 168, 250, 251, 252, 253, 238, 239, 240, 241, 47, 148, 149, 150, 151, 152, 153, 154, 155, 156, 229, 230, 231, 232, 40, 658, 659, 660, 661, 662, 663, 664, 665, 666, 667, 668, 669, 670, 671, 672, 673, 674, 675, 676, 677] (by decide +kernel) (by decide +kernel)
set_option maxRecDepth 20000 in
theorem gL_law_X3_length : GoodIn wsL_law (wsV RL 77 RX3 yX3_length wsX3_length) := goodIn_app (goodIn_of _ (by decide +kernel)) ggL_law_X3_length
set_option maxRecDepth 20000 in
theorem ggL_law_X2_ball : GoodIn wsL_law wsX2_ball := goodIn_r _ [514, 362, 363, 364, 365, 2, 366, 367, 368, 369, 370, 371, 372, 373, 374, 19, 375, 376, 18, 377, 378, 379, 380, 11, 12, 381, 382, 383, 384, 29, 385, 386, 387, 388, 389, 390, 391, 392, 393, 394, 395, 396, 397, 398, 399, 400, 401, 402, 403, 13, 15, 16, 21, 22, 23, 24, 25, 26, 27, 28, 30, 31, 32, 33, 34, 177, 178, 179, 53, 180, 181, 182, 57, 58, 59, 60, 61, 89, 90, 91, 92, 93, 94, 95, 96, 97, 98, 99, 100, 101, 102, 103, 104, 105, 106, 107, 108, 109, 110, 111, 265, 266, 267, 268, 125, 404, 405, 406, 407, 408, 409, 410, 411, 412, 413, 414, 415, 416, 417, 418, 419, 420, 421, 422, 423, 424, 425, 426, 427, 428, 429, 430, 431, 432, 433, 434, 435, 332, 333, 318, 319, 320, 321, 436, 219, 220, 437, 438, 439, 440, 441, 442, 443, 444, 445, 446, 447, 448, 449, 450, 451, 452, 453, 454, 455, 456, 457, 458, 459, 460, 461, 462, 463, 464, 465, 466, 467, 468, 469, 470, 471, 472, 473, 474, 475, 476, 477, 478, 479, 480, 481, 482, 483, 484, 485, 486, 200, 201, 202, 203, 204, 205, 206, 207, 208, 209, 210, 211, 212, 213, 214, 115, 215, 216, 217, 120, 121, 122, 123, 124, 126, 127, 128, 129, 487, 683, 684, 650, 651, 652, 653, 654, 655, 656, 657, 685, 686, 687, 678, 679, 680, 681, 682] (by decide +kernel) (by decide +kernel)
set_option maxRecDepth 20000 in
theorem gL_law_X2_ball : GoodIn wsL_law (wsV RL 78 RX2 yX2_ball wsX2_ball) := goodIn_app (goodIn_of _ (by decide +kernel)) ggL_law_X2_ball
set_option maxRecDepth 20000 in
theorem ggL_law_X3_ball : GoodIn wsL_law wsX3_ball := goodIn_r _ [518, 519, 46, 71, 72, 5, 73, 493, 494, 495, 496, 497, 498, 279, 280, 281, 282, 134, 144, 145, 146, 147, 42, 499, 500, 501, 502, 44, 45, 503, 504, 505, 506, 507, 508, 509, 510, 233, 234, 235, 236, 237, 43, 188, 189, 190, 191, 157, 158, 159, 160, 161, 162, 163, 164, 165, 166, 167, 168, 250, 251, 252, 253, 238, 239, 240, 241, 47, 148, 149, 150, 151, 152, 153, 154, 155, 156, 658, 659, 660, 661, 662, 663, 664, 665, 666, 667, 668, 669, 670, 671, 672, 673, 674, 675, 676, 677] (by decide +kernel) (by decide +kernel)
set_option maxRecDepth 20000 in
theorem gL_law_X3_ball : GoodIn wsL_law (wsV RL 81 RX3 yX3_ball wsX3_ball) := goodIn_app (goodIn_of _ (by decide +kernel)) ggL_law_X3_ball
set_option maxRecDepth 20000 in
theorem ggL_law_X2_go : GoodIn wsL_law wsX2_go := goodIn_r _ [523, 14, 94, 92, 95, 93, 196, 197, 198, 2, 199, 53, 86, 87, 88, 211, 212, 213, 16, 214, 61, 100, 101, 102, 103, 30, 32, 104, 105, 524, 525, 526, 527, 180, 528, 529, 650, 651, 652, 653, 654, 655, 656, 657, 678, 679, 680, 681, 682] (by decide +kernel) (by decide +kernel)
set_option maxRecDepth 20000 in
theorem gL_law_X2_go : GoodIn wsL_law (wsV RL 84 RX2 yX2_go wsX2_go) := goodIn_app (goodIn_of _ (by decide +kernel)) ggL_law_X2_go
set_option maxRecDepth 20000 in
theorem ggL_law_X3_go : GoodIn wsL_law wsX3_go := goodIn_r _ [533, 534, 39, 40, 535, 536, 152, 225, 226, 227, 5, 228, 135, 136, 137, 138, 71, 72, 73, 658, 659, 660, 661, 662, 663, 664, 665, 666, 667, 668, 669, 670, 671, 672, 673, 674, 675, 676, 677] (by decide +kernel) (by decide +kernel)
set_option maxRecDepth 20000 in
theorem gL_law_X3_go : GoodIn wsL_law (wsV RL 88 RX3 yX3_go wsX3_go) := goodIn_app (goodIn_of _ (by decide +kernel)) ggL_law_X3_go
set_option maxRecDepth 20000 in
theorem ggL_law_X2_seen : GoodIn wsL_law wsX2_seen := goodIn_r _ [540, 528, 529, 541, 650, 651, 652, 653, 654, 655, 656, 657] (by decide +kernel) (by decide +kernel)
set_option maxRecDepth 20000 in
theorem gL_law_X2_seen : GoodIn wsL_law (wsV RL 89 RX2 yX2_seen wsX2_seen) := goodIn_app (goodIn_of _ (by decide +kernel)) ggL_law_X2_seen
set_option maxRecDepth 20000 in
theorem ggL_law_X3_seen : GoodIn wsL_law wsX3_seen := goodIn_r _ [545, 535, 536, 546, 658, 659, 660, 661, 662, 663, 664, 665, 666, 667, 668, 669, 670, 671, 672, 673, 674, 675, 676, 677] (by decide +kernel) (by decide +kernel)
set_option maxRecDepth 20000 in
theorem gL_law_X3_seen : GoodIn wsL_law (wsV RL 93 RX3 yX3_seen wsX3_seen) := goodIn_app (goodIn_of _ (by decide +kernel)) ggL_law_X3_seen
set_option maxRecDepth 20000 in
theorem ggL_law_X2_bend : GoodIn wsL_law wsX2_bend := goodIn_r _ [550, 14, 53, 196, 197, 198, 2, 199, 86, 87, 88, 551, 552, 553, 16, 554, 30, 33, 650, 651, 652, 653, 654, 655, 656, 657, 678, 679, 680, 681, 682] (by decide +kernel) (by decide +kernel)
set_option maxRecDepth 20000 in
theorem gL_law_X2_bend : GoodIn wsL_law (wsV RL 94 RX2 yX2_bend wsX2_bend) := goodIn_app (goodIn_of _ (by decide +kernel)) ggL_law_X2_bend
set_option maxRecDepth 20000 in
theorem ggL_law_X3_bend : GoodIn wsL_law wsX3_bend := goodIn_r _ [558, 39, 225, 226, 227, 5, 228, 135, 136, 137, 138, 71, 72, 73, 559, 560, 561, 562, 40, 658, 659, 660, 661, 662, 663, 664, 665, 666, 667, 668, 669, 670, 671, 672, 673, 674, 675, 676, 677] (by decide +kernel) (by decide +kernel)
set_option maxRecDepth 20000 in
theorem gL_law_X3_bend : GoodIn wsL_law (wsV RL 97 RX3 yX3_bend wsX3_bend) := goodIn_app (goodIn_of _ (by decide +kernel)) ggL_law_X3_bend
set_option maxRecDepth 20000 in
theorem ggL_law_X2_still : GoodIn wsL_law wsX2_still := goodIn_r _ [566, 14, 53, 94, 92, 95, 93, 196, 197, 198, 2, 199, 86, 87, 88, 650, 651, 652, 653, 654, 655, 656, 657, 678, 679, 680, 681, 682] (by decide +kernel) (by decide +kernel)
set_option maxRecDepth 20000 in
theorem gL_law_X2_still : GoodIn wsL_law (wsV RL 98 RX2 yX2_still wsX2_still) := goodIn_app (goodIn_of _ (by decide +kernel)) ggL_law_X2_still
set_option maxRecDepth 20000 in
theorem ggL_law_X3_still : GoodIn wsL_law wsX3_still := goodIn_r _ [570, 39, 40, 225, 226, 227, 5, 228, 135, 136, 137, 138, 71, 72, 73, 658, 659, 660, 661, 662, 663, 664, 665, 666, 667, 668, 669, 670, 671, 672, 673, 674, 675, 676, 677] (by decide +kernel) (by decide +kernel)
set_option maxRecDepth 20000 in
theorem gL_law_X3_still : GoodIn wsL_law (wsV RL 101 RX3 yX3_still wsX3_still) := goodIn_app (goodIn_of _ (by decide +kernel)) ggL_law_X3_still
set_option maxRecDepth 20000 in
theorem ggL_law_X2_single : GoodIn wsL_law wsX2_single := goodIn_r _ [574, 14, 53, 196, 197, 198, 2, 199, 86, 87, 88, 575, 576, 577, 94, 95, 92, 578, 579, 580, 93, 581, 582, 583, 584, 585, 27, 586, 650, 651, 652, 653, 654, 655, 656, 657, 678, 679, 680, 681, 682] (by decide +kernel) (by decide +kernel)
set_option maxRecDepth 20000 in
theorem gL_law_X2_single : GoodIn wsL_law (wsV RL 102 RX2 yX2_single wsX2_single) := goodIn_app (goodIn_of _ (by decide +kernel)) ggL_law_X2_single
set_option maxRecDepth 20000 in
theorem ggL_law_X3_single : GoodIn wsL_law wsX3_single := goodIn_r _ [590, 225, 226, 227, 5, 228, 39, 135, 136, 137, 138, 71, 72, 73, 591, 592, 593, 594, 595, 596, 597, 40, 598, 599, 600, 658, 659, 660, 661, 662, 663, 664, 665, 666, 667, 668, 669, 670, 671, 672, 673, 674, 675, 676, 677] (by decide +kernel) (by decide +kernel)
set_option maxRecDepth 20000 in
theorem gL_law_X3_single : GoodIn wsL_law (wsV RL 105 RX3 yX3_single wsX3_single) := goodIn_app (goodIn_of _ (by decide +kernel)) ggL_law_X3_single
set_option maxRecDepth 20000 in
theorem ggL_law_X2_point : GoodIn wsL_law wsX2_point := goodIn_r _ [604, 605, 541, 14, 53, 606, 196, 197, 198, 2, 199, 86, 87, 88, 575, 576, 577, 94, 95, 92, 578, 579, 580, 93, 581, 582, 583, 584, 585, 27, 586, 607, 608, 609, 610, 611, 612, 650, 651, 652, 653, 654, 655, 656, 657, 678, 679, 680, 681, 682] (by decide +kernel) (by decide +kernel)
set_option maxRecDepth 20000 in
theorem gL_law_X2_point : GoodIn wsL_law (wsV RL 106 RX2 yX2_point wsX2_point) := goodIn_app (goodIn_of _ (by decide +kernel)) ggL_law_X2_point
set_option maxRecDepth 20000 in
theorem ggL_law_X3_point : GoodIn wsL_law wsX3_point := goodIn_r _ [616, 617, 546, 596, 597, 225, 226, 227, 5, 228, 39, 135, 136, 137, 138, 71, 72, 73, 591, 592, 593, 594, 595, 40, 598, 599, 600, 658, 659, 660, 661, 662, 663, 664, 665, 666, 667, 668, 669, 670, 671, 672, 673, 674, 675, 676, 677] (by decide +kernel) (by decide +kernel)
set_option maxRecDepth 20000 in
theorem gL_law_X3_point : GoodIn wsL_law (wsV RL 110 RX3 yX3_point wsX3_point) := goodIn_app (goodIn_of _ (by decide +kernel)) ggL_law_X3_point
set_option maxRecDepth 20000 in
theorem ggL_law_X2_count : GoodIn wsL_law wsX2_count := goodIn_r _ [621, 17, 53, 622, 623, 624, 2, 625, 14, 196, 197, 198, 199, 86, 87, 88, 303, 304, 305, 203, 204, 205, 16, 206, 33, 34, 104, 105, 207, 208, 209, 210, 116, 650, 651, 652, 653, 654, 655, 656, 657, 678, 679, 680, 681, 682] (by decide +kernel) (by decide +kernel)
set_option maxRecDepth 20000 in
theorem gL_law_X2_count : GoodIn wsL_law (wsV RL 111 RX2 yX2_count wsX2_count) := goodIn_app (goodIn_of _ (by decide +kernel)) ggL_law_X2_count
set_option maxRecDepth 20000 in
theorem ggL_law_X3_count : GoodIn wsL_law wsX3_count := goodIn_r _ [629, 66, 152, 519, 39, 71, 72, 5, 73, 310, 311, 312, 313, 134, 229, 230, 231, 232, 40, 144, 145, 146, 147, 42, 161, 162, 163, 164, 658, 659, 660, 661, 662, 663, 664, 665, 666, 667, 668, 669, 670, 671, 672, 673, 674, 675, 676, 677] (by decide +kernel) (by decide +kernel)
set_option maxRecDepth 20000 in
theorem gL_law_X3_count : GoodIn wsL_law (wsV RL 114 RX3 yX3_count wsX3_count) := goodIn_app (goodIn_of _ (by decide +kernel)) ggL_law_X3_count
set_option maxRecDepth 20000 in
theorem ggL_law_X2_digest : GoodIn wsL_law wsX2_digest := goodIn_r _ [633, 634, 635, 14, 53, 17, 528, 529, 196, 197, 198, 2, 199, 86, 87, 88, 636, 637, 638, 318, 319, 320, 16, 321, 30, 32, 33, 34, 650, 651, 652, 653, 654, 655, 656, 657, 678, 679, 680, 681, 682] (by decide +kernel) (by decide +kernel)
set_option maxRecDepth 20000 in
theorem gL_law_X2_digest : GoodIn wsL_law (wsV RL 115 RX2 yX2_digest wsX2_digest) := goodIn_app (goodIn_of _ (by decide +kernel)) ggL_law_X2_digest
set_option maxRecDepth 20000 in
theorem ggL_law_X3_digest : GoodIn wsL_law wsX3_digest := goodIn_r _ [642, 643, 644, 39, 595, 40, 66, 41, 535, 536, 645, 646, 647, 5, 648, 649, 658, 659, 660, 661, 662, 663, 664, 665, 666, 667, 668, 669, 670, 671, 672, 673, 674, 675, 676, 677] (by decide +kernel) (by decide +kernel)
set_option maxRecDepth 20000 in
theorem gL_law_X3_digest : GoodIn wsL_law (wsV RL 119 RX3 yX3_digest wsX3_digest) := goodIn_app (goodIn_of _ (by decide +kernel)) ggL_law_X3_digest
theorem dL_law_0 : decode cL_law 0 = .ok (.new 7, 3) := by decide +kernel
theorem dL_law_3 : decode cL_law 3 = .ok (.dup, 1) := by decide +kernel
theorem dL_law_4 : decode cL_law 4 = .ok (.invokespecial 9, 3) := by decide +kernel
theorem dL_law_7 : decode cL_law 7 = .ok (.astore_n 1, 1) := by decide +kernel
theorem dL_law_8 : decode cL_law 8 = .ok (.new 10, 3) := by decide +kernel
theorem dL_law_11 : decode cL_law 11 = .ok (.dup, 1) := by decide +kernel
theorem dL_law_12 : decode cL_law 12 = .ok (.invokespecial 12, 3) := by decide +kernel
theorem dL_law_15 : decode cL_law 15 = .ok (.astore_n 2, 1) := by decide +kernel
theorem dL_law_16 : decode cL_law 16 = .ok (.iconst 0, 1) := by decide +kernel
theorem dL_law_17 : decode cL_law 17 = .ok (.istore_n 3, 1) := by decide +kernel
theorem dL_law_18 : decode cL_law 18 = .ok (.iload_n 3, 1) := by decide +kernel
theorem dL_law_19 : decode cL_law 19 = .ok (.aload_n 0, 1) := by decide +kernel
theorem dL_law_20 : decode cL_law 20 = .ok (.arraylength, 1) := by decide +kernel
theorem dL_law_21 : decode cL_law 21 = .ok (.iconst 5, 1) := by decide +kernel
theorem dL_law_22 : decode cL_law 22 = .ok (.isub, 1) := by decide +kernel
theorem dL_law_23 : decode cL_law 23 = .ok (.if_icmp .gt 872, 3) := by decide +kernel
theorem dL_law_26 : decode cL_law 26 = .ok (.aload_n 0, 1) := by decide +kernel
theorem dL_law_27 : decode cL_law 27 = .ok (.iload_n 3, 1) := by decide +kernel
theorem dL_law_28 : decode cL_law 28 = .ok (.iaload, 1) := by decide +kernel
theorem dL_law_29 : decode cL_law 29 = .ok (.bipush 31, 2) := by decide +kernel
theorem dL_law_31 : decode cL_law 31 = .ok (.iand, 1) := by decide +kernel
theorem dL_law_32 : decode cL_law 32 = .ok (.tableswitch 857 0 23 #[112, 165, 178, 201, 234, 277, 310, 353, 376, 399, 422, 465, 498, 531, 554, 577, 600, 673, 697, 730, 753, 776, 820, 843], 112) := by decide +kernel
theorem dL_law_144 : decode cL_law 144 = .ok (.aload_n 1, 1) := by decide +kernel
theorem dL_law_145 : decode cL_law 145 = .ok (.aload_n 0, 1) := by decide +kernel
theorem dL_law_146 : decode cL_law 146 = .ok (.iload_n 3, 1) := by decide +kernel
theorem dL_law_147 : decode cL_law 147 = .ok (.iconst 1, 1) := by decide +kernel
theorem dL_law_148 : decode cL_law 148 = .ok (.iadd, 1) := by decide +kernel
theorem dL_law_149 : decode cL_law 149 = .ok (.iaload, 1) := by decide +kernel
theorem dL_law_150 : decode cL_law 150 = .ok (.aload_n 0, 1) := by decide +kernel
theorem dL_law_151 : decode cL_law 151 = .ok (.iload_n 3, 1) := by decide +kernel
theorem dL_law_152 : decode cL_law 152 = .ok (.iconst 2, 1) := by decide +kernel
theorem dL_law_153 : decode cL_law 153 = .ok (.iadd, 1) := by decide +kernel
theorem dL_law_154 : decode cL_law 154 = .ok (.iaload, 1) := by decide +kernel
theorem dL_law_155 : decode cL_law 155 = .ok (.aload_n 0, 1) := by decide +kernel
theorem dL_law_156 : decode cL_law 156 = .ok (.iload_n 3, 1) := by decide +kernel
theorem dL_law_157 : decode cL_law 157 = .ok (.iconst 3, 1) := by decide +kernel
theorem dL_law_158 : decode cL_law 158 = .ok (.iadd, 1) := by decide +kernel
theorem dL_law_159 : decode cL_law 159 = .ok (.iaload, 1) := by decide +kernel
theorem dL_law_160 : decode cL_law 160 = .ok (.aload_n 0, 1) := by decide +kernel
theorem dL_law_161 : decode cL_law 161 = .ok (.iload_n 3, 1) := by decide +kernel
theorem dL_law_162 : decode cL_law 162 = .ok (.iconst 4, 1) := by decide +kernel
theorem dL_law_163 : decode cL_law 163 = .ok (.iadd, 1) := by decide +kernel
theorem dL_law_164 : decode cL_law 164 = .ok (.iaload, 1) := by decide +kernel
theorem dL_law_165 : decode cL_law 165 = .ok (.invokevirtual 13, 3) := by decide +kernel
theorem dL_law_168 : decode cL_law 168 = .ok (.aload_n 2, 1) := by decide +kernel
theorem dL_law_169 : decode cL_law 169 = .ok (.aload_n 0, 1) := by decide +kernel
theorem dL_law_170 : decode cL_law 170 = .ok (.iload_n 3, 1) := by decide +kernel
theorem dL_law_171 : decode cL_law 171 = .ok (.iconst 1, 1) := by decide +kernel
theorem dL_law_172 : decode cL_law 172 = .ok (.iadd, 1) := by decide +kernel
theorem dL_law_173 : decode cL_law 173 = .ok (.iaload, 1) := by decide +kernel
theorem dL_law_174 : decode cL_law 174 = .ok (.aload_n 0, 1) := by decide +kernel
theorem dL_law_175 : decode cL_law 175 = .ok (.iload_n 3, 1) := by decide +kernel
theorem dL_law_176 : decode cL_law 176 = .ok (.iconst 2, 1) := by decide +kernel
theorem dL_law_177 : decode cL_law 177 = .ok (.iadd, 1) := by decide +kernel
theorem dL_law_178 : decode cL_law 178 = .ok (.iaload, 1) := by decide +kernel
theorem dL_law_179 : decode cL_law 179 = .ok (.aload_n 0, 1) := by decide +kernel
theorem dL_law_180 : decode cL_law 180 = .ok (.iload_n 3, 1) := by decide +kernel
theorem dL_law_181 : decode cL_law 181 = .ok (.iconst 3, 1) := by decide +kernel
theorem dL_law_182 : decode cL_law 182 = .ok (.iadd, 1) := by decide +kernel
theorem dL_law_183 : decode cL_law 183 = .ok (.iaload, 1) := by decide +kernel
theorem dL_law_184 : decode cL_law 184 = .ok (.aload_n 0, 1) := by decide +kernel
theorem dL_law_185 : decode cL_law 185 = .ok (.iload_n 3, 1) := by decide +kernel
theorem dL_law_186 : decode cL_law 186 = .ok (.iconst 4, 1) := by decide +kernel
theorem dL_law_187 : decode cL_law 187 = .ok (.iadd, 1) := by decide +kernel
theorem dL_law_188 : decode cL_law 188 = .ok (.iaload, 1) := by decide +kernel
theorem dL_law_189 : decode cL_law 189 = .ok (.invokevirtual 17, 3) := by decide +kernel
theorem dL_law_192 : decode cL_law 192 = .ok (.if_icmp .eq 697, 3) := by decide +kernel
theorem dL_law_195 : decode cL_law 195 = .ok (.iconst 0, 1) := by decide +kernel
theorem dL_law_196 : decode cL_law 196 = .ok (.ireturn, 1) := by decide +kernel
theorem dL_law_197 : decode cL_law 197 = .ok (.aload_n 1, 1) := by decide +kernel
theorem dL_law_198 : decode cL_law 198 = .ok (.invokevirtual 18, 3) := by decide +kernel
theorem dL_law_201 : decode cL_law 201 = .ok (.aload_n 2, 1) := by decide +kernel
theorem dL_law_202 : decode cL_law 202 = .ok (.invokevirtual 22, 3) := by decide +kernel
theorem dL_law_205 : decode cL_law 205 = .ok (.if_icmp .eq 684, 3) := by decide +kernel
theorem dL_law_208 : decode cL_law 208 = .ok (.iconst 0, 1) := by decide +kernel
theorem dL_law_209 : decode cL_law 209 = .ok (.ireturn, 1) := by decide +kernel
theorem dL_law_210 : decode cL_law 210 = .ok (.aload_n 1, 1) := by decide +kernel
theorem dL_law_211 : decode cL_law 211 = .ok (.aload_n 0, 1) := by decide +kernel
theorem dL_law_212 : decode cL_law 212 = .ok (.iload_n 3, 1) := by decide +kernel
theorem dL_law_213 : decode cL_law 213 = .ok (.iconst 1, 1) := by decide +kernel
theorem dL_law_214 : decode cL_law 214 = .ok (.iadd, 1) := by decide +kernel
theorem dL_law_215 : decode cL_law 215 = .ok (.iaload, 1) := by decide +kernel
theorem dL_law_216 : decode cL_law 216 = .ok (.invokevirtual 23, 3) := by decide +kernel
theorem dL_law_219 : decode cL_law 219 = .ok (.aload_n 2, 1) := by decide +kernel
theorem dL_law_220 : decode cL_law 220 = .ok (.aload_n 0, 1) := by decide +kernel
theorem dL_law_221 : decode cL_law 221 = .ok (.iload_n 3, 1) := by decide +kernel
theorem dL_law_222 : decode cL_law 222 = .ok (.iconst 1, 1) := by decide +kernel
theorem dL_law_223 : decode cL_law 223 = .ok (.iadd, 1) := by decide +kernel
theorem dL_law_224 : decode cL_law 224 = .ok (.iaload, 1) := by decide +kernel
theorem dL_law_225 : decode cL_law 225 = .ok (.invokevirtual 27, 3) := by decide +kernel
theorem dL_law_228 : decode cL_law 228 = .ok (.if_icmp .eq 661, 3) := by decide +kernel
theorem dL_law_231 : decode cL_law 231 = .ok (.iconst 0, 1) := by decide +kernel
theorem dL_law_232 : decode cL_law 232 = .ok (.ireturn, 1) := by decide +kernel
theorem dL_law_233 : decode cL_law 233 = .ok (.aload_n 1, 1) := by decide +kernel
theorem dL_law_234 : decode cL_law 234 = .ok (.aload_n 0, 1) := by decide +kernel
theorem dL_law_235 : decode cL_law 235 = .ok (.iload_n 3, 1) := by decide +kernel
theorem dL_law_236 : decode cL_law 236 = .ok (.iconst 1, 1) := by decide +kernel
theorem dL_law_237 : decode cL_law 237 = .ok (.iadd, 1) := by decide +kernel
theorem dL_law_238 : decode cL_law 238 = .ok (.iaload, 1) := by decide +kernel
theorem dL_law_239 : decode cL_law 239 = .ok (.aload_n 0, 1) := by decide +kernel
theorem dL_law_240 : decode cL_law 240 = .ok (.iload_n 3, 1) := by decide +kernel
theorem dL_law_241 : decode cL_law 241 = .ok (.iconst 2, 1) := by decide +kernel
theorem dL_law_242 : decode cL_law 242 = .ok (.iadd, 1) := by decide +kernel
theorem dL_law_243 : decode cL_law 243 = .ok (.iaload, 1) := by decide +kernel
theorem dL_law_244 : decode cL_law 244 = .ok (.invokevirtual 28, 3) := by decide +kernel
theorem dL_law_247 : decode cL_law 247 = .ok (.aload_n 2, 1) := by decide +kernel
theorem dL_law_248 : decode cL_law 248 = .ok (.aload_n 0, 1) := by decide +kernel
theorem dL_law_249 : decode cL_law 249 = .ok (.iload_n 3, 1) := by decide +kernel
theorem dL_law_250 : decode cL_law 250 = .ok (.iconst 1, 1) := by decide +kernel
theorem dL_law_251 : decode cL_law 251 = .ok (.iadd, 1) := by decide +kernel
theorem dL_law_252 : decode cL_law 252 = .ok (.iaload, 1) := by decide +kernel
theorem dL_law_253 : decode cL_law 253 = .ok (.aload_n 0, 1) := by decide +kernel
theorem dL_law_254 : decode cL_law 254 = .ok (.iload_n 3, 1) := by decide +kernel
theorem dL_law_255 : decode cL_law 255 = .ok (.iconst 2, 1) := by decide +kernel
theorem dL_law_256 : decode cL_law 256 = .ok (.iadd, 1) := by decide +kernel
theorem dL_law_257 : decode cL_law 257 = .ok (.iaload, 1) := by decide +kernel
theorem dL_law_258 : decode cL_law 258 = .ok (.invokevirtual 32, 3) := by decide +kernel
theorem dL_law_261 : decode cL_law 261 = .ok (.if_icmp .eq 628, 3) := by decide +kernel
theorem dL_law_264 : decode cL_law 264 = .ok (.iconst 0, 1) := by decide +kernel
theorem dL_law_265 : decode cL_law 265 = .ok (.ireturn, 1) := by decide +kernel
theorem dL_law_266 : decode cL_law 266 = .ok (.aload_n 1, 1) := by decide +kernel
theorem dL_law_267 : decode cL_law 267 = .ok (.aload_n 0, 1) := by decide +kernel
theorem dL_law_268 : decode cL_law 268 = .ok (.iload_n 3, 1) := by decide +kernel
theorem dL_law_269 : decode cL_law 269 = .ok (.iconst 1, 1) := by decide +kernel
theorem dL_law_270 : decode cL_law 270 = .ok (.iadd, 1) := by decide +kernel
theorem dL_law_271 : decode cL_law 271 = .ok (.iaload, 1) := by decide +kernel
theorem dL_law_272 : decode cL_law 272 = .ok (.aload_n 0, 1) := by decide +kernel
theorem dL_law_273 : decode cL_law 273 = .ok (.iload_n 3, 1) := by decide +kernel
theorem dL_law_274 : decode cL_law 274 = .ok (.iconst 2, 1) := by decide +kernel
theorem dL_law_275 : decode cL_law 275 = .ok (.iadd, 1) := by decide +kernel
theorem dL_law_276 : decode cL_law 276 = .ok (.iaload, 1) := by decide +kernel
theorem dL_law_277 : decode cL_law 277 = .ok (.aload_n 0, 1) := by decide +kernel
theorem dL_law_278 : decode cL_law 278 = .ok (.iload_n 3, 1) := by decide +kernel
theorem dL_law_279 : decode cL_law 279 = .ok (.iconst 3, 1) := by decide +kernel
theorem dL_law_280 : decode cL_law 280 = .ok (.iadd, 1) := by decide +kernel
theorem dL_law_281 : decode cL_law 281 = .ok (.iaload, 1) := by decide +kernel
theorem dL_law_282 : decode cL_law 282 = .ok (.invokevirtual 33, 3) := by decide +kernel
theorem dL_law_285 : decode cL_law 285 = .ok (.aload_n 2, 1) := by decide +kernel
theorem dL_law_286 : decode cL_law 286 = .ok (.aload_n 0, 1) := by decide +kernel
theorem dL_law_287 : decode cL_law 287 = .ok (.iload_n 3, 1) := by decide +kernel
theorem dL_law_288 : decode cL_law 288 = .ok (.iconst 1, 1) := by decide +kernel
theorem dL_law_289 : decode cL_law 289 = .ok (.iadd, 1) := by decide +kernel
theorem dL_law_290 : decode cL_law 290 = .ok (.iaload, 1) := by decide +kernel
theorem dL_law_291 : decode cL_law 291 = .ok (.aload_n 0, 1) := by decide +kernel
theorem dL_law_292 : decode cL_law 292 = .ok (.iload_n 3, 1) := by decide +kernel
theorem dL_law_293 : decode cL_law 293 = .ok (.iconst 2, 1) := by decide +kernel
theorem dL_law_294 : decode cL_law 294 = .ok (.iadd, 1) := by decide +kernel
theorem dL_law_295 : decode cL_law 295 = .ok (.iaload, 1) := by decide +kernel
theorem dL_law_296 : decode cL_law 296 = .ok (.aload_n 0, 1) := by decide +kernel
theorem dL_law_297 : decode cL_law 297 = .ok (.iload_n 3, 1) := by decide +kernel
theorem dL_law_298 : decode cL_law 298 = .ok (.iconst 3, 1) := by decide +kernel
theorem dL_law_299 : decode cL_law 299 = .ok (.iadd, 1) := by decide +kernel
theorem dL_law_300 : decode cL_law 300 = .ok (.iaload, 1) := by decide +kernel
theorem dL_law_301 : decode cL_law 301 = .ok (.invokevirtual 37, 3) := by decide +kernel
theorem dL_law_304 : decode cL_law 304 = .ok (.if_icmp .eq 585, 3) := by decide +kernel
theorem dL_law_307 : decode cL_law 307 = .ok (.iconst 0, 1) := by decide +kernel
theorem dL_law_308 : decode cL_law 308 = .ok (.ireturn, 1) := by decide +kernel
theorem dL_law_309 : decode cL_law 309 = .ok (.aload_n 1, 1) := by decide +kernel
theorem dL_law_310 : decode cL_law 310 = .ok (.aload_n 0, 1) := by decide +kernel
theorem dL_law_311 : decode cL_law 311 = .ok (.iload_n 3, 1) := by decide +kernel
theorem dL_law_312 : decode cL_law 312 = .ok (.iconst 1, 1) := by decide +kernel
theorem dL_law_313 : decode cL_law 313 = .ok (.iadd, 1) := by decide +kernel
theorem dL_law_314 : decode cL_law 314 = .ok (.iaload, 1) := by decide +kernel
theorem dL_law_315 : decode cL_law 315 = .ok (.aload_n 0, 1) := by decide +kernel
theorem dL_law_316 : decode cL_law 316 = .ok (.iload_n 3, 1) := by decide +kernel
theorem dL_law_317 : decode cL_law 317 = .ok (.iconst 2, 1) := by decide +kernel
theorem dL_law_318 : decode cL_law 318 = .ok (.iadd, 1) := by decide +kernel
theorem dL_law_319 : decode cL_law 319 = .ok (.iaload, 1) := by decide +kernel
theorem dL_law_320 : decode cL_law 320 = .ok (.invokevirtual 38, 3) := by decide +kernel
theorem dL_law_323 : decode cL_law 323 = .ok (.aload_n 2, 1) := by decide +kernel
theorem dL_law_324 : decode cL_law 324 = .ok (.aload_n 0, 1) := by decide +kernel
theorem dL_law_325 : decode cL_law 325 = .ok (.iload_n 3, 1) := by decide +kernel
theorem dL_law_326 : decode cL_law 326 = .ok (.iconst 1, 1) := by decide +kernel
theorem dL_law_327 : decode cL_law 327 = .ok (.iadd, 1) := by decide +kernel
theorem dL_law_328 : decode cL_law 328 = .ok (.iaload, 1) := by decide +kernel
theorem dL_law_329 : decode cL_law 329 = .ok (.aload_n 0, 1) := by decide +kernel
theorem dL_law_330 : decode cL_law 330 = .ok (.iload_n 3, 1) := by decide +kernel
theorem dL_law_331 : decode cL_law 331 = .ok (.iconst 2, 1) := by decide +kernel
theorem dL_law_332 : decode cL_law 332 = .ok (.iadd, 1) := by decide +kernel
theorem dL_law_333 : decode cL_law 333 = .ok (.iaload, 1) := by decide +kernel
theorem dL_law_334 : decode cL_law 334 = .ok (.invokevirtual 41, 3) := by decide +kernel
theorem dL_law_337 : decode cL_law 337 = .ok (.if_icmp .eq 552, 3) := by decide +kernel
theorem dL_law_340 : decode cL_law 340 = .ok (.iconst 0, 1) := by decide +kernel
theorem dL_law_341 : decode cL_law 341 = .ok (.ireturn, 1) := by decide +kernel
theorem dL_law_342 : decode cL_law 342 = .ok (.aload_n 1, 1) := by decide +kernel
theorem dL_law_343 : decode cL_law 343 = .ok (.aload_n 0, 1) := by decide +kernel
theorem dL_law_344 : decode cL_law 344 = .ok (.iload_n 3, 1) := by decide +kernel
theorem dL_law_345 : decode cL_law 345 = .ok (.iconst 1, 1) := by decide +kernel
theorem dL_law_346 : decode cL_law 346 = .ok (.iadd, 1) := by decide +kernel
theorem dL_law_347 : decode cL_law 347 = .ok (.iaload, 1) := by decide +kernel
theorem dL_law_348 : decode cL_law 348 = .ok (.aload_n 0, 1) := by decide +kernel
theorem dL_law_349 : decode cL_law 349 = .ok (.iload_n 3, 1) := by decide +kernel
theorem dL_law_350 : decode cL_law 350 = .ok (.iconst 2, 1) := by decide +kernel
theorem dL_law_351 : decode cL_law 351 = .ok (.iadd, 1) := by decide +kernel
theorem dL_law_352 : decode cL_law 352 = .ok (.iaload, 1) := by decide +kernel
theorem dL_law_353 : decode cL_law 353 = .ok (.aload_n 0, 1) := by decide +kernel
theorem dL_law_354 : decode cL_law 354 = .ok (.iload_n 3, 1) := by decide +kernel
theorem dL_law_355 : decode cL_law 355 = .ok (.iconst 3, 1) := by decide +kernel
theorem dL_law_356 : decode cL_law 356 = .ok (.iadd, 1) := by decide +kernel
theorem dL_law_357 : decode cL_law 357 = .ok (.iaload, 1) := by decide +kernel
theorem dL_law_358 : decode cL_law 358 = .ok (.invokevirtual 42, 3) := by decide +kernel
theorem dL_law_361 : decode cL_law 361 = .ok (.aload_n 2, 1) := by decide +kernel
theorem dL_law_362 : decode cL_law 362 = .ok (.aload_n 0, 1) := by decide +kernel
theorem dL_law_363 : decode cL_law 363 = .ok (.iload_n 3, 1) := by decide +kernel
theorem dL_law_364 : decode cL_law 364 = .ok (.iconst 1, 1) := by decide +kernel
theorem dL_law_365 : decode cL_law 365 = .ok (.iadd, 1) := by decide +kernel
theorem dL_law_366 : decode cL_law 366 = .ok (.iaload, 1) := by decide +kernel
theorem dL_law_367 : decode cL_law 367 = .ok (.aload_n 0, 1) := by decide +kernel
theorem dL_law_368 : decode cL_law 368 = .ok (.iload_n 3, 1) := by decide +kernel
theorem dL_law_369 : decode cL_law 369 = .ok (.iconst 2, 1) := by decide +kernel
theorem dL_law_370 : decode cL_law 370 = .ok (.iadd, 1) := by decide +kernel
theorem dL_law_371 : decode cL_law 371 = .ok (.iaload, 1) := by decide +kernel
theorem dL_law_372 : decode cL_law 372 = .ok (.aload_n 0, 1) := by decide +kernel
theorem dL_law_373 : decode cL_law 373 = .ok (.iload_n 3, 1) := by decide +kernel
theorem dL_law_374 : decode cL_law 374 = .ok (.iconst 3, 1) := by decide +kernel
theorem dL_law_375 : decode cL_law 375 = .ok (.iadd, 1) := by decide +kernel
theorem dL_law_376 : decode cL_law 376 = .ok (.iaload, 1) := by decide +kernel
theorem dL_law_377 : decode cL_law 377 = .ok (.invokevirtual 45, 3) := by decide +kernel
theorem dL_law_380 : decode cL_law 380 = .ok (.if_icmp .eq 509, 3) := by decide +kernel
theorem dL_law_383 : decode cL_law 383 = .ok (.iconst 0, 1) := by decide +kernel
theorem dL_law_384 : decode cL_law 384 = .ok (.ireturn, 1) := by decide +kernel
theorem dL_law_385 : decode cL_law 385 = .ok (.aload_n 1, 1) := by decide +kernel
theorem dL_law_386 : decode cL_law 386 = .ok (.aload_n 0, 1) := by decide +kernel
theorem dL_law_387 : decode cL_law 387 = .ok (.iload_n 3, 1) := by decide +kernel
theorem dL_law_388 : decode cL_law 388 = .ok (.iconst 1, 1) := by decide +kernel
theorem dL_law_389 : decode cL_law 389 = .ok (.iadd, 1) := by decide +kernel
theorem dL_law_390 : decode cL_law 390 = .ok (.iaload, 1) := by decide +kernel
theorem dL_law_391 : decode cL_law 391 = .ok (.invokevirtual 46, 3) := by decide +kernel
theorem dL_law_394 : decode cL_law 394 = .ok (.aload_n 2, 1) := by decide +kernel
theorem dL_law_395 : decode cL_law 395 = .ok (.aload_n 0, 1) := by decide +kernel
theorem dL_law_396 : decode cL_law 396 = .ok (.iload_n 3, 1) := by decide +kernel
theorem dL_law_397 : decode cL_law 397 = .ok (.iconst 1, 1) := by decide +kernel
theorem dL_law_398 : decode cL_law 398 = .ok (.iadd, 1) := by decide +kernel
theorem dL_law_399 : decode cL_law 399 = .ok (.iaload, 1) := by decide +kernel
theorem dL_law_400 : decode cL_law 400 = .ok (.invokevirtual 49, 3) := by decide +kernel
theorem dL_law_403 : decode cL_law 403 = .ok (.if_icmp .eq 486, 3) := by decide +kernel
theorem dL_law_406 : decode cL_law 406 = .ok (.iconst 0, 1) := by decide +kernel
theorem dL_law_407 : decode cL_law 407 = .ok (.ireturn, 1) := by decide +kernel
theorem dL_law_408 : decode cL_law 408 = .ok (.aload_n 1, 1) := by decide +kernel
theorem dL_law_409 : decode cL_law 409 = .ok (.aload_n 0, 1) := by decide +kernel
theorem dL_law_410 : decode cL_law 410 = .ok (.iload_n 3, 1) := by decide +kernel
theorem dL_law_411 : decode cL_law 411 = .ok (.iconst 1, 1) := by decide +kernel
theorem dL_law_412 : decode cL_law 412 = .ok (.iadd, 1) := by decide +kernel
theorem dL_law_413 : decode cL_law 413 = .ok (.iaload, 1) := by decide +kernel
theorem dL_law_414 : decode cL_law 414 = .ok (.invokevirtual 50, 3) := by decide +kernel
theorem dL_law_417 : decode cL_law 417 = .ok (.aload_n 2, 1) := by decide +kernel
theorem dL_law_418 : decode cL_law 418 = .ok (.aload_n 0, 1) := by decide +kernel
theorem dL_law_419 : decode cL_law 419 = .ok (.iload_n 3, 1) := by decide +kernel
theorem dL_law_420 : decode cL_law 420 = .ok (.iconst 1, 1) := by decide +kernel
theorem dL_law_421 : decode cL_law 421 = .ok (.iadd, 1) := by decide +kernel
theorem dL_law_422 : decode cL_law 422 = .ok (.iaload, 1) := by decide +kernel
theorem dL_law_423 : decode cL_law 423 = .ok (.invokevirtual 53, 3) := by decide +kernel
theorem dL_law_426 : decode cL_law 426 = .ok (.if_icmp .eq 463, 3) := by decide +kernel
theorem dL_law_429 : decode cL_law 429 = .ok (.iconst 0, 1) := by decide +kernel
theorem dL_law_430 : decode cL_law 430 = .ok (.ireturn, 1) := by decide +kernel
theorem dL_law_431 : decode cL_law 431 = .ok (.aload_n 1, 1) := by decide +kernel
theorem dL_law_432 : decode cL_law 432 = .ok (.aload_n 0, 1) := by decide +kernel
theorem dL_law_433 : decode cL_law 433 = .ok (.iload_n 3, 1) := by decide +kernel
theorem dL_law_434 : decode cL_law 434 = .ok (.iconst 1, 1) := by decide +kernel
theorem dL_law_435 : decode cL_law 435 = .ok (.iadd, 1) := by decide +kernel
theorem dL_law_436 : decode cL_law 436 = .ok (.iaload, 1) := by decide +kernel
theorem dL_law_437 : decode cL_law 437 = .ok (.invokevirtual 54, 3) := by decide +kernel
theorem dL_law_440 : decode cL_law 440 = .ok (.aload_n 2, 1) := by decide +kernel
theorem dL_law_441 : decode cL_law 441 = .ok (.aload_n 0, 1) := by decide +kernel
theorem dL_law_442 : decode cL_law 442 = .ok (.iload_n 3, 1) := by decide +kernel
theorem dL_law_443 : decode cL_law 443 = .ok (.iconst 1, 1) := by decide +kernel
theorem dL_law_444 : decode cL_law 444 = .ok (.iadd, 1) := by decide +kernel
theorem dL_law_445 : decode cL_law 445 = .ok (.iaload, 1) := by decide +kernel
theorem dL_law_446 : decode cL_law 446 = .ok (.invokevirtual 57, 3) := by decide +kernel
theorem dL_law_449 : decode cL_law 449 = .ok (.if_icmp .eq 440, 3) := by decide +kernel
theorem dL_law_452 : decode cL_law 452 = .ok (.iconst 0, 1) := by decide +kernel
theorem dL_law_453 : decode cL_law 453 = .ok (.ireturn, 1) := by decide +kernel
theorem dL_law_454 : decode cL_law 454 = .ok (.aload_n 1, 1) := by decide +kernel
theorem dL_law_455 : decode cL_law 455 = .ok (.aload_n 0, 1) := by decide +kernel
theorem dL_law_456 : decode cL_law 456 = .ok (.iload_n 3, 1) := by decide +kernel
theorem dL_law_457 : decode cL_law 457 = .ok (.iconst 1, 1) := by decide +kernel
theorem dL_law_458 : decode cL_law 458 = .ok (.iadd, 1) := by decide +kernel
theorem dL_law_459 : decode cL_law 459 = .ok (.iaload, 1) := by decide +kernel
theorem dL_law_460 : decode cL_law 460 = .ok (.aload_n 0, 1) := by decide +kernel
theorem dL_law_461 : decode cL_law 461 = .ok (.iload_n 3, 1) := by decide +kernel
theorem dL_law_462 : decode cL_law 462 = .ok (.iconst 2, 1) := by decide +kernel
theorem dL_law_463 : decode cL_law 463 = .ok (.iadd, 1) := by decide +kernel
theorem dL_law_464 : decode cL_law 464 = .ok (.iaload, 1) := by decide +kernel
theorem dL_law_465 : decode cL_law 465 = .ok (.aload_n 0, 1) := by decide +kernel
theorem dL_law_466 : decode cL_law 466 = .ok (.iload_n 3, 1) := by decide +kernel
theorem dL_law_467 : decode cL_law 467 = .ok (.iconst 3, 1) := by decide +kernel
theorem dL_law_468 : decode cL_law 468 = .ok (.iadd, 1) := by decide +kernel
theorem dL_law_469 : decode cL_law 469 = .ok (.iaload, 1) := by decide +kernel
theorem dL_law_470 : decode cL_law 470 = .ok (.invokevirtual 58, 3) := by decide +kernel
theorem dL_law_473 : decode cL_law 473 = .ok (.aload_n 2, 1) := by decide +kernel
theorem dL_law_474 : decode cL_law 474 = .ok (.aload_n 0, 1) := by decide +kernel
theorem dL_law_475 : decode cL_law 475 = .ok (.iload_n 3, 1) := by decide +kernel
theorem dL_law_476 : decode cL_law 476 = .ok (.iconst 1, 1) := by decide +kernel
theorem dL_law_477 : decode cL_law 477 = .ok (.iadd, 1) := by decide +kernel
theorem dL_law_478 : decode cL_law 478 = .ok (.iaload, 1) := by decide +kernel
theorem dL_law_479 : decode cL_law 479 = .ok (.aload_n 0, 1) := by decide +kernel
theorem dL_law_480 : decode cL_law 480 = .ok (.iload_n 3, 1) := by decide +kernel
theorem dL_law_481 : decode cL_law 481 = .ok (.iconst 2, 1) := by decide +kernel
theorem dL_law_482 : decode cL_law 482 = .ok (.iadd, 1) := by decide +kernel
theorem dL_law_483 : decode cL_law 483 = .ok (.iaload, 1) := by decide +kernel
theorem dL_law_484 : decode cL_law 484 = .ok (.aload_n 0, 1) := by decide +kernel
theorem dL_law_485 : decode cL_law 485 = .ok (.iload_n 3, 1) := by decide +kernel
theorem dL_law_486 : decode cL_law 486 = .ok (.iconst 3, 1) := by decide +kernel
theorem dL_law_487 : decode cL_law 487 = .ok (.iadd, 1) := by decide +kernel
theorem dL_law_488 : decode cL_law 488 = .ok (.iaload, 1) := by decide +kernel
theorem dL_law_489 : decode cL_law 489 = .ok (.invokevirtual 61, 3) := by decide +kernel
theorem dL_law_492 : decode cL_law 492 = .ok (.if_icmp .eq 397, 3) := by decide +kernel
theorem dL_law_495 : decode cL_law 495 = .ok (.iconst 0, 1) := by decide +kernel
theorem dL_law_496 : decode cL_law 496 = .ok (.ireturn, 1) := by decide +kernel
theorem dL_law_497 : decode cL_law 497 = .ok (.aload_n 1, 1) := by decide +kernel
theorem dL_law_498 : decode cL_law 498 = .ok (.aload_n 0, 1) := by decide +kernel
theorem dL_law_499 : decode cL_law 499 = .ok (.iload_n 3, 1) := by decide +kernel
theorem dL_law_500 : decode cL_law 500 = .ok (.iconst 1, 1) := by decide +kernel
theorem dL_law_501 : decode cL_law 501 = .ok (.iadd, 1) := by decide +kernel
theorem dL_law_502 : decode cL_law 502 = .ok (.iaload, 1) := by decide +kernel
theorem dL_law_503 : decode cL_law 503 = .ok (.aload_n 0, 1) := by decide +kernel
theorem dL_law_504 : decode cL_law 504 = .ok (.iload_n 3, 1) := by decide +kernel
theorem dL_law_505 : decode cL_law 505 = .ok (.iconst 2, 1) := by decide +kernel
theorem dL_law_506 : decode cL_law 506 = .ok (.iadd, 1) := by decide +kernel
theorem dL_law_507 : decode cL_law 507 = .ok (.iaload, 1) := by decide +kernel
theorem dL_law_508 : decode cL_law 508 = .ok (.invokevirtual 62, 3) := by decide +kernel
theorem dL_law_511 : decode cL_law 511 = .ok (.aload_n 2, 1) := by decide +kernel
theorem dL_law_512 : decode cL_law 512 = .ok (.aload_n 0, 1) := by decide +kernel
theorem dL_law_513 : decode cL_law 513 = .ok (.iload_n 3, 1) := by decide +kernel
theorem dL_law_514 : decode cL_law 514 = .ok (.iconst 1, 1) := by decide +kernel
theorem dL_law_515 : decode cL_law 515 = .ok (.iadd, 1) := by decide +kernel
theorem dL_law_516 : decode cL_law 516 = .ok (.iaload, 1) := by decide +kernel
theorem dL_law_517 : decode cL_law 517 = .ok (.aload_n 0, 1) := by decide +kernel
theorem dL_law_518 : decode cL_law 518 = .ok (.iload_n 3, 1) := by decide +kernel
theorem dL_law_519 : decode cL_law 519 = .ok (.iconst 2, 1) := by decide +kernel
theorem dL_law_520 : decode cL_law 520 = .ok (.iadd, 1) := by decide +kernel
theorem dL_law_521 : decode cL_law 521 = .ok (.iaload, 1) := by decide +kernel
theorem dL_law_522 : decode cL_law 522 = .ok (.invokevirtual 65, 3) := by decide +kernel
theorem dL_law_525 : decode cL_law 525 = .ok (.if_icmp .eq 364, 3) := by decide +kernel
theorem dL_law_528 : decode cL_law 528 = .ok (.iconst 0, 1) := by decide +kernel
theorem dL_law_529 : decode cL_law 529 = .ok (.ireturn, 1) := by decide +kernel
theorem dL_law_530 : decode cL_law 530 = .ok (.aload_n 1, 1) := by decide +kernel
theorem dL_law_531 : decode cL_law 531 = .ok (.aload_n 0, 1) := by decide +kernel
theorem dL_law_532 : decode cL_law 532 = .ok (.iload_n 3, 1) := by decide +kernel
theorem dL_law_533 : decode cL_law 533 = .ok (.iconst 1, 1) := by decide +kernel
theorem dL_law_534 : decode cL_law 534 = .ok (.iadd, 1) := by decide +kernel
theorem dL_law_535 : decode cL_law 535 = .ok (.iaload, 1) := by decide +kernel
theorem dL_law_536 : decode cL_law 536 = .ok (.aload_n 0, 1) := by decide +kernel
theorem dL_law_537 : decode cL_law 537 = .ok (.iload_n 3, 1) := by decide +kernel
theorem dL_law_538 : decode cL_law 538 = .ok (.iconst 2, 1) := by decide +kernel
theorem dL_law_539 : decode cL_law 539 = .ok (.iadd, 1) := by decide +kernel
theorem dL_law_540 : decode cL_law 540 = .ok (.iaload, 1) := by decide +kernel
theorem dL_law_541 : decode cL_law 541 = .ok (.invokevirtual 66, 3) := by decide +kernel
theorem dL_law_544 : decode cL_law 544 = .ok (.aload_n 2, 1) := by decide +kernel
theorem dL_law_545 : decode cL_law 545 = .ok (.aload_n 0, 1) := by decide +kernel
theorem dL_law_546 : decode cL_law 546 = .ok (.iload_n 3, 1) := by decide +kernel
theorem dL_law_547 : decode cL_law 547 = .ok (.iconst 1, 1) := by decide +kernel
theorem dL_law_548 : decode cL_law 548 = .ok (.iadd, 1) := by decide +kernel
theorem dL_law_549 : decode cL_law 549 = .ok (.iaload, 1) := by decide +kernel
theorem dL_law_550 : decode cL_law 550 = .ok (.aload_n 0, 1) := by decide +kernel
theorem dL_law_551 : decode cL_law 551 = .ok (.iload_n 3, 1) := by decide +kernel
theorem dL_law_552 : decode cL_law 552 = .ok (.iconst 2, 1) := by decide +kernel
theorem dL_law_553 : decode cL_law 553 = .ok (.iadd, 1) := by decide +kernel
theorem dL_law_554 : decode cL_law 554 = .ok (.iaload, 1) := by decide +kernel
theorem dL_law_555 : decode cL_law 555 = .ok (.invokevirtual 69, 3) := by decide +kernel
theorem dL_law_558 : decode cL_law 558 = .ok (.if_icmp .eq 331, 3) := by decide +kernel
theorem dL_law_561 : decode cL_law 561 = .ok (.iconst 0, 1) := by decide +kernel
theorem dL_law_562 : decode cL_law 562 = .ok (.ireturn, 1) := by decide +kernel
theorem dL_law_563 : decode cL_law 563 = .ok (.aload_n 1, 1) := by decide +kernel
theorem dL_law_564 : decode cL_law 564 = .ok (.aload_n 0, 1) := by decide +kernel
theorem dL_law_565 : decode cL_law 565 = .ok (.iload_n 3, 1) := by decide +kernel
theorem dL_law_566 : decode cL_law 566 = .ok (.iconst 1, 1) := by decide +kernel
theorem dL_law_567 : decode cL_law 567 = .ok (.iadd, 1) := by decide +kernel
theorem dL_law_568 : decode cL_law 568 = .ok (.iaload, 1) := by decide +kernel
theorem dL_law_569 : decode cL_law 569 = .ok (.invokevirtual 70, 3) := by decide +kernel
theorem dL_law_572 : decode cL_law 572 = .ok (.aload_n 2, 1) := by decide +kernel
theorem dL_law_573 : decode cL_law 573 = .ok (.aload_n 0, 1) := by decide +kernel
theorem dL_law_574 : decode cL_law 574 = .ok (.iload_n 3, 1) := by decide +kernel
theorem dL_law_575 : decode cL_law 575 = .ok (.iconst 1, 1) := by decide +kernel
theorem dL_law_576 : decode cL_law 576 = .ok (.iadd, 1) := by decide +kernel
theorem dL_law_577 : decode cL_law 577 = .ok (.iaload, 1) := by decide +kernel
theorem dL_law_578 : decode cL_law 578 = .ok (.invokevirtual 73, 3) := by decide +kernel
theorem dL_law_581 : decode cL_law 581 = .ok (.if_icmp .eq 308, 3) := by decide +kernel
theorem dL_law_584 : decode cL_law 584 = .ok (.iconst 0, 1) := by decide +kernel
theorem dL_law_585 : decode cL_law 585 = .ok (.ireturn, 1) := by decide +kernel
theorem dL_law_586 : decode cL_law 586 = .ok (.aload_n 1, 1) := by decide +kernel
theorem dL_law_587 : decode cL_law 587 = .ok (.aload_n 0, 1) := by decide +kernel
theorem dL_law_588 : decode cL_law 588 = .ok (.iload_n 3, 1) := by decide +kernel
theorem dL_law_589 : decode cL_law 589 = .ok (.iconst 1, 1) := by decide +kernel
theorem dL_law_590 : decode cL_law 590 = .ok (.iadd, 1) := by decide +kernel
theorem dL_law_591 : decode cL_law 591 = .ok (.iaload, 1) := by decide +kernel
theorem dL_law_592 : decode cL_law 592 = .ok (.invokevirtual 74, 3) := by decide +kernel
theorem dL_law_595 : decode cL_law 595 = .ok (.aload_n 2, 1) := by decide +kernel
theorem dL_law_596 : decode cL_law 596 = .ok (.aload_n 0, 1) := by decide +kernel
theorem dL_law_597 : decode cL_law 597 = .ok (.iload_n 3, 1) := by decide +kernel
theorem dL_law_598 : decode cL_law 598 = .ok (.iconst 1, 1) := by decide +kernel
theorem dL_law_599 : decode cL_law 599 = .ok (.iadd, 1) := by decide +kernel
theorem dL_law_600 : decode cL_law 600 = .ok (.iaload, 1) := by decide +kernel
theorem dL_law_601 : decode cL_law 601 = .ok (.invokevirtual 77, 3) := by decide +kernel
theorem dL_law_604 : decode cL_law 604 = .ok (.if_icmp .eq 285, 3) := by decide +kernel
theorem dL_law_607 : decode cL_law 607 = .ok (.iconst 0, 1) := by decide +kernel
theorem dL_law_608 : decode cL_law 608 = .ok (.ireturn, 1) := by decide +kernel
theorem dL_law_609 : decode cL_law 609 = .ok (.aload_n 1, 1) := by decide +kernel
theorem dL_law_610 : decode cL_law 610 = .ok (.aload_n 0, 1) := by decide +kernel
theorem dL_law_611 : decode cL_law 611 = .ok (.iload_n 3, 1) := by decide +kernel
theorem dL_law_612 : decode cL_law 612 = .ok (.iconst 1, 1) := by decide +kernel
theorem dL_law_613 : decode cL_law 613 = .ok (.iadd, 1) := by decide +kernel
theorem dL_law_614 : decode cL_law 614 = .ok (.iaload, 1) := by decide +kernel
theorem dL_law_615 : decode cL_law 615 = .ok (.invokevirtual 78, 3) := by decide +kernel
theorem dL_law_618 : decode cL_law 618 = .ok (.aload_n 2, 1) := by decide +kernel
theorem dL_law_619 : decode cL_law 619 = .ok (.aload_n 0, 1) := by decide +kernel
theorem dL_law_620 : decode cL_law 620 = .ok (.iload_n 3, 1) := by decide +kernel
theorem dL_law_621 : decode cL_law 621 = .ok (.iconst 1, 1) := by decide +kernel
theorem dL_law_622 : decode cL_law 622 = .ok (.iadd, 1) := by decide +kernel
theorem dL_law_623 : decode cL_law 623 = .ok (.iaload, 1) := by decide +kernel
theorem dL_law_624 : decode cL_law 624 = .ok (.invokevirtual 81, 3) := by decide +kernel
theorem dL_law_627 : decode cL_law 627 = .ok (.if_icmp .eq 262, 3) := by decide +kernel
theorem dL_law_630 : decode cL_law 630 = .ok (.iconst 0, 1) := by decide +kernel
theorem dL_law_631 : decode cL_law 631 = .ok (.ireturn, 1) := by decide +kernel
theorem dL_law_632 : decode cL_law 632 = .ok (.aload_n 1, 1) := by decide +kernel
theorem dL_law_633 : decode cL_law 633 = .ok (.aload_n 0, 1) := by decide +kernel
theorem dL_law_634 : decode cL_law 634 = .ok (.iload_n 3, 1) := by decide +kernel
theorem dL_law_635 : decode cL_law 635 = .ok (.iconst 1, 1) := by decide +kernel
theorem dL_law_636 : decode cL_law 636 = .ok (.iadd, 1) := by decide +kernel
theorem dL_law_637 : decode cL_law 637 = .ok (.iaload, 1) := by decide +kernel
theorem dL_law_638 : decode cL_law 638 = .ok (.aload_n 0, 1) := by decide +kernel
theorem dL_law_639 : decode cL_law 639 = .ok (.iload_n 3, 1) := by decide +kernel
theorem dL_law_640 : decode cL_law 640 = .ok (.iconst 2, 1) := by decide +kernel
theorem dL_law_641 : decode cL_law 641 = .ok (.iadd, 1) := by decide +kernel
theorem dL_law_642 : decode cL_law 642 = .ok (.iaload, 1) := by decide +kernel
theorem dL_law_643 : decode cL_law 643 = .ok (.aload_n 0, 1) := by decide +kernel
theorem dL_law_644 : decode cL_law 644 = .ok (.iload_n 3, 1) := by decide +kernel
theorem dL_law_645 : decode cL_law 645 = .ok (.iconst 3, 1) := by decide +kernel
theorem dL_law_646 : decode cL_law 646 = .ok (.iadd, 1) := by decide +kernel
theorem dL_law_647 : decode cL_law 647 = .ok (.iaload, 1) := by decide +kernel
theorem dL_law_648 : decode cL_law 648 = .ok (.i2l, 1) := by decide +kernel
theorem dL_law_649 : decode cL_law 649 = .ok (.bipush 32, 2) := by decide +kernel
theorem dL_law_651 : decode cL_law 651 = .ok (.lshl, 1) := by decide +kernel
theorem dL_law_652 : decode cL_law 652 = .ok (.aload_n 0, 1) := by decide +kernel
theorem dL_law_653 : decode cL_law 653 = .ok (.iload_n 3, 1) := by decide +kernel
theorem dL_law_654 : decode cL_law 654 = .ok (.iconst 4, 1) := by decide +kernel
theorem dL_law_655 : decode cL_law 655 = .ok (.iadd, 1) := by decide +kernel
theorem dL_law_656 : decode cL_law 656 = .ok (.iaload, 1) := by decide +kernel
theorem dL_law_657 : decode cL_law 657 = .ok (.i2l, 1) := by decide +kernel
theorem dL_law_658 : decode cL_law 658 = .ok (.ldc2_w 82, 3) := by decide +kernel
theorem dL_law_661 : decode cL_law 661 = .ok (.land, 1) := by decide +kernel
theorem dL_law_662 : decode cL_law 662 = .ok (.lor, 1) := by decide +kernel
theorem dL_law_663 : decode cL_law 663 = .ok (.invokevirtual 84, 3) := by decide +kernel
theorem dL_law_666 : decode cL_law 666 = .ok (.aload_n 2, 1) := by decide +kernel
theorem dL_law_667 : decode cL_law 667 = .ok (.aload_n 0, 1) := by decide +kernel
theorem dL_law_668 : decode cL_law 668 = .ok (.iload_n 3, 1) := by decide +kernel
theorem dL_law_669 : decode cL_law 669 = .ok (.iconst 1, 1) := by decide +kernel
theorem dL_law_670 : decode cL_law 670 = .ok (.iadd, 1) := by decide +kernel
theorem dL_law_671 : decode cL_law 671 = .ok (.iaload, 1) := by decide +kernel
theorem dL_law_672 : decode cL_law 672 = .ok (.aload_n 0, 1) := by decide +kernel
theorem dL_law_673 : decode cL_law 673 = .ok (.iload_n 3, 1) := by decide +kernel
theorem dL_law_674 : decode cL_law 674 = .ok (.iconst 2, 1) := by decide +kernel
theorem dL_law_675 : decode cL_law 675 = .ok (.iadd, 1) := by decide +kernel
theorem dL_law_676 : decode cL_law 676 = .ok (.iaload, 1) := by decide +kernel
theorem dL_law_677 : decode cL_law 677 = .ok (.aload_n 0, 1) := by decide +kernel
theorem dL_law_678 : decode cL_law 678 = .ok (.iload_n 3, 1) := by decide +kernel
theorem dL_law_679 : decode cL_law 679 = .ok (.iconst 3, 1) := by decide +kernel
theorem dL_law_680 : decode cL_law 680 = .ok (.iadd, 1) := by decide +kernel
theorem dL_law_681 : decode cL_law 681 = .ok (.iaload, 1) := by decide +kernel
theorem dL_law_682 : decode cL_law 682 = .ok (.i2l, 1) := by decide +kernel
theorem dL_law_683 : decode cL_law 683 = .ok (.bipush 32, 2) := by decide +kernel
theorem dL_law_685 : decode cL_law 685 = .ok (.lshl, 1) := by decide +kernel
theorem dL_law_686 : decode cL_law 686 = .ok (.aload_n 0, 1) := by decide +kernel
theorem dL_law_687 : decode cL_law 687 = .ok (.iload_n 3, 1) := by decide +kernel
theorem dL_law_688 : decode cL_law 688 = .ok (.iconst 4, 1) := by decide +kernel
theorem dL_law_689 : decode cL_law 689 = .ok (.iadd, 1) := by decide +kernel
theorem dL_law_690 : decode cL_law 690 = .ok (.iaload, 1) := by decide +kernel
theorem dL_law_691 : decode cL_law 691 = .ok (.i2l, 1) := by decide +kernel
theorem dL_law_692 : decode cL_law 692 = .ok (.ldc2_w 82, 3) := by decide +kernel
theorem dL_law_695 : decode cL_law 695 = .ok (.land, 1) := by decide +kernel
theorem dL_law_696 : decode cL_law 696 = .ok (.lor, 1) := by decide +kernel
theorem dL_law_697 : decode cL_law 697 = .ok (.invokevirtual 88, 3) := by decide +kernel
theorem dL_law_700 : decode cL_law 700 = .ok (.if_icmp .eq 189, 3) := by decide +kernel
theorem dL_law_703 : decode cL_law 703 = .ok (.iconst 0, 1) := by decide +kernel
theorem dL_law_704 : decode cL_law 704 = .ok (.ireturn, 1) := by decide +kernel
theorem dL_law_705 : decode cL_law 705 = .ok (.aload_n 1, 1) := by decide +kernel
theorem dL_law_706 : decode cL_law 706 = .ok (.aload_n 0, 1) := by decide +kernel
theorem dL_law_707 : decode cL_law 707 = .ok (.iload_n 3, 1) := by decide +kernel
theorem dL_law_708 : decode cL_law 708 = .ok (.iconst 1, 1) := by decide +kernel
theorem dL_law_709 : decode cL_law 709 = .ok (.iadd, 1) := by decide +kernel
theorem dL_law_710 : decode cL_law 710 = .ok (.iaload, 1) := by decide +kernel
theorem dL_law_711 : decode cL_law 711 = .ok (.invokevirtual 89, 3) := by decide +kernel
theorem dL_law_714 : decode cL_law 714 = .ok (.aload_n 2, 1) := by decide +kernel
theorem dL_law_715 : decode cL_law 715 = .ok (.aload_n 0, 1) := by decide +kernel
theorem dL_law_716 : decode cL_law 716 = .ok (.iload_n 3, 1) := by decide +kernel
theorem dL_law_717 : decode cL_law 717 = .ok (.iconst 1, 1) := by decide +kernel
theorem dL_law_718 : decode cL_law 718 = .ok (.iadd, 1) := by decide +kernel
theorem dL_law_719 : decode cL_law 719 = .ok (.iaload, 1) := by decide +kernel
theorem dL_law_720 : decode cL_law 720 = .ok (.invokevirtual 93, 3) := by decide +kernel
theorem dL_law_723 : decode cL_law 723 = .ok (.lcmp, 1) := by decide +kernel
theorem dL_law_724 : decode cL_law 724 = .ok (.ifCond .eq 165, 3) := by decide +kernel
theorem dL_law_727 : decode cL_law 727 = .ok (.iconst 0, 1) := by decide +kernel
theorem dL_law_728 : decode cL_law 728 = .ok (.ireturn, 1) := by decide +kernel
theorem dL_law_729 : decode cL_law 729 = .ok (.aload_n 1, 1) := by decide +kernel
theorem dL_law_730 : decode cL_law 730 = .ok (.aload_n 0, 1) := by decide +kernel
theorem dL_law_731 : decode cL_law 731 = .ok (.iload_n 3, 1) := by decide +kernel
theorem dL_law_732 : decode cL_law 732 = .ok (.iconst 1, 1) := by decide +kernel
theorem dL_law_733 : decode cL_law 733 = .ok (.iadd, 1) := by decide +kernel
theorem dL_law_734 : decode cL_law 734 = .ok (.iaload, 1) := by decide +kernel
theorem dL_law_735 : decode cL_law 735 = .ok (.aload_n 0, 1) := by decide +kernel
theorem dL_law_736 : decode cL_law 736 = .ok (.iload_n 3, 1) := by decide +kernel
theorem dL_law_737 : decode cL_law 737 = .ok (.iconst 2, 1) := by decide +kernel
theorem dL_law_738 : decode cL_law 738 = .ok (.iadd, 1) := by decide +kernel
theorem dL_law_739 : decode cL_law 739 = .ok (.iaload, 1) := by decide +kernel
theorem dL_law_740 : decode cL_law 740 = .ok (.invokevirtual 94, 3) := by decide +kernel
theorem dL_law_743 : decode cL_law 743 = .ok (.aload_n 2, 1) := by decide +kernel
theorem dL_law_744 : decode cL_law 744 = .ok (.aload_n 0, 1) := by decide +kernel
theorem dL_law_745 : decode cL_law 745 = .ok (.iload_n 3, 1) := by decide +kernel
theorem dL_law_746 : decode cL_law 746 = .ok (.iconst 1, 1) := by decide +kernel
theorem dL_law_747 : decode cL_law 747 = .ok (.iadd, 1) := by decide +kernel
theorem dL_law_748 : decode cL_law 748 = .ok (.iaload, 1) := by decide +kernel
theorem dL_law_749 : decode cL_law 749 = .ok (.aload_n 0, 1) := by decide +kernel
theorem dL_law_750 : decode cL_law 750 = .ok (.iload_n 3, 1) := by decide +kernel
theorem dL_law_751 : decode cL_law 751 = .ok (.iconst 2, 1) := by decide +kernel
theorem dL_law_752 : decode cL_law 752 = .ok (.iadd, 1) := by decide +kernel
theorem dL_law_753 : decode cL_law 753 = .ok (.iaload, 1) := by decide +kernel
theorem dL_law_754 : decode cL_law 754 = .ok (.invokevirtual 97, 3) := by decide +kernel
theorem dL_law_757 : decode cL_law 757 = .ok (.if_icmp .eq 132, 3) := by decide +kernel
theorem dL_law_760 : decode cL_law 760 = .ok (.iconst 0, 1) := by decide +kernel
theorem dL_law_761 : decode cL_law 761 = .ok (.ireturn, 1) := by decide +kernel
theorem dL_law_762 : decode cL_law 762 = .ok (.aload_n 1, 1) := by decide +kernel
theorem dL_law_763 : decode cL_law 763 = .ok (.aload_n 0, 1) := by decide +kernel
theorem dL_law_764 : decode cL_law 764 = .ok (.iload_n 3, 1) := by decide +kernel
theorem dL_law_765 : decode cL_law 765 = .ok (.iconst 1, 1) := by decide +kernel
theorem dL_law_766 : decode cL_law 766 = .ok (.iadd, 1) := by decide +kernel
theorem dL_law_767 : decode cL_law 767 = .ok (.iaload, 1) := by decide +kernel
theorem dL_law_768 : decode cL_law 768 = .ok (.invokevirtual 98, 3) := by decide +kernel
theorem dL_law_771 : decode cL_law 771 = .ok (.aload_n 2, 1) := by decide +kernel
theorem dL_law_772 : decode cL_law 772 = .ok (.aload_n 0, 1) := by decide +kernel
theorem dL_law_773 : decode cL_law 773 = .ok (.iload_n 3, 1) := by decide +kernel
theorem dL_law_774 : decode cL_law 774 = .ok (.iconst 1, 1) := by decide +kernel
theorem dL_law_775 : decode cL_law 775 = .ok (.iadd, 1) := by decide +kernel
theorem dL_law_776 : decode cL_law 776 = .ok (.iaload, 1) := by decide +kernel
theorem dL_law_777 : decode cL_law 777 = .ok (.invokevirtual 101, 3) := by decide +kernel
theorem dL_law_780 : decode cL_law 780 = .ok (.if_icmp .eq 109, 3) := by decide +kernel
theorem dL_law_783 : decode cL_law 783 = .ok (.iconst 0, 1) := by decide +kernel
theorem dL_law_784 : decode cL_law 784 = .ok (.ireturn, 1) := by decide +kernel
theorem dL_law_785 : decode cL_law 785 = .ok (.aload_n 1, 1) := by decide +kernel
theorem dL_law_786 : decode cL_law 786 = .ok (.aload_n 0, 1) := by decide +kernel
theorem dL_law_787 : decode cL_law 787 = .ok (.iload_n 3, 1) := by decide +kernel
theorem dL_law_788 : decode cL_law 788 = .ok (.iconst 1, 1) := by decide +kernel
theorem dL_law_789 : decode cL_law 789 = .ok (.iadd, 1) := by decide +kernel
theorem dL_law_790 : decode cL_law 790 = .ok (.iaload, 1) := by decide +kernel
theorem dL_law_791 : decode cL_law 791 = .ok (.invokevirtual 102, 3) := by decide +kernel
theorem dL_law_794 : decode cL_law 794 = .ok (.aload_n 2, 1) := by decide +kernel
theorem dL_law_795 : decode cL_law 795 = .ok (.aload_n 0, 1) := by decide +kernel
theorem dL_law_796 : decode cL_law 796 = .ok (.iload_n 3, 1) := by decide +kernel
theorem dL_law_797 : decode cL_law 797 = .ok (.iconst 1, 1) := by decide +kernel
theorem dL_law_798 : decode cL_law 798 = .ok (.iadd, 1) := by decide +kernel
theorem dL_law_799 : decode cL_law 799 = .ok (.iaload, 1) := by decide +kernel
theorem dL_law_800 : decode cL_law 800 = .ok (.invokevirtual 105, 3) := by decide +kernel
theorem dL_law_803 : decode cL_law 803 = .ok (.if_icmp .eq 86, 3) := by decide +kernel
theorem dL_law_806 : decode cL_law 806 = .ok (.iconst 0, 1) := by decide +kernel
theorem dL_law_807 : decode cL_law 807 = .ok (.ireturn, 1) := by decide +kernel
theorem dL_law_808 : decode cL_law 808 = .ok (.aload_n 1, 1) := by decide +kernel
theorem dL_law_809 : decode cL_law 809 = .ok (.aload_n 0, 1) := by decide +kernel
theorem dL_law_810 : decode cL_law 810 = .ok (.iload_n 3, 1) := by decide +kernel
theorem dL_law_811 : decode cL_law 811 = .ok (.iconst 1, 1) := by decide +kernel
theorem dL_law_812 : decode cL_law 812 = .ok (.iadd, 1) := by decide +kernel
theorem dL_law_813 : decode cL_law 813 = .ok (.iaload, 1) := by decide +kernel
theorem dL_law_814 : decode cL_law 814 = .ok (.aload_n 0, 1) := by decide +kernel
theorem dL_law_815 : decode cL_law 815 = .ok (.iload_n 3, 1) := by decide +kernel
theorem dL_law_816 : decode cL_law 816 = .ok (.iconst 2, 1) := by decide +kernel
theorem dL_law_817 : decode cL_law 817 = .ok (.iadd, 1) := by decide +kernel
theorem dL_law_818 : decode cL_law 818 = .ok (.iaload, 1) := by decide +kernel
theorem dL_law_819 : decode cL_law 819 = .ok (.aload_n 0, 1) := by decide +kernel
theorem dL_law_820 : decode cL_law 820 = .ok (.iload_n 3, 1) := by decide +kernel
theorem dL_law_821 : decode cL_law 821 = .ok (.iconst 3, 1) := by decide +kernel
theorem dL_law_822 : decode cL_law 822 = .ok (.iadd, 1) := by decide +kernel
theorem dL_law_823 : decode cL_law 823 = .ok (.iaload, 1) := by decide +kernel
theorem dL_law_824 : decode cL_law 824 = .ok (.invokevirtual 106, 3) := by decide +kernel
theorem dL_law_827 : decode cL_law 827 = .ok (.aload_n 2, 1) := by decide +kernel
theorem dL_law_828 : decode cL_law 828 = .ok (.aload_n 0, 1) := by decide +kernel
theorem dL_law_829 : decode cL_law 829 = .ok (.iload_n 3, 1) := by decide +kernel
theorem dL_law_830 : decode cL_law 830 = .ok (.iconst 1, 1) := by decide +kernel
theorem dL_law_831 : decode cL_law 831 = .ok (.iadd, 1) := by decide +kernel
theorem dL_law_832 : decode cL_law 832 = .ok (.iaload, 1) := by decide +kernel
theorem dL_law_833 : decode cL_law 833 = .ok (.aload_n 0, 1) := by decide +kernel
theorem dL_law_834 : decode cL_law 834 = .ok (.iload_n 3, 1) := by decide +kernel
theorem dL_law_835 : decode cL_law 835 = .ok (.iconst 2, 1) := by decide +kernel
theorem dL_law_836 : decode cL_law 836 = .ok (.iadd, 1) := by decide +kernel
theorem dL_law_837 : decode cL_law 837 = .ok (.iaload, 1) := by decide +kernel
theorem dL_law_838 : decode cL_law 838 = .ok (.aload_n 0, 1) := by decide +kernel
theorem dL_law_839 : decode cL_law 839 = .ok (.iload_n 3, 1) := by decide +kernel
theorem dL_law_840 : decode cL_law 840 = .ok (.iconst 3, 1) := by decide +kernel
theorem dL_law_841 : decode cL_law 841 = .ok (.iadd, 1) := by decide +kernel
theorem dL_law_842 : decode cL_law 842 = .ok (.iaload, 1) := by decide +kernel
theorem dL_law_843 : decode cL_law 843 = .ok (.invokevirtual 110, 3) := by decide +kernel
theorem dL_law_846 : decode cL_law 846 = .ok (.lcmp, 1) := by decide +kernel
theorem dL_law_847 : decode cL_law 847 = .ok (.ifCond .eq 42, 3) := by decide +kernel
theorem dL_law_850 : decode cL_law 850 = .ok (.iconst 0, 1) := by decide +kernel
theorem dL_law_851 : decode cL_law 851 = .ok (.ireturn, 1) := by decide +kernel
theorem dL_law_852 : decode cL_law 852 = .ok (.aload_n 1, 1) := by decide +kernel
theorem dL_law_853 : decode cL_law 853 = .ok (.aload_n 0, 1) := by decide +kernel
theorem dL_law_854 : decode cL_law 854 = .ok (.iload_n 3, 1) := by decide +kernel
theorem dL_law_855 : decode cL_law 855 = .ok (.iconst 1, 1) := by decide +kernel
theorem dL_law_856 : decode cL_law 856 = .ok (.iadd, 1) := by decide +kernel
theorem dL_law_857 : decode cL_law 857 = .ok (.iaload, 1) := by decide +kernel
theorem dL_law_858 : decode cL_law 858 = .ok (.invokevirtual 111, 3) := by decide +kernel
theorem dL_law_861 : decode cL_law 861 = .ok (.aload_n 2, 1) := by decide +kernel
theorem dL_law_862 : decode cL_law 862 = .ok (.aload_n 0, 1) := by decide +kernel
theorem dL_law_863 : decode cL_law 863 = .ok (.iload_n 3, 1) := by decide +kernel
theorem dL_law_864 : decode cL_law 864 = .ok (.iconst 1, 1) := by decide +kernel
theorem dL_law_865 : decode cL_law 865 = .ok (.iadd, 1) := by decide +kernel
theorem dL_law_866 : decode cL_law 866 = .ok (.iaload, 1) := by decide +kernel
theorem dL_law_867 : decode cL_law 867 = .ok (.invokevirtual 114, 3) := by decide +kernel
theorem dL_law_870 : decode cL_law 870 = .ok (.if_icmp .eq 19, 3) := by decide +kernel
theorem dL_law_873 : decode cL_law 873 = .ok (.iconst 0, 1) := by decide +kernel
theorem dL_law_874 : decode cL_law 874 = .ok (.ireturn, 1) := by decide +kernel
theorem dL_law_875 : decode cL_law 875 = .ok (.aload_n 1, 1) := by decide +kernel
theorem dL_law_876 : decode cL_law 876 = .ok (.invokevirtual 115, 3) := by decide +kernel
theorem dL_law_879 : decode cL_law 879 = .ok (.aload_n 2, 1) := by decide +kernel
theorem dL_law_880 : decode cL_law 880 = .ok (.invokevirtual 119, 3) := by decide +kernel
theorem dL_law_883 : decode cL_law 883 = .ok (.lcmp, 1) := by decide +kernel
theorem dL_law_884 : decode cL_law 884 = .ok (.ifCond .eq 5, 3) := by decide +kernel
theorem dL_law_887 : decode cL_law 887 = .ok (.iconst 0, 1) := by decide +kernel
theorem dL_law_888 : decode cL_law 888 = .ok (.ireturn, 1) := by decide +kernel
theorem dL_law_889 : decode cL_law 889 = .ok (.iinc 3 5, 3) := by decide +kernel
theorem dL_law_892 : decode cL_law 892 = .ok (.goto (-874), 3) := by decide +kernel
theorem dL_law_895 : decode cL_law 895 = .ok (.iconst 1, 1) := by decide +kernel
theorem dL_law_896 : decode cL_law 896 = .ok (.ireturn, 1) := by decide +kernel
abbrev vwCl : List vw_C := [(RJx4a65c, TJx4a65c, 3), (RX0, TX0, 2), (RX1, TX1, 5), (RX2, TX2, 8), (RX3, TX3, 20)]
end
