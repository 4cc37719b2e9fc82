theorem MX.ob {G : Gx} {H : Heap} {o : Nat} {maps : Int → List Q4} {hand : List Q4} {ud uc : Int} (h : MX G H o maps hand ud uc) : ∃ fs, ob G o 4 fs H := by
  obtain ⟨us, uo, ub, uw, ua, ue, ux, m0, m1, m3, m7, m8, m12, m13, m14, m15, m16, hM, -⟩ := h
  exact ⟨_, hM.1⟩
/-- the long that a script spells -/
def yv (xs : Nat → Int32) (i : Int) : Int := (zL (xv xs (i + 3) * 2 ^ (32 : Int).toNat) ||| zL ((zL (xv xs (i + 4)) &&& zL 4294967295).toInt)).toInt
theorem yv_R (xs : Nat → Int32) (i : Int) : lR (yv xs i) := zL_rng _
set_option maxHeartbeats 4000000 in
theorem law_0 (l : Launch) {G : Gx} {p : Program} {e : Env} {s : State} {m : MethodId} {below : List Frame} {meth : Method} {c : Code} {b L o : Nat} {xs : Nat → Int32} (C : Cx G p s m #[Value.ref b] meth c code 4 RL wsL_law) (hX : va_X b L xs s s.heap) (hbl : b < s.heap.size) (hL : L ≤ 2560) (ho : s.heap.size = o) {maps : Int → List Q4} {hand : List Q4} {sd sc : Int} {near : Value} {ca sl : Nat} {H : Heap} (hS : lawS G o H maps hand sd sc near ca sl) {i : Int} (hi0 : 0 ≤ i) (hi1 : i + 5 ≤ L) (kk : ∀ (maps' : Int → List Q4) (hand' : List Q4) (sd' sc' : Int) (near' : Value) (ca' sl' : Nat) (H' : Heap), lawS G o H' maps' hand' sd' sc' near' ca' sl' → JJ p l e room_1 s m #[Value.ref b] below meth c (lw_Z below #[Value.ref b] s) (fun q : Nat => s.heap.size ≤ q) 4 H' ca' sl' 889 [(0, .ref b), (1, .ref o), (2, .ref (o + 82)), (3, .int (zI i))] []) : JJ p l e room_1 s m #[Value.ref b] below meth c (lw_Z below #[Value.ref b] s) (fun q : Nat => s.heap.size ≤ q) 4 H ca sl 144 [(0, .ref b), (1, .ref o), (2, .ref (o + 82)), (3, .int (zI i))] [] := by
  have hrm := hS.room
  have hbA : ¬ (fun q : Nat => s.heap.size ≤ q) b := by show ¬ s.heap.size ≤ b; omega
  have hLL : (L : Int) < 2147483648 := by omega
  have hS0 := hS
  obtain ⟨hV, hH, hl, hsd, hZ, hT, hM, hsz, hN⟩ := hS
  have hsR : iR sd := ⟨by omega, by omega⟩
  refine j_aload_n C dL_law_144 rfl ?_
  refine j_aload_n C dL_law_145 rfl ?_
  refine j_iload_n C dL_law_146 rfl ?_
  refine j_iconst C dL_law_147 ?_
  refine j_iadd C dL_law_148 ?_
  refine j_sld C hX hbl hbA hLL ⟨by omega, by omega⟩ dL_law_149 ?_
  refine j_aload_n C dL_law_150 rfl ?_
  refine j_iload_n C dL_law_151 rfl ?_
  refine j_iconst C dL_law_152 ?_
  refine j_iadd C dL_law_153 ?_
  refine j_sld C hX hbl hbA hLL ⟨by omega, by omega⟩ dL_law_154 ?_
  refine j_aload_n C dL_law_155 rfl ?_
  refine j_iload_n C dL_law_156 rfl ?_
  refine j_iconst C dL_law_157 ?_
  refine j_iadd C dL_law_158 ?_
  refine j_sld C hX hbl hbA hLL ⟨by omega, by omega⟩ dL_law_159 ?_
  refine j_aload_n C dL_law_160 rfl ?_
  refine j_iload_n C dL_law_161 rfl ?_
  refine j_iconst C dL_law_162 ?_
  refine j_iadd C dL_law_163 ?_
  refine j_sld C hX hbl hbA hLL ⟨by omega, by omega⟩ dL_law_164 ?_
  refine j_callmI (jrunV (rest := []) (As := [.int (zI (xv xs (i + 1))), .int (zI (xv xs (i + 2))), .int (zI (xv xs (i + 3))), .int (zI (xv xs (i + 4)))]) C (c_X2_pair l G o maps hand sd sc near (xv xs (i + 1)) (xv xs (i + 2)) (xv xs (i + 3)) (xv xs (i + 4))) gL_law_X2_pair rfl 4 (by decide +kernel) rfl rfl ⟨Nat.le_of_ble_eq_true rfl, Nat.le_of_ble_eq_true rfl⟩ hT.1 rfl ⟨hT, xv_R xs _, xv_R xs _, xv_R xs _, xv_R xs _⟩ rfl rfl (Nat.le_of_ble_eq_true rfl) ⟨Nat.le_trans (show ca + 0 ≤ 1396 by omega) lw_rc, Nat.le_trans (show sl + 0 ≤ 130725 by omega) lw_rs⟩ dL_law_165) (fun q hq => by have := hq.1; show s.heap.size ≤ q; omega) (fun r1 H1 h1 hF1 => ?_)
  refine j_aload_n C dL_law_168 rfl ?_
  refine j_aload_n C dL_law_169 rfl ?_
  refine j_iload_n C dL_law_170 rfl ?_
  refine j_iconst C dL_law_171 ?_
  refine j_iadd C dL_law_172 ?_
  refine j_sld C hX hbl hbA hLL ⟨by omega, by omega⟩ dL_law_173 ?_
  refine j_aload_n C dL_law_174 rfl ?_
  refine j_iload_n C dL_law_175 rfl ?_
  refine j_iconst C dL_law_176 ?_
  refine j_iadd C dL_law_177 ?_
  refine j_sld C hX hbl hbA hLL ⟨by omega, by omega⟩ dL_law_178 ?_
  refine j_aload_n C dL_law_179 rfl ?_
  refine j_iload_n C dL_law_180 rfl ?_
  refine j_iconst C dL_law_181 ?_
  refine j_iadd C dL_law_182 ?_
  refine j_sld C hX hbl hbA hLL ⟨by omega, by omega⟩ dL_law_183 ?_
  refine j_aload_n C dL_law_184 rfl ?_
  refine j_iload_n C dL_law_185 rfl ?_
  refine j_iconst C dL_law_186 ?_
  refine j_iadd C dL_law_187 ?_
  refine j_sld C hX hbl hbA hLL ⟨by omega, by omega⟩ dL_law_188 ?_
  obtain ⟨fsM, hOM⟩ := ((hS0.mid hF1)).ob
  refine j_callmI (jrunV (rest := [.int (zI r1)]) (As := [.int (zI (xv xs (i + 1))), .int (zI (xv xs (i + 2))), .int (zI (xv xs (i + 3))), .int (zI (xv xs (i + 4)))]) C (c_X3_pair l G (o + 82) maps hand sd sc (xv xs (i + 1)) (xv xs (i + 2)) (xv xs (i + 3)) (xv xs (i + 4))) gL_law_X3_pair rfl 4 (by decide +kernel) rfl rfl ⟨Nat.le_of_ble_eq_true rfl, Nat.le_of_ble_eq_true rfl⟩ hOM rfl ⟨(hS0.mid hF1), xv_R xs _, xv_R xs _, xv_R xs _, xv_R xs _, hl⟩ rfl rfl (Nat.le_of_ble_eq_true rfl) ⟨Nat.le_trans (show ca + 0 + 0 ≤ 1396 by omega) lw_rc, Nat.le_trans (show sl + 0 + 0 ≤ 130725 by omega) lw_rs⟩ dL_law_189) (fun q hq => by have := hq.1; show s.heap.size ≤ q; omega) (fun r2 H2 h2 hF2 => ?_)
  have er : r1 = r2 := (h1.1).trans (h2.1).symm
  rw [er]
  refine j_icmp_same (tgt := 889) C dL_law_192 (by decide) ?_
  exact kk _ _ _ _ _ _ _ _ (hS0.next hF1 hF2 h1.2 h2.2 hV (opPair_ok hH hl (xv xs (i + 1)) (xv xs (i + 2)) (xv xs (i + 3)) (xv xs (i + 4))).1 (opPair_ok hH hl (xv xs (i + 1)) (xv xs (i + 2)) (xv xs (i + 3)) (xv xs (i + 4))).2 hsd)
set_option maxHeartbeats 4000000 in
theorem law_1 (l : Launch) {G : Gx} {p : Program} {e : Env} {s : State} {m : MethodId} {below : List Frame} {meth : Method} {c : Code} {b L o : Nat} {xs : Nat → Int32} (C : Cx G p s m #[Value.ref b] meth c code 4 RL wsL_law) (hX : va_X b L xs s s.heap) (hbl : b < s.heap.size) (hL : L ≤ 2560) (ho : s.heap.size = o) {maps : Int → List Q4} {hand : List Q4} {sd sc : Int} {near : Value} {ca sl : Nat} {H : Heap} (hS : lawS G o H maps hand sd sc near ca sl) {i : Int} (hi0 : 0 ≤ i) (hi1 : i + 5 ≤ L) (kk : ∀ (maps' : Int → List Q4) (hand' : List Q4) (sd' sc' : Int) (near' : Value) (ca' sl' : Nat) (H' : Heap), lawS G o H' maps' hand' sd' sc' near' ca' sl' → JJ p l e room_1 s m #[Value.ref b] below meth c (lw_Z below #[Value.ref b] s) (fun q : Nat => s.heap.size ≤ q) 4 H' ca' sl' 889 [(0, .ref b), (1, .ref o), (2, .ref (o + 82)), (3, .int (zI i))] []) : JJ p l e room_1 s m #[Value.ref b] below meth c (lw_Z below #[Value.ref b] s) (fun q : Nat => s.heap.size ≤ q) 4 H ca sl 197 [(0, .ref b), (1, .ref o), (2, .ref (o + 82)), (3, .int (zI i))] [] := by
  have hrm := hS.room
  have hbA : ¬ (fun q : Nat => s.heap.size ≤ q) b := by show ¬ s.heap.size ≤ b; omega
  have hLL : (L : Int) < 2147483648 := by omega
  have hS0 := hS
  obtain ⟨hV, hH, hl, hsd, hZ, hT, hM, hsz, hN⟩ := hS
  have hsR : iR sd := ⟨by omega, by omega⟩
  refine j_aload_n C dL_law_197 rfl ?_
  refine j_callmI (jrunV (rest := []) (As := []) C (c_X2_clear l G o maps hand sd sc near ) gL_law_X2_clear rfl 0 (by decide +kernel) rfl rfl ⟨Nat.le_of_ble_eq_true rfl, Nat.le_of_ble_eq_true rfl⟩ hT.1 rfl hT rfl rfl (Nat.le_of_ble_eq_true rfl) ⟨Nat.le_trans (show ca + 0 ≤ 1396 by omega) lw_rc, Nat.le_trans (show sl + 0 ≤ 130725 by omega) lw_rs⟩ dL_law_198) (fun q hq => by have := hq.1; show s.heap.size ≤ q; omega) (fun r1 H1 h1 hF1 => ?_)
  refine j_aload_n C dL_law_201 rfl ?_
  obtain ⟨fsM, hOM⟩ := ((hS0.mid hF1)).ob
  refine j_callmI (jrunV (rest := [.int (zI r1)]) (As := []) C (c_X3_clear l G (o + 82) maps hand sd sc ) gL_law_X3_clear rfl 0 (by decide +kernel) rfl rfl ⟨Nat.le_of_ble_eq_true rfl, Nat.le_of_ble_eq_true rfl⟩ hOM rfl (hS0.mid hF1) rfl rfl (Nat.le_of_ble_eq_true rfl) ⟨Nat.le_trans (show ca + 0 + 0 ≤ 1396 by omega) lw_rc, Nat.le_trans (show sl + 0 + 0 ≤ 130725 by omega) lw_rs⟩ dL_law_202) (fun q hq => by have := hq.1; show s.heap.size ≤ q; omega) (fun r2 H2 h2 hF2 => ?_)
  have er : r1 = r2 := (h1.1).trans (h2.1).symm
  rw [er]
  refine j_icmp_same (tgt := 889) C dL_law_205 (by decide) ?_
  exact kk _ _ _ _ _ _ _ _ (hS0.next hF1 hF2 h1.2 h2.2 hV (fun q hq => absurd hq List.not_mem_nil) (Nat.zero_le _) hsd)
set_option maxHeartbeats 4000000 in
theorem law_2 (l : Launch) {G : Gx} {p : Program} {e : Env} {s : State} {m : MethodId} {below : List Frame} {meth : Method} {c : Code} {b L o : Nat} {xs : Nat → Int32} (C : Cx G p s m #[Value.ref b] meth c code 4 RL wsL_law) (hX : va_X b L xs s s.heap) (hbl : b < s.heap.size) (hL : L ≤ 2560) (ho : s.heap.size = o) {maps : Int → List Q4} {hand : List Q4} {sd sc : Int} {near : Value} {ca sl : Nat} {H : Heap} (hS : lawS G o H maps hand sd sc near ca sl) {i : Int} (hi0 : 0 ≤ i) (hi1 : i + 5 ≤ L) (kk : ∀ (maps' : Int → List Q4) (hand' : List Q4) (sd' sc' : Int) (near' : Value) (ca' sl' : Nat) (H' : Heap), lawS G o H' maps' hand' sd' sc' near' ca' sl' → JJ p l e room_1 s m #[Value.ref b] below meth c (lw_Z below #[Value.ref b] s) (fun q : Nat => s.heap.size ≤ q) 4 H' ca' sl' 889 [(0, .ref b), (1, .ref o), (2, .ref (o + 82)), (3, .int (zI i))] []) : JJ p l e room_1 s m #[Value.ref b] below meth c (lw_Z below #[Value.ref b] s) (fun q : Nat => s.heap.size ≤ q) 4 H ca sl 210 [(0, .ref b), (1, .ref o), (2, .ref (o + 82)), (3, .int (zI i))] [] := by
  have hrm := hS.room
  have hbA : ¬ (fun q : Nat => s.heap.size ≤ q) b := by show ¬ s.heap.size ≤ b; omega
  have hLL : (L : Int) < 2147483648 := by omega
  have hS0 := hS
  obtain ⟨hV, hH, hl, hsd, hZ, hT, hM, hsz, hN⟩ := hS
  have hsR : iR sd := ⟨by omega, by omega⟩
  refine j_aload_n C dL_law_210 rfl ?_
  refine j_aload_n C dL_law_211 rfl ?_
  refine j_iload_n C dL_law_212 rfl ?_
  refine j_iconst C dL_law_213 ?_
  refine j_iadd C dL_law_214 ?_
  refine j_sld C hX hbl hbA hLL ⟨by omega, by omega⟩ dL_law_215 ?_
  refine j_callmI (jrunV (rest := []) (As := [.int (zI (xv xs (i + 1)))]) C (c_X2_make l G o maps hand sd sc near (xv xs (i + 1))) gL_law_X2_make rfl 1 (by decide +kernel) rfl rfl ⟨Nat.le_of_ble_eq_true rfl, Nat.le_of_ble_eq_true rfl⟩ hT.1 rfl ⟨hT, xv_R xs _, hH⟩ rfl rfl (Nat.le_of_ble_eq_true rfl) ⟨Nat.le_trans (show ca + 0 ≤ 1396 by omega) lw_rc, Nat.le_trans (show sl + 0 ≤ 130725 by omega) lw_rs⟩ dL_law_216) (fun q hq => by have := hq.1; show s.heap.size ≤ q; omega) (fun r1 H1 h1 hF1 => ?_)
  refine j_aload_n C dL_law_219 rfl ?_
  refine j_aload_n C dL_law_220 rfl ?_
  refine j_iload_n C dL_law_221 rfl ?_
  refine j_iconst C dL_law_222 ?_
  refine j_iadd C dL_law_223 ?_
  refine j_sld C hX hbl hbA hLL ⟨by omega, by omega⟩ dL_law_224 ?_
  obtain ⟨fsM, hOM⟩ := ((hS0.mid hF1)).ob
  refine j_callmI (jrunV (rest := [.int (zI r1)]) (As := [.int (zI (xv xs (i + 1)))]) C (c_X3_make l G (o + 82) maps hand sd sc (xv xs (i + 1))) gL_law_X3_make rfl 1 (by decide +kernel) rfl rfl ⟨Nat.le_of_ble_eq_true rfl, Nat.le_of_ble_eq_true rfl⟩ hOM rfl ⟨(hS0.mid hF1), xv_R xs _, hV, hH, hl⟩ rfl rfl (Nat.le_of_ble_eq_true rfl) ⟨Nat.le_trans (show ca + 0 + 0 ≤ 1396 by omega) lw_rc, Nat.le_trans (show sl + 0 + 0 ≤ 130725 by omega) lw_rs⟩ dL_law_225) (fun q hq => by have := hq.1; show s.heap.size ≤ q; omega) (fun r2 H2 h2 hF2 => ?_)
  have er : r1 = r2 := (h1.1).trans (h2.1).symm
  rw [er]
  refine j_icmp_same (tgt := 889) C dL_law_228 (by decide) ?_
  exact kk _ _ _ _ _ _ _ _ (hS0.next hF1 hF2 h1.2 h2.2 (opMake_ok hV hH hl (xv xs (i + 1))).1 (opMake_ok hV hH hl (xv xs (i + 1))).2.1 (opMake_ok hV hH hl (xv xs (i + 1))).2.2 hsd)
set_option maxHeartbeats 4000000 in
theorem law_3 (l : Launch) {G : Gx} {p : Program} {e : Env} {s : State} {m : MethodId} {below : List Frame} {meth : Method} {c : Code} {b L o : Nat} {xs : Nat → Int32} (C : Cx G p s m #[Value.ref b] meth c code 4 RL wsL_law) (hX : va_X b L xs s s.heap) (hbl : b < s.heap.size) (hL : L ≤ 2560) (ho : s.heap.size = o) {maps : Int → List Q4} {hand : List Q4} {sd sc : Int} {near : Value} {ca sl : Nat} {H : Heap} (hS : lawS G o H maps hand sd sc near ca sl) {i : Int} (hi0 : 0 ≤ i) (hi1 : i + 5 ≤ L) (kk : ∀ (maps' : Int → List Q4) (hand' : List Q4) (sd' sc' : Int) (near' : Value) (ca' sl' : Nat) (H' : Heap), lawS G o H' maps' hand' sd' sc' near' ca' sl' → JJ p l e room_1 s m #[Value.ref b] below meth c (lw_Z below #[Value.ref b] s) (fun q : Nat => s.heap.size ≤ q) 4 H' ca' sl' 889 [(0, .ref b), (1, .ref o), (2, .ref (o + 82)), (3, .int (zI i))] []) : JJ p l e room_1 s m #[Value.ref b] below meth c (lw_Z below #[Value.ref b] s) (fun q : Nat => s.heap.size ≤ q) 4 H ca sl 233 [(0, .ref b), (1, .ref o), (2, .ref (o + 82)), (3, .int (zI i))] [] := by
  have hrm := hS.room
  have hbA : ¬ (fun q : Nat => s.heap.size ≤ q) b := by show ¬ s.heap.size ≤ b; omega
  have hLL : (L : Int) < 2147483648 := by omega
  have hS0 := hS
  obtain ⟨hV, hH, hl, hsd, hZ, hT, hM, hsz, hN⟩ := hS
  have hsR : iR sd := ⟨by omega, by omega⟩
  refine j_aload_n C dL_law_233 rfl ?_
  refine j_aload_n C dL_law_234 rfl ?_
  refine j_iload_n C dL_law_235 rfl ?_
  refine j_iconst C dL_law_236 ?_
  refine j_iadd C dL_law_237 ?_
  refine j_sld C hX hbl hbA hLL ⟨by omega, by omega⟩ dL_law_238 ?_
  refine j_aload_n C dL_law_239 rfl ?_
  refine j_iload_n C dL_law_240 rfl ?_
  refine j_iconst C dL_law_241 ?_
  refine j_iadd C dL_law_242 ?_
  refine j_sld C hX hbl hbA hLL ⟨by omega, by omega⟩ dL_law_243 ?_
  refine j_callmI (jrunV (rest := []) (As := [.int (zI (xv xs (i + 1))), .int (zI (xv xs (i + 2)))]) C (c_X2_strong l G o maps hand sd sc near (xv xs (i + 1)) (xv xs (i + 2))) gL_law_X2_strong rfl 2 (by decide +kernel) rfl rfl ⟨Nat.le_of_ble_eq_true rfl, Nat.le_of_ble_eq_true rfl⟩ hT.1 rfl ⟨hT, xv_R xs _, xv_R xs _⟩ rfl rfl (Nat.le_of_ble_eq_true rfl) ⟨Nat.le_trans (show ca + 0 ≤ 1396 by omega) lw_rc, Nat.le_trans (show sl + 0 ≤ 130725 by omega) lw_rs⟩ dL_law_244) (fun q hq => by have := hq.1; show s.heap.size ≤ q; omega) (fun r1 H1 h1 hF1 => ?_)
  refine j_aload_n C dL_law_247 rfl ?_
  refine j_aload_n C dL_law_248 rfl ?_
  refine j_iload_n C dL_law_249 rfl ?_
  refine j_iconst C dL_law_250 ?_
  refine j_iadd C dL_law_251 ?_
  refine j_sld C hX hbl hbA hLL ⟨by omega, by omega⟩ dL_law_252 ?_
  refine j_aload_n C dL_law_253 rfl ?_
  refine j_iload_n C dL_law_254 rfl ?_
  refine j_iconst C dL_law_255 ?_
  refine j_iadd C dL_law_256 ?_
  refine j_sld C hX hbl hbA hLL ⟨by omega, by omega⟩ dL_law_257 ?_
  obtain ⟨fsM, hOM⟩ := ((hS0.mid hF1)).ob
  refine j_callmI (jrunV (rest := [.int (zI r1)]) (As := [.int (zI (xv xs (i + 1))), .int (zI (xv xs (i + 2)))]) C (c_X3_strong l G (o + 82) maps hand sd sc (xv xs (i + 1)) (xv xs (i + 2))) gL_law_X3_strong rfl 2 (by decide +kernel) rfl rfl ⟨Nat.le_of_ble_eq_true rfl, Nat.le_of_ble_eq_true rfl⟩ hOM rfl ⟨(hS0.mid hF1), xv_R xs _, xv_R xs _, hV⟩ rfl rfl (Nat.le_of_ble_eq_true rfl) ⟨Nat.le_trans (show ca + 0 + 0 ≤ 1396 by omega) lw_rc, Nat.le_trans (show sl + 0 + 0 ≤ 130725 by omega) lw_rs⟩ dL_law_258) (fun q hq => by have := hq.1; show s.heap.size ≤ q; omega) (fun r2 H2 h2 hF2 => ?_)
  have er : r1 = r2 := (h1.1).trans (h2.1).symm
  rw [er]
  refine j_icmp_same (tgt := 889) C dL_law_261 (by decide) ?_
  exact kk _ _ _ _ _ _ _ _ (hS0.next hF1 hF2 h1.2 h2.2 (opStrong_ok hV (xv xs (i + 1)) (xv xs (i + 2))) hH hl hsd)
set_option maxHeartbeats 4000000 in
theorem law_4 (l : Launch) {G : Gx} {p : Program} {e : Env} {s : State} {m : MethodId} {below : List Frame} {meth : Method} {c : Code} {b L o : Nat} {xs : Nat → Int32} (C : Cx G p s m #[Value.ref b] meth c code 4 RL wsL_law) (hX : va_X b L xs s s.heap) (hbl : b < s.heap.size) (hL : L ≤ 2560) (ho : s.heap.size = o) {maps : Int → List Q4} {hand : List Q4} {sd sc : Int} {near : Value} {ca sl : Nat} {H : Heap} (hS : lawS G o H maps hand sd sc near ca sl) {i : Int} (hi0 : 0 ≤ i) (hi1 : i + 5 ≤ L) (kk : ∀ (maps' : Int → List Q4) (hand' : List Q4) (sd' sc' : Int) (near' : Value) (ca' sl' : Nat) (H' : Heap), lawS G o H' maps' hand' sd' sc' near' ca' sl' → JJ p l e room_1 s m #[Value.ref b] below meth c (lw_Z below #[Value.ref b] s) (fun q : Nat => s.heap.size ≤ q) 4 H' ca' sl' 889 [(0, .ref b), (1, .ref o), (2, .ref (o + 82)), (3, .int (zI i))] []) : JJ p l e room_1 s m #[Value.ref b] below meth c (lw_Z below #[Value.ref b] s) (fun q : Nat => s.heap.size ≤ q) 4 H ca sl 266 [(0, .ref b), (1, .ref o), (2, .ref (o + 82)), (3, .int (zI i))] [] := by
  have hrm := hS.room
  have hbA : ¬ (fun q : Nat => s.heap.size ≤ q) b := by show ¬ s.heap.size ≤ b; omega
  have hLL : (L : Int) < 2147483648 := by omega
  have hS0 := hS
  obtain ⟨hV, hH, hl, hsd, hZ, hT, hM, hsz, hN⟩ := hS
  have hsR : iR sd := ⟨by omega, by omega⟩
  refine j_aload_n C dL_law_266 rfl ?_
  refine j_aload_n C dL_law_267 rfl ?_
  refine j_iload_n C dL_law_268 rfl ?_
  refine j_iconst C dL_law_269 ?_
  refine j_iadd C dL_law_270 ?_
  refine j_sld C hX hbl hbA hLL ⟨by omega, by omega⟩ dL_law_271 ?_
  refine j_aload_n C dL_law_272 rfl ?_
  refine j_iload_n C dL_law_273 rfl ?_
  refine j_iconst C dL_law_274 ?_
  refine j_iadd C dL_law_275 ?_
  refine j_sld C hX hbl hbA hLL ⟨by omega, by omega⟩ dL_law_276 ?_
  refine j_aload_n C dL_law_277 rfl ?_
  refine j_iload_n C dL_law_278 rfl ?_
  refine j_iconst C dL_law_279 ?_
  refine j_iadd C dL_law_280 ?_
  refine j_sld C hX hbl hbA hLL ⟨by omega, by omega⟩ dL_law_281 ?_
  refine j_callmI (jrunV (rest := []) (As := [.int (zI (xv xs (i + 1))), .int (zI (xv xs (i + 2))), .int (zI (xv xs (i + 3)))]) C (c_X2_then l G o maps hand sd sc near (xv xs (i + 1)) (xv xs (i + 2)) (xv xs (i + 3))) gL_law_X2_then rfl 3 (by decide +kernel) rfl rfl ⟨Nat.le_of_ble_eq_true rfl, Nat.le_of_ble_eq_true rfl⟩ hT.1 rfl ⟨hT, xv_R xs _, xv_R xs _, xv_R xs _, hV⟩ rfl rfl (Nat.le_of_ble_eq_true rfl) ⟨Nat.le_trans (show ca + 0 ≤ 1396 by omega) lw_rc, Nat.le_trans (show sl + 0 ≤ 130725 by omega) lw_rs⟩ dL_law_282) (fun q hq => by have := hq.1; show s.heap.size ≤ q; omega) (fun r1 H1 h1 hF1 => ?_)
  refine j_aload_n C dL_law_285 rfl ?_
  refine j_aload_n C dL_law_286 rfl ?_
  refine j_iload_n C dL_law_287 rfl ?_
  refine j_iconst C dL_law_288 ?_
  refine j_iadd C dL_law_289 ?_
  refine j_sld C hX hbl hbA hLL ⟨by omega, by omega⟩ dL_law_290 ?_
  refine j_aload_n C dL_law_291 rfl ?_
  refine j_iload_n C dL_law_292 rfl ?_
  refine j_iconst C dL_law_293 ?_
  refine j_iadd C dL_law_294 ?_
  refine j_sld C hX hbl hbA hLL ⟨by omega, by omega⟩ dL_law_295 ?_
  refine j_aload_n C dL_law_296 rfl ?_
  refine j_iload_n C dL_law_297 rfl ?_
  refine j_iconst C dL_law_298 ?_
  refine j_iadd C dL_law_299 ?_
  refine j_sld C hX hbl hbA hLL ⟨by omega, by omega⟩ dL_law_300 ?_
  obtain ⟨fsM, hOM⟩ := ((hS0.mid hF1)).ob
  refine j_callmI (jrunV (rest := [.int (zI r1)]) (As := [.int (zI (xv xs (i + 1))), .int (zI (xv xs (i + 2))), .int (zI (xv xs (i + 3)))]) C (c_X3_then l G (o + 82) maps hand sd sc (xv xs (i + 1)) (xv xs (i + 2)) (xv xs (i + 3))) gL_law_X3_then rfl 3 (by decide +kernel) rfl rfl ⟨Nat.le_of_ble_eq_true rfl, Nat.le_of_ble_eq_true rfl⟩ hOM rfl ⟨(hS0.mid hF1), xv_R xs _, xv_R xs _, xv_R xs _, hV⟩ rfl rfl (Nat.le_of_ble_eq_true rfl) ⟨Nat.le_trans (show ca + 0 + 0 ≤ 1396 by omega) lw_rc, Nat.le_trans (show sl + 0 + 0 ≤ 130725 by omega) lw_rs⟩ dL_law_301) (fun q hq => by have := hq.1; show s.heap.size ≤ q; omega) (fun r2 H2 h2 hF2 => ?_)
  have er : r1 = r2 := (h1.1).trans (h2.1).symm
  rw [er]
  refine j_icmp_same (tgt := 889) C dL_law_304 (by decide) ?_
  exact kk _ _ _ _ _ _ _ _ (hS0.next hF1 hF2 h1.2 h2.2 (opThen_ok hV (xv xs (i + 1)) (xv xs (i + 2)) (xv xs (i + 3))) hH hl hsd)
set_option maxHeartbeats 4000000 in
theorem law_5 (l : Launch) {G : Gx} {p : Program} {e : Env} {s : State} {m : MethodId} {below : List Frame} {meth : Method} {c : Code} {b L o : Nat} {xs : Nat → Int32} (C : Cx G p s m #[Value.ref b] meth c code 4 RL wsL_law) (hX : va_X b L xs s s.heap) (hbl : b < s.heap.size) (hL : L ≤ 2560) (ho : s.heap.size = o) {maps : Int → List Q4} {hand : List Q4} {sd sc : Int} {near : Value} {ca sl : Nat} {H : Heap} (hS : lawS G o H maps hand sd sc near ca sl) {i : Int} (hi0 : 0 ≤ i) (hi1 : i + 5 ≤ L) (kk : ∀ (maps' : Int → List Q4) (hand' : List Q4) (sd' sc' : Int) (near' : Value) (ca' sl' : Nat) (H' : Heap), lawS G o H' maps' hand' sd' sc' near' ca' sl' → JJ p l e room_1 s m #[Value.ref b] below meth c (lw_Z below #[Value.ref b] s) (fun q : Nat => s.heap.size ≤ q) 4 H' ca' sl' 889 [(0, .ref b), (1, .ref o), (2, .ref (o + 82)), (3, .int (zI i))] []) : JJ p l e room_1 s m #[Value.ref b] below meth c (lw_Z below #[Value.ref b] s) (fun q : Nat => s.heap.size ≤ q) 4 H ca sl 309 [(0, .ref b), (1, .ref o), (2, .ref (o + 82)), (3, .int (zI i))] [] := by
  have hrm := hS.room
  have hbA : ¬ (fun q : Nat => s.heap.size ≤ q) b := by show ¬ s.heap.size ≤ b; omega
  have hLL : (L : Int) < 2147483648 := by omega
  have hS0 := hS
  obtain ⟨hV, hH, hl, hsd, hZ, hT, hM, hsz, hN⟩ := hS
  have hsR : iR sd := ⟨by omega, by omega⟩
  refine j_aload_n C dL_law_309 rfl ?_
  refine j_aload_n C dL_law_310 rfl ?_
  refine j_iload_n C dL_law_311 rfl ?_
  refine j_iconst C dL_law_312 ?_
  refine j_iadd C dL_law_313 ?_
  refine j_sld C hX hbl hbA hLL ⟨by omega, by omega⟩ dL_law_314 ?_
  refine j_aload_n C dL_law_315 rfl ?_
  refine j_iload_n C dL_law_316 rfl ?_
  refine j_iconst C dL_law_317 ?_
  refine j_iadd C dL_law_318 ?_
  refine j_sld C hX hbl hbA hLL ⟨by omega, by omega⟩ dL_law_319 ?_
  refine j_callmI (jrunV (rest := []) (As := [.int (zI (xv xs (i + 1))), .int (zI (xv xs (i + 2)))]) C (c_X2_turn l G o maps hand sd sc near (xv xs (i + 1)) (xv xs (i + 2))) gL_law_X2_turn rfl 2 (by decide +kernel) rfl rfl ⟨Nat.le_of_ble_eq_true rfl, Nat.le_of_ble_eq_true rfl⟩ hT.1 rfl ⟨hT, xv_R xs _, xv_R xs _, hV⟩ rfl rfl (Nat.le_of_ble_eq_true rfl) ⟨Nat.le_trans (show ca + 0 ≤ 1396 by omega) lw_rc, Nat.le_trans (show sl + 0 ≤ 130725 by omega) lw_rs⟩ dL_law_320) (fun q hq => by have := hq.1; show s.heap.size ≤ q; omega) (fun r1 H1 h1 hF1 => ?_)
  refine j_aload_n C dL_law_323 rfl ?_
  refine j_aload_n C dL_law_324 rfl ?_
  refine j_iload_n C dL_law_325 rfl ?_
  refine j_iconst C dL_law_326 ?_
  refine j_iadd C dL_law_327 ?_
  refine j_sld C hX hbl hbA hLL ⟨by omega, by omega⟩ dL_law_328 ?_
  refine j_aload_n C dL_law_329 rfl ?_
  refine j_iload_n C dL_law_330 rfl ?_
  refine j_iconst C dL_law_331 ?_
  refine j_iadd C dL_law_332 ?_
  refine j_sld C hX hbl hbA hLL ⟨by omega, by omega⟩ dL_law_333 ?_
  obtain ⟨fsM, hOM⟩ := ((hS0.mid hF1)).ob
  refine j_callmI (jrunV (rest := [.int (zI r1)]) (As := [.int (zI (xv xs (i + 1))), .int (zI (xv xs (i + 2)))]) C (c_X3_turn l G (o + 82) maps hand sd sc (xv xs (i + 1)) (xv xs (i + 2))) gL_law_X3_turn rfl 2 (by decide +kernel) rfl rfl ⟨Nat.le_of_ble_eq_true rfl, Nat.le_of_ble_eq_true rfl⟩ hOM rfl ⟨(hS0.mid hF1), xv_R xs _, xv_R xs _, hV⟩ rfl rfl (Nat.le_of_ble_eq_true rfl) ⟨Nat.le_trans (show ca + 0 + 0 ≤ 1396 by omega) lw_rc, Nat.le_trans (show sl + 0 + 0 ≤ 130725 by omega) lw_rs⟩ dL_law_334) (fun q hq => by have := hq.1; show s.heap.size ≤ q; omega) (fun r2 H2 h2 hF2 => ?_)
  have er : r1 = r2 := (h1.1).trans (h2.1).symm
  rw [er]
  refine j_icmp_same (tgt := 889) C dL_law_337 (by decide) ?_
  exact kk _ _ _ _ _ _ _ _ (hS0.next hF1 hF2 h1.2 h2.2 (opTurn_ok hV (xv xs (i + 1)) (xv xs (i + 2))) hH hl hsd)
set_option maxHeartbeats 4000000 in
theorem law_6 (l : Launch) {G : Gx} {p : Program} {e : Env} {s : State} {m : MethodId} {below : List Frame} {meth : Method} {c : Code} {b L o : Nat} {xs : Nat → Int32} (C : Cx G p s m #[Value.ref b] meth c code 4 RL wsL_law) (hX : va_X b L xs s s.heap) (hbl : b < s.heap.size) (hL : L ≤ 2560) (ho : s.heap.size = o) {maps : Int → List Q4} {hand : List Q4} {sd sc : Int} {near : Value} {ca sl : Nat} {H : Heap} (hS : lawS G o H maps hand sd sc near ca sl) {i : Int} (hi0 : 0 ≤ i) (hi1 : i + 5 ≤ L) (kk : ∀ (maps' : Int → List Q4) (hand' : List Q4) (sd' sc' : Int) (near' : Value) (ca' sl' : Nat) (H' : Heap), lawS G o H' maps' hand' sd' sc' near' ca' sl' → JJ p l e room_1 s m #[Value.ref b] below meth c (lw_Z below #[Value.ref b] s) (fun q : Nat => s.heap.size ≤ q) 4 H' ca' sl' 889 [(0, .ref b), (1, .ref o), (2, .ref (o + 82)), (3, .int (zI i))] []) : JJ p l e room_1 s m #[Value.ref b] below meth c (lw_Z below #[Value.ref b] s) (fun q : Nat => s.heap.size ≤ q) 4 H ca sl 342 [(0, .ref b), (1, .ref o), (2, .ref (o + 82)), (3, .int (zI i))] [] := by
  have hrm := hS.room
  have hbA : ¬ (fun q : Nat => s.heap.size ≤ q) b := by show ¬ s.heap.size ≤ b; omega
  have hLL : (L : Int) < 2147483648 := by omega
  have hS0 := hS
  obtain ⟨hV, hH, hl, hsd, hZ, hT, hM, hsz, hN⟩ := hS
  have hsR : iR sd := ⟨by omega, by omega⟩
  refine j_aload_n C dL_law_342 rfl ?_
  refine j_aload_n C dL_law_343 rfl ?_
  refine j_iload_n C dL_law_344 rfl ?_
  refine j_iconst C dL_law_345 ?_
  refine j_iadd C dL_law_346 ?_
  refine j_sld C hX hbl hbA hLL ⟨by omega, by omega⟩ dL_law_347 ?_
  refine j_aload_n C dL_law_348 rfl ?_
  refine j_iload_n C dL_law_349 rfl ?_
  refine j_iconst C dL_law_350 ?_
  refine j_iadd C dL_law_351 ?_
  refine j_sld C hX hbl hbA hLL ⟨by omega, by omega⟩ dL_law_352 ?_
  refine j_aload_n C dL_law_353 rfl ?_
  refine j_iload_n C dL_law_354 rfl ?_
  refine j_iconst C dL_law_355 ?_
  refine j_iadd C dL_law_356 ?_
  refine j_sld C hX hbl hbA hLL ⟨by omega, by omega⟩ dL_law_357 ?_
  refine j_callmI (jrunV (rest := []) (As := [.int (zI (xv xs (i + 1))), .int (zI (xv xs (i + 2))), .int (zI (xv xs (i + 3)))]) C (c_X2_power l G o maps hand sd sc near (xv xs (i + 1)) (xv xs (i + 2)) (xv xs (i + 3))) gL_law_X2_power rfl 3 (by decide +kernel) rfl rfl ⟨Nat.le_of_ble_eq_true rfl, Nat.le_of_ble_eq_true rfl⟩ hT.1 rfl ⟨hT, xv_R xs _, xv_R xs _, xv_R xs _, hV⟩ rfl rfl (Nat.le_of_ble_eq_true rfl) ⟨Nat.le_trans (show ca + 0 ≤ 1396 by omega) lw_rc, Nat.le_trans (show sl + 0 ≤ 130725 by omega) lw_rs⟩ dL_law_358) (fun q hq => by have := hq.1; show s.heap.size ≤ q; omega) (fun r1 H1 h1 hF1 => ?_)
  refine j_aload_n C dL_law_361 rfl ?_
  refine j_aload_n C dL_law_362 rfl ?_
  refine j_iload_n C dL_law_363 rfl ?_
  refine j_iconst C dL_law_364 ?_
  refine j_iadd C dL_law_365 ?_
  refine j_sld C hX hbl hbA hLL ⟨by omega, by omega⟩ dL_law_366 ?_
  refine j_aload_n C dL_law_367 rfl ?_
  refine j_iload_n C dL_law_368 rfl ?_
  refine j_iconst C dL_law_369 ?_
  refine j_iadd C dL_law_370 ?_
  refine j_sld C hX hbl hbA hLL ⟨by omega, by omega⟩ dL_law_371 ?_
  refine j_aload_n C dL_law_372 rfl ?_
  refine j_iload_n C dL_law_373 rfl ?_
  refine j_iconst C dL_law_374 ?_
  refine j_iadd C dL_law_375 ?_
  refine j_sld C hX hbl hbA hLL ⟨by omega, by omega⟩ dL_law_376 ?_
  obtain ⟨fsM, hOM⟩ := ((hS0.mid hF1)).ob
  refine j_callmI (jrunV (rest := [.int (zI r1)]) (As := [.int (zI (xv xs (i + 1))), .int (zI (xv xs (i + 2))), .int (zI (xv xs (i + 3)))]) C (c_X3_power l G (o + 82) maps hand sd sc (xv xs (i + 1)) (xv xs (i + 2)) (xv xs (i + 3))) gL_law_X3_power rfl 3 (by decide +kernel) rfl rfl ⟨Nat.le_of_ble_eq_true rfl, Nat.le_of_ble_eq_true rfl⟩ hOM rfl ⟨(hS0.mid hF1), xv_R xs _, xv_R xs _, xv_R xs _, hV⟩ rfl rfl (Nat.le_of_ble_eq_true rfl) ⟨Nat.le_trans (show ca + 0 + 0 ≤ 1396 by omega) lw_rc, Nat.le_trans (show sl + 0 + 0 ≤ 130725 by omega) lw_rs⟩ dL_law_377) (fun q hq => by have := hq.1; show s.heap.size ≤ q; omega) (fun r2 H2 h2 hF2 => ?_)
  have er : r1 = r2 := (h1.1).trans (h2.1).symm
  rw [er]
  refine j_icmp_same (tgt := 889) C dL_law_380 (by decide) ?_
  exact kk _ _ _ _ _ _ _ _ (hS0.next hF1 hF2 h1.2 h2.2 (opPower_ok hV (xv xs (i + 1)) (xv xs (i + 2)) (xv xs (i + 3))) hH hl hsd)
set_option maxHeartbeats 4000000 in
theorem law_7 (l : Launch) {G : Gx} {p : Program} {e : Env} {s : State} {m : MethodId} {below : List Frame} {meth : Method} {c : Code} {b L o : Nat} {xs : Nat → Int32} (C : Cx G p s m #[Value.ref b] meth c code 4 RL wsL_law) (hX : va_X b L xs s s.heap) (hbl : b < s.heap.size) (hL : L ≤ 2560) (ho : s.heap.size = o) {maps : Int → List Q4} {hand : List Q4} {sd sc : Int} {near : Value} {ca sl : Nat} {H : Heap} (hS : lawS G o H maps hand sd sc near ca sl) {i : Int} (hi0 : 0 ≤ i) (hi1 : i + 5 ≤ L) (kk : ∀ (maps' : Int → List Q4) (hand' : List Q4) (sd' sc' : Int) (near' : Value) (ca' sl' : Nat) (H' : Heap), lawS G o H' maps' hand' sd' sc' near' ca' sl' → JJ p l e room_1 s m #[Value.ref b] below meth c (lw_Z below #[Value.ref b] s) (fun q : Nat => s.heap.size ≤ q) 4 H' ca' sl' 889 [(0, .ref b), (1, .ref o), (2, .ref (o + 82)), (3, .int (zI i))] []) : JJ p l e room_1 s m #[Value.ref b] below meth c (lw_Z below #[Value.ref b] s) (fun q : Nat => s.heap.size ≤ q) 4 H ca sl 385 [(0, .ref b), (1, .ref o), (2, .ref (o + 82)), (3, .int (zI i))] [] := by
  have hrm := hS.room
  have hbA : ¬ (fun q : Nat => s.heap.size ≤ q) b := by show ¬ s.heap.size ≤ b; omega
  have hLL : (L : Int) < 2147483648 := by omega
  have hS0 := hS
  obtain ⟨hV, hH, hl, hsd, hZ, hT, hM, hsz, hN⟩ := hS
  have hsR : iR sd := ⟨by omega, by omega⟩
  refine j_aload_n C dL_law_385 rfl ?_
  refine j_aload_n C dL_law_386 rfl ?_
  refine j_iload_n C dL_law_387 rfl ?_
  refine j_iconst C dL_law_388 ?_
  refine j_iadd C dL_law_389 ?_
  refine j_sld C hX hbl hbA hLL ⟨by omega, by omega⟩ dL_law_390 ?_
  refine j_callmI (jrunV (rest := []) (As := [.int (zI (xv xs (i + 1)))]) C (c_X2_drop l G o maps hand sd sc near (xv xs (i + 1))) gL_law_X2_drop rfl 1 (by decide +kernel) rfl rfl ⟨Nat.le_of_ble_eq_true rfl, Nat.le_of_ble_eq_true rfl⟩ hT.1 rfl ⟨hT, xv_R xs _⟩ rfl rfl (Nat.le_of_ble_eq_true rfl) ⟨Nat.le_trans (show ca + 0 ≤ 1396 by omega) lw_rc, Nat.le_trans (show sl + 0 ≤ 130725 by omega) lw_rs⟩ dL_law_391) (fun q hq => by have := hq.1; show s.heap.size ≤ q; omega) (fun r1 H1 h1 hF1 => ?_)
  refine j_aload_n C dL_law_394 rfl ?_
  refine j_aload_n C dL_law_395 rfl ?_
  refine j_iload_n C dL_law_396 rfl ?_
  refine j_iconst C dL_law_397 ?_
  refine j_iadd C dL_law_398 ?_
  refine j_sld C hX hbl hbA hLL ⟨by omega, by omega⟩ dL_law_399 ?_
  obtain ⟨fsM, hOM⟩ := ((hS0.mid hF1)).ob
  refine j_callmI (jrunV (rest := [.int (zI r1)]) (As := [.int (zI (xv xs (i + 1)))]) C (c_X3_drop l G (o + 82) maps hand sd sc (xv xs (i + 1))) gL_law_X3_drop rfl 1 (by decide +kernel) rfl rfl ⟨Nat.le_of_ble_eq_true rfl, Nat.le_of_ble_eq_true rfl⟩ hOM rfl ⟨(hS0.mid hF1), xv_R xs _, hV⟩ rfl rfl (Nat.le_of_ble_eq_true rfl) ⟨Nat.le_trans (show ca + 0 + 0 ≤ 1396 by omega) lw_rc, Nat.le_trans (show sl + 0 + 0 ≤ 130725 by omega) lw_rs⟩ dL_law_400) (fun q hq => by have := hq.1; show s.heap.size ≤ q; omega) (fun r2 H2 h2 hF2 => ?_)
  have er : r1 = r2 := (h1.1).trans (h2.1).symm
  rw [er]
  refine j_icmp_same (tgt := 889) C dL_law_403 (by decide) ?_
  exact kk _ _ _ _ _ _ _ _ (hS0.next hF1 hF2 h1.2 h2.2 (opDrop_ok hV (xv xs (i + 1))) hH hl hsd)
set_option maxHeartbeats 4000000 in
theorem law_8 (l : Launch) {G : Gx} {p : Program} {e : Env} {s : State} {m : MethodId} {below : List Frame} {meth : Method} {c : Code} {b L o : Nat} {xs : Nat → Int32} (C : Cx G p s m #[Value.ref b] meth c code 4 RL wsL_law) (hX : va_X b L xs s s.heap) (hbl : b < s.heap.size) (hL : L ≤ 2560) (ho : s.heap.size = o) {maps : Int → List Q4} {hand : List Q4} {sd sc : Int} {near : Value} {ca sl : Nat} {H : Heap} (hS : lawS G o H maps hand sd sc near ca sl) {i : Int} (hi0 : 0 ≤ i) (hi1 : i + 5 ≤ L) (kk : ∀ (maps' : Int → List Q4) (hand' : List Q4) (sd' sc' : Int) (near' : Value) (ca' sl' : Nat) (H' : Heap), lawS G o H' maps' hand' sd' sc' near' ca' sl' → JJ p l e room_1 s m #[Value.ref b] below meth c (lw_Z below #[Value.ref b] s) (fun q : Nat => s.heap.size ≤ q) 4 H' ca' sl' 889 [(0, .ref b), (1, .ref o), (2, .ref (o + 82)), (3, .int (zI i))] []) : JJ p l e room_1 s m #[Value.ref b] below meth c (lw_Z below #[Value.ref b] s) (fun q : Nat => s.heap.size ≤ q) 4 H ca sl 408 [(0, .ref b), (1, .ref o), (2, .ref (o + 82)), (3, .int (zI i))] [] := by
  have hrm := hS.room
  have hbA : ¬ (fun q : Nat => s.heap.size ≤ q) b := by show ¬ s.heap.size ≤ b; omega
  have hLL : (L : Int) < 2147483648 := by omega
  have hS0 := hS
  obtain ⟨hV, hH, hl, hsd, hZ, hT, hM, hsz, hN⟩ := hS
  have hsR : iR sd := ⟨by omega, by omega⟩
  refine j_aload_n C dL_law_408 rfl ?_
  refine j_aload_n C dL_law_409 rfl ?_
  refine j_iload_n C dL_law_410 rfl ?_
  refine j_iconst C dL_law_411 ?_
  refine j_iadd C dL_law_412 ?_
  refine j_sld C hX hbl hbA hLL ⟨by omega, by omega⟩ dL_law_413 ?_
  refine j_callI (jrunV (rest := []) (As := [.int (zI (xv xs (i + 1)))]) C (c_X2_leaves l G o maps hand sd sc near (xv xs (i + 1))) gL_law_X2_leaves rfl 1 (by decide +kernel) rfl rfl ⟨Nat.le_of_ble_eq_true rfl, Nat.le_of_ble_eq_true rfl⟩ hT.1 rfl ⟨hT, xv_R xs _⟩ rfl rfl (Nat.le_of_ble_eq_true rfl) ⟨Nat.le_trans (show ca + 0 ≤ 1396 by omega) lw_rc, Nat.le_trans (show sl + 0 ≤ 130725 by omega) lw_rs⟩ dL_law_414) (fun r1 h1 => ?_)
  refine j_aload_n C dL_law_417 rfl ?_
  refine j_aload_n C dL_law_418 rfl ?_
  refine j_iload_n C dL_law_419 rfl ?_
  refine j_iconst C dL_law_420 ?_
  refine j_iadd C dL_law_421 ?_
  refine j_sld C hX hbl hbA hLL ⟨by omega, by omega⟩ dL_law_422 ?_
  obtain ⟨fsM, hOM⟩ := (hM).ob
  refine j_callI (jrunV (rest := [.int (zI r1)]) (As := [.int (zI (xv xs (i + 1)))]) C (c_X3_leaves l G (o + 82) maps hand sd sc (xv xs (i + 1))) gL_law_X3_leaves rfl 1 (by decide +kernel) rfl rfl ⟨Nat.le_of_ble_eq_true rfl, Nat.le_of_ble_eq_true rfl⟩ hOM rfl ⟨hM, xv_R xs _, hV⟩ rfl rfl (Nat.le_of_ble_eq_true rfl) ⟨Nat.le_trans (show ca + 0 ≤ 1396 by omega) lw_rc, Nat.le_trans (show sl + 0 ≤ 130725 by omega) lw_rs⟩ dL_law_423) (fun r2 h2 => ?_)
  have er : r1 = r2 := (h1).trans (h2).symm
  rw [er]
  refine j_icmp_same (tgt := 889) C dL_law_426 (by decide) ?_
  exact kk _ _ _ _ _ _ _ _ (hS0.next Frm.rf Frm.rf hT hM hV hH hl hsd)
set_option maxHeartbeats 4000000 in
theorem law_9 (l : Launch) {G : Gx} {p : Program} {e : Env} {s : State} {m : MethodId} {below : List Frame} {meth : Method} {c : Code} {b L o : Nat} {xs : Nat → Int32} (C : Cx G p s m #[Value.ref b] meth c code 4 RL wsL_law) (hX : va_X b L xs s s.heap) (hbl : b < s.heap.size) (hL : L ≤ 2560) (ho : s.heap.size = o) {maps : Int → List Q4} {hand : List Q4} {sd sc : Int} {near : Value} {ca sl : Nat} {H : Heap} (hS : lawS G o H maps hand sd sc near ca sl) {i : Int} (hi0 : 0 ≤ i) (hi1 : i + 5 ≤ L) (kk : ∀ (maps' : Int → List Q4) (hand' : List Q4) (sd' sc' : Int) (near' : Value) (ca' sl' : Nat) (H' : Heap), lawS G o H' maps' hand' sd' sc' near' ca' sl' → JJ p l e room_1 s m #[Value.ref b] below meth c (lw_Z below #[Value.ref b] s) (fun q : Nat => s.heap.size ≤ q) 4 H' ca' sl' 889 [(0, .ref b), (1, .ref o), (2, .ref (o + 82)), (3, .int (zI i))] []) : JJ p l e room_1 s m #[Value.ref b] below meth c (lw_Z below #[Value.ref b] s) (fun q : Nat => s.heap.size ≤ q) 4 H ca sl 431 [(0, .ref b), (1, .ref o), (2, .ref (o + 82)), (3, .int (zI i))] [] := by
  have hrm := hS.room
  have hbA : ¬ (fun q : Nat => s.heap.size ≤ q) b := by show ¬ s.heap.size ≤ b; omega
  have hLL : (L : Int) < 2147483648 := by omega
  have hS0 := hS
  obtain ⟨hV, hH, hl, hsd, hZ, hT, hM, hsz, hN⟩ := hS
  have hsR : iR sd := ⟨by omega, by omega⟩
  refine j_aload_n C dL_law_431 rfl ?_
  refine j_aload_n C dL_law_432 rfl ?_
  refine j_iload_n C dL_law_433 rfl ?_
  refine j_iconst C dL_law_434 ?_
  refine j_iadd C dL_law_435 ?_
  refine j_sld C hX hbl hbA hLL ⟨by omega, by omega⟩ dL_law_436 ?_
  refine j_callI (jrunV (rest := []) (As := [.int (zI (xv xs (i + 1)))]) C (c_X2_sort l G o maps hand sd sc near (xv xs (i + 1))) gL_law_X2_sort rfl 1 (by decide +kernel) rfl rfl ⟨Nat.le_of_ble_eq_true rfl, Nat.le_of_ble_eq_true rfl⟩ hT.1 rfl ⟨hT, xv_R xs _, hV⟩ rfl rfl (Nat.le_of_ble_eq_true rfl) ⟨Nat.le_trans (show ca + 0 ≤ 1396 by omega) lw_rc, Nat.le_trans (show sl + 0 ≤ 130725 by omega) lw_rs⟩ dL_law_437) (fun r1 h1 => ?_)
  refine j_aload_n C dL_law_440 rfl ?_
  refine j_aload_n C dL_law_441 rfl ?_
  refine j_iload_n C dL_law_442 rfl ?_
  refine j_iconst C dL_law_443 ?_
  refine j_iadd C dL_law_444 ?_
  refine j_sld C hX hbl hbA hLL ⟨by omega, by omega⟩ dL_law_445 ?_
  obtain ⟨fsM, hOM⟩ := (hM).ob
  refine j_callmI (jrunV (rest := [.int (zI r1)]) (As := [.int (zI (xv xs (i + 1)))]) C (c_X3_sort l G (o + 82) maps hand sd sc (xv xs (i + 1))) gL_law_X3_sort rfl 1 (by decide +kernel) rfl rfl ⟨Nat.le_of_ble_eq_true rfl, Nat.le_of_ble_eq_true rfl⟩ hOM rfl ⟨hM, xv_R xs _, hV⟩ rfl rfl (Nat.le_of_ble_eq_true rfl) ⟨Nat.le_trans (show ca + 0 ≤ 1396 by omega) lw_rc, Nat.le_trans (show sl + 0 ≤ 130725 by omega) lw_rs⟩ dL_law_446) (fun q hq => by have := hq.1; show s.heap.size ≤ q; omega) (fun r2 H2 h2 hF2 => ?_)
  have er : r1 = r2 := (h1).trans (h2.1).symm
  rw [er]
  refine j_icmp_same (tgt := 889) C dL_law_449 (by decide) ?_
  exact kk _ _ _ _ _ _ _ _ (hS0.next Frm.rf hF2 hT h2.2 hV hH hl hsd)
set_option maxHeartbeats 4000000 in
theorem law_10 (l : Launch) {G : Gx} {p : Program} {e : Env} {s : State} {m : MethodId} {below : List Frame} {meth : Method} {c : Code} {b L o : Nat} {xs : Nat → Int32} (C : Cx G p s m #[Value.ref b] meth c code 4 RL wsL_law) (hX : va_X b L xs s s.heap) (hbl : b < s.heap.size) (hL : L ≤ 2560) (ho : s.heap.size = o) {maps : Int → List Q4} {hand : List Q4} {sd sc : Int} {near : Value} {ca sl : Nat} {H : Heap} (hS : lawS G o H maps hand sd sc near ca sl) {i : Int} (hi0 : 0 ≤ i) (hi1 : i + 5 ≤ L) (kk : ∀ (maps' : Int → List Q4) (hand' : List Q4) (sd' sc' : Int) (near' : Value) (ca' sl' : Nat) (H' : Heap), lawS G o H' maps' hand' sd' sc' near' ca' sl' → JJ p l e room_1 s m #[Value.ref b] below meth c (lw_Z below #[Value.ref b] s) (fun q : Nat => s.heap.size ≤ q) 4 H' ca' sl' 889 [(0, .ref b), (1, .ref o), (2, .ref (o + 82)), (3, .int (zI i))] []) : JJ p l e room_1 s m #[Value.ref b] below meth c (lw_Z below #[Value.ref b] s) (fun q : Nat => s.heap.size ≤ q) 4 H ca sl 454 [(0, .ref b), (1, .ref o), (2, .ref (o + 82)), (3, .int (zI i))] [] := by
  have hrm := hS.room
  have hbA : ¬ (fun q : Nat => s.heap.size ≤ q) b := by show ¬ s.heap.size ≤ b; omega
  have hLL : (L : Int) < 2147483648 := by omega
  have hS0 := hS
  obtain ⟨hV, hH, hl, hsd, hZ, hT, hM, hsz, hN⟩ := hS
  have hsR : iR sd := ⟨by omega, by omega⟩
  refine j_aload_n C dL_law_454 rfl ?_
  refine j_aload_n C dL_law_455 rfl ?_
  refine j_iload_n C dL_law_456 rfl ?_
  refine j_iconst C dL_law_457 ?_
  refine j_iadd C dL_law_458 ?_
  refine j_sld C hX hbl hbA hLL ⟨by omega, by omega⟩ dL_law_459 ?_
  refine j_aload_n C dL_law_460 rfl ?_
  refine j_iload_n C dL_law_461 rfl ?_
  refine j_iconst C dL_law_462 ?_
  refine j_iadd C dL_law_463 ?_
  refine j_sld C hX hbl hbA hLL ⟨by omega, by omega⟩ dL_law_464 ?_
  refine j_aload_n C dL_law_465 rfl ?_
  refine j_iload_n C dL_law_466 rfl ?_
  refine j_iconst C dL_law_467 ?_
  refine j_iadd C dL_law_468 ?_
  refine j_sld C hX hbl hbA hLL ⟨by omega, by omega⟩ dL_law_469 ?_
  refine j_callI (jrunV (rest := []) (As := [.int (zI (xv xs (i + 1))), .int (zI (xv xs (i + 2))), .int (zI (xv xs (i + 3)))]) C (c_X2_leaf l G o maps hand sd sc near (xv xs (i + 1)) (xv xs (i + 2)) (xv xs (i + 3))) gL_law_X2_leaf rfl 3 (by decide +kernel) rfl rfl ⟨Nat.le_of_ble_eq_true rfl, Nat.le_of_ble_eq_true rfl⟩ hT.1 rfl ⟨hT, xv_R xs _, xv_R xs _, xv_R xs _, hV⟩ rfl rfl (Nat.le_of_ble_eq_true rfl) ⟨Nat.le_trans (show ca + 0 ≤ 1396 by omega) lw_rc, Nat.le_trans (show sl + 0 ≤ 130725 by omega) lw_rs⟩ dL_law_470) (fun r1 h1 => ?_)
  refine j_aload_n C dL_law_473 rfl ?_
  refine j_aload_n C dL_law_474 rfl ?_
  refine j_iload_n C dL_law_475 rfl ?_
  refine j_iconst C dL_law_476 ?_
  refine j_iadd C dL_law_477 ?_
  refine j_sld C hX hbl hbA hLL ⟨by omega, by omega⟩ dL_law_478 ?_
  refine j_aload_n C dL_law_479 rfl ?_
  refine j_iload_n C dL_law_480 rfl ?_
  refine j_iconst C dL_law_481 ?_
  refine j_iadd C dL_law_482 ?_
  refine j_sld C hX hbl hbA hLL ⟨by omega, by omega⟩ dL_law_483 ?_
  refine j_aload_n C dL_law_484 rfl ?_
  refine j_iload_n C dL_law_485 rfl ?_
  refine j_iconst C dL_law_486 ?_
  refine j_iadd C dL_law_487 ?_
  refine j_sld C hX hbl hbA hLL ⟨by omega, by omega⟩ dL_law_488 ?_
  obtain ⟨fsM, hOM⟩ := (hM).ob
  refine j_callI (jrunV (rest := [.int (zI r1)]) (As := [.int (zI (xv xs (i + 1))), .int (zI (xv xs (i + 2))), .int (zI (xv xs (i + 3)))]) C (c_X3_leaf l G (o + 82) maps hand sd sc (xv xs (i + 1)) (xv xs (i + 2)) (xv xs (i + 3))) gL_law_X3_leaf rfl 3 (by decide +kernel) rfl rfl ⟨Nat.le_of_ble_eq_true rfl, Nat.le_of_ble_eq_true rfl⟩ hOM rfl ⟨hM, xv_R xs _, xv_R xs _, xv_R xs _, hV⟩ rfl rfl (Nat.le_of_ble_eq_true rfl) ⟨Nat.le_trans (show ca + 0 ≤ 1396 by omega) lw_rc, Nat.le_trans (show sl + 0 ≤ 130725 by omega) lw_rs⟩ dL_law_489) (fun r2 h2 => ?_)
  have er : r1 = r2 := (h1).trans (h2).symm
  rw [er]
  refine j_icmp_same (tgt := 889) C dL_law_492 (by decide) ?_
  exact kk _ _ _ _ _ _ _ _ (hS0.next Frm.rf Frm.rf hT hM hV hH hl hsd)
set_option maxHeartbeats 4000000 in
theorem law_11 (l : Launch) {G : Gx} {p : Program} {e : Env} {s : State} {m : MethodId} {below : List Frame} {meth : Method} {c : Code} {b L o : Nat} {xs : Nat → Int32} (C : Cx G p s m #[Value.ref b] meth c code 4 RL wsL_law) (hX : va_X b L xs s s.heap) (hbl : b < s.heap.size) (hL : L ≤ 2560) (ho : s.heap.size = o) {maps : Int → List Q4} {hand : List Q4} {sd sc : Int} {near : Value} {ca sl : Nat} {H : Heap} (hS : lawS G o H maps hand sd sc near ca sl) {i : Int} (hi0 : 0 ≤ i) (hi1 : i + 5 ≤ L) (kk : ∀ (maps' : Int → List Q4) (hand' : List Q4) (sd' sc' : Int) (near' : Value) (ca' sl' : Nat) (H' : Heap), lawS G o H' maps' hand' sd' sc' near' ca' sl' → JJ p l e room_1 s m #[Value.ref b] below meth c (lw_Z below #[Value.ref b] s) (fun q : Nat => s.heap.size ≤ q) 4 H' ca' sl' 889 [(0, .ref b), (1, .ref o), (2, .ref (o + 82)), (3, .int (zI i))] []) : JJ p l e room_1 s m #[Value.ref b] below meth c (lw_Z below #[Value.ref b] s) (fun q : Nat => s.heap.size ≤ q) 4 H ca sl 497 [(0, .ref b), (1, .ref o), (2, .ref (o + 82)), (3, .int (zI i))] [] := by
  have hrm := hS.room
  have hbA : ¬ (fun q : Nat => s.heap.size ≤ q) b := by show ¬ s.heap.size ≤ b; omega
  have hLL : (L : Int) < 2147483648 := by omega
  have hS0 := hS
  obtain ⟨hV, hH, hl, hsd, hZ, hT, hM, hsz, hN⟩ := hS
  have hsR : iR sd := ⟨by omega, by omega⟩
  refine j_aload_n C dL_law_497 rfl ?_
  refine j_aload_n C dL_law_498 rfl ?_
  refine j_iload_n C dL_law_499 rfl ?_
  refine j_iconst C dL_law_500 ?_
  refine j_iadd C dL_law_501 ?_
  refine j_sld C hX hbl hbA hLL ⟨by omega, by omega⟩ dL_law_502 ?_
  refine j_aload_n C dL_law_503 rfl ?_
  refine j_iload_n C dL_law_504 rfl ?_
  refine j_iconst C dL_law_505 ?_
  refine j_iadd C dL_law_506 ?_
  refine j_sld C hX hbl hbA hLL ⟨by omega, by omega⟩ dL_law_507 ?_
  refine j_callI (jrunV (rest := []) (As := [.int (zI (xv xs (i + 1))), .int (zI (xv xs (i + 2)))]) C (c_X2_same l G o maps hand sd sc near (xv xs (i + 1)) (xv xs (i + 2))) gL_law_X2_same rfl 2 (by decide +kernel) rfl rfl ⟨Nat.le_of_ble_eq_true rfl, Nat.le_of_ble_eq_true rfl⟩ hT.1 rfl ⟨hT, xv_R xs _, xv_R xs _, hV⟩ rfl rfl (Nat.le_of_ble_eq_true rfl) ⟨Nat.le_trans (show ca + 0 ≤ 1396 by omega) lw_rc, Nat.le_trans (show sl + 0 ≤ 130725 by omega) lw_rs⟩ dL_law_508) (fun r1 h1 => ?_)
  refine j_aload_n C dL_law_511 rfl ?_
  refine j_aload_n C dL_law_512 rfl ?_
  refine j_iload_n C dL_law_513 rfl ?_
  refine j_iconst C dL_law_514 ?_
  refine j_iadd C dL_law_515 ?_
  refine j_sld C hX hbl hbA hLL ⟨by omega, by omega⟩ dL_law_516 ?_
  refine j_aload_n C dL_law_517 rfl ?_
  refine j_iload_n C dL_law_518 rfl ?_
  refine j_iconst C dL_law_519 ?_
  refine j_iadd C dL_law_520 ?_
  refine j_sld C hX hbl hbA hLL ⟨by omega, by omega⟩ dL_law_521 ?_
  obtain ⟨fsM, hOM⟩ := (hM).ob
  refine j_callI (jrunV (rest := [.int (zI r1)]) (As := [.int (zI (xv xs (i + 1))), .int (zI (xv xs (i + 2)))]) C (c_X3_same l G (o + 82) maps hand sd sc (xv xs (i + 1)) (xv xs (i + 2))) gL_law_X3_same rfl 2 (by decide +kernel) rfl rfl ⟨Nat.le_of_ble_eq_true rfl, Nat.le_of_ble_eq_true rfl⟩ hOM rfl ⟨hM, xv_R xs _, xv_R xs _, hV⟩ rfl rfl (Nat.le_of_ble_eq_true rfl) ⟨Nat.le_trans (show ca + 0 ≤ 1396 by omega) lw_rc, Nat.le_trans (show sl + 0 ≤ 130725 by omega) lw_rs⟩ dL_law_522) (fun r2 h2 => ?_)
  have er : r1 = r2 := (h1).trans (h2).symm
  rw [er]
  refine j_icmp_same (tgt := 889) C dL_law_525 (by decide) ?_
  exact kk _ _ _ _ _ _ _ _ (hS0.next Frm.rf Frm.rf hT hM hV hH hl hsd)
set_option maxHeartbeats 4000000 in
theorem law_12 (l : Launch) {G : Gx} {p : Program} {e : Env} {s : State} {m : MethodId} {below : List Frame} {meth : Method} {c : Code} {b L o : Nat} {xs : Nat → Int32} (C : Cx G p s m #[Value.ref b] meth c code 4 RL wsL_law) (hX : va_X b L xs s s.heap) (hbl : b < s.heap.size) (hL : L ≤ 2560) (ho : s.heap.size = o) {maps : Int → List Q4} {hand : List Q4} {sd sc : Int} {near : Value} {ca sl : Nat} {H : Heap} (hS : lawS G o H maps hand sd sc near ca sl) {i : Int} (hi0 : 0 ≤ i) (hi1 : i + 5 ≤ L) (kk : ∀ (maps' : Int → List Q4) (hand' : List Q4) (sd' sc' : Int) (near' : Value) (ca' sl' : Nat) (H' : Heap), lawS G o H' maps' hand' sd' sc' near' ca' sl' → JJ p l e room_1 s m #[Value.ref b] below meth c (lw_Z below #[Value.ref b] s) (fun q : Nat => s.heap.size ≤ q) 4 H' ca' sl' 889 [(0, .ref b), (1, .ref o), (2, .ref (o + 82)), (3, .int (zI i))] []) : JJ p l e room_1 s m #[Value.ref b] below meth c (lw_Z below #[Value.ref b] s) (fun q : Nat => s.heap.size ≤ q) 4 H ca sl 530 [(0, .ref b), (1, .ref o), (2, .ref (o + 82)), (3, .int (zI i))] [] := by
  have hrm := hS.room
  have hbA : ¬ (fun q : Nat => s.heap.size ≤ q) b := by show ¬ s.heap.size ≤ b; omega
  have hLL : (L : Int) < 2147483648 := by omega
  have hS0 := hS
  obtain ⟨hV, hH, hl, hsd, hZ, hT, hM, hsz, hN⟩ := hS
  have hsR : iR sd := ⟨by omega, by omega⟩
  refine j_aload_n C dL_law_530 rfl ?_
  refine j_aload_n C dL_law_531 rfl ?_
  refine j_iload_n C dL_law_532 rfl ?_
  refine j_iconst C dL_law_533 ?_
  refine j_iadd C dL_law_534 ?_
  refine j_sld C hX hbl hbA hLL ⟨by omega, by omega⟩ dL_law_535 ?_
  refine j_aload_n C dL_law_536 rfl ?_
  refine j_iload_n C dL_law_537 rfl ?_
  refine j_iconst C dL_law_538 ?_
  refine j_iadd C dL_law_539 ?_
  refine j_sld C hX hbl hbA hLL ⟨by omega, by omega⟩ dL_law_540 ?_
  refine j_callmI (jrunV (rest := []) (As := [.int (zI (xv xs (i + 1))), .int (zI (xv xs (i + 2)))]) C (c_X2_commute l G o maps hand sd sc near (xv xs (i + 1)) (xv xs (i + 2))) gL_law_X2_commute rfl 2 (by decide +kernel) rfl rfl ⟨Nat.le_of_ble_eq_true rfl, Nat.le_of_ble_eq_true rfl⟩ hT.1 rfl ⟨hT, xv_R xs _, xv_R xs _, hV⟩ rfl rfl (Nat.le_of_ble_eq_true rfl) ⟨Nat.le_trans (show ca + 0 ≤ 1396 by omega) lw_rc, Nat.le_trans (show sl + 0 ≤ 130725 by omega) lw_rs⟩ dL_law_541) (fun q hq => by have := hq.1; show s.heap.size ≤ q; omega) (fun r1 H1 h1 hF1 => ?_)
  refine j_aload_n C dL_law_544 rfl ?_
  refine j_aload_n C dL_law_545 rfl ?_
  refine j_iload_n C dL_law_546 rfl ?_
  refine j_iconst C dL_law_547 ?_
  refine j_iadd C dL_law_548 ?_
  refine j_sld C hX hbl hbA hLL ⟨by omega, by omega⟩ dL_law_549 ?_
  refine j_aload_n C dL_law_550 rfl ?_
  refine j_iload_n C dL_law_551 rfl ?_
  refine j_iconst C dL_law_552 ?_
  refine j_iadd C dL_law_553 ?_
  refine j_sld C hX hbl hbA hLL ⟨by omega, by omega⟩ dL_law_554 ?_
  obtain ⟨fsM, hOM⟩ := ((hS0.mid hF1)).ob
  refine j_callmI (jrunV (rest := [.int (zI r1)]) (As := [.int (zI (xv xs (i + 1))), .int (zI (xv xs (i + 2)))]) C (c_X3_commute l G (o + 82) maps hand sd sc (xv xs (i + 1)) (xv xs (i + 2))) gL_law_X3_commute rfl 2 (by decide +kernel) rfl rfl ⟨Nat.le_of_ble_eq_true rfl, Nat.le_of_ble_eq_true rfl⟩ hOM rfl ⟨(hS0.mid hF1), xv_R xs _, xv_R xs _, hV⟩ rfl rfl (Nat.le_of_ble_eq_true rfl) ⟨Nat.le_trans (show ca + 0 + 0 ≤ 1396 by omega) lw_rc, Nat.le_trans (show sl + 0 + 0 ≤ 130725 by omega) lw_rs⟩ dL_law_555) (fun q hq => by have := hq.1; show s.heap.size ≤ q; omega) (fun r2 H2 h2 hF2 => ?_)
  have er : r1 = r2 := (h1.1).trans (h2.1).symm
  rw [er]
  refine j_icmp_same (tgt := 889) C dL_law_558 (by decide) ?_
  exact kk _ _ _ _ _ _ _ _ (hS0.next hF1 hF2 h1.2 h2.2 hV hH hl hsd)
set_option maxHeartbeats 4000000 in
theorem law_13 (l : Launch) {G : Gx} {p : Program} {e : Env} {s : State} {m : MethodId} {below : List Frame} {meth : Method} {c : Code} {b L o : Nat} {xs : Nat → Int32} (C : Cx G p s m #[Value.ref b] meth c code 4 RL wsL_law) (hX : va_X b L xs s s.heap) (hbl : b < s.heap.size) (hL : L ≤ 2560) (ho : s.heap.size = o) {maps : Int → List Q4} {hand : List Q4} {sd sc : Int} {near : Value} {ca sl : Nat} {H : Heap} (hS : lawS G o H maps hand sd sc near ca sl) {i : Int} (hi0 : 0 ≤ i) (hi1 : i + 5 ≤ L) (kk : ∀ (maps' : Int → List Q4) (hand' : List Q4) (sd' sc' : Int) (near' : Value) (ca' sl' : Nat) (H' : Heap), lawS G o H' maps' hand' sd' sc' near' ca' sl' → JJ p l e room_1 s m #[Value.ref b] below meth c (lw_Z below #[Value.ref b] s) (fun q : Nat => s.heap.size ≤ q) 4 H' ca' sl' 889 [(0, .ref b), (1, .ref o), (2, .ref (o + 82)), (3, .int (zI i))] []) : JJ p l e room_1 s m #[Value.ref b] below meth c (lw_Z below #[Value.ref b] s) (fun q : Nat => s.heap.size ≤ q) 4 H ca sl 563 [(0, .ref b), (1, .ref o), (2, .ref (o + 82)), (3, .int (zI i))] [] := by
  have hrm := hS.room
  have hbA : ¬ (fun q : Nat => s.heap.size ≤ q) b := by show ¬ s.heap.size ≤ b; omega
  have hLL : (L : Int) < 2147483648 := by omega
  have hS0 := hS
  obtain ⟨hV, hH, hl, hsd, hZ, hT, hM, hsz, hN⟩ := hS
  have hsR : iR sd := ⟨by omega, by omega⟩
  refine j_aload_n C dL_law_563 rfl ?_
  refine j_aload_n C dL_law_564 rfl ?_
  refine j_iload_n C dL_law_565 rfl ?_
  refine j_iconst C dL_law_566 ?_
  refine j_iadd C dL_law_567 ?_
  refine j_sld C hX hbl hbA hLL ⟨by omega, by omega⟩ dL_law_568 ?_
  refine j_callmI (jrunV (rest := []) (As := [.int (zI (xv xs (i + 1)))]) C (c_X2_order l G o maps hand sd sc near (xv xs (i + 1))) gL_law_X2_order rfl 1 (by decide +kernel) rfl rfl ⟨Nat.le_of_ble_eq_true rfl, Nat.le_of_ble_eq_true rfl⟩ hT.1 rfl ⟨hT, xv_R xs _, hV⟩ rfl rfl (Nat.le_of_ble_eq_true rfl) ⟨Nat.le_trans (show ca + 0 ≤ 1396 by omega) lw_rc, Nat.le_trans (show sl + 0 ≤ 130725 by omega) lw_rs⟩ dL_law_569) (fun q hq => by have := hq.1; show s.heap.size ≤ q; omega) (fun r1 H1 h1 hF1 => ?_)
  refine j_aload_n C dL_law_572 rfl ?_
  refine j_aload_n C dL_law_573 rfl ?_
  refine j_iload_n C dL_law_574 rfl ?_
  refine j_iconst C dL_law_575 ?_
  refine j_iadd C dL_law_576 ?_
  refine j_sld C hX hbl hbA hLL ⟨by omega, by omega⟩ dL_law_577 ?_
  obtain ⟨fsM, hOM⟩ := ((hS0.mid hF1)).ob
  refine j_callmI (jrunV (rest := [.int (zI r1)]) (As := [.int (zI (xv xs (i + 1)))]) C (c_X3_order l G (o + 82) maps hand sd sc (xv xs (i + 1))) gL_law_X3_order rfl 1 (by decide +kernel) rfl rfl ⟨Nat.le_of_ble_eq_true rfl, Nat.le_of_ble_eq_true rfl⟩ hOM rfl ⟨(hS0.mid hF1), xv_R xs _, hV⟩ rfl rfl (Nat.le_of_ble_eq_true rfl) ⟨Nat.le_trans (show ca + 0 + 0 ≤ 1396 by omega) lw_rc, Nat.le_trans (show sl + 0 + 0 ≤ 130725 by omega) lw_rs⟩ dL_law_578) (fun q hq => by have := hq.1; show s.heap.size ≤ q; omega) (fun r2 H2 h2 hF2 => ?_)
  have er : r1 = r2 := (h1.1).trans (h2.1).symm
  rw [er]
  refine j_icmp_same (tgt := 889) C dL_law_581 (by decide) ?_
  exact kk _ _ _ _ _ _ _ _ (hS0.next hF1 hF2 h1.2 h2.2 hV hH hl hsd)
set_option maxHeartbeats 4000000 in
theorem law_14 (l : Launch) {G : Gx} {p : Program} {e : Env} {s : State} {m : MethodId} {below : List Frame} {meth : Method} {c : Code} {b L o : Nat} {xs : Nat → Int32} (C : Cx G p s m #[Value.ref b] meth c code 4 RL wsL_law) (hX : va_X b L xs s s.heap) (hbl : b < s.heap.size) (hL : L ≤ 2560) (ho : s.heap.size = o) {maps : Int → List Q4} {hand : List Q4} {sd sc : Int} {near : Value} {ca sl : Nat} {H : Heap} (hS : lawS G o H maps hand sd sc near ca sl) {i : Int} (hi0 : 0 ≤ i) (hi1 : i + 5 ≤ L) (kk : ∀ (maps' : Int → List Q4) (hand' : List Q4) (sd' sc' : Int) (near' : Value) (ca' sl' : Nat) (H' : Heap), lawS G o H' maps' hand' sd' sc' near' ca' sl' → JJ p l e room_1 s m #[Value.ref b] below meth c (lw_Z below #[Value.ref b] s) (fun q : Nat => s.heap.size ≤ q) 4 H' ca' sl' 889 [(0, .ref b), (1, .ref o), (2, .ref (o + 82)), (3, .int (zI i))] []) : JJ p l e room_1 s m #[Value.ref b] below meth c (lw_Z below #[Value.ref b] s) (fun q : Nat => s.heap.size ≤ q) 4 H ca sl 586 [(0, .ref b), (1, .ref o), (2, .ref (o + 82)), (3, .int (zI i))] [] := by
  have hrm := hS.room
  have hbA : ¬ (fun q : Nat => s.heap.size ≤ q) b := by show ¬ s.heap.size ≤ b; omega
  have hLL : (L : Int) < 2147483648 := by omega
  have hS0 := hS
  obtain ⟨hV, hH, hl, hsd, hZ, hT, hM, hsz, hN⟩ := hS
  have hsR : iR sd := ⟨by omega, by omega⟩
  refine j_aload_n C dL_law_586 rfl ?_
  refine j_aload_n C dL_law_587 rfl ?_
  refine j_iload_n C dL_law_588 rfl ?_
  refine j_iconst C dL_law_589 ?_
  refine j_iadd C dL_law_590 ?_
  refine j_sld C hX hbl hbA hLL ⟨by omega, by omega⟩ dL_law_591 ?_
  by_cases hth : thP maps (xv xs (i + 1))
  · rcases hN with ⟨rfl, rfl, rfl⟩ | ⟨bb, rfl, hbb, hB, rfl, rfl⟩
    · obtain ⟨h, hh⟩ : ∃ n : Nat, H.size = n := ⟨_, rfl⟩
      refine j_callmI (jrunV (rest := []) (As := [.int (zI (xv xs (i + 1)))]) C (c_X2_length0 l G o h maps hand sd sc (xv xs (i + 1))) gL_law_X2_length rfl 1 (by decide +kernel) rfl rfl ⟨Nat.le_of_ble_eq_true rfl, Nat.le_of_ble_eq_true rfl⟩ hT.1 rfl ⟨hT, hZ, hh, xv_R xs _, hth, hV⟩ rfl rfl (Nat.le_of_ble_eq_true rfl) ⟨Nat.le_of_ble_eq_true rfl, Nat.le_of_ble_eq_true rfl⟩ dL_law_592) (fun q hq => by have hq' : (o ≤ q ∧ q < o + 82) ∨ h ≤ q := hq; show s.heap.size ≤ q; omega) (fun r1 H1 h1 hF1 => ?_)
      obtain ⟨h1, hT1, hB1⟩ := h1
      have hM1 := hM.frm hF1 (fun q q1 q2 => by show ¬ ((o ≤ q ∧ q < o + 82) ∨ h ≤ q); omega)
      refine j_aload_n C dL_law_595 rfl ?_
      refine j_aload_n C dL_law_596 rfl ?_
      refine j_iload_n C dL_law_597 rfl ?_
      refine j_iconst C dL_law_598 ?_
      refine j_iadd C dL_law_599 ?_
      refine j_sld C hX hbl hbA hLL ⟨by omega, by omega⟩ dL_law_600 ?_
      obtain ⟨fsM, hOM⟩ := (hM1).ob
      refine j_callmI (jrunV (rest := [.int (zI r1)]) (As := [.int (zI (xv xs (i + 1)))]) C (c_X3_length l G (o + 82) maps hand sd sc (xv xs (i + 1))) gL_law_X3_length rfl 1 (by decide +kernel) rfl rfl ⟨Nat.le_of_ble_eq_true rfl, Nat.le_of_ble_eq_true rfl⟩ hOM rfl ⟨hM1, xv_R xs _, hV⟩ rfl rfl (Nat.le_of_ble_eq_true rfl) ⟨Nat.le_trans (show 93 + 1303 + 0 ≤ 1396 by omega) lw_rc, Nat.le_trans (show 20725 + 110000 + 0 ≤ 130725 by omega) lw_rs⟩ dL_law_601) (fun q hq => by have := hq.1; show s.heap.size ≤ q; omega) (fun r2 H2 h2 hF2 => ?_)
      have er : r1 = r2 := (h1).trans (h2.1).symm
      rw [er]
      refine j_icmp_same (tgt := 889) C dL_law_604 (by decide) ?_
      exact kk _ _ _ _ _ _ _ _ (hS0.grown hh hF1 hT1 hB1 hF2 h2.2)
    · skip
      refine j_callI (jrunV (rest := []) (As := [.int (zI (xv xs (i + 1)))]) C (c_X2_length1 l G o bb maps hand sd sc (xv xs (i + 1))) gL_law_X2_length rfl 1 (by decide +kernel) rfl rfl ⟨Nat.le_of_ble_eq_true rfl, Nat.le_of_ble_eq_true rfl⟩ hT.1 rfl ⟨hT, hB, xv_R xs _, hV⟩ rfl rfl (Nat.le_of_ble_eq_true rfl) ⟨Nat.le_trans (show 1396 + 0 ≤ 1396 by omega) lw_rc, Nat.le_trans (show 130725 + 0 ≤ 130725 by omega) lw_rs⟩ dL_law_592) (fun r1 h1 => ?_)
      refine j_aload_n C dL_law_595 rfl ?_
      refine j_aload_n C dL_law_596 rfl ?_
      refine j_iload_n C dL_law_597 rfl ?_
      refine j_iconst C dL_law_598 ?_
      refine j_iadd C dL_law_599 ?_
      refine j_sld C hX hbl hbA hLL ⟨by omega, by omega⟩ dL_law_600 ?_
      obtain ⟨fsM, hOM⟩ := (hM).ob
      refine j_callmI (jrunV (rest := [.int (zI r1)]) (As := [.int (zI (xv xs (i + 1)))]) C (c_X3_length l G (o + 82) maps hand sd sc (xv xs (i + 1))) gL_law_X3_length rfl 1 (by decide +kernel) rfl rfl ⟨Nat.le_of_ble_eq_true rfl, Nat.le_of_ble_eq_true rfl⟩ hOM rfl ⟨hM, xv_R xs _, hV⟩ rfl rfl (Nat.le_of_ble_eq_true rfl) ⟨Nat.le_trans (show 1396 + 0 ≤ 1396 by omega) lw_rc, Nat.le_trans (show 130725 + 0 ≤ 130725 by omega) lw_rs⟩ dL_law_601) (fun q hq => by have := hq.1; show s.heap.size ≤ q; omega) (fun r2 H2 h2 hF2 => ?_)
      have er : r1 = r2 := (h1).trans (h2.1).symm
      rw [er]
      refine j_icmp_same (tgt := 889) C dL_law_604 (by decide) ?_
      exact kk _ _ _ _ _ _ _ _ (hS0.next Frm.rf hF2 hT h2.2 hV hH hl hsd)
  · skip
    refine j_callI (jrunV (rest := []) (As := [.int (zI (xv xs (i + 1)))]) C (c_X2_lengthN l G o maps hand sd sc near (xv xs (i + 1))) gL_law_X2_length rfl 1 (by decide +kernel) rfl rfl ⟨Nat.le_of_ble_eq_true rfl, Nat.le_of_ble_eq_true rfl⟩ hT.1 rfl ⟨hT, xv_R xs _, hth⟩ rfl rfl (Nat.le_of_ble_eq_true rfl) ⟨Nat.le_trans (show ca + 0 ≤ 1396 by omega) lw_rc, Nat.le_trans (show sl + 0 ≤ 130725 by omega) lw_rs⟩ dL_law_592) (fun r1 h1 => ?_)
    refine j_aload_n C dL_law_595 rfl ?_
    refine j_aload_n C dL_law_596 rfl ?_
    refine j_iload_n C dL_law_597 rfl ?_
    refine j_iconst C dL_law_598 ?_
    refine j_iadd C dL_law_599 ?_
    refine j_sld C hX hbl hbA hLL ⟨by omega, by omega⟩ dL_law_600 ?_
    obtain ⟨fsM, hOM⟩ := (hM).ob
    refine j_callmI (jrunV (rest := [.int (zI r1)]) (As := [.int (zI (xv xs (i + 1)))]) C (c_X3_length l G (o + 82) maps hand sd sc (xv xs (i + 1))) gL_law_X3_length rfl 1 (by decide +kernel) rfl rfl ⟨Nat.le_of_ble_eq_true rfl, Nat.le_of_ble_eq_true rfl⟩ hOM rfl ⟨hM, xv_R xs _, hV⟩ rfl rfl (Nat.le_of_ble_eq_true rfl) ⟨Nat.le_trans (show ca + 0 ≤ 1396 by omega) lw_rc, Nat.le_trans (show sl + 0 ≤ 130725 by omega) lw_rs⟩ dL_law_601) (fun q hq => by have := hq.1; show s.heap.size ≤ q; omega) (fun r2 H2 h2 hF2 => ?_)
    have er : r1 = r2 := (h1).trans (h2.1).symm
    rw [er]
    refine j_icmp_same (tgt := 889) C dL_law_604 (by decide) ?_
    exact kk _ _ _ _ _ _ _ _ (hS0.next Frm.rf hF2 hT h2.2 hV hH hl hsd)
set_option maxHeartbeats 4000000 in
theorem law_15 (l : Launch) {G : Gx} {p : Program} {e : Env} {s : State} {m : MethodId} {below : List Frame} {meth : Method} {c : Code} {b L o : Nat} {xs : Nat → Int32} (C : Cx G p s m #[Value.ref b] meth c code 4 RL wsL_law) (hX : va_X b L xs s s.heap) (hbl : b < s.heap.size) (hL : L ≤ 2560) (ho : s.heap.size = o) {maps : Int → List Q4} {hand : List Q4} {sd sc : Int} {near : Value} {ca sl : Nat} {H : Heap} (hS : lawS G o H maps hand sd sc near ca sl) {i : Int} (hi0 : 0 ≤ i) (hi1 : i + 5 ≤ L) (kk : ∀ (maps' : Int → List Q4) (hand' : List Q4) (sd' sc' : Int) (near' : Value) (ca' sl' : Nat) (H' : Heap), lawS G o H' maps' hand' sd' sc' near' ca' sl' → JJ p l e room_1 s m #[Value.ref b] below meth c (lw_Z below #[Value.ref b] s) (fun q : Nat => s.heap.size ≤ q) 4 H' ca' sl' 889 [(0, .ref b), (1, .ref o), (2, .ref (o + 82)), (3, .int (zI i))] []) : JJ p l e room_1 s m #[Value.ref b] below meth c (lw_Z below #[Value.ref b] s) (fun q : Nat => s.heap.size ≤ q) 4 H ca sl 609 [(0, .ref b), (1, .ref o), (2, .ref (o + 82)), (3, .int (zI i))] [] := by
  have hrm := hS.room
  have hbA : ¬ (fun q : Nat => s.heap.size ≤ q) b := by show ¬ s.heap.size ≤ b; omega
  have hLL : (L : Int) < 2147483648 := by omega
  have hS0 := hS
  obtain ⟨hV, hH, hl, hsd, hZ, hT, hM, hsz, hN⟩ := hS
  have hsR : iR sd := ⟨by omega, by omega⟩
  refine j_aload_n C dL_law_609 rfl ?_
  refine j_aload_n C dL_law_610 rfl ?_
  refine j_iload_n C dL_law_611 rfl ?_
  refine j_iconst C dL_law_612 ?_
  refine j_iadd C dL_law_613 ?_
  refine j_sld C hX hbl hbA hLL ⟨by omega, by omega⟩ dL_law_614 ?_
  by_cases hth : 0 ≤ (xv xs (i + 1)) ∧ (xv xs (i + 1)) ≤ 4
  · rcases hN with ⟨rfl, rfl, rfl⟩ | ⟨bb, rfl, hbb, hB, rfl, rfl⟩
    · obtain ⟨h, hh⟩ : ∃ n : Nat, H.size = n := ⟨_, rfl⟩
      refine j_callmI (jrunV (rest := []) (As := [.int (zI (xv xs (i + 1)))]) C (c_X2_ball0 l G o h maps hand sd sc (xv xs (i + 1))) gL_law_X2_ball rfl 1 (by decide +kernel) rfl rfl ⟨Nat.le_of_ble_eq_true rfl, Nat.le_of_ble_eq_true rfl⟩ hT.1 rfl ⟨hT, hZ, hh, xv_R xs _, hth⟩ rfl rfl (Nat.le_of_ble_eq_true rfl) ⟨Nat.le_of_ble_eq_true rfl, Nat.le_of_ble_eq_true rfl⟩ dL_law_615) (fun q hq => by have hq' : (o ≤ q ∧ q < o + 82) ∨ h ≤ q := hq; show s.heap.size ≤ q; omega) (fun r1 H1 h1 hF1 => ?_)
      obtain ⟨h1, hT1, hB1⟩ := h1
      have hM1 := hM.frm hF1 (fun q q1 q2 => by show ¬ ((o ≤ q ∧ q < o + 82) ∨ h ≤ q); omega)
      refine j_aload_n C dL_law_618 rfl ?_
      refine j_aload_n C dL_law_619 rfl ?_
      refine j_iload_n C dL_law_620 rfl ?_
      refine j_iconst C dL_law_621 ?_
      refine j_iadd C dL_law_622 ?_
      refine j_sld C hX hbl hbA hLL ⟨by omega, by omega⟩ dL_law_623 ?_
      obtain ⟨fsM, hOM⟩ := (hM1).ob
      refine j_callmI (jrunV (rest := [.int (zI r1)]) (As := [.int (zI (xv xs (i + 1)))]) C (c_X3_ball l G (o + 82) maps hand sd sc (xv xs (i + 1))) gL_law_X3_ball rfl 1 (by decide +kernel) rfl rfl ⟨Nat.le_of_ble_eq_true rfl, Nat.le_of_ble_eq_true rfl⟩ hOM rfl ⟨hM1, xv_R xs _⟩ rfl rfl (Nat.le_of_ble_eq_true rfl) ⟨Nat.le_trans (show 93 + 1303 + 0 ≤ 1396 by omega) lw_rc, Nat.le_trans (show 20725 + 110000 + 0 ≤ 130725 by omega) lw_rs⟩ dL_law_624) (fun q hq => by have := hq.1; show s.heap.size ≤ q; omega) (fun r2 H2 h2 hF2 => ?_)
      have er : r1 = r2 := (h1).trans (h2.1).symm
      rw [er]
      refine j_icmp_same (tgt := 889) C dL_law_627 (by decide) ?_
      exact kk _ _ _ _ _ _ _ _ (hS0.grown hh hF1 hT1 hB1 hF2 h2.2)
    · skip
      refine j_callI (jrunV (rest := []) (As := [.int (zI (xv xs (i + 1)))]) C (c_X2_ball1 l G o bb maps hand sd sc (xv xs (i + 1))) gL_law_X2_ball rfl 1 (by decide +kernel) rfl rfl ⟨Nat.le_of_ble_eq_true rfl, Nat.le_of_ble_eq_true rfl⟩ hT.1 rfl ⟨hT, hB, xv_R xs _⟩ rfl rfl (Nat.le_of_ble_eq_true rfl) ⟨Nat.le_trans (show 1396 + 0 ≤ 1396 by omega) lw_rc, Nat.le_trans (show 130725 + 0 ≤ 130725 by omega) lw_rs⟩ dL_law_615) (fun r1 h1 => ?_)
      refine j_aload_n C dL_law_618 rfl ?_
      refine j_aload_n C dL_law_619 rfl ?_
      refine j_iload_n C dL_law_620 rfl ?_
      refine j_iconst C dL_law_621 ?_
      refine j_iadd C dL_law_622 ?_
      refine j_sld C hX hbl hbA hLL ⟨by omega, by omega⟩ dL_law_623 ?_
      obtain ⟨fsM, hOM⟩ := (hM).ob
      refine j_callmI (jrunV (rest := [.int (zI r1)]) (As := [.int (zI (xv xs (i + 1)))]) C (c_X3_ball l G (o + 82) maps hand sd sc (xv xs (i + 1))) gL_law_X3_ball rfl 1 (by decide +kernel) rfl rfl ⟨Nat.le_of_ble_eq_true rfl, Nat.le_of_ble_eq_true rfl⟩ hOM rfl ⟨hM, xv_R xs _⟩ rfl rfl (Nat.le_of_ble_eq_true rfl) ⟨Nat.le_trans (show 1396 + 0 ≤ 1396 by omega) lw_rc, Nat.le_trans (show 130725 + 0 ≤ 130725 by omega) lw_rs⟩ dL_law_624) (fun q hq => by have := hq.1; show s.heap.size ≤ q; omega) (fun r2 H2 h2 hF2 => ?_)
      have er : r1 = r2 := (h1).trans (h2.1).symm
      rw [er]
      refine j_icmp_same (tgt := 889) C dL_law_627 (by decide) ?_
      exact kk _ _ _ _ _ _ _ _ (hS0.next Frm.rf hF2 hT h2.2 hV hH hl hsd)
  · skip
    refine j_callI (jrunV (rest := []) (As := [.int (zI (xv xs (i + 1)))]) C (c_X2_ballN l G o maps hand sd sc near (xv xs (i + 1))) gL_law_X2_ball rfl 1 (by decide +kernel) rfl rfl ⟨Nat.le_of_ble_eq_true rfl, Nat.le_of_ble_eq_true rfl⟩ hT.1 rfl ⟨hT, xv_R xs _, hth⟩ rfl rfl (Nat.le_of_ble_eq_true rfl) ⟨Nat.le_trans (show ca + 0 ≤ 1396 by omega) lw_rc, Nat.le_trans (show sl + 0 ≤ 130725 by omega) lw_rs⟩ dL_law_615) (fun r1 h1 => ?_)
    refine j_aload_n C dL_law_618 rfl ?_
    refine j_aload_n C dL_law_619 rfl ?_
    refine j_iload_n C dL_law_620 rfl ?_
    refine j_iconst C dL_law_621 ?_
    refine j_iadd C dL_law_622 ?_
    refine j_sld C hX hbl hbA hLL ⟨by omega, by omega⟩ dL_law_623 ?_
    obtain ⟨fsM, hOM⟩ := (hM).ob
    refine j_callmI (jrunV (rest := [.int (zI r1)]) (As := [.int (zI (xv xs (i + 1)))]) C (c_X3_ball l G (o + 82) maps hand sd sc (xv xs (i + 1))) gL_law_X3_ball rfl 1 (by decide +kernel) rfl rfl ⟨Nat.le_of_ble_eq_true rfl, Nat.le_of_ble_eq_true rfl⟩ hOM rfl ⟨hM, xv_R xs _⟩ rfl rfl (Nat.le_of_ble_eq_true rfl) ⟨Nat.le_trans (show ca + 0 ≤ 1396 by omega) lw_rc, Nat.le_trans (show sl + 0 ≤ 130725 by omega) lw_rs⟩ dL_law_624) (fun q hq => by have := hq.1; show s.heap.size ≤ q; omega) (fun r2 H2 h2 hF2 => ?_)
    have er : r1 = r2 := (h1).trans (h2.1).symm
    rw [er]
    refine j_icmp_same (tgt := 889) C dL_law_627 (by decide) ?_
    exact kk _ _ _ _ _ _ _ _ (hS0.next Frm.rf hF2 hT h2.2 hV hH hl hsd)
set_option maxHeartbeats 4000000 in
theorem law_16 (l : Launch) {G : Gx} {p : Program} {e : Env} {s : State} {m : MethodId} {below : List Frame} {meth : Method} {c : Code} {b L o : Nat} {xs : Nat → Int32} (C : Cx G p s m #[Value.ref b] meth c code 4 RL wsL_law) (hX : va_X b L xs s s.heap) (hbl : b < s.heap.size) (hL : L ≤ 2560) (ho : s.heap.size = o) {maps : Int → List Q4} {hand : List Q4} {sd sc : Int} {near : Value} {ca sl : Nat} {H : Heap} (hS : lawS G o H maps hand sd sc near ca sl) {i : Int} (hi0 : 0 ≤ i) (hi1 : i + 5 ≤ L) (kk : ∀ (maps' : Int → List Q4) (hand' : List Q4) (sd' sc' : Int) (near' : Value) (ca' sl' : Nat) (H' : Heap), lawS G o H' maps' hand' sd' sc' near' ca' sl' → JJ p l e room_1 s m #[Value.ref b] below meth c (lw_Z below #[Value.ref b] s) (fun q : Nat => s.heap.size ≤ q) 4 H' ca' sl' 889 [(0, .ref b), (1, .ref o), (2, .ref (o + 82)), (3, .int (zI i))] []) : JJ p l e room_1 s m #[Value.ref b] below meth c (lw_Z below #[Value.ref b] s) (fun q : Nat => s.heap.size ≤ q) 4 H ca sl 632 [(0, .ref b), (1, .ref o), (2, .ref (o + 82)), (3, .int (zI i))] [] := by
  have hrm := hS.room
  have hbA : ¬ (fun q : Nat => s.heap.size ≤ q) b := by show ¬ s.heap.size ≤ b; omega
  have hLL : (L : Int) < 2147483648 := by omega
  have hS0 := hS
  obtain ⟨hV, hH, hl, hsd, hZ, hT, hM, hsz, hN⟩ := hS
  have hsR : iR sd := ⟨by omega, by omega⟩
  refine j_aload_n C dL_law_632 rfl ?_
  refine j_aload_n C dL_law_633 rfl ?_
  refine j_iload_n C dL_law_634 rfl ?_
  refine j_iconst C dL_law_635 ?_
  refine j_iadd C dL_law_636 ?_
  refine j_sld C hX hbl hbA hLL ⟨by omega, by omega⟩ dL_law_637 ?_
  refine j_aload_n C dL_law_638 rfl ?_
  refine j_iload_n C dL_law_639 rfl ?_
  refine j_iconst C dL_law_640 ?_
  refine j_iadd C dL_law_641 ?_
  refine j_sld C hX hbl hbA hLL ⟨by omega, by omega⟩ dL_law_642 ?_
  refine j_aload_n C dL_law_643 rfl ?_
  refine j_iload_n C dL_law_644 rfl ?_
  refine j_iconst C dL_law_645 ?_
  refine j_iadd C dL_law_646 ?_
  refine j_sld C hX hbl hbA hLL ⟨by omega, by omega⟩ dL_law_647 ?_
  refine j_i2l C dL_law_648 (xv_R xs _) ?_
  refine j_bipush C dL_law_649 (by decide) ?_
  refine j_lshl C dL_law_651 ⟨by decide, by decide⟩ ?_
  refine j_aload_n C dL_law_652 rfl ?_
  refine j_iload_n C dL_law_653 rfl ?_
  refine j_iconst C dL_law_654 ?_
  refine j_iadd C dL_law_655 ?_
  refine j_sld C hX hbl hbA hLL ⟨by omega, by omega⟩ dL_law_656 ?_
  refine j_i2l C dL_law_657 (xv_R xs _) ?_
  refine j_ldc2 (z := 4294967295) (index := 82) (v := 4294967295) C (by decide +kernel) (by decide) dL_law_658 ?_
  refine j_land C dL_law_661 ?_
  refine j_lor (r := yv xs i) C dL_law_662 (by unfold yv; exact (zL_of _).symm) ?_
  refine j_callmI (jrunV (rest := []) (As := [.int (zI (xv xs (i + 1))), .int (zI (xv xs (i + 2))), .long (zL (yv xs i))]) C (c_X2_go l G o maps hand sd sc near (xv xs (i + 1)) (xv xs (i + 2)) (yv xs i)) gL_law_X2_go rfl 3 (by decide +kernel) rfl rfl ⟨Nat.le_of_ble_eq_true rfl, Nat.le_of_ble_eq_true rfl⟩ hT.1 rfl ⟨hT, xv_R xs _, xv_R xs _, yv_R xs i, hV⟩ rfl rfl (Nat.le_of_ble_eq_true rfl) ⟨Nat.le_trans (show ca + 0 ≤ 1396 by omega) lw_rc, Nat.le_trans (show sl + 0 ≤ 130725 by omega) lw_rs⟩ dL_law_663) (fun q hq => by have := hq.1; show s.heap.size ≤ q; omega) (fun r1 H1 h1 hF1 => ?_)
  refine j_aload_n C dL_law_666 rfl ?_
  refine j_aload_n C dL_law_667 rfl ?_
  refine j_iload_n C dL_law_668 rfl ?_
  refine j_iconst C dL_law_669 ?_
  refine j_iadd C dL_law_670 ?_
  refine j_sld C hX hbl hbA hLL ⟨by omega, by omega⟩ dL_law_671 ?_
  refine j_aload_n C dL_law_672 rfl ?_
  refine j_iload_n C dL_law_673 rfl ?_
  refine j_iconst C dL_law_674 ?_
  refine j_iadd C dL_law_675 ?_
  refine j_sld C hX hbl hbA hLL ⟨by omega, by omega⟩ dL_law_676 ?_
  refine j_aload_n C dL_law_677 rfl ?_
  refine j_iload_n C dL_law_678 rfl ?_
  refine j_iconst C dL_law_679 ?_
  refine j_iadd C dL_law_680 ?_
  refine j_sld C hX hbl hbA hLL ⟨by omega, by omega⟩ dL_law_681 ?_
  refine j_i2l C dL_law_682 (xv_R xs _) ?_
  refine j_bipush C dL_law_683 (by decide) ?_
  refine j_lshl C dL_law_685 ⟨by decide, by decide⟩ ?_
  refine j_aload_n C dL_law_686 rfl ?_
  refine j_iload_n C dL_law_687 rfl ?_
  refine j_iconst C dL_law_688 ?_
  refine j_iadd C dL_law_689 ?_
  refine j_sld C hX hbl hbA hLL ⟨by omega, by omega⟩ dL_law_690 ?_
  refine j_i2l C dL_law_691 (xv_R xs _) ?_
  refine j_ldc2 (z := 4294967295) (index := 82) (v := 4294967295) C (by decide +kernel) (by decide) dL_law_692 ?_
  refine j_land C dL_law_695 ?_
  refine j_lor (r := yv xs i) C dL_law_696 (by unfold yv; exact (zL_of _).symm) ?_
  obtain ⟨fsM, hOM⟩ := ((hS0.mid hF1)).ob
  refine j_callmI (jrunV (rest := [.int (zI r1)]) (As := [.int (zI (xv xs (i + 1))), .int (zI (xv xs (i + 2))), .long (zL (yv xs i))]) C (c_X3_go l G (o + 82) maps hand sd sc (xv xs (i + 1)) (xv xs (i + 2)) (yv xs i)) gL_law_X3_go rfl 3 (by decide +kernel) rfl rfl ⟨Nat.le_of_ble_eq_true rfl, Nat.le_of_ble_eq_true rfl⟩ hOM rfl ⟨(hS0.mid hF1), xv_R xs _, xv_R xs _, yv_R xs i, hV⟩ rfl rfl (Nat.le_of_ble_eq_true rfl) ⟨Nat.le_trans (show ca + 0 + 0 ≤ 1396 by omega) lw_rc, Nat.le_trans (show sl + 0 + 0 ≤ 130725 by omega) lw_rs⟩ dL_law_697) (fun q hq => by have := hq.1; show s.heap.size ≤ q; omega) (fun r2 H2 h2 hF2 => ?_)
  rcases h1 with ⟨t1, g1, e1, i1, b1, u1, v1, hT1⟩ | ⟨n1, e1, hT1⟩
  · rcases h2 with ⟨t2, g2, e2, i2, b2, u2, v2, hM2⟩ | ⟨n2, e2, hM2⟩
    · have ei : i1 = i2 := go_uniq (hV.at t1) b1 b2 u1 v1 u2 v2
      rw [← ei] at hM2
      have er : r1 = r2 := (e1).trans (e2).symm
      rw [er]
      refine j_icmp_same (tgt := 889) C dL_law_700 (by decide) ?_
      exact kk _ _ _ _ _ _ _ _ (hS0.next hF1 hF2 hT1 hM2 hV hH hl (lowF_b 53 _))
    · exact absurd ⟨t1, g1⟩ n2
  · rcases h2 with ⟨t2, g2, e2, i2, b2, u2, v2, hM2⟩ | ⟨n2, e2, hM2⟩
    · exact absurd ⟨t2, g2⟩ n1
    · skip
      have er : r1 = r2 := (e1).trans (e2).symm
      rw [er]
      refine j_icmp_same (tgt := 889) C dL_law_700 (by decide) ?_
      exact kk _ _ _ _ _ _ _ _ (hS0.next hF1 hF2 hT1 hM2 hV hH hl hsd)
set_option maxHeartbeats 4000000 in
theorem law_17 (l : Launch) {G : Gx} {p : Program} {e : Env} {s : State} {m : MethodId} {below : List Frame} {meth : Method} {c : Code} {b L o : Nat} {xs : Nat → Int32} (C : Cx G p s m #[Value.ref b] meth c code 4 RL wsL_law) (hX : va_X b L xs s s.heap) (hbl : b < s.heap.size) (hL : L ≤ 2560) (ho : s.heap.size = o) {maps : Int → List Q4} {hand : List Q4} {sd sc : Int} {near : Value} {ca sl : Nat} {H : Heap} (hS : lawS G o H maps hand sd sc near ca sl) {i : Int} (hi0 : 0 ≤ i) (hi1 : i + 5 ≤ L) (kk : ∀ (maps' : Int → List Q4) (hand' : List Q4) (sd' sc' : Int) (near' : Value) (ca' sl' : Nat) (H' : Heap), lawS G o H' maps' hand' sd' sc' near' ca' sl' → JJ p l e room_1 s m #[Value.ref b] below meth c (lw_Z below #[Value.ref b] s) (fun q : Nat => s.heap.size ≤ q) 4 H' ca' sl' 889 [(0, .ref b), (1, .ref o), (2, .ref (o + 82)), (3, .int (zI i))] []) : JJ p l e room_1 s m #[Value.ref b] below meth c (lw_Z below #[Value.ref b] s) (fun q : Nat => s.heap.size ≤ q) 4 H ca sl 705 [(0, .ref b), (1, .ref o), (2, .ref (o + 82)), (3, .int (zI i))] [] := by
  have hrm := hS.room
  have hbA : ¬ (fun q : Nat => s.heap.size ≤ q) b := by show ¬ s.heap.size ≤ b; omega
  have hLL : (L : Int) < 2147483648 := by omega
  have hS0 := hS
  obtain ⟨hV, hH, hl, hsd, hZ, hT, hM, hsz, hN⟩ := hS
  have hsR : iR sd := ⟨by omega, by omega⟩
  refine j_aload_n C dL_law_705 rfl ?_
  refine j_aload_n C dL_law_706 rfl ?_
  refine j_iload_n C dL_law_707 rfl ?_
  refine j_iconst C dL_law_708 ?_
  refine j_iadd C dL_law_709 ?_
  refine j_sld C hX hbl hbA hLL ⟨by omega, by omega⟩ dL_law_710 ?_
  refine j_callL (jrunV (rest := []) (As := [.int (zI (xv xs (i + 1)))]) C (c_X2_seen l G o maps hand sd sc near (xv xs (i + 1))) gL_law_X2_seen rfl 1 (by decide +kernel) rfl rfl ⟨Nat.le_of_ble_eq_true rfl, Nat.le_of_ble_eq_true rfl⟩ hT.1 rfl ⟨hT, xv_R xs _, hsR⟩ rfl rfl (Nat.le_of_ble_eq_true rfl) ⟨Nat.le_trans (show ca + 0 ≤ 1396 by omega) lw_rc, Nat.le_trans (show sl + 0 ≤ 130725 by omega) lw_rs⟩ dL_law_711) (fun r1 h1 => ?_)
  refine j_aload_n C dL_law_714 rfl ?_
  refine j_aload_n C dL_law_715 rfl ?_
  refine j_iload_n C dL_law_716 rfl ?_
  refine j_iconst C dL_law_717 ?_
  refine j_iadd C dL_law_718 ?_
  refine j_sld C hX hbl hbA hLL ⟨by omega, by omega⟩ dL_law_719 ?_
  obtain ⟨fsM, hOM⟩ := (hM).ob
  refine j_callL (jrunV (rest := [.long (zL r1)]) (As := [.int (zI (xv xs (i + 1)))]) C (c_X3_seen l G (o + 82) maps hand sd sc (xv xs (i + 1))) gL_law_X3_seen rfl 1 (by decide +kernel) rfl rfl ⟨Nat.le_of_ble_eq_true rfl, Nat.le_of_ble_eq_true rfl⟩ hOM rfl ⟨hM, xv_R xs _, hsR⟩ rfl rfl (Nat.le_of_ble_eq_true rfl) ⟨Nat.le_trans (show ca + 0 ≤ 1396 by omega) lw_rc, Nat.le_trans (show sl + 0 ≤ 130725 by omega) lw_rs⟩ dL_law_720) (fun r2 h2 => ?_)
  have er : r1 = r2 := (h1).trans (h2).symm
  rw [er]
  refine j_lcmp_same (tgt := 889) C dL_law_723 dL_law_724 (by decide) ?_
  exact kk _ _ _ _ _ _ _ _ (hS0.next Frm.rf Frm.rf hT hM hV hH hl hsd)
set_option maxHeartbeats 4000000 in
theorem law_18 (l : Launch) {G : Gx} {p : Program} {e : Env} {s : State} {m : MethodId} {below : List Frame} {meth : Method} {c : Code} {b L o : Nat} {xs : Nat → Int32} (C : Cx G p s m #[Value.ref b] meth c code 4 RL wsL_law) (hX : va_X b L xs s s.heap) (hbl : b < s.heap.size) (hL : L ≤ 2560) (ho : s.heap.size = o) {maps : Int → List Q4} {hand : List Q4} {sd sc : Int} {near : Value} {ca sl : Nat} {H : Heap} (hS : lawS G o H maps hand sd sc near ca sl) {i : Int} (hi0 : 0 ≤ i) (hi1 : i + 5 ≤ L) (kk : ∀ (maps' : Int → List Q4) (hand' : List Q4) (sd' sc' : Int) (near' : Value) (ca' sl' : Nat) (H' : Heap), lawS G o H' maps' hand' sd' sc' near' ca' sl' → JJ p l e room_1 s m #[Value.ref b] below meth c (lw_Z below #[Value.ref b] s) (fun q : Nat => s.heap.size ≤ q) 4 H' ca' sl' 889 [(0, .ref b), (1, .ref o), (2, .ref (o + 82)), (3, .int (zI i))] []) : JJ p l e room_1 s m #[Value.ref b] below meth c (lw_Z below #[Value.ref b] s) (fun q : Nat => s.heap.size ≤ q) 4 H ca sl 729 [(0, .ref b), (1, .ref o), (2, .ref (o + 82)), (3, .int (zI i))] [] := by
  have hrm := hS.room
  have hbA : ¬ (fun q : Nat => s.heap.size ≤ q) b := by show ¬ s.heap.size ≤ b; omega
  have hLL : (L : Int) < 2147483648 := by omega
  have hS0 := hS
  obtain ⟨hV, hH, hl, hsd, hZ, hT, hM, hsz, hN⟩ := hS
  have hsR : iR sd := ⟨by omega, by omega⟩
  refine j_aload_n C dL_law_729 rfl ?_
  refine j_aload_n C dL_law_730 rfl ?_
  refine j_iload_n C dL_law_731 rfl ?_
  refine j_iconst C dL_law_732 ?_
  refine j_iadd C dL_law_733 ?_
  refine j_sld C hX hbl hbA hLL ⟨by omega, by omega⟩ dL_law_734 ?_
  refine j_aload_n C dL_law_735 rfl ?_
  refine j_iload_n C dL_law_736 rfl ?_
  refine j_iconst C dL_law_737 ?_
  refine j_iadd C dL_law_738 ?_
  refine j_sld C hX hbl hbA hLL ⟨by omega, by omega⟩ dL_law_739 ?_
  refine j_callI (jrunV (rest := []) (As := [.int (zI (xv xs (i + 1))), .int (zI (xv xs (i + 2)))]) C (c_X2_bend l G o maps hand sd sc near (xv xs (i + 1)) (xv xs (i + 2))) gL_law_X2_bend rfl 2 (by decide +kernel) rfl rfl ⟨Nat.le_of_ble_eq_true rfl, Nat.le_of_ble_eq_true rfl⟩ hT.1 rfl ⟨hT, xv_R xs _, xv_R xs _⟩ rfl rfl (Nat.le_of_ble_eq_true rfl) ⟨Nat.le_trans (show ca + 0 ≤ 1396 by omega) lw_rc, Nat.le_trans (show sl + 0 ≤ 130725 by omega) lw_rs⟩ dL_law_740) (fun r1 h1 => ?_)
  refine j_aload_n C dL_law_743 rfl ?_
  refine j_aload_n C dL_law_744 rfl ?_
  refine j_iload_n C dL_law_745 rfl ?_
  refine j_iconst C dL_law_746 ?_
  refine j_iadd C dL_law_747 ?_
  refine j_sld C hX hbl hbA hLL ⟨by omega, by omega⟩ dL_law_748 ?_
  refine j_aload_n C dL_law_749 rfl ?_
  refine j_iload_n C dL_law_750 rfl ?_
  refine j_iconst C dL_law_751 ?_
  refine j_iadd C dL_law_752 ?_
  refine j_sld C hX hbl hbA hLL ⟨by omega, by omega⟩ dL_law_753 ?_
  obtain ⟨fsM, hOM⟩ := (hM).ob
  refine j_callI (jrunV (rest := [.int (zI r1)]) (As := [.int (zI (xv xs (i + 1))), .int (zI (xv xs (i + 2)))]) C (c_X3_bend l G (o + 82) maps hand sd sc (xv xs (i + 1)) (xv xs (i + 2))) gL_law_X3_bend rfl 2 (by decide +kernel) rfl rfl ⟨Nat.le_of_ble_eq_true rfl, Nat.le_of_ble_eq_true rfl⟩ hOM rfl ⟨hM, xv_R xs _, xv_R xs _, hV⟩ rfl rfl (Nat.le_of_ble_eq_true rfl) ⟨Nat.le_trans (show ca + 0 ≤ 1396 by omega) lw_rc, Nat.le_trans (show sl + 0 ≤ 130725 by omega) lw_rs⟩ dL_law_754) (fun r2 h2 => ?_)
  have er : r1 = r2 := (h1).trans (h2).symm
  rw [er]
  refine j_icmp_same (tgt := 889) C dL_law_757 (by decide) ?_
  exact kk _ _ _ _ _ _ _ _ (hS0.next Frm.rf Frm.rf hT hM hV hH hl hsd)
set_option maxHeartbeats 4000000 in
theorem law_19 (l : Launch) {G : Gx} {p : Program} {e : Env} {s : State} {m : MethodId} {below : List Frame} {meth : Method} {c : Code} {b L o : Nat} {xs : Nat → Int32} (C : Cx G p s m #[Value.ref b] meth c code 4 RL wsL_law) (hX : va_X b L xs s s.heap) (hbl : b < s.heap.size) (hL : L ≤ 2560) (ho : s.heap.size = o) {maps : Int → List Q4} {hand : List Q4} {sd sc : Int} {near : Value} {ca sl : Nat} {H : Heap} (hS : lawS G o H maps hand sd sc near ca sl) {i : Int} (hi0 : 0 ≤ i) (hi1 : i + 5 ≤ L) (kk : ∀ (maps' : Int → List Q4) (hand' : List Q4) (sd' sc' : Int) (near' : Value) (ca' sl' : Nat) (H' : Heap), lawS G o H' maps' hand' sd' sc' near' ca' sl' → JJ p l e room_1 s m #[Value.ref b] below meth c (lw_Z below #[Value.ref b] s) (fun q : Nat => s.heap.size ≤ q) 4 H' ca' sl' 889 [(0, .ref b), (1, .ref o), (2, .ref (o + 82)), (3, .int (zI i))] []) : JJ p l e room_1 s m #[Value.ref b] below meth c (lw_Z below #[Value.ref b] s) (fun q : Nat => s.heap.size ≤ q) 4 H ca sl 762 [(0, .ref b), (1, .ref o), (2, .ref (o + 82)), (3, .int (zI i))] [] := by
  have hrm := hS.room
  have hbA : ¬ (fun q : Nat => s.heap.size ≤ q) b := by show ¬ s.heap.size ≤ b; omega
  have hLL : (L : Int) < 2147483648 := by omega
  have hS0 := hS
  obtain ⟨hV, hH, hl, hsd, hZ, hT, hM, hsz, hN⟩ := hS
  have hsR : iR sd := ⟨by omega, by omega⟩
  refine j_aload_n C dL_law_762 rfl ?_
  refine j_aload_n C dL_law_763 rfl ?_
  refine j_iload_n C dL_law_764 rfl ?_
  refine j_iconst C dL_law_765 ?_
  refine j_iadd C dL_law_766 ?_
  refine j_sld C hX hbl hbA hLL ⟨by omega, by omega⟩ dL_law_767 ?_
  refine j_callI (jrunV (rest := []) (As := [.int (zI (xv xs (i + 1)))]) C (c_X2_still l G o maps hand sd sc near (xv xs (i + 1))) gL_law_X2_still rfl 1 (by decide +kernel) rfl rfl ⟨Nat.le_of_ble_eq_true rfl, Nat.le_of_ble_eq_true rfl⟩ hT.1 rfl ⟨hT, xv_R xs _, hV⟩ rfl rfl (Nat.le_of_ble_eq_true rfl) ⟨Nat.le_trans (show ca + 0 ≤ 1396 by omega) lw_rc, Nat.le_trans (show sl + 0 ≤ 130725 by omega) lw_rs⟩ dL_law_768) (fun r1 h1 => ?_)
  refine j_aload_n C dL_law_771 rfl ?_
  refine j_aload_n C dL_law_772 rfl ?_
  refine j_iload_n C dL_law_773 rfl ?_
  refine j_iconst C dL_law_774 ?_
  refine j_iadd C dL_law_775 ?_
  refine j_sld C hX hbl hbA hLL ⟨by omega, by omega⟩ dL_law_776 ?_
  obtain ⟨fsM, hOM⟩ := (hM).ob
  refine j_callI (jrunV (rest := [.int (zI r1)]) (As := [.int (zI (xv xs (i + 1)))]) C (c_X3_still l G (o + 82) maps hand sd sc (xv xs (i + 1))) gL_law_X3_still rfl 1 (by decide +kernel) rfl rfl ⟨Nat.le_of_ble_eq_true rfl, Nat.le_of_ble_eq_true rfl⟩ hOM rfl ⟨hM, xv_R xs _, hV⟩ rfl rfl (Nat.le_of_ble_eq_true rfl) ⟨Nat.le_trans (show ca + 0 ≤ 1396 by omega) lw_rc, Nat.le_trans (show sl + 0 ≤ 130725 by omega) lw_rs⟩ dL_law_777) (fun r2 h2 => ?_)
  have er : r1 = r2 := (h1).trans (h2).symm
  rw [er]
  refine j_icmp_same (tgt := 889) C dL_law_780 (by decide) ?_
  exact kk _ _ _ _ _ _ _ _ (hS0.next Frm.rf Frm.rf hT hM hV hH hl hsd)
set_option maxHeartbeats 4000000 in
theorem law_20 (l : Launch) {G : Gx} {p : Program} {e : Env} {s : State} {m : MethodId} {below : List Frame} {meth : Method} {c : Code} {b L o : Nat} {xs : Nat → Int32} (C : Cx G p s m #[Value.ref b] meth c code 4 RL wsL_law) (hX : va_X b L xs s s.heap) (hbl : b < s.heap.size) (hL : L ≤ 2560) (ho : s.heap.size = o) {maps : Int → List Q4} {hand : List Q4} {sd sc : Int} {near : Value} {ca sl : Nat} {H : Heap} (hS : lawS G o H maps hand sd sc near ca sl) {i : Int} (hi0 : 0 ≤ i) (hi1 : i + 5 ≤ L) (kk : ∀ (maps' : Int → List Q4) (hand' : List Q4) (sd' sc' : Int) (near' : Value) (ca' sl' : Nat) (H' : Heap), lawS G o H' maps' hand' sd' sc' near' ca' sl' → JJ p l e room_1 s m #[Value.ref b] below meth c (lw_Z below #[Value.ref b] s) (fun q : Nat => s.heap.size ≤ q) 4 H' ca' sl' 889 [(0, .ref b), (1, .ref o), (2, .ref (o + 82)), (3, .int (zI i))] []) : JJ p l e room_1 s m #[Value.ref b] below meth c (lw_Z below #[Value.ref b] s) (fun q : Nat => s.heap.size ≤ q) 4 H ca sl 785 [(0, .ref b), (1, .ref o), (2, .ref (o + 82)), (3, .int (zI i))] [] := by
  have hrm := hS.room
  have hbA : ¬ (fun q : Nat => s.heap.size ≤ q) b := by show ¬ s.heap.size ≤ b; omega
  have hLL : (L : Int) < 2147483648 := by omega
  have hS0 := hS
  obtain ⟨hV, hH, hl, hsd, hZ, hT, hM, hsz, hN⟩ := hS
  have hsR : iR sd := ⟨by omega, by omega⟩
  refine j_aload_n C dL_law_785 rfl ?_
  refine j_aload_n C dL_law_786 rfl ?_
  refine j_iload_n C dL_law_787 rfl ?_
  refine j_iconst C dL_law_788 ?_
  refine j_iadd C dL_law_789 ?_
  refine j_sld C hX hbl hbA hLL ⟨by omega, by omega⟩ dL_law_790 ?_
  refine j_callI (jrunV (rest := []) (As := [.int (zI (xv xs (i + 1)))]) C (c_X2_single l G o maps hand sd sc near (xv xs (i + 1))) gL_law_X2_single rfl 1 (by decide +kernel) rfl rfl ⟨Nat.le_of_ble_eq_true rfl, Nat.le_of_ble_eq_true rfl⟩ hT.1 rfl ⟨hT, xv_R xs _, hV⟩ rfl rfl (Nat.le_of_ble_eq_true rfl) ⟨Nat.le_trans (show ca + 0 ≤ 1396 by omega) lw_rc, Nat.le_trans (show sl + 0 ≤ 130725 by omega) lw_rs⟩ dL_law_791) (fun r1 h1 => ?_)
  refine j_aload_n C dL_law_794 rfl ?_
  refine j_aload_n C dL_law_795 rfl ?_
  refine j_iload_n C dL_law_796 rfl ?_
  refine j_iconst C dL_law_797 ?_
  refine j_iadd C dL_law_798 ?_
  refine j_sld C hX hbl hbA hLL ⟨by omega, by omega⟩ dL_law_799 ?_
  obtain ⟨fsM, hOM⟩ := (hM).ob
  refine j_callmI (jrunV (rest := [.int (zI r1)]) (As := [.int (zI (xv xs (i + 1)))]) C (c_X3_single l G (o + 82) maps hand sd sc (xv xs (i + 1))) gL_law_X3_single rfl 1 (by decide +kernel) rfl rfl ⟨Nat.le_of_ble_eq_true rfl, Nat.le_of_ble_eq_true rfl⟩ hOM rfl ⟨hM, xv_R xs _, hV⟩ rfl rfl (Nat.le_of_ble_eq_true rfl) ⟨Nat.le_trans (show ca + 0 ≤ 1396 by omega) lw_rc, Nat.le_trans (show sl + 0 ≤ 130725 by omega) lw_rs⟩ dL_law_800) (fun q hq => by have := hq.1; show s.heap.size ≤ q; omega) (fun r2 H2 h2 hF2 => ?_)
  have er : r1 = r2 := (h1).trans (h2.1).symm
  rw [er]
  refine j_icmp_same (tgt := 889) C dL_law_803 (by decide) ?_
  exact kk _ _ _ _ _ _ _ _ (hS0.next Frm.rf hF2 hT h2.2 hV hH hl hsd)
set_option maxHeartbeats 4000000 in
theorem law_21 (l : Launch) {G : Gx} {p : Program} {e : Env} {s : State} {m : MethodId} {below : List Frame} {meth : Method} {c : Code} {b L o : Nat} {xs : Nat → Int32} (C : Cx G p s m #[Value.ref b] meth c code 4 RL wsL_law) (hX : va_X b L xs s s.heap) (hbl : b < s.heap.size) (hL : L ≤ 2560) (ho : s.heap.size = o) {maps : Int → List Q4} {hand : List Q4} {sd sc : Int} {near : Value} {ca sl : Nat} {H : Heap} (hS : lawS G o H maps hand sd sc near ca sl) {i : Int} (hi0 : 0 ≤ i) (hi1 : i + 5 ≤ L) (kk : ∀ (maps' : Int → List Q4) (hand' : List Q4) (sd' sc' : Int) (near' : Value) (ca' sl' : Nat) (H' : Heap), lawS G o H' maps' hand' sd' sc' near' ca' sl' → JJ p l e room_1 s m #[Value.ref b] below meth c (lw_Z below #[Value.ref b] s) (fun q : Nat => s.heap.size ≤ q) 4 H' ca' sl' 889 [(0, .ref b), (1, .ref o), (2, .ref (o + 82)), (3, .int (zI i))] []) : JJ p l e room_1 s m #[Value.ref b] below meth c (lw_Z below #[Value.ref b] s) (fun q : Nat => s.heap.size ≤ q) 4 H ca sl 808 [(0, .ref b), (1, .ref o), (2, .ref (o + 82)), (3, .int (zI i))] [] := by
  have hrm := hS.room
  have hbA : ¬ (fun q : Nat => s.heap.size ≤ q) b := by show ¬ s.heap.size ≤ b; omega
  have hLL : (L : Int) < 2147483648 := by omega
  have hS0 := hS
  obtain ⟨hV, hH, hl, hsd, hZ, hT, hM, hsz, hN⟩ := hS
  have hsR : iR sd := ⟨by omega, by omega⟩
  refine j_aload_n C dL_law_808 rfl ?_
  refine j_aload_n C dL_law_809 rfl ?_
  refine j_iload_n C dL_law_810 rfl ?_
  refine j_iconst C dL_law_811 ?_
  refine j_iadd C dL_law_812 ?_
  refine j_sld C hX hbl hbA hLL ⟨by omega, by omega⟩ dL_law_813 ?_
  refine j_aload_n C dL_law_814 rfl ?_
  refine j_iload_n C dL_law_815 rfl ?_
  refine j_iconst C dL_law_816 ?_
  refine j_iadd C dL_law_817 ?_
  refine j_sld C hX hbl hbA hLL ⟨by omega, by omega⟩ dL_law_818 ?_
  refine j_aload_n C dL_law_819 rfl ?_
  refine j_iload_n C dL_law_820 rfl ?_
  refine j_iconst C dL_law_821 ?_
  refine j_iadd C dL_law_822 ?_
  refine j_sld C hX hbl hbA hLL ⟨by omega, by omega⟩ dL_law_823 ?_
  refine j_callL (jrunV (rest := []) (As := [.int (zI (xv xs (i + 1))), .int (zI (xv xs (i + 2))), .int (zI (xv xs (i + 3)))]) C (c_X2_point l G o maps hand sd sc near (xv xs (i + 1)) (xv xs (i + 2)) (xv xs (i + 3))) gL_law_X2_point rfl 3 (by decide +kernel) rfl rfl ⟨Nat.le_of_ble_eq_true rfl, Nat.le_of_ble_eq_true rfl⟩ hT.1 rfl ⟨hT, xv_R xs _, xv_R xs _, xv_R xs _, hV⟩ rfl rfl (Nat.le_of_ble_eq_true rfl) ⟨Nat.le_trans (show ca + 0 ≤ 1396 by omega) lw_rc, Nat.le_trans (show sl + 0 ≤ 130725 by omega) lw_rs⟩ dL_law_824) (fun r1 h1 => ?_)
  refine j_aload_n C dL_law_827 rfl ?_
  refine j_aload_n C dL_law_828 rfl ?_
  refine j_iload_n C dL_law_829 rfl ?_
  refine j_iconst C dL_law_830 ?_
  refine j_iadd C dL_law_831 ?_
  refine j_sld C hX hbl hbA hLL ⟨by omega, by omega⟩ dL_law_832 ?_
  refine j_aload_n C dL_law_833 rfl ?_
  refine j_iload_n C dL_law_834 rfl ?_
  refine j_iconst C dL_law_835 ?_
  refine j_iadd C dL_law_836 ?_
  refine j_sld C hX hbl hbA hLL ⟨by omega, by omega⟩ dL_law_837 ?_
  refine j_aload_n C dL_law_838 rfl ?_
  refine j_iload_n C dL_law_839 rfl ?_
  refine j_iconst C dL_law_840 ?_
  refine j_iadd C dL_law_841 ?_
  refine j_sld C hX hbl hbA hLL ⟨by omega, by omega⟩ dL_law_842 ?_
  obtain ⟨fsM, hOM⟩ := (hM).ob
  refine j_callmL (jrunV (rest := [.long (zL r1)]) (As := [.int (zI (xv xs (i + 1))), .int (zI (xv xs (i + 2))), .int (zI (xv xs (i + 3)))]) C (c_X3_point l G (o + 82) maps hand sd sc (xv xs (i + 1)) (xv xs (i + 2)) (xv xs (i + 3))) gL_law_X3_point rfl 3 (by decide +kernel) rfl rfl ⟨Nat.le_of_ble_eq_true rfl, Nat.le_of_ble_eq_true rfl⟩ hOM rfl ⟨hM, xv_R xs _, xv_R xs _, xv_R xs _, hV⟩ rfl rfl (Nat.le_of_ble_eq_true rfl) ⟨Nat.le_trans (show ca + 0 ≤ 1396 by omega) lw_rc, Nat.le_trans (show sl + 0 ≤ 130725 by omega) lw_rs⟩ dL_law_843) (fun q hq => by have := hq.1; show s.heap.size ≤ q; omega) (fun r2 H2 h2 hF2 => ?_)
  have er : r1 = r2 := (h1).trans (h2.1).symm
  rw [er]
  refine j_lcmp_same (tgt := 889) C dL_law_846 dL_law_847 (by decide) ?_
  exact kk _ _ _ _ _ _ _ _ (hS0.next Frm.rf hF2 hT h2.2 hV hH hl hsd)
set_option maxHeartbeats 4000000 in
theorem law_22 (l : Launch) {G : Gx} {p : Program} {e : Env} {s : State} {m : MethodId} {below : List Frame} {meth : Method} {c : Code} {b L o : Nat} {xs : Nat → Int32} (C : Cx G p s m #[Value.ref b] meth c code 4 RL wsL_law) (hX : va_X b L xs s s.heap) (hbl : b < s.heap.size) (hL : L ≤ 2560) (ho : s.heap.size = o) {maps : Int → List Q4} {hand : List Q4} {sd sc : Int} {near : Value} {ca sl : Nat} {H : Heap} (hS : lawS G o H maps hand sd sc near ca sl) {i : Int} (hi0 : 0 ≤ i) (hi1 : i + 5 ≤ L) (kk : ∀ (maps' : Int → List Q4) (hand' : List Q4) (sd' sc' : Int) (near' : Value) (ca' sl' : Nat) (H' : Heap), lawS G o H' maps' hand' sd' sc' near' ca' sl' → JJ p l e room_1 s m #[Value.ref b] below meth c (lw_Z below #[Value.ref b] s) (fun q : Nat => s.heap.size ≤ q) 4 H' ca' sl' 889 [(0, .ref b), (1, .ref o), (2, .ref (o + 82)), (3, .int (zI i))] []) : JJ p l e room_1 s m #[Value.ref b] below meth c (lw_Z below #[Value.ref b] s) (fun q : Nat => s.heap.size ≤ q) 4 H ca sl 852 [(0, .ref b), (1, .ref o), (2, .ref (o + 82)), (3, .int (zI i))] [] := by
  have hrm := hS.room
  have hbA : ¬ (fun q : Nat => s.heap.size ≤ q) b := by show ¬ s.heap.size ≤ b; omega
  have hLL : (L : Int) < 2147483648 := by omega
  have hS0 := hS
  obtain ⟨hV, hH, hl, hsd, hZ, hT, hM, hsz, hN⟩ := hS
  have hsR : iR sd := ⟨by omega, by omega⟩
  refine j_aload_n C dL_law_852 rfl ?_
  refine j_aload_n C dL_law_853 rfl ?_
  refine j_iload_n C dL_law_854 rfl ?_
  refine j_iconst C dL_law_855 ?_
  refine j_iadd C dL_law_856 ?_
  refine j_sld C hX hbl hbA hLL ⟨by omega, by omega⟩ dL_law_857 ?_
  refine j_callI (jrunV (rest := []) (As := [.int (zI (xv xs (i + 1)))]) C (c_X2_count l G o maps hand sd sc near (xv xs (i + 1))) gL_law_X2_count rfl 1 (by decide +kernel) rfl rfl ⟨Nat.le_of_ble_eq_true rfl, Nat.le_of_ble_eq_true rfl⟩ hT.1 rfl ⟨hT, xv_R xs _, hV⟩ rfl rfl (Nat.le_of_ble_eq_true rfl) ⟨Nat.le_trans (show ca + 0 ≤ 1396 by omega) lw_rc, Nat.le_trans (show sl + 0 ≤ 130725 by omega) lw_rs⟩ dL_law_858) (fun r1 h1 => ?_)
  refine j_aload_n C dL_law_861 rfl ?_
  refine j_aload_n C dL_law_862 rfl ?_
  refine j_iload_n C dL_law_863 rfl ?_
  refine j_iconst C dL_law_864 ?_
  refine j_iadd C dL_law_865 ?_
  refine j_sld C hX hbl hbA hLL ⟨by omega, by omega⟩ dL_law_866 ?_
  obtain ⟨fsM, hOM⟩ := (hM).ob
  refine j_callmI (jrunV (rest := [.int (zI r1)]) (As := [.int (zI (xv xs (i + 1)))]) C (c_X3_count l G (o + 82) maps hand sd sc (xv xs (i + 1))) gL_law_X3_count rfl 1 (by decide +kernel) rfl rfl ⟨Nat.le_of_ble_eq_true rfl, Nat.le_of_ble_eq_true rfl⟩ hOM rfl ⟨hM, xv_R xs _, hV, hl⟩ rfl rfl (Nat.le_of_ble_eq_true rfl) ⟨Nat.le_trans (show ca + 0 ≤ 1396 by omega) lw_rc, Nat.le_trans (show sl + 0 ≤ 130725 by omega) lw_rs⟩ dL_law_867) (fun q hq => by have := hq.1; show s.heap.size ≤ q; omega) (fun r2 H2 h2 hF2 => ?_)
  have er : r1 = r2 := (h1).trans (h2.1).symm
  rw [er]
  refine j_icmp_same (tgt := 889) C dL_law_870 (by decide) ?_
  exact kk _ _ _ _ _ _ _ _ (hS0.next Frm.rf hF2 hT h2.2 hV hH hl hsd)
set_option maxHeartbeats 4000000 in
theorem law_23 (l : Launch) {G : Gx} {p : Program} {e : Env} {s : State} {m : MethodId} {below : List Frame} {meth : Method} {c : Code} {b L o : Nat} {xs : Nat → Int32} (C : Cx G p s m #[Value.ref b] meth c code 4 RL wsL_law) (hX : va_X b L xs s s.heap) (hbl : b < s.heap.size) (hL : L ≤ 2560) (ho : s.heap.size = o) {maps : Int → List Q4} {hand : List Q4} {sd sc : Int} {near : Value} {ca sl : Nat} {H : Heap} (hS : lawS G o H maps hand sd sc near ca sl) {i : Int} (hi0 : 0 ≤ i) (hi1 : i + 5 ≤ L) (kk : ∀ (maps' : Int → List Q4) (hand' : List Q4) (sd' sc' : Int) (near' : Value) (ca' sl' : Nat) (H' : Heap), lawS G o H' maps' hand' sd' sc' near' ca' sl' → JJ p l e room_1 s m #[Value.ref b] below meth c (lw_Z below #[Value.ref b] s) (fun q : Nat => s.heap.size ≤ q) 4 H' ca' sl' 889 [(0, .ref b), (1, .ref o), (2, .ref (o + 82)), (3, .int (zI i))] []) : JJ p l e room_1 s m #[Value.ref b] below meth c (lw_Z below #[Value.ref b] s) (fun q : Nat => s.heap.size ≤ q) 4 H ca sl 875 [(0, .ref b), (1, .ref o), (2, .ref (o + 82)), (3, .int (zI i))] [] := by
  have hrm := hS.room
  have hbA : ¬ (fun q : Nat => s.heap.size ≤ q) b := by show ¬ s.heap.size ≤ b; omega
  have hLL : (L : Int) < 2147483648 := by omega
  have hS0 := hS
  obtain ⟨hV, hH, hl, hsd, hZ, hT, hM, hsz, hN⟩ := hS
  have hsR : iR sd := ⟨by omega, by omega⟩
  refine j_aload_n C dL_law_875 rfl ?_
  refine j_callL (jrunV (rest := []) (As := []) C (c_X2_digest l G o maps hand sd sc near ) gL_law_X2_digest rfl 0 (by decide +kernel) rfl rfl ⟨Nat.le_of_ble_eq_true rfl, Nat.le_of_ble_eq_true rfl⟩ hT.1 rfl ⟨hT, hV, hH, hsR⟩ rfl rfl (Nat.le_of_ble_eq_true rfl) ⟨Nat.le_trans (show ca + 0 ≤ 1396 by omega) lw_rc, Nat.le_trans (show sl + 0 ≤ 130725 by omega) lw_rs⟩ dL_law_876) (fun r1 h1 => ?_)
  refine j_aload_n C dL_law_879 rfl ?_
  obtain ⟨fsM, hOM⟩ := (hM).ob
  refine j_callmL (jrunV (rest := [.long (zL r1)]) (As := []) C (c_X3_digest l G (o + 82) maps hand sd sc ) gL_law_X3_digest rfl 0 (by decide +kernel) rfl rfl ⟨Nat.le_of_ble_eq_true rfl, Nat.le_of_ble_eq_true rfl⟩ hOM rfl ⟨hM, hV, hH, hl, hsR⟩ rfl rfl (Nat.le_of_ble_eq_true rfl) ⟨Nat.le_trans (show ca + 0 ≤ 1396 by omega) lw_rc, Nat.le_trans (show sl + 0 ≤ 130725 by omega) lw_rs⟩ dL_law_880) (fun q hq => by have := hq.1; show s.heap.size ≤ q; omega) (fun r2 H2 h2 hF2 => ?_)
  have er : r1 = r2 := (h1).trans (h2.1).symm
  rw [er]
  refine j_lcmp_same (tgt := 889) C dL_law_883 dL_law_884 (by decide) ?_
  exact kk _ _ _ _ _ _ _ _ (hS0.next Frm.rf hF2 hT h2.2 hV hH hl hsd)
