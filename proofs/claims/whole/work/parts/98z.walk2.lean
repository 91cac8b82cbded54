/-! THE LAW'S CASES, more -/
set_option maxHeartbeats 4000000 in
set_option maxRecDepth 100000 in
theorem w_street {p : Program} {l : Launch} {e : Env} {s : State} {m : MethodId} {args : Array Value} {below : List Frame} {meth : Method} {c : Code} {H : Heap} {locs : List Loc} {cells slots : Nat} {Q : State → Prop} {ls : Array Slot} {G : zG} {ad1 ad2 : zA} {σ τ : zS} {nd nr ns b L i : Nat} {xs : Nat → Int32} (S : CallFix p m c cL_law 7 s args lw_tbl RL) (hst : l.stackTraces = false) (hXs : va_X b L xs s s.heap) (hbl : b < s.heap.size) (hL : L ≤ 2560) (hK : zK G s) (hE : zE (zA0 s) s) (hAA : zAA G s) (hNC : zNC s) (hV : zLV G ad1 ad2 (zA0 s) H ((i : Nat) : Int) σ τ nd nr ns) (hS : va_S (zA0 s) s.heap H locs) (hi : 5 * i + 5 ≤ L) (hcl : cells + 8 ≤ 601024) (hsl : slots + 63 ≤ 7293034) (hl : zh ls 7 [(4, .int (zi ((5 * i : Nat) : Int))), (3, zr ad1 90 ((0 : Nat) : Int)), (2, zr ad2 30 ((0 : Nat) : Int)), (1, zr ad1 0 ((0 : Nat) : Int)), (0, .ref b)])
    (kk : ∀ (ad9 : zA) (v w : zS) (nd9 nr9 ns9 : Nat) (H9 : Heap) (locs9 : List Loc) (ls9 : Array Slot), zLV G ad9 ad2 (zA0 s) H9 (((i : Nat) : Int) + 1) v w nd9 nr9 ns9 → va_S (zA0 s) s.heap H9 locs9 → zh ls9 7 [(4, .int (zi ((5 * i : Nat) : Int))), (3, zr ad9 90 ((0 : Nat) : Int)), (2, zr ad2 30 ((0 : Nat) : Int)), (1, zr ad9 0 ((0 : Nat) : Int)), (0, .ref b)] → W p l e room_1 s m args below meth c H9 locs9 (cells + 8) (slots + 63) Q (F0 m 1413 ls9 [])) : W p l e room_1 s m args below meth c H locs cells slots Q (F0 m 136 ls []) := by
  have S0 := S
  obtain ⟨hx, hb, hml, hown, hts⟩ := S0
  obtain ⟨hW1, hW2, hd, hX, hO, hun, hM, hCP, hWF⟩ := hV
  have hi9 : ((i : Nat) : Int) ≤ 511 := by omega
  have hi0 : 0 ≤ ((i : Nat) : Int) := by omega
  have hB9 : 1000 * ((i : Nat) : Int) ≤ 1000000 := by omega
  have h0 := hX 0 0 rfl
  have g1 := hWF.1.1
  have g2 := hWF.1.2.1
  have g17 := hWF.1.2.2.2.2.1
  refine zz_aload_n hx hb hl 3 dL_law_136 rfl rfl ?_
  refine zl_rd (i := 5 * i) (j := 1) hx hb hXs hbl hL hS hl 4 0 rfl rfl (by omega) dL_law_137 dL_law_138 dL_law_140 dL_law_141 dL_law_142 ?_
  refine zl_rd (i := 5 * i) (j := 2) hx hb hXs hbl hL hS hl 4 0 rfl rfl (by omega) dL_law_143 dL_law_144 dL_law_146 dL_law_147 dL_law_148 ?_
  refine zl_rd (i := 5 * i) (j := 3) hx hb hXs hbl hL hS hl 4 0 rfl rfl (by omega) dL_law_149 dL_law_150 dL_law_152 dL_law_153 dL_law_154 ?_
  refine zz_aload_n hx hb hl 1 dL_law_155 rfl rfl ?_
  refine zl_callH (As := [zr ad1 0 ((0 : Nat) : Int), .int (zi (zsx xs (5 * i + 1))), .int (zi (zsx xs (5 * i + 2))), .int (zi (zsx xs (5 * i + 3))), zr ad1 90 ((0 : Nat) : Int)]) (rest := []) S (c_L_street l G ad1 (zcA ad1 H.size) H.size σ h0 hO (zsx xs (5 * i + 1)) (zsx xs (5 * i + 2)) (zsx xs (5 * i + 3)) (c_X6_street l hst G ad1 (zcA ad1 H.size) H.size σ nd nr ns hX _ _ τ hCP hWF hB9  (zsx xs (5 * i + 1)) (zsx xs (5 * i + 2)) (zsx xs (5 * i + 3)) (zsx_g _ _) (zsx_g _ _) (zsx_g _ _)) (fun E u h => h.2.elim (fun q => Or.inl q.1) (fun q => q.elim (fun q => Or.inr (Or.inl q.1)) (fun q => Or.inr (Or.inr q.1))))) (vx_cwSW 5 hts gk_L_street rfl rfl rfl (by decide +kernel) ⟨Nat.le_of_ble_eq_true rfl, Nat.le_of_ble_eq_true rfl⟩) hK hE hAA hNC hW1.toA (Nat.le_refl _) hS (zcA_sub hW1 hS (fun q h => h)) rfl hl.1.1 rfl (by decide) dL_law_156 ⟨by show cells + 5 ≤ 601024; omega, by show slots + 30 ≤ 7293034; omega⟩ (fun k v H1 locs1 h1 hW1a hz1 hk1 hS1 => ?_)
  refine zz_istore (lv' := [(5, .int (zi k)), (4, .int (zi ((5 * i : Nat) : Int))), (3, zr ad1 90 ((0 : Nat) : Int)), (2, zr ad2 30 ((0 : Nat) : Int)), (1, zr ad1 0 ((0 : Nat) : Int)), (0, .ref b)]) hx hb hl dL_law_159 (by decide) rfl (fun ls5 hl5 => ?_)
  have hW2a := hW2.other hd hk1
  have hW1b := hW1a.reA (fun κ j a ha => zcA_sub hW1 hS (fun q h => h) a (hW1a.1 κ j a ha).2)
  refine zz_aload_n hx hb hl5 3 dL_law_161 rfl rfl ?_
  refine zl_rd (i := 5 * i) (j := 1) hx hb hXs hbl hL hS1 hl5 5 1 rfl rfl (by omega) dL_law_162 dL_law_163 dL_law_165 dL_law_166 dL_law_167 ?_
  refine zl_rd (i := 5 * i) (j := 2) hx hb hXs hbl hL hS1 hl5 5 1 rfl rfl (by omega) dL_law_168 dL_law_169 dL_law_171 dL_law_172 dL_law_173 ?_
  refine zl_rd (i := 5 * i) (j := 3) hx hb hXs hbl hL hS1 hl5 5 1 rfl rfl (by omega) dL_law_174 dL_law_175 dL_law_177 dL_law_178 dL_law_179 ?_
  refine zl_callV (T := TX7) (N := 42) (κ := 30) (v := ((0 : Nat) : Int)) (As := [.int (zi (zsx xs (5 * i + 1))), .int (zi (zsx xs (5 * i + 2))), .int (zi (zsx xs (5 * i + 3)))]) (rest := []) S (c_X7_street l G ad2 (zcB ad2) H1.size τ hM ns g2.2.2 g1.2.2 hWF.1.2.2.2.2.2.1 (zsx xs (5 * i + 1)) (zsx xs (5 * i + 2)) (zsx xs (5 * i + 3)) (zsx_g _ _) (zsx_g _ _) (zsx_g _ _) ) (cwV 3 hts gk_X7_street rfl rfl rfl (by decide +kernel) ⟨Nat.le_of_ble_eq_true rfl, Nat.le_of_ble_eq_true rfl⟩) hK hW2a.toB (zlN (hM 30 rfl)) rfl rfl (Nat.le_refl _) hS1 (zcB_sub hW2a) rfl hl5.1.1 rfl (by decide) dL_law_180 ⟨by show cells + 5 ≤ 601024; omega, by show slots + 30 ≤ 7293034; omega⟩ (fun b9 w H2 locs2 h2 hW2b hz2 hk2 hS2 => ?_)
  refine zz_istore (lv' := [(6, .int (zi b9)), (5, .int (zi k)), (4, .int (zi ((5 * i : Nat) : Int))), (3, zr ad1 90 ((0 : Nat) : Int)), (2, zr ad2 30 ((0 : Nat) : Int)), (1, zr ad1 0 ((0 : Nat) : Int)), (0, .ref b)]) hx hb hl5 dL_law_183 (by decide) rfl (fun ls6 hl6 => ?_)
  have hW1c := hW1b.otherB hd hk2
  have hW2c := hW2b.reA (fun κ j a ha => (hW2.1 κ j a ha).2)
  obtain ⟨q1, q2, ns9, q3, q4⟩ := L_street (a := (zsx xs (5 * i + 1))) (b := (zsx xs (5 * i + 2))) (m9 := (zsx xs (5 * i + 3))) hCP hWF hi0 h1 h2
  exact zl_tail (P := 185) S hK hW1c hW2c hd hO hM hS2 hl6 rfl rfl rfl rfl q1 q2 (by omega) (by omega) dL_law_185 dL_law_186 dL_law_189 dL_law_191 dL_law_196 dL_law_198 dL_law_201 dL_law_202 dL_law_203 dL_law_204 dL_law_206 dL_law_207 dL_law_208 dL_law_213 (by decide) (fun H3 locs3 f1 f2 f3 => zw_widen (by omega) (by omega) (kk ad1 v w nd nr ns9 H3 locs3 ls6 ⟨f1, f2, hd, hX, hO, hun, hM, q3, q4⟩ f3 (zh_sub hl6 [2, 3, 4, 5, 6] rfl)))

set_option maxHeartbeats 4000000 in
set_option maxRecDepth 100000 in
theorem w_slow {p : Program} {l : Launch} {e : Env} {s : State} {m : MethodId} {args : Array Value} {below : List Frame} {meth : Method} {c : Code} {H : Heap} {locs : List Loc} {cells slots : Nat} {Q : State → Prop} {ls : Array Slot} {G : zG} {ad1 ad2 : zA} {σ τ : zS} {nd nr ns b L i : Nat} {xs : Nat → Int32} (S : CallFix p m c cL_law 7 s args lw_tbl RL) (hst : l.stackTraces = false) (hXs : va_X b L xs s s.heap) (hbl : b < s.heap.size) (hL : L ≤ 2560) (hK : zK G s) (hE : zE (zA0 s) s) (hAA : zAA G s) (hNC : zNC s) (hV : zLV G ad1 ad2 (zA0 s) H ((i : Nat) : Int) σ τ nd nr ns) (hS : va_S (zA0 s) s.heap H locs) (hi : 5 * i + 5 ≤ L) (hcl : cells + 8 ≤ 601024) (hsl : slots + 63 ≤ 7293034) (hl : zh ls 7 [(4, .int (zi ((5 * i : Nat) : Int))), (3, zr ad1 90 ((0 : Nat) : Int)), (2, zr ad2 30 ((0 : Nat) : Int)), (1, zr ad1 0 ((0 : Nat) : Int)), (0, .ref b)])
    (kk : ∀ (ad9 : zA) (v w : zS) (nd9 nr9 ns9 : Nat) (H9 : Heap) (locs9 : List Loc) (ls9 : Array Slot), zLV G ad9 ad2 (zA0 s) H9 (((i : Nat) : Int) + 1) v w nd9 nr9 ns9 → va_S (zA0 s) s.heap H9 locs9 → zh ls9 7 [(4, .int (zi ((5 * i : Nat) : Int))), (3, zr ad9 90 ((0 : Nat) : Int)), (2, zr ad2 30 ((0 : Nat) : Int)), (1, zr ad9 0 ((0 : Nat) : Int)), (0, .ref b)] → W p l e room_1 s m args below meth c H9 locs9 (cells + 8) (slots + 63) Q (F0 m 1413 ls9 [])) : W p l e room_1 s m args below meth c H locs cells slots Q (F0 m 216 ls []) := by
  have S0 := S
  obtain ⟨hx, hb, hml, hown, hts⟩ := S0
  obtain ⟨hW1, hW2, hd, hX, hO, hun, hM, hCP, hWF⟩ := hV
  have hi9 : ((i : Nat) : Int) ≤ 511 := by omega
  have hi0 : 0 ≤ ((i : Nat) : Int) := by omega
  have hB9 : 1000 * ((i : Nat) : Int) ≤ 1000000 := by omega
  have h0 := hX 0 0 rfl
  have g1 := hWF.1.1
  have g2 := hWF.1.2.1
  have g17 := hWF.1.2.2.2.2.1
  refine zz_aload_n hx hb hl 3 dL_law_216 rfl rfl ?_
  refine zl_rd (i := 5 * i) (j := 1) hx hb hXs hbl hL hS hl 4 0 rfl rfl (by omega) dL_law_217 dL_law_218 dL_law_220 dL_law_221 dL_law_222 ?_
  refine zl_rd (i := 5 * i) (j := 2) hx hb hXs hbl hL hS hl 4 0 rfl rfl (by omega) dL_law_223 dL_law_224 dL_law_226 dL_law_227 dL_law_228 ?_
  refine zz_aload_n hx hb hl 1 dL_law_229 rfl rfl ?_
  refine zl_callH (As := [zr ad1 0 ((0 : Nat) : Int), .int (zi (zsx xs (5 * i + 1))), .int (zi (zsx xs (5 * i + 2))), zr ad1 90 ((0 : Nat) : Int)]) (rest := []) S (c_L_slow l G ad1 (zcA ad1 H.size) H.size σ h0 hO (zsx xs (5 * i + 1)) (zsx xs (5 * i + 2)) (c_X6_slow l hst G ad1 (zcA ad1 H.size) H.size σ nd nr ns hX _ _ τ hCP hWF hB9  (zsx xs (5 * i + 1)) (zsx xs (5 * i + 2)) (zsx_g _ _) (zsx_g _ _)) (fun E u h => h.2.elim (fun q => Or.inl q.1) (fun q => Or.inr q.1))) (vx_cwSW 4 hts gk_L_slow rfl rfl rfl (by decide +kernel) ⟨Nat.le_of_ble_eq_true rfl, Nat.le_of_ble_eq_true rfl⟩) hK hE hAA hNC hW1.toA (Nat.le_refl _) hS (zcA_sub hW1 hS (fun q h => h)) rfl hl.1.1 rfl (by decide) dL_law_230 ⟨by show cells + 2 ≤ 601024; omega, by show slots + 12 ≤ 7293034; omega⟩ (fun k v H1 locs1 h1 hW1a hz1 hk1 hS1 => ?_)
  refine zz_istore (lv' := [(5, .int (zi k)), (4, .int (zi ((5 * i : Nat) : Int))), (3, zr ad1 90 ((0 : Nat) : Int)), (2, zr ad2 30 ((0 : Nat) : Int)), (1, zr ad1 0 ((0 : Nat) : Int)), (0, .ref b)]) hx hb hl dL_law_233 (by decide) rfl (fun ls5 hl5 => ?_)
  have hW2a := hW2.other hd hk1
  have hW1b := hW1a.reA (fun κ j a ha => zcA_sub hW1 hS (fun q h => h) a (hW1a.1 κ j a ha).2)
  refine zz_aload_n hx hb hl5 3 dL_law_235 rfl rfl ?_
  refine zl_rd (i := 5 * i) (j := 1) hx hb hXs hbl hL hS1 hl5 5 1 rfl rfl (by omega) dL_law_236 dL_law_237 dL_law_239 dL_law_240 dL_law_241 ?_
  refine zl_rd (i := 5 * i) (j := 2) hx hb hXs hbl hL hS1 hl5 5 1 rfl rfl (by omega) dL_law_242 dL_law_243 dL_law_245 dL_law_246 dL_law_247 ?_
  refine zl_callV (T := TX7) (N := 42) (κ := 30) (v := ((0 : Nat) : Int)) (As := [.int (zi (zsx xs (5 * i + 1))), .int (zi (zsx xs (5 * i + 2)))]) (rest := []) S (c_X7_slow l G ad2 (zcB ad2) H1.size τ hM ns g2.2.2 g1.2.2 hWF.1.2.2.2.2.2.1 (zsx xs (5 * i + 1)) (zsx xs (5 * i + 2)) (zsx_g _ _) (zsx_g _ _) ) (cwV 2 hts gk_X7_slow rfl rfl rfl (by decide +kernel) ⟨Nat.le_of_ble_eq_true rfl, Nat.le_of_ble_eq_true rfl⟩) hK hW2a.toB (zlN (hM 30 rfl)) rfl rfl (Nat.le_refl _) hS1 (zcB_sub hW2a) rfl hl5.1.1 rfl (by decide) dL_law_248 ⟨by show cells + 2 ≤ 601024; omega, by show slots + 12 ≤ 7293034; omega⟩ (fun b9 w H2 locs2 h2 hW2b hz2 hk2 hS2 => ?_)
  refine zz_istore (lv' := [(6, .int (zi b9)), (5, .int (zi k)), (4, .int (zi ((5 * i : Nat) : Int))), (3, zr ad1 90 ((0 : Nat) : Int)), (2, zr ad2 30 ((0 : Nat) : Int)), (1, zr ad1 0 ((0 : Nat) : Int)), (0, .ref b)]) hx hb hl5 dL_law_251 (by decide) rfl (fun ls6 hl6 => ?_)
  have hW1c := hW1b.otherB hd hk2
  have hW2c := hW2b.reA (fun κ j a ha => (hW2.1 κ j a ha).2)
  obtain ⟨q1, q2, ns9, q3, q4⟩ := L_slow (a := (zsx xs (5 * i + 1))) (m9 := (zsx xs (5 * i + 2))) hCP hWF hi0 h1 h2
  exact zl_tail (P := 253) S hK hW1c hW2c hd hO hM hS2 hl6 rfl rfl rfl rfl q1 q2 (by omega) (by omega) dL_law_253 dL_law_254 dL_law_257 dL_law_259 dL_law_264 dL_law_266 dL_law_269 dL_law_270 dL_law_271 dL_law_272 dL_law_274 dL_law_275 dL_law_276 dL_law_281 (by decide) (fun H3 locs3 f1 f2 f3 => zw_widen (by omega) (by omega) (kk ad1 v w nd nr ns9 H3 locs3 ls6 ⟨f1, f2, hd, hX, hO, hun, hM, q3, q4⟩ f3 (zh_sub hl6 [2, 3, 4, 5, 6] rfl)))

set_option maxHeartbeats 4000000 in
set_option maxRecDepth 100000 in
theorem w_wander {p : Program} {l : Launch} {e : Env} {s : State} {m : MethodId} {args : Array Value} {below : List Frame} {meth : Method} {c : Code} {H : Heap} {locs : List Loc} {cells slots : Nat} {Q : State → Prop} {ls : Array Slot} {G : zG} {ad1 ad2 : zA} {σ τ : zS} {nd nr ns b L i : Nat} {xs : Nat → Int32} (S : CallFix p m c cL_law 7 s args lw_tbl RL) (hst : l.stackTraces = false) (hXs : va_X b L xs s s.heap) (hbl : b < s.heap.size) (hL : L ≤ 2560) (hK : zK G s) (hE : zE (zA0 s) s) (hAA : zAA G s) (hNC : zNC s) (hV : zLV G ad1 ad2 (zA0 s) H ((i : Nat) : Int) σ τ nd nr ns) (hS : va_S (zA0 s) s.heap H locs) (hi : 5 * i + 5 ≤ L) (hcl : cells + 8 ≤ 601024) (hsl : slots + 63 ≤ 7293034) (hl : zh ls 7 [(4, .int (zi ((5 * i : Nat) : Int))), (3, zr ad1 90 ((0 : Nat) : Int)), (2, zr ad2 30 ((0 : Nat) : Int)), (1, zr ad1 0 ((0 : Nat) : Int)), (0, .ref b)])
    (kk : ∀ (ad9 : zA) (v w : zS) (nd9 nr9 ns9 : Nat) (H9 : Heap) (locs9 : List Loc) (ls9 : Array Slot), zLV G ad9 ad2 (zA0 s) H9 (((i : Nat) : Int) + 1) v w nd9 nr9 ns9 → va_S (zA0 s) s.heap H9 locs9 → zh ls9 7 [(4, .int (zi ((5 * i : Nat) : Int))), (3, zr ad9 90 ((0 : Nat) : Int)), (2, zr ad2 30 ((0 : Nat) : Int)), (1, zr ad9 0 ((0 : Nat) : Int)), (0, .ref b)] → W p l e room_1 s m args below meth c H9 locs9 (cells + 8) (slots + 63) Q (F0 m 1413 ls9 [])) : W p l e room_1 s m args below meth c H locs cells slots Q (F0 m 499 ls []) := by
  have S0 := S
  obtain ⟨hx, hb, hml, hown, hts⟩ := S0
  obtain ⟨hW1, hW2, hd, hX, hO, hun, hM, hCP, hWF⟩ := hV
  have hi9 : ((i : Nat) : Int) ≤ 511 := by omega
  have hi0 : 0 ≤ ((i : Nat) : Int) := by omega
  have hB9 : 1000 * ((i : Nat) : Int) ≤ 1000000 := by omega
  have h0 := hX 0 0 rfl
  have g1 := hWF.1.1
  have g2 := hWF.1.2.1
  have g17 := hWF.1.2.2.2.2.1
  refine zz_aload_n hx hb hl 3 dL_law_499 rfl rfl ?_
  refine zl_rd (i := 5 * i) (j := 1) hx hb hXs hbl hL hS hl 4 0 rfl rfl (by omega) dL_law_500 dL_law_501 dL_law_503 dL_law_504 dL_law_505 ?_
  refine zl_rd (i := 5 * i) (j := 2) hx hb hXs hbl hL hS hl 4 0 rfl rfl (by omega) dL_law_506 dL_law_507 dL_law_509 dL_law_510 dL_law_511 ?_
  refine zz_aload_n hx hb hl 1 dL_law_512 rfl rfl ?_
  refine zl_callH (As := [zr ad1 0 ((0 : Nat) : Int), .int (zi (zsx xs (5 * i + 1))), .int (zi (zsx xs (5 * i + 2))), zr ad1 90 ((0 : Nat) : Int)]) (rest := []) S (c_L_wander l G ad1 (zcA ad1 H.size) H.size σ h0 hO (zsx xs (5 * i + 1)) (zsx xs (5 * i + 2)) (c_X6_wander l hst G ad1 (zcA ad1 H.size) H.size σ nd nr ns hX _ _ τ hCP hWF hB9  (zsx xs (5 * i + 1)) (zsx xs (5 * i + 2)) (zsx_g _ _) (zsx_g _ _)) (fun E u h => h.2.elim (fun q => Or.inl q.1) (fun q => Or.inr q.1))) (vx_cwSW 4 hts gk_L_wander rfl rfl rfl (by decide +kernel) ⟨Nat.le_of_ble_eq_true rfl, Nat.le_of_ble_eq_true rfl⟩) hK hE hAA hNC hW1.toA (Nat.le_refl _) hS (zcA_sub hW1 hS (fun q h => h)) rfl hl.1.1 rfl (by decide) dL_law_513 ⟨by show cells + 3 ≤ 601024; omega, by show slots + 18 ≤ 7293034; omega⟩ (fun k v H1 locs1 h1 hW1a hz1 hk1 hS1 => ?_)
  refine zz_istore (lv' := [(5, .int (zi k)), (4, .int (zi ((5 * i : Nat) : Int))), (3, zr ad1 90 ((0 : Nat) : Int)), (2, zr ad2 30 ((0 : Nat) : Int)), (1, zr ad1 0 ((0 : Nat) : Int)), (0, .ref b)]) hx hb hl dL_law_516 (by decide) rfl (fun ls5 hl5 => ?_)
  have hW2a := hW2.other hd hk1
  have hW1b := hW1a.reA (fun κ j a ha => zcA_sub hW1 hS (fun q h => h) a (hW1a.1 κ j a ha).2)
  refine zz_aload_n hx hb hl5 3 dL_law_518 rfl rfl ?_
  refine zl_rd (i := 5 * i) (j := 1) hx hb hXs hbl hL hS1 hl5 5 1 rfl rfl (by omega) dL_law_519 dL_law_520 dL_law_522 dL_law_523 dL_law_524 ?_
  refine zl_rd (i := 5 * i) (j := 2) hx hb hXs hbl hL hS1 hl5 5 1 rfl rfl (by omega) dL_law_525 dL_law_526 dL_law_528 dL_law_529 dL_law_530 ?_
  refine zl_callV (T := TX7) (N := 42) (κ := 30) (v := ((0 : Nat) : Int)) (As := [.int (zi (zsx xs (5 * i + 1))), .int (zi (zsx xs (5 * i + 2)))]) (rest := []) S (c_X7_wander l G ad2 (zcB ad2) H1.size τ hM  (zsx xs (5 * i + 1)) (zsx xs (5 * i + 2)) (zsx_g _ _) (zsx_g _ _) ⟨by omega, by omega⟩ (fun d hd9 => by have z := hWF.2.1 d (by omega); have y9 := yDN_le τ nr; exact z.1.1) (fun a b ha hb => by have z := yWF_w hWF a b ha hb; exact ⟨z.1, z.2.1⟩) hWF.1.2.2.1 (fun d hd9 => by have z := hWF.2.1 d (by omega); have y9 := yDN_le τ nr; exact ⟨z.2.2.2.2.2.2.2.1.1, by have y := z.2.2.2.2.2.2.2.1.2; omega⟩) (fun d hd9 => by have z := hWF.2.1 d (by omega); have y9 := yDN_le τ nr; exact ⟨z.2.2.2.2.2.2.2.2.1.1, by have y := z.2.2.2.2.2.2.2.1.2; have y2 := z.2.2.2.2.2.2.2.2.1.2; omega⟩) ⟨g17.1, by omega⟩) (cwV 2 hts gk_X7_wander rfl rfl rfl (by decide +kernel) ⟨Nat.le_of_ble_eq_true rfl, Nat.le_of_ble_eq_true rfl⟩) hK hW2a.toB (zlN (hM 30 rfl)) rfl rfl (Nat.le_refl _) hS1 (zcB_sub hW2a) rfl hl5.1.1 rfl (by decide) dL_law_531 ⟨by show cells + 3 ≤ 601024; omega, by show slots + 18 ≤ 7293034; omega⟩ (fun b9 w H2 locs2 h2 hW2b hz2 hk2 hS2 => ?_)
  refine zz_istore (lv' := [(6, .int (zi b9)), (5, .int (zi k)), (4, .int (zi ((5 * i : Nat) : Int))), (3, zr ad1 90 ((0 : Nat) : Int)), (2, zr ad2 30 ((0 : Nat) : Int)), (1, zr ad1 0 ((0 : Nat) : Int)), (0, .ref b)]) hx hb hl5 dL_law_534 (by decide) rfl (fun ls6 hl6 => ?_)
  have hW1c := hW1b.otherB hd hk2
  have hW2c := hW2b.reA (fun κ j a ha => (hW2.1 κ j a ha).2)
  obtain ⟨q1, q2, ns9, q3, q4⟩ := L_wander (a := (zsx xs (5 * i + 1))) (b := (zsx xs (5 * i + 2))) hCP hWF hi0 h1 h2
  exact zl_tail (P := 536) S hK hW1c hW2c hd hO hM hS2 hl6 rfl rfl rfl rfl q1 q2 (by omega) (by omega) dL_law_536 dL_law_537 dL_law_540 dL_law_542 dL_law_547 dL_law_549 dL_law_552 dL_law_553 dL_law_554 dL_law_555 dL_law_557 dL_law_558 dL_law_559 dL_law_564 (by decide) (fun H3 locs3 f1 f2 f3 => zw_widen (by omega) (by omega) (kk ad1 v w nd nr ns9 H3 locs3 ls6 ⟨f1, f2, hd, hX, hO, hun, hM, q3, q4⟩ f3 (zh_sub hl6 [2, 3, 4, 5, 6] rfl)))

set_option maxHeartbeats 4000000 in
set_option maxRecDepth 100000 in
theorem w_cap {p : Program} {l : Launch} {e : Env} {s : State} {m : MethodId} {args : Array Value} {below : List Frame} {meth : Method} {c : Code} {H : Heap} {locs : List Loc} {cells slots : Nat} {Q : State → Prop} {ls : Array Slot} {G : zG} {ad1 ad2 : zA} {σ τ : zS} {nd nr ns b L i : Nat} {xs : Nat → Int32} (S : CallFix p m c cL_law 7 s args lw_tbl RL) (hst : l.stackTraces = false) (hXs : va_X b L xs s s.heap) (hbl : b < s.heap.size) (hL : L ≤ 2560) (hK : zK G s) (hE : zE (zA0 s) s) (hAA : zAA G s) (hNC : zNC s) (hV : zLV G ad1 ad2 (zA0 s) H ((i : Nat) : Int) σ τ nd nr ns) (hS : va_S (zA0 s) s.heap H locs) (hi : 5 * i + 5 ≤ L) (hcl : cells + 8 ≤ 601024) (hsl : slots + 63 ≤ 7293034) (hl : zh ls 7 [(4, .int (zi ((5 * i : Nat) : Int))), (3, zr ad1 90 ((0 : Nat) : Int)), (2, zr ad2 30 ((0 : Nat) : Int)), (1, zr ad1 0 ((0 : Nat) : Int)), (0, .ref b)])
    (kk : ∀ (ad9 : zA) (v w : zS) (nd9 nr9 ns9 : Nat) (H9 : Heap) (locs9 : List Loc) (ls9 : Array Slot), zLV G ad9 ad2 (zA0 s) H9 (((i : Nat) : Int) + 1) v w nd9 nr9 ns9 → va_S (zA0 s) s.heap H9 locs9 → zh ls9 7 [(4, .int (zi ((5 * i : Nat) : Int))), (3, zr ad9 90 ((0 : Nat) : Int)), (2, zr ad2 30 ((0 : Nat) : Int)), (1, zr ad9 0 ((0 : Nat) : Int)), (0, .ref b)] → W p l e room_1 s m args below meth c H9 locs9 (cells + 8) (slots + 63) Q (F0 m 1413 ls9 [])) : W p l e room_1 s m args below meth c H locs cells slots Q (F0 m 567 ls []) := by
  have S0 := S
  obtain ⟨hx, hb, hml, hown, hts⟩ := S0
  obtain ⟨hW1, hW2, hd, hX, hO, hun, hM, hCP, hWF⟩ := hV
  have hi9 : ((i : Nat) : Int) ≤ 511 := by omega
  have hi0 : 0 ≤ ((i : Nat) : Int) := by omega
  have hB9 : 1000 * ((i : Nat) : Int) ≤ 1000000 := by omega
  have h0 := hX 0 0 rfl
  have g1 := hWF.1.1
  have g2 := hWF.1.2.1
  have g17 := hWF.1.2.2.2.2.1
  refine zz_aload_n hx hb hl 3 dL_law_567 rfl rfl ?_
  refine zl_rd (i := 5 * i) (j := 1) hx hb hXs hbl hL hS hl 4 0 rfl rfl (by omega) dL_law_568 dL_law_569 dL_law_571 dL_law_572 dL_law_573 ?_
  refine zz_aload_n hx hb hl 1 dL_law_574 rfl rfl ?_
  refine zl_callH (As := [zr ad1 0 ((0 : Nat) : Int), .int (zi (zsx xs (5 * i + 1))), zr ad1 90 ((0 : Nat) : Int)]) (rest := []) S (c_L_cap l G ad1 (zcA ad1 H.size) H.size σ h0 hO (zsx xs (5 * i + 1)) (c_X6_cap l hst G ad1 (zcA ad1 H.size) H.size σ nd nr ns hX _ _ τ hCP hWF hB9  (zsx xs (5 * i + 1)) (zsx_g _ _)) (fun E u h => h.2.1)) (vx_cwSW 3 hts gk_L_cap rfl rfl rfl (by decide +kernel) ⟨Nat.le_of_ble_eq_true rfl, Nat.le_of_ble_eq_true rfl⟩) hK hE hAA hNC hW1.toA (Nat.le_refl _) hS (zcA_sub hW1 hS (fun q h => h)) rfl hl.1.1 rfl (by decide) dL_law_575 ⟨by show cells + 1 ≤ 601024; omega, by show slots + 6 ≤ 7293034; omega⟩ (fun k v H1 locs1 h1 hW1a hz1 hk1 hS1 => ?_)
  refine zz_istore (lv' := [(5, .int (zi k)), (4, .int (zi ((5 * i : Nat) : Int))), (3, zr ad1 90 ((0 : Nat) : Int)), (2, zr ad2 30 ((0 : Nat) : Int)), (1, zr ad1 0 ((0 : Nat) : Int)), (0, .ref b)]) hx hb hl dL_law_578 (by decide) rfl (fun ls5 hl5 => ?_)
  have hW2a := hW2.other hd hk1
  have hW1b := hW1a.reA (fun κ j a ha => zcA_sub hW1 hS (fun q h => h) a (hW1a.1 κ j a ha).2)
  refine zz_aload_n hx hb hl5 3 dL_law_580 rfl rfl ?_
  refine zl_rd (i := 5 * i) (j := 1) hx hb hXs hbl hL hS1 hl5 5 1 rfl rfl (by omega) dL_law_581 dL_law_582 dL_law_584 dL_law_585 dL_law_586 ?_
  refine zl_callV (T := TX7) (N := 42) (κ := 30) (v := ((0 : Nat) : Int)) (As := [.int (zi (zsx xs (5 * i + 1)))]) (rest := []) S (c_X7_cap l G ad2 (zcB ad2) H1.size τ hM  (zsx xs (5 * i + 1)) (zsx_g _ _) ) (cwV 1 hts gk_X7_cap rfl rfl rfl (by decide +kernel) ⟨Nat.le_of_ble_eq_true rfl, Nat.le_of_ble_eq_true rfl⟩) hK hW2a.toB (zlN (hM 30 rfl)) rfl rfl (Nat.le_refl _) hS1 (zcB_sub hW2a) rfl hl5.1.1 rfl (by decide) dL_law_587 ⟨by show cells + 1 ≤ 601024; omega, by show slots + 6 ≤ 7293034; omega⟩ (fun b9 w H2 locs2 h2 hW2b hz2 hk2 hS2 => ?_)
  refine zz_istore (lv' := [(6, .int (zi b9)), (5, .int (zi k)), (4, .int (zi ((5 * i : Nat) : Int))), (3, zr ad1 90 ((0 : Nat) : Int)), (2, zr ad2 30 ((0 : Nat) : Int)), (1, zr ad1 0 ((0 : Nat) : Int)), (0, .ref b)]) hx hb hl5 dL_law_590 (by decide) rfl (fun ls6 hl6 => ?_)
  have hW1c := hW1b.otherB hd hk2
  have hW2c := hW2b.reA (fun κ j a ha => (hW2.1 κ j a ha).2)
  obtain ⟨q1, q2, ns9, q3, q4⟩ := L_cap (a := (zsx xs (5 * i + 1))) hCP hWF hi0 h1 h2
  exact zl_tail (P := 592) S hK hW1c hW2c hd hO hM hS2 hl6 rfl rfl rfl rfl q1 q2 (by omega) (by omega) dL_law_592 dL_law_593 dL_law_596 dL_law_598 dL_law_603 dL_law_605 dL_law_608 dL_law_609 dL_law_610 dL_law_611 dL_law_613 dL_law_614 dL_law_615 dL_law_620 (by decide) (fun H3 locs3 f1 f2 f3 => zw_widen (by omega) (by omega) (kk ad1 v w nd nr ns9 H3 locs3 ls6 ⟨f1, f2, hd, hX, hO, hun, hM, q3, q4⟩ f3 (zh_sub hl6 [2, 3, 4, 5, 6] rfl)))

set_option maxHeartbeats 4000000 in
set_option maxRecDepth 100000 in
theorem w_height {p : Program} {l : Launch} {e : Env} {s : State} {m : MethodId} {args : Array Value} {below : List Frame} {meth : Method} {c : Code} {H : Heap} {locs : List Loc} {cells slots : Nat} {Q : State → Prop} {ls : Array Slot} {G : zG} {ad1 ad2 : zA} {σ τ : zS} {nd nr ns b L i : Nat} {xs : Nat → Int32} (S : CallFix p m c cL_law 7 s args lw_tbl RL) (hst : l.stackTraces = false) (hXs : va_X b L xs s s.heap) (hbl : b < s.heap.size) (hL : L ≤ 2560) (hK : zK G s) (hE : zE (zA0 s) s) (hAA : zAA G s) (hNC : zNC s) (hV : zLV G ad1 ad2 (zA0 s) H ((i : Nat) : Int) σ τ nd nr ns) (hS : va_S (zA0 s) s.heap H locs) (hi : 5 * i + 5 ≤ L) (hcl : cells + 8 ≤ 601024) (hsl : slots + 63 ≤ 7293034) (hl : zh ls 7 [(4, .int (zi ((5 * i : Nat) : Int))), (3, zr ad1 90 ((0 : Nat) : Int)), (2, zr ad2 30 ((0 : Nat) : Int)), (1, zr ad1 0 ((0 : Nat) : Int)), (0, .ref b)])
    (kk : ∀ (ad9 : zA) (v w : zS) (nd9 nr9 ns9 : Nat) (H9 : Heap) (locs9 : List Loc) (ls9 : Array Slot), zLV G ad9 ad2 (zA0 s) H9 (((i : Nat) : Int) + 1) v w nd9 nr9 ns9 → va_S (zA0 s) s.heap H9 locs9 → zh ls9 7 [(4, .int (zi ((5 * i : Nat) : Int))), (3, zr ad9 90 ((0 : Nat) : Int)), (2, zr ad2 30 ((0 : Nat) : Int)), (1, zr ad9 0 ((0 : Nat) : Int)), (0, .ref b)] → W p l e room_1 s m args below meth c H9 locs9 (cells + 8) (slots + 63) Q (F0 m 1413 ls9 [])) : W p l e room_1 s m args below meth c H locs cells slots Q (F0 m 623 ls []) := by
  have S0 := S
  obtain ⟨hx, hb, hml, hown, hts⟩ := S0
  obtain ⟨hW1, hW2, hd, hX, hO, hun, hM, hCP, hWF⟩ := hV
  have hi9 : ((i : Nat) : Int) ≤ 511 := by omega
  have hi0 : 0 ≤ ((i : Nat) : Int) := by omega
  have hB9 : 1000 * ((i : Nat) : Int) ≤ 1000000 := by omega
  have h0 := hX 0 0 rfl
  have g1 := hWF.1.1
  have g2 := hWF.1.2.1
  have g17 := hWF.1.2.2.2.2.1
  refine zz_aload_n hx hb hl 3 dL_law_623 rfl rfl ?_
  refine zl_rd (i := 5 * i) (j := 1) hx hb hXs hbl hL hS hl 4 0 rfl rfl (by omega) dL_law_624 dL_law_625 dL_law_627 dL_law_628 dL_law_629 ?_
  refine zz_aload_n hx hb hl 1 dL_law_630 rfl rfl ?_
  refine zl_callH (As := [zr ad1 0 ((0 : Nat) : Int), .int (zi (zsx xs (5 * i + 1))), zr ad1 90 ((0 : Nat) : Int)]) (rest := []) S (c_L_height l G ad1 (zcA ad1 H.size) H.size σ h0 hO (zsx xs (5 * i + 1)) (c_X6_height l hst G ad1 (zcA ad1 H.size) H.size σ nd nr ns hX _ _ τ hCP hWF hB9  (zsx xs (5 * i + 1)) (zsx_g _ _)) (fun E u h => h.2.1)) (vx_cwSW 3 hts gk_L_height rfl rfl rfl (by decide +kernel) ⟨Nat.le_of_ble_eq_true rfl, Nat.le_of_ble_eq_true rfl⟩) hK hE hAA hNC hW1.toA (Nat.le_refl _) hS (zcA_sub hW1 hS (fun q h => h)) rfl hl.1.1 rfl (by decide) dL_law_631 ⟨by show cells + 1 ≤ 601024; omega, by show slots + 6 ≤ 7293034; omega⟩ (fun k v H1 locs1 h1 hW1a hz1 hk1 hS1 => ?_)
  refine zz_istore (lv' := [(5, .int (zi k)), (4, .int (zi ((5 * i : Nat) : Int))), (3, zr ad1 90 ((0 : Nat) : Int)), (2, zr ad2 30 ((0 : Nat) : Int)), (1, zr ad1 0 ((0 : Nat) : Int)), (0, .ref b)]) hx hb hl dL_law_634 (by decide) rfl (fun ls5 hl5 => ?_)
  have hW2a := hW2.other hd hk1
  have hW1b := hW1a.reA (fun κ j a ha => zcA_sub hW1 hS (fun q h => h) a (hW1a.1 κ j a ha).2)
  refine zz_aload_n hx hb hl5 3 dL_law_636 rfl rfl ?_
  refine zl_rd (i := 5 * i) (j := 1) hx hb hXs hbl hL hS1 hl5 5 1 rfl rfl (by omega) dL_law_637 dL_law_638 dL_law_640 dL_law_641 dL_law_642 ?_
  refine zl_callV (T := TX7) (N := 42) (κ := 30) (v := ((0 : Nat) : Int)) (As := [.int (zi (zsx xs (5 * i + 1)))]) (rest := []) S (c_X7_height l G ad2 (zcB ad2) H1.size τ hM nd nr g1.1 g1.2.1 g2.1 g2.2.1 (fun i hi => (hWF.2.2.1 i hi).1.1) (fun i hi => (hWF.2.1 i hi).1.1.1) (zsx xs (5 * i + 1)) (zsx_g _ _) ) (cwV 1 hts gk_X7_height rfl rfl rfl (by decide +kernel) ⟨Nat.le_of_ble_eq_true rfl, Nat.le_of_ble_eq_true rfl⟩) hK hW2a.toB (zlN (hM 30 rfl)) rfl rfl (Nat.le_refl _) hS1 (zcB_sub hW2a) rfl hl5.1.1 rfl (by decide) dL_law_643 ⟨by show cells + 1 ≤ 601024; omega, by show slots + 6 ≤ 7293034; omega⟩ (fun b9 w H2 locs2 h2 hW2b hz2 hk2 hS2 => ?_)
  refine zz_istore (lv' := [(6, .int (zi b9)), (5, .int (zi k)), (4, .int (zi ((5 * i : Nat) : Int))), (3, zr ad1 90 ((0 : Nat) : Int)), (2, zr ad2 30 ((0 : Nat) : Int)), (1, zr ad1 0 ((0 : Nat) : Int)), (0, .ref b)]) hx hb hl5 dL_law_646 (by decide) rfl (fun ls6 hl6 => ?_)
  have hW1c := hW1b.otherB hd hk2
  have hW2c := hW2b.reA (fun κ j a ha => (hW2.1 κ j a ha).2)
  obtain ⟨q1, q2, ns9, q3, q4⟩ := L_height (a := (zsx xs (5 * i + 1))) hCP hWF hi0 h1 h2
  exact zl_tail (P := 648) S hK hW1c hW2c hd hO hM hS2 hl6 rfl rfl rfl rfl q1 q2 (by omega) (by omega) dL_law_648 dL_law_649 dL_law_652 dL_law_654 dL_law_659 dL_law_661 dL_law_664 dL_law_665 dL_law_666 dL_law_667 dL_law_669 dL_law_670 dL_law_671 dL_law_676 (by decide) (fun H3 locs3 f1 f2 f3 => zw_widen (by omega) (by omega) (kk ad1 v w nd nr ns9 H3 locs3 ls6 ⟨f1, f2, hd, hX, hO, hun, hM, q3, q4⟩ f3 (zh_sub hl6 [2, 3, 4, 5, 6] rfl)))

set_option maxHeartbeats 4000000 in
set_option maxRecDepth 100000 in
theorem w_cancel {p : Program} {l : Launch} {e : Env} {s : State} {m : MethodId} {args : Array Value} {below : List Frame} {meth : Method} {c : Code} {H : Heap} {locs : List Loc} {cells slots : Nat} {Q : State → Prop} {ls : Array Slot} {G : zG} {ad1 ad2 : zA} {σ τ : zS} {nd nr ns b L i : Nat} {xs : Nat → Int32} (S : CallFix p m c cL_law 7 s args lw_tbl RL) (hst : l.stackTraces = false) (hXs : va_X b L xs s s.heap) (hbl : b < s.heap.size) (hL : L ≤ 2560) (hK : zK G s) (hE : zE (zA0 s) s) (hAA : zAA G s) (hNC : zNC s) (hV : zLV G ad1 ad2 (zA0 s) H ((i : Nat) : Int) σ τ nd nr ns) (hS : va_S (zA0 s) s.heap H locs) (hi : 5 * i + 5 ≤ L) (hcl : cells + 8 ≤ 601024) (hsl : slots + 63 ≤ 7293034) (hl : zh ls 7 [(4, .int (zi ((5 * i : Nat) : Int))), (3, zr ad1 90 ((0 : Nat) : Int)), (2, zr ad2 30 ((0 : Nat) : Int)), (1, zr ad1 0 ((0 : Nat) : Int)), (0, .ref b)])
    (kk : ∀ (ad9 : zA) (v w : zS) (nd9 nr9 ns9 : Nat) (H9 : Heap) (locs9 : List Loc) (ls9 : Array Slot), zLV G ad9 ad2 (zA0 s) H9 (((i : Nat) : Int) + 1) v w nd9 nr9 ns9 → va_S (zA0 s) s.heap H9 locs9 → zh ls9 7 [(4, .int (zi ((5 * i : Nat) : Int))), (3, zr ad9 90 ((0 : Nat) : Int)), (2, zr ad2 30 ((0 : Nat) : Int)), (1, zr ad9 0 ((0 : Nat) : Int)), (0, .ref b)] → W p l e room_1 s m args below meth c H9 locs9 (cells + 8) (slots + 63) Q (F0 m 1413 ls9 [])) : W p l e room_1 s m args below meth c H locs cells slots Q (F0 m 787 ls []) := by
  have S0 := S
  obtain ⟨hx, hb, hml, hown, hts⟩ := S0
  obtain ⟨hW1, hW2, hd, hX, hO, hun, hM, hCP, hWF⟩ := hV
  have hi9 : ((i : Nat) : Int) ≤ 511 := by omega
  have hi0 : 0 ≤ ((i : Nat) : Int) := by omega
  have hB9 : 1000 * ((i : Nat) : Int) ≤ 1000000 := by omega
  have h0 := hX 0 0 rfl
  have g1 := hWF.1.1
  have g2 := hWF.1.2.1
  have g17 := hWF.1.2.2.2.2.1
  refine zz_aload_n hx hb hl 3 dL_law_787 rfl rfl ?_
  refine zl_rd (i := 5 * i) (j := 1) hx hb hXs hbl hL hS hl 4 0 rfl rfl (by omega) dL_law_788 dL_law_789 dL_law_791 dL_law_792 dL_law_793 ?_
  refine zz_aload_n hx hb hl 1 dL_law_794 rfl rfl ?_
  refine zl_callH (As := [zr ad1 0 ((0 : Nat) : Int), .int (zi (zsx xs (5 * i + 1))), zr ad1 90 ((0 : Nat) : Int)]) (rest := []) S (c_L_cancel l G ad1 (zcA ad1 H.size) H.size σ h0 hO (zsx xs (5 * i + 1)) (c_X6_cancel l hst G ad1 (zcA ad1 H.size) H.size σ nd nr ns hX _ _ τ hCP hWF hB9  (zsx xs (5 * i + 1)) (zsx_g _ _)) (fun E u h => h.2.elim (fun q => Or.inl q.1) (fun q => Or.inr q.1))) (vx_cwSW 3 hts gk_L_cancel rfl rfl rfl (by decide +kernel) ⟨Nat.le_of_ble_eq_true rfl, Nat.le_of_ble_eq_true rfl⟩) hK hE hAA hNC hW1.toA (Nat.le_refl _) hS (zcA_sub hW1 hS (fun q h => h)) rfl hl.1.1 rfl (by decide) dL_law_795 ⟨by show cells + 2 ≤ 601024; omega, by show slots + 12 ≤ 7293034; omega⟩ (fun k v H1 locs1 h1 hW1a hz1 hk1 hS1 => ?_)
  refine zz_istore (lv' := [(5, .int (zi k)), (4, .int (zi ((5 * i : Nat) : Int))), (3, zr ad1 90 ((0 : Nat) : Int)), (2, zr ad2 30 ((0 : Nat) : Int)), (1, zr ad1 0 ((0 : Nat) : Int)), (0, .ref b)]) hx hb hl dL_law_798 (by decide) rfl (fun ls5 hl5 => ?_)
  have hW2a := hW2.other hd hk1
  have hW1b := hW1a.reA (fun κ j a ha => zcA_sub hW1 hS (fun q h => h) a (hW1a.1 κ j a ha).2)
  refine zz_aload_n hx hb hl5 3 dL_law_800 rfl rfl ?_
  refine zl_rd (i := 5 * i) (j := 1) hx hb hXs hbl hL hS1 hl5 5 1 rfl rfl (by omega) dL_law_801 dL_law_802 dL_law_804 dL_law_805 dL_law_806 ?_
  refine zl_callV (T := TX7) (N := 42) (κ := 30) (v := ((0 : Nat) : Int)) (As := [.int (zi (zsx xs (5 * i + 1)))]) (rest := []) S (c_X7_cancel l G ad2 (zcB ad2) H1.size τ hM nd nr ns _ _ hWF hB9 (zsx xs (5 * i + 1)) (zsx_g _ _) ) (cwV 1 hts gk_X7_cancel rfl rfl rfl (by decide +kernel) ⟨Nat.le_of_ble_eq_true rfl, Nat.le_of_ble_eq_true rfl⟩) hK hW2a.toB (zlN (hM 30 rfl)) rfl rfl (Nat.le_refl _) hS1 (zcB_sub hW2a) rfl hl5.1.1 rfl (by decide) dL_law_807 ⟨by show cells + 2 ≤ 601024; omega, by show slots + 12 ≤ 7293034; omega⟩ (fun b9 w H2 locs2 h2 hW2b hz2 hk2 hS2 => ?_)
  refine zz_istore (lv' := [(6, .int (zi b9)), (5, .int (zi k)), (4, .int (zi ((5 * i : Nat) : Int))), (3, zr ad1 90 ((0 : Nat) : Int)), (2, zr ad2 30 ((0 : Nat) : Int)), (1, zr ad1 0 ((0 : Nat) : Int)), (0, .ref b)]) hx hb hl5 dL_law_810 (by decide) rfl (fun ls6 hl6 => ?_)
  have hW1c := hW1b.otherB hd hk2
  have hW2c := hW2b.reA (fun κ j a ha => (hW2.1 κ j a ha).2)
  obtain ⟨q1, q2, ns9, q3, q4⟩ := L_cancel (a := (zsx xs (5 * i + 1))) hCP hWF hi0 h1 h2
  exact zl_tail (P := 812) S hK hW1c hW2c hd hO hM hS2 hl6 rfl rfl rfl rfl q1 q2 (by omega) (by omega) dL_law_812 dL_law_813 dL_law_816 dL_law_818 dL_law_823 dL_law_825 dL_law_828 dL_law_829 dL_law_830 dL_law_831 dL_law_833 dL_law_834 dL_law_835 dL_law_840 (by decide) (fun H3 locs3 f1 f2 f3 => zw_widen (by omega) (by omega) (kk ad1 v w nd nr ns9 H3 locs3 ls6 ⟨f1, f2, hd, hX, hO, hun, hM, q3, q4⟩ f3 (zh_sub hl6 [2, 3, 4, 5, 6] rfl)))

set_option maxHeartbeats 4000000 in
set_option maxRecDepth 100000 in
theorem w_rate {p : Program} {l : Launch} {e : Env} {s : State} {m : MethodId} {args : Array Value} {below : List Frame} {meth : Method} {c : Code} {H : Heap} {locs : List Loc} {cells slots : Nat} {Q : State → Prop} {ls : Array Slot} {G : zG} {ad1 ad2 : zA} {σ τ : zS} {nd nr ns b L i : Nat} {xs : Nat → Int32} (S : CallFix p m c cL_law 7 s args lw_tbl RL) (hst : l.stackTraces = false) (hXs : va_X b L xs s s.heap) (hbl : b < s.heap.size) (hL : L ≤ 2560) (hK : zK G s) (hE : zE (zA0 s) s) (hAA : zAA G s) (hNC : zNC s) (hV : zLV G ad1 ad2 (zA0 s) H ((i : Nat) : Int) σ τ nd nr ns) (hS : va_S (zA0 s) s.heap H locs) (hi : 5 * i + 5 ≤ L) (hcl : cells + 8 ≤ 601024) (hsl : slots + 63 ≤ 7293034) (hl : zh ls 7 [(4, .int (zi ((5 * i : Nat) : Int))), (3, zr ad1 90 ((0 : Nat) : Int)), (2, zr ad2 30 ((0 : Nat) : Int)), (1, zr ad1 0 ((0 : Nat) : Int)), (0, .ref b)])
    (kk : ∀ (ad9 : zA) (v w : zS) (nd9 nr9 ns9 : Nat) (H9 : Heap) (locs9 : List Loc) (ls9 : Array Slot), zLV G ad9 ad2 (zA0 s) H9 (((i : Nat) : Int) + 1) v w nd9 nr9 ns9 → va_S (zA0 s) s.heap H9 locs9 → zh ls9 7 [(4, .int (zi ((5 * i : Nat) : Int))), (3, zr ad9 90 ((0 : Nat) : Int)), (2, zr ad2 30 ((0 : Nat) : Int)), (1, zr ad9 0 ((0 : Nat) : Int)), (0, .ref b)] → W p l e room_1 s m args below meth c H9 locs9 (cells + 8) (slots + 63) Q (F0 m 1413 ls9 [])) : W p l e room_1 s m args below meth c H locs cells slots Q (F0 m 843 ls []) := by
  have S0 := S
  obtain ⟨hx, hb, hml, hown, hts⟩ := S0
  obtain ⟨hW1, hW2, hd, hX, hO, hun, hM, hCP, hWF⟩ := hV
  have hi9 : ((i : Nat) : Int) ≤ 511 := by omega
  have hi0 : 0 ≤ ((i : Nat) : Int) := by omega
  have hB9 : 1000 * ((i : Nat) : Int) ≤ 1000000 := by omega
  have h0 := hX 0 0 rfl
  have g1 := hWF.1.1
  have g2 := hWF.1.2.1
  have g17 := hWF.1.2.2.2.2.1
  refine zz_aload_n hx hb hl 3 dL_law_843 rfl rfl ?_
  refine zl_rd (i := 5 * i) (j := 1) hx hb hXs hbl hL hS hl 4 0 rfl rfl (by omega) dL_law_844 dL_law_845 dL_law_847 dL_law_848 dL_law_849 ?_
  refine zl_rd (i := 5 * i) (j := 2) hx hb hXs hbl hL hS hl 4 0 rfl rfl (by omega) dL_law_850 dL_law_851 dL_law_853 dL_law_854 dL_law_855 ?_
  refine zz_aload_n hx hb hl 1 dL_law_856 rfl rfl ?_
  refine zl_callH (As := [zr ad1 0 ((0 : Nat) : Int), .int (zi (zsx xs (5 * i + 1))), .int (zi (zsx xs (5 * i + 2))), zr ad1 90 ((0 : Nat) : Int)]) (rest := []) S (c_L_rate l G ad1 (zcA ad1 H.size) H.size σ h0 hO (zsx xs (5 * i + 1)) (zsx xs (5 * i + 2)) (c_X6_rate l hst G ad1 (zcA ad1 H.size) H.size σ nd nr ns hX _ _ τ hCP hWF hB9 (by omega) (zsx xs (5 * i + 1)) (zsx xs (5 * i + 2)) (zsx_g _ _) (zsx_g _ _)) (fun E u h => h.2.elim (fun q => Or.inl q.1) (fun q => q.elim (fun q => Or.inr (Or.inl q.1)) (fun q => Or.inr (Or.inr q.1))))) (vx_cwSW 4 hts gk_L_rate rfl rfl rfl (by decide +kernel) ⟨Nat.le_of_ble_eq_true rfl, Nat.le_of_ble_eq_true rfl⟩) hK hE hAA hNC hW1.toA (Nat.le_refl _) hS (zcA_sub hW1 hS (fun q h => h)) rfl hl.1.1 rfl (by decide) dL_law_857 ⟨by show cells + 3 ≤ 601024; omega, by show slots + 18 ≤ 7293034; omega⟩ (fun k v H1 locs1 h1 hW1a hz1 hk1 hS1 => ?_)
  refine zz_istore (lv' := [(5, .int (zi k)), (4, .int (zi ((5 * i : Nat) : Int))), (3, zr ad1 90 ((0 : Nat) : Int)), (2, zr ad2 30 ((0 : Nat) : Int)), (1, zr ad1 0 ((0 : Nat) : Int)), (0, .ref b)]) hx hb hl dL_law_860 (by decide) rfl (fun ls5 hl5 => ?_)
  have hW2a := hW2.other hd hk1
  have hW1b := hW1a.reA (fun κ j a ha => zcA_sub hW1 hS (fun q h => h) a (hW1a.1 κ j a ha).2)
  refine zz_aload_n hx hb hl5 3 dL_law_862 rfl rfl ?_
  refine zl_rd (i := 5 * i) (j := 1) hx hb hXs hbl hL hS1 hl5 5 1 rfl rfl (by omega) dL_law_863 dL_law_864 dL_law_866 dL_law_867 dL_law_868 ?_
  refine zl_rd (i := 5 * i) (j := 2) hx hb hXs hbl hL hS1 hl5 5 1 rfl rfl (by omega) dL_law_869 dL_law_870 dL_law_872 dL_law_873 dL_law_874 ?_
  refine zl_callV (T := TX7) (N := 42) (κ := 30) (v := ((0 : Nat) : Int)) (As := [.int (zi (zsx xs (5 * i + 1))), .int (zi (zsx xs (5 * i + 2)))]) (rest := []) S (c_X7_rate l G ad2 (zcB ad2) H1.size τ hM nd nr ns _ _ hWF hB9 (by omega) (zsx xs (5 * i + 1)) (zsx xs (5 * i + 2)) (zsx_g _ _) (zsx_g _ _) ) (cwV 2 hts gk_X7_rate rfl rfl rfl (by decide +kernel) ⟨Nat.le_of_ble_eq_true rfl, Nat.le_of_ble_eq_true rfl⟩) hK hW2a.toB (zlN (hM 30 rfl)) rfl rfl (Nat.le_refl _) hS1 (zcB_sub hW2a) rfl hl5.1.1 rfl (by decide) dL_law_875 ⟨by show cells + 3 ≤ 601024; omega, by show slots + 18 ≤ 7293034; omega⟩ (fun b9 w H2 locs2 h2 hW2b hz2 hk2 hS2 => ?_)
  refine zz_istore (lv' := [(6, .int (zi b9)), (5, .int (zi k)), (4, .int (zi ((5 * i : Nat) : Int))), (3, zr ad1 90 ((0 : Nat) : Int)), (2, zr ad2 30 ((0 : Nat) : Int)), (1, zr ad1 0 ((0 : Nat) : Int)), (0, .ref b)]) hx hb hl5 dL_law_878 (by decide) rfl (fun ls6 hl6 => ?_)
  have hW1c := hW1b.otherB hd hk2
  have hW2c := hW2b.reA (fun κ j a ha => (hW2.1 κ j a ha).2)
  obtain ⟨q1, q2, ns9, q3, q4⟩ := L_rate (a := (zsx xs (5 * i + 1))) (b := (zsx xs (5 * i + 2))) hCP hWF hi0 h1 h2
  exact zl_tail (P := 880) S hK hW1c hW2c hd hO hM hS2 hl6 rfl rfl rfl rfl q1 q2 (by omega) (by omega) dL_law_880 dL_law_881 dL_law_884 dL_law_886 dL_law_891 dL_law_893 dL_law_896 dL_law_897 dL_law_898 dL_law_899 dL_law_901 dL_law_902 dL_law_903 dL_law_908 (by decide) (fun H3 locs3 f1 f2 f3 => zw_widen (by omega) (by omega) (kk ad1 v w nd nr ns9 H3 locs3 ls6 ⟨f1, f2, hd, hX, hO, hun, hM, q3, q4⟩ f3 (zh_sub hl6 [2, 3, 4, 5, 6] rfl)))

set_option maxHeartbeats 4000000 in
set_option maxRecDepth 100000 in
theorem w_best {p : Program} {l : Launch} {e : Env} {s : State} {m : MethodId} {args : Array Value} {below : List Frame} {meth : Method} {c : Code} {H : Heap} {locs : List Loc} {cells slots : Nat} {Q : State → Prop} {ls : Array Slot} {G : zG} {ad1 ad2 : zA} {σ τ : zS} {nd nr ns b L i : Nat} {xs : Nat → Int32} (S : CallFix p m c cL_law 7 s args lw_tbl RL) (hst : l.stackTraces = false) (hXs : va_X b L xs s s.heap) (hbl : b < s.heap.size) (hL : L ≤ 2560) (hK : zK G s) (hE : zE (zA0 s) s) (hAA : zAA G s) (hNC : zNC s) (hV : zLV G ad1 ad2 (zA0 s) H ((i : Nat) : Int) σ τ nd nr ns) (hS : va_S (zA0 s) s.heap H locs) (hi : 5 * i + 5 ≤ L) (hcl : cells + 8 ≤ 601024) (hsl : slots + 63 ≤ 7293034) (hl : zh ls 7 [(4, .int (zi ((5 * i : Nat) : Int))), (3, zr ad1 90 ((0 : Nat) : Int)), (2, zr ad2 30 ((0 : Nat) : Int)), (1, zr ad1 0 ((0 : Nat) : Int)), (0, .ref b)])
    (kk : ∀ (ad9 : zA) (v w : zS) (nd9 nr9 ns9 : Nat) (H9 : Heap) (locs9 : List Loc) (ls9 : Array Slot), zLV G ad9 ad2 (zA0 s) H9 (((i : Nat) : Int) + 1) v w nd9 nr9 ns9 → va_S (zA0 s) s.heap H9 locs9 → zh ls9 7 [(4, .int (zi ((5 * i : Nat) : Int))), (3, zr ad9 90 ((0 : Nat) : Int)), (2, zr ad2 30 ((0 : Nat) : Int)), (1, zr ad9 0 ((0 : Nat) : Int)), (0, .ref b)] → W p l e room_1 s m args below meth c H9 locs9 (cells + 8) (slots + 63) Q (F0 m 1413 ls9 [])) : W p l e room_1 s m args below meth c H locs cells slots Q (F0 m 924 ls []) := by
  have S0 := S
  obtain ⟨hx, hb, hml, hown, hts⟩ := S0
  obtain ⟨hW1, hW2, hd, hX, hO, hun, hM, hCP, hWF⟩ := hV
  have hi9 : ((i : Nat) : Int) ≤ 511 := by omega
  have hi0 : 0 ≤ ((i : Nat) : Int) := by omega
  have hB9 : 1000 * ((i : Nat) : Int) ≤ 1000000 := by omega
  have h0 := hX 0 0 rfl
  have g1 := hWF.1.1
  have g2 := hWF.1.2.1
  have g17 := hWF.1.2.2.2.2.1
  refine zz_aload_n hx hb hl 3 dL_law_924 rfl rfl ?_
  refine zz_aload_n hx hb hl 1 dL_law_925 rfl rfl ?_
  obtain ⟨⟨y1, y2, y3, y4, y5, y6⟩, y7, y8, y9, y10, y11⟩ := CP_bh hCP hWF
  refine zl_callH (As := [zr ad1 0 ((0 : Nat) : Int), zr ad1 90 ((0 : Nat) : Int)]) (rest := []) S (c_L_best l G ad1 (zcA ad1 H.size) H.size σ h0 hO  (c_X6_best l hst G ad1 (zcA ad1 H.size) H.size σ nd nr hX y1 y2 y3 y4 y5 y6 y7 y8 y9 y10 y11) (fun E u h => h.1)) (vx_cwSW 2 hts gk_L_best rfl rfl rfl (by decide +kernel) ⟨Nat.le_of_ble_eq_true rfl, Nat.le_of_ble_eq_true rfl⟩) hK hE hAA hNC hW1.toA (Nat.le_refl _) hS (zcA_sub hW1 hS (fun q h => h)) rfl hl.1.1 rfl (by decide) dL_law_926 ⟨by show cells + 1 ≤ 601024; omega, by show slots + 6 ≤ 7293034; omega⟩ (fun k v H1 locs1 h1 hW1a hz1 hk1 hS1 => ?_)
  refine zz_istore (lv' := [(5, .int (zi k)), (4, .int (zi ((5 * i : Nat) : Int))), (3, zr ad1 90 ((0 : Nat) : Int)), (2, zr ad2 30 ((0 : Nat) : Int)), (1, zr ad1 0 ((0 : Nat) : Int)), (0, .ref b)]) hx hb hl dL_law_929 (by decide) rfl (fun ls5 hl5 => ?_)
  have hW2a := hW2.other hd hk1
  have hW1b := hW1a.reA (fun κ j a ha => zcA_sub hW1 hS (fun q h => h) a (hW1a.1 κ j a ha).2)
  refine zz_aload_n hx hb hl5 3 dL_law_931 rfl rfl ?_
  refine zl_callV (T := TX7) (N := 42) (κ := 30) (v := ((0 : Nat) : Int)) (As := []) (rest := []) S (c_X7_best l G ad2 (zcB ad2) H1.size τ hM nd nr ns _ _ hWF hB9   ) (cwV 0 hts gk_X7_best rfl rfl rfl (by decide +kernel) ⟨Nat.le_of_ble_eq_true rfl, Nat.le_of_ble_eq_true rfl⟩) hK hW2a.toB (zlN (hM 30 rfl)) rfl rfl (Nat.le_refl _) hS1 (zcB_sub hW2a) rfl hl5.1.1 rfl (by decide) dL_law_932 ⟨by show cells + 1 ≤ 601024; omega, by show slots + 6 ≤ 7293034; omega⟩ (fun b9 w H2 locs2 h2 hW2b hz2 hk2 hS2 => ?_)
  refine zz_istore (lv' := [(6, .int (zi b9)), (5, .int (zi k)), (4, .int (zi ((5 * i : Nat) : Int))), (3, zr ad1 90 ((0 : Nat) : Int)), (2, zr ad2 30 ((0 : Nat) : Int)), (1, zr ad1 0 ((0 : Nat) : Int)), (0, .ref b)]) hx hb hl5 dL_law_935 (by decide) rfl (fun ls6 hl6 => ?_)
  have hW1c := hW1b.otherB hd hk2
  have hW2c := hW2b.reA (fun κ j a ha => (hW2.1 κ j a ha).2)
  obtain ⟨q1, q2, ns9, q3, q4⟩ := L_best  hCP hWF hi0 h1 h2
  exact zl_tail (P := 937) S hK hW1c hW2c hd hO hM hS2 hl6 rfl rfl rfl rfl q1 q2 (by omega) (by omega) dL_law_937 dL_law_938 dL_law_941 dL_law_943 dL_law_948 dL_law_950 dL_law_953 dL_law_954 dL_law_955 dL_law_956 dL_law_958 dL_law_959 dL_law_960 dL_law_965 (by decide) (fun H3 locs3 f1 f2 f3 => zw_widen (by omega) (by omega) (kk ad1 v w nd nr ns9 H3 locs3 ls6 ⟨f1, f2, hd, hX, hO, hun, hM, q3, q4⟩ f3 (zh_sub hl6 [2, 3, 4, 5, 6] rfl)))
