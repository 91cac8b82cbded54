/-! THE LAW'S CASES -/
set_option maxHeartbeats 4000000 in
set_option maxRecDepth 100000 in
theorem w_way {p : Program} {l : Launch} {e : Env} {s : State} {m : MethodId} {args : Array Value} {below : List Frame} {meth : Method} {c : Code} {H : Heap} {locs : List Loc} {cells slots : Nat} {Q : State → Prop} {ls : Array Slot} {G : zG} {ad1 ad2 : zA} {σ τ : zS} {nd nr ns b L i : Nat} {xs : Nat → Int32} (S : CallFix p m c cL_law 7 s args lw_tbl RL) (hst : l.stackTraces = false) (hXs : va_X b L xs s s.heap) (hbl : b < s.heap.size) (hL : L ≤ 2560) (hK : zK G s) (hE : zE (zA0 s) s) (hAA : zAA G s) (hNC : zNC s) (hV : zLV G ad1 ad2 (zA0 s) H ((i : Nat) : Int) σ τ nd nr ns) (hS : va_S (zA0 s) s.heap H locs) (hi : 5 * i + 5 ≤ L) (hcl : cells + 8 ≤ 601024) (hsl : slots + 63 ≤ 7293034) (hl : zh ls 7 [(4, .int (zi ((5 * i : Nat) : Int))), (3, zr ad1 90 ((0 : Nat) : Int)), (2, zr ad2 30 ((0 : Nat) : Int)), (1, zr ad1 0 ((0 : Nat) : Int)), (0, .ref b)])
    (kk : ∀ (ad9 : zA) (v w : zS) (nd9 nr9 ns9 : Nat) (H9 : Heap) (locs9 : List Loc) (ls9 : Array Slot), zLV G ad9 ad2 (zA0 s) H9 (((i : Nat) : Int) + 1) v w nd9 nr9 ns9 → va_S (zA0 s) s.heap H9 locs9 → zh ls9 7 [(4, .int (zi ((5 * i : Nat) : Int))), (3, zr ad9 90 ((0 : Nat) : Int)), (2, zr ad2 30 ((0 : Nat) : Int)), (1, zr ad9 0 ((0 : Nat) : Int)), (0, .ref b)] → W p l e room_1 s m args below meth c H9 locs9 (cells + 8) (slots + 63) Q (F0 m 1413 ls9 [])) : W p l e room_1 s m args below meth c H locs cells slots Q (F0 m 284 ls []) := by
  have S0 := S
  obtain ⟨hx, hb, hml, hown, hts⟩ := S0
  obtain ⟨hW1, hW2, hd, hX, hO, hun, hM, hCP, hWF⟩ := hV
  have hi9 : ((i : Nat) : Int) ≤ 511 := by omega
  have hi0 : 0 ≤ ((i : Nat) : Int) := by omega
  have hB9 : 1000 * ((i : Nat) : Int) ≤ 1000000 := by omega
  have h0 := hX 0 0 rfl
  have g1 := hWF.1.1
  have g2 := hWF.1.2.1
  have g17 := hWF.1.2.2.2.2.1
  refine zz_aload_n hx hb hl 3 dL_law_284 rfl rfl ?_
  refine zl_rd (i := 5 * i) (j := 1) hx hb hXs hbl hL hS hl 4 0 rfl rfl (by omega) dL_law_285 dL_law_286 dL_law_288 dL_law_289 dL_law_290 ?_
  refine zl_rd (i := 5 * i) (j := 2) hx hb hXs hbl hL hS hl 4 0 rfl rfl (by omega) dL_law_291 dL_law_292 dL_law_294 dL_law_295 dL_law_296 ?_
  refine zz_aload_n hx hb hl 1 dL_law_297 rfl rfl ?_
  refine zl_callH (As := [zr ad1 0 ((0 : Nat) : Int), .int (zi (zsx xs (5 * i + 1))), .int (zi (zsx xs (5 * i + 2))), zr ad1 90 ((0 : Nat) : Int)]) (rest := []) S (c_L_way l G ad1 (zcA ad1 H.size) H.size σ h0 hO (zsx xs (5 * i + 1)) (zsx xs (5 * i + 2)) (c_X6_way l hst G ad1 (zcA ad1 H.size) H.size σ nd nr ns hX _ _ τ hCP hWF hB9  (zsx xs (5 * i + 1)) (zsx xs (5 * i + 2)) (zsx_g _ _) (zsx_g _ _)) (fun E u h => h.2.1)) (vx_cwSW 4 hts gk_L_way rfl rfl rfl (by decide +kernel) ⟨Nat.le_of_ble_eq_true rfl, Nat.le_of_ble_eq_true rfl⟩) hK hE hAA hNC hW1.toA (Nat.le_refl _) hS (zcA_sub hW1 hS (fun q h => h)) rfl hl.1.1 rfl (by decide) dL_law_298 ⟨by show cells + 2 ≤ 601024; omega, by show slots + 12 ≤ 7293034; omega⟩ (fun k v H1 locs1 h1 hW1a hz1 hk1 hS1 => ?_)
  refine zz_istore (lv' := [(5, .int (zi k)), (4, .int (zi ((5 * i : Nat) : Int))), (3, zr ad1 90 ((0 : Nat) : Int)), (2, zr ad2 30 ((0 : Nat) : Int)), (1, zr ad1 0 ((0 : Nat) : Int)), (0, .ref b)]) hx hb hl dL_law_301 (by decide) rfl (fun ls5 hl5 => ?_)
  have hW2a := hW2.other hd hk1
  have hW1b := hW1a.reA (fun κ j a ha => zcA_sub hW1 hS (fun q h => h) a (hW1a.1 κ j a ha).2)
  refine zz_aload_n hx hb hl5 3 dL_law_303 rfl rfl ?_
  refine zl_rd (i := 5 * i) (j := 1) hx hb hXs hbl hL hS1 hl5 5 1 rfl rfl (by omega) dL_law_304 dL_law_305 dL_law_307 dL_law_308 dL_law_309 ?_
  refine zl_rd (i := 5 * i) (j := 2) hx hb hXs hbl hL hS1 hl5 5 1 rfl rfl (by omega) dL_law_310 dL_law_311 dL_law_313 dL_law_314 dL_law_315 ?_
  refine zl_callV (T := TX7) (N := 42) (κ := 30) (v := ((0 : Nat) : Int)) (As := [.int (zi (zsx xs (5 * i + 1))), .int (zi (zsx xs (5 * i + 2)))]) (rest := []) S (c_X7_way l G ad2 (zcB ad2) H1.size τ hM  (zsx xs (5 * i + 1)) (zsx xs (5 * i + 2)) (zsx_g _ _) (zsx_g _ _) ) (cwV 2 hts gk_X7_way rfl rfl rfl (by decide +kernel) ⟨Nat.le_of_ble_eq_true rfl, Nat.le_of_ble_eq_true rfl⟩) hK hW2a.toB (zlN (hM 30 rfl)) rfl rfl (Nat.le_refl _) hS1 (zcB_sub hW2a) rfl hl5.1.1 rfl (by decide) dL_law_316 ⟨by show cells + 2 ≤ 601024; omega, by show slots + 12 ≤ 7293034; omega⟩ (fun b9 w H2 locs2 h2 hW2b hz2 hk2 hS2 => ?_)
  refine zz_istore (lv' := [(6, .int (zi b9)), (5, .int (zi k)), (4, .int (zi ((5 * i : Nat) : Int))), (3, zr ad1 90 ((0 : Nat) : Int)), (2, zr ad2 30 ((0 : Nat) : Int)), (1, zr ad1 0 ((0 : Nat) : Int)), (0, .ref b)]) hx hb hl5 dL_law_319 (by decide) rfl (fun ls6 hl6 => ?_)
  have hW1c := hW1b.otherB hd hk2
  have hW2c := hW2b.reA (fun κ j a ha => (hW2.1 κ j a ha).2)
  obtain ⟨q1, q2, ns9, q3, q4⟩ := L_way (a := (zsx xs (5 * i + 1))) (b := (zsx xs (5 * i + 2))) hCP hWF hi0 h1 h2
  exact zl_tail (P := 321) S hK hW1c hW2c hd hO hM hS2 hl6 rfl rfl rfl rfl q1 q2 (by omega) (by omega) dL_law_321 dL_law_322 dL_law_325 dL_law_327 dL_law_332 dL_law_334 dL_law_337 dL_law_338 dL_law_339 dL_law_340 dL_law_342 dL_law_343 dL_law_344 dL_law_349 (by decide) (fun H3 locs3 f1 f2 f3 => zw_widen (by omega) (by omega) (kk ad1 v w nd nr ns9 H3 locs3 ls6 ⟨f1, f2, hd, hX, hO, hun, hM, q3, q4⟩ f3 (zh_sub hl6 [2, 3, 4, 5, 6] rfl)))

set_option maxHeartbeats 4000000 in
set_option maxRecDepth 100000 in
theorem w_pay {p : Program} {l : Launch} {e : Env} {s : State} {m : MethodId} {args : Array Value} {below : List Frame} {meth : Method} {c : Code} {H : Heap} {locs : List Loc} {cells slots : Nat} {Q : State → Prop} {ls : Array Slot} {G : zG} {ad1 ad2 : zA} {σ τ : zS} {nd nr ns b L i : Nat} {xs : Nat → Int32} (S : CallFix p m c cL_law 7 s args lw_tbl RL) (hst : l.stackTraces = false) (hXs : va_X b L xs s s.heap) (hbl : b < s.heap.size) (hL : L ≤ 2560) (hK : zK G s) (hE : zE (zA0 s) s) (hAA : zAA G s) (hNC : zNC s) (hV : zLV G ad1 ad2 (zA0 s) H ((i : Nat) : Int) σ τ nd nr ns) (hS : va_S (zA0 s) s.heap H locs) (hi : 5 * i + 5 ≤ L) (hcl : cells + 8 ≤ 601024) (hsl : slots + 63 ≤ 7293034) (hl : zh ls 7 [(4, .int (zi ((5 * i : Nat) : Int))), (3, zr ad1 90 ((0 : Nat) : Int)), (2, zr ad2 30 ((0 : Nat) : Int)), (1, zr ad1 0 ((0 : Nat) : Int)), (0, .ref b)])
    (kk : ∀ (ad9 : zA) (v w : zS) (nd9 nr9 ns9 : Nat) (H9 : Heap) (locs9 : List Loc) (ls9 : Array Slot), zLV G ad9 ad2 (zA0 s) H9 (((i : Nat) : Int) + 1) v w nd9 nr9 ns9 → va_S (zA0 s) s.heap H9 locs9 → zh ls9 7 [(4, .int (zi ((5 * i : Nat) : Int))), (3, zr ad9 90 ((0 : Nat) : Int)), (2, zr ad2 30 ((0 : Nat) : Int)), (1, zr ad9 0 ((0 : Nat) : Int)), (0, .ref b)] → W p l e room_1 s m args below meth c H9 locs9 (cells + 8) (slots + 63) Q (F0 m 1413 ls9 [])) : W p l e room_1 s m args below meth c H locs cells slots Q (F0 m 1301 ls []) := by
  have S0 := S
  obtain ⟨hx, hb, hml, hown, hts⟩ := S0
  obtain ⟨hW1, hW2, hd, hX, hO, hun, hM, hCP, hWF⟩ := hV
  have hi9 : ((i : Nat) : Int) ≤ 511 := by omega
  have hi0 : 0 ≤ ((i : Nat) : Int) := by omega
  have hB9 : 1000 * ((i : Nat) : Int) ≤ 1000000 := by omega
  have h0 := hX 0 0 rfl
  have g1 := hWF.1.1
  have g2 := hWF.1.2.1
  have g17 := hWF.1.2.2.2.2.1
  refine zz_aload_n hx hb hl 3 dL_law_1301 rfl rfl ?_
  refine zl_rd (i := 5 * i) (j := 1) hx hb hXs hbl hL hS hl 4 0 rfl rfl (by omega) dL_law_1302 dL_law_1303 dL_law_1305 dL_law_1306 dL_law_1307 ?_
  refine zz_aload_n hx hb hl 1 dL_law_1308 rfl rfl ?_
  refine zl_callH (As := [zr ad1 0 ((0 : Nat) : Int), .int (zi (zsx xs (5 * i + 1))), zr ad1 90 ((0 : Nat) : Int)]) (rest := []) S (c_L_pay l G ad1 (zcA ad1 H.size) H.size σ h0 hO (zsx xs (5 * i + 1)) (c_X6_pay l hst G ad1 (zcA ad1 H.size) H.size σ nd nr ns hX _ _ τ hCP hWF hB9  (zsx xs (5 * i + 1)) (zsx_g _ _)) (fun E u h => h.2.1)) (vx_cwSW 3 hts gk_L_pay rfl rfl rfl (by decide +kernel) ⟨Nat.le_of_ble_eq_true rfl, Nat.le_of_ble_eq_true rfl⟩) hK hE hAA hNC hW1.toA (Nat.le_refl _) hS (zcA_sub hW1 hS (fun q h => h)) rfl hl.1.1 rfl (by decide) dL_law_1309 ⟨by show cells + 1 ≤ 601024; omega, by show slots + 6 ≤ 7293034; omega⟩ (fun k v H1 locs1 h1 hW1a hz1 hk1 hS1 => ?_)
  refine zz_istore (lv' := [(5, .int (zi k)), (4, .int (zi ((5 * i : Nat) : Int))), (3, zr ad1 90 ((0 : Nat) : Int)), (2, zr ad2 30 ((0 : Nat) : Int)), (1, zr ad1 0 ((0 : Nat) : Int)), (0, .ref b)]) hx hb hl dL_law_1312 (by decide) rfl (fun ls5 hl5 => ?_)
  have hW2a := hW2.other hd hk1
  have hW1b := hW1a.reA (fun κ j a ha => zcA_sub hW1 hS (fun q h => h) a (hW1a.1 κ j a ha).2)
  refine zz_aload_n hx hb hl5 3 dL_law_1314 rfl rfl ?_
  refine zl_rd (i := 5 * i) (j := 1) hx hb hXs hbl hL hS1 hl5 5 1 rfl rfl (by omega) dL_law_1315 dL_law_1316 dL_law_1318 dL_law_1319 dL_law_1320 ?_
  refine zl_callV (T := TX7) (N := 42) (κ := 30) (v := ((0 : Nat) : Int)) (As := [.int (zi (zsx xs (5 * i + 1)))]) (rest := []) S (c_X7_pay l G ad2 (zcB ad2) H1.size τ hM  (zsx xs (5 * i + 1)) (zsx_g _ _) ⟨by omega, by omega⟩ (fun d hd9 => by have z := hWF.2.1 d (by omega); have y9 := yDN_le τ nr; exact ⟨z.2.2.2.2.2.2.1.1, by have y := z.2.2.2.2.2.2.1.2; have y3 := hWF.1.2.2.1; omega⟩)) (cwV 1 hts gk_X7_pay rfl rfl rfl (by decide +kernel) ⟨Nat.le_of_ble_eq_true rfl, Nat.le_of_ble_eq_true rfl⟩) hK hW2a.toB (zlN (hM 30 rfl)) rfl rfl (Nat.le_refl _) hS1 (zcB_sub hW2a) rfl hl5.1.1 rfl (by decide) dL_law_1321 ⟨by show cells + 1 ≤ 601024; omega, by show slots + 6 ≤ 7293034; omega⟩ (fun b9 w H2 locs2 h2 hW2b hz2 hk2 hS2 => ?_)
  refine zz_istore (lv' := [(6, .int (zi b9)), (5, .int (zi k)), (4, .int (zi ((5 * i : Nat) : Int))), (3, zr ad1 90 ((0 : Nat) : Int)), (2, zr ad2 30 ((0 : Nat) : Int)), (1, zr ad1 0 ((0 : Nat) : Int)), (0, .ref b)]) hx hb hl5 dL_law_1324 (by decide) rfl (fun ls6 hl6 => ?_)
  have hW1c := hW1b.otherB hd hk2
  have hW2c := hW2b.reA (fun κ j a ha => (hW2.1 κ j a ha).2)
  obtain ⟨q1, q2, ns9, q3, q4⟩ := L_pay (a := (zsx xs (5 * i + 1))) hCP hWF hi0 h1 h2
  exact zl_tail (P := 1326) S hK hW1c hW2c hd hO hM hS2 hl6 rfl rfl rfl rfl q1 q2 (by omega) (by omega) dL_law_1326 dL_law_1327 dL_law_1330 dL_law_1332 dL_law_1337 dL_law_1339 dL_law_1342 dL_law_1343 dL_law_1344 dL_law_1345 dL_law_1347 dL_law_1348 dL_law_1349 dL_law_1354 (by decide) (fun H3 locs3 f1 f2 f3 => zw_widen (by omega) (by omega) (kk ad1 v w nd nr ns9 H3 locs3 ls6 ⟨f1, f2, hd, hX, hO, hun, hM, q3, q4⟩ f3 (zh_sub hl6 [2, 3, 4, 5, 6] rfl)))

set_option maxHeartbeats 4000000 in
set_option maxRecDepth 100000 in
theorem w_rest {p : Program} {l : Launch} {e : Env} {s : State} {m : MethodId} {args : Array Value} {below : List Frame} {meth : Method} {c : Code} {H : Heap} {locs : List Loc} {cells slots : Nat} {Q : State → Prop} {ls : Array Slot} {G : zG} {ad1 ad2 : zA} {σ τ : zS} {nd nr ns b L i : Nat} {xs : Nat → Int32} (S : CallFix p m c cL_law 7 s args lw_tbl RL) (hst : l.stackTraces = false) (hXs : va_X b L xs s s.heap) (hbl : b < s.heap.size) (hL : L ≤ 2560) (hK : zK G s) (hE : zE (zA0 s) s) (hAA : zAA G s) (hNC : zNC s) (hV : zLV G ad1 ad2 (zA0 s) H ((i : Nat) : Int) σ τ nd nr ns) (hS : va_S (zA0 s) s.heap H locs) (hi : 5 * i + 5 ≤ L) (hcl : cells + 8 ≤ 601024) (hsl : slots + 63 ≤ 7293034) (hl : zh ls 7 [(4, .int (zi ((5 * i : Nat) : Int))), (3, zr ad1 90 ((0 : Nat) : Int)), (2, zr ad2 30 ((0 : Nat) : Int)), (1, zr ad1 0 ((0 : Nat) : Int)), (0, .ref b)])
    (kk : ∀ (ad9 : zA) (v w : zS) (nd9 nr9 ns9 : Nat) (H9 : Heap) (locs9 : List Loc) (ls9 : Array Slot), zLV G ad9 ad2 (zA0 s) H9 (((i : Nat) : Int) + 1) v w nd9 nr9 ns9 → va_S (zA0 s) s.heap H9 locs9 → zh ls9 7 [(4, .int (zi ((5 * i : Nat) : Int))), (3, zr ad9 90 ((0 : Nat) : Int)), (2, zr ad2 30 ((0 : Nat) : Int)), (1, zr ad9 0 ((0 : Nat) : Int)), (0, .ref b)] → W p l e room_1 s m args below meth c H9 locs9 (cells + 8) (slots + 63) Q (F0 m 1413 ls9 [])) : W p l e room_1 s m args below meth c H locs cells slots Q (F0 m 408 ls []) := by
  have S0 := S
  obtain ⟨hx, hb, hml, hown, hts⟩ := S0
  obtain ⟨hW1, hW2, hd, hX, hO, hun, hM, hCP, hWF⟩ := hV
  have hi9 : ((i : Nat) : Int) ≤ 511 := by omega
  have hi0 : 0 ≤ ((i : Nat) : Int) := by omega
  have hB9 : 1000 * ((i : Nat) : Int) ≤ 1000000 := by omega
  have h0 := hX 0 0 rfl
  have g1 := hWF.1.1
  have g2 := hWF.1.2.1
  have g17 := hWF.1.2.2.2.2.1
  refine zz_aload_n hx hb hl 3 dL_law_408 rfl rfl ?_
  refine zl_rd (i := 5 * i) (j := 1) hx hb hXs hbl hL hS hl 4 0 rfl rfl (by omega) dL_law_409 dL_law_410 dL_law_412 dL_law_413 dL_law_414 ?_
  refine zl_rd (i := 5 * i) (j := 2) hx hb hXs hbl hL hS hl 4 0 rfl rfl (by omega) dL_law_415 dL_law_416 dL_law_418 dL_law_419 dL_law_420 ?_
  refine zl_nz hx hb (zsx_g _ _) dL_law_421 dL_law_424 dL_law_425 dL_law_428 ?_
  refine zz_aload_n hx hb hl 1 dL_law_429 rfl rfl ?_
  refine zl_callH (As := [zr ad1 0 ((0 : Nat) : Int), .int (zi (zsx xs (5 * i + 1))), .int (zi (zb (¬ zsx xs (5 * i + 2) = 0))), zr ad1 90 ((0 : Nat) : Int)]) (rest := []) S (c_L_rest l G ad1 (zcA ad1 H.size) H.size σ h0 hO (zsx xs (5 * i + 1)) (zb (¬ zsx xs (5 * i + 2) = 0)) (c_X6_rest l hst G ad1 (zcA ad1 H.size) H.size σ nd nr ns hX _ _ τ hCP hWF hB9  (zsx xs (5 * i + 1)) (zb (¬ zsx xs (5 * i + 2) = 0)) (zsx_g _ _) (zb_01 _)) (fun E u h => h.2.elim (fun q => Or.inl q.1) (fun q => Or.inr q.1))) (vx_cwSW 4 hts gk_L_rest rfl rfl rfl (by decide +kernel) ⟨Nat.le_of_ble_eq_true rfl, Nat.le_of_ble_eq_true rfl⟩) hK hE hAA hNC hW1.toA (Nat.le_refl _) hS (zcA_sub hW1 hS (fun q h => h)) rfl hl.1.1 rfl (by decide) dL_law_430 ⟨by show cells + 2 ≤ 601024; omega, by show slots + 12 ≤ 7293034; omega⟩ (fun k v H1 locs1 h1 hW1a hz1 hk1 hS1 => ?_)
  refine zz_istore (lv' := [(5, .int (zi k)), (4, .int (zi ((5 * i : Nat) : Int))), (3, zr ad1 90 ((0 : Nat) : Int)), (2, zr ad2 30 ((0 : Nat) : Int)), (1, zr ad1 0 ((0 : Nat) : Int)), (0, .ref b)]) hx hb hl dL_law_433 (by decide) rfl (fun ls5 hl5 => ?_)
  have hW2a := hW2.other hd hk1
  have hW1b := hW1a.reA (fun κ j a ha => zcA_sub hW1 hS (fun q h => h) a (hW1a.1 κ j a ha).2)
  refine zz_aload_n hx hb hl5 3 dL_law_435 rfl rfl ?_
  refine zl_rd (i := 5 * i) (j := 1) hx hb hXs hbl hL hS1 hl5 5 1 rfl rfl (by omega) dL_law_436 dL_law_437 dL_law_439 dL_law_440 dL_law_441 ?_
  refine zl_rd (i := 5 * i) (j := 2) hx hb hXs hbl hL hS1 hl5 5 1 rfl rfl (by omega) dL_law_442 dL_law_443 dL_law_445 dL_law_446 dL_law_447 ?_
  refine zl_nz hx hb (zsx_g _ _) dL_law_448 dL_law_451 dL_law_452 dL_law_455 ?_
  refine zl_callV (T := TX7) (N := 42) (κ := 30) (v := ((0 : Nat) : Int)) (As := [.int (zi (zsx xs (5 * i + 1))), .int (zi (zb (¬ zsx xs (5 * i + 2) = 0)))]) (rest := []) S (c_X7_rest l G ad2 (zcB ad2) H1.size τ hM  (zsx xs (5 * i + 1)) (zb (¬ zsx xs (5 * i + 2) = 0)) (zsx_g _ _) (zb_01 _) ⟨by omega, by omega⟩ ⟨g17.1, by omega⟩) (cwV 2 hts gk_X7_rest rfl rfl rfl (by decide +kernel) ⟨Nat.le_of_ble_eq_true rfl, Nat.le_of_ble_eq_true rfl⟩) hK hW2a.toB (zlN (hM 30 rfl)) rfl rfl (Nat.le_refl _) hS1 (zcB_sub hW2a) rfl hl5.1.1 rfl (by decide) dL_law_456 ⟨by show cells + 2 ≤ 601024; omega, by show slots + 12 ≤ 7293034; omega⟩ (fun b9 w H2 locs2 h2 hW2b hz2 hk2 hS2 => ?_)
  refine zz_istore (lv' := [(6, .int (zi b9)), (5, .int (zi k)), (4, .int (zi ((5 * i : Nat) : Int))), (3, zr ad1 90 ((0 : Nat) : Int)), (2, zr ad2 30 ((0 : Nat) : Int)), (1, zr ad1 0 ((0 : Nat) : Int)), (0, .ref b)]) hx hb hl5 dL_law_459 (by decide) rfl (fun ls6 hl6 => ?_)
  have hW1c := hW1b.otherB hd hk2
  have hW2c := hW2b.reA (fun κ j a ha => (hW2.1 κ j a ha).2)
  have h01 : ∀ d, τ 50 0 d = 0 ∨ τ 50 0 d = 1 := fun d => hW2.2.2.2.2 50 0 d rfl
  obtain ⟨q1, q2, ns9, q3, q4⟩ := L_rest (a := (zsx xs (5 * i + 1))) (x := (zb (¬ zsx xs (5 * i + 2) = 0))) hCP hWF hi0 h01 h1 h2
  have hb01 : b9 = 0 ∨ b9 = 1 := by
    rcases h2 with ⟨-, q, -⟩ | ⟨-, -, q, -⟩ | ⟨-, -, q, -⟩
    · exact Or.inl q.symm
    · exact Or.inl q.symm
    · rw [← q]; exact h01 _
  have hend : ∀ (H3 : Heap) (locs3 : List Loc), ZW G ad1 (zA0 s) v H3 → ZW G ad2 (zA0 s) w H3 → va_S (zA0 s) s.heap H3 locs3 → W p l e room_1 s m args below meth c H3 locs3 (cells + 2 + 0) (slots + 12 + 0) Q (F0 m 496 ls6 []) := fun H3 locs3 f1 f2 f3 => zz_goto (tgt := 1413) hx hb dL_law_496 (by decide) (zw_widen (by omega) (by omega) (kk ad1 v w nd nr ns9 H3 locs3 ls6 ⟨f1, f2, hd, hX, hO, hun, hM, q3, q4⟩ f3 (zh_sub hl6 [2, 3, 4, 5, 6] rfl)))
  refine zl_tail0 (P := 461) (tgt := 496) S hK hW1c hW2c hd hM hS2 hl6 rfl rfl q1 (by omega) (by omega) dL_law_461 dL_law_462 dL_law_465 dL_law_467 dL_law_472 dL_law_474 (by decide) hend (fun hk H3 locs3 f1 f2 f3 => ?_)
  refine zz_aload_n hx hb hl6 3 dL_law_477 rfl rfl ?_
  refine zz_iconst hx hb dL_law_478 ?_
  refine zz_lald hx hb hK f1 hO dL_law_479 ?_
  refine zz_iload hx hb hl6 0 dL_law_480 rfl ?_
  have e9 := q2 hk
  refine zz_if_eq (tgt := 489) hx hb dL_law_482 (by decide) (zg_01 hb01) (fun h => ?_) (fun h => ?_)
  · refine lv_lconst (v := Int64.ofInt 0) hx hb dL_law_489 rfl ?_
    refine W.lcmp hx hb dL_law_490 ?_
    refine lv_if_eq (tgt := 496) hx hb dL_law_491 (by decide) (fun _ => hend H3 locs3 f1 f2 f3) (fun q => absurd ((zlcmp_ne (f1.2.2.1 90 0 0) ⟨by decide, by decide⟩).mpr (by rw [e9, h]; rfl)) q)
  · have h1 : b9 = 1 := hb01.resolve_left h
    refine lv_lconst (v := Int64.ofInt 1) hx hb dL_law_485 rfl ?_
    refine zz_goto (tgt := 490) hx hb dL_law_486 (by decide) ?_
    refine W.lcmp hx hb dL_law_490 ?_
    refine lv_if_eq (tgt := 496) hx hb dL_law_491 (by decide) (fun _ => hend H3 locs3 f1 f2 f3) (fun q => absurd ((zlcmp_ne (f1.2.2.1 90 0 0) ⟨by decide, by decide⟩).mpr (by rw [e9, h1]; rfl)) q)

set_option maxHeartbeats 4000000 in
set_option maxRecDepth 100000 in
theorem w_driver {p : Program} {l : Launch} {e : Env} {s : State} {m : MethodId} {args : Array Value} {below : List Frame} {meth : Method} {c : Code} {H : Heap} {locs : List Loc} {cells slots : Nat} {Q : State → Prop} {ls : Array Slot} {G : zG} {ad1 ad2 : zA} {σ τ : zS} {nd nr ns b L i : Nat} {xs : Nat → Int32} (S : CallFix p m c cL_law 7 s args lw_tbl RL) (hst : l.stackTraces = false) (hXs : va_X b L xs s s.heap) (hbl : b < s.heap.size) (hL : L ≤ 2560) (hK : zK G s) (hE : zE (zA0 s) s) (hAA : zAA G s) (hNC : zNC s) (hV : zLV G ad1 ad2 (zA0 s) H ((i : Nat) : Int) σ τ nd nr ns) (hS : va_S (zA0 s) s.heap H locs) (hi : 5 * i + 5 ≤ L) (hcl : cells + 8 ≤ 601024) (hsl : slots + 63 ≤ 7293034) (hl : zh ls 7 [(4, .int (zi ((5 * i : Nat) : Int))), (3, zr ad1 90 ((0 : Nat) : Int)), (2, zr ad2 30 ((0 : Nat) : Int)), (1, zr ad1 0 ((0 : Nat) : Int)), (0, .ref b)])
    (kk : ∀ (ad9 : zA) (v w : zS) (nd9 nr9 ns9 : Nat) (H9 : Heap) (locs9 : List Loc) (ls9 : Array Slot), zLV G ad9 ad2 (zA0 s) H9 (((i : Nat) : Int) + 1) v w nd9 nr9 ns9 → va_S (zA0 s) s.heap H9 locs9 → zh ls9 7 [(4, .int (zi ((5 * i : Nat) : Int))), (3, zr ad9 90 ((0 : Nat) : Int)), (2, zr ad2 30 ((0 : Nat) : Int)), (1, zr ad9 0 ((0 : Nat) : Int)), (0, .ref b)] → W p l e room_1 s m args below meth c H9 locs9 (cells + 8) (slots + 63) Q (F0 m 1413 ls9 [])) : W p l e room_1 s m args below meth c H locs cells slots Q (F0 m 352 ls []) := by
  have S0 := S
  obtain ⟨hx, hb, hml, hown, hts⟩ := S0
  obtain ⟨hW1, hW2, hd, hX, hO, hun, hM, hCP, hWF⟩ := hV
  have hi9 : ((i : Nat) : Int) ≤ 511 := by omega
  have hi0 : 0 ≤ ((i : Nat) : Int) := by omega
  have hB9 : 1000 * ((i : Nat) : Int) ≤ 1000000 := by omega
  have h0 := hX 0 0 rfl
  have g1 := hWF.1.1
  have g2 := hWF.1.2.1
  have g17 := hWF.1.2.2.2.2.1
  refine zz_aload_n hx hb hl 3 dL_law_352 rfl rfl ?_
  refine zl_rd (i := 5 * i) (j := 1) hx hb hXs hbl hL hS hl 4 0 rfl rfl (by omega) dL_law_353 dL_law_354 dL_law_356 dL_law_357 dL_law_358 ?_
  refine zz_aload_n hx hb hl 1 dL_law_359 rfl rfl ?_
  refine zl_callD (As := [zr ad1 0 ((0 : Nat) : Int), .int (zi (zsx xs (5 * i + 1))), zr ad1 90 ((0 : Nat) : Int)]) (rest := []) S (c_L_driver l G ad1 (zcA ad1 H.size) H.size σ h0 hO (zsx xs (5 * i + 1)) (c_X6_driver l hst G ad1 (zcA ad1 H.size) H.size σ nd nr ns hX _ _ τ hCP hWF hB9 hi0 (fun q h => Or.inr h) (fun κ q1 q2 => hun κ nd q1 (by omega) (by rcases (by omega : κ = 17 ∨ κ = 18 ∨ κ = 19 ∨ κ = 20 ∨ κ = 21 ∨ κ = 22) with rfl | rfl | rfl | rfl | rfl | rfl <;> simp [zlive])) (zsx xs (5 * i + 1)) (zsx_g _ _)) (fun ad9 r u h => h.2.2.2.2.1 90 0 (by omega)) (fun E u h => h.2.elim (fun q => Or.inl q.1) (fun q => Or.inr q.1))) (vx_cwSW 3 hts gk_L_driver rfl rfl rfl (by decide +kernel) ⟨Nat.le_of_ble_eq_true rfl, Nat.le_of_ble_eq_true rfl⟩) hK hE hAA hNC hW1.toA (Nat.le_refl _) hS (zcA_sub hW1 hS (fun q h => h)) rfl hl.1.1 rfl (by decide) dL_law_360 ⟨by show cells + 8 ≤ 601024; omega, by show slots + 63 ≤ 7293034; omega⟩ (fun ad8 k v H1 locs1 h1 hW1a hz1 hk1 hS1 => ?_)
  refine zz_istore (lv' := [(5, .int (zi k)), (4, .int (zi ((5 * i : Nat) : Int))), (3, zr ad1 90 ((0 : Nat) : Int)), (2, zr ad2 30 ((0 : Nat) : Int)), (1, zr ad1 0 ((0 : Nat) : Int)), (0, .ref b)]) hx hb hl dL_law_363 (by decide) rfl (fun ls5 hl5 => ?_)
  have hW2a := hW2.other hd hk1
  have e8 : ad8 0 0 = ad1 0 0 ∧ ad8 90 0 = ad1 90 0 := by
    rcases h1 with ⟨-, r, u, hp, -⟩ | ⟨q, -⟩
    · exact ⟨hp.2.2.2.2.1 0 0 (by omega), hp.2.2.2.2.1 90 0 (by omega)⟩
    · rw [q]; exact ⟨rfl, rfl⟩
  rw [zr_to e8.1, zr_to e8.2] at hl5
  have hd8 := hd.grow hW1a hW2
  have hW1b := hW1a.reA (fun κ j a ha => zcA_sub hW1 hS (fun q h => h) a (hW1a.1 κ j a ha).2)
  refine zz_aload_n hx hb hl5 3 dL_law_365 rfl rfl ?_
  refine zl_rd (i := 5 * i) (j := 1) hx hb hXs hbl hL hS1 hl5 5 1 rfl rfl (by omega) dL_law_366 dL_law_367 dL_law_369 dL_law_370 dL_law_371 ?_
  refine zl_callV (T := TX7) (N := 42) (κ := 30) (v := ((0 : Nat) : Int)) (As := [.int (zi (zsx xs (5 * i + 1)))]) (rest := []) S (c_X7_driver l G ad2 (zcB ad2) H1.size τ hM nd g2.1 g1.1 (zsx xs (5 * i + 1)) (zsx_g _ _) ⟨g17.1, by omega⟩) (cwV 1 hts gk_X7_driver rfl rfl rfl (by decide +kernel) ⟨Nat.le_of_ble_eq_true rfl, Nat.le_of_ble_eq_true rfl⟩) hK hW2a.toB (zlN (hM 30 rfl)) rfl rfl (Nat.le_refl _) hS1 (zcB_sub hW2a) rfl hl5.1.1 rfl (by decide) dL_law_372 ⟨by show cells + 8 ≤ 601024; omega, by show slots + 63 ≤ 7293034; omega⟩ (fun b9 w H2 locs2 h2 hW2b hz2 hk2 hS2 => ?_)
  refine zz_istore (lv' := [(6, .int (zi b9)), (5, .int (zi k)), (4, .int (zi ((5 * i : Nat) : Int))), (3, zr ad8 90 ((0 : Nat) : Int)), (2, zr ad2 30 ((0 : Nat) : Int)), (1, zr ad8 0 ((0 : Nat) : Int)), (0, .ref b)]) hx hb hl5 dL_law_375 (by decide) rfl (fun ls6 hl6 => ?_)
  have hW1c := hW1b.otherB hd8 hk2
  have hW2c := hW2b.reA (fun κ j a ha => (hW2.1 κ j a ha).2)
  obtain ⟨q1, q2, nd9, nr9, ns9, qX, qU, -, q3, q4⟩ := L_driver (ad := ad1) (ad8 := ad8) (a := (zsx xs (5 * i + 1))) hX hun hCP hWF hi0 h1 h2
  exact zl_tail (P := 377) S hK hW1c hW2c hd8 (by rw [e8.2]; exact hO) hM hS2 hl6 rfl rfl rfl rfl q1 q2 (by omega) (by omega) dL_law_377 dL_law_378 dL_law_381 dL_law_383 dL_law_388 dL_law_390 dL_law_393 dL_law_394 dL_law_395 dL_law_396 dL_law_398 dL_law_399 dL_law_400 dL_law_405 (by decide) (fun H3 locs3 f1 f2 f3 => zw_widen (by omega) (by omega) (kk ad8 v w nd9 nr9 ns9 H3 locs3 ls6 ⟨f1, f2, hd8, qX, by rw [e8.2]; exact hO, qU, hM, q3, q4⟩ f3 (zh_sub hl6 [2, 3, 4, 5, 6] rfl)))

set_option maxHeartbeats 4000000 in
set_option maxRecDepth 100000 in
theorem w_airport {p : Program} {l : Launch} {e : Env} {s : State} {m : MethodId} {args : Array Value} {below : List Frame} {meth : Method} {c : Code} {H : Heap} {locs : List Loc} {cells slots : Nat} {Q : State → Prop} {ls : Array Slot} {G : zG} {ad1 ad2 : zA} {σ τ : zS} {nd nr ns b L i : Nat} {xs : Nat → Int32} (S : CallFix p m c cL_law 7 s args lw_tbl RL) (hst : l.stackTraces = false) (hXs : va_X b L xs s s.heap) (hbl : b < s.heap.size) (hL : L ≤ 2560) (hK : zK G s) (hE : zE (zA0 s) s) (hAA : zAA G s) (hNC : zNC s) (hV : zLV G ad1 ad2 (zA0 s) H ((i : Nat) : Int) σ τ nd nr ns) (hS : va_S (zA0 s) s.heap H locs) (hi : 5 * i + 5 ≤ L) (hcl : cells + 8 ≤ 601024) (hsl : slots + 63 ≤ 7293034) (hl : zh ls 7 [(4, .int (zi ((5 * i : Nat) : Int))), (3, zr ad1 90 ((0 : Nat) : Int)), (2, zr ad2 30 ((0 : Nat) : Int)), (1, zr ad1 0 ((0 : Nat) : Int)), (0, .ref b)])
    (kk : ∀ (ad9 : zA) (v w : zS) (nd9 nr9 ns9 : Nat) (H9 : Heap) (locs9 : List Loc) (ls9 : Array Slot), zLV G ad9 ad2 (zA0 s) H9 (((i : Nat) : Int) + 1) v w nd9 nr9 ns9 → va_S (zA0 s) s.heap H9 locs9 → zh ls9 7 [(4, .int (zi ((5 * i : Nat) : Int))), (3, zr ad9 90 ((0 : Nat) : Int)), (2, zr ad2 30 ((0 : Nat) : Int)), (1, zr ad9 0 ((0 : Nat) : Int)), (0, .ref b)] → W p l e room_1 s m args below meth c H9 locs9 (cells + 8) (slots + 63) Q (F0 m 1413 ls9 [])) : W p l e room_1 s m args below meth c H locs cells slots Q (F0 m 911 ls []) := by
  have S0 := S
  obtain ⟨hx, hb, hml, hown, hts⟩ := S0
  obtain ⟨hW1, hW2, hd, hX, hO, hun, hM, hCP, hWF⟩ := hV
  have hi9 : ((i : Nat) : Int) ≤ 511 := by omega
  have hi0 : 0 ≤ ((i : Nat) : Int) := by omega
  have hB9 : 1000 * ((i : Nat) : Int) ≤ 1000000 := by omega
  have h0 := hX 0 0 rfl
  have g1 := hWF.1.1
  have g2 := hWF.1.2.1
  have g17 := hWF.1.2.2.2.2.1
  refine zz_aload_n hx hb hl 3 dL_law_911 rfl rfl ?_
  refine zl_callV (T := TX6) (N := 10) (κ := 0) (v := ((0 : Nat) : Int)) (As := []) (rest := []) S (c_X6_airport l G ad1 (zcA ad1 H.size) H.size σ nd nr ns hX _ _ τ hCP hWF hB9) (cwV 0 hts gk_X6_airport rfl rfl rfl (by decide +kernel) ⟨Nat.le_of_ble_eq_true rfl, Nat.le_of_ble_eq_true rfl⟩) hK hW1.toA (zlN h0) rfl rfl (Nat.le_refl _) hS (zcA_sub hW1 hS (fun q h => h)) rfl hl.1.1 rfl (by decide) dL_law_912 ⟨by show cells + 0 ≤ 601024; omega, by show slots + 0 ≤ 7293034; omega⟩ (fun r v H1 locs1 h1 hW1a hz1 hk1 hS1 => ?_)
  have hW2a := hW2.other hd hk1
  have hW1b := hW1a.reA (fun κ j a ha => zcA_sub hW1 hS (fun q h => h) a (hW1a.1 κ j a ha).2)
  refine zz_aload_n hx hb hl 2 dL_law_915 rfl rfl ?_
  refine zl_callV (T := TX7) (N := 42) (κ := 30) (v := ((0 : Nat) : Int)) (As := []) (rest := [.int (zi r)]) S (c_X7_airport l G ad2 (zcB ad2) H1.size τ hM nd nr ns _ _ hWF hB9) (cwV 0 hts gk_X7_airport rfl rfl rfl (by decide +kernel) ⟨Nat.le_of_ble_eq_true rfl, Nat.le_of_ble_eq_true rfl⟩) hK hW2a.toB (zlN (hM 30 rfl)) rfl rfl (Nat.le_refl _) hS1 (zcB_sub hW2a) rfl hl.1.1 rfl (Nat.le_of_ble_eq_true rfl) dL_law_916 ⟨by show cells + 0 ≤ 601024; omega, by show slots + 0 ≤ 7293034; omega⟩ (fun b9 w H2 locs2 h2 hW2b hz2 hk2 hS2 => ?_)
  have hW1c := hW1b.otherB hd hk2
  have hW2c := hW2b.reA (fun κ j a ha => (hW2.1 κ j a ha).2)
  obtain ⟨q1, q3, q4⟩ := L_airport hWF h1 h2
  exact lv_icmp_eq (tgt := 1413) hx hb dL_law_919 (by decide) (fun _ => zw_widen (by omega) (by omega) (kk ad1 v w nd nr ns H2 locs2 ls ⟨hW1c, hW2c, hd, hX, hO, hun, hM, q3, q4⟩ hS2 hl)) (fun h => absurd (congrArg zi q1) h)
