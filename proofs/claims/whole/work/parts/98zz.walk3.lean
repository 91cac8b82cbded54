/-! THE LAW'S CASES, the rest -/
set_option maxHeartbeats 4000000 in
set_option maxRecDepth 100000 in
theorem w_bestAnew {p : Program} {l : Launch} {e : Env} {s : State} {m : MethodId} {args : Array Value} {below : List Frame} {meth : Method} {c : Code} {H : Heap} {locs : List Loc} {cells slots : Nat} {Q : State → Prop} {ls : Array Slot} {G : zG} {ad1 ad2 : zA} {σ τ : zS} {nd nr ns b L i : Nat} {xs : Nat → Int32} (S : CallFix p m c cL_law 7 s args lw_tbl RL) (hst : l.stackTraces = false) (hXs : va_X b L xs s s.heap) (hbl : b < s.heap.size) (hL : L ≤ 2560) (hK : zK G s) (hE : zE (zA0 s) s) (hAA : zAA G s) (hNC : zNC s) (hV : zLV G ad1 ad2 (zA0 s) H ((i : Nat) : Int) σ τ nd nr ns) (hS : va_S (zA0 s) s.heap H locs) (hi : 5 * i + 5 ≤ L) (hcl : cells + 8 ≤ 601024) (hsl : slots + 63 ≤ 7293034) (hl : zh ls 7 [(4, .int (zi ((5 * i : Nat) : Int))), (3, zr ad1 90 ((0 : Nat) : Int)), (2, zr ad2 30 ((0 : Nat) : Int)), (1, zr ad1 0 ((0 : Nat) : Int)), (0, .ref b)])
    (kk : ∀ (ad9 : zA) (v w : zS) (nd9 nr9 ns9 : Nat) (H9 : Heap) (locs9 : List Loc) (ls9 : Array Slot), zLV G ad9 ad2 (zA0 s) H9 (((i : Nat) : Int) + 1) v w nd9 nr9 ns9 → va_S (zA0 s) s.heap H9 locs9 → zh ls9 7 [(4, .int (zi ((5 * i : Nat) : Int))), (3, zr ad9 90 ((0 : Nat) : Int)), (2, zr ad2 30 ((0 : Nat) : Int)), (1, zr ad9 0 ((0 : Nat) : Int)), (0, .ref b)] → W p l e room_1 s m args below meth c H9 locs9 (cells + 8) (slots + 63) Q (F0 m 1413 ls9 [])) : W p l e room_1 s m args below meth c H locs cells slots Q (F0 m 968 ls []) := by
  have S0 := S
  obtain ⟨hx, hb, hml, hown, hts⟩ := S0
  obtain ⟨hW1, hW2, hd, hX, hO, hun, hM, hCP, hWF⟩ := hV
  have hi9 : ((i : Nat) : Int) ≤ 511 := by omega
  have hi0 : 0 ≤ ((i : Nat) : Int) := by omega
  have hB9 : 1000 * ((i : Nat) : Int) ≤ 1000000 := by omega
  have h0 := hX 0 0 rfl
  have g1 := hWF.1.1
  have g2 := hWF.1.2.1
  have g17 := hWF.1.2.2.2.2.1
  refine zz_aload_n hx hb hl 3 dL_law_968 rfl rfl ?_
  refine zz_aload_n hx hb hl 1 dL_law_969 rfl rfl ?_
  obtain ⟨⟨y1, y2, y3, y4, y5, y6⟩, y7, y8, y9, y10, y11⟩ := CP_bh hCP hWF
  refine zl_callH (As := [zr ad1 0 ((0 : Nat) : Int), zr ad1 90 ((0 : Nat) : Int)]) (rest := []) S (c_L_bestAnew l G ad1 (zcA ad1 H.size) H.size σ h0 hO  (c_X6_bestAnew l hst G ad1 (zcA ad1 H.size) H.size σ nd nr hX y1 y2 y3 y4 y5 y6 y7 y8 y9 y10 y11) (fun E u h => h.1)) (vx_cwSW 2 hts gk_L_bestAnew rfl rfl rfl (by decide +kernel) ⟨Nat.le_of_ble_eq_true rfl, Nat.le_of_ble_eq_true rfl⟩) hK hE hAA hNC hW1.toA (Nat.le_refl _) hS (zcA_sub hW1 hS (fun q h => h)) rfl hl.1.1 rfl (by decide) dL_law_970 ⟨by show cells + 1 ≤ 601024; omega, by show slots + 6 ≤ 7293034; omega⟩ (fun k v H1 locs1 h1 hW1a hz1 hk1 hS1 => ?_)
  refine zz_istore (lv' := [(5, .int (zi k)), (4, .int (zi ((5 * i : Nat) : Int))), (3, zr ad1 90 ((0 : Nat) : Int)), (2, zr ad2 30 ((0 : Nat) : Int)), (1, zr ad1 0 ((0 : Nat) : Int)), (0, .ref b)]) hx hb hl dL_law_973 (by decide) rfl (fun ls5 hl5 => ?_)
  have hW2a := hW2.other hd hk1
  have hW1b := hW1a.reA (fun κ j a ha => zcA_sub hW1 hS (fun q h => h) a (hW1a.1 κ j a ha).2)
  refine zz_aload_n hx hb hl5 3 dL_law_975 rfl rfl ?_
  refine zl_callV (T := TX7) (N := 42) (κ := 30) (v := ((0 : Nat) : Int)) (As := []) (rest := []) S (c_X7_bestAnew l G ad2 (zcB ad2) H1.size τ hM nd nr ns _ _ hWF hB9   ) (cwV 0 hts gk_X7_bestAnew rfl rfl rfl (by decide +kernel) ⟨Nat.le_of_ble_eq_true rfl, Nat.le_of_ble_eq_true rfl⟩) hK hW2a.toB (zlN (hM 30 rfl)) rfl rfl (Nat.le_refl _) hS1 (zcB_sub hW2a) rfl hl5.1.1 rfl (by decide) dL_law_976 ⟨by show cells + 1 ≤ 601024; omega, by show slots + 6 ≤ 7293034; omega⟩ (fun b9 w H2 locs2 h2 hW2b hz2 hk2 hS2 => ?_)
  refine zz_istore (lv' := [(6, .int (zi b9)), (5, .int (zi k)), (4, .int (zi ((5 * i : Nat) : Int))), (3, zr ad1 90 ((0 : Nat) : Int)), (2, zr ad2 30 ((0 : Nat) : Int)), (1, zr ad1 0 ((0 : Nat) : Int)), (0, .ref b)]) hx hb hl5 dL_law_979 (by decide) rfl (fun ls6 hl6 => ?_)
  have hW1c := hW1b.otherB hd hk2
  have hW2c := hW2b.reA (fun κ j a ha => (hW2.1 κ j a ha).2)
  obtain ⟨q1, q2, ns9, q3, q4⟩ := L_bestAnew  hCP hWF hi0 h1 h2
  exact zl_tail (P := 981) S hK hW1c hW2c hd hO hM hS2 hl6 rfl rfl rfl rfl q1 q2 (by omega) (by omega) dL_law_981 dL_law_982 dL_law_985 dL_law_987 dL_law_992 dL_law_994 dL_law_997 dL_law_998 dL_law_999 dL_law_1000 dL_law_1002 dL_law_1003 dL_law_1004 dL_law_1009 (by decide) (fun H3 locs3 f1 f2 f3 => zw_widen (by omega) (by omega) (kk ad1 v w nd nr ns9 H3 locs3 ls6 ⟨f1, f2, hd, hX, hO, hun, hM, q3, q4⟩ f3 (zh_sub hl6 [2, 3, 4, 5, 6] rfl)))

set_option maxHeartbeats 4000000 in
set_option maxRecDepth 100000 in
theorem w_match {p : Program} {l : Launch} {e : Env} {s : State} {m : MethodId} {args : Array Value} {below : List Frame} {meth : Method} {c : Code} {H : Heap} {locs : List Loc} {cells slots : Nat} {Q : State → Prop} {ls : Array Slot} {G : zG} {ad1 ad2 : zA} {σ τ : zS} {nd nr ns b L i : Nat} {xs : Nat → Int32} (S : CallFix p m c cL_law 7 s args lw_tbl RL) (hst : l.stackTraces = false) (hXs : va_X b L xs s s.heap) (hbl : b < s.heap.size) (hL : L ≤ 2560) (hK : zK G s) (hE : zE (zA0 s) s) (hAA : zAA G s) (hNC : zNC s) (hV : zLV G ad1 ad2 (zA0 s) H ((i : Nat) : Int) σ τ nd nr ns) (hS : va_S (zA0 s) s.heap H locs) (hi : 5 * i + 5 ≤ L) (hcl : cells + 8 ≤ 601024) (hsl : slots + 63 ≤ 7293034) (hl : zh ls 7 [(4, .int (zi ((5 * i : Nat) : Int))), (3, zr ad1 90 ((0 : Nat) : Int)), (2, zr ad2 30 ((0 : Nat) : Int)), (1, zr ad1 0 ((0 : Nat) : Int)), (0, .ref b)])
    (kk : ∀ (ad9 : zA) (v w : zS) (nd9 nr9 ns9 : Nat) (H9 : Heap) (locs9 : List Loc) (ls9 : Array Slot), zLV G ad9 ad2 (zA0 s) H9 (((i : Nat) : Int) + 1) v w nd9 nr9 ns9 → va_S (zA0 s) s.heap H9 locs9 → zh ls9 7 [(4, .int (zi ((5 * i : Nat) : Int))), (3, zr ad9 90 ((0 : Nat) : Int)), (2, zr ad2 30 ((0 : Nat) : Int)), (1, zr ad9 0 ((0 : Nat) : Int)), (0, .ref b)] → W p l e room_1 s m args below meth c H9 locs9 (cells + 8) (slots + 63) Q (F0 m 1413 ls9 [])) : W p l e room_1 s m args below meth c H locs cells slots Q (F0 m 1012 ls []) := by
  have S0 := S
  obtain ⟨hx, hb, hml, hown, hts⟩ := S0
  obtain ⟨hW1, hW2, hd, hX, hO, hun, hM, hCP, hWF⟩ := hV
  have hi9 : ((i : Nat) : Int) ≤ 511 := by omega
  have hi0 : 0 ≤ ((i : Nat) : Int) := by omega
  have hB9 : 1000 * ((i : Nat) : Int) ≤ 1000000 := by omega
  have h0 := hX 0 0 rfl
  have g1 := hWF.1.1
  have g2 := hWF.1.2.1
  have g17 := hWF.1.2.2.2.2.1
  refine zz_aload_n hx hb hl 3 dL_law_1012 rfl rfl ?_
  refine zz_aload_n hx hb hl 1 dL_law_1013 rfl rfl ?_
  refine zl_callH (As := [zr ad1 0 ((0 : Nat) : Int), zr ad1 90 ((0 : Nat) : Int)]) (rest := []) S (c_L_match l G ad1 (zcA ad1 H.size) H.size σ h0 hO  (c_X6_match l hst G ad1 (zcA ad1 H.size) H.size σ nd nr ns hX _ _ τ hCP hWF hB9   ) (fun E u h => h.1)) (vx_cwSW 2 hts gk_L_match rfl rfl rfl (by decide +kernel) ⟨Nat.le_of_ble_eq_true rfl, Nat.le_of_ble_eq_true rfl⟩) hK hE hAA hNC hW1.toA (Nat.le_refl _) hS (zcA_sub hW1 hS (fun q h => h)) rfl hl.1.1 rfl (by decide) dL_law_1014 ⟨by show cells + 1 ≤ 601024; omega, by show slots + 6 ≤ 7293034; omega⟩ (fun k v H1 locs1 h1 hW1a hz1 hk1 hS1 => ?_)
  refine zz_istore (lv' := [(5, .int (zi k)), (4, .int (zi ((5 * i : Nat) : Int))), (3, zr ad1 90 ((0 : Nat) : Int)), (2, zr ad2 30 ((0 : Nat) : Int)), (1, zr ad1 0 ((0 : Nat) : Int)), (0, .ref b)]) hx hb hl dL_law_1017 (by decide) rfl (fun ls5 hl5 => ?_)
  have hW2a := hW2.other hd hk1
  have hW1b := hW1a.reA (fun κ j a ha => zcA_sub hW1 hS (fun q h => h) a (hW1a.1 κ j a ha).2)
  refine zz_aload_n hx hb hl5 3 dL_law_1019 rfl rfl ?_
  refine zl_callV (T := TX7) (N := 42) (κ := 30) (v := ((0 : Nat) : Int)) (As := []) (rest := []) S (c_X7_match l G ad2 (zcB ad2) H1.size τ hM nd nr ns _ _ hWF hB9   ) (cwV 0 hts gk_X7_match rfl rfl rfl (by decide +kernel) ⟨Nat.le_of_ble_eq_true rfl, Nat.le_of_ble_eq_true rfl⟩) hK hW2a.toB (zlN (hM 30 rfl)) rfl rfl (Nat.le_refl _) hS1 (zcB_sub hW2a) rfl hl5.1.1 rfl (by decide) dL_law_1020 ⟨by show cells + 1 ≤ 601024; omega, by show slots + 6 ≤ 7293034; omega⟩ (fun b9 w H2 locs2 h2 hW2b hz2 hk2 hS2 => ?_)
  refine zz_istore (lv' := [(6, .int (zi b9)), (5, .int (zi k)), (4, .int (zi ((5 * i : Nat) : Int))), (3, zr ad1 90 ((0 : Nat) : Int)), (2, zr ad2 30 ((0 : Nat) : Int)), (1, zr ad1 0 ((0 : Nat) : Int)), (0, .ref b)]) hx hb hl5 dL_law_1023 (by decide) rfl (fun ls6 hl6 => ?_)
  have hW1c := hW1b.otherB hd hk2
  have hW2c := hW2b.reA (fun κ j a ha => (hW2.1 κ j a ha).2)
  obtain ⟨q1, q2, ns9, q3, q4⟩ := L_match  hCP hWF hi0 h1 h2
  exact zl_tail (P := 1025) S hK hW1c hW2c hd hO hM hS2 hl6 rfl rfl rfl rfl q1 q2 (by omega) (by omega) dL_law_1025 dL_law_1026 dL_law_1029 dL_law_1031 dL_law_1036 dL_law_1038 dL_law_1041 dL_law_1042 dL_law_1043 dL_law_1044 dL_law_1046 dL_law_1047 dL_law_1048 dL_law_1053 (by decide) (fun H3 locs3 f1 f2 f3 => zw_widen (by omega) (by omega) (kk ad1 v w nd nr ns9 H3 locs3 ls6 ⟨f1, f2, hd, hX, hO, hun, hM, q3, q4⟩ f3 (zh_sub hl6 [2, 3, 4, 5, 6] rfl)))

set_option maxHeartbeats 4000000 in
set_option maxRecDepth 100000 in
theorem w_requestIs {p : Program} {l : Launch} {e : Env} {s : State} {m : MethodId} {args : Array Value} {below : List Frame} {meth : Method} {c : Code} {H : Heap} {locs : List Loc} {cells slots : Nat} {Q : State → Prop} {ls : Array Slot} {G : zG} {ad1 ad2 : zA} {σ τ : zS} {nd nr ns b L i : Nat} {xs : Nat → Int32} (S : CallFix p m c cL_law 7 s args lw_tbl RL) (hst : l.stackTraces = false) (hXs : va_X b L xs s s.heap) (hbl : b < s.heap.size) (hL : L ≤ 2560) (hK : zK G s) (hE : zE (zA0 s) s) (hAA : zAA G s) (hNC : zNC s) (hV : zLV G ad1 ad2 (zA0 s) H ((i : Nat) : Int) σ τ nd nr ns) (hS : va_S (zA0 s) s.heap H locs) (hi : 5 * i + 5 ≤ L) (hcl : cells + 8 ≤ 601024) (hsl : slots + 63 ≤ 7293034) (hl : zh ls 7 [(4, .int (zi ((5 * i : Nat) : Int))), (3, zr ad1 90 ((0 : Nat) : Int)), (2, zr ad2 30 ((0 : Nat) : Int)), (1, zr ad1 0 ((0 : Nat) : Int)), (0, .ref b)])
    (kk : ∀ (ad9 : zA) (v w : zS) (nd9 nr9 ns9 : Nat) (H9 : Heap) (locs9 : List Loc) (ls9 : Array Slot), zLV G ad9 ad2 (zA0 s) H9 (((i : Nat) : Int) + 1) v w nd9 nr9 ns9 → va_S (zA0 s) s.heap H9 locs9 → zh ls9 7 [(4, .int (zi ((5 * i : Nat) : Int))), (3, zr ad9 90 ((0 : Nat) : Int)), (2, zr ad2 30 ((0 : Nat) : Int)), (1, zr ad9 0 ((0 : Nat) : Int)), (0, .ref b)] → W p l e room_1 s m args below meth c H9 locs9 (cells + 8) (slots + 63) Q (F0 m 1413 ls9 [])) : W p l e room_1 s m args below meth c H locs cells slots Q (F0 m 1069 ls []) := by
  have S0 := S
  obtain ⟨hx, hb, hml, hown, hts⟩ := S0
  obtain ⟨hW1, hW2, hd, hX, hO, hun, hM, hCP, hWF⟩ := hV
  have hi9 : ((i : Nat) : Int) ≤ 511 := by omega
  have hi0 : 0 ≤ ((i : Nat) : Int) := by omega
  have hB9 : 1000 * ((i : Nat) : Int) ≤ 1000000 := by omega
  have h0 := hX 0 0 rfl
  have g1 := hWF.1.1
  have g2 := hWF.1.2.1
  have g17 := hWF.1.2.2.2.2.1
  refine zz_aload_n hx hb hl 3 dL_law_1069 rfl rfl ?_
  refine zl_rd (i := 5 * i) (j := 1) hx hb hXs hbl hL hS hl 4 0 rfl rfl (by omega) dL_law_1070 dL_law_1071 dL_law_1073 dL_law_1074 dL_law_1075 ?_
  refine zl_rd (i := 5 * i) (j := 2) hx hb hXs hbl hL hS hl 4 0 rfl rfl (by omega) dL_law_1076 dL_law_1077 dL_law_1079 dL_law_1080 dL_law_1081 ?_
  refine zz_aload_n hx hb hl 1 dL_law_1082 rfl rfl ?_
  refine zl_callH (As := [zr ad1 0 ((0 : Nat) : Int), .int (zi (zsx xs (5 * i + 1))), .int (zi (zsx xs (5 * i + 2))), zr ad1 90 ((0 : Nat) : Int)]) (rest := []) S (c_L_requestIs l G ad1 (zcA ad1 H.size) H.size σ h0 hO (zsx xs (5 * i + 1)) (zsx xs (5 * i + 2)) (c_X6_requestIs l hst G ad1 (zcA ad1 H.size) H.size σ nd nr ns hX _ _ τ hCP hWF hB9  (zsx xs (5 * i + 1)) (zsx xs (5 * i + 2)) (zsx_g _ _) (zsx_g _ _)) (fun E u h => h.2.elim (fun q => Or.inl q.1) (fun q => Or.inr q.1))) (vx_cwSW 4 hts gk_L_requestIs rfl rfl rfl (by decide +kernel) ⟨Nat.le_of_ble_eq_true rfl, Nat.le_of_ble_eq_true rfl⟩) hK hE hAA hNC hW1.toA (Nat.le_refl _) hS (zcA_sub hW1 hS (fun q h => h)) rfl hl.1.1 rfl (by decide) dL_law_1083 ⟨by show cells + 2 ≤ 601024; omega, by show slots + 12 ≤ 7293034; omega⟩ (fun k v H1 locs1 h1 hW1a hz1 hk1 hS1 => ?_)
  refine zz_istore (lv' := [(5, .int (zi k)), (4, .int (zi ((5 * i : Nat) : Int))), (3, zr ad1 90 ((0 : Nat) : Int)), (2, zr ad2 30 ((0 : Nat) : Int)), (1, zr ad1 0 ((0 : Nat) : Int)), (0, .ref b)]) hx hb hl dL_law_1086 (by decide) rfl (fun ls5 hl5 => ?_)
  have hW2a := hW2.other hd hk1
  have hW1b := hW1a.reA (fun κ j a ha => zcA_sub hW1 hS (fun q h => h) a (hW1a.1 κ j a ha).2)
  refine zz_aload_n hx hb hl5 3 dL_law_1088 rfl rfl ?_
  refine zl_rd (i := 5 * i) (j := 1) hx hb hXs hbl hL hS1 hl5 5 1 rfl rfl (by omega) dL_law_1089 dL_law_1090 dL_law_1092 dL_law_1093 dL_law_1094 ?_
  refine zl_rd (i := 5 * i) (j := 2) hx hb hXs hbl hL hS1 hl5 5 1 rfl rfl (by omega) dL_law_1095 dL_law_1096 dL_law_1098 dL_law_1099 dL_law_1100 ?_
  refine zl_callV (T := TX7) (N := 42) (κ := 30) (v := ((0 : Nat) : Int)) (As := [.int (zi (zsx xs (5 * i + 1))), .int (zi (zsx xs (5 * i + 2)))]) (rest := []) S (c_X7_requestIs l G ad2 (zcB ad2) H1.size τ hM  (zsx xs (5 * i + 1)) (zsx xs (5 * i + 2)) (zsx_g _ _) (zsx_g _ _) ⟨by omega, by omega⟩) (cwV 2 hts gk_X7_requestIs rfl rfl rfl (by decide +kernel) ⟨Nat.le_of_ble_eq_true rfl, Nat.le_of_ble_eq_true rfl⟩) hK hW2a.toB (zlN (hM 30 rfl)) rfl rfl (Nat.le_refl _) hS1 (zcB_sub hW2a) rfl hl5.1.1 rfl (by decide) dL_law_1101 ⟨by show cells + 2 ≤ 601024; omega, by show slots + 12 ≤ 7293034; omega⟩ (fun b9 w H2 locs2 h2 hW2b hz2 hk2 hS2 => ?_)
  refine zz_istore (lv' := [(6, .int (zi b9)), (5, .int (zi k)), (4, .int (zi ((5 * i : Nat) : Int))), (3, zr ad1 90 ((0 : Nat) : Int)), (2, zr ad2 30 ((0 : Nat) : Int)), (1, zr ad1 0 ((0 : Nat) : Int)), (0, .ref b)]) hx hb hl5 dL_law_1104 (by decide) rfl (fun ls6 hl6 => ?_)
  have hW1c := hW1b.otherB hd hk2
  have hW2c := hW2b.reA (fun κ j a ha => (hW2.1 κ j a ha).2)
  obtain ⟨q1, q2, ns9, q3, q4⟩ := L_requestIs (a := (zsx xs (5 * i + 1))) (w9 := (zsx xs (5 * i + 2))) hCP hWF hi0 h1 h2
  exact zl_tail (P := 1106) S hK hW1c hW2c hd hO hM hS2 hl6 rfl rfl rfl rfl q1 q2 (by omega) (by omega) dL_law_1106 dL_law_1107 dL_law_1110 dL_law_1112 dL_law_1117 dL_law_1119 dL_law_1122 dL_law_1123 dL_law_1124 dL_law_1125 dL_law_1127 dL_law_1128 dL_law_1129 dL_law_1134 (by decide) (fun H3 locs3 f1 f2 f3 => zw_widen (by omega) (by omega) (kk ad1 v w nd nr ns9 H3 locs3 ls6 ⟨f1, f2, hd, hX, hO, hun, hM, q3, q4⟩ f3 (zh_sub hl6 [2, 3, 4, 5, 6] rfl)))

set_option maxHeartbeats 4000000 in
set_option maxRecDepth 100000 in
theorem w_driverIs {p : Program} {l : Launch} {e : Env} {s : State} {m : MethodId} {args : Array Value} {below : List Frame} {meth : Method} {c : Code} {H : Heap} {locs : List Loc} {cells slots : Nat} {Q : State → Prop} {ls : Array Slot} {G : zG} {ad1 ad2 : zA} {σ τ : zS} {nd nr ns b L i : Nat} {xs : Nat → Int32} (S : CallFix p m c cL_law 7 s args lw_tbl RL) (hst : l.stackTraces = false) (hXs : va_X b L xs s s.heap) (hbl : b < s.heap.size) (hL : L ≤ 2560) (hK : zK G s) (hE : zE (zA0 s) s) (hAA : zAA G s) (hNC : zNC s) (hV : zLV G ad1 ad2 (zA0 s) H ((i : Nat) : Int) σ τ nd nr ns) (hS : va_S (zA0 s) s.heap H locs) (hi : 5 * i + 5 ≤ L) (hcl : cells + 8 ≤ 601024) (hsl : slots + 63 ≤ 7293034) (hl : zh ls 7 [(4, .int (zi ((5 * i : Nat) : Int))), (3, zr ad1 90 ((0 : Nat) : Int)), (2, zr ad2 30 ((0 : Nat) : Int)), (1, zr ad1 0 ((0 : Nat) : Int)), (0, .ref b)])
    (kk : ∀ (ad9 : zA) (v w : zS) (nd9 nr9 ns9 : Nat) (H9 : Heap) (locs9 : List Loc) (ls9 : Array Slot), zLV G ad9 ad2 (zA0 s) H9 (((i : Nat) : Int) + 1) v w nd9 nr9 ns9 → va_S (zA0 s) s.heap H9 locs9 → zh ls9 7 [(4, .int (zi ((5 * i : Nat) : Int))), (3, zr ad9 90 ((0 : Nat) : Int)), (2, zr ad2 30 ((0 : Nat) : Int)), (1, zr ad9 0 ((0 : Nat) : Int)), (0, .ref b)] → W p l e room_1 s m args below meth c H9 locs9 (cells + 8) (slots + 63) Q (F0 m 1413 ls9 [])) : W p l e room_1 s m args below meth c H locs cells slots Q (F0 m 1137 ls []) := by
  have S0 := S
  obtain ⟨hx, hb, hml, hown, hts⟩ := S0
  obtain ⟨hW1, hW2, hd, hX, hO, hun, hM, hCP, hWF⟩ := hV
  have hi9 : ((i : Nat) : Int) ≤ 511 := by omega
  have hi0 : 0 ≤ ((i : Nat) : Int) := by omega
  have hB9 : 1000 * ((i : Nat) : Int) ≤ 1000000 := by omega
  have h0 := hX 0 0 rfl
  have g1 := hWF.1.1
  have g2 := hWF.1.2.1
  have g17 := hWF.1.2.2.2.2.1
  refine zz_aload_n hx hb hl 3 dL_law_1137 rfl rfl ?_
  refine zl_rd (i := 5 * i) (j := 1) hx hb hXs hbl hL hS hl 4 0 rfl rfl (by omega) dL_law_1138 dL_law_1139 dL_law_1141 dL_law_1142 dL_law_1143 ?_
  refine zl_rd (i := 5 * i) (j := 2) hx hb hXs hbl hL hS hl 4 0 rfl rfl (by omega) dL_law_1144 dL_law_1145 dL_law_1147 dL_law_1148 dL_law_1149 ?_
  refine zz_aload_n hx hb hl 1 dL_law_1150 rfl rfl ?_
  refine zl_callH (As := [zr ad1 0 ((0 : Nat) : Int), .int (zi (zsx xs (5 * i + 1))), .int (zi (zsx xs (5 * i + 2))), zr ad1 90 ((0 : Nat) : Int)]) (rest := []) S (c_L_driverIs l G ad1 (zcA ad1 H.size) H.size σ h0 hO (zsx xs (5 * i + 1)) (zsx xs (5 * i + 2)) (c_X6_driverIs l hst G ad1 (zcA ad1 H.size) H.size σ nd nr ns hX _ _ τ hCP hWF hB9  (zsx xs (5 * i + 1)) (zsx xs (5 * i + 2)) (zsx_g _ _) (zsx_g _ _)) (fun E u h => h.2.elim (fun q => Or.inl q.1) (fun q => Or.inr q.1))) (vx_cwSW 4 hts gk_L_driverIs rfl rfl rfl (by decide +kernel) ⟨Nat.le_of_ble_eq_true rfl, Nat.le_of_ble_eq_true rfl⟩) hK hE hAA hNC hW1.toA (Nat.le_refl _) hS (zcA_sub hW1 hS (fun q h => h)) rfl hl.1.1 rfl (by decide) dL_law_1151 ⟨by show cells + 2 ≤ 601024; omega, by show slots + 12 ≤ 7293034; omega⟩ (fun k v H1 locs1 h1 hW1a hz1 hk1 hS1 => ?_)
  refine zz_istore (lv' := [(5, .int (zi k)), (4, .int (zi ((5 * i : Nat) : Int))), (3, zr ad1 90 ((0 : Nat) : Int)), (2, zr ad2 30 ((0 : Nat) : Int)), (1, zr ad1 0 ((0 : Nat) : Int)), (0, .ref b)]) hx hb hl dL_law_1154 (by decide) rfl (fun ls5 hl5 => ?_)
  have hW2a := hW2.other hd hk1
  have hW1b := hW1a.reA (fun κ j a ha => zcA_sub hW1 hS (fun q h => h) a (hW1a.1 κ j a ha).2)
  refine zz_aload_n hx hb hl5 3 dL_law_1156 rfl rfl ?_
  refine zl_rd (i := 5 * i) (j := 1) hx hb hXs hbl hL hS1 hl5 5 1 rfl rfl (by omega) dL_law_1157 dL_law_1158 dL_law_1160 dL_law_1161 dL_law_1162 ?_
  refine zl_rd (i := 5 * i) (j := 2) hx hb hXs hbl hL hS1 hl5 5 1 rfl rfl (by omega) dL_law_1163 dL_law_1164 dL_law_1166 dL_law_1167 dL_law_1168 ?_
  refine zl_callV (T := TX7) (N := 42) (κ := 30) (v := ((0 : Nat) : Int)) (As := [.int (zi (zsx xs (5 * i + 1))), .int (zi (zsx xs (5 * i + 2)))]) (rest := []) S (c_X7_driverIs l G ad2 (zcB ad2) H1.size τ hM  (zsx xs (5 * i + 1)) (zsx xs (5 * i + 2)) (zsx_g _ _) (zsx_g _ _) ⟨by omega, by omega⟩ (fun d hd9 => by have z := hWF.2.1 d (by omega); have y9 := yDN_le τ nr; exact ⟨⟨z.2.2.2.2.2.1.1.1, by have y := z.2.2.2.2.2.1.1.2; omega⟩, z.2.2.2.2.2.1.2⟩)) (cwV 2 hts gk_X7_driverIs rfl rfl rfl (by decide +kernel) ⟨Nat.le_of_ble_eq_true rfl, Nat.le_of_ble_eq_true rfl⟩) hK hW2a.toB (zlN (hM 30 rfl)) rfl rfl (Nat.le_refl _) hS1 (zcB_sub hW2a) rfl hl5.1.1 rfl (by decide) dL_law_1169 ⟨by show cells + 2 ≤ 601024; omega, by show slots + 12 ≤ 7293034; omega⟩ (fun b9 w H2 locs2 h2 hW2b hz2 hk2 hS2 => ?_)
  refine zz_istore (lv' := [(6, .int (zi b9)), (5, .int (zi k)), (4, .int (zi ((5 * i : Nat) : Int))), (3, zr ad1 90 ((0 : Nat) : Int)), (2, zr ad2 30 ((0 : Nat) : Int)), (1, zr ad1 0 ((0 : Nat) : Int)), (0, .ref b)]) hx hb hl5 dL_law_1172 (by decide) rfl (fun ls6 hl6 => ?_)
  have hW1c := hW1b.otherB hd hk2
  have hW2c := hW2b.reA (fun κ j a ha => (hW2.1 κ j a ha).2)
  obtain ⟨q1, q2, ns9, q3, q4⟩ := L_driverIs (a := (zsx xs (5 * i + 1))) (w9 := (zsx xs (5 * i + 2))) hCP hWF hi0 h1 h2
  exact zl_tail (P := 1174) S hK hW1c hW2c hd hO hM hS2 hl6 rfl rfl rfl rfl q1 q2 (by omega) (by omega) dL_law_1174 dL_law_1175 dL_law_1178 dL_law_1180 dL_law_1185 dL_law_1187 dL_law_1190 dL_law_1191 dL_law_1192 dL_law_1193 dL_law_1195 dL_law_1196 dL_law_1197 dL_law_1202 (by decide) (fun H3 locs3 f1 f2 f3 => zw_widen (by omega) (by omega) (kk ad1 v w nd nr ns9 H3 locs3 ls6 ⟨f1, f2, hd, hX, hO, hun, hM, q3, q4⟩ f3 (zh_sub hl6 [2, 3, 4, 5, 6] rfl)))

set_option maxHeartbeats 4000000 in
set_option maxRecDepth 100000 in
theorem w_stop {p : Program} {l : Launch} {e : Env} {s : State} {m : MethodId} {args : Array Value} {below : List Frame} {meth : Method} {c : Code} {H : Heap} {locs : List Loc} {cells slots : Nat} {Q : State → Prop} {ls : Array Slot} {G : zG} {ad1 ad2 : zA} {σ τ : zS} {nd nr ns b L i : Nat} {xs : Nat → Int32} (S : CallFix p m c cL_law 7 s args lw_tbl RL) (hst : l.stackTraces = false) (hXs : va_X b L xs s s.heap) (hbl : b < s.heap.size) (hL : L ≤ 2560) (hK : zK G s) (hE : zE (zA0 s) s) (hAA : zAA G s) (hNC : zNC s) (hV : zLV G ad1 ad2 (zA0 s) H ((i : Nat) : Int) σ τ nd nr ns) (hS : va_S (zA0 s) s.heap H locs) (hi : 5 * i + 5 ≤ L) (hcl : cells + 8 ≤ 601024) (hsl : slots + 63 ≤ 7293034) (hl : zh ls 7 [(4, .int (zi ((5 * i : Nat) : Int))), (3, zr ad1 90 ((0 : Nat) : Int)), (2, zr ad2 30 ((0 : Nat) : Int)), (1, zr ad1 0 ((0 : Nat) : Int)), (0, .ref b)])
    (kk : ∀ (ad9 : zA) (v w : zS) (nd9 nr9 ns9 : Nat) (H9 : Heap) (locs9 : List Loc) (ls9 : Array Slot), zLV G ad9 ad2 (zA0 s) H9 (((i : Nat) : Int) + 1) v w nd9 nr9 ns9 → va_S (zA0 s) s.heap H9 locs9 → zh ls9 7 [(4, .int (zi ((5 * i : Nat) : Int))), (3, zr ad9 90 ((0 : Nat) : Int)), (2, zr ad2 30 ((0 : Nat) : Int)), (1, zr ad9 0 ((0 : Nat) : Int)), (0, .ref b)] → W p l e room_1 s m args below meth c H9 locs9 (cells + 8) (slots + 63) Q (F0 m 1413 ls9 [])) : W p l e room_1 s m args below meth c H locs cells slots Q (F0 m 1205 ls []) := by
  have S0 := S
  obtain ⟨hx, hb, hml, hown, hts⟩ := S0
  obtain ⟨hW1, hW2, hd, hX, hO, hun, hM, hCP, hWF⟩ := hV
  have hi9 : ((i : Nat) : Int) ≤ 511 := by omega
  have hi0 : 0 ≤ ((i : Nat) : Int) := by omega
  have hB9 : 1000 * ((i : Nat) : Int) ≤ 1000000 := by omega
  have h0 := hX 0 0 rfl
  have g1 := hWF.1.1
  have g2 := hWF.1.2.1
  have g17 := hWF.1.2.2.2.2.1
  refine zz_aload_n hx hb hl 3 dL_law_1205 rfl rfl ?_
  refine zl_rd (i := 5 * i) (j := 1) hx hb hXs hbl hL hS hl 4 0 rfl rfl (by omega) dL_law_1206 dL_law_1207 dL_law_1209 dL_law_1210 dL_law_1211 ?_
  refine zl_rd (i := 5 * i) (j := 2) hx hb hXs hbl hL hS hl 4 0 rfl rfl (by omega) dL_law_1212 dL_law_1213 dL_law_1215 dL_law_1216 dL_law_1217 ?_
  refine zl_rd (i := 5 * i) (j := 3) hx hb hXs hbl hL hS hl 4 0 rfl rfl (by omega) dL_law_1218 dL_law_1219 dL_law_1221 dL_law_1222 dL_law_1223 ?_
  refine zl_nz hx hb (zsx_g _ _) dL_law_1224 dL_law_1227 dL_law_1228 dL_law_1231 ?_
  refine zz_aload_n hx hb hl 1 dL_law_1232 rfl rfl ?_
  refine zl_callH (As := [zr ad1 0 ((0 : Nat) : Int), .int (zi (zsx xs (5 * i + 1))), .int (zi (zsx xs (5 * i + 2))), .int (zi (zb (¬ zsx xs (5 * i + 3) = 0))), zr ad1 90 ((0 : Nat) : Int)]) (rest := []) S (c_L_stop l G ad1 (zcA ad1 H.size) H.size σ h0 hO (zsx xs (5 * i + 1)) (zsx xs (5 * i + 2)) (zb (¬ zsx xs (5 * i + 3) = 0)) (c_X6_stop l hst G ad1 (zcA ad1 H.size) H.size σ nd nr ns hX _ _ τ hCP hWF hB9  (zsx xs (5 * i + 1)) (zsx xs (5 * i + 2)) (zb (¬ zsx xs (5 * i + 3) = 0)) (zsx_g _ _) (zsx_g _ _) (zb_01 _)) (fun E u h => h.2.1)) (vx_cwSW 5 hts gk_L_stop rfl rfl rfl (by decide +kernel) ⟨Nat.le_of_ble_eq_true rfl, Nat.le_of_ble_eq_true rfl⟩) hK hE hAA hNC hW1.toA (Nat.le_refl _) hS (zcA_sub hW1 hS (fun q h => h)) rfl hl.1.1 rfl (by decide) dL_law_1233 ⟨by show cells + 2 ≤ 601024; omega, by show slots + 12 ≤ 7293034; omega⟩ (fun k v H1 locs1 h1 hW1a hz1 hk1 hS1 => ?_)
  refine zz_istore (lv' := [(5, .int (zi k)), (4, .int (zi ((5 * i : Nat) : Int))), (3, zr ad1 90 ((0 : Nat) : Int)), (2, zr ad2 30 ((0 : Nat) : Int)), (1, zr ad1 0 ((0 : Nat) : Int)), (0, .ref b)]) hx hb hl dL_law_1236 (by decide) rfl (fun ls5 hl5 => ?_)
  have hW2a := hW2.other hd hk1
  have hW1b := hW1a.reA (fun κ j a ha => zcA_sub hW1 hS (fun q h => h) a (hW1a.1 κ j a ha).2)
  refine zz_aload_n hx hb hl5 3 dL_law_1238 rfl rfl ?_
  refine zl_rd (i := 5 * i) (j := 1) hx hb hXs hbl hL hS1 hl5 5 1 rfl rfl (by omega) dL_law_1239 dL_law_1240 dL_law_1242 dL_law_1243 dL_law_1244 ?_
  refine zl_rd (i := 5 * i) (j := 2) hx hb hXs hbl hL hS1 hl5 5 1 rfl rfl (by omega) dL_law_1245 dL_law_1246 dL_law_1248 dL_law_1249 dL_law_1250 ?_
  refine zl_rd (i := 5 * i) (j := 3) hx hb hXs hbl hL hS1 hl5 5 1 rfl rfl (by omega) dL_law_1251 dL_law_1252 dL_law_1254 dL_law_1255 dL_law_1256 ?_
  refine zl_nz hx hb (zsx_g _ _) dL_law_1257 dL_law_1260 dL_law_1261 dL_law_1264 ?_
  refine zl_callV (T := TX7) (N := 42) (κ := 30) (v := ((0 : Nat) : Int)) (As := [.int (zi (zsx xs (5 * i + 1))), .int (zi (zsx xs (5 * i + 2))), .int (zi (zb (¬ zsx xs (5 * i + 3) = 0)))]) (rest := []) S (c_X7_stop l G ad2 (zcB ad2) H1.size τ hM  (zsx xs (5 * i + 1)) (zsx xs (5 * i + 2)) (zb (¬ zsx xs (5 * i + 3) = 0)) (zsx_g _ _) (zsx_g _ _) (zb_01 _) ⟨by omega, by omega⟩ (fun d hd9 => by have z := hWF.2.1 d (by omega); have y9 := yDN_le τ nr; exact z.1.2)) (cwV 3 hts gk_X7_stop rfl rfl rfl (by decide +kernel) ⟨Nat.le_of_ble_eq_true rfl, Nat.le_of_ble_eq_true rfl⟩) hK hW2a.toB (zlN (hM 30 rfl)) rfl rfl (Nat.le_refl _) hS1 (zcB_sub hW2a) rfl hl5.1.1 rfl (by decide) dL_law_1265 ⟨by show cells + 2 ≤ 601024; omega, by show slots + 12 ≤ 7293034; omega⟩ (fun b9 w H2 locs2 h2 hW2b hz2 hk2 hS2 => ?_)
  refine zz_istore (lv' := [(6, .int (zi b9)), (5, .int (zi k)), (4, .int (zi ((5 * i : Nat) : Int))), (3, zr ad1 90 ((0 : Nat) : Int)), (2, zr ad2 30 ((0 : Nat) : Int)), (1, zr ad1 0 ((0 : Nat) : Int)), (0, .ref b)]) hx hb hl5 dL_law_1268 (by decide) rfl (fun ls6 hl6 => ?_)
  have hW1c := hW1b.otherB hd hk2
  have hW2c := hW2b.reA (fun κ j a ha => (hW2.1 κ j a ha).2)
  obtain ⟨q1, q2, ns9, q3, q4⟩ := L_stop (a := (zsx xs (5 * i + 1))) (b := (zsx xs (5 * i + 2))) (x := (zb (¬ zsx xs (5 * i + 3) = 0))) hCP hWF hi0 h1 h2
  exact zl_tail (P := 1270) S hK hW1c hW2c hd hO hM hS2 hl6 rfl rfl rfl rfl q1 q2 (by omega) (by omega) dL_law_1270 dL_law_1271 dL_law_1274 dL_law_1276 dL_law_1281 dL_law_1283 dL_law_1286 dL_law_1287 dL_law_1288 dL_law_1289 dL_law_1291 dL_law_1292 dL_law_1293 dL_law_1298 (by decide) (fun H3 locs3 f1 f2 f3 => zw_widen (by omega) (by omega) (kk ad1 v w nd nr ns9 H3 locs3 ls6 ⟨f1, f2, hd, hX, hO, hun, hM, q3, q4⟩ f3 (zh_sub hl6 [2, 3, 4, 5, 6] rfl)))

set_option maxHeartbeats 4000000 in
set_option maxRecDepth 100000 in
theorem w_pass {p : Program} {l : Launch} {e : Env} {s : State} {m : MethodId} {args : Array Value} {below : List Frame} {meth : Method} {c : Code} {H : Heap} {locs : List Loc} {cells slots : Nat} {Q : State → Prop} {ls : Array Slot} {G : zG} {ad1 ad2 : zA} {σ τ : zS} {nd nr ns b L i : Nat} {xs : Nat → Int32} (S : CallFix p m c cL_law 7 s args lw_tbl RL) (hst : l.stackTraces = false) (hXs : va_X b L xs s s.heap) (hbl : b < s.heap.size) (hL : L ≤ 2560) (hK : zK G s) (hE : zE (zA0 s) s) (hAA : zAA G s) (hNC : zNC s) (hV : zLV G ad1 ad2 (zA0 s) H ((i : Nat) : Int) σ τ nd nr ns) (hS : va_S (zA0 s) s.heap H locs) (hi : 5 * i + 5 ≤ L) (hcl : cells + 8 ≤ 601024) (hsl : slots + 63 ≤ 7293034) (hl : zh ls 7 [(4, .int (zi ((5 * i : Nat) : Int))), (3, zr ad1 90 ((0 : Nat) : Int)), (2, zr ad2 30 ((0 : Nat) : Int)), (1, zr ad1 0 ((0 : Nat) : Int)), (0, .ref b)])
    (kk : ∀ (ad9 : zA) (v w : zS) (nd9 nr9 ns9 : Nat) (H9 : Heap) (locs9 : List Loc) (ls9 : Array Slot), zLV G ad9 ad2 (zA0 s) H9 (((i : Nat) : Int) + 1) v w nd9 nr9 ns9 → va_S (zA0 s) s.heap H9 locs9 → zh ls9 7 [(4, .int (zi ((5 * i : Nat) : Int))), (3, zr ad9 90 ((0 : Nat) : Int)), (2, zr ad2 30 ((0 : Nat) : Int)), (1, zr ad9 0 ((0 : Nat) : Int)), (0, .ref b)] → W p l e room_1 s m args below meth c H9 locs9 (cells + 8) (slots + 63) Q (F0 m 1413 ls9 [])) : W p l e room_1 s m args below meth c H locs cells slots Q (F0 m 1357 ls []) := by
  have S0 := S
  obtain ⟨hx, hb, hml, hown, hts⟩ := S0
  obtain ⟨hW1, hW2, hd, hX, hO, hun, hM, hCP, hWF⟩ := hV
  have hi9 : ((i : Nat) : Int) ≤ 511 := by omega
  have hi0 : 0 ≤ ((i : Nat) : Int) := by omega
  have hB9 : 1000 * ((i : Nat) : Int) ≤ 1000000 := by omega
  have h0 := hX 0 0 rfl
  have g1 := hWF.1.1
  have g2 := hWF.1.2.1
  have g17 := hWF.1.2.2.2.2.1
  refine zz_aload_n hx hb hl 3 dL_law_1357 rfl rfl ?_
  refine zl_rd (i := 5 * i) (j := 1) hx hb hXs hbl hL hS hl 4 0 rfl rfl (by omega) dL_law_1358 dL_law_1359 dL_law_1361 dL_law_1362 dL_law_1363 ?_
  refine zz_aload_n hx hb hl 1 dL_law_1364 rfl rfl ?_
  refine zl_callH (As := [zr ad1 0 ((0 : Nat) : Int), .int (zi (zsx xs (5 * i + 1))), zr ad1 90 ((0 : Nat) : Int)]) (rest := []) S (c_L_pass l G ad1 (zcA ad1 H.size) H.size σ h0 hO (zsx xs (5 * i + 1)) (c_X6_pass l hst G ad1 (zcA ad1 H.size) H.size σ nd nr ns hX _ _ τ hCP hWF hB9 (by omega) (zsx xs (5 * i + 1)) (zsx_g _ _)) (fun E u h => h.2.elim (fun q => Or.inl q.1) (fun q => Or.inr q.1))) (vx_cwSW 3 hts gk_L_pass rfl rfl rfl (by decide +kernel) ⟨Nat.le_of_ble_eq_true rfl, Nat.le_of_ble_eq_true rfl⟩) hK hE hAA hNC hW1.toA (Nat.le_refl _) hS (zcA_sub hW1 hS (fun q h => h)) rfl hl.1.1 rfl (by decide) dL_law_1365 ⟨by show cells + 2 ≤ 601024; omega, by show slots + 12 ≤ 7293034; omega⟩ (fun k v H1 locs1 h1 hW1a hz1 hk1 hS1 => ?_)
  refine zz_istore (lv' := [(5, .int (zi k)), (4, .int (zi ((5 * i : Nat) : Int))), (3, zr ad1 90 ((0 : Nat) : Int)), (2, zr ad2 30 ((0 : Nat) : Int)), (1, zr ad1 0 ((0 : Nat) : Int)), (0, .ref b)]) hx hb hl dL_law_1368 (by decide) rfl (fun ls5 hl5 => ?_)
  have hW2a := hW2.other hd hk1
  have hW1b := hW1a.reA (fun κ j a ha => zcA_sub hW1 hS (fun q h => h) a (hW1a.1 κ j a ha).2)
  refine zz_aload_n hx hb hl5 3 dL_law_1370 rfl rfl ?_
  refine zl_rd (i := 5 * i) (j := 1) hx hb hXs hbl hL hS1 hl5 5 1 rfl rfl (by omega) dL_law_1371 dL_law_1372 dL_law_1374 dL_law_1375 dL_law_1376 ?_
  refine zl_callV (T := TX7) (N := 42) (κ := 30) (v := ((0 : Nat) : Int)) (As := [.int (zi (zsx xs (5 * i + 1)))]) (rest := []) S (c_X7_pass l G ad2 (zcB ad2) H1.size τ hM nd nr ns _ _ hWF hB9 (zsx xs (5 * i + 1)) (zsx_g _ _) ) (cwV 1 hts gk_X7_pass rfl rfl rfl (by decide +kernel) ⟨Nat.le_of_ble_eq_true rfl, Nat.le_of_ble_eq_true rfl⟩) hK hW2a.toB (zlN (hM 30 rfl)) rfl rfl (Nat.le_refl _) hS1 (zcB_sub hW2a) rfl hl5.1.1 rfl (by decide) dL_law_1377 ⟨by show cells + 2 ≤ 601024; omega, by show slots + 12 ≤ 7293034; omega⟩ (fun b9 w H2 locs2 h2 hW2b hz2 hk2 hS2 => ?_)
  refine zz_istore (lv' := [(6, .int (zi b9)), (5, .int (zi k)), (4, .int (zi ((5 * i : Nat) : Int))), (3, zr ad1 90 ((0 : Nat) : Int)), (2, zr ad2 30 ((0 : Nat) : Int)), (1, zr ad1 0 ((0 : Nat) : Int)), (0, .ref b)]) hx hb hl5 dL_law_1380 (by decide) rfl (fun ls6 hl6 => ?_)
  have hW1c := hW1b.otherB hd hk2
  have hW2c := hW2b.reA (fun κ j a ha => (hW2.1 κ j a ha).2)
  obtain ⟨q1, q2, ns9, q3, q4⟩ := L_pass (a := (zsx xs (5 * i + 1))) hCP hWF hi0 h1 h2
  exact zl_tail (P := 1382) S hK hW1c hW2c hd hO hM hS2 hl6 rfl rfl rfl rfl q1 q2 (by omega) (by omega) dL_law_1382 dL_law_1383 dL_law_1386 dL_law_1388 dL_law_1393 dL_law_1395 dL_law_1398 dL_law_1399 dL_law_1400 dL_law_1401 dL_law_1403 dL_law_1404 dL_law_1405 dL_law_1410 (by decide) (fun H3 locs3 f1 f2 f3 => zw_widen (by omega) (by omega) (kk ad1 v w nd nr ns9 H3 locs3 ls6 ⟨f1, f2, hd, hX, hO, hun, hM, q3, q4⟩ f3 (zh_sub hl6 [2, 3, 4, 5, 6] rfl)))

set_option maxHeartbeats 4000000 in
set_option maxRecDepth 100000 in
theorem w_request {p : Program} {l : Launch} {e : Env} {s : State} {m : MethodId} {args : Array Value} {below : List Frame} {meth : Method} {c : Code} {H : Heap} {locs : List Loc} {cells slots : Nat} {Q : State → Prop} {ls : Array Slot} {G : zG} {ad1 ad2 : zA} {σ τ : zS} {nd nr ns b L i : Nat} {xs : Nat → Int32} (S : CallFix p m c cL_law 7 s args lw_tbl RL) (hst : l.stackTraces = false) (hXs : va_X b L xs s s.heap) (hbl : b < s.heap.size) (hL : L ≤ 2560) (hK : zK G s) (hE : zE (zA0 s) s) (hAA : zAA G s) (hNC : zNC s) (hV : zLV G ad1 ad2 (zA0 s) H ((i : Nat) : Int) σ τ nd nr ns) (hS : va_S (zA0 s) s.heap H locs) (hi : 5 * i + 5 ≤ L) (hcl : cells + 8 ≤ 601024) (hsl : slots + 63 ≤ 7293034) (hl : zh ls 7 [(4, .int (zi ((5 * i : Nat) : Int))), (3, zr ad1 90 ((0 : Nat) : Int)), (2, zr ad2 30 ((0 : Nat) : Int)), (1, zr ad1 0 ((0 : Nat) : Int)), (0, .ref b)])
    (kk : ∀ (ad9 : zA) (v w : zS) (nd9 nr9 ns9 : Nat) (H9 : Heap) (locs9 : List Loc) (ls9 : Array Slot), zLV G ad9 ad2 (zA0 s) H9 (((i : Nat) : Int) + 1) v w nd9 nr9 ns9 → va_S (zA0 s) s.heap H9 locs9 → zh ls9 7 [(4, .int (zi ((5 * i : Nat) : Int))), (3, zr ad9 90 ((0 : Nat) : Int)), (2, zr ad2 30 ((0 : Nat) : Int)), (1, zr ad9 0 ((0 : Nat) : Int)), (0, .ref b)] → W p l e room_1 s m args below meth c H9 locs9 (cells + 8) (slots + 63) Q (F0 m 1413 ls9 [])) : W p l e room_1 s m args below meth c H locs cells slots Q (F0 m 679 ls []) := by
  have S0 := S
  obtain ⟨hx, hb, hml, hown, hts⟩ := S0
  obtain ⟨hW1, hW2, hd, hX, hO, hun, hM, hCP, hWF⟩ := hV
  have hi9 : ((i : Nat) : Int) ≤ 511 := by omega
  have hi0 : 0 ≤ ((i : Nat) : Int) := by omega
  have hB9 : 1000 * ((i : Nat) : Int) ≤ 1000000 := by omega
  have h0 := hX 0 0 rfl
  have g1 := hWF.1.1
  have g2 := hWF.1.2.1
  have g17 := hWF.1.2.2.2.2.1
  refine zz_aload_n hx hb hl 3 dL_law_679 rfl rfl ?_
  refine zl_rd (i := 5 * i) (j := 1) hx hb hXs hbl hL hS hl 4 0 rfl rfl (by omega) dL_law_680 dL_law_681 dL_law_683 dL_law_684 dL_law_685 ?_
  refine zl_rd (i := 5 * i) (j := 2) hx hb hXs hbl hL hS hl 4 0 rfl rfl (by omega) dL_law_686 dL_law_687 dL_law_689 dL_law_690 dL_law_691 ?_
  refine zl_rd (i := 5 * i) (j := 3) hx hb hXs hbl hL hS hl 4 0 rfl rfl (by omega) dL_law_692 dL_law_693 dL_law_695 dL_law_696 dL_law_697 ?_
  refine zl_rd (i := 5 * i) (j := 4) hx hb hXs hbl hL hS hl 4 0 rfl rfl (by omega) dL_law_698 dL_law_699 dL_law_701 dL_law_702 dL_law_703 ?_
  refine zl_nz hx hb (zsx_g _ _) dL_law_704 dL_law_707 dL_law_708 dL_law_711 ?_
  refine zz_aload_n hx hb hl 1 dL_law_712 rfl rfl ?_
  refine zl_callD (As := [zr ad1 0 ((0 : Nat) : Int), .int (zi (zsx xs (5 * i + 1))), .int (zi (zsx xs (5 * i + 2))), .int (zi (zsx xs (5 * i + 3))), .int (zi (zb (¬ zsx xs (5 * i + 4) = 0))), zr ad1 90 ((0 : Nat) : Int)]) (rest := []) S (c_L_request l G ad1 (zcA ad1 H.size) H.size σ h0 hO (zsx xs (5 * i + 1)) (zsx xs (5 * i + 2)) (zsx xs (5 * i + 3)) (zb (¬ zsx xs (5 * i + 4) = 0)) (c_X6_request l hst G ad1 (zcA ad1 H.size) H.size σ nd nr ns hX _ _ τ hCP hWF hB9 (fun q h => Or.inr h) (hun 23 nr (by decide) (by decide) (by simp [zlive])) (zsx xs (5 * i + 1)) (zsx xs (5 * i + 2)) (zsx xs (5 * i + 3)) (zb (¬ zsx xs (5 * i + 4) = 0)) (zsx_g _ _) (zsx_g _ _) (zsx_g _ _) (zb_01 _)) (fun ad9 r u h => h.2.2.2.2.2.1 90 0 (by omega)) (fun E u h => h.2.elim (fun q => Or.inl q.1) (fun q => q.elim (fun q => Or.inr (Or.inl q.1)) (fun q => Or.inr (Or.inr q.1))))) (vx_cwSW 6 hts gk_L_request rfl rfl rfl (by decide +kernel) ⟨Nat.le_of_ble_eq_true rfl, Nat.le_of_ble_eq_true rfl⟩) hK hE hAA hNC hW1.toA (Nat.le_refl _) hS (zcA_sub hW1 hS (fun q h => h)) rfl hl.1.1 rfl (by decide) dL_law_713 ⟨by show cells + 6 ≤ 601024; omega, by show slots + 42 ≤ 7293034; omega⟩ (fun ad8 k v H1 locs1 h1 hW1a hz1 hk1 hS1 => ?_)
  refine zz_istore (lv' := [(5, .int (zi k)), (4, .int (zi ((5 * i : Nat) : Int))), (3, zr ad1 90 ((0 : Nat) : Int)), (2, zr ad2 30 ((0 : Nat) : Int)), (1, zr ad1 0 ((0 : Nat) : Int)), (0, .ref b)]) hx hb hl dL_law_716 (by decide) rfl (fun ls5 hl5 => ?_)
  have hW2a := hW2.other hd hk1
  have e8 : ad8 0 0 = ad1 0 0 ∧ ad8 90 0 = ad1 90 0 := by
    rcases h1 with ⟨-, r, u, hp, -⟩ | ⟨q, -⟩
    · exact ⟨hp.2.2.2.2.2.1 0 0 (by omega), hp.2.2.2.2.2.1 90 0 (by omega)⟩
    · rw [q]; exact ⟨rfl, rfl⟩
  rw [zr_to e8.1, zr_to e8.2] at hl5
  have hd8 := hd.grow hW1a hW2
  have hW1b := hW1a.reA (fun κ j a ha => zcA_sub hW1 hS (fun q h => h) a (hW1a.1 κ j a ha).2)
  refine zz_aload_n hx hb hl5 3 dL_law_718 rfl rfl ?_
  refine zl_rd (i := 5 * i) (j := 1) hx hb hXs hbl hL hS1 hl5 5 1 rfl rfl (by omega) dL_law_719 dL_law_720 dL_law_722 dL_law_723 dL_law_724 ?_
  refine zl_rd (i := 5 * i) (j := 2) hx hb hXs hbl hL hS1 hl5 5 1 rfl rfl (by omega) dL_law_725 dL_law_726 dL_law_728 dL_law_729 dL_law_730 ?_
  refine zl_rd (i := 5 * i) (j := 3) hx hb hXs hbl hL hS1 hl5 5 1 rfl rfl (by omega) dL_law_731 dL_law_732 dL_law_734 dL_law_735 dL_law_736 ?_
  refine zl_rd (i := 5 * i) (j := 4) hx hb hXs hbl hL hS1 hl5 5 1 rfl rfl (by omega) dL_law_737 dL_law_738 dL_law_740 dL_law_741 dL_law_742 ?_
  refine zl_nz hx hb (zsx_g _ _) dL_law_743 dL_law_746 dL_law_747 dL_law_750 ?_
  refine zl_callV (T := TX7) (N := 42) (κ := 30) (v := ((0 : Nat) : Int)) (As := [.int (zi (zsx xs (5 * i + 1))), .int (zi (zsx xs (5 * i + 2))), .int (zi (zsx xs (5 * i + 3))), .int (zi (zb (¬ zsx xs (5 * i + 4) = 0)))]) (rest := []) S (c_X7_request l G ad2 (zcB ad2) H1.size τ hM nd nr ns _ _ hWF hB9 (zsx xs (5 * i + 1)) (zsx xs (5 * i + 2)) (zsx xs (5 * i + 3)) (zb (¬ zsx xs (5 * i + 4) = 0)) (zsx_g _ _) (zsx_g _ _) (zsx_g _ _) (zb_01 _) ) (cwV 4 hts gk_X7_request rfl rfl rfl (by decide +kernel) ⟨Nat.le_of_ble_eq_true rfl, Nat.le_of_ble_eq_true rfl⟩) hK hW2a.toB (zlN (hM 30 rfl)) rfl rfl (Nat.le_refl _) hS1 (zcB_sub hW2a) rfl hl5.1.1 rfl (by decide) dL_law_751 ⟨by show cells + 6 ≤ 601024; omega, by show slots + 42 ≤ 7293034; omega⟩ (fun b9 w H2 locs2 h2 hW2b hz2 hk2 hS2 => ?_)
  refine zz_istore (lv' := [(6, .int (zi b9)), (5, .int (zi k)), (4, .int (zi ((5 * i : Nat) : Int))), (3, zr ad8 90 ((0 : Nat) : Int)), (2, zr ad2 30 ((0 : Nat) : Int)), (1, zr ad8 0 ((0 : Nat) : Int)), (0, .ref b)]) hx hb hl5 dL_law_754 (by decide) rfl (fun ls6 hl6 => ?_)
  have hW1c := hW1b.otherB hd8 hk2
  have hW2c := hW2b.reA (fun κ j a ha => (hW2.1 κ j a ha).2)
  obtain ⟨q1, q2, nd9, nr9, ns9, qX, qU, -, q3, q4⟩ := L_request (ad := ad1) (ad8 := ad8) (a := (zsx xs (5 * i + 1))) (b := (zsx xs (5 * i + 2))) (m9 := (zsx xs (5 * i + 3))) (x := (zb (¬ zsx xs (5 * i + 4) = 0))) hX hun hCP hWF hi0 h1 h2
  exact zl_tail (P := 756) S hK hW1c hW2c hd8 (by rw [e8.2]; exact hO) hM hS2 hl6 rfl rfl rfl rfl q1 q2 (by omega) (by omega) dL_law_756 dL_law_757 dL_law_760 dL_law_762 dL_law_767 dL_law_769 dL_law_772 dL_law_773 dL_law_774 dL_law_775 dL_law_777 dL_law_778 dL_law_779 dL_law_784 (by decide) (fun H3 locs3 f1 f2 f3 => zw_widen (by omega) (by omega) (kk ad8 v w nd9 nr9 ns9 H3 locs3 ls6 ⟨f1, f2, hd8, qX, by rw [e8.2]; exact hO, qU, hM, q3, q4⟩ f3 (zh_sub hl6 [2, 3, 4, 5, 6] rfl)))

set_option maxHeartbeats 4000000 in
set_option maxRecDepth 100000 in
theorem w_share {p : Program} {l : Launch} {e : Env} {s : State} {m : MethodId} {args : Array Value} {below : List Frame} {meth : Method} {c : Code} {H : Heap} {locs : List Loc} {cells slots : Nat} {Q : State → Prop} {ls : Array Slot} {G : zG} {ad1 ad2 : zA} {σ τ : zS} {nd nr ns b L i : Nat} {xs : Nat → Int32} (S : CallFix p m c cL_law 7 s args lw_tbl RL) (hst : l.stackTraces = false) (hXs : va_X b L xs s s.heap) (hbl : b < s.heap.size) (hL : L ≤ 2560) (hK : zK G s) (hE : zE (zA0 s) s) (hAA : zAA G s) (hNC : zNC s) (hV : zLV G ad1 ad2 (zA0 s) H ((i : Nat) : Int) σ τ nd nr ns) (hS : va_S (zA0 s) s.heap H locs) (hi : 5 * i + 5 ≤ L) (hcl : cells + 8 ≤ 601024) (hsl : slots + 63 ≤ 7293034) (hl : zh ls 7 [(4, .int (zi ((5 * i : Nat) : Int))), (3, zr ad1 90 ((0 : Nat) : Int)), (2, zr ad2 30 ((0 : Nat) : Int)), (1, zr ad1 0 ((0 : Nat) : Int)), (0, .ref b)])
    (kk : ∀ (ad9 : zA) (v w : zS) (nd9 nr9 ns9 : Nat) (H9 : Heap) (locs9 : List Loc) (ls9 : Array Slot), zLV G ad9 ad2 (zA0 s) H9 (((i : Nat) : Int) + 1) v w nd9 nr9 ns9 → va_S (zA0 s) s.heap H9 locs9 → zh ls9 7 [(4, .int (zi ((5 * i : Nat) : Int))), (3, zr ad9 90 ((0 : Nat) : Int)), (2, zr ad2 30 ((0 : Nat) : Int)), (1, zr ad9 0 ((0 : Nat) : Int)), (0, .ref b)] → W p l e room_1 s m args below meth c H9 locs9 (cells + 8) (slots + 63) Q (F0 m 1413 ls9 [])) : W p l e room_1 s m args below meth c H locs cells slots Q (F0 m 1056 ls []) := by
  have S0 := S
  obtain ⟨hx, hb, hml, hown, hts⟩ := S0
  obtain ⟨hW1, hW2, hd, hX, hO, hun, hM, hCP, hWF⟩ := hV
  have hi9 : ((i : Nat) : Int) ≤ 511 := by omega
  have hi0 : 0 ≤ ((i : Nat) : Int) := by omega
  have hB9 : 1000 * ((i : Nat) : Int) ≤ 1000000 := by omega
  have h0 := hX 0 0 rfl
  have g1 := hWF.1.1
  have g2 := hWF.1.2.1
  have g17 := hWF.1.2.2.2.2.1
  refine zz_aload_n hx hb hl 3 dL_law_1056 rfl rfl ?_
  refine zl_callV (T := TX6) (N := 10) (κ := 0) (v := ((0 : Nat) : Int)) (As := []) (rest := []) S (c_X6_share l G ad1 (zcA ad1 H.size) H.size σ nd nr ns hX _ _ τ hCP hWF hB9) (cwV 0 hts gk_X6_share rfl rfl rfl (by decide +kernel) ⟨Nat.le_of_ble_eq_true rfl, Nat.le_of_ble_eq_true rfl⟩) hK hW1.toA (zlN h0) rfl rfl (Nat.le_refl _) hS (zcA_sub hW1 hS (fun q h => h)) rfl hl.1.1 rfl (by decide) dL_law_1057 ⟨by show cells + 0 ≤ 601024; omega, by show slots + 0 ≤ 7293034; omega⟩ (fun r v H1 locs1 h1 hW1a hz1 hk1 hS1 => ?_)
  have hW2a := hW2.other hd hk1
  have hW1b := hW1a.reA (fun κ j a ha => zcA_sub hW1 hS (fun q h => h) a (hW1a.1 κ j a ha).2)
  refine zz_aload_n hx hb hl 2 dL_law_1060 rfl rfl ?_
  refine zl_callV (T := TX7) (N := 42) (κ := 30) (v := ((0 : Nat) : Int)) (As := []) (rest := [.int (zi r)]) S (c_X7_share l G ad2 (zcB ad2) H1.size τ hM nd nr ns _ _ hWF hB9) (cwV 0 hts gk_X7_share rfl rfl rfl (by decide +kernel) ⟨Nat.le_of_ble_eq_true rfl, Nat.le_of_ble_eq_true rfl⟩) hK hW2a.toB (zlN (hM 30 rfl)) rfl rfl (Nat.le_refl _) hS1 (zcB_sub hW2a) rfl hl.1.1 rfl (Nat.le_of_ble_eq_true rfl) dL_law_1061 ⟨by show cells + 0 ≤ 601024; omega, by show slots + 0 ≤ 7293034; omega⟩ (fun b9 w H2 locs2 h2 hW2b hz2 hk2 hS2 => ?_)
  have hW1c := hW1b.otherB hd hk2
  have hW2c := hW2b.reA (fun κ j a ha => (hW2.1 κ j a ha).2)
  obtain ⟨q1, q3, q4⟩ := L_share hWF h1 h2
  exact lv_icmp_eq (tgt := 1413) hx hb dL_law_1064 (by decide) (fun _ => zw_widen (by omega) (by omega) (kk ad1 v w nd nr ns H2 locs2 ls ⟨hW1c, hW2c, hd, hX, hO, hun, hM, q3, q4⟩ hS2 hl)) (fun h => absurd (congrArg zi q1) h)
