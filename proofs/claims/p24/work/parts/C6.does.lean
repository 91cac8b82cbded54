set_option maxHeartbeats 4000000 in
set_option maxRecDepth 100000 in
theorem c_L_does (l : Launch) (hst : l.stackTraces = false) (G : zG) (ad : zA) (A : Nat → Prop) (N0 : Nat) (σ t : zS) (nd nr ns : Nat) (c : Int) (hC : pC ad σ t nd nr ns c) (hg : ∀ κ i k, zg (σ κ i k)) (hA : ∀ q, N0 ≤ q → A q) (sl : Prop) (hv : pV t sl nd nr) (hPE : pE t nd nr) (hc7 : c + 1 ≤ 800) (hin : pIn σ t sl nr) (hn : (ad 86 0).isSome = true) (hh : (ad 87 0).isSome = true) (y9 : Int) (hz9 : 0 ≤ y9 ∧ y9 < 2000000000) (sw : Int) (hsw : sw = 0 ∨ sw = 1)  : Met l yL_does wsL_does ({ frames := 10, cells := 8, slots := 54, locals := 299 }) (zPH G ad A N0 σ [zr ad 0 ((0 : Nat) : Int), zr ad 86 ((0 : Nat) : Int), zr ad 87 ((0 : Nat) : Int), .int (zi y9), .int (zi sw)]) (zQD G A (pDo σ t ad nd nr ns c)) 8 54 A := by
  refine zz_ofH (cc := cL_does) (maxL := 7) (ret := (some .int)) (by decide) rfl (by intro v hv; simp only [List.mem_cons, List.not_mem_nil, or_false] at hv; rcases hv with rfl | rfl | rfl | rfl | rfl <;> first | rfl | exact zr_cat _ _ _) (Nat.le_of_ble_eq_true rfl) ?_
  intro p e s m below meth c9 hx hb hr hml hts hown hlocks hsz hW0 hK hE hAA hNC ls hl
  have hS0 : va_S A s.heap s.heap [] := va_S.rf
  have hA0 : ∀ q, s.heap.size ≤ q → A q := fun q hq => hA q (Nat.le_trans hsz hq)
  have hl : zh ls 7 [(0, zr ad 0 ((0 : Nat) : Int)), (1, zr ad 86 ((0 : Nat) : Int)), (2, zr ad 87 ((0 : Nat) : Int)), (3, .int (zi y9)), (4, .int (zi sw))] := hl
  have hWF := hC.2.2.2.1
  have h00 := hC.1 0 0 rfl
  obtain ⟨hi12, hi0, hi1, hi2, hi3, hiH⟩ := id hin
  have h30 := hWF.1.2.2.1
  have hcap := hWF.1.2.2.2.1
  refine zz_iload_n hx hb hl 3 dL_does_0 rfl rfl ?_
  refine zz_bipush hx hb dL_does_1 (by decide +kernel) ?_
  refine zz_idiv hx hb dL_does_3 ⟨by omega, by omega⟩ ⟨by decide, by decide⟩ (by omega) (by omega) ?_
  refine zz_istore (lv' := [(5, .int (zi (y9 / 20))), (0, zr ad 0 ((0 : Nat) : Int)), (1, zr ad 86 ((0 : Nat) : Int)), (2, zr ad 87 ((0 : Nat) : Int)), (3, .int (zi y9)), (4, .int (zi sw))]) hx hb hl dL_does_4 (by decide) rfl (fun ls hl => ?_)
  refine zz_iload_n hx hb hl 4 dL_does_6 rfl rfl ?_
  refine zz_bipush hx hb dL_does_7 (by decide +kernel) ?_
  refine zz_irem hx hb dL_does_9 ⟨by omega, by omega⟩ ⟨by decide, by decide⟩ (by omega) (by omega) ?_
  by_cases hw10_0 : y9 % 20 = 0
  · refine W.eq (g2 := F0 m 10 ls [.int (zi 0)]) (by rw [hw10_0]) ?_
    refine lv_tableIn (x := zi 0) (off := 86) (tgt := 96) hx hb dL_does_10 (by decide +kernel) (by decide +kernel) (by decide +kernel) (by decide) ?_
    refine zz_aload_n hx hb hl 1 dL_does_96 rfl rfl ?_
    refine zz_aload_n hx hb hl 2 dL_does_97 rfl rfl ?_
    refine zz_aload_n hx hb hl 3 dL_does_98 rfl rfl ?_
    refine zz_iload hx hb hl 0 dL_does_99 rfl ?_
    refine zl_callMD (As := [zr ad 0 ((0 : Nat) : Int), zr ad 86 ((0 : Nat) : Int), zr ad 87 ((0 : Nat) : Int), .int (zi (y9 / 20))]) (rest := []) ⟨hx, hb, hml, hown, hts⟩ (c_L_asks l hst G ad A N0 σ t nd nr ns c hC hW0.2.2.1 hA sl hv hPE hc7 hin hn hh (y9 / 20) ⟨by omega, by omega⟩) (va_cwS 4 hts gL_does_L_asks rfl rfl rfl (by decide +kernel) ⟨Nat.le_of_ble_eq_true rfl, Nat.le_of_ble_eq_true rfl⟩) hK hE hAA hNC hW0 (Nat.le_trans hsz hS0.1) hS0 (fun q h => h) rfl hl.1.1 rfl (Nat.le_of_ble_eq_true rfl) dL_does_101 ⟨show _ ≤ 8 from by omega, show _ ≤ 54 from by omega⟩ (fun a1 x1 u1 H1 locs1 hp1 hW1 hz1 hk1 hS1 => ?_)
    obtain ⟨σ1, hs1⟩ : ∃ z, z = u1 := ⟨_, rfl⟩
    rw [← hs1] at hp1 hW1
    refine W.eq (g2 := F0 m 104 ls [.int (zi x1)]) rfl ?_
    refine W.eq (g2 := F0 m 104 ls [.int (zi x1)]) rfl ?_
    refine zw_widen (k := 8) (n := 54) (show _ ≤ 8 from by omega) (show _ ≤ 54 from by omega) ?_
    refine zn_reti hx hb hr hlocks hW1 hS1 ?_ dL_does_104
    exact hp1
  by_cases hw10_1 : y9 % 20 = 1
  · refine W.eq (g2 := F0 m 10 ls [.int (zi 1)]) (by rw [hw10_1]) ?_
    refine lv_tableIn (x := zi 1) (off := 86) (tgt := 96) hx hb dL_does_10 (by decide +kernel) (by decide +kernel) (by decide +kernel) (by decide) ?_
    refine zz_aload_n hx hb hl 1 dL_does_96 rfl rfl ?_
    refine zz_aload_n hx hb hl 2 dL_does_97 rfl rfl ?_
    refine zz_aload_n hx hb hl 3 dL_does_98 rfl rfl ?_
    refine zz_iload hx hb hl 0 dL_does_99 rfl ?_
    refine zl_callMD (As := [zr ad 0 ((0 : Nat) : Int), zr ad 86 ((0 : Nat) : Int), zr ad 87 ((0 : Nat) : Int), .int (zi (y9 / 20))]) (rest := []) ⟨hx, hb, hml, hown, hts⟩ (c_L_asks l hst G ad A N0 σ t nd nr ns c hC hW0.2.2.1 hA sl hv hPE hc7 hin hn hh (y9 / 20) ⟨by omega, by omega⟩) (va_cwS 4 hts gL_does_L_asks rfl rfl rfl (by decide +kernel) ⟨Nat.le_of_ble_eq_true rfl, Nat.le_of_ble_eq_true rfl⟩) hK hE hAA hNC hW0 (Nat.le_trans hsz hS0.1) hS0 (fun q h => h) rfl hl.1.1 rfl (Nat.le_of_ble_eq_true rfl) dL_does_101 ⟨show _ ≤ 8 from by omega, show _ ≤ 54 from by omega⟩ (fun a2 x2 u2 H2 locs2 hp2 hW2 hz2 hk2 hS2 => ?_)
    obtain ⟨σ2, hs2⟩ : ∃ z, z = u2 := ⟨_, rfl⟩
    rw [← hs2] at hp2 hW2
    refine W.eq (g2 := F0 m 104 ls [.int (zi x2)]) rfl ?_
    refine W.eq (g2 := F0 m 104 ls [.int (zi x2)]) rfl ?_
    refine zw_widen (k := 8) (n := 54) (show _ ≤ 8 from by omega) (show _ ≤ 54 from by omega) ?_
    refine zn_reti hx hb hr hlocks hW2 hS2 ?_ dL_does_104
    exact hp2
  by_cases hw10_2 : y9 % 20 = 2
  · refine W.eq (g2 := F0 m 10 ls [.int (zi 2)]) (by rw [hw10_2]) ?_
    refine lv_tableIn (x := zi 2) (off := 86) (tgt := 96) hx hb dL_does_10 (by decide +kernel) (by decide +kernel) (by decide +kernel) (by decide) ?_
    refine zz_aload_n hx hb hl 1 dL_does_96 rfl rfl ?_
    refine zz_aload_n hx hb hl 2 dL_does_97 rfl rfl ?_
    refine zz_aload_n hx hb hl 3 dL_does_98 rfl rfl ?_
    refine zz_iload hx hb hl 0 dL_does_99 rfl ?_
    refine zl_callMD (As := [zr ad 0 ((0 : Nat) : Int), zr ad 86 ((0 : Nat) : Int), zr ad 87 ((0 : Nat) : Int), .int (zi (y9 / 20))]) (rest := []) ⟨hx, hb, hml, hown, hts⟩ (c_L_asks l hst G ad A N0 σ t nd nr ns c hC hW0.2.2.1 hA sl hv hPE hc7 hin hn hh (y9 / 20) ⟨by omega, by omega⟩) (va_cwS 4 hts gL_does_L_asks rfl rfl rfl (by decide +kernel) ⟨Nat.le_of_ble_eq_true rfl, Nat.le_of_ble_eq_true rfl⟩) hK hE hAA hNC hW0 (Nat.le_trans hsz hS0.1) hS0 (fun q h => h) rfl hl.1.1 rfl (Nat.le_of_ble_eq_true rfl) dL_does_101 ⟨show _ ≤ 8 from by omega, show _ ≤ 54 from by omega⟩ (fun a3 x3 u3 H3 locs3 hp3 hW3 hz3 hk3 hS3 => ?_)
    obtain ⟨σ3, hs3⟩ : ∃ z, z = u3 := ⟨_, rfl⟩
    rw [← hs3] at hp3 hW3
    refine W.eq (g2 := F0 m 104 ls [.int (zi x3)]) rfl ?_
    refine W.eq (g2 := F0 m 104 ls [.int (zi x3)]) rfl ?_
    refine zw_widen (k := 8) (n := 54) (show _ ≤ 8 from by omega) (show _ ≤ 54 from by omega) ?_
    refine zn_reti hx hb hr hlocks hW3 hS3 ?_ dL_does_104
    exact hp3
  by_cases hw10_3 : y9 % 20 = 3
  · refine W.eq (g2 := F0 m 10 ls [.int (zi 3)]) (by rw [hw10_3]) ?_
    refine lv_tableIn (x := zi 3) (off := 86) (tgt := 96) hx hb dL_does_10 (by decide +kernel) (by decide +kernel) (by decide +kernel) (by decide) ?_
    refine zz_aload_n hx hb hl 1 dL_does_96 rfl rfl ?_
    refine zz_aload_n hx hb hl 2 dL_does_97 rfl rfl ?_
    refine zz_aload_n hx hb hl 3 dL_does_98 rfl rfl ?_
    refine zz_iload hx hb hl 0 dL_does_99 rfl ?_
    refine zl_callMD (As := [zr ad 0 ((0 : Nat) : Int), zr ad 86 ((0 : Nat) : Int), zr ad 87 ((0 : Nat) : Int), .int (zi (y9 / 20))]) (rest := []) ⟨hx, hb, hml, hown, hts⟩ (c_L_asks l hst G ad A N0 σ t nd nr ns c hC hW0.2.2.1 hA sl hv hPE hc7 hin hn hh (y9 / 20) ⟨by omega, by omega⟩) (va_cwS 4 hts gL_does_L_asks rfl rfl rfl (by decide +kernel) ⟨Nat.le_of_ble_eq_true rfl, Nat.le_of_ble_eq_true rfl⟩) hK hE hAA hNC hW0 (Nat.le_trans hsz hS0.1) hS0 (fun q h => h) rfl hl.1.1 rfl (Nat.le_of_ble_eq_true rfl) dL_does_101 ⟨show _ ≤ 8 from by omega, show _ ≤ 54 from by omega⟩ (fun a4 x4 u4 H4 locs4 hp4 hW4 hz4 hk4 hS4 => ?_)
    obtain ⟨σ4, hs4⟩ : ∃ z, z = u4 := ⟨_, rfl⟩
    rw [← hs4] at hp4 hW4
    refine W.eq (g2 := F0 m 104 ls [.int (zi x4)]) rfl ?_
    refine W.eq (g2 := F0 m 104 ls [.int (zi x4)]) rfl ?_
    refine zw_widen (k := 8) (n := 54) (show _ ≤ 8 from by omega) (show _ ≤ 54 from by omega) ?_
    refine zn_reti hx hb hr hlocks hW4 hS4 ?_ dL_does_104
    exact hp4
  by_cases hw10_4 : y9 % 20 = 4
  · refine W.eq (g2 := F0 m 10 ls [.int (zi 4)]) (by rw [hw10_4]) ?_
    refine lv_tableIn (x := zi 4) (off := 86) (tgt := 96) hx hb dL_does_10 (by decide +kernel) (by decide +kernel) (by decide +kernel) (by decide) ?_
    refine zz_aload_n hx hb hl 1 dL_does_96 rfl rfl ?_
    refine zz_aload_n hx hb hl 2 dL_does_97 rfl rfl ?_
    refine zz_aload_n hx hb hl 3 dL_does_98 rfl rfl ?_
    refine zz_iload hx hb hl 0 dL_does_99 rfl ?_
    refine zl_callMD (As := [zr ad 0 ((0 : Nat) : Int), zr ad 86 ((0 : Nat) : Int), zr ad 87 ((0 : Nat) : Int), .int (zi (y9 / 20))]) (rest := []) ⟨hx, hb, hml, hown, hts⟩ (c_L_asks l hst G ad A N0 σ t nd nr ns c hC hW0.2.2.1 hA sl hv hPE hc7 hin hn hh (y9 / 20) ⟨by omega, by omega⟩) (va_cwS 4 hts gL_does_L_asks rfl rfl rfl (by decide +kernel) ⟨Nat.le_of_ble_eq_true rfl, Nat.le_of_ble_eq_true rfl⟩) hK hE hAA hNC hW0 (Nat.le_trans hsz hS0.1) hS0 (fun q h => h) rfl hl.1.1 rfl (Nat.le_of_ble_eq_true rfl) dL_does_101 ⟨show _ ≤ 8 from by omega, show _ ≤ 54 from by omega⟩ (fun a5 x5 u5 H5 locs5 hp5 hW5 hz5 hk5 hS5 => ?_)
    obtain ⟨σ5, hs5⟩ : ∃ z, z = u5 := ⟨_, rfl⟩
    rw [← hs5] at hp5 hW5
    refine W.eq (g2 := F0 m 104 ls [.int (zi x5)]) rfl ?_
    refine W.eq (g2 := F0 m 104 ls [.int (zi x5)]) rfl ?_
    refine zw_widen (k := 8) (n := 54) (show _ ≤ 8 from by omega) (show _ ≤ 54 from by omega) ?_
    refine zn_reti hx hb hr hlocks hW5 hS5 ?_ dL_does_104
    exact hp5
  by_cases hw10_5 : y9 % 20 = 5
  · refine W.eq (g2 := F0 m 10 ls [.int (zi 5)]) (by rw [hw10_5]) ?_
    refine lv_tableIn (x := zi 5) (off := 95) (tgt := 105) hx hb dL_does_10 (by decide +kernel) (by decide +kernel) (by decide +kernel) (by decide) ?_
    refine zz_aload_n hx hb hl 1 dL_does_105 rfl rfl ?_
    refine zl_callPM (As := [zr (zr8 ad) 0 ((0 : Nat) : Int)]) (rest := []) ⟨hx, hb, hml, hown, hts⟩ (c_L_matches l hst G (zr8 ad) (zcA (zr8 ad) s.heap.size) s.heap.size σ t nd nr ns c (pC_r8 hC) hW0.2.2.1 sl hv hPE hc7) (va_cwS 1 hts gL_does_L_matches rfl rfl rfl (by decide +kernel) ⟨Nat.le_of_ble_eq_true rfl, Nat.le_of_ble_eq_true rfl⟩) hK hE hAA hNC hW0 hA0 hS0 rfl hl.1.1 rfl (Nat.le_of_ble_eq_true rfl) dL_does_106 ⟨show _ ≤ 8 from by omega, show _ ≤ 54 from by omega⟩ (fun x6 u6 H6 locs6 hp6 hW6 hz6 hS6 => ?_)
    obtain ⟨σ6, hs6⟩ : ∃ z, z = zg8 σ u6 := ⟨_, rfl⟩
    have hf6 : ∀ κ i k, 86 ≤ κ → σ6 κ i k = σ κ i k := fun κ i k h => by rw [hs6]; exact zg8_hi h
    rw [← hs6] at hW6
    have hq6 := pRs_g (σ := σ) (id hp6)
    rw [← hs6] at hq6
    refine W.eq (g2 := F0 m 109 ls [.int (zi x6)]) rfl ?_
    have hsp109 := hq6
    rcases hsp109 with ⟨hrf9, hC9⟩ | ⟨⟨hr0, hr1⟩, t2, hC9, hv9, hE9, hM9, h91, h92⟩
    · have hgx : zg x6 := (pRf_5 hrf9).2
      refine W.eq (g2 := F0 m 109 ls [.int (zi x6)]) rfl ?_
      refine zw_widen (k := 8) (n := 54) (show _ ≤ 8 from by omega) (show _ ≤ 54 from by omega) ?_
      refine zn_reti hx hb hr hlocks hW6 hS6 ?_ dL_does_109
      exact pDo_no hin (pRf_5 hrf9) hC9 hv hPE hc7 (fun j => by rw [hf6 87 0 j (by decide)]) (fun j => by rw [hf6 88 0 j (by decide)]) (fun j hj => by rw [hf6 86 0 j (by decide)]) (by rw [hf6 86 0 3 (by decide)]; exact hi3)
    · have hgx : zg x6 := ⟨by omega, by omega⟩
      refine W.eq (g2 := F0 m 109 ls [.int (zi x6)]) rfl ?_
      refine zw_widen (k := 8) (n := 54) (show _ ≤ 8 from by omega) (show _ ≤ 54 from by omega) ?_
      refine zn_reti hx hb hr hlocks hW6 hS6 ?_ dL_does_109
      exact pDo_sm hin (pDn_5 hr0 hr1) (fun q => absurd (pRf_lo q) (by omega)) hC9 hv9 hE9 hM9 (fun j => by rw [hf6 87 0 j (by decide)]) (fun j => by rw [hf6 88 0 j (by decide)]) (by rw [hf6 86 0 0 (by decide)]) (by rw [hf6 86 0 1 (by decide)]; exact hi1.trans h91.symm) (by rw [hf6 86 0 2 (by decide)]; exact hi2.trans h92.symm) (by rw [hf6 86 0 3 (by decide)]; exact hi3)
  by_cases hw10_6 : y9 % 20 = 6
  · refine W.eq (g2 := F0 m 10 ls [.int (zi 6)]) (by rw [hw10_6]) ?_
    refine lv_tableIn (x := zi 6) (off := 95) (tgt := 105) hx hb dL_does_10 (by decide +kernel) (by decide +kernel) (by decide +kernel) (by decide) ?_
    refine zz_aload_n hx hb hl 1 dL_does_105 rfl rfl ?_
    refine zl_callPM (As := [zr (zr8 ad) 0 ((0 : Nat) : Int)]) (rest := []) ⟨hx, hb, hml, hown, hts⟩ (c_L_matches l hst G (zr8 ad) (zcA (zr8 ad) s.heap.size) s.heap.size σ t nd nr ns c (pC_r8 hC) hW0.2.2.1 sl hv hPE hc7) (va_cwS 1 hts gL_does_L_matches rfl rfl rfl (by decide +kernel) ⟨Nat.le_of_ble_eq_true rfl, Nat.le_of_ble_eq_true rfl⟩) hK hE hAA hNC hW0 hA0 hS0 rfl hl.1.1 rfl (Nat.le_of_ble_eq_true rfl) dL_does_106 ⟨show _ ≤ 8 from by omega, show _ ≤ 54 from by omega⟩ (fun x7 u7 H7 locs7 hp7 hW7 hz7 hS7 => ?_)
    obtain ⟨σ7, hs7⟩ : ∃ z, z = zg8 σ u7 := ⟨_, rfl⟩
    have hf7 : ∀ κ i k, 86 ≤ κ → σ7 κ i k = σ κ i k := fun κ i k h => by rw [hs7]; exact zg8_hi h
    rw [← hs7] at hW7
    have hq7 := pRs_g (σ := σ) (id hp7)
    rw [← hs7] at hq7
    refine W.eq (g2 := F0 m 109 ls [.int (zi x7)]) rfl ?_
    have hsp109 := hq7
    rcases hsp109 with ⟨hrf9, hC9⟩ | ⟨⟨hr0, hr1⟩, t2, hC9, hv9, hE9, hM9, h91, h92⟩
    · have hgx : zg x7 := (pRf_5 hrf9).2
      refine W.eq (g2 := F0 m 109 ls [.int (zi x7)]) rfl ?_
      refine zw_widen (k := 8) (n := 54) (show _ ≤ 8 from by omega) (show _ ≤ 54 from by omega) ?_
      refine zn_reti hx hb hr hlocks hW7 hS7 ?_ dL_does_109
      exact pDo_no hin (pRf_5 hrf9) hC9 hv hPE hc7 (fun j => by rw [hf7 87 0 j (by decide)]) (fun j => by rw [hf7 88 0 j (by decide)]) (fun j hj => by rw [hf7 86 0 j (by decide)]) (by rw [hf7 86 0 3 (by decide)]; exact hi3)
    · have hgx : zg x7 := ⟨by omega, by omega⟩
      refine W.eq (g2 := F0 m 109 ls [.int (zi x7)]) rfl ?_
      refine zw_widen (k := 8) (n := 54) (show _ ≤ 8 from by omega) (show _ ≤ 54 from by omega) ?_
      refine zn_reti hx hb hr hlocks hW7 hS7 ?_ dL_does_109
      exact pDo_sm hin (pDn_5 hr0 hr1) (fun q => absurd (pRf_lo q) (by omega)) hC9 hv9 hE9 hM9 (fun j => by rw [hf7 87 0 j (by decide)]) (fun j => by rw [hf7 88 0 j (by decide)]) (by rw [hf7 86 0 0 (by decide)]) (by rw [hf7 86 0 1 (by decide)]; exact hi1.trans h91.symm) (by rw [hf7 86 0 2 (by decide)]; exact hi2.trans h92.symm) (by rw [hf7 86 0 3 (by decide)]; exact hi3)
  by_cases hw10_7 : y9 % 20 = 7
  · refine W.eq (g2 := F0 m 10 ls [.int (zi 7)]) (by rw [hw10_7]) ?_
    refine lv_tableIn (x := zi 7) (off := 100) (tgt := 110) hx hb dL_does_10 (by decide +kernel) (by decide +kernel) (by decide +kernel) (by decide) ?_
    refine zz_aload_n hx hb hl 1 dL_does_110 rfl rfl ?_
    refine zl_callPV (T := TX6) (N := 10) (As := []) (rest := []) (v := ((0 : Nat) : Int)) (κ := 0) ⟨hx, hb, hml, hown, hts⟩ (c_X6_share l G (zr8 ad) (zcA (zr8 ad) s.heap.size) s.heap.size σ nd nr ns (pC_r8 hC).1 _ _ t hC.2.2.1 hC.2.2.2.1 (show 1000 * c ≤ 1000000 by omega)) (cwV 0 hts gL_does_X6_share rfl rfl rfl (by decide +kernel) ⟨Nat.le_of_ble_eq_true rfl, Nat.le_of_ble_eq_true rfl⟩) hK hW0 hA0 (zlN (by rw [zr8_lo (by decide)]; exact h00)) rfl rfl hS0 rfl hl.1.1 rfl (by decide) dL_does_111 ⟨show _ ≤ 8 from by omega, show _ ≤ 54 from by omega⟩ (fun x8 u8 H8 locs8 hp8 hW8 hz8 hS8 => ?_)
    obtain ⟨σ8, hs8⟩ : ∃ z, z = zg8 σ u8 := ⟨_, rfl⟩
    have hf8 : ∀ κ i k, 86 ≤ κ → σ8 κ i k = σ κ i k := fun κ i k h => by rw [hs8]; exact zg8_hi h
    rw [← hs8] at hW8
    have hq8 := pRs_g (σ := σ) (pSA_s (pC_shr (pC_r8 hC) hv hPE hc7 hp8))
    rw [← hs8] at hq8
    refine W.eq (g2 := F0 m 114 ls [.int (zi x8)]) rfl ?_
    have hsp114 := hq8
    rcases hsp114 with ⟨hrf9, hC9⟩ | ⟨⟨hr0, hr1⟩, t2, hC9, hv9, hE9, hM9, h91, h92⟩
    · have hgx : zg x8 := (pRf_5 hrf9).2
      refine W.eq (g2 := F0 m 114 ls [.int (zi x8)]) rfl ?_
      refine zw_widen (k := 8) (n := 54) (show _ ≤ 8 from by omega) (show _ ≤ 54 from by omega) ?_
      refine zn_reti hx hb hr hlocks hW8 hS8 ?_ dL_does_114
      exact pDo_no hin (pRf_5 hrf9) hC9 hv hPE hc7 (fun j => by rw [hf8 87 0 j (by decide)]) (fun j => by rw [hf8 88 0 j (by decide)]) (fun j hj => by rw [hf8 86 0 j (by decide)]) (by rw [hf8 86 0 3 (by decide)]; exact hi3)
    · have hgx : zg x8 := ⟨by omega, by omega⟩
      refine W.eq (g2 := F0 m 114 ls [.int (zi x8)]) rfl ?_
      refine zw_widen (k := 8) (n := 54) (show _ ≤ 8 from by omega) (show _ ≤ 54 from by omega) ?_
      refine zn_reti hx hb hr hlocks hW8 hS8 ?_ dL_does_114
      exact pDo_sm hin (pDn_5 hr0 hr1) (fun q => absurd (pRf_lo q) (by omega)) hC9 hv9 hE9 hM9 (fun j => by rw [hf8 87 0 j (by decide)]) (fun j => by rw [hf8 88 0 j (by decide)]) (by rw [hf8 86 0 0 (by decide)]) (by rw [hf8 86 0 1 (by decide)]; exact hi1.trans h91.symm) (by rw [hf8 86 0 2 (by decide)]; exact hi2.trans h92.symm) (by rw [hf8 86 0 3 (by decide)]; exact hi3)
  by_cases hw10_8 : y9 % 20 = 8
  · refine W.eq (g2 := F0 m 10 ls [.int (zi 8)]) (by rw [hw10_8]) ?_
    refine lv_tableIn (x := zi 8) (off := 100) (tgt := 110) hx hb dL_does_10 (by decide +kernel) (by decide +kernel) (by decide +kernel) (by decide) ?_
    refine zz_aload_n hx hb hl 1 dL_does_110 rfl rfl ?_
    refine zl_callPV (T := TX6) (N := 10) (As := []) (rest := []) (v := ((0 : Nat) : Int)) (κ := 0) ⟨hx, hb, hml, hown, hts⟩ (c_X6_share l G (zr8 ad) (zcA (zr8 ad) s.heap.size) s.heap.size σ nd nr ns (pC_r8 hC).1 _ _ t hC.2.2.1 hC.2.2.2.1 (show 1000 * c ≤ 1000000 by omega)) (cwV 0 hts gL_does_X6_share rfl rfl rfl (by decide +kernel) ⟨Nat.le_of_ble_eq_true rfl, Nat.le_of_ble_eq_true rfl⟩) hK hW0 hA0 (zlN (by rw [zr8_lo (by decide)]; exact h00)) rfl rfl hS0 rfl hl.1.1 rfl (by decide) dL_does_111 ⟨show _ ≤ 8 from by omega, show _ ≤ 54 from by omega⟩ (fun x9 u9 H9 locs9 hp9 hW9 hz9 hS9 => ?_)
    obtain ⟨σ9, hs9⟩ : ∃ z, z = zg8 σ u9 := ⟨_, rfl⟩
    have hf9 : ∀ κ i k, 86 ≤ κ → σ9 κ i k = σ κ i k := fun κ i k h => by rw [hs9]; exact zg8_hi h
    rw [← hs9] at hW9
    have hq9 := pRs_g (σ := σ) (pSA_s (pC_shr (pC_r8 hC) hv hPE hc7 hp9))
    rw [← hs9] at hq9
    refine W.eq (g2 := F0 m 114 ls [.int (zi x9)]) rfl ?_
    have hsp114 := hq9
    rcases hsp114 with ⟨hrf9, hC9⟩ | ⟨⟨hr0, hr1⟩, t2, hC9, hv9, hE9, hM9, h91, h92⟩
    · have hgx : zg x9 := (pRf_5 hrf9).2
      refine W.eq (g2 := F0 m 114 ls [.int (zi x9)]) rfl ?_
      refine zw_widen (k := 8) (n := 54) (show _ ≤ 8 from by omega) (show _ ≤ 54 from by omega) ?_
      refine zn_reti hx hb hr hlocks hW9 hS9 ?_ dL_does_114
      exact pDo_no hin (pRf_5 hrf9) hC9 hv hPE hc7 (fun j => by rw [hf9 87 0 j (by decide)]) (fun j => by rw [hf9 88 0 j (by decide)]) (fun j hj => by rw [hf9 86 0 j (by decide)]) (by rw [hf9 86 0 3 (by decide)]; exact hi3)
    · have hgx : zg x9 := ⟨by omega, by omega⟩
      refine W.eq (g2 := F0 m 114 ls [.int (zi x9)]) rfl ?_
      refine zw_widen (k := 8) (n := 54) (show _ ≤ 8 from by omega) (show _ ≤ 54 from by omega) ?_
      refine zn_reti hx hb hr hlocks hW9 hS9 ?_ dL_does_114
      exact pDo_sm hin (pDn_5 hr0 hr1) (fun q => absurd (pRf_lo q) (by omega)) hC9 hv9 hE9 hM9 (fun j => by rw [hf9 87 0 j (by decide)]) (fun j => by rw [hf9 88 0 j (by decide)]) (by rw [hf9 86 0 0 (by decide)]) (by rw [hf9 86 0 1 (by decide)]; exact hi1.trans h91.symm) (by rw [hf9 86 0 2 (by decide)]; exact hi2.trans h92.symm) (by rw [hf9 86 0 3 (by decide)]; exact hi3)
  by_cases hw10_9 : y9 % 20 = 9
  · refine W.eq (g2 := F0 m 10 ls [.int (zi 9)]) (by rw [hw10_9]) ?_
    refine lv_tableIn (x := zi 9) (off := 100) (tgt := 110) hx hb dL_does_10 (by decide +kernel) (by decide +kernel) (by decide +kernel) (by decide) ?_
    refine zz_aload_n hx hb hl 1 dL_does_110 rfl rfl ?_
    refine zl_callPV (T := TX6) (N := 10) (As := []) (rest := []) (v := ((0 : Nat) : Int)) (κ := 0) ⟨hx, hb, hml, hown, hts⟩ (c_X6_share l G (zr8 ad) (zcA (zr8 ad) s.heap.size) s.heap.size σ nd nr ns (pC_r8 hC).1 _ _ t hC.2.2.1 hC.2.2.2.1 (show 1000 * c ≤ 1000000 by omega)) (cwV 0 hts gL_does_X6_share rfl rfl rfl (by decide +kernel) ⟨Nat.le_of_ble_eq_true rfl, Nat.le_of_ble_eq_true rfl⟩) hK hW0 hA0 (zlN (by rw [zr8_lo (by decide)]; exact h00)) rfl rfl hS0 rfl hl.1.1 rfl (by decide) dL_does_111 ⟨show _ ≤ 8 from by omega, show _ ≤ 54 from by omega⟩ (fun x10 u10 H10 locs10 hp10 hW10 hz10 hS10 => ?_)
    obtain ⟨σ10, hs10⟩ : ∃ z, z = zg8 σ u10 := ⟨_, rfl⟩
    have hf10 : ∀ κ i k, 86 ≤ κ → σ10 κ i k = σ κ i k := fun κ i k h => by rw [hs10]; exact zg8_hi h
    rw [← hs10] at hW10
    have hq10 := pRs_g (σ := σ) (pSA_s (pC_shr (pC_r8 hC) hv hPE hc7 hp10))
    rw [← hs10] at hq10
    refine W.eq (g2 := F0 m 114 ls [.int (zi x10)]) rfl ?_
    have hsp114 := hq10
    rcases hsp114 with ⟨hrf9, hC9⟩ | ⟨⟨hr0, hr1⟩, t2, hC9, hv9, hE9, hM9, h91, h92⟩
    · have hgx : zg x10 := (pRf_5 hrf9).2
      refine W.eq (g2 := F0 m 114 ls [.int (zi x10)]) rfl ?_
      refine zw_widen (k := 8) (n := 54) (show _ ≤ 8 from by omega) (show _ ≤ 54 from by omega) ?_
      refine zn_reti hx hb hr hlocks hW10 hS10 ?_ dL_does_114
      exact pDo_no hin (pRf_5 hrf9) hC9 hv hPE hc7 (fun j => by rw [hf10 87 0 j (by decide)]) (fun j => by rw [hf10 88 0 j (by decide)]) (fun j hj => by rw [hf10 86 0 j (by decide)]) (by rw [hf10 86 0 3 (by decide)]; exact hi3)
    · have hgx : zg x10 := ⟨by omega, by omega⟩
      refine W.eq (g2 := F0 m 114 ls [.int (zi x10)]) rfl ?_
      refine zw_widen (k := 8) (n := 54) (show _ ≤ 8 from by omega) (show _ ≤ 54 from by omega) ?_
      refine zn_reti hx hb hr hlocks hW10 hS10 ?_ dL_does_114
      exact pDo_sm hin (pDn_5 hr0 hr1) (fun q => absurd (pRf_lo q) (by omega)) hC9 hv9 hE9 hM9 (fun j => by rw [hf10 87 0 j (by decide)]) (fun j => by rw [hf10 88 0 j (by decide)]) (by rw [hf10 86 0 0 (by decide)]) (by rw [hf10 86 0 1 (by decide)]; exact hi1.trans h91.symm) (by rw [hf10 86 0 2 (by decide)]; exact hi2.trans h92.symm) (by rw [hf10 86 0 3 (by decide)]; exact hi3)
  by_cases hw10_10 : y9 % 20 = 10
  · refine W.eq (g2 := F0 m 10 ls [.int (zi 10)]) (by rw [hw10_10]) ?_
    refine lv_tableIn (x := zi 10) (off := 105) (tgt := 115) hx hb dL_does_10 (by decide +kernel) (by decide +kernel) (by decide +kernel) (by decide) ?_
    refine zz_aload_n hx hb hl 1 dL_does_115 rfl rfl ?_
    refine zl_callPV (T := TX6) (N := 10) (As := []) (rest := []) (v := ((0 : Nat) : Int)) (κ := 0) ⟨hx, hb, hml, hown, hts⟩ (c_X6_airport l G (zr8 ad) (zcA (zr8 ad) s.heap.size) s.heap.size σ nd nr ns (pC_r8 hC).1 _ _ t hC.2.2.1 hC.2.2.2.1 (show 1000 * c ≤ 1000000 by omega)) (cwV 0 hts gL_does_X6_airport rfl rfl rfl (by decide +kernel) ⟨Nat.le_of_ble_eq_true rfl, Nat.le_of_ble_eq_true rfl⟩) hK hW0 hA0 (zlN (by rw [zr8_lo (by decide)]; exact h00)) rfl rfl hS0 rfl hl.1.1 rfl (by decide) dL_does_116 ⟨show _ ≤ 8 from by omega, show _ ≤ 54 from by omega⟩ (fun x11 u11 H11 locs11 hp11 hW11 hz11 hS11 => ?_)
    obtain ⟨σ11, hs11⟩ : ∃ z, z = zg8 σ u11 := ⟨_, rfl⟩
    have hf11 : ∀ κ i k, 86 ≤ κ → σ11 κ i k = σ κ i k := fun κ i k h => by rw [hs11]; exact zg8_hi h
    rw [← hs11] at hW11
    have hq11 := pRs_g (σ := σ) (pSA_s (pC_air (pC_r8 hC) hv hPE hc7 hp11))
    rw [← hs11] at hq11
    refine W.eq (g2 := F0 m 119 ls [.int (zi x11)]) rfl ?_
    have hsp119 := hq11
    rcases hsp119 with ⟨hrf9, hC9⟩ | ⟨⟨hr0, hr1⟩, t2, hC9, hv9, hE9, hM9, h91, h92⟩
    · have hgx : zg x11 := (pRf_5 hrf9).2
      refine W.eq (g2 := F0 m 119 ls [.int (zi x11)]) rfl ?_
      refine zw_widen (k := 8) (n := 54) (show _ ≤ 8 from by omega) (show _ ≤ 54 from by omega) ?_
      refine zn_reti hx hb hr hlocks hW11 hS11 ?_ dL_does_119
      exact pDo_no hin (pRf_5 hrf9) hC9 hv hPE hc7 (fun j => by rw [hf11 87 0 j (by decide)]) (fun j => by rw [hf11 88 0 j (by decide)]) (fun j hj => by rw [hf11 86 0 j (by decide)]) (by rw [hf11 86 0 3 (by decide)]; exact hi3)
    · have hgx : zg x11 := ⟨by omega, by omega⟩
      refine W.eq (g2 := F0 m 119 ls [.int (zi x11)]) rfl ?_
      refine zw_widen (k := 8) (n := 54) (show _ ≤ 8 from by omega) (show _ ≤ 54 from by omega) ?_
      refine zn_reti hx hb hr hlocks hW11 hS11 ?_ dL_does_119
      exact pDo_sm hin (pDn_5 hr0 hr1) (fun q => absurd (pRf_lo q) (by omega)) hC9 hv9 hE9 hM9 (fun j => by rw [hf11 87 0 j (by decide)]) (fun j => by rw [hf11 88 0 j (by decide)]) (by rw [hf11 86 0 0 (by decide)]) (by rw [hf11 86 0 1 (by decide)]; exact hi1.trans h91.symm) (by rw [hf11 86 0 2 (by decide)]; exact hi2.trans h92.symm) (by rw [hf11 86 0 3 (by decide)]; exact hi3)
  by_cases hw10_11 : y9 % 20 = 11
  · refine W.eq (g2 := F0 m 10 ls [.int (zi 11)]) (by rw [hw10_11]) ?_
    refine lv_tableIn (x := zi 11) (off := 110) (tgt := 120) hx hb dL_does_10 (by decide +kernel) (by decide +kernel) (by decide +kernel) (by decide) ?_
    refine zz_aload_n hx hb hl 2 dL_does_120 rfl rfl ?_
    refine zz_iconst hx hb dL_does_121 ?_
    refine zz_iload hx hb hl 5 dL_does_122 rfl ?_
    refine zz_if_eq (tgt := 131) hx hb dL_does_124 (by decide) ⟨by omega, by omega⟩ (fun hc124 => ?_) (fun hc124 => ?_)
    · 
      refine zz_aload_n hx hb hl 2 dL_does_131 rfl rfl ?_
      refine zz_iconst hx hb dL_does_132 ?_
      refine zz_iald (w := σ 86 0 3) hx hb hK hW0 (zlN hn) rfl rfl rfl (by show (0 : Int) ≤ 3; omega) (by show 3 < (4 : Int); omega) rfl dL_does_133 ?_
      refine zz_iast (y := (σ 86 0 3)) hx hb hK hW0 hS0 (zlN hn) rfl rfl rfl (by show (0 : Int) ≤ 3; omega) (by show 3 < (4 : Int); omega) (hW0.2.2.1 _ _ _) dL_does_134 (fun H12 locs12 hW12' hS12 => ?_)
      obtain ⟨σ12, hs12⟩ : ∃ z, z = zu σ 86 0 3 (σ 86 0 3) := ⟨_, rfl⟩
      have hW12 : ZW G ad A σ12 H12 := by rw [hs12]; exact hW12'
      have hCb : pC ad σ12 t nd nr ns c := pC_hi hC (fun κ i k h => by rw [hs12]; exact zu_k (by omega))
      refine zz_iload hx hb hl 5 dL_does_135 rfl ?_
      refine zz_if_eq (tgt := 162) hx hb dL_does_137 (by decide) ⟨by omega, by omega⟩ (fun hc137 => ?_) (fun hc137 => ?_)
      · refine zz_iconst hx hb dL_does_162 ?_
        refine W.eq (g2 := F0 m 163 ls [.int (zi 0)]) rfl ?_
        refine zw_widen (k := 8) (n := 54) (show _ ≤ 8 from by omega) (show _ ≤ 54 from by omega) ?_
        refine zn_reti hx hb hr hlocks hW12 hS12 ?_ dL_does_163
        exact pDo_no hin (pDn_5 (by decide) (by decide)) hCb hv hPE hc7 (fun j => by rw [hs12, zu_k (by decide)]) (fun j => by rw [hs12, zu_k (by decide)]) (fun j hj => by rw [hs12, zu_s (by omega)]) (by rw [hs12, zu_same]; exact hi3)
      · exact absurd hc124 hc137
    · 
      refine zz_iconst hx hb dL_does_127 ?_
      refine zz_goto (tgt := 134) hx hb dL_does_128 (by decide) ?_
      refine zz_iast (y := 1) hx hb hK hW0 hS0 (zlN hn) rfl rfl rfl (by show (0 : Int) ≤ 3; omega) (by show 3 < (4 : Int); omega) ⟨by decide, by decide⟩ dL_does_134 (fun H13 locs13 hW13' hS13 => ?_)
      obtain ⟨σ13, hs13⟩ : ∃ z, z = zu σ 86 0 3 1 := ⟨_, rfl⟩
      have hW13 : ZW G ad A σ13 H13 := by rw [hs13]; exact hW13'
      have hCb : pC ad σ13 t nd nr ns c := pC_hi hC (fun κ i k h => by rw [hs13]; exact zu_k (by omega))
      refine zz_iload hx hb hl 5 dL_does_135 rfl ?_
      refine zz_if_eq (tgt := 162) hx hb dL_does_137 (by decide) ⟨by omega, by omega⟩ (fun hc137 => ?_) (fun hc137 => ?_)
      · exact absurd hc137 hc124
      · refine zz_aload_n hx hb hl 1 dL_does_140 rfl rfl ?_
        refine zz_iload hx hb hl 0 dL_does_141 rfl ?_
        refine zz_bipush hx hb dL_does_143 (by decide +kernel) ?_
        refine zz_irem hx hb dL_does_145 ⟨by omega, by omega⟩ ⟨by decide, by decide⟩ (by omega) (by omega) ?_
        refine zz_iconst hx hb dL_does_146 ?_
        refine zz_iload hx hb hl 0 dL_does_147 rfl ?_
        refine zz_bipush hx hb dL_does_149 (by decide +kernel) ?_
        refine zz_idiv hx hb dL_does_151 ⟨by omega, by omega⟩ ⟨by decide, by decide⟩ (by omega) (by omega) ?_
        refine zz_bipush hx hb dL_does_152 (by decide +kernel) ?_
        refine zz_irem hx hb dL_does_154 ⟨by omega, by omega⟩ ⟨by decide, by decide⟩ (by omega) (by omega) ?_
        refine zz_iadd hx hb dL_does_155 ?_
        refine zl_callP (As := [zr (zr8 ad) 0 ((0 : Nat) : Int), .int (zi ((y9 / 20) % 7)), .int (zi (1 + (((y9 / 20) / 7) % 21)))]) (rest := []) ⟨hx, hb, hml, hown, hts⟩ (cl_slow l hst G (zr8 ad) (zcA (zr8 ad) H13.size) H13.size σ13 t nd nr ns c (pC_r8 hCb) hW13.2.2.1 sl hv hPE ((y9 / 20) % 7) (1 + (y9 / 20) / 7 % 21) ⟨by omega, by omega⟩ ⟨by omega, by omega⟩ hc7) (vx_cwSW 3 hts gL_does_L_slow rfl rfl rfl (by decide +kernel) ⟨Nat.le_of_ble_eq_true rfl, Nat.le_of_ble_eq_true rfl⟩) hK hE hAA hNC hW13 hA0 hS13 rfl hl.1.1 rfl (Nat.le_of_ble_eq_true rfl) dL_does_156 ⟨show _ ≤ 8 from by omega, show _ ≤ 54 from by omega⟩ (fun x14 u14 H14 locs14 hp14 hW14 hz14 hS14 => ?_)
        obtain ⟨σ14, hs14⟩ : ∃ z, z = zg8 σ13 u14 := ⟨_, rfl⟩
        have hf14 : ∀ κ i k, 86 ≤ κ → σ14 κ i k = σ13 κ i k := fun κ i k h => by rw [hs14]; exact zg8_hi h
        rw [← hs14] at hW14
        have hq14 := pRs_g (σ := σ13) (pRes_s hp14)
        rw [← hs14] at hq14
        refine W.eq (g2 := F0 m 159 ls [.int (zi x14)]) rfl ?_
        refine zz_goto (tgt := 163) hx hb dL_does_159 (by decide) ?_
        have hsp163 := hq14
        rcases hsp163 with ⟨hrf9, hC9⟩ | ⟨⟨hr0, hr1⟩, t2, hC9, hv9, hE9, hM9, h91, h92⟩
        · have hgx : zg x14 := (pRf_5 hrf9).2
          refine W.eq (g2 := F0 m 163 ls [.int (zi x14)]) rfl ?_
          refine zw_widen (k := 8) (n := 54) (show _ ≤ 8 from by omega) (show _ ≤ 54 from by omega) ?_
          refine zn_reti hx hb hr hlocks hW14 hS14 ?_ dL_does_163
          exact pDo_no hin (pRf_5 hrf9) hC9 hv hPE hc7 (fun j => by rw [hf14 87 0 j (by decide), hs13, zu_k (by decide)]) (fun j => by rw [hf14 88 0 j (by decide), hs13, zu_k (by decide)]) (fun j hj => by rw [hf14 86 0 j (by decide), hs13, zu_s (by omega)]) (Or.inl (by rw [hf14 86 0 3 (by decide), hs13, zu_same]))
        · have hgx : zg x14 := ⟨by omega, by omega⟩
          refine W.eq (g2 := F0 m 163 ls [.int (zi x14)]) rfl ?_
          refine zw_widen (k := 8) (n := 54) (show _ ≤ 8 from by omega) (show _ ≤ 54 from by omega) ?_
          refine zn_reti hx hb hr hlocks hW14 hS14 ?_ dL_does_163
          exact pDo_sm hin (pDn_5 hr0 hr1) (fun q => absurd (pRf_lo q) (by omega)) hC9 hv9 hE9 hM9 (fun j => by rw [hf14 87 0 j (by decide), hs13, zu_k (by decide)]) (fun j => by rw [hf14 88 0 j (by decide), hs13, zu_k (by decide)]) (by rw [hf14 86 0 0 (by decide), hs13, zu_s (by decide)]) (by rw [hf14 86 0 1 (by decide), hs13, zu_s (by decide)]; exact hi1.trans h91.symm) (by rw [hf14 86 0 2 (by decide), hs13, zu_s (by decide)]; exact hi2.trans h92.symm) (Or.inl (by rw [hf14 86 0 3 (by decide), hs13, zu_same]))
  by_cases hw10_12 : y9 % 20 = 12
  · refine W.eq (g2 := F0 m 10 ls [.int (zi 12)]) (by rw [hw10_12]) ?_
    refine lv_tableIn (x := zi 12) (off := 154) (tgt := 164) hx hb dL_does_10 (by decide +kernel) (by decide +kernel) (by decide +kernel) (by decide) ?_
    refine zz_aload_n hx hb hl 1 dL_does_164 rfl rfl ?_
    refine zz_iload hx hb hl 0 dL_does_165 rfl ?_
    refine zz_iconst hx hb dL_does_167 ?_
    refine zz_irem hx hb dL_does_168 ⟨by omega, by omega⟩ ⟨by decide, by decide⟩ (by omega) (by omega) ?_
    refine zz_iload hx hb hl 0 dL_does_169 rfl ?_
    refine zz_iconst hx hb dL_does_171 ?_
    refine zz_idiv hx hb dL_does_172 ⟨by omega, by omega⟩ ⟨by decide, by decide⟩ (by omega) (by omega) ?_
    refine zz_iconst hx hb dL_does_173 ?_
    refine zz_irem hx hb dL_does_174 ⟨by omega, by omega⟩ ⟨by decide, by decide⟩ (by omega) (by omega) ?_
    refine zz_if_ne (tgt := 182) hx hb dL_does_175 (by decide) ⟨by omega, by omega⟩ (fun hc175 => ?_) (fun hc175 => ?_)
    · refine zz_iconst hx hb dL_does_182 ?_
      refine zl_callP (As := [zr (zr8 ad) 0 ((0 : Nat) : Int), .int (zi ((y9 / 20) % 4)), .int (zi 0)]) (rest := []) ⟨hx, hb, hml, hown, hts⟩ (cl_rest l hst G (zr8 ad) (zcA (zr8 ad) s.heap.size) s.heap.size σ t nd nr ns c (pC_r8 hC) hW0.2.2.1 sl hv hPE ((y9 / 20) % 4) 0 ⟨by omega, by omega⟩ (Or.inl rfl) hc7) (vx_cwSW 3 hts gL_does_L_rest rfl rfl rfl (by decide +kernel) ⟨Nat.le_of_ble_eq_true rfl, Nat.le_of_ble_eq_true rfl⟩) hK hE hAA hNC hW0 hA0 hS0 rfl hl.1.1 rfl (Nat.le_of_ble_eq_true rfl) dL_does_183 ⟨show _ ≤ 8 from by omega, show _ ≤ 54 from by omega⟩ (fun x15 u15 H15 locs15 hp15 hW15 hz15 hS15 => ?_)
      obtain ⟨σ15, hs15⟩ : ∃ z, z = zg8 σ u15 := ⟨_, rfl⟩
      have hf15 : ∀ κ i k, 86 ≤ κ → σ15 κ i k = σ κ i k := fun κ i k h => by rw [hs15]; exact zg8_hi h
      rw [← hs15] at hW15
      have hq15 := pRs_g (σ := σ) (pRes_s hp15)
      rw [← hs15] at hq15
      refine W.eq (g2 := F0 m 186 ls [.int (zi x15)]) rfl ?_
      have hsp186 := hq15
      rcases hsp186 with ⟨hrf9, hC9⟩ | ⟨⟨hr0, hr1⟩, t2, hC9, hv9, hE9, hM9, h91, h92⟩
      · have hgx : zg x15 := (pRf_5 hrf9).2
        refine W.eq (g2 := F0 m 186 ls [.int (zi x15)]) rfl ?_
        refine zw_widen (k := 8) (n := 54) (show _ ≤ 8 from by omega) (show _ ≤ 54 from by omega) ?_
        refine zn_reti hx hb hr hlocks hW15 hS15 ?_ dL_does_186
        exact pDo_no hin (pRf_5 hrf9) hC9 hv hPE hc7 (fun j => by rw [hf15 87 0 j (by decide)]) (fun j => by rw [hf15 88 0 j (by decide)]) (fun j hj => by rw [hf15 86 0 j (by decide)]) (by rw [hf15 86 0 3 (by decide)]; exact hi3)
      · have hgx : zg x15 := ⟨by omega, by omega⟩
        refine W.eq (g2 := F0 m 186 ls [.int (zi x15)]) rfl ?_
        refine zw_widen (k := 8) (n := 54) (show _ ≤ 8 from by omega) (show _ ≤ 54 from by omega) ?_
        refine zn_reti hx hb hr hlocks hW15 hS15 ?_ dL_does_186
        exact pDo_sm hin (pDn_5 hr0 hr1) (fun q => absurd (pRf_lo q) (by omega)) hC9 hv9 hE9 hM9 (fun j => by rw [hf15 87 0 j (by decide)]) (fun j => by rw [hf15 88 0 j (by decide)]) (by rw [hf15 86 0 0 (by decide)]) (by rw [hf15 86 0 1 (by decide)]; exact hi1.trans h91.symm) (by rw [hf15 86 0 2 (by decide)]; exact hi2.trans h92.symm) (by rw [hf15 86 0 3 (by decide)]; exact hi3)
    · refine zz_iconst hx hb dL_does_178 ?_
      refine zz_goto (tgt := 183) hx hb dL_does_179 (by decide) ?_
      refine zl_callP (As := [zr (zr8 ad) 0 ((0 : Nat) : Int), .int (zi ((y9 / 20) % 4)), .int (zi 1)]) (rest := []) ⟨hx, hb, hml, hown, hts⟩ (cl_rest l hst G (zr8 ad) (zcA (zr8 ad) s.heap.size) s.heap.size σ t nd nr ns c (pC_r8 hC) hW0.2.2.1 sl hv hPE ((y9 / 20) % 4) 1 ⟨by omega, by omega⟩ (Or.inr rfl) hc7) (vx_cwSW 3 hts gL_does_L_rest rfl rfl rfl (by decide +kernel) ⟨Nat.le_of_ble_eq_true rfl, Nat.le_of_ble_eq_true rfl⟩) hK hE hAA hNC hW0 hA0 hS0 rfl hl.1.1 rfl (Nat.le_of_ble_eq_true rfl) dL_does_183 ⟨show _ ≤ 8 from by omega, show _ ≤ 54 from by omega⟩ (fun x16 u16 H16 locs16 hp16 hW16 hz16 hS16 => ?_)
      obtain ⟨σ16, hs16⟩ : ∃ z, z = zg8 σ u16 := ⟨_, rfl⟩
      have hf16 : ∀ κ i k, 86 ≤ κ → σ16 κ i k = σ κ i k := fun κ i k h => by rw [hs16]; exact zg8_hi h
      rw [← hs16] at hW16
      have hq16 := pRs_g (σ := σ) (pRes_s hp16)
      rw [← hs16] at hq16
      refine W.eq (g2 := F0 m 186 ls [.int (zi x16)]) rfl ?_
      have hsp186 := hq16
      rcases hsp186 with ⟨hrf9, hC9⟩ | ⟨⟨hr0, hr1⟩, t2, hC9, hv9, hE9, hM9, h91, h92⟩
      · have hgx : zg x16 := (pRf_5 hrf9).2
        refine W.eq (g2 := F0 m 186 ls [.int (zi x16)]) rfl ?_
        refine zw_widen (k := 8) (n := 54) (show _ ≤ 8 from by omega) (show _ ≤ 54 from by omega) ?_
        refine zn_reti hx hb hr hlocks hW16 hS16 ?_ dL_does_186
        exact pDo_no hin (pRf_5 hrf9) hC9 hv hPE hc7 (fun j => by rw [hf16 87 0 j (by decide)]) (fun j => by rw [hf16 88 0 j (by decide)]) (fun j hj => by rw [hf16 86 0 j (by decide)]) (by rw [hf16 86 0 3 (by decide)]; exact hi3)
      · have hgx : zg x16 := ⟨by omega, by omega⟩
        refine W.eq (g2 := F0 m 186 ls [.int (zi x16)]) rfl ?_
        refine zw_widen (k := 8) (n := 54) (show _ ≤ 8 from by omega) (show _ ≤ 54 from by omega) ?_
        refine zn_reti hx hb hr hlocks hW16 hS16 ?_ dL_does_186
        exact pDo_sm hin (pDn_5 hr0 hr1) (fun q => absurd (pRf_lo q) (by omega)) hC9 hv9 hE9 hM9 (fun j => by rw [hf16 87 0 j (by decide)]) (fun j => by rw [hf16 88 0 j (by decide)]) (by rw [hf16 86 0 0 (by decide)]) (by rw [hf16 86 0 1 (by decide)]; exact hi1.trans h91.symm) (by rw [hf16 86 0 2 (by decide)]; exact hi2.trans h92.symm) (by rw [hf16 86 0 3 (by decide)]; exact hi3)
  by_cases hw10_13 : y9 % 20 = 13
  · refine W.eq (g2 := F0 m 10 ls [.int (zi 13)]) (by rw [hw10_13]) ?_
    refine lv_tableIn (x := zi 13) (off := 177) (tgt := 187) hx hb dL_does_10 (by decide +kernel) (by decide +kernel) (by decide +kernel) (by decide) ?_
    refine zz_aload_n hx hb hl 1 dL_does_187 rfl rfl ?_
    refine zz_iload hx hb hl 0 dL_does_188 rfl ?_
    refine zz_iconst hx hb dL_does_190 ?_
    refine zz_irem hx hb dL_does_191 ⟨by omega, by omega⟩ ⟨by decide, by decide⟩ (by omega) (by omega) ?_
    refine zz_iload hx hb hl 0 dL_does_192 rfl ?_
    refine zz_iconst hx hb dL_does_194 ?_
    refine zz_idiv hx hb dL_does_195 ⟨by omega, by omega⟩ ⟨by decide, by decide⟩ (by omega) (by omega) ?_
    refine zz_bipush hx hb dL_does_196 (by decide +kernel) ?_
    refine zz_irem hx hb dL_does_198 ⟨by omega, by omega⟩ ⟨by decide, by decide⟩ (by omega) (by omega) ?_
    refine zl_callP (As := [zr (zr8 ad) 0 ((0 : Nat) : Int), .int (zi ((y9 / 20) % 4)), .int (zi (((y9 / 20) / 4) % 7))]) (rest := []) ⟨hx, hb, hml, hown, hts⟩ (cl_wander l hst G (zr8 ad) (zcA (zr8 ad) s.heap.size) s.heap.size σ t nd nr ns c (pC_r8 hC) hW0.2.2.1 sl hv hPE ((y9 / 20) % 4) ((y9 / 20) / 4 % 7) ⟨by omega, by omega⟩ ⟨by omega, by omega⟩ hc7) (vx_cwSW 3 hts gL_does_L_wander rfl rfl rfl (by decide +kernel) ⟨Nat.le_of_ble_eq_true rfl, Nat.le_of_ble_eq_true rfl⟩) hK hE hAA hNC hW0 hA0 hS0 rfl hl.1.1 rfl (Nat.le_of_ble_eq_true rfl) dL_does_199 ⟨show _ ≤ 8 from by omega, show _ ≤ 54 from by omega⟩ (fun x17 u17 H17 locs17 hp17 hW17 hz17 hS17 => ?_)
    obtain ⟨σ17, hs17⟩ : ∃ z, z = zg8 σ u17 := ⟨_, rfl⟩
    have hf17 : ∀ κ i k, 86 ≤ κ → σ17 κ i k = σ κ i k := fun κ i k h => by rw [hs17]; exact zg8_hi h
    rw [← hs17] at hW17
    have hq17 := pRs_g (σ := σ) (pRes_s hp17)
    rw [← hs17] at hq17
    refine W.eq (g2 := F0 m 202 ls [.int (zi x17)]) rfl ?_
    refine zz_istore (lv' := [(6, .int (zi x17)), (5, .int (zi (y9 / 20))), (0, zr ad 0 ((0 : Nat) : Int)), (1, zr ad 86 ((0 : Nat) : Int)), (2, zr ad 87 ((0 : Nat) : Int)), (3, .int (zi y9)), (4, .int (zi sw))]) hx hb hl dL_does_202 (by decide) rfl (fun ls hl => ?_)
    have hsp204 := hq17
    rcases hsp204 with ⟨hrf9, hC9⟩ | ⟨⟨hr0, hr1⟩, t2, hC9, hv9, hE9, hM9, h91, h92, h93⟩
    · have hgx : zg x17 := (pRf_5 hrf9).2
      refine zz_iload hx hb hl 0 dL_does_204 rfl ?_
      refine zl_callM (As := [.int (zi x17)]) (rest := []) ⟨hx, hb, hml, hown, hts⟩ (c_L_isRefused l G ad A N0 σ17 x17 hgx) (va_cwS 1 hts gL_does_L_isRefused rfl rfl rfl (by decide +kernel) ⟨Nat.le_of_ble_eq_true rfl, Nat.le_of_ble_eq_true rfl⟩) hK hE hAA hNC hW17 (Nat.le_trans hsz hS17.1) hS17 (fun q h => h) rfl hl.1.1 rfl (Nat.le_of_ble_eq_true rfl) dL_does_206 ⟨show _ ≤ 8 from by omega, show _ ≤ 54 from by omega⟩ (fun x18 u18 H18 locs18 hp18 hW18 hz18 hk18 hS18 => ?_)
      rw [zb_t (show pRf x17 from hrf9)] at hp18
      obtain ⟨rfl, rfl⟩ := hp18
      refine W.eq (g2 := F0 m 209 ls [.int (zi 1)]) rfl ?_
      refine zz_if_ne (tgt := 220) hx hb dL_does_209 (by decide) ⟨by decide, by decide⟩ (fun hc209 => ?_) (fun hc209 => ?_)
      · refine zz_iload hx hb hl 0 dL_does_220 rfl ?_
        refine zz_goto (tgt := 227) hx hb dL_does_222 (by decide) ?_
        refine W.eq (g2 := F0 m 227 ls [.int (zi x17)]) rfl ?_
        refine zw_widen (k := 8) (n := 54) (show _ ≤ 8 from by omega) (show _ ≤ 54 from by omega) ?_
        refine zn_reti hx hb hr hlocks hW18 hS18 ?_ dL_does_227
        exact pDo_no hin (pRf_5 hrf9) hC9 hv hPE hc7 (fun j => by rw [hf17 87 0 j (by decide)]) (fun j => by rw [hf17 88 0 j (by decide)]) (fun j hj => by rw [hf17 86 0 j (by decide)]) (by rw [hf17 86 0 3 (by decide)]; exact hi3)
      · exact absurd hc209 (by decide)
    · have hgx : zg x17 := ⟨by omega, by omega⟩
      refine zz_iload hx hb hl 0 dL_does_204 rfl ?_
      refine zl_callM (As := [.int (zi x17)]) (rest := []) ⟨hx, hb, hml, hown, hts⟩ (c_L_isRefused l G ad A N0 σ17 x17 hgx) (va_cwS 1 hts gL_does_L_isRefused rfl rfl rfl (by decide +kernel) ⟨Nat.le_of_ble_eq_true rfl, Nat.le_of_ble_eq_true rfl⟩) hK hE hAA hNC hW17 (Nat.le_trans hsz hS17.1) hS17 (fun q h => h) rfl hl.1.1 rfl (Nat.le_of_ble_eq_true rfl) dL_does_206 ⟨show _ ≤ 8 from by omega, show _ ≤ 54 from by omega⟩ (fun x19 u19 H19 locs19 hp19 hW19 hz19 hk19 hS19 => ?_)
      rw [zb_f (show ¬ pRf x17 from fun q => by have := pRf_lo q; omega)] at hp19
      obtain ⟨rfl, rfl⟩ := hp19
      refine W.eq (g2 := F0 m 209 ls [.int (zi 0)]) rfl ?_
      refine zz_if_ne (tgt := 220) hx hb dL_does_209 (by decide) ⟨by decide, by decide⟩ (fun hc209 => ?_) (fun hc209 => ?_)
      · exact absurd rfl hc209
      · refine zz_iload hx hb hl 0 dL_does_212 rfl ?_
        refine zz_aload_n hx hb hl 3 dL_does_214 rfl rfl ?_
        refine zz_iconst hx hb dL_does_215 ?_
        refine zz_iald (w := t 30 0 1) hx hb hK hW19 (zlN hn) rfl rfl rfl (by show (0 : Int) ≤ 1; omega) (by show 1 < (4 : Int); omega) (show σ17 86 0 1 = t 30 0 1 from by rw [hf17 86 0 1 (by decide), hi1]) dL_does_216 ?_
        refine zz_icmp_le (tgt := 225) hx hb dL_does_217 (by decide) hgx ⟨by omega, by omega⟩ (fun hc217 => ?_) (fun hc217 => ?_)
        · exfalso; omega
        · refine zz_iload hx hb hl 0 dL_does_220 rfl ?_
          refine zz_goto (tgt := 227) hx hb dL_does_222 (by decide) ?_
          refine W.eq (g2 := F0 m 227 ls [.int (zi x17)]) rfl ?_
          refine zw_widen (k := 8) (n := 54) (show _ ≤ 8 from by omega) (show _ ≤ 54 from by omega) ?_
          refine zn_reti hx hb hr hlocks hW19 hS19 ?_ dL_does_227
          exact pDo_sm hin (pDn_5 hr0 hr1) (fun q => absurd (pRf_lo q) (by omega)) hC9 hv9 hE9 hM9 (fun j => by rw [hf17 87 0 j (by decide)]) (fun j => by rw [hf17 88 0 j (by decide)]) (by rw [hf17 86 0 0 (by decide)]) (by rw [hf17 86 0 1 (by decide)]; exact hi1.trans h91.symm) (by rw [hf17 86 0 2 (by decide)]; exact hi2.trans h92.symm) (by rw [hf17 86 0 3 (by decide)]; exact hi3)
  by_cases hw10_14 : y9 % 20 = 14
  · refine W.eq (g2 := F0 m 10 ls [.int (zi 14)]) (by rw [hw10_14]) ?_
    refine lv_tableIn (x := zi 14) (off := 218) (tgt := 228) hx hb dL_does_10 (by decide +kernel) (by decide +kernel) (by decide +kernel) (by decide) ?_
    refine zz_aload_n hx hb hl 1 dL_does_228 rfl rfl ?_
    refine zz_iload hx hb hl 0 dL_does_229 rfl ?_
    refine zz_bipush hx hb dL_does_231 (by decide +kernel) ?_
    refine zz_irem hx hb dL_does_233 ⟨by omega, by omega⟩ ⟨by decide, by decide⟩ (by omega) (by omega) ?_
    refine zl_callP (As := [zr (zr8 ad) 0 ((0 : Nat) : Int), .int (zi ((y9 / 20) % 13))]) (rest := []) ⟨hx, hb, hml, hown, hts⟩ (cl_cancel l hst G (zr8 ad) (zcA (zr8 ad) s.heap.size) s.heap.size σ t nd nr ns c (pC_r8 hC) hW0.2.2.1 sl hv hPE ((y9 / 20) % 13) ⟨by omega, by omega⟩ hc7) (vx_cwSW 2 hts gL_does_L_cancel rfl rfl rfl (by decide +kernel) ⟨Nat.le_of_ble_eq_true rfl, Nat.le_of_ble_eq_true rfl⟩) hK hE hAA hNC hW0 hA0 hS0 rfl hl.1.1 rfl (Nat.le_of_ble_eq_true rfl) dL_does_234 ⟨show _ ≤ 8 from by omega, show _ ≤ 54 from by omega⟩ (fun x20 u20 H20 locs20 hp20 hW20 hz20 hS20 => ?_)
    obtain ⟨σ20, hs20⟩ : ∃ z, z = zg8 σ u20 := ⟨_, rfl⟩
    have hf20 : ∀ κ i k, 86 ≤ κ → σ20 κ i k = σ κ i k := fun κ i k h => by rw [hs20]; exact zg8_hi h
    rw [← hs20] at hW20
    have hq20 := pRs_g (σ := σ) (pRes_s hp20)
    rw [← hs20] at hq20
    refine W.eq (g2 := F0 m 237 ls [.int (zi x20)]) rfl ?_
    refine zz_istore (lv' := [(6, .int (zi x20)), (5, .int (zi (y9 / 20))), (0, zr ad 0 ((0 : Nat) : Int)), (1, zr ad 86 ((0 : Nat) : Int)), (2, zr ad 87 ((0 : Nat) : Int)), (3, .int (zi y9)), (4, .int (zi sw))]) hx hb hl dL_does_237 (by decide) rfl (fun ls hl => ?_)
    have hsp239 := hq20
    rcases hsp239 with ⟨hrf9, hC9⟩ | ⟨⟨hr0, hr1⟩, t2, hC9, hv9, hE9, hM9, h91, h92, h93, h94, h95⟩
    · have hgx : zg x20 := (pRf_5 hrf9).2
      refine zz_iload hx hb hl 0 dL_does_239 rfl ?_
      refine zl_callM (As := [.int (zi x20)]) (rest := []) ⟨hx, hb, hml, hown, hts⟩ (c_L_isRefused l G ad A N0 σ20 x20 hgx) (va_cwS 1 hts gL_does_L_isRefused rfl rfl rfl (by decide +kernel) ⟨Nat.le_of_ble_eq_true rfl, Nat.le_of_ble_eq_true rfl⟩) hK hE hAA hNC hW20 (Nat.le_trans hsz hS20.1) hS20 (fun q h => h) rfl hl.1.1 rfl (Nat.le_of_ble_eq_true rfl) dL_does_241 ⟨show _ ≤ 8 from by omega, show _ ≤ 54 from by omega⟩ (fun x21 u21 H21 locs21 hp21 hW21 hz21 hk21 hS21 => ?_)
      rw [zb_t (show pRf x20 from hrf9)] at hp21
      obtain ⟨rfl, rfl⟩ := hp21
      refine W.eq (g2 := F0 m 244 ls [.int (zi 1)]) rfl ?_
      refine zz_if_ne (tgt := 274) hx hb dL_does_244 (by decide) ⟨by decide, by decide⟩ (fun hc244 => ?_) (fun hc244 => ?_)
      · refine zz_iload hx hb hl 0 dL_does_274 rfl ?_
        refine zz_goto (tgt := 281) hx hb dL_does_276 (by decide) ?_
        refine W.eq (g2 := F0 m 281 ls [.int (zi x20)]) rfl ?_
        refine zw_widen (k := 8) (n := 54) (show _ ≤ 8 from by omega) (show _ ≤ 54 from by omega) ?_
        refine zn_reti hx hb hr hlocks hW21 hS21 ?_ dL_does_281
        exact pDo_no hin (pRf_5 hrf9) hC9 hv hPE hc7 (fun j => by rw [hf20 87 0 j (by decide)]) (fun j => by rw [hf20 88 0 j (by decide)]) (fun j hj => by rw [hf20 86 0 j (by decide)]) (by rw [hf20 86 0 3 (by decide)]; exact hi3)
      · exact absurd hc244 (by decide)
    · have hgx : zg x20 := ⟨by omega, by omega⟩
      refine zz_iload hx hb hl 0 dL_does_239 rfl ?_
      refine zl_callM (As := [.int (zi x20)]) (rest := []) ⟨hx, hb, hml, hown, hts⟩ (c_L_isRefused l G ad A N0 σ20 x20 hgx) (va_cwS 1 hts gL_does_L_isRefused rfl rfl rfl (by decide +kernel) ⟨Nat.le_of_ble_eq_true rfl, Nat.le_of_ble_eq_true rfl⟩) hK hE hAA hNC hW20 (Nat.le_trans hsz hS20.1) hS20 (fun q h => h) rfl hl.1.1 rfl (Nat.le_of_ble_eq_true rfl) dL_does_241 ⟨show _ ≤ 8 from by omega, show _ ≤ 54 from by omega⟩ (fun x22 u22 H22 locs22 hp22 hW22 hz22 hk22 hS22 => ?_)
      rw [zb_f (show ¬ pRf x20 from fun q => by have := pRf_lo q; omega)] at hp22
      obtain ⟨rfl, rfl⟩ := hp22
      refine W.eq (g2 := F0 m 244 ls [.int (zi 0)]) rfl ?_
      refine zz_if_ne (tgt := 274) hx hb dL_does_244 (by decide) ⟨by decide, by decide⟩ (fun hc244 => ?_) (fun hc244 => ?_)
      · exact absurd rfl hc244
      · refine zz_aload_n hx hb hl 2 dL_does_247 rfl rfl ?_
        refine zz_iload hx hb hl 1 dL_does_248 rfl ?_
        refine zz_bipush hx hb dL_does_250 (by decide +kernel) ?_
        refine zz_irem hx hb dL_does_252 ⟨by omega, by omega⟩ ⟨by decide, by decide⟩ (by omega) (by omega) ?_
        refine zz_iconst hx hb dL_does_253 ?_
        refine zl_callP (As := [zr (zr8 ad) 0 ((0 : Nat) : Int), .int (zi ((y9 / 20) % 13)), .int (zi 0)]) (rest := []) ⟨hx, hb, hml, hown, hts⟩ (cl_requestIs l hst G (zr8 ad) (zcA (zr8 ad) H22.size) H22.size σ20 t2 nd nr ns (c + 1) (pC_r8 hC9) hW22.2.2.1 ((y9 / 20) % 13) 0 ⟨by omega, by omega⟩ ⟨by decide, by decide⟩) (vx_cwSW 3 hts gL_does_L_requestIs rfl rfl rfl (by decide +kernel) ⟨Nat.le_of_ble_eq_true rfl, Nat.le_of_ble_eq_true rfl⟩) hK hE hAA hNC hW22 hA0 hS22 rfl hl.1.1 rfl (Nat.le_of_ble_eq_true rfl) dL_does_254 ⟨show _ ≤ 8 from by omega, show _ ≤ 54 from by omega⟩ (fun x23 u23 H23 locs23 hp23 hW23 hz23 hS23 => ?_)
        rw [pRI_at2 h94, h95] at hp23
        obtain ⟨rfl, rfl⟩ := hp23
        rw [zg8_self] at hW23
        refine W.eq (g2 := F0 m 257 ls [.int (zi 4)]) rfl ?_
        refine zz_iconst hx hb dL_does_257 ?_
        refine zz_icmp_ne (tgt := 279) hx hb dL_does_258 (by decide) ⟨by decide, by decide⟩ ⟨by decide, by decide⟩ (fun hc258 => ?_) (fun hc258 => ?_)
        · exact absurd rfl hc258
        · refine zz_iload hx hb hl 0 dL_does_261 rfl ?_
          refine zz_if_eq (tgt := 274) hx hb dL_does_263 (by decide) hgx (fun hc263 => ?_) (fun hc263 => ?_)
          · refine zz_iload hx hb hl 0 dL_does_274 rfl ?_
            refine zz_goto (tgt := 281) hx hb dL_does_276 (by decide) ?_
            refine W.eq (g2 := F0 m 281 ls [.int (zi x20)]) rfl ?_
            refine zw_widen (k := 8) (n := 54) (show _ ≤ 8 from by omega) (show _ ≤ 54 from by omega) ?_
            refine zn_reti hx hb hr hlocks hW23 hS23 ?_ dL_does_281
            exact pDo_sm hin (pDn_5 hr0 hr1) (fun q => absurd (pRf_lo q) (by omega)) hC9 hv9 hE9 hM9 (fun j => by rw [hf20 87 0 j (by decide)]) (fun j => by rw [hf20 88 0 j (by decide)]) (by rw [hf20 86 0 0 (by decide)]) (by rw [hf20 86 0 1 (by decide)]; exact hi1.trans h91.symm) (by rw [hf20 86 0 2 (by decide)]; exact hi2.trans h92.symm) (by rw [hf20 86 0 3 (by decide)]; exact hi3)
          · refine zz_iload hx hb hl 0 dL_does_266 rfl ?_
            refine zz_sipush hx hb dL_does_268 (by decide +kernel) ?_
            refine zz_icmp_ne (tgt := 279) hx hb dL_does_271 (by decide) hgx ⟨by decide, by decide⟩ (fun hc271 => ?_) (fun hc271 => ?_)
            · exfalso; omega
            · refine zz_iload hx hb hl 0 dL_does_274 rfl ?_
              refine zz_goto (tgt := 281) hx hb dL_does_276 (by decide) ?_
              refine W.eq (g2 := F0 m 281 ls [.int (zi x20)]) rfl ?_
              refine zw_widen (k := 8) (n := 54) (show _ ≤ 8 from by omega) (show _ ≤ 54 from by omega) ?_
              refine zn_reti hx hb hr hlocks hW23 hS23 ?_ dL_does_281
              exact pDo_sm hin (pDn_5 hr0 hr1) (fun q => absurd (pRf_lo q) (by omega)) hC9 hv9 hE9 hM9 (fun j => by rw [hf20 87 0 j (by decide)]) (fun j => by rw [hf20 88 0 j (by decide)]) (by rw [hf20 86 0 0 (by decide)]) (by rw [hf20 86 0 1 (by decide)]; exact hi1.trans h91.symm) (by rw [hf20 86 0 2 (by decide)]; exact hi2.trans h92.symm) (by rw [hf20 86 0 3 (by decide)]; exact hi3)
  by_cases hw10_15 : y9 % 20 = 15
  · refine W.eq (g2 := F0 m 10 ls [.int (zi 15)]) (by rw [hw10_15]) ?_
    refine lv_tableIn (x := zi 15) (off := 272) (tgt := 282) hx hb dL_does_10 (by decide +kernel) (by decide +kernel) (by decide +kernel) (by decide) ?_
    refine zz_aload_n hx hb hl 1 dL_does_282 rfl rfl ?_
    refine zz_iload hx hb hl 0 dL_does_283 rfl ?_
    refine zz_bipush hx hb dL_does_285 (by decide +kernel) ?_
    refine zz_irem hx hb dL_does_287 ⟨by omega, by omega⟩ ⟨by decide, by decide⟩ (by omega) (by omega) ?_
    refine zz_iload hx hb hl 0 dL_does_288 rfl ?_
    refine zz_bipush hx hb dL_does_290 (by decide +kernel) ?_
    refine zz_idiv hx hb dL_does_292 ⟨by omega, by omega⟩ ⟨by decide, by decide⟩ (by omega) (by omega) ?_
    refine zz_bipush hx hb dL_does_293 (by decide +kernel) ?_
    refine zz_irem hx hb dL_does_295 ⟨by omega, by omega⟩ ⟨by decide, by decide⟩ (by omega) (by omega) ?_
    refine zl_callP (As := [zr (zr8 ad) 0 ((0 : Nat) : Int), .int (zi ((y9 / 20) % 13)), .int (zi (((y9 / 20) / 13) % 7))]) (rest := []) ⟨hx, hb, hml, hown, hts⟩ (cl_rate l hst G (zr8 ad) (zcA (zr8 ad) s.heap.size) s.heap.size σ t nd nr ns c (pC_r8 hC) hW0.2.2.1 sl hv hPE ((y9 / 20) % 13) ((y9 / 20) / 13 % 7) ⟨by omega, by omega⟩ ⟨by omega, by omega⟩ hc7) (vx_cwSW 3 hts gL_does_L_rate rfl rfl rfl (by decide +kernel) ⟨Nat.le_of_ble_eq_true rfl, Nat.le_of_ble_eq_true rfl⟩) hK hE hAA hNC hW0 hA0 hS0 rfl hl.1.1 rfl (Nat.le_of_ble_eq_true rfl) dL_does_296 ⟨show _ ≤ 8 from by omega, show _ ≤ 54 from by omega⟩ (fun x24 u24 H24 locs24 hp24 hW24 hz24 hS24 => ?_)
    obtain ⟨σ24, hs24⟩ : ∃ z, z = zg8 σ u24 := ⟨_, rfl⟩
    have hf24 : ∀ κ i k, 86 ≤ κ → σ24 κ i k = σ κ i k := fun κ i k h => by rw [hs24]; exact zg8_hi h
    rw [← hs24] at hW24
    have hq24 := pRs_g (σ := σ) (pRes_s hp24)
    rw [← hs24] at hq24
    refine W.eq (g2 := F0 m 299 ls [.int (zi x24)]) rfl ?_
    have hsp299 := hq24
    rcases hsp299 with ⟨hrf9, hC9⟩ | ⟨⟨hr0, hr1⟩, t2, hC9, hv9, hE9, hM9, h91, h92⟩
    · have hgx : zg x24 := (pRf_5 hrf9).2
      refine W.eq (g2 := F0 m 299 ls [.int (zi x24)]) rfl ?_
      refine zw_widen (k := 8) (n := 54) (show _ ≤ 8 from by omega) (show _ ≤ 54 from by omega) ?_
      refine zn_reti hx hb hr hlocks hW24 hS24 ?_ dL_does_299
      exact pDo_no hin (pRf_5 hrf9) hC9 hv hPE hc7 (fun j => by rw [hf24 87 0 j (by decide)]) (fun j => by rw [hf24 88 0 j (by decide)]) (fun j hj => by rw [hf24 86 0 j (by decide)]) (by rw [hf24 86 0 3 (by decide)]; exact hi3)
    · have hgx : zg x24 := ⟨by omega, by omega⟩
      refine W.eq (g2 := F0 m 299 ls [.int (zi x24)]) rfl ?_
      refine zw_widen (k := 8) (n := 54) (show _ ≤ 8 from by omega) (show _ ≤ 54 from by omega) ?_
      refine zn_reti hx hb hr hlocks hW24 hS24 ?_ dL_does_299
      exact pDo_sm hin (pDn_5 hr0 hr1) (fun q => absurd (pRf_lo q) (by omega)) hC9 hv9 hE9 hM9 (fun j => by rw [hf24 87 0 j (by decide)]) (fun j => by rw [hf24 88 0 j (by decide)]) (by rw [hf24 86 0 0 (by decide)]) (by rw [hf24 86 0 1 (by decide)]; exact hi1.trans h91.symm) (by rw [hf24 86 0 2 (by decide)]; exact hi2.trans h92.symm) (by rw [hf24 86 0 3 (by decide)]; exact hi3)
  by_cases hw10_16 : y9 % 20 = 16
  · refine W.eq (g2 := F0 m 10 ls [.int (zi 16)]) (by rw [hw10_16]) ?_
    refine lv_tableIn (x := zi 16) (off := 272) (tgt := 282) hx hb dL_does_10 (by decide +kernel) (by decide +kernel) (by decide +kernel) (by decide) ?_
    refine zz_aload_n hx hb hl 1 dL_does_282 rfl rfl ?_
    refine zz_iload hx hb hl 0 dL_does_283 rfl ?_
    refine zz_bipush hx hb dL_does_285 (by decide +kernel) ?_
    refine zz_irem hx hb dL_does_287 ⟨by omega, by omega⟩ ⟨by decide, by decide⟩ (by omega) (by omega) ?_
    refine zz_iload hx hb hl 0 dL_does_288 rfl ?_
    refine zz_bipush hx hb dL_does_290 (by decide +kernel) ?_
    refine zz_idiv hx hb dL_does_292 ⟨by omega, by omega⟩ ⟨by decide, by decide⟩ (by omega) (by omega) ?_
    refine zz_bipush hx hb dL_does_293 (by decide +kernel) ?_
    refine zz_irem hx hb dL_does_295 ⟨by omega, by omega⟩ ⟨by decide, by decide⟩ (by omega) (by omega) ?_
    refine zl_callP (As := [zr (zr8 ad) 0 ((0 : Nat) : Int), .int (zi ((y9 / 20) % 13)), .int (zi (((y9 / 20) / 13) % 7))]) (rest := []) ⟨hx, hb, hml, hown, hts⟩ (cl_rate l hst G (zr8 ad) (zcA (zr8 ad) s.heap.size) s.heap.size σ t nd nr ns c (pC_r8 hC) hW0.2.2.1 sl hv hPE ((y9 / 20) % 13) ((y9 / 20) / 13 % 7) ⟨by omega, by omega⟩ ⟨by omega, by omega⟩ hc7) (vx_cwSW 3 hts gL_does_L_rate rfl rfl rfl (by decide +kernel) ⟨Nat.le_of_ble_eq_true rfl, Nat.le_of_ble_eq_true rfl⟩) hK hE hAA hNC hW0 hA0 hS0 rfl hl.1.1 rfl (Nat.le_of_ble_eq_true rfl) dL_does_296 ⟨show _ ≤ 8 from by omega, show _ ≤ 54 from by omega⟩ (fun x25 u25 H25 locs25 hp25 hW25 hz25 hS25 => ?_)
    obtain ⟨σ25, hs25⟩ : ∃ z, z = zg8 σ u25 := ⟨_, rfl⟩
    have hf25 : ∀ κ i k, 86 ≤ κ → σ25 κ i k = σ κ i k := fun κ i k h => by rw [hs25]; exact zg8_hi h
    rw [← hs25] at hW25
    have hq25 := pRs_g (σ := σ) (pRes_s hp25)
    rw [← hs25] at hq25
    refine W.eq (g2 := F0 m 299 ls [.int (zi x25)]) rfl ?_
    have hsp299 := hq25
    rcases hsp299 with ⟨hrf9, hC9⟩ | ⟨⟨hr0, hr1⟩, t2, hC9, hv9, hE9, hM9, h91, h92⟩
    · have hgx : zg x25 := (pRf_5 hrf9).2
      refine W.eq (g2 := F0 m 299 ls [.int (zi x25)]) rfl ?_
      refine zw_widen (k := 8) (n := 54) (show _ ≤ 8 from by omega) (show _ ≤ 54 from by omega) ?_
      refine zn_reti hx hb hr hlocks hW25 hS25 ?_ dL_does_299
      exact pDo_no hin (pRf_5 hrf9) hC9 hv hPE hc7 (fun j => by rw [hf25 87 0 j (by decide)]) (fun j => by rw [hf25 88 0 j (by decide)]) (fun j hj => by rw [hf25 86 0 j (by decide)]) (by rw [hf25 86 0 3 (by decide)]; exact hi3)
    · have hgx : zg x25 := ⟨by omega, by omega⟩
      refine W.eq (g2 := F0 m 299 ls [.int (zi x25)]) rfl ?_
      refine zw_widen (k := 8) (n := 54) (show _ ≤ 8 from by omega) (show _ ≤ 54 from by omega) ?_
      refine zn_reti hx hb hr hlocks hW25 hS25 ?_ dL_does_299
      exact pDo_sm hin (pDn_5 hr0 hr1) (fun q => absurd (pRf_lo q) (by omega)) hC9 hv9 hE9 hM9 (fun j => by rw [hf25 87 0 j (by decide)]) (fun j => by rw [hf25 88 0 j (by decide)]) (by rw [hf25 86 0 0 (by decide)]) (by rw [hf25 86 0 1 (by decide)]; exact hi1.trans h91.symm) (by rw [hf25 86 0 2 (by decide)]; exact hi2.trans h92.symm) (by rw [hf25 86 0 3 (by decide)]; exact hi3)
  by_cases hw10_17 : y9 % 20 = 17
  · refine W.eq (g2 := F0 m 10 ls [.int (zi 17)]) (by rw [hw10_17]) ?_
    refine lv_tableIn (x := zi 17) (off := 290) (tgt := 300) hx hb dL_does_10 (by decide +kernel) (by decide +kernel) (by decide +kernel) (by decide) ?_
    refine zz_aload_n hx hb hl 1 dL_does_300 rfl rfl ?_
    refine zz_bipush hx hb dL_does_301 (by decide +kernel) ?_
    refine zz_iload hx hb hl 0 dL_does_303 rfl ?_
    refine zz_sipush hx hb dL_does_305 (by decide +kernel) ?_
    refine zz_irem hx hb dL_does_308 ⟨by omega, by omega⟩ ⟨by decide, by decide⟩ (by omega) (by omega) ?_
    refine zz_iadd hx hb dL_does_309 ?_
    refine zl_callP (As := [zr (zr8 ad) 0 ((0 : Nat) : Int), .int (zi (90 + ((y9 / 20) % 211)))]) (rest := []) ⟨hx, hb, hml, hown, hts⟩ (cl_cap l hst G (zr8 ad) (zcA (zr8 ad) s.heap.size) s.heap.size σ t nd nr ns c (pC_r8 hC) hW0.2.2.1 sl hv hPE (90 + (y9 / 20) % 211) ⟨by omega, by omega⟩ hc7) (vx_cwSW 2 hts gL_does_L_cap rfl rfl rfl (by decide +kernel) ⟨Nat.le_of_ble_eq_true rfl, Nat.le_of_ble_eq_true rfl⟩) hK hE hAA hNC hW0 hA0 hS0 rfl hl.1.1 rfl (Nat.le_of_ble_eq_true rfl) dL_does_310 ⟨show _ ≤ 8 from by omega, show _ ≤ 54 from by omega⟩ (fun x26 u26 H26 locs26 hp26 hW26 hz26 hS26 => ?_)
    obtain ⟨σ26, hs26⟩ : ∃ z, z = zg8 σ u26 := ⟨_, rfl⟩
    have hf26 : ∀ κ i k, 86 ≤ κ → σ26 κ i k = σ κ i k := fun κ i k h => by rw [hs26]; exact zg8_hi h
    rw [← hs26] at hW26
    have hq26 := pRs_g (σ := σ) (pRes_s hp26)
    rw [← hs26] at hq26
    refine W.eq (g2 := F0 m 313 ls [.int (zi x26)]) rfl ?_
    refine zz_istore (lv' := [(6, .int (zi x26)), (5, .int (zi (y9 / 20))), (0, zr ad 0 ((0 : Nat) : Int)), (1, zr ad 86 ((0 : Nat) : Int)), (2, zr ad 87 ((0 : Nat) : Int)), (3, .int (zi y9)), (4, .int (zi sw))]) hx hb hl dL_does_313 (by decide) rfl (fun ls hl => ?_)
    have hsp315 := hq26
    rcases hsp315 with ⟨hrf9, hC9⟩ | ⟨⟨hr0, hr1⟩, t2, hC9, hv9, hE9, hM9, h91, h92⟩
    · have hgx : zg x26 := (pRf_5 hrf9).2
      refine zz_aload_n hx hb hl 3 dL_does_315 rfl rfl ?_
      refine zz_iconst hx hb dL_does_316 ?_
      refine zz_iload hx hb hl 0 dL_does_317 rfl ?_
      refine zl_callM (As := [.int (zi x26)]) (rest := [.int (zi 2), zr ad 86 ((0 : Nat) : Int)]) ⟨hx, hb, hml, hown, hts⟩ (c_L_isRefused l G ad A N0 σ26 x26 hgx) (va_cwS 1 hts gL_does_L_isRefused rfl rfl rfl (by decide +kernel) ⟨Nat.le_of_ble_eq_true rfl, Nat.le_of_ble_eq_true rfl⟩) hK hE hAA hNC hW26 (Nat.le_trans hsz hS26.1) hS26 (fun q h => h) rfl hl.1.1 rfl (by simp only [List.map, zr_cat, zcat_i]; decide) dL_does_319 ⟨show _ ≤ 8 from by omega, show _ ≤ 54 from by omega⟩ (fun x27 u27 H27 locs27 hp27 hW27 hz27 hk27 hS27 => ?_)
      rw [zb_t (show pRf x26 from hrf9)] at hp27
      obtain ⟨rfl, rfl⟩ := hp27
      refine W.eq (g2 := F0 m 322 ls [.int (zi 1), .int (zi 2), zr ad 86 ((0 : Nat) : Int)]) rfl ?_
      refine zz_if_eq (tgt := 331) hx hb dL_does_322 (by decide) ⟨by decide, by decide⟩ (fun hc322 => ?_) (fun hc322 => ?_)
      · exact absurd (show (1 : Int) = 0 from hc322) (by decide)
      · refine zz_aload_n hx hb hl 3 dL_does_325 rfl rfl ?_
        refine zz_iconst hx hb dL_does_326 ?_
        refine zz_iald (w := t 30 0 2) hx hb hK hW27 (zlN hn) rfl rfl rfl (by show (0 : Int) ≤ 2; omega) (by show 2 < (4 : Int); omega) (show σ26 86 0 2 = t 30 0 2 from by rw [hf26 86 0 2 (by decide), hi2]) dL_does_327 ?_
        refine zz_goto (tgt := 340) hx hb dL_does_328 (by decide) ?_
        refine zz_iast (y := (t 30 0 2)) hx hb hK hW27 hS27 (zlN hn) rfl rfl rfl (by show (0 : Int) ≤ 2; omega) (by show 2 < (4 : Int); omega) ⟨by omega, by omega⟩ dL_does_340 (fun H28 locs28 hW28' hS28 => ?_)
        obtain ⟨σ28, hs28⟩ : ∃ z, z = zu σ26 86 0 2 (t 30 0 2) := ⟨_, rfl⟩
        have hW28 : ZW G ad A σ28 H28 := by rw [hs28]; exact hW28'
        have hCb : pC ad σ28 t nd nr ns c := pC_hi hC9 (fun κ i k h => by rw [hs28]; exact zu_k (by omega))
        refine zz_iload hx hb hl 0 dL_does_341 rfl ?_
        refine W.eq (g2 := F0 m 343 ls [.int (zi x26)]) rfl ?_
        refine zw_widen (k := 8) (n := 54) (show _ ≤ 8 from by omega) (show _ ≤ 54 from by omega) ?_
        refine zn_reti hx hb hr hlocks hW28 hS28 ?_ dL_does_343
        exact pDo_no hin (pRf_5 hrf9) hCb hv hPE hc7 (fun j => by rw [hs28, zu_k (by decide), hf26 87 0 j (by decide)]) (fun j => by rw [hs28, zu_k (by decide), hf26 88 0 j (by decide)]) (fun j hj => by exact if e : j = 2 then (by rw [e, hs28, zu_same, hi2]) else (by rw [hs28, zu_s e, hf26 86 0 j (by decide)])) (by rw [hs28, zu_s (by decide), hf26 86 0 3 (by decide)]; exact hi3)
    · have hgx : zg x26 := ⟨by omega, by omega⟩
      refine zz_aload_n hx hb hl 3 dL_does_315 rfl rfl ?_
      refine zz_iconst hx hb dL_does_316 ?_
      refine zz_iload hx hb hl 0 dL_does_317 rfl ?_
      refine zl_callM (As := [.int (zi x26)]) (rest := [.int (zi 2), zr ad 86 ((0 : Nat) : Int)]) ⟨hx, hb, hml, hown, hts⟩ (c_L_isRefused l G ad A N0 σ26 x26 hgx) (va_cwS 1 hts gL_does_L_isRefused rfl rfl rfl (by decide +kernel) ⟨Nat.le_of_ble_eq_true rfl, Nat.le_of_ble_eq_true rfl⟩) hK hE hAA hNC hW26 (Nat.le_trans hsz hS26.1) hS26 (fun q h => h) rfl hl.1.1 rfl (by simp only [List.map, zr_cat, zcat_i]; decide) dL_does_319 ⟨show _ ≤ 8 from by omega, show _ ≤ 54 from by omega⟩ (fun x29 u29 H29 locs29 hp29 hW29 hz29 hk29 hS29 => ?_)
      rw [zb_f (show ¬ pRf x26 from fun q => by have := pRf_lo q; omega)] at hp29
      obtain ⟨rfl, rfl⟩ := hp29
      refine W.eq (g2 := F0 m 322 ls [.int (zi 0), .int (zi 2), zr ad 86 ((0 : Nat) : Int)]) rfl ?_
      refine zz_if_eq (tgt := 331) hx hb dL_does_322 (by decide) ⟨by decide, by decide⟩ (fun hc322 => ?_) (fun hc322 => ?_)
      · refine zz_bipush hx hb dL_does_331 (by decide +kernel) ?_
        refine zz_iload hx hb hl 1 dL_does_333 rfl ?_
        refine zz_sipush hx hb dL_does_335 (by decide +kernel) ?_
        refine zz_irem hx hb dL_does_338 ⟨by omega, by omega⟩ ⟨by decide, by decide⟩ (by omega) (by omega) ?_
        refine zz_iadd hx hb dL_does_339 ?_
        refine zz_iast (y := (90 + ((y9 / 20) % 211))) hx hb hK hW29 hS29 (zlN hn) rfl rfl rfl (by show (0 : Int) ≤ 2; omega) (by show 2 < (4 : Int); omega) ⟨by omega, by omega⟩ dL_does_340 (fun H30 locs30 hW30' hS30 => ?_)
        obtain ⟨σ30, hs30⟩ : ∃ z, z = zu σ26 86 0 2 (90 + ((y9 / 20) % 211)) := ⟨_, rfl⟩
        have hW30 : ZW G ad A σ30 H30 := by rw [hs30]; exact hW30'
        have hCb : pC ad σ30 t2 nd nr ns (c + 1) := pC_hi hC9 (fun κ i k h => by rw [hs30]; exact zu_k (by omega))
        refine zz_iload hx hb hl 0 dL_does_341 rfl ?_
        refine W.eq (g2 := F0 m 343 ls [.int (zi x26)]) rfl ?_
        refine zw_widen (k := 8) (n := 54) (show _ ≤ 8 from by omega) (show _ ≤ 54 from by omega) ?_
        refine zn_reti hx hb hr hlocks hW30 hS30 ?_ dL_does_343
        exact pDo_sm hin (pDn_5 hr0 hr1) (fun q => absurd (pRf_lo q) (by omega)) hCb hv9 hE9 hM9 (fun j => by rw [hs30, zu_k (by decide), hf26 87 0 j (by decide)]) (fun j => by rw [hs30, zu_k (by decide), hf26 88 0 j (by decide)]) (by rw [hs30, zu_s (by decide), hf26 86 0 0 (by decide)]) (by rw [hs30, zu_s (by decide), hf26 86 0 1 (by decide)]; exact hi1.trans h91.symm) (by rw [hs30, zu_same]; exact h92.symm) (by rw [hs30, zu_s (by decide), hf26 86 0 3 (by decide)]; exact hi3)
      · exact absurd rfl hc322
  refine lv_tableOut (tgt := 344) hx hb dL_does_10 (by rw [zi_toInt ⟨by omega, by omega⟩]; omega) (by decide) ?_
  refine zz_aload_n hx hb hl 1 dL_does_344 rfl rfl ?_
  refine zz_iload hx hb hl 0 dL_does_345 rfl ?_
  refine zz_bipush hx hb dL_does_347 (by decide +kernel) ?_
  refine zz_irem hx hb dL_does_349 ⟨by omega, by omega⟩ ⟨by decide, by decide⟩ (by omega) (by omega) ?_
  refine zl_callP (As := [zr (zr8 ad) 0 ((0 : Nat) : Int), .int (zi ((y9 / 20) % 14))]) (rest := []) ⟨hx, hb, hml, hown, hts⟩ (cl_pass l hst G (zr8 ad) (zcA (zr8 ad) s.heap.size) s.heap.size σ t nd nr ns c (pC_r8 hC) hW0.2.2.1 sl hv hPE ((y9 / 20) % 14) ⟨by omega, by omega⟩ hc7) (vx_cwSW 2 hts gL_does_L_pass rfl rfl rfl (by decide +kernel) ⟨Nat.le_of_ble_eq_true rfl, Nat.le_of_ble_eq_true rfl⟩) hK hE hAA hNC hW0 hA0 hS0 rfl hl.1.1 rfl (Nat.le_of_ble_eq_true rfl) dL_does_350 ⟨show _ ≤ 8 from by omega, show _ ≤ 54 from by omega⟩ (fun x31 u31 H31 locs31 hp31 hW31 hz31 hS31 => ?_)
  obtain ⟨σ31, hs31⟩ : ∃ z, z = zg8 σ u31 := ⟨_, rfl⟩
  have hf31 : ∀ κ i k, 86 ≤ κ → σ31 κ i k = σ κ i k := fun κ i k h => by rw [hs31]; exact zg8_hi h
  rw [← hs31] at hW31
  have hq31 := pRs_g (σ := σ) (pRes_s hp31)
  rw [← hs31] at hq31
  refine W.eq (g2 := F0 m 353 ls [.int (zi x31)]) rfl ?_
  refine zz_istore (lv' := [(6, .int (zi x31)), (5, .int (zi (y9 / 20))), (0, zr ad 0 ((0 : Nat) : Int)), (1, zr ad 86 ((0 : Nat) : Int)), (2, zr ad 87 ((0 : Nat) : Int)), (3, .int (zi y9)), (4, .int (zi sw))]) hx hb hl dL_does_353 (by decide) rfl (fun ls hl => ?_)
  have hsp355 := hq31
  rcases hsp355 with ⟨hrf9, hC9⟩ | ⟨⟨hr0, hr1⟩, t2, hC9, hv9, hE9, hM9, h91, h92⟩
  · have hgx : zg x31 := (pRf_5 hrf9).2
    refine zz_aload_n hx hb hl 3 dL_does_355 rfl rfl ?_
    refine zz_iconst hx hb dL_does_356 ?_
    refine zz_iload hx hb hl 0 dL_does_357 rfl ?_
    refine zl_callM (As := [.int (zi x31)]) (rest := [.int (zi 1), zr ad 86 ((0 : Nat) : Int)]) ⟨hx, hb, hml, hown, hts⟩ (c_L_isRefused l G ad A N0 σ31 x31 hgx) (va_cwS 1 hts gL_does_L_isRefused rfl rfl rfl (by decide +kernel) ⟨Nat.le_of_ble_eq_true rfl, Nat.le_of_ble_eq_true rfl⟩) hK hE hAA hNC hW31 (Nat.le_trans hsz hS31.1) hS31 (fun q h => h) rfl hl.1.1 rfl (by simp only [List.map, zr_cat, zcat_i]; decide) dL_does_359 ⟨show _ ≤ 8 from by omega, show _ ≤ 54 from by omega⟩ (fun x32 u32 H32 locs32 hp32 hW32 hz32 hk32 hS32 => ?_)
    rw [zb_t (show pRf x31 from hrf9)] at hp32
    obtain ⟨rfl, rfl⟩ := hp32
    refine W.eq (g2 := F0 m 362 ls [.int (zi 1), .int (zi 1), zr ad 86 ((0 : Nat) : Int)]) rfl ?_
    refine zz_if_eq (tgt := 371) hx hb dL_does_362 (by decide) ⟨by decide, by decide⟩ (fun hc362 => ?_) (fun hc362 => ?_)
    · exact absurd (show (1 : Int) = 0 from hc362) (by decide)
    · refine zz_aload_n hx hb hl 3 dL_does_365 rfl rfl ?_
      refine zz_iconst hx hb dL_does_366 ?_
      refine zz_iald (w := t 30 0 1) hx hb hK hW32 (zlN hn) rfl rfl rfl (by show (0 : Int) ≤ 1; omega) (by show 1 < (4 : Int); omega) (show σ31 86 0 1 = t 30 0 1 from by rw [hf31 86 0 1 (by decide), hi1]) dL_does_367 ?_
      refine zz_goto (tgt := 373) hx hb dL_does_368 (by decide) ?_
      refine zz_iast (y := (t 30 0 1)) hx hb hK hW32 hS32 (zlN hn) rfl rfl rfl (by show (0 : Int) ≤ 1; omega) (by show 1 < (4 : Int); omega) ⟨by omega, by omega⟩ dL_does_373 (fun H33 locs33 hW33' hS33 => ?_)
      obtain ⟨σ33, hs33⟩ : ∃ z, z = zu σ31 86 0 1 (t 30 0 1) := ⟨_, rfl⟩
      have hW33 : ZW G ad A σ33 H33 := by rw [hs33]; exact hW33'
      have hCb : pC ad σ33 t nd nr ns c := pC_hi hC9 (fun κ i k h => by rw [hs33]; exact zu_k (by omega))
      refine zz_iload hx hb hl 0 dL_does_374 rfl ?_
      refine W.eq (g2 := F0 m 376 ls [.int (zi x31)]) rfl ?_
      refine zw_widen (k := 8) (n := 54) (show _ ≤ 8 from by omega) (show _ ≤ 54 from by omega) ?_
      refine zn_reti hx hb hr hlocks hW33 hS33 ?_ dL_does_376
      exact pDo_no hin (pRf_5 hrf9) hCb hv hPE hc7 (fun j => by rw [hs33, zu_k (by decide), hf31 87 0 j (by decide)]) (fun j => by rw [hs33, zu_k (by decide), hf31 88 0 j (by decide)]) (fun j hj => by exact if e : j = 1 then (by rw [e, hs33, zu_same, hi1]) else (by rw [hs33, zu_s e, hf31 86 0 j (by decide)])) (by rw [hs33, zu_s (by decide), hf31 86 0 3 (by decide)]; exact hi3)
  · have hgx : zg x31 := ⟨by omega, by omega⟩
    refine zz_aload_n hx hb hl 3 dL_does_355 rfl rfl ?_
    refine zz_iconst hx hb dL_does_356 ?_
    refine zz_iload hx hb hl 0 dL_does_357 rfl ?_
    refine zl_callM (As := [.int (zi x31)]) (rest := [.int (zi 1), zr ad 86 ((0 : Nat) : Int)]) ⟨hx, hb, hml, hown, hts⟩ (c_L_isRefused l G ad A N0 σ31 x31 hgx) (va_cwS 1 hts gL_does_L_isRefused rfl rfl rfl (by decide +kernel) ⟨Nat.le_of_ble_eq_true rfl, Nat.le_of_ble_eq_true rfl⟩) hK hE hAA hNC hW31 (Nat.le_trans hsz hS31.1) hS31 (fun q h => h) rfl hl.1.1 rfl (by simp only [List.map, zr_cat, zcat_i]; decide) dL_does_359 ⟨show _ ≤ 8 from by omega, show _ ≤ 54 from by omega⟩ (fun x34 u34 H34 locs34 hp34 hW34 hz34 hk34 hS34 => ?_)
    rw [zb_f (show ¬ pRf x31 from fun q => by have := pRf_lo q; omega)] at hp34
    obtain ⟨rfl, rfl⟩ := hp34
    refine W.eq (g2 := F0 m 362 ls [.int (zi 0), .int (zi 1), zr ad 86 ((0 : Nat) : Int)]) rfl ?_
    refine zz_if_eq (tgt := 371) hx hb dL_does_362 (by decide) ⟨by decide, by decide⟩ (fun hc362 => ?_) (fun hc362 => ?_)
    · refine zz_iload hx hb hl 0 dL_does_371 rfl ?_
      refine zz_iast (y := x31) hx hb hK hW34 hS34 (zlN hn) rfl rfl rfl (by show (0 : Int) ≤ 1; omega) (by show 1 < (4 : Int); omega) hgx dL_does_373 (fun H35 locs35 hW35' hS35 => ?_)
      obtain ⟨σ35, hs35⟩ : ∃ z, z = zu σ31 86 0 1 x31 := ⟨_, rfl⟩
      have hW35 : ZW G ad A σ35 H35 := by rw [hs35]; exact hW35'
      have hCb : pC ad σ35 t2 nd nr ns (c + 1) := pC_hi hC9 (fun κ i k h => by rw [hs35]; exact zu_k (by omega))
      refine zz_iload hx hb hl 0 dL_does_374 rfl ?_
      refine W.eq (g2 := F0 m 376 ls [.int (zi x31)]) rfl ?_
      refine zw_widen (k := 8) (n := 54) (show _ ≤ 8 from by omega) (show _ ≤ 54 from by omega) ?_
      refine zn_reti hx hb hr hlocks hW35 hS35 ?_ dL_does_376
      exact pDo_sm hin (pDn_5 hr0 hr1) (fun q => absurd (pRf_lo q) (by omega)) hCb hv9 hE9 hM9 (fun j => by rw [hs35, zu_k (by decide), hf31 87 0 j (by decide)]) (fun j => by rw [hs35, zu_k (by decide), hf31 88 0 j (by decide)]) (by rw [hs35, zu_s (by decide), hf31 86 0 0 (by decide)]) (by rw [hs35, zu_same]; exact h91.symm) (by rw [hs35, zu_s (by decide), hf31 86 0 2 (by decide)]; exact hi2.trans h92.symm) (by rw [hs35, zu_s (by decide), hf31 86 0 3 (by decide)]; exact hi3)
    · exact absurd rfl hc362
