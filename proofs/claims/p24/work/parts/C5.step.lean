/-! P24: a step of the law's -/
set_option maxHeartbeats 4000000 in
set_option maxRecDepth 100000 in
theorem c_L_matches (l : Launch) (hst : l.stackTraces = false) (G : zG) (ad : zA) (A : Nat → Prop) (N0 : Nat) (σ t : zS) (nd nr ns : Nat) (c : Int) (hC : pC ad σ t nd nr ns c) (hg : ∀ κ i k, zg (σ κ i k)) (sl : Prop) (hv : pV t sl nd nr) (hPE : pE t nd nr) (hc7 : c + 1 ≤ 800)  : Met l yL_matches wsL_matches ({ frames := 9, cells := 3, slots := 18, locals := 267 }) (zPH G ad A N0 σ [zr ad 0 ((0 : Nat) : Int)]) (zQ G ad A zri (pRs ad t sl nd nr ns c (fun _ t' => t' 30 0 1 = t 30 0 1 ∧ t' 30 0 2 = t 30 0 2))) 3 18 A := by
  refine zz_ofH (cc := cL_matches) (maxL := 3) (ret := (some .int)) (by decide) rfl (by intro v hv; simp only [List.mem_cons, List.not_mem_nil, or_false] at hv; rcases hv with rfl <;> first | rfl | exact zr_cat _ _ _) (Nat.le_of_ble_eq_true rfl) ?_
  intro p e s m below meth c9 hx hb hr hml hts hown hlocks hsz hW0 hK hE hAA hNC ls hl
  have hS0 : va_S A s.heap s.heap [] := va_S.rf
  have hl : zh ls 3 [(0, zr ad 0 ((0 : Nat) : Int))] := hl
  have hWF := hC.2.2.2.1
  refine zz_aload_n hx hb hl 0 dL_matches_0 rfl rfl ?_
  refine zl_callH (As := [zr ad 0 ((0 : Nat) : Int)]) (rest := []) ⟨hx, hb, hml, hown, hts⟩ (cl_best l hst G ad A N0 σ t nd nr ns c hC hW0.2.2.1 ) (vx_cwSW 1 hts gL_matches_L_best rfl rfl rfl (by decide +kernel) ⟨Nat.le_of_ble_eq_true rfl, Nat.le_of_ble_eq_true rfl⟩) hK hE hAA hNC hW0 (Nat.le_trans hsz hS0.1) hS0 (fun q h => h) rfl hl.1.1 rfl (Nat.le_of_ble_eq_true rfl) dL_matches_1 ⟨show _ ≤ 3 from by omega, show _ ≤ 18 from by omega⟩ (fun x1 u1 H1 locs1 hp1 hW1 hz1 hk1 hS1 => ?_)
  obtain ⟨σ1, hs1⟩ : ∃ z, z = u1 := ⟨_, rfl⟩
  rw [← hs1] at hp1 hW1
  obtain ⟨hpc1, rfl⟩ := hp1
  have hC1 := hpc1
  refine W.eq (g2 := F0 m 4 ls [.int (zi (pBE t nd nr))]) rfl ?_
  refine zz_istore_n (lv' := [(1, .int (zi (pBE t nd nr))), (0, zr ad 0 ((0 : Nat) : Int))]) hx hb hl dL_matches_4 rfl (by decide) rfl (fun ls hl => ?_)
  refine zz_aload_n hx hb hl 1 dL_matches_5 rfl rfl ?_
  refine zl_callH (As := [zr ad 0 ((0 : Nat) : Int)]) (rest := []) ⟨hx, hb, hml, hown, hts⟩ (cl_match l hst G ad A N0 σ1 t nd nr ns c hC1 hW1.2.2.1 sl hv hPE hc7) (vx_cwSW 1 hts gL_matches_L_match rfl rfl rfl (by decide +kernel) ⟨Nat.le_of_ble_eq_true rfl, Nat.le_of_ble_eq_true rfl⟩) hK hE hAA hNC hW1 (Nat.le_trans hsz hS1.1) hS1 (fun q h => h) rfl hl.1.1 rfl (Nat.le_of_ble_eq_true rfl) dL_matches_6 ⟨show _ ≤ 3 from by omega, show _ ≤ 18 from by omega⟩ (fun x2 u2 H2 locs2 hp2 hW2 hz2 hk2 hS2 => ?_)
  obtain ⟨σ2, hs2⟩ : ∃ z, z = u2 := ⟨_, rfl⟩
  rw [← hs2] at hp2 hW2
  refine W.eq (g2 := F0 m 9 ls [.int (zi x2)]) rfl ?_
  refine zz_istore_n (lv' := [(2, .int (zi x2)), (1, .int (zi (pBE t nd nr))), (0, zr ad 0 ((0 : Nat) : Int))]) hx hb hl dL_matches_9 rfl (by decide) rfl (fun ls hl => ?_)
  have hsp10 := hp2
  rcases hsp10 with ⟨hr9, hbe, hC9⟩ | ⟨hr0, hr1, h5, hr2, t2, hC9, hv9, hE9, hM9, h91, h92, hbz⟩
  · have hrf9 : pRf x2 := Or.inr (Or.inr hr9.symm)
    have hgx : zg x2 := ⟨by omega, by omega⟩
    refine zz_iload_n hx hb hl 0 dL_matches_10 rfl rfl ?_
    refine zl_callM (As := [.int (zi x2)]) (rest := []) ⟨hx, hb, hml, hown, hts⟩ (c_L_isRefused l G ad A N0 σ2 x2 hgx) (va_cwS 1 hts gL_matches_L_isRefused rfl rfl rfl (by decide +kernel) ⟨Nat.le_of_ble_eq_true rfl, Nat.le_of_ble_eq_true rfl⟩) hK hE hAA hNC hW2 (Nat.le_trans hsz hS2.1) hS2 (fun q h => h) rfl hl.1.1 rfl (Nat.le_of_ble_eq_true rfl) dL_matches_11 ⟨show _ ≤ 3 from by omega, show _ ≤ 18 from by omega⟩ (fun x3 u3 H3 locs3 hp3 hW3 hz3 hk3 hS3 => ?_)
    rw [zb_t (show pRf x2 from hrf9)] at hp3
    obtain ⟨rfl, rfl⟩ := hp3
    refine W.eq (g2 := F0 m 14 ls [.int (zi 1)]) rfl ?_
    refine zz_if_eq (tgt := 32) hx hb dL_matches_14 (by decide) ⟨by decide, by decide⟩ (fun hc14 => ?_) (fun hc14 => ?_)
    · exact absurd (show (1 : Int) = 0 from hc14) (by decide)
    · refine zz_iload_n hx hb hl 1 dL_matches_17 rfl rfl ?_
      refine zz_ldc (n := -2000000003) (v := -2000000003) hx hb hown (hts (.constant RL 21 (-2000000003)) (by decide +kernel)) (by decide +kernel) dL_matches_18 ?_
      refine zz_icmp_ne (tgt := 27) hx hb dL_matches_20 (by decide) (pBE_g hC) ⟨by decide, by decide⟩ (fun hc20 => ?_) (fun hc20 => ?_)
      · exact absurd hbe hc20
      · refine zz_iload_n hx hb hl 0 dL_matches_23 rfl rfl ?_
        refine zz_goto (tgt := 58) hx hb dL_matches_24 (by decide) ?_
        refine W.eq (g2 := F0 m 58 ls [.int (zi x2)]) rfl ?_
        refine zw_widen (k := 3) (n := 18) (show _ ≤ 3 from by omega) (show _ ≤ 18 from by omega) ?_
        refine zz_reti hx hb hr hlocks hW3 hS3 ?_ dL_matches_58
        exact Or.inl ⟨hrf9, hC9⟩
  · have hgx : zg x2 := ⟨by omega, by omega⟩
    have hbr := pBE_rg hWF h5
    refine zz_iload_n hx hb hl 0 dL_matches_10 rfl rfl ?_
    refine zl_callM (As := [.int (zi x2)]) (rest := []) ⟨hx, hb, hml, hown, hts⟩ (c_L_isRefused l G ad A N0 σ2 x2 hgx) (va_cwS 1 hts gL_matches_L_isRefused rfl rfl rfl (by decide +kernel) ⟨Nat.le_of_ble_eq_true rfl, Nat.le_of_ble_eq_true rfl⟩) hK hE hAA hNC hW2 (Nat.le_trans hsz hS2.1) hS2 (fun q h => h) rfl hl.1.1 rfl (Nat.le_of_ble_eq_true rfl) dL_matches_11 ⟨show _ ≤ 3 from by omega, show _ ≤ 18 from by omega⟩ (fun x4 u4 H4 locs4 hp4 hW4 hz4 hk4 hS4 => ?_)
    rw [zb_f (show ¬ pRf x2 from fun q => by have := pRf_lo q; omega)] at hp4
    obtain ⟨rfl, rfl⟩ := hp4
    refine W.eq (g2 := F0 m 14 ls [.int (zi 0)]) rfl ?_
    refine zz_if_eq (tgt := 32) hx hb dL_matches_14 (by decide) ⟨by decide, by decide⟩ (fun hc14 => ?_) (fun hc14 => ?_)
    · refine zz_iload_n hx hb hl 0 dL_matches_32 rfl rfl ?_
      refine zz_iload_n hx hb hl 1 dL_matches_33 rfl rfl ?_
      refine zz_sipush hx hb dL_matches_34 (by decide +kernel) ?_
      refine zz_iadd hx hb dL_matches_37 ?_
      refine zz_sipush hx hb dL_matches_38 (by decide +kernel) ?_
      refine zz_idiv hx hb dL_matches_41 ⟨by omega, by omega⟩ ⟨by decide, by decide⟩ (by omega) (by omega) ?_
      refine zz_icmp_ne (tgt := 56) hx hb dL_matches_42 (by decide) hgx ⟨by omega, by omega⟩ (fun hc42 => ?_) (fun hc42 => ?_)
      · exact absurd hr2.symm hc42
      · refine zz_aload_n hx hb hl 2 dL_matches_45 rfl rfl ?_
        refine zl_callH (As := [zr ad 0 ((0 : Nat) : Int)]) (rest := []) ⟨hx, hb, hml, hown, hts⟩ (cl_best l hst G ad A N0 σ2 t2 nd nr ns (c + 1) hC9 hW4.2.2.1 ) (vx_cwSW 1 hts gL_matches_L_best rfl rfl rfl (by decide +kernel) ⟨Nat.le_of_ble_eq_true rfl, Nat.le_of_ble_eq_true rfl⟩) hK hE hAA hNC hW4 (Nat.le_trans hsz hS4.1) hS4 (fun q h => h) rfl hl.1.1 rfl (Nat.le_of_ble_eq_true rfl) dL_matches_46 ⟨show _ ≤ 3 from by omega, show _ ≤ 18 from by omega⟩ (fun x5 u5 H5 locs5 hp5 hW5 hz5 hk5 hS5 => ?_)
        obtain ⟨σ5, hs5⟩ : ∃ z, z = u5 := ⟨_, rfl⟩
        rw [← hs5] at hp5 hW5
        obtain ⟨hpc5, rfl⟩ := hp5
        have hC5 := hpc5
        refine W.eq (g2 := F0 m 49 ls [.int (zi (pBE t2 nd nr))]) rfl ?_
        refine zz_if_ne (tgt := 56) hx hb dL_matches_49 (by decide) (pBE_g hC9) (fun hc49 => ?_) (fun hc49 => ?_)
        · exact absurd hbz hc49
        · refine zz_iload_n hx hb hl 0 dL_matches_52 rfl rfl ?_
          refine zz_goto (tgt := 58) hx hb dL_matches_53 (by decide) ?_
          refine W.eq (g2 := F0 m 58 ls [.int (zi x2)]) rfl ?_
          refine zw_widen (k := 3) (n := 18) (show _ ≤ 3 from by omega) (show _ ≤ 18 from by omega) ?_
          refine zz_reti hx hb hr hlocks hW5 hS5 ?_ dL_matches_58
          exact Or.inr ⟨⟨hr0, hr1⟩, t2, hC5, hv9, hE9, hM9, h91, h92⟩
    · exact absurd rfl hc14

set_option maxHeartbeats 4000000 in
set_option maxRecDepth 100000 in
theorem c_L_asks (l : Launch) (hst : l.stackTraces = false) (G : zG) (ad : zA) (A : Nat → Prop) (N0 : Nat) (σ t : zS) (nd nr ns : Nat) (c : Int) (hC : pC ad σ t nd nr ns c) (hg : ∀ κ i k, zg (σ κ i k)) (hA : ∀ q, N0 ≤ q → A q) (sl : Prop) (hv : pV t sl nd nr) (hPE : pE t nd nr) (hc7 : c + 1 ≤ 800) (hin : pIn σ t sl nr) (hn : (ad 86 0).isSome = true) (hh : (ad 87 0).isSome = true) (y : Int) (hy : 0 ≤ y ∧ y < 100000001)  : Met l yL_asks wsL_asks ({ frames := 9, cells := 8, slots := 54, locals := 274 }) (zPH G ad A N0 σ [zr ad 0 ((0 : Nat) : Int), zr ad 86 ((0 : Nat) : Int), zr ad 87 ((0 : Nat) : Int), .int (zi y)]) (zQD G A (pDo σ t ad nd nr ns c)) 8 54 A := by
  refine zz_ofH (cc := cL_asks) (maxL := 6) (ret := (some .int)) (by decide) rfl (by intro v hv; simp only [List.mem_cons, List.not_mem_nil, or_false] at hv; rcases hv with rfl | rfl | rfl | rfl <;> first | rfl | exact zr_cat _ _ _) (Nat.le_of_ble_eq_true rfl) ?_
  intro p e s m below meth c9 hx hb hr hml hts hown hlocks hsz hW0 hK hE hAA hNC ls hl
  have hS0 : va_S A s.heap s.heap [] := va_S.rf
  have hA0 : ∀ q, s.heap.size ≤ q → A q := fun q hq => hA q (Nat.le_trans hsz hq)
  have hl : zh ls 6 [(0, zr ad 0 ((0 : Nat) : Int)), (1, zr ad 86 ((0 : Nat) : Int)), (2, zr ad 87 ((0 : Nat) : Int)), (3, .int (zi y))] := hl
  have hWF := hC.2.2.2.1
  have h00 := hC.1 0 0 rfl
  obtain ⟨hi12, hi0, hi1, hi2, hi3, hiH⟩ := id hin
  have h30 := hWF.1.2.2.1
  have hcap := hWF.1.2.2.2.1
  refine zz_aload_n hx hb hl 1 dL_asks_0 rfl rfl ?_
  refine zz_iconst hx hb dL_asks_1 ?_
  refine zz_iald (w := ((nr : Nat) : Int)) hx hb hK hW0 (zlN hn) rfl rfl rfl (by show (0 : Int) ≤ 0; omega) (by show 0 < (4 : Int); omega) (show σ 86 0 0 = ((nr : Nat) : Int) from by rw [hi0]) dL_asks_2 ?_
  refine zz_bipush hx hb dL_asks_3 (by decide +kernel) ?_
  refine zz_icmp_ne (tgt := 10) hx hb dL_asks_5 (by decide) ⟨by omega, by omega⟩ ⟨by decide, by decide⟩ (fun hc5 => ?_) (fun hc5 => ?_)
  · refine zz_iload_n hx hb hl 3 dL_asks_10 rfl rfl ?_
    refine zz_bipush hx hb dL_asks_11 (by decide +kernel) ?_
    refine zz_idiv hx hb dL_asks_13 ⟨by omega, by omega⟩ ⟨by decide, by decide⟩ (by omega) (by omega) ?_
    refine zz_bipush hx hb dL_asks_14 (by decide +kernel) ?_
    refine zz_irem hx hb dL_asks_16 ⟨by omega, by omega⟩ ⟨by decide, by decide⟩ (by omega) (by omega) ?_
    refine zz_istore (lv' := [(4, .int (zi ((y / 36) % 61))), (0, zr ad 0 ((0 : Nat) : Int)), (1, zr ad 86 ((0 : Nat) : Int)), (2, zr ad 87 ((0 : Nat) : Int)), (3, .int (zi y))]) hx hb hl dL_asks_17 (by decide) rfl (fun ls hl => ?_)
    refine zz_aload_n hx hb hl 1 dL_asks_19 rfl rfl ?_
    refine zz_iload_n hx hb hl 4 dL_asks_20 rfl rfl ?_
    refine zz_bipush hx hb dL_asks_21 (by decide +kernel) ?_
    refine zz_irem hx hb dL_asks_23 ⟨by omega, by omega⟩ ⟨by decide, by decide⟩ (by omega) (by omega) ?_
    refine zz_iload_n hx hb hl 4 dL_asks_24 rfl rfl ?_
    refine zz_bipush hx hb dL_asks_25 (by decide +kernel) ?_
    refine zz_idiv hx hb dL_asks_27 ⟨by omega, by omega⟩ ⟨by decide, by decide⟩ (by omega) (by omega) ?_
    refine zz_bipush hx hb dL_asks_28 (by decide +kernel) ?_
    refine zz_irem hx hb dL_asks_30 ⟨by omega, by omega⟩ ⟨by decide, by decide⟩ (by omega) (by omega) ?_
    refine zz_iload hx hb hl 0 dL_asks_31 rfl ?_
    refine zz_iload_n hx hb hl 4 dL_asks_33 rfl rfl ?_
    refine zz_sipush hx hb dL_asks_34 (by decide +kernel) ?_
    refine zz_idiv hx hb dL_asks_37 ⟨by omega, by omega⟩ ⟨by decide, by decide⟩ (by omega) (by omega) ?_
    refine zz_iconst hx hb dL_asks_38 ?_
    refine zz_irem hx hb dL_asks_39 ⟨by omega, by omega⟩ ⟨by decide, by decide⟩ (by omega) (by omega) ?_
    refine zz_if_le (tgt := 47) hx hb dL_asks_40 (by decide) ⟨by omega, by omega⟩ (fun hc40 => ?_) (fun hc40 => ?_)
    · refine zz_iconst hx hb dL_asks_47 ?_
      refine zl_callPD (As := [zr (zr8 ad) 0 ((0 : Nat) : Int), .int (zi (y % 6)), .int (zi ((y / 6) % 6)), .int (zi ((y / 36) % 61)), .int (zi 0)]) (rest := []) ⟨hx, hb, hml, hown, hts⟩ (cl_request l hst G (zr8 ad) (zcA (zr8 ad) s.heap.size) s.heap.size σ t nd nr ns c (pC_r8 hC) hW0.2.2.1 sl hv hPE (fun q h => Or.inr h) (y % 6) (y / 6 % 6) ((y / 36) % 61) 0 ⟨by omega, by omega⟩ ⟨by omega, by omega⟩ ⟨by omega, by omega⟩ (Or.inl rfl) hc7) (vx_cwSW 5 hts gL_asks_L_request rfl rfl rfl (by decide +kernel) ⟨Nat.le_of_ble_eq_true rfl, Nat.le_of_ble_eq_true rfl⟩) hK hE hAA hNC hW0 hA0 hS0 rfl hl.1.1 rfl (Nat.le_of_ble_eq_true rfl) dL_asks_48 ⟨show _ ≤ 8 from by omega, show _ ≤ 54 from by omega⟩ (fun a1 x1 u1 H1 locs1 hp1 hW1 hz1 hS1 => ?_)
      obtain ⟨σ1, hs1⟩ : ∃ z, z = zg8 σ u1 := ⟨_, rfl⟩
      have hf1 : ∀ κ i k, 86 ≤ κ → σ1 κ i k = σ κ i k := fun κ i k h => by rw [hs1]; exact zg8_hi h
      obtain ⟨hq1, hfr1⟩ := hp1
      obtain ⟨ad9, had9⟩ : ∃ z, z = za8 ad a1 := ⟨_, rfl⟩
      rw [← hs1, ← had9] at hW1
      have hlo : ∀ κ i, ¬ (17 ≤ κ ∧ κ ≤ 23) → ad9 κ i = ad κ i := fun κ i h => by
        rw [had9]
        by_cases h8 : κ < 86
        · rw [za8_lo h8, hfr1 κ i h, zr8_lo h8]
        · rw [za8_hi (by omega)]
      have z0 : zr ad 0 ((0 : Nat) : Int) = zr ad9 0 ((0 : Nat) : Int) := zr_cg (fun i => (hlo 0 i (by decide)).symm)
      have z86 : zr ad 86 ((0 : Nat) : Int) = zr ad9 86 ((0 : Nat) : Int) := zr_cg (fun i => (hlo 86 i (by decide)).symm)
      have z87 : zr ad 87 ((0 : Nat) : Int) = zr ad9 87 ((0 : Nat) : Int) := zr_cg (fun i => (hlo 87 i (by decide)).symm)
      rw [z0, z86, z87] at hl
      replace h00 : (ad9 0 0).isSome = true := by rw [hlo 0 0 (by decide)]; exact h00
      replace hn : (ad9 86 0).isSome = true := by rw [hlo 86 0 (by decide)]; exact hn
      replace hh : (ad9 87 0).isSome = true := by rw [hlo 87 0 (by decide)]; exact hh
      refine W.eq (g2 := F0 m 51 ls [.int (zi x1)]) rfl ?_
      refine zz_istore (lv' := [(5, .int (zi x1)), (4, .int (zi ((y / 36) % 61))), (0, zr ad9 0 ((0 : Nat) : Int)), (1, zr ad9 86 ((0 : Nat) : Int)), (2, zr ad9 87 ((0 : Nat) : Int)), (3, .int (zi y))]) hx hb hl dL_asks_51 (by decide) rfl (fun ls hl => ?_)
      have hsp53 := hq1
      rcases hsp53 with ⟨hrf9, hC9⟩ | ⟨hr0, hr1, t2, hC9, hv9, hE9, hM9, h91, h92, rfl, h649, h719, h679⟩
      · replace hC9 : pC ad9 σ1 t nd nr ns c := by rw [hs1, had9]; exact pC_g8 hC9
        have hgx : zg x1 := (pRf_5 hrf9).2
        refine zz_iload hx hb hl 0 dL_asks_53 rfl ?_
        refine zl_callM (As := [.int (zi x1)]) (rest := []) ⟨hx, hb, hml, hown, hts⟩ (c_L_isRefused l G ad9 A N0 σ1 x1 hgx) (va_cwS 1 hts gL_asks_L_isRefused rfl rfl rfl (by decide +kernel) ⟨Nat.le_of_ble_eq_true rfl, Nat.le_of_ble_eq_true rfl⟩) hK hE hAA hNC hW1 (Nat.le_trans hsz hS1.1) hS1 (fun q h => h) rfl hl.1.1 rfl (Nat.le_of_ble_eq_true rfl) dL_asks_55 ⟨show _ ≤ 8 from by omega, show _ ≤ 54 from by omega⟩ (fun x2 u2 H2 locs2 hp2 hW2 hz2 hk2 hS2 => ?_)
        rw [zb_t (show pRf x1 from hrf9)] at hp2
        obtain ⟨rfl, rfl⟩ := hp2
        refine W.eq (g2 := F0 m 58 ls [.int (zi 1)]) rfl ?_
        refine zz_if_ne (tgt := 113) hx hb dL_asks_58 (by decide) ⟨by decide, by decide⟩ (fun hc58 => ?_) (fun hc58 => ?_)
        · refine zz_iload hx hb hl 0 dL_asks_113 rfl ?_
          refine W.eq (g2 := F0 m 115 ls [.int (zi x1)]) rfl ?_
          refine zw_widen (k := 8) (n := 54) (show _ ≤ 8 from by omega) (show _ ≤ 54 from by omega) ?_
          refine zn_reti hx hb hr hlocks hW2 hS2 ?_ dL_asks_115
          exact pDo_al hlo (pDo_no hin (pRf_5 hrf9) hC9 hv hPE hc7 (fun j => by rw [hf1 87 0 j (by decide)]) (fun j => by rw [hf1 88 0 j (by decide)]) (fun j _ => by rw [hf1 86 0 j (by decide)]) (by rw [hf1 86 0 3 (by decide)]; exact hi3))
        · exact absurd hc58 (by decide)
      · replace hC9 : pC ad9 σ1 t2 nd (nr + 1) ns (c + 1) := by rw [hs1, had9]; exact pC_g8 hC9
        have hgx : zg ((nr : Nat) : Int) := ⟨by omega, by omega⟩
        have hWF2 := hC9.2.2.2.1
        have hq69 := (hE9.1 nr (by omega)).1
        have hg69 : zg (t2 69 0 nr) := ⟨by omega, by omega⟩
        refine zz_iload hx hb hl 0 dL_asks_53 rfl ?_
        refine zl_callM (As := [.int (zi ((nr : Nat) : Int))]) (rest := []) ⟨hx, hb, hml, hown, hts⟩ (c_L_isRefused l G ad9 A N0 σ1 ((nr : Nat) : Int) hgx) (va_cwS 1 hts gL_asks_L_isRefused rfl rfl rfl (by decide +kernel) ⟨Nat.le_of_ble_eq_true rfl, Nat.le_of_ble_eq_true rfl⟩) hK hE hAA hNC hW1 (Nat.le_trans hsz hS1.1) hS1 (fun q h => h) rfl hl.1.1 rfl (Nat.le_of_ble_eq_true rfl) dL_asks_55 ⟨show _ ≤ 8 from by omega, show _ ≤ 54 from by omega⟩ (fun x3 u3 H3 locs3 hp3 hW3 hz3 hk3 hS3 => ?_)
        rw [zb_f (show ¬ pRf ((nr : Nat) : Int) from fun q => by have := pRf_lo q; omega)] at hp3
        obtain ⟨rfl, rfl⟩ := hp3
        refine W.eq (g2 := F0 m 58 ls [.int (zi 0)]) rfl ?_
        refine zz_if_ne (tgt := 113) hx hb dL_asks_58 (by decide) ⟨by decide, by decide⟩ (fun hc58 => ?_) (fun hc58 => ?_)
        · exact absurd rfl hc58
        · refine zz_aload_n hx hb hl 4 dL_asks_61 rfl rfl ?_
          refine zz_iconst hx hb dL_asks_62 ?_
          refine zz_iload hx hb hl 0 dL_asks_63 rfl ?_
          refine zz_imul hx hb dL_asks_65 ?_
          refine zz_iconst hx hb dL_asks_66 ?_
          refine zz_iast (y := 0) hx hb hK hW3 hS3 (zlN hh) rfl rfl rfl (by show (0 : Int) ≤ ((4 * nr : Nat) : Int); omega) (by show ((4 * nr : Nat) : Int) < (48 : Int); omega) ⟨by decide, by decide⟩ dL_asks_67 (fun H4 locs4 hW4' hS4 => ?_)
          obtain ⟨σ4, hs4⟩ : ∃ z, z = zu σ1 87 0 (4 * nr) 0 := ⟨_, rfl⟩
          have hW4 : ZW G ad9 A σ4 H4 := by rw [hs4]; exact hW4'
          have hCb : pC ad9 σ4 t2 nd (nr + 1) ns (c + 1) := pC_hi hC9 (fun κ i k h => by rw [hs4]; exact zu_k (by omega))
          refine zz_aload_n hx hb hl 4 dL_asks_68 rfl rfl ?_
          refine zz_iconst hx hb dL_asks_69 ?_
          refine zz_iload hx hb hl 0 dL_asks_70 rfl ?_
          refine zz_imul hx hb dL_asks_72 ?_
          refine zz_iconst hx hb dL_asks_73 ?_
          refine zz_iadd hx hb dL_asks_74 ?_
          refine zz_aload_n hx hb hl 2 dL_asks_75 rfl rfl ?_
          refine zz_iload hx hb hl 0 dL_asks_76 rfl ?_
          refine zz_iconst hx hb dL_asks_78 ?_
          refine zl_callP (As := [zr (zr8 ad9) 0 ((0 : Nat) : Int), .int (zi ((nr : Nat) : Int)), .int (zi 1)]) (rest := [.int (zi (((4 * nr) + 1 : Nat) : Int)), zr ad9 87 ((0 : Nat) : Int)]) ⟨hx, hb, hml, hown, hts⟩ (cl_requestIs l hst G (zr8 ad9) (zcA (zr8 ad9) H4.size) H4.size σ4 t2 nd (nr + 1) ns (c + 1) (pC_r8 hCb) hW4.2.2.1 ((nr : Nat) : Int) 1 ⟨by omega, by omega⟩ ⟨by decide, by decide⟩) (vx_cwSW 3 hts gL_asks_L_requestIs rfl rfl rfl (by decide +kernel) ⟨Nat.le_of_ble_eq_true rfl, Nat.le_of_ble_eq_true rfl⟩) hK hE hAA hNC hW4 hA0 hS4 rfl hl.1.1 rfl (by simp only [List.map, zr_cat, zcat_i]; decide) dL_asks_79 ⟨show _ ≤ 8 from by omega, show _ ≤ 54 from by omega⟩ (fun x5 u5 H5 locs5 hp5 hW5 hz5 hS5 => ?_)
          rw [pRI_at (by omega) (by decide), yri_1] at hp5
          obtain ⟨rfl, rfl⟩ := hp5
          rw [zg8_self] at hW5
          refine W.eq (g2 := F0 m 82 ls [.int (zi (t2 69 0 nr)), .int (zi (((4 * nr) + 1 : Nat) : Int)), zr ad9 87 ((0 : Nat) : Int)]) rfl ?_
          refine zz_iast (y := (t2 69 0 nr)) hx hb hK hW5 hS5 (zlN hh) rfl rfl rfl (by show (0 : Int) ≤ (((4 * nr) + 1 : Nat) : Int); omega) (by show (((4 * nr) + 1 : Nat) : Int) < (48 : Int); omega) hg69 dL_asks_82 (fun H6 locs6 hW6' hS6 => ?_)
          obtain ⟨σ6, hs6⟩ : ∃ z, z = zu σ4 87 0 ((4 * nr) + 1) (t2 69 0 nr) := ⟨_, rfl⟩
          have hW6 : ZW G ad9 A σ6 H6 := by rw [hs6]; exact hW6'
          refine zz_aload_n hx hb hl 4 dL_asks_83 rfl rfl ?_
          refine zz_iconst hx hb dL_asks_84 ?_
          refine zz_iload hx hb hl 0 dL_asks_85 rfl ?_
          refine zz_imul hx hb dL_asks_87 ?_
          refine zz_iconst hx hb dL_asks_88 ?_
          refine zz_iadd hx hb dL_asks_89 ?_
          refine zz_iconst hx hb dL_asks_90 ?_
          refine zz_iast (y := (-1)) hx hb hK hW6 hS6 (zlN hh) rfl rfl rfl (by show (0 : Int) ≤ (((4 * nr) + 2 : Nat) : Int); omega) (by show (((4 * nr) + 2 : Nat) : Int) < (48 : Int); omega) ⟨by decide, by decide⟩ dL_asks_91 (fun H7 locs7 hW7' hS7 => ?_)
          obtain ⟨σ7, hs7⟩ : ∃ z, z = zu σ6 87 0 ((4 * nr) + 2) (-1) := ⟨_, rfl⟩
          have hW7 : ZW G ad9 A σ7 H7 := by rw [hs7]; exact hW7'
          refine zz_aload_n hx hb hl 4 dL_asks_92 rfl rfl ?_
          refine zz_iconst hx hb dL_asks_93 ?_
          refine zz_iload hx hb hl 0 dL_asks_94 rfl ?_
          refine zz_imul hx hb dL_asks_96 ?_
          refine zz_iconst hx hb dL_asks_97 ?_
          refine zz_iadd hx hb dL_asks_98 ?_
          refine zz_aload_n hx hb hl 3 dL_asks_99 rfl rfl ?_
          refine zz_iconst hx hb dL_asks_100 ?_
          refine zz_iald (w := t 30 0 1) hx hb hK hW7 (zlN hn) rfl rfl rfl (by show (0 : Int) ≤ 1; omega) (by show 1 < (4 : Int); omega) (show σ7 86 0 1 = t 30 0 1 from by rw [hs7, zu_k (by decide), hs6, zu_k (by decide), hs4, zu_k (by decide), hf1 86 0 1 (by decide), hi1]) dL_asks_101 ?_
          refine zz_iload hx hb hl 1 dL_asks_102 rfl ?_
          refine zz_iadd hx hb dL_asks_104 ?_
          refine zz_iast (y := ((t 30 0 1) + ((y / 36) % 61))) hx hb hK hW7 hS7 (zlN hh) rfl rfl rfl (by show (0 : Int) ≤ (((4 * nr) + 3 : Nat) : Int); omega) (by show (((4 * nr) + 3 : Nat) : Int) < (48 : Int); omega) ⟨by omega, by omega⟩ dL_asks_105 (fun H8 locs8 hW8' hS8 => ?_)
          obtain ⟨σ8, hs8⟩ : ∃ z, z = zu σ7 87 0 ((4 * nr) + 3) ((t 30 0 1) + ((y / 36) % 61)) := ⟨_, rfl⟩
          have hW8 : ZW G ad9 A σ8 H8 := by rw [hs8]; exact hW8'
          refine zz_aload_n hx hb hl 3 dL_asks_106 rfl rfl ?_
          refine zz_iconst hx hb dL_asks_107 ?_
          refine zz_dup2 hx hb dL_asks_108 rfl (zr_cat _ _ _) ?_
          refine zz_iald (w := ((nr : Nat) : Int)) hx hb hK hW8 (zlN hn) rfl rfl rfl (by show (0 : Int) ≤ 0; omega) (by show 0 < (4 : Int); omega) (show σ8 86 0 0 = ((nr : Nat) : Int) from by rw [hs8, zu_k (by decide), hs7, zu_k (by decide), hs6, zu_k (by decide), hs4, zu_k (by decide), hf1 86 0 0 (by decide), hi0]) dL_asks_109 ?_
          refine zz_iconst hx hb dL_asks_110 ?_
          refine zz_iadd hx hb dL_asks_111 ?_
          refine zz_iast (y := ((nr + 1 : Nat) : Int)) hx hb hK hW8 hS8 (zlN hn) rfl rfl rfl (by show (0 : Int) ≤ 0; omega) (by show 0 < (4 : Int); omega) ⟨by omega, by omega⟩ dL_asks_112 (fun H9 locs9 hW9' hS9 => ?_)
          obtain ⟨σ9, hs9⟩ : ∃ z, z = zu σ8 86 0 0 ((nr + 1 : Nat) : Int) := ⟨_, rfl⟩
          have hW9 : ZW G ad9 A σ9 H9 := by rw [hs9]; exact hW9'
          refine zz_iload hx hb hl 0 dL_asks_113 rfl ?_
          refine W.eq (g2 := F0 m 115 ls [.int (zi ((nr : Nat) : Int))]) rfl ?_
          refine zw_widen (k := 8) (n := 54) (show _ ≤ 8 from by omega) (show _ ≤ 54 from by omega) ?_
          refine zn_reti hx hb hr hlocks hW9 hS9 ?_ dL_asks_115
          have e86 : ∀ κ i k, 86 ≤ κ → σ1 κ i k = σ κ i k := hf1
          refine ⟨⟨by omega, by omega, by omega⟩, t2, nr + 1, sl, fun q => absurd (pRf_lo q) (by omega), ⟨pC_hi hCb (fun κ i k h => by rw [hs9, zu_ne (by omega), hs8, zu_ne (by omega), hs7, zu_ne (by omega), hs6, zu_ne (by omega)]), hv9, hE9, hM9⟩, ⟨by omega, by omega⟩, ⟨?_, ?_, ?_, ?_, ?_⟩, fun k hk => ?_, hlo⟩
          · rw [hs9, zu_same]
          · rw [hs9, zu_ne (by omega), hs8, zu_ne (by omega), hs7, zu_ne (by omega), hs6, zu_ne (by omega), hs4, zu_ne (by omega), e86 _ _ _ (by decide)]; exact hi1.trans h91.symm
          · rw [hs9, zu_ne (by omega), hs8, zu_ne (by omega), hs7, zu_ne (by omega), hs6, zu_ne (by omega), hs4, zu_ne (by omega), e86 _ _ _ (by decide)]; exact hi2.trans h92.symm
          · rcases hi3 with z | z
            · exact Or.inl (by rw [hs9, zu_ne (by omega), hs8, zu_ne (by omega), hs7, zu_ne (by omega), hs6, zu_ne (by omega), hs4, zu_ne (by omega), e86 _ _ _ (by decide)]; exact z)
            · exact Or.inr z
          · exact pHm_rq hiH hM9 (fun j hj => by rw [hs9, zu_ne (by omega), hs8, zu_ne (by omega), hs7, zu_ne (by omega), hs6, zu_ne (by omega), hs4, zu_ne (by omega), e86 _ _ _ (by decide)]) (by rw [hs9, zu_ne (by omega), hs8, zu_ne (by omega), hs7, zu_ne (by omega), hs6, zu_ne (by omega), hs4, zu_same]) (by rw [hs9, zu_ne (by omega), hs8, zu_ne (by omega), hs7, zu_ne (by omega), hs6, zu_same]) (by rw [hs9, zu_ne (by omega), hs8, zu_ne (by omega), hs7, zu_same]) (by rw [hs9, zu_ne (by omega), hs8, zu_same]; omega) h649
          · rw [hs9, zu_ne (by omega), hs8, zu_ne (by omega), hs7, zu_ne (by omega), hs6, zu_ne (by omega), hs4, zu_ne (by omega), e86 _ _ _ (by decide)]
    · refine zz_iconst hx hb dL_asks_43 ?_
      refine zz_goto (tgt := 48) hx hb dL_asks_44 (by decide) ?_
      refine zl_callPD (As := [zr (zr8 ad) 0 ((0 : Nat) : Int), .int (zi (y % 6)), .int (zi ((y / 6) % 6)), .int (zi ((y / 36) % 61)), .int (zi 1)]) (rest := []) ⟨hx, hb, hml, hown, hts⟩ (cl_request l hst G (zr8 ad) (zcA (zr8 ad) s.heap.size) s.heap.size σ t nd nr ns c (pC_r8 hC) hW0.2.2.1 sl hv hPE (fun q h => Or.inr h) (y % 6) (y / 6 % 6) ((y / 36) % 61) 1 ⟨by omega, by omega⟩ ⟨by omega, by omega⟩ ⟨by omega, by omega⟩ (Or.inr rfl) hc7) (vx_cwSW 5 hts gL_asks_L_request rfl rfl rfl (by decide +kernel) ⟨Nat.le_of_ble_eq_true rfl, Nat.le_of_ble_eq_true rfl⟩) hK hE hAA hNC hW0 hA0 hS0 rfl hl.1.1 rfl (Nat.le_of_ble_eq_true rfl) dL_asks_48 ⟨show _ ≤ 8 from by omega, show _ ≤ 54 from by omega⟩ (fun a10 x10 u10 H10 locs10 hp10 hW10 hz10 hS10 => ?_)
      obtain ⟨σ10, hs10⟩ : ∃ z, z = zg8 σ u10 := ⟨_, rfl⟩
      have hf10 : ∀ κ i k, 86 ≤ κ → σ10 κ i k = σ κ i k := fun κ i k h => by rw [hs10]; exact zg8_hi h
      obtain ⟨hq10, hfr10⟩ := hp10
      obtain ⟨ad9, had9⟩ : ∃ z, z = za8 ad a10 := ⟨_, rfl⟩
      rw [← hs10, ← had9] at hW10
      have hlo : ∀ κ i, ¬ (17 ≤ κ ∧ κ ≤ 23) → ad9 κ i = ad κ i := fun κ i h => by
        rw [had9]
        by_cases h8 : κ < 86
        · rw [za8_lo h8, hfr10 κ i h, zr8_lo h8]
        · rw [za8_hi (by omega)]
      have z0 : zr ad 0 ((0 : Nat) : Int) = zr ad9 0 ((0 : Nat) : Int) := zr_cg (fun i => (hlo 0 i (by decide)).symm)
      have z86 : zr ad 86 ((0 : Nat) : Int) = zr ad9 86 ((0 : Nat) : Int) := zr_cg (fun i => (hlo 86 i (by decide)).symm)
      have z87 : zr ad 87 ((0 : Nat) : Int) = zr ad9 87 ((0 : Nat) : Int) := zr_cg (fun i => (hlo 87 i (by decide)).symm)
      rw [z0, z86, z87] at hl
      replace h00 : (ad9 0 0).isSome = true := by rw [hlo 0 0 (by decide)]; exact h00
      replace hn : (ad9 86 0).isSome = true := by rw [hlo 86 0 (by decide)]; exact hn
      replace hh : (ad9 87 0).isSome = true := by rw [hlo 87 0 (by decide)]; exact hh
      refine W.eq (g2 := F0 m 51 ls [.int (zi x10)]) rfl ?_
      refine zz_istore (lv' := [(5, .int (zi x10)), (4, .int (zi ((y / 36) % 61))), (0, zr ad9 0 ((0 : Nat) : Int)), (1, zr ad9 86 ((0 : Nat) : Int)), (2, zr ad9 87 ((0 : Nat) : Int)), (3, .int (zi y))]) hx hb hl dL_asks_51 (by decide) rfl (fun ls hl => ?_)
      have hsp53 := hq10
      rcases hsp53 with ⟨hrf9, hC9⟩ | ⟨hr0, hr1, t2, hC9, hv9, hE9, hM9, h91, h92, rfl, h649, h719, h679⟩
      · replace hC9 : pC ad9 σ10 t nd nr ns c := by rw [hs10, had9]; exact pC_g8 hC9
        have hgx : zg x10 := (pRf_5 hrf9).2
        refine zz_iload hx hb hl 0 dL_asks_53 rfl ?_
        refine zl_callM (As := [.int (zi x10)]) (rest := []) ⟨hx, hb, hml, hown, hts⟩ (c_L_isRefused l G ad9 A N0 σ10 x10 hgx) (va_cwS 1 hts gL_asks_L_isRefused rfl rfl rfl (by decide +kernel) ⟨Nat.le_of_ble_eq_true rfl, Nat.le_of_ble_eq_true rfl⟩) hK hE hAA hNC hW10 (Nat.le_trans hsz hS10.1) hS10 (fun q h => h) rfl hl.1.1 rfl (Nat.le_of_ble_eq_true rfl) dL_asks_55 ⟨show _ ≤ 8 from by omega, show _ ≤ 54 from by omega⟩ (fun x11 u11 H11 locs11 hp11 hW11 hz11 hk11 hS11 => ?_)
        rw [zb_t (show pRf x10 from hrf9)] at hp11
        obtain ⟨rfl, rfl⟩ := hp11
        refine W.eq (g2 := F0 m 58 ls [.int (zi 1)]) rfl ?_
        refine zz_if_ne (tgt := 113) hx hb dL_asks_58 (by decide) ⟨by decide, by decide⟩ (fun hc58 => ?_) (fun hc58 => ?_)
        · refine zz_iload hx hb hl 0 dL_asks_113 rfl ?_
          refine W.eq (g2 := F0 m 115 ls [.int (zi x10)]) rfl ?_
          refine zw_widen (k := 8) (n := 54) (show _ ≤ 8 from by omega) (show _ ≤ 54 from by omega) ?_
          refine zn_reti hx hb hr hlocks hW11 hS11 ?_ dL_asks_115
          exact pDo_al hlo (pDo_no hin (pRf_5 hrf9) hC9 hv hPE hc7 (fun j => by rw [hf10 87 0 j (by decide)]) (fun j => by rw [hf10 88 0 j (by decide)]) (fun j _ => by rw [hf10 86 0 j (by decide)]) (by rw [hf10 86 0 3 (by decide)]; exact hi3))
        · exact absurd hc58 (by decide)
      · replace hC9 : pC ad9 σ10 t2 nd (nr + 1) ns (c + 1) := by rw [hs10, had9]; exact pC_g8 hC9
        have hgx : zg ((nr : Nat) : Int) := ⟨by omega, by omega⟩
        have hWF2 := hC9.2.2.2.1
        have hq69 := (hE9.1 nr (by omega)).1
        have hg69 : zg (t2 69 0 nr) := ⟨by omega, by omega⟩
        refine zz_iload hx hb hl 0 dL_asks_53 rfl ?_
        refine zl_callM (As := [.int (zi ((nr : Nat) : Int))]) (rest := []) ⟨hx, hb, hml, hown, hts⟩ (c_L_isRefused l G ad9 A N0 σ10 ((nr : Nat) : Int) hgx) (va_cwS 1 hts gL_asks_L_isRefused rfl rfl rfl (by decide +kernel) ⟨Nat.le_of_ble_eq_true rfl, Nat.le_of_ble_eq_true rfl⟩) hK hE hAA hNC hW10 (Nat.le_trans hsz hS10.1) hS10 (fun q h => h) rfl hl.1.1 rfl (Nat.le_of_ble_eq_true rfl) dL_asks_55 ⟨show _ ≤ 8 from by omega, show _ ≤ 54 from by omega⟩ (fun x12 u12 H12 locs12 hp12 hW12 hz12 hk12 hS12 => ?_)
        rw [zb_f (show ¬ pRf ((nr : Nat) : Int) from fun q => by have := pRf_lo q; omega)] at hp12
        obtain ⟨rfl, rfl⟩ := hp12
        refine W.eq (g2 := F0 m 58 ls [.int (zi 0)]) rfl ?_
        refine zz_if_ne (tgt := 113) hx hb dL_asks_58 (by decide) ⟨by decide, by decide⟩ (fun hc58 => ?_) (fun hc58 => ?_)
        · exact absurd rfl hc58
        · refine zz_aload_n hx hb hl 4 dL_asks_61 rfl rfl ?_
          refine zz_iconst hx hb dL_asks_62 ?_
          refine zz_iload hx hb hl 0 dL_asks_63 rfl ?_
          refine zz_imul hx hb dL_asks_65 ?_
          refine zz_iconst hx hb dL_asks_66 ?_
          refine zz_iast (y := 0) hx hb hK hW12 hS12 (zlN hh) rfl rfl rfl (by show (0 : Int) ≤ ((4 * nr : Nat) : Int); omega) (by show ((4 * nr : Nat) : Int) < (48 : Int); omega) ⟨by decide, by decide⟩ dL_asks_67 (fun H13 locs13 hW13' hS13 => ?_)
          obtain ⟨σ13, hs13⟩ : ∃ z, z = zu σ10 87 0 (4 * nr) 0 := ⟨_, rfl⟩
          have hW13 : ZW G ad9 A σ13 H13 := by rw [hs13]; exact hW13'
          have hCb : pC ad9 σ13 t2 nd (nr + 1) ns (c + 1) := pC_hi hC9 (fun κ i k h => by rw [hs13]; exact zu_k (by omega))
          refine zz_aload_n hx hb hl 4 dL_asks_68 rfl rfl ?_
          refine zz_iconst hx hb dL_asks_69 ?_
          refine zz_iload hx hb hl 0 dL_asks_70 rfl ?_
          refine zz_imul hx hb dL_asks_72 ?_
          refine zz_iconst hx hb dL_asks_73 ?_
          refine zz_iadd hx hb dL_asks_74 ?_
          refine zz_aload_n hx hb hl 2 dL_asks_75 rfl rfl ?_
          refine zz_iload hx hb hl 0 dL_asks_76 rfl ?_
          refine zz_iconst hx hb dL_asks_78 ?_
          refine zl_callP (As := [zr (zr8 ad9) 0 ((0 : Nat) : Int), .int (zi ((nr : Nat) : Int)), .int (zi 1)]) (rest := [.int (zi (((4 * nr) + 1 : Nat) : Int)), zr ad9 87 ((0 : Nat) : Int)]) ⟨hx, hb, hml, hown, hts⟩ (cl_requestIs l hst G (zr8 ad9) (zcA (zr8 ad9) H13.size) H13.size σ13 t2 nd (nr + 1) ns (c + 1) (pC_r8 hCb) hW13.2.2.1 ((nr : Nat) : Int) 1 ⟨by omega, by omega⟩ ⟨by decide, by decide⟩) (vx_cwSW 3 hts gL_asks_L_requestIs rfl rfl rfl (by decide +kernel) ⟨Nat.le_of_ble_eq_true rfl, Nat.le_of_ble_eq_true rfl⟩) hK hE hAA hNC hW13 hA0 hS13 rfl hl.1.1 rfl (by simp only [List.map, zr_cat, zcat_i]; decide) dL_asks_79 ⟨show _ ≤ 8 from by omega, show _ ≤ 54 from by omega⟩ (fun x14 u14 H14 locs14 hp14 hW14 hz14 hS14 => ?_)
          rw [pRI_at (by omega) (by decide), yri_1] at hp14
          obtain ⟨rfl, rfl⟩ := hp14
          rw [zg8_self] at hW14
          refine W.eq (g2 := F0 m 82 ls [.int (zi (t2 69 0 nr)), .int (zi (((4 * nr) + 1 : Nat) : Int)), zr ad9 87 ((0 : Nat) : Int)]) rfl ?_
          refine zz_iast (y := (t2 69 0 nr)) hx hb hK hW14 hS14 (zlN hh) rfl rfl rfl (by show (0 : Int) ≤ (((4 * nr) + 1 : Nat) : Int); omega) (by show (((4 * nr) + 1 : Nat) : Int) < (48 : Int); omega) hg69 dL_asks_82 (fun H15 locs15 hW15' hS15 => ?_)
          obtain ⟨σ15, hs15⟩ : ∃ z, z = zu σ13 87 0 ((4 * nr) + 1) (t2 69 0 nr) := ⟨_, rfl⟩
          have hW15 : ZW G ad9 A σ15 H15 := by rw [hs15]; exact hW15'
          refine zz_aload_n hx hb hl 4 dL_asks_83 rfl rfl ?_
          refine zz_iconst hx hb dL_asks_84 ?_
          refine zz_iload hx hb hl 0 dL_asks_85 rfl ?_
          refine zz_imul hx hb dL_asks_87 ?_
          refine zz_iconst hx hb dL_asks_88 ?_
          refine zz_iadd hx hb dL_asks_89 ?_
          refine zz_iconst hx hb dL_asks_90 ?_
          refine zz_iast (y := (-1)) hx hb hK hW15 hS15 (zlN hh) rfl rfl rfl (by show (0 : Int) ≤ (((4 * nr) + 2 : Nat) : Int); omega) (by show (((4 * nr) + 2 : Nat) : Int) < (48 : Int); omega) ⟨by decide, by decide⟩ dL_asks_91 (fun H16 locs16 hW16' hS16 => ?_)
          obtain ⟨σ16, hs16⟩ : ∃ z, z = zu σ15 87 0 ((4 * nr) + 2) (-1) := ⟨_, rfl⟩
          have hW16 : ZW G ad9 A σ16 H16 := by rw [hs16]; exact hW16'
          refine zz_aload_n hx hb hl 4 dL_asks_92 rfl rfl ?_
          refine zz_iconst hx hb dL_asks_93 ?_
          refine zz_iload hx hb hl 0 dL_asks_94 rfl ?_
          refine zz_imul hx hb dL_asks_96 ?_
          refine zz_iconst hx hb dL_asks_97 ?_
          refine zz_iadd hx hb dL_asks_98 ?_
          refine zz_aload_n hx hb hl 3 dL_asks_99 rfl rfl ?_
          refine zz_iconst hx hb dL_asks_100 ?_
          refine zz_iald (w := t 30 0 1) hx hb hK hW16 (zlN hn) rfl rfl rfl (by show (0 : Int) ≤ 1; omega) (by show 1 < (4 : Int); omega) (show σ16 86 0 1 = t 30 0 1 from by rw [hs16, zu_k (by decide), hs15, zu_k (by decide), hs13, zu_k (by decide), hf10 86 0 1 (by decide), hi1]) dL_asks_101 ?_
          refine zz_iload hx hb hl 1 dL_asks_102 rfl ?_
          refine zz_iadd hx hb dL_asks_104 ?_
          refine zz_iast (y := ((t 30 0 1) + ((y / 36) % 61))) hx hb hK hW16 hS16 (zlN hh) rfl rfl rfl (by show (0 : Int) ≤ (((4 * nr) + 3 : Nat) : Int); omega) (by show (((4 * nr) + 3 : Nat) : Int) < (48 : Int); omega) ⟨by omega, by omega⟩ dL_asks_105 (fun H17 locs17 hW17' hS17 => ?_)
          obtain ⟨σ17, hs17⟩ : ∃ z, z = zu σ16 87 0 ((4 * nr) + 3) ((t 30 0 1) + ((y / 36) % 61)) := ⟨_, rfl⟩
          have hW17 : ZW G ad9 A σ17 H17 := by rw [hs17]; exact hW17'
          refine zz_aload_n hx hb hl 3 dL_asks_106 rfl rfl ?_
          refine zz_iconst hx hb dL_asks_107 ?_
          refine zz_dup2 hx hb dL_asks_108 rfl (zr_cat _ _ _) ?_
          refine zz_iald (w := ((nr : Nat) : Int)) hx hb hK hW17 (zlN hn) rfl rfl rfl (by show (0 : Int) ≤ 0; omega) (by show 0 < (4 : Int); omega) (show σ17 86 0 0 = ((nr : Nat) : Int) from by rw [hs17, zu_k (by decide), hs16, zu_k (by decide), hs15, zu_k (by decide), hs13, zu_k (by decide), hf10 86 0 0 (by decide), hi0]) dL_asks_109 ?_
          refine zz_iconst hx hb dL_asks_110 ?_
          refine zz_iadd hx hb dL_asks_111 ?_
          refine zz_iast (y := ((nr + 1 : Nat) : Int)) hx hb hK hW17 hS17 (zlN hn) rfl rfl rfl (by show (0 : Int) ≤ 0; omega) (by show 0 < (4 : Int); omega) ⟨by omega, by omega⟩ dL_asks_112 (fun H18 locs18 hW18' hS18 => ?_)
          obtain ⟨σ18, hs18⟩ : ∃ z, z = zu σ17 86 0 0 ((nr + 1 : Nat) : Int) := ⟨_, rfl⟩
          have hW18 : ZW G ad9 A σ18 H18 := by rw [hs18]; exact hW18'
          refine zz_iload hx hb hl 0 dL_asks_113 rfl ?_
          refine W.eq (g2 := F0 m 115 ls [.int (zi ((nr : Nat) : Int))]) rfl ?_
          refine zw_widen (k := 8) (n := 54) (show _ ≤ 8 from by omega) (show _ ≤ 54 from by omega) ?_
          refine zn_reti hx hb hr hlocks hW18 hS18 ?_ dL_asks_115
          have e86 : ∀ κ i k, 86 ≤ κ → σ10 κ i k = σ κ i k := hf10
          refine ⟨⟨by omega, by omega, by omega⟩, t2, nr + 1, sl, fun q => absurd (pRf_lo q) (by omega), ⟨pC_hi hCb (fun κ i k h => by rw [hs18, zu_ne (by omega), hs17, zu_ne (by omega), hs16, zu_ne (by omega), hs15, zu_ne (by omega)]), hv9, hE9, hM9⟩, ⟨by omega, by omega⟩, ⟨?_, ?_, ?_, ?_, ?_⟩, fun k hk => ?_, hlo⟩
          · rw [hs18, zu_same]
          · rw [hs18, zu_ne (by omega), hs17, zu_ne (by omega), hs16, zu_ne (by omega), hs15, zu_ne (by omega), hs13, zu_ne (by omega), e86 _ _ _ (by decide)]; exact hi1.trans h91.symm
          · rw [hs18, zu_ne (by omega), hs17, zu_ne (by omega), hs16, zu_ne (by omega), hs15, zu_ne (by omega), hs13, zu_ne (by omega), e86 _ _ _ (by decide)]; exact hi2.trans h92.symm
          · rcases hi3 with z | z
            · exact Or.inl (by rw [hs18, zu_ne (by omega), hs17, zu_ne (by omega), hs16, zu_ne (by omega), hs15, zu_ne (by omega), hs13, zu_ne (by omega), e86 _ _ _ (by decide)]; exact z)
            · exact Or.inr z
          · exact pHm_rq hiH hM9 (fun j hj => by rw [hs18, zu_ne (by omega), hs17, zu_ne (by omega), hs16, zu_ne (by omega), hs15, zu_ne (by omega), hs13, zu_ne (by omega), e86 _ _ _ (by decide)]) (by rw [hs18, zu_ne (by omega), hs17, zu_ne (by omega), hs16, zu_ne (by omega), hs15, zu_ne (by omega), hs13, zu_same]) (by rw [hs18, zu_ne (by omega), hs17, zu_ne (by omega), hs16, zu_ne (by omega), hs15, zu_same]) (by rw [hs18, zu_ne (by omega), hs17, zu_ne (by omega), hs16, zu_same]) (by rw [hs18, zu_ne (by omega), hs17, zu_same]; omega) h649
          · rw [hs18, zu_ne (by omega), hs17, zu_ne (by omega), hs16, zu_ne (by omega), hs15, zu_ne (by omega), hs13, zu_ne (by omega), e86 _ _ _ (by decide)]
  · refine zz_iconst hx hb dL_asks_8 ?_
    refine W.eq (g2 := F0 m 9 ls [.int (zi 0)]) rfl ?_
    refine zw_widen (k := 8) (n := 54) (show _ ≤ 8 from by omega) (show _ ≤ 54 from by omega) ?_
    refine zn_reti hx hb hr hlocks hW0 hS0 ?_ dL_asks_9
    exact pDo_no hin (pDn_5 (by decide) (by decide)) hC hv hPE hc7 (fun _ => rfl) (fun _ => rfl) (fun _ _ => rfl) hi3
