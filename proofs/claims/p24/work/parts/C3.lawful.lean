set_option maxHeartbeats 4000000 in
set_option maxRecDepth 100000 in
theorem c_L_isLawful (l : Launch) (hst : l.stackTraces = false) (G : zG) (ad : zA) (A : Nat → Prop) (N0 : Nat) (σ t : zS) (nd nr ns : Nat) (c : Int) (hC : pC ad σ t nd nr ns c) (hg : ∀ κ i k, zg (σ κ i k)) (hA : ∀ q, N0 ≤ q → A q) (sl : Prop) (hv : pV t sl nd nr) (hPE : pE t nd nr) (hnr12 : nr ≤ 12) (hn : (ad 86 0).isSome = true) (hh : (ad 87 0).isSome = true) (hp9 : (ad 88 0).isSome = true) (hnd : nd = 3) (hn0 : σ 86 0 0 = ((nr : Nat) : Int)) (hn1 : σ 86 0 1 = t 30 0 1) (hn2 : σ 86 0 2 = t 30 0 2) (hn3 : σ 86 0 3 = 1 ∨ ¬ sl) (hH : pHm σ t nr) (hP : ∀ d, d < 3 → σ 88 0 d ≤ ypy t d) : Met l yL_isLawful wsL_isLawful ({ frames := 11, cells := 797, slots := 4782, locals := 326 }) (zPH G ad A N0 σ [zr ad 0 ((0 : Nat) : Int), zr ad 86 ((0 : Nat) : Int), zr ad 87 ((0 : Nat) : Int), zr ad 88 ((0 : Nat) : Int)]) (zQ G ad A zri (fun r u => 1 = r ∧ pC ad u t nd nr ns c ∧ pHe u t nr ∧ (∀ d, d < 3 → u 88 0 d = ypy t d) ∧ ∀ j, u 86 0 j = σ 86 0 j)) 797 4782 A := by
  refine zz_ofH (cc := cL_isLawful) (maxL := 9) (ret := (some .boolean)) (by decide) rfl (by intro v hv; simp only [List.mem_cons, List.not_mem_nil, or_false] at hv; rcases hv with rfl | rfl | rfl | rfl <;> first | rfl | exact zr_cat _ _ _) (Nat.le_of_ble_eq_true rfl) ?_
  intro p e s m below meth c9 hx hb hr hml hts hown hlocks hsz hW0 hK hE hAA hNC ls hl
  have hS0 : va_S A s.heap s.heap [] := va_S.rf
  have hA0 : ∀ q, s.heap.size ≤ q → A q := fun q hq => hA q (Nat.le_trans hsz hq)
  have hl : zh ls 9 [(0, zr ad 0 ((0 : Nat) : Int)), (1, zr ad 86 ((0 : Nat) : Int)), (2, zr ad 87 ((0 : Nat) : Int)), (3, zr ad 88 ((0 : Nat) : Int))] := hl
  have hWF := hC.2.2.2.1
  have h30 := hWF.1.2.2.1
  refine zz_aload_n hx hb hl 0 dL_isLawful_0 rfl rfl ?_
  refine zl_callP (As := [zr (zr8 ad) 0 ((0 : Nat) : Int)]) (rest := []) ⟨hx, hb, hml, hown, hts⟩ (cl_best l hst G (zr8 ad) (zcA (zr8 ad) s.heap.size) s.heap.size σ t nd nr ns c (pC_r8 hC) hW0.2.2.1 ) (vx_cwSW 1 hts gL_isLawful_L_best rfl rfl rfl (by decide +kernel) ⟨Nat.le_of_ble_eq_true rfl, Nat.le_of_ble_eq_true rfl⟩) hK hE hAA hNC hW0 hA0 hS0 rfl hl.1.1 rfl (Nat.le_of_ble_eq_true rfl) dL_isLawful_1 ⟨show _ ≤ 797 from by omega, show _ ≤ 4782 from by omega⟩ (fun x1 u1 H1 locs1 hp1 hW1 hz1 hS1 => ?_)
  obtain ⟨σ1, hs1⟩ : ∃ z, z = zg8 σ u1 := ⟨_, rfl⟩
  have hf1 : ∀ κ i k, 86 ≤ κ → σ1 κ i k = σ κ i k := fun κ i k h => by rw [hs1]; exact zg8_hi h
  rw [← hs1] at hW1
  obtain ⟨hpc1, rfl⟩ := hp1
  have hC1 : pC ad σ1 t nd nr ns c := by rw [hs1]; exact pC_g hpc1
  refine W.eq (g2 := F0 m 4 ls [.int (zi (pBE t nd nr))]) rfl ?_
  refine zz_istore (lv' := [(4, .int (zi (pBE t nd nr))), (0, zr ad 0 ((0 : Nat) : Int)), (1, zr ad 86 ((0 : Nat) : Int)), (2, zr ad 87 ((0 : Nat) : Int)), (3, zr ad 88 ((0 : Nat) : Int))]) hx hb hl dL_isLawful_4 (by decide) rfl (fun ls hl => ?_)
  refine zz_aload_n hx hb hl 1 dL_isLawful_6 rfl rfl ?_
  refine zl_callP (As := [zr (zr8 ad) 0 ((0 : Nat) : Int)]) (rest := []) ⟨hx, hb, hml, hown, hts⟩ (cl_anew l hst G (zr8 ad) (zcA (zr8 ad) H1.size) H1.size σ1 t nd nr ns c (pC_r8 hC1) hW1.2.2.1 ) (vx_cwSW 1 hts gL_isLawful_L_anew rfl rfl rfl (by decide +kernel) ⟨Nat.le_of_ble_eq_true rfl, Nat.le_of_ble_eq_true rfl⟩) hK hE hAA hNC hW1 hA0 hS1 rfl hl.1.1 rfl (Nat.le_of_ble_eq_true rfl) dL_isLawful_7 ⟨show _ ≤ 797 from by omega, show _ ≤ 4782 from by omega⟩ (fun x2 u2 H2 locs2 hp2 hW2 hz2 hS2 => ?_)
  obtain ⟨σ2, hs2⟩ : ∃ z, z = zg8 σ1 u2 := ⟨_, rfl⟩
  have hf2 : ∀ κ i k, 86 ≤ κ → σ2 κ i k = σ1 κ i k := fun κ i k h => by rw [hs2]; exact zg8_hi h
  rw [← hs2] at hW2
  obtain ⟨hpc2, rfl⟩ := hp2
  have hC2 : pC ad σ2 t nd nr ns c := by rw [hs2]; exact pC_g hpc2
  refine W.eq (g2 := F0 m 10 ls [.int (zi (pBE t nd nr))]) rfl ?_
  refine zz_iload hx hb hl 0 dL_isLawful_10 rfl ?_
  refine zz_icmp_ne (tgt := 19) hx hb dL_isLawful_12 (by decide) (pBE_g hC) (pBE_g hC) (fun hc12 => ?_) (fun hc12 => ?_)
  · exfalso; exact hc12 rfl
  · refine zz_iconst hx hb dL_isLawful_15 ?_
    refine zz_goto (tgt := 20) hx hb dL_isLawful_16 (by decide) ?_
    refine zz_istore (lv' := [(5, .int (zi 1)), (4, .int (zi (pBE t nd nr))), (0, zr ad 0 ((0 : Nat) : Int)), (1, zr ad 86 ((0 : Nat) : Int)), (2, zr ad 87 ((0 : Nat) : Int)), (3, zr ad 88 ((0 : Nat) : Int))]) hx hb hl dL_isLawful_20 (by decide) rfl (fun ls hl => ?_)
    refine zz_iconst hx hb dL_isLawful_22 ?_
    refine zz_istore (lv' := [(6, .int (zi 0)), (5, .int (zi 1)), (4, .int (zi (pBE t nd nr))), (0, zr ad 0 ((0 : Nat) : Int)), (1, zr ad 86 ((0 : Nat) : Int)), (2, zr ad 87 ((0 : Nat) : Int)), (3, zr ad 88 ((0 : Nat) : Int))]) hx hb hl dL_isLawful_23 (by decide) rfl (fun ls hl => ?_)
    have hcut25 : ∀ (n9 : Nat) (k : Nat)  (σ9 : zS) (H9 : Heap) (locs9 : List Loc) (ls : Array Slot), (k ≤ nr ∧ pC ad σ9 t nd nr ns c ∧ (∀ κ i j, 86 ≤ κ → κ ≠ 87 → σ9 κ i j = σ κ i j) ∧ (∀ q, q < k → pH2 σ9 t q) ∧ (∀ q, k ≤ q → q < nr → pH1 σ9 t q)) → (nr - k) < n9 → ZW G ad A σ9 H9 → va_S A s.heap H9 locs9 → zh ls 9 [(0, zr ad 0 ((0 : Nat) : Int)), (1, zr ad 86 ((0 : Nat) : Int)), (2, zr ad 87 ((0 : Nat) : Int)), (3, zr ad 88 ((0 : Nat) : Int)), (4, .int (zi (pBE t nd nr))), (5, .int (zi 1)), (6, .int (zi ((k : Nat) : Int)))] → W p l e ({ frames := 11, cells := 797, slots := 4782, locals := 326 }) s m ([zr ad 0 ((0 : Nat) : Int), zr ad 86 ((0 : Nat) : Int), zr ad 87 ((0 : Nat) : Int), zr ad 88 ((0 : Nat) : Int)] : List Value).toArray below meth c9 H9 locs9 (2 + 14 * k) (12 + 84 * k) (MQ below (zQ G ad A zri (fun r u => 1 = r ∧ pC ad u t nd nr ns c ∧ pHe u t nr ∧ (∀ d, d < 3 → u 88 0 d = ypy t d) ∧ ∀ j, u 86 0 j = σ 86 0 j)) ([zr ad 0 ((0 : Nat) : Int), zr ad 86 ((0 : Nat) : Int), zr ad 87 ((0 : Nat) : Int), zr ad 88 ((0 : Nat) : Int)] : List Value).toArray s 797 4782 A) (F0 m 25 ls []) := by
      intro n9
      induction n9 with
      | zero =>
        intro k σ3 H3 locs3 ls hI25 hm25 hW3 hS3 hl
        exact absurd hm25 (Nat.not_lt_zero _)
      | succ n9 ih25 =>
        intro k σ3 H3 locs3 ls hI25 hm25 hW3 hS3 hl
        obtain ⟨hi1, hCk, hi3, hi4, hi5⟩ := hI25
        have hs0 : σ3 86 0 0 = ((nr : Nat) : Int) := by rw [hi3 86 0 0 (by decide) (by decide)]; exact hn0
        have hs1 : σ3 86 0 1 = t 30 0 1 := by rw [hi3 86 0 1 (by decide) (by decide)]; exact hn1
        have hs3 : σ3 86 0 3 = σ 86 0 3 := hi3 86 0 3 (by decide) (by decide)
        refine zz_iload hx hb hl 6 dL_isLawful_25 rfl ?_
        refine zz_aload_n hx hb hl 1 dL_isLawful_27 rfl rfl ?_
        refine zz_iconst hx hb dL_isLawful_28 ?_
        refine zz_iald (w := ((nr : Nat) : Int)) hx hb hK hW3 (zlN hn) rfl rfl rfl (by show (0 : Int) ≤ 0; omega) (by show 0 < (4 : Int); omega) (show σ3 86 0 0 = ((nr : Nat) : Int) from by rw [hs0]) dL_isLawful_29 ?_
        refine zz_icmp_ge (tgt := 246) hx hb dL_isLawful_30 (by decide) ⟨by omega, by omega⟩ ⟨by omega, by omega⟩ (fun hc30 => ?_) (fun hc30 => ?_)
        · have hknr : k = nr := by omega
          have hall : pHe σ3 t nr := fun q hq => hi4 q (by omega)
          refine zz_iconst hx hb dL_isLawful_246 ?_
          refine zz_istore (lv' := [(6, .int (zi 0)), (0, zr ad 0 ((0 : Nat) : Int)), (1, zr ad 86 ((0 : Nat) : Int)), (2, zr ad 87 ((0 : Nat) : Int)), (3, zr ad 88 ((0 : Nat) : Int)), (4, .int (zi (pBE t nd nr))), (5, .int (zi 1))]) hx hb hl dL_isLawful_247 (by decide) rfl (fun ls hl => ?_)
          have hcut249 : ∀ (n9 : Nat) (i3 : Nat)  (σ9 : zS) (H9 : Heap) (locs9 : List Loc) (ls : Array Slot), (i3 ≤ 3 ∧ pC ad σ9 t nd nr ns c ∧ (∀ κ i j, κ = 86 ∨ κ = 87 → σ9 κ i j = σ3 κ i j) ∧ ∀ d, d < 3 → σ9 88 0 d = if d < i3 then ypy t d else σ 88 0 d) → (3 - i3) < n9 → ZW G ad A σ9 H9 → va_S A s.heap H9 locs9 → zh ls 9 [(0, zr ad 0 ((0 : Nat) : Int)), (1, zr ad 86 ((0 : Nat) : Int)), (2, zr ad 87 ((0 : Nat) : Int)), (3, zr ad 88 ((0 : Nat) : Int)), (5, .int (zi 1)), (6, .int (zi ((i3 : Nat) : Int)))] → W p l e ({ frames := 11, cells := 797, slots := 4782, locals := 326 }) s m ([zr ad 0 ((0 : Nat) : Int), zr ad 86 ((0 : Nat) : Int), zr ad 87 ((0 : Nat) : Int), zr ad 88 ((0 : Nat) : Int)] : List Value).toArray below meth c9 H9 locs9 (170 + 65 * i3) (1020 + 390 * i3) (MQ below (zQ G ad A zri (fun r u => 1 = r ∧ pC ad u t nd nr ns c ∧ pHe u t nr ∧ (∀ d, d < 3 → u 88 0 d = ypy t d) ∧ ∀ j, u 86 0 j = σ 86 0 j)) ([zr ad 0 ((0 : Nat) : Int), zr ad 86 ((0 : Nat) : Int), zr ad 87 ((0 : Nat) : Int), zr ad 88 ((0 : Nat) : Int)] : List Value).toArray s 797 4782 A) (F0 m 249 ls []) := by
            intro n9
            induction n9 with
            | zero =>
              intro i3 σ4 H4 locs4 ls hI249 hm249 hW4 hS4 hl
              exact absurd hm249 (Nat.not_lt_zero _)
            | succ n9 ih249 =>
              intro i3 σ4 H4 locs4 ls hI249 hm249 hW4 hS4 hl
              obtain ⟨hj1, hCk, hj3, hj4⟩ := hI249
              have hs1 : σ4 86 0 1 = t 30 0 1 := by rw [hj3 86 0 1 (by decide), hi3 86 0 1 (by decide) (by decide)]; exact hn1
              have hs2 : σ4 86 0 2 = t 30 0 2 := by rw [hj3 86 0 2 (by decide), hi3 86 0 2 (by decide) (by decide)]; exact hn2
              refine zz_iload hx hb hl 5 dL_isLawful_249 rfl ?_
              refine zz_iconst hx hb dL_isLawful_251 ?_
              have hht := pHT_rg hWF ((i3 : Nat) : Int)
              have hcap := hWF.1.2.2.2.1
              have hg302 : zg (t 30 0 2) := ⟨by omega, by omega⟩
              refine zz_icmp_ge (tgt := 307) hx hb dL_isLawful_252 (by decide) ⟨by omega, by omega⟩ ⟨by decide, by decide⟩ (fun hc252 => ?_) (fun hc252 => ?_)
              · have hi33 : i3 = 3 := by omega
                refine zz_iconst hx hb dL_isLawful_307 ?_
                refine zz_istore (lv' := [(6, .int (zi 0)), (0, zr ad 0 ((0 : Nat) : Int)), (1, zr ad 86 ((0 : Nat) : Int)), (2, zr ad 87 ((0 : Nat) : Int)), (3, zr ad 88 ((0 : Nat) : Int)), (5, .int (zi 1))]) hx hb hl dL_isLawful_308 (by decide) rfl (fun ls hl => ?_)
                have hcut310 : ∀ (n9 : Nat) (i6 : Nat)  (H9 : Heap) (locs9 : List Loc) (ls : Array Slot), (i6 ≤ 36) → (36 - i6) < n9 → ZW G ad A σ4 H9 → va_S A s.heap H9 locs9 → zh ls 9 [(0, zr ad 0 ((0 : Nat) : Int)), (1, zr ad 86 ((0 : Nat) : Int)), (2, zr ad 87 ((0 : Nat) : Int)), (3, zr ad 88 ((0 : Nat) : Int)), (5, .int (zi 1)), (6, .int (zi ((i6 : Nat) : Int)))] → W p l e ({ frames := 11, cells := 797, slots := 4782, locals := 326 }) s m ([zr ad 0 ((0 : Nat) : Int), zr ad 86 ((0 : Nat) : Int), zr ad 87 ((0 : Nat) : Int), zr ad 88 ((0 : Nat) : Int)] : List Value).toArray below meth c9 H9 locs9 (365 + 12 * i6) (2190 + 72 * i6) (MQ below (zQ G ad A zri (fun r u => 1 = r ∧ pC ad u t nd nr ns c ∧ pHe u t nr ∧ (∀ d, d < 3 → u 88 0 d = ypy t d) ∧ ∀ j, u 86 0 j = σ 86 0 j)) ([zr ad 0 ((0 : Nat) : Int), zr ad 86 ((0 : Nat) : Int), zr ad 87 ((0 : Nat) : Int), zr ad 88 ((0 : Nat) : Int)] : List Value).toArray s 797 4782 A) (F0 m 310 ls []) := by
                  intro n9
                  induction n9 with
                  | zero =>
                    intro i6 H5 locs5 ls hI310 hm310 hW5 hS5 hl
                    exact absurd hm310 (Nat.not_lt_zero _)
                  | succ n9 ih310 =>
                    intro i6 H5 locs5 ls hI310 hm310 hW5 hS5 hl
                    have hm1 := hI310
                    refine zz_iload hx hb hl 5 dL_isLawful_310 rfl ?_
                    refine zz_bipush hx hb dL_isLawful_312 (by decide +kernel) ?_
                    refine zz_icmp_ge (tgt := 473) hx hb dL_isLawful_314 (by decide) ⟨by omega, by omega⟩ ⟨by decide, by decide⟩ (fun hc314 => ?_) (fun hc314 => ?_)
                    · refine zz_iload hx hb hl 4 dL_isLawful_473 rfl ?_
                      refine W.eq (g2 := F0 m 475 ls [.int (zi 1)]) rfl ?_
                      refine zw_widen (k := 797) (n := 4782) (show _ ≤ 797 from by omega) (show _ ≤ 4782 from by omega) ?_
                      refine zz_retz hx hb hr hlocks hW5 hS5 (by decide) ?_ dL_isLawful_475
                      exact ⟨rfl, hCk, fun q hq => pH2_cg (hall q hq) (fun j _ => hj3 87 0 _ (by decide)), fun d hd => by rw [hj4 d hd, if_pos (by omega)], fun j => by rw [hj3 86 0 j (by decide)]; exact hi3 86 0 j (by decide) (by decide)⟩
                    · have ha6 : 0 ≤ ((i6 : Nat) : Int) / 6 ∧ ((i6 : Nat) : Int) / 6 ≤ 9 := ⟨by omega, by omega⟩
                      have hb6 : 0 ≤ ((i6 : Nat) : Int) % 6 ∧ ((i6 : Nat) : Int) % 6 ≤ 9 := ⟨by omega, by omega⟩
                      have hm5 : 0 ≤ (((i6 : Nat) : Int) + t 30 0 1) % 5 ∧ (((i6 : Nat) : Int) + t 30 0 1) % 5 ≤ 9 := ⟨by omega, by omega⟩
                      have ws := pWY_sym hWF ha6 hb6
                      have wt := pWY_tri hWF ha6 hm5 hb6
                      have wz : ((i6 : Nat) : Int) / 6 = ((i6 : Nat) : Int) % 6 → pWY t (((i6 : Nat) : Int) / 6) (((i6 : Nat) : Int) % 6) = 0 := fun e => by rw [e]; exact pWY_self hWF hb6
                      have wr1 := pWY_rg hWF (((i6 : Nat) : Int) / 6) ((((i6 : Nat) : Int) + t 30 0 1) % 5)
                      have wr2 := pWY_rg hWF ((((i6 : Nat) : Int) + t 30 0 1) % 5) (((i6 : Nat) : Int) % 6)
                      refine zz_iload hx hb hl 4 dL_isLawful_317 rfl ?_
                      refine zz_if_eq (tgt := 473) hx hb dL_isLawful_319 (by decide) ⟨by decide, by decide⟩ (fun hc319 => ?_) (fun hc319 => ?_)
                      · exfalso; exact absurd hc319 (by decide)
                      · refine zz_aload_n hx hb hl 0 dL_isLawful_322 rfl rfl ?_
                        refine zz_iload hx hb hl 5 dL_isLawful_323 rfl ?_
                        refine zz_bipush hx hb dL_isLawful_325 (by decide +kernel) ?_
                        refine zz_idiv hx hb dL_isLawful_327 ⟨by omega, by omega⟩ ⟨by decide, by decide⟩ (by omega) (by omega) ?_
                        refine zz_iload hx hb hl 5 dL_isLawful_328 rfl ?_
                        refine zz_bipush hx hb dL_isLawful_330 (by decide +kernel) ?_
                        refine zz_irem hx hb dL_isLawful_332 ⟨by omega, by omega⟩ ⟨by decide, by decide⟩ (by omega) (by omega) ?_
                        refine zl_callP (As := [zr (zr8 ad) 0 ((0 : Nat) : Int), .int (zi (((i6 : Nat) : Int) / 6)), .int (zi (((i6 : Nat) : Int) % 6))]) (rest := []) ⟨hx, hb, hml, hown, hts⟩ (cl_way l hst G (zr8 ad) (zcA (zr8 ad) H5.size) H5.size σ4 t nd nr ns c (pC_r8 hCk) hW5.2.2.1 (((i6 : Nat) : Int) / 6) (((i6 : Nat) : Int) % 6) ⟨by omega, by omega⟩ ⟨by omega, by omega⟩) (vx_cwSW 3 hts gL_isLawful_L_way rfl rfl rfl (by decide +kernel) ⟨Nat.le_of_ble_eq_true rfl, Nat.le_of_ble_eq_true rfl⟩) hK hE hAA hNC hW5 hA0 hS5 rfl hl.1.1 rfl (Nat.le_of_ble_eq_true rfl) dL_isLawful_333 ⟨show _ ≤ 797 from by omega, show _ ≤ 4782 from by omega⟩ (fun x6 u6 H6 locs6 hp6 hW6 hz6 hS6 => ?_)
                        obtain ⟨rfl, rfl⟩ := hp6
                        rw [zg8_self] at hW6
                        refine W.eq (g2 := F0 m 336 ls [.int (zi (pWY t (((i6 : Nat) : Int) / 6) (((i6 : Nat) : Int) % 6)))]) rfl ?_
                        refine zz_istore (lv' := [(7, .int (zi (pWY t (((i6 : Nat) : Int) / 6) (((i6 : Nat) : Int) % 6)))), (0, zr ad 0 ((0 : Nat) : Int)), (1, zr ad 86 ((0 : Nat) : Int)), (2, zr ad 87 ((0 : Nat) : Int)), (3, zr ad 88 ((0 : Nat) : Int)), (5, .int (zi 1)), (6, .int (zi ((i6 : Nat) : Int)))]) hx hb hl dL_isLawful_336 (by decide) rfl (fun ls hl => ?_)
                        refine zz_iload hx hb hl 0 dL_isLawful_338 rfl ?_
                        refine zz_aload_n hx hb hl 1 dL_isLawful_340 rfl rfl ?_
                        refine zz_iload hx hb hl 6 dL_isLawful_341 rfl ?_
                        refine zz_bipush hx hb dL_isLawful_343 (by decide +kernel) ?_
                        refine zz_irem hx hb dL_isLawful_345 ⟨by omega, by omega⟩ ⟨by decide, by decide⟩ (by omega) (by omega) ?_
                        refine zz_iload hx hb hl 6 dL_isLawful_346 rfl ?_
                        refine zz_bipush hx hb dL_isLawful_348 (by decide +kernel) ?_
                        refine zz_idiv hx hb dL_isLawful_350 ⟨by omega, by omega⟩ ⟨by decide, by decide⟩ (by omega) (by omega) ?_
                        refine zl_callP (As := [zr (zr8 ad) 0 ((0 : Nat) : Int), .int (zi (((i6 : Nat) : Int) % 6)), .int (zi (((i6 : Nat) : Int) / 6))]) (rest := [.int (zi (pWY t (((i6 : Nat) : Int) / 6) (((i6 : Nat) : Int) % 6)))]) ⟨hx, hb, hml, hown, hts⟩ (cl_way l hst G (zr8 ad) (zcA (zr8 ad) H6.size) H6.size σ4 t nd nr ns c (pC_r8 hCk) hW6.2.2.1 (((i6 : Nat) : Int) % 6) (((i6 : Nat) : Int) / 6) ⟨by omega, by omega⟩ ⟨by omega, by omega⟩) (vx_cwSW 3 hts gL_isLawful_L_way rfl rfl rfl (by decide +kernel) ⟨Nat.le_of_ble_eq_true rfl, Nat.le_of_ble_eq_true rfl⟩) hK hE hAA hNC hW6 hA0 hS6 rfl hl.1.1 rfl (by simp only [List.map, zr_cat, zcat_i]; decide) dL_isLawful_351 ⟨show _ ≤ 797 from by omega, show _ ≤ 4782 from by omega⟩ (fun x7 u7 H7 locs7 hp7 hW7 hz7 hS7 => ?_)
                        obtain ⟨rfl, rfl⟩ := hp7
                        rw [zg8_self] at hW7
                        refine W.eq (g2 := F0 m 354 ls [.int (zi (pWY t (((i6 : Nat) : Int) % 6) (((i6 : Nat) : Int) / 6))), .int (zi (pWY t (((i6 : Nat) : Int) / 6) (((i6 : Nat) : Int) % 6)))]) rfl ?_
                        refine zz_icmp_ne (tgt := 464) hx hb dL_isLawful_354 (by decide) (pWY_g hCk _ _) (pWY_g hCk _ _) (fun hc354 => ?_) (fun hc354 => ?_)
                        · exfalso; omega
                        · refine zz_iload hx hb hl 6 dL_isLawful_357 rfl ?_
                          refine zz_bipush hx hb dL_isLawful_359 (by decide +kernel) ?_
                          refine zz_idiv hx hb dL_isLawful_361 ⟨by omega, by omega⟩ ⟨by decide, by decide⟩ (by omega) (by omega) ?_
                          refine zz_iload hx hb hl 6 dL_isLawful_362 rfl ?_
                          refine zz_bipush hx hb dL_isLawful_364 (by decide +kernel) ?_
                          refine zz_irem hx hb dL_isLawful_366 ⟨by omega, by omega⟩ ⟨by decide, by decide⟩ (by omega) (by omega) ?_
                          refine zz_icmp_ne (tgt := 375) hx hb dL_isLawful_367 (by decide) ⟨by omega, by omega⟩ ⟨by omega, by omega⟩ (fun hc367 => ?_) (fun hc367 => ?_)
                          · refine zz_aload_n hx hb hl 1 dL_isLawful_375 rfl rfl ?_
                            refine zz_iload hx hb hl 6 dL_isLawful_376 rfl ?_
                            refine zz_bipush hx hb dL_isLawful_378 (by decide +kernel) ?_
                            refine zz_idiv hx hb dL_isLawful_380 ⟨by omega, by omega⟩ ⟨by decide, by decide⟩ (by omega) (by omega) ?_
                            refine zz_iload hx hb hl 6 dL_isLawful_381 rfl ?_
                            refine zz_aload_n hx hb hl 2 dL_isLawful_383 rfl rfl ?_
                            refine zz_iconst hx hb dL_isLawful_384 ?_
                            refine zz_iald (w := t 30 0 1) hx hb hK hW7 (zlN hn) rfl rfl rfl (by show (0 : Int) ≤ 1; omega) (by show 1 < (4 : Int); omega) (show σ4 86 0 1 = t 30 0 1 from by rw [hs1]) dL_isLawful_385 ?_
                            refine zz_iadd hx hb dL_isLawful_386 ?_
                            refine zz_iconst hx hb dL_isLawful_387 ?_
                            refine zz_irem hx hb dL_isLawful_388 ⟨by omega, by omega⟩ ⟨by decide, by decide⟩ (by omega) (by omega) ?_
                            refine zl_callP (As := [zr (zr8 ad) 0 ((0 : Nat) : Int), .int (zi (((i6 : Nat) : Int) / 6)), .int (zi ((((i6 : Nat) : Int) + (t 30 0 1)) % 5))]) (rest := []) ⟨hx, hb, hml, hown, hts⟩ (cl_way l hst G (zr8 ad) (zcA (zr8 ad) H7.size) H7.size σ4 t nd nr ns c (pC_r8 hCk) hW7.2.2.1 (((i6 : Nat) : Int) / 6) ((((i6 : Nat) : Int) + (t 30 0 1)) % 5) ⟨by omega, by omega⟩ ⟨by omega, by omega⟩) (vx_cwSW 3 hts gL_isLawful_L_way rfl rfl rfl (by decide +kernel) ⟨Nat.le_of_ble_eq_true rfl, Nat.le_of_ble_eq_true rfl⟩) hK hE hAA hNC hW7 hA0 hS7 rfl hl.1.1 rfl (Nat.le_of_ble_eq_true rfl) dL_isLawful_389 ⟨show _ ≤ 797 from by omega, show _ ≤ 4782 from by omega⟩ (fun x8 u8 H8 locs8 hp8 hW8 hz8 hS8 => ?_)
                            obtain ⟨rfl, rfl⟩ := hp8
                            rw [zg8_self] at hW8
                            refine W.eq (g2 := F0 m 392 ls [.int (zi (pWY t (((i6 : Nat) : Int) / 6) ((((i6 : Nat) : Int) + (t 30 0 1)) % 5)))]) rfl ?_
                            refine zz_if_lt (tgt := 460) hx hb dL_isLawful_392 (by decide) (pWY_g hCk _ _) (fun hc392 => ?_) (fun hc392 => ?_)
                            · refine zz_iconst hx hb dL_isLawful_460 ?_
                              refine zz_goto (tgt := 465) hx hb dL_isLawful_461 (by decide) ?_
                              refine zz_istore (lv' := [(5, .int (zi 1)), (7, .int (zi (pWY t (((i6 : Nat) : Int) / 6) (((i6 : Nat) : Int) % 6)))), (0, zr ad 0 ((0 : Nat) : Int)), (1, zr ad 86 ((0 : Nat) : Int)), (2, zr ad 87 ((0 : Nat) : Int)), (3, zr ad 88 ((0 : Nat) : Int)), (6, .int (zi ((i6 : Nat) : Int)))]) hx hb hl dL_isLawful_465 (by decide) rfl (fun ls hl => ?_)
                              refine zz_iinc (lv' := [(6, .int (zi ((i6 + 1 : Nat) : Int))), (5, .int (zi 1)), (7, .int (zi (pWY t (((i6 : Nat) : Int) / 6) (((i6 : Nat) : Int) % 6)))), (0, zr ad 0 ((0 : Nat) : Int)), (1, zr ad 86 ((0 : Nat) : Int)), (2, zr ad 87 ((0 : Nat) : Int)), (3, zr ad 88 ((0 : Nat) : Int))]) hx hb hl dL_isLawful_467 (k0 := 6) rfl (by decide) rfl (fun ls hl => ?_)
                              refine zz_goto (tgt := 310) hx hb dL_isLawful_470 (by decide) ?_
                              refine zw_widen (k := (365 + 12 * (i6 + 1))) (n := (2190 + 72 * (i6 + 1))) (show _ ≤ _ from by omega) (show _ ≤ _ from by omega) ?_
                              refine ih310 (i6 + 1) H8 locs8 ls ?_ (by omega) hW8 hS8 (zh_sub hl [3, 4, 5, 6, 1, 0] rfl)
                              omega
                            · refine zz_aload_n hx hb hl 1 dL_isLawful_395 rfl rfl ?_
                              refine zz_iload hx hb hl 6 dL_isLawful_396 rfl ?_
                              refine zz_aload_n hx hb hl 2 dL_isLawful_398 rfl rfl ?_
                              refine zz_iconst hx hb dL_isLawful_399 ?_
                              refine zz_iald (w := t 30 0 1) hx hb hK hW8 (zlN hn) rfl rfl rfl (by show (0 : Int) ≤ 1; omega) (by show 1 < (4 : Int); omega) (show σ4 86 0 1 = t 30 0 1 from by rw [hs1]) dL_isLawful_400 ?_
                              refine zz_iadd hx hb dL_isLawful_401 ?_
                              refine zz_iconst hx hb dL_isLawful_402 ?_
                              refine zz_irem hx hb dL_isLawful_403 ⟨by omega, by omega⟩ ⟨by decide, by decide⟩ (by omega) (by omega) ?_
                              refine zz_iload hx hb hl 6 dL_isLawful_404 rfl ?_
                              refine zz_bipush hx hb dL_isLawful_406 (by decide +kernel) ?_
                              refine zz_irem hx hb dL_isLawful_408 ⟨by omega, by omega⟩ ⟨by decide, by decide⟩ (by omega) (by omega) ?_
                              refine zl_callP (As := [zr (zr8 ad) 0 ((0 : Nat) : Int), .int (zi ((((i6 : Nat) : Int) + (t 30 0 1)) % 5)), .int (zi (((i6 : Nat) : Int) % 6))]) (rest := []) ⟨hx, hb, hml, hown, hts⟩ (cl_way l hst G (zr8 ad) (zcA (zr8 ad) H8.size) H8.size σ4 t nd nr ns c (pC_r8 hCk) hW8.2.2.1 ((((i6 : Nat) : Int) + (t 30 0 1)) % 5) (((i6 : Nat) : Int) % 6) ⟨by omega, by omega⟩ ⟨by omega, by omega⟩) (vx_cwSW 3 hts gL_isLawful_L_way rfl rfl rfl (by decide +kernel) ⟨Nat.le_of_ble_eq_true rfl, Nat.le_of_ble_eq_true rfl⟩) hK hE hAA hNC hW8 hA0 hS8 rfl hl.1.1 rfl (Nat.le_of_ble_eq_true rfl) dL_isLawful_409 ⟨show _ ≤ 797 from by omega, show _ ≤ 4782 from by omega⟩ (fun x9 u9 H9 locs9 hp9 hW9 hz9 hS9 => ?_)
                              obtain ⟨rfl, rfl⟩ := hp9
                              rw [zg8_self] at hW9
                              refine W.eq (g2 := F0 m 412 ls [.int (zi (pWY t ((((i6 : Nat) : Int) + (t 30 0 1)) % 5) (((i6 : Nat) : Int) % 6)))]) rfl ?_
                              refine zz_if_lt (tgt := 460) hx hb dL_isLawful_412 (by decide) (pWY_g hCk _ _) (fun hc412 => ?_) (fun hc412 => ?_)
                              · refine zz_iconst hx hb dL_isLawful_460 ?_
                                refine zz_goto (tgt := 465) hx hb dL_isLawful_461 (by decide) ?_
                                refine zz_istore (lv' := [(5, .int (zi 1)), (7, .int (zi (pWY t (((i6 : Nat) : Int) / 6) (((i6 : Nat) : Int) % 6)))), (0, zr ad 0 ((0 : Nat) : Int)), (1, zr ad 86 ((0 : Nat) : Int)), (2, zr ad 87 ((0 : Nat) : Int)), (3, zr ad 88 ((0 : Nat) : Int)), (6, .int (zi ((i6 : Nat) : Int)))]) hx hb hl dL_isLawful_465 (by decide) rfl (fun ls hl => ?_)
                                refine zz_iinc (lv' := [(6, .int (zi ((i6 + 1 : Nat) : Int))), (5, .int (zi 1)), (7, .int (zi (pWY t (((i6 : Nat) : Int) / 6) (((i6 : Nat) : Int) % 6)))), (0, zr ad 0 ((0 : Nat) : Int)), (1, zr ad 86 ((0 : Nat) : Int)), (2, zr ad 87 ((0 : Nat) : Int)), (3, zr ad 88 ((0 : Nat) : Int))]) hx hb hl dL_isLawful_467 (k0 := 6) rfl (by decide) rfl (fun ls hl => ?_)
                                refine zz_goto (tgt := 310) hx hb dL_isLawful_470 (by decide) ?_
                                refine zw_widen (k := (365 + 12 * (i6 + 1))) (n := (2190 + 72 * (i6 + 1))) (show _ ≤ _ from by omega) (show _ ≤ _ from by omega) ?_
                                refine ih310 (i6 + 1) H9 locs9 ls ?_ (by omega) hW9 hS9 (zh_sub hl [3, 4, 5, 6, 1, 0] rfl)
                                omega
                              · refine zz_iload hx hb hl 0 dL_isLawful_415 rfl ?_
                                refine zz_if_lt (tgt := 464) hx hb dL_isLawful_417 (by decide) (pWY_g hCk _ _) (fun hc417 => ?_) (fun hc417 => ?_)
                                · exfalso; have z9 := wt (by omega) (by omega); omega
                                · refine zz_iload hx hb hl 0 dL_isLawful_420 rfl ?_
                                  refine zz_aload_n hx hb hl 1 dL_isLawful_422 rfl rfl ?_
                                  refine zz_iload hx hb hl 6 dL_isLawful_423 rfl ?_
                                  refine zz_bipush hx hb dL_isLawful_425 (by decide +kernel) ?_
                                  refine zz_idiv hx hb dL_isLawful_427 ⟨by omega, by omega⟩ ⟨by decide, by decide⟩ (by omega) (by omega) ?_
                                  refine zz_iload hx hb hl 6 dL_isLawful_428 rfl ?_
                                  refine zz_aload_n hx hb hl 2 dL_isLawful_430 rfl rfl ?_
                                  refine zz_iconst hx hb dL_isLawful_431 ?_
                                  refine zz_iald (w := t 30 0 1) hx hb hK hW9 (zlN hn) rfl rfl rfl (by show (0 : Int) ≤ 1; omega) (by show 1 < (4 : Int); omega) (show σ4 86 0 1 = t 30 0 1 from by rw [hs1]) dL_isLawful_432 ?_
                                  refine zz_iadd hx hb dL_isLawful_433 ?_
                                  refine zz_iconst hx hb dL_isLawful_434 ?_
                                  refine zz_irem hx hb dL_isLawful_435 ⟨by omega, by omega⟩ ⟨by decide, by decide⟩ (by omega) (by omega) ?_
                                  refine zl_callP (As := [zr (zr8 ad) 0 ((0 : Nat) : Int), .int (zi (((i6 : Nat) : Int) / 6)), .int (zi ((((i6 : Nat) : Int) + (t 30 0 1)) % 5))]) (rest := [.int (zi (pWY t (((i6 : Nat) : Int) / 6) (((i6 : Nat) : Int) % 6)))]) ⟨hx, hb, hml, hown, hts⟩ (cl_way l hst G (zr8 ad) (zcA (zr8 ad) H9.size) H9.size σ4 t nd nr ns c (pC_r8 hCk) hW9.2.2.1 (((i6 : Nat) : Int) / 6) ((((i6 : Nat) : Int) + (t 30 0 1)) % 5) ⟨by omega, by omega⟩ ⟨by omega, by omega⟩) (vx_cwSW 3 hts gL_isLawful_L_way rfl rfl rfl (by decide +kernel) ⟨Nat.le_of_ble_eq_true rfl, Nat.le_of_ble_eq_true rfl⟩) hK hE hAA hNC hW9 hA0 hS9 rfl hl.1.1 rfl (by simp only [List.map, zr_cat, zcat_i]; decide) dL_isLawful_436 ⟨show _ ≤ 797 from by omega, show _ ≤ 4782 from by omega⟩ (fun x10 u10 H10 locs10 hp10 hW10 hz10 hS10 => ?_)
                                  obtain ⟨rfl, rfl⟩ := hp10
                                  rw [zg8_self] at hW10
                                  refine W.eq (g2 := F0 m 439 ls [.int (zi (pWY t (((i6 : Nat) : Int) / 6) ((((i6 : Nat) : Int) + (t 30 0 1)) % 5))), .int (zi (pWY t (((i6 : Nat) : Int) / 6) (((i6 : Nat) : Int) % 6)))]) rfl ?_
                                  refine zz_aload_n hx hb hl 1 dL_isLawful_439 rfl rfl ?_
                                  refine zz_iload hx hb hl 6 dL_isLawful_440 rfl ?_
                                  refine zz_aload_n hx hb hl 2 dL_isLawful_442 rfl rfl ?_
                                  refine zz_iconst hx hb dL_isLawful_443 ?_
                                  refine zz_iald (w := t 30 0 1) hx hb hK hW10 (zlN hn) rfl rfl rfl (by show (0 : Int) ≤ 1; omega) (by show 1 < (4 : Int); omega) (show σ4 86 0 1 = t 30 0 1 from by rw [hs1]) dL_isLawful_444 ?_
                                  refine zz_iadd hx hb dL_isLawful_445 ?_
                                  refine zz_iconst hx hb dL_isLawful_446 ?_
                                  refine zz_irem hx hb dL_isLawful_447 ⟨by omega, by omega⟩ ⟨by decide, by decide⟩ (by omega) (by omega) ?_
                                  refine zz_iload hx hb hl 6 dL_isLawful_448 rfl ?_
                                  refine zz_bipush hx hb dL_isLawful_450 (by decide +kernel) ?_
                                  refine zz_irem hx hb dL_isLawful_452 ⟨by omega, by omega⟩ ⟨by decide, by decide⟩ (by omega) (by omega) ?_
                                  refine zl_callP (As := [zr (zr8 ad) 0 ((0 : Nat) : Int), .int (zi ((((i6 : Nat) : Int) + (t 30 0 1)) % 5)), .int (zi (((i6 : Nat) : Int) % 6))]) (rest := [.int (zi (pWY t (((i6 : Nat) : Int) / 6) ((((i6 : Nat) : Int) + (t 30 0 1)) % 5))), .int (zi (pWY t (((i6 : Nat) : Int) / 6) (((i6 : Nat) : Int) % 6)))]) ⟨hx, hb, hml, hown, hts⟩ (cl_way l hst G (zr8 ad) (zcA (zr8 ad) H10.size) H10.size σ4 t nd nr ns c (pC_r8 hCk) hW10.2.2.1 ((((i6 : Nat) : Int) + (t 30 0 1)) % 5) (((i6 : Nat) : Int) % 6) ⟨by omega, by omega⟩ ⟨by omega, by omega⟩) (vx_cwSW 3 hts gL_isLawful_L_way rfl rfl rfl (by decide +kernel) ⟨Nat.le_of_ble_eq_true rfl, Nat.le_of_ble_eq_true rfl⟩) hK hE hAA hNC hW10 hA0 hS10 rfl hl.1.1 rfl (by simp only [List.map, zr_cat, zcat_i]; decide) dL_isLawful_453 ⟨show _ ≤ 797 from by omega, show _ ≤ 4782 from by omega⟩ (fun x11 u11 H11 locs11 hp11 hW11 hz11 hS11 => ?_)
                                  obtain ⟨rfl, rfl⟩ := hp11
                                  rw [zg8_self] at hW11
                                  refine W.eq (g2 := F0 m 456 ls [.int (zi (pWY t ((((i6 : Nat) : Int) + (t 30 0 1)) % 5) (((i6 : Nat) : Int) % 6))), .int (zi (pWY t (((i6 : Nat) : Int) / 6) ((((i6 : Nat) : Int) + (t 30 0 1)) % 5))), .int (zi (pWY t (((i6 : Nat) : Int) / 6) (((i6 : Nat) : Int) % 6)))]) rfl ?_
                                  refine zz_iadd hx hb dL_isLawful_456 ?_
                                  refine zz_icmp_gt (tgt := 464) hx hb dL_isLawful_457 (by decide) (pWY_g hCk _ _) ⟨by omega, by omega⟩ (fun hc457 => ?_) (fun hc457 => ?_)
                                  · exfalso; have z9 := wt (by omega) (by omega); omega
                                  · refine zz_iconst hx hb dL_isLawful_460 ?_
                                    refine zz_goto (tgt := 465) hx hb dL_isLawful_461 (by decide) ?_
                                    refine zz_istore (lv' := [(5, .int (zi 1)), (7, .int (zi (pWY t (((i6 : Nat) : Int) / 6) (((i6 : Nat) : Int) % 6)))), (0, zr ad 0 ((0 : Nat) : Int)), (1, zr ad 86 ((0 : Nat) : Int)), (2, zr ad 87 ((0 : Nat) : Int)), (3, zr ad 88 ((0 : Nat) : Int)), (6, .int (zi ((i6 : Nat) : Int)))]) hx hb hl dL_isLawful_465 (by decide) rfl (fun ls hl => ?_)
                                    refine zz_iinc (lv' := [(6, .int (zi ((i6 + 1 : Nat) : Int))), (5, .int (zi 1)), (7, .int (zi (pWY t (((i6 : Nat) : Int) / 6) (((i6 : Nat) : Int) % 6)))), (0, zr ad 0 ((0 : Nat) : Int)), (1, zr ad 86 ((0 : Nat) : Int)), (2, zr ad 87 ((0 : Nat) : Int)), (3, zr ad 88 ((0 : Nat) : Int))]) hx hb hl dL_isLawful_467 (k0 := 6) rfl (by decide) rfl (fun ls hl => ?_)
                                    refine zz_goto (tgt := 310) hx hb dL_isLawful_470 (by decide) ?_
                                    refine zw_widen (k := (365 + 12 * (i6 + 1))) (n := (2190 + 72 * (i6 + 1))) (show _ ≤ _ from by omega) (show _ ≤ _ from by omega) ?_
                                    refine ih310 (i6 + 1) H11 locs11 ls ?_ (by omega) hW11 hS11 (zh_sub hl [3, 4, 5, 6, 1, 0] rfl)
                                    omega
                          · refine zz_iload hx hb hl 0 dL_isLawful_370 rfl ?_
                            refine zz_if_ne (tgt := 464) hx hb dL_isLawful_372 (by decide) (pWY_g hCk _ _) (fun hc372 => ?_) (fun hc372 => ?_)
                            · exfalso; have z9 := wz (by omega); omega
                            · refine zz_aload_n hx hb hl 1 dL_isLawful_375 rfl rfl ?_
                              refine zz_iload hx hb hl 6 dL_isLawful_376 rfl ?_
                              refine zz_bipush hx hb dL_isLawful_378 (by decide +kernel) ?_
                              refine zz_idiv hx hb dL_isLawful_380 ⟨by omega, by omega⟩ ⟨by decide, by decide⟩ (by omega) (by omega) ?_
                              refine zz_iload hx hb hl 6 dL_isLawful_381 rfl ?_
                              refine zz_aload_n hx hb hl 2 dL_isLawful_383 rfl rfl ?_
                              refine zz_iconst hx hb dL_isLawful_384 ?_
                              refine zz_iald (w := t 30 0 1) hx hb hK hW7 (zlN hn) rfl rfl rfl (by show (0 : Int) ≤ 1; omega) (by show 1 < (4 : Int); omega) (show σ4 86 0 1 = t 30 0 1 from by rw [hs1]) dL_isLawful_385 ?_
                              refine zz_iadd hx hb dL_isLawful_386 ?_
                              refine zz_iconst hx hb dL_isLawful_387 ?_
                              refine zz_irem hx hb dL_isLawful_388 ⟨by omega, by omega⟩ ⟨by decide, by decide⟩ (by omega) (by omega) ?_
                              refine zl_callP (As := [zr (zr8 ad) 0 ((0 : Nat) : Int), .int (zi (((i6 : Nat) : Int) / 6)), .int (zi ((((i6 : Nat) : Int) + (t 30 0 1)) % 5))]) (rest := []) ⟨hx, hb, hml, hown, hts⟩ (cl_way l hst G (zr8 ad) (zcA (zr8 ad) H7.size) H7.size σ4 t nd nr ns c (pC_r8 hCk) hW7.2.2.1 (((i6 : Nat) : Int) / 6) ((((i6 : Nat) : Int) + (t 30 0 1)) % 5) ⟨by omega, by omega⟩ ⟨by omega, by omega⟩) (vx_cwSW 3 hts gL_isLawful_L_way rfl rfl rfl (by decide +kernel) ⟨Nat.le_of_ble_eq_true rfl, Nat.le_of_ble_eq_true rfl⟩) hK hE hAA hNC hW7 hA0 hS7 rfl hl.1.1 rfl (Nat.le_of_ble_eq_true rfl) dL_isLawful_389 ⟨show _ ≤ 797 from by omega, show _ ≤ 4782 from by omega⟩ (fun x12 u12 H12 locs12 hp12 hW12 hz12 hS12 => ?_)
                              obtain ⟨rfl, rfl⟩ := hp12
                              rw [zg8_self] at hW12
                              refine W.eq (g2 := F0 m 392 ls [.int (zi (pWY t (((i6 : Nat) : Int) / 6) ((((i6 : Nat) : Int) + (t 30 0 1)) % 5)))]) rfl ?_
                              refine zz_if_lt (tgt := 460) hx hb dL_isLawful_392 (by decide) (pWY_g hCk _ _) (fun hc392 => ?_) (fun hc392 => ?_)
                              · refine zz_iconst hx hb dL_isLawful_460 ?_
                                refine zz_goto (tgt := 465) hx hb dL_isLawful_461 (by decide) ?_
                                refine zz_istore (lv' := [(5, .int (zi 1)), (7, .int (zi (pWY t (((i6 : Nat) : Int) / 6) (((i6 : Nat) : Int) % 6)))), (0, zr ad 0 ((0 : Nat) : Int)), (1, zr ad 86 ((0 : Nat) : Int)), (2, zr ad 87 ((0 : Nat) : Int)), (3, zr ad 88 ((0 : Nat) : Int)), (6, .int (zi ((i6 : Nat) : Int)))]) hx hb hl dL_isLawful_465 (by decide) rfl (fun ls hl => ?_)
                                refine zz_iinc (lv' := [(6, .int (zi ((i6 + 1 : Nat) : Int))), (5, .int (zi 1)), (7, .int (zi (pWY t (((i6 : Nat) : Int) / 6) (((i6 : Nat) : Int) % 6)))), (0, zr ad 0 ((0 : Nat) : Int)), (1, zr ad 86 ((0 : Nat) : Int)), (2, zr ad 87 ((0 : Nat) : Int)), (3, zr ad 88 ((0 : Nat) : Int))]) hx hb hl dL_isLawful_467 (k0 := 6) rfl (by decide) rfl (fun ls hl => ?_)
                                refine zz_goto (tgt := 310) hx hb dL_isLawful_470 (by decide) ?_
                                refine zw_widen (k := (365 + 12 * (i6 + 1))) (n := (2190 + 72 * (i6 + 1))) (show _ ≤ _ from by omega) (show _ ≤ _ from by omega) ?_
                                refine ih310 (i6 + 1) H12 locs12 ls ?_ (by omega) hW12 hS12 (zh_sub hl [3, 4, 5, 6, 1, 0] rfl)
                                omega
                              · refine zz_aload_n hx hb hl 1 dL_isLawful_395 rfl rfl ?_
                                refine zz_iload hx hb hl 6 dL_isLawful_396 rfl ?_
                                refine zz_aload_n hx hb hl 2 dL_isLawful_398 rfl rfl ?_
                                refine zz_iconst hx hb dL_isLawful_399 ?_
                                refine zz_iald (w := t 30 0 1) hx hb hK hW12 (zlN hn) rfl rfl rfl (by show (0 : Int) ≤ 1; omega) (by show 1 < (4 : Int); omega) (show σ4 86 0 1 = t 30 0 1 from by rw [hs1]) dL_isLawful_400 ?_
                                refine zz_iadd hx hb dL_isLawful_401 ?_
                                refine zz_iconst hx hb dL_isLawful_402 ?_
                                refine zz_irem hx hb dL_isLawful_403 ⟨by omega, by omega⟩ ⟨by decide, by decide⟩ (by omega) (by omega) ?_
                                refine zz_iload hx hb hl 6 dL_isLawful_404 rfl ?_
                                refine zz_bipush hx hb dL_isLawful_406 (by decide +kernel) ?_
                                refine zz_irem hx hb dL_isLawful_408 ⟨by omega, by omega⟩ ⟨by decide, by decide⟩ (by omega) (by omega) ?_
                                refine zl_callP (As := [zr (zr8 ad) 0 ((0 : Nat) : Int), .int (zi ((((i6 : Nat) : Int) + (t 30 0 1)) % 5)), .int (zi (((i6 : Nat) : Int) % 6))]) (rest := []) ⟨hx, hb, hml, hown, hts⟩ (cl_way l hst G (zr8 ad) (zcA (zr8 ad) H12.size) H12.size σ4 t nd nr ns c (pC_r8 hCk) hW12.2.2.1 ((((i6 : Nat) : Int) + (t 30 0 1)) % 5) (((i6 : Nat) : Int) % 6) ⟨by omega, by omega⟩ ⟨by omega, by omega⟩) (vx_cwSW 3 hts gL_isLawful_L_way rfl rfl rfl (by decide +kernel) ⟨Nat.le_of_ble_eq_true rfl, Nat.le_of_ble_eq_true rfl⟩) hK hE hAA hNC hW12 hA0 hS12 rfl hl.1.1 rfl (Nat.le_of_ble_eq_true rfl) dL_isLawful_409 ⟨show _ ≤ 797 from by omega, show _ ≤ 4782 from by omega⟩ (fun x13 u13 H13 locs13 hp13 hW13 hz13 hS13 => ?_)
                                obtain ⟨rfl, rfl⟩ := hp13
                                rw [zg8_self] at hW13
                                refine W.eq (g2 := F0 m 412 ls [.int (zi (pWY t ((((i6 : Nat) : Int) + (t 30 0 1)) % 5) (((i6 : Nat) : Int) % 6)))]) rfl ?_
                                refine zz_if_lt (tgt := 460) hx hb dL_isLawful_412 (by decide) (pWY_g hCk _ _) (fun hc412 => ?_) (fun hc412 => ?_)
                                · refine zz_iconst hx hb dL_isLawful_460 ?_
                                  refine zz_goto (tgt := 465) hx hb dL_isLawful_461 (by decide) ?_
                                  refine zz_istore (lv' := [(5, .int (zi 1)), (7, .int (zi (pWY t (((i6 : Nat) : Int) / 6) (((i6 : Nat) : Int) % 6)))), (0, zr ad 0 ((0 : Nat) : Int)), (1, zr ad 86 ((0 : Nat) : Int)), (2, zr ad 87 ((0 : Nat) : Int)), (3, zr ad 88 ((0 : Nat) : Int)), (6, .int (zi ((i6 : Nat) : Int)))]) hx hb hl dL_isLawful_465 (by decide) rfl (fun ls hl => ?_)
                                  refine zz_iinc (lv' := [(6, .int (zi ((i6 + 1 : Nat) : Int))), (5, .int (zi 1)), (7, .int (zi (pWY t (((i6 : Nat) : Int) / 6) (((i6 : Nat) : Int) % 6)))), (0, zr ad 0 ((0 : Nat) : Int)), (1, zr ad 86 ((0 : Nat) : Int)), (2, zr ad 87 ((0 : Nat) : Int)), (3, zr ad 88 ((0 : Nat) : Int))]) hx hb hl dL_isLawful_467 (k0 := 6) rfl (by decide) rfl (fun ls hl => ?_)
                                  refine zz_goto (tgt := 310) hx hb dL_isLawful_470 (by decide) ?_
                                  refine zw_widen (k := (365 + 12 * (i6 + 1))) (n := (2190 + 72 * (i6 + 1))) (show _ ≤ _ from by omega) (show _ ≤ _ from by omega) ?_
                                  refine ih310 (i6 + 1) H13 locs13 ls ?_ (by omega) hW13 hS13 (zh_sub hl [3, 4, 5, 6, 1, 0] rfl)
                                  omega
                                · refine zz_iload hx hb hl 0 dL_isLawful_415 rfl ?_
                                  refine zz_if_lt (tgt := 464) hx hb dL_isLawful_417 (by decide) (pWY_g hCk _ _) (fun hc417 => ?_) (fun hc417 => ?_)
                                  · exfalso; have z9 := wt (by omega) (by omega); omega
                                  · refine zz_iload hx hb hl 0 dL_isLawful_420 rfl ?_
                                    refine zz_aload_n hx hb hl 1 dL_isLawful_422 rfl rfl ?_
                                    refine zz_iload hx hb hl 6 dL_isLawful_423 rfl ?_
                                    refine zz_bipush hx hb dL_isLawful_425 (by decide +kernel) ?_
                                    refine zz_idiv hx hb dL_isLawful_427 ⟨by omega, by omega⟩ ⟨by decide, by decide⟩ (by omega) (by omega) ?_
                                    refine zz_iload hx hb hl 6 dL_isLawful_428 rfl ?_
                                    refine zz_aload_n hx hb hl 2 dL_isLawful_430 rfl rfl ?_
                                    refine zz_iconst hx hb dL_isLawful_431 ?_
                                    refine zz_iald (w := t 30 0 1) hx hb hK hW13 (zlN hn) rfl rfl rfl (by show (0 : Int) ≤ 1; omega) (by show 1 < (4 : Int); omega) (show σ4 86 0 1 = t 30 0 1 from by rw [hs1]) dL_isLawful_432 ?_
                                    refine zz_iadd hx hb dL_isLawful_433 ?_
                                    refine zz_iconst hx hb dL_isLawful_434 ?_
                                    refine zz_irem hx hb dL_isLawful_435 ⟨by omega, by omega⟩ ⟨by decide, by decide⟩ (by omega) (by omega) ?_
                                    refine zl_callP (As := [zr (zr8 ad) 0 ((0 : Nat) : Int), .int (zi (((i6 : Nat) : Int) / 6)), .int (zi ((((i6 : Nat) : Int) + (t 30 0 1)) % 5))]) (rest := [.int (zi (pWY t (((i6 : Nat) : Int) / 6) (((i6 : Nat) : Int) % 6)))]) ⟨hx, hb, hml, hown, hts⟩ (cl_way l hst G (zr8 ad) (zcA (zr8 ad) H13.size) H13.size σ4 t nd nr ns c (pC_r8 hCk) hW13.2.2.1 (((i6 : Nat) : Int) / 6) ((((i6 : Nat) : Int) + (t 30 0 1)) % 5) ⟨by omega, by omega⟩ ⟨by omega, by omega⟩) (vx_cwSW 3 hts gL_isLawful_L_way rfl rfl rfl (by decide +kernel) ⟨Nat.le_of_ble_eq_true rfl, Nat.le_of_ble_eq_true rfl⟩) hK hE hAA hNC hW13 hA0 hS13 rfl hl.1.1 rfl (by simp only [List.map, zr_cat, zcat_i]; decide) dL_isLawful_436 ⟨show _ ≤ 797 from by omega, show _ ≤ 4782 from by omega⟩ (fun x14 u14 H14 locs14 hp14 hW14 hz14 hS14 => ?_)
                                    obtain ⟨rfl, rfl⟩ := hp14
                                    rw [zg8_self] at hW14
                                    refine W.eq (g2 := F0 m 439 ls [.int (zi (pWY t (((i6 : Nat) : Int) / 6) ((((i6 : Nat) : Int) + (t 30 0 1)) % 5))), .int (zi (pWY t (((i6 : Nat) : Int) / 6) (((i6 : Nat) : Int) % 6)))]) rfl ?_
                                    refine zz_aload_n hx hb hl 1 dL_isLawful_439 rfl rfl ?_
                                    refine zz_iload hx hb hl 6 dL_isLawful_440 rfl ?_
                                    refine zz_aload_n hx hb hl 2 dL_isLawful_442 rfl rfl ?_
                                    refine zz_iconst hx hb dL_isLawful_443 ?_
                                    refine zz_iald (w := t 30 0 1) hx hb hK hW14 (zlN hn) rfl rfl rfl (by show (0 : Int) ≤ 1; omega) (by show 1 < (4 : Int); omega) (show σ4 86 0 1 = t 30 0 1 from by rw [hs1]) dL_isLawful_444 ?_
                                    refine zz_iadd hx hb dL_isLawful_445 ?_
                                    refine zz_iconst hx hb dL_isLawful_446 ?_
                                    refine zz_irem hx hb dL_isLawful_447 ⟨by omega, by omega⟩ ⟨by decide, by decide⟩ (by omega) (by omega) ?_
                                    refine zz_iload hx hb hl 6 dL_isLawful_448 rfl ?_
                                    refine zz_bipush hx hb dL_isLawful_450 (by decide +kernel) ?_
                                    refine zz_irem hx hb dL_isLawful_452 ⟨by omega, by omega⟩ ⟨by decide, by decide⟩ (by omega) (by omega) ?_
                                    refine zl_callP (As := [zr (zr8 ad) 0 ((0 : Nat) : Int), .int (zi ((((i6 : Nat) : Int) + (t 30 0 1)) % 5)), .int (zi (((i6 : Nat) : Int) % 6))]) (rest := [.int (zi (pWY t (((i6 : Nat) : Int) / 6) ((((i6 : Nat) : Int) + (t 30 0 1)) % 5))), .int (zi (pWY t (((i6 : Nat) : Int) / 6) (((i6 : Nat) : Int) % 6)))]) ⟨hx, hb, hml, hown, hts⟩ (cl_way l hst G (zr8 ad) (zcA (zr8 ad) H14.size) H14.size σ4 t nd nr ns c (pC_r8 hCk) hW14.2.2.1 ((((i6 : Nat) : Int) + (t 30 0 1)) % 5) (((i6 : Nat) : Int) % 6) ⟨by omega, by omega⟩ ⟨by omega, by omega⟩) (vx_cwSW 3 hts gL_isLawful_L_way rfl rfl rfl (by decide +kernel) ⟨Nat.le_of_ble_eq_true rfl, Nat.le_of_ble_eq_true rfl⟩) hK hE hAA hNC hW14 hA0 hS14 rfl hl.1.1 rfl (by simp only [List.map, zr_cat, zcat_i]; decide) dL_isLawful_453 ⟨show _ ≤ 797 from by omega, show _ ≤ 4782 from by omega⟩ (fun x15 u15 H15 locs15 hp15 hW15 hz15 hS15 => ?_)
                                    obtain ⟨rfl, rfl⟩ := hp15
                                    rw [zg8_self] at hW15
                                    refine W.eq (g2 := F0 m 456 ls [.int (zi (pWY t ((((i6 : Nat) : Int) + (t 30 0 1)) % 5) (((i6 : Nat) : Int) % 6))), .int (zi (pWY t (((i6 : Nat) : Int) / 6) ((((i6 : Nat) : Int) + (t 30 0 1)) % 5))), .int (zi (pWY t (((i6 : Nat) : Int) / 6) (((i6 : Nat) : Int) % 6)))]) rfl ?_
                                    refine zz_iadd hx hb dL_isLawful_456 ?_
                                    refine zz_icmp_gt (tgt := 464) hx hb dL_isLawful_457 (by decide) (pWY_g hCk _ _) ⟨by omega, by omega⟩ (fun hc457 => ?_) (fun hc457 => ?_)
                                    · exfalso; have z9 := wt (by omega) (by omega); omega
                                    · refine zz_iconst hx hb dL_isLawful_460 ?_
                                      refine zz_goto (tgt := 465) hx hb dL_isLawful_461 (by decide) ?_
                                      refine zz_istore (lv' := [(5, .int (zi 1)), (7, .int (zi (pWY t (((i6 : Nat) : Int) / 6) (((i6 : Nat) : Int) % 6)))), (0, zr ad 0 ((0 : Nat) : Int)), (1, zr ad 86 ((0 : Nat) : Int)), (2, zr ad 87 ((0 : Nat) : Int)), (3, zr ad 88 ((0 : Nat) : Int)), (6, .int (zi ((i6 : Nat) : Int)))]) hx hb hl dL_isLawful_465 (by decide) rfl (fun ls hl => ?_)
                                      refine zz_iinc (lv' := [(6, .int (zi ((i6 + 1 : Nat) : Int))), (5, .int (zi 1)), (7, .int (zi (pWY t (((i6 : Nat) : Int) / 6) (((i6 : Nat) : Int) % 6)))), (0, zr ad 0 ((0 : Nat) : Int)), (1, zr ad 86 ((0 : Nat) : Int)), (2, zr ad 87 ((0 : Nat) : Int)), (3, zr ad 88 ((0 : Nat) : Int))]) hx hb hl dL_isLawful_467 (k0 := 6) rfl (by decide) rfl (fun ls hl => ?_)
                                      refine zz_goto (tgt := 310) hx hb dL_isLawful_470 (by decide) ?_
                                      refine zw_widen (k := (365 + 12 * (i6 + 1))) (n := (2190 + 72 * (i6 + 1))) (show _ ≤ _ from by omega) (show _ ≤ _ from by omega) ?_
                                      refine ih310 (i6 + 1) H15 locs15 ls ?_ (by omega) hW15 hS15 (zh_sub hl [3, 4, 5, 6, 1, 0] rfl)
                                      omega
                refine zw_widen (k := (365 + 12 * 0)) (n := (2190 + 72 * 0)) (show _ ≤ _ from by omega) (show _ ≤ _ from by omega) ?_
                refine hcut310 _ 0 H4 locs4 ls ?_ (Nat.lt_succ_self _) hW4 hS4 (zh_sub hl [1, 2, 3, 4, 5, 0] rfl)
                exact Nat.zero_le _
              · refine zz_iload hx hb hl 4 dL_isLawful_255 rfl ?_
                refine zz_if_eq (tgt := 307) hx hb dL_isLawful_257 (by decide) ⟨by decide, by decide⟩ (fun hc257 => ?_) (fun hc257 => ?_)
                · exfalso; exact absurd hc257 (by decide)
                · refine zz_aload_n hx hb hl 0 dL_isLawful_260 rfl rfl ?_
                  refine zz_aload_n hx hb hl 1 dL_isLawful_261 rfl rfl ?_
                  refine zz_iload hx hb hl 5 dL_isLawful_262 rfl ?_
                  refine zz_aload_n hx hb hl 3 dL_isLawful_264 rfl rfl ?_
                  refine zl_callM (As := [zr ad 0 ((0 : Nat) : Int), zr ad 86 ((0 : Nat) : Int), .int (zi ((i3 : Nat) : Int)), zr ad 88 ((0 : Nat) : Int)]) (rest := []) ⟨hx, hb, hml, hown, hts⟩ (c_L_isRight l hst G ad A N0 σ4 t nd nr ns c hCk hW4.2.2.1 hA sl hv hPE hnr12 hn hp9 i3 (by omega) (by omega) hs1 (by rw [hj4 i3 (by omega), if_neg (Nat.lt_irrefl i3)]; exact hP i3 (by omega))) (va_cwS 4 hts gL_isLawful_L_isRight rfl rfl rfl (by decide +kernel) ⟨Nat.le_of_ble_eq_true rfl, Nat.le_of_ble_eq_true rfl⟩) hK hE hAA hNC hW4 (Nat.le_trans hsz hS4.1) hS4 (fun q h => h) rfl hl.1.1 rfl (Nat.le_of_ble_eq_true rfl) dL_isLawful_265 ⟨show _ ≤ 797 from by omega, show _ ≤ 4782 from by omega⟩ (fun x16 u16 H16 locs16 hp16 hW16 hz16 hk16 hS16 => ?_)
                  obtain ⟨σ16, hs16⟩ : ∃ z, z = u16 := ⟨_, rfl⟩
                  rw [← hs16] at hp16 hW16
                  obtain ⟨hpu, rfl⟩ := hp16
                  have hb9 : ∀ κ i j, κ ≠ 88 → σ16 κ i j = σ4 κ i j := fun κ i j h => by rw [← hpu]; exact zu_k h
                  have hb8 : σ16 88 0 i3 = ypy t i3 := by rw [← hpu, zu_same]
                  have hb7 : ∀ d, d ≠ i3 → σ16 88 0 d = σ4 88 0 d := fun d h => by rw [← hpu]; exact zu_s h
                  have hCr16 : pC ad σ16 t nd nr ns c := pC_hi hCk (fun κ i j h => hb9 κ i j (by omega))
                  have hs2r : σ16 86 0 2 = t 30 0 2 := by rw [hb9 86 0 2 (by decide)]; exact hs2
                  refine W.eq (g2 := F0 m 268 ls [.int (zi 1)]) rfl ?_
                  refine zz_if_eq (tgt := 298) hx hb dL_isLawful_268 (by decide) ⟨by decide, by decide⟩ (fun hc268 => ?_) (fun hc268 => ?_)
                  · exfalso; exact absurd hc268 (by decide)
                  · refine zz_aload_n hx hb hl 0 dL_isLawful_271 rfl rfl ?_
                    refine zz_iload hx hb hl 5 dL_isLawful_272 rfl ?_
                    refine zl_callP (As := [zr (zr8 ad) 0 ((0 : Nat) : Int), .int (zi ((i3 : Nat) : Int))]) (rest := []) ⟨hx, hb, hml, hown, hts⟩ (cl_height l hst G (zr8 ad) (zcA (zr8 ad) H16.size) H16.size σ16 t nd nr ns c (pC_r8 hCr16) hW16.2.2.1 ((i3 : Nat) : Int) ⟨by omega, by omega⟩) (vx_cwSW 2 hts gL_isLawful_L_height rfl rfl rfl (by decide +kernel) ⟨Nat.le_of_ble_eq_true rfl, Nat.le_of_ble_eq_true rfl⟩) hK hE hAA hNC hW16 hA0 hS16 rfl hl.1.1 rfl (Nat.le_of_ble_eq_true rfl) dL_isLawful_274 ⟨show _ ≤ 797 from by omega, show _ ≤ 4782 from by omega⟩ (fun x17 u17 H17 locs17 hp17 hW17 hz17 hS17 => ?_)
                    rw [show pHT t nd nr ((i3 : Nat) : Int) = yht t nd nr ((i3 : Nat) : Int) from if_pos ⟨by omega, by omega⟩] at hp17
                    obtain ⟨rfl, rfl⟩ := hp17
                    rw [zg8_self] at hW17
                    refine W.eq (g2 := F0 m 277 ls [.int (zi (yht t nd nr ((i3 : Nat) : Int)))]) rfl ?_
                    refine zz_bipush hx hb dL_isLawful_277 (by decide +kernel) ?_
                    refine zz_icmp_lt (tgt := 298) hx hb dL_isLawful_279 (by decide) ⟨by omega, by omega⟩ ⟨by decide, by decide⟩ (fun hc279 => ?_) (fun hc279 => ?_)
                    · exfalso; omega
                    · refine zz_aload_n hx hb hl 0 dL_isLawful_282 rfl rfl ?_
                      refine zz_iload hx hb hl 5 dL_isLawful_283 rfl ?_
                      refine zl_callP (As := [zr (zr8 ad) 0 ((0 : Nat) : Int), .int (zi ((i3 : Nat) : Int))]) (rest := []) ⟨hx, hb, hml, hown, hts⟩ (cl_height l hst G (zr8 ad) (zcA (zr8 ad) H17.size) H17.size σ16 t nd nr ns c (pC_r8 hCr16) hW17.2.2.1 ((i3 : Nat) : Int) ⟨by omega, by omega⟩) (vx_cwSW 2 hts gL_isLawful_L_height rfl rfl rfl (by decide +kernel) ⟨Nat.le_of_ble_eq_true rfl, Nat.le_of_ble_eq_true rfl⟩) hK hE hAA hNC hW17 hA0 hS17 rfl hl.1.1 rfl (Nat.le_of_ble_eq_true rfl) dL_isLawful_285 ⟨show _ ≤ 797 from by omega, show _ ≤ 4782 from by omega⟩ (fun x18 u18 H18 locs18 hp18 hW18 hz18 hS18 => ?_)
                      rw [show pHT t nd nr ((i3 : Nat) : Int) = yht t nd nr ((i3 : Nat) : Int) from if_pos ⟨by omega, by omega⟩] at hp18
                      obtain ⟨rfl, rfl⟩ := hp18
                      rw [zg8_self] at hW18
                      refine W.eq (g2 := F0 m 288 ls [.int (zi (yht t nd nr ((i3 : Nat) : Int)))]) rfl ?_
                      refine zz_aload_n hx hb hl 1 dL_isLawful_288 rfl rfl ?_
                      refine zz_iconst hx hb dL_isLawful_289 ?_
                      refine zz_iald (w := t 30 0 2) hx hb hK hW18 (zlN hn) rfl rfl rfl (by show (0 : Int) ≤ 2; omega) (by show 2 < (4 : Int); omega) (show σ16 86 0 2 = t 30 0 2 from by rw [hs2r]) dL_isLawful_290 ?_
                      refine zz_icmp_gt (tgt := 298) hx hb dL_isLawful_291 (by decide) ⟨by omega, by omega⟩ hg302 (fun hc291 => ?_) (fun hc291 => ?_)
                      · exfalso; omega
                      · refine zz_iconst hx hb dL_isLawful_294 ?_
                        refine zz_goto (tgt := 299) hx hb dL_isLawful_295 (by decide) ?_
                        refine zz_istore (lv' := [(5, .int (zi 1)), (0, zr ad 0 ((0 : Nat) : Int)), (1, zr ad 86 ((0 : Nat) : Int)), (2, zr ad 87 ((0 : Nat) : Int)), (3, zr ad 88 ((0 : Nat) : Int)), (6, .int (zi ((i3 : Nat) : Int)))]) hx hb hl dL_isLawful_299 (by decide) rfl (fun ls hl => ?_)
                        refine zz_iinc (lv' := [(6, .int (zi ((i3 + 1 : Nat) : Int))), (5, .int (zi 1)), (0, zr ad 0 ((0 : Nat) : Int)), (1, zr ad 86 ((0 : Nat) : Int)), (2, zr ad 87 ((0 : Nat) : Int)), (3, zr ad 88 ((0 : Nat) : Int))]) hx hb hl dL_isLawful_301 (k0 := 5) rfl (by decide) rfl (fun ls hl => ?_)
                        refine zz_goto (tgt := 249) hx hb dL_isLawful_304 (by decide) ?_
                        refine zw_widen (k := (170 + 65 * (i3 + 1))) (n := (1020 + 390 * (i3 + 1))) (show _ ≤ _ from by omega) (show _ ≤ _ from by omega) ?_
                        refine ih249 (i3 + 1) σ16 H18 locs18 ls ?_ (by omega) hW18 hS18 (zh_sub hl [2, 3, 4, 5, 1, 0] rfl)
                        exact ⟨by omega, hCr16, fun κ i j h => by rw [hb9 κ i j (by omega)]; exact hj3 κ i j h, fun d hd => by
                          by_cases e : d = i3
                          · rw [e, hb8, if_pos (by omega)]
                          · rw [hb7 d e, hj4 d hd]
                            by_cases e2 : d < i3
                            · rw [if_pos e2, if_pos (by omega)]
                            · rw [if_neg e2, if_neg (by omega)]⟩
          refine zw_widen (k := (170 + 65 * 0)) (n := (1020 + 390 * 0)) (show _ ≤ _ from by omega) (show _ ≤ _ from by omega) ?_
          refine hcut249 _ 0 σ3 H3 locs3 ls ?_ (Nat.lt_succ_self _) hW3 hS3 (zh_sub hl [1, 2, 3, 4, 6, 0] rfl)
          exact ⟨by decide, hCk, fun _ _ _ _ => rfl, fun d hd => by rw [hi3 88 0 d (by decide) (by decide), if_neg (Nat.not_lt_zero d)]⟩
        · refine zz_iload hx hb hl 5 dL_isLawful_33 rfl ?_
          refine zz_if_eq (tgt := 246) hx hb dL_isLawful_35 (by decide) ⟨by decide, by decide⟩ (fun hc35 => ?_) (fun hc35 => ?_)
          · exfalso; exact absurd hc35 (by decide)
          · have hkn : k < nr := by omega
            have hwq := hWF.2.2.1 k hkn
            have hcd := hi5 k (Nat.le_refl _) hkn
            have hpq := hv.1.1 k hkn
            have hun9 := hv.2.2 k hkn
            obtain ⟨cq1, cq2, cq3, cq4, cq5, cq6, cq7, cq8, cq9, cq10, cq11⟩ := hCk.2.2.1.2.2 k hkn
            have hg64 : zg (t 64 0 k) := by rw [← cq6]; exact hW3.2.2.1 _ _ _
            have hg67 : zg (t 67 0 k) := by rw [← cq4]; exact hW3.2.2.1 _ _ _
            have hg71 : zg (t 71 0 k) := by rw [← cq9]; exact hW3.2.2.1 _ _ _
            have hg69 : zg (t 69 0 k) := by rw [← cq5]; exact hW3.2.2.1 _ _ _
            have hg72 : zg (t 72 0 k) := by rw [← cq10]; exact hW3.2.2.1 _ _ _
            refine zz_aload_n hx hb hl 0 dL_isLawful_38 rfl rfl ?_
            refine zz_iload hx hb hl 6 dL_isLawful_39 rfl ?_
            refine zz_iconst hx hb dL_isLawful_41 ?_
            refine zl_callP (As := [zr (zr8 ad) 0 ((0 : Nat) : Int), .int (zi ((k : Nat) : Int)), .int (zi 0)]) (rest := []) ⟨hx, hb, hml, hown, hts⟩ (cl_requestIs l hst G (zr8 ad) (zcA (zr8 ad) H3.size) H3.size σ3 t nd nr ns c (pC_r8 hCk) hW3.2.2.1 ((k : Nat) : Int) 0 ⟨by omega, by omega⟩ ⟨by decide, by decide⟩) (vx_cwSW 3 hts gL_isLawful_L_requestIs rfl rfl rfl (by decide +kernel) ⟨Nat.le_of_ble_eq_true rfl, Nat.le_of_ble_eq_true rfl⟩) hK hE hAA hNC hW3 hA0 hS3 rfl hl.1.1 rfl (Nat.le_of_ble_eq_true rfl) dL_isLawful_42 ⟨show _ ≤ 797 from by omega, show _ ≤ 4782 from by omega⟩ (fun x19 u19 H19 locs19 hp19 hW19 hz19 hS19 => ?_)
            rw [pRI_at hkn (by decide), yri_0] at hp19
            obtain ⟨rfl, rfl⟩ := hp19
            rw [zg8_self] at hW19
            refine W.eq (g2 := F0 m 45 ls [.int (zi (t 64 0 k))]) rfl ?_
            refine zz_istore (lv' := [(7, .int (zi (t 64 0 k))), (0, zr ad 0 ((0 : Nat) : Int)), (1, zr ad 86 ((0 : Nat) : Int)), (2, zr ad 87 ((0 : Nat) : Int)), (3, zr ad 88 ((0 : Nat) : Int)), (4, .int (zi (pBE t nd nr))), (5, .int (zi 1)), (6, .int (zi ((k : Nat) : Int)))]) hx hb hl dL_isLawful_45 (by decide) rfl (fun ls hl => ?_)
            refine zz_aload_n hx hb hl 1 dL_isLawful_47 rfl rfl ?_
            refine zz_iload hx hb hl 7 dL_isLawful_48 rfl ?_
            refine zz_iconst hx hb dL_isLawful_50 ?_
            refine zl_callP (As := [zr (zr8 ad) 0 ((0 : Nat) : Int), .int (zi ((k : Nat) : Int)), .int (zi 3)]) (rest := []) ⟨hx, hb, hml, hown, hts⟩ (cl_requestIs l hst G (zr8 ad) (zcA (zr8 ad) H19.size) H19.size σ3 t nd nr ns c (pC_r8 hCk) hW19.2.2.1 ((k : Nat) : Int) 3 ⟨by omega, by omega⟩ ⟨by decide, by decide⟩) (vx_cwSW 3 hts gL_isLawful_L_requestIs rfl rfl rfl (by decide +kernel) ⟨Nat.le_of_ble_eq_true rfl, Nat.le_of_ble_eq_true rfl⟩) hK hE hAA hNC hW19 hA0 hS19 rfl hl.1.1 rfl (Nat.le_of_ble_eq_true rfl) dL_isLawful_51 ⟨show _ ≤ 797 from by omega, show _ ≤ 4782 from by omega⟩ (fun x20 u20 H20 locs20 hp20 hW20 hz20 hS20 => ?_)
            rw [pRI_at hkn (by decide), yri_3] at hp20
            obtain ⟨rfl, rfl⟩ := hp20
            rw [zg8_self] at hW20
            refine W.eq (g2 := F0 m 54 ls [.int (zi (t 71 0 k))]) rfl ?_
            refine zz_istore (lv' := [(8, .int (zi (t 71 0 k))), (7, .int (zi (t 64 0 k))), (0, zr ad 0 ((0 : Nat) : Int)), (1, zr ad 86 ((0 : Nat) : Int)), (2, zr ad 87 ((0 : Nat) : Int)), (3, zr ad 88 ((0 : Nat) : Int)), (4, .int (zi (pBE t nd nr))), (5, .int (zi 1)), (6, .int (zi ((k : Nat) : Int)))]) hx hb hl dL_isLawful_54 (by decide) rfl (fun ls hl => ?_)
            obtain ⟨cd1, cd2, cd3, cd4, cd5⟩ := id hcd
            refine zz_iload hx hb hl 1 dL_isLawful_56 rfl ?_
            refine zz_aload_n hx hb hl 4 dL_isLawful_58 rfl rfl ?_
            refine zz_iconst hx hb dL_isLawful_59 ?_
            refine zz_iload hx hb hl 8 dL_isLawful_60 rfl ?_
            refine zz_imul hx hb dL_isLawful_62 ?_
            refine zz_iald (w := σ3 87 0 (4 * k)) hx hb hK hW20 (zlN hh) rfl rfl rfl (by show (0 : Int) ≤ ((4 * k : Nat) : Int); omega) (by show ((4 * k : Nat) : Int) < (48 : Int); omega) rfl dL_isLawful_63 ?_
            refine zz_icmp_lt (tgt := 219) hx hb dL_isLawful_64 (by decide) hg64 (hW20.2.2.1 _ _ _) (fun hc64 => ?_) (fun hc64 => ?_)
            · exfalso; omega
            · have hcut88 : ∀  (H9 : Heap) (locs9 : List Loc) (ls : Array Slot), (True) → ZW G ad A σ3 H9 → va_S A s.heap H9 locs9 → zh ls 9 [(0, zr ad 0 ((0 : Nat) : Int)), (1, zr ad 86 ((0 : Nat) : Int)), (2, zr ad 87 ((0 : Nat) : Int)), (3, zr ad 88 ((0 : Nat) : Int)), (4, .int (zi (pBE t nd nr))), (5, .int (zi 1)), (6, .int (zi ((k : Nat) : Int))), (7, .int (zi (t 64 0 k))), (8, .int (zi (t 71 0 k)))] → W p l e ({ frames := 11, cells := 797, slots := 4782, locals := 326 }) s m ([zr ad 0 ((0 : Nat) : Int), zr ad 86 ((0 : Nat) : Int), zr ad 87 ((0 : Nat) : Int), zr ad 88 ((0 : Nat) : Int)] : List Value).toArray below meth c9 H9 locs9 (2 + 14 * k + 4) (12 + 84 * k + 24) (MQ below (zQ G ad A zri (fun r u => 1 = r ∧ pC ad u t nd nr ns c ∧ pHe u t nr ∧ (∀ d, d < 3 → u 88 0 d = ypy t d) ∧ ∀ j, u 86 0 j = σ 86 0 j)) ([zr ad 0 ((0 : Nat) : Int), zr ad 86 ((0 : Nat) : Int), zr ad 87 ((0 : Nat) : Int), zr ad 88 ((0 : Nat) : Int)] : List Value).toArray s 797 4782 A) (F0 m 88 ls []) := by
                intro  H21 locs21 ls hI88 hW21 hS21 hl
                refine zz_aload_n hx hb hl 0 dL_isLawful_88 rfl rfl ?_
                refine zz_iload hx hb hl 6 dL_isLawful_89 rfl ?_
                refine zz_iconst hx hb dL_isLawful_91 ?_
                refine zl_callP (As := [zr (zr8 ad) 0 ((0 : Nat) : Int), .int (zi ((k : Nat) : Int)), .int (zi 1)]) (rest := []) ⟨hx, hb, hml, hown, hts⟩ (cl_requestIs l hst G (zr8 ad) (zcA (zr8 ad) H21.size) H21.size σ3 t nd nr ns c (pC_r8 hCk) hW21.2.2.1 ((k : Nat) : Int) 1 ⟨by omega, by omega⟩ ⟨by decide, by decide⟩) (vx_cwSW 3 hts gL_isLawful_L_requestIs rfl rfl rfl (by decide +kernel) ⟨Nat.le_of_ble_eq_true rfl, Nat.le_of_ble_eq_true rfl⟩) hK hE hAA hNC hW21 hA0 hS21 rfl hl.1.1 rfl (Nat.le_of_ble_eq_true rfl) dL_isLawful_92 ⟨show _ ≤ 797 from by omega, show _ ≤ 4782 from by omega⟩ (fun x22 u22 H22 locs22 hp22 hW22 hz22 hS22 => ?_)
                rw [pRI_at hkn (by decide), yri_1] at hp22
                obtain ⟨rfl, rfl⟩ := hp22
                rw [zg8_self] at hW22
                refine W.eq (g2 := F0 m 95 ls [.int (zi (t 69 0 k))]) rfl ?_
                refine zz_aload_n hx hb hl 2 dL_isLawful_95 rfl rfl ?_
                refine zz_iconst hx hb dL_isLawful_96 ?_
                refine zz_iload hx hb hl 6 dL_isLawful_97 rfl ?_
                refine zz_imul hx hb dL_isLawful_99 ?_
                refine zz_iconst hx hb dL_isLawful_100 ?_
                refine zz_iadd hx hb dL_isLawful_101 ?_
                refine zz_iald (w := σ3 87 0 ((4 * k) + 1)) hx hb hK hW22 (zlN hh) rfl rfl rfl (by show (0 : Int) ≤ (((4 * k) + 1 : Nat) : Int); omega) (by show (((4 * k) + 1 : Nat) : Int) < (48 : Int); omega) rfl dL_isLawful_102 ?_
                refine zz_icmp_ne (tgt := 219) hx hb dL_isLawful_103 (by decide) hg69 (hW22.2.2.1 _ _ _) (fun hc103 => ?_) (fun hc103 => ?_)
                · exfalso; omega
                · refine zz_aload_n hx hb hl 0 dL_isLawful_106 rfl rfl ?_
                  refine zz_iload hx hb hl 6 dL_isLawful_107 rfl ?_
                  refine zz_bipush hx hb dL_isLawful_109 (by decide +kernel) ?_
                  refine zl_callP (As := [zr (zr8 ad) 0 ((0 : Nat) : Int), .int (zi ((k : Nat) : Int)), .int (zi 6)]) (rest := []) ⟨hx, hb, hml, hown, hts⟩ (cl_requestIs l hst G (zr8 ad) (zcA (zr8 ad) H22.size) H22.size σ3 t nd nr ns c (pC_r8 hCk) hW22.2.2.1 ((k : Nat) : Int) 6 ⟨by omega, by omega⟩ ⟨by decide, by decide⟩) (vx_cwSW 3 hts gL_isLawful_L_requestIs rfl rfl rfl (by decide +kernel) ⟨Nat.le_of_ble_eq_true rfl, Nat.le_of_ble_eq_true rfl⟩) hK hE hAA hNC hW22 hA0 hS22 rfl hl.1.1 rfl (Nat.le_of_ble_eq_true rfl) dL_isLawful_111 ⟨show _ ≤ 797 from by omega, show _ ≤ 4782 from by omega⟩ (fun x23 u23 H23 locs23 hp23 hW23 hz23 hS23 => ?_)
                  rw [pRI_at hkn (by decide), yri_6] at hp23
                  obtain ⟨rfl, rfl⟩ := hp23
                  rw [zg8_self] at hW23
                  refine W.eq (g2 := F0 m 114 ls [.int (zi (t 67 0 k))]) rfl ?_
                  refine zz_aload_n hx hb hl 2 dL_isLawful_114 rfl rfl ?_
                  refine zz_iconst hx hb dL_isLawful_115 ?_
                  refine zz_iload hx hb hl 6 dL_isLawful_116 rfl ?_
                  refine zz_imul hx hb dL_isLawful_118 ?_
                  refine zz_iconst hx hb dL_isLawful_119 ?_
                  refine zz_iadd hx hb dL_isLawful_120 ?_
                  refine zz_iald (w := σ3 87 0 ((4 * k) + 3)) hx hb hK hW23 (zlN hh) rfl rfl rfl (by show (0 : Int) ≤ (((4 * k) + 3 : Nat) : Int); omega) (by show (((4 * k) + 3 : Nat) : Int) < (48 : Int); omega) rfl dL_isLawful_121 ?_
                  refine zz_icmp_ne (tgt := 219) hx hb dL_isLawful_122 (by decide) hg67 (hW23.2.2.1 _ _ _) (fun hc122 => ?_) (fun hc122 => ?_)
                  · exfalso; omega
                  · have hcut150 : ∀  (H9 : Heap) (locs9 : List Loc) (ls : Array Slot), (True) → ZW G ad A σ3 H9 → va_S A s.heap H9 locs9 → zh ls 9 [(0, zr ad 0 ((0 : Nat) : Int)), (1, zr ad 86 ((0 : Nat) : Int)), (2, zr ad 87 ((0 : Nat) : Int)), (3, zr ad 88 ((0 : Nat) : Int)), (4, .int (zi (pBE t nd nr))), (5, .int (zi 1)), (6, .int (zi ((k : Nat) : Int))), (7, .int (zi (t 64 0 k))), (8, .int (zi (t 71 0 k)))] → W p l e ({ frames := 11, cells := 797, slots := 4782, locals := 326 }) s m ([zr ad 0 ((0 : Nat) : Int), zr ad 86 ((0 : Nat) : Int), zr ad 87 ((0 : Nat) : Int), zr ad 88 ((0 : Nat) : Int)] : List Value).toArray below meth c9 H9 locs9 (2 + 14 * k + 8) (12 + 84 * k + 48) (MQ below (zQ G ad A zri (fun r u => 1 = r ∧ pC ad u t nd nr ns c ∧ pHe u t nr ∧ (∀ d, d < 3 → u 88 0 d = ypy t d) ∧ ∀ j, u 86 0 j = σ 86 0 j)) ([zr ad 0 ((0 : Nat) : Int), zr ad 86 ((0 : Nat) : Int), zr ad 87 ((0 : Nat) : Int), zr ad 88 ((0 : Nat) : Int)] : List Value).toArray s 797 4782 A) (F0 m 150 ls []) := by
                      intro  H24 locs24 ls hI150 hW24 hS24 hl
                      have hsd9 : (t 64 0 k = 3 ∧ 0 ≤ t 72 0 k) ∨ (t 64 0 k ≠ 3 ∧ t 72 0 k = -1) := by
                        by_cases e3 : t 64 0 k = 3
                        · exact Or.inl ⟨e3, (hpq.2.1 e3).1⟩
                        · exact Or.inr ⟨e3, hpq.2.2 e3⟩
                      refine zz_aload_n hx hb hl 0 dL_isLawful_150 rfl rfl ?_
                      refine zz_iload hx hb hl 6 dL_isLawful_151 rfl ?_
                      refine zz_iconst hx hb dL_isLawful_153 ?_
                      refine zl_callP (As := [zr (zr8 ad) 0 ((0 : Nat) : Int), .int (zi ((k : Nat) : Int)), .int (zi 4)]) (rest := []) ⟨hx, hb, hml, hown, hts⟩ (cl_requestIs l hst G (zr8 ad) (zcA (zr8 ad) H24.size) H24.size σ3 t nd nr ns c (pC_r8 hCk) hW24.2.2.1 ((k : Nat) : Int) 4 ⟨by omega, by omega⟩ ⟨by decide, by decide⟩) (vx_cwSW 3 hts gL_isLawful_L_requestIs rfl rfl rfl (by decide +kernel) ⟨Nat.le_of_ble_eq_true rfl, Nat.le_of_ble_eq_true rfl⟩) hK hE hAA hNC hW24 hA0 hS24 rfl hl.1.1 rfl (Nat.le_of_ble_eq_true rfl) dL_isLawful_154 ⟨show _ ≤ 797 from by omega, show _ ≤ 4782 from by omega⟩ (fun x25 u25 H25 locs25 hp25 hW25 hz25 hS25 => ?_)
                      rw [pRI_at hkn (by decide), yri_4] at hp25
                      obtain ⟨rfl, rfl⟩ := hp25
                      rw [zg8_self] at hW25
                      refine W.eq (g2 := F0 m 157 ls [.int (zi (t 72 0 k))]) rfl ?_
                      refine zz_if_lt (tgt := 164) hx hb dL_isLawful_157 (by decide) hg72 (fun hc157 => ?_) (fun hc157 => ?_)
                      · refine zz_iconst hx hb dL_isLawful_164 ?_
                        refine zz_iload hx hb hl 7 dL_isLawful_165 rfl ?_
                        refine zz_iconst hx hb dL_isLawful_167 ?_
                        refine zz_icmp_ne (tgt := 175) hx hb dL_isLawful_168 (by decide) hg64 ⟨by decide, by decide⟩ (fun hc168 => ?_) (fun hc168 => ?_)
                        · refine zz_iconst hx hb dL_isLawful_175 ?_
                          refine zz_icmp_ne (tgt := 219) hx hb dL_isLawful_176 (by decide) ⟨by decide, by decide⟩ ⟨by decide, by decide⟩ (fun hc176 => ?_) (fun hc176 => ?_)
                          · exfalso; rcases hsd9 with ⟨z1, z2⟩ | ⟨z1, z2⟩ <;> first | omega | exact absurd rfl hc176
                          · have hcut196 : ∀  (H9 : Heap) (locs9 : List Loc) (ls : Array Slot), (True) → ZW G ad A σ3 H9 → va_S A s.heap H9 locs9 → zh ls 9 [(0, zr ad 0 ((0 : Nat) : Int)), (1, zr ad 86 ((0 : Nat) : Int)), (2, zr ad 87 ((0 : Nat) : Int)), (3, zr ad 88 ((0 : Nat) : Int)), (4, .int (zi (pBE t nd nr))), (5, .int (zi 1)), (6, .int (zi ((k : Nat) : Int))), (7, .int (zi (t 64 0 k))), (8, .int (zi (t 71 0 k)))] → W p l e ({ frames := 11, cells := 797, slots := 4782, locals := 326 }) s m ([zr ad 0 ((0 : Nat) : Int), zr ad 86 ((0 : Nat) : Int), zr ad 87 ((0 : Nat) : Int), zr ad 88 ((0 : Nat) : Int)] : List Value).toArray below meth c9 H9 locs9 (2 + 14 * k + 12) (12 + 84 * k + 72) (MQ below (zQ G ad A zri (fun r u => 1 = r ∧ pC ad u t nd nr ns c ∧ pHe u t nr ∧ (∀ d, d < 3 → u 88 0 d = ypy t d) ∧ ∀ j, u 86 0 j = σ 86 0 j)) ([zr ad 0 ((0 : Nat) : Int), zr ad 86 ((0 : Nat) : Int), zr ad 87 ((0 : Nat) : Int), zr ad 88 ((0 : Nat) : Int)] : List Value).toArray s 797 4782 A) (F0 m 196 ls []) := by
                              intro  H26 locs26 ls hI196 hW26 hS26 hl
                              have hcut215 : ∀  (H9 : Heap) (locs9 : List Loc) (ls : Array Slot), (True) → ZW G ad A σ3 H9 → va_S A s.heap H9 locs9 → zh ls 9 [(0, zr ad 0 ((0 : Nat) : Int)), (1, zr ad 86 ((0 : Nat) : Int)), (2, zr ad 87 ((0 : Nat) : Int)), (3, zr ad 88 ((0 : Nat) : Int)), (4, .int (zi (pBE t nd nr))), (5, .int (zi 1)), (6, .int (zi ((k : Nat) : Int))), (7, .int (zi (t 64 0 k))), (8, .int (zi (t 71 0 k)))] → W p l e ({ frames := 11, cells := 797, slots := 4782, locals := 326 }) s m ([zr ad 0 ((0 : Nat) : Int), zr ad 86 ((0 : Nat) : Int), zr ad 87 ((0 : Nat) : Int), zr ad 88 ((0 : Nat) : Int)] : List Value).toArray below meth c9 H9 locs9 (2 + 14 * k + 14) (12 + 84 * k + 84) (MQ below (zQ G ad A zri (fun r u => 1 = r ∧ pC ad u t nd nr ns c ∧ pHe u t nr ∧ (∀ d, d < 3 → u 88 0 d = ypy t d) ∧ ∀ j, u 86 0 j = σ 86 0 j)) ([zr ad 0 ((0 : Nat) : Int), zr ad 86 ((0 : Nat) : Int), zr ad 87 ((0 : Nat) : Int), zr ad 88 ((0 : Nat) : Int)] : List Value).toArray s 797 4782 A) (F0 m 215 ls []) := by
                                intro  H27 locs27 ls hI215 hW27 hS27 hl
                                refine zz_iconst hx hb dL_isLawful_215 ?_
                                refine zz_goto (tgt := 220) hx hb dL_isLawful_216 (by decide) ?_
                                refine zz_istore (lv' := [(5, .int (zi 1)), (0, zr ad 0 ((0 : Nat) : Int)), (1, zr ad 86 ((0 : Nat) : Int)), (2, zr ad 87 ((0 : Nat) : Int)), (3, zr ad 88 ((0 : Nat) : Int)), (4, .int (zi (pBE t nd nr))), (6, .int (zi ((k : Nat) : Int))), (7, .int (zi (t 64 0 k))), (8, .int (zi (t 71 0 k)))]) hx hb hl dL_isLawful_220 (by decide) rfl (fun ls hl => ?_)
                                refine zz_aload_n hx hb hl 3 dL_isLawful_222 rfl rfl ?_
                                refine zz_iconst hx hb dL_isLawful_223 ?_
                                refine zz_iload hx hb hl 6 dL_isLawful_224 rfl ?_
                                refine zz_imul hx hb dL_isLawful_226 ?_
                                refine zz_iload hx hb hl 7 dL_isLawful_227 rfl ?_
                                refine zz_iast (y := (t 64 0 k)) hx hb hK hW27 hS27 (zlN hh) rfl rfl rfl (by show (0 : Int) ≤ ((4 * k : Nat) : Int); omega) (by show ((4 * k : Nat) : Int) < (48 : Int); omega) hg64 dL_isLawful_229 (fun H28 locs28 hW28' hS28 => ?_)
                                obtain ⟨σ28, hs28⟩ : ∃ z, z = zu σ3 87 0 (4 * k) (t 64 0 k) := ⟨_, rfl⟩
                                have hW28 : ZW G ad A σ28 H28 := by rw [hs28]; exact hW28'
                                refine zz_aload_n hx hb hl 3 dL_isLawful_230 rfl rfl ?_
                                refine zz_iconst hx hb dL_isLawful_231 ?_
                                refine zz_iload hx hb hl 6 dL_isLawful_232 rfl ?_
                                refine zz_imul hx hb dL_isLawful_234 ?_
                                refine zz_iconst hx hb dL_isLawful_235 ?_
                                refine zz_iadd hx hb dL_isLawful_236 ?_
                                refine zz_iload hx hb hl 8 dL_isLawful_237 rfl ?_
                                refine zz_iast (y := (t 71 0 k)) hx hb hK hW28 hS28 (zlN hh) rfl rfl rfl (by show (0 : Int) ≤ (((4 * k) + 2 : Nat) : Int); omega) (by show (((4 * k) + 2 : Nat) : Int) < (48 : Int); omega) hg71 dL_isLawful_239 (fun H29 locs29 hW29' hS29 => ?_)
                                obtain ⟨σ29, hs29⟩ : ∃ z, z = zu σ28 87 0 ((4 * k) + 2) (t 71 0 k) := ⟨_, rfl⟩
                                have hW29 : ZW G ad A σ29 H29 := by rw [hs29]; exact hW29'
                                refine zz_iinc (lv' := [(6, .int (zi ((k + 1 : Nat) : Int))), (5, .int (zi 1)), (0, zr ad 0 ((0 : Nat) : Int)), (1, zr ad 86 ((0 : Nat) : Int)), (2, zr ad 87 ((0 : Nat) : Int)), (3, zr ad 88 ((0 : Nat) : Int)), (4, .int (zi (pBE t nd nr))), (7, .int (zi (t 64 0 k))), (8, .int (zi (t 71 0 k)))]) hx hb hl dL_isLawful_240 (k0 := 6) rfl (by decide) rfl (fun ls hl => ?_)
                                refine zz_goto (tgt := 25) hx hb dL_isLawful_243 (by decide) ?_
                                refine zw_widen (k := (2 + 14 * (k + 1))) (n := (12 + 84 * (k + 1))) (show _ ≤ _ from by omega) (show _ ≤ _ from by omega) ?_
                                refine ih25 (k + 1) σ29 H29 locs29 ls ?_ (by omega) hW29 hS29 (zh_sub hl [2, 3, 4, 5, 6, 1, 0] rfl)
                                have F87 : ∀ κ i j, ¬ (κ = 87 ∧ i = 0 ∧ (j = 4 * k ∨ j = 4 * k + 2)) → σ29 κ i j = σ3 κ i j := fun κ i j h => by rw [hs29, zu_ne (by omega), hs28, zu_ne (by omega)]
                                have a0 : σ29 87 0 (4 * k) = t 64 0 k := by rw [hs29, zu_s (by omega), hs28, zu_same]
                                have a2 : σ29 87 0 (4 * k + 2) = t 71 0 k := by rw [hs29, zu_same]
                                refine ⟨by omega, pC_hi hCk (fun κ i j h => F87 κ i j (by omega)), fun κ i j h1 h2 => by rw [F87 κ i j (by omega)]; exact hi3 κ i j h1 h2, fun q hq => ?_, fun q h1 h2 => pH1_cg (hi5 q (by omega) h2) (fun j hj => F87 87 0 _ (by omega))⟩
                                rcases Nat.lt_or_ge q k with g | g
                                · exact pH2_cg (hi4 q g) (fun j hj => F87 87 0 _ (by omega))
                                · obtain rfl : q = k := by omega
                                  exact ⟨a0, by rw [F87 87 0 _ (by omega)]; exact hcd.2.2.1, a2, by rw [F87 87 0 _ (by omega)]; exact hcd.2.2.2.1⟩
                              refine zz_iload hx hb hl 7 dL_isLawful_196 rfl ?_
                              refine zz_if_gt (tgt := 215) hx hb dL_isLawful_198 (by decide) hg64 (fun hc198 => ?_) (fun hc198 => ?_)
                              · refine zw_widen (k := (2 + 14 * k + 14)) (n := (12 + 84 * k + 84)) (show _ ≤ _ from by omega) (show _ ≤ _ from by omega) ?_
                                refine hcut215  H26 locs26 ls ?_ hW26 hS26 (zh_sub hl [0, 1, 2, 3, 4, 5, 6, 7, 8] rfl)
                                trivial
                              · refine zz_aload_n hx hb hl 1 dL_isLawful_201 rfl rfl ?_
                                refine zz_iconst hx hb dL_isLawful_202 ?_
                                refine zz_iald (w := t 30 0 1) hx hb hK hW26 (zlN hn) rfl rfl rfl (by show (0 : Int) ≤ 1; omega) (by show 1 < (4 : Int); omega) (show σ3 86 0 1 = t 30 0 1 from by rw [hs1]) dL_isLawful_203 ?_
                                refine zz_aload_n hx hb hl 0 dL_isLawful_204 rfl rfl ?_
                                refine zz_iload hx hb hl 6 dL_isLawful_205 rfl ?_
                                refine zz_bipush hx hb dL_isLawful_207 (by decide +kernel) ?_
                                refine zl_callP (As := [zr (zr8 ad) 0 ((0 : Nat) : Int), .int (zi ((k : Nat) : Int)), .int (zi 6)]) (rest := [.int (zi (t 30 0 1))]) ⟨hx, hb, hml, hown, hts⟩ (cl_requestIs l hst G (zr8 ad) (zcA (zr8 ad) H26.size) H26.size σ3 t nd nr ns c (pC_r8 hCk) hW26.2.2.1 ((k : Nat) : Int) 6 ⟨by omega, by omega⟩ ⟨by decide, by decide⟩) (vx_cwSW 3 hts gL_isLawful_L_requestIs rfl rfl rfl (by decide +kernel) ⟨Nat.le_of_ble_eq_true rfl, Nat.le_of_ble_eq_true rfl⟩) hK hE hAA hNC hW26 hA0 hS26 rfl hl.1.1 rfl (by simp only [List.map, zr_cat, zcat_i]; decide) dL_isLawful_209 ⟨show _ ≤ 797 from by omega, show _ ≤ 4782 from by omega⟩ (fun x30 u30 H30 locs30 hp30 hW30 hz30 hS30 => ?_)
                                rw [pRI_at hkn (by decide), yri_6] at hp30
                                obtain ⟨rfl, rfl⟩ := hp30
                                rw [zg8_self] at hW30
                                refine W.eq (g2 := F0 m 212 ls [.int (zi (t 67 0 k)), .int (zi (t 30 0 1))]) rfl ?_
                                refine zz_icmp_ge (tgt := 219) hx hb dL_isLawful_212 (by decide) ⟨by omega, by omega⟩ hg67 (fun hc212 => ?_) (fun hc212 => ?_)
                                · exfalso; have z0 := hwq.2.2.2.2.2.1.1; have z1 := hun9 (by omega); omega
                                · refine zw_widen (k := (2 + 14 * k + 14)) (n := (12 + 84 * k + 84)) (show _ ≤ _ from by omega) (show _ ≤ _ from by omega) ?_
                                  refine hcut215  H30 locs30 ls ?_ hW30 hS30 (zh_sub hl [0, 1, 2, 3, 4, 5, 6, 7, 8] rfl)
                                  trivial
                            refine zz_aload_n hx hb hl 1 dL_isLawful_179 rfl rfl ?_
                            refine zz_iconst hx hb dL_isLawful_180 ?_
                            refine zz_iald (w := σ 86 0 3) hx hb hK hW25 (zlN hn) rfl rfl rfl (by show (0 : Int) ≤ 3; omega) (by show 3 < (4 : Int); omega) (show σ3 86 0 3 = σ 86 0 3 from by rw [hs3]) dL_isLawful_181 ?_
                            refine zz_iconst hx hb dL_isLawful_182 ?_
                            refine zz_icmp_eq (tgt := 196) hx hb dL_isLawful_183 (by decide) (hW0.2.2.1 _ _ _) ⟨by decide, by decide⟩ (fun hc183 => ?_) (fun hc183 => ?_)
                            · refine zw_widen (k := (2 + 14 * k + 12)) (n := (12 + 84 * k + 72)) (show _ ≤ _ from by omega) (show _ ≤ _ from by omega) ?_
                              refine hcut196  H25 locs25 ls ?_ hW25 hS25 (zh_sub hl [0, 1, 2, 3, 4, 5, 6, 7, 8] rfl)
                              trivial
                            · have hbk9 : ¬ t 71 0 k < t 72 0 k := by
                                rcases hn3 with z9 | z9
                                · exact absurd z9 hc183
                                · by_cases e3 : t 64 0 k = 3
                                  · have := ((hpq.2.1 e3).2).resolve_left z9
                                    omega
                                  · have := hpq.2.2 e3
                                    have := hwq.2.2.2.2.2.2.2.2.2.2.1
                                    omega
                              refine zz_aload_n hx hb hl 0 dL_isLawful_186 rfl rfl ?_
                              refine zz_iload hx hb hl 6 dL_isLawful_187 rfl ?_
                              refine zz_iconst hx hb dL_isLawful_189 ?_
                              refine zl_callP (As := [zr (zr8 ad) 0 ((0 : Nat) : Int), .int (zi ((k : Nat) : Int)), .int (zi 5)]) (rest := []) ⟨hx, hb, hml, hown, hts⟩ (cl_requestIs l hst G (zr8 ad) (zcA (zr8 ad) H25.size) H25.size σ3 t nd nr ns c (pC_r8 hCk) hW25.2.2.1 ((k : Nat) : Int) 5 ⟨by omega, by omega⟩ ⟨by decide, by decide⟩) (vx_cwSW 3 hts gL_isLawful_L_requestIs rfl rfl rfl (by decide +kernel) ⟨Nat.le_of_ble_eq_true rfl, Nat.le_of_ble_eq_true rfl⟩) hK hE hAA hNC hW25 hA0 hS25 rfl hl.1.1 rfl (Nat.le_of_ble_eq_true rfl) dL_isLawful_190 ⟨show _ ≤ 797 from by omega, show _ ≤ 4782 from by omega⟩ (fun x31 u31 H31 locs31 hp31 hW31 hz31 hS31 => ?_)
                              rw [pRI_at hkn (by decide), yri_5] at hp31
                              obtain ⟨rfl, rfl⟩ := hp31
                              rw [zg8_self] at hW31
                              refine W.eq (g2 := F0 m 193 ls [.int (zi (zb (t 71 0 k < t 72 0 k)))]) rfl ?_
                              refine zz_if_neb (tgt := 219) hx hb dL_isLawful_193 (by decide) (fun hc193 => ?_) (fun hc193 => ?_)
                              · exfalso; omega
                              · refine zw_widen (k := (2 + 14 * k + 12)) (n := (12 + 84 * k + 72)) (show _ ≤ _ from by omega) (show _ ≤ _ from by omega) ?_
                                refine hcut196  H31 locs31 ls ?_ hW31 hS31 (zh_sub hl [0, 1, 2, 3, 4, 5, 6, 7, 8] rfl)
                                trivial
                        · refine zz_iconst hx hb dL_isLawful_171 ?_
                          refine zz_goto (tgt := 176) hx hb dL_isLawful_172 (by decide) ?_
                          refine zz_icmp_ne (tgt := 219) hx hb dL_isLawful_176 (by decide) ⟨by decide, by decide⟩ ⟨by decide, by decide⟩ (fun hc176 => ?_) (fun hc176 => ?_)
                          · exfalso; rcases hsd9 with ⟨z1, z2⟩ | ⟨z1, z2⟩ <;> first | omega | exact absurd rfl hc176
                          · have hcut196 : ∀  (H9 : Heap) (locs9 : List Loc) (ls : Array Slot), (True) → ZW G ad A σ3 H9 → va_S A s.heap H9 locs9 → zh ls 9 [(0, zr ad 0 ((0 : Nat) : Int)), (1, zr ad 86 ((0 : Nat) : Int)), (2, zr ad 87 ((0 : Nat) : Int)), (3, zr ad 88 ((0 : Nat) : Int)), (4, .int (zi (pBE t nd nr))), (5, .int (zi 1)), (6, .int (zi ((k : Nat) : Int))), (7, .int (zi (t 64 0 k))), (8, .int (zi (t 71 0 k)))] → W p l e ({ frames := 11, cells := 797, slots := 4782, locals := 326 }) s m ([zr ad 0 ((0 : Nat) : Int), zr ad 86 ((0 : Nat) : Int), zr ad 87 ((0 : Nat) : Int), zr ad 88 ((0 : Nat) : Int)] : List Value).toArray below meth c9 H9 locs9 (2 + 14 * k + 12) (12 + 84 * k + 72) (MQ below (zQ G ad A zri (fun r u => 1 = r ∧ pC ad u t nd nr ns c ∧ pHe u t nr ∧ (∀ d, d < 3 → u 88 0 d = ypy t d) ∧ ∀ j, u 86 0 j = σ 86 0 j)) ([zr ad 0 ((0 : Nat) : Int), zr ad 86 ((0 : Nat) : Int), zr ad 87 ((0 : Nat) : Int), zr ad 88 ((0 : Nat) : Int)] : List Value).toArray s 797 4782 A) (F0 m 196 ls []) := by
                              intro  H32 locs32 ls hI196 hW32 hS32 hl
                              have hcut215 : ∀  (H9 : Heap) (locs9 : List Loc) (ls : Array Slot), (True) → ZW G ad A σ3 H9 → va_S A s.heap H9 locs9 → zh ls 9 [(0, zr ad 0 ((0 : Nat) : Int)), (1, zr ad 86 ((0 : Nat) : Int)), (2, zr ad 87 ((0 : Nat) : Int)), (3, zr ad 88 ((0 : Nat) : Int)), (4, .int (zi (pBE t nd nr))), (5, .int (zi 1)), (6, .int (zi ((k : Nat) : Int))), (7, .int (zi (t 64 0 k))), (8, .int (zi (t 71 0 k)))] → W p l e ({ frames := 11, cells := 797, slots := 4782, locals := 326 }) s m ([zr ad 0 ((0 : Nat) : Int), zr ad 86 ((0 : Nat) : Int), zr ad 87 ((0 : Nat) : Int), zr ad 88 ((0 : Nat) : Int)] : List Value).toArray below meth c9 H9 locs9 (2 + 14 * k + 14) (12 + 84 * k + 84) (MQ below (zQ G ad A zri (fun r u => 1 = r ∧ pC ad u t nd nr ns c ∧ pHe u t nr ∧ (∀ d, d < 3 → u 88 0 d = ypy t d) ∧ ∀ j, u 86 0 j = σ 86 0 j)) ([zr ad 0 ((0 : Nat) : Int), zr ad 86 ((0 : Nat) : Int), zr ad 87 ((0 : Nat) : Int), zr ad 88 ((0 : Nat) : Int)] : List Value).toArray s 797 4782 A) (F0 m 215 ls []) := by
                                intro  H33 locs33 ls hI215 hW33 hS33 hl
                                refine zz_iconst hx hb dL_isLawful_215 ?_
                                refine zz_goto (tgt := 220) hx hb dL_isLawful_216 (by decide) ?_
                                refine zz_istore (lv' := [(5, .int (zi 1)), (0, zr ad 0 ((0 : Nat) : Int)), (1, zr ad 86 ((0 : Nat) : Int)), (2, zr ad 87 ((0 : Nat) : Int)), (3, zr ad 88 ((0 : Nat) : Int)), (4, .int (zi (pBE t nd nr))), (6, .int (zi ((k : Nat) : Int))), (7, .int (zi (t 64 0 k))), (8, .int (zi (t 71 0 k)))]) hx hb hl dL_isLawful_220 (by decide) rfl (fun ls hl => ?_)
                                refine zz_aload_n hx hb hl 3 dL_isLawful_222 rfl rfl ?_
                                refine zz_iconst hx hb dL_isLawful_223 ?_
                                refine zz_iload hx hb hl 6 dL_isLawful_224 rfl ?_
                                refine zz_imul hx hb dL_isLawful_226 ?_
                                refine zz_iload hx hb hl 7 dL_isLawful_227 rfl ?_
                                refine zz_iast (y := (t 64 0 k)) hx hb hK hW33 hS33 (zlN hh) rfl rfl rfl (by show (0 : Int) ≤ ((4 * k : Nat) : Int); omega) (by show ((4 * k : Nat) : Int) < (48 : Int); omega) hg64 dL_isLawful_229 (fun H34 locs34 hW34' hS34 => ?_)
                                obtain ⟨σ34, hs34⟩ : ∃ z, z = zu σ3 87 0 (4 * k) (t 64 0 k) := ⟨_, rfl⟩
                                have hW34 : ZW G ad A σ34 H34 := by rw [hs34]; exact hW34'
                                refine zz_aload_n hx hb hl 3 dL_isLawful_230 rfl rfl ?_
                                refine zz_iconst hx hb dL_isLawful_231 ?_
                                refine zz_iload hx hb hl 6 dL_isLawful_232 rfl ?_
                                refine zz_imul hx hb dL_isLawful_234 ?_
                                refine zz_iconst hx hb dL_isLawful_235 ?_
                                refine zz_iadd hx hb dL_isLawful_236 ?_
                                refine zz_iload hx hb hl 8 dL_isLawful_237 rfl ?_
                                refine zz_iast (y := (t 71 0 k)) hx hb hK hW34 hS34 (zlN hh) rfl rfl rfl (by show (0 : Int) ≤ (((4 * k) + 2 : Nat) : Int); omega) (by show (((4 * k) + 2 : Nat) : Int) < (48 : Int); omega) hg71 dL_isLawful_239 (fun H35 locs35 hW35' hS35 => ?_)
                                obtain ⟨σ35, hs35⟩ : ∃ z, z = zu σ34 87 0 ((4 * k) + 2) (t 71 0 k) := ⟨_, rfl⟩
                                have hW35 : ZW G ad A σ35 H35 := by rw [hs35]; exact hW35'
                                refine zz_iinc (lv' := [(6, .int (zi ((k + 1 : Nat) : Int))), (5, .int (zi 1)), (0, zr ad 0 ((0 : Nat) : Int)), (1, zr ad 86 ((0 : Nat) : Int)), (2, zr ad 87 ((0 : Nat) : Int)), (3, zr ad 88 ((0 : Nat) : Int)), (4, .int (zi (pBE t nd nr))), (7, .int (zi (t 64 0 k))), (8, .int (zi (t 71 0 k)))]) hx hb hl dL_isLawful_240 (k0 := 6) rfl (by decide) rfl (fun ls hl => ?_)
                                refine zz_goto (tgt := 25) hx hb dL_isLawful_243 (by decide) ?_
                                refine zw_widen (k := (2 + 14 * (k + 1))) (n := (12 + 84 * (k + 1))) (show _ ≤ _ from by omega) (show _ ≤ _ from by omega) ?_
                                refine ih25 (k + 1) σ35 H35 locs35 ls ?_ (by omega) hW35 hS35 (zh_sub hl [2, 3, 4, 5, 6, 1, 0] rfl)
                                have F87 : ∀ κ i j, ¬ (κ = 87 ∧ i = 0 ∧ (j = 4 * k ∨ j = 4 * k + 2)) → σ35 κ i j = σ3 κ i j := fun κ i j h => by rw [hs35, zu_ne (by omega), hs34, zu_ne (by omega)]
                                have a0 : σ35 87 0 (4 * k) = t 64 0 k := by rw [hs35, zu_s (by omega), hs34, zu_same]
                                have a2 : σ35 87 0 (4 * k + 2) = t 71 0 k := by rw [hs35, zu_same]
                                refine ⟨by omega, pC_hi hCk (fun κ i j h => F87 κ i j (by omega)), fun κ i j h1 h2 => by rw [F87 κ i j (by omega)]; exact hi3 κ i j h1 h2, fun q hq => ?_, fun q h1 h2 => pH1_cg (hi5 q (by omega) h2) (fun j hj => F87 87 0 _ (by omega))⟩
                                rcases Nat.lt_or_ge q k with g | g
                                · exact pH2_cg (hi4 q g) (fun j hj => F87 87 0 _ (by omega))
                                · obtain rfl : q = k := by omega
                                  exact ⟨a0, by rw [F87 87 0 _ (by omega)]; exact hcd.2.2.1, a2, by rw [F87 87 0 _ (by omega)]; exact hcd.2.2.2.1⟩
                              refine zz_iload hx hb hl 7 dL_isLawful_196 rfl ?_
                              refine zz_if_gt (tgt := 215) hx hb dL_isLawful_198 (by decide) hg64 (fun hc198 => ?_) (fun hc198 => ?_)
                              · refine zw_widen (k := (2 + 14 * k + 14)) (n := (12 + 84 * k + 84)) (show _ ≤ _ from by omega) (show _ ≤ _ from by omega) ?_
                                refine hcut215  H32 locs32 ls ?_ hW32 hS32 (zh_sub hl [0, 1, 2, 3, 4, 5, 6, 7, 8] rfl)
                                trivial
                              · refine zz_aload_n hx hb hl 1 dL_isLawful_201 rfl rfl ?_
                                refine zz_iconst hx hb dL_isLawful_202 ?_
                                refine zz_iald (w := t 30 0 1) hx hb hK hW32 (zlN hn) rfl rfl rfl (by show (0 : Int) ≤ 1; omega) (by show 1 < (4 : Int); omega) (show σ3 86 0 1 = t 30 0 1 from by rw [hs1]) dL_isLawful_203 ?_
                                refine zz_aload_n hx hb hl 0 dL_isLawful_204 rfl rfl ?_
                                refine zz_iload hx hb hl 6 dL_isLawful_205 rfl ?_
                                refine zz_bipush hx hb dL_isLawful_207 (by decide +kernel) ?_
                                refine zl_callP (As := [zr (zr8 ad) 0 ((0 : Nat) : Int), .int (zi ((k : Nat) : Int)), .int (zi 6)]) (rest := [.int (zi (t 30 0 1))]) ⟨hx, hb, hml, hown, hts⟩ (cl_requestIs l hst G (zr8 ad) (zcA (zr8 ad) H32.size) H32.size σ3 t nd nr ns c (pC_r8 hCk) hW32.2.2.1 ((k : Nat) : Int) 6 ⟨by omega, by omega⟩ ⟨by decide, by decide⟩) (vx_cwSW 3 hts gL_isLawful_L_requestIs rfl rfl rfl (by decide +kernel) ⟨Nat.le_of_ble_eq_true rfl, Nat.le_of_ble_eq_true rfl⟩) hK hE hAA hNC hW32 hA0 hS32 rfl hl.1.1 rfl (by simp only [List.map, zr_cat, zcat_i]; decide) dL_isLawful_209 ⟨show _ ≤ 797 from by omega, show _ ≤ 4782 from by omega⟩ (fun x36 u36 H36 locs36 hp36 hW36 hz36 hS36 => ?_)
                                rw [pRI_at hkn (by decide), yri_6] at hp36
                                obtain ⟨rfl, rfl⟩ := hp36
                                rw [zg8_self] at hW36
                                refine W.eq (g2 := F0 m 212 ls [.int (zi (t 67 0 k)), .int (zi (t 30 0 1))]) rfl ?_
                                refine zz_icmp_ge (tgt := 219) hx hb dL_isLawful_212 (by decide) ⟨by omega, by omega⟩ hg67 (fun hc212 => ?_) (fun hc212 => ?_)
                                · exfalso; have z0 := hwq.2.2.2.2.2.1.1; have z1 := hun9 (by omega); omega
                                · refine zw_widen (k := (2 + 14 * k + 14)) (n := (12 + 84 * k + 84)) (show _ ≤ _ from by omega) (show _ ≤ _ from by omega) ?_
                                  refine hcut215  H36 locs36 ls ?_ hW36 hS36 (zh_sub hl [0, 1, 2, 3, 4, 5, 6, 7, 8] rfl)
                                  trivial
                            refine zz_aload_n hx hb hl 1 dL_isLawful_179 rfl rfl ?_
                            refine zz_iconst hx hb dL_isLawful_180 ?_
                            refine zz_iald (w := σ 86 0 3) hx hb hK hW25 (zlN hn) rfl rfl rfl (by show (0 : Int) ≤ 3; omega) (by show 3 < (4 : Int); omega) (show σ3 86 0 3 = σ 86 0 3 from by rw [hs3]) dL_isLawful_181 ?_
                            refine zz_iconst hx hb dL_isLawful_182 ?_
                            refine zz_icmp_eq (tgt := 196) hx hb dL_isLawful_183 (by decide) (hW0.2.2.1 _ _ _) ⟨by decide, by decide⟩ (fun hc183 => ?_) (fun hc183 => ?_)
                            · refine zw_widen (k := (2 + 14 * k + 12)) (n := (12 + 84 * k + 72)) (show _ ≤ _ from by omega) (show _ ≤ _ from by omega) ?_
                              refine hcut196  H25 locs25 ls ?_ hW25 hS25 (zh_sub hl [0, 1, 2, 3, 4, 5, 6, 7, 8] rfl)
                              trivial
                            · have hbk9 : ¬ t 71 0 k < t 72 0 k := by
                                rcases hn3 with z9 | z9
                                · exact absurd z9 hc183
                                · by_cases e3 : t 64 0 k = 3
                                  · have := ((hpq.2.1 e3).2).resolve_left z9
                                    omega
                                  · have := hpq.2.2 e3
                                    have := hwq.2.2.2.2.2.2.2.2.2.2.1
                                    omega
                              refine zz_aload_n hx hb hl 0 dL_isLawful_186 rfl rfl ?_
                              refine zz_iload hx hb hl 6 dL_isLawful_187 rfl ?_
                              refine zz_iconst hx hb dL_isLawful_189 ?_
                              refine zl_callP (As := [zr (zr8 ad) 0 ((0 : Nat) : Int), .int (zi ((k : Nat) : Int)), .int (zi 5)]) (rest := []) ⟨hx, hb, hml, hown, hts⟩ (cl_requestIs l hst G (zr8 ad) (zcA (zr8 ad) H25.size) H25.size σ3 t nd nr ns c (pC_r8 hCk) hW25.2.2.1 ((k : Nat) : Int) 5 ⟨by omega, by omega⟩ ⟨by decide, by decide⟩) (vx_cwSW 3 hts gL_isLawful_L_requestIs rfl rfl rfl (by decide +kernel) ⟨Nat.le_of_ble_eq_true rfl, Nat.le_of_ble_eq_true rfl⟩) hK hE hAA hNC hW25 hA0 hS25 rfl hl.1.1 rfl (Nat.le_of_ble_eq_true rfl) dL_isLawful_190 ⟨show _ ≤ 797 from by omega, show _ ≤ 4782 from by omega⟩ (fun x37 u37 H37 locs37 hp37 hW37 hz37 hS37 => ?_)
                              rw [pRI_at hkn (by decide), yri_5] at hp37
                              obtain ⟨rfl, rfl⟩ := hp37
                              rw [zg8_self] at hW37
                              refine W.eq (g2 := F0 m 193 ls [.int (zi (zb (t 71 0 k < t 72 0 k)))]) rfl ?_
                              refine zz_if_neb (tgt := 219) hx hb dL_isLawful_193 (by decide) (fun hc193 => ?_) (fun hc193 => ?_)
                              · exfalso; omega
                              · refine zw_widen (k := (2 + 14 * k + 12)) (n := (12 + 84 * k + 72)) (show _ ≤ _ from by omega) (show _ ≤ _ from by omega) ?_
                                refine hcut196  H37 locs37 ls ?_ hW37 hS37 (zh_sub hl [0, 1, 2, 3, 4, 5, 6, 7, 8] rfl)
                                trivial
                      · refine zz_iconst hx hb dL_isLawful_160 ?_
                        refine zz_goto (tgt := 165) hx hb dL_isLawful_161 (by decide) ?_
                        refine zz_iload hx hb hl 7 dL_isLawful_165 rfl ?_
                        refine zz_iconst hx hb dL_isLawful_167 ?_
                        refine zz_icmp_ne (tgt := 175) hx hb dL_isLawful_168 (by decide) hg64 ⟨by decide, by decide⟩ (fun hc168 => ?_) (fun hc168 => ?_)
                        · refine zz_iconst hx hb dL_isLawful_175 ?_
                          refine zz_icmp_ne (tgt := 219) hx hb dL_isLawful_176 (by decide) ⟨by decide, by decide⟩ ⟨by decide, by decide⟩ (fun hc176 => ?_) (fun hc176 => ?_)
                          · exfalso; rcases hsd9 with ⟨z1, z2⟩ | ⟨z1, z2⟩ <;> first | omega | exact absurd rfl hc176
                          · have hcut196 : ∀  (H9 : Heap) (locs9 : List Loc) (ls : Array Slot), (True) → ZW G ad A σ3 H9 → va_S A s.heap H9 locs9 → zh ls 9 [(0, zr ad 0 ((0 : Nat) : Int)), (1, zr ad 86 ((0 : Nat) : Int)), (2, zr ad 87 ((0 : Nat) : Int)), (3, zr ad 88 ((0 : Nat) : Int)), (4, .int (zi (pBE t nd nr))), (5, .int (zi 1)), (6, .int (zi ((k : Nat) : Int))), (7, .int (zi (t 64 0 k))), (8, .int (zi (t 71 0 k)))] → W p l e ({ frames := 11, cells := 797, slots := 4782, locals := 326 }) s m ([zr ad 0 ((0 : Nat) : Int), zr ad 86 ((0 : Nat) : Int), zr ad 87 ((0 : Nat) : Int), zr ad 88 ((0 : Nat) : Int)] : List Value).toArray below meth c9 H9 locs9 (2 + 14 * k + 12) (12 + 84 * k + 72) (MQ below (zQ G ad A zri (fun r u => 1 = r ∧ pC ad u t nd nr ns c ∧ pHe u t nr ∧ (∀ d, d < 3 → u 88 0 d = ypy t d) ∧ ∀ j, u 86 0 j = σ 86 0 j)) ([zr ad 0 ((0 : Nat) : Int), zr ad 86 ((0 : Nat) : Int), zr ad 87 ((0 : Nat) : Int), zr ad 88 ((0 : Nat) : Int)] : List Value).toArray s 797 4782 A) (F0 m 196 ls []) := by
                              intro  H38 locs38 ls hI196 hW38 hS38 hl
                              have hcut215 : ∀  (H9 : Heap) (locs9 : List Loc) (ls : Array Slot), (True) → ZW G ad A σ3 H9 → va_S A s.heap H9 locs9 → zh ls 9 [(0, zr ad 0 ((0 : Nat) : Int)), (1, zr ad 86 ((0 : Nat) : Int)), (2, zr ad 87 ((0 : Nat) : Int)), (3, zr ad 88 ((0 : Nat) : Int)), (4, .int (zi (pBE t nd nr))), (5, .int (zi 1)), (6, .int (zi ((k : Nat) : Int))), (7, .int (zi (t 64 0 k))), (8, .int (zi (t 71 0 k)))] → W p l e ({ frames := 11, cells := 797, slots := 4782, locals := 326 }) s m ([zr ad 0 ((0 : Nat) : Int), zr ad 86 ((0 : Nat) : Int), zr ad 87 ((0 : Nat) : Int), zr ad 88 ((0 : Nat) : Int)] : List Value).toArray below meth c9 H9 locs9 (2 + 14 * k + 14) (12 + 84 * k + 84) (MQ below (zQ G ad A zri (fun r u => 1 = r ∧ pC ad u t nd nr ns c ∧ pHe u t nr ∧ (∀ d, d < 3 → u 88 0 d = ypy t d) ∧ ∀ j, u 86 0 j = σ 86 0 j)) ([zr ad 0 ((0 : Nat) : Int), zr ad 86 ((0 : Nat) : Int), zr ad 87 ((0 : Nat) : Int), zr ad 88 ((0 : Nat) : Int)] : List Value).toArray s 797 4782 A) (F0 m 215 ls []) := by
                                intro  H39 locs39 ls hI215 hW39 hS39 hl
                                refine zz_iconst hx hb dL_isLawful_215 ?_
                                refine zz_goto (tgt := 220) hx hb dL_isLawful_216 (by decide) ?_
                                refine zz_istore (lv' := [(5, .int (zi 1)), (0, zr ad 0 ((0 : Nat) : Int)), (1, zr ad 86 ((0 : Nat) : Int)), (2, zr ad 87 ((0 : Nat) : Int)), (3, zr ad 88 ((0 : Nat) : Int)), (4, .int (zi (pBE t nd nr))), (6, .int (zi ((k : Nat) : Int))), (7, .int (zi (t 64 0 k))), (8, .int (zi (t 71 0 k)))]) hx hb hl dL_isLawful_220 (by decide) rfl (fun ls hl => ?_)
                                refine zz_aload_n hx hb hl 3 dL_isLawful_222 rfl rfl ?_
                                refine zz_iconst hx hb dL_isLawful_223 ?_
                                refine zz_iload hx hb hl 6 dL_isLawful_224 rfl ?_
                                refine zz_imul hx hb dL_isLawful_226 ?_
                                refine zz_iload hx hb hl 7 dL_isLawful_227 rfl ?_
                                refine zz_iast (y := (t 64 0 k)) hx hb hK hW39 hS39 (zlN hh) rfl rfl rfl (by show (0 : Int) ≤ ((4 * k : Nat) : Int); omega) (by show ((4 * k : Nat) : Int) < (48 : Int); omega) hg64 dL_isLawful_229 (fun H40 locs40 hW40' hS40 => ?_)
                                obtain ⟨σ40, hs40⟩ : ∃ z, z = zu σ3 87 0 (4 * k) (t 64 0 k) := ⟨_, rfl⟩
                                have hW40 : ZW G ad A σ40 H40 := by rw [hs40]; exact hW40'
                                refine zz_aload_n hx hb hl 3 dL_isLawful_230 rfl rfl ?_
                                refine zz_iconst hx hb dL_isLawful_231 ?_
                                refine zz_iload hx hb hl 6 dL_isLawful_232 rfl ?_
                                refine zz_imul hx hb dL_isLawful_234 ?_
                                refine zz_iconst hx hb dL_isLawful_235 ?_
                                refine zz_iadd hx hb dL_isLawful_236 ?_
                                refine zz_iload hx hb hl 8 dL_isLawful_237 rfl ?_
                                refine zz_iast (y := (t 71 0 k)) hx hb hK hW40 hS40 (zlN hh) rfl rfl rfl (by show (0 : Int) ≤ (((4 * k) + 2 : Nat) : Int); omega) (by show (((4 * k) + 2 : Nat) : Int) < (48 : Int); omega) hg71 dL_isLawful_239 (fun H41 locs41 hW41' hS41 => ?_)
                                obtain ⟨σ41, hs41⟩ : ∃ z, z = zu σ40 87 0 ((4 * k) + 2) (t 71 0 k) := ⟨_, rfl⟩
                                have hW41 : ZW G ad A σ41 H41 := by rw [hs41]; exact hW41'
                                refine zz_iinc (lv' := [(6, .int (zi ((k + 1 : Nat) : Int))), (5, .int (zi 1)), (0, zr ad 0 ((0 : Nat) : Int)), (1, zr ad 86 ((0 : Nat) : Int)), (2, zr ad 87 ((0 : Nat) : Int)), (3, zr ad 88 ((0 : Nat) : Int)), (4, .int (zi (pBE t nd nr))), (7, .int (zi (t 64 0 k))), (8, .int (zi (t 71 0 k)))]) hx hb hl dL_isLawful_240 (k0 := 6) rfl (by decide) rfl (fun ls hl => ?_)
                                refine zz_goto (tgt := 25) hx hb dL_isLawful_243 (by decide) ?_
                                refine zw_widen (k := (2 + 14 * (k + 1))) (n := (12 + 84 * (k + 1))) (show _ ≤ _ from by omega) (show _ ≤ _ from by omega) ?_
                                refine ih25 (k + 1) σ41 H41 locs41 ls ?_ (by omega) hW41 hS41 (zh_sub hl [2, 3, 4, 5, 6, 1, 0] rfl)
                                have F87 : ∀ κ i j, ¬ (κ = 87 ∧ i = 0 ∧ (j = 4 * k ∨ j = 4 * k + 2)) → σ41 κ i j = σ3 κ i j := fun κ i j h => by rw [hs41, zu_ne (by omega), hs40, zu_ne (by omega)]
                                have a0 : σ41 87 0 (4 * k) = t 64 0 k := by rw [hs41, zu_s (by omega), hs40, zu_same]
                                have a2 : σ41 87 0 (4 * k + 2) = t 71 0 k := by rw [hs41, zu_same]
                                refine ⟨by omega, pC_hi hCk (fun κ i j h => F87 κ i j (by omega)), fun κ i j h1 h2 => by rw [F87 κ i j (by omega)]; exact hi3 κ i j h1 h2, fun q hq => ?_, fun q h1 h2 => pH1_cg (hi5 q (by omega) h2) (fun j hj => F87 87 0 _ (by omega))⟩
                                rcases Nat.lt_or_ge q k with g | g
                                · exact pH2_cg (hi4 q g) (fun j hj => F87 87 0 _ (by omega))
                                · obtain rfl : q = k := by omega
                                  exact ⟨a0, by rw [F87 87 0 _ (by omega)]; exact hcd.2.2.1, a2, by rw [F87 87 0 _ (by omega)]; exact hcd.2.2.2.1⟩
                              refine zz_iload hx hb hl 7 dL_isLawful_196 rfl ?_
                              refine zz_if_gt (tgt := 215) hx hb dL_isLawful_198 (by decide) hg64 (fun hc198 => ?_) (fun hc198 => ?_)
                              · refine zw_widen (k := (2 + 14 * k + 14)) (n := (12 + 84 * k + 84)) (show _ ≤ _ from by omega) (show _ ≤ _ from by omega) ?_
                                refine hcut215  H38 locs38 ls ?_ hW38 hS38 (zh_sub hl [0, 1, 2, 3, 4, 5, 6, 7, 8] rfl)
                                trivial
                              · refine zz_aload_n hx hb hl 1 dL_isLawful_201 rfl rfl ?_
                                refine zz_iconst hx hb dL_isLawful_202 ?_
                                refine zz_iald (w := t 30 0 1) hx hb hK hW38 (zlN hn) rfl rfl rfl (by show (0 : Int) ≤ 1; omega) (by show 1 < (4 : Int); omega) (show σ3 86 0 1 = t 30 0 1 from by rw [hs1]) dL_isLawful_203 ?_
                                refine zz_aload_n hx hb hl 0 dL_isLawful_204 rfl rfl ?_
                                refine zz_iload hx hb hl 6 dL_isLawful_205 rfl ?_
                                refine zz_bipush hx hb dL_isLawful_207 (by decide +kernel) ?_
                                refine zl_callP (As := [zr (zr8 ad) 0 ((0 : Nat) : Int), .int (zi ((k : Nat) : Int)), .int (zi 6)]) (rest := [.int (zi (t 30 0 1))]) ⟨hx, hb, hml, hown, hts⟩ (cl_requestIs l hst G (zr8 ad) (zcA (zr8 ad) H38.size) H38.size σ3 t nd nr ns c (pC_r8 hCk) hW38.2.2.1 ((k : Nat) : Int) 6 ⟨by omega, by omega⟩ ⟨by decide, by decide⟩) (vx_cwSW 3 hts gL_isLawful_L_requestIs rfl rfl rfl (by decide +kernel) ⟨Nat.le_of_ble_eq_true rfl, Nat.le_of_ble_eq_true rfl⟩) hK hE hAA hNC hW38 hA0 hS38 rfl hl.1.1 rfl (by simp only [List.map, zr_cat, zcat_i]; decide) dL_isLawful_209 ⟨show _ ≤ 797 from by omega, show _ ≤ 4782 from by omega⟩ (fun x42 u42 H42 locs42 hp42 hW42 hz42 hS42 => ?_)
                                rw [pRI_at hkn (by decide), yri_6] at hp42
                                obtain ⟨rfl, rfl⟩ := hp42
                                rw [zg8_self] at hW42
                                refine W.eq (g2 := F0 m 212 ls [.int (zi (t 67 0 k)), .int (zi (t 30 0 1))]) rfl ?_
                                refine zz_icmp_ge (tgt := 219) hx hb dL_isLawful_212 (by decide) ⟨by omega, by omega⟩ hg67 (fun hc212 => ?_) (fun hc212 => ?_)
                                · exfalso; have z0 := hwq.2.2.2.2.2.1.1; have z1 := hun9 (by omega); omega
                                · refine zw_widen (k := (2 + 14 * k + 14)) (n := (12 + 84 * k + 84)) (show _ ≤ _ from by omega) (show _ ≤ _ from by omega) ?_
                                  refine hcut215  H42 locs42 ls ?_ hW42 hS42 (zh_sub hl [0, 1, 2, 3, 4, 5, 6, 7, 8] rfl)
                                  trivial
                            refine zz_aload_n hx hb hl 1 dL_isLawful_179 rfl rfl ?_
                            refine zz_iconst hx hb dL_isLawful_180 ?_
                            refine zz_iald (w := σ 86 0 3) hx hb hK hW25 (zlN hn) rfl rfl rfl (by show (0 : Int) ≤ 3; omega) (by show 3 < (4 : Int); omega) (show σ3 86 0 3 = σ 86 0 3 from by rw [hs3]) dL_isLawful_181 ?_
                            refine zz_iconst hx hb dL_isLawful_182 ?_
                            refine zz_icmp_eq (tgt := 196) hx hb dL_isLawful_183 (by decide) (hW0.2.2.1 _ _ _) ⟨by decide, by decide⟩ (fun hc183 => ?_) (fun hc183 => ?_)
                            · refine zw_widen (k := (2 + 14 * k + 12)) (n := (12 + 84 * k + 72)) (show _ ≤ _ from by omega) (show _ ≤ _ from by omega) ?_
                              refine hcut196  H25 locs25 ls ?_ hW25 hS25 (zh_sub hl [0, 1, 2, 3, 4, 5, 6, 7, 8] rfl)
                              trivial
                            · have hbk9 : ¬ t 71 0 k < t 72 0 k := by
                                rcases hn3 with z9 | z9
                                · exact absurd z9 hc183
                                · by_cases e3 : t 64 0 k = 3
                                  · have := ((hpq.2.1 e3).2).resolve_left z9
                                    omega
                                  · have := hpq.2.2 e3
                                    have := hwq.2.2.2.2.2.2.2.2.2.2.1
                                    omega
                              refine zz_aload_n hx hb hl 0 dL_isLawful_186 rfl rfl ?_
                              refine zz_iload hx hb hl 6 dL_isLawful_187 rfl ?_
                              refine zz_iconst hx hb dL_isLawful_189 ?_
                              refine zl_callP (As := [zr (zr8 ad) 0 ((0 : Nat) : Int), .int (zi ((k : Nat) : Int)), .int (zi 5)]) (rest := []) ⟨hx, hb, hml, hown, hts⟩ (cl_requestIs l hst G (zr8 ad) (zcA (zr8 ad) H25.size) H25.size σ3 t nd nr ns c (pC_r8 hCk) hW25.2.2.1 ((k : Nat) : Int) 5 ⟨by omega, by omega⟩ ⟨by decide, by decide⟩) (vx_cwSW 3 hts gL_isLawful_L_requestIs rfl rfl rfl (by decide +kernel) ⟨Nat.le_of_ble_eq_true rfl, Nat.le_of_ble_eq_true rfl⟩) hK hE hAA hNC hW25 hA0 hS25 rfl hl.1.1 rfl (Nat.le_of_ble_eq_true rfl) dL_isLawful_190 ⟨show _ ≤ 797 from by omega, show _ ≤ 4782 from by omega⟩ (fun x43 u43 H43 locs43 hp43 hW43 hz43 hS43 => ?_)
                              rw [pRI_at hkn (by decide), yri_5] at hp43
                              obtain ⟨rfl, rfl⟩ := hp43
                              rw [zg8_self] at hW43
                              refine W.eq (g2 := F0 m 193 ls [.int (zi (zb (t 71 0 k < t 72 0 k)))]) rfl ?_
                              refine zz_if_neb (tgt := 219) hx hb dL_isLawful_193 (by decide) (fun hc193 => ?_) (fun hc193 => ?_)
                              · exfalso; omega
                              · refine zw_widen (k := (2 + 14 * k + 12)) (n := (12 + 84 * k + 72)) (show _ ≤ _ from by omega) (show _ ≤ _ from by omega) ?_
                                refine hcut196  H43 locs43 ls ?_ hW43 hS43 (zh_sub hl [0, 1, 2, 3, 4, 5, 6, 7, 8] rfl)
                                trivial
                        · refine zz_iconst hx hb dL_isLawful_171 ?_
                          refine zz_goto (tgt := 176) hx hb dL_isLawful_172 (by decide) ?_
                          refine zz_icmp_ne (tgt := 219) hx hb dL_isLawful_176 (by decide) ⟨by decide, by decide⟩ ⟨by decide, by decide⟩ (fun hc176 => ?_) (fun hc176 => ?_)
                          · exfalso; rcases hsd9 with ⟨z1, z2⟩ | ⟨z1, z2⟩ <;> first | omega | exact absurd rfl hc176
                          · have hcut196 : ∀  (H9 : Heap) (locs9 : List Loc) (ls : Array Slot), (True) → ZW G ad A σ3 H9 → va_S A s.heap H9 locs9 → zh ls 9 [(0, zr ad 0 ((0 : Nat) : Int)), (1, zr ad 86 ((0 : Nat) : Int)), (2, zr ad 87 ((0 : Nat) : Int)), (3, zr ad 88 ((0 : Nat) : Int)), (4, .int (zi (pBE t nd nr))), (5, .int (zi 1)), (6, .int (zi ((k : Nat) : Int))), (7, .int (zi (t 64 0 k))), (8, .int (zi (t 71 0 k)))] → W p l e ({ frames := 11, cells := 797, slots := 4782, locals := 326 }) s m ([zr ad 0 ((0 : Nat) : Int), zr ad 86 ((0 : Nat) : Int), zr ad 87 ((0 : Nat) : Int), zr ad 88 ((0 : Nat) : Int)] : List Value).toArray below meth c9 H9 locs9 (2 + 14 * k + 12) (12 + 84 * k + 72) (MQ below (zQ G ad A zri (fun r u => 1 = r ∧ pC ad u t nd nr ns c ∧ pHe u t nr ∧ (∀ d, d < 3 → u 88 0 d = ypy t d) ∧ ∀ j, u 86 0 j = σ 86 0 j)) ([zr ad 0 ((0 : Nat) : Int), zr ad 86 ((0 : Nat) : Int), zr ad 87 ((0 : Nat) : Int), zr ad 88 ((0 : Nat) : Int)] : List Value).toArray s 797 4782 A) (F0 m 196 ls []) := by
                              intro  H44 locs44 ls hI196 hW44 hS44 hl
                              have hcut215 : ∀  (H9 : Heap) (locs9 : List Loc) (ls : Array Slot), (True) → ZW G ad A σ3 H9 → va_S A s.heap H9 locs9 → zh ls 9 [(0, zr ad 0 ((0 : Nat) : Int)), (1, zr ad 86 ((0 : Nat) : Int)), (2, zr ad 87 ((0 : Nat) : Int)), (3, zr ad 88 ((0 : Nat) : Int)), (4, .int (zi (pBE t nd nr))), (5, .int (zi 1)), (6, .int (zi ((k : Nat) : Int))), (7, .int (zi (t 64 0 k))), (8, .int (zi (t 71 0 k)))] → W p l e ({ frames := 11, cells := 797, slots := 4782, locals := 326 }) s m ([zr ad 0 ((0 : Nat) : Int), zr ad 86 ((0 : Nat) : Int), zr ad 87 ((0 : Nat) : Int), zr ad 88 ((0 : Nat) : Int)] : List Value).toArray below meth c9 H9 locs9 (2 + 14 * k + 14) (12 + 84 * k + 84) (MQ below (zQ G ad A zri (fun r u => 1 = r ∧ pC ad u t nd nr ns c ∧ pHe u t nr ∧ (∀ d, d < 3 → u 88 0 d = ypy t d) ∧ ∀ j, u 86 0 j = σ 86 0 j)) ([zr ad 0 ((0 : Nat) : Int), zr ad 86 ((0 : Nat) : Int), zr ad 87 ((0 : Nat) : Int), zr ad 88 ((0 : Nat) : Int)] : List Value).toArray s 797 4782 A) (F0 m 215 ls []) := by
                                intro  H45 locs45 ls hI215 hW45 hS45 hl
                                refine zz_iconst hx hb dL_isLawful_215 ?_
                                refine zz_goto (tgt := 220) hx hb dL_isLawful_216 (by decide) ?_
                                refine zz_istore (lv' := [(5, .int (zi 1)), (0, zr ad 0 ((0 : Nat) : Int)), (1, zr ad 86 ((0 : Nat) : Int)), (2, zr ad 87 ((0 : Nat) : Int)), (3, zr ad 88 ((0 : Nat) : Int)), (4, .int (zi (pBE t nd nr))), (6, .int (zi ((k : Nat) : Int))), (7, .int (zi (t 64 0 k))), (8, .int (zi (t 71 0 k)))]) hx hb hl dL_isLawful_220 (by decide) rfl (fun ls hl => ?_)
                                refine zz_aload_n hx hb hl 3 dL_isLawful_222 rfl rfl ?_
                                refine zz_iconst hx hb dL_isLawful_223 ?_
                                refine zz_iload hx hb hl 6 dL_isLawful_224 rfl ?_
                                refine zz_imul hx hb dL_isLawful_226 ?_
                                refine zz_iload hx hb hl 7 dL_isLawful_227 rfl ?_
                                refine zz_iast (y := (t 64 0 k)) hx hb hK hW45 hS45 (zlN hh) rfl rfl rfl (by show (0 : Int) ≤ ((4 * k : Nat) : Int); omega) (by show ((4 * k : Nat) : Int) < (48 : Int); omega) hg64 dL_isLawful_229 (fun H46 locs46 hW46' hS46 => ?_)
                                obtain ⟨σ46, hs46⟩ : ∃ z, z = zu σ3 87 0 (4 * k) (t 64 0 k) := ⟨_, rfl⟩
                                have hW46 : ZW G ad A σ46 H46 := by rw [hs46]; exact hW46'
                                refine zz_aload_n hx hb hl 3 dL_isLawful_230 rfl rfl ?_
                                refine zz_iconst hx hb dL_isLawful_231 ?_
                                refine zz_iload hx hb hl 6 dL_isLawful_232 rfl ?_
                                refine zz_imul hx hb dL_isLawful_234 ?_
                                refine zz_iconst hx hb dL_isLawful_235 ?_
                                refine zz_iadd hx hb dL_isLawful_236 ?_
                                refine zz_iload hx hb hl 8 dL_isLawful_237 rfl ?_
                                refine zz_iast (y := (t 71 0 k)) hx hb hK hW46 hS46 (zlN hh) rfl rfl rfl (by show (0 : Int) ≤ (((4 * k) + 2 : Nat) : Int); omega) (by show (((4 * k) + 2 : Nat) : Int) < (48 : Int); omega) hg71 dL_isLawful_239 (fun H47 locs47 hW47' hS47 => ?_)
                                obtain ⟨σ47, hs47⟩ : ∃ z, z = zu σ46 87 0 ((4 * k) + 2) (t 71 0 k) := ⟨_, rfl⟩
                                have hW47 : ZW G ad A σ47 H47 := by rw [hs47]; exact hW47'
                                refine zz_iinc (lv' := [(6, .int (zi ((k + 1 : Nat) : Int))), (5, .int (zi 1)), (0, zr ad 0 ((0 : Nat) : Int)), (1, zr ad 86 ((0 : Nat) : Int)), (2, zr ad 87 ((0 : Nat) : Int)), (3, zr ad 88 ((0 : Nat) : Int)), (4, .int (zi (pBE t nd nr))), (7, .int (zi (t 64 0 k))), (8, .int (zi (t 71 0 k)))]) hx hb hl dL_isLawful_240 (k0 := 6) rfl (by decide) rfl (fun ls hl => ?_)
                                refine zz_goto (tgt := 25) hx hb dL_isLawful_243 (by decide) ?_
                                refine zw_widen (k := (2 + 14 * (k + 1))) (n := (12 + 84 * (k + 1))) (show _ ≤ _ from by omega) (show _ ≤ _ from by omega) ?_
                                refine ih25 (k + 1) σ47 H47 locs47 ls ?_ (by omega) hW47 hS47 (zh_sub hl [2, 3, 4, 5, 6, 1, 0] rfl)
                                have F87 : ∀ κ i j, ¬ (κ = 87 ∧ i = 0 ∧ (j = 4 * k ∨ j = 4 * k + 2)) → σ47 κ i j = σ3 κ i j := fun κ i j h => by rw [hs47, zu_ne (by omega), hs46, zu_ne (by omega)]
                                have a0 : σ47 87 0 (4 * k) = t 64 0 k := by rw [hs47, zu_s (by omega), hs46, zu_same]
                                have a2 : σ47 87 0 (4 * k + 2) = t 71 0 k := by rw [hs47, zu_same]
                                refine ⟨by omega, pC_hi hCk (fun κ i j h => F87 κ i j (by omega)), fun κ i j h1 h2 => by rw [F87 κ i j (by omega)]; exact hi3 κ i j h1 h2, fun q hq => ?_, fun q h1 h2 => pH1_cg (hi5 q (by omega) h2) (fun j hj => F87 87 0 _ (by omega))⟩
                                rcases Nat.lt_or_ge q k with g | g
                                · exact pH2_cg (hi4 q g) (fun j hj => F87 87 0 _ (by omega))
                                · obtain rfl : q = k := by omega
                                  exact ⟨a0, by rw [F87 87 0 _ (by omega)]; exact hcd.2.2.1, a2, by rw [F87 87 0 _ (by omega)]; exact hcd.2.2.2.1⟩
                              refine zz_iload hx hb hl 7 dL_isLawful_196 rfl ?_
                              refine zz_if_gt (tgt := 215) hx hb dL_isLawful_198 (by decide) hg64 (fun hc198 => ?_) (fun hc198 => ?_)
                              · refine zw_widen (k := (2 + 14 * k + 14)) (n := (12 + 84 * k + 84)) (show _ ≤ _ from by omega) (show _ ≤ _ from by omega) ?_
                                refine hcut215  H44 locs44 ls ?_ hW44 hS44 (zh_sub hl [0, 1, 2, 3, 4, 5, 6, 7, 8] rfl)
                                trivial
                              · refine zz_aload_n hx hb hl 1 dL_isLawful_201 rfl rfl ?_
                                refine zz_iconst hx hb dL_isLawful_202 ?_
                                refine zz_iald (w := t 30 0 1) hx hb hK hW44 (zlN hn) rfl rfl rfl (by show (0 : Int) ≤ 1; omega) (by show 1 < (4 : Int); omega) (show σ3 86 0 1 = t 30 0 1 from by rw [hs1]) dL_isLawful_203 ?_
                                refine zz_aload_n hx hb hl 0 dL_isLawful_204 rfl rfl ?_
                                refine zz_iload hx hb hl 6 dL_isLawful_205 rfl ?_
                                refine zz_bipush hx hb dL_isLawful_207 (by decide +kernel) ?_
                                refine zl_callP (As := [zr (zr8 ad) 0 ((0 : Nat) : Int), .int (zi ((k : Nat) : Int)), .int (zi 6)]) (rest := [.int (zi (t 30 0 1))]) ⟨hx, hb, hml, hown, hts⟩ (cl_requestIs l hst G (zr8 ad) (zcA (zr8 ad) H44.size) H44.size σ3 t nd nr ns c (pC_r8 hCk) hW44.2.2.1 ((k : Nat) : Int) 6 ⟨by omega, by omega⟩ ⟨by decide, by decide⟩) (vx_cwSW 3 hts gL_isLawful_L_requestIs rfl rfl rfl (by decide +kernel) ⟨Nat.le_of_ble_eq_true rfl, Nat.le_of_ble_eq_true rfl⟩) hK hE hAA hNC hW44 hA0 hS44 rfl hl.1.1 rfl (by simp only [List.map, zr_cat, zcat_i]; decide) dL_isLawful_209 ⟨show _ ≤ 797 from by omega, show _ ≤ 4782 from by omega⟩ (fun x48 u48 H48 locs48 hp48 hW48 hz48 hS48 => ?_)
                                rw [pRI_at hkn (by decide), yri_6] at hp48
                                obtain ⟨rfl, rfl⟩ := hp48
                                rw [zg8_self] at hW48
                                refine W.eq (g2 := F0 m 212 ls [.int (zi (t 67 0 k)), .int (zi (t 30 0 1))]) rfl ?_
                                refine zz_icmp_ge (tgt := 219) hx hb dL_isLawful_212 (by decide) ⟨by omega, by omega⟩ hg67 (fun hc212 => ?_) (fun hc212 => ?_)
                                · exfalso; have z0 := hwq.2.2.2.2.2.1.1; have z1 := hun9 (by omega); omega
                                · refine zw_widen (k := (2 + 14 * k + 14)) (n := (12 + 84 * k + 84)) (show _ ≤ _ from by omega) (show _ ≤ _ from by omega) ?_
                                  refine hcut215  H48 locs48 ls ?_ hW48 hS48 (zh_sub hl [0, 1, 2, 3, 4, 5, 6, 7, 8] rfl)
                                  trivial
                            refine zz_aload_n hx hb hl 1 dL_isLawful_179 rfl rfl ?_
                            refine zz_iconst hx hb dL_isLawful_180 ?_
                            refine zz_iald (w := σ 86 0 3) hx hb hK hW25 (zlN hn) rfl rfl rfl (by show (0 : Int) ≤ 3; omega) (by show 3 < (4 : Int); omega) (show σ3 86 0 3 = σ 86 0 3 from by rw [hs3]) dL_isLawful_181 ?_
                            refine zz_iconst hx hb dL_isLawful_182 ?_
                            refine zz_icmp_eq (tgt := 196) hx hb dL_isLawful_183 (by decide) (hW0.2.2.1 _ _ _) ⟨by decide, by decide⟩ (fun hc183 => ?_) (fun hc183 => ?_)
                            · refine zw_widen (k := (2 + 14 * k + 12)) (n := (12 + 84 * k + 72)) (show _ ≤ _ from by omega) (show _ ≤ _ from by omega) ?_
                              refine hcut196  H25 locs25 ls ?_ hW25 hS25 (zh_sub hl [0, 1, 2, 3, 4, 5, 6, 7, 8] rfl)
                              trivial
                            · have hbk9 : ¬ t 71 0 k < t 72 0 k := by
                                rcases hn3 with z9 | z9
                                · exact absurd z9 hc183
                                · by_cases e3 : t 64 0 k = 3
                                  · have := ((hpq.2.1 e3).2).resolve_left z9
                                    omega
                                  · have := hpq.2.2 e3
                                    have := hwq.2.2.2.2.2.2.2.2.2.2.1
                                    omega
                              refine zz_aload_n hx hb hl 0 dL_isLawful_186 rfl rfl ?_
                              refine zz_iload hx hb hl 6 dL_isLawful_187 rfl ?_
                              refine zz_iconst hx hb dL_isLawful_189 ?_
                              refine zl_callP (As := [zr (zr8 ad) 0 ((0 : Nat) : Int), .int (zi ((k : Nat) : Int)), .int (zi 5)]) (rest := []) ⟨hx, hb, hml, hown, hts⟩ (cl_requestIs l hst G (zr8 ad) (zcA (zr8 ad) H25.size) H25.size σ3 t nd nr ns c (pC_r8 hCk) hW25.2.2.1 ((k : Nat) : Int) 5 ⟨by omega, by omega⟩ ⟨by decide, by decide⟩) (vx_cwSW 3 hts gL_isLawful_L_requestIs rfl rfl rfl (by decide +kernel) ⟨Nat.le_of_ble_eq_true rfl, Nat.le_of_ble_eq_true rfl⟩) hK hE hAA hNC hW25 hA0 hS25 rfl hl.1.1 rfl (Nat.le_of_ble_eq_true rfl) dL_isLawful_190 ⟨show _ ≤ 797 from by omega, show _ ≤ 4782 from by omega⟩ (fun x49 u49 H49 locs49 hp49 hW49 hz49 hS49 => ?_)
                              rw [pRI_at hkn (by decide), yri_5] at hp49
                              obtain ⟨rfl, rfl⟩ := hp49
                              rw [zg8_self] at hW49
                              refine W.eq (g2 := F0 m 193 ls [.int (zi (zb (t 71 0 k < t 72 0 k)))]) rfl ?_
                              refine zz_if_neb (tgt := 219) hx hb dL_isLawful_193 (by decide) (fun hc193 => ?_) (fun hc193 => ?_)
                              · exfalso; omega
                              · refine zw_widen (k := (2 + 14 * k + 12)) (n := (12 + 84 * k + 72)) (show _ ≤ _ from by omega) (show _ ≤ _ from by omega) ?_
                                refine hcut196  H49 locs49 ls ?_ hW49 hS49 (zh_sub hl [0, 1, 2, 3, 4, 5, 6, 7, 8] rfl)
                                trivial
                    refine zz_aload_n hx hb hl 2 dL_isLawful_125 rfl rfl ?_
                    refine zz_iconst hx hb dL_isLawful_126 ?_
                    refine zz_iload hx hb hl 6 dL_isLawful_127 rfl ?_
                    refine zz_imul hx hb dL_isLawful_129 ?_
                    refine zz_iconst hx hb dL_isLawful_130 ?_
                    refine zz_iadd hx hb dL_isLawful_131 ?_
                    refine zz_iald (w := σ3 87 0 ((4 * k) + 2)) hx hb hK hW23 (zlN hh) rfl rfl rfl (by show (0 : Int) ≤ (((4 * k) + 2 : Nat) : Int); omega) (by show (((4 * k) + 2 : Nat) : Int) < (48 : Int); omega) rfl dL_isLawful_132 ?_
                    refine zz_iconst hx hb dL_isLawful_133 ?_
                    refine zz_icmp_eq (tgt := 150) hx hb dL_isLawful_134 (by decide) (hW23.2.2.1 _ _ _) ⟨by decide, by decide⟩ (fun hc134 => ?_) (fun hc134 => ?_)
                    · refine zw_widen (k := (2 + 14 * k + 8)) (n := (12 + 84 * k + 48)) (show _ ≤ _ from by omega) (show _ ≤ _ from by omega) ?_
                      refine hcut150  H23 locs23 ls ?_ hW23 hS23 (zh_sub hl [0, 1, 2, 3, 4, 5, 6, 7, 8] rfl)
                      trivial
                    · refine zz_iload hx hb hl 8 dL_isLawful_137 rfl ?_
                      refine zz_aload_n hx hb hl 2 dL_isLawful_139 rfl rfl ?_
                      refine zz_iconst hx hb dL_isLawful_140 ?_
                      refine zz_iload hx hb hl 6 dL_isLawful_141 rfl ?_
                      refine zz_imul hx hb dL_isLawful_143 ?_
                      refine zz_iconst hx hb dL_isLawful_144 ?_
                      refine zz_iadd hx hb dL_isLawful_145 ?_
                      refine zz_iald (w := σ3 87 0 ((4 * k) + 2)) hx hb hK hW23 (zlN hh) rfl rfl rfl (by show (0 : Int) ≤ (((4 * k) + 2 : Nat) : Int); omega) (by show (((4 * k) + 2 : Nat) : Int) < (48 : Int); omega) rfl dL_isLawful_146 ?_
                      refine zz_icmp_ne (tgt := 219) hx hb dL_isLawful_147 (by decide) hg71 (hW23.2.2.1 _ _ _) (fun hc147 => ?_) (fun hc147 => ?_)
                      · exfalso; omega
                      · refine zw_widen (k := (2 + 14 * k + 8)) (n := (12 + 84 * k + 48)) (show _ ≤ _ from by omega) (show _ ≤ _ from by omega) ?_
                        refine hcut150  H23 locs23 ls ?_ hW23 hS23 (zh_sub hl [0, 1, 2, 3, 4, 5, 6, 7, 8] rfl)
                        trivial
              refine zz_aload_n hx hb hl 4 dL_isLawful_67 rfl rfl ?_
              refine zz_iconst hx hb dL_isLawful_68 ?_
              refine zz_iload hx hb hl 8 dL_isLawful_69 rfl ?_
              refine zz_imul hx hb dL_isLawful_71 ?_
              refine zz_iald (w := σ3 87 0 (4 * k)) hx hb hK hW20 (zlN hh) rfl rfl rfl (by show (0 : Int) ≤ ((4 * k : Nat) : Int); omega) (by show ((4 * k : Nat) : Int) < (48 : Int); omega) rfl dL_isLawful_72 ?_
              refine zz_iconst hx hb dL_isLawful_73 ?_
              refine zz_icmp_lt (tgt := 88) hx hb dL_isLawful_74 (by decide) (hW20.2.2.1 _ _ _) ⟨by decide, by decide⟩ (fun hc74 => ?_) (fun hc74 => ?_)
              · refine zw_widen (k := (2 + 14 * k + 4)) (n := (12 + 84 * k + 24)) (show _ ≤ _ from by omega) (show _ ≤ _ from by omega) ?_
                refine hcut88  H20 locs20 ls ?_ hW20 hS20 (zh_sub hl [2, 3, 4, 5, 6, 7, 8, 1, 0] rfl)
                trivial
              · refine zz_iload hx hb hl 1 dL_isLawful_77 rfl ?_
                refine zz_aload_n hx hb hl 4 dL_isLawful_79 rfl rfl ?_
                refine zz_iconst hx hb dL_isLawful_80 ?_
                refine zz_iload hx hb hl 8 dL_isLawful_81 rfl ?_
                refine zz_imul hx hb dL_isLawful_83 ?_
                refine zz_iald (w := σ3 87 0 (4 * k)) hx hb hK hW20 (zlN hh) rfl rfl rfl (by show (0 : Int) ≤ ((4 * k : Nat) : Int); omega) (by show ((4 * k : Nat) : Int) < (48 : Int); omega) rfl dL_isLawful_84 ?_
                refine zz_icmp_ne (tgt := 219) hx hb dL_isLawful_85 (by decide) hg64 (hW20.2.2.1 _ _ _) (fun hc85 => ?_) (fun hc85 => ?_)
                · exfalso; omega
                · refine zw_widen (k := (2 + 14 * k + 4)) (n := (12 + 84 * k + 24)) (show _ ≤ _ from by omega) (show _ ≤ _ from by omega) ?_
                  refine hcut88  H20 locs20 ls ?_ hW20 hS20 (zh_sub hl [2, 3, 4, 5, 6, 7, 8, 1, 0] rfl)
                  trivial
    refine zw_widen (k := (2 + 14 * 0)) (n := (12 + 84 * 0)) (show _ ≤ _ from by omega) (show _ ≤ _ from by omega) ?_
    refine hcut25 _ 0 σ2 H2 locs2 ls ?_ (Nat.lt_succ_self _) hW2 hS2 (zh_sub hl [3, 4, 5, 6, 2, 1, 0] rfl)
    refine ⟨Nat.zero_le _, hC2, fun κ i j h1 _ => ?_, fun q hq => absurd hq (Nat.not_lt_zero q), fun q _ hq => pH1_cg (hH q hq) (fun j _ => ?_)⟩
    · rw [hf2 κ i j h1, hf1 κ i j h1]
    · rw [hf2 87 0 _ (by decide), hf1 87 0 _ (by decide)]
