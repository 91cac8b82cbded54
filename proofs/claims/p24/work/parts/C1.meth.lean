/-! P24: THE LAW'S OWN METHODS -/
set_option maxHeartbeats 4000000 in
set_option maxRecDepth 100000 in
theorem c_L_isRefused (l : Launch) (G : zG) (ad : zA) (A : Nat → Prop) (N0 : Nat) (σ : zS) (r : Int) (gr : zg r) : Met l yL_isRefused wsL_isRefused ({ frames := 0, cells := 0, slots := 0, locals := 0 }) (zPH G ad A N0 σ [.int (zi r)]) (zQ G ad A zri (fun x u => σ = u ∧ zb (pRf r) = x)) 0 0 A := by
  refine zz_ofH (cc := cL_isRefused) (maxL := 1) (ret := (some .boolean)) (by decide) rfl (by intro v hv; simp only [List.mem_cons, List.not_mem_nil, or_false] at hv; rcases hv with rfl <;> first | rfl | exact zr_cat _ _ _) (Nat.le_of_ble_eq_true rfl) ?_
  intro p e s m below meth c9 hx hb hr hml hts hown hlocks hsz hW0 hK hE hAA hNC ls hl
  have hS0 : va_S A s.heap s.heap [] := va_S.rf
  have hl : zh ls 1 [(0, .int (zi r))] := hl
  refine zz_iload_n hx hb hl 0 dL_isRefused_0 rfl rfl ?_
  refine zz_ldc (n := -2000000001) (v := -2000000001) hx hb hown (hts (.constant RL 15 (-2000000001)) (by decide +kernel)) (by decide +kernel) dL_isRefused_1 ?_
  refine zz_icmp_eq (tgt := 18) hx hb dL_isRefused_3 (by decide) gr ⟨by decide, by decide⟩ (fun hc3 => ?_) (fun hc3 => ?_)
  · refine zz_iconst hx hb dL_isRefused_18 ?_
    refine zz_goto (tgt := 23) hx hb dL_isRefused_19 (by decide) ?_
    refine W.eq (g2 := F0 m 23 ls [.int (zi 1)]) rfl ?_
    refine zw_widen (k := 0) (n := 0) (show _ ≤ 0 from by omega) (show _ ≤ 0 from by omega) ?_
    refine zz_retz hx hb hr hlocks hW0 hS0 (by decide) ?_ dL_isRefused_23
    first | exact ⟨rfl, zb_t (by unfold pRf; omega)⟩ | exact ⟨rfl, zb_f (by unfold pRf; omega)⟩
  · refine zz_iload_n hx hb hl 0 dL_isRefused_6 rfl rfl ?_
    refine zz_ldc (n := -2000000002) (v := -2000000002) hx hb hown (hts (.constant RL 18 (-2000000002)) (by decide +kernel)) (by decide +kernel) dL_isRefused_7 ?_
    refine zz_icmp_eq (tgt := 18) hx hb dL_isRefused_9 (by decide) gr ⟨by decide, by decide⟩ (fun hc9 => ?_) (fun hc9 => ?_)
    · refine zz_iconst hx hb dL_isRefused_18 ?_
      refine zz_goto (tgt := 23) hx hb dL_isRefused_19 (by decide) ?_
      refine W.eq (g2 := F0 m 23 ls [.int (zi 1)]) rfl ?_
      refine zw_widen (k := 0) (n := 0) (show _ ≤ 0 from by omega) (show _ ≤ 0 from by omega) ?_
      refine zz_retz hx hb hr hlocks hW0 hS0 (by decide) ?_ dL_isRefused_23
      first | exact ⟨rfl, zb_t (by unfold pRf; omega)⟩ | exact ⟨rfl, zb_f (by unfold pRf; omega)⟩
    · refine zz_iload_n hx hb hl 0 dL_isRefused_12 rfl rfl ?_
      refine zz_ldc (n := -2000000003) (v := -2000000003) hx hb hown (hts (.constant RL 21 (-2000000003)) (by decide +kernel)) (by decide +kernel) dL_isRefused_13 ?_
      refine zz_icmp_ne (tgt := 22) hx hb dL_isRefused_15 (by decide) gr ⟨by decide, by decide⟩ (fun hc15 => ?_) (fun hc15 => ?_)
      · refine zz_iconst hx hb dL_isRefused_22 ?_
        refine W.eq (g2 := F0 m 23 ls [.int (zi 0)]) rfl ?_
        refine zw_widen (k := 0) (n := 0) (show _ ≤ 0 from by omega) (show _ ≤ 0 from by omega) ?_
        refine zz_retz hx hb hr hlocks hW0 hS0 (by decide) ?_ dL_isRefused_23
        first | exact ⟨rfl, zb_t (by unfold pRf; omega)⟩ | exact ⟨rfl, zb_f (by unfold pRf; omega)⟩
      · refine zz_iconst hx hb dL_isRefused_18 ?_
        refine zz_goto (tgt := 23) hx hb dL_isRefused_19 (by decide) ?_
        refine W.eq (g2 := F0 m 23 ls [.int (zi 1)]) rfl ?_
        refine zw_widen (k := 0) (n := 0) (show _ ≤ 0 from by omega) (show _ ≤ 0 from by omega) ?_
        refine zz_retz hx hb hr hlocks hW0 hS0 (by decide) ?_ dL_isRefused_23
        first | exact ⟨rfl, zb_t (by unfold pRf; omega)⟩ | exact ⟨rfl, zb_f (by unfold pRf; omega)⟩

set_option maxHeartbeats 4000000 in
set_option maxRecDepth 100000 in
theorem c_L_areRows (l : Launch) (hst : l.stackTraces = false) (G : zG) (ad : zA) (A : Nat → Prop) (N0 : Nat) (σ t : zS) (nd nr ns : Nat) (c : Int) (hC : pC ad σ t nd nr ns c) (hg : ∀ κ i k, zg (σ κ i k)) (sl : Prop) (hv : pV t sl nd nr) (hnr12 : nr ≤ 12) (d : Nat) (hd : d < nd) : Met l yL_areRows wsL_areRows ({ frames := 9, cells := 52, slots := 312, locals := 271 }) (zPH G ad A N0 σ [zr ad 0 ((0 : Nat) : Int), .int (zi ((d : Nat) : Int))]) (zQ G ad A zri (fun r u => σ = u ∧ 1 = r)) 52 312 A := by
  refine zz_ofH (cc := cL_areRows) (maxL := 9) (ret := (some .boolean)) (by decide) rfl (by intro v hv; simp only [List.mem_cons, List.not_mem_nil, or_false] at hv; rcases hv with rfl | rfl <;> first | rfl | exact zr_cat _ _ _) (Nat.le_of_ble_eq_true rfl) ?_
  intro p e s m below meth c9 hx hb hr hml hts hown hlocks hsz hW0 hK hE hAA hNC ls hl
  have hS0 : va_S A s.heap s.heap [] := va_S.rf
  have hl : zh ls 9 [(0, zr ad 0 ((0 : Nat) : Int)), (1, .int (zi ((d : Nat) : Int)))] := hl
  have hWF := hC.2.2.2.1
  have hnd8 := hWF.1.1.1
  have hwd := hWF.2.1 d hd
  obtain ⟨n, hn⟩ : ∃ n : Nat, t 52 0 d = (n : Int) := ⟨(t 52 0 d).toNat, by have := hwd.1.2.1; omega⟩
  have hn8 : n ≤ 8 := by have := hwd.1.2.2; omega
  obtain ⟨g1, g2, g3⟩ := hv.1.2 d hd
  rw [hn, Int.toNat_natCast] at g2
  refine zz_aload_n hx hb hl 0 dL_areRows_0 rfl rfl ?_
  refine zz_iload_n hx hb hl 1 dL_areRows_1 rfl rfl ?_
  refine zz_iconst hx hb dL_areRows_2 ?_
  refine zl_callH (As := [zr ad 0 ((0 : Nat) : Int), .int (zi ((d : Nat) : Int)), .int (zi 1)]) (rest := []) ⟨hx, hb, hml, hown, hts⟩ (cl_driverIs l hst G ad A N0 σ t nd nr ns c hC hW0.2.2.1 ((d : Nat) : Int) 1 ⟨by omega, by omega⟩ ⟨by decide, by decide⟩) (vx_cwSW 3 hts gL_areRows_L_driverIs rfl rfl rfl (by decide +kernel) ⟨Nat.le_of_ble_eq_true rfl, Nat.le_of_ble_eq_true rfl⟩) hK hE hAA hNC hW0 (Nat.le_trans hsz hS0.1) hS0 (fun q h => h) rfl hl.1.1 rfl (Nat.le_of_ble_eq_true rfl) dL_areRows_3 ⟨show _ ≤ 52 from by omega, show _ ≤ 312 from by omega⟩ (fun x1 u1 H1 locs1 hp1 hW1 hz1 hk1 hS1 => ?_)
  rw [pDI_at hd (by decide), ydi_1, hn] at hp1
  obtain ⟨rfl, rfl⟩ := hp1
  refine W.eq (g2 := F0 m 6 ls [.int (zi ((n : Nat) : Int))]) rfl ?_
  refine zz_istore_n (lv' := [(2, .int (zi ((n : Nat) : Int))), (0, zr ad 0 ((0 : Nat) : Int)), (1, .int (zi ((d : Nat) : Int)))]) hx hb hl dL_areRows_6 rfl (by decide) rfl (fun ls hl => ?_)
  refine zz_iconst hx hb dL_areRows_7 ?_
  refine zz_istore_n (lv' := [(3, .int (zi 0)), (2, .int (zi ((n : Nat) : Int))), (0, zr ad 0 ((0 : Nat) : Int)), (1, .int (zi ((d : Nat) : Int)))]) hx hb hl dL_areRows_8 rfl (by decide) rfl (fun ls hl => ?_)
  refine zz_iload_n hx hb hl 1 dL_areRows_9 rfl rfl ?_
  refine zz_bipush hx hb dL_areRows_10 (by decide +kernel) ?_
  refine zz_icmp_gt (tgt := 19) hx hb dL_areRows_12 (by decide) ⟨by omega, by omega⟩ ⟨by decide, by decide⟩ (fun hc12 => ?_) (fun hc12 => ?_)
  · exfalso; omega
  · refine zz_iconst hx hb dL_areRows_15 ?_
    refine zz_goto (tgt := 20) hx hb dL_areRows_16 (by decide) ?_
    refine zz_istore (lv' := [(4, .int (zi 1)), (3, .int (zi 0)), (2, .int (zi ((n : Nat) : Int))), (0, zr ad 0 ((0 : Nat) : Int)), (1, .int (zi ((d : Nat) : Int)))]) hx hb hl dL_areRows_20 (by decide) rfl (fun ls hl => ?_)
    refine zz_iconst hx hb dL_areRows_22 ?_
    refine zz_istore (lv' := [(5, .int (zi 0)), (4, .int (zi 1)), (3, .int (zi 0)), (2, .int (zi ((n : Nat) : Int))), (0, zr ad 0 ((0 : Nat) : Int)), (1, .int (zi ((d : Nat) : Int)))]) hx hb hl dL_areRows_23 (by decide) rfl (fun ls hl => ?_)
    refine zz_iconst hx hb dL_areRows_25 ?_
    refine zz_istore (lv' := [(6, .int (zi 0)), (5, .int (zi 0)), (4, .int (zi 1)), (3, .int (zi 0)), (2, .int (zi ((n : Nat) : Int))), (0, zr ad 0 ((0 : Nat) : Int)), (1, .int (zi ((d : Nat) : Int)))]) hx hb hl dL_areRows_26 (by decide) rfl (fun ls hl => ?_)
    have hcut28 : ∀ (n9 : Nat) (k z : Nat)  (H9 : Heap) (locs9 : List Loc) (ls : Array Slot), (k ≤ n ∧ z < 4096 ∧ (∀ q : Nat, q < 12 → (z.testBit q = true ↔ ∃ i, i < k ∧ t 54 0 (8 * d + i) = (q : Int)))) → (n - k) < n9 → ZW G ad A σ H9 → va_S A s.heap H9 locs9 → zh ls 9 [(0, zr ad 0 ((0 : Nat) : Int)), (1, .int (zi ((d : Nat) : Int))), (2, .int (zi ((n : Nat) : Int))), (3, .int (zi ((ycO (fun j => t 54 0 (8 * d + j)) k : Nat) : Int))), (4, .int (zi 1)), (5, .int (zi ((z : Nat) : Int))), (6, .int (zi ((k : Nat) : Int)))] → W p l e ({ frames := 9, cells := 52, slots := 312, locals := 271 }) s m ([zr ad 0 ((0 : Nat) : Int), .int (zi ((d : Nat) : Int))] : List Value).toArray below meth c9 H9 locs9 (2 + 6 * k) (12 + 36 * k) (MQ below (zQ G ad A zri (fun r u => σ = u ∧ 1 = r)) ([zr ad 0 ((0 : Nat) : Int), .int (zi ((d : Nat) : Int))] : List Value).toArray s 52 312 A) (F0 m 28 ls []) := by
      intro n9
      induction n9 with
      | zero =>
        intro k z H2 locs2 ls hI28 hm28 hW2 hS2 hl
        exact absurd hm28 (Nat.not_lt_zero _)
      | succ n9 ih28 =>
        intro k z H2 locs2 ls hI28 hm28 hW2 hS2 hl
        obtain ⟨hi1, hi2, hi3⟩ := hI28
        have hcO := ycO_le (w := fun j => t 54 0 (8 * d + j)) k
        refine zz_iload hx hb hl 6 dL_areRows_28 rfl ?_
        refine zz_iload_n hx hb hl 2 dL_areRows_30 rfl rfl ?_
        refine zz_icmp_ge (tgt := 171) hx hb dL_areRows_31 (by decide) ⟨by omega, by omega⟩ ⟨by omega, by omega⟩ (fun hc31 => ?_) (fun hc31 => ?_)
        · have g2k : ycO (fun j => t 54 0 (8 * d + j)) k ≤ 4 := by rw [show k = n from by omega]; exact g2
          refine zz_iload hx hb hl 4 dL_areRows_171 rfl ?_
          refine zz_if_eq (tgt := 212) hx hb dL_areRows_173 (by decide) ⟨by decide, by decide⟩ (fun hc173 => ?_) (fun hc173 => ?_)
          · exfalso; exact absurd hc173 (by decide)
          · refine zz_iload_n hx hb hl 3 dL_areRows_176 rfl rfl ?_
            refine zz_iconst hx hb dL_areRows_177 ?_
            refine zz_icmp_gt (tgt := 212) hx hb dL_areRows_178 (by decide) ⟨by omega, by omega⟩ ⟨by decide, by decide⟩ (fun hc178 => ?_) (fun hc178 => ?_)
            · exfalso; omega
            · refine zz_iload_n hx hb hl 2 dL_areRows_181 rfl rfl ?_
              refine zz_if_ne (tgt := 189) hx hb dL_areRows_182 (by decide) ⟨by omega, by omega⟩ (fun hc182 => ?_) (fun hc182 => ?_)
              · refine zz_iconst hx hb dL_areRows_189 ?_
                refine zz_aload_n hx hb hl 0 dL_areRows_190 rfl rfl ?_
                refine zz_iload_n hx hb hl 1 dL_areRows_191 rfl rfl ?_
                refine zz_iconst hx hb dL_areRows_192 ?_
                refine zl_callH (As := [zr ad 0 ((0 : Nat) : Int), .int (zi ((d : Nat) : Int)), .int (zi 2)]) (rest := [.int (zi 0)]) ⟨hx, hb, hml, hown, hts⟩ (cl_driverIs l hst G ad A N0 σ t nd nr ns c hC hW2.2.2.1 ((d : Nat) : Int) 2 ⟨by omega, by omega⟩ ⟨by decide, by decide⟩) (vx_cwSW 3 hts gL_areRows_L_driverIs rfl rfl rfl (by decide +kernel) ⟨Nat.le_of_ble_eq_true rfl, Nat.le_of_ble_eq_true rfl⟩) hK hE hAA hNC hW2 (Nat.le_trans hsz hS2.1) hS2 (fun q h => h) rfl hl.1.1 rfl (by simp only [List.map, zr_cat, zcat_i]; decide) dL_areRows_193 ⟨show _ ≤ 52 from by omega, show _ ≤ 312 from by omega⟩ (fun x3 u3 H3 locs3 hp3 hW3 hz3 hk3 hS3 => ?_)
                have h55 := hwd.2.2.2.2.1
                rw [pDI_at hd (by decide), ydi_2, hn, if_neg (by omega)] at hp3
                obtain ⟨rfl, rfl⟩ := hp3
                refine W.eq (g2 := F0 m 196 ls [.int (zi (t 55 0 d)), .int (zi 0)]) rfl ?_
                refine zz_iconst hx hb dL_areRows_196 ?_
                refine zz_icmp_ne (tgt := 204) hx hb dL_areRows_197 (by decide) ⟨by omega, by omega⟩ ⟨by decide, by decide⟩ (fun hc197 => ?_) (fun hc197 => ?_)
                · refine zz_iconst hx hb dL_areRows_204 ?_
                  refine zz_icmp_ne (tgt := 212) hx hb dL_areRows_205 (by decide) ⟨by decide, by decide⟩ ⟨by decide, by decide⟩ (fun hc205 => ?_) (fun hc205 => ?_)
                  · exact absurd rfl hc205
                  · refine zz_iconst hx hb dL_areRows_208 ?_
                    refine zz_goto (tgt := 213) hx hb dL_areRows_209 (by decide) ?_
                    refine W.eq (g2 := F0 m 213 ls [.int (zi 1)]) rfl ?_
                    refine zw_widen (k := 52) (n := 312) (show _ ≤ 52 from by omega) (show _ ≤ 312 from by omega) ?_
                    refine zz_retz hx hb hr hlocks hW3 hS3 (by decide) ?_ dL_areRows_213
                    exact ⟨rfl, rfl⟩
                · exfalso; omega
              · refine zz_iconst hx hb dL_areRows_185 ?_
                refine zz_goto (tgt := 190) hx hb dL_areRows_186 (by decide) ?_
                refine zz_aload_n hx hb hl 0 dL_areRows_190 rfl rfl ?_
                refine zz_iload_n hx hb hl 1 dL_areRows_191 rfl rfl ?_
                refine zz_iconst hx hb dL_areRows_192 ?_
                refine zl_callH (As := [zr ad 0 ((0 : Nat) : Int), .int (zi ((d : Nat) : Int)), .int (zi 2)]) (rest := [.int (zi 1)]) ⟨hx, hb, hml, hown, hts⟩ (cl_driverIs l hst G ad A N0 σ t nd nr ns c hC hW2.2.2.1 ((d : Nat) : Int) 2 ⟨by omega, by omega⟩ ⟨by decide, by decide⟩) (vx_cwSW 3 hts gL_areRows_L_driverIs rfl rfl rfl (by decide +kernel) ⟨Nat.le_of_ble_eq_true rfl, Nat.le_of_ble_eq_true rfl⟩) hK hE hAA hNC hW2 (Nat.le_trans hsz hS2.1) hS2 (fun q h => h) rfl hl.1.1 rfl (by simp only [List.map, zr_cat, zcat_i]; decide) dL_areRows_193 ⟨show _ ≤ 52 from by omega, show _ ≤ 312 from by omega⟩ (fun x4 u4 H4 locs4 hp4 hW4 hz4 hk4 hS4 => ?_)
                have h55 := hwd.2.2.2.2.1
                rw [pDI_at hd (by decide), ydi_2, hn, if_pos (by omega)] at hp4
                obtain ⟨rfl, rfl⟩ := hp4
                refine W.eq (g2 := F0 m 196 ls [.int (zi (-1)), .int (zi 1)]) rfl ?_
                refine zz_iconst hx hb dL_areRows_196 ?_
                refine zz_icmp_ne (tgt := 204) hx hb dL_areRows_197 (by decide) ⟨by decide, by decide⟩ ⟨by decide, by decide⟩ (fun hc197 => ?_) (fun hc197 => ?_)
                · exfalso; omega
                · refine zz_iconst hx hb dL_areRows_200 ?_
                  refine zz_goto (tgt := 205) hx hb dL_areRows_201 (by decide) ?_
                  refine zz_icmp_ne (tgt := 212) hx hb dL_areRows_205 (by decide) ⟨by decide, by decide⟩ ⟨by decide, by decide⟩ (fun hc205 => ?_) (fun hc205 => ?_)
                  · exact absurd rfl hc205
                  · refine zz_iconst hx hb dL_areRows_208 ?_
                    refine zz_goto (tgt := 213) hx hb dL_areRows_209 (by decide) ?_
                    refine W.eq (g2 := F0 m 213 ls [.int (zi 1)]) rfl ?_
                    refine zw_widen (k := 52) (n := 312) (show _ ≤ 52 from by omega) (show _ ≤ 312 from by omega) ?_
                    refine zz_retz hx hb hr hlocks hW4 hS4 (by decide) ?_ dL_areRows_213
                    exact ⟨rfl, rfl⟩
        · refine zz_iload hx hb hl 4 dL_areRows_34 rfl ?_
          refine zz_if_eq (tgt := 171) hx hb dL_areRows_36 (by decide) ⟨by decide, by decide⟩ (fun hc36 => ?_) (fun hc36 => ?_)
          · exfalso; exact absurd hc36 (by decide)
          · refine zz_aload_n hx hb hl 0 dL_areRows_39 rfl rfl ?_
            refine zz_iload_n hx hb hl 1 dL_areRows_40 rfl rfl ?_
            refine zz_iload hx hb hl 6 dL_areRows_41 rfl ?_
            refine zz_iconst hx hb dL_areRows_43 ?_
            refine zl_callH (As := [zr ad 0 ((0 : Nat) : Int), .int (zi ((d : Nat) : Int)), .int (zi ((k : Nat) : Int)), .int (zi 1)]) (rest := []) ⟨hx, hb, hml, hown, hts⟩ (cl_stop l hst G ad A N0 σ t nd nr ns c hC hW2.2.2.1 ((d : Nat) : Int) ((k : Nat) : Int) 1 ⟨by omega, by omega⟩ ⟨by omega, by omega⟩ (Or.inr rfl)) (vx_cwSW 4 hts gL_areRows_L_stop rfl rfl rfl (by decide +kernel) ⟨Nat.le_of_ble_eq_true rfl, Nat.le_of_ble_eq_true rfl⟩) hK hE hAA hNC hW2 (Nat.le_trans hsz hS2.1) hS2 (fun q h => h) rfl hl.1.1 rfl (Nat.le_of_ble_eq_true rfl) dL_areRows_44 ⟨show _ ≤ 52 from by omega, show _ ≤ 312 from by omega⟩ (fun x5 u5 H5 locs5 hp5 hW5 hz5 hk5 hS5 => ?_)
            have hgw := pST_g hC ((d : Nat) : Int) ((k : Nat) : Int) 1
            rw [pST_at hd (by omega)] at hp5 hgw
            obtain ⟨rfl, rfl⟩ := hp5
            refine W.eq (g2 := F0 m 47 ls [.int (zi (t 54 0 (8 * d + k)))]) rfl ?_
            refine zz_istore (lv' := [(7, .int (zi (t 54 0 (8 * d + k)))), (0, zr ad 0 ((0 : Nat) : Int)), (1, .int (zi ((d : Nat) : Int))), (2, .int (zi ((n : Nat) : Int))), (3, .int (zi ((ycO (fun j => t 54 0 (8 * d + j)) k : Nat) : Int))), (4, .int (zi 1)), (5, .int (zi ((z : Nat) : Int))), (6, .int (zi ((k : Nat) : Int)))]) hx hb hl dL_areRows_47 (by decide) rfl (fun ls hl => ?_)
            have hrow := yWF_row hWF hd (j := k) (by omega)
            have hsp49 : t 54 0 (8 * d + k) = -1 ∨ (∃ q : Nat, t 54 0 (8 * d + k) = (q : Int) ∧ q < nr ∧ t 64 0 q = 1 ∧ t 70 0 q = (d : Int)) ∨ ∃ q : Nat, t 54 0 (8 * d + k) = 100 + (q : Int) ∧ q < nr ∧ (t 64 0 q = 1 ∨ t 64 0 q = 2) ∧ t 70 0 q = (d : Int) := by
              rcases hrow with e | ⟨e1, e2, e3, e4⟩ | ⟨e1, e2, e3, e4⟩
              · exact Or.inl e
              · exact Or.inr (Or.inl ⟨_, (Int.toNat_of_nonneg e1).symm, by omega, e3, e4⟩)
              · exact Or.inr (Or.inr ⟨(t 54 0 (8 * d + k) - 100).toNat, by omega, by omega, e3, e4⟩)
            rcases hsp49 with hq | ⟨q, hq, hqr, hq64, hq70⟩ | ⟨q, hq, hqr, hq64, hq70⟩
            · refine zz_iload hx hb hl 0 dL_areRows_49 rfl ?_
              refine zz_if_ge (tgt := 58) hx hb dL_areRows_51 (by decide) hgw (fun hc51 => ?_) (fun hc51 => ?_)
              · exfalso; omega
              · refine zz_iconst hx hb dL_areRows_54 ?_
                refine zz_goto (tgt := 63) hx hb dL_areRows_55 (by decide) ?_
                refine zz_istore (lv' := [(8, .int (zi (-1))), (7, .int (zi (t 54 0 (8 * d + k)))), (0, zr ad 0 ((0 : Nat) : Int)), (1, .int (zi ((d : Nat) : Int))), (2, .int (zi ((n : Nat) : Int))), (3, .int (zi ((ycO (fun j => t 54 0 (8 * d + j)) k : Nat) : Int))), (4, .int (zi 1)), (5, .int (zi ((z : Nat) : Int))), (6, .int (zi ((k : Nat) : Int)))]) hx hb hl dL_areRows_63 (by decide) rfl (fun ls hl => ?_)
                refine zz_iload_n hx hb hl 5 dL_areRows_65 rfl rfl ?_
                refine zz_iload hx hb hl 1 dL_areRows_66 rfl ?_
                refine zz_bipush hx hb dL_areRows_68 (by decide +kernel) ?_
                refine zz_icmp_lt (tgt := 77) hx hb dL_areRows_70 (by decide) hgw ⟨by decide, by decide⟩ (fun hc70 => ?_) (fun hc70 => ?_)
                · refine zz_iconst hx hb dL_areRows_77 ?_
                  refine zz_iadd hx hb dL_areRows_78 ?_
                  refine zz_istore_n (lv' := [(3, .int (zi (((ycO (fun j => t 54 0 (8 * d + j)) k : Nat) : Int) + 0))), (8, .int (zi (-1))), (7, .int (zi (t 54 0 (8 * d + k)))), (0, zr ad 0 ((0 : Nat) : Int)), (1, .int (zi ((d : Nat) : Int))), (2, .int (zi ((n : Nat) : Int))), (4, .int (zi 1)), (5, .int (zi ((z : Nat) : Int))), (6, .int (zi ((k : Nat) : Int)))]) hx hb hl dL_areRows_79 rfl (by decide) rfl (fun ls hl => ?_)
                  refine zz_iload hx hb hl 2 dL_areRows_80 rfl ?_
                  refine zz_if_lt (tgt := 133) hx hb dL_areRows_82 (by decide) hgw (fun hc82 => ?_) (fun hc82 => ?_)
                  · refine zz_iconst hx hb dL_areRows_133 ?_
                    refine zz_goto (tgt := 138) hx hb dL_areRows_134 (by decide) ?_
                    refine zz_istore (lv' := [(4, .int (zi 1)), (3, .int (zi (((ycO (fun j => t 54 0 (8 * d + j)) k : Nat) : Int) + 0))), (8, .int (zi (-1))), (7, .int (zi (t 54 0 (8 * d + k)))), (0, zr ad 0 ((0 : Nat) : Int)), (1, .int (zi ((d : Nat) : Int))), (2, .int (zi ((n : Nat) : Int))), (5, .int (zi ((z : Nat) : Int))), (6, .int (zi ((k : Nat) : Int)))]) hx hb hl dL_areRows_138 (by decide) rfl (fun ls hl => ?_)
                    refine zz_iload hx hb hl 7 dL_areRows_140 rfl ?_
                    refine zz_iload hx hb hl 3 dL_areRows_142 rfl ?_
                    refine zz_if_lt (tgt := 161) hx hb dL_areRows_144 (by decide) hgw (fun hc144 => ?_) (fun hc144 => ?_)
                    · refine zz_iconst hx hb dL_areRows_161 ?_
                      refine zz_ior (w := ((z : Nat) : Int)) hx hb (by rw [show (0 : Int) = ((0 : Nat) : Int) from rfl, zi_or12 hi2 (by decide), Nat.or_zero]) dL_areRows_162 ?_
                      refine zz_istore (lv' := [(5, .int (zi ((z : Nat) : Int))), (4, .int (zi 1)), (3, .int (zi (((ycO (fun j => t 54 0 (8 * d + j)) k : Nat) : Int) + 0))), (8, .int (zi (-1))), (7, .int (zi (t 54 0 (8 * d + k)))), (0, zr ad 0 ((0 : Nat) : Int)), (1, .int (zi ((d : Nat) : Int))), (2, .int (zi ((n : Nat) : Int))), (6, .int (zi ((k : Nat) : Int)))]) hx hb hl dL_areRows_163 (by decide) rfl (fun ls hl => ?_)
                      refine zz_iinc (lv' := [(6, .int (zi (((k : Nat) : Int) + 1))), (5, .int (zi ((z : Nat) : Int))), (4, .int (zi 1)), (3, .int (zi (((ycO (fun j => t 54 0 (8 * d + j)) k : Nat) : Int) + 0))), (8, .int (zi (-1))), (7, .int (zi (t 54 0 (8 * d + k)))), (0, zr ad 0 ((0 : Nat) : Int)), (1, .int (zi ((d : Nat) : Int))), (2, .int (zi ((n : Nat) : Int)))]) hx hb hl dL_areRows_165 (k0 := 8) rfl (by decide) rfl (fun ls hl => ?_)
                      refine zz_goto (tgt := 28) hx hb dL_areRows_168 (by decide) ?_
                      refine zw_widen (k := (2 + 6 * (k + 1))) (n := (12 + 36 * (k + 1))) (show _ ≤ _ from by omega) (show _ ≤ _ from by omega) ?_
                      refine ih28 (k + 1) z H5 locs5 ls ?_ (by omega) hW5 hS5 (zh_sub hl [6, 7, 8, 3, 2, 1, 0] (by rw [show ((ycO (fun j => t 54 0 (8 * d + j)) (k + 1) : Nat) : Int) = ((ycO (fun j => t 54 0 (8 * d + j)) k : Nat) : Int) + 0 from by rw [ycO_s]; first | (rw [if_pos (by omega)]; omega) | (rw [if_neg (by omega)]; omega)]; rfl))
                      refine ⟨by omega, hi2, fun q' hq' => ?_⟩
                      rw [hi3 q' hq']
                      constructor
                      · rintro ⟨i, hi, ei⟩
                        exact ⟨i, by omega, ei⟩
                      · rintro ⟨i, hi, ei⟩
                        rcases Nat.lt_or_ge i k with g | g
                        · exact ⟨i, g, ei⟩
                        · obtain rfl : i = k := by omega
                          omega
                    · exfalso; omega
                  · exfalso; omega
                · exfalso; omega
            · have hm : t 54 0 (8 * d + k) % 100 = ((q : Nat) : Int) := by omega
              refine zz_iload hx hb hl 0 dL_areRows_49 rfl ?_
              refine zz_if_ge (tgt := 58) hx hb dL_areRows_51 (by decide) hgw (fun hc51 => ?_) (fun hc51 => ?_)
              · refine zz_iload hx hb hl 0 dL_areRows_58 rfl ?_
                refine zz_bipush hx hb dL_areRows_60 (by decide +kernel) ?_
                refine zz_irem hx hb dL_areRows_62 hgw ⟨by decide, by decide⟩ (by omega) (by omega) ?_
                refine zz_istore (lv' := [(8, .int (zi ((t 54 0 (8 * d + k)) % 100))), (7, .int (zi (t 54 0 (8 * d + k)))), (0, zr ad 0 ((0 : Nat) : Int)), (1, .int (zi ((d : Nat) : Int))), (2, .int (zi ((n : Nat) : Int))), (3, .int (zi ((ycO (fun j => t 54 0 (8 * d + j)) k : Nat) : Int))), (4, .int (zi 1)), (5, .int (zi ((z : Nat) : Int))), (6, .int (zi ((k : Nat) : Int)))]) hx hb hl dL_areRows_63 (by decide) rfl (fun ls hl => ?_)
                refine zz_iload_n hx hb hl 5 dL_areRows_65 rfl rfl ?_
                refine zz_iload hx hb hl 1 dL_areRows_66 rfl ?_
                refine zz_bipush hx hb dL_areRows_68 (by decide +kernel) ?_
                refine zz_icmp_lt (tgt := 77) hx hb dL_areRows_70 (by decide) hgw ⟨by decide, by decide⟩ (fun hc70 => ?_) (fun hc70 => ?_)
                · refine zz_iconst hx hb dL_areRows_77 ?_
                  refine zz_iadd hx hb dL_areRows_78 ?_
                  refine zz_istore_n (lv' := [(3, .int (zi (((ycO (fun j => t 54 0 (8 * d + j)) k : Nat) : Int) + 0))), (8, .int (zi ((t 54 0 (8 * d + k)) % 100))), (7, .int (zi (t 54 0 (8 * d + k)))), (0, zr ad 0 ((0 : Nat) : Int)), (1, .int (zi ((d : Nat) : Int))), (2, .int (zi ((n : Nat) : Int))), (4, .int (zi 1)), (5, .int (zi ((z : Nat) : Int))), (6, .int (zi ((k : Nat) : Int)))]) hx hb hl dL_areRows_79 rfl (by decide) rfl (fun ls hl => ?_)
                  refine zz_iload hx hb hl 2 dL_areRows_80 rfl ?_
                  refine zz_if_lt (tgt := 133) hx hb dL_areRows_82 (by decide) hgw (fun hc82 => ?_) (fun hc82 => ?_)
                  · exfalso; omega
                  · refine zz_aload_n hx hb hl 3 dL_areRows_85 rfl rfl ?_
                    refine zz_iload hx hb hl 1 dL_areRows_86 rfl ?_
                    refine zz_iconst hx hb dL_areRows_88 ?_
                    refine zl_callH (As := [zr ad 0 ((0 : Nat) : Int), .int (zi ((t 54 0 (8 * d + k)) % 100)), .int (zi 2)]) (rest := []) ⟨hx, hb, hml, hown, hts⟩ (cl_requestIs l hst G ad A N0 σ t nd nr ns c hC hW5.2.2.1 (t 54 0 (8 * d + k) % 100) 2 ⟨by omega, by omega⟩ ⟨by decide, by decide⟩) (vx_cwSW 3 hts gL_areRows_L_requestIs rfl rfl rfl (by decide +kernel) ⟨Nat.le_of_ble_eq_true rfl, Nat.le_of_ble_eq_true rfl⟩) hK hE hAA hNC hW5 (Nat.le_trans hsz hS5.1) hS5 (fun q h => h) rfl hl.1.1 rfl (Nat.le_of_ble_eq_true rfl) dL_areRows_89 ⟨show _ ≤ 52 from by omega, show _ ≤ 312 from by omega⟩ (fun x6 u6 H6 locs6 hp6 hW6 hz6 hk6 hS6 => ?_)
                    rw [hm, pRI_at hqr (by decide), yri_2, hq70] at hp6
                    obtain ⟨rfl, rfl⟩ := hp6
                    refine W.eq (g2 := F0 m 92 ls [.int (zi ((d : Nat) : Int))]) rfl ?_
                    refine zz_iload_n hx hb hl 4 dL_areRows_92 rfl rfl ?_
                    refine zz_icmp_ne (tgt := 137) hx hb dL_areRows_93 (by decide) ⟨by omega, by omega⟩ ⟨by omega, by omega⟩ (fun hc93 => ?_) (fun hc93 => ?_)
                    · exact absurd rfl hc93
                    · refine zz_aload_n hx hb hl 3 dL_areRows_96 rfl rfl ?_
                      refine zz_iload hx hb hl 1 dL_areRows_97 rfl ?_
                      refine zz_iconst hx hb dL_areRows_99 ?_
                      refine zl_callH (As := [zr ad 0 ((0 : Nat) : Int), .int (zi ((t 54 0 (8 * d + k)) % 100)), .int (zi 0)]) (rest := []) ⟨hx, hb, hml, hown, hts⟩ (cl_requestIs l hst G ad A N0 σ t nd nr ns c hC hW6.2.2.1 (t 54 0 (8 * d + k) % 100) 0 ⟨by omega, by omega⟩ ⟨by decide, by decide⟩) (vx_cwSW 3 hts gL_areRows_L_requestIs rfl rfl rfl (by decide +kernel) ⟨Nat.le_of_ble_eq_true rfl, Nat.le_of_ble_eq_true rfl⟩) hK hE hAA hNC hW6 (Nat.le_trans hsz hS6.1) hS6 (fun q h => h) rfl hl.1.1 rfl (Nat.le_of_ble_eq_true rfl) dL_areRows_100 ⟨show _ ≤ 52 from by omega, show _ ≤ 312 from by omega⟩ (fun x7 u7 H7 locs7 hp7 hW7 hz7 hk7 hS7 => ?_)
                      rw [hm, pRI_at hqr (by decide), yri_0, hq64] at hp7
                      obtain ⟨rfl, rfl⟩ := hp7
                      refine W.eq (g2 := F0 m 103 ls [.int (zi 1)]) rfl ?_
                      refine zz_iload hx hb hl 2 dL_areRows_103 rfl ?_
                      refine zz_bipush hx hb dL_areRows_105 (by decide +kernel) ?_
                      refine zz_icmp_ge (tgt := 114) hx hb dL_areRows_107 (by decide) hgw ⟨by decide, by decide⟩ (fun hc107 => ?_) (fun hc107 => ?_)
                      · exfalso; omega
                      · refine zz_iconst hx hb dL_areRows_110 ?_
                        refine zz_goto (tgt := 130) hx hb dL_areRows_111 (by decide) ?_
                        refine zz_icmp_ne (tgt := 137) hx hb dL_areRows_130 (by decide) ⟨by decide, by decide⟩ ⟨by decide, by decide⟩ (fun hc130 => ?_) (fun hc130 => ?_)
                        · exact absurd rfl hc130
                        · refine zz_iconst hx hb dL_areRows_133 ?_
                          refine zz_goto (tgt := 138) hx hb dL_areRows_134 (by decide) ?_
                          refine zz_istore (lv' := [(4, .int (zi 1)), (3, .int (zi (((ycO (fun j => t 54 0 (8 * d + j)) k : Nat) : Int) + 0))), (8, .int (zi ((t 54 0 (8 * d + k)) % 100))), (7, .int (zi (t 54 0 (8 * d + k)))), (0, zr ad 0 ((0 : Nat) : Int)), (1, .int (zi ((d : Nat) : Int))), (2, .int (zi ((n : Nat) : Int))), (5, .int (zi ((z : Nat) : Int))), (6, .int (zi ((k : Nat) : Int)))]) hx hb hl dL_areRows_138 (by decide) rfl (fun ls hl => ?_)
                          refine zz_iload hx hb hl 7 dL_areRows_140 rfl ?_
                          refine zz_iload hx hb hl 3 dL_areRows_142 rfl ?_
                          refine zz_if_lt (tgt := 161) hx hb dL_areRows_144 (by decide) hgw (fun hc144 => ?_) (fun hc144 => ?_)
                          · exfalso; omega
                          · refine zz_iload hx hb hl 3 dL_areRows_147 rfl ?_
                            refine zz_bipush hx hb dL_areRows_149 (by decide +kernel) ?_
                            refine zz_icmp_ge (tgt := 161) hx hb dL_areRows_151 (by decide) hgw ⟨by decide, by decide⟩ (fun hc151 => ?_) (fun hc151 => ?_)
                            · exfalso; omega
                            · refine zz_iconst hx hb dL_areRows_154 ?_
                              refine zz_iload hx hb hl 3 dL_areRows_155 rfl ?_
                              refine zz_ishl (w := ((2 ^ q : Nat) : Int)) hx hb (by rw [hq]; exact zi_shl12 q (by omega)) dL_areRows_157 ?_
                              refine zz_goto (tgt := 162) hx hb dL_areRows_158 (by decide) ?_
                              refine zz_ior (w := ((z ||| 2 ^ q : Nat) : Int)) hx hb (zi_or12 hi2 (show 2 ^ q < 2 ^ 12 from Nat.pow_lt_pow_right (by decide) (by omega))) dL_areRows_162 ?_
                              refine zz_istore (lv' := [(5, .int (zi ((z ||| 2 ^ q : Nat) : Int))), (4, .int (zi 1)), (3, .int (zi (((ycO (fun j => t 54 0 (8 * d + j)) k : Nat) : Int) + 0))), (8, .int (zi ((t 54 0 (8 * d + k)) % 100))), (7, .int (zi (t 54 0 (8 * d + k)))), (0, zr ad 0 ((0 : Nat) : Int)), (1, .int (zi ((d : Nat) : Int))), (2, .int (zi ((n : Nat) : Int))), (6, .int (zi ((k : Nat) : Int)))]) hx hb hl dL_areRows_163 (by decide) rfl (fun ls hl => ?_)
                              refine zz_iinc (lv' := [(6, .int (zi (((k : Nat) : Int) + 1))), (5, .int (zi ((z ||| 2 ^ q : Nat) : Int))), (4, .int (zi 1)), (3, .int (zi (((ycO (fun j => t 54 0 (8 * d + j)) k : Nat) : Int) + 0))), (8, .int (zi ((t 54 0 (8 * d + k)) % 100))), (7, .int (zi (t 54 0 (8 * d + k)))), (0, zr ad 0 ((0 : Nat) : Int)), (1, .int (zi ((d : Nat) : Int))), (2, .int (zi ((n : Nat) : Int)))]) hx hb hl dL_areRows_165 (k0 := 8) rfl (by decide) rfl (fun ls hl => ?_)
                              refine zz_goto (tgt := 28) hx hb dL_areRows_168 (by decide) ?_
                              refine zw_widen (k := (2 + 6 * (k + 1))) (n := (12 + 36 * (k + 1))) (show _ ≤ _ from by omega) (show _ ≤ _ from by omega) ?_
                              refine ih28 (k + 1) (z ||| 2 ^ q) H7 locs7 ls ?_ (by omega) hW7 hS7 (zh_sub hl [6, 7, 8, 3, 2, 1, 0] (by rw [show ((ycO (fun j => t 54 0 (8 * d + j)) (k + 1) : Nat) : Int) = ((ycO (fun j => t 54 0 (8 * d + j)) k : Nat) : Int) + 0 from by rw [ycO_s]; first | (rw [if_pos (by omega)]; omega) | (rw [if_neg (by omega)]; omega)]; rfl))
                              refine ⟨by omega, por_lt hi2 (by omega), fun q' hq' => ?_⟩
                              rw [Nat.testBit_or, Nat.testBit_two_pow, Bool.or_eq_true, hi3 q' hq', decide_eq_true_iff]
                              constructor
                              · rintro (⟨i, hi, ei⟩ | e)
                                · exact ⟨i, by omega, ei⟩
                                · exact ⟨k, by omega, by rw [← e]; exact hq⟩
                              · rintro ⟨i, hi, ei⟩
                                rcases Nat.lt_or_ge i k with g | g
                                · exact Or.inl ⟨i, g, ei⟩
                                · obtain rfl : i = k := by omega
                                  exact Or.inr (by omega)
                · exfalso; omega
              · exfalso; omega
            · have hm : t 54 0 (8 * d + k) % 100 = ((q : Nat) : Int) := by omega
              refine zz_iload hx hb hl 0 dL_areRows_49 rfl ?_
              refine zz_if_ge (tgt := 58) hx hb dL_areRows_51 (by decide) hgw (fun hc51 => ?_) (fun hc51 => ?_)
              · refine zz_iload hx hb hl 0 dL_areRows_58 rfl ?_
                refine zz_bipush hx hb dL_areRows_60 (by decide +kernel) ?_
                refine zz_irem hx hb dL_areRows_62 hgw ⟨by decide, by decide⟩ (by omega) (by omega) ?_
                refine zz_istore (lv' := [(8, .int (zi ((t 54 0 (8 * d + k)) % 100))), (7, .int (zi (t 54 0 (8 * d + k)))), (0, zr ad 0 ((0 : Nat) : Int)), (1, .int (zi ((d : Nat) : Int))), (2, .int (zi ((n : Nat) : Int))), (3, .int (zi ((ycO (fun j => t 54 0 (8 * d + j)) k : Nat) : Int))), (4, .int (zi 1)), (5, .int (zi ((z : Nat) : Int))), (6, .int (zi ((k : Nat) : Int)))]) hx hb hl dL_areRows_63 (by decide) rfl (fun ls hl => ?_)
                refine zz_iload_n hx hb hl 5 dL_areRows_65 rfl rfl ?_
                refine zz_iload hx hb hl 1 dL_areRows_66 rfl ?_
                refine zz_bipush hx hb dL_areRows_68 (by decide +kernel) ?_
                refine zz_icmp_lt (tgt := 77) hx hb dL_areRows_70 (by decide) hgw ⟨by decide, by decide⟩ (fun hc70 => ?_) (fun hc70 => ?_)
                · exfalso; omega
                · refine zz_iconst hx hb dL_areRows_73 ?_
                  refine zz_goto (tgt := 78) hx hb dL_areRows_74 (by decide) ?_
                  refine zz_iadd hx hb dL_areRows_78 ?_
                  refine zz_istore_n (lv' := [(3, .int (zi (((ycO (fun j => t 54 0 (8 * d + j)) k : Nat) : Int) + 1))), (8, .int (zi ((t 54 0 (8 * d + k)) % 100))), (7, .int (zi (t 54 0 (8 * d + k)))), (0, zr ad 0 ((0 : Nat) : Int)), (1, .int (zi ((d : Nat) : Int))), (2, .int (zi ((n : Nat) : Int))), (4, .int (zi 1)), (5, .int (zi ((z : Nat) : Int))), (6, .int (zi ((k : Nat) : Int)))]) hx hb hl dL_areRows_79 rfl (by decide) rfl (fun ls hl => ?_)
                  refine zz_iload hx hb hl 2 dL_areRows_80 rfl ?_
                  refine zz_if_lt (tgt := 133) hx hb dL_areRows_82 (by decide) hgw (fun hc82 => ?_) (fun hc82 => ?_)
                  · exfalso; omega
                  · refine zz_aload_n hx hb hl 3 dL_areRows_85 rfl rfl ?_
                    refine zz_iload hx hb hl 1 dL_areRows_86 rfl ?_
                    refine zz_iconst hx hb dL_areRows_88 ?_
                    refine zl_callH (As := [zr ad 0 ((0 : Nat) : Int), .int (zi ((t 54 0 (8 * d + k)) % 100)), .int (zi 2)]) (rest := []) ⟨hx, hb, hml, hown, hts⟩ (cl_requestIs l hst G ad A N0 σ t nd nr ns c hC hW5.2.2.1 (t 54 0 (8 * d + k) % 100) 2 ⟨by omega, by omega⟩ ⟨by decide, by decide⟩) (vx_cwSW 3 hts gL_areRows_L_requestIs rfl rfl rfl (by decide +kernel) ⟨Nat.le_of_ble_eq_true rfl, Nat.le_of_ble_eq_true rfl⟩) hK hE hAA hNC hW5 (Nat.le_trans hsz hS5.1) hS5 (fun q h => h) rfl hl.1.1 rfl (Nat.le_of_ble_eq_true rfl) dL_areRows_89 ⟨show _ ≤ 52 from by omega, show _ ≤ 312 from by omega⟩ (fun x8 u8 H8 locs8 hp8 hW8 hz8 hk8 hS8 => ?_)
                    rw [hm, pRI_at hqr (by decide), yri_2, hq70] at hp8
                    obtain ⟨rfl, rfl⟩ := hp8
                    refine W.eq (g2 := F0 m 92 ls [.int (zi ((d : Nat) : Int))]) rfl ?_
                    refine zz_iload_n hx hb hl 4 dL_areRows_92 rfl rfl ?_
                    refine zz_icmp_ne (tgt := 137) hx hb dL_areRows_93 (by decide) ⟨by omega, by omega⟩ ⟨by omega, by omega⟩ (fun hc93 => ?_) (fun hc93 => ?_)
                    · exact absurd rfl hc93
                    · refine zz_aload_n hx hb hl 3 dL_areRows_96 rfl rfl ?_
                      refine zz_iload hx hb hl 1 dL_areRows_97 rfl ?_
                      refine zz_iconst hx hb dL_areRows_99 ?_
                      refine zl_callH (As := [zr ad 0 ((0 : Nat) : Int), .int (zi ((t 54 0 (8 * d + k)) % 100)), .int (zi 0)]) (rest := []) ⟨hx, hb, hml, hown, hts⟩ (cl_requestIs l hst G ad A N0 σ t nd nr ns c hC hW8.2.2.1 (t 54 0 (8 * d + k) % 100) 0 ⟨by omega, by omega⟩ ⟨by decide, by decide⟩) (vx_cwSW 3 hts gL_areRows_L_requestIs rfl rfl rfl (by decide +kernel) ⟨Nat.le_of_ble_eq_true rfl, Nat.le_of_ble_eq_true rfl⟩) hK hE hAA hNC hW8 (Nat.le_trans hsz hS8.1) hS8 (fun q h => h) rfl hl.1.1 rfl (Nat.le_of_ble_eq_true rfl) dL_areRows_100 ⟨show _ ≤ 52 from by omega, show _ ≤ 312 from by omega⟩ (fun x9 u9 H9 locs9 hp9 hW9 hz9 hk9 hS9 => ?_)
                      rw [hm, pRI_at hqr (by decide), yri_0] at hp9
                      obtain ⟨rfl, rfl⟩ := hp9
                      refine W.eq (g2 := F0 m 103 ls [.int (zi (t 64 0 q))]) rfl ?_
                      refine zz_iload hx hb hl 2 dL_areRows_103 rfl ?_
                      refine zz_bipush hx hb dL_areRows_105 (by decide +kernel) ?_
                      refine zz_icmp_ge (tgt := 114) hx hb dL_areRows_107 (by decide) hgw ⟨by decide, by decide⟩ (fun hc107 => ?_) (fun hc107 => ?_)
                      · have hbt := Bool.toNat_le (z.testBit q)
                        have hst9 : (z.testBit q = true ∧ t 64 0 q = 1) ∨ (z.testBit q = false ∧ t 64 0 q = 2) := by
                          cases hb9 : z.testBit q with
                          | true =>
                            obtain ⟨i, hi, ei⟩ := (hi3 q (by omega)).mp hb9
                            have hr2 := yWF_row hWF hd (j := i) (by omega)
                            rw [ei, show ((q : Nat) : Int).toNat = q from rfl] at hr2
                            exact Or.inl ⟨rfl, by omega⟩
                          | false =>
                            refine Or.inr ⟨rfl, ?_⟩
                            rcases hq64 with y | y
                            · obtain ⟨i, hi, ei⟩ := g1 k q (by omega) hq y
                              have := (hi3 q (by omega)).mpr ⟨i, hi, ei⟩
                              rw [hb9] at this
                              cases this
                            · exact y
                        refine zz_iload hx hb hl 7 dL_areRows_114 rfl ?_
                        refine zz_iload hx hb hl 1 dL_areRows_116 rfl ?_
                        refine zz_ishr (w := ((z >>> q : Nat) : Int)) hx hb (by rw [hm]; exact zi_shr12 hi2 (by omega)) dL_areRows_118 ?_
                        refine zz_iconst hx hb dL_areRows_119 ?_
                        refine zz_iand (w := ((((z.testBit q).toNat : Nat)) : Int)) hx hb (zi_bit12 hi2 (by omega)) dL_areRows_120 ?_
                        refine zz_iconst hx hb dL_areRows_121 ?_
                        refine zz_icmp_ne (tgt := 129) hx hb dL_areRows_122 (by decide) ⟨by omega, by omega⟩ ⟨by decide, by decide⟩ (fun hc122 => ?_) (fun hc122 => ?_)
                        · refine zz_iconst hx hb dL_areRows_129 ?_
                          refine zz_icmp_ne (tgt := 137) hx hb dL_areRows_130 (by decide) ⟨by omega, by omega⟩ ⟨by decide, by decide⟩ (fun hc130 => ?_) (fun hc130 => ?_)
                          · exfalso; rcases hst9 with ⟨y1, y2⟩ | ⟨y1, y2⟩ <;> rw [y1] at hc122 <;> first | exact hc130 y2 | exact absurd rfl hc122 | exact absurd hc122 (by decide)
                          · refine zz_iconst hx hb dL_areRows_133 ?_
                            refine zz_goto (tgt := 138) hx hb dL_areRows_134 (by decide) ?_
                            refine zz_istore (lv' := [(4, .int (zi 1)), (3, .int (zi (((ycO (fun j => t 54 0 (8 * d + j)) k : Nat) : Int) + 1))), (8, .int (zi ((t 54 0 (8 * d + k)) % 100))), (7, .int (zi (t 54 0 (8 * d + k)))), (0, zr ad 0 ((0 : Nat) : Int)), (1, .int (zi ((d : Nat) : Int))), (2, .int (zi ((n : Nat) : Int))), (5, .int (zi ((z : Nat) : Int))), (6, .int (zi ((k : Nat) : Int)))]) hx hb hl dL_areRows_138 (by decide) rfl (fun ls hl => ?_)
                            refine zz_iload hx hb hl 7 dL_areRows_140 rfl ?_
                            refine zz_iload hx hb hl 3 dL_areRows_142 rfl ?_
                            refine zz_if_lt (tgt := 161) hx hb dL_areRows_144 (by decide) hgw (fun hc144 => ?_) (fun hc144 => ?_)
                            · exfalso; omega
                            · refine zz_iload hx hb hl 3 dL_areRows_147 rfl ?_
                              refine zz_bipush hx hb dL_areRows_149 (by decide +kernel) ?_
                              refine zz_icmp_ge (tgt := 161) hx hb dL_areRows_151 (by decide) hgw ⟨by decide, by decide⟩ (fun hc151 => ?_) (fun hc151 => ?_)
                              · refine zz_iconst hx hb dL_areRows_161 ?_
                                refine zz_ior (w := ((z : Nat) : Int)) hx hb (by rw [show (0 : Int) = ((0 : Nat) : Int) from rfl, zi_or12 hi2 (by decide), Nat.or_zero]) dL_areRows_162 ?_
                                refine zz_istore (lv' := [(5, .int (zi ((z : Nat) : Int))), (4, .int (zi 1)), (3, .int (zi (((ycO (fun j => t 54 0 (8 * d + j)) k : Nat) : Int) + 1))), (8, .int (zi ((t 54 0 (8 * d + k)) % 100))), (7, .int (zi (t 54 0 (8 * d + k)))), (0, zr ad 0 ((0 : Nat) : Int)), (1, .int (zi ((d : Nat) : Int))), (2, .int (zi ((n : Nat) : Int))), (6, .int (zi ((k : Nat) : Int)))]) hx hb hl dL_areRows_163 (by decide) rfl (fun ls hl => ?_)
                                refine zz_iinc (lv' := [(6, .int (zi (((k : Nat) : Int) + 1))), (5, .int (zi ((z : Nat) : Int))), (4, .int (zi 1)), (3, .int (zi (((ycO (fun j => t 54 0 (8 * d + j)) k : Nat) : Int) + 1))), (8, .int (zi ((t 54 0 (8 * d + k)) % 100))), (7, .int (zi (t 54 0 (8 * d + k)))), (0, zr ad 0 ((0 : Nat) : Int)), (1, .int (zi ((d : Nat) : Int))), (2, .int (zi ((n : Nat) : Int)))]) hx hb hl dL_areRows_165 (k0 := 8) rfl (by decide) rfl (fun ls hl => ?_)
                                refine zz_goto (tgt := 28) hx hb dL_areRows_168 (by decide) ?_
                                refine zw_widen (k := (2 + 6 * (k + 1))) (n := (12 + 36 * (k + 1))) (show _ ≤ _ from by omega) (show _ ≤ _ from by omega) ?_
                                refine ih28 (k + 1) z H9 locs9 ls ?_ (by omega) hW9 hS9 (zh_sub hl [6, 7, 8, 3, 2, 1, 0] (by rw [show ((ycO (fun j => t 54 0 (8 * d + j)) (k + 1) : Nat) : Int) = ((ycO (fun j => t 54 0 (8 * d + j)) k : Nat) : Int) + 1 from by rw [ycO_s]; first | (rw [if_pos (by omega)]; omega) | (rw [if_neg (by omega)]; omega)]; rfl))
                                refine ⟨by omega, hi2, fun q' hq' => ?_⟩
                                rw [hi3 q' hq']
                                constructor
                                · rintro ⟨i, hi, ei⟩
                                  exact ⟨i, by omega, ei⟩
                                · rintro ⟨i, hi, ei⟩
                                  rcases Nat.lt_or_ge i k with g | g
                                  · exact ⟨i, g, ei⟩
                                  · obtain rfl : i = k := by omega
                                    omega
                              · exfalso; omega
                        · refine zz_iconst hx hb dL_areRows_125 ?_
                          refine zz_goto (tgt := 130) hx hb dL_areRows_126 (by decide) ?_
                          refine zz_icmp_ne (tgt := 137) hx hb dL_areRows_130 (by decide) ⟨by omega, by omega⟩ ⟨by decide, by decide⟩ (fun hc130 => ?_) (fun hc130 => ?_)
                          · exfalso; rcases hst9 with ⟨y1, y2⟩ | ⟨y1, y2⟩ <;> rw [y1] at hc122 <;> first | exact hc130 y2 | exact absurd rfl hc122 | exact absurd hc122 (by decide)
                          · refine zz_iconst hx hb dL_areRows_133 ?_
                            refine zz_goto (tgt := 138) hx hb dL_areRows_134 (by decide) ?_
                            refine zz_istore (lv' := [(4, .int (zi 1)), (3, .int (zi (((ycO (fun j => t 54 0 (8 * d + j)) k : Nat) : Int) + 1))), (8, .int (zi ((t 54 0 (8 * d + k)) % 100))), (7, .int (zi (t 54 0 (8 * d + k)))), (0, zr ad 0 ((0 : Nat) : Int)), (1, .int (zi ((d : Nat) : Int))), (2, .int (zi ((n : Nat) : Int))), (5, .int (zi ((z : Nat) : Int))), (6, .int (zi ((k : Nat) : Int)))]) hx hb hl dL_areRows_138 (by decide) rfl (fun ls hl => ?_)
                            refine zz_iload hx hb hl 7 dL_areRows_140 rfl ?_
                            refine zz_iload hx hb hl 3 dL_areRows_142 rfl ?_
                            refine zz_if_lt (tgt := 161) hx hb dL_areRows_144 (by decide) hgw (fun hc144 => ?_) (fun hc144 => ?_)
                            · exfalso; omega
                            · refine zz_iload hx hb hl 3 dL_areRows_147 rfl ?_
                              refine zz_bipush hx hb dL_areRows_149 (by decide +kernel) ?_
                              refine zz_icmp_ge (tgt := 161) hx hb dL_areRows_151 (by decide) hgw ⟨by decide, by decide⟩ (fun hc151 => ?_) (fun hc151 => ?_)
                              · refine zz_iconst hx hb dL_areRows_161 ?_
                                refine zz_ior (w := ((z : Nat) : Int)) hx hb (by rw [show (0 : Int) = ((0 : Nat) : Int) from rfl, zi_or12 hi2 (by decide), Nat.or_zero]) dL_areRows_162 ?_
                                refine zz_istore (lv' := [(5, .int (zi ((z : Nat) : Int))), (4, .int (zi 1)), (3, .int (zi (((ycO (fun j => t 54 0 (8 * d + j)) k : Nat) : Int) + 1))), (8, .int (zi ((t 54 0 (8 * d + k)) % 100))), (7, .int (zi (t 54 0 (8 * d + k)))), (0, zr ad 0 ((0 : Nat) : Int)), (1, .int (zi ((d : Nat) : Int))), (2, .int (zi ((n : Nat) : Int))), (6, .int (zi ((k : Nat) : Int)))]) hx hb hl dL_areRows_163 (by decide) rfl (fun ls hl => ?_)
                                refine zz_iinc (lv' := [(6, .int (zi (((k : Nat) : Int) + 1))), (5, .int (zi ((z : Nat) : Int))), (4, .int (zi 1)), (3, .int (zi (((ycO (fun j => t 54 0 (8 * d + j)) k : Nat) : Int) + 1))), (8, .int (zi ((t 54 0 (8 * d + k)) % 100))), (7, .int (zi (t 54 0 (8 * d + k)))), (0, zr ad 0 ((0 : Nat) : Int)), (1, .int (zi ((d : Nat) : Int))), (2, .int (zi ((n : Nat) : Int)))]) hx hb hl dL_areRows_165 (k0 := 8) rfl (by decide) rfl (fun ls hl => ?_)
                                refine zz_goto (tgt := 28) hx hb dL_areRows_168 (by decide) ?_
                                refine zw_widen (k := (2 + 6 * (k + 1))) (n := (12 + 36 * (k + 1))) (show _ ≤ _ from by omega) (show _ ≤ _ from by omega) ?_
                                refine ih28 (k + 1) z H9 locs9 ls ?_ (by omega) hW9 hS9 (zh_sub hl [6, 7, 8, 3, 2, 1, 0] (by rw [show ((ycO (fun j => t 54 0 (8 * d + j)) (k + 1) : Nat) : Int) = ((ycO (fun j => t 54 0 (8 * d + j)) k : Nat) : Int) + 1 from by rw [ycO_s]; first | (rw [if_pos (by omega)]; omega) | (rw [if_neg (by omega)]; omega)]; rfl))
                                refine ⟨by omega, hi2, fun q' hq' => ?_⟩
                                rw [hi3 q' hq']
                                constructor
                                · rintro ⟨i, hi, ei⟩
                                  exact ⟨i, by omega, ei⟩
                                · rintro ⟨i, hi, ei⟩
                                  rcases Nat.lt_or_ge i k with g | g
                                  · exact ⟨i, g, ei⟩
                                  · obtain rfl : i = k := by omega
                                    omega
                              · exfalso; omega
                      · exfalso; omega
              · exfalso; omega
    refine zw_widen (k := (2 + 6 * 0)) (n := (12 + 36 * 0)) (show _ ≤ _ from by omega) (show _ ≤ _ from by omega) ?_
    refine hcut28 _ 0 0 H1 locs1 ls ?_ (Nat.lt_succ_self _) hW1 hS1 (zh_sub hl [5, 6, 4, 3, 2, 1, 0] rfl)
    exact ⟨Nat.zero_le _, by decide, fun q hq => ⟨fun h => (by rw [Nat.zero_testBit] at h; cases h), fun ⟨i, hi, _⟩ => absurd hi (Nat.not_lt_zero i)⟩⟩

set_option maxHeartbeats 4000000 in
set_option maxRecDepth 100000 in
theorem c_L_sum (l : Launch) (hst : l.stackTraces = false) (G : zG) (ad : zA) (A : Nat → Prop) (N0 : Nat) (σ t : zS) (nd nr ns : Nat) (c : Int) (hC : pC ad σ t nd nr ns c) (hg : ∀ κ i k, zg (σ κ i k))  : Met l yL_sum wsL_sum ({ frames := 9, cells := 561, slots := 3366, locals := 271 }) (zPH G ad A N0 σ [zr ad 0 ((0 : Nat) : Int)]) (zQ G ad A zri (fun r u => pC ad u t nd nr ns c ∧ (zi (pSM t nd nr 56)).toInt = r)) 561 3366 A := by
  refine zz_ofH (cc := cL_sum) (maxL := 3) (ret := (some .int)) (by decide) rfl (by intro v hv; simp only [List.mem_cons, List.not_mem_nil, or_false] at hv; rcases hv with rfl <;> first | rfl | exact zr_cat _ _ _) (Nat.le_of_ble_eq_true rfl) ?_
  intro p e s m below meth c9 hx hb hr hml hts hown hlocks hsz hW0 hK hE hAA hNC ls hl
  have hS0 : va_S A s.heap s.heap [] := va_S.rf
  have hl : zh ls 3 [(0, zr ad 0 ((0 : Nat) : Int))] := hl
  refine zz_aload_n hx hb hl 0 dL_sum_0 rfl rfl ?_
  refine zl_callH (As := [zr ad 0 ((0 : Nat) : Int)]) (rest := []) ⟨hx, hb, hml, hown, hts⟩ (cl_best l hst G ad A N0 σ t nd nr ns c hC hW0.2.2.1 ) (vx_cwSW 1 hts gL_sum_L_best rfl rfl rfl (by decide +kernel) ⟨Nat.le_of_ble_eq_true rfl, Nat.le_of_ble_eq_true rfl⟩) hK hE hAA hNC hW0 (Nat.le_trans hsz hS0.1) hS0 (fun q h => h) rfl hl.1.1 rfl (Nat.le_of_ble_eq_true rfl) dL_sum_1 ⟨show _ ≤ 561 from by omega, show _ ≤ 3366 from by omega⟩ (fun x1 u1 H1 locs1 hp1 hW1 hz1 hk1 hS1 => ?_)
  obtain ⟨σ1, hs1⟩ : ∃ z, z = u1 := ⟨_, rfl⟩
  rw [← hs1] at hp1 hW1
  obtain ⟨hpc1, rfl⟩ := hp1
  have hC1 := hpc1
  refine W.eq (g2 := F0 m 4 ls [.int (zi (pBE t nd nr))]) rfl ?_
  refine zz_istore_n (lv' := [(1, .int (zi (pBE t nd nr))), (0, zr ad 0 ((0 : Nat) : Int))]) hx hb hl dL_sum_4 rfl (by decide) rfl (fun ls hl => ?_)
  refine zz_iconst hx hb dL_sum_5 ?_
  refine zz_istore_n (lv' := [(2, .int (zi 0)), (1, .int (zi (pBE t nd nr))), (0, zr ad 0 ((0 : Nat) : Int))]) hx hb hl dL_sum_6 rfl (by decide) rfl (fun ls hl => ?_)
  have hcut7 : ∀ (n9 : Nat) (k : Nat)  (σ9 : zS) (H9 : Heap) (locs9 : List Loc) (ls : Array Slot), (k ≤ 56 ∧ pC ad σ9 t nd nr ns c) → (56 - k) < n9 → ZW G ad A σ9 H9 → va_S A s.heap H9 locs9 → zh ls 3 [(0, zr ad 0 ((0 : Nat) : Int)), (1, .int (zi (pSM t nd nr k))), (2, .int (zi ((k : Nat) : Int)))] → W p l e ({ frames := 9, cells := 561, slots := 3366, locals := 271 }) s m ([zr ad 0 ((0 : Nat) : Int)] : List Value).toArray below meth c9 H9 locs9 (1 + 10 * k) (6 + 60 * k) (MQ below (zQ G ad A zri (fun r u => pC ad u t nd nr ns c ∧ (zi (pSM t nd nr 56)).toInt = r)) ([zr ad 0 ((0 : Nat) : Int)] : List Value).toArray s 561 3366 A) (F0 m 7 ls []) := by
    intro n9
    induction n9 with
    | zero =>
      intro k σ2 H2 locs2 ls hI7 hm7 hW2 hS2 hl
      exact absurd hm7 (Nat.not_lt_zero _)
    | succ n9 ih7 =>
      intro k σ2 H2 locs2 ls hI7 hm7 hW2 hS2 hl
      obtain ⟨hi1, hi2⟩ := hI7
      refine zz_iload_n hx hb hl 2 dL_sum_7 rfl rfl ?_
      refine zz_bipush hx hb dL_sum_8 (by decide +kernel) ?_
      refine zz_icmp_ge (tgt := 120) hx hb dL_sum_10 (by decide) ⟨by omega, by omega⟩ ⟨by decide, by decide⟩ (fun hc10 => ?_) (fun hc10 => ?_)
      · refine zz_iload_n hx hb hl 1 dL_sum_120 rfl rfl ?_
        obtain rfl : k = 56 := by omega
        refine W.eq (g2 := F0 m 121 ls [.int (zi (zi (pSM t nd nr 56)).toInt)]) (by rw [← zi_of]) ?_
        refine zw_widen (k := 561) (n := 3366) (show _ ≤ 561 from by omega) (show _ ≤ 3366 from by omega) ?_
        exact zz_reti hx hb hr hlocks hW2 hS2 ⟨hi2, rfl⟩ dL_sum_121
      · refine zz_bipush hx hb dL_sum_13 (by decide +kernel) ?_
        refine zz_iload_n hx hb hl 1 dL_sum_15 rfl rfl ?_
        refine zz_imul hx hb dL_sum_16 ?_
        refine zz_aload_n hx hb hl 0 dL_sum_17 rfl rfl ?_
        refine zz_iload_n hx hb hl 2 dL_sum_18 rfl rfl ?_
        refine zz_bipush hx hb dL_sum_19 (by decide +kernel) ?_
        refine zz_idiv hx hb dL_sum_21 ⟨by omega, by omega⟩ ⟨by decide, by decide⟩ (by omega) (by omega) ?_
        refine zz_iload_n hx hb hl 2 dL_sum_22 rfl rfl ?_
        refine zz_bipush hx hb dL_sum_23 (by decide +kernel) ?_
        refine zz_irem hx hb dL_sum_25 ⟨by omega, by omega⟩ ⟨by decide, by decide⟩ (by omega) (by omega) ?_
        refine zl_callH (As := [zr ad 0 ((0 : Nat) : Int), .int (zi (((k : Nat) : Int) / 6)), .int (zi (((k : Nat) : Int) % 7))]) (rest := [.int (zi (31 * (pSM t nd nr k)))]) ⟨hx, hb, hml, hown, hts⟩ (cl_requestIs l hst G ad A N0 σ2 t nd nr ns c hi2 hW2.2.2.1 (((k : Nat) : Int) / 6) (((k : Nat) : Int) % 7) ⟨by omega, by omega⟩ ⟨by omega, by omega⟩) (vx_cwSW 3 hts gL_sum_L_requestIs rfl rfl rfl (by decide +kernel) ⟨Nat.le_of_ble_eq_true rfl, Nat.le_of_ble_eq_true rfl⟩) hK hE hAA hNC hW2 (Nat.le_trans hsz hS2.1) hS2 (fun q h => h) rfl hl.1.1 rfl (by simp only [List.map, zr_cat, zcat_i]; decide) dL_sum_26 ⟨show _ ≤ 561 from by omega, show _ ≤ 3366 from by omega⟩ (fun x3 u3 H3 locs3 hp3 hW3 hz3 hk3 hS3 => ?_)
        obtain ⟨rfl, rfl⟩ := hp3
        refine W.eq (g2 := F0 m 29 ls [.int (zi (pRI t nr (((k : Nat) : Int) / 6) (((k : Nat) : Int) % 7))), .int (zi (31 * (pSM t nd nr k)))]) rfl ?_
        refine zz_iadd hx hb dL_sum_29 ?_
        refine zz_iconst hx hb dL_sum_30 ?_
        refine zz_aload_n hx hb hl 0 dL_sum_31 rfl rfl ?_
        refine zz_iload_n hx hb hl 2 dL_sum_32 rfl rfl ?_
        refine zz_bipush hx hb dL_sum_33 (by decide +kernel) ?_
        refine zz_idiv hx hb dL_sum_35 ⟨by omega, by omega⟩ ⟨by decide, by decide⟩ (by omega) (by omega) ?_
        refine zz_iconst hx hb dL_sum_36 ?_
        refine zz_irem hx hb dL_sum_37 ⟨by omega, by omega⟩ ⟨by decide, by decide⟩ (by omega) (by omega) ?_
        refine zz_iload_n hx hb hl 2 dL_sum_38 rfl rfl ?_
        refine zz_bipush hx hb dL_sum_39 (by decide +kernel) ?_
        refine zz_irem hx hb dL_sum_41 ⟨by omega, by omega⟩ ⟨by decide, by decide⟩ (by omega) (by omega) ?_
        refine zl_callH (As := [zr ad 0 ((0 : Nat) : Int), .int (zi ((((k : Nat) : Int) / 7) % 4)), .int (zi (((k : Nat) : Int) % 7))]) (rest := [.int (zi 3), .int (zi ((31 * (pSM t nd nr k)) + (pRI t nr (((k : Nat) : Int) / 6) (((k : Nat) : Int) % 7))))]) ⟨hx, hb, hml, hown, hts⟩ (cl_driverIs l hst G ad A N0 σ2 t nd nr ns c hi2 hW3.2.2.1 ((((k : Nat) : Int) / 7) % 4) (((k : Nat) : Int) % 7) ⟨by omega, by omega⟩ ⟨by omega, by omega⟩) (vx_cwSW 3 hts gL_sum_L_driverIs rfl rfl rfl (by decide +kernel) ⟨Nat.le_of_ble_eq_true rfl, Nat.le_of_ble_eq_true rfl⟩) hK hE hAA hNC hW3 (Nat.le_trans hsz hS3.1) hS3 (fun q h => h) rfl hl.1.1 rfl (by simp only [List.map, zr_cat, zcat_i]; decide) dL_sum_42 ⟨show _ ≤ 561 from by omega, show _ ≤ 3366 from by omega⟩ (fun x4 u4 H4 locs4 hp4 hW4 hz4 hk4 hS4 => ?_)
        obtain ⟨rfl, rfl⟩ := hp4
        refine W.eq (g2 := F0 m 45 ls [.int (zi (pDI t nd ((((k : Nat) : Int) / 7) % 4) (((k : Nat) : Int) % 7))), .int (zi 3), .int (zi ((31 * (pSM t nd nr k)) + (pRI t nr (((k : Nat) : Int) / 6) (((k : Nat) : Int) % 7))))]) rfl ?_
        refine zz_imul hx hb dL_sum_45 ?_
        refine zz_iadd hx hb dL_sum_46 ?_
        refine zz_iconst hx hb dL_sum_47 ?_
        refine zz_aload_n hx hb hl 0 dL_sum_48 rfl rfl ?_
        refine zz_iload_n hx hb hl 2 dL_sum_49 rfl rfl ?_
        refine zz_bipush hx hb dL_sum_50 (by decide +kernel) ?_
        refine zz_idiv hx hb dL_sum_52 ⟨by omega, by omega⟩ ⟨by decide, by decide⟩ (by omega) (by omega) ?_
        refine zz_iload_n hx hb hl 2 dL_sum_53 rfl rfl ?_
        refine zz_iconst hx hb dL_sum_54 ?_
        refine zz_idiv hx hb dL_sum_55 ⟨by omega, by omega⟩ ⟨by decide, by decide⟩ (by omega) (by omega) ?_
        refine zz_bipush hx hb dL_sum_56 (by decide +kernel) ?_
        refine zz_irem hx hb dL_sum_58 ⟨by omega, by omega⟩ ⟨by decide, by decide⟩ (by omega) (by omega) ?_
        refine zz_iload_n hx hb hl 2 dL_sum_59 rfl rfl ?_
        refine zz_iconst hx hb dL_sum_60 ?_
        refine zz_irem hx hb dL_sum_61 ⟨by omega, by omega⟩ ⟨by decide, by decide⟩ (by omega) (by omega) ?_
        refine zz_if_ne (tgt := 69) hx hb dL_sum_62 (by decide) ⟨by omega, by omega⟩ (fun hc62 => ?_) (fun hc62 => ?_)
        · refine zz_iconst hx hb dL_sum_69 ?_
          refine zl_callH (As := [zr ad 0 ((0 : Nat) : Int), .int (zi (((k : Nat) : Int) / 16)), .int (zi ((((k : Nat) : Int) / 2) % 8)), .int (zi 0)]) (rest := [.int (zi 5), .int (zi (((31 * (pSM t nd nr k)) + (pRI t nr (((k : Nat) : Int) / 6) (((k : Nat) : Int) % 7))) + (3 * (pDI t nd ((((k : Nat) : Int) / 7) % 4) (((k : Nat) : Int) % 7)))))]) ⟨hx, hb, hml, hown, hts⟩ (cl_stop l hst G ad A N0 σ2 t nd nr ns c hi2 hW4.2.2.1 (((k : Nat) : Int) / 16) ((((k : Nat) : Int) / 2) % 8) 0 ⟨by omega, by omega⟩ ⟨by omega, by omega⟩ (Or.inl rfl)) (vx_cwSW 4 hts gL_sum_L_stop rfl rfl rfl (by decide +kernel) ⟨Nat.le_of_ble_eq_true rfl, Nat.le_of_ble_eq_true rfl⟩) hK hE hAA hNC hW4 (Nat.le_trans hsz hS4.1) hS4 (fun q h => h) rfl hl.1.1 rfl (by simp only [List.map, zr_cat, zcat_i]; decide) dL_sum_70 ⟨show _ ≤ 561 from by omega, show _ ≤ 3366 from by omega⟩ (fun x5 u5 H5 locs5 hp5 hW5 hz5 hk5 hS5 => ?_)
          obtain ⟨rfl, rfl⟩ := hp5
          refine W.eq (g2 := F0 m 73 ls [.int (zi (pST t nd (((k : Nat) : Int) / 16) ((((k : Nat) : Int) / 2) % 8) 0)), .int (zi 5), .int (zi (((31 * (pSM t nd nr k)) + (pRI t nr (((k : Nat) : Int) / 6) (((k : Nat) : Int) % 7))) + (3 * (pDI t nd ((((k : Nat) : Int) / 7) % 4) (((k : Nat) : Int) % 7)))))]) rfl ?_
          refine zz_imul hx hb dL_sum_73 ?_
          refine zz_iadd hx hb dL_sum_74 ?_
          refine zz_bipush hx hb dL_sum_75 (by decide +kernel) ?_
          refine zz_aload_n hx hb hl 0 dL_sum_77 rfl rfl ?_
          refine zz_iload_n hx hb hl 2 dL_sum_78 rfl rfl ?_
          refine zz_bipush hx hb dL_sum_79 (by decide +kernel) ?_
          refine zz_idiv hx hb dL_sum_81 ⟨by omega, by omega⟩ ⟨by decide, by decide⟩ (by omega) (by omega) ?_
          refine zz_iload_n hx hb hl 2 dL_sum_82 rfl rfl ?_
          refine zz_bipush hx hb dL_sum_83 (by decide +kernel) ?_
          refine zz_irem hx hb dL_sum_85 ⟨by omega, by omega⟩ ⟨by decide, by decide⟩ (by omega) (by omega) ?_
          refine zl_callH (As := [zr ad 0 ((0 : Nat) : Int), .int (zi (((k : Nat) : Int) / 8)), .int (zi (((k : Nat) : Int) % 8))]) (rest := [.int (zi 7), .int (zi ((((31 * (pSM t nd nr k)) + (pRI t nr (((k : Nat) : Int) / 6) (((k : Nat) : Int) % 7))) + (3 * (pDI t nd ((((k : Nat) : Int) / 7) % 4) (((k : Nat) : Int) % 7)))) + (5 * (pST t nd (((k : Nat) : Int) / 16) ((((k : Nat) : Int) / 2) % 8) 0))))]) ⟨hx, hb, hml, hown, hts⟩ (cl_way l hst G ad A N0 σ2 t nd nr ns c hi2 hW5.2.2.1 (((k : Nat) : Int) / 8) (((k : Nat) : Int) % 8) ⟨by omega, by omega⟩ ⟨by omega, by omega⟩) (vx_cwSW 3 hts gL_sum_L_way rfl rfl rfl (by decide +kernel) ⟨Nat.le_of_ble_eq_true rfl, Nat.le_of_ble_eq_true rfl⟩) hK hE hAA hNC hW5 (Nat.le_trans hsz hS5.1) hS5 (fun q h => h) rfl hl.1.1 rfl (by simp only [List.map, zr_cat, zcat_i]; decide) dL_sum_86 ⟨show _ ≤ 561 from by omega, show _ ≤ 3366 from by omega⟩ (fun x6 u6 H6 locs6 hp6 hW6 hz6 hk6 hS6 => ?_)
          obtain ⟨rfl, rfl⟩ := hp6
          refine W.eq (g2 := F0 m 89 ls [.int (zi (pWY t (((k : Nat) : Int) / 8) (((k : Nat) : Int) % 8))), .int (zi 7), .int (zi ((((31 * (pSM t nd nr k)) + (pRI t nr (((k : Nat) : Int) / 6) (((k : Nat) : Int) % 7))) + (3 * (pDI t nd ((((k : Nat) : Int) / 7) % 4) (((k : Nat) : Int) % 7)))) + (5 * (pST t nd (((k : Nat) : Int) / 16) ((((k : Nat) : Int) / 2) % 8) 0))))]) rfl ?_
          refine zz_imul hx hb dL_sum_89 ?_
          refine zz_iadd hx hb dL_sum_90 ?_
          refine zz_bipush hx hb dL_sum_91 (by decide +kernel) ?_
          refine zz_aload_n hx hb hl 0 dL_sum_93 rfl rfl ?_
          refine zz_iload_n hx hb hl 2 dL_sum_94 rfl rfl ?_
          refine zz_iconst hx hb dL_sum_95 ?_
          refine zz_irem hx hb dL_sum_96 ⟨by omega, by omega⟩ ⟨by decide, by decide⟩ (by omega) (by omega) ?_
          refine zl_callH (As := [zr ad 0 ((0 : Nat) : Int), .int (zi (((k : Nat) : Int) % 4))]) (rest := [.int (zi 11), .int (zi (((((31 * (pSM t nd nr k)) + (pRI t nr (((k : Nat) : Int) / 6) (((k : Nat) : Int) % 7))) + (3 * (pDI t nd ((((k : Nat) : Int) / 7) % 4) (((k : Nat) : Int) % 7)))) + (5 * (pST t nd (((k : Nat) : Int) / 16) ((((k : Nat) : Int) / 2) % 8) 0))) + (7 * (pWY t (((k : Nat) : Int) / 8) (((k : Nat) : Int) % 8)))))]) ⟨hx, hb, hml, hown, hts⟩ (cl_height l hst G ad A N0 σ2 t nd nr ns c hi2 hW6.2.2.1 (((k : Nat) : Int) % 4) ⟨by omega, by omega⟩) (vx_cwSW 2 hts gL_sum_L_height rfl rfl rfl (by decide +kernel) ⟨Nat.le_of_ble_eq_true rfl, Nat.le_of_ble_eq_true rfl⟩) hK hE hAA hNC hW6 (Nat.le_trans hsz hS6.1) hS6 (fun q h => h) rfl hl.1.1 rfl (by simp only [List.map, zr_cat, zcat_i]; decide) dL_sum_97 ⟨show _ ≤ 561 from by omega, show _ ≤ 3366 from by omega⟩ (fun x7 u7 H7 locs7 hp7 hW7 hz7 hk7 hS7 => ?_)
          obtain ⟨rfl, rfl⟩ := hp7
          refine W.eq (g2 := F0 m 100 ls [.int (zi (pHT t nd nr (((k : Nat) : Int) % 4))), .int (zi 11), .int (zi (((((31 * (pSM t nd nr k)) + (pRI t nr (((k : Nat) : Int) / 6) (((k : Nat) : Int) % 7))) + (3 * (pDI t nd ((((k : Nat) : Int) / 7) % 4) (((k : Nat) : Int) % 7)))) + (5 * (pST t nd (((k : Nat) : Int) / 16) ((((k : Nat) : Int) / 2) % 8) 0))) + (7 * (pWY t (((k : Nat) : Int) / 8) (((k : Nat) : Int) % 8)))))]) rfl ?_
          refine zz_imul hx hb dL_sum_100 ?_
          refine zz_iadd hx hb dL_sum_101 ?_
          refine zz_bipush hx hb dL_sum_102 (by decide +kernel) ?_
          refine zz_aload_n hx hb hl 0 dL_sum_104 rfl rfl ?_
          refine zz_iload_n hx hb hl 2 dL_sum_105 rfl rfl ?_
          refine zz_iconst hx hb dL_sum_106 ?_
          refine zz_irem hx hb dL_sum_107 ⟨by omega, by omega⟩ ⟨by decide, by decide⟩ (by omega) (by omega) ?_
          refine zl_callH (As := [zr ad 0 ((0 : Nat) : Int), .int (zi (((k : Nat) : Int) % 4))]) (rest := [.int (zi 13), .int (zi ((((((31 * (pSM t nd nr k)) + (pRI t nr (((k : Nat) : Int) / 6) (((k : Nat) : Int) % 7))) + (3 * (pDI t nd ((((k : Nat) : Int) / 7) % 4) (((k : Nat) : Int) % 7)))) + (5 * (pST t nd (((k : Nat) : Int) / 16) ((((k : Nat) : Int) / 2) % 8) 0))) + (7 * (pWY t (((k : Nat) : Int) / 8) (((k : Nat) : Int) % 8)))) + (11 * (pHT t nd nr (((k : Nat) : Int) % 4)))))]) ⟨hx, hb, hml, hown, hts⟩ (cl_pay l hst G ad A N0 σ2 t nd nr ns c hi2 hW7.2.2.1 (((k : Nat) : Int) % 4) ⟨by omega, by omega⟩) (vx_cwSW 2 hts gL_sum_L_pay rfl rfl rfl (by decide +kernel) ⟨Nat.le_of_ble_eq_true rfl, Nat.le_of_ble_eq_true rfl⟩) hK hE hAA hNC hW7 (Nat.le_trans hsz hS7.1) hS7 (fun q h => h) rfl hl.1.1 rfl (by simp only [List.map, zr_cat, zcat_i]; decide) dL_sum_108 ⟨show _ ≤ 561 from by omega, show _ ≤ 3366 from by omega⟩ (fun x8 u8 H8 locs8 hp8 hW8 hz8 hk8 hS8 => ?_)
          obtain ⟨rfl, rfl⟩ := hp8
          refine W.eq (g2 := F0 m 111 ls [.int (zi (pPA t nd (((k : Nat) : Int) % 4))), .int (zi 13), .int (zi ((((((31 * (pSM t nd nr k)) + (pRI t nr (((k : Nat) : Int) / 6) (((k : Nat) : Int) % 7))) + (3 * (pDI t nd ((((k : Nat) : Int) / 7) % 4) (((k : Nat) : Int) % 7)))) + (5 * (pST t nd (((k : Nat) : Int) / 16) ((((k : Nat) : Int) / 2) % 8) 0))) + (7 * (pWY t (((k : Nat) : Int) / 8) (((k : Nat) : Int) % 8)))) + (11 * (pHT t nd nr (((k : Nat) : Int) % 4)))))]) rfl ?_
          refine zz_imul hx hb dL_sum_111 ?_
          refine zz_iadd hx hb dL_sum_112 ?_
          refine zz_istore_n (lv' := [(1, .int (zi (((((((31 * (pSM t nd nr k)) + (pRI t nr (((k : Nat) : Int) / 6) (((k : Nat) : Int) % 7))) + (3 * (pDI t nd ((((k : Nat) : Int) / 7) % 4) (((k : Nat) : Int) % 7)))) + (5 * (pST t nd (((k : Nat) : Int) / 16) ((((k : Nat) : Int) / 2) % 8) 0))) + (7 * (pWY t (((k : Nat) : Int) / 8) (((k : Nat) : Int) % 8)))) + (11 * (pHT t nd nr (((k : Nat) : Int) % 4)))) + (13 * (pPA t nd (((k : Nat) : Int) % 4)))))), (0, zr ad 0 ((0 : Nat) : Int)), (2, .int (zi ((k : Nat) : Int)))]) hx hb hl dL_sum_113 rfl (by decide) rfl (fun ls hl => ?_)
          refine zz_iinc (lv' := [(2, .int (zi (((k : Nat) : Int) + 1))), (1, .int (zi (((((((31 * (pSM t nd nr k)) + (pRI t nr (((k : Nat) : Int) / 6) (((k : Nat) : Int) % 7))) + (3 * (pDI t nd ((((k : Nat) : Int) / 7) % 4) (((k : Nat) : Int) % 7)))) + (5 * (pST t nd (((k : Nat) : Int) / 16) ((((k : Nat) : Int) / 2) % 8) 0))) + (7 * (pWY t (((k : Nat) : Int) / 8) (((k : Nat) : Int) % 8)))) + (11 * (pHT t nd nr (((k : Nat) : Int) % 4)))) + (13 * (pPA t nd (((k : Nat) : Int) % 4)))))), (0, zr ad 0 ((0 : Nat) : Int))]) hx hb hl dL_sum_114 (k0 := 2) rfl (by decide) rfl (fun ls hl => ?_)
          refine zz_goto (tgt := 7) hx hb dL_sum_117 (by decide) ?_
          refine zw_widen (k := (1 + 10 * (k + 1))) (n := (6 + 60 * (k + 1))) (show _ ≤ _ from by omega) (show _ ≤ _ from by omega) ?_
          refine ih7 (k + 1) σ2 H8 locs8 ls ?_ (by omega) hW8 hS8 (zh_sub hl [2, 1, 0] (by rw [show pSM t nd nr (k + 1) = ((((((31 * (pSM t nd nr k)) + (pRI t nr (((k : Nat) : Int) / 6) (((k : Nat) : Int) % 7))) + (3 * (pDI t nd ((((k : Nat) : Int) / 7) % 4) (((k : Nat) : Int) % 7)))) + (5 * (pST t nd (((k : Nat) : Int) / 16) ((((k : Nat) : Int) / 2) % 8) 0))) + (7 * (pWY t (((k : Nat) : Int) / 8) (((k : Nat) : Int) % 8)))) + (11 * (pHT t nd nr (((k : Nat) : Int) % 4)))) + (13 * (pPA t nd (((k : Nat) : Int) % 4))) from by first | (show 31 * pSM t nd nr k + _ + _ + 5 * pST t nd _ _ (if k % 2 = 0 then 1 else 0) + _ + _ + _ = _; rw [if_pos (by omega)]) | (show 31 * pSM t nd nr k + _ + _ + 5 * pST t nd _ _ (if k % 2 = 0 then 1 else 0) + _ + _ + _ = _; rw [if_neg (by omega)])]; rfl))
          exact ⟨by omega, hi2⟩
        · refine zz_iconst hx hb dL_sum_65 ?_
          refine zz_goto (tgt := 70) hx hb dL_sum_66 (by decide) ?_
          refine zl_callH (As := [zr ad 0 ((0 : Nat) : Int), .int (zi (((k : Nat) : Int) / 16)), .int (zi ((((k : Nat) : Int) / 2) % 8)), .int (zi 1)]) (rest := [.int (zi 5), .int (zi (((31 * (pSM t nd nr k)) + (pRI t nr (((k : Nat) : Int) / 6) (((k : Nat) : Int) % 7))) + (3 * (pDI t nd ((((k : Nat) : Int) / 7) % 4) (((k : Nat) : Int) % 7)))))]) ⟨hx, hb, hml, hown, hts⟩ (cl_stop l hst G ad A N0 σ2 t nd nr ns c hi2 hW4.2.2.1 (((k : Nat) : Int) / 16) ((((k : Nat) : Int) / 2) % 8) 1 ⟨by omega, by omega⟩ ⟨by omega, by omega⟩ (Or.inr rfl)) (vx_cwSW 4 hts gL_sum_L_stop rfl rfl rfl (by decide +kernel) ⟨Nat.le_of_ble_eq_true rfl, Nat.le_of_ble_eq_true rfl⟩) hK hE hAA hNC hW4 (Nat.le_trans hsz hS4.1) hS4 (fun q h => h) rfl hl.1.1 rfl (by simp only [List.map, zr_cat, zcat_i]; decide) dL_sum_70 ⟨show _ ≤ 561 from by omega, show _ ≤ 3366 from by omega⟩ (fun x9 u9 H9 locs9 hp9 hW9 hz9 hk9 hS9 => ?_)
          obtain ⟨rfl, rfl⟩ := hp9
          refine W.eq (g2 := F0 m 73 ls [.int (zi (pST t nd (((k : Nat) : Int) / 16) ((((k : Nat) : Int) / 2) % 8) 1)), .int (zi 5), .int (zi (((31 * (pSM t nd nr k)) + (pRI t nr (((k : Nat) : Int) / 6) (((k : Nat) : Int) % 7))) + (3 * (pDI t nd ((((k : Nat) : Int) / 7) % 4) (((k : Nat) : Int) % 7)))))]) rfl ?_
          refine zz_imul hx hb dL_sum_73 ?_
          refine zz_iadd hx hb dL_sum_74 ?_
          refine zz_bipush hx hb dL_sum_75 (by decide +kernel) ?_
          refine zz_aload_n hx hb hl 0 dL_sum_77 rfl rfl ?_
          refine zz_iload_n hx hb hl 2 dL_sum_78 rfl rfl ?_
          refine zz_bipush hx hb dL_sum_79 (by decide +kernel) ?_
          refine zz_idiv hx hb dL_sum_81 ⟨by omega, by omega⟩ ⟨by decide, by decide⟩ (by omega) (by omega) ?_
          refine zz_iload_n hx hb hl 2 dL_sum_82 rfl rfl ?_
          refine zz_bipush hx hb dL_sum_83 (by decide +kernel) ?_
          refine zz_irem hx hb dL_sum_85 ⟨by omega, by omega⟩ ⟨by decide, by decide⟩ (by omega) (by omega) ?_
          refine zl_callH (As := [zr ad 0 ((0 : Nat) : Int), .int (zi (((k : Nat) : Int) / 8)), .int (zi (((k : Nat) : Int) % 8))]) (rest := [.int (zi 7), .int (zi ((((31 * (pSM t nd nr k)) + (pRI t nr (((k : Nat) : Int) / 6) (((k : Nat) : Int) % 7))) + (3 * (pDI t nd ((((k : Nat) : Int) / 7) % 4) (((k : Nat) : Int) % 7)))) + (5 * (pST t nd (((k : Nat) : Int) / 16) ((((k : Nat) : Int) / 2) % 8) 1))))]) ⟨hx, hb, hml, hown, hts⟩ (cl_way l hst G ad A N0 σ2 t nd nr ns c hi2 hW9.2.2.1 (((k : Nat) : Int) / 8) (((k : Nat) : Int) % 8) ⟨by omega, by omega⟩ ⟨by omega, by omega⟩) (vx_cwSW 3 hts gL_sum_L_way rfl rfl rfl (by decide +kernel) ⟨Nat.le_of_ble_eq_true rfl, Nat.le_of_ble_eq_true rfl⟩) hK hE hAA hNC hW9 (Nat.le_trans hsz hS9.1) hS9 (fun q h => h) rfl hl.1.1 rfl (by simp only [List.map, zr_cat, zcat_i]; decide) dL_sum_86 ⟨show _ ≤ 561 from by omega, show _ ≤ 3366 from by omega⟩ (fun x10 u10 H10 locs10 hp10 hW10 hz10 hk10 hS10 => ?_)
          obtain ⟨rfl, rfl⟩ := hp10
          refine W.eq (g2 := F0 m 89 ls [.int (zi (pWY t (((k : Nat) : Int) / 8) (((k : Nat) : Int) % 8))), .int (zi 7), .int (zi ((((31 * (pSM t nd nr k)) + (pRI t nr (((k : Nat) : Int) / 6) (((k : Nat) : Int) % 7))) + (3 * (pDI t nd ((((k : Nat) : Int) / 7) % 4) (((k : Nat) : Int) % 7)))) + (5 * (pST t nd (((k : Nat) : Int) / 16) ((((k : Nat) : Int) / 2) % 8) 1))))]) rfl ?_
          refine zz_imul hx hb dL_sum_89 ?_
          refine zz_iadd hx hb dL_sum_90 ?_
          refine zz_bipush hx hb dL_sum_91 (by decide +kernel) ?_
          refine zz_aload_n hx hb hl 0 dL_sum_93 rfl rfl ?_
          refine zz_iload_n hx hb hl 2 dL_sum_94 rfl rfl ?_
          refine zz_iconst hx hb dL_sum_95 ?_
          refine zz_irem hx hb dL_sum_96 ⟨by omega, by omega⟩ ⟨by decide, by decide⟩ (by omega) (by omega) ?_
          refine zl_callH (As := [zr ad 0 ((0 : Nat) : Int), .int (zi (((k : Nat) : Int) % 4))]) (rest := [.int (zi 11), .int (zi (((((31 * (pSM t nd nr k)) + (pRI t nr (((k : Nat) : Int) / 6) (((k : Nat) : Int) % 7))) + (3 * (pDI t nd ((((k : Nat) : Int) / 7) % 4) (((k : Nat) : Int) % 7)))) + (5 * (pST t nd (((k : Nat) : Int) / 16) ((((k : Nat) : Int) / 2) % 8) 1))) + (7 * (pWY t (((k : Nat) : Int) / 8) (((k : Nat) : Int) % 8)))))]) ⟨hx, hb, hml, hown, hts⟩ (cl_height l hst G ad A N0 σ2 t nd nr ns c hi2 hW10.2.2.1 (((k : Nat) : Int) % 4) ⟨by omega, by omega⟩) (vx_cwSW 2 hts gL_sum_L_height rfl rfl rfl (by decide +kernel) ⟨Nat.le_of_ble_eq_true rfl, Nat.le_of_ble_eq_true rfl⟩) hK hE hAA hNC hW10 (Nat.le_trans hsz hS10.1) hS10 (fun q h => h) rfl hl.1.1 rfl (by simp only [List.map, zr_cat, zcat_i]; decide) dL_sum_97 ⟨show _ ≤ 561 from by omega, show _ ≤ 3366 from by omega⟩ (fun x11 u11 H11 locs11 hp11 hW11 hz11 hk11 hS11 => ?_)
          obtain ⟨rfl, rfl⟩ := hp11
          refine W.eq (g2 := F0 m 100 ls [.int (zi (pHT t nd nr (((k : Nat) : Int) % 4))), .int (zi 11), .int (zi (((((31 * (pSM t nd nr k)) + (pRI t nr (((k : Nat) : Int) / 6) (((k : Nat) : Int) % 7))) + (3 * (pDI t nd ((((k : Nat) : Int) / 7) % 4) (((k : Nat) : Int) % 7)))) + (5 * (pST t nd (((k : Nat) : Int) / 16) ((((k : Nat) : Int) / 2) % 8) 1))) + (7 * (pWY t (((k : Nat) : Int) / 8) (((k : Nat) : Int) % 8)))))]) rfl ?_
          refine zz_imul hx hb dL_sum_100 ?_
          refine zz_iadd hx hb dL_sum_101 ?_
          refine zz_bipush hx hb dL_sum_102 (by decide +kernel) ?_
          refine zz_aload_n hx hb hl 0 dL_sum_104 rfl rfl ?_
          refine zz_iload_n hx hb hl 2 dL_sum_105 rfl rfl ?_
          refine zz_iconst hx hb dL_sum_106 ?_
          refine zz_irem hx hb dL_sum_107 ⟨by omega, by omega⟩ ⟨by decide, by decide⟩ (by omega) (by omega) ?_
          refine zl_callH (As := [zr ad 0 ((0 : Nat) : Int), .int (zi (((k : Nat) : Int) % 4))]) (rest := [.int (zi 13), .int (zi ((((((31 * (pSM t nd nr k)) + (pRI t nr (((k : Nat) : Int) / 6) (((k : Nat) : Int) % 7))) + (3 * (pDI t nd ((((k : Nat) : Int) / 7) % 4) (((k : Nat) : Int) % 7)))) + (5 * (pST t nd (((k : Nat) : Int) / 16) ((((k : Nat) : Int) / 2) % 8) 1))) + (7 * (pWY t (((k : Nat) : Int) / 8) (((k : Nat) : Int) % 8)))) + (11 * (pHT t nd nr (((k : Nat) : Int) % 4)))))]) ⟨hx, hb, hml, hown, hts⟩ (cl_pay l hst G ad A N0 σ2 t nd nr ns c hi2 hW11.2.2.1 (((k : Nat) : Int) % 4) ⟨by omega, by omega⟩) (vx_cwSW 2 hts gL_sum_L_pay rfl rfl rfl (by decide +kernel) ⟨Nat.le_of_ble_eq_true rfl, Nat.le_of_ble_eq_true rfl⟩) hK hE hAA hNC hW11 (Nat.le_trans hsz hS11.1) hS11 (fun q h => h) rfl hl.1.1 rfl (by simp only [List.map, zr_cat, zcat_i]; decide) dL_sum_108 ⟨show _ ≤ 561 from by omega, show _ ≤ 3366 from by omega⟩ (fun x12 u12 H12 locs12 hp12 hW12 hz12 hk12 hS12 => ?_)
          obtain ⟨rfl, rfl⟩ := hp12
          refine W.eq (g2 := F0 m 111 ls [.int (zi (pPA t nd (((k : Nat) : Int) % 4))), .int (zi 13), .int (zi ((((((31 * (pSM t nd nr k)) + (pRI t nr (((k : Nat) : Int) / 6) (((k : Nat) : Int) % 7))) + (3 * (pDI t nd ((((k : Nat) : Int) / 7) % 4) (((k : Nat) : Int) % 7)))) + (5 * (pST t nd (((k : Nat) : Int) / 16) ((((k : Nat) : Int) / 2) % 8) 1))) + (7 * (pWY t (((k : Nat) : Int) / 8) (((k : Nat) : Int) % 8)))) + (11 * (pHT t nd nr (((k : Nat) : Int) % 4)))))]) rfl ?_
          refine zz_imul hx hb dL_sum_111 ?_
          refine zz_iadd hx hb dL_sum_112 ?_
          refine zz_istore_n (lv' := [(1, .int (zi (((((((31 * (pSM t nd nr k)) + (pRI t nr (((k : Nat) : Int) / 6) (((k : Nat) : Int) % 7))) + (3 * (pDI t nd ((((k : Nat) : Int) / 7) % 4) (((k : Nat) : Int) % 7)))) + (5 * (pST t nd (((k : Nat) : Int) / 16) ((((k : Nat) : Int) / 2) % 8) 1))) + (7 * (pWY t (((k : Nat) : Int) / 8) (((k : Nat) : Int) % 8)))) + (11 * (pHT t nd nr (((k : Nat) : Int) % 4)))) + (13 * (pPA t nd (((k : Nat) : Int) % 4)))))), (0, zr ad 0 ((0 : Nat) : Int)), (2, .int (zi ((k : Nat) : Int)))]) hx hb hl dL_sum_113 rfl (by decide) rfl (fun ls hl => ?_)
          refine zz_iinc (lv' := [(2, .int (zi (((k : Nat) : Int) + 1))), (1, .int (zi (((((((31 * (pSM t nd nr k)) + (pRI t nr (((k : Nat) : Int) / 6) (((k : Nat) : Int) % 7))) + (3 * (pDI t nd ((((k : Nat) : Int) / 7) % 4) (((k : Nat) : Int) % 7)))) + (5 * (pST t nd (((k : Nat) : Int) / 16) ((((k : Nat) : Int) / 2) % 8) 1))) + (7 * (pWY t (((k : Nat) : Int) / 8) (((k : Nat) : Int) % 8)))) + (11 * (pHT t nd nr (((k : Nat) : Int) % 4)))) + (13 * (pPA t nd (((k : Nat) : Int) % 4)))))), (0, zr ad 0 ((0 : Nat) : Int))]) hx hb hl dL_sum_114 (k0 := 2) rfl (by decide) rfl (fun ls hl => ?_)
          refine zz_goto (tgt := 7) hx hb dL_sum_117 (by decide) ?_
          refine zw_widen (k := (1 + 10 * (k + 1))) (n := (6 + 60 * (k + 1))) (show _ ≤ _ from by omega) (show _ ≤ _ from by omega) ?_
          refine ih7 (k + 1) σ2 H12 locs12 ls ?_ (by omega) hW12 hS12 (zh_sub hl [2, 1, 0] (by rw [show pSM t nd nr (k + 1) = ((((((31 * (pSM t nd nr k)) + (pRI t nr (((k : Nat) : Int) / 6) (((k : Nat) : Int) % 7))) + (3 * (pDI t nd ((((k : Nat) : Int) / 7) % 4) (((k : Nat) : Int) % 7)))) + (5 * (pST t nd (((k : Nat) : Int) / 16) ((((k : Nat) : Int) / 2) % 8) 1))) + (7 * (pWY t (((k : Nat) : Int) / 8) (((k : Nat) : Int) % 8)))) + (11 * (pHT t nd nr (((k : Nat) : Int) % 4)))) + (13 * (pPA t nd (((k : Nat) : Int) % 4))) from by first | (show 31 * pSM t nd nr k + _ + _ + 5 * pST t nd _ _ (if k % 2 = 0 then 1 else 0) + _ + _ + _ = _; rw [if_pos (by omega)]) | (show 31 * pSM t nd nr k + _ + _ + 5 * pST t nd _ _ (if k % 2 = 0 then 1 else 0) + _ + _ + _ = _; rw [if_neg (by omega)])]; rfl))
          exact ⟨by omega, hi2⟩
  refine zw_widen (k := (1 + 10 * 0)) (n := (6 + 60 * 0)) (show _ ≤ _ from by omega) (show _ ≤ _ from by omega) ?_
  refine hcut7 _ 0 σ1 H1 locs1 ls ?_ (Nat.lt_succ_self _) hW1 hS1 (zh_sub hl [2, 1, 0] rfl)
  exact ⟨by decide, hC1⟩

set_option maxHeartbeats 4000000 in
set_option maxRecDepth 100000 in
theorem c_L_isRight (l : Launch) (hst : l.stackTraces = false) (G : zG) (ad : zA) (A : Nat → Prop) (N0 : Nat) (σ t : zS) (nd nr ns : Nat) (c : Int) (hC : pC ad σ t nd nr ns c) (hg : ∀ κ i k, zg (σ κ i k)) (hA : ∀ q, N0 ≤ q → A q) (sl : Prop) (hv : pV t sl nd nr) (hPE : pE t nd nr) (hnr12 : nr ≤ 12) (hn : (ad 86 0).isSome = true) (hp9 : (ad 88 0).isSome = true) (d : Nat) (hd : d < nd) (hd3 : d < 3) (hn1 : σ 86 0 1 = t 30 0 1) (hpd : σ 88 0 d ≤ ypy t d) : Met l yL_isRight wsL_isRight ({ frames := 10, cells := 63, slots := 378, locals := 299 }) (zPH G ad A N0 σ [zr ad 0 ((0 : Nat) : Int), zr ad 86 ((0 : Nat) : Int), .int (zi ((d : Nat) : Int)), zr ad 88 ((0 : Nat) : Int)]) (zQ G ad A zri (fun r u => zu σ 88 0 d (ypy t d) = u ∧ 1 = r)) 63 378 A := by
  refine zz_ofH (cc := cL_isRight) (maxL := 8) (ret := (some .boolean)) (by decide) rfl (by intro v hv; simp only [List.mem_cons, List.not_mem_nil, or_false] at hv; rcases hv with rfl | rfl | rfl | rfl <;> first | rfl | exact zr_cat _ _ _) (Nat.le_of_ble_eq_true rfl) ?_
  intro p e s m below meth c9 hx hb hr hml hts hown hlocks hsz hW0 hK hE hAA hNC ls hl
  have hS0 : va_S A s.heap s.heap [] := va_S.rf
  have hA0 : ∀ q, s.heap.size ≤ q → A q := fun q hq => hA q (Nat.le_trans hsz hq)
  have hl : zh ls 8 [(0, zr ad 0 ((0 : Nat) : Int)), (1, zr ad 86 ((0 : Nat) : Int)), (2, .int (zi ((d : Nat) : Int))), (3, zr ad 88 ((0 : Nat) : Int))] := hl
  have hWF := hC.2.2.2.1
  have hnd8 := hWF.1.1.1
  have hwd := hWF.2.1 d hd
  have h30 := hWF.1.2.2.1
  have h60 := hwd.2.2.2.2.2.2.1
  have h55 := hwd.2.2.2.2.1
  obtain ⟨y1, y2, y3, y4, y5⟩ := pPY hWF hPE hd
  have hrt := pRT hWF hv hd
  have hnx := (hv.2.1 d hd).2
  have h52 := hwd.1.2
  obtain ⟨r2, er2⟩ : ∃ z, z = ydi t d 2 := ⟨_, rfl⟩
  have hr2 : (t 52 0 d = 0 ∧ r2 = -1) ∨ (t 52 0 d ≠ 0 ∧ t 30 0 1 < r2 ∧ r2 ≤ 50000) := by
    rw [er2, ydi_2]
    split
    · exact Or.inl ⟨by assumption, rfl⟩
    · rename_i z9
      have := hnx (by omega)
      exact Or.inr ⟨z9, this, by omega⟩
  refine zz_aload_n hx hb hl 0 dL_isRight_0 rfl rfl ?_
  refine zz_iload_n hx hb hl 2 dL_isRight_1 rfl rfl ?_
  refine zz_iconst hx hb dL_isRight_2 ?_
  refine zl_callP (As := [zr (zr8 ad) 0 ((0 : Nat) : Int), .int (zi ((d : Nat) : Int)), .int (zi 2)]) (rest := []) ⟨hx, hb, hml, hown, hts⟩ (cl_driverIs l hst G (zr8 ad) (zcA (zr8 ad) s.heap.size) s.heap.size σ t nd nr ns c (pC_r8 hC) hW0.2.2.1 ((d : Nat) : Int) 2 ⟨by omega, by omega⟩ ⟨by decide, by decide⟩) (vx_cwSW 3 hts gL_isRight_L_driverIs rfl rfl rfl (by decide +kernel) ⟨Nat.le_of_ble_eq_true rfl, Nat.le_of_ble_eq_true rfl⟩) hK hE hAA hNC hW0 hA0 hS0 rfl hl.1.1 rfl (Nat.le_of_ble_eq_true rfl) dL_isRight_3 ⟨show _ ≤ 63 from by omega, show _ ≤ 378 from by omega⟩ (fun x1 u1 H1 locs1 hp1 hW1 hz1 hS1 => ?_)
  rw [pDI_at hd (by decide), ← er2] at hp1
  obtain ⟨rfl, rfl⟩ := hp1
  rw [zg8_self] at hW1
  refine W.eq (g2 := F0 m 6 ls [.int (zi r2)]) rfl ?_
  refine zz_istore (lv' := [(4, .int (zi r2)), (0, zr ad 0 ((0 : Nat) : Int)), (1, zr ad 86 ((0 : Nat) : Int)), (2, .int (zi ((d : Nat) : Int))), (3, zr ad 88 ((0 : Nat) : Int))]) hx hb hl dL_isRight_6 (by decide) rfl (fun ls hl => ?_)
  refine zz_aload_n hx hb hl 1 dL_isRight_8 rfl rfl ?_
  refine zz_iload_n hx hb hl 3 dL_isRight_9 rfl rfl ?_
  refine zz_iconst hx hb dL_isRight_10 ?_
  refine zl_callP (As := [zr (zr8 ad) 0 ((0 : Nat) : Int), .int (zi ((d : Nat) : Int)), .int (zi 4)]) (rest := []) ⟨hx, hb, hml, hown, hts⟩ (cl_driverIs l hst G (zr8 ad) (zcA (zr8 ad) H1.size) H1.size σ t nd nr ns c (pC_r8 hC) hW1.2.2.1 ((d : Nat) : Int) 4 ⟨by omega, by omega⟩ ⟨by decide, by decide⟩) (vx_cwSW 3 hts gL_isRight_L_driverIs rfl rfl rfl (by decide +kernel) ⟨Nat.le_of_ble_eq_true rfl, Nat.le_of_ble_eq_true rfl⟩) hK hE hAA hNC hW1 hA0 hS1 rfl hl.1.1 rfl (Nat.le_of_ble_eq_true rfl) dL_isRight_11 ⟨show _ ≤ 63 from by omega, show _ ≤ 378 from by omega⟩ (fun x2 u2 H2 locs2 hp2 hW2 hz2 hS2 => ?_)
  rw [pDI_at hd (by decide), ydi_4] at hp2
  obtain ⟨rfl, rfl⟩ := hp2
  rw [zg8_self] at hW2
  refine W.eq (g2 := F0 m 14 ls [.int (zi (yrt t d))]) rfl ?_
  refine zz_istore (lv' := [(5, .int (zi (yrt t d))), (4, .int (zi r2)), (0, zr ad 0 ((0 : Nat) : Int)), (1, zr ad 86 ((0 : Nat) : Int)), (2, .int (zi ((d : Nat) : Int))), (3, zr ad 88 ((0 : Nat) : Int))]) hx hb hl dL_isRight_14 (by decide) rfl (fun ls hl => ?_)
  refine zz_aload_n hx hb hl 2 dL_isRight_16 rfl rfl ?_
  refine zz_iload_n hx hb hl 4 dL_isRight_17 rfl rfl ?_
  refine zl_callP (As := [zr (zr8 ad) 0 ((0 : Nat) : Int), .int (zi ((d : Nat) : Int))]) (rest := []) ⟨hx, hb, hml, hown, hts⟩ (cl_pay l hst G (zr8 ad) (zcA (zr8 ad) H2.size) H2.size σ t nd nr ns c (pC_r8 hC) hW2.2.2.1 ((d : Nat) : Int) ⟨by omega, by omega⟩) (vx_cwSW 2 hts gL_isRight_L_pay rfl rfl rfl (by decide +kernel) ⟨Nat.le_of_ble_eq_true rfl, Nat.le_of_ble_eq_true rfl⟩) hK hE hAA hNC hW2 hA0 hS2 rfl hl.1.1 rfl (Nat.le_of_ble_eq_true rfl) dL_isRight_18 ⟨show _ ≤ 63 from by omega, show _ ≤ 378 from by omega⟩ (fun x3 u3 H3 locs3 hp3 hW3 hz3 hS3 => ?_)
  rw [show pPA t nd ((d : Nat) : Int) = ypy t d from if_pos ⟨by omega, by omega⟩] at hp3
  obtain ⟨rfl, rfl⟩ := hp3
  rw [zg8_self] at hW3
  refine W.eq (g2 := F0 m 21 ls [.int (zi (ypy t d))]) rfl ?_
  refine zz_istore (lv' := [(6, .int (zi (ypy t d))), (5, .int (zi (yrt t d))), (4, .int (zi r2)), (0, zr ad 0 ((0 : Nat) : Int)), (1, zr ad 86 ((0 : Nat) : Int)), (2, .int (zi ((d : Nat) : Int))), (3, zr ad 88 ((0 : Nat) : Int))]) hx hb hl dL_isRight_21 (by decide) rfl (fun ls hl => ?_)
  refine zz_aload_n hx hb hl 3 dL_isRight_23 rfl rfl ?_
  refine zz_iload_n hx hb hl 5 dL_isRight_24 rfl rfl ?_
  refine zl_callPM (As := [zr (zr8 ad) 0 ((0 : Nat) : Int), .int (zi ((d : Nat) : Int))]) (rest := []) ⟨hx, hb, hml, hown, hts⟩ (c_L_areRows l hst G (zr8 ad) (zcA (zr8 ad) H3.size) H3.size σ t nd nr ns c (pC_r8 hC) hW3.2.2.1 sl hv hnr12 d hd) (va_cwS 2 hts gL_isRight_L_areRows rfl rfl rfl (by decide +kernel) ⟨Nat.le_of_ble_eq_true rfl, Nat.le_of_ble_eq_true rfl⟩) hK hE hAA hNC hW3 hA0 hS3 rfl hl.1.1 rfl (Nat.le_of_ble_eq_true rfl) dL_isRight_25 ⟨show _ ≤ 63 from by omega, show _ ≤ 378 from by omega⟩ (fun x4 u4 H4 locs4 hp4 hW4 hz4 hS4 => ?_)
  obtain ⟨rfl, rfl⟩ := hp4
  rw [zg8_self] at hW4
  refine W.eq (g2 := F0 m 28 ls [.int (zi 1)]) rfl ?_
  refine zz_if_eq (tgt := 113) hx hb dL_isRight_28 (by decide) ⟨by decide, by decide⟩ (fun hc28 => ?_) (fun hc28 => ?_)
  · exfalso; exact absurd hc28 (by decide)
  · refine zz_iload hx hb hl 2 dL_isRight_31 rfl ?_
    refine zz_iconst hx hb dL_isRight_33 ?_
    refine zz_icmp_eq (tgt := 45) hx hb dL_isRight_34 (by decide) ⟨by omega, by omega⟩ ⟨by decide, by decide⟩ (fun hc34 => ?_) (fun hc34 => ?_)
    · refine zz_iload hx hb hl 1 dL_isRight_45 rfl ?_
      refine zz_bipush hx hb dL_isRight_47 (by decide +kernel) ?_
      refine zz_icmp_lt (tgt := 113) hx hb dL_isRight_49 (by decide) ⟨by omega, by omega⟩ ⟨by decide, by decide⟩ (fun hc49 => ?_) (fun hc49 => ?_)
      · exfalso; omega
      · refine zz_iload hx hb hl 1 dL_isRight_52 rfl ?_
        refine zz_sipush hx hb dL_isRight_54 (by decide +kernel) ?_
        refine zz_icmp_gt (tgt := 113) hx hb dL_isRight_57 (by decide) ⟨by omega, by omega⟩ ⟨by decide, by decide⟩ (fun hc57 => ?_) (fun hc57 => ?_)
        · exfalso; omega
        · refine zz_aload_n hx hb hl 3 dL_isRight_60 rfl rfl ?_
          refine zz_iload_n hx hb hl 5 dL_isRight_61 rfl rfl ?_
          refine zz_iconst hx hb dL_isRight_62 ?_
          refine zl_callP (As := [zr (zr8 ad) 0 ((0 : Nat) : Int), .int (zi ((d : Nat) : Int)), .int (zi 5)]) (rest := []) ⟨hx, hb, hml, hown, hts⟩ (cl_driverIs l hst G (zr8 ad) (zcA (zr8 ad) H4.size) H4.size σ t nd nr ns c (pC_r8 hC) hW4.2.2.1 ((d : Nat) : Int) 5 ⟨by omega, by omega⟩ ⟨by decide, by decide⟩) (vx_cwSW 3 hts gL_isRight_L_driverIs rfl rfl rfl (by decide +kernel) ⟨Nat.le_of_ble_eq_true rfl, Nat.le_of_ble_eq_true rfl⟩) hK hE hAA hNC hW4 hA0 hS4 rfl hl.1.1 rfl (Nat.le_of_ble_eq_true rfl) dL_isRight_63 ⟨show _ ≤ 63 from by omega, show _ ≤ 378 from by omega⟩ (fun x5 u5 H5 locs5 hp5 hW5 hz5 hS5 => ?_)
          rw [pDI_at hd (by decide), ydi_5] at hp5
          obtain ⟨rfl, rfl⟩ := hp5
          rw [zg8_self] at hW5
          refine W.eq (g2 := F0 m 66 ls [.int (zi (t 60 0 d))]) rfl ?_
          refine zz_aload_n hx hb hl 4 dL_isRight_66 rfl rfl ?_
          refine zz_iconst hx hb dL_isRight_67 ?_
          refine zz_iald (w := t 30 0 1) hx hb hK hW5 (zlN hn) rfl rfl rfl (by show (0 : Int) ≤ 1; omega) (by show 1 < (4 : Int); omega) (show σ 86 0 1 = t 30 0 1 from by rw [hn1]) dL_isRight_68 ?_
          refine zz_icmp_gt (tgt := 113) hx hb dL_isRight_69 (by decide) ⟨by omega, by omega⟩ ⟨by omega, by omega⟩ (fun hc69 => ?_) (fun hc69 => ?_)
          · exfalso; omega
          · refine zz_iload hx hb hl 0 dL_isRight_72 rfl ?_
            refine zz_aload_n hx hb hl 6 dL_isRight_74 rfl rfl ?_
            refine zz_iload_n hx hb hl 5 dL_isRight_75 rfl rfl ?_
            refine zz_iald (w := σ 88 0 d) hx hb hK hW5 (zlN hp9) rfl rfl rfl (by show (0 : Int) ≤ ((d : Nat) : Int); omega) (by show ((d : Nat) : Int) < (3 : Int); omega) rfl dL_isRight_76 ?_
            refine zz_icmp_lt (tgt := 113) hx hb dL_isRight_77 (by decide) ⟨by omega, by omega⟩ (hW5.2.2.1 _ _ _) (fun hc77 => ?_) (fun hc77 => ?_)
            · exfalso; omega
            · refine zz_iload hx hb hl 0 dL_isRight_80 rfl ?_
              refine zz_bipush hx hb dL_isRight_82 (by decide +kernel) ?_
              refine zz_aload_n hx hb hl 3 dL_isRight_84 rfl rfl ?_
              refine zz_iload_n hx hb hl 5 dL_isRight_85 rfl rfl ?_
              refine zz_iconst hx hb dL_isRight_86 ?_
              refine zl_callP (As := [zr (zr8 ad) 0 ((0 : Nat) : Int), .int (zi ((d : Nat) : Int)), .int (zi 5)]) (rest := [.int (zi 30), .int (zi (ypy t d))]) ⟨hx, hb, hml, hown, hts⟩ (cl_driverIs l hst G (zr8 ad) (zcA (zr8 ad) H5.size) H5.size σ t nd nr ns c (pC_r8 hC) hW5.2.2.1 ((d : Nat) : Int) 5 ⟨by omega, by omega⟩ ⟨by decide, by decide⟩) (vx_cwSW 3 hts gL_isRight_L_driverIs rfl rfl rfl (by decide +kernel) ⟨Nat.le_of_ble_eq_true rfl, Nat.le_of_ble_eq_true rfl⟩) hK hE hAA hNC hW5 hA0 hS5 rfl hl.1.1 rfl (by simp only [List.map, zr_cat, zcat_i]; decide) dL_isRight_87 ⟨show _ ≤ 63 from by omega, show _ ≤ 378 from by omega⟩ (fun x6 u6 H6 locs6 hp6 hW6 hz6 hS6 => ?_)
              rw [pDI_at hd (by decide), ydi_5] at hp6
              obtain ⟨rfl, rfl⟩ := hp6
              rw [zg8_self] at hW6
              refine W.eq (g2 := F0 m 90 ls [.int (zi (t 60 0 d)), .int (zi 30), .int (zi (ypy t d))]) rfl ?_
              refine zz_imul hx hb dL_isRight_90 ?_
              refine zz_icmp_lt (tgt := 113) hx hb dL_isRight_91 (by decide) ⟨by omega, by omega⟩ ⟨by omega, by omega⟩ (fun hc91 => ?_) (fun hc91 => ?_)
              · exfalso; omega
              · refine zz_aload_n hx hb hl 3 dL_isRight_94 rfl rfl ?_
                refine zz_iload_n hx hb hl 5 dL_isRight_95 rfl rfl ?_
                refine zz_iconst hx hb dL_isRight_96 ?_
                refine zl_callP (As := [zr (zr8 ad) 0 ((0 : Nat) : Int), .int (zi ((d : Nat) : Int)), .int (zi 3)]) (rest := []) ⟨hx, hb, hml, hown, hts⟩ (cl_driverIs l hst G (zr8 ad) (zcA (zr8 ad) H6.size) H6.size σ t nd nr ns c (pC_r8 hC) hW6.2.2.1 ((d : Nat) : Int) 3 ⟨by omega, by omega⟩ ⟨by decide, by decide⟩) (vx_cwSW 3 hts gL_isRight_L_driverIs rfl rfl rfl (by decide +kernel) ⟨Nat.le_of_ble_eq_true rfl, Nat.le_of_ble_eq_true rfl⟩) hK hE hAA hNC hW6 hA0 hS6 rfl hl.1.1 rfl (Nat.le_of_ble_eq_true rfl) dL_isRight_97 ⟨show _ ≤ 63 from by omega, show _ ≤ 378 from by omega⟩ (fun x7 u7 H7 locs7 hp7 hW7 hz7 hS7 => ?_)
                rw [pDI_at hd (by decide), ydi_3] at hp7
                obtain ⟨rfl, rfl⟩ := hp7
                rw [zg8_self] at hW7
                refine W.eq (g2 := F0 m 100 ls [.int (zi (zb (ymf t d)))]) rfl ?_
                refine zz_if_eqb (tgt := 109) hx hb dL_isRight_100 (by decide) (fun hc100 => ?_) (fun hc100 => ?_)
                · refine zz_iconst hx hb dL_isRight_109 ?_
                  refine zz_goto (tgt := 114) hx hb dL_isRight_110 (by decide) ?_
                  refine zz_istore (lv' := [(7, .int (zi 1)), (6, .int (zi (ypy t d))), (5, .int (zi (yrt t d))), (4, .int (zi r2)), (0, zr ad 0 ((0 : Nat) : Int)), (1, zr ad 86 ((0 : Nat) : Int)), (2, .int (zi ((d : Nat) : Int))), (3, zr ad 88 ((0 : Nat) : Int))]) hx hb hl dL_isRight_114 (by decide) rfl (fun ls hl => ?_)
                  refine zz_aload_n hx hb hl 7 dL_isRight_116 rfl rfl ?_
                  refine zz_iload_n hx hb hl 6 dL_isRight_117 rfl rfl ?_
                  refine zz_iload hx hb hl 1 dL_isRight_118 rfl ?_
                  refine zz_iast (y := (ypy t d)) hx hb hK hW7 hS7 (zlN hp9) rfl rfl rfl (by show (0 : Int) ≤ ((d : Nat) : Int); omega) (by show ((d : Nat) : Int) < (3 : Int); omega) ⟨by omega, by omega⟩ dL_isRight_120 (fun H8 locs8 hW8' hS8 => ?_)
                  obtain ⟨σ8, hs8⟩ : ∃ z, z = zu σ 88 0 d (ypy t d) := ⟨_, rfl⟩
                  have hW8 : ZW G ad A σ8 H8 := by rw [hs8]; exact hW8'
                  refine zz_iload hx hb hl 0 dL_isRight_121 rfl ?_
                  refine W.eq (g2 := F0 m 123 ls [.int (zi 1)]) rfl ?_
                  refine zw_widen (k := 63) (n := 378) (show _ ≤ 63 from by omega) (show _ ≤ 378 from by omega) ?_
                  refine zz_retz hx hb hr hlocks hW8 hS8 (by decide) ?_ dL_isRight_123
                  exact ⟨hs8.symm, rfl⟩
                · have hfz := hc100.1
                  refine zz_iload hx hb hl 2 dL_isRight_103 rfl ?_
                  refine zz_iconst hx hb dL_isRight_105 ?_
                  refine zz_icmp_ne (tgt := 113) hx hb dL_isRight_106 (by decide) ⟨by omega, by omega⟩ ⟨by decide, by decide⟩ (fun hc106 => ?_) (fun hc106 => ?_)
                  · exfalso; omega
                  · refine zz_iconst hx hb dL_isRight_109 ?_
                    refine zz_goto (tgt := 114) hx hb dL_isRight_110 (by decide) ?_
                    refine zz_istore (lv' := [(7, .int (zi 1)), (6, .int (zi (ypy t d))), (5, .int (zi (yrt t d))), (4, .int (zi r2)), (0, zr ad 0 ((0 : Nat) : Int)), (1, zr ad 86 ((0 : Nat) : Int)), (2, .int (zi ((d : Nat) : Int))), (3, zr ad 88 ((0 : Nat) : Int))]) hx hb hl dL_isRight_114 (by decide) rfl (fun ls hl => ?_)
                    refine zz_aload_n hx hb hl 7 dL_isRight_116 rfl rfl ?_
                    refine zz_iload_n hx hb hl 6 dL_isRight_117 rfl rfl ?_
                    refine zz_iload hx hb hl 1 dL_isRight_118 rfl ?_
                    refine zz_iast (y := (ypy t d)) hx hb hK hW7 hS7 (zlN hp9) rfl rfl rfl (by show (0 : Int) ≤ ((d : Nat) : Int); omega) (by show ((d : Nat) : Int) < (3 : Int); omega) ⟨by omega, by omega⟩ dL_isRight_120 (fun H9 locs9 hW9' hS9 => ?_)
                    obtain ⟨σ9, hs9⟩ : ∃ z, z = zu σ 88 0 d (ypy t d) := ⟨_, rfl⟩
                    have hW9 : ZW G ad A σ9 H9 := by rw [hs9]; exact hW9'
                    refine zz_iload hx hb hl 0 dL_isRight_121 rfl ?_
                    refine W.eq (g2 := F0 m 123 ls [.int (zi 1)]) rfl ?_
                    refine zw_widen (k := 63) (n := 378) (show _ ≤ 63 from by omega) (show _ ≤ 378 from by omega) ?_
                    refine zz_retz hx hb hr hlocks hW9 hS9 (by decide) ?_ dL_isRight_123
                    exact ⟨hs9.symm, rfl⟩
    · refine zz_iload hx hb hl 2 dL_isRight_37 rfl ?_
      refine zz_aload_n hx hb hl 4 dL_isRight_39 rfl rfl ?_
      refine zz_iconst hx hb dL_isRight_40 ?_
      refine zz_iald (w := t 30 0 1) hx hb hK hW4 (zlN hn) rfl rfl rfl (by show (0 : Int) ≤ 1; omega) (by show 1 < (4 : Int); omega) (show σ 86 0 1 = t 30 0 1 from by rw [hn1]) dL_isRight_41 ?_
      refine zz_icmp_le (tgt := 113) hx hb dL_isRight_42 (by decide) ⟨by omega, by omega⟩ ⟨by omega, by omega⟩ (fun hc42 => ?_) (fun hc42 => ?_)
      · exfalso; omega
      · refine zz_iload hx hb hl 1 dL_isRight_45 rfl ?_
        refine zz_bipush hx hb dL_isRight_47 (by decide +kernel) ?_
        refine zz_icmp_lt (tgt := 113) hx hb dL_isRight_49 (by decide) ⟨by omega, by omega⟩ ⟨by decide, by decide⟩ (fun hc49 => ?_) (fun hc49 => ?_)
        · exfalso; omega
        · refine zz_iload hx hb hl 1 dL_isRight_52 rfl ?_
          refine zz_sipush hx hb dL_isRight_54 (by decide +kernel) ?_
          refine zz_icmp_gt (tgt := 113) hx hb dL_isRight_57 (by decide) ⟨by omega, by omega⟩ ⟨by decide, by decide⟩ (fun hc57 => ?_) (fun hc57 => ?_)
          · exfalso; omega
          · refine zz_aload_n hx hb hl 3 dL_isRight_60 rfl rfl ?_
            refine zz_iload_n hx hb hl 5 dL_isRight_61 rfl rfl ?_
            refine zz_iconst hx hb dL_isRight_62 ?_
            refine zl_callP (As := [zr (zr8 ad) 0 ((0 : Nat) : Int), .int (zi ((d : Nat) : Int)), .int (zi 5)]) (rest := []) ⟨hx, hb, hml, hown, hts⟩ (cl_driverIs l hst G (zr8 ad) (zcA (zr8 ad) H4.size) H4.size σ t nd nr ns c (pC_r8 hC) hW4.2.2.1 ((d : Nat) : Int) 5 ⟨by omega, by omega⟩ ⟨by decide, by decide⟩) (vx_cwSW 3 hts gL_isRight_L_driverIs rfl rfl rfl (by decide +kernel) ⟨Nat.le_of_ble_eq_true rfl, Nat.le_of_ble_eq_true rfl⟩) hK hE hAA hNC hW4 hA0 hS4 rfl hl.1.1 rfl (Nat.le_of_ble_eq_true rfl) dL_isRight_63 ⟨show _ ≤ 63 from by omega, show _ ≤ 378 from by omega⟩ (fun x10 u10 H10 locs10 hp10 hW10 hz10 hS10 => ?_)
            rw [pDI_at hd (by decide), ydi_5] at hp10
            obtain ⟨rfl, rfl⟩ := hp10
            rw [zg8_self] at hW10
            refine W.eq (g2 := F0 m 66 ls [.int (zi (t 60 0 d))]) rfl ?_
            refine zz_aload_n hx hb hl 4 dL_isRight_66 rfl rfl ?_
            refine zz_iconst hx hb dL_isRight_67 ?_
            refine zz_iald (w := t 30 0 1) hx hb hK hW10 (zlN hn) rfl rfl rfl (by show (0 : Int) ≤ 1; omega) (by show 1 < (4 : Int); omega) (show σ 86 0 1 = t 30 0 1 from by rw [hn1]) dL_isRight_68 ?_
            refine zz_icmp_gt (tgt := 113) hx hb dL_isRight_69 (by decide) ⟨by omega, by omega⟩ ⟨by omega, by omega⟩ (fun hc69 => ?_) (fun hc69 => ?_)
            · exfalso; omega
            · refine zz_iload hx hb hl 0 dL_isRight_72 rfl ?_
              refine zz_aload_n hx hb hl 6 dL_isRight_74 rfl rfl ?_
              refine zz_iload_n hx hb hl 5 dL_isRight_75 rfl rfl ?_
              refine zz_iald (w := σ 88 0 d) hx hb hK hW10 (zlN hp9) rfl rfl rfl (by show (0 : Int) ≤ ((d : Nat) : Int); omega) (by show ((d : Nat) : Int) < (3 : Int); omega) rfl dL_isRight_76 ?_
              refine zz_icmp_lt (tgt := 113) hx hb dL_isRight_77 (by decide) ⟨by omega, by omega⟩ (hW10.2.2.1 _ _ _) (fun hc77 => ?_) (fun hc77 => ?_)
              · exfalso; omega
              · refine zz_iload hx hb hl 0 dL_isRight_80 rfl ?_
                refine zz_bipush hx hb dL_isRight_82 (by decide +kernel) ?_
                refine zz_aload_n hx hb hl 3 dL_isRight_84 rfl rfl ?_
                refine zz_iload_n hx hb hl 5 dL_isRight_85 rfl rfl ?_
                refine zz_iconst hx hb dL_isRight_86 ?_
                refine zl_callP (As := [zr (zr8 ad) 0 ((0 : Nat) : Int), .int (zi ((d : Nat) : Int)), .int (zi 5)]) (rest := [.int (zi 30), .int (zi (ypy t d))]) ⟨hx, hb, hml, hown, hts⟩ (cl_driverIs l hst G (zr8 ad) (zcA (zr8 ad) H10.size) H10.size σ t nd nr ns c (pC_r8 hC) hW10.2.2.1 ((d : Nat) : Int) 5 ⟨by omega, by omega⟩ ⟨by decide, by decide⟩) (vx_cwSW 3 hts gL_isRight_L_driverIs rfl rfl rfl (by decide +kernel) ⟨Nat.le_of_ble_eq_true rfl, Nat.le_of_ble_eq_true rfl⟩) hK hE hAA hNC hW10 hA0 hS10 rfl hl.1.1 rfl (by simp only [List.map, zr_cat, zcat_i]; decide) dL_isRight_87 ⟨show _ ≤ 63 from by omega, show _ ≤ 378 from by omega⟩ (fun x11 u11 H11 locs11 hp11 hW11 hz11 hS11 => ?_)
                rw [pDI_at hd (by decide), ydi_5] at hp11
                obtain ⟨rfl, rfl⟩ := hp11
                rw [zg8_self] at hW11
                refine W.eq (g2 := F0 m 90 ls [.int (zi (t 60 0 d)), .int (zi 30), .int (zi (ypy t d))]) rfl ?_
                refine zz_imul hx hb dL_isRight_90 ?_
                refine zz_icmp_lt (tgt := 113) hx hb dL_isRight_91 (by decide) ⟨by omega, by omega⟩ ⟨by omega, by omega⟩ (fun hc91 => ?_) (fun hc91 => ?_)
                · exfalso; omega
                · refine zz_aload_n hx hb hl 3 dL_isRight_94 rfl rfl ?_
                  refine zz_iload_n hx hb hl 5 dL_isRight_95 rfl rfl ?_
                  refine zz_iconst hx hb dL_isRight_96 ?_
                  refine zl_callP (As := [zr (zr8 ad) 0 ((0 : Nat) : Int), .int (zi ((d : Nat) : Int)), .int (zi 3)]) (rest := []) ⟨hx, hb, hml, hown, hts⟩ (cl_driverIs l hst G (zr8 ad) (zcA (zr8 ad) H11.size) H11.size σ t nd nr ns c (pC_r8 hC) hW11.2.2.1 ((d : Nat) : Int) 3 ⟨by omega, by omega⟩ ⟨by decide, by decide⟩) (vx_cwSW 3 hts gL_isRight_L_driverIs rfl rfl rfl (by decide +kernel) ⟨Nat.le_of_ble_eq_true rfl, Nat.le_of_ble_eq_true rfl⟩) hK hE hAA hNC hW11 hA0 hS11 rfl hl.1.1 rfl (Nat.le_of_ble_eq_true rfl) dL_isRight_97 ⟨show _ ≤ 63 from by omega, show _ ≤ 378 from by omega⟩ (fun x12 u12 H12 locs12 hp12 hW12 hz12 hS12 => ?_)
                  rw [pDI_at hd (by decide), ydi_3] at hp12
                  obtain ⟨rfl, rfl⟩ := hp12
                  rw [zg8_self] at hW12
                  refine W.eq (g2 := F0 m 100 ls [.int (zi (zb (ymf t d)))]) rfl ?_
                  refine zz_if_eqb (tgt := 109) hx hb dL_isRight_100 (by decide) (fun hc100 => ?_) (fun hc100 => ?_)
                  · refine zz_iconst hx hb dL_isRight_109 ?_
                    refine zz_goto (tgt := 114) hx hb dL_isRight_110 (by decide) ?_
                    refine zz_istore (lv' := [(7, .int (zi 1)), (6, .int (zi (ypy t d))), (5, .int (zi (yrt t d))), (4, .int (zi r2)), (0, zr ad 0 ((0 : Nat) : Int)), (1, zr ad 86 ((0 : Nat) : Int)), (2, .int (zi ((d : Nat) : Int))), (3, zr ad 88 ((0 : Nat) : Int))]) hx hb hl dL_isRight_114 (by decide) rfl (fun ls hl => ?_)
                    refine zz_aload_n hx hb hl 7 dL_isRight_116 rfl rfl ?_
                    refine zz_iload_n hx hb hl 6 dL_isRight_117 rfl rfl ?_
                    refine zz_iload hx hb hl 1 dL_isRight_118 rfl ?_
                    refine zz_iast (y := (ypy t d)) hx hb hK hW12 hS12 (zlN hp9) rfl rfl rfl (by show (0 : Int) ≤ ((d : Nat) : Int); omega) (by show ((d : Nat) : Int) < (3 : Int); omega) ⟨by omega, by omega⟩ dL_isRight_120 (fun H13 locs13 hW13' hS13 => ?_)
                    obtain ⟨σ13, hs13⟩ : ∃ z, z = zu σ 88 0 d (ypy t d) := ⟨_, rfl⟩
                    have hW13 : ZW G ad A σ13 H13 := by rw [hs13]; exact hW13'
                    refine zz_iload hx hb hl 0 dL_isRight_121 rfl ?_
                    refine W.eq (g2 := F0 m 123 ls [.int (zi 1)]) rfl ?_
                    refine zw_widen (k := 63) (n := 378) (show _ ≤ 63 from by omega) (show _ ≤ 378 from by omega) ?_
                    refine zz_retz hx hb hr hlocks hW13 hS13 (by decide) ?_ dL_isRight_123
                    exact ⟨hs13.symm, rfl⟩
                  · have hfz := hc100.1
                    refine zz_iload hx hb hl 2 dL_isRight_103 rfl ?_
                    refine zz_iconst hx hb dL_isRight_105 ?_
                    refine zz_icmp_ne (tgt := 113) hx hb dL_isRight_106 (by decide) ⟨by omega, by omega⟩ ⟨by decide, by decide⟩ (fun hc106 => ?_) (fun hc106 => ?_)
                    · exfalso; omega
                    · refine zz_iconst hx hb dL_isRight_109 ?_
                      refine zz_goto (tgt := 114) hx hb dL_isRight_110 (by decide) ?_
                      refine zz_istore (lv' := [(7, .int (zi 1)), (6, .int (zi (ypy t d))), (5, .int (zi (yrt t d))), (4, .int (zi r2)), (0, zr ad 0 ((0 : Nat) : Int)), (1, zr ad 86 ((0 : Nat) : Int)), (2, .int (zi ((d : Nat) : Int))), (3, zr ad 88 ((0 : Nat) : Int))]) hx hb hl dL_isRight_114 (by decide) rfl (fun ls hl => ?_)
                      refine zz_aload_n hx hb hl 7 dL_isRight_116 rfl rfl ?_
                      refine zz_iload_n hx hb hl 6 dL_isRight_117 rfl rfl ?_
                      refine zz_iload hx hb hl 1 dL_isRight_118 rfl ?_
                      refine zz_iast (y := (ypy t d)) hx hb hK hW12 hS12 (zlN hp9) rfl rfl rfl (by show (0 : Int) ≤ ((d : Nat) : Int); omega) (by show ((d : Nat) : Int) < (3 : Int); omega) ⟨by omega, by omega⟩ dL_isRight_120 (fun H14 locs14 hW14' hS14 => ?_)
                      obtain ⟨σ14, hs14⟩ : ∃ z, z = zu σ 88 0 d (ypy t d) := ⟨_, rfl⟩
                      have hW14 : ZW G ad A σ14 H14 := by rw [hs14]; exact hW14'
                      refine zz_iload hx hb hl 0 dL_isRight_121 rfl ?_
                      refine W.eq (g2 := F0 m 123 ls [.int (zi 1)]) rfl ?_
                      refine zw_widen (k := 63) (n := 378) (show _ ≤ 63 from by omega) (show _ ≤ 378 from by omega) ?_
                      refine zz_retz hx hb hr hlocks hW14 hS14 (by decide) ?_ dL_isRight_123
                      exact ⟨hs14.symm, rfl⟩
