set_option maxHeartbeats 4000000 in
set_option maxRecDepth 100000 in
theorem c_X7_findWays (l : Launch) (G : zG) (ad : zA) (A : Nat → Prop) (N0 : Nat) (σ : zS) (hM : zMm ad) (ns : Nat) (hns : σ 30 0 3 = (ns : Int)) (hn20 : ns ≤ 20) (hst : yst (σ 44 0) (σ 45 0) (σ 46 0) ns) : Met l yX7_findWays wsX7_findWays ({ frames := 0, cells := 0, slots := 0, locals := 0 }) (zP G ad A N0 σ [zr ad 30 ((0 : Nat) : Int)]) (zQ G ad A zrv (fun _ u => (∀ a b, a < 10 → b < 10 → u 47 0 (10 * a + b) = ywf 100000 (σ 44 0) (σ 45 0) (σ 46 0) ns 10 a b) ∧ zfr (fun κ _ _ => κ = 47) σ u)) 0 0 A := by
  refine zz_of (cc := cX7_findWays) (maxL := 4) (ret := none) (by decide) rfl ⟨rfl, rfl⟩ (List.forall_mem_cons.mpr ⟨zr_cat _ _ _, fun _ h => absurd h List.not_mem_nil⟩) (Nat.le_of_ble_eq_true rfl) ?_
  intro p e s m below meth c hx hb hr hml hts hown hlocks hsz hW0 hK ls hl
  have hS0 : va_S A s.heap s.heap [] := va_S.rf
  have hl : zh ls 4 [(0, zr ad 30 ((0 : Nat) : Int))] := hl
  have hinX7 : ∀ w ∈ u_ws RX7 TX7 42, w ∈ wsX7_findWays := by decide +kernel
  refine zz_iconst hx hb dX7_findWays_0 ?_
  refine zz_istore_n (lv' := [(1, .int (zi 0)), (0, zr ad 30 ((0 : Nat) : Int))]) hx hb hl dX7_findWays_1 rfl (by decide) rfl (fun ls hl => ?_)
  have hcut2 : ∀ (n9 : Nat) (i : Nat)  (σ9 : zS) (H9 : Heap) (locs9 : List Loc) (ls : Array Slot), (i ≤ 100 ∧ (∀ a b, a < 10 → b < 10 → 10 * a + b < i → σ9 47 0 (10 * a + b) = yw0 100000 a b) ∧ zfr (fun κ _ _ => κ = 47) σ σ9) → (100 - i) < n9 → ZW G ad A σ9 H9 → va_S A s.heap H9 locs9 → zh ls 4 [(0, zr ad 30 ((0 : Nat) : Int)), (1, .int (zi ((i : Nat) : Int)))] → W p l e ({ frames := 0, cells := 0, slots := 0, locals := 0 }) s m ([zr ad 30 ((0 : Nat) : Int)] : List Value).toArray below meth c H9 locs9 0 0 (MQ below (zQ G ad A zrv (fun _ u => (∀ a b, a < 10 → b < 10 → u 47 0 (10 * a + b) = ywf 100000 (σ 44 0) (σ 45 0) (σ 46 0) ns 10 a b) ∧ zfr (fun κ _ _ => κ = 47) σ u)) ([zr ad 30 ((0 : Nat) : Int)] : List Value).toArray s 0 0 A) (F0 m 2 ls []) := by
    intro n9
    induction n9 with
    | zero =>
      intro i σ1 H1 locs1 ls hI2 hm2 hW1 hS1 hl
      exact absurd hm2 (Nat.not_lt_zero _)
    | succ n9 ih2 =>
      intro i σ1 H1 locs1 ls hI2 hm2 hW1 hS1 hl
      obtain ⟨hi1, hi2, hi3⟩ := hI2
      refine zz_iload_n hx hb hl 1 dX7_findWays_2 rfl rfl ?_
      refine zz_bipush hx hb dX7_findWays_3 (by decide +kernel) ?_
      refine zz_icmp_ge (tgt := 37) hx hb dX7_findWays_5 (by decide) ⟨by omega, by omega⟩ ⟨by decide, by decide⟩ (fun hc5 => ?_) (fun hc5 => ?_)
      · refine zz_iconst hx hb dX7_findWays_37 ?_
        refine zz_istore_n (lv' := [(1, .int (zi 0)), (0, zr ad 30 ((0 : Nat) : Int))]) hx hb hl dX7_findWays_38 rfl (by decide) rfl (fun ls hl => ?_)
        have hcut39 : ∀ (n9 : Nat) (i : Nat)  (σ9 : zS) (H9 : Heap) (locs9 : List Loc) (ls : Array Slot), (i ≤ ns ∧ (∀ a b, a < 10 → b < 10 → σ9 47 0 (10 * a + b) = yws 100000 (σ 44 0) (σ 45 0) (σ 46 0) i a b) ∧ zfr (fun κ _ _ => κ = 47) σ1 σ9) → (ns - i) < n9 → ZW G ad A σ9 H9 → va_S A s.heap H9 locs9 → zh ls 4 [(0, zr ad 30 ((0 : Nat) : Int)), (1, .int (zi ((i : Nat) : Int)))] → W p l e ({ frames := 0, cells := 0, slots := 0, locals := 0 }) s m ([zr ad 30 ((0 : Nat) : Int)] : List Value).toArray below meth c H9 locs9 0 0 (MQ below (zQ G ad A zrv (fun _ u => (∀ a b, a < 10 → b < 10 → u 47 0 (10 * a + b) = ywf 100000 (σ 44 0) (σ 45 0) (σ 46 0) ns 10 a b) ∧ zfr (fun κ _ _ => κ = 47) σ u)) ([zr ad 30 ((0 : Nat) : Int)] : List Value).toArray s 0 0 A) (F0 m 39 ls []) := by
          intro n9
          induction n9 with
          | zero =>
            intro i σ2 H2 locs2 ls hI39 hm39 hW2 hS2 hl
            exact absurd hm39 (Nat.not_lt_zero _)
          | succ n9 ih39 =>
            intro i σ2 H2 locs2 ls hI39 hm39 hW2 hS2 hl
            obtain ⟨hk1, hk2, hk3⟩ := hI39
            refine zz_iload_n hx hb hl 1 dX7_findWays_39 rfl rfl ?_
            refine zz_aload_n hx hb hl 0 dX7_findWays_40 rfl rfl ?_
            refine zz_get (T := TX7) (N := 42) (k := 3) (κ := 30) (w := .int (zi ((ns : Nat) : Int))) hx hb hts hinX7 hown hK hW2 (zlN (hM 30 rfl)) rfl rfl rfl (by decide) (hts (.fieldLink RX7 134 "HailCityModel" "streets" "I") (by decide +kernel)) (fun _ h9 => h9) (congrArg (fun z => Value.int (zi z)) (show σ2 30 0 3 = ((ns : Nat) : Int) from by rw [hk3 30 0 3 (by omega), hi3 30 0 3 (by omega), hns])) dX7_findWays_41 ?_
            refine zz_icmp_ge (tgt := 135) hx hb dX7_findWays_44 (by decide) ⟨by omega, by omega⟩ ⟨by omega, by omega⟩ (fun hc44 => ?_) (fun hc44 => ?_)
            · refine zz_iconst hx hb dX7_findWays_135 ?_
              refine zz_istore_n (lv' := [(1, .int (zi 0)), (0, zr ad 30 ((0 : Nat) : Int))]) hx hb hl dX7_findWays_136 rfl (by decide) rfl (fun ls hl => ?_)
              have hcut137 : ∀ (n9 : Nat) (i : Nat)  (σ9 : zS) (H9 : Heap) (locs9 : List Loc) (ls : Array Slot), (i ≤ 10 ∧ (∀ a b, a < 10 → b < 10 → σ9 47 0 (10 * a + b) = ywf 100000 (σ 44 0) (σ 45 0) (σ 46 0) ns i a b) ∧ zfr (fun κ _ _ => κ = 47) σ2 σ9) → (10 - i) < n9 → ZW G ad A σ9 H9 → va_S A s.heap H9 locs9 → zh ls 4 [(0, zr ad 30 ((0 : Nat) : Int)), (1, .int (zi ((i : Nat) : Int)))] → W p l e ({ frames := 0, cells := 0, slots := 0, locals := 0 }) s m ([zr ad 30 ((0 : Nat) : Int)] : List Value).toArray below meth c H9 locs9 0 0 (MQ below (zQ G ad A zrv (fun _ u => (∀ a b, a < 10 → b < 10 → u 47 0 (10 * a + b) = ywf 100000 (σ 44 0) (σ 45 0) (σ 46 0) ns 10 a b) ∧ zfr (fun κ _ _ => κ = 47) σ u)) ([zr ad 30 ((0 : Nat) : Int)] : List Value).toArray s 0 0 A) (F0 m 137 ls []) := by
                intro n9
                induction n9 with
                | zero =>
                  intro i σ3 H3 locs3 ls hI137 hm137 hW3 hS3 hl
                  exact absurd hm137 (Nat.not_lt_zero _)
                | succ n9 ih137 =>
                  intro i σ3 H3 locs3 ls hI137 hm137 hW3 hS3 hl
                  obtain ⟨hl1, hl2, hl3⟩ := hI137
                  refine zz_iload_n hx hb hl 1 dX7_findWays_137 rfl rfl ?_
                  refine zz_bipush hx hb dX7_findWays_138 (by decide +kernel) ?_
                  refine zz_icmp_ge (tgt := 219) hx hb dX7_findWays_140 (by decide) ⟨by omega, by omega⟩ ⟨by decide, by decide⟩ (fun hc140 => ?_) (fun hc140 => ?_)
                  · refine W.eq (g2 := F0 m 219 ls []) rfl ?_
                    refine zz_retv hx hb hr hlocks hW3 hS3 ?_ dX7_findWays_219
                    refine ⟨fun a b ha hb9 => ?_, fun κ' i' k' hn => ?_⟩
                    · rw [hl2 a b ha hb9, show i = 10 by omega]
                    · rw [hl3 _ _ _ hn, hk3 _ _ _ hn]
                      exact hi3 _ _ _ hn
                  · refine zz_iconst hx hb dX7_findWays_143 ?_
                    refine zz_istore_n (lv' := [(2, .int (zi 0)), (0, zr ad 30 ((0 : Nat) : Int)), (1, .int (zi ((i : Nat) : Int)))]) hx hb hl dX7_findWays_144 rfl (by decide) rfl (fun ls hl => ?_)
                    have hcut145 : ∀ (n9 : Nat) (k : Nat)  (σ9 : zS) (H9 : Heap) (locs9 : List Loc) (ls : Array Slot), (k ≤ 100 ∧ (∀ a b, a < 10 → b < 10 → σ9 47 0 (10 * a + b) = if 10 * a + b < k then ywo (ywf 100000 (σ 44 0) (σ 45 0) (σ 46 0) ns i) i a b else ywf 100000 (σ 44 0) (σ 45 0) (σ 46 0) ns i a b) ∧ zfr (fun κ _ _ => κ = 47) σ3 σ9) → (100 - k) < n9 → ZW G ad A σ9 H9 → va_S A s.heap H9 locs9 → zh ls 4 [(0, zr ad 30 ((0 : Nat) : Int)), (1, .int (zi ((i : Nat) : Int))), (2, .int (zi ((k : Nat) : Int)))] → W p l e ({ frames := 0, cells := 0, slots := 0, locals := 0 }) s m ([zr ad 30 ((0 : Nat) : Int)] : List Value).toArray below meth c H9 locs9 0 0 (MQ below (zQ G ad A zrv (fun _ u => (∀ a b, a < 10 → b < 10 → u 47 0 (10 * a + b) = ywf 100000 (σ 44 0) (σ 45 0) (σ 46 0) ns 10 a b) ∧ zfr (fun κ _ _ => κ = 47) σ u)) ([zr ad 30 ((0 : Nat) : Int)] : List Value).toArray s 0 0 A) (F0 m 145 ls []) := by
                      intro n9
                      induction n9 with
                      | zero =>
                        intro k σ4 H4 locs4 ls hI145 hm145 hW4 hS4 hl
                        exact absurd hm145 (Nat.not_lt_zero _)
                      | succ n9 ih145 =>
                        intro k σ4 H4 locs4 ls hI145 hm145 hW4 hS4 hl
                        obtain ⟨hm1, hm2, hm3⟩ := hI145
                        refine zz_iload_n hx hb hl 2 dX7_findWays_145 rfl rfl ?_
                        refine zz_bipush hx hb dX7_findWays_146 (by decide +kernel) ?_
                        refine zz_icmp_ge (tgt := 213) hx hb dX7_findWays_148 (by decide) ⟨by omega, by omega⟩ ⟨by decide, by decide⟩ (fun hc148 => ?_) (fun hc148 => ?_)
                        · refine zz_iinc (lv' := [(1, .int (zi ((i + 1 : Nat) : Int))), (0, zr ad 30 ((0 : Nat) : Int)), (2, .int (zi ((k : Nat) : Int)))]) hx hb hl dX7_findWays_213 (k0 := 1) rfl (by decide) rfl (fun ls hl => ?_)
                          refine zz_goto (tgt := 137) hx hb dX7_findWays_216 (by decide) ?_
                          refine ih137 (i + 1) σ4 H4 locs4 ls ?_ (by omega) hW4 hS4 (zh_sub hl [1, 0] rfl)
                          refine ⟨by omega, fun a b ha hb9 => ?_, fun κ' i' k' hn => by rw [hm3 _ _ _ hn]; exact hl3 _ _ _ hn⟩
                          rw [hm2 a b ha hb9, if_pos (by omega)]
                          rfl
                        · obtain ⟨a9, b9, rfl, hb10⟩ : ∃ a9 b9 : Nat, k = 10 * a9 + b9 ∧ b9 < 10 := ⟨k / 10, k % 10, by omega, by omega⟩
                          have ha10 : a9 < 10 := by omega
                          have hWr := ywf_rg (F := 100000) (by decide) hst i
                          have hWd := ywf_dg (F := 100000) (by decide) hst i
                          have r1 := hWr a9 i
                          have r2 := hWr i b9
                          have r3 := hWr a9 b9
                          have e1 : σ4 47 0 (10 * a9 + i) = ywf 100000 (σ 44 0) (σ 45 0) (σ 46 0) ns i a9 i := by
                            rw [hm2 a9 i (by omega) (by omega)]
                            have q1 := hWr a9 i
                            have q2 := hWd i
                            unfold ywo
                            rw [q2]
                            split <;> omega
                          have e1q : σ4 47 0 (a9 * 10 + i) = ywf 100000 (σ 44 0) (σ 45 0) (σ 46 0) ns i a9 i := by rw [Nat.mul_comm a9 10]; exact e1
                          have e2 : σ4 47 0 (10 * i + b9) = ywf 100000 (σ 44 0) (σ 45 0) (σ 46 0) ns i i b9 := by
                            rw [hm2 i b9 (by omega) (by omega)]
                            have q1 := hWr i b9
                            have q2 := hWd i
                            unfold ywo
                            rw [q2]
                            split <;> omega
                          have e3 : σ4 47 0 (10 * a9 + b9) = ywf 100000 (σ 44 0) (σ 45 0) (σ 46 0) ns i a9 b9 := by
                            rw [hm2 a9 b9 (by omega) (by omega), if_neg (by omega)]
                          refine zz_aload_n hx hb hl 0 dX7_findWays_151 rfl rfl ?_
                          refine zz_get (T := TX7) (N := 42) (k := 7) (κ := 30) (w := zr ad 47 ((0 : Nat) : Int)) hx hb hts hinX7 hown hK hW4 (zlN (hM 30 rfl)) rfl rfl rfl (by decide) (hts (.fieldLink RX7 23 "HailCityModel" "ways" "[I") (by decide +kernel)) (fun _ h9 => h9) rfl dX7_findWays_152 ?_
                          refine zz_iload_n hx hb hl 2 dX7_findWays_155 rfl rfl ?_
                          refine zz_bipush hx hb dX7_findWays_156 (by decide +kernel) ?_
                          refine zz_idivw (w := ((a9 : Nat) : Int)) hx hb (by omega) dX7_findWays_158 ⟨by omega, by omega⟩ ⟨by decide, by decide⟩ (by omega) (by omega) ?_
                          refine zz_bipush hx hb dX7_findWays_159 (by decide +kernel) ?_
                          refine zz_imul hx hb dX7_findWays_161 ?_
                          refine zz_iload_n hx hb hl 1 dX7_findWays_162 rfl rfl ?_
                          refine zz_iadd hx hb dX7_findWays_163 ?_
                          refine zz_iald (w := σ4 47 0 ((a9 * 10) + i)) hx hb hK hW4 (zlN (hM 47 rfl)) rfl rfl rfl (by show (0 : Int) ≤ (((a9 * 10) + i : Nat) : Int); omega) (by show (((a9 * 10) + i : Nat) : Int) < (100 : Int); omega) rfl dX7_findWays_164 ?_
                          refine zz_aload_n hx hb hl 0 dX7_findWays_165 rfl rfl ?_
                          refine zz_get (T := TX7) (N := 42) (k := 7) (κ := 30) (w := zr ad 47 ((0 : Nat) : Int)) hx hb hts hinX7 hown hK hW4 (zlN (hM 30 rfl)) rfl rfl rfl (by decide) (hts (.fieldLink RX7 23 "HailCityModel" "ways" "[I") (by decide +kernel)) (fun _ h9 => h9) rfl dX7_findWays_166 ?_
                          refine zz_bipush hx hb dX7_findWays_169 (by decide +kernel) ?_
                          refine zz_iload_n hx hb hl 1 dX7_findWays_171 rfl rfl ?_
                          refine zz_imul hx hb dX7_findWays_172 ?_
                          refine zz_iload_n hx hb hl 2 dX7_findWays_173 rfl rfl ?_
                          refine zz_bipush hx hb dX7_findWays_174 (by decide +kernel) ?_
                          refine zz_iremw (w := ((b9 : Nat) : Int)) hx hb (by omega) dX7_findWays_176 ⟨by omega, by omega⟩ ⟨by decide, by decide⟩ (by omega) (by omega) ?_
                          refine zz_iadd hx hb dX7_findWays_177 ?_
                          refine zz_iald (w := σ4 47 0 ((10 * i) + b9)) hx hb hK hW4 (zlN (hM 47 rfl)) rfl rfl rfl (by show (0 : Int) ≤ (((10 * i) + b9 : Nat) : Int); omega) (by show (((10 * i) + b9 : Nat) : Int) < (100 : Int); omega) rfl dX7_findWays_178 ?_
                          refine zz_iadd hx hb dX7_findWays_179 ?_
                          refine zz_istore_n (lv' := [(3, .int (zi ((σ4 47 0 ((a9 * 10) + i)) + (σ4 47 0 ((10 * i) + b9))))), (0, zr ad 30 ((0 : Nat) : Int)), (1, .int (zi ((i : Nat) : Int))), (2, .int (zi ((10 * a9 + b9 : Nat) : Int)))]) hx hb hl dX7_findWays_180 rfl (by decide) rfl (fun ls hl => ?_)
                          refine zz_aload_n hx hb hl 1 dX7_findWays_181 rfl rfl ?_
                          refine zz_get (T := TX7) (N := 42) (k := 7) (κ := 30) (w := zr ad 47 ((0 : Nat) : Int)) hx hb hts hinX7 hown hK hW4 (zlN (hM 30 rfl)) rfl rfl rfl (by decide) (hts (.fieldLink RX7 23 "HailCityModel" "ways" "[I") (by decide +kernel)) (fun _ h9 => h9) rfl dX7_findWays_182 ?_
                          refine zz_iload_n hx hb hl 3 dX7_findWays_185 rfl rfl ?_
                          refine zz_iload_n hx hb hl 0 dX7_findWays_186 rfl rfl ?_
                          refine zz_aload_n hx hb hl 1 dX7_findWays_187 rfl rfl ?_
                          refine zz_get (T := TX7) (N := 42) (k := 7) (κ := 30) (w := zr ad 47 ((0 : Nat) : Int)) hx hb hts hinX7 hown hK hW4 (zlN (hM 30 rfl)) rfl rfl rfl (by decide) (hts (.fieldLink RX7 23 "HailCityModel" "ways" "[I") (by decide +kernel)) (fun _ h9 => h9) rfl dX7_findWays_188 ?_
                          refine zz_iload_n hx hb hl 3 dX7_findWays_191 rfl rfl ?_
                          refine zz_iald (w := σ4 47 0 (10 * a9 + b9)) hx hb hK hW4 (zlN (hM 47 rfl)) rfl rfl rfl (by show (0 : Int) ≤ ((10 * a9 + b9 : Nat) : Int); omega) (by show ((10 * a9 + b9 : Nat) : Int) < (100 : Int); omega) rfl dX7_findWays_192 ?_
                          refine zz_icmp_ge (tgt := 200) hx hb dX7_findWays_193 (by decide) ⟨by omega, by omega⟩ (hW4.2.2.1 _ _ _) (fun hc193 => ?_) (fun hc193 => ?_)
                          · refine zz_aload_n hx hb hl 1 dX7_findWays_200 rfl rfl ?_
                            refine zz_get (T := TX7) (N := 42) (k := 7) (κ := 30) (w := zr ad 47 ((0 : Nat) : Int)) hx hb hts hinX7 hown hK hW4 (zlN (hM 30 rfl)) rfl rfl rfl (by decide) (hts (.fieldLink RX7 23 "HailCityModel" "ways" "[I") (by decide +kernel)) (fun _ h9 => h9) rfl dX7_findWays_201 ?_
                            refine zz_iload_n hx hb hl 3 dX7_findWays_204 rfl rfl ?_
                            refine zz_iald (w := σ4 47 0 (10 * a9 + b9)) hx hb hK hW4 (zlN (hM 47 rfl)) rfl rfl rfl (by show (0 : Int) ≤ ((10 * a9 + b9 : Nat) : Int); omega) (by show ((10 * a9 + b9 : Nat) : Int) < (100 : Int); omega) rfl dX7_findWays_205 ?_
                            refine zz_iast (y := (σ4 47 0 (10 * a9 + b9))) hx hb hK hW4 hS4 (zlN (hM 47 rfl)) rfl rfl rfl (by show (0 : Int) ≤ ((10 * a9 + b9 : Nat) : Int); omega) (by show ((10 * a9 + b9 : Nat) : Int) < (100 : Int); omega) (hW4.2.2.1 _ _ _) dX7_findWays_206 (fun H5 locs5 hW5' hS5 => ?_)
                            obtain ⟨σ5, hs5⟩ : ∃ z, z = zu σ4 47 0 (10 * a9 + b9) (σ4 47 0 (10 * a9 + b9)) := ⟨_, rfl⟩
                            have hW5 : ZW G ad A σ5 H5 := by rw [hs5]; exact hW5'
                            refine zz_iinc (lv' := [(2, .int (zi (((10 * a9 + b9) + 1 : Nat) : Int))), (3, .int (zi ((σ4 47 0 ((a9 * 10) + i)) + (σ4 47 0 ((10 * i) + b9))))), (0, zr ad 30 ((0 : Nat) : Int)), (1, .int (zi ((i : Nat) : Int)))]) hx hb hl dX7_findWays_207 (k0 := 3) rfl (by decide) rfl (fun ls hl => ?_)
                            refine zz_goto (tgt := 145) hx hb dX7_findWays_210 (by decide) ?_
                            refine ih145 (10 * a9 + b9 + 1) σ5 H5 locs5 ls ?_ (by omega) hW5 hS5 (zh_sub hl [2, 3, 0] rfl)
                            refine ⟨by omega, fun a b ha hb9 => ?_, fun κ' i' k' hn => ?_⟩
                            · rw [hs5]
                              by_cases h : 10 * a + b = 10 * a9 + b9
                              · rw [h, zu_same, if_pos (by omega), show a = a9 by omega, show b = b9 by omega]
                                unfold ywo
                                omega
                              · rw [zu_s h, hm2 a b ha hb9]
                                by_cases h2 : 10 * a + b < 10 * a9 + b9
                                · rw [if_pos h2, if_pos (by omega)]
                                · rw [if_neg h2, if_neg (by omega)]
                            · rw [hs5, zu_ne (by omega)]
                              exact hm3 _ _ _ hn
                          · refine zz_iload_n hx hb hl 0 dX7_findWays_196 rfl rfl ?_
                            refine zz_goto (tgt := 206) hx hb dX7_findWays_197 (by decide) ?_
                            refine zz_iast (y := ((σ4 47 0 ((a9 * 10) + i)) + (σ4 47 0 ((10 * i) + b9)))) hx hb hK hW4 hS4 (zlN (hM 47 rfl)) rfl rfl rfl (by show (0 : Int) ≤ ((10 * a9 + b9 : Nat) : Int); omega) (by show ((10 * a9 + b9 : Nat) : Int) < (100 : Int); omega) ⟨by omega, by omega⟩ dX7_findWays_206 (fun H6 locs6 hW6' hS6 => ?_)
                            obtain ⟨σ6, hs6⟩ : ∃ z, z = zu σ4 47 0 (10 * a9 + b9) ((σ4 47 0 ((a9 * 10) + i)) + (σ4 47 0 ((10 * i) + b9))) := ⟨_, rfl⟩
                            have hW6 : ZW G ad A σ6 H6 := by rw [hs6]; exact hW6'
                            refine zz_iinc (lv' := [(2, .int (zi (((10 * a9 + b9) + 1 : Nat) : Int))), (3, .int (zi ((σ4 47 0 ((a9 * 10) + i)) + (σ4 47 0 ((10 * i) + b9))))), (0, zr ad 30 ((0 : Nat) : Int)), (1, .int (zi ((i : Nat) : Int)))]) hx hb hl dX7_findWays_207 (k0 := 3) rfl (by decide) rfl (fun ls hl => ?_)
                            refine zz_goto (tgt := 145) hx hb dX7_findWays_210 (by decide) ?_
                            refine ih145 (10 * a9 + b9 + 1) σ6 H6 locs6 ls ?_ (by omega) hW6 hS6 (zh_sub hl [2, 3, 0] rfl)
                            refine ⟨by omega, fun a b ha hb9 => ?_, fun κ' i' k' hn => ?_⟩
                            · rw [hs6]
                              by_cases h : 10 * a + b = 10 * a9 + b9
                              · rw [h, zu_same, if_pos (by omega), show a = a9 by omega, show b = b9 by omega]
                                unfold ywo
                                omega
                              · rw [zu_s h, hm2 a b ha hb9]
                                by_cases h2 : 10 * a + b < 10 * a9 + b9
                                · rw [if_pos h2, if_pos (by omega)]
                                · rw [if_neg h2, if_neg (by omega)]
                            · rw [hs6, zu_ne (by omega)]
                              exact hm3 _ _ _ hn
                    refine hcut145 _ 0 σ3 H3 locs3 ls ?_ (Nat.lt_succ_self _) hW3 hS3 (zh_sub hl [1, 2, 0] rfl)
                    exact ⟨Nat.zero_le _, fun a b ha hb9 => by rw [hl2 a b ha hb9, if_neg (by omega)], fun _ _ _ _ => rfl⟩
              refine hcut137 _ 0 σ2 H2 locs2 ls ?_ (Nat.lt_succ_self _) hW2 hS2 (zh_sub hl [1, 0] rfl)
              exact ⟨Nat.zero_le _, fun a b ha hb9 => by rw [hk2 a b ha hb9, show i = ns by omega]; rfl, fun _ _ _ _ => rfl⟩
            · obtain ⟨o, ho⟩ : ∃ o : Nat, σ 44 0 i = (o : Int) := ⟨(σ 44 0 i).toNat, by have := hst i (by omega); omega⟩
              obtain ⟨p9, hp9⟩ : ∃ o : Nat, σ 45 0 i = (o : Int) := ⟨(σ 45 0 i).toNat, by have := hst i (by omega); omega⟩
              have hsq := hst i (by omega)
              have hop := hk2 o p9 (by omega) (by omega)
              have hor := yws_rg (F := 100000) (by decide) hst i (by omega) o p9
              refine zz_bipush hx hb dX7_findWays_47 (by decide +kernel) ?_
              refine zz_aload_n hx hb hl 0 dX7_findWays_49 rfl rfl ?_
              refine zz_get (T := TX7) (N := 42) (k := 4) (κ := 30) (w := zr ad 44 ((0 : Nat) : Int)) hx hb hts hinX7 hown hK hW2 (zlN (hM 30 rfl)) rfl rfl rfl (by decide) (hts (.fieldLink RX7 13 "HailCityModel" "one" "[I") (by decide +kernel)) (fun _ h9 => h9) rfl dX7_findWays_50 ?_
              refine zz_iload_n hx hb hl 1 dX7_findWays_53 rfl rfl ?_
              refine zz_iald (w := ((o : Nat) : Int)) hx hb hK hW2 (zlN (hM 44 rfl)) rfl rfl rfl (by show (0 : Int) ≤ ((i : Nat) : Int); omega) (by show ((i : Nat) : Int) < (20 : Int); omega) (show σ2 44 0 i = ((o : Nat) : Int) from by rw [hk3 44 0 i (by omega), hi3 44 0 i (by omega), ho]) dX7_findWays_54 ?_
              refine zz_imul hx hb dX7_findWays_55 ?_
              refine zz_aload_n hx hb hl 0 dX7_findWays_56 rfl rfl ?_
              refine zz_get (T := TX7) (N := 42) (k := 5) (κ := 30) (w := zr ad 45 ((0 : Nat) : Int)) hx hb hts hinX7 hown hK hW2 (zlN (hM 30 rfl)) rfl rfl rfl (by decide) (hts (.fieldLink RX7 17 "HailCityModel" "other" "[I") (by decide +kernel)) (fun _ h9 => h9) rfl dX7_findWays_57 ?_
              refine zz_iload_n hx hb hl 1 dX7_findWays_60 rfl rfl ?_
              refine zz_iald (w := ((p9 : Nat) : Int)) hx hb hK hW2 (zlN (hM 45 rfl)) rfl rfl rfl (by show (0 : Int) ≤ ((i : Nat) : Int); omega) (by show ((i : Nat) : Int) < (20 : Int); omega) (show σ2 45 0 i = ((p9 : Nat) : Int) from by rw [hk3 45 0 i (by omega), hi3 45 0 i (by omega), hp9]) dX7_findWays_61 ?_
              refine zz_iadd hx hb dX7_findWays_62 ?_
              refine zz_istore_n (lv' := [(2, .int (zi (((10 * o) + p9 : Nat) : Int))), (0, zr ad 30 ((0 : Nat) : Int)), (1, .int (zi ((i : Nat) : Int)))]) hx hb hl dX7_findWays_63 rfl (by decide) rfl (fun ls hl => ?_)
              refine zz_bipush hx hb dX7_findWays_64 (by decide +kernel) ?_
              refine zz_aload_n hx hb hl 1 dX7_findWays_66 rfl rfl ?_
              refine zz_get (T := TX7) (N := 42) (k := 5) (κ := 30) (w := zr ad 45 ((0 : Nat) : Int)) hx hb hts hinX7 hown hK hW2 (zlN (hM 30 rfl)) rfl rfl rfl (by decide) (hts (.fieldLink RX7 17 "HailCityModel" "other" "[I") (by decide +kernel)) (fun _ h9 => h9) rfl dX7_findWays_67 ?_
              refine zz_iload_n hx hb hl 2 dX7_findWays_70 rfl rfl ?_
              refine zz_iald (w := ((p9 : Nat) : Int)) hx hb hK hW2 (zlN (hM 45 rfl)) rfl rfl rfl (by show (0 : Int) ≤ ((i : Nat) : Int); omega) (by show ((i : Nat) : Int) < (20 : Int); omega) (show σ2 45 0 i = ((p9 : Nat) : Int) from by rw [hk3 45 0 i (by omega), hi3 45 0 i (by omega), hp9]) dX7_findWays_71 ?_
              refine zz_imul hx hb dX7_findWays_72 ?_
              refine zz_aload_n hx hb hl 1 dX7_findWays_73 rfl rfl ?_
              refine zz_get (T := TX7) (N := 42) (k := 4) (κ := 30) (w := zr ad 44 ((0 : Nat) : Int)) hx hb hts hinX7 hown hK hW2 (zlN (hM 30 rfl)) rfl rfl rfl (by decide) (hts (.fieldLink RX7 13 "HailCityModel" "one" "[I") (by decide +kernel)) (fun _ h9 => h9) rfl dX7_findWays_74 ?_
              refine zz_iload_n hx hb hl 2 dX7_findWays_77 rfl rfl ?_
              refine zz_iald (w := ((o : Nat) : Int)) hx hb hK hW2 (zlN (hM 44 rfl)) rfl rfl rfl (by show (0 : Int) ≤ ((i : Nat) : Int); omega) (by show ((i : Nat) : Int) < (20 : Int); omega) (show σ2 44 0 i = ((o : Nat) : Int) from by rw [hk3 44 0 i (by omega), hi3 44 0 i (by omega), ho]) dX7_findWays_78 ?_
              refine zz_iadd hx hb dX7_findWays_79 ?_
              refine zz_istore_n (lv' := [(3, .int (zi (((10 * p9) + o : Nat) : Int))), (2, .int (zi (((10 * o) + p9 : Nat) : Int))), (0, zr ad 30 ((0 : Nat) : Int)), (1, .int (zi ((i : Nat) : Int)))]) hx hb hl dX7_findWays_80 rfl (by decide) rfl (fun ls hl => ?_)
              refine zz_aload_n hx hb hl 2 dX7_findWays_81 rfl rfl ?_
              refine zz_get (T := TX7) (N := 42) (k := 7) (κ := 30) (w := zr ad 47 ((0 : Nat) : Int)) hx hb hts hinX7 hown hK hW2 (zlN (hM 30 rfl)) rfl rfl rfl (by decide) (hts (.fieldLink RX7 23 "HailCityModel" "ways" "[I") (by decide +kernel)) (fun _ h9 => h9) rfl dX7_findWays_82 ?_
              refine zz_iload_n hx hb hl 1 dX7_findWays_85 rfl rfl ?_
              refine zz_aload_n hx hb hl 2 dX7_findWays_86 rfl rfl ?_
              refine zz_get (T := TX7) (N := 42) (k := 6) (κ := 30) (w := zr ad 46 ((0 : Nat) : Int)) hx hb hts hinX7 hown hK hW2 (zlN (hM 30 rfl)) rfl rfl rfl (by decide) (hts (.fieldLink RX7 20 "HailCityModel" "takes" "[I") (by decide +kernel)) (fun _ h9 => h9) rfl dX7_findWays_87 ?_
              refine zz_iload_n hx hb hl 3 dX7_findWays_90 rfl rfl ?_
              refine zz_iald (w := σ 46 0 i) hx hb hK hW2 (zlN (hM 46 rfl)) rfl rfl rfl (by show (0 : Int) ≤ ((i : Nat) : Int); omega) (by show ((i : Nat) : Int) < (20 : Int); omega) (show σ2 46 0 i = σ 46 0 i from by rw [hk3 46 0 i (by omega), hi3 46 0 i (by omega)]) dX7_findWays_91 ?_
              refine zz_aload_n hx hb hl 2 dX7_findWays_92 rfl rfl ?_
              refine zz_get (T := TX7) (N := 42) (k := 7) (κ := 30) (w := zr ad 47 ((0 : Nat) : Int)) hx hb hts hinX7 hown hK hW2 (zlN (hM 30 rfl)) rfl rfl rfl (by decide) (hts (.fieldLink RX7 23 "HailCityModel" "ways" "[I") (by decide +kernel)) (fun _ h9 => h9) rfl dX7_findWays_93 ?_
              refine zz_iload_n hx hb hl 1 dX7_findWays_96 rfl rfl ?_
              refine zz_iald (w := σ2 47 0 ((10 * o) + p9)) hx hb hK hW2 (zlN (hM 47 rfl)) rfl rfl rfl (by show (0 : Int) ≤ (((10 * o) + p9 : Nat) : Int); omega) (by show (((10 * o) + p9 : Nat) : Int) < (100 : Int); omega) rfl dX7_findWays_97 ?_
              refine zz_icmp_ge (tgt := 110) hx hb dX7_findWays_98 (by decide) (hW0.2.2.1 _ _ _) (hW2.2.2.1 _ _ _) (fun hc98 => ?_) (fun hc98 => ?_)
              · refine zz_aload_n hx hb hl 2 dX7_findWays_110 rfl rfl ?_
                refine zz_get (T := TX7) (N := 42) (k := 7) (κ := 30) (w := zr ad 47 ((0 : Nat) : Int)) hx hb hts hinX7 hown hK hW2 (zlN (hM 30 rfl)) rfl rfl rfl (by decide) (hts (.fieldLink RX7 23 "HailCityModel" "ways" "[I") (by decide +kernel)) (fun _ h9 => h9) rfl dX7_findWays_111 ?_
                refine zz_iload_n hx hb hl 1 dX7_findWays_114 rfl rfl ?_
                refine zz_iald (w := σ2 47 0 ((10 * o) + p9)) hx hb hK hW2 (zlN (hM 47 rfl)) rfl rfl rfl (by show (0 : Int) ≤ (((10 * o) + p9 : Nat) : Int); omega) (by show (((10 * o) + p9 : Nat) : Int) < (100 : Int); omega) rfl dX7_findWays_115 ?_
                refine zz_iast (y := (σ2 47 0 ((10 * o) + p9))) hx hb hK hW2 hS2 (zlN (hM 47 rfl)) rfl rfl rfl (by show (0 : Int) ≤ (((10 * o) + p9 : Nat) : Int); omega) (by show (((10 * o) + p9 : Nat) : Int) < (100 : Int); omega) (hW2.2.2.1 _ _ _) dX7_findWays_116 (fun H7 locs7 hW7' hS7 => ?_)
                obtain ⟨σ7, hs7⟩ : ∃ z, z = zu σ2 47 0 ((10 * o) + p9) (σ2 47 0 ((10 * o) + p9)) := ⟨_, rfl⟩
                have hW7 : ZW G ad A σ7 H7 := by rw [hs7]; exact hW7'
                refine zz_aload_n hx hb hl 2 dX7_findWays_117 rfl rfl ?_
                refine zz_get (T := TX7) (N := 42) (k := 7) (κ := 30) (w := zr ad 47 ((0 : Nat) : Int)) hx hb hts hinX7 hown hK hW7 (zlN (hM 30 rfl)) rfl rfl rfl (by decide) (hts (.fieldLink RX7 23 "HailCityModel" "ways" "[I") (by decide +kernel)) (fun _ h9 => h9) rfl dX7_findWays_118 ?_
                refine zz_iload_n hx hb hl 0 dX7_findWays_121 rfl rfl ?_
                refine zz_aload_n hx hb hl 2 dX7_findWays_122 rfl rfl ?_
                refine zz_get (T := TX7) (N := 42) (k := 7) (κ := 30) (w := zr ad 47 ((0 : Nat) : Int)) hx hb hts hinX7 hown hK hW7 (zlN (hM 30 rfl)) rfl rfl rfl (by decide) (hts (.fieldLink RX7 23 "HailCityModel" "ways" "[I") (by decide +kernel)) (fun _ h9 => h9) rfl dX7_findWays_123 ?_
                refine zz_iload_n hx hb hl 1 dX7_findWays_126 rfl rfl ?_
                refine zz_iald (w := σ2 47 0 ((10 * o) + p9)) hx hb hK hW7 (zlN (hM 47 rfl)) rfl rfl rfl (by show (0 : Int) ≤ (((10 * o) + p9 : Nat) : Int); omega) (by show (((10 * o) + p9 : Nat) : Int) < (100 : Int); omega) (show σ7 47 0 ((10 * o) + p9) = σ2 47 0 ((10 * o) + p9) from by rw [hs7, zu_same]) dX7_findWays_127 ?_
                refine zz_iast (y := (σ2 47 0 ((10 * o) + p9))) hx hb hK hW7 hS7 (zlN (hM 47 rfl)) rfl rfl rfl (by show (0 : Int) ≤ (((10 * p9) + o : Nat) : Int); omega) (by show (((10 * p9) + o : Nat) : Int) < (100 : Int); omega) ⟨by omega, by omega⟩ dX7_findWays_128 (fun H8 locs8 hW8' hS8 => ?_)
                obtain ⟨σ8, hs8⟩ : ∃ z, z = zu σ7 47 0 ((10 * p9) + o) (σ2 47 0 ((10 * o) + p9)) := ⟨_, rfl⟩
                have hW8 : ZW G ad A σ8 H8 := by rw [hs8]; exact hW8'
                refine zz_iinc (lv' := [(1, .int (zi ((i + 1 : Nat) : Int))), (3, .int (zi (((10 * p9) + o : Nat) : Int))), (2, .int (zi (((10 * o) + p9 : Nat) : Int))), (0, zr ad 30 ((0 : Nat) : Int))]) hx hb hl dX7_findWays_129 (k0 := 3) rfl (by decide) rfl (fun ls hl => ?_)
                refine zz_goto (tgt := 39) hx hb dX7_findWays_132 (by decide) ?_
                refine ih39 (i + 1) σ8 H8 locs8 ls ?_ (by omega) hW8 hS8 (zh_sub hl [3, 0] rfl)
                refine ⟨by omega, fun a b ha hb9 => ?_, fun κ' i' k' hn => ?_⟩
                · show _ = ywe _ _ _ _ a b
                  unfold ywe
                  rw [← hk2 a b ha hb9, ho, hp9, Int.toNat_natCast, Int.toNat_natCast, ← hop]
                  simp only [hs8, hs7, zu, true_and]
                  (repeat' split) <;> omega
                · rw [hs8, zu_ne (by omega), hs7, zu_ne (by omega)]
                  exact hk3 _ _ _ hn
              · refine zz_aload_n hx hb hl 2 dX7_findWays_101 rfl rfl ?_
                refine zz_get (T := TX7) (N := 42) (k := 6) (κ := 30) (w := zr ad 46 ((0 : Nat) : Int)) hx hb hts hinX7 hown hK hW2 (zlN (hM 30 rfl)) rfl rfl rfl (by decide) (hts (.fieldLink RX7 20 "HailCityModel" "takes" "[I") (by decide +kernel)) (fun _ h9 => h9) rfl dX7_findWays_102 ?_
                refine zz_iload_n hx hb hl 3 dX7_findWays_105 rfl rfl ?_
                refine zz_iald (w := σ 46 0 i) hx hb hK hW2 (zlN (hM 46 rfl)) rfl rfl rfl (by show (0 : Int) ≤ ((i : Nat) : Int); omega) (by show ((i : Nat) : Int) < (20 : Int); omega) (show σ2 46 0 i = σ 46 0 i from by rw [hk3 46 0 i (by omega), hi3 46 0 i (by omega)]) dX7_findWays_106 ?_
                refine zz_goto (tgt := 116) hx hb dX7_findWays_107 (by decide) ?_
                refine zz_iast (y := (σ 46 0 i)) hx hb hK hW2 hS2 (zlN (hM 47 rfl)) rfl rfl rfl (by show (0 : Int) ≤ (((10 * o) + p9 : Nat) : Int); omega) (by show (((10 * o) + p9 : Nat) : Int) < (100 : Int); omega) (hW0.2.2.1 _ _ _) dX7_findWays_116 (fun H9 locs9 hW9' hS9 => ?_)
                obtain ⟨σ9, hs9⟩ : ∃ z, z = zu σ2 47 0 ((10 * o) + p9) (σ 46 0 i) := ⟨_, rfl⟩
                have hW9 : ZW G ad A σ9 H9 := by rw [hs9]; exact hW9'
                refine zz_aload_n hx hb hl 2 dX7_findWays_117 rfl rfl ?_
                refine zz_get (T := TX7) (N := 42) (k := 7) (κ := 30) (w := zr ad 47 ((0 : Nat) : Int)) hx hb hts hinX7 hown hK hW9 (zlN (hM 30 rfl)) rfl rfl rfl (by decide) (hts (.fieldLink RX7 23 "HailCityModel" "ways" "[I") (by decide +kernel)) (fun _ h9 => h9) rfl dX7_findWays_118 ?_
                refine zz_iload_n hx hb hl 0 dX7_findWays_121 rfl rfl ?_
                refine zz_aload_n hx hb hl 2 dX7_findWays_122 rfl rfl ?_
                refine zz_get (T := TX7) (N := 42) (k := 7) (κ := 30) (w := zr ad 47 ((0 : Nat) : Int)) hx hb hts hinX7 hown hK hW9 (zlN (hM 30 rfl)) rfl rfl rfl (by decide) (hts (.fieldLink RX7 23 "HailCityModel" "ways" "[I") (by decide +kernel)) (fun _ h9 => h9) rfl dX7_findWays_123 ?_
                refine zz_iload_n hx hb hl 1 dX7_findWays_126 rfl rfl ?_
                refine zz_iald (w := σ 46 0 i) hx hb hK hW9 (zlN (hM 47 rfl)) rfl rfl rfl (by show (0 : Int) ≤ (((10 * o) + p9 : Nat) : Int); omega) (by show (((10 * o) + p9 : Nat) : Int) < (100 : Int); omega) (show σ9 47 0 ((10 * o) + p9) = σ 46 0 i from by rw [hs9, zu_same]) dX7_findWays_127 ?_
                refine zz_iast (y := (σ 46 0 i)) hx hb hK hW9 hS9 (zlN (hM 47 rfl)) rfl rfl rfl (by show (0 : Int) ≤ (((10 * p9) + o : Nat) : Int); omega) (by show (((10 * p9) + o : Nat) : Int) < (100 : Int); omega) ⟨by omega, by omega⟩ dX7_findWays_128 (fun H10 locs10 hW10' hS10 => ?_)
                obtain ⟨σ10, hs10⟩ : ∃ z, z = zu σ9 47 0 ((10 * p9) + o) (σ 46 0 i) := ⟨_, rfl⟩
                have hW10 : ZW G ad A σ10 H10 := by rw [hs10]; exact hW10'
                refine zz_iinc (lv' := [(1, .int (zi ((i + 1 : Nat) : Int))), (3, .int (zi (((10 * p9) + o : Nat) : Int))), (2, .int (zi (((10 * o) + p9 : Nat) : Int))), (0, zr ad 30 ((0 : Nat) : Int))]) hx hb hl dX7_findWays_129 (k0 := 3) rfl (by decide) rfl (fun ls hl => ?_)
                refine zz_goto (tgt := 39) hx hb dX7_findWays_132 (by decide) ?_
                refine ih39 (i + 1) σ10 H10 locs10 ls ?_ (by omega) hW10 hS10 (zh_sub hl [3, 0] rfl)
                refine ⟨by omega, fun a b ha hb9 => ?_, fun κ' i' k' hn => ?_⟩
                · show _ = ywe _ _ _ _ a b
                  unfold ywe
                  rw [← hk2 a b ha hb9, ho, hp9, Int.toNat_natCast, Int.toNat_natCast, ← hop]
                  simp only [hs10, hs9, zu, true_and]
                  (repeat' split) <;> omega
                · rw [hs10, zu_ne (by omega), hs9, zu_ne (by omega)]
                  exact hk3 _ _ _ hn
        refine hcut39 _ 0 σ1 H1 locs1 ls ?_ (Nat.lt_succ_self _) hW1 hS1 (zh_sub hl [1, 0] rfl)
        exact ⟨Nat.zero_le _, fun a b ha hb9 => hi2 a b ha hb9 (by omega), fun _ _ _ _ => rfl⟩
      · refine zz_aload_n hx hb hl 0 dX7_findWays_8 rfl rfl ?_
        refine zz_get (T := TX7) (N := 42) (k := 7) (κ := 30) (w := zr ad 47 ((0 : Nat) : Int)) hx hb hts hinX7 hown hK hW1 (zlN (hM 30 rfl)) rfl rfl rfl (by decide) (hts (.fieldLink RX7 23 "HailCityModel" "ways" "[I") (by decide +kernel)) (fun _ h9 => h9) rfl dX7_findWays_9 ?_
        refine zz_iload_n hx hb hl 1 dX7_findWays_12 rfl rfl ?_
        refine zz_iload_n hx hb hl 1 dX7_findWays_13 rfl rfl ?_
        refine zz_bipush hx hb dX7_findWays_14 (by decide +kernel) ?_
        refine zz_idiv hx hb dX7_findWays_16 ⟨by omega, by omega⟩ ⟨by decide, by decide⟩ (by omega) (by omega) ?_
        refine zz_iload_n hx hb hl 1 dX7_findWays_17 rfl rfl ?_
        refine zz_bipush hx hb dX7_findWays_18 (by decide +kernel) ?_
        refine zz_irem hx hb dX7_findWays_20 ⟨by omega, by omega⟩ ⟨by decide, by decide⟩ (by omega) (by omega) ?_
        refine zz_icmp_ne (tgt := 28) hx hb dX7_findWays_21 (by decide) ⟨by omega, by omega⟩ ⟨by omega, by omega⟩ (fun hc21 => ?_) (fun hc21 => ?_)
        · refine zz_ldc (n := 100000) (v := 100000) hx hb hown (hts (.constant RX7 133 (100000)) (by decide +kernel)) (by decide +kernel) dX7_findWays_28 ?_
          refine zz_iast (y := 100000) hx hb hK hW1 hS1 (zlN (hM 47 rfl)) rfl rfl rfl (by show (0 : Int) ≤ ((i : Nat) : Int); omega) (by show ((i : Nat) : Int) < (100 : Int); omega) ⟨by decide, by decide⟩ dX7_findWays_30 (fun H11 locs11 hW11' hS11 => ?_)
          obtain ⟨σ11, hs11⟩ : ∃ z, z = zu σ1 47 0 i 100000 := ⟨_, rfl⟩
          have hW11 : ZW G ad A σ11 H11 := by rw [hs11]; exact hW11'
          refine zz_iinc (lv' := [(1, .int (zi ((i + 1 : Nat) : Int))), (0, zr ad 30 ((0 : Nat) : Int))]) hx hb hl dX7_findWays_31 (k0 := 1) rfl (by decide) rfl (fun ls hl => ?_)
          refine zz_goto (tgt := 2) hx hb dX7_findWays_34 (by decide) ?_
          refine ih2 (i + 1) σ11 H11 locs11 ls ?_ (by omega) hW11 hS11 (zh_sub hl [1, 0] rfl)
          refine ⟨by omega, fun a b ha hb9 hab => ?_, fun κ' i' k' hn => ?_⟩
          · rw [hs11]
            by_cases h : 10 * a + b = i
            · rw [h, zu_same]
              unfold yw0
              split <;> omega
            · rw [zu_s h]; exact hi2 a b ha hb9 (by omega)
          · rw [hs11, zu_ne (by omega)]
            exact hi3 _ _ _ hn
        · refine zz_iconst hx hb dX7_findWays_24 ?_
          refine zz_goto (tgt := 30) hx hb dX7_findWays_25 (by decide) ?_
          refine zz_iast (y := 0) hx hb hK hW1 hS1 (zlN (hM 47 rfl)) rfl rfl rfl (by show (0 : Int) ≤ ((i : Nat) : Int); omega) (by show ((i : Nat) : Int) < (100 : Int); omega) ⟨by decide, by decide⟩ dX7_findWays_30 (fun H12 locs12 hW12' hS12 => ?_)
          obtain ⟨σ12, hs12⟩ : ∃ z, z = zu σ1 47 0 i 0 := ⟨_, rfl⟩
          have hW12 : ZW G ad A σ12 H12 := by rw [hs12]; exact hW12'
          refine zz_iinc (lv' := [(1, .int (zi ((i + 1 : Nat) : Int))), (0, zr ad 30 ((0 : Nat) : Int))]) hx hb hl dX7_findWays_31 (k0 := 1) rfl (by decide) rfl (fun ls hl => ?_)
          refine zz_goto (tgt := 2) hx hb dX7_findWays_34 (by decide) ?_
          refine ih2 (i + 1) σ12 H12 locs12 ls ?_ (by omega) hW12 hS12 (zh_sub hl [1, 0] rfl)
          refine ⟨by omega, fun a b ha hb9 hab => ?_, fun κ' i' k' hn => ?_⟩
          · rw [hs12]
            by_cases h : 10 * a + b = i
            · rw [h, zu_same]
              unfold yw0
              split <;> omega
            · rw [zu_s h]; exact hi2 a b ha hb9 (by omega)
          · rw [hs12, zu_ne (by omega)]
            exact hi3 _ _ _ hn
  refine hcut2 _ 0 σ s.heap [] ls ?_ (Nat.lt_succ_self _) hW0 hS0 (zh_sub hl [1, 0] rfl)
  exact ⟨Nat.zero_le _, fun a b _ _ h => absurd h (Nat.not_lt_zero _), fun _ _ _ _ => rfl⟩
