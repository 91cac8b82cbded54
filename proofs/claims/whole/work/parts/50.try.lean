/-! the model's tryRow -/
theorem yT_rg2 {w : Nat → Nat → Int} {t0 : Int} {Q : Nat → Int} : ∀ n, (∀ j, j < n → 0 ≤ w (Q j).toNat (Q (j + 1)).toNat ∧ w (Q j).toNat (Q (j + 1)).toNat ≤ 100000) → t0 ≤ yT w t0 Q n ∧ yT w t0 Q n ≤ t0 + 100000 * n
  | 0, _ => ⟨Int.le_refl _, by show t0 ≤ t0 + 100000 * (0 : Nat); omega⟩
  | n + 1, h => by
    have h1 := yT_rg2 (t0 := t0) n (fun j hj => h j (by omega))
    have h2 := h n (by omega)
    show t0 ≤ yT w t0 Q n + _ ∧ yT w t0 Q n + _ ≤ _
    omega

set_option maxHeartbeats 4000000 in
set_option maxRecDepth 100000 in
theorem c_X7_tryRow (l : Launch) (G : zG) (ad : zA) (A : Nat → Prop) (N0 : Nat) (σ : zS) (hM : zMm ad) (d : Nat) (hd : d < 8) (n m9 f s9 F s8 : Nat) (q : Int) (hn : σ 52 0 d = (n : Int)) (hn8 : n ≤ 8) (hFS : (q = -1 ∧ F = 99 ∧ s8 = 100 ∧ m9 = n ∧ f < 100 ∧ s9 < 100) ∨ (0 ≤ q ∧ q < 60 ∧ F = f ∧ s8 = s9 ∧ m9 = n + 2 ∧ n ≤ 6 ∧ 1 ≤ f ∧ f ≤ n ∧ f < s9 ∧ s9 ≤ n + 1)) (hP : ∀ j, j < n → 0 ≤ σ 53 0 (8 * d + j) ∧ σ 53 0 (8 * d + j) < 10) (hft : 0 ≤ q → (0 ≤ σ 65 0 q.toNat ∧ σ 65 0 q.toNat < 10) ∧ (0 ≤ σ 66 0 q.toNat ∧ σ 66 0 q.toNat < 10)) (hww : ∀ a b, a < 10 → b < 10 → 0 ≤ σ 47 0 (10 * a + b) ∧ σ 47 0 (10 * a + b) ≤ 100000) (hre : 0 ≤ σ 55 0 d ∧ σ 55 0 d ≤ 200000) : Met l yX7_tryRow wsX7_tryRow ({ frames := 1, cells := 0, slots := 0, locals := 22 }) (zP G ad A N0 σ [zr ad 30 ((0 : Nat) : Int), .int (zi ((d : Nat) : Int)), .int (zi q), .int (zi ((f : Nat) : Int)), .int (zi ((s9 : Nat) : Int))]) (zQ G ad A zri (fun r u => (m9 : Int) = r ∧ (∀ j, j < m9 → u 79 0 j = (yQ (fun j => σ 53 0 (8 * d + j)) (σ 65 0 q.toNat) (σ 66 0 q.toNat) F s8) j ∧ u 80 0 j = (yQ (fun j => σ 54 0 (8 * d + j)) q (100 + q) F s8) j ∧ u 81 0 j = (yT (fun a b => σ 47 0 (10 * a + b)) (σ 55 0 d) (yQ (fun j => σ 53 0 (8 * d + j)) (σ 65 0 q.toNat) (σ 66 0 q.toNat) F s8)) j) ∧ zfr (fun κ _ _ => κ = 79 ∨ κ = 80 ∨ κ = 81) σ u)) 0 0 A := by
  refine zz_of (cc := cX7_tryRow) (maxL := 9) (ret := (some .int)) (by decide) rfl ⟨rfl, rfl⟩ (List.forall_mem_cons.mpr ⟨zr_cat _ _ _, List.forall_mem_cons.mpr ⟨rfl, List.forall_mem_cons.mpr ⟨rfl, List.forall_mem_cons.mpr ⟨rfl, List.forall_mem_cons.mpr ⟨rfl, fun _ h => absurd h List.not_mem_nil⟩⟩⟩⟩⟩) (Nat.le_of_ble_eq_true rfl) ?_
  intro p e s m below meth c hx hb hr hml hts hown hlocks hsz hW0 hK ls hl
  have hS0 : va_S A s.heap s.heap [] := va_S.rf
  have hl : zh ls 9 [(0, zr ad 30 ((0 : Nat) : Int)), (1, .int (zi ((d : Nat) : Int))), (2, .int (zi q)), (3, .int (zi ((f : Nat) : Int))), (4, .int (zi ((s9 : Nat) : Int)))] := hl
  have hinX7 : ∀ w ∈ u_ws RX7 TX7 42, w ∈ wsX7_tryRow := by decide +kernel
  have hPr : ∀ j, j < m9 → 0 ≤ (yQ (fun j => σ 53 0 (8 * d + j)) (σ 65 0 q.toNat) (σ 66 0 q.toNat) F s8) j ∧ (yQ (fun j => σ 53 0 (8 * d + j)) (σ 65 0 q.toNat) (σ 66 0 q.toNat) F s8) j < 10 := fun j hj => by
    unfold yQ
    split
    · exact (hft (by omega)).1
    · split
      · exact (hft (by omega)).2
      · exact hP _ (by unfold yold; split <;> split <;> omega)
  refine zz_iconst hx hb dX7_tryRow_0 ?_
  refine zz_istore (lv' := [(5, .int (zi 0)), (0, zr ad 30 ((0 : Nat) : Int)), (1, .int (zi ((d : Nat) : Int))), (2, .int (zi q)), (3, .int (zi ((f : Nat) : Int))), (4, .int (zi ((s9 : Nat) : Int)))]) hx hb hl dX7_tryRow_1 (by decide) rfl (fun ls hl => ?_)
  refine zz_bipush hx hb dX7_tryRow_3 (by decide +kernel) ?_
  refine zz_iload_n hx hb hl 2 dX7_tryRow_5 rfl rfl ?_
  refine zz_imul hx hb dX7_tryRow_6 ?_
  refine zz_istore (lv' := [(6, .int (zi ((8 * d : Nat) : Int))), (5, .int (zi 0)), (0, zr ad 30 ((0 : Nat) : Int)), (1, .int (zi ((d : Nat) : Int))), (2, .int (zi q)), (3, .int (zi ((f : Nat) : Int))), (4, .int (zi ((s9 : Nat) : Int)))]) hx hb hl dX7_tryRow_7 (by decide) rfl (fun ls hl => ?_)
  have hcut9 : ∀ (n9 : Nat) (i : Nat)  (σ9 : zS) (H9 : Heap) (locs9 : List Loc) (ls : Array Slot), (i ≤ m9 ∧ (∀ j, j < i → σ9 79 0 j = (yQ (fun j => σ 53 0 (8 * d + j)) (σ 65 0 q.toNat) (σ 66 0 q.toNat) F s8) j ∧ σ9 80 0 j = (yQ (fun j => σ 54 0 (8 * d + j)) q (100 + q) F s8) j ∧ σ9 81 0 j = (yT (fun a b => σ 47 0 (10 * a + b)) (σ 55 0 d) (yQ (fun j => σ 53 0 (8 * d + j)) (σ 65 0 q.toNat) (σ 66 0 q.toNat) F s8)) j) ∧ zfr (fun κ _ _ => κ = 79 ∨ κ = 80 ∨ κ = 81) σ σ9) → (m9 - i) < n9 → ZW G ad A σ9 H9 → va_S A s.heap H9 locs9 → zh ls 9 [(0, zr ad 30 ((0 : Nat) : Int)), (1, .int (zi ((d : Nat) : Int))), (2, .int (zi q)), (3, .int (zi ((f : Nat) : Int))), (4, .int (zi ((s9 : Nat) : Int))), (5, .int (zi ((i : Nat) : Int))), (6, .int (zi ((8 * d + yold F s8 i : Nat) : Int)))] → W p l e ({ frames := 1, cells := 0, slots := 0, locals := 22 }) s m ([zr ad 30 ((0 : Nat) : Int), .int (zi ((d : Nat) : Int)), .int (zi q), .int (zi ((f : Nat) : Int)), .int (zi ((s9 : Nat) : Int))] : List Value).toArray below meth c H9 locs9 0 0 (MQ below (zQ G ad A zri (fun r u => (m9 : Int) = r ∧ (∀ j, j < m9 → u 79 0 j = (yQ (fun j => σ 53 0 (8 * d + j)) (σ 65 0 q.toNat) (σ 66 0 q.toNat) F s8) j ∧ u 80 0 j = (yQ (fun j => σ 54 0 (8 * d + j)) q (100 + q) F s8) j ∧ u 81 0 j = (yT (fun a b => σ 47 0 (10 * a + b)) (σ 55 0 d) (yQ (fun j => σ 53 0 (8 * d + j)) (σ 65 0 q.toNat) (σ 66 0 q.toNat) F s8)) j) ∧ zfr (fun κ _ _ => κ = 79 ∨ κ = 80 ∨ κ = 81) σ u)) ([zr ad 30 ((0 : Nat) : Int), .int (zi ((d : Nat) : Int)), .int (zi q), .int (zi ((f : Nat) : Int)), .int (zi ((s9 : Nat) : Int))] : List Value).toArray s 0 0 A) (F0 m 9 ls []) := by
    intro n9
    induction n9 with
    | zero =>
      intro i σ1 H1 locs1 ls hI9 hm9 hW1 hS1 hl
      exact absurd hm9 (Nat.not_lt_zero _)
    | succ n9 ih9 =>
      intro i σ1 H1 locs1 ls hI9 hm9 hW1 hS1 hl
      obtain ⟨hi1, hi2, hi3⟩ := hI9
      have hcut68 : ∀ (b7 b8 : Nat)  (H9 : Heap) (locs9 : List Loc) (ls : Array Slot), (i < m9 ∧ (b7 = 0 ∨ b7 = 1) ∧ (b7 = 1 ↔ i = F) ∧ (b8 = 0 ∨ b8 = 1) ∧ (b8 = 1 ↔ i = s8)) → ZW G ad A σ1 H9 → va_S A s.heap H9 locs9 → zh ls 9 [(0, zr ad 30 ((0 : Nat) : Int)), (1, .int (zi ((d : Nat) : Int))), (2, .int (zi q)), (3, .int (zi ((f : Nat) : Int))), (4, .int (zi ((s9 : Nat) : Int))), (5, .int (zi ((i : Nat) : Int))), (6, .int (zi ((8 * d + yold F s8 i : Nat) : Int))), (7, .int (zi ((b7 : Nat) : Int))), (8, .int (zi ((b8 : Nat) : Int)))] → W p l e ({ frames := 1, cells := 0, slots := 0, locals := 22 }) s m ([zr ad 30 ((0 : Nat) : Int), .int (zi ((d : Nat) : Int)), .int (zi q), .int (zi ((f : Nat) : Int)), .int (zi ((s9 : Nat) : Int))] : List Value).toArray below meth c H9 locs9 0 0 (MQ below (zQ G ad A zri (fun r u => (m9 : Int) = r ∧ (∀ j, j < m9 → u 79 0 j = (yQ (fun j => σ 53 0 (8 * d + j)) (σ 65 0 q.toNat) (σ 66 0 q.toNat) F s8) j ∧ u 80 0 j = (yQ (fun j => σ 54 0 (8 * d + j)) q (100 + q) F s8) j ∧ u 81 0 j = (yT (fun a b => σ 47 0 (10 * a + b)) (σ 55 0 d) (yQ (fun j => σ 53 0 (8 * d + j)) (σ 65 0 q.toNat) (σ 66 0 q.toNat) F s8)) j) ∧ zfr (fun κ _ _ => κ = 79 ∨ κ = 80 ∨ κ = 81) σ u)) ([zr ad 30 ((0 : Nat) : Int), .int (zi ((d : Nat) : Int)), .int (zi q), .int (zi ((f : Nat) : Int)), .int (zi ((s9 : Nat) : Int))] : List Value).toArray s 0 0 A) (F0 m 68 ls []) := by
        intro b7 b8 H2 locs2 ls hI68 hW2 hS2 hl
        refine zz_aload_n hx hb hl 0 dX7_tryRow_68 rfl rfl ?_
        refine zz_get (T := TX7) (N := 42) (k := 39) (κ := 30) (w := zr ad 79 ((0 : Nat) : Int)) hx hb hts hinX7 hown hK hW2 (zlN (hM 30 rfl)) rfl rfl rfl (by decide) (hts (.fieldLink RX7 108 "HailCityModel" "tryAt" "[I") (by decide +kernel)) (fun _ h9 => h9) rfl dX7_tryRow_69 ?_
        refine zz_iload hx hb hl 5 dX7_tryRow_72 rfl ?_
        refine zz_iload hx hb hl 7 dX7_tryRow_74 rfl ?_
        refine zz_if_eq (tgt := 88) hx hb dX7_tryRow_76 (by decide) ⟨by omega, by omega⟩ (fun hc76 => ?_) (fun hc76 => ?_)
        · refine zz_iload hx hb hl 8 dX7_tryRow_88 rfl ?_
          refine zz_if_eq (tgt := 102) hx hb dX7_tryRow_90 (by decide) ⟨by omega, by omega⟩ (fun hc90 => ?_) (fun hc90 => ?_)
          · have hyo9 : yold F s8 i < n := by unfold yold; split <;> split <;> omega
            have hPi : (yQ (fun j => σ 53 0 (8 * d + j)) (σ 65 0 q.toNat) (σ 66 0 q.toNat) F s8) i = σ 53 0 (8 * d + yold F s8 i) := by unfold yQ; rw [if_neg (by omega), if_neg (by omega)]
            have hWi : (yQ (fun j => σ 54 0 (8 * d + j)) q (100 + q) F s8) i = σ 54 0 (8 * d + yold F s8 i) := by unfold yQ; rw [if_neg (by omega), if_neg (by omega)]
            refine zz_aload_n hx hb hl 0 dX7_tryRow_102 rfl rfl ?_
            refine zz_get (T := TX7) (N := 42) (k := 13) (κ := 30) (w := zr ad 53 ((0 : Nat) : Int)) hx hb hts hinX7 hown hK hW2 (zlN (hM 30 rfl)) rfl rfl rfl (by decide) (hts (.fieldLink RX7 39 "HailCityModel" "stopAt" "[I") (by decide +kernel)) (fun _ h9 => h9) rfl dX7_tryRow_103 ?_
            refine zz_iload hx hb hl 6 dX7_tryRow_106 rfl ?_
            refine zz_iald (w := σ 53 0 (8 * d + yold F s8 i)) hx hb hK hW2 (zlN (hM 53 rfl)) rfl rfl rfl (by show (0 : Int) ≤ ((8 * d + yold F s8 i : Nat) : Int); omega) (by show ((8 * d + yold F s8 i : Nat) : Int) < (64 : Int); omega) (show σ1 53 0 (8 * d + yold F s8 i) = σ 53 0 (8 * d + yold F s8 i) from by rw [hi3 53 0 (8 * d + yold F s8 i) (by omega)]) dX7_tryRow_108 ?_
            refine zz_iast (y := (σ 53 0 (8 * d + yold F s8 i))) hx hb hK hW2 hS2 (zlN (hM 79 rfl)) rfl rfl rfl (by show (0 : Int) ≤ ((i : Nat) : Int); omega) (by show ((i : Nat) : Int) < (10 : Int); omega) (hW0.2.2.1 _ _ _) dX7_tryRow_109 (fun H3 locs3 hW3' hS3 => ?_)
            obtain ⟨σ3, hs3⟩ : ∃ z, z = zu σ1 79 0 i (σ 53 0 (8 * d + yold F s8 i)) := ⟨_, rfl⟩
            have hW3 : ZW G ad A σ3 H3 := by rw [hs3]; exact hW3'
            refine zz_aload_n hx hb hl 0 dX7_tryRow_110 rfl rfl ?_
            refine zz_get (T := TX7) (N := 42) (k := 40) (κ := 30) (w := zr ad 80 ((0 : Nat) : Int)) hx hb hts hinX7 hown hK hW3 (zlN (hM 30 rfl)) rfl rfl rfl (by decide) (hts (.fieldLink RX7 111 "HailCityModel" "tryWhom" "[I") (by decide +kernel)) (fun _ h9 => h9) rfl dX7_tryRow_111 ?_
            refine zz_iload hx hb hl 5 dX7_tryRow_114 rfl ?_
            refine zz_iload hx hb hl 7 dX7_tryRow_116 rfl ?_
            refine zz_if_eq (tgt := 125) hx hb dX7_tryRow_118 (by decide) ⟨by omega, by omega⟩ (fun hc118 => ?_) (fun hc118 => ?_)
            · refine zz_iload hx hb hl 8 dX7_tryRow_125 rfl ?_
              refine zz_if_eq (tgt := 137) hx hb dX7_tryRow_127 (by decide) ⟨by omega, by omega⟩ (fun hc127 => ?_) (fun hc127 => ?_)
              · refine zz_aload_n hx hb hl 0 dX7_tryRow_137 rfl rfl ?_
                refine zz_get (T := TX7) (N := 42) (k := 14) (κ := 30) (w := zr ad 54 ((0 : Nat) : Int)) hx hb hts hinX7 hown hK hW3 (zlN (hM 30 rfl)) rfl rfl rfl (by decide) (hts (.fieldLink RX7 42 "HailCityModel" "stopWhom" "[I") (by decide +kernel)) (fun _ h9 => h9) rfl dX7_tryRow_138 ?_
                refine zz_iload hx hb hl 6 dX7_tryRow_141 rfl ?_
                refine zz_iald (w := σ 54 0 (8 * d + yold F s8 i)) hx hb hK hW3 (zlN (hM 54 rfl)) rfl rfl rfl (by show (0 : Int) ≤ ((8 * d + yold F s8 i : Nat) : Int); omega) (by show ((8 * d + yold F s8 i : Nat) : Int) < (64 : Int); omega) (show σ3 54 0 (8 * d + yold F s8 i) = σ 54 0 (8 * d + yold F s8 i) from by rw [hs3, zu_k (by decide), hi3 54 0 (8 * d + yold F s8 i) (by omega)]) dX7_tryRow_143 ?_
                refine zz_iast (y := (σ 54 0 (8 * d + yold F s8 i))) hx hb hK hW3 hS3 (zlN (hM 80 rfl)) rfl rfl rfl (by show (0 : Int) ≤ ((i : Nat) : Int); omega) (by show ((i : Nat) : Int) < (10 : Int); omega) (hW0.2.2.1 _ _ _) dX7_tryRow_144 (fun H4 locs4 hW4' hS4 => ?_)
                obtain ⟨σ4, hs4⟩ : ∃ z, z = zu σ3 80 0 i (σ 54 0 (8 * d + yold F s8 i)) := ⟨_, rfl⟩
                have hW4 : ZW G ad A σ4 H4 := by rw [hs4]; exact hW4'
                refine zz_aload_n hx hb hl 0 dX7_tryRow_145 rfl rfl ?_
                refine zz_get (T := TX7) (N := 42) (k := 41) (κ := 30) (w := zr ad 81 ((0 : Nat) : Int)) hx hb hts hinX7 hown hK hW4 (zlN (hM 30 rfl)) rfl rfl rfl (by decide) (hts (.fieldLink RX7 114 "HailCityModel" "tryTime" "[I") (by decide +kernel)) (fun _ h9 => h9) rfl dX7_tryRow_146 ?_
                refine zz_iload hx hb hl 5 dX7_tryRow_149 rfl ?_
                refine zz_iload hx hb hl 5 dX7_tryRow_151 rfl ?_
                refine zz_if_ne (tgt := 165) hx hb dX7_tryRow_153 (by decide) ⟨by omega, by omega⟩ (fun hc153 => ?_) (fun hc153 => ?_)
                · have hp1 := hPr (i - 1) (by omega)
                  have hp2 := hPr i (by omega)
                  have hwi := hww ((yQ (fun j => σ 53 0 (8 * d + j)) (σ 65 0 q.toNat) (σ 66 0 q.toNat) F s8) (i - 1)).toNat ((yQ (fun j => σ 53 0 (8 * d + j)) (σ 65 0 q.toNat) (σ 66 0 q.toNat) F s8) i).toNat (by omega) (by omega)
                  have hTi : (yT (fun a b => σ 47 0 (10 * a + b)) (σ 55 0 d) (yQ (fun j => σ 53 0 (8 * d + j)) (σ 65 0 q.toNat) (σ 66 0 q.toNat) F s8)) i = (yT (fun a b => σ 47 0 (10 * a + b)) (σ 55 0 d) (yQ (fun j => σ 53 0 (8 * d + j)) (σ 65 0 q.toNat) (σ 66 0 q.toNat) F s8)) (i - 1) + σ 47 0 (10 * ((yQ (fun j => σ 53 0 (8 * d + j)) (σ 65 0 q.toNat) (σ 66 0 q.toNat) F s8) (i - 1)).toNat + ((yQ (fun j => σ 53 0 (8 * d + j)) (σ 65 0 q.toNat) (σ 66 0 q.toNat) F s8) i).toNat) := by
                    obtain ⟨i0, rfl⟩ : ∃ i0, i = i0 + 1 := ⟨i - 1, by omega⟩
                    rfl
                  have hTr := yT_rg2 (w := fun a b => σ 47 0 (10 * a + b)) (t0 := σ 55 0 d) (Q := (yQ (fun j => σ 53 0 (8 * d + j)) (σ 65 0 q.toNat) (σ 66 0 q.toNat) F s8)) (i - 1) (fun j hj => by
                    have g1 := hPr j (by omega)
                    have g2 := hPr (j + 1) (by omega)
                    exact hww _ _ (by omega) (by omega))
                  refine zz_aload_n hx hb hl 0 dX7_tryRow_165 rfl rfl ?_
                  refine zz_get (T := TX7) (N := 42) (k := 41) (κ := 30) (w := zr ad 81 ((0 : Nat) : Int)) hx hb hts hinX7 hown hK hW4 (zlN (hM 30 rfl)) rfl rfl rfl (by decide) (hts (.fieldLink RX7 114 "HailCityModel" "tryTime" "[I") (by decide +kernel)) (fun _ h9 => h9) rfl dX7_tryRow_166 ?_
                  refine zz_iload hx hb hl 5 dX7_tryRow_169 rfl ?_
                  refine zz_iconst hx hb dX7_tryRow_171 ?_
                  refine zz_isub hx hb dX7_tryRow_172 ?_
                  refine zz_iald (w := (yT (fun a b => σ 47 0 (10 * a + b)) (σ 55 0 d) (yQ (fun j => σ 53 0 (8 * d + j)) (σ 65 0 q.toNat) (σ 66 0 q.toNat) F s8)) (i - 1)) hx hb hK hW4 (zlN (hM 81 rfl)) rfl rfl rfl (by show (0 : Int) ≤ ((i : Nat) : Int) - 1; omega) (by show (((i : Nat) : Int) - 1) < (10 : Int); omega) (show σ4 81 0 ((((i : Nat) : Int) - 1).toNat) = (yT (fun a b => σ 47 0 (10 * a + b)) (σ 55 0 d) (yQ (fun j => σ 53 0 (8 * d + j)) (σ 65 0 q.toNat) (σ 66 0 q.toNat) F s8)) (i - 1) from by rw [show (((i : Nat) : Int) - 1).toNat = i - 1 from by omega, hs4, zu_k (by decide), hs3, zu_k (by decide)]; exact (hi2 (i - 1) (by omega)).2.2) dX7_tryRow_173 ?_
                  refine zz_aload_n hx hb hl 0 dX7_tryRow_174 rfl rfl ?_
                  refine zz_aload_n hx hb hl 0 dX7_tryRow_175 rfl rfl ?_
                  refine zz_get (T := TX7) (N := 42) (k := 39) (κ := 30) (w := zr ad 79 ((0 : Nat) : Int)) hx hb hts hinX7 hown hK hW4 (zlN (hM 30 rfl)) rfl rfl rfl (by decide) (hts (.fieldLink RX7 108 "HailCityModel" "tryAt" "[I") (by decide +kernel)) (fun _ h9 => h9) rfl dX7_tryRow_176 ?_
                  refine zz_iload hx hb hl 5 dX7_tryRow_179 rfl ?_
                  refine zz_iconst hx hb dX7_tryRow_181 ?_
                  refine zz_isub hx hb dX7_tryRow_182 ?_
                  refine zz_iald (w := ((((yQ (fun j => σ 53 0 (8 * d + j)) (σ 65 0 q.toNat) (σ 66 0 q.toNat) F s8) (i - 1)).toNat : Nat) : Int)) hx hb hK hW4 (zlN (hM 79 rfl)) rfl rfl rfl (by show (0 : Int) ≤ ((i : Nat) : Int) - 1; omega) (by show (((i : Nat) : Int) - 1) < (10 : Int); omega) (show σ4 79 0 ((((i : Nat) : Int) - 1).toNat) = ((((yQ (fun j => σ 53 0 (8 * d + j)) (σ 65 0 q.toNat) (σ 66 0 q.toNat) F s8) (i - 1)).toNat : Nat) : Int) from by rw [show (((i : Nat) : Int) - 1).toNat = i - 1 from by omega, hs4, zu_k (by decide), hs3, zu_s (by omega), (hi2 (i - 1) (by omega)).1]; omega) dX7_tryRow_183 ?_
                  refine zz_aload_n hx hb hl 0 dX7_tryRow_184 rfl rfl ?_
                  refine zz_get (T := TX7) (N := 42) (k := 39) (κ := 30) (w := zr ad 79 ((0 : Nat) : Int)) hx hb hts hinX7 hown hK hW4 (zlN (hM 30 rfl)) rfl rfl rfl (by decide) (hts (.fieldLink RX7 108 "HailCityModel" "tryAt" "[I") (by decide +kernel)) (fun _ h9 => h9) rfl dX7_tryRow_185 ?_
                  refine zz_iload hx hb hl 5 dX7_tryRow_188 rfl ?_
                  refine zz_iald (w := ((((yQ (fun j => σ 53 0 (8 * d + j)) (σ 65 0 q.toNat) (σ 66 0 q.toNat) F s8) i).toNat : Nat) : Int)) hx hb hK hW4 (zlN (hM 79 rfl)) rfl rfl rfl (by show (0 : Int) ≤ ((i : Nat) : Int); omega) (by show ((i : Nat) : Int) < (10 : Int); omega) (show σ4 79 0 i = ((((yQ (fun j => σ 53 0 (8 * d + j)) (σ 65 0 q.toNat) (σ 66 0 q.toNat) F s8) i).toNat : Nat) : Int) from by rw [hs4, zu_k (by decide), hs3, zu_same]; omega) dX7_tryRow_190 ?_
                  refine zz_callV (T := TX7) (N := 42) (As := [.int (zi ((((yQ (fun j => σ 53 0 (8 * d + j)) (σ 65 0 q.toNat) (σ 66 0 q.toNat) F s8) (i - 1)).toNat : Nat) : Int)), .int (zi ((((yQ (fun j => σ 53 0 (8 * d + j)) (σ 65 0 q.toNat) (σ 66 0 q.toNat) F s8) i).toNat : Nat) : Int))]) (rest := [.int (zi ((yT (fun a b => σ 47 0 (10 * a + b)) (σ 55 0 d) (yQ (fun j => σ 53 0 (8 * d + j)) (σ 65 0 q.toNat) (σ 66 0 q.toNat) F s8)) (i - 1))), .int (zi ((i : Nat) : Int)), zr ad 81 ((0 : Nat) : Int)]) (v := ((0 : Nat) : Int)) (κ := 30) ⟨hx, hb, hml, hown, hts⟩ (c_X7_wayOf l G ad A N0 σ4 hM ((yQ (fun j => σ 53 0 (8 * d + j)) (σ 65 0 q.toNat) (σ 66 0 q.toNat) F s8) (i - 1)).toNat ((yQ (fun j => σ 53 0 (8 * d + j)) (σ 65 0 q.toNat) (σ 66 0 q.toNat) F s8) i).toNat (by omega) (by omega)) (cwV 2 hts gX7_tryRow_X7_wayOf rfl rfl rfl (by decide +kernel) ⟨Nat.le_of_ble_eq_true rfl, Nat.le_of_ble_eq_true rfl⟩) hK hW4 (zlN (hM 30 rfl)) rfl rfl (Nat.le_trans hsz hS4.1) hS4 rfl hl.1.1 rfl (by simp [zr_cat, zcat_i]) dX7_tryRow_191 ⟨Nat.le_of_ble_eq_true rfl, Nat.le_of_ble_eq_true rfl⟩ (fun x5 σ5 H5 locs5 hp5 hW5 hz5 hS5 => ?_)
                  obtain ⟨rfl, hx9⟩ := hp5
                  rw [hs4, zu_ne (by omega), hs3, zu_ne (by omega), hi3 47 _ _ (by omega)] at hx9
                  obtain rfl := hx9
                  refine W.eq (g2 := F0 m 194 ls [.int (zi (σ 47 0 (10 * ((yQ (fun j => σ 53 0 (8 * d + j)) (σ 65 0 q.toNat) (σ 66 0 q.toNat) F s8) (i - 1)).toNat + ((yQ (fun j => σ 53 0 (8 * d + j)) (σ 65 0 q.toNat) (σ 66 0 q.toNat) F s8) i).toNat))), .int (zi ((yT (fun a b => σ 47 0 (10 * a + b)) (σ 55 0 d) (yQ (fun j => σ 53 0 (8 * d + j)) (σ 65 0 q.toNat) (σ 66 0 q.toNat) F s8)) (i - 1))), .int (zi ((i : Nat) : Int)), zr ad 81 ((0 : Nat) : Int)]) rfl ?_
                  refine zz_iadd hx hb dX7_tryRow_194 ?_
                  refine zz_iast (y := (((yT (fun a b => σ 47 0 (10 * a + b)) (σ 55 0 d) (yQ (fun j => σ 53 0 (8 * d + j)) (σ 65 0 q.toNat) (σ 66 0 q.toNat) F s8)) (i - 1)) + (σ 47 0 (10 * ((yQ (fun j => σ 53 0 (8 * d + j)) (σ 65 0 q.toNat) (σ 66 0 q.toNat) F s8) (i - 1)).toNat + ((yQ (fun j => σ 53 0 (8 * d + j)) (σ 65 0 q.toNat) (σ 66 0 q.toNat) F s8) i).toNat)))) hx hb hK hW5 hS5 (zlN (hM 81 rfl)) rfl rfl rfl (by show (0 : Int) ≤ ((i : Nat) : Int); omega) (by show ((i : Nat) : Int) < (10 : Int); omega) ⟨by omega, by omega⟩ dX7_tryRow_195 (fun H6 locs6 hW6' hS6 => ?_)
                  obtain ⟨σ6, hs6⟩ : ∃ z, z = zu σ4 81 0 i (((yT (fun a b => σ 47 0 (10 * a + b)) (σ 55 0 d) (yQ (fun j => σ 53 0 (8 * d + j)) (σ 65 0 q.toNat) (σ 66 0 q.toNat) F s8)) (i - 1)) + (σ 47 0 (10 * ((yQ (fun j => σ 53 0 (8 * d + j)) (σ 65 0 q.toNat) (σ 66 0 q.toNat) F s8) (i - 1)).toNat + ((yQ (fun j => σ 53 0 (8 * d + j)) (σ 65 0 q.toNat) (σ 66 0 q.toNat) F s8) i).toNat))) := ⟨_, rfl⟩
                  have hW6 : ZW G ad A σ6 H6 := by rw [hs6]; exact hW6'
                  refine zz_iload hx hb hl 6 dX7_tryRow_196 rfl ?_
                  refine zz_iload hx hb hl 7 dX7_tryRow_198 rfl ?_
                  refine zz_if_ne (tgt := 208) hx hb dX7_tryRow_200 (by decide) ⟨by omega, by omega⟩ (fun hc200 => ?_) (fun hc200 => ?_)
                  · exfalso; omega
                  · refine zz_iload hx hb hl 8 dX7_tryRow_203 rfl ?_
                    refine zz_if_eq (tgt := 212) hx hb dX7_tryRow_205 (by decide) ⟨by omega, by omega⟩ (fun hc205 => ?_) (fun hc205 => ?_)
                    · refine zz_iconst hx hb dX7_tryRow_212 ?_
                      refine zz_iadd hx hb dX7_tryRow_213 ?_
                      refine zz_istore (lv' := [(6, .int (zi (((8 * d + yold F s8 i) + 1 : Nat) : Int))), (0, zr ad 30 ((0 : Nat) : Int)), (1, .int (zi ((d : Nat) : Int))), (2, .int (zi q)), (3, .int (zi ((f : Nat) : Int))), (4, .int (zi ((s9 : Nat) : Int))), (5, .int (zi ((i : Nat) : Int))), (7, .int (zi ((b7 : Nat) : Int))), (8, .int (zi ((b8 : Nat) : Int)))]) hx hb hl dX7_tryRow_214 (by decide) rfl (fun ls hl => ?_)
                      refine zz_iinc (lv' := [(5, .int (zi ((i + 1 : Nat) : Int))), (6, .int (zi (((8 * d + yold F s8 i) + 1 : Nat) : Int))), (0, zr ad 30 ((0 : Nat) : Int)), (1, .int (zi ((d : Nat) : Int))), (2, .int (zi q)), (3, .int (zi ((f : Nat) : Int))), (4, .int (zi ((s9 : Nat) : Int))), (7, .int (zi ((b7 : Nat) : Int))), (8, .int (zi ((b8 : Nat) : Int)))]) hx hb hl dX7_tryRow_216 (k0 := 6) rfl (by decide) rfl (fun ls hl => ?_)
                      refine zz_goto (tgt := 9) hx hb dX7_tryRow_219 (by decide) ?_
                      refine ih9 (i + 1) σ6 H6 locs6 ls ?_ (by omega) hW6 hS6 (zh_sub hl [2, 3, 4, 5, 6, 0, 1] (by rw [show yold F s8 (i + 1) = yold F s8 i + 1 from by unfold yold; split <;> split <;> split <;> split <;> omega]; rfl))
                      refine ⟨by omega, fun j hj => ?_, fun κ' i' k' hz => ?_⟩
                      · by_cases hji : j = i
                        · subst hji
                          refine ⟨?_, ?_, ?_⟩
                          · rw [hs6, zu_k (by decide), hs4, zu_k (by decide), hs3, zu_same]
                            exact hPi.symm
                          · rw [hs6, zu_k (by decide), hs4, zu_same]
                            exact hWi.symm
                          · rw [hs6, zu_same]
                            exact hTi.symm
                        · have h9 := hi2 j (by omega)
                          refine ⟨?_, ?_, ?_⟩
                          · rw [hs6, zu_ne (by omega), hs4, zu_ne (by omega), hs3, zu_ne (by omega)]; exact h9.1
                          · rw [hs6, zu_ne (by omega), hs4, zu_ne (by omega), hs3, zu_ne (by omega)]; exact h9.2.1
                          · rw [hs6, zu_ne (by omega), hs4, zu_ne (by omega), hs3, zu_ne (by omega)]; exact h9.2.2
                      · rw [hs6, zu_ne (by omega), hs4, zu_ne (by omega), hs3, zu_ne (by omega)]
                        exact hi3 _ _ _ hz
                    · exfalso; omega
                · have hTi : (yT (fun a b => σ 47 0 (10 * a + b)) (σ 55 0 d) (yQ (fun j => σ 53 0 (8 * d + j)) (σ 65 0 q.toNat) (σ 66 0 q.toNat) F s8)) i = σ 55 0 d := by rw [show i = 0 by omega]; rfl
                  refine zz_aload_n hx hb hl 0 dX7_tryRow_156 rfl rfl ?_
                  refine zz_get (T := TX7) (N := 42) (k := 15) (κ := 30) (w := zr ad 55 ((0 : Nat) : Int)) hx hb hts hinX7 hown hK hW4 (zlN (hM 30 rfl)) rfl rfl rfl (by decide) (hts (.fieldLink RX7 45 "HailCityModel" "reached" "[I") (by decide +kernel)) (fun _ h9 => h9) rfl dX7_tryRow_157 ?_
                  refine zz_iload_n hx hb hl 1 dX7_tryRow_160 rfl rfl ?_
                  refine zz_iald (w := σ 55 0 d) hx hb hK hW4 (zlN (hM 55 rfl)) rfl rfl rfl (by show (0 : Int) ≤ ((d : Nat) : Int); omega) (by show ((d : Nat) : Int) < (8 : Int); omega) (show σ4 55 0 d = σ 55 0 d from by rw [hs4, zu_k (by decide), hs3, zu_k (by decide), hi3 55 0 d (by omega)]) dX7_tryRow_161 ?_
                  refine zz_goto (tgt := 195) hx hb dX7_tryRow_162 (by decide) ?_
                  refine zz_iast (y := (σ 55 0 d)) hx hb hK hW4 hS4 (zlN (hM 81 rfl)) rfl rfl rfl (by show (0 : Int) ≤ ((i : Nat) : Int); omega) (by show ((i : Nat) : Int) < (10 : Int); omega) (hW0.2.2.1 _ _ _) dX7_tryRow_195 (fun H7 locs7 hW7' hS7 => ?_)
                  obtain ⟨σ7, hs7⟩ : ∃ z, z = zu σ4 81 0 i (σ 55 0 d) := ⟨_, rfl⟩
                  have hW7 : ZW G ad A σ7 H7 := by rw [hs7]; exact hW7'
                  refine zz_iload hx hb hl 6 dX7_tryRow_196 rfl ?_
                  refine zz_iload hx hb hl 7 dX7_tryRow_198 rfl ?_
                  refine zz_if_ne (tgt := 208) hx hb dX7_tryRow_200 (by decide) ⟨by omega, by omega⟩ (fun hc200 => ?_) (fun hc200 => ?_)
                  · exfalso; omega
                  · refine zz_iload hx hb hl 8 dX7_tryRow_203 rfl ?_
                    refine zz_if_eq (tgt := 212) hx hb dX7_tryRow_205 (by decide) ⟨by omega, by omega⟩ (fun hc205 => ?_) (fun hc205 => ?_)
                    · refine zz_iconst hx hb dX7_tryRow_212 ?_
                      refine zz_iadd hx hb dX7_tryRow_213 ?_
                      refine zz_istore (lv' := [(6, .int (zi (((8 * d + yold F s8 i) + 1 : Nat) : Int))), (0, zr ad 30 ((0 : Nat) : Int)), (1, .int (zi ((d : Nat) : Int))), (2, .int (zi q)), (3, .int (zi ((f : Nat) : Int))), (4, .int (zi ((s9 : Nat) : Int))), (5, .int (zi ((i : Nat) : Int))), (7, .int (zi ((b7 : Nat) : Int))), (8, .int (zi ((b8 : Nat) : Int)))]) hx hb hl dX7_tryRow_214 (by decide) rfl (fun ls hl => ?_)
                      refine zz_iinc (lv' := [(5, .int (zi ((i + 1 : Nat) : Int))), (6, .int (zi (((8 * d + yold F s8 i) + 1 : Nat) : Int))), (0, zr ad 30 ((0 : Nat) : Int)), (1, .int (zi ((d : Nat) : Int))), (2, .int (zi q)), (3, .int (zi ((f : Nat) : Int))), (4, .int (zi ((s9 : Nat) : Int))), (7, .int (zi ((b7 : Nat) : Int))), (8, .int (zi ((b8 : Nat) : Int)))]) hx hb hl dX7_tryRow_216 (k0 := 6) rfl (by decide) rfl (fun ls hl => ?_)
                      refine zz_goto (tgt := 9) hx hb dX7_tryRow_219 (by decide) ?_
                      refine ih9 (i + 1) σ7 H7 locs7 ls ?_ (by omega) hW7 hS7 (zh_sub hl [2, 3, 4, 5, 6, 0, 1] (by rw [show yold F s8 (i + 1) = yold F s8 i + 1 from by unfold yold; split <;> split <;> split <;> split <;> omega]; rfl))
                      refine ⟨by omega, fun j hj => ?_, fun κ' i' k' hz => ?_⟩
                      · by_cases hji : j = i
                        · subst hji
                          refine ⟨?_, ?_, ?_⟩
                          · rw [hs7, zu_k (by decide), hs4, zu_k (by decide), hs3, zu_same]
                            exact hPi.symm
                          · rw [hs7, zu_k (by decide), hs4, zu_same]
                            exact hWi.symm
                          · rw [hs7, zu_same]
                            exact hTi.symm
                        · have h9 := hi2 j (by omega)
                          refine ⟨?_, ?_, ?_⟩
                          · rw [hs7, zu_ne (by omega), hs4, zu_ne (by omega), hs3, zu_ne (by omega)]; exact h9.1
                          · rw [hs7, zu_ne (by omega), hs4, zu_ne (by omega), hs3, zu_ne (by omega)]; exact h9.2.1
                          · rw [hs7, zu_ne (by omega), hs4, zu_ne (by omega), hs3, zu_ne (by omega)]; exact h9.2.2
                      · rw [hs7, zu_ne (by omega), hs4, zu_ne (by omega), hs3, zu_ne (by omega)]
                        exact hi3 _ _ _ hz
                    · exfalso; omega
              · exfalso; omega
            · exfalso; omega
          · have hPi : (yQ (fun j => σ 53 0 (8 * d + j)) (σ 65 0 q.toNat) (σ 66 0 q.toNat) F s8) i = σ 66 0 (q).toNat := by unfold yQ; rw [if_neg (by omega), if_pos (by omega)]
            have hWi : (yQ (fun j => σ 54 0 (8 * d + j)) q (100 + q) F s8) i = 100 + q := by unfold yQ; rw [if_neg (by omega), if_pos (by omega)]
            refine zz_aload_n hx hb hl 0 dX7_tryRow_93 rfl rfl ?_
            refine zz_get (T := TX7) (N := 42) (k := 26) (κ := 30) (w := zr ad 66 ((0 : Nat) : Int)) hx hb hts hinX7 hown hK hW2 (zlN (hM 30 rfl)) rfl rfl rfl (by decide) (hts (.fieldLink RX7 72 "HailCityModel" "to" "[I") (by decide +kernel)) (fun _ h9 => h9) rfl dX7_tryRow_94 ?_
            refine zz_iload_n hx hb hl 2 dX7_tryRow_97 rfl rfl ?_
            refine zz_iald (w := σ 66 0 ((q).toNat)) hx hb hK hW2 (zlN (hM 66 rfl)) rfl rfl rfl (by show (0 : Int) ≤ q; omega) (by show q < (60 : Int); omega) (show σ1 66 0 ((q).toNat) = σ 66 0 ((q).toNat) from by rw [hi3 66 0 ((q).toNat) (by omega)]) dX7_tryRow_98 ?_
            refine zz_goto (tgt := 109) hx hb dX7_tryRow_99 (by decide) ?_
            refine zz_iast (y := (σ 66 0 ((q).toNat))) hx hb hK hW2 hS2 (zlN (hM 79 rfl)) rfl rfl rfl (by show (0 : Int) ≤ ((i : Nat) : Int); omega) (by show ((i : Nat) : Int) < (10 : Int); omega) (hW0.2.2.1 _ _ _) dX7_tryRow_109 (fun H8 locs8 hW8' hS8 => ?_)
            obtain ⟨σ8, hs8⟩ : ∃ z, z = zu σ1 79 0 i (σ 66 0 ((q).toNat)) := ⟨_, rfl⟩
            have hW8 : ZW G ad A σ8 H8 := by rw [hs8]; exact hW8'
            refine zz_aload_n hx hb hl 0 dX7_tryRow_110 rfl rfl ?_
            refine zz_get (T := TX7) (N := 42) (k := 40) (κ := 30) (w := zr ad 80 ((0 : Nat) : Int)) hx hb hts hinX7 hown hK hW8 (zlN (hM 30 rfl)) rfl rfl rfl (by decide) (hts (.fieldLink RX7 111 "HailCityModel" "tryWhom" "[I") (by decide +kernel)) (fun _ h9 => h9) rfl dX7_tryRow_111 ?_
            refine zz_iload hx hb hl 5 dX7_tryRow_114 rfl ?_
            refine zz_iload hx hb hl 7 dX7_tryRow_116 rfl ?_
            refine zz_if_eq (tgt := 125) hx hb dX7_tryRow_118 (by decide) ⟨by omega, by omega⟩ (fun hc118 => ?_) (fun hc118 => ?_)
            · refine zz_iload hx hb hl 8 dX7_tryRow_125 rfl ?_
              refine zz_if_eq (tgt := 137) hx hb dX7_tryRow_127 (by decide) ⟨by omega, by omega⟩ (fun hc127 => ?_) (fun hc127 => ?_)
              · exfalso; omega
              · refine zz_bipush hx hb dX7_tryRow_130 (by decide +kernel) ?_
                refine zz_iload_n hx hb hl 2 dX7_tryRow_132 rfl rfl ?_
                refine zz_iadd hx hb dX7_tryRow_133 ?_
                refine zz_goto (tgt := 144) hx hb dX7_tryRow_134 (by decide) ?_
                refine zz_iast (y := (100 + q)) hx hb hK hW8 hS8 (zlN (hM 80 rfl)) rfl rfl rfl (by show (0 : Int) ≤ ((i : Nat) : Int); omega) (by show ((i : Nat) : Int) < (10 : Int); omega) ⟨by omega, by omega⟩ dX7_tryRow_144 (fun H9 locs9 hW9' hS9 => ?_)
                obtain ⟨σ9, hs9⟩ : ∃ z, z = zu σ8 80 0 i (100 + q) := ⟨_, rfl⟩
                have hW9 : ZW G ad A σ9 H9 := by rw [hs9]; exact hW9'
                refine zz_aload_n hx hb hl 0 dX7_tryRow_145 rfl rfl ?_
                refine zz_get (T := TX7) (N := 42) (k := 41) (κ := 30) (w := zr ad 81 ((0 : Nat) : Int)) hx hb hts hinX7 hown hK hW9 (zlN (hM 30 rfl)) rfl rfl rfl (by decide) (hts (.fieldLink RX7 114 "HailCityModel" "tryTime" "[I") (by decide +kernel)) (fun _ h9 => h9) rfl dX7_tryRow_146 ?_
                refine zz_iload hx hb hl 5 dX7_tryRow_149 rfl ?_
                refine zz_iload hx hb hl 5 dX7_tryRow_151 rfl ?_
                refine zz_if_ne (tgt := 165) hx hb dX7_tryRow_153 (by decide) ⟨by omega, by omega⟩ (fun hc153 => ?_) (fun hc153 => ?_)
                · have hp1 := hPr (i - 1) (by omega)
                  have hp2 := hPr i (by omega)
                  have hwi := hww ((yQ (fun j => σ 53 0 (8 * d + j)) (σ 65 0 q.toNat) (σ 66 0 q.toNat) F s8) (i - 1)).toNat ((yQ (fun j => σ 53 0 (8 * d + j)) (σ 65 0 q.toNat) (σ 66 0 q.toNat) F s8) i).toNat (by omega) (by omega)
                  have hTi : (yT (fun a b => σ 47 0 (10 * a + b)) (σ 55 0 d) (yQ (fun j => σ 53 0 (8 * d + j)) (σ 65 0 q.toNat) (σ 66 0 q.toNat) F s8)) i = (yT (fun a b => σ 47 0 (10 * a + b)) (σ 55 0 d) (yQ (fun j => σ 53 0 (8 * d + j)) (σ 65 0 q.toNat) (σ 66 0 q.toNat) F s8)) (i - 1) + σ 47 0 (10 * ((yQ (fun j => σ 53 0 (8 * d + j)) (σ 65 0 q.toNat) (σ 66 0 q.toNat) F s8) (i - 1)).toNat + ((yQ (fun j => σ 53 0 (8 * d + j)) (σ 65 0 q.toNat) (σ 66 0 q.toNat) F s8) i).toNat) := by
                    obtain ⟨i0, rfl⟩ : ∃ i0, i = i0 + 1 := ⟨i - 1, by omega⟩
                    rfl
                  have hTr := yT_rg2 (w := fun a b => σ 47 0 (10 * a + b)) (t0 := σ 55 0 d) (Q := (yQ (fun j => σ 53 0 (8 * d + j)) (σ 65 0 q.toNat) (σ 66 0 q.toNat) F s8)) (i - 1) (fun j hj => by
                    have g1 := hPr j (by omega)
                    have g2 := hPr (j + 1) (by omega)
                    exact hww _ _ (by omega) (by omega))
                  refine zz_aload_n hx hb hl 0 dX7_tryRow_165 rfl rfl ?_
                  refine zz_get (T := TX7) (N := 42) (k := 41) (κ := 30) (w := zr ad 81 ((0 : Nat) : Int)) hx hb hts hinX7 hown hK hW9 (zlN (hM 30 rfl)) rfl rfl rfl (by decide) (hts (.fieldLink RX7 114 "HailCityModel" "tryTime" "[I") (by decide +kernel)) (fun _ h9 => h9) rfl dX7_tryRow_166 ?_
                  refine zz_iload hx hb hl 5 dX7_tryRow_169 rfl ?_
                  refine zz_iconst hx hb dX7_tryRow_171 ?_
                  refine zz_isub hx hb dX7_tryRow_172 ?_
                  refine zz_iald (w := (yT (fun a b => σ 47 0 (10 * a + b)) (σ 55 0 d) (yQ (fun j => σ 53 0 (8 * d + j)) (σ 65 0 q.toNat) (σ 66 0 q.toNat) F s8)) (i - 1)) hx hb hK hW9 (zlN (hM 81 rfl)) rfl rfl rfl (by show (0 : Int) ≤ ((i : Nat) : Int) - 1; omega) (by show (((i : Nat) : Int) - 1) < (10 : Int); omega) (show σ9 81 0 ((((i : Nat) : Int) - 1).toNat) = (yT (fun a b => σ 47 0 (10 * a + b)) (σ 55 0 d) (yQ (fun j => σ 53 0 (8 * d + j)) (σ 65 0 q.toNat) (σ 66 0 q.toNat) F s8)) (i - 1) from by rw [show (((i : Nat) : Int) - 1).toNat = i - 1 from by omega, hs9, zu_k (by decide), hs8, zu_k (by decide)]; exact (hi2 (i - 1) (by omega)).2.2) dX7_tryRow_173 ?_
                  refine zz_aload_n hx hb hl 0 dX7_tryRow_174 rfl rfl ?_
                  refine zz_aload_n hx hb hl 0 dX7_tryRow_175 rfl rfl ?_
                  refine zz_get (T := TX7) (N := 42) (k := 39) (κ := 30) (w := zr ad 79 ((0 : Nat) : Int)) hx hb hts hinX7 hown hK hW9 (zlN (hM 30 rfl)) rfl rfl rfl (by decide) (hts (.fieldLink RX7 108 "HailCityModel" "tryAt" "[I") (by decide +kernel)) (fun _ h9 => h9) rfl dX7_tryRow_176 ?_
                  refine zz_iload hx hb hl 5 dX7_tryRow_179 rfl ?_
                  refine zz_iconst hx hb dX7_tryRow_181 ?_
                  refine zz_isub hx hb dX7_tryRow_182 ?_
                  refine zz_iald (w := ((((yQ (fun j => σ 53 0 (8 * d + j)) (σ 65 0 q.toNat) (σ 66 0 q.toNat) F s8) (i - 1)).toNat : Nat) : Int)) hx hb hK hW9 (zlN (hM 79 rfl)) rfl rfl rfl (by show (0 : Int) ≤ ((i : Nat) : Int) - 1; omega) (by show (((i : Nat) : Int) - 1) < (10 : Int); omega) (show σ9 79 0 ((((i : Nat) : Int) - 1).toNat) = ((((yQ (fun j => σ 53 0 (8 * d + j)) (σ 65 0 q.toNat) (σ 66 0 q.toNat) F s8) (i - 1)).toNat : Nat) : Int) from by rw [show (((i : Nat) : Int) - 1).toNat = i - 1 from by omega, hs9, zu_k (by decide), hs8, zu_s (by omega), (hi2 (i - 1) (by omega)).1]; omega) dX7_tryRow_183 ?_
                  refine zz_aload_n hx hb hl 0 dX7_tryRow_184 rfl rfl ?_
                  refine zz_get (T := TX7) (N := 42) (k := 39) (κ := 30) (w := zr ad 79 ((0 : Nat) : Int)) hx hb hts hinX7 hown hK hW9 (zlN (hM 30 rfl)) rfl rfl rfl (by decide) (hts (.fieldLink RX7 108 "HailCityModel" "tryAt" "[I") (by decide +kernel)) (fun _ h9 => h9) rfl dX7_tryRow_185 ?_
                  refine zz_iload hx hb hl 5 dX7_tryRow_188 rfl ?_
                  refine zz_iald (w := ((((yQ (fun j => σ 53 0 (8 * d + j)) (σ 65 0 q.toNat) (σ 66 0 q.toNat) F s8) i).toNat : Nat) : Int)) hx hb hK hW9 (zlN (hM 79 rfl)) rfl rfl rfl (by show (0 : Int) ≤ ((i : Nat) : Int); omega) (by show ((i : Nat) : Int) < (10 : Int); omega) (show σ9 79 0 i = ((((yQ (fun j => σ 53 0 (8 * d + j)) (σ 65 0 q.toNat) (σ 66 0 q.toNat) F s8) i).toNat : Nat) : Int) from by rw [hs9, zu_k (by decide), hs8, zu_same]; omega) dX7_tryRow_190 ?_
                  refine zz_callV (T := TX7) (N := 42) (As := [.int (zi ((((yQ (fun j => σ 53 0 (8 * d + j)) (σ 65 0 q.toNat) (σ 66 0 q.toNat) F s8) (i - 1)).toNat : Nat) : Int)), .int (zi ((((yQ (fun j => σ 53 0 (8 * d + j)) (σ 65 0 q.toNat) (σ 66 0 q.toNat) F s8) i).toNat : Nat) : Int))]) (rest := [.int (zi ((yT (fun a b => σ 47 0 (10 * a + b)) (σ 55 0 d) (yQ (fun j => σ 53 0 (8 * d + j)) (σ 65 0 q.toNat) (σ 66 0 q.toNat) F s8)) (i - 1))), .int (zi ((i : Nat) : Int)), zr ad 81 ((0 : Nat) : Int)]) (v := ((0 : Nat) : Int)) (κ := 30) ⟨hx, hb, hml, hown, hts⟩ (c_X7_wayOf l G ad A N0 σ9 hM ((yQ (fun j => σ 53 0 (8 * d + j)) (σ 65 0 q.toNat) (σ 66 0 q.toNat) F s8) (i - 1)).toNat ((yQ (fun j => σ 53 0 (8 * d + j)) (σ 65 0 q.toNat) (σ 66 0 q.toNat) F s8) i).toNat (by omega) (by omega)) (cwV 2 hts gX7_tryRow_X7_wayOf rfl rfl rfl (by decide +kernel) ⟨Nat.le_of_ble_eq_true rfl, Nat.le_of_ble_eq_true rfl⟩) hK hW9 (zlN (hM 30 rfl)) rfl rfl (Nat.le_trans hsz hS9.1) hS9 rfl hl.1.1 rfl (by simp [zr_cat, zcat_i]) dX7_tryRow_191 ⟨Nat.le_of_ble_eq_true rfl, Nat.le_of_ble_eq_true rfl⟩ (fun x10 σ10 H10 locs10 hp10 hW10 hz10 hS10 => ?_)
                  obtain ⟨rfl, hx9⟩ := hp10
                  rw [hs9, zu_ne (by omega), hs8, zu_ne (by omega), hi3 47 _ _ (by omega)] at hx9
                  obtain rfl := hx9
                  refine W.eq (g2 := F0 m 194 ls [.int (zi (σ 47 0 (10 * ((yQ (fun j => σ 53 0 (8 * d + j)) (σ 65 0 q.toNat) (σ 66 0 q.toNat) F s8) (i - 1)).toNat + ((yQ (fun j => σ 53 0 (8 * d + j)) (σ 65 0 q.toNat) (σ 66 0 q.toNat) F s8) i).toNat))), .int (zi ((yT (fun a b => σ 47 0 (10 * a + b)) (σ 55 0 d) (yQ (fun j => σ 53 0 (8 * d + j)) (σ 65 0 q.toNat) (σ 66 0 q.toNat) F s8)) (i - 1))), .int (zi ((i : Nat) : Int)), zr ad 81 ((0 : Nat) : Int)]) rfl ?_
                  refine zz_iadd hx hb dX7_tryRow_194 ?_
                  refine zz_iast (y := (((yT (fun a b => σ 47 0 (10 * a + b)) (σ 55 0 d) (yQ (fun j => σ 53 0 (8 * d + j)) (σ 65 0 q.toNat) (σ 66 0 q.toNat) F s8)) (i - 1)) + (σ 47 0 (10 * ((yQ (fun j => σ 53 0 (8 * d + j)) (σ 65 0 q.toNat) (σ 66 0 q.toNat) F s8) (i - 1)).toNat + ((yQ (fun j => σ 53 0 (8 * d + j)) (σ 65 0 q.toNat) (σ 66 0 q.toNat) F s8) i).toNat)))) hx hb hK hW10 hS10 (zlN (hM 81 rfl)) rfl rfl rfl (by show (0 : Int) ≤ ((i : Nat) : Int); omega) (by show ((i : Nat) : Int) < (10 : Int); omega) ⟨by omega, by omega⟩ dX7_tryRow_195 (fun H11 locs11 hW11' hS11 => ?_)
                  obtain ⟨σ11, hs11⟩ : ∃ z, z = zu σ9 81 0 i (((yT (fun a b => σ 47 0 (10 * a + b)) (σ 55 0 d) (yQ (fun j => σ 53 0 (8 * d + j)) (σ 65 0 q.toNat) (σ 66 0 q.toNat) F s8)) (i - 1)) + (σ 47 0 (10 * ((yQ (fun j => σ 53 0 (8 * d + j)) (σ 65 0 q.toNat) (σ 66 0 q.toNat) F s8) (i - 1)).toNat + ((yQ (fun j => σ 53 0 (8 * d + j)) (σ 65 0 q.toNat) (σ 66 0 q.toNat) F s8) i).toNat))) := ⟨_, rfl⟩
                  have hW11 : ZW G ad A σ11 H11 := by rw [hs11]; exact hW11'
                  refine zz_iload hx hb hl 6 dX7_tryRow_196 rfl ?_
                  refine zz_iload hx hb hl 7 dX7_tryRow_198 rfl ?_
                  refine zz_if_ne (tgt := 208) hx hb dX7_tryRow_200 (by decide) ⟨by omega, by omega⟩ (fun hc200 => ?_) (fun hc200 => ?_)
                  · exfalso; omega
                  · refine zz_iload hx hb hl 8 dX7_tryRow_203 rfl ?_
                    refine zz_if_eq (tgt := 212) hx hb dX7_tryRow_205 (by decide) ⟨by omega, by omega⟩ (fun hc205 => ?_) (fun hc205 => ?_)
                    · exfalso; omega
                    · refine zz_iconst hx hb dX7_tryRow_208 ?_
                      refine zz_goto (tgt := 213) hx hb dX7_tryRow_209 (by decide) ?_
                      refine zz_iadd hx hb dX7_tryRow_213 ?_
                      refine zz_istore (lv' := [(6, .int (zi (((8 * d + yold F s8 i) + 0 : Nat) : Int))), (0, zr ad 30 ((0 : Nat) : Int)), (1, .int (zi ((d : Nat) : Int))), (2, .int (zi q)), (3, .int (zi ((f : Nat) : Int))), (4, .int (zi ((s9 : Nat) : Int))), (5, .int (zi ((i : Nat) : Int))), (7, .int (zi ((b7 : Nat) : Int))), (8, .int (zi ((b8 : Nat) : Int)))]) hx hb hl dX7_tryRow_214 (by decide) rfl (fun ls hl => ?_)
                      refine zz_iinc (lv' := [(5, .int (zi ((i + 1 : Nat) : Int))), (6, .int (zi (((8 * d + yold F s8 i) + 0 : Nat) : Int))), (0, zr ad 30 ((0 : Nat) : Int)), (1, .int (zi ((d : Nat) : Int))), (2, .int (zi q)), (3, .int (zi ((f : Nat) : Int))), (4, .int (zi ((s9 : Nat) : Int))), (7, .int (zi ((b7 : Nat) : Int))), (8, .int (zi ((b8 : Nat) : Int)))]) hx hb hl dX7_tryRow_216 (k0 := 6) rfl (by decide) rfl (fun ls hl => ?_)
                      refine zz_goto (tgt := 9) hx hb dX7_tryRow_219 (by decide) ?_
                      refine ih9 (i + 1) σ11 H11 locs11 ls ?_ (by omega) hW11 hS11 (zh_sub hl [2, 3, 4, 5, 6, 0, 1] (by rw [show yold F s8 (i + 1) = yold F s8 i + 0 from by unfold yold; split <;> split <;> split <;> split <;> omega]; rfl))
                      refine ⟨by omega, fun j hj => ?_, fun κ' i' k' hz => ?_⟩
                      · by_cases hji : j = i
                        · subst hji
                          refine ⟨?_, ?_, ?_⟩
                          · rw [hs11, zu_k (by decide), hs9, zu_k (by decide), hs8, zu_same]
                            exact hPi.symm
                          · rw [hs11, zu_k (by decide), hs9, zu_same]
                            exact hWi.symm
                          · rw [hs11, zu_same]
                            exact hTi.symm
                        · have h9 := hi2 j (by omega)
                          refine ⟨?_, ?_, ?_⟩
                          · rw [hs11, zu_ne (by omega), hs9, zu_ne (by omega), hs8, zu_ne (by omega)]; exact h9.1
                          · rw [hs11, zu_ne (by omega), hs9, zu_ne (by omega), hs8, zu_ne (by omega)]; exact h9.2.1
                          · rw [hs11, zu_ne (by omega), hs9, zu_ne (by omega), hs8, zu_ne (by omega)]; exact h9.2.2
                      · rw [hs11, zu_ne (by omega), hs9, zu_ne (by omega), hs8, zu_ne (by omega)]
                        exact hi3 _ _ _ hz
                · have hTi : (yT (fun a b => σ 47 0 (10 * a + b)) (σ 55 0 d) (yQ (fun j => σ 53 0 (8 * d + j)) (σ 65 0 q.toNat) (σ 66 0 q.toNat) F s8)) i = σ 55 0 d := by rw [show i = 0 by omega]; rfl
                  refine zz_aload_n hx hb hl 0 dX7_tryRow_156 rfl rfl ?_
                  refine zz_get (T := TX7) (N := 42) (k := 15) (κ := 30) (w := zr ad 55 ((0 : Nat) : Int)) hx hb hts hinX7 hown hK hW9 (zlN (hM 30 rfl)) rfl rfl rfl (by decide) (hts (.fieldLink RX7 45 "HailCityModel" "reached" "[I") (by decide +kernel)) (fun _ h9 => h9) rfl dX7_tryRow_157 ?_
                  refine zz_iload_n hx hb hl 1 dX7_tryRow_160 rfl rfl ?_
                  refine zz_iald (w := σ 55 0 d) hx hb hK hW9 (zlN (hM 55 rfl)) rfl rfl rfl (by show (0 : Int) ≤ ((d : Nat) : Int); omega) (by show ((d : Nat) : Int) < (8 : Int); omega) (show σ9 55 0 d = σ 55 0 d from by rw [hs9, zu_k (by decide), hs8, zu_k (by decide), hi3 55 0 d (by omega)]) dX7_tryRow_161 ?_
                  refine zz_goto (tgt := 195) hx hb dX7_tryRow_162 (by decide) ?_
                  refine zz_iast (y := (σ 55 0 d)) hx hb hK hW9 hS9 (zlN (hM 81 rfl)) rfl rfl rfl (by show (0 : Int) ≤ ((i : Nat) : Int); omega) (by show ((i : Nat) : Int) < (10 : Int); omega) (hW0.2.2.1 _ _ _) dX7_tryRow_195 (fun H12 locs12 hW12' hS12 => ?_)
                  obtain ⟨σ12, hs12⟩ : ∃ z, z = zu σ9 81 0 i (σ 55 0 d) := ⟨_, rfl⟩
                  have hW12 : ZW G ad A σ12 H12 := by rw [hs12]; exact hW12'
                  refine zz_iload hx hb hl 6 dX7_tryRow_196 rfl ?_
                  refine zz_iload hx hb hl 7 dX7_tryRow_198 rfl ?_
                  refine zz_if_ne (tgt := 208) hx hb dX7_tryRow_200 (by decide) ⟨by omega, by omega⟩ (fun hc200 => ?_) (fun hc200 => ?_)
                  · exfalso; omega
                  · refine zz_iload hx hb hl 8 dX7_tryRow_203 rfl ?_
                    refine zz_if_eq (tgt := 212) hx hb dX7_tryRow_205 (by decide) ⟨by omega, by omega⟩ (fun hc205 => ?_) (fun hc205 => ?_)
                    · exfalso; omega
                    · refine zz_iconst hx hb dX7_tryRow_208 ?_
                      refine zz_goto (tgt := 213) hx hb dX7_tryRow_209 (by decide) ?_
                      refine zz_iadd hx hb dX7_tryRow_213 ?_
                      refine zz_istore (lv' := [(6, .int (zi (((8 * d + yold F s8 i) + 0 : Nat) : Int))), (0, zr ad 30 ((0 : Nat) : Int)), (1, .int (zi ((d : Nat) : Int))), (2, .int (zi q)), (3, .int (zi ((f : Nat) : Int))), (4, .int (zi ((s9 : Nat) : Int))), (5, .int (zi ((i : Nat) : Int))), (7, .int (zi ((b7 : Nat) : Int))), (8, .int (zi ((b8 : Nat) : Int)))]) hx hb hl dX7_tryRow_214 (by decide) rfl (fun ls hl => ?_)
                      refine zz_iinc (lv' := [(5, .int (zi ((i + 1 : Nat) : Int))), (6, .int (zi (((8 * d + yold F s8 i) + 0 : Nat) : Int))), (0, zr ad 30 ((0 : Nat) : Int)), (1, .int (zi ((d : Nat) : Int))), (2, .int (zi q)), (3, .int (zi ((f : Nat) : Int))), (4, .int (zi ((s9 : Nat) : Int))), (7, .int (zi ((b7 : Nat) : Int))), (8, .int (zi ((b8 : Nat) : Int)))]) hx hb hl dX7_tryRow_216 (k0 := 6) rfl (by decide) rfl (fun ls hl => ?_)
                      refine zz_goto (tgt := 9) hx hb dX7_tryRow_219 (by decide) ?_
                      refine ih9 (i + 1) σ12 H12 locs12 ls ?_ (by omega) hW12 hS12 (zh_sub hl [2, 3, 4, 5, 6, 0, 1] (by rw [show yold F s8 (i + 1) = yold F s8 i + 0 from by unfold yold; split <;> split <;> split <;> split <;> omega]; rfl))
                      refine ⟨by omega, fun j hj => ?_, fun κ' i' k' hz => ?_⟩
                      · by_cases hji : j = i
                        · subst hji
                          refine ⟨?_, ?_, ?_⟩
                          · rw [hs12, zu_k (by decide), hs9, zu_k (by decide), hs8, zu_same]
                            exact hPi.symm
                          · rw [hs12, zu_k (by decide), hs9, zu_same]
                            exact hWi.symm
                          · rw [hs12, zu_same]
                            exact hTi.symm
                        · have h9 := hi2 j (by omega)
                          refine ⟨?_, ?_, ?_⟩
                          · rw [hs12, zu_ne (by omega), hs9, zu_ne (by omega), hs8, zu_ne (by omega)]; exact h9.1
                          · rw [hs12, zu_ne (by omega), hs9, zu_ne (by omega), hs8, zu_ne (by omega)]; exact h9.2.1
                          · rw [hs12, zu_ne (by omega), hs9, zu_ne (by omega), hs8, zu_ne (by omega)]; exact h9.2.2
                      · rw [hs12, zu_ne (by omega), hs9, zu_ne (by omega), hs8, zu_ne (by omega)]
                        exact hi3 _ _ _ hz
            · exfalso; omega
        · have hPi : (yQ (fun j => σ 53 0 (8 * d + j)) (σ 65 0 q.toNat) (σ 66 0 q.toNat) F s8) i = σ 65 0 (q).toNat := by unfold yQ; rw [if_pos (by omega)]
          have hWi : (yQ (fun j => σ 54 0 (8 * d + j)) q (100 + q) F s8) i = q := by unfold yQ; rw [if_pos (by omega)]
          refine zz_aload_n hx hb hl 0 dX7_tryRow_79 rfl rfl ?_
          refine zz_get (T := TX7) (N := 42) (k := 25) (κ := 30) (w := zr ad 65 ((0 : Nat) : Int)) hx hb hts hinX7 hown hK hW2 (zlN (hM 30 rfl)) rfl rfl rfl (by decide) (hts (.fieldLink RX7 69 "HailCityModel" "from" "[I") (by decide +kernel)) (fun _ h9 => h9) rfl dX7_tryRow_80 ?_
          refine zz_iload_n hx hb hl 2 dX7_tryRow_83 rfl rfl ?_
          refine zz_iald (w := σ 65 0 ((q).toNat)) hx hb hK hW2 (zlN (hM 65 rfl)) rfl rfl rfl (by show (0 : Int) ≤ q; omega) (by show q < (60 : Int); omega) (show σ1 65 0 ((q).toNat) = σ 65 0 ((q).toNat) from by rw [hi3 65 0 ((q).toNat) (by omega)]) dX7_tryRow_84 ?_
          refine zz_goto (tgt := 109) hx hb dX7_tryRow_85 (by decide) ?_
          refine zz_iast (y := (σ 65 0 ((q).toNat))) hx hb hK hW2 hS2 (zlN (hM 79 rfl)) rfl rfl rfl (by show (0 : Int) ≤ ((i : Nat) : Int); omega) (by show ((i : Nat) : Int) < (10 : Int); omega) (hW0.2.2.1 _ _ _) dX7_tryRow_109 (fun H13 locs13 hW13' hS13 => ?_)
          obtain ⟨σ13, hs13⟩ : ∃ z, z = zu σ1 79 0 i (σ 65 0 ((q).toNat)) := ⟨_, rfl⟩
          have hW13 : ZW G ad A σ13 H13 := by rw [hs13]; exact hW13'
          refine zz_aload_n hx hb hl 0 dX7_tryRow_110 rfl rfl ?_
          refine zz_get (T := TX7) (N := 42) (k := 40) (κ := 30) (w := zr ad 80 ((0 : Nat) : Int)) hx hb hts hinX7 hown hK hW13 (zlN (hM 30 rfl)) rfl rfl rfl (by decide) (hts (.fieldLink RX7 111 "HailCityModel" "tryWhom" "[I") (by decide +kernel)) (fun _ h9 => h9) rfl dX7_tryRow_111 ?_
          refine zz_iload hx hb hl 5 dX7_tryRow_114 rfl ?_
          refine zz_iload hx hb hl 7 dX7_tryRow_116 rfl ?_
          refine zz_if_eq (tgt := 125) hx hb dX7_tryRow_118 (by decide) ⟨by omega, by omega⟩ (fun hc118 => ?_) (fun hc118 => ?_)
          · exfalso; omega
          · refine zz_iload_n hx hb hl 2 dX7_tryRow_121 rfl rfl ?_
            refine zz_goto (tgt := 144) hx hb dX7_tryRow_122 (by decide) ?_
            refine zz_iast (y := q) hx hb hK hW13 hS13 (zlN (hM 80 rfl)) rfl rfl rfl (by show (0 : Int) ≤ ((i : Nat) : Int); omega) (by show ((i : Nat) : Int) < (10 : Int); omega) ⟨by omega, by omega⟩ dX7_tryRow_144 (fun H14 locs14 hW14' hS14 => ?_)
            obtain ⟨σ14, hs14⟩ : ∃ z, z = zu σ13 80 0 i q := ⟨_, rfl⟩
            have hW14 : ZW G ad A σ14 H14 := by rw [hs14]; exact hW14'
            refine zz_aload_n hx hb hl 0 dX7_tryRow_145 rfl rfl ?_
            refine zz_get (T := TX7) (N := 42) (k := 41) (κ := 30) (w := zr ad 81 ((0 : Nat) : Int)) hx hb hts hinX7 hown hK hW14 (zlN (hM 30 rfl)) rfl rfl rfl (by decide) (hts (.fieldLink RX7 114 "HailCityModel" "tryTime" "[I") (by decide +kernel)) (fun _ h9 => h9) rfl dX7_tryRow_146 ?_
            refine zz_iload hx hb hl 5 dX7_tryRow_149 rfl ?_
            refine zz_iload hx hb hl 5 dX7_tryRow_151 rfl ?_
            refine zz_if_ne (tgt := 165) hx hb dX7_tryRow_153 (by decide) ⟨by omega, by omega⟩ (fun hc153 => ?_) (fun hc153 => ?_)
            · have hp1 := hPr (i - 1) (by omega)
              have hp2 := hPr i (by omega)
              have hwi := hww ((yQ (fun j => σ 53 0 (8 * d + j)) (σ 65 0 q.toNat) (σ 66 0 q.toNat) F s8) (i - 1)).toNat ((yQ (fun j => σ 53 0 (8 * d + j)) (σ 65 0 q.toNat) (σ 66 0 q.toNat) F s8) i).toNat (by omega) (by omega)
              have hTi : (yT (fun a b => σ 47 0 (10 * a + b)) (σ 55 0 d) (yQ (fun j => σ 53 0 (8 * d + j)) (σ 65 0 q.toNat) (σ 66 0 q.toNat) F s8)) i = (yT (fun a b => σ 47 0 (10 * a + b)) (σ 55 0 d) (yQ (fun j => σ 53 0 (8 * d + j)) (σ 65 0 q.toNat) (σ 66 0 q.toNat) F s8)) (i - 1) + σ 47 0 (10 * ((yQ (fun j => σ 53 0 (8 * d + j)) (σ 65 0 q.toNat) (σ 66 0 q.toNat) F s8) (i - 1)).toNat + ((yQ (fun j => σ 53 0 (8 * d + j)) (σ 65 0 q.toNat) (σ 66 0 q.toNat) F s8) i).toNat) := by
                obtain ⟨i0, rfl⟩ : ∃ i0, i = i0 + 1 := ⟨i - 1, by omega⟩
                rfl
              have hTr := yT_rg2 (w := fun a b => σ 47 0 (10 * a + b)) (t0 := σ 55 0 d) (Q := (yQ (fun j => σ 53 0 (8 * d + j)) (σ 65 0 q.toNat) (σ 66 0 q.toNat) F s8)) (i - 1) (fun j hj => by
                have g1 := hPr j (by omega)
                have g2 := hPr (j + 1) (by omega)
                exact hww _ _ (by omega) (by omega))
              refine zz_aload_n hx hb hl 0 dX7_tryRow_165 rfl rfl ?_
              refine zz_get (T := TX7) (N := 42) (k := 41) (κ := 30) (w := zr ad 81 ((0 : Nat) : Int)) hx hb hts hinX7 hown hK hW14 (zlN (hM 30 rfl)) rfl rfl rfl (by decide) (hts (.fieldLink RX7 114 "HailCityModel" "tryTime" "[I") (by decide +kernel)) (fun _ h9 => h9) rfl dX7_tryRow_166 ?_
              refine zz_iload hx hb hl 5 dX7_tryRow_169 rfl ?_
              refine zz_iconst hx hb dX7_tryRow_171 ?_
              refine zz_isub hx hb dX7_tryRow_172 ?_
              refine zz_iald (w := (yT (fun a b => σ 47 0 (10 * a + b)) (σ 55 0 d) (yQ (fun j => σ 53 0 (8 * d + j)) (σ 65 0 q.toNat) (σ 66 0 q.toNat) F s8)) (i - 1)) hx hb hK hW14 (zlN (hM 81 rfl)) rfl rfl rfl (by show (0 : Int) ≤ ((i : Nat) : Int) - 1; omega) (by show (((i : Nat) : Int) - 1) < (10 : Int); omega) (show σ14 81 0 ((((i : Nat) : Int) - 1).toNat) = (yT (fun a b => σ 47 0 (10 * a + b)) (σ 55 0 d) (yQ (fun j => σ 53 0 (8 * d + j)) (σ 65 0 q.toNat) (σ 66 0 q.toNat) F s8)) (i - 1) from by rw [show (((i : Nat) : Int) - 1).toNat = i - 1 from by omega, hs14, zu_k (by decide), hs13, zu_k (by decide)]; exact (hi2 (i - 1) (by omega)).2.2) dX7_tryRow_173 ?_
              refine zz_aload_n hx hb hl 0 dX7_tryRow_174 rfl rfl ?_
              refine zz_aload_n hx hb hl 0 dX7_tryRow_175 rfl rfl ?_
              refine zz_get (T := TX7) (N := 42) (k := 39) (κ := 30) (w := zr ad 79 ((0 : Nat) : Int)) hx hb hts hinX7 hown hK hW14 (zlN (hM 30 rfl)) rfl rfl rfl (by decide) (hts (.fieldLink RX7 108 "HailCityModel" "tryAt" "[I") (by decide +kernel)) (fun _ h9 => h9) rfl dX7_tryRow_176 ?_
              refine zz_iload hx hb hl 5 dX7_tryRow_179 rfl ?_
              refine zz_iconst hx hb dX7_tryRow_181 ?_
              refine zz_isub hx hb dX7_tryRow_182 ?_
              refine zz_iald (w := ((((yQ (fun j => σ 53 0 (8 * d + j)) (σ 65 0 q.toNat) (σ 66 0 q.toNat) F s8) (i - 1)).toNat : Nat) : Int)) hx hb hK hW14 (zlN (hM 79 rfl)) rfl rfl rfl (by show (0 : Int) ≤ ((i : Nat) : Int) - 1; omega) (by show (((i : Nat) : Int) - 1) < (10 : Int); omega) (show σ14 79 0 ((((i : Nat) : Int) - 1).toNat) = ((((yQ (fun j => σ 53 0 (8 * d + j)) (σ 65 0 q.toNat) (σ 66 0 q.toNat) F s8) (i - 1)).toNat : Nat) : Int) from by rw [show (((i : Nat) : Int) - 1).toNat = i - 1 from by omega, hs14, zu_k (by decide), hs13, zu_s (by omega), (hi2 (i - 1) (by omega)).1]; omega) dX7_tryRow_183 ?_
              refine zz_aload_n hx hb hl 0 dX7_tryRow_184 rfl rfl ?_
              refine zz_get (T := TX7) (N := 42) (k := 39) (κ := 30) (w := zr ad 79 ((0 : Nat) : Int)) hx hb hts hinX7 hown hK hW14 (zlN (hM 30 rfl)) rfl rfl rfl (by decide) (hts (.fieldLink RX7 108 "HailCityModel" "tryAt" "[I") (by decide +kernel)) (fun _ h9 => h9) rfl dX7_tryRow_185 ?_
              refine zz_iload hx hb hl 5 dX7_tryRow_188 rfl ?_
              refine zz_iald (w := ((((yQ (fun j => σ 53 0 (8 * d + j)) (σ 65 0 q.toNat) (σ 66 0 q.toNat) F s8) i).toNat : Nat) : Int)) hx hb hK hW14 (zlN (hM 79 rfl)) rfl rfl rfl (by show (0 : Int) ≤ ((i : Nat) : Int); omega) (by show ((i : Nat) : Int) < (10 : Int); omega) (show σ14 79 0 i = ((((yQ (fun j => σ 53 0 (8 * d + j)) (σ 65 0 q.toNat) (σ 66 0 q.toNat) F s8) i).toNat : Nat) : Int) from by rw [hs14, zu_k (by decide), hs13, zu_same]; omega) dX7_tryRow_190 ?_
              refine zz_callV (T := TX7) (N := 42) (As := [.int (zi ((((yQ (fun j => σ 53 0 (8 * d + j)) (σ 65 0 q.toNat) (σ 66 0 q.toNat) F s8) (i - 1)).toNat : Nat) : Int)), .int (zi ((((yQ (fun j => σ 53 0 (8 * d + j)) (σ 65 0 q.toNat) (σ 66 0 q.toNat) F s8) i).toNat : Nat) : Int))]) (rest := [.int (zi ((yT (fun a b => σ 47 0 (10 * a + b)) (σ 55 0 d) (yQ (fun j => σ 53 0 (8 * d + j)) (σ 65 0 q.toNat) (σ 66 0 q.toNat) F s8)) (i - 1))), .int (zi ((i : Nat) : Int)), zr ad 81 ((0 : Nat) : Int)]) (v := ((0 : Nat) : Int)) (κ := 30) ⟨hx, hb, hml, hown, hts⟩ (c_X7_wayOf l G ad A N0 σ14 hM ((yQ (fun j => σ 53 0 (8 * d + j)) (σ 65 0 q.toNat) (σ 66 0 q.toNat) F s8) (i - 1)).toNat ((yQ (fun j => σ 53 0 (8 * d + j)) (σ 65 0 q.toNat) (σ 66 0 q.toNat) F s8) i).toNat (by omega) (by omega)) (cwV 2 hts gX7_tryRow_X7_wayOf rfl rfl rfl (by decide +kernel) ⟨Nat.le_of_ble_eq_true rfl, Nat.le_of_ble_eq_true rfl⟩) hK hW14 (zlN (hM 30 rfl)) rfl rfl (Nat.le_trans hsz hS14.1) hS14 rfl hl.1.1 rfl (by simp [zr_cat, zcat_i]) dX7_tryRow_191 ⟨Nat.le_of_ble_eq_true rfl, Nat.le_of_ble_eq_true rfl⟩ (fun x15 σ15 H15 locs15 hp15 hW15 hz15 hS15 => ?_)
              obtain ⟨rfl, hx9⟩ := hp15
              rw [hs14, zu_ne (by omega), hs13, zu_ne (by omega), hi3 47 _ _ (by omega)] at hx9
              obtain rfl := hx9
              refine W.eq (g2 := F0 m 194 ls [.int (zi (σ 47 0 (10 * ((yQ (fun j => σ 53 0 (8 * d + j)) (σ 65 0 q.toNat) (σ 66 0 q.toNat) F s8) (i - 1)).toNat + ((yQ (fun j => σ 53 0 (8 * d + j)) (σ 65 0 q.toNat) (σ 66 0 q.toNat) F s8) i).toNat))), .int (zi ((yT (fun a b => σ 47 0 (10 * a + b)) (σ 55 0 d) (yQ (fun j => σ 53 0 (8 * d + j)) (σ 65 0 q.toNat) (σ 66 0 q.toNat) F s8)) (i - 1))), .int (zi ((i : Nat) : Int)), zr ad 81 ((0 : Nat) : Int)]) rfl ?_
              refine zz_iadd hx hb dX7_tryRow_194 ?_
              refine zz_iast (y := (((yT (fun a b => σ 47 0 (10 * a + b)) (σ 55 0 d) (yQ (fun j => σ 53 0 (8 * d + j)) (σ 65 0 q.toNat) (σ 66 0 q.toNat) F s8)) (i - 1)) + (σ 47 0 (10 * ((yQ (fun j => σ 53 0 (8 * d + j)) (σ 65 0 q.toNat) (σ 66 0 q.toNat) F s8) (i - 1)).toNat + ((yQ (fun j => σ 53 0 (8 * d + j)) (σ 65 0 q.toNat) (σ 66 0 q.toNat) F s8) i).toNat)))) hx hb hK hW15 hS15 (zlN (hM 81 rfl)) rfl rfl rfl (by show (0 : Int) ≤ ((i : Nat) : Int); omega) (by show ((i : Nat) : Int) < (10 : Int); omega) ⟨by omega, by omega⟩ dX7_tryRow_195 (fun H16 locs16 hW16' hS16 => ?_)
              obtain ⟨σ16, hs16⟩ : ∃ z, z = zu σ14 81 0 i (((yT (fun a b => σ 47 0 (10 * a + b)) (σ 55 0 d) (yQ (fun j => σ 53 0 (8 * d + j)) (σ 65 0 q.toNat) (σ 66 0 q.toNat) F s8)) (i - 1)) + (σ 47 0 (10 * ((yQ (fun j => σ 53 0 (8 * d + j)) (σ 65 0 q.toNat) (σ 66 0 q.toNat) F s8) (i - 1)).toNat + ((yQ (fun j => σ 53 0 (8 * d + j)) (σ 65 0 q.toNat) (σ 66 0 q.toNat) F s8) i).toNat))) := ⟨_, rfl⟩
              have hW16 : ZW G ad A σ16 H16 := by rw [hs16]; exact hW16'
              refine zz_iload hx hb hl 6 dX7_tryRow_196 rfl ?_
              refine zz_iload hx hb hl 7 dX7_tryRow_198 rfl ?_
              refine zz_if_ne (tgt := 208) hx hb dX7_tryRow_200 (by decide) ⟨by omega, by omega⟩ (fun hc200 => ?_) (fun hc200 => ?_)
              · refine zz_iconst hx hb dX7_tryRow_208 ?_
                refine zz_goto (tgt := 213) hx hb dX7_tryRow_209 (by decide) ?_
                refine zz_iadd hx hb dX7_tryRow_213 ?_
                refine zz_istore (lv' := [(6, .int (zi (((8 * d + yold F s8 i) + 0 : Nat) : Int))), (0, zr ad 30 ((0 : Nat) : Int)), (1, .int (zi ((d : Nat) : Int))), (2, .int (zi q)), (3, .int (zi ((f : Nat) : Int))), (4, .int (zi ((s9 : Nat) : Int))), (5, .int (zi ((i : Nat) : Int))), (7, .int (zi ((b7 : Nat) : Int))), (8, .int (zi ((b8 : Nat) : Int)))]) hx hb hl dX7_tryRow_214 (by decide) rfl (fun ls hl => ?_)
                refine zz_iinc (lv' := [(5, .int (zi ((i + 1 : Nat) : Int))), (6, .int (zi (((8 * d + yold F s8 i) + 0 : Nat) : Int))), (0, zr ad 30 ((0 : Nat) : Int)), (1, .int (zi ((d : Nat) : Int))), (2, .int (zi q)), (3, .int (zi ((f : Nat) : Int))), (4, .int (zi ((s9 : Nat) : Int))), (7, .int (zi ((b7 : Nat) : Int))), (8, .int (zi ((b8 : Nat) : Int)))]) hx hb hl dX7_tryRow_216 (k0 := 6) rfl (by decide) rfl (fun ls hl => ?_)
                refine zz_goto (tgt := 9) hx hb dX7_tryRow_219 (by decide) ?_
                refine ih9 (i + 1) σ16 H16 locs16 ls ?_ (by omega) hW16 hS16 (zh_sub hl [2, 3, 4, 5, 6, 0, 1] (by rw [show yold F s8 (i + 1) = yold F s8 i + 0 from by unfold yold; split <;> split <;> split <;> split <;> omega]; rfl))
                refine ⟨by omega, fun j hj => ?_, fun κ' i' k' hz => ?_⟩
                · by_cases hji : j = i
                  · subst hji
                    refine ⟨?_, ?_, ?_⟩
                    · rw [hs16, zu_k (by decide), hs14, zu_k (by decide), hs13, zu_same]
                      exact hPi.symm
                    · rw [hs16, zu_k (by decide), hs14, zu_same]
                      exact hWi.symm
                    · rw [hs16, zu_same]
                      exact hTi.symm
                  · have h9 := hi2 j (by omega)
                    refine ⟨?_, ?_, ?_⟩
                    · rw [hs16, zu_ne (by omega), hs14, zu_ne (by omega), hs13, zu_ne (by omega)]; exact h9.1
                    · rw [hs16, zu_ne (by omega), hs14, zu_ne (by omega), hs13, zu_ne (by omega)]; exact h9.2.1
                    · rw [hs16, zu_ne (by omega), hs14, zu_ne (by omega), hs13, zu_ne (by omega)]; exact h9.2.2
                · rw [hs16, zu_ne (by omega), hs14, zu_ne (by omega), hs13, zu_ne (by omega)]
                  exact hi3 _ _ _ hz
              · exfalso; omega
            · have hTi : (yT (fun a b => σ 47 0 (10 * a + b)) (σ 55 0 d) (yQ (fun j => σ 53 0 (8 * d + j)) (σ 65 0 q.toNat) (σ 66 0 q.toNat) F s8)) i = σ 55 0 d := by rw [show i = 0 by omega]; rfl
              refine zz_aload_n hx hb hl 0 dX7_tryRow_156 rfl rfl ?_
              refine zz_get (T := TX7) (N := 42) (k := 15) (κ := 30) (w := zr ad 55 ((0 : Nat) : Int)) hx hb hts hinX7 hown hK hW14 (zlN (hM 30 rfl)) rfl rfl rfl (by decide) (hts (.fieldLink RX7 45 "HailCityModel" "reached" "[I") (by decide +kernel)) (fun _ h9 => h9) rfl dX7_tryRow_157 ?_
              refine zz_iload_n hx hb hl 1 dX7_tryRow_160 rfl rfl ?_
              refine zz_iald (w := σ 55 0 d) hx hb hK hW14 (zlN (hM 55 rfl)) rfl rfl rfl (by show (0 : Int) ≤ ((d : Nat) : Int); omega) (by show ((d : Nat) : Int) < (8 : Int); omega) (show σ14 55 0 d = σ 55 0 d from by rw [hs14, zu_k (by decide), hs13, zu_k (by decide), hi3 55 0 d (by omega)]) dX7_tryRow_161 ?_
              refine zz_goto (tgt := 195) hx hb dX7_tryRow_162 (by decide) ?_
              refine zz_iast (y := (σ 55 0 d)) hx hb hK hW14 hS14 (zlN (hM 81 rfl)) rfl rfl rfl (by show (0 : Int) ≤ ((i : Nat) : Int); omega) (by show ((i : Nat) : Int) < (10 : Int); omega) (hW0.2.2.1 _ _ _) dX7_tryRow_195 (fun H17 locs17 hW17' hS17 => ?_)
              obtain ⟨σ17, hs17⟩ : ∃ z, z = zu σ14 81 0 i (σ 55 0 d) := ⟨_, rfl⟩
              have hW17 : ZW G ad A σ17 H17 := by rw [hs17]; exact hW17'
              refine zz_iload hx hb hl 6 dX7_tryRow_196 rfl ?_
              refine zz_iload hx hb hl 7 dX7_tryRow_198 rfl ?_
              refine zz_if_ne (tgt := 208) hx hb dX7_tryRow_200 (by decide) ⟨by omega, by omega⟩ (fun hc200 => ?_) (fun hc200 => ?_)
              · refine zz_iconst hx hb dX7_tryRow_208 ?_
                refine zz_goto (tgt := 213) hx hb dX7_tryRow_209 (by decide) ?_
                refine zz_iadd hx hb dX7_tryRow_213 ?_
                refine zz_istore (lv' := [(6, .int (zi (((8 * d + yold F s8 i) + 0 : Nat) : Int))), (0, zr ad 30 ((0 : Nat) : Int)), (1, .int (zi ((d : Nat) : Int))), (2, .int (zi q)), (3, .int (zi ((f : Nat) : Int))), (4, .int (zi ((s9 : Nat) : Int))), (5, .int (zi ((i : Nat) : Int))), (7, .int (zi ((b7 : Nat) : Int))), (8, .int (zi ((b8 : Nat) : Int)))]) hx hb hl dX7_tryRow_214 (by decide) rfl (fun ls hl => ?_)
                refine zz_iinc (lv' := [(5, .int (zi ((i + 1 : Nat) : Int))), (6, .int (zi (((8 * d + yold F s8 i) + 0 : Nat) : Int))), (0, zr ad 30 ((0 : Nat) : Int)), (1, .int (zi ((d : Nat) : Int))), (2, .int (zi q)), (3, .int (zi ((f : Nat) : Int))), (4, .int (zi ((s9 : Nat) : Int))), (7, .int (zi ((b7 : Nat) : Int))), (8, .int (zi ((b8 : Nat) : Int)))]) hx hb hl dX7_tryRow_216 (k0 := 6) rfl (by decide) rfl (fun ls hl => ?_)
                refine zz_goto (tgt := 9) hx hb dX7_tryRow_219 (by decide) ?_
                refine ih9 (i + 1) σ17 H17 locs17 ls ?_ (by omega) hW17 hS17 (zh_sub hl [2, 3, 4, 5, 6, 0, 1] (by rw [show yold F s8 (i + 1) = yold F s8 i + 0 from by unfold yold; split <;> split <;> split <;> split <;> omega]; rfl))
                refine ⟨by omega, fun j hj => ?_, fun κ' i' k' hz => ?_⟩
                · by_cases hji : j = i
                  · subst hji
                    refine ⟨?_, ?_, ?_⟩
                    · rw [hs17, zu_k (by decide), hs14, zu_k (by decide), hs13, zu_same]
                      exact hPi.symm
                    · rw [hs17, zu_k (by decide), hs14, zu_same]
                      exact hWi.symm
                    · rw [hs17, zu_same]
                      exact hTi.symm
                  · have h9 := hi2 j (by omega)
                    refine ⟨?_, ?_, ?_⟩
                    · rw [hs17, zu_ne (by omega), hs14, zu_ne (by omega), hs13, zu_ne (by omega)]; exact h9.1
                    · rw [hs17, zu_ne (by omega), hs14, zu_ne (by omega), hs13, zu_ne (by omega)]; exact h9.2.1
                    · rw [hs17, zu_ne (by omega), hs14, zu_ne (by omega), hs13, zu_ne (by omega)]; exact h9.2.2
                · rw [hs17, zu_ne (by omega), hs14, zu_ne (by omega), hs13, zu_ne (by omega)]
                  exact hi3 _ _ _ hz
              · exfalso; omega
      have hcut49 : ∀ (b7 : Nat)  (H9 : Heap) (locs9 : List Loc) (ls : Array Slot), (i < m9 ∧ (b7 = 0 ∨ b7 = 1) ∧ (b7 = 1 ↔ i = F)) → ZW G ad A σ1 H9 → va_S A s.heap H9 locs9 → zh ls 9 [(0, zr ad 30 ((0 : Nat) : Int)), (1, .int (zi ((d : Nat) : Int))), (2, .int (zi q)), (3, .int (zi ((f : Nat) : Int))), (4, .int (zi ((s9 : Nat) : Int))), (5, .int (zi ((i : Nat) : Int))), (6, .int (zi ((8 * d + yold F s8 i : Nat) : Int))), (7, .int (zi ((b7 : Nat) : Int)))] → W p l e ({ frames := 1, cells := 0, slots := 0, locals := 22 }) s m ([zr ad 30 ((0 : Nat) : Int), .int (zi ((d : Nat) : Int)), .int (zi q), .int (zi ((f : Nat) : Int)), .int (zi ((s9 : Nat) : Int))] : List Value).toArray below meth c H9 locs9 0 0 (MQ below (zQ G ad A zri (fun r u => (m9 : Int) = r ∧ (∀ j, j < m9 → u 79 0 j = (yQ (fun j => σ 53 0 (8 * d + j)) (σ 65 0 q.toNat) (σ 66 0 q.toNat) F s8) j ∧ u 80 0 j = (yQ (fun j => σ 54 0 (8 * d + j)) q (100 + q) F s8) j ∧ u 81 0 j = (yT (fun a b => σ 47 0 (10 * a + b)) (σ 55 0 d) (yQ (fun j => σ 53 0 (8 * d + j)) (σ 65 0 q.toNat) (σ 66 0 q.toNat) F s8)) j) ∧ zfr (fun κ _ _ => κ = 79 ∨ κ = 80 ∨ κ = 81) σ u)) ([zr ad 30 ((0 : Nat) : Int), .int (zi ((d : Nat) : Int)), .int (zi q), .int (zi ((f : Nat) : Int)), .int (zi ((s9 : Nat) : Int))] : List Value).toArray s 0 0 A) (F0 m 49 ls []) := by
        intro b7 H18 locs18 ls hI49 hW18 hS18 hl
        refine zz_iload_n hx hb hl 2 dX7_tryRow_49 rfl rfl ?_
        refine zz_iconst hx hb dX7_tryRow_50 ?_
        refine zz_icmp_eq (tgt := 65) hx hb dX7_tryRow_51 (by decide) ⟨by omega, by omega⟩ ⟨by decide, by decide⟩ (fun hc51 => ?_) (fun hc51 => ?_)
        · refine zz_iconst hx hb dX7_tryRow_65 ?_
          refine zz_istore (lv' := [(8, .int (zi 0)), (0, zr ad 30 ((0 : Nat) : Int)), (1, .int (zi ((d : Nat) : Int))), (2, .int (zi q)), (3, .int (zi ((f : Nat) : Int))), (4, .int (zi ((s9 : Nat) : Int))), (5, .int (zi ((i : Nat) : Int))), (6, .int (zi ((8 * d + yold F s8 i : Nat) : Int))), (7, .int (zi ((b7 : Nat) : Int)))]) hx hb hl dX7_tryRow_66 (by decide) rfl (fun ls hl => ?_)
          refine hcut68 b7 0 H18 locs18 ls ?_ hW18 hS18 (zh_sub hl [1, 2, 3, 4, 5, 6, 7, 8, 0] rfl)
          omega
        · refine zz_iload hx hb hl 5 dX7_tryRow_54 rfl ?_
          refine zz_iload hx hb hl 4 dX7_tryRow_56 rfl ?_
          refine zz_icmp_ne (tgt := 65) hx hb dX7_tryRow_58 (by decide) ⟨by omega, by omega⟩ ⟨by omega, by omega⟩ (fun hc58 => ?_) (fun hc58 => ?_)
          · refine zz_iconst hx hb dX7_tryRow_65 ?_
            refine zz_istore (lv' := [(8, .int (zi 0)), (0, zr ad 30 ((0 : Nat) : Int)), (1, .int (zi ((d : Nat) : Int))), (2, .int (zi q)), (3, .int (zi ((f : Nat) : Int))), (4, .int (zi ((s9 : Nat) : Int))), (5, .int (zi ((i : Nat) : Int))), (6, .int (zi ((8 * d + yold F s8 i : Nat) : Int))), (7, .int (zi ((b7 : Nat) : Int)))]) hx hb hl dX7_tryRow_66 (by decide) rfl (fun ls hl => ?_)
            refine hcut68 b7 0 H18 locs18 ls ?_ hW18 hS18 (zh_sub hl [1, 2, 3, 4, 5, 6, 7, 8, 0] rfl)
            omega
          · refine zz_iconst hx hb dX7_tryRow_61 ?_
            refine zz_goto (tgt := 66) hx hb dX7_tryRow_62 (by decide) ?_
            refine zz_istore (lv' := [(8, .int (zi 1)), (0, zr ad 30 ((0 : Nat) : Int)), (1, .int (zi ((d : Nat) : Int))), (2, .int (zi q)), (3, .int (zi ((f : Nat) : Int))), (4, .int (zi ((s9 : Nat) : Int))), (5, .int (zi ((i : Nat) : Int))), (6, .int (zi ((8 * d + yold F s8 i : Nat) : Int))), (7, .int (zi ((b7 : Nat) : Int)))]) hx hb hl dX7_tryRow_66 (by decide) rfl (fun ls hl => ?_)
            refine hcut68 b7 1 H18 locs18 ls ?_ hW18 hS18 (zh_sub hl [1, 2, 3, 4, 5, 6, 7, 8, 0] rfl)
            omega
      have hcut31 : ∀  (H9 : Heap) (locs9 : List Loc) (ls : Array Slot), (i < m9) → ZW G ad A σ1 H9 → va_S A s.heap H9 locs9 → zh ls 9 [(0, zr ad 30 ((0 : Nat) : Int)), (1, .int (zi ((d : Nat) : Int))), (2, .int (zi q)), (3, .int (zi ((f : Nat) : Int))), (4, .int (zi ((s9 : Nat) : Int))), (5, .int (zi ((i : Nat) : Int))), (6, .int (zi ((8 * d + yold F s8 i : Nat) : Int)))] → W p l e ({ frames := 1, cells := 0, slots := 0, locals := 22 }) s m ([zr ad 30 ((0 : Nat) : Int), .int (zi ((d : Nat) : Int)), .int (zi q), .int (zi ((f : Nat) : Int)), .int (zi ((s9 : Nat) : Int))] : List Value).toArray below meth c H9 locs9 0 0 (MQ below (zQ G ad A zri (fun r u => (m9 : Int) = r ∧ (∀ j, j < m9 → u 79 0 j = (yQ (fun j => σ 53 0 (8 * d + j)) (σ 65 0 q.toNat) (σ 66 0 q.toNat) F s8) j ∧ u 80 0 j = (yQ (fun j => σ 54 0 (8 * d + j)) q (100 + q) F s8) j ∧ u 81 0 j = (yT (fun a b => σ 47 0 (10 * a + b)) (σ 55 0 d) (yQ (fun j => σ 53 0 (8 * d + j)) (σ 65 0 q.toNat) (σ 66 0 q.toNat) F s8)) j) ∧ zfr (fun κ _ _ => κ = 79 ∨ κ = 80 ∨ κ = 81) σ u)) ([zr ad 30 ((0 : Nat) : Int), .int (zi ((d : Nat) : Int)), .int (zi q), .int (zi ((f : Nat) : Int)), .int (zi ((s9 : Nat) : Int))] : List Value).toArray s 0 0 A) (F0 m 31 ls []) := by
        intro  H19 locs19 ls hI31 hW19 hS19 hl
        refine zz_iload_n hx hb hl 2 dX7_tryRow_31 rfl rfl ?_
        refine zz_iconst hx hb dX7_tryRow_32 ?_
        refine zz_icmp_eq (tgt := 46) hx hb dX7_tryRow_33 (by decide) ⟨by omega, by omega⟩ ⟨by decide, by decide⟩ (fun hc33 => ?_) (fun hc33 => ?_)
        · refine zz_iconst hx hb dX7_tryRow_46 ?_
          refine zz_istore (lv' := [(7, .int (zi 0)), (0, zr ad 30 ((0 : Nat) : Int)), (1, .int (zi ((d : Nat) : Int))), (2, .int (zi q)), (3, .int (zi ((f : Nat) : Int))), (4, .int (zi ((s9 : Nat) : Int))), (5, .int (zi ((i : Nat) : Int))), (6, .int (zi ((8 * d + yold F s8 i : Nat) : Int)))]) hx hb hl dX7_tryRow_47 (by decide) rfl (fun ls hl => ?_)
          refine hcut49 0 H19 locs19 ls ?_ hW19 hS19 (zh_sub hl [1, 2, 3, 4, 5, 6, 7, 0] rfl)
          omega
        · refine zz_iload hx hb hl 5 dX7_tryRow_36 rfl ?_
          refine zz_iload_n hx hb hl 3 dX7_tryRow_38 rfl rfl ?_
          refine zz_icmp_ne (tgt := 46) hx hb dX7_tryRow_39 (by decide) ⟨by omega, by omega⟩ ⟨by omega, by omega⟩ (fun hc39 => ?_) (fun hc39 => ?_)
          · refine zz_iconst hx hb dX7_tryRow_46 ?_
            refine zz_istore (lv' := [(7, .int (zi 0)), (0, zr ad 30 ((0 : Nat) : Int)), (1, .int (zi ((d : Nat) : Int))), (2, .int (zi q)), (3, .int (zi ((f : Nat) : Int))), (4, .int (zi ((s9 : Nat) : Int))), (5, .int (zi ((i : Nat) : Int))), (6, .int (zi ((8 * d + yold F s8 i : Nat) : Int)))]) hx hb hl dX7_tryRow_47 (by decide) rfl (fun ls hl => ?_)
            refine hcut49 0 H19 locs19 ls ?_ hW19 hS19 (zh_sub hl [1, 2, 3, 4, 5, 6, 7, 0] rfl)
            omega
          · refine zz_iconst hx hb dX7_tryRow_42 ?_
            refine zz_goto (tgt := 47) hx hb dX7_tryRow_43 (by decide) ?_
            refine zz_istore (lv' := [(7, .int (zi 1)), (0, zr ad 30 ((0 : Nat) : Int)), (1, .int (zi ((d : Nat) : Int))), (2, .int (zi q)), (3, .int (zi ((f : Nat) : Int))), (4, .int (zi ((s9 : Nat) : Int))), (5, .int (zi ((i : Nat) : Int))), (6, .int (zi ((8 * d + yold F s8 i : Nat) : Int)))]) hx hb hl dX7_tryRow_47 (by decide) rfl (fun ls hl => ?_)
            refine hcut49 1 H19 locs19 ls ?_ hW19 hS19 (zh_sub hl [1, 2, 3, 4, 5, 6, 7, 0] rfl)
            omega
      refine zz_iload hx hb hl 5 dX7_tryRow_9 rfl ?_
      refine zz_aload_n hx hb hl 0 dX7_tryRow_11 rfl rfl ?_
      refine zz_get (T := TX7) (N := 42) (k := 12) (κ := 30) (w := zr ad 52 ((0 : Nat) : Int)) hx hb hts hinX7 hown hK hW1 (zlN (hM 30 rfl)) rfl rfl rfl (by decide) (hts (.fieldLink RX7 36 "HailCityModel" "stops" "[I") (by decide +kernel)) (fun _ h9 => h9) rfl dX7_tryRow_12 ?_
      refine zz_iload_n hx hb hl 1 dX7_tryRow_15 rfl rfl ?_
      refine zz_iald (w := ((n : Nat) : Int)) hx hb hK hW1 (zlN (hM 52 rfl)) rfl rfl rfl (by show (0 : Int) ≤ ((d : Nat) : Int); omega) (by show ((d : Nat) : Int) < (8 : Int); omega) (show σ1 52 0 d = ((n : Nat) : Int) from by rw [hi3 52 0 d (by omega), hn]) dX7_tryRow_16 ?_
      refine zz_iload_n hx hb hl 2 dX7_tryRow_17 rfl rfl ?_
      refine zz_iconst hx hb dX7_tryRow_18 ?_
      refine zz_icmp_ne (tgt := 26) hx hb dX7_tryRow_19 (by decide) ⟨by omega, by omega⟩ ⟨by decide, by decide⟩ (fun hc19 => ?_) (fun hc19 => ?_)
      · refine zz_iconst hx hb dX7_tryRow_26 ?_
        refine zz_iadd hx hb dX7_tryRow_27 ?_
        refine zz_icmp_ge (tgt := 222) hx hb dX7_tryRow_28 (by decide) ⟨by omega, by omega⟩ ⟨by omega, by omega⟩ (fun hc28 => ?_) (fun hc28 => ?_)
        · refine zz_iload hx hb hl 5 dX7_tryRow_222 rfl ?_
          refine W.eq (g2 := F0 m 224 ls [.int (zi ((i : Nat) : Int))]) rfl ?_
          refine zz_reti hx hb hr hlocks hW1 hS1 ?_ dX7_tryRow_224
          exact ⟨by omega, fun j hj => hi2 j (by omega), hi3⟩
        · refine hcut31  H1 locs1 ls ?_ hW1 hS1 (zh_sub hl [0, 1, 2, 3, 4, 5, 6] rfl)
          omega
      · refine zz_iconst hx hb dX7_tryRow_22 ?_
        refine zz_goto (tgt := 27) hx hb dX7_tryRow_23 (by decide) ?_
        refine zz_iadd hx hb dX7_tryRow_27 ?_
        refine zz_icmp_ge (tgt := 222) hx hb dX7_tryRow_28 (by decide) ⟨by omega, by omega⟩ ⟨by omega, by omega⟩ (fun hc28 => ?_) (fun hc28 => ?_)
        · refine zz_iload hx hb hl 5 dX7_tryRow_222 rfl ?_
          refine W.eq (g2 := F0 m 224 ls [.int (zi ((i : Nat) : Int))]) rfl ?_
          refine zz_reti hx hb hr hlocks hW1 hS1 ?_ dX7_tryRow_224
          exact ⟨by omega, fun j hj => hi2 j (by omega), hi3⟩
        · refine hcut31  H1 locs1 ls ?_ hW1 hS1 (zh_sub hl [0, 1, 2, 3, 4, 5, 6] rfl)
          omega
  refine hcut9 _ 0 σ s.heap [] ls ?_ (Nat.lt_succ_self _) hW0 hS0 (zh_sub hl [2, 3, 4, 5, 6, 1, 0] (by rw [show yold F s8 0 = 0 from by simp [yold]]; rfl))
  exact ⟨Nat.zero_le _, fun j hj => absurd hj (Nat.not_lt_zero _), fun _ _ _ _ => rfl⟩
