/-! all ways are tried -/
theorem zi_shr : ∀ d : Nat, d < 8 → ∀ t : Nat, t < 256 → zi (t : Int) >>> (zi (d : Int) &&& 31) = zi ((t >>> d : Nat) : Int) := by decide +kernel
theorem zi_tb : ∀ d : Nat, d < 8 → ∀ t : Nat, t < 256 → zi ((t >>> d : Nat) : Int) &&& zi 1 = zi (((t.testBit d).toNat : Nat) : Int) := by decide +kernel
/-- the minutes to be with q, -1 if it may not be -/
noncomputable def ymm (σ : zS) (q d : Nat) : Int := @ite Int (ymf σ d ∧ σ 47 0 (10 * (σ 49 0 d).toNat + (σ 65 0 q).toNat) < 100000 ∧ σ 30 0 1 + σ 47 0 (10 * (σ 49 0 d).toNat + (σ 65 0 q).toNat) ≤ σ 67 0 q) (Classical.propDecidable _) (σ 47 0 (10 * (σ 49 0 d).toNat + (σ 65 0 q).toNat)) (-1)
/-- the digits of a way, from behind -/
def ydg (D w m : Nat) : Nat := w / D ^ m % D
def ytk (nd w : Nat) : Nat → Nat
  | 0 => 0
  | m + 1 => if ydg (nd + 1) w m < nd then ytk nd w m ||| 2 ^ ydg (nd + 1) w m else ytk nd w m
def yvw (mn : Nat → Nat → Int) (nd n w : Nat) : Nat → Int
  | 0 => 0
  | m + 1 => if ydg (nd + 1) w m < nd then yvw mn nd n w m + (if yok mn (n - 1 - m) (ytk nd w m) (ydg (nd + 1) w m) = true then 10000 - mn (n - 1 - m) (ydg (nd + 1) w m) else -1000000) else yvw mn nd n w m
def ybb (mn : Nat → Nat → Int) (nd n : Nat) : Nat → Int × Nat
  | 0 => (-1, 0)
  | w + 1 => if (ybb mn nd n w).1 < yvw mn nd n w n then (yvw mn nd n w n, w) else ybb mn nd n w
theorem ytk_lt {nd w : Nat} (h : nd ≤ 8) : ∀ m, ytk nd w m < 256
  | 0 => by show (0 : Nat) < 256; decide
  | m + 1 => by
    have ih := ytk_lt (w := w) h m
    show (if _ then _ else _) < 256
    split
    · rename_i c
      have h2 : (2 : Nat) ^ ydg (nd + 1) w m < 2 ^ 8 := Nat.pow_lt_pow_right (by decide) (by omega)
      exact Nat.or_lt_two_pow (n := 8) ih h2
    · exact ih
theorem yvw_rg {mn : Nat → Nat → Int} {nd n w : Nat} (h : ∀ k d, k < n → d < nd → -1 ≤ mn k d ∧ mn k d ≤ 100000) : ∀ m : Nat, m ≤ n → -1000000 * (m : Int) ≤ yvw mn nd n w m ∧ yvw mn nd n w m ≤ 10001 * (m : Int)
  | 0, _ => ⟨Int.le_refl _, Int.le_refl _⟩
  | m + 1, hm => by
    have ih := yvw_rg (w := w) h m (by omega)
    by_cases c : ydg (nd + 1) w m < nd
    · have h2 := h (n - 1 - m) _ (by omega) c
      by_cases y : yok mn (n - 1 - m) (ytk nd w m) (ydg (nd + 1) w m) = true
      · have e : yvw mn nd n w (m + 1) = yvw mn nd n w m + (10000 - mn (n - 1 - m) (ydg (nd + 1) w m)) := (if_pos c).trans (by rw [if_pos y])
        omega
      · have e : yvw mn nd n w (m + 1) = yvw mn nd n w m + (-1000000) := (if_pos c).trans (by rw [if_neg y])
        omega
    · have e : yvw mn nd n w (m + 1) = yvw mn nd n w m := if_neg c
      omega
theorem ymf_fr {σ u : zS} {d : Nat} (h1 : u 52 0 d = σ 52 0 d) (h2 : u 50 0 d = σ 50 0 d) (h3 : u 51 0 d = σ 51 0 d) : ymf u d = ymf σ d := by
  unfold ymf
  rw [h1, h2, h3]
theorem ymm_rg (σ : zS) (q d : Nat) (h : 0 ≤ σ 47 0 (10 * (σ 49 0 d).toNat + (σ 65 0 q).toNat)) : -1 ≤ ymm σ q d ∧ ymm σ q d ≤ 100000 := by
  unfold ymm
  split
  · rename_i c; exact ⟨by omega, by have := c.2.1; omega⟩
  · exact ⟨by decide, by decide⟩

set_option maxHeartbeats 4000000 in
set_option maxRecDepth 100000 in
theorem c_X7_tryAll (l : Launch) (G : zG) (ad : zA) (A : Nat → Prop) (N0 : Nat) (σ : zS) (hM : zMm ad) (nd n : Nat) (hnd : nd ≤ 8) (hn5 : n ≤ 5) (h8 : σ 30 0 8 = (nd : Int)) (has : ∀ k, k < n → (0 ≤ σ 75 0 k ∧ σ 75 0 k < 60) ∧ 0 ≤ σ 65 0 (σ 75 0 k).toNat ∧ σ 65 0 (σ 75 0 k).toNat < 10) (hpl : ∀ d, d < nd → 0 ≤ σ 49 0 d ∧ σ 49 0 d < 10) (hww : ∀ a b, a < 10 → b < 10 → 0 ≤ σ 47 0 (10 * a + b) ∧ σ 47 0 (10 * a + b) ≤ 100000) (hnow : 0 ≤ σ 30 0 1 ∧ σ 30 0 1 ≤ 20000) : Met l yX7_tryAll wsX7_tryAll ({ frames := 1, cells := 0, slots := 0, locals := 22 }) (zP G ad A N0 σ [zr ad 30 ((0 : Nat) : Int), .int (zi ((n : Nat) : Int))]) (zQ G ad A zrv (fun _ u => u 30 0 38 = (ybb (fun k d => ymm σ (σ 75 0 k).toNat d) nd n ((nd + 1) ^ n)).1 ∧ ((ybb (fun k d => ymm σ (σ 75 0 k).toNat d) nd n ((nd + 1) ^ n)).1 ≠ -1 → ∀ k, k < n → u 77 0 k = ((ydg (nd + 1) (ybb (fun k d => ymm σ (σ 75 0 k).toNat d) nd n ((nd + 1) ^ n)).2 (n - 1 - k) : Nat) : Int)) ∧ zfr (fun κ _ k => κ = 76 ∨ κ = 77 ∨ (κ = 30 ∧ k = 38)) σ u)) 0 0 A := by
  refine zz_of (cc := cX7_tryAll) (maxL := 11) (ret := none) (by decide) rfl ⟨rfl, rfl⟩ (List.forall_mem_cons.mpr ⟨zr_cat _ _ _, List.forall_mem_cons.mpr ⟨rfl, fun _ h => absurd h List.not_mem_nil⟩⟩) (Nat.le_of_ble_eq_true rfl) ?_
  intro p e s m below meth c hx hb hr hml hts hown hlocks hsz hW0 hK ls hl
  have hS0 : va_S A s.heap s.heap [] := va_S.rf
  have hl : zh ls 11 [(0, zr ad 30 ((0 : Nat) : Int)), (1, .int (zi ((n : Nat) : Int)))] := hl
  have hinX7 : ∀ w ∈ u_ws RX7 TX7 42, w ∈ wsX7_tryAll := by decide +kernel
  have hwn : ∀ k d, k < n → d < nd → 0 ≤ σ 47 0 (10 * (σ 49 0 d).toNat + (σ 65 0 (σ 75 0 k).toNat).toNat) := fun k d hk hd => by
    have h1 := has k hk
    have h2 := hpl d hd
    exact (hww _ _ (by omega) (by omega)).1
  refine zz_iconst hx hb dX7_tryAll_0 ?_
  refine zz_istore_n (lv' := [(2, .int (zi 1)), (0, zr ad 30 ((0 : Nat) : Int)), (1, .int (zi ((n : Nat) : Int)))]) hx hb hl dX7_tryAll_1 rfl (by decide) rfl (fun ls hl => ?_)
  refine zz_iconst hx hb dX7_tryAll_2 ?_
  refine zz_istore_n (lv' := [(3, .int (zi 0)), (2, .int (zi 1)), (0, zr ad 30 ((0 : Nat) : Int)), (1, .int (zi ((n : Nat) : Int)))]) hx hb hl dX7_tryAll_3 rfl (by decide) rfl (fun ls hl => ?_)
  have hcut4 : ∀ (n9 : Nat) (k : Nat)  (H9 : Heap) (locs9 : List Loc) (ls : Array Slot), (k ≤ n) → (n - k) < n9 → ZW G ad A σ H9 → va_S A s.heap H9 locs9 → zh ls 11 [(0, zr ad 30 ((0 : Nat) : Int)), (1, .int (zi ((n : Nat) : Int))), (2, .int (zi (((nd + 1) ^ k : Nat) : Int))), (3, .int (zi ((k : Nat) : Int)))] → W p l e ({ frames := 1, cells := 0, slots := 0, locals := 22 }) s m ([zr ad 30 ((0 : Nat) : Int), .int (zi ((n : Nat) : Int))] : List Value).toArray below meth c H9 locs9 0 0 (MQ below (zQ G ad A zrv (fun _ u => u 30 0 38 = (ybb (fun k d => ymm σ (σ 75 0 k).toNat d) nd n ((nd + 1) ^ n)).1 ∧ ((ybb (fun k d => ymm σ (σ 75 0 k).toNat d) nd n ((nd + 1) ^ n)).1 ≠ -1 → ∀ k, k < n → u 77 0 k = ((ydg (nd + 1) (ybb (fun k d => ymm σ (σ 75 0 k).toNat d) nd n ((nd + 1) ^ n)).2 (n - 1 - k) : Nat) : Int)) ∧ zfr (fun κ _ k => κ = 76 ∨ κ = 77 ∨ (κ = 30 ∧ k = 38)) σ u)) ([zr ad 30 ((0 : Nat) : Int), .int (zi ((n : Nat) : Int))] : List Value).toArray s 0 0 A) (F0 m 4 ls []) := by
    intro n9
    induction n9 with
    | zero =>
      intro k H1 locs1 ls hI4 hm4 hW1 hS1 hl
      exact absurd hm4 (Nat.not_lt_zero _)
    | succ n9 ih4 =>
      intro k H1 locs1 ls hI4 hm4 hW1 hS1 hl
      have hkb : (nd + 1) ^ k ≤ 59049 := Nat.le_trans (Nat.pow_le_pow_left (show nd + 1 ≤ 9 by omega) k) (Nat.pow_le_pow_right (by decide) (show k ≤ 5 by omega) : 9 ^ k ≤ 9 ^ 5)
      refine zz_iload_n hx hb hl 3 dX7_tryAll_4 rfl rfl ?_
      refine zz_iload_n hx hb hl 1 dX7_tryAll_5 rfl rfl ?_
      refine zz_icmp_ge (tgt := 24) hx hb dX7_tryAll_6 (by decide) ⟨by omega, by omega⟩ ⟨by omega, by omega⟩ (fun hc6 => ?_) (fun hc6 => ?_)
      · obtain ⟨W9, hWd⟩ : ∃ z, z = (nd + 1) ^ n := ⟨_, rfl⟩
        have hkW : (nd + 1) ^ k = W9 := by rw [hWd, show k = n by omega]
        have hWb : W9 ≤ 59049 := by
          rw [hWd]
          exact Nat.le_trans (Nat.pow_le_pow_left (show nd + 1 ≤ 9 by omega) n) (Nat.pow_le_pow_right (by decide) hn5 : 9 ^ n ≤ 9 ^ 5)
        have hl : zh ls 11 [(0, zr ad 30 ((0 : Nat) : Int)), (1, .int (zi ((n : Nat) : Int))), (2, .int (zi ((W9 : Nat) : Int))), (3, .int (zi ((k : Nat) : Int)))] := by
          rw [← hkW]
          exact hl
        refine zz_aload_n hx hb hl 0 dX7_tryAll_24 rfl rfl ?_
        refine zz_iconst hx hb dX7_tryAll_25 ?_
        refine zz_put (T := TX7) (N := 42) (k := 38) (κ := 30) (v := ((0 : Nat) : Int)) (x := (-1)) (ty := .int) hx hb hts hinX7 tyX7 tyX7_ok nmX7 hown hK hW1 hS1 (zlN (hM 30 rfl)) rfl rfl rfl (by decide) (hts (.fieldLink RX7 188 "HailCityModel" "bestWorth" "I") (by decide +kernel)) (fun _ h9 => h9) rfl (by decide +kernel) rfl rfl rfl ⟨by decide, by decide⟩ (fun h9 _ => absurd h9 (by decide)) (fun h9 => absurd h9 (by decide)) dX7_tryAll_26 (fun H2 locs2 hW2' hS2 => ?_)
        obtain ⟨σ2, hs2⟩ : ∃ z, z = zu σ 30 0 38 (-1) := ⟨_, rfl⟩
        have hW2 : ZW G ad A σ2 H2 := by rw [hs2]; exact hW2'
        refine zz_iconst hx hb dX7_tryAll_29 ?_
        refine zz_istore_n (lv' := [(3, .int (zi 0)), (0, zr ad 30 ((0 : Nat) : Int)), (1, .int (zi ((n : Nat) : Int))), (2, .int (zi ((W9 : Nat) : Int)))]) hx hb hl dX7_tryAll_30 rfl (by decide) rfl (fun ls hl => ?_)
        have hcut31 : ∀ (n9 : Nat) (w : Nat)  (σ9 : zS) (H9 : Heap) (locs9 : List Loc) (ls : Array Slot), (w ≤ W9 ∧ σ9 30 0 38 = (ybb (fun k d => ymm σ (σ 75 0 k).toNat d) nd n w).1 ∧ ((ybb (fun k d => ymm σ (σ 75 0 k).toNat d) nd n w).1 ≠ -1 → ∀ k, k < n → σ9 77 0 k = ((ydg (nd + 1) (ybb (fun k d => ymm σ (σ 75 0 k).toNat d) nd n w).2 (n - 1 - k) : Nat) : Int)) ∧ zfr (fun κ _ k => κ = 76 ∨ κ = 77 ∨ (κ = 30 ∧ k = 38)) σ σ9) → (W9 - w) < n9 → ZW G ad A σ9 H9 → va_S A s.heap H9 locs9 → zh ls 11 [(0, zr ad 30 ((0 : Nat) : Int)), (1, .int (zi ((n : Nat) : Int))), (2, .int (zi ((W9 : Nat) : Int))), (3, .int (zi ((w : Nat) : Int)))] → W p l e ({ frames := 1, cells := 0, slots := 0, locals := 22 }) s m ([zr ad 30 ((0 : Nat) : Int), .int (zi ((n : Nat) : Int))] : List Value).toArray below meth c H9 locs9 0 0 (MQ below (zQ G ad A zrv (fun _ u => u 30 0 38 = (ybb (fun k d => ymm σ (σ 75 0 k).toNat d) nd n ((nd + 1) ^ n)).1 ∧ ((ybb (fun k d => ymm σ (σ 75 0 k).toNat d) nd n ((nd + 1) ^ n)).1 ≠ -1 → ∀ k, k < n → u 77 0 k = ((ydg (nd + 1) (ybb (fun k d => ymm σ (σ 75 0 k).toNat d) nd n ((nd + 1) ^ n)).2 (n - 1 - k) : Nat) : Int)) ∧ zfr (fun κ _ k => κ = 76 ∨ κ = 77 ∨ (κ = 30 ∧ k = 38)) σ u)) ([zr ad 30 ((0 : Nat) : Int), .int (zi ((n : Nat) : Int))] : List Value).toArray s 0 0 A) (F0 m 31 ls []) := by
          intro n9
          induction n9 with
          | zero =>
            intro w σ3 H3 locs3 ls hI31 hm31 hW3 hS3 hl
            exact absurd hm31 (Nat.not_lt_zero _)
          | succ n9 ih31 =>
            intro w σ3 H3 locs3 ls hI31 hm31 hW3 hS3 hl
            obtain ⟨hw1, hb1, hb2, hf31⟩ := hI31
            refine zz_iload_n hx hb hl 3 dX7_tryAll_31 rfl rfl ?_
            refine zz_iload_n hx hb hl 2 dX7_tryAll_32 rfl rfl ?_
            refine zz_icmp_ge (tgt := 261) hx hb dX7_tryAll_33 (by decide) ⟨by omega, by omega⟩ ⟨by omega, by omega⟩ (fun hc33 => ?_) (fun hc33 => ?_)
            · refine W.eq (g2 := F0 m 261 ls []) rfl ?_
              refine zz_retv hx hb hr hlocks hW3 hS3 ?_ dX7_tryAll_261
              obtain rfl : w = W9 := by omega
              rw [← hWd]
              exact ⟨hb1, hb2, hf31⟩
            · refine zz_iload_n hx hb hl 3 dX7_tryAll_36 rfl rfl ?_
              refine zz_istore (lv' := [(4, .int (zi ((w : Nat) : Int))), (0, zr ad 30 ((0 : Nat) : Int)), (1, .int (zi ((n : Nat) : Int))), (2, .int (zi ((W9 : Nat) : Int))), (3, .int (zi ((w : Nat) : Int)))]) hx hb hl dX7_tryAll_37 (by decide) rfl (fun ls hl => ?_)
              refine zz_iconst hx hb dX7_tryAll_39 ?_
              refine zz_istore (lv' := [(5, .int (zi 0)), (4, .int (zi ((w : Nat) : Int))), (0, zr ad 30 ((0 : Nat) : Int)), (1, .int (zi ((n : Nat) : Int))), (2, .int (zi ((W9 : Nat) : Int))), (3, .int (zi ((w : Nat) : Int)))]) hx hb hl dX7_tryAll_40 (by decide) rfl (fun ls hl => ?_)
              refine zz_iconst hx hb dX7_tryAll_42 ?_
              refine zz_istore (lv' := [(6, .int (zi 0)), (5, .int (zi 0)), (4, .int (zi ((w : Nat) : Int))), (0, zr ad 30 ((0 : Nat) : Int)), (1, .int (zi ((n : Nat) : Int))), (2, .int (zi ((W9 : Nat) : Int))), (3, .int (zi ((w : Nat) : Int)))]) hx hb hl dX7_tryAll_43 (by decide) rfl (fun ls hl => ?_)
              refine zz_iload_n hx hb hl 4 dX7_tryAll_45 rfl rfl ?_
              refine zz_iconst hx hb dX7_tryAll_46 ?_
              refine zz_isub hx hb dX7_tryAll_47 ?_
              refine zz_istore (lv' := [(7, .int (zi (((n : Nat) : Int) - 1))), (6, .int (zi 0)), (5, .int (zi 0)), (4, .int (zi ((w : Nat) : Int))), (0, zr ad 30 ((0 : Nat) : Int)), (1, .int (zi ((n : Nat) : Int))), (2, .int (zi ((W9 : Nat) : Int))), (3, .int (zi ((w : Nat) : Int)))]) hx hb hl dX7_tryAll_48 (by decide) rfl (fun ls hl => ?_)
              have hcut50 : ∀ (n9 : Nat) (j5 rest T : Nat) (Wt : Int)  (σ9 : zS) (H9 : Heap) (locs9 : List Loc) (ls : Array Slot), (j5 ≤ n ∧ rest = w / (nd + 1) ^ j5 ∧ T = ytk nd w j5 ∧ Wt = yvw (fun k d => ymm σ (σ 75 0 k).toNat d) nd n w j5 ∧ (∀ k, k < n → n ≤ k + j5 → σ9 76 0 k = ((ydg (nd + 1) w (n - 1 - k) : Nat) : Int)) ∧ zfr (fun κ _ _ => κ = 76) σ3 σ9) → (n - j5) < n9 → ZW G ad A σ9 H9 → va_S A s.heap H9 locs9 → zh ls 11 [(0, zr ad 30 ((0 : Nat) : Int)), (1, .int (zi ((n : Nat) : Int))), (2, .int (zi ((W9 : Nat) : Int))), (3, .int (zi ((w : Nat) : Int))), (4, .int (zi ((rest : Nat) : Int))), (5, .int (zi ((T : Nat) : Int))), (6, .int (zi Wt)), (7, .int (zi (((n : Nat) : Int) - 1 - ((j5 : Nat) : Int))))] → W p l e ({ frames := 1, cells := 0, slots := 0, locals := 22 }) s m ([zr ad 30 ((0 : Nat) : Int), .int (zi ((n : Nat) : Int))] : List Value).toArray below meth c H9 locs9 0 0 (MQ below (zQ G ad A zrv (fun _ u => u 30 0 38 = (ybb (fun k d => ymm σ (σ 75 0 k).toNat d) nd n ((nd + 1) ^ n)).1 ∧ ((ybb (fun k d => ymm σ (σ 75 0 k).toNat d) nd n ((nd + 1) ^ n)).1 ≠ -1 → ∀ k, k < n → u 77 0 k = ((ydg (nd + 1) (ybb (fun k d => ymm σ (σ 75 0 k).toNat d) nd n ((nd + 1) ^ n)).2 (n - 1 - k) : Nat) : Int)) ∧ zfr (fun κ _ k => κ = 76 ∨ κ = 77 ∨ (κ = 30 ∧ k = 38)) σ u)) ([zr ad 30 ((0 : Nat) : Int), .int (zi ((n : Nat) : Int))] : List Value).toArray s 0 0 A) (F0 m 50 ls []) := by
                intro n9
                induction n9 with
                | zero =>
                  intro j5 rest T Wt σ4 H4 locs4 ls hI50 hm50 hW4 hS4 hl
                  exact absurd hm50 (Nat.not_lt_zero _)
                | succ n9 ih50 =>
                  intro j5 rest T Wt σ4 H4 locs4 ls hI50 hm50 hW4 hS4 hl
                  obtain ⟨hm1, hr, hT, hWt, hg, hf50⟩ := hI50
                  refine zz_iload hx hb hl 7 dX7_tryAll_50 rfl ?_
                  refine zz_if_lt (tgt := 211) hx hb dX7_tryAll_52 (by decide) ⟨by omega, by omega⟩ (fun hc52 => ?_) (fun hc52 => ?_)
                  · have hjn : j5 = n := by omega
                    have hWt2 := hWt
                    rw [hjn] at hWt2
                    have hWr := yvw_rg (mn := (fun k d => ymm σ (σ 75 0 k).toNat d)) (nd := nd) (n := n) (w := w) (fun k d hk hd => ymm_rg σ _ d (hwn k d hk hd)) n (Nat.le_refl _)
                    rw [← hWt2] at hWr
                    have hbr := hW4.2.2.1 30 0 38
                    have hb3 : σ4 30 0 38 = (ybb (fun k d => ymm σ (σ 75 0 k).toNat d) nd n w).1 := by rw [hf50 30 0 38 (by omega)]; exact hb1
                    refine zz_iload hx hb hl 6 dX7_tryAll_211 rfl ?_
                    refine zz_aload_n hx hb hl 0 dX7_tryAll_213 rfl rfl ?_
                    refine zz_get (T := TX7) (N := 42) (k := 38) (κ := 30) (w := .int (zi (σ3 30 0 38))) hx hb hts hinX7 hown hK hW4 (zlN (hM 30 rfl)) rfl rfl rfl (by decide) (hts (.fieldLink RX7 188 "HailCityModel" "bestWorth" "I") (by decide +kernel)) (fun _ h9 => h9) (congrArg (fun z => Value.int (zi z)) (show σ4 30 0 38 = σ3 30 0 38 from by rw [hf50 30 0 38 (by omega)])) dX7_tryAll_214 ?_
                    refine zz_icmp_le (tgt := 255) hx hb dX7_tryAll_217 (by decide) ⟨by omega, by omega⟩ (hW3.2.2.1 _ _ _) (fun hc217 => ?_) (fun hc217 => ?_)
                    · refine zz_iinc (lv' := [(3, .int (zi ((w + 1 : Nat) : Int))), (0, zr ad 30 ((0 : Nat) : Int)), (1, .int (zi ((n : Nat) : Int))), (2, .int (zi ((W9 : Nat) : Int))), (4, .int (zi ((rest : Nat) : Int))), (5, .int (zi ((T : Nat) : Int))), (6, .int (zi Wt)), (7, .int (zi (((n : Nat) : Int) - 1 - ((j5 : Nat) : Int))))]) hx hb hl dX7_tryAll_255 (k0 := 3) rfl (by decide) rfl (fun ls hl => ?_)
                      refine zz_goto (tgt := 31) hx hb dX7_tryAll_258 (by decide) ?_
                      refine ih31 (w + 1) σ4 H4 locs4 ls ?_ (by omega) hW4 hS4 (zh_sub hl [1, 2, 3, 0] rfl)
                      refine ⟨by omega, ?_, ?_, ?_⟩
                      · show _ = (if (ybb (fun k d => ymm σ (σ 75 0 k).toNat d) nd n w).1 < yvw (fun k d => ymm σ (σ 75 0 k).toNat d) nd n w n then _ else _ : Int × Nat).1
                        rw [if_neg (by omega), hf50 30 0 38 (by omega)]
                        exact hb1
                      · intro h9 k9 hk9
                        have h8' : (if (ybb (fun k d => ymm σ (σ 75 0 k).toNat d) nd n w).1 < yvw (fun k d => ymm σ (σ 75 0 k).toNat d) nd n w n then (yvw (fun k d => ymm σ (σ 75 0 k).toNat d) nd n w n, w) else ybb (fun k d => ymm σ (σ 75 0 k).toNat d) nd n w).1 ≠ -1 := h9
                        rw [if_neg (by omega)] at h8'
                        show _ = ((ydg (nd + 1) (if (ybb (fun k d => ymm σ (σ 75 0 k).toNat d) nd n w).1 < yvw (fun k d => ymm σ (σ 75 0 k).toNat d) nd n w n then _ else _ : Int × Nat).2 (n - 1 - k9) : Nat) : Int)
                        rw [if_neg (by omega), hf50 77 0 k9 (by omega)]
                        exact hb2 h8' k9 hk9
                      · intro κ i k9 h
                        rw [hf50 κ i k9 (by omega)]
                        exact hf31 κ i k9 h
                    · refine zz_aload_n hx hb hl 0 dX7_tryAll_220 rfl rfl ?_
                      refine zz_iload hx hb hl 6 dX7_tryAll_221 rfl ?_
                      refine zz_put (T := TX7) (N := 42) (k := 38) (κ := 30) (v := ((0 : Nat) : Int)) (x := Wt) (ty := .int) hx hb hts hinX7 tyX7 tyX7_ok nmX7 hown hK hW4 hS4 (zlN (hM 30 rfl)) rfl rfl rfl (by decide) (hts (.fieldLink RX7 188 "HailCityModel" "bestWorth" "I") (by decide +kernel)) (fun _ h9 => h9) rfl (by decide +kernel) rfl rfl rfl ⟨by omega, by omega⟩ (fun h9 _ => absurd h9 (by decide)) (fun h9 => absurd h9 (by decide)) dX7_tryAll_223 (fun H5 locs5 hW5' hS5 => ?_)
                      obtain ⟨σ5, hs5⟩ : ∃ z, z = zu σ4 30 0 38 Wt := ⟨_, rfl⟩
                      have hW5 : ZW G ad A σ5 H5 := by rw [hs5]; exact hW5'
                      
                      refine zz_iconst hx hb dX7_tryAll_226 ?_
                      refine zz_istore (lv' := [(7, .int (zi 0)), (0, zr ad 30 ((0 : Nat) : Int)), (1, .int (zi ((n : Nat) : Int))), (2, .int (zi ((W9 : Nat) : Int))), (3, .int (zi ((w : Nat) : Int))), (4, .int (zi ((rest : Nat) : Int))), (5, .int (zi ((T : Nat) : Int))), (6, .int (zi Wt))]) hx hb hl dX7_tryAll_227 (by decide) rfl (fun ls hl => ?_)
                      have hcut229 : ∀ (n9 : Nat) (k : Nat)  (σ9 : zS) (H9 : Heap) (locs9 : List Loc) (ls : Array Slot), (k ≤ n ∧ (∀ j, j < k → σ9 77 0 j = σ5 76 0 j) ∧ zfr (fun κ _ _ => κ = 77) σ5 σ9) → (n - k) < n9 → ZW G ad A σ9 H9 → va_S A s.heap H9 locs9 → zh ls 11 [(0, zr ad 30 ((0 : Nat) : Int)), (1, .int (zi ((n : Nat) : Int))), (2, .int (zi ((W9 : Nat) : Int))), (3, .int (zi ((w : Nat) : Int))), (7, .int (zi ((k : Nat) : Int)))] → W p l e ({ frames := 1, cells := 0, slots := 0, locals := 22 }) s m ([zr ad 30 ((0 : Nat) : Int), .int (zi ((n : Nat) : Int))] : List Value).toArray below meth c H9 locs9 0 0 (MQ below (zQ G ad A zrv (fun _ u => u 30 0 38 = (ybb (fun k d => ymm σ (σ 75 0 k).toNat d) nd n ((nd + 1) ^ n)).1 ∧ ((ybb (fun k d => ymm σ (σ 75 0 k).toNat d) nd n ((nd + 1) ^ n)).1 ≠ -1 → ∀ k, k < n → u 77 0 k = ((ydg (nd + 1) (ybb (fun k d => ymm σ (σ 75 0 k).toNat d) nd n ((nd + 1) ^ n)).2 (n - 1 - k) : Nat) : Int)) ∧ zfr (fun κ _ k => κ = 76 ∨ κ = 77 ∨ (κ = 30 ∧ k = 38)) σ u)) ([zr ad 30 ((0 : Nat) : Int), .int (zi ((n : Nat) : Int))] : List Value).toArray s 0 0 A) (F0 m 229 ls []) := by
                        intro n9
                        induction n9 with
                        | zero =>
                          intro k σ6 H6 locs6 ls hI229 hm229 hW6 hS6 hl
                          exact absurd hm229 (Nat.not_lt_zero _)
                        | succ n9 ih229 =>
                          intro k σ6 H6 locs6 ls hI229 hm229 hW6 hS6 hl
                          obtain ⟨hk1, hcp, hf229⟩ := hI229
                          refine zz_iload hx hb hl 4 dX7_tryAll_229 rfl ?_
                          refine zz_iload_n hx hb hl 1 dX7_tryAll_231 rfl rfl ?_
                          refine zz_icmp_ge (tgt := 255) hx hb dX7_tryAll_232 (by decide) ⟨by omega, by omega⟩ ⟨by omega, by omega⟩ (fun hc232 => ?_) (fun hc232 => ?_)
                          · refine zz_iinc (lv' := [(3, .int (zi ((w + 1 : Nat) : Int))), (0, zr ad 30 ((0 : Nat) : Int)), (1, .int (zi ((n : Nat) : Int))), (2, .int (zi ((W9 : Nat) : Int))), (7, .int (zi ((k : Nat) : Int)))]) hx hb hl dX7_tryAll_255 (k0 := 3) rfl (by decide) rfl (fun ls hl => ?_)
                            refine zz_goto (tgt := 31) hx hb dX7_tryAll_258 (by decide) ?_
                            refine ih31 (w + 1) σ6 H6 locs6 ls ?_ (by omega) hW6 hS6 (zh_sub hl [1, 2, 3, 0] rfl)
                            refine ⟨by omega, ?_, ?_, ?_⟩
                            · show _ = (if (ybb (fun k d => ymm σ (σ 75 0 k).toNat d) nd n w).1 < yvw (fun k d => ymm σ (σ 75 0 k).toNat d) nd n w n then _ else _ : Int × Nat).1
                              rw [if_pos (by omega), hf229 30 0 38 (by omega), hs5, zu_same]
                              exact hWt2
                            · intro _ k9 hk9
                              show _ = ((ydg (nd + 1) (if (ybb (fun k d => ymm σ (σ 75 0 k).toNat d) nd n w).1 < yvw (fun k d => ymm σ (σ 75 0 k).toNat d) nd n w n then _ else _ : Int × Nat).2 (n - 1 - k9) : Nat) : Int)
                              rw [if_pos (by omega), hcp k9 (by omega), hs5, zu_ne (by omega)]
                              exact hg k9 hk9 (by omega)
                            · intro κ i k9 h
                              rw [hf229 κ i k9 (by omega), hs5, zu_ne (by omega), hf50 κ i k9 (by omega)]
                              exact hf31 κ i k9 h
                          · refine zz_aload_n hx hb hl 0 dX7_tryAll_235 rfl rfl ?_
                            refine zz_get (T := TX7) (N := 42) (k := 37) (κ := 30) (w := zr ad 77 ((0 : Nat) : Int)) hx hb hts hinX7 hown hK hW6 (zlN (hM 30 rfl)) rfl rfl rfl (by decide) (hts (.fieldLink RX7 105 "HailCityModel" "best" "[I") (by decide +kernel)) (fun _ h9 => h9) rfl dX7_tryAll_236 ?_
                            refine zz_iload hx hb hl 4 dX7_tryAll_239 rfl ?_
                            refine zz_aload_n hx hb hl 0 dX7_tryAll_241 rfl rfl ?_
                            refine zz_get (T := TX7) (N := 42) (k := 36) (κ := 30) (w := zr ad 76 ((0 : Nat) : Int)) hx hb hts hinX7 hown hK hW6 (zlN (hM 30 rfl)) rfl rfl rfl (by decide) (hts (.fieldLink RX7 102 "HailCityModel" "given" "[I") (by decide +kernel)) (fun _ h9 => h9) rfl dX7_tryAll_242 ?_
                            refine zz_iload hx hb hl 4 dX7_tryAll_245 rfl ?_
                            refine zz_iald (w := σ4 76 0 k) hx hb hK hW6 (zlN (hM 76 rfl)) rfl rfl rfl (by show (0 : Int) ≤ ((k : Nat) : Int); omega) (by show ((k : Nat) : Int) < (5 : Int); omega) (show σ6 76 0 k = σ4 76 0 k from by rw [hf229 76 0 k (by omega), hs5, zu_k (by decide)]) dX7_tryAll_247 ?_
                            refine zz_iast (y := (σ4 76 0 k)) hx hb hK hW6 hS6 (zlN (hM 77 rfl)) rfl rfl rfl (by show (0 : Int) ≤ ((k : Nat) : Int); omega) (by show ((k : Nat) : Int) < (5 : Int); omega) (hW4.2.2.1 _ _ _) dX7_tryAll_248 (fun H7 locs7 hW7' hS7 => ?_)
                            obtain ⟨σ7, hs7⟩ : ∃ z, z = zu σ6 77 0 k (σ4 76 0 k) := ⟨_, rfl⟩
                            have hW7 : ZW G ad A σ7 H7 := by rw [hs7]; exact hW7'
                            refine zz_iinc (lv' := [(7, .int (zi ((k + 1 : Nat) : Int))), (0, zr ad 30 ((0 : Nat) : Int)), (1, .int (zi ((n : Nat) : Int))), (2, .int (zi ((W9 : Nat) : Int))), (3, .int (zi ((w : Nat) : Int)))]) hx hb hl dX7_tryAll_249 (k0 := 4) rfl (by decide) rfl (fun ls hl => ?_)
                            refine zz_goto (tgt := 229) hx hb dX7_tryAll_252 (by decide) ?_
                            refine ih229 (k + 1) σ7 H7 locs7 ls ?_ (by omega) hW7 hS7 (zh_sub hl [1, 2, 3, 4, 0] rfl)
                            refine ⟨by omega, ?_, ?_⟩
                            · intro j hj
                              by_cases e : j = k
                              · rw [hs7, e, zu_same, hs5, zu_ne (by omega)]
                              · rw [hs7, zu_ne (by omega)]; exact hcp j (by omega)
                            · intro κ i j h
                              rw [hs7, zu_ne (by omega)]; exact hf229 κ i j h
                      refine hcut229 _ 0 σ5 H5 locs5 ls ?_ (Nat.lt_succ_self _) hW5 hS5 (zh_sub hl [1, 2, 3, 4, 0] rfl)
                      exact ⟨Nat.zero_le _, fun j hj => absurd hj (Nat.not_lt_zero j), fun _ _ _ _ => rfl⟩
                  · have hkm : ((n : Nat) : Int) - 1 - ((j5 : Nat) : Int) = ((n - 1 - j5 : Nat) : Int) := by omega
                    have hT2 : T < 256 := by rw [hT]; exact ytk_lt hnd j5
                    have hWr := yvw_rg (mn := (fun k d => ymm σ (σ 75 0 k).toNat d)) (nd := nd) (n := n) (w := w) (fun k d hk hd => ymm_rg σ _ d (hwn k d hk hd)) j5 (by omega)
                    rw [← hWt] at hWr
                    obtain ⟨d9, hd9⟩ : ∃ z, z = ydg (nd + 1) w j5 := ⟨_, rfl⟩
                    have hd8 : d9 ≤ nd := by rw [hd9]; exact Nat.le_of_lt_succ (Nat.mod_lt _ (Nat.succ_pos _))
                    have hrw : rest ≤ w := by rw [hr]; exact Nat.div_le_self _ _
                    have hl : zh ls 11 [(0, zr ad 30 ((0 : Nat) : Int)), (1, .int (zi ((n : Nat) : Int))), (2, .int (zi ((W9 : Nat) : Int))), (3, .int (zi ((w : Nat) : Int))), (4, .int (zi ((rest : Nat) : Int))), (5, .int (zi ((T : Nat) : Int))), (6, .int (zi Wt)), (7, .int (zi (((n - 1 - j5) : Nat) : Int)))] := by
                      rw [← hkm]
                      exact hl
                    refine zz_iload hx hb hl 4 dX7_tryAll_55 rfl ?_
                    refine zz_aload_n hx hb hl 0 dX7_tryAll_57 rfl rfl ?_
                    refine zz_get (T := TX7) (N := 42) (k := 8) (κ := 30) (w := .int (zi ((nd : Nat) : Int))) hx hb hts hinX7 hown hK hW4 (zlN (hM 30 rfl)) rfl rfl rfl (by decide) (hts (.fieldLink RX7 127 "HailCityModel" "drivers" "I") (by decide +kernel)) (fun _ h9 => h9) (congrArg (fun z => Value.int (zi z)) (show σ4 30 0 8 = ((nd : Nat) : Int) from by rw [hf50 30 0 8 (by omega), hf31 30 0 8 (by omega), h8])) dX7_tryAll_58 ?_
                    refine zz_iconst hx hb dX7_tryAll_61 ?_
                    refine zz_iadd hx hb dX7_tryAll_62 ?_
                    refine zz_iremw (w := ((d9 : Nat) : Int)) hx hb (by rw [hd9, hr]; rfl) dX7_tryAll_63 ⟨by omega, by omega⟩ ⟨by omega, by omega⟩ (by omega) (by omega) ?_
                    refine zz_istore (lv' := [(8, .int (zi ((d9 : Nat) : Int))), (0, zr ad 30 ((0 : Nat) : Int)), (1, .int (zi ((n : Nat) : Int))), (2, .int (zi ((W9 : Nat) : Int))), (3, .int (zi ((w : Nat) : Int))), (4, .int (zi ((rest : Nat) : Int))), (5, .int (zi ((T : Nat) : Int))), (6, .int (zi Wt)), (7, .int (zi (((n - 1 - j5) : Nat) : Int)))]) hx hb hl dX7_tryAll_64 (by decide) rfl (fun ls hl => ?_)
                    refine zz_iload hx hb hl 5 dX7_tryAll_66 rfl ?_
                    refine zz_aload_n hx hb hl 1 dX7_tryAll_68 rfl rfl ?_
                    refine zz_get (T := TX7) (N := 42) (k := 8) (κ := 30) (w := .int (zi ((nd : Nat) : Int))) hx hb hts hinX7 hown hK hW4 (zlN (hM 30 rfl)) rfl rfl rfl (by decide) (hts (.fieldLink RX7 127 "HailCityModel" "drivers" "I") (by decide +kernel)) (fun _ h9 => h9) (congrArg (fun z => Value.int (zi z)) (show σ4 30 0 8 = ((nd : Nat) : Int) from by rw [hf50 30 0 8 (by omega), hf31 30 0 8 (by omega), h8])) dX7_tryAll_69 ?_
                    refine zz_iconst hx hb dX7_tryAll_72 ?_
                    refine zz_iadd hx hb dX7_tryAll_73 ?_
                    refine zz_idivw (w := ((w / (nd + 1) ^ (j5 + 1) : Nat) : Int)) hx hb (by rw [hr]; exact congrArg Int.ofNat (show w / (nd + 1) ^ j5 / (nd + 1) = w / (nd + 1) ^ (j5 + 1) from by rw [Nat.div_div_eq_div_mul, Nat.pow_succ])) dX7_tryAll_74 ⟨by omega, by omega⟩ ⟨by omega, by omega⟩ (by omega) (by omega) ?_
                    refine zz_istore (lv' := [(4, .int (zi ((w / (nd + 1) ^ (j5 + 1) : Nat) : Int))), (8, .int (zi ((d9 : Nat) : Int))), (0, zr ad 30 ((0 : Nat) : Int)), (1, .int (zi ((n : Nat) : Int))), (2, .int (zi ((W9 : Nat) : Int))), (3, .int (zi ((w : Nat) : Int))), (5, .int (zi ((T : Nat) : Int))), (6, .int (zi Wt)), (7, .int (zi (((n - 1 - j5) : Nat) : Int)))]) hx hb hl dX7_tryAll_75 (by decide) rfl (fun ls hl => ?_)
                    refine zz_aload_n hx hb hl 2 dX7_tryAll_77 rfl rfl ?_
                    refine zz_get (T := TX7) (N := 42) (k := 36) (κ := 30) (w := zr ad 76 ((0 : Nat) : Int)) hx hb hts hinX7 hown hK hW4 (zlN (hM 30 rfl)) rfl rfl rfl (by decide) (hts (.fieldLink RX7 102 "HailCityModel" "given" "[I") (by decide +kernel)) (fun _ h9 => h9) rfl dX7_tryAll_78 ?_
                    refine zz_iload hx hb hl 8 dX7_tryAll_81 rfl ?_
                    refine zz_iload hx hb hl 1 dX7_tryAll_83 rfl ?_
                    refine zz_iast (y := ((d9 : Nat) : Int)) hx hb hK hW4 hS4 (zlN (hM 76 rfl)) rfl rfl rfl (by show (0 : Int) ≤ (((n - 1 - j5) : Nat) : Int); omega) (by show (((n - 1 - j5) : Nat) : Int) < (5 : Int); omega) ⟨by omega, by omega⟩ dX7_tryAll_85 (fun H8 locs8 hW8' hS8 => ?_)
                    obtain ⟨σ8, hs8⟩ : ∃ z, z = zu σ4 76 0 (n - 1 - j5) ((d9 : Nat) : Int) := ⟨_, rfl⟩
                    have hW8 : ZW G ad A σ8 H8 := by rw [hs8]; exact hW8'
                    refine zz_iload hx hb hl 1 dX7_tryAll_86 rfl ?_
                    refine zz_aload_n hx hb hl 2 dX7_tryAll_88 rfl rfl ?_
                    refine zz_get (T := TX7) (N := 42) (k := 8) (κ := 30) (w := .int (zi ((nd : Nat) : Int))) hx hb hts hinX7 hown hK hW8 (zlN (hM 30 rfl)) rfl rfl rfl (by decide) (hts (.fieldLink RX7 127 "HailCityModel" "drivers" "I") (by decide +kernel)) (fun _ h9 => h9) (congrArg (fun z => Value.int (zi z)) (show σ8 30 0 8 = ((nd : Nat) : Int) from by rw [hs8, zu_k (by decide), hf50 30 0 8 (by omega), hf31 30 0 8 (by omega), h8])) dX7_tryAll_89 ?_
                    refine zz_icmp_ge (tgt := 205) hx hb dX7_tryAll_92 (by decide) ⟨by omega, by omega⟩ ⟨by omega, by omega⟩ (fun hc92 => ?_) (fun hc92 => ?_)
                    · refine zz_iinc (lv' := [(7, .int (zi ((((n - 1 - j5) : Nat) : Int) + (-1)))), (4, .int (zi ((w / (nd + 1) ^ (j5 + 1) : Nat) : Int))), (8, .int (zi ((d9 : Nat) : Int))), (0, zr ad 30 ((0 : Nat) : Int)), (1, .int (zi ((n : Nat) : Int))), (2, .int (zi ((W9 : Nat) : Int))), (3, .int (zi ((w : Nat) : Int))), (5, .int (zi ((T : Nat) : Int))), (6, .int (zi Wt))]) hx hb hl dX7_tryAll_205 (k0 := 8) rfl (by decide) rfl (fun ls hl => ?_)
                      refine zz_goto (tgt := 50) hx hb dX7_tryAll_208 (by decide) ?_
                      refine ih50 (j5 + 1) (w / (nd + 1) ^ (j5 + 1)) T Wt σ8 H8 locs8 ls ?_ (by omega) hW8 hS8 (zh_sub hl [3, 4, 5, 6, 1, 7, 8, 0] (by rw [show ((n : Nat) : Int) - 1 - ((j5 + 1 : Nat) : Int) = ((n - 1 - j5 : Nat) : Int) + (-1) by omega]; rfl))
                      refine ⟨by omega, rfl, ?_, ?_, ?_, ?_⟩
                      · show _ = (if ydg (nd + 1) w j5 < nd then _ else _)
                        rw [← hd9, if_neg (show ¬ d9 < nd by omega), ← hT]
                      · show _ = (if ydg (nd + 1) w j5 < nd then _ else _ : Int)
                        rw [← hd9, if_neg (show ¬ d9 < nd by omega)]
                        exact hWt
                      · intro k9 hk9 hk8
                        by_cases e : k9 = n - 1 - j5
                        · rw [hs8, e, zu_same, hd9, show n - 1 - (n - 1 - j5) = j5 by omega]
                        · rw [hs8, zu_ne (by omega)]
                          exact hg k9 hk9 (by omega)
                      · intro κ i k9 h
                        rw [hs8, zu_ne (by omega)]
                        exact hf50 κ i k9 h
                    · have hbt9 : (T.testBit d9).toNat ≤ 1 := Bool.toNat_le _
                      obtain ⟨q9, hq9⟩ : ∃ z, z = (σ 75 0 (n - 1 - j5)).toNat := ⟨_, rfl⟩
                      have has9 := has (n - 1 - j5) (by omega)
                      rw [← hq9] at has9
                      have hpl9 := hpl d9 (by omega)
                      obtain ⟨pl, hplq⟩ : ∃ z, z = (σ 49 0 d9).toNat := ⟨_, rfl⟩
                      obtain ⟨fr, hfrq⟩ : ∃ z, z = (σ 65 0 q9).toNat := ⟨_, rfl⟩
                      have hww9 := hww pl fr (by omega) (by omega)
                      have hokm : (yok (fun k d => ymm σ (σ 75 0 k).toNat d) (n - 1 - j5) T d9 = true) ↔ (ymf σ d9 ∧ (T.testBit d9).toNat = 0 ∧ σ 47 0 (10 * pl + fr) < 100000 ∧ σ 30 0 1 + σ 47 0 (10 * pl + fr) ≤ σ 67 0 q9) := by
                        unfold yok
                        rw [Bool.and_eq_true, Bool.not_eq_true', decide_eq_true_iff]
                        show (_ ∧ ymm σ (σ 75 0 (n - 1 - j5)).toNat d9 ≠ -1) ↔ _
                        rw [← hq9]
                        unfold ymm
                        rw [← hplq, ← hfrq]
                        constructor
                        · rintro ⟨h1, h2⟩
                          by_cases c : ymf σ d9 ∧ σ 47 0 (10 * pl + fr) < 100000 ∧ σ 30 0 1 + σ 47 0 (10 * pl + fr) ≤ σ 67 0 q9
                          · exact ⟨c.1, by rw [h1]; rfl, c.2⟩
                          · rw [if_neg c] at h2; exact absurd rfl h2
                        · rintro ⟨h1, h2, h3⟩
                          refine ⟨by cases h : T.testBit d9 with | false => rfl | true => (rw [h] at h2; exact absurd h2 (by decide)), ?_⟩
                          rw [if_pos ⟨h1, h3⟩]
                          omega
                      have hmnv : (yok (fun k d => ymm σ (σ 75 0 k).toNat d) (n - 1 - j5) T d9 = true) → (fun k d => ymm σ (σ 75 0 k).toNat d) (n - 1 - j5) d9 = σ 47 0 (10 * pl + fr) := fun h => by
                        have h1 := hokm.1 h
                        show ymm σ (σ 75 0 (n - 1 - j5)).toNat d9 = _
                        rw [← hq9]
                        unfold ymm
                        rw [← hplq, ← hfrq]
                        exact if_pos ⟨h1.1, h1.2.2⟩
                      refine zz_aload_n hx hb hl 2 dX7_tryAll_95 rfl rfl ?_
                      refine zz_aload_n hx hb hl 2 dX7_tryAll_96 rfl rfl ?_
                      refine zz_get (T := TX7) (N := 42) (k := 9) (κ := 30) (w := zr ad 49 ((0 : Nat) : Int)) hx hb hts hinX7 hown hK hW8 (zlN (hM 30 rfl)) rfl rfl rfl (by decide) (hts (.fieldLink RX7 26 "HailCityModel" "place" "[I") (by decide +kernel)) (fun _ h9 => h9) rfl dX7_tryAll_97 ?_
                      refine zz_iload hx hb hl 1 dX7_tryAll_100 rfl ?_
                      refine zz_iald (w := ((pl : Nat) : Int)) hx hb hK hW8 (zlN (hM 49 rfl)) rfl rfl rfl (by show (0 : Int) ≤ ((d9 : Nat) : Int); omega) (by show ((d9 : Nat) : Int) < (8 : Int); omega) (show σ8 49 0 d9 = ((pl : Nat) : Int) from by rw [hs8, zu_k (by decide), hf50 49 0 d9 (by omega), hf31 49 0 d9 (by omega)]; omega) dX7_tryAll_102 ?_
                      refine zz_aload_n hx hb hl 2 dX7_tryAll_103 rfl rfl ?_
                      refine zz_get (T := TX7) (N := 42) (k := 25) (κ := 30) (w := zr ad 65 ((0 : Nat) : Int)) hx hb hts hinX7 hown hK hW8 (zlN (hM 30 rfl)) rfl rfl rfl (by decide) (hts (.fieldLink RX7 69 "HailCityModel" "from" "[I") (by decide +kernel)) (fun _ h9 => h9) rfl dX7_tryAll_104 ?_
                      refine zz_aload_n hx hb hl 2 dX7_tryAll_107 rfl rfl ?_
                      refine zz_get (T := TX7) (N := 42) (k := 35) (κ := 30) (w := zr ad 75 ((0 : Nat) : Int)) hx hb hts hinX7 hown hK hW8 (zlN (hM 30 rfl)) rfl rfl rfl (by decide) (hts (.fieldLink RX7 99 "HailCityModel" "asked" "[I") (by decide +kernel)) (fun _ h9 => h9) rfl dX7_tryAll_108 ?_
                      refine zz_iload hx hb hl 8 dX7_tryAll_111 rfl ?_
                      refine zz_iald (w := ((q9 : Nat) : Int)) hx hb hK hW8 (zlN (hM 75 rfl)) rfl rfl rfl (by show (0 : Int) ≤ (((n - 1 - j5) : Nat) : Int); omega) (by show (((n - 1 - j5) : Nat) : Int) < (5 : Int); omega) (show σ8 75 0 (n - 1 - j5) = ((q9 : Nat) : Int) from by rw [hs8, zu_k (by decide), hf50 75 0 (n - 1 - j5) (by omega), hf31 75 0 (n - 1 - j5) (by omega)]; omega) dX7_tryAll_113 ?_
                      refine zz_iald (w := ((fr : Nat) : Int)) hx hb hK hW8 (zlN (hM 65 rfl)) rfl rfl rfl (by show (0 : Int) ≤ ((q9 : Nat) : Int); omega) (by show ((q9 : Nat) : Int) < (60 : Int); omega) (show σ8 65 0 q9 = ((fr : Nat) : Int) from by rw [hs8, zu_k (by decide), hf50 65 0 q9 (by omega), hf31 65 0 q9 (by omega)]; omega) dX7_tryAll_114 ?_
                      refine zz_callV (T := TX7) (N := 42) (As := [.int (zi ((pl : Nat) : Int)), .int (zi ((fr : Nat) : Int))]) (rest := []) (v := ((0 : Nat) : Int)) (κ := 30) ⟨hx, hb, hml, hown, hts⟩ (c_X7_wayOf l G ad A N0 σ8 hM pl fr (by omega) (by omega)) (cwV 2 hts gX7_tryAll_X7_wayOf rfl rfl rfl (by decide +kernel) ⟨Nat.le_of_ble_eq_true rfl, Nat.le_of_ble_eq_true rfl⟩) hK hW8 (zlN (hM 30 rfl)) rfl rfl (Nat.le_trans hsz hS8.1) hS8 rfl hl.1.1 rfl (Nat.le_of_ble_eq_true rfl) dX7_tryAll_115 ⟨Nat.le_of_ble_eq_true rfl, Nat.le_of_ble_eq_true rfl⟩ (fun x9 σ9 H9 locs9 hp9 hW9 hz9 hS9 => ?_)
                      obtain ⟨rfl, hx9⟩ := hp9
                      rw [hs8, zu_ne (by omega), hf50 _ _ _ (by omega), hf31 _ _ _ (by omega)] at hx9
                      obtain rfl := hx9
                      refine W.eq (g2 := F0 m 118 ls [.int (zi (σ 47 0 (10 * pl + fr)))]) rfl ?_
                      refine zz_istore (lv' := [(9, .int (zi (σ 47 0 (10 * pl + fr)))), (4, .int (zi ((w / (nd + 1) ^ (j5 + 1) : Nat) : Int))), (8, .int (zi ((d9 : Nat) : Int))), (0, zr ad 30 ((0 : Nat) : Int)), (1, .int (zi ((n : Nat) : Int))), (2, .int (zi ((W9 : Nat) : Int))), (3, .int (zi ((w : Nat) : Int))), (5, .int (zi ((T : Nat) : Int))), (6, .int (zi Wt)), (7, .int (zi (((n - 1 - j5) : Nat) : Int)))]) hx hb hl dX7_tryAll_118 (by decide) rfl (fun ls hl => ?_)
                      refine zz_aload_n hx hb hl 3 dX7_tryAll_120 rfl rfl ?_
                      refine zz_iload hx hb hl 2 dX7_tryAll_121 rfl ?_
                      refine zz_callV (T := TX7) (N := 42) (As := [.int (zi ((d9 : Nat) : Int))]) (rest := []) (v := ((0 : Nat) : Int)) (κ := 30) ⟨hx, hb, hml, hown, hts⟩ (c_X7_isFree l G ad A N0 σ8 hM d9 (by omega)) (cwV 1 hts gX7_tryAll_X7_isFree rfl rfl rfl (by decide +kernel) ⟨Nat.le_of_ble_eq_true rfl, Nat.le_of_ble_eq_true rfl⟩) hK hW9 (zlN (hM 30 rfl)) rfl rfl (Nat.le_trans hsz hS9.1) hS9 rfl hl.1.1 rfl (Nat.le_of_ble_eq_true rfl) dX7_tryAll_123 ⟨Nat.le_of_ble_eq_true rfl, Nat.le_of_ble_eq_true rfl⟩ (fun x10 σ10 H10 locs10 hp10 hW10 hz10 hS10 => ?_)
                      obtain ⟨rfl, hx9⟩ := hp10
                      rw [ymf_fr (σ := σ) (by rw [hs8, zu_ne (by omega), hf50 _ _ _ (by omega), hf31 _ _ _ (by omega)]) (by rw [hs8, zu_ne (by omega), hf50 _ _ _ (by omega), hf31 _ _ _ (by omega)]) (by rw [hs8, zu_ne (by omega), hf50 _ _ _ (by omega), hf31 _ _ _ (by omega)])] at hx9
                      obtain rfl := hx9
                      refine W.eq (g2 := F0 m 126 ls [.int (zi (zb (ymf σ d9)))]) rfl ?_
                      have hcut173 : ∀  (H9 : Heap) (locs9 : List Loc) (ls : Array Slot), (True) → ZW G ad A σ8 H9 → va_S A s.heap H9 locs9 → zh ls 11 [(9, .int (zi (σ 47 0 (10 * pl + fr)))), (4, .int (zi ((w / (nd + 1) ^ (j5 + 1) : Nat) : Int))), (8, .int (zi ((d9 : Nat) : Int))), (0, zr ad 30 ((0 : Nat) : Int)), (1, .int (zi ((n : Nat) : Int))), (2, .int (zi ((W9 : Nat) : Int))), (3, .int (zi ((w : Nat) : Int))), (5, .int (zi ((T : Nat) : Int))), (6, .int (zi Wt)), (7, .int (zi (((n - 1 - j5) : Nat) : Int)))] → W p l e ({ frames := 1, cells := 0, slots := 0, locals := 22 }) s m ([zr ad 30 ((0 : Nat) : Int), .int (zi ((n : Nat) : Int))] : List Value).toArray below meth c H9 locs9 0 0 (MQ below (zQ G ad A zrv (fun _ u => u 30 0 38 = (ybb (fun k d => ymm σ (σ 75 0 k).toNat d) nd n ((nd + 1) ^ n)).1 ∧ ((ybb (fun k d => ymm σ (σ 75 0 k).toNat d) nd n ((nd + 1) ^ n)).1 ≠ -1 → ∀ k, k < n → u 77 0 k = ((ydg (nd + 1) (ybb (fun k d => ymm σ (σ 75 0 k).toNat d) nd n ((nd + 1) ^ n)).2 (n - 1 - k) : Nat) : Int)) ∧ zfr (fun κ _ k => κ = 76 ∨ κ = 77 ∨ (κ = 30 ∧ k = 38)) σ u)) ([zr ad 30 ((0 : Nat) : Int), .int (zi ((n : Nat) : Int))] : List Value).toArray s 0 0 A) (F0 m 173 ls [.int (zi (zb (yok (fun k d => ymm σ (σ 75 0 k).toNat d) (n - 1 - j5) T d9 = true)))]) := by
                        intro  H11 locs11 ls hI173 hW11 hS11 hl
                        refine zz_istore (lv' := [(10, .int (zi (zb (yok (fun k d => ymm σ (σ 75 0 k).toNat d) (n - 1 - j5) T d9 = true)))), (9, .int (zi (σ 47 0 (10 * pl + fr)))), (4, .int (zi ((w / (nd + 1) ^ (j5 + 1) : Nat) : Int))), (8, .int (zi ((d9 : Nat) : Int))), (0, zr ad 30 ((0 : Nat) : Int)), (1, .int (zi ((n : Nat) : Int))), (2, .int (zi ((W9 : Nat) : Int))), (3, .int (zi ((w : Nat) : Int))), (5, .int (zi ((T : Nat) : Int))), (6, .int (zi Wt)), (7, .int (zi (((n - 1 - j5) : Nat) : Int)))]) hx hb hl dX7_tryAll_173 (by decide) rfl (fun ls hl => ?_)
                        refine zz_iload hx hb hl 9 dX7_tryAll_175 rfl ?_
                        refine zz_iload hx hb hl 0 dX7_tryAll_177 rfl ?_
                        refine zz_if_eqb (tgt := 191) hx hb dX7_tryAll_179 (by decide) (fun hc179 => ?_) (fun hc179 => ?_)
                        · refine zz_ldc (n := -1000000) (v := -1000000) hx hb hown (hts (.constant RX7 191 (-1000000)) (by decide +kernel)) (by decide +kernel) dX7_tryAll_191 ?_
                          
                          refine zz_iadd hx hb dX7_tryAll_193 ?_
                          refine zz_istore (lv' := [(6, .int (zi (Wt + (-1000000)))), (10, .int (zi (zb (yok (fun k d => ymm σ (σ 75 0 k).toNat d) (n - 1 - j5) T d9 = true)))), (9, .int (zi (σ 47 0 (10 * pl + fr)))), (4, .int (zi ((w / (nd + 1) ^ (j5 + 1) : Nat) : Int))), (8, .int (zi ((d9 : Nat) : Int))), (0, zr ad 30 ((0 : Nat) : Int)), (1, .int (zi ((n : Nat) : Int))), (2, .int (zi ((W9 : Nat) : Int))), (3, .int (zi ((w : Nat) : Int))), (5, .int (zi ((T : Nat) : Int))), (7, .int (zi (((n - 1 - j5) : Nat) : Int)))]) hx hb hl dX7_tryAll_194 (by decide) rfl (fun ls hl => ?_)
                          refine zz_iload hx hb hl 9 dX7_tryAll_196 rfl ?_
                          refine zz_iconst hx hb dX7_tryAll_198 ?_
                          refine zz_iload hx hb hl 4 dX7_tryAll_199 rfl ?_
                          refine zz_ishl (w := ((2 ^ d9 : Nat) : Int)) hx hb (zi_shl1 d9 (by omega)) dX7_tryAll_201 ?_
                          refine zz_ior (w := ((T ||| 2 ^ d9 : Nat) : Int)) hx hb (zi_sor hT2 (by omega)) dX7_tryAll_202 ?_
                          refine zz_istore (lv' := [(5, .int (zi ((T ||| 2 ^ d9 : Nat) : Int))), (6, .int (zi (Wt + (-1000000)))), (10, .int (zi (zb (yok (fun k d => ymm σ (σ 75 0 k).toNat d) (n - 1 - j5) T d9 = true)))), (9, .int (zi (σ 47 0 (10 * pl + fr)))), (4, .int (zi ((w / (nd + 1) ^ (j5 + 1) : Nat) : Int))), (8, .int (zi ((d9 : Nat) : Int))), (0, zr ad 30 ((0 : Nat) : Int)), (1, .int (zi ((n : Nat) : Int))), (2, .int (zi ((W9 : Nat) : Int))), (3, .int (zi ((w : Nat) : Int))), (7, .int (zi (((n - 1 - j5) : Nat) : Int)))]) hx hb hl dX7_tryAll_203 (by decide) rfl (fun ls hl => ?_)
                          refine zz_iinc (lv' := [(7, .int (zi ((((n - 1 - j5) : Nat) : Int) + (-1)))), (5, .int (zi ((T ||| 2 ^ d9 : Nat) : Int))), (6, .int (zi (Wt + (-1000000)))), (10, .int (zi (zb (yok (fun k d => ymm σ (σ 75 0 k).toNat d) (n - 1 - j5) T d9 = true)))), (9, .int (zi (σ 47 0 (10 * pl + fr)))), (4, .int (zi ((w / (nd + 1) ^ (j5 + 1) : Nat) : Int))), (8, .int (zi ((d9 : Nat) : Int))), (0, zr ad 30 ((0 : Nat) : Int)), (1, .int (zi ((n : Nat) : Int))), (2, .int (zi ((W9 : Nat) : Int))), (3, .int (zi ((w : Nat) : Int)))]) hx hb hl dX7_tryAll_205 (k0 := 10) rfl (by decide) rfl (fun ls hl => ?_)
                          refine zz_goto (tgt := 50) hx hb dX7_tryAll_208 (by decide) ?_
                          refine ih50 (j5 + 1) (w / (nd + 1) ^ (j5 + 1)) (T ||| 2 ^ d9) (Wt + (-1000000)) σ8 H11 locs11 ls ?_ (by omega) hW11 hS11 (zh_sub hl [7, 8, 9, 10, 5, 1, 2, 0] (by rw [show ((n : Nat) : Int) - 1 - ((j5 + 1 : Nat) : Int) = ((n - 1 - j5 : Nat) : Int) + (-1) by omega]; rfl))
                          refine ⟨by omega, rfl, ?_, ?_, ?_, ?_⟩
                          · show _ = (if ydg (nd + 1) w j5 < nd then _ else _)
                            rw [← hd9, if_pos (show d9 < nd by omega), ← hT]
                          · show _ = (if ydg (nd + 1) w j5 < nd then _ else _ : Int)
                            rw [← hd9, if_pos (show d9 < nd by omega)]
                            rw [← hWt, ← hT]
                            first
                              | (rw [if_pos hc179, hmnv hc179]; done)
                              | (rw [if_neg hc179]; done)
                          · intro k9 hk9 hk8
                            by_cases e : k9 = n - 1 - j5
                            · rw [hs8, e, zu_same, hd9, show n - 1 - (n - 1 - j5) = j5 by omega]
                            · rw [hs8, zu_ne (by omega)]
                              exact hg k9 hk9 (by omega)
                          · intro κ i k9 h
                            rw [hs8, zu_ne (by omega)]
                            exact hf50 κ i k9 h
                        · refine zz_sipush hx hb dX7_tryAll_182 (by decide +kernel) ?_
                          refine zz_iload hx hb hl 1 dX7_tryAll_185 rfl ?_
                          refine zz_isub hx hb dX7_tryAll_187 ?_
                          refine zz_goto (tgt := 193) hx hb dX7_tryAll_188 (by decide) ?_
                          
                          refine zz_iadd hx hb dX7_tryAll_193 ?_
                          refine zz_istore (lv' := [(6, .int (zi (Wt + (10000 - (σ 47 0 (10 * pl + fr)))))), (10, .int (zi (zb (yok (fun k d => ymm σ (σ 75 0 k).toNat d) (n - 1 - j5) T d9 = true)))), (9, .int (zi (σ 47 0 (10 * pl + fr)))), (4, .int (zi ((w / (nd + 1) ^ (j5 + 1) : Nat) : Int))), (8, .int (zi ((d9 : Nat) : Int))), (0, zr ad 30 ((0 : Nat) : Int)), (1, .int (zi ((n : Nat) : Int))), (2, .int (zi ((W9 : Nat) : Int))), (3, .int (zi ((w : Nat) : Int))), (5, .int (zi ((T : Nat) : Int))), (7, .int (zi (((n - 1 - j5) : Nat) : Int)))]) hx hb hl dX7_tryAll_194 (by decide) rfl (fun ls hl => ?_)
                          refine zz_iload hx hb hl 9 dX7_tryAll_196 rfl ?_
                          refine zz_iconst hx hb dX7_tryAll_198 ?_
                          refine zz_iload hx hb hl 4 dX7_tryAll_199 rfl ?_
                          refine zz_ishl (w := ((2 ^ d9 : Nat) : Int)) hx hb (zi_shl1 d9 (by omega)) dX7_tryAll_201 ?_
                          refine zz_ior (w := ((T ||| 2 ^ d9 : Nat) : Int)) hx hb (zi_sor hT2 (by omega)) dX7_tryAll_202 ?_
                          refine zz_istore (lv' := [(5, .int (zi ((T ||| 2 ^ d9 : Nat) : Int))), (6, .int (zi (Wt + (10000 - (σ 47 0 (10 * pl + fr)))))), (10, .int (zi (zb (yok (fun k d => ymm σ (σ 75 0 k).toNat d) (n - 1 - j5) T d9 = true)))), (9, .int (zi (σ 47 0 (10 * pl + fr)))), (4, .int (zi ((w / (nd + 1) ^ (j5 + 1) : Nat) : Int))), (8, .int (zi ((d9 : Nat) : Int))), (0, zr ad 30 ((0 : Nat) : Int)), (1, .int (zi ((n : Nat) : Int))), (2, .int (zi ((W9 : Nat) : Int))), (3, .int (zi ((w : Nat) : Int))), (7, .int (zi (((n - 1 - j5) : Nat) : Int)))]) hx hb hl dX7_tryAll_203 (by decide) rfl (fun ls hl => ?_)
                          refine zz_iinc (lv' := [(7, .int (zi ((((n - 1 - j5) : Nat) : Int) + (-1)))), (5, .int (zi ((T ||| 2 ^ d9 : Nat) : Int))), (6, .int (zi (Wt + (10000 - (σ 47 0 (10 * pl + fr)))))), (10, .int (zi (zb (yok (fun k d => ymm σ (σ 75 0 k).toNat d) (n - 1 - j5) T d9 = true)))), (9, .int (zi (σ 47 0 (10 * pl + fr)))), (4, .int (zi ((w / (nd + 1) ^ (j5 + 1) : Nat) : Int))), (8, .int (zi ((d9 : Nat) : Int))), (0, zr ad 30 ((0 : Nat) : Int)), (1, .int (zi ((n : Nat) : Int))), (2, .int (zi ((W9 : Nat) : Int))), (3, .int (zi ((w : Nat) : Int)))]) hx hb hl dX7_tryAll_205 (k0 := 10) rfl (by decide) rfl (fun ls hl => ?_)
                          refine zz_goto (tgt := 50) hx hb dX7_tryAll_208 (by decide) ?_
                          refine ih50 (j5 + 1) (w / (nd + 1) ^ (j5 + 1)) (T ||| 2 ^ d9) (Wt + (10000 - (σ 47 0 (10 * pl + fr)))) σ8 H11 locs11 ls ?_ (by omega) hW11 hS11 (zh_sub hl [7, 8, 9, 10, 5, 1, 2, 0] (by rw [show ((n : Nat) : Int) - 1 - ((j5 + 1 : Nat) : Int) = ((n - 1 - j5 : Nat) : Int) + (-1) by omega]; rfl))
                          refine ⟨by omega, rfl, ?_, ?_, ?_, ?_⟩
                          · show _ = (if ydg (nd + 1) w j5 < nd then _ else _)
                            rw [← hd9, if_pos (show d9 < nd by omega), ← hT]
                          · show _ = (if ydg (nd + 1) w j5 < nd then _ else _ : Int)
                            rw [← hd9, if_pos (show d9 < nd by omega)]
                            rw [← hWt, ← hT]
                            first
                              | (rw [if_pos hc179, hmnv hc179]; done)
                              | (rw [if_neg hc179]; done)
                          · intro k9 hk9 hk8
                            by_cases e : k9 = n - 1 - j5
                            · rw [hs8, e, zu_same, hd9, show n - 1 - (n - 1 - j5) = j5 by omega]
                            · rw [hs8, zu_ne (by omega)]
                              exact hg k9 hk9 (by omega)
                          · intro κ i k9 h
                            rw [hs8, zu_ne (by omega)]
                            exact hf50 κ i k9 h
                      refine zz_if_eqb (tgt := 172) hx hb dX7_tryAll_126 (by decide) (fun hc126 => ?_) (fun hc126 => ?_)
                      · refine zz_iconst hx hb dX7_tryAll_172 ?_
                        refine W.eq (g2 := F0 m 173 ls [.int (zi (zb (yok (fun k d => ymm σ (σ 75 0 k).toNat d) (n - 1 - j5) T d9 = true)))]) (congrArg (fun z9 => F0 m 173 ls (Value.int (zi z9) :: [])) (show (0 : Int) = zb (yok (fun k d => ymm σ (σ 75 0 k).toNat d) (n - 1 - j5) T d9 = true) from (zb_f (P := yok (fun k d => ymm σ (σ 75 0 k).toNat d) (n - 1 - j5) T d9 = true) (fun q => by have q2 := hokm.1 q; first | exact hc126 q2.1 | (have q3 := q2.2; omega))).symm)) ?_
                        refine hcut173  H10 locs10 ls ?_ hW10 hS10 (zh_sub hl [0, 1, 2, 3, 4, 5, 6, 7, 8, 9] rfl)
                        trivial
                      · refine zz_iload hx hb hl 7 dX7_tryAll_129 rfl ?_
                        refine zz_iload hx hb hl 2 dX7_tryAll_131 rfl ?_
                        refine zz_ishr (w := ((T >>> d9 : Nat) : Int)) hx hb (zi_shr d9 (by omega) T hT2) dX7_tryAll_133 ?_
                        refine zz_iconst hx hb dX7_tryAll_134 ?_
                        refine zz_iand (w := (((T.testBit d9).toNat : Nat) : Int)) hx hb (zi_tb d9 (by omega) T hT2) dX7_tryAll_135 ?_
                        refine zz_if_ne (tgt := 172) hx hb dX7_tryAll_136 (by decide) ⟨by omega, by omega⟩ (fun hc136 => ?_) (fun hc136 => ?_)
                        · refine zz_iconst hx hb dX7_tryAll_172 ?_
                          refine W.eq (g2 := F0 m 173 ls [.int (zi (zb (yok (fun k d => ymm σ (σ 75 0 k).toNat d) (n - 1 - j5) T d9 = true)))]) (congrArg (fun z9 => F0 m 173 ls (Value.int (zi z9) :: [])) (show (0 : Int) = zb (yok (fun k d => ymm σ (σ 75 0 k).toNat d) (n - 1 - j5) T d9 = true) from (zb_f (P := yok (fun k d => ymm σ (σ 75 0 k).toNat d) (n - 1 - j5) T d9 = true) (fun q => by have q2 := hokm.1 q; first | exact hc126 q2.1 | (have q3 := q2.2; omega))).symm)) ?_
                          refine hcut173  H10 locs10 ls ?_ hW10 hS10 (zh_sub hl [0, 1, 2, 3, 4, 5, 6, 7, 8, 9] rfl)
                          trivial
                        · refine zz_iload hx hb hl 0 dX7_tryAll_139 rfl ?_
                          refine zz_ldc (n := 100000) (v := 100000) hx hb hown (hts (.constant RX7 133 (100000)) (by decide +kernel)) (by decide +kernel) dX7_tryAll_141 ?_
                          refine zz_icmp_ge (tgt := 172) hx hb dX7_tryAll_143 (by decide) ⟨by omega, by omega⟩ ⟨by decide, by decide⟩ (fun hc143 => ?_) (fun hc143 => ?_)
                          · refine zz_iconst hx hb dX7_tryAll_172 ?_
                            refine W.eq (g2 := F0 m 173 ls [.int (zi (zb (yok (fun k d => ymm σ (σ 75 0 k).toNat d) (n - 1 - j5) T d9 = true)))]) (congrArg (fun z9 => F0 m 173 ls (Value.int (zi z9) :: [])) (show (0 : Int) = zb (yok (fun k d => ymm σ (σ 75 0 k).toNat d) (n - 1 - j5) T d9 = true) from (zb_f (P := yok (fun k d => ymm σ (σ 75 0 k).toNat d) (n - 1 - j5) T d9 = true) (fun q => by have q2 := hokm.1 q; first | exact hc126 q2.1 | (have q3 := q2.2; omega))).symm)) ?_
                            refine hcut173  H10 locs10 ls ?_ hW10 hS10 (zh_sub hl [0, 1, 2, 3, 4, 5, 6, 7, 8, 9] rfl)
                            trivial
                          · refine zz_aload_n hx hb hl 3 dX7_tryAll_146 rfl rfl ?_
                            refine zz_get (T := TX7) (N := 42) (k := 1) (κ := 30) (w := .int (zi (σ 30 0 1))) hx hb hts hinX7 hown hK hW10 (zlN (hM 30 rfl)) rfl rfl rfl (by decide) (hts (.fieldLink RX7 161 "HailCityModel" "now" "I") (by decide +kernel)) (fun _ h9 => h9) (congrArg (fun z => Value.int (zi z)) (show σ8 30 0 1 = σ 30 0 1 from by rw [hs8, zu_k (by decide), hf50 30 0 1 (by omega), hf31 30 0 1 (by omega)])) dX7_tryAll_147 ?_
                            refine zz_iload hx hb hl 0 dX7_tryAll_150 rfl ?_
                            refine zz_iadd hx hb dX7_tryAll_152 ?_
                            refine zz_aload_n hx hb hl 3 dX7_tryAll_153 rfl rfl ?_
                            refine zz_get (T := TX7) (N := 42) (k := 27) (κ := 30) (w := zr ad 67 ((0 : Nat) : Int)) hx hb hts hinX7 hown hK hW10 (zlN (hM 30 rfl)) rfl rfl rfl (by decide) (hts (.fieldLink RX7 75 "HailCityModel" "until" "[I") (by decide +kernel)) (fun _ h9 => h9) rfl dX7_tryAll_154 ?_
                            refine zz_aload_n hx hb hl 3 dX7_tryAll_157 rfl rfl ?_
                            refine zz_get (T := TX7) (N := 42) (k := 35) (κ := 30) (w := zr ad 75 ((0 : Nat) : Int)) hx hb hts hinX7 hown hK hW10 (zlN (hM 30 rfl)) rfl rfl rfl (by decide) (hts (.fieldLink RX7 99 "HailCityModel" "asked" "[I") (by decide +kernel)) (fun _ h9 => h9) rfl dX7_tryAll_158 ?_
                            refine zz_iload hx hb hl 9 dX7_tryAll_161 rfl ?_
                            refine zz_iald (w := ((q9 : Nat) : Int)) hx hb hK hW10 (zlN (hM 75 rfl)) rfl rfl rfl (by show (0 : Int) ≤ (((n - 1 - j5) : Nat) : Int); omega) (by show (((n - 1 - j5) : Nat) : Int) < (5 : Int); omega) (show σ8 75 0 (n - 1 - j5) = ((q9 : Nat) : Int) from by rw [hs8, zu_k (by decide), hf50 75 0 (n - 1 - j5) (by omega), hf31 75 0 (n - 1 - j5) (by omega)]; omega) dX7_tryAll_163 ?_
                            refine zz_iald (w := σ 67 0 q9) hx hb hK hW10 (zlN (hM 67 rfl)) rfl rfl rfl (by show (0 : Int) ≤ ((q9 : Nat) : Int); omega) (by show ((q9 : Nat) : Int) < (60 : Int); omega) (show σ8 67 0 q9 = σ 67 0 q9 from by rw [hs8, zu_k (by decide), hf50 67 0 q9 (by omega), hf31 67 0 q9 (by omega)]) dX7_tryAll_164 ?_
                            refine zz_icmp_gt (tgt := 172) hx hb dX7_tryAll_165 (by decide) ⟨by omega, by omega⟩ (hW1.2.2.1 _ _ _) (fun hc165 => ?_) (fun hc165 => ?_)
                            · refine zz_iconst hx hb dX7_tryAll_172 ?_
                              refine W.eq (g2 := F0 m 173 ls [.int (zi (zb (yok (fun k d => ymm σ (σ 75 0 k).toNat d) (n - 1 - j5) T d9 = true)))]) (congrArg (fun z9 => F0 m 173 ls (Value.int (zi z9) :: [])) (show (0 : Int) = zb (yok (fun k d => ymm σ (σ 75 0 k).toNat d) (n - 1 - j5) T d9 = true) from (zb_f (P := yok (fun k d => ymm σ (σ 75 0 k).toNat d) (n - 1 - j5) T d9 = true) (fun q => by have q2 := hokm.1 q; first | exact hc126 q2.1 | (have q3 := q2.2; omega))).symm)) ?_
                              refine hcut173  H10 locs10 ls ?_ hW10 hS10 (zh_sub hl [0, 1, 2, 3, 4, 5, 6, 7, 8, 9] rfl)
                              trivial
                            · refine zz_iconst hx hb dX7_tryAll_168 ?_
                              refine zz_goto (tgt := 173) hx hb dX7_tryAll_169 (by decide) ?_
                              refine W.eq (g2 := F0 m 173 ls [.int (zi (zb (yok (fun k d => ymm σ (σ 75 0 k).toNat d) (n - 1 - j5) T d9 = true)))]) (congrArg (fun z9 => F0 m 173 ls (Value.int (zi z9) :: [])) (show (1 : Int) = zb (yok (fun k d => ymm σ (σ 75 0 k).toNat d) (n - 1 - j5) T d9 = true) from (zb_t (P := yok (fun k d => ymm σ (σ 75 0 k).toNat d) (n - 1 - j5) T d9 = true) (hokm.2 ⟨hc126, by omega, by omega, by omega⟩)).symm)) ?_
                              refine hcut173  H10 locs10 ls ?_ hW10 hS10 (zh_sub hl [0, 1, 2, 3, 4, 5, 6, 7, 8, 9] rfl)
                              trivial
              refine hcut50 _ 0 w 0 0 σ3 H3 locs3 ls ?_ (Nat.lt_succ_self _) hW3 hS3 (zh_sub hl [4, 5, 6, 7, 3, 2, 1, 0] (by rw [show ((n : Nat) : Int) - 1 - ((0 : Nat) : Int) = ((n : Nat) : Int) - 1 by omega]; rfl))
              exact ⟨Nat.zero_le _, by rw [Nat.pow_zero, Nat.div_one], rfl, rfl, fun k h1 h2 => absurd h1 (by omega), fun _ _ _ _ => rfl⟩
        refine hcut31 _ 0 σ2 H2 locs2 ls ?_ (Nat.lt_succ_self _) hW2 hS2 (zh_sub hl [1, 2, 3, 0] rfl)
        refine ⟨Nat.zero_le _, ?_, fun h => absurd rfl h, ?_⟩
        · rw [hs2, zu_same]; rfl
        · intro κ i k h
          rw [hs2, zu_ne (by omega)]
      · refine zz_iload_n hx hb hl 2 dX7_tryAll_9 rfl rfl ?_
        refine zz_aload_n hx hb hl 0 dX7_tryAll_10 rfl rfl ?_
        refine zz_get (T := TX7) (N := 42) (k := 8) (κ := 30) (w := .int (zi ((nd : Nat) : Int))) hx hb hts hinX7 hown hK hW1 (zlN (hM 30 rfl)) rfl rfl rfl (by decide) (hts (.fieldLink RX7 127 "HailCityModel" "drivers" "I") (by decide +kernel)) (fun _ h9 => h9) (congrArg (fun z => Value.int (zi z)) (show σ 30 0 8 = ((nd : Nat) : Int) from by rw [h8])) dX7_tryAll_11 ?_
        refine zz_iconst hx hb dX7_tryAll_14 ?_
        refine zz_iadd hx hb dX7_tryAll_15 ?_
        refine zz_imul hx hb dX7_tryAll_16 ?_
        refine zz_istore_n (lv' := [(2, .int (zi ((((nd + 1) ^ k) * (nd + 1) : Nat) : Int))), (0, zr ad 30 ((0 : Nat) : Int)), (1, .int (zi ((n : Nat) : Int))), (3, .int (zi ((k : Nat) : Int)))]) hx hb hl dX7_tryAll_17 rfl (by decide) rfl (fun ls hl => ?_)
        refine zz_iinc (lv' := [(3, .int (zi ((k + 1 : Nat) : Int))), (2, .int (zi ((((nd + 1) ^ k) * (nd + 1) : Nat) : Int))), (0, zr ad 30 ((0 : Nat) : Int)), (1, .int (zi ((n : Nat) : Int)))]) hx hb hl dX7_tryAll_18 (k0 := 3) rfl (by decide) rfl (fun ls hl => ?_)
        refine zz_goto (tgt := 4) hx hb dX7_tryAll_21 (by decide) ?_
        refine ih4 (k + 1) H1 locs1 ls ?_ (by omega) hW1 hS1 (zh_sub hl [2, 3, 1, 0] rfl)
        omega
  refine hcut4 _ 0 s.heap [] ls ?_ (Nat.lt_succ_self _) hW0 hS0 (zh_sub hl [2, 3, 1, 0] rfl)
  exact Nat.zero_le _
