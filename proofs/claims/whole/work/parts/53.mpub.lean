/-! the public methods of the model, the short ones -/

set_option maxHeartbeats 4000000 in
set_option maxRecDepth 100000 in
theorem c_X7_cap (l : Launch) (G : zG) (ad : zA) (A : Nat → Prop) (N0 : Nat) (σ : zS) (hM : zMm ad) (a : Int) (ga : zg a) : Met l yX7_cap wsX7_cap ({ frames := 1, cells := 0, slots := 0, locals := 22 }) (zP G ad A N0 σ [zr ad 30 ((0 : Nat) : Int), .int (zi a)]) (zQ G ad A zri (fun r u => ((100 ≤ a ∧ a ≤ 300) ∧ σ 30 0 2 = r ∧ u = zu (zu σ 30 0 0 0) 30 0 2 a) ∨ (¬ (100 ≤ a ∧ a ≤ 300) ∧ 0 = r ∧ u = zu σ 30 0 0 1))) 0 0 A := by
  refine zz_of (cc := cX7_cap) (maxL := 3) (ret := (some .int)) (by decide) rfl ⟨rfl, rfl⟩ (List.forall_mem_cons.mpr ⟨zr_cat _ _ _, List.forall_mem_cons.mpr ⟨rfl, fun _ h => absurd h List.not_mem_nil⟩⟩) (Nat.le_of_ble_eq_true rfl) ?_
  intro p e s m below meth c hx hb hr hml hts hown hlocks hsz hW0 hK ls hl
  have hS0 : va_S A s.heap s.heap [] := va_S.rf
  have hl : zh ls 3 [(0, zr ad 30 ((0 : Nat) : Int)), (1, .int (zi a))] := hl
  have hinX7 : ∀ w ∈ u_ws RX7 TX7 42, w ∈ wsX7_cap := by decide +kernel
  refine zz_aload_n hx hb hl 0 dX7_cap_0 rfl rfl ?_
  refine zz_iload_n hx hb hl 1 dX7_cap_1 rfl rfl ?_
  refine zz_bipush hx hb dX7_cap_2 (by decide +kernel) ?_
  refine zz_sipush hx hb dX7_cap_4 (by decide +kernel) ?_
  refine zz_callS (As := [.int (zi a), .int (zi 100), .int (zi 300)]) (rest := [zr ad 30 ((0 : Nat) : Int)]) ⟨hx, hb, hml, hown, hts⟩ (c_X7_in l G ad A N0 σ a 100 300 ga ⟨by decide, by decide⟩ ⟨by decide, by decide⟩) (va_cwS 3 hts gX7_cap_X7_in rfl rfl rfl (by decide +kernel) ⟨Nat.le_of_ble_eq_true rfl, Nat.le_of_ble_eq_true rfl⟩) hK hW0 (Nat.le_trans hsz hS0.1) hS0 rfl hl.1.1 rfl (by simp [zr_cat, zcat_i]) dX7_cap_7 ⟨Nat.le_of_ble_eq_true rfl, Nat.le_of_ble_eq_true rfl⟩ (fun x1 σ1 H1 locs1 hp1 hW1 hz1 hS1 => ?_)
  obtain ⟨rfl, rfl⟩ := hp1
  refine W.eq (g2 := F0 m 10 ls [.int (zi (zb (100 ≤ a ∧ a ≤ 300))), zr ad 30 ((0 : Nat) : Int)]) rfl ?_
  refine zz_if_eqb (tgt := 17) hx hb dX7_cap_10 (by decide) (fun hc10 => ?_) (fun hc10 => ?_)
  · refine zz_iconst hx hb dX7_cap_17 ?_
    refine zz_callV (T := TX7) (N := 42) (As := [.int (zi 1)]) (rest := []) (v := ((0 : Nat) : Int)) (κ := 30) ⟨hx, hb, hml, hown, hts⟩ (c_X7_refused l G ad A N0 σ hM (1) ⟨by decide, by decide⟩) (cwV 1 hts gX7_cap_X7_refused rfl rfl rfl (by decide +kernel) ⟨Nat.le_of_ble_eq_true rfl, Nat.le_of_ble_eq_true rfl⟩) hK hW1 (zlN (hM 30 rfl)) rfl rfl (Nat.le_trans hsz hS1.1) hS1 rfl hl.1.1 rfl (Nat.le_of_ble_eq_true rfl) dX7_cap_18 ⟨Nat.le_of_ble_eq_true rfl, Nat.le_of_ble_eq_true rfl⟩ (fun x2 σ2 H2 locs2 hp2 hW2 hz2 hS2 => ?_)
    have hs2 : σ2 = zu σ 30 0 0 (1) := hp2.1.symm
    obtain rfl := hp2.2
    refine W.eq (g2 := F0 m 21 ls [.int (zi (zb ((1 : Int) ≠ 0)))]) rfl ?_
    refine zz_if_eqb (tgt := 26) hx hb dX7_cap_21 (by decide) (fun hc21 => ?_) (fun hc21 => ?_)
    · exact absurd (by decide) hc21
    · refine zz_iconst hx hb dX7_cap_24 ?_
      refine W.eq (g2 := F0 m 25 ls [.int (zi 0)]) rfl ?_
      refine zz_reti hx hb hr hlocks hW2 hS2 ?_ dX7_cap_25
      exact Or.inr ⟨hc10, rfl, by rw [hs2]⟩
  · refine zz_iconst hx hb dX7_cap_13 ?_
    refine zz_goto (tgt := 18) hx hb dX7_cap_14 (by decide) ?_
    refine zz_callV (T := TX7) (N := 42) (As := [.int (zi 0)]) (rest := []) (v := ((0 : Nat) : Int)) (κ := 30) ⟨hx, hb, hml, hown, hts⟩ (c_X7_refused l G ad A N0 σ hM (0) ⟨by decide, by decide⟩) (cwV 1 hts gX7_cap_X7_refused rfl rfl rfl (by decide +kernel) ⟨Nat.le_of_ble_eq_true rfl, Nat.le_of_ble_eq_true rfl⟩) hK hW1 (zlN (hM 30 rfl)) rfl rfl (Nat.le_trans hsz hS1.1) hS1 rfl hl.1.1 rfl (Nat.le_of_ble_eq_true rfl) dX7_cap_18 ⟨Nat.le_of_ble_eq_true rfl, Nat.le_of_ble_eq_true rfl⟩ (fun x3 σ3 H3 locs3 hp3 hW3 hz3 hS3 => ?_)
    have hs3 : σ3 = zu σ 30 0 0 (0) := hp3.1.symm
    obtain rfl := hp3.2
    refine W.eq (g2 := F0 m 21 ls [.int (zi (zb ((0 : Int) ≠ 0)))]) rfl ?_
    refine zz_if_eqb (tgt := 26) hx hb dX7_cap_21 (by decide) (fun hc21 => ?_) (fun hc21 => ?_)
    · refine zz_aload_n hx hb hl 0 dX7_cap_26 rfl rfl ?_
      refine zz_get (T := TX7) (N := 42) (k := 2) (κ := 30) (w := .int (zi (σ 30 0 2))) hx hb hts hinX7 hown hK hW3 (zlN (hM 30 rfl)) rfl rfl rfl (by decide) (hts (.fieldLink RX7 7 "HailCityModel" "cap" "I") (by decide +kernel)) (fun _ h9 => h9) (congrArg (fun z => Value.int (zi z)) (show σ3 30 0 2 = σ 30 0 2 from by rw [hs3, zu_s (by decide)])) dX7_cap_27 ?_
      refine zz_istore_n (lv' := [(2, .int (zi (σ 30 0 2))), (0, zr ad 30 ((0 : Nat) : Int)), (1, .int (zi a))]) hx hb hl dX7_cap_30 rfl (by decide) rfl (fun ls hl => ?_)
      refine zz_aload_n hx hb hl 1 dX7_cap_31 rfl rfl ?_
      refine zz_iload_n hx hb hl 2 dX7_cap_32 rfl rfl ?_
      refine zz_put (T := TX7) (N := 42) (k := 2) (κ := 30) (v := ((0 : Nat) : Int)) (x := a) (ty := .int) hx hb hts hinX7 tyX7 tyX7_ok nmX7 hown hK hW3 hS3 (zlN (hM 30 rfl)) rfl rfl rfl (by decide) (hts (.fieldLink RX7 7 "HailCityModel" "cap" "I") (by decide +kernel)) (fun _ h9 => h9) rfl (by decide +kernel) rfl rfl rfl ga (fun h9 _ => absurd h9 (by decide)) (fun h9 => absurd h9 (by decide)) dX7_cap_33 (fun H4 locs4 hW4' hS4 => ?_)
      obtain ⟨σ4, hs4⟩ : ∃ z, z = zu σ3 30 0 2 a := ⟨_, rfl⟩
      have hW4 : ZW G ad A σ4 H4 := by rw [hs4]; exact hW4'
      refine zz_iload_n hx hb hl 0 dX7_cap_36 rfl rfl ?_
      refine W.eq (g2 := F0 m 37 ls [.int (zi (σ 30 0 2))]) rfl ?_
      refine zz_reti hx hb hr hlocks hW4 hS4 ?_ dX7_cap_37
      exact Or.inl ⟨hc10, rfl, by rw [hs4, hs3]⟩
    · exact absurd rfl hc21

set_option maxHeartbeats 4000000 in
set_option maxRecDepth 100000 in
theorem c_X7_height (l : Launch) (G : zG) (ad : zA) (A : Nat → Prop) (N0 : Nat) (σ : zS) (hM : zMm ad) (nd nr : Nat) (hnd : nd ≤ 8) (hnr : nr ≤ 60) (h8 : σ 30 0 8 = (nd : Int)) (h23 : σ 30 0 23 = (nr : Int)) (hrp : ∀ i, i < nr → 0 ≤ σ 65 0 i) (hdp : ∀ i, i < nd → 0 ≤ σ 49 0 i) (a : Int) (ga : zg a) : Met l yX7_height wsX7_height ({ frames := 2, cells := 0, slots := 0, locals := 44 }) (zP G ad A N0 σ [zr ad 30 ((0 : Nat) : Int), .int (zi a)]) (zQ G ad A zri (fun r u => ((0 ≤ a ∧ a ≤ 3) ∧ min (max (100 + yhs (ym1 (zu σ 30 0 0 0) a) nr - yhs (ym2 (zu σ 30 0 0 0) a) nd) 100) (σ 30 0 2) = r ∧ u = zu σ 30 0 0 0) ∨ (¬ (0 ≤ a ∧ a ≤ 3) ∧ 0 = r ∧ u = zu σ 30 0 0 1))) 0 0 A := by
  refine zz_of (cc := cX7_height) (maxL := 2) (ret := (some .int)) (by decide) rfl ⟨rfl, rfl⟩ (List.forall_mem_cons.mpr ⟨zr_cat _ _ _, List.forall_mem_cons.mpr ⟨rfl, fun _ h => absurd h List.not_mem_nil⟩⟩) (Nat.le_of_ble_eq_true rfl) ?_
  intro p e s m below meth c hx hb hr hml hts hown hlocks hsz hW0 hK ls hl
  have hS0 : va_S A s.heap s.heap [] := va_S.rf
  have hl : zh ls 2 [(0, zr ad 30 ((0 : Nat) : Int)), (1, .int (zi a))] := hl
  refine zz_aload_n hx hb hl 0 dX7_height_0 rfl rfl ?_
  refine zz_iload_n hx hb hl 1 dX7_height_1 rfl rfl ?_
  refine zz_iconst hx hb dX7_height_2 ?_
  refine zz_iconst hx hb dX7_height_3 ?_
  refine zz_callS (As := [.int (zi a), .int (zi 0), .int (zi 3)]) (rest := [zr ad 30 ((0 : Nat) : Int)]) ⟨hx, hb, hml, hown, hts⟩ (c_X7_in l G ad A N0 σ a 0 3 ga ⟨by decide, by decide⟩ ⟨by decide, by decide⟩) (va_cwS 3 hts gX7_height_X7_in rfl rfl rfl (by decide +kernel) ⟨Nat.le_of_ble_eq_true rfl, Nat.le_of_ble_eq_true rfl⟩) hK hW0 (Nat.le_trans hsz hS0.1) hS0 rfl hl.1.1 rfl (by simp [zr_cat, zcat_i]) dX7_height_4 ⟨Nat.le_of_ble_eq_true rfl, Nat.le_of_ble_eq_true rfl⟩ (fun x1 σ1 H1 locs1 hp1 hW1 hz1 hS1 => ?_)
  obtain ⟨rfl, rfl⟩ := hp1
  refine W.eq (g2 := F0 m 7 ls [.int (zi (zb (0 ≤ a ∧ a ≤ 3))), zr ad 30 ((0 : Nat) : Int)]) rfl ?_
  refine zz_if_eqb (tgt := 14) hx hb dX7_height_7 (by decide) (fun hc7 => ?_) (fun hc7 => ?_)
  · refine zz_iconst hx hb dX7_height_14 ?_
    refine zz_callV (T := TX7) (N := 42) (As := [.int (zi 1)]) (rest := []) (v := ((0 : Nat) : Int)) (κ := 30) ⟨hx, hb, hml, hown, hts⟩ (c_X7_refused l G ad A N0 σ hM (1) ⟨by decide, by decide⟩) (cwV 1 hts gX7_height_X7_refused rfl rfl rfl (by decide +kernel) ⟨Nat.le_of_ble_eq_true rfl, Nat.le_of_ble_eq_true rfl⟩) hK hW1 (zlN (hM 30 rfl)) rfl rfl (Nat.le_trans hsz hS1.1) hS1 rfl hl.1.1 rfl (Nat.le_of_ble_eq_true rfl) dX7_height_15 ⟨Nat.le_of_ble_eq_true rfl, Nat.le_of_ble_eq_true rfl⟩ (fun x2 σ2 H2 locs2 hp2 hW2 hz2 hS2 => ?_)
    have hs2 : σ2 = zu σ 30 0 0 (1) := hp2.1.symm
    obtain rfl := hp2.2
    refine W.eq (g2 := F0 m 18 ls [.int (zi (zb ((1 : Int) ≠ 0)))]) rfl ?_
    refine zz_if_eqb (tgt := 25) hx hb dX7_height_18 (by decide) (fun hc18 => ?_) (fun hc18 => ?_)
    · exact absurd (by decide) hc18
    · refine zz_iconst hx hb dX7_height_21 ?_
      refine zz_goto (tgt := 30) hx hb dX7_height_22 (by decide) ?_
      refine W.eq (g2 := F0 m 30 ls [.int (zi 0)]) rfl ?_
      refine zz_reti hx hb hr hlocks hW2 hS2 ?_ dX7_height_30
      exact Or.inr ⟨hc7, rfl, by rw [hs2]⟩
  · refine zz_iconst hx hb dX7_height_10 ?_
    refine zz_goto (tgt := 15) hx hb dX7_height_11 (by decide) ?_
    refine zz_callV (T := TX7) (N := 42) (As := [.int (zi 0)]) (rest := []) (v := ((0 : Nat) : Int)) (κ := 30) ⟨hx, hb, hml, hown, hts⟩ (c_X7_refused l G ad A N0 σ hM (0) ⟨by decide, by decide⟩) (cwV 1 hts gX7_height_X7_refused rfl rfl rfl (by decide +kernel) ⟨Nat.le_of_ble_eq_true rfl, Nat.le_of_ble_eq_true rfl⟩) hK hW1 (zlN (hM 30 rfl)) rfl rfl (Nat.le_trans hsz hS1.1) hS1 rfl hl.1.1 rfl (Nat.le_of_ble_eq_true rfl) dX7_height_15 ⟨Nat.le_of_ble_eq_true rfl, Nat.le_of_ble_eq_true rfl⟩ (fun x3 σ3 H3 locs3 hp3 hW3 hz3 hS3 => ?_)
    have hs3 : σ3 = zu σ 30 0 0 (0) := hp3.1.symm
    obtain rfl := hp3.2
    refine W.eq (g2 := F0 m 18 ls [.int (zi (zb ((0 : Int) ≠ 0)))]) rfl ?_
    refine zz_if_eqb (tgt := 25) hx hb dX7_height_18 (by decide) (fun hc18 => ?_) (fun hc18 => ?_)
    · refine zz_aload_n hx hb hl 0 dX7_height_25 rfl rfl ?_
      refine zz_iload_n hx hb hl 1 dX7_height_26 rfl rfl ?_
      refine zz_callV (T := TX7) (N := 42) (As := [.int (zi a)]) (rest := []) (v := ((0 : Nat) : Int)) (κ := 30) ⟨hx, hb, hml, hown, hts⟩ (c_X7_heightOf l G ad A N0 σ3 hM nd nr hnd hnr (by rw [hs3, zu_ne (by omega)]; exact h8) (by rw [hs3, zu_ne (by omega)]; exact h23) a ga (fun i hi => by rw [hs3, zu_ne (by omega)]; exact hrp i hi) (fun i hi => by rw [hs3, zu_ne (by omega)]; exact hdp i hi)) (cwV 1 hts gX7_height_X7_heightOf rfl rfl rfl (by decide +kernel) ⟨Nat.le_of_ble_eq_true rfl, Nat.le_of_ble_eq_true rfl⟩) hK hW3 (zlN (hM 30 rfl)) rfl rfl (Nat.le_trans hsz hS3.1) hS3 rfl hl.1.1 rfl (Nat.le_of_ble_eq_true rfl) dX7_height_27 ⟨Nat.le_of_ble_eq_true rfl, Nat.le_of_ble_eq_true rfl⟩ (fun x4 σ4 H4 locs4 hp4 hW4 hz4 hS4 => ?_)
      obtain ⟨rfl, hx9⟩ := hp4
      rw [hs3, zu_ne (κ' := 30) (k' := 2) (by omega)] at hx9
      refine W.eq (g2 := F0 m 30 ls [.int (zi x4)]) rfl ?_
      refine W.eq (g2 := F0 m 30 ls [.int (zi x4)]) rfl ?_
      refine zz_reti hx hb hr hlocks hW4 hS4 ?_ dX7_height_30
      exact Or.inl ⟨hc7, hx9, by rw [hs3]⟩
    · exact absurd rfl hc18

set_option maxHeartbeats 4000000 in
set_option maxRecDepth 100000 in
theorem c_X7_way (l : Launch) (G : zG) (ad : zA) (A : Nat → Prop) (N0 : Nat) (σ : zS) (hM : zMm ad) (a b : Int) (ga : zg a) (gb : zg b) : Met l yX7_way wsX7_way ({ frames := 2, cells := 0, slots := 0, locals := 42 }) (zP G ad A N0 σ [zr ad 30 ((0 : Nat) : Int), .int (zi a), .int (zi b)]) (zQ G ad A zri (fun r u => (((0 ≤ a ∧ a ≤ 9) ∧ (0 ≤ b ∧ b ≤ 9)) ∧ (if σ 47 0 (10 * a.toNat + b.toNat) < 100000 then σ 47 0 (10 * a.toNat + b.toNat) else -1) = r ∧ u = zu σ 30 0 0 0) ∨ (¬ ((0 ≤ a ∧ a ≤ 9) ∧ (0 ≤ b ∧ b ≤ 9)) ∧ 0 = r ∧ u = zu σ 30 0 0 1))) 0 0 A := by
  refine zz_of (cc := cX7_way) (maxL := 3) (ret := (some .int)) (by decide) rfl ⟨rfl, rfl⟩ (List.forall_mem_cons.mpr ⟨zr_cat _ _ _, List.forall_mem_cons.mpr ⟨rfl, List.forall_mem_cons.mpr ⟨rfl, fun _ h => absurd h List.not_mem_nil⟩⟩⟩) (Nat.le_of_ble_eq_true rfl) ?_
  intro p e s m below meth c hx hb hr hml hts hown hlocks hsz hW0 hK ls hl
  have hS0 : va_S A s.heap s.heap [] := va_S.rf
  have hl : zh ls 3 [(0, zr ad 30 ((0 : Nat) : Int)), (1, .int (zi a)), (2, .int (zi b))] := hl
  refine zz_aload_n hx hb hl 0 dX7_way_0 rfl rfl ?_
  refine zz_iload_n hx hb hl 1 dX7_way_1 rfl rfl ?_
  refine zz_callS (As := [.int (zi a)]) (rest := [zr ad 30 ((0 : Nat) : Int)]) ⟨hx, hb, hml, hown, hts⟩ (c_X7_isPlace l G ad A N0 σ a ga) (va_cwS 1 hts gX7_way_X7_isPlace rfl rfl rfl (by decide +kernel) ⟨Nat.le_of_ble_eq_true rfl, Nat.le_of_ble_eq_true rfl⟩) hK hW0 (Nat.le_trans hsz hS0.1) hS0 rfl hl.1.1 rfl (by simp [zr_cat, zcat_i]) dX7_way_2 ⟨Nat.le_of_ble_eq_true rfl, Nat.le_of_ble_eq_true rfl⟩ (fun x1 σ1 H1 locs1 hp1 hW1 hz1 hS1 => ?_)
  obtain ⟨rfl, rfl⟩ := hp1
  refine W.eq (g2 := F0 m 5 ls [.int (zi (zb (0 ≤ a ∧ a ≤ 9))), zr ad 30 ((0 : Nat) : Int)]) rfl ?_
  refine zz_if_eqb (tgt := 19) hx hb dX7_way_5 (by decide) (fun hc5 => ?_) (fun hc5 => ?_)
  · refine zz_iconst hx hb dX7_way_19 ?_
    refine zz_callV (T := TX7) (N := 42) (As := [.int (zi 1)]) (rest := []) (v := ((0 : Nat) : Int)) (κ := 30) ⟨hx, hb, hml, hown, hts⟩ (c_X7_refused l G ad A N0 σ hM (1) ⟨by decide, by decide⟩) (cwV 1 hts gX7_way_X7_refused rfl rfl rfl (by decide +kernel) ⟨Nat.le_of_ble_eq_true rfl, Nat.le_of_ble_eq_true rfl⟩) hK hW1 (zlN (hM 30 rfl)) rfl rfl (Nat.le_trans hsz hS1.1) hS1 rfl hl.1.1 rfl (Nat.le_of_ble_eq_true rfl) dX7_way_20 ⟨Nat.le_of_ble_eq_true rfl, Nat.le_of_ble_eq_true rfl⟩ (fun x2 σ2 H2 locs2 hp2 hW2 hz2 hS2 => ?_)
    have hs2 : σ2 = zu σ 30 0 0 (1) := hp2.1.symm
    obtain rfl := hp2.2
    refine W.eq (g2 := F0 m 23 ls [.int (zi (zb ((1 : Int) ≠ 0)))]) rfl ?_
    refine zz_if_eqb (tgt := 28) hx hb dX7_way_23 (by decide) (fun hc23 => ?_) (fun hc23 => ?_)
    · exact absurd (by decide) hc23
    · refine zz_iconst hx hb dX7_way_26 ?_
      refine W.eq (g2 := F0 m 27 ls [.int (zi 0)]) rfl ?_
      refine zz_reti hx hb hr hlocks hW2 hS2 ?_ dX7_way_27
      exact Or.inr ⟨fun q9 => by first | exact hc5 q9.1 | exact hc12 q9.2, rfl, by rw [hs2]⟩
  · refine zz_iload_n hx hb hl 2 dX7_way_8 rfl rfl ?_
    refine zz_callS (As := [.int (zi b)]) (rest := [zr ad 30 ((0 : Nat) : Int)]) ⟨hx, hb, hml, hown, hts⟩ (c_X7_isPlace l G ad A N0 σ b gb) (va_cwS 1 hts gX7_way_X7_isPlace rfl rfl rfl (by decide +kernel) ⟨Nat.le_of_ble_eq_true rfl, Nat.le_of_ble_eq_true rfl⟩) hK hW1 (Nat.le_trans hsz hS1.1) hS1 rfl hl.1.1 rfl (by simp [zr_cat, zcat_i]) dX7_way_9 ⟨Nat.le_of_ble_eq_true rfl, Nat.le_of_ble_eq_true rfl⟩ (fun x3 σ3 H3 locs3 hp3 hW3 hz3 hS3 => ?_)
    obtain ⟨rfl, rfl⟩ := hp3
    refine W.eq (g2 := F0 m 12 ls [.int (zi (zb (0 ≤ b ∧ b ≤ 9))), zr ad 30 ((0 : Nat) : Int)]) rfl ?_
    refine zz_if_eqb (tgt := 19) hx hb dX7_way_12 (by decide) (fun hc12 => ?_) (fun hc12 => ?_)
    · refine zz_iconst hx hb dX7_way_19 ?_
      refine zz_callV (T := TX7) (N := 42) (As := [.int (zi 1)]) (rest := []) (v := ((0 : Nat) : Int)) (κ := 30) ⟨hx, hb, hml, hown, hts⟩ (c_X7_refused l G ad A N0 σ hM (1) ⟨by decide, by decide⟩) (cwV 1 hts gX7_way_X7_refused rfl rfl rfl (by decide +kernel) ⟨Nat.le_of_ble_eq_true rfl, Nat.le_of_ble_eq_true rfl⟩) hK hW3 (zlN (hM 30 rfl)) rfl rfl (Nat.le_trans hsz hS3.1) hS3 rfl hl.1.1 rfl (Nat.le_of_ble_eq_true rfl) dX7_way_20 ⟨Nat.le_of_ble_eq_true rfl, Nat.le_of_ble_eq_true rfl⟩ (fun x4 σ4 H4 locs4 hp4 hW4 hz4 hS4 => ?_)
      have hs4 : σ4 = zu σ 30 0 0 (1) := hp4.1.symm
      obtain rfl := hp4.2
      refine W.eq (g2 := F0 m 23 ls [.int (zi (zb ((1 : Int) ≠ 0)))]) rfl ?_
      refine zz_if_eqb (tgt := 28) hx hb dX7_way_23 (by decide) (fun hc23 => ?_) (fun hc23 => ?_)
      · exact absurd (by decide) hc23
      · refine zz_iconst hx hb dX7_way_26 ?_
        refine W.eq (g2 := F0 m 27 ls [.int (zi 0)]) rfl ?_
        refine zz_reti hx hb hr hlocks hW4 hS4 ?_ dX7_way_27
        exact Or.inr ⟨fun q9 => by first | exact hc5 q9.1 | exact hc12 q9.2, rfl, by rw [hs4]⟩
    · refine zz_iconst hx hb dX7_way_15 ?_
      refine zz_goto (tgt := 20) hx hb dX7_way_16 (by decide) ?_
      refine zz_callV (T := TX7) (N := 42) (As := [.int (zi 0)]) (rest := []) (v := ((0 : Nat) : Int)) (κ := 30) ⟨hx, hb, hml, hown, hts⟩ (c_X7_refused l G ad A N0 σ hM (0) ⟨by decide, by decide⟩) (cwV 1 hts gX7_way_X7_refused rfl rfl rfl (by decide +kernel) ⟨Nat.le_of_ble_eq_true rfl, Nat.le_of_ble_eq_true rfl⟩) hK hW3 (zlN (hM 30 rfl)) rfl rfl (Nat.le_trans hsz hS3.1) hS3 rfl hl.1.1 rfl (Nat.le_of_ble_eq_true rfl) dX7_way_20 ⟨Nat.le_of_ble_eq_true rfl, Nat.le_of_ble_eq_true rfl⟩ (fun x5 σ5 H5 locs5 hp5 hW5 hz5 hS5 => ?_)
      have hs5 : σ5 = zu σ 30 0 0 (0) := hp5.1.symm
      obtain rfl := hp5.2
      refine W.eq (g2 := F0 m 23 ls [.int (zi (zb ((0 : Int) ≠ 0)))]) rfl ?_
      refine zz_if_eqb (tgt := 28) hx hb dX7_way_23 (by decide) (fun hc23 => ?_) (fun hc23 => ?_)
      · have ea : (a : Int) = ((a.toNat : Nat) : Int) := by omega
        have eb : (b : Int) = ((b.toNat : Nat) : Int) := by omega
        have hl : zh ls 3 [(0, zr ad 30 ((0 : Nat) : Int)), (1, .int (zi ((a.toNat : Nat) : Int))), (2, .int (zi ((b.toNat : Nat) : Int)))] := by
          rw [← ea, ← eb]
          exact hl
        refine zz_aload_n hx hb hl 0 dX7_way_28 rfl rfl ?_
        refine zz_iload_n hx hb hl 1 dX7_way_29 rfl rfl ?_
        refine zz_iload_n hx hb hl 2 dX7_way_30 rfl rfl ?_
        refine zz_callV (T := TX7) (N := 42) (As := [.int (zi ((a.toNat : Nat) : Int)), .int (zi ((b.toNat : Nat) : Int))]) (rest := []) (v := ((0 : Nat) : Int)) (κ := 30) ⟨hx, hb, hml, hown, hts⟩ (c_X7_wayOf l G ad A N0 σ5 hM a.toNat b.toNat (by omega) (by omega)) (cwV 2 hts gX7_way_X7_wayOf rfl rfl rfl (by decide +kernel) ⟨Nat.le_of_ble_eq_true rfl, Nat.le_of_ble_eq_true rfl⟩) hK hW5 (zlN (hM 30 rfl)) rfl rfl (Nat.le_trans hsz hS5.1) hS5 rfl hl.1.1 rfl (Nat.le_of_ble_eq_true rfl) dX7_way_31 ⟨Nat.le_of_ble_eq_true rfl, Nat.le_of_ble_eq_true rfl⟩ (fun x6 σ6 H6 locs6 hp6 hW6 hz6 hS6 => ?_)
        obtain ⟨rfl, hx9⟩ := hp6
        rw [hs5, zu_ne (by omega)] at hx9
        obtain rfl := hx9
        refine W.eq (g2 := F0 m 34 ls [.int (zi (σ 47 0 (10 * a.toNat + b.toNat)))]) rfl ?_
        refine zz_ldc (n := 100000) (v := 100000) hx hb hown (hts (.constant RX7 133 (100000)) (by decide +kernel)) (by decide +kernel) dX7_way_34 ?_
        refine zz_icmp_lt (tgt := 43) hx hb dX7_way_36 (by decide) (hW0.2.2.1 _ _ _) ⟨by decide, by decide⟩ (fun hc36 => ?_) (fun hc36 => ?_)
        · refine zz_aload_n hx hb hl 0 dX7_way_43 rfl rfl ?_
          refine zz_iload_n hx hb hl 1 dX7_way_44 rfl rfl ?_
          refine zz_iload_n hx hb hl 2 dX7_way_45 rfl rfl ?_
          refine zz_callV (T := TX7) (N := 42) (As := [.int (zi ((a.toNat : Nat) : Int)), .int (zi ((b.toNat : Nat) : Int))]) (rest := []) (v := ((0 : Nat) : Int)) (κ := 30) ⟨hx, hb, hml, hown, hts⟩ (c_X7_wayOf l G ad A N0 σ5 hM a.toNat b.toNat (by omega) (by omega)) (cwV 2 hts gX7_way_X7_wayOf rfl rfl rfl (by decide +kernel) ⟨Nat.le_of_ble_eq_true rfl, Nat.le_of_ble_eq_true rfl⟩) hK hW6 (zlN (hM 30 rfl)) rfl rfl (Nat.le_trans hsz hS6.1) hS6 rfl hl.1.1 rfl (Nat.le_of_ble_eq_true rfl) dX7_way_46 ⟨Nat.le_of_ble_eq_true rfl, Nat.le_of_ble_eq_true rfl⟩ (fun x7 σ7 H7 locs7 hp7 hW7 hz7 hS7 => ?_)
          obtain ⟨rfl, hx9⟩ := hp7
          rw [hs5, zu_ne (by omega)] at hx9
          obtain rfl := hx9
          refine W.eq (g2 := F0 m 49 ls [.int (zi (σ 47 0 (10 * a.toNat + b.toNat)))]) rfl ?_
          refine W.eq (g2 := F0 m 49 ls [.int (zi (σ 47 0 (10 * a.toNat + b.toNat)))]) rfl ?_
          refine zz_reti hx hb hr hlocks hW7 hS7 ?_ dX7_way_49
          exact Or.inl ⟨⟨hc5, hc12⟩, if_pos (by omega), by rw [hs5]⟩
        · refine zz_iconst hx hb dX7_way_39 ?_
          refine zz_goto (tgt := 49) hx hb dX7_way_40 (by decide) ?_
          refine W.eq (g2 := F0 m 49 ls [.int (zi (-1))]) rfl ?_
          refine zz_reti hx hb hr hlocks hW6 hS6 ?_ dX7_way_49
          exact Or.inl ⟨⟨hc5, hc12⟩, if_neg hc36, by rw [hs5]⟩
      · exact absurd rfl hc23

noncomputable def ymr (σ : zS) (d : Nat) (x : Int) : zS := if σ 50 0 d ≠ 0 ∧ x = 0 then ybf (zu (zu σ 30 0 0 0) 50 0 d x) d else zu (zu σ 30 0 0 0) 50 0 d x

set_option maxHeartbeats 4000000 in
set_option maxRecDepth 100000 in
theorem c_X7_rest (l : Launch) (G : zG) (ad : zA) (A : Nat → Prop) (N0 : Nat) (σ : zS) (hM : zMm ad) (a x : Int) (ga : zg a) (hx01 : x = 0 ∨ x = 1) (hn : 0 ≤ σ 30 0 8 ∧ σ 30 0 8 ≤ 8) (hgo : 0 ≤ σ 30 0 17 ∧ σ 30 0 17 < 2000000000) : Met l yX7_rest wsX7_rest ({ frames := 2, cells := 0, slots := 0, locals := 43 }) (zP G ad A N0 σ [zr ad 30 ((0 : Nat) : Int), .int (zi a), .int (zi x)]) (zQ G ad A zri (fun r u => (¬ (0 ≤ a ∧ a ≤ σ 30 0 8 - 1) ∧ 0 = r ∧ u = zu σ 30 0 0 1) ∨ ((0 ≤ a ∧ a ≤ σ 30 0 8 - 1) ∧ 0 < σ 52 0 a.toNat ∧ 0 = r ∧ u = zu σ 30 0 0 2) ∨ ((0 ≤ a ∧ a ≤ σ 30 0 8 - 1) ∧ ¬ 0 < σ 52 0 a.toNat ∧ σ 50 0 a.toNat = r ∧ u = ymr σ a.toNat x))) 0 0 A := by
  refine zz_of (cc := cX7_rest) (maxL := 5) (ret := (some .boolean)) (by decide) rfl ⟨rfl, rfl⟩ (List.forall_mem_cons.mpr ⟨zr_cat _ _ _, List.forall_mem_cons.mpr ⟨rfl, List.forall_mem_cons.mpr ⟨rfl, fun _ h => absurd h List.not_mem_nil⟩⟩⟩) (Nat.le_of_ble_eq_true rfl) ?_
  intro p e s m below meth c hx hb hr hml hts hown hlocks hsz hW0 hK ls hl
  have hS0 : va_S A s.heap s.heap [] := va_S.rf
  have hl : zh ls 5 [(0, zr ad 30 ((0 : Nat) : Int)), (1, .int (zi a)), (2, .int (zi x))] := hl
  have hinX7 : ∀ w ∈ u_ws RX7 TX7 42, w ∈ wsX7_rest := by decide +kernel
  refine zz_aload_n hx hb hl 0 dX7_rest_0 rfl rfl ?_
  refine zz_iload_n hx hb hl 1 dX7_rest_1 rfl rfl ?_
  refine zz_callV (T := TX7) (N := 42) (As := [.int (zi a)]) (rest := []) (v := ((0 : Nat) : Int)) (κ := 30) ⟨hx, hb, hml, hown, hts⟩ (c_X7_isDriver l G ad A N0 σ hM a ga hn) (cwV 1 hts gX7_rest_X7_isDriver rfl rfl rfl (by decide +kernel) ⟨Nat.le_of_ble_eq_true rfl, Nat.le_of_ble_eq_true rfl⟩) hK hW0 (zlN (hM 30 rfl)) rfl rfl (Nat.le_trans hsz hS0.1) hS0 rfl hl.1.1 rfl (Nat.le_of_ble_eq_true rfl) dX7_rest_2 ⟨Nat.le_of_ble_eq_true rfl, Nat.le_of_ble_eq_true rfl⟩ (fun x1 σ1 H1 locs1 hp1 hW1 hz1 hS1 => ?_)
  obtain ⟨rfl, rfl⟩ := hp1
  refine W.eq (g2 := F0 m 5 ls [.int (zi (zb (0 ≤ a ∧ a ≤ σ 30 0 8 - 1)))]) rfl ?_
  refine zz_istore_n (lv' := [(3, .int (zi (zb (0 ≤ a ∧ a ≤ σ 30 0 8 - 1)))), (0, zr ad 30 ((0 : Nat) : Int)), (1, .int (zi a)), (2, .int (zi x))]) hx hb hl dX7_rest_5 rfl (by decide) rfl (fun ls hl => ?_)
  refine zz_aload_n hx hb hl 1 dX7_rest_6 rfl rfl ?_
  refine zz_iload_n hx hb hl 0 dX7_rest_7 rfl rfl ?_
  refine zz_if_neb (tgt := 15) hx hb dX7_rest_8 (by decide) (fun hc8 => ?_) (fun hc8 => ?_)
  · refine zz_aload_n hx hb hl 1 dX7_rest_15 rfl rfl ?_
    refine zz_get (T := TX7) (N := 42) (k := 12) (κ := 30) (w := zr ad 52 ((0 : Nat) : Int)) hx hb hts hinX7 hown hK hW1 (zlN (hM 30 rfl)) rfl rfl rfl (by decide) (hts (.fieldLink RX7 36 "HailCityModel" "stops" "[I") (by decide +kernel)) (fun _ h9 => h9) rfl dX7_rest_16 ?_
    refine zz_iload_n hx hb hl 2 dX7_rest_19 rfl rfl ?_
    refine zz_iald (w := σ 52 0 ((a).toNat)) hx hb hK hW1 (zlN (hM 52 rfl)) rfl rfl rfl (by show (0 : Int) ≤ a; omega) (by show a < (8 : Int); omega) rfl dX7_rest_20 ?_
    refine zz_if_le (tgt := 28) hx hb dX7_rest_21 (by decide) (hW1.2.2.1 _ _ _) (fun hc21 => ?_) (fun hc21 => ?_)
    · refine zz_iconst hx hb dX7_rest_28 ?_
      refine zz_callV (T := TX7) (N := 42) (As := [.int (zi 0)]) (rest := []) (v := ((0 : Nat) : Int)) (κ := 30) ⟨hx, hb, hml, hown, hts⟩ (c_X7_refused l G ad A N0 σ hM (0) ⟨by decide, by decide⟩) (cwV 1 hts gX7_rest_X7_refused rfl rfl rfl (by decide +kernel) ⟨Nat.le_of_ble_eq_true rfl, Nat.le_of_ble_eq_true rfl⟩) hK hW1 (zlN (hM 30 rfl)) rfl rfl (Nat.le_trans hsz hS1.1) hS1 rfl hl.1.1 rfl (Nat.le_of_ble_eq_true rfl) dX7_rest_29 ⟨Nat.le_of_ble_eq_true rfl, Nat.le_of_ble_eq_true rfl⟩ (fun x2 σ2 H2 locs2 hp2 hW2 hz2 hS2 => ?_)
      have hs2 : σ2 = zu σ 30 0 0 (0) := hp2.1.symm
      obtain rfl := hp2.2
      refine W.eq (g2 := F0 m 32 ls [.int (zi (zb ((0 : Int) ≠ 0)))]) rfl ?_
      refine zz_if_eqb (tgt := 37) hx hb dX7_rest_32 (by decide) (fun hc32 => ?_) (fun hc32 => ?_)
      · have ea : (a : Int) = ((a.toNat : Nat) : Int) := by omega
        have hl : zh ls 5 [(3, .int (zi (zb (0 ≤ a ∧ a ≤ σ 30 0 8 - 1)))), (0, zr ad 30 ((0 : Nat) : Int)), (1, .int (zi ((a.toNat : Nat) : Int))), (2, .int (zi x))] := by
          rw [← ea]
          exact hl
        refine zz_aload_n hx hb hl 1 dX7_rest_37 rfl rfl ?_
        refine zz_get (T := TX7) (N := 42) (k := 10) (κ := 30) (w := zr ad 50 ((0 : Nat) : Int)) hx hb hts hinX7 hown hK hW2 (zlN (hM 30 rfl)) rfl rfl rfl (by decide) (hts (.fieldLink RX7 29 "HailCityModel" "isResting" "[Z") (by decide +kernel)) (fun _ h9 => h9) rfl dX7_rest_38 ?_
        refine zz_iload_n hx hb hl 2 dX7_rest_41 rfl rfl ?_
        refine zz_zald (w := σ 50 0 a.toNat) hx hb hK hW2 (zlN (hM 50 rfl)) rfl rfl rfl (by show (0 : Int) ≤ ((a.toNat : Nat) : Int); omega) (by show ((a.toNat : Nat) : Int) < (8 : Int); omega) (show σ2 50 0 a.toNat = σ 50 0 a.toNat from by rw [hs2, zu_k (by decide)]) dX7_rest_42 ?_
        refine zz_istore (lv' := [(4, .int (zi (σ 50 0 a.toNat))), (3, .int (zi (zb (0 ≤ a ∧ a ≤ σ 30 0 8 - 1)))), (0, zr ad 30 ((0 : Nat) : Int)), (1, .int (zi ((a.toNat : Nat) : Int))), (2, .int (zi x))]) hx hb hl dX7_rest_43 (by decide) rfl (fun ls hl => ?_)
        refine zz_aload_n hx hb hl 2 dX7_rest_45 rfl rfl ?_
        refine zz_get (T := TX7) (N := 42) (k := 10) (κ := 30) (w := zr ad 50 ((0 : Nat) : Int)) hx hb hts hinX7 hown hK hW2 (zlN (hM 30 rfl)) rfl rfl rfl (by decide) (hts (.fieldLink RX7 29 "HailCityModel" "isResting" "[Z") (by decide +kernel)) (fun _ h9 => h9) rfl dX7_rest_46 ?_
        refine zz_iload_n hx hb hl 3 dX7_rest_49 rfl rfl ?_
        refine zz_iload_n hx hb hl 4 dX7_rest_50 rfl rfl ?_
        refine zz_zast (y := x) hx hb hK hW2 hS2 (zlN (hM 50 rfl)) rfl rfl rfl (by show (0 : Int) ≤ ((a.toNat : Nat) : Int); omega) (by show ((a.toNat : Nat) : Int) < (8 : Int); omega) hx01 dX7_rest_51 (fun H3 locs3 hW3' hS3 => ?_)
        obtain ⟨σ3, hs3⟩ : ∃ z, z = zu σ2 50 0 a.toNat x := ⟨_, rfl⟩
        have hW3 : ZW G ad A σ3 H3 := by rw [hs3]; exact hW3'
        refine zz_iload hx hb hl 0 dX7_rest_52 rfl ?_
        refine zz_if_eq (tgt := 66) hx hb dX7_rest_54 (by decide) (hW1.2.2.1 _ _ _) (fun hc54 => ?_) (fun hc54 => ?_)
        · refine zz_iload hx hb hl 0 dX7_rest_66 rfl ?_
          refine W.eq (g2 := F0 m 68 ls [.int (zi (σ 50 0 a.toNat))]) rfl ?_
          refine zz_retz hx hb hr hlocks hW3 hS3 (hW1.2.2.2.2 50 _ a.toNat rfl) ?_ dX7_rest_68
          refine Or.inr (Or.inr ⟨hc8, by omega, rfl, ?_⟩)
          unfold ymr
          first
            | (rw [if_neg (fun q9 => q9.1 hc54), hs3, hs2]; done)
            | (rw [if_neg (fun q9 => hc58 q9.2), hs3, hs2]; done)
            | (rw [if_pos ⟨hc54, by omega⟩, ← hp3, hs3, hs2]; done)
        · refine zz_iload_n hx hb hl 4 dX7_rest_57 rfl rfl ?_
          refine zz_if_ne (tgt := 66) hx hb dX7_rest_58 (by decide) (zg_01 hx01) (fun hc58 => ?_) (fun hc58 => ?_)
          · refine zz_iload hx hb hl 0 dX7_rest_66 rfl ?_
            refine W.eq (g2 := F0 m 68 ls [.int (zi (σ 50 0 a.toNat))]) rfl ?_
            refine zz_retz hx hb hr hlocks hW3 hS3 (hW1.2.2.2.2 50 _ a.toNat rfl) ?_ dX7_rest_68
            refine Or.inr (Or.inr ⟨hc8, by omega, rfl, ?_⟩)
            unfold ymr
            first
              | (rw [if_neg (fun q9 => q9.1 hc54), hs3, hs2]; done)
              | (rw [if_neg (fun q9 => hc58 q9.2), hs3, hs2]; done)
              | (rw [if_pos ⟨hc54, by omega⟩, ← hp3, hs3, hs2]; done)
          · refine zz_aload_n hx hb hl 2 dX7_rest_61 rfl rfl ?_
            refine zz_iload_n hx hb hl 3 dX7_rest_62 rfl rfl ?_
            refine zz_callV (T := TX7) (N := 42) (As := [.int (zi ((a.toNat : Nat) : Int))]) (rest := []) (v := ((0 : Nat) : Int)) (κ := 30) ⟨hx, hb, hml, hown, hts⟩ (c_X7_becomesFree l G ad A N0 σ3 hM a.toNat (by omega) (by rw [hs3, zu_ne (by omega), hs2, zu_ne (by omega)]; exact hgo)) (cwV 1 hts gX7_rest_X7_becomesFree rfl rfl rfl (by decide +kernel) ⟨Nat.le_of_ble_eq_true rfl, Nat.le_of_ble_eq_true rfl⟩) hK hW3 (zlN (hM 30 rfl)) rfl rfl (Nat.le_trans hsz hS3.1) hS3 rfl hl.1.1 rfl (Nat.le_of_ble_eq_true rfl) dX7_rest_63 ⟨Nat.le_of_ble_eq_true rfl, Nat.le_of_ble_eq_true rfl⟩ (fun x4 σ4 H4 locs4 hp4 hW4 hz4 hS4 => ?_)
            refine W.eq (g2 := F0 m 66 ls []) rfl ?_
            refine zz_iload hx hb hl 0 dX7_rest_66 rfl ?_
            refine W.eq (g2 := F0 m 68 ls [.int (zi (σ 50 0 a.toNat))]) rfl ?_
            refine zz_retz hx hb hr hlocks hW4 hS4 (hW1.2.2.2.2 50 _ a.toNat rfl) ?_ dX7_rest_68
            refine Or.inr (Or.inr ⟨hc8, by omega, rfl, ?_⟩)
            unfold ymr
            first
              | (rw [if_neg (fun q9 => q9.1 hc54), ]; done)
              | (rw [if_neg (fun q9 => hc58 q9.2), ]; done)
              | (rw [if_pos ⟨hc54, by omega⟩, ← hp4, hs3, hs2]; done)
      · exact absurd rfl hc32
    · refine zz_iconst hx hb dX7_rest_24 ?_
      refine zz_goto (tgt := 29) hx hb dX7_rest_25 (by decide) ?_
      refine zz_callV (T := TX7) (N := 42) (As := [.int (zi 2)]) (rest := []) (v := ((0 : Nat) : Int)) (κ := 30) ⟨hx, hb, hml, hown, hts⟩ (c_X7_refused l G ad A N0 σ hM (2) ⟨by decide, by decide⟩) (cwV 1 hts gX7_rest_X7_refused rfl rfl rfl (by decide +kernel) ⟨Nat.le_of_ble_eq_true rfl, Nat.le_of_ble_eq_true rfl⟩) hK hW1 (zlN (hM 30 rfl)) rfl rfl (Nat.le_trans hsz hS1.1) hS1 rfl hl.1.1 rfl (Nat.le_of_ble_eq_true rfl) dX7_rest_29 ⟨Nat.le_of_ble_eq_true rfl, Nat.le_of_ble_eq_true rfl⟩ (fun x5 σ5 H5 locs5 hp5 hW5 hz5 hS5 => ?_)
      have hs5 : σ5 = zu σ 30 0 0 (2) := hp5.1.symm
      obtain rfl := hp5.2
      refine W.eq (g2 := F0 m 32 ls [.int (zi (zb ((2 : Int) ≠ 0)))]) rfl ?_
      refine zz_if_eqb (tgt := 37) hx hb dX7_rest_32 (by decide) (fun hc32 => ?_) (fun hc32 => ?_)
      · exact absurd (by decide) hc32
      · refine zz_iconst hx hb dX7_rest_35 ?_
        refine W.eq (g2 := F0 m 36 ls [.int (zi 0)]) rfl ?_
        refine zz_retz hx hb hr hlocks hW5 hS5 (by decide) ?_ dX7_rest_36
        exact Or.inr (Or.inl ⟨hc8, by omega, rfl, by rw [hs5]⟩)
  · refine zz_iconst hx hb dX7_rest_11 ?_
    refine zz_goto (tgt := 29) hx hb dX7_rest_12 (by decide) ?_
    refine zz_callV (T := TX7) (N := 42) (As := [.int (zi 1)]) (rest := []) (v := ((0 : Nat) : Int)) (κ := 30) ⟨hx, hb, hml, hown, hts⟩ (c_X7_refused l G ad A N0 σ hM (1) ⟨by decide, by decide⟩) (cwV 1 hts gX7_rest_X7_refused rfl rfl rfl (by decide +kernel) ⟨Nat.le_of_ble_eq_true rfl, Nat.le_of_ble_eq_true rfl⟩) hK hW1 (zlN (hM 30 rfl)) rfl rfl (Nat.le_trans hsz hS1.1) hS1 rfl hl.1.1 rfl (Nat.le_of_ble_eq_true rfl) dX7_rest_29 ⟨Nat.le_of_ble_eq_true rfl, Nat.le_of_ble_eq_true rfl⟩ (fun x6 σ6 H6 locs6 hp6 hW6 hz6 hS6 => ?_)
    have hs6 : σ6 = zu σ 30 0 0 (1) := hp6.1.symm
    obtain rfl := hp6.2
    refine W.eq (g2 := F0 m 32 ls [.int (zi (zb ((1 : Int) ≠ 0)))]) rfl ?_
    refine zz_if_eqb (tgt := 37) hx hb dX7_rest_32 (by decide) (fun hc32 => ?_) (fun hc32 => ?_)
    · exact absurd (by decide) hc32
    · refine zz_iconst hx hb dX7_rest_35 ?_
      refine W.eq (g2 := F0 m 36 ls [.int (zi 0)]) rfl ?_
      refine zz_retz hx hb hr hlocks hW6 hS6 (by decide) ?_ dX7_rest_36
      exact Or.inl ⟨hc8, rfl, by rw [hs6]⟩

/-- the ways are found anew -/
def yfw (v u : zS) (ns : Nat) : Prop := (∀ a b, a < 10 → b < 10 → u 47 0 (10 * a + b) = ywf 100000 (v 44 0) (v 45 0) (v 46 0) ns 10 a b) ∧ zfr (fun κ _ _ => κ = 47) v u

set_option maxHeartbeats 4000000 in
set_option maxRecDepth 100000 in
theorem c_X7_slow (l : Launch) (G : zG) (ad : zA) (A : Nat → Prop) (N0 : Nat) (σ : zS) (hM : zMm ad) (ns : Nat) (hns : σ 30 0 3 = (ns : Int)) (hn20 : ns ≤ 20) (hst : yst (σ 44 0) (σ 45 0) (σ 46 0) ns) (a t : Int) (ga : zg a) (gt : zg t) : Met l yX7_slow wsX7_slow ({ frames := 1, cells := 0, slots := 0, locals := 23 }) (zP G ad A N0 σ [zr ad 30 ((0 : Nat) : Int), .int (zi a), .int (zi t)]) (zQ G ad A zri (fun r u => (¬ (0 ≤ a ∧ a ≤ (ns : Int) - 1) ∧ 0 = r ∧ u = zu σ 30 0 0 1) ∨ ((0 ≤ a ∧ a ≤ (ns : Int) - 1) ∧ ¬ (1 ≤ t ∧ t ≤ 20) ∧ 0 = r ∧ u = zu σ 30 0 0 2) ∨ ((0 ≤ a ∧ a ≤ (ns : Int) - 1) ∧ (1 ≤ t ∧ t ≤ 20) ∧ σ 46 0 a.toNat = r ∧ yfw (zu (zu σ 30 0 0 0) 46 0 a.toNat t) u ns))) 0 0 A := by
  refine zz_of (cc := cX7_slow) (maxL := 4) (ret := (some .int)) (by decide) rfl ⟨rfl, rfl⟩ (List.forall_mem_cons.mpr ⟨zr_cat _ _ _, List.forall_mem_cons.mpr ⟨rfl, List.forall_mem_cons.mpr ⟨rfl, fun _ h => absurd h List.not_mem_nil⟩⟩⟩) (Nat.le_of_ble_eq_true rfl) ?_
  intro p e s m below meth c hx hb hr hml hts hown hlocks hsz hW0 hK ls hl
  have hS0 : va_S A s.heap s.heap [] := va_S.rf
  have hl : zh ls 4 [(0, zr ad 30 ((0 : Nat) : Int)), (1, .int (zi a)), (2, .int (zi t))] := hl
  have hinX7 : ∀ w ∈ u_ws RX7 TX7 42, w ∈ wsX7_slow := by decide +kernel
  refine zz_aload_n hx hb hl 0 dX7_slow_0 rfl rfl ?_
  refine zz_iload_n hx hb hl 1 dX7_slow_1 rfl rfl ?_
  refine zz_iconst hx hb dX7_slow_2 ?_
  refine zz_aload_n hx hb hl 0 dX7_slow_3 rfl rfl ?_
  refine zz_get (T := TX7) (N := 42) (k := 3) (κ := 30) (w := .int (zi ((ns : Nat) : Int))) hx hb hts hinX7 hown hK hW0 (zlN (hM 30 rfl)) rfl rfl rfl (by decide) (hts (.fieldLink RX7 134 "HailCityModel" "streets" "I") (by decide +kernel)) (fun _ h9 => h9) (congrArg (fun z => Value.int (zi z)) (show σ 30 0 3 = ((ns : Nat) : Int) from by rw [hns])) dX7_slow_4 ?_
  refine zz_iconst hx hb dX7_slow_7 ?_
  refine zz_isub hx hb dX7_slow_8 ?_
  refine zz_callS (As := [.int (zi a), .int (zi 0), .int (zi (((ns : Nat) : Int) - 1))]) (rest := [zr ad 30 ((0 : Nat) : Int)]) ⟨hx, hb, hml, hown, hts⟩ (c_X7_in l G ad A N0 σ a 0 ((ns : Int) - 1) ga ⟨by decide, by decide⟩ ⟨by omega, by omega⟩) (va_cwS 3 hts gX7_slow_X7_in rfl rfl rfl (by decide +kernel) ⟨Nat.le_of_ble_eq_true rfl, Nat.le_of_ble_eq_true rfl⟩) hK hW0 (Nat.le_trans hsz hS0.1) hS0 rfl hl.1.1 rfl (by simp [zr_cat, zcat_i]) dX7_slow_9 ⟨Nat.le_of_ble_eq_true rfl, Nat.le_of_ble_eq_true rfl⟩ (fun x1 σ1 H1 locs1 hp1 hW1 hz1 hS1 => ?_)
  obtain ⟨rfl, rfl⟩ := hp1
  refine W.eq (g2 := F0 m 12 ls [.int (zi (zb (0 ≤ a ∧ a ≤ (ns : Int) - 1))), zr ad 30 ((0 : Nat) : Int)]) rfl ?_
  refine zz_if_neb (tgt := 19) hx hb dX7_slow_12 (by decide) (fun hc12 => ?_) (fun hc12 => ?_)
  · refine zz_iload_n hx hb hl 2 dX7_slow_19 rfl rfl ?_
    refine zz_iconst hx hb dX7_slow_20 ?_
    refine zz_bipush hx hb dX7_slow_21 (by decide +kernel) ?_
    refine zz_callS (As := [.int (zi t), .int (zi 1), .int (zi 20)]) (rest := [zr ad 30 ((0 : Nat) : Int)]) ⟨hx, hb, hml, hown, hts⟩ (c_X7_in l G ad A N0 σ t 1 20 gt ⟨by decide, by decide⟩ ⟨by decide, by decide⟩) (va_cwS 3 hts gX7_slow_X7_in rfl rfl rfl (by decide +kernel) ⟨Nat.le_of_ble_eq_true rfl, Nat.le_of_ble_eq_true rfl⟩) hK hW1 (Nat.le_trans hsz hS1.1) hS1 rfl hl.1.1 rfl (by simp [zr_cat, zcat_i]) dX7_slow_23 ⟨Nat.le_of_ble_eq_true rfl, Nat.le_of_ble_eq_true rfl⟩ (fun x2 σ2 H2 locs2 hp2 hW2 hz2 hS2 => ?_)
    obtain ⟨rfl, rfl⟩ := hp2
    refine W.eq (g2 := F0 m 26 ls [.int (zi (zb (1 ≤ t ∧ t ≤ 20))), zr ad 30 ((0 : Nat) : Int)]) rfl ?_
    refine zz_if_neb (tgt := 33) hx hb dX7_slow_26 (by decide) (fun hc26 => ?_) (fun hc26 => ?_)
    · refine zz_iconst hx hb dX7_slow_33 ?_
      refine zz_callV (T := TX7) (N := 42) (As := [.int (zi 0)]) (rest := []) (v := ((0 : Nat) : Int)) (κ := 30) ⟨hx, hb, hml, hown, hts⟩ (c_X7_refused l G ad A N0 σ hM (0) ⟨by decide, by decide⟩) (cwV 1 hts gX7_slow_X7_refused rfl rfl rfl (by decide +kernel) ⟨Nat.le_of_ble_eq_true rfl, Nat.le_of_ble_eq_true rfl⟩) hK hW2 (zlN (hM 30 rfl)) rfl rfl (Nat.le_trans hsz hS2.1) hS2 rfl hl.1.1 rfl (Nat.le_of_ble_eq_true rfl) dX7_slow_34 ⟨Nat.le_of_ble_eq_true rfl, Nat.le_of_ble_eq_true rfl⟩ (fun x3 σ3 H3 locs3 hp3 hW3 hz3 hS3 => ?_)
      have hs3 : σ3 = zu σ 30 0 0 (0) := hp3.1.symm
      obtain rfl := hp3.2
      refine W.eq (g2 := F0 m 37 ls [.int (zi (zb ((0 : Int) ≠ 0)))]) rfl ?_
      refine zz_if_eqb (tgt := 42) hx hb dX7_slow_37 (by decide) (fun hc37 => ?_) (fun hc37 => ?_)
      · have ea : (a : Int) = ((a.toNat : Nat) : Int) := by omega
        have hl : zh ls 4 [(0, zr ad 30 ((0 : Nat) : Int)), (1, .int (zi ((a.toNat : Nat) : Int))), (2, .int (zi t))] := by
          rw [← ea]
          exact hl
        refine zz_aload_n hx hb hl 0 dX7_slow_42 rfl rfl ?_
        refine zz_get (T := TX7) (N := 42) (k := 6) (κ := 30) (w := zr ad 46 ((0 : Nat) : Int)) hx hb hts hinX7 hown hK hW3 (zlN (hM 30 rfl)) rfl rfl rfl (by decide) (hts (.fieldLink RX7 20 "HailCityModel" "takes" "[I") (by decide +kernel)) (fun _ h9 => h9) rfl dX7_slow_43 ?_
        refine zz_iload_n hx hb hl 1 dX7_slow_46 rfl rfl ?_
        refine zz_iald (w := σ 46 0 a.toNat) hx hb hK hW3 (zlN (hM 46 rfl)) rfl rfl rfl (by show (0 : Int) ≤ ((a.toNat : Nat) : Int); omega) (by show ((a.toNat : Nat) : Int) < (20 : Int); omega) (show σ3 46 0 a.toNat = σ 46 0 a.toNat from by rw [hs3, zu_k (by decide)]) dX7_slow_47 ?_
        refine zz_istore_n (lv' := [(3, .int (zi (σ 46 0 a.toNat))), (0, zr ad 30 ((0 : Nat) : Int)), (1, .int (zi ((a.toNat : Nat) : Int))), (2, .int (zi t))]) hx hb hl dX7_slow_48 rfl (by decide) rfl (fun ls hl => ?_)
        refine zz_aload_n hx hb hl 1 dX7_slow_49 rfl rfl ?_
        refine zz_get (T := TX7) (N := 42) (k := 6) (κ := 30) (w := zr ad 46 ((0 : Nat) : Int)) hx hb hts hinX7 hown hK hW3 (zlN (hM 30 rfl)) rfl rfl rfl (by decide) (hts (.fieldLink RX7 20 "HailCityModel" "takes" "[I") (by decide +kernel)) (fun _ h9 => h9) rfl dX7_slow_50 ?_
        refine zz_iload_n hx hb hl 2 dX7_slow_53 rfl rfl ?_
        refine zz_iload_n hx hb hl 3 dX7_slow_54 rfl rfl ?_
        refine zz_iast (y := t) hx hb hK hW3 hS3 (zlN (hM 46 rfl)) rfl rfl rfl (by show (0 : Int) ≤ ((a.toNat : Nat) : Int); omega) (by show ((a.toNat : Nat) : Int) < (20 : Int); omega) gt dX7_slow_55 (fun H4 locs4 hW4' hS4 => ?_)
        obtain ⟨σ4, hs4⟩ : ∃ z, z = zu σ3 46 0 a.toNat t := ⟨_, rfl⟩
        have hW4 : ZW G ad A σ4 H4 := by rw [hs4]; exact hW4'
        refine zz_aload_n hx hb hl 1 dX7_slow_56 rfl rfl ?_
        refine zz_callV (T := TX7) (N := 42) (As := []) (rest := []) (v := ((0 : Nat) : Int)) (κ := 30) ⟨hx, hb, hml, hown, hts⟩ (c_X7_findWays l G ad A N0 σ4 hM ns (by rw [hs4, zu_ne (by omega), hs3, zu_ne (by omega)]; exact hns) hn20 (by
    have e44 : σ4 44 0 = σ 44 0 := funext fun k => by rw [hs4, zu_ne (by omega), hs3, zu_ne (by omega)]
    have e45 : σ4 45 0 = σ 45 0 := funext fun k => by rw [hs4, zu_ne (by omega), hs3, zu_ne (by omega)]
    rw [e44, e45]
    intro k hk
    have h9 := hst k hk
    by_cases h : k = a.toNat
    · rw [show σ4 46 0 k = t from by rw [h, hs4, zu_same]]
      exact ⟨h9.1, h9.2.1, h9.2.2.1, h9.2.2.2.1, h9.2.2.2.2.1, by assumption⟩
    · rw [show σ4 46 0 k = σ 46 0 k from by rw [hs4, zu_ne (by omega), hs3, zu_ne (by omega)]]
      exact h9)) (cwV 0 hts gX7_slow_X7_findWays rfl rfl rfl (by decide +kernel) ⟨Nat.le_of_ble_eq_true rfl, Nat.le_of_ble_eq_true rfl⟩) hK hW4 (zlN (hM 30 rfl)) rfl rfl (Nat.le_trans hsz hS4.1) hS4 rfl hl.1.1 rfl (Nat.le_of_ble_eq_true rfl) dX7_slow_57 ⟨Nat.le_of_ble_eq_true rfl, Nat.le_of_ble_eq_true rfl⟩ (fun x5 σ5 H5 locs5 hp5 hW5 hz5 hS5 => ?_)
        refine W.eq (g2 := F0 m 60 ls []) rfl ?_
        refine zz_iload_n hx hb hl 0 dX7_slow_60 rfl rfl ?_
        refine W.eq (g2 := F0 m 61 ls [.int (zi (σ 46 0 a.toNat))]) rfl ?_
        refine zz_reti hx hb hr hlocks hW5 hS5 ?_ dX7_slow_61
        refine Or.inr (Or.inr ⟨hc12, hc26, rfl, ?_⟩)
        have h9 := hp5
        rw [hs4, hs3] at h9
        exact h9
      · exact absurd rfl hc37
    · refine zz_iconst hx hb dX7_slow_29 ?_
      refine zz_goto (tgt := 34) hx hb dX7_slow_30 (by decide) ?_
      refine zz_callV (T := TX7) (N := 42) (As := [.int (zi 2)]) (rest := []) (v := ((0 : Nat) : Int)) (κ := 30) ⟨hx, hb, hml, hown, hts⟩ (c_X7_refused l G ad A N0 σ hM (2) ⟨by decide, by decide⟩) (cwV 1 hts gX7_slow_X7_refused rfl rfl rfl (by decide +kernel) ⟨Nat.le_of_ble_eq_true rfl, Nat.le_of_ble_eq_true rfl⟩) hK hW2 (zlN (hM 30 rfl)) rfl rfl (Nat.le_trans hsz hS2.1) hS2 rfl hl.1.1 rfl (Nat.le_of_ble_eq_true rfl) dX7_slow_34 ⟨Nat.le_of_ble_eq_true rfl, Nat.le_of_ble_eq_true rfl⟩ (fun x6 σ6 H6 locs6 hp6 hW6 hz6 hS6 => ?_)
      have hs6 : σ6 = zu σ 30 0 0 (2) := hp6.1.symm
      obtain rfl := hp6.2
      refine W.eq (g2 := F0 m 37 ls [.int (zi (zb ((2 : Int) ≠ 0)))]) rfl ?_
      refine zz_if_eqb (tgt := 42) hx hb dX7_slow_37 (by decide) (fun hc37 => ?_) (fun hc37 => ?_)
      · exact absurd (by decide) hc37
      · refine zz_iconst hx hb dX7_slow_40 ?_
        refine W.eq (g2 := F0 m 41 ls [.int (zi 0)]) rfl ?_
        refine zz_reti hx hb hr hlocks hW6 hS6 ?_ dX7_slow_41
        exact Or.inr (Or.inl ⟨hc12, hc26, rfl, by rw [hs6]⟩)
  · refine zz_iconst hx hb dX7_slow_15 ?_
    refine zz_goto (tgt := 34) hx hb dX7_slow_16 (by decide) ?_
    refine zz_callV (T := TX7) (N := 42) (As := [.int (zi 1)]) (rest := []) (v := ((0 : Nat) : Int)) (κ := 30) ⟨hx, hb, hml, hown, hts⟩ (c_X7_refused l G ad A N0 σ hM (1) ⟨by decide, by decide⟩) (cwV 1 hts gX7_slow_X7_refused rfl rfl rfl (by decide +kernel) ⟨Nat.le_of_ble_eq_true rfl, Nat.le_of_ble_eq_true rfl⟩) hK hW1 (zlN (hM 30 rfl)) rfl rfl (Nat.le_trans hsz hS1.1) hS1 rfl hl.1.1 rfl (Nat.le_of_ble_eq_true rfl) dX7_slow_34 ⟨Nat.le_of_ble_eq_true rfl, Nat.le_of_ble_eq_true rfl⟩ (fun x7 σ7 H7 locs7 hp7 hW7 hz7 hS7 => ?_)
    have hs7 : σ7 = zu σ 30 0 0 (1) := hp7.1.symm
    obtain rfl := hp7.2
    refine W.eq (g2 := F0 m 37 ls [.int (zi (zb ((1 : Int) ≠ 0)))]) rfl ?_
    refine zz_if_eqb (tgt := 42) hx hb dX7_slow_37 (by decide) (fun hc37 => ?_) (fun hc37 => ?_)
    · exact absurd (by decide) hc37
    · refine zz_iconst hx hb dX7_slow_40 ?_
      refine W.eq (g2 := F0 m 41 ls [.int (zi 0)]) rfl ?_
      refine zz_reti hx hb hr hlocks hW7 hS7 ?_ dX7_slow_41
      exact Or.inl ⟨hc12, rfl, by rw [hs7]⟩

set_option maxHeartbeats 4000000 in
set_option maxRecDepth 100000 in
theorem c_X7_street (l : Launch) (G : zG) (ad : zA) (A : Nat → Prop) (N0 : Nat) (σ : zS) (hM : zMm ad) (ns : Nat) (hns : σ 30 0 3 = (ns : Int)) (hn20 : ns ≤ 20) (hst : yst (σ 44 0) (σ 45 0) (σ 46 0) ns) (a b t : Int) (ga : zg a) (gb : zg b) (gt : zg t) : Met l yX7_street wsX7_street ({ frames := 2, cells := 0, slots := 0, locals := 42 }) (zP G ad A N0 σ [zr ad 30 ((0 : Nat) : Int), .int (zi a), .int (zi b), .int (zi t)]) (zQ G ad A zri (fun r u => (¬ ((0 ≤ a ∧ a ≤ 9) ∧ (0 ≤ b ∧ b ≤ 9)) ∧ 0 = r ∧ u = zu σ 30 0 0 1) ∨ (((0 ≤ a ∧ a ≤ 9) ∧ (0 ≤ b ∧ b ≤ 9)) ∧ ¬ (a ≠ b ∧ (1 ≤ t ∧ t ≤ 20)) ∧ 0 = r ∧ u = zu σ 30 0 0 2) ∨ (((0 ≤ a ∧ a ≤ 9) ∧ (0 ≤ b ∧ b ≤ 9)) ∧ (a ≠ b ∧ (1 ≤ t ∧ t ≤ 20)) ∧ ns = 20 ∧ 0 = r ∧ u = zu σ 30 0 0 3) ∨ (((0 ≤ a ∧ a ≤ 9) ∧ (0 ≤ b ∧ b ≤ 9)) ∧ (a ≠ b ∧ (1 ≤ t ∧ t ≤ 20)) ∧ ns < 20 ∧ (ns : Int) = r ∧ yfw (zu (zu (zu (zu (zu σ 30 0 0 0) 44 0 ns a) 45 0 ns b) 46 0 ns t) 30 0 3 ((ns : Int) + 1)) u (ns + 1)))) 0 0 A := by
  refine zz_of (cc := cX7_street) (maxL := 6) (ret := (some .int)) (by decide) rfl ⟨rfl, rfl⟩ (List.forall_mem_cons.mpr ⟨zr_cat _ _ _, List.forall_mem_cons.mpr ⟨rfl, List.forall_mem_cons.mpr ⟨rfl, List.forall_mem_cons.mpr ⟨rfl, fun _ h => absurd h List.not_mem_nil⟩⟩⟩⟩) (Nat.le_of_ble_eq_true rfl) ?_
  intro p e s m below meth c hx hb hr hml hts hown hlocks hsz hW0 hK ls hl
  have hS0 : va_S A s.heap s.heap [] := va_S.rf
  have hl : zh ls 6 [(0, zr ad 30 ((0 : Nat) : Int)), (1, .int (zi a)), (2, .int (zi b)), (3, .int (zi t))] := hl
  have hinX7 : ∀ w ∈ u_ws RX7 TX7 42, w ∈ wsX7_street := by decide +kernel
  refine zz_iload_n hx hb hl 1 dX7_street_0 rfl rfl ?_
  refine zz_callS (As := [.int (zi a)]) (rest := []) ⟨hx, hb, hml, hown, hts⟩ (c_X7_isPlace l G ad A N0 σ a ga) (va_cwS 1 hts gX7_street_X7_isPlace rfl rfl rfl (by decide +kernel) ⟨Nat.le_of_ble_eq_true rfl, Nat.le_of_ble_eq_true rfl⟩) hK hW0 (Nat.le_trans hsz hS0.1) hS0 rfl hl.1.1 rfl (Nat.le_of_ble_eq_true rfl) dX7_street_1 ⟨Nat.le_of_ble_eq_true rfl, Nat.le_of_ble_eq_true rfl⟩ (fun x1 σ1 H1 locs1 hp1 hW1 hz1 hS1 => ?_)
  obtain ⟨rfl, rfl⟩ := hp1
  refine W.eq (g2 := F0 m 4 ls [.int (zi (zb (0 ≤ a ∧ a ≤ 9)))]) rfl ?_
  refine zz_if_eqb (tgt := 18) hx hb dX7_street_4 (by decide) (fun hc4 => ?_) (fun hc4 => ?_)
  · refine zz_iconst hx hb dX7_street_18 ?_
    refine zz_istore (lv' := [(4, .int (zi 0)), (0, zr ad 30 ((0 : Nat) : Int)), (1, .int (zi a)), (2, .int (zi b)), (3, .int (zi t))]) hx hb hl dX7_street_19 (by decide) rfl (fun ls hl => ?_)
    refine zz_iload_n hx hb hl 2 dX7_street_21 rfl rfl ?_
    refine zz_iload_n hx hb hl 3 dX7_street_22 rfl rfl ?_
    refine zz_icmp_eq (tgt := 40) hx hb dX7_street_23 (by decide) ga gb (fun hc23 => ?_) (fun hc23 => ?_)
    · refine zz_iconst hx hb dX7_street_40 ?_
      refine zz_istore (lv' := [(5, .int (zi 0)), (4, .int (zi 0)), (0, zr ad 30 ((0 : Nat) : Int)), (1, .int (zi a)), (2, .int (zi b)), (3, .int (zi t))]) hx hb hl dX7_street_41 (by decide) rfl (fun ls hl => ?_)
      refine zz_aload_n hx hb hl 2 dX7_street_43 rfl rfl ?_
      refine zz_iload hx hb hl 1 dX7_street_44 rfl ?_
      refine zz_if_ne (tgt := 53) hx hb dX7_street_46 (by decide) ⟨by decide, by decide⟩ (fun hc46 => ?_) (fun hc46 => ?_)
      · exact absurd rfl hc46
      · refine zz_iconst hx hb dX7_street_49 ?_
        refine zz_goto (tgt := 76) hx hb dX7_street_50 (by decide) ?_
        refine zz_callV (T := TX7) (N := 42) (As := [.int (zi 1)]) (rest := []) (v := ((0 : Nat) : Int)) (κ := 30) ⟨hx, hb, hml, hown, hts⟩ (c_X7_refused l G ad A N0 σ hM (1) ⟨by decide, by decide⟩) (cwV 1 hts gX7_street_X7_refused rfl rfl rfl (by decide +kernel) ⟨Nat.le_of_ble_eq_true rfl, Nat.le_of_ble_eq_true rfl⟩) hK hW1 (zlN (hM 30 rfl)) rfl rfl (Nat.le_trans hsz hS1.1) hS1 rfl hl.1.1 rfl (Nat.le_of_ble_eq_true rfl) dX7_street_76 ⟨Nat.le_of_ble_eq_true rfl, Nat.le_of_ble_eq_true rfl⟩ (fun x2 σ2 H2 locs2 hp2 hW2 hz2 hS2 => ?_)
        have hs2 : σ2 = zu σ 30 0 0 (1) := hp2.1.symm
        obtain rfl := hp2.2
        refine W.eq (g2 := F0 m 79 ls [.int (zi (zb ((1 : Int) ≠ 0)))]) rfl ?_
        refine zz_if_eqb (tgt := 84) hx hb dX7_street_79 (by decide) (fun hc79 => ?_) (fun hc79 => ?_)
        · exact absurd (by decide) hc79
        · refine zz_iconst hx hb dX7_street_82 ?_
          refine W.eq (g2 := F0 m 83 ls [.int (zi 0)]) rfl ?_
          refine zz_reti hx hb hr hlocks hW2 hS2 ?_ dX7_street_83
          exact Or.inl ⟨(fun q9 => by first | exact hc4 q9.1 | exact hc11 q9.2), rfl, by rw [hs2]⟩
    · refine zz_iload_n hx hb hl 4 dX7_street_26 rfl rfl ?_
      refine zz_iconst hx hb dX7_street_27 ?_
      refine zz_bipush hx hb dX7_street_28 (by decide +kernel) ?_
      refine zz_callS (As := [.int (zi t), .int (zi 1), .int (zi 20)]) (rest := []) ⟨hx, hb, hml, hown, hts⟩ (c_X7_in l G ad A N0 σ t 1 20 gt ⟨by decide, by decide⟩ ⟨by decide, by decide⟩) (va_cwS 3 hts gX7_street_X7_in rfl rfl rfl (by decide +kernel) ⟨Nat.le_of_ble_eq_true rfl, Nat.le_of_ble_eq_true rfl⟩) hK hW1 (Nat.le_trans hsz hS1.1) hS1 rfl hl.1.1 rfl (Nat.le_of_ble_eq_true rfl) dX7_street_30 ⟨Nat.le_of_ble_eq_true rfl, Nat.le_of_ble_eq_true rfl⟩ (fun x3 σ3 H3 locs3 hp3 hW3 hz3 hS3 => ?_)
      obtain ⟨rfl, rfl⟩ := hp3
      refine W.eq (g2 := F0 m 33 ls [.int (zi (zb (1 ≤ t ∧ t ≤ 20)))]) rfl ?_
      refine zz_if_eqb (tgt := 40) hx hb dX7_street_33 (by decide) (fun hc33 => ?_) (fun hc33 => ?_)
      · refine zz_iconst hx hb dX7_street_40 ?_
        refine zz_istore (lv' := [(5, .int (zi 0)), (4, .int (zi 0)), (0, zr ad 30 ((0 : Nat) : Int)), (1, .int (zi a)), (2, .int (zi b)), (3, .int (zi t))]) hx hb hl dX7_street_41 (by decide) rfl (fun ls hl => ?_)
        refine zz_aload_n hx hb hl 2 dX7_street_43 rfl rfl ?_
        refine zz_iload hx hb hl 1 dX7_street_44 rfl ?_
        refine zz_if_ne (tgt := 53) hx hb dX7_street_46 (by decide) ⟨by decide, by decide⟩ (fun hc46 => ?_) (fun hc46 => ?_)
        · exact absurd rfl hc46
        · refine zz_iconst hx hb dX7_street_49 ?_
          refine zz_goto (tgt := 76) hx hb dX7_street_50 (by decide) ?_
          refine zz_callV (T := TX7) (N := 42) (As := [.int (zi 1)]) (rest := []) (v := ((0 : Nat) : Int)) (κ := 30) ⟨hx, hb, hml, hown, hts⟩ (c_X7_refused l G ad A N0 σ hM (1) ⟨by decide, by decide⟩) (cwV 1 hts gX7_street_X7_refused rfl rfl rfl (by decide +kernel) ⟨Nat.le_of_ble_eq_true rfl, Nat.le_of_ble_eq_true rfl⟩) hK hW3 (zlN (hM 30 rfl)) rfl rfl (Nat.le_trans hsz hS3.1) hS3 rfl hl.1.1 rfl (Nat.le_of_ble_eq_true rfl) dX7_street_76 ⟨Nat.le_of_ble_eq_true rfl, Nat.le_of_ble_eq_true rfl⟩ (fun x4 σ4 H4 locs4 hp4 hW4 hz4 hS4 => ?_)
          have hs4 : σ4 = zu σ 30 0 0 (1) := hp4.1.symm
          obtain rfl := hp4.2
          refine W.eq (g2 := F0 m 79 ls [.int (zi (zb ((1 : Int) ≠ 0)))]) rfl ?_
          refine zz_if_eqb (tgt := 84) hx hb dX7_street_79 (by decide) (fun hc79 => ?_) (fun hc79 => ?_)
          · exact absurd (by decide) hc79
          · refine zz_iconst hx hb dX7_street_82 ?_
            refine W.eq (g2 := F0 m 83 ls [.int (zi 0)]) rfl ?_
            refine zz_reti hx hb hr hlocks hW4 hS4 ?_ dX7_street_83
            exact Or.inl ⟨(fun q9 => by first | exact hc4 q9.1 | exact hc11 q9.2), rfl, by rw [hs4]⟩
      · refine zz_iconst hx hb dX7_street_36 ?_
        refine zz_goto (tgt := 41) hx hb dX7_street_37 (by decide) ?_
        refine zz_istore (lv' := [(5, .int (zi 1)), (4, .int (zi 0)), (0, zr ad 30 ((0 : Nat) : Int)), (1, .int (zi a)), (2, .int (zi b)), (3, .int (zi t))]) hx hb hl dX7_street_41 (by decide) rfl (fun ls hl => ?_)
        refine zz_aload_n hx hb hl 2 dX7_street_43 rfl rfl ?_
        refine zz_iload hx hb hl 1 dX7_street_44 rfl ?_
        refine zz_if_ne (tgt := 53) hx hb dX7_street_46 (by decide) ⟨by decide, by decide⟩ (fun hc46 => ?_) (fun hc46 => ?_)
        · exact absurd rfl hc46
        · refine zz_iconst hx hb dX7_street_49 ?_
          refine zz_goto (tgt := 76) hx hb dX7_street_50 (by decide) ?_
          refine zz_callV (T := TX7) (N := 42) (As := [.int (zi 1)]) (rest := []) (v := ((0 : Nat) : Int)) (κ := 30) ⟨hx, hb, hml, hown, hts⟩ (c_X7_refused l G ad A N0 σ hM (1) ⟨by decide, by decide⟩) (cwV 1 hts gX7_street_X7_refused rfl rfl rfl (by decide +kernel) ⟨Nat.le_of_ble_eq_true rfl, Nat.le_of_ble_eq_true rfl⟩) hK hW3 (zlN (hM 30 rfl)) rfl rfl (Nat.le_trans hsz hS3.1) hS3 rfl hl.1.1 rfl (Nat.le_of_ble_eq_true rfl) dX7_street_76 ⟨Nat.le_of_ble_eq_true rfl, Nat.le_of_ble_eq_true rfl⟩ (fun x5 σ5 H5 locs5 hp5 hW5 hz5 hS5 => ?_)
          have hs5 : σ5 = zu σ 30 0 0 (1) := hp5.1.symm
          obtain rfl := hp5.2
          refine W.eq (g2 := F0 m 79 ls [.int (zi (zb ((1 : Int) ≠ 0)))]) rfl ?_
          refine zz_if_eqb (tgt := 84) hx hb dX7_street_79 (by decide) (fun hc79 => ?_) (fun hc79 => ?_)
          · exact absurd (by decide) hc79
          · refine zz_iconst hx hb dX7_street_82 ?_
            refine W.eq (g2 := F0 m 83 ls [.int (zi 0)]) rfl ?_
            refine zz_reti hx hb hr hlocks hW5 hS5 ?_ dX7_street_83
            exact Or.inl ⟨(fun q9 => by first | exact hc4 q9.1 | exact hc11 q9.2), rfl, by rw [hs5]⟩
  · refine zz_iload_n hx hb hl 2 dX7_street_7 rfl rfl ?_
    refine zz_callS (As := [.int (zi b)]) (rest := []) ⟨hx, hb, hml, hown, hts⟩ (c_X7_isPlace l G ad A N0 σ b gb) (va_cwS 1 hts gX7_street_X7_isPlace rfl rfl rfl (by decide +kernel) ⟨Nat.le_of_ble_eq_true rfl, Nat.le_of_ble_eq_true rfl⟩) hK hW1 (Nat.le_trans hsz hS1.1) hS1 rfl hl.1.1 rfl (Nat.le_of_ble_eq_true rfl) dX7_street_8 ⟨Nat.le_of_ble_eq_true rfl, Nat.le_of_ble_eq_true rfl⟩ (fun x6 σ6 H6 locs6 hp6 hW6 hz6 hS6 => ?_)
    obtain ⟨rfl, rfl⟩ := hp6
    refine W.eq (g2 := F0 m 11 ls [.int (zi (zb (0 ≤ b ∧ b ≤ 9)))]) rfl ?_
    refine zz_if_eqb (tgt := 18) hx hb dX7_street_11 (by decide) (fun hc11 => ?_) (fun hc11 => ?_)
    · refine zz_iconst hx hb dX7_street_18 ?_
      refine zz_istore (lv' := [(4, .int (zi 0)), (0, zr ad 30 ((0 : Nat) : Int)), (1, .int (zi a)), (2, .int (zi b)), (3, .int (zi t))]) hx hb hl dX7_street_19 (by decide) rfl (fun ls hl => ?_)
      refine zz_iload_n hx hb hl 2 dX7_street_21 rfl rfl ?_
      refine zz_iload_n hx hb hl 3 dX7_street_22 rfl rfl ?_
      refine zz_icmp_eq (tgt := 40) hx hb dX7_street_23 (by decide) ga gb (fun hc23 => ?_) (fun hc23 => ?_)
      · refine zz_iconst hx hb dX7_street_40 ?_
        refine zz_istore (lv' := [(5, .int (zi 0)), (4, .int (zi 0)), (0, zr ad 30 ((0 : Nat) : Int)), (1, .int (zi a)), (2, .int (zi b)), (3, .int (zi t))]) hx hb hl dX7_street_41 (by decide) rfl (fun ls hl => ?_)
        refine zz_aload_n hx hb hl 2 dX7_street_43 rfl rfl ?_
        refine zz_iload hx hb hl 1 dX7_street_44 rfl ?_
        refine zz_if_ne (tgt := 53) hx hb dX7_street_46 (by decide) ⟨by decide, by decide⟩ (fun hc46 => ?_) (fun hc46 => ?_)
        · exact absurd rfl hc46
        · refine zz_iconst hx hb dX7_street_49 ?_
          refine zz_goto (tgt := 76) hx hb dX7_street_50 (by decide) ?_
          refine zz_callV (T := TX7) (N := 42) (As := [.int (zi 1)]) (rest := []) (v := ((0 : Nat) : Int)) (κ := 30) ⟨hx, hb, hml, hown, hts⟩ (c_X7_refused l G ad A N0 σ hM (1) ⟨by decide, by decide⟩) (cwV 1 hts gX7_street_X7_refused rfl rfl rfl (by decide +kernel) ⟨Nat.le_of_ble_eq_true rfl, Nat.le_of_ble_eq_true rfl⟩) hK hW6 (zlN (hM 30 rfl)) rfl rfl (Nat.le_trans hsz hS6.1) hS6 rfl hl.1.1 rfl (Nat.le_of_ble_eq_true rfl) dX7_street_76 ⟨Nat.le_of_ble_eq_true rfl, Nat.le_of_ble_eq_true rfl⟩ (fun x7 σ7 H7 locs7 hp7 hW7 hz7 hS7 => ?_)
          have hs7 : σ7 = zu σ 30 0 0 (1) := hp7.1.symm
          obtain rfl := hp7.2
          refine W.eq (g2 := F0 m 79 ls [.int (zi (zb ((1 : Int) ≠ 0)))]) rfl ?_
          refine zz_if_eqb (tgt := 84) hx hb dX7_street_79 (by decide) (fun hc79 => ?_) (fun hc79 => ?_)
          · exact absurd (by decide) hc79
          · refine zz_iconst hx hb dX7_street_82 ?_
            refine W.eq (g2 := F0 m 83 ls [.int (zi 0)]) rfl ?_
            refine zz_reti hx hb hr hlocks hW7 hS7 ?_ dX7_street_83
            exact Or.inl ⟨(fun q9 => by first | exact hc4 q9.1 | exact hc11 q9.2), rfl, by rw [hs7]⟩
      · refine zz_iload_n hx hb hl 4 dX7_street_26 rfl rfl ?_
        refine zz_iconst hx hb dX7_street_27 ?_
        refine zz_bipush hx hb dX7_street_28 (by decide +kernel) ?_
        refine zz_callS (As := [.int (zi t), .int (zi 1), .int (zi 20)]) (rest := []) ⟨hx, hb, hml, hown, hts⟩ (c_X7_in l G ad A N0 σ t 1 20 gt ⟨by decide, by decide⟩ ⟨by decide, by decide⟩) (va_cwS 3 hts gX7_street_X7_in rfl rfl rfl (by decide +kernel) ⟨Nat.le_of_ble_eq_true rfl, Nat.le_of_ble_eq_true rfl⟩) hK hW6 (Nat.le_trans hsz hS6.1) hS6 rfl hl.1.1 rfl (Nat.le_of_ble_eq_true rfl) dX7_street_30 ⟨Nat.le_of_ble_eq_true rfl, Nat.le_of_ble_eq_true rfl⟩ (fun x8 σ8 H8 locs8 hp8 hW8 hz8 hS8 => ?_)
        obtain ⟨rfl, rfl⟩ := hp8
        refine W.eq (g2 := F0 m 33 ls [.int (zi (zb (1 ≤ t ∧ t ≤ 20)))]) rfl ?_
        refine zz_if_eqb (tgt := 40) hx hb dX7_street_33 (by decide) (fun hc33 => ?_) (fun hc33 => ?_)
        · refine zz_iconst hx hb dX7_street_40 ?_
          refine zz_istore (lv' := [(5, .int (zi 0)), (4, .int (zi 0)), (0, zr ad 30 ((0 : Nat) : Int)), (1, .int (zi a)), (2, .int (zi b)), (3, .int (zi t))]) hx hb hl dX7_street_41 (by decide) rfl (fun ls hl => ?_)
          refine zz_aload_n hx hb hl 2 dX7_street_43 rfl rfl ?_
          refine zz_iload hx hb hl 1 dX7_street_44 rfl ?_
          refine zz_if_ne (tgt := 53) hx hb dX7_street_46 (by decide) ⟨by decide, by decide⟩ (fun hc46 => ?_) (fun hc46 => ?_)
          · exact absurd rfl hc46
          · refine zz_iconst hx hb dX7_street_49 ?_
            refine zz_goto (tgt := 76) hx hb dX7_street_50 (by decide) ?_
            refine zz_callV (T := TX7) (N := 42) (As := [.int (zi 1)]) (rest := []) (v := ((0 : Nat) : Int)) (κ := 30) ⟨hx, hb, hml, hown, hts⟩ (c_X7_refused l G ad A N0 σ hM (1) ⟨by decide, by decide⟩) (cwV 1 hts gX7_street_X7_refused rfl rfl rfl (by decide +kernel) ⟨Nat.le_of_ble_eq_true rfl, Nat.le_of_ble_eq_true rfl⟩) hK hW8 (zlN (hM 30 rfl)) rfl rfl (Nat.le_trans hsz hS8.1) hS8 rfl hl.1.1 rfl (Nat.le_of_ble_eq_true rfl) dX7_street_76 ⟨Nat.le_of_ble_eq_true rfl, Nat.le_of_ble_eq_true rfl⟩ (fun x9 σ9 H9 locs9 hp9 hW9 hz9 hS9 => ?_)
            have hs9 : σ9 = zu σ 30 0 0 (1) := hp9.1.symm
            obtain rfl := hp9.2
            refine W.eq (g2 := F0 m 79 ls [.int (zi (zb ((1 : Int) ≠ 0)))]) rfl ?_
            refine zz_if_eqb (tgt := 84) hx hb dX7_street_79 (by decide) (fun hc79 => ?_) (fun hc79 => ?_)
            · exact absurd (by decide) hc79
            · refine zz_iconst hx hb dX7_street_82 ?_
              refine W.eq (g2 := F0 m 83 ls [.int (zi 0)]) rfl ?_
              refine zz_reti hx hb hr hlocks hW9 hS9 ?_ dX7_street_83
              exact Or.inl ⟨(fun q9 => by first | exact hc4 q9.1 | exact hc11 q9.2), rfl, by rw [hs9]⟩
        · refine zz_iconst hx hb dX7_street_36 ?_
          refine zz_goto (tgt := 41) hx hb dX7_street_37 (by decide) ?_
          refine zz_istore (lv' := [(5, .int (zi 1)), (4, .int (zi 0)), (0, zr ad 30 ((0 : Nat) : Int)), (1, .int (zi a)), (2, .int (zi b)), (3, .int (zi t))]) hx hb hl dX7_street_41 (by decide) rfl (fun ls hl => ?_)
          refine zz_aload_n hx hb hl 2 dX7_street_43 rfl rfl ?_
          refine zz_iload hx hb hl 1 dX7_street_44 rfl ?_
          refine zz_if_ne (tgt := 53) hx hb dX7_street_46 (by decide) ⟨by decide, by decide⟩ (fun hc46 => ?_) (fun hc46 => ?_)
          · exact absurd rfl hc46
          · refine zz_iconst hx hb dX7_street_49 ?_
            refine zz_goto (tgt := 76) hx hb dX7_street_50 (by decide) ?_
            refine zz_callV (T := TX7) (N := 42) (As := [.int (zi 1)]) (rest := []) (v := ((0 : Nat) : Int)) (κ := 30) ⟨hx, hb, hml, hown, hts⟩ (c_X7_refused l G ad A N0 σ hM (1) ⟨by decide, by decide⟩) (cwV 1 hts gX7_street_X7_refused rfl rfl rfl (by decide +kernel) ⟨Nat.le_of_ble_eq_true rfl, Nat.le_of_ble_eq_true rfl⟩) hK hW8 (zlN (hM 30 rfl)) rfl rfl (Nat.le_trans hsz hS8.1) hS8 rfl hl.1.1 rfl (Nat.le_of_ble_eq_true rfl) dX7_street_76 ⟨Nat.le_of_ble_eq_true rfl, Nat.le_of_ble_eq_true rfl⟩ (fun x10 σ10 H10 locs10 hp10 hW10 hz10 hS10 => ?_)
            have hs10 : σ10 = zu σ 30 0 0 (1) := hp10.1.symm
            obtain rfl := hp10.2
            refine W.eq (g2 := F0 m 79 ls [.int (zi (zb ((1 : Int) ≠ 0)))]) rfl ?_
            refine zz_if_eqb (tgt := 84) hx hb dX7_street_79 (by decide) (fun hc79 => ?_) (fun hc79 => ?_)
            · exact absurd (by decide) hc79
            · refine zz_iconst hx hb dX7_street_82 ?_
              refine W.eq (g2 := F0 m 83 ls [.int (zi 0)]) rfl ?_
              refine zz_reti hx hb hr hlocks hW10 hS10 ?_ dX7_street_83
              exact Or.inl ⟨(fun q9 => by first | exact hc4 q9.1 | exact hc11 q9.2), rfl, by rw [hs10]⟩
    · refine zz_iconst hx hb dX7_street_14 ?_
      refine zz_goto (tgt := 19) hx hb dX7_street_15 (by decide) ?_
      refine zz_istore (lv' := [(4, .int (zi 1)), (0, zr ad 30 ((0 : Nat) : Int)), (1, .int (zi a)), (2, .int (zi b)), (3, .int (zi t))]) hx hb hl dX7_street_19 (by decide) rfl (fun ls hl => ?_)
      refine zz_iload_n hx hb hl 2 dX7_street_21 rfl rfl ?_
      refine zz_iload_n hx hb hl 3 dX7_street_22 rfl rfl ?_
      refine zz_icmp_eq (tgt := 40) hx hb dX7_street_23 (by decide) ga gb (fun hc23 => ?_) (fun hc23 => ?_)
      · refine zz_iconst hx hb dX7_street_40 ?_
        refine zz_istore (lv' := [(5, .int (zi 0)), (4, .int (zi 1)), (0, zr ad 30 ((0 : Nat) : Int)), (1, .int (zi a)), (2, .int (zi b)), (3, .int (zi t))]) hx hb hl dX7_street_41 (by decide) rfl (fun ls hl => ?_)
        refine zz_aload_n hx hb hl 2 dX7_street_43 rfl rfl ?_
        refine zz_iload hx hb hl 1 dX7_street_44 rfl ?_
        refine zz_if_ne (tgt := 53) hx hb dX7_street_46 (by decide) ⟨by decide, by decide⟩ (fun hc46 => ?_) (fun hc46 => ?_)
        · refine zz_iload hx hb hl 0 dX7_street_53 rfl ?_
          refine zz_if_ne (tgt := 62) hx hb dX7_street_55 (by decide) ⟨by decide, by decide⟩ (fun hc55 => ?_) (fun hc55 => ?_)
          · exact absurd rfl hc55
          · refine zz_iconst hx hb dX7_street_58 ?_
            refine zz_goto (tgt := 76) hx hb dX7_street_59 (by decide) ?_
            refine zz_callV (T := TX7) (N := 42) (As := [.int (zi 2)]) (rest := []) (v := ((0 : Nat) : Int)) (κ := 30) ⟨hx, hb, hml, hown, hts⟩ (c_X7_refused l G ad A N0 σ hM (2) ⟨by decide, by decide⟩) (cwV 1 hts gX7_street_X7_refused rfl rfl rfl (by decide +kernel) ⟨Nat.le_of_ble_eq_true rfl, Nat.le_of_ble_eq_true rfl⟩) hK hW6 (zlN (hM 30 rfl)) rfl rfl (Nat.le_trans hsz hS6.1) hS6 rfl hl.1.1 rfl (Nat.le_of_ble_eq_true rfl) dX7_street_76 ⟨Nat.le_of_ble_eq_true rfl, Nat.le_of_ble_eq_true rfl⟩ (fun x11 σ11 H11 locs11 hp11 hW11 hz11 hS11 => ?_)
            have hs11 : σ11 = zu σ 30 0 0 (2) := hp11.1.symm
            obtain rfl := hp11.2
            refine W.eq (g2 := F0 m 79 ls [.int (zi (zb ((2 : Int) ≠ 0)))]) rfl ?_
            refine zz_if_eqb (tgt := 84) hx hb dX7_street_79 (by decide) (fun hc79 => ?_) (fun hc79 => ?_)
            · exact absurd (by decide) hc79
            · refine zz_iconst hx hb dX7_street_82 ?_
              refine W.eq (g2 := F0 m 83 ls [.int (zi 0)]) rfl ?_
              refine zz_reti hx hb hr hlocks hW11 hS11 ?_ dX7_street_83
              exact Or.inr (Or.inl ⟨⟨hc4, hc11⟩, (fun q9 => by first | exact q9.1 hc23 | exact hc33 q9.2), rfl, by rw [hs11]⟩)
        · exact absurd hc46 (by decide)
      · refine zz_iload_n hx hb hl 4 dX7_street_26 rfl rfl ?_
        refine zz_iconst hx hb dX7_street_27 ?_
        refine zz_bipush hx hb dX7_street_28 (by decide +kernel) ?_
        refine zz_callS (As := [.int (zi t), .int (zi 1), .int (zi 20)]) (rest := []) ⟨hx, hb, hml, hown, hts⟩ (c_X7_in l G ad A N0 σ t 1 20 gt ⟨by decide, by decide⟩ ⟨by decide, by decide⟩) (va_cwS 3 hts gX7_street_X7_in rfl rfl rfl (by decide +kernel) ⟨Nat.le_of_ble_eq_true rfl, Nat.le_of_ble_eq_true rfl⟩) hK hW6 (Nat.le_trans hsz hS6.1) hS6 rfl hl.1.1 rfl (Nat.le_of_ble_eq_true rfl) dX7_street_30 ⟨Nat.le_of_ble_eq_true rfl, Nat.le_of_ble_eq_true rfl⟩ (fun x12 σ12 H12 locs12 hp12 hW12 hz12 hS12 => ?_)
        obtain ⟨rfl, rfl⟩ := hp12
        refine W.eq (g2 := F0 m 33 ls [.int (zi (zb (1 ≤ t ∧ t ≤ 20)))]) rfl ?_
        refine zz_if_eqb (tgt := 40) hx hb dX7_street_33 (by decide) (fun hc33 => ?_) (fun hc33 => ?_)
        · refine zz_iconst hx hb dX7_street_40 ?_
          refine zz_istore (lv' := [(5, .int (zi 0)), (4, .int (zi 1)), (0, zr ad 30 ((0 : Nat) : Int)), (1, .int (zi a)), (2, .int (zi b)), (3, .int (zi t))]) hx hb hl dX7_street_41 (by decide) rfl (fun ls hl => ?_)
          refine zz_aload_n hx hb hl 2 dX7_street_43 rfl rfl ?_
          refine zz_iload hx hb hl 1 dX7_street_44 rfl ?_
          refine zz_if_ne (tgt := 53) hx hb dX7_street_46 (by decide) ⟨by decide, by decide⟩ (fun hc46 => ?_) (fun hc46 => ?_)
          · refine zz_iload hx hb hl 0 dX7_street_53 rfl ?_
            refine zz_if_ne (tgt := 62) hx hb dX7_street_55 (by decide) ⟨by decide, by decide⟩ (fun hc55 => ?_) (fun hc55 => ?_)
            · exact absurd rfl hc55
            · refine zz_iconst hx hb dX7_street_58 ?_
              refine zz_goto (tgt := 76) hx hb dX7_street_59 (by decide) ?_
              refine zz_callV (T := TX7) (N := 42) (As := [.int (zi 2)]) (rest := []) (v := ((0 : Nat) : Int)) (κ := 30) ⟨hx, hb, hml, hown, hts⟩ (c_X7_refused l G ad A N0 σ hM (2) ⟨by decide, by decide⟩) (cwV 1 hts gX7_street_X7_refused rfl rfl rfl (by decide +kernel) ⟨Nat.le_of_ble_eq_true rfl, Nat.le_of_ble_eq_true rfl⟩) hK hW12 (zlN (hM 30 rfl)) rfl rfl (Nat.le_trans hsz hS12.1) hS12 rfl hl.1.1 rfl (Nat.le_of_ble_eq_true rfl) dX7_street_76 ⟨Nat.le_of_ble_eq_true rfl, Nat.le_of_ble_eq_true rfl⟩ (fun x13 σ13 H13 locs13 hp13 hW13 hz13 hS13 => ?_)
              have hs13 : σ13 = zu σ 30 0 0 (2) := hp13.1.symm
              obtain rfl := hp13.2
              refine W.eq (g2 := F0 m 79 ls [.int (zi (zb ((2 : Int) ≠ 0)))]) rfl ?_
              refine zz_if_eqb (tgt := 84) hx hb dX7_street_79 (by decide) (fun hc79 => ?_) (fun hc79 => ?_)
              · exact absurd (by decide) hc79
              · refine zz_iconst hx hb dX7_street_82 ?_
                refine W.eq (g2 := F0 m 83 ls [.int (zi 0)]) rfl ?_
                refine zz_reti hx hb hr hlocks hW13 hS13 ?_ dX7_street_83
                exact Or.inr (Or.inl ⟨⟨hc4, hc11⟩, (fun q9 => by first | exact q9.1 hc23 | exact hc33 q9.2), rfl, by rw [hs13]⟩)
          · exact absurd hc46 (by decide)
        · refine zz_iconst hx hb dX7_street_36 ?_
          refine zz_goto (tgt := 41) hx hb dX7_street_37 (by decide) ?_
          refine zz_istore (lv' := [(5, .int (zi 1)), (4, .int (zi 1)), (0, zr ad 30 ((0 : Nat) : Int)), (1, .int (zi a)), (2, .int (zi b)), (3, .int (zi t))]) hx hb hl dX7_street_41 (by decide) rfl (fun ls hl => ?_)
          refine zz_aload_n hx hb hl 2 dX7_street_43 rfl rfl ?_
          refine zz_iload hx hb hl 1 dX7_street_44 rfl ?_
          refine zz_if_ne (tgt := 53) hx hb dX7_street_46 (by decide) ⟨by decide, by decide⟩ (fun hc46 => ?_) (fun hc46 => ?_)
          · refine zz_iload hx hb hl 0 dX7_street_53 rfl ?_
            refine zz_if_ne (tgt := 62) hx hb dX7_street_55 (by decide) ⟨by decide, by decide⟩ (fun hc55 => ?_) (fun hc55 => ?_)
            · refine zz_aload_n hx hb hl 2 dX7_street_62 rfl rfl ?_
              refine zz_get (T := TX7) (N := 42) (k := 3) (κ := 30) (w := .int (zi ((ns : Nat) : Int))) hx hb hts hinX7 hown hK hW12 (zlN (hM 30 rfl)) rfl rfl rfl (by decide) (hts (.fieldLink RX7 134 "HailCityModel" "streets" "I") (by decide +kernel)) (fun _ h9 => h9) (congrArg (fun z => Value.int (zi z)) (show σ 30 0 3 = ((ns : Nat) : Int) from by rw [hns])) dX7_street_63 ?_
              refine zz_bipush hx hb dX7_street_66 (by decide +kernel) ?_
              refine zz_icmp_ne (tgt := 75) hx hb dX7_street_68 (by decide) ⟨by omega, by omega⟩ ⟨by decide, by decide⟩ (fun hc68 => ?_) (fun hc68 => ?_)
              · refine zz_iconst hx hb dX7_street_75 ?_
                refine zz_callV (T := TX7) (N := 42) (As := [.int (zi 0)]) (rest := []) (v := ((0 : Nat) : Int)) (κ := 30) ⟨hx, hb, hml, hown, hts⟩ (c_X7_refused l G ad A N0 σ hM (0) ⟨by decide, by decide⟩) (cwV 1 hts gX7_street_X7_refused rfl rfl rfl (by decide +kernel) ⟨Nat.le_of_ble_eq_true rfl, Nat.le_of_ble_eq_true rfl⟩) hK hW12 (zlN (hM 30 rfl)) rfl rfl (Nat.le_trans hsz hS12.1) hS12 rfl hl.1.1 rfl (Nat.le_of_ble_eq_true rfl) dX7_street_76 ⟨Nat.le_of_ble_eq_true rfl, Nat.le_of_ble_eq_true rfl⟩ (fun x14 σ14 H14 locs14 hp14 hW14 hz14 hS14 => ?_)
                have hs14 : σ14 = zu σ 30 0 0 (0) := hp14.1.symm
                obtain rfl := hp14.2
                refine W.eq (g2 := F0 m 79 ls [.int (zi (zb ((0 : Int) ≠ 0)))]) rfl ?_
                refine zz_if_eqb (tgt := 84) hx hb dX7_street_79 (by decide) (fun hc79 => ?_) (fun hc79 => ?_)
                · refine zz_aload_n hx hb hl 2 dX7_street_84 rfl rfl ?_
                  refine zz_get (T := TX7) (N := 42) (k := 4) (κ := 30) (w := zr ad 44 ((0 : Nat) : Int)) hx hb hts hinX7 hown hK hW14 (zlN (hM 30 rfl)) rfl rfl rfl (by decide) (hts (.fieldLink RX7 13 "HailCityModel" "one" "[I") (by decide +kernel)) (fun _ h9 => h9) rfl dX7_street_85 ?_
                  refine zz_aload_n hx hb hl 2 dX7_street_88 rfl rfl ?_
                  refine zz_get (T := TX7) (N := 42) (k := 3) (κ := 30) (w := .int (zi ((ns : Nat) : Int))) hx hb hts hinX7 hown hK hW14 (zlN (hM 30 rfl)) rfl rfl rfl (by decide) (hts (.fieldLink RX7 134 "HailCityModel" "streets" "I") (by decide +kernel)) (fun _ h9 => h9) (congrArg (fun z => Value.int (zi z)) (show σ14 30 0 3 = ((ns : Nat) : Int) from by rw [hs14, zu_s (by decide), hns])) dX7_street_89 ?_
                  refine zz_iload_n hx hb hl 3 dX7_street_92 rfl rfl ?_
                  refine zz_iast (y := a) hx hb hK hW14 hS14 (zlN (hM 44 rfl)) rfl rfl rfl (by show (0 : Int) ≤ ((ns : Nat) : Int); omega) (by show ((ns : Nat) : Int) < (20 : Int); omega) ga dX7_street_93 (fun H15 locs15 hW15' hS15 => ?_)
                  obtain ⟨σ15, hs15⟩ : ∃ z, z = zu σ14 44 0 ns a := ⟨_, rfl⟩
                  have hW15 : ZW G ad A σ15 H15 := by rw [hs15]; exact hW15'
                  refine zz_aload_n hx hb hl 2 dX7_street_94 rfl rfl ?_
                  refine zz_get (T := TX7) (N := 42) (k := 5) (κ := 30) (w := zr ad 45 ((0 : Nat) : Int)) hx hb hts hinX7 hown hK hW15 (zlN (hM 30 rfl)) rfl rfl rfl (by decide) (hts (.fieldLink RX7 17 "HailCityModel" "other" "[I") (by decide +kernel)) (fun _ h9 => h9) rfl dX7_street_95 ?_
                  refine zz_aload_n hx hb hl 2 dX7_street_98 rfl rfl ?_
                  refine zz_get (T := TX7) (N := 42) (k := 3) (κ := 30) (w := .int (zi ((ns : Nat) : Int))) hx hb hts hinX7 hown hK hW15 (zlN (hM 30 rfl)) rfl rfl rfl (by decide) (hts (.fieldLink RX7 134 "HailCityModel" "streets" "I") (by decide +kernel)) (fun _ h9 => h9) (congrArg (fun z => Value.int (zi z)) (show σ15 30 0 3 = ((ns : Nat) : Int) from by rw [hs15, zu_k (by decide), hs14, zu_s (by decide), hns])) dX7_street_99 ?_
                  refine zz_iload_n hx hb hl 4 dX7_street_102 rfl rfl ?_
                  refine zz_iast (y := b) hx hb hK hW15 hS15 (zlN (hM 45 rfl)) rfl rfl rfl (by show (0 : Int) ≤ ((ns : Nat) : Int); omega) (by show ((ns : Nat) : Int) < (20 : Int); omega) gb dX7_street_103 (fun H16 locs16 hW16' hS16 => ?_)
                  obtain ⟨σ16, hs16⟩ : ∃ z, z = zu σ15 45 0 ns b := ⟨_, rfl⟩
                  have hW16 : ZW G ad A σ16 H16 := by rw [hs16]; exact hW16'
                  refine zz_aload_n hx hb hl 2 dX7_street_104 rfl rfl ?_
                  refine zz_get (T := TX7) (N := 42) (k := 6) (κ := 30) (w := zr ad 46 ((0 : Nat) : Int)) hx hb hts hinX7 hown hK hW16 (zlN (hM 30 rfl)) rfl rfl rfl (by decide) (hts (.fieldLink RX7 20 "HailCityModel" "takes" "[I") (by decide +kernel)) (fun _ h9 => h9) rfl dX7_street_105 ?_
                  refine zz_aload_n hx hb hl 2 dX7_street_108 rfl rfl ?_
                  refine zz_get (T := TX7) (N := 42) (k := 3) (κ := 30) (w := .int (zi ((ns : Nat) : Int))) hx hb hts hinX7 hown hK hW16 (zlN (hM 30 rfl)) rfl rfl rfl (by decide) (hts (.fieldLink RX7 134 "HailCityModel" "streets" "I") (by decide +kernel)) (fun _ h9 => h9) (congrArg (fun z => Value.int (zi z)) (show σ16 30 0 3 = ((ns : Nat) : Int) from by rw [hs16, zu_k (by decide), hs15, zu_k (by decide), hs14, zu_s (by decide), hns])) dX7_street_109 ?_
                  refine zz_iload_n hx hb hl 5 dX7_street_112 rfl rfl ?_
                  refine zz_iast (y := t) hx hb hK hW16 hS16 (zlN (hM 46 rfl)) rfl rfl rfl (by show (0 : Int) ≤ ((ns : Nat) : Int); omega) (by show ((ns : Nat) : Int) < (20 : Int); omega) gt dX7_street_113 (fun H17 locs17 hW17' hS17 => ?_)
                  obtain ⟨σ17, hs17⟩ : ∃ z, z = zu σ16 46 0 ns t := ⟨_, rfl⟩
                  have hW17 : ZW G ad A σ17 H17 := by rw [hs17]; exact hW17'
                  refine zz_aload_n hx hb hl 2 dX7_street_114 rfl rfl ?_
                  refine lv_dup hx hb dX7_street_115 (zr_cat _ _ _) ?_
                  refine zz_get (T := TX7) (N := 42) (k := 3) (κ := 30) (w := .int (zi ((ns : Nat) : Int))) hx hb hts hinX7 hown hK hW17 (zlN (hM 30 rfl)) rfl rfl rfl (by decide) (hts (.fieldLink RX7 134 "HailCityModel" "streets" "I") (by decide +kernel)) (fun _ h9 => h9) (congrArg (fun z => Value.int (zi z)) (show σ17 30 0 3 = ((ns : Nat) : Int) from by rw [hs17, zu_k (by decide), hs16, zu_k (by decide), hs15, zu_k (by decide), hs14, zu_s (by decide), hns])) dX7_street_116 ?_
                  refine zz_iconst hx hb dX7_street_119 ?_
                  refine zz_iadd hx hb dX7_street_120 ?_
                  refine zz_put (T := TX7) (N := 42) (k := 3) (κ := 30) (v := ((0 : Nat) : Int)) (x := ((ns + 1 : Nat) : Int)) (ty := .int) hx hb hts hinX7 tyX7 tyX7_ok nmX7 hown hK hW17 hS17 (zlN (hM 30 rfl)) rfl rfl rfl (by decide) (hts (.fieldLink RX7 134 "HailCityModel" "streets" "I") (by decide +kernel)) (fun _ h9 => h9) rfl (by decide +kernel) rfl rfl rfl ⟨by omega, by omega⟩ (fun h9 _ => absurd h9 (by decide)) (fun h9 => absurd h9 (by decide)) dX7_street_121 (fun H18 locs18 hW18' hS18 => ?_)
                  obtain ⟨σ18, hs18⟩ : ∃ z, z = zu σ17 30 0 3 ((ns + 1 : Nat) : Int) := ⟨_, rfl⟩
                  have hW18 : ZW G ad A σ18 H18 := by rw [hs18]; exact hW18'
                  refine zz_aload_n hx hb hl 2 dX7_street_124 rfl rfl ?_
                  refine zz_callV (T := TX7) (N := 42) (As := []) (rest := []) (v := ((0 : Nat) : Int)) (κ := 30) ⟨hx, hb, hml, hown, hts⟩ (c_X7_findWays l G ad A N0 σ18 hM (ns + 1) (by rw [hs18, zu_same]) (by omega) (by
    intro k hk
    by_cases h : k = ns
    · rw [show σ18 44 0 k = a from by rw [h, hs18, zu_ne (by omega), hs17, zu_ne (by omega), hs16, zu_ne (by omega), hs15, zu_same], show σ18 45 0 k = b from by rw [h, hs18, zu_ne (by omega), hs17, zu_ne (by omega), hs16, zu_same], show σ18 46 0 k = t from by rw [h, hs18, zu_ne (by omega), hs17, zu_same]]
      exact ⟨by omega, by omega, by omega, by omega, hc23, by assumption⟩
    · rw [show σ18 44 0 k = σ 44 0 k from by rw [hs18, zu_ne (by omega), hs17, zu_ne (by omega), hs16, zu_ne (by omega), hs15, zu_ne (by omega), hs14, zu_ne (by omega)], show σ18 45 0 k = σ 45 0 k from by rw [hs18, zu_ne (by omega), hs17, zu_ne (by omega), hs16, zu_ne (by omega), hs15, zu_ne (by omega), hs14, zu_ne (by omega)], show σ18 46 0 k = σ 46 0 k from by rw [hs18, zu_ne (by omega), hs17, zu_ne (by omega), hs16, zu_ne (by omega), hs15, zu_ne (by omega), hs14, zu_ne (by omega)]]
      exact hst k (by omega))) (cwV 0 hts gX7_street_X7_findWays rfl rfl rfl (by decide +kernel) ⟨Nat.le_of_ble_eq_true rfl, Nat.le_of_ble_eq_true rfl⟩) hK hW18 (zlN (hM 30 rfl)) rfl rfl (Nat.le_trans hsz hS18.1) hS18 rfl hl.1.1 rfl (Nat.le_of_ble_eq_true rfl) dX7_street_125 ⟨Nat.le_of_ble_eq_true rfl, Nat.le_of_ble_eq_true rfl⟩ (fun x19 σ19 H19 locs19 hp19 hW19 hz19 hS19 => ?_)
                  refine W.eq (g2 := F0 m 128 ls []) rfl ?_
                  refine zz_aload_n hx hb hl 2 dX7_street_128 rfl rfl ?_
                  refine zz_get (T := TX7) (N := 42) (k := 3) (κ := 30) (w := .int (zi (((ns : Nat) : Int) + 1))) hx hb hts hinX7 hown hK hW19 (zlN (hM 30 rfl)) rfl rfl rfl (by decide) (hts (.fieldLink RX7 134 "HailCityModel" "streets" "I") (by decide +kernel)) (fun _ h9 => h9) (congrArg (fun z => Value.int (zi z)) (show σ19 30 0 3 = ((ns : Nat) : Int) + 1 from by rw [hp19.2 30 0 3 (by omega), hs18, zu_same]; rfl)) dX7_street_129 ?_
                  refine zz_iconst hx hb dX7_street_132 ?_
                  refine zz_isub hx hb dX7_street_133 ?_
                  refine W.eq (g2 := F0 m 134 ls [.int (zi ((((ns : Nat) : Int) + 1) - 1))]) rfl ?_
                  refine zz_reti hx hb hr hlocks hW19 hS19 ?_ dX7_street_134
                  refine Or.inr (Or.inr (Or.inr ⟨⟨hc4, hc11⟩, ⟨hc23, hc33⟩, by omega, by omega, ?_⟩))
                  have h9 := hp19
                  rw [hs18, hs17, hs16, hs15, hs14] at h9
                  exact h9
                · exact absurd rfl hc79
              · refine zz_iconst hx hb dX7_street_71 ?_
                refine zz_goto (tgt := 76) hx hb dX7_street_72 (by decide) ?_
                refine zz_callV (T := TX7) (N := 42) (As := [.int (zi 3)]) (rest := []) (v := ((0 : Nat) : Int)) (κ := 30) ⟨hx, hb, hml, hown, hts⟩ (c_X7_refused l G ad A N0 σ hM (3) ⟨by decide, by decide⟩) (cwV 1 hts gX7_street_X7_refused rfl rfl rfl (by decide +kernel) ⟨Nat.le_of_ble_eq_true rfl, Nat.le_of_ble_eq_true rfl⟩) hK hW12 (zlN (hM 30 rfl)) rfl rfl (Nat.le_trans hsz hS12.1) hS12 rfl hl.1.1 rfl (Nat.le_of_ble_eq_true rfl) dX7_street_76 ⟨Nat.le_of_ble_eq_true rfl, Nat.le_of_ble_eq_true rfl⟩ (fun x20 σ20 H20 locs20 hp20 hW20 hz20 hS20 => ?_)
                have hs20 : σ20 = zu σ 30 0 0 (3) := hp20.1.symm
                obtain rfl := hp20.2
                refine W.eq (g2 := F0 m 79 ls [.int (zi (zb ((3 : Int) ≠ 0)))]) rfl ?_
                refine zz_if_eqb (tgt := 84) hx hb dX7_street_79 (by decide) (fun hc79 => ?_) (fun hc79 => ?_)
                · exact absurd (by decide) hc79
                · refine zz_iconst hx hb dX7_street_82 ?_
                  refine W.eq (g2 := F0 m 83 ls [.int (zi 0)]) rfl ?_
                  refine zz_reti hx hb hr hlocks hW20 hS20 ?_ dX7_street_83
                  exact Or.inr (Or.inr (Or.inl ⟨⟨hc4, hc11⟩, ⟨hc23, hc33⟩, by omega, rfl, by rw [hs20]⟩))
            · exact absurd hc55 (by decide)
          · exact absurd hc46 (by decide)

theorem ybf_8 (σ : zS) (d : Nat) : ybf σ d 30 0 8 = σ 30 0 8 := by
  unfold ybf
  split
  · rw [zu_ne (by omega), zu_ne (by omega)]
  · rfl

set_option maxHeartbeats 4000000 in
set_option maxRecDepth 100000 in
theorem c_X7_driver (l : Launch) (G : zG) (ad : zA) (A : Nat → Prop) (N0 : Nat) (σ : zS) (hM : zMm ad) (nd : Nat) (h8 : σ 30 0 8 = (nd : Int)) (hnd : nd ≤ 8) (a : Int) (ga : zg a) (hgo : 0 ≤ σ 30 0 17 ∧ σ 30 0 17 < 2000000000) : Met l yX7_driver wsX7_driver ({ frames := 2, cells := 0, slots := 0, locals := 42 }) (zP G ad A N0 σ [zr ad 30 ((0 : Nat) : Int), .int (zi a)]) (zQ G ad A zri (fun r u => (¬ (0 ≤ a ∧ a ≤ 9) ∧ 0 = r ∧ u = zu σ 30 0 0 1) ∨ ((0 ≤ a ∧ a ≤ 9) ∧ nd = 8 ∧ 0 = r ∧ u = zu σ 30 0 0 2) ∨ ((0 ≤ a ∧ a ≤ 9) ∧ nd < 8 ∧ (nd : Int) = r ∧ u = ybf (zu (zu (zu σ 30 0 0 0) 49 0 nd a) 30 0 8 ((nd : Int) + 1)) nd))) 0 0 A := by
  refine zz_of (cc := cX7_driver) (maxL := 2) (ret := (some .int)) (by decide) rfl ⟨rfl, rfl⟩ (List.forall_mem_cons.mpr ⟨zr_cat _ _ _, List.forall_mem_cons.mpr ⟨rfl, fun _ h => absurd h List.not_mem_nil⟩⟩) (Nat.le_of_ble_eq_true rfl) ?_
  intro p e s m below meth c hx hb hr hml hts hown hlocks hsz hW0 hK ls hl
  have hS0 : va_S A s.heap s.heap [] := va_S.rf
  have hl : zh ls 2 [(0, zr ad 30 ((0 : Nat) : Int)), (1, .int (zi a))] := hl
  have hinX7 : ∀ w ∈ u_ws RX7 TX7 42, w ∈ wsX7_driver := by decide +kernel
  refine zz_aload_n hx hb hl 0 dX7_driver_0 rfl rfl ?_
  refine zz_iload_n hx hb hl 1 dX7_driver_1 rfl rfl ?_
  refine zz_callS (As := [.int (zi a)]) (rest := [zr ad 30 ((0 : Nat) : Int)]) ⟨hx, hb, hml, hown, hts⟩ (c_X7_isPlace l G ad A N0 σ a ga) (va_cwS 1 hts gX7_driver_X7_isPlace rfl rfl rfl (by decide +kernel) ⟨Nat.le_of_ble_eq_true rfl, Nat.le_of_ble_eq_true rfl⟩) hK hW0 (Nat.le_trans hsz hS0.1) hS0 rfl hl.1.1 rfl (by simp [zr_cat, zcat_i]) dX7_driver_2 ⟨Nat.le_of_ble_eq_true rfl, Nat.le_of_ble_eq_true rfl⟩ (fun x1 σ1 H1 locs1 hp1 hW1 hz1 hS1 => ?_)
  obtain ⟨rfl, rfl⟩ := hp1
  refine W.eq (g2 := F0 m 5 ls [.int (zi (zb (0 ≤ a ∧ a ≤ 9))), zr ad 30 ((0 : Nat) : Int)]) rfl ?_
  refine zz_if_neb (tgt := 12) hx hb dX7_driver_5 (by decide) (fun hc5 => ?_) (fun hc5 => ?_)
  · refine zz_aload_n hx hb hl 0 dX7_driver_12 rfl rfl ?_
    refine zz_get (T := TX7) (N := 42) (k := 8) (κ := 30) (w := .int (zi ((nd : Nat) : Int))) hx hb hts hinX7 hown hK hW1 (zlN (hM 30 rfl)) rfl rfl rfl (by decide) (hts (.fieldLink RX7 127 "HailCityModel" "drivers" "I") (by decide +kernel)) (fun _ h9 => h9) (congrArg (fun z => Value.int (zi z)) (show σ 30 0 8 = ((nd : Nat) : Int) from by rw [h8])) dX7_driver_13 ?_
    refine zz_bipush hx hb dX7_driver_16 (by decide +kernel) ?_
    refine zz_icmp_ne (tgt := 25) hx hb dX7_driver_18 (by decide) ⟨by omega, by omega⟩ ⟨by decide, by decide⟩ (fun hc18 => ?_) (fun hc18 => ?_)
    · refine zz_iconst hx hb dX7_driver_25 ?_
      refine zz_callV (T := TX7) (N := 42) (As := [.int (zi 0)]) (rest := []) (v := ((0 : Nat) : Int)) (κ := 30) ⟨hx, hb, hml, hown, hts⟩ (c_X7_refused l G ad A N0 σ hM (0) ⟨by decide, by decide⟩) (cwV 1 hts gX7_driver_X7_refused rfl rfl rfl (by decide +kernel) ⟨Nat.le_of_ble_eq_true rfl, Nat.le_of_ble_eq_true rfl⟩) hK hW1 (zlN (hM 30 rfl)) rfl rfl (Nat.le_trans hsz hS1.1) hS1 rfl hl.1.1 rfl (Nat.le_of_ble_eq_true rfl) dX7_driver_26 ⟨Nat.le_of_ble_eq_true rfl, Nat.le_of_ble_eq_true rfl⟩ (fun x2 σ2 H2 locs2 hp2 hW2 hz2 hS2 => ?_)
      have hs2 : σ2 = zu σ 30 0 0 (0) := hp2.1.symm
      obtain rfl := hp2.2
      refine W.eq (g2 := F0 m 29 ls [.int (zi (zb ((0 : Int) ≠ 0)))]) rfl ?_
      refine zz_if_eqb (tgt := 34) hx hb dX7_driver_29 (by decide) (fun hc29 => ?_) (fun hc29 => ?_)
      · refine zz_aload_n hx hb hl 0 dX7_driver_34 rfl rfl ?_
        refine zz_get (T := TX7) (N := 42) (k := 9) (κ := 30) (w := zr ad 49 ((0 : Nat) : Int)) hx hb hts hinX7 hown hK hW2 (zlN (hM 30 rfl)) rfl rfl rfl (by decide) (hts (.fieldLink RX7 26 "HailCityModel" "place" "[I") (by decide +kernel)) (fun _ h9 => h9) rfl dX7_driver_35 ?_
        refine zz_aload_n hx hb hl 0 dX7_driver_38 rfl rfl ?_
        refine zz_get (T := TX7) (N := 42) (k := 8) (κ := 30) (w := .int (zi ((nd : Nat) : Int))) hx hb hts hinX7 hown hK hW2 (zlN (hM 30 rfl)) rfl rfl rfl (by decide) (hts (.fieldLink RX7 127 "HailCityModel" "drivers" "I") (by decide +kernel)) (fun _ h9 => h9) (congrArg (fun z => Value.int (zi z)) (show σ2 30 0 8 = ((nd : Nat) : Int) from by rw [hs2, zu_s (by decide), h8])) dX7_driver_39 ?_
        refine zz_iload_n hx hb hl 1 dX7_driver_42 rfl rfl ?_
        refine zz_iast (y := a) hx hb hK hW2 hS2 (zlN (hM 49 rfl)) rfl rfl rfl (by show (0 : Int) ≤ ((nd : Nat) : Int); omega) (by show ((nd : Nat) : Int) < (8 : Int); omega) ga dX7_driver_43 (fun H3 locs3 hW3' hS3 => ?_)
        obtain ⟨σ3, hs3⟩ : ∃ z, z = zu σ2 49 0 nd a := ⟨_, rfl⟩
        have hW3 : ZW G ad A σ3 H3 := by rw [hs3]; exact hW3'
        refine zz_aload_n hx hb hl 0 dX7_driver_44 rfl rfl ?_
        refine lv_dup hx hb dX7_driver_45 (zr_cat _ _ _) ?_
        refine zz_get (T := TX7) (N := 42) (k := 8) (κ := 30) (w := .int (zi ((nd : Nat) : Int))) hx hb hts hinX7 hown hK hW3 (zlN (hM 30 rfl)) rfl rfl rfl (by decide) (hts (.fieldLink RX7 127 "HailCityModel" "drivers" "I") (by decide +kernel)) (fun _ h9 => h9) (congrArg (fun z => Value.int (zi z)) (show σ3 30 0 8 = ((nd : Nat) : Int) from by rw [hs3, zu_k (by decide), hs2, zu_s (by decide), h8])) dX7_driver_46 ?_
        refine zz_iconst hx hb dX7_driver_49 ?_
        refine zz_iadd hx hb dX7_driver_50 ?_
        refine zz_put (T := TX7) (N := 42) (k := 8) (κ := 30) (v := ((0 : Nat) : Int)) (x := ((nd + 1 : Nat) : Int)) (ty := .int) hx hb hts hinX7 tyX7 tyX7_ok nmX7 hown hK hW3 hS3 (zlN (hM 30 rfl)) rfl rfl rfl (by decide) (hts (.fieldLink RX7 127 "HailCityModel" "drivers" "I") (by decide +kernel)) (fun _ h9 => h9) rfl (by decide +kernel) rfl rfl rfl ⟨by omega, by omega⟩ (fun h9 _ => absurd h9 (by decide)) (fun h9 => absurd h9 (by decide)) dX7_driver_51 (fun H4 locs4 hW4' hS4 => ?_)
        obtain ⟨σ4, hs4⟩ : ∃ z, z = zu σ3 30 0 8 ((nd + 1 : Nat) : Int) := ⟨_, rfl⟩
        have hW4 : ZW G ad A σ4 H4 := by rw [hs4]; exact hW4'
        refine zz_aload_n hx hb hl 0 dX7_driver_54 rfl rfl ?_
        refine zz_aload_n hx hb hl 0 dX7_driver_55 rfl rfl ?_
        refine zz_get (T := TX7) (N := 42) (k := 8) (κ := 30) (w := .int (zi ((nd + 1 : Nat) : Int))) hx hb hts hinX7 hown hK hW4 (zlN (hM 30 rfl)) rfl rfl rfl (by decide) (hts (.fieldLink RX7 127 "HailCityModel" "drivers" "I") (by decide +kernel)) (fun _ h9 => h9) (congrArg (fun z => Value.int (zi z)) (show σ4 30 0 8 = ((nd + 1 : Nat) : Int) from by rw [hs4, zu_same])) dX7_driver_56 ?_
        refine zz_iconst hx hb dX7_driver_59 ?_
        refine zz_isub hx hb dX7_driver_60 ?_
        refine W.eq (g2 := F0 m 61 ls [.int (zi ((nd : Nat) : Int)), zr ad 30 ((0 : Nat) : Int)]) (by rw [show ((nd + 1 : Nat) : Int) - 1 = ((nd : Nat) : Int) by omega]) ?_
        refine zz_callV (T := TX7) (N := 42) (As := [.int (zi ((nd : Nat) : Int))]) (rest := []) (v := ((0 : Nat) : Int)) (κ := 30) ⟨hx, hb, hml, hown, hts⟩ (c_X7_becomesFree l G ad A N0 σ4 hM nd (by omega) (by rw [hs4, zu_ne (by omega), hs3, zu_ne (by omega), hs2, zu_ne (by omega)]; exact hgo)) (cwV 1 hts gX7_driver_X7_becomesFree rfl rfl rfl (by decide +kernel) ⟨Nat.le_of_ble_eq_true rfl, Nat.le_of_ble_eq_true rfl⟩) hK hW4 (zlN (hM 30 rfl)) rfl rfl (Nat.le_trans hsz hS4.1) hS4 rfl hl.1.1 rfl (Nat.le_of_ble_eq_true rfl) dX7_driver_61 ⟨Nat.le_of_ble_eq_true rfl, Nat.le_of_ble_eq_true rfl⟩ (fun x5 σ5 H5 locs5 hp5 hW5 hz5 hS5 => ?_)
        refine W.eq (g2 := F0 m 64 ls []) rfl ?_
        refine zz_aload_n hx hb hl 0 dX7_driver_64 rfl rfl ?_
        refine zz_get (T := TX7) (N := 42) (k := 8) (κ := 30) (w := .int (zi ((nd + 1 : Nat) : Int))) hx hb hts hinX7 hown hK hW5 (zlN (hM 30 rfl)) rfl rfl rfl (by decide) (hts (.fieldLink RX7 127 "HailCityModel" "drivers" "I") (by decide +kernel)) (fun _ h9 => h9) (congrArg (fun z => Value.int (zi z)) (show σ5 30 0 8 = ((nd + 1 : Nat) : Int) from by rw [← hp5]; exact (ybf_8 _ _).trans (by rw [hs4, zu_same]))) dX7_driver_65 ?_
        refine zz_iconst hx hb dX7_driver_68 ?_
        refine zz_isub hx hb dX7_driver_69 ?_
        refine W.eq (g2 := F0 m 70 ls [.int (zi (((nd + 1 : Nat) : Int) - 1))]) rfl ?_
        refine zz_reti hx hb hr hlocks hW5 hS5 ?_ dX7_driver_70
        refine Or.inr (Or.inr ⟨hc5, by omega, by omega, ?_⟩)
        rw [← hp5, hs4, hs3, hs2]
        rfl
      · exact absurd rfl hc29
    · refine zz_iconst hx hb dX7_driver_21 ?_
      refine zz_goto (tgt := 26) hx hb dX7_driver_22 (by decide) ?_
      refine zz_callV (T := TX7) (N := 42) (As := [.int (zi 2)]) (rest := []) (v := ((0 : Nat) : Int)) (κ := 30) ⟨hx, hb, hml, hown, hts⟩ (c_X7_refused l G ad A N0 σ hM (2) ⟨by decide, by decide⟩) (cwV 1 hts gX7_driver_X7_refused rfl rfl rfl (by decide +kernel) ⟨Nat.le_of_ble_eq_true rfl, Nat.le_of_ble_eq_true rfl⟩) hK hW1 (zlN (hM 30 rfl)) rfl rfl (Nat.le_trans hsz hS1.1) hS1 rfl hl.1.1 rfl (Nat.le_of_ble_eq_true rfl) dX7_driver_26 ⟨Nat.le_of_ble_eq_true rfl, Nat.le_of_ble_eq_true rfl⟩ (fun x6 σ6 H6 locs6 hp6 hW6 hz6 hS6 => ?_)
      have hs6 : σ6 = zu σ 30 0 0 (2) := hp6.1.symm
      obtain rfl := hp6.2
      refine W.eq (g2 := F0 m 29 ls [.int (zi (zb ((2 : Int) ≠ 0)))]) rfl ?_
      refine zz_if_eqb (tgt := 34) hx hb dX7_driver_29 (by decide) (fun hc29 => ?_) (fun hc29 => ?_)
      · exact absurd (by decide) hc29
      · refine zz_iconst hx hb dX7_driver_32 ?_
        refine W.eq (g2 := F0 m 33 ls [.int (zi 0)]) rfl ?_
        refine zz_reti hx hb hr hlocks hW6 hS6 ?_ dX7_driver_33
        exact Or.inr (Or.inl ⟨hc5, by omega, rfl, by rw [hs6]⟩)
  · refine zz_iconst hx hb dX7_driver_8 ?_
    refine zz_goto (tgt := 26) hx hb dX7_driver_9 (by decide) ?_
    refine zz_callV (T := TX7) (N := 42) (As := [.int (zi 1)]) (rest := []) (v := ((0 : Nat) : Int)) (κ := 30) ⟨hx, hb, hml, hown, hts⟩ (c_X7_refused l G ad A N0 σ hM (1) ⟨by decide, by decide⟩) (cwV 1 hts gX7_driver_X7_refused rfl rfl rfl (by decide +kernel) ⟨Nat.le_of_ble_eq_true rfl, Nat.le_of_ble_eq_true rfl⟩) hK hW1 (zlN (hM 30 rfl)) rfl rfl (Nat.le_trans hsz hS1.1) hS1 rfl hl.1.1 rfl (Nat.le_of_ble_eq_true rfl) dX7_driver_26 ⟨Nat.le_of_ble_eq_true rfl, Nat.le_of_ble_eq_true rfl⟩ (fun x7 σ7 H7 locs7 hp7 hW7 hz7 hS7 => ?_)
    have hs7 : σ7 = zu σ 30 0 0 (1) := hp7.1.symm
    obtain rfl := hp7.2
    refine W.eq (g2 := F0 m 29 ls [.int (zi (zb ((1 : Int) ≠ 0)))]) rfl ?_
    refine zz_if_eqb (tgt := 34) hx hb dX7_driver_29 (by decide) (fun hc29 => ?_) (fun hc29 => ?_)
    · exact absurd (by decide) hc29
    · refine zz_iconst hx hb dX7_driver_32 ?_
      refine W.eq (g2 := F0 m 33 ls [.int (zi 0)]) rfl ?_
      refine zz_reti hx hb hr hlocks hW7 hS7 ?_ dX7_driver_33
      exact Or.inl ⟨hc5, rfl, by rw [hs7]⟩
