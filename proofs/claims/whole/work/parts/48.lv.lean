/-! the model's leaves -/
def yMok (σ : zS) (d n : Nat) : Prop :=
  σ 52 0 d = (n : Int) ∧ n ≤ 8 ∧ (0 ≤ σ 49 0 d ∧ σ 49 0 d < 10) ∧ (∀ j, j < n → (0 ≤ σ 53 0 (8 * d + j) ∧ σ 53 0 (8 * d + j) < 10) ∧ -1 ≤ σ 54 0 (8 * d + j) ∧ σ 54 0 (8 * d + j) < 160 ∧ (σ 54 0 (8 * d + j) < 100 → σ 54 0 (8 * d + j) < 60) ∧ (100 ≤ σ 54 0 (8 * d + j) → 0 ≤ σ 69 0 (σ 54 0 (8 * d + j) - 100).toNat ∧ σ 69 0 (σ 54 0 (8 * d + j) - 100).toNat ≤ 3000000)) ∧ (∀ a b, a < 10 → b < 10 → 0 ≤ σ 47 0 (10 * a + b) ∧ σ 47 0 (10 * a + b) ≤ 100000) ∧ (0 ≤ σ 30 0 1 ∧ σ 30 0 1 ≤ 20000) ∧ (0 ≤ σ 61 0 d ∧ σ 61 0 d + n ≤ 1000) ∧ (0 ≤ σ 62 0 d ∧ σ 62 0 d + 3000000 * n ≤ 1000000000)
def ywy (σ : zS) (d : Nat) : Int := σ 47 0 (10 * (σ 49 0 d).toNat + (σ 53 0 (8 * d)).toNat)
noncomputable def yLV (d : Nat) : Nat → zS → zS
  | 0, σ => σ
  | n + 1, σ => if ywy σ d = 0 then yLV d n (ymt (zu σ 55 0 d (σ 30 0 1 + ywy σ d)) d n) else zu σ 55 0 d (σ 30 0 1 + ywy σ d)
theorem yms_fr {σ : zS} {d n κ i k : Nat} (h : κ ≠ 53 ∧ κ ≠ 54) : yms σ d n κ i k = σ κ i k := by
  unfold yms
  rw [if_neg (by omega)]
theorem ymt_fr {σ : zS} {d n κ i k : Nat} (h : ¬ (κ = 49 ∧ k = d) ∧ ¬ (κ = 52 ∧ k = d) ∧ κ ≠ 53 ∧ κ ≠ 54 ∧ ¬ (κ = 61 ∧ k = d) ∧ ¬ (κ = 62 ∧ k = d) ∧ κ ≠ 64 ∧ κ ≠ 72) : ymt σ d n κ i k = σ κ i k := by
  unfold ymt
  split
  · rw [zu_ne (by omega), zu_ne (by omega), zu_ne (by omega), zu_ne (by omega), zu_ne (by omega), yms_fr (by omega), zu_ne (by omega)]
  · split
    · rw [zu_ne (by omega), zu_ne (by omega), yms_fr (by omega), zu_ne (by omega)]
    · rw [zu_ne (by omega), yms_fr (by omega), zu_ne (by omega)]
theorem ymt_49 (σ : zS) (d n : Nat) : ymt σ d n 49 0 d = σ 53 0 (8 * d) := by
  unfold ymt
  split
  · rw [zu_ne (by omega), zu_ne (by omega), zu_ne (by omega), zu_ne (by omega), zu_ne (by omega), yms_fr (by omega), zu_same]
  · split
    · rw [zu_ne (by omega), zu_ne (by omega), yms_fr (by omega), zu_same]
    · rw [zu_ne (by omega), yms_fr (by omega), zu_same]
theorem ymt_52 (σ : zS) (d n : Nat) : ymt σ d n 52 0 d = (n : Int) := by
  unfold ymt
  split
  · rw [zu_ne (by omega), zu_ne (by omega), zu_ne (by omega), zu_ne (by omega), zu_same]
  · split
    · rw [zu_ne (by omega), zu_same]
    · rw [zu_same]
theorem ymt_st (σ : zS) (d n : Nat) {κ j : Nat} (hκ : κ = 53 ∨ κ = 54) (hj : j < n) : ymt σ d n κ 0 (8 * d + j) = σ κ 0 (8 * d + (j + 1)) := by
  have h : yms (zu σ 49 0 d (σ 53 0 (8 * d))) d n κ 0 (8 * d + j) = σ κ 0 (8 * d + (j + 1)) := by
    unfold yms
    rw [if_pos (by omega), zu_ne (by omega)]
    rfl
  unfold ymt
  split
  · rw [zu_ne (by omega), zu_ne (by omega), zu_ne (by omega), zu_ne (by omega), zu_ne (by omega), h]
  · split
    · rw [zu_ne (by omega), zu_ne (by omega), h]
    · rw [zu_ne (by omega), h]
theorem ymt_61 (σ : zS) (d n : Nat) : ymt σ d n 61 0 d = σ 61 0 d ∨ ymt σ d n 61 0 d = σ 61 0 d + 1 := by
  unfold ymt
  split
  · right; rw [zu_ne (by omega), zu_same]
  · left
    split
    · rw [zu_ne (by omega), zu_ne (by omega), yms_fr (by omega), zu_ne (by omega)]
    · rw [zu_ne (by omega), yms_fr (by omega), zu_ne (by omega)]
theorem ymt_62 (σ : zS) (d n : Nat) : ymt σ d n 62 0 d = σ 62 0 d ∨ (100 ≤ σ 54 0 (8 * d) ∧ ymt σ d n 62 0 d = σ 62 0 d + σ 69 0 (σ 54 0 (8 * d) - 100).toNat) := by
  unfold ymt
  split
  · right; rw [zu_same]; exact ⟨by assumption, rfl⟩
  · left
    split
    · rw [zu_ne (by omega), zu_ne (by omega), yms_fr (by omega), zu_ne (by omega)]
    · rw [zu_ne (by omega), yms_fr (by omega), zu_ne (by omega)]
theorem yMok_r {σ : zS} {d n : Nat} (v : Int) (h : yMok σ d n) : yMok (zu σ 55 0 d v) d n := by
  have e : ∀ κ i k, κ ≠ 55 → zu σ 55 0 d v κ i k = σ κ i k := fun κ i k h => zu_ne (by omega)
  unfold yMok
  simp only [e 52 _ _ (by decide), e 49 _ _ (by decide), e 53 _ _ (by decide), e 54 _ _ (by decide), e 69 _ _ (by decide), e 47 _ _ (by decide), e 30 _ _ (by decide), e 61 _ _ (by decide), e 62 _ _ (by decide)]
  exact h
theorem yMok_nx {σ : zS} {d n : Nat} (h : yMok σ d (n + 1)) : yMok (ymt σ d n) d n := by
  obtain ⟨a1, a2, a3, a4, a5, a6, a7, a8⟩ := h
  have g61 := ymt_61 σ d n
  have g62 := ymt_62 σ d n
  have h0 := a4 0 (by omega)
  refine ⟨ymt_52 σ d n, by omega, by rw [ymt_49]; exact h0.1, fun j hj => ?_, fun a b ha hb => ?_, ?_, ⟨by omega, by omega⟩, ?_⟩
  · have h1 := a4 (j + 1) (by omega)
    rw [ymt_st σ d n (Or.inl rfl) hj, ymt_st σ d n (Or.inr rfl) hj, ymt_fr (κ := 69) (by omega)]
    exact h1
  · rw [ymt_fr (by omega)]; exact a5 a b ha hb
  · rw [ymt_fr (by omega)]; exact a6
  · rcases g62 with h | ⟨h1, h⟩
    · rw [h]; omega
    · have h2 := h0.2.2.2.2 h1
      rw [h]
      have h3 : σ 69 0 (σ 54 0 (8 * d) - 100).toNat = σ 69 0 (σ 54 0 (8 * d + 0) - 100).toNat := rfl
      omega

set_option maxHeartbeats 4000000 in
set_option maxRecDepth 100000 in
theorem c_X7_leaves (l : Launch) (G : zG) (ad : zA) (A : Nat → Prop) (N0 : Nat) (σ : zS) (hM : zMm ad) (d : Nat) (hd : d < 8) (n : Nat) (hok : yMok σ d n) (hgo : 0 ≤ σ 30 0 17 ∧ σ 30 0 17 < 2000000000) : Met l yX7_leaves wsX7_leaves ({ frames := 2, cells := 0, slots := 0, locals := 42 }) (zP G ad A N0 σ [zr ad 30 ((0 : Nat) : Int), .int (zi ((d : Nat) : Int))]) (zQ G ad A zrv (fun _ u => ybf (yLV d n σ) d = u)) 0 0 A := by
  refine zz_of (cc := cX7_leaves) (maxL := 3) (ret := none) (by decide) rfl ⟨rfl, rfl⟩ (List.forall_mem_cons.mpr ⟨zr_cat _ _ _, List.forall_mem_cons.mpr ⟨rfl, fun _ h => absurd h List.not_mem_nil⟩⟩) (Nat.le_of_ble_eq_true rfl) ?_
  intro p e s m below meth c hx hb hr hml hts hown hlocks hsz hW0 hK ls hl
  have hS0 : va_S A s.heap s.heap [] := va_S.rf
  have hl : zh ls 3 [(0, zr ad 30 ((0 : Nat) : Int)), (1, .int (zi ((d : Nat) : Int)))] := hl
  have hinX7 : ∀ w ∈ u_ws RX7 TX7 42, w ∈ wsX7_leaves := by decide +kernel
  refine zz_iconst hx hb dX7_leaves_0 ?_
  refine zz_istore_n (lv' := [(2, .int (zi 1)), (0, zr ad 30 ((0 : Nat) : Int)), (1, .int (zi ((d : Nat) : Int)))]) hx hb hl dX7_leaves_1 rfl (by decide) rfl (fun ls hl => ?_)
  have hcut2 : ∀ (n9 : Nat) (n1 b : Nat)  (σ9 : zS) (H9 : Heap) (locs9 : List Loc) (ls : Array Slot), ((0 ≤ σ9 30 0 17 ∧ σ9 30 0 17 < 2000000000) ∧ ((b = 1 ∧ yMok σ9 d n1 ∧ ybf (yLV d n1 σ9) d = ybf (yLV d n σ) d) ∨ (b = 0 ∧ ybf σ9 d = ybf (yLV d n σ) d))) → (2 * n1 + b) < n9 → ZW G ad A σ9 H9 → va_S A s.heap H9 locs9 → zh ls 3 [(0, zr ad 30 ((0 : Nat) : Int)), (1, .int (zi ((d : Nat) : Int))), (2, .int (zi ((b : Nat) : Int)))] → W p l e ({ frames := 2, cells := 0, slots := 0, locals := 42 }) s m ([zr ad 30 ((0 : Nat) : Int), .int (zi ((d : Nat) : Int))] : List Value).toArray below meth c H9 locs9 0 0 (MQ below (zQ G ad A zrv (fun _ u => ybf (yLV d n σ) d = u)) ([zr ad 30 ((0 : Nat) : Int), .int (zi ((d : Nat) : Int))] : List Value).toArray s 0 0 A) (F0 m 2 ls []) := by
    intro n9
    induction n9 with
    | zero =>
      intro n1 b σ1 H1 locs1 ls hI2 hm2 hW1 hS1 hl
      exact absurd hm2 (Nat.not_lt_zero _)
    | succ n9 ih2 =>
      intro n1 b σ1 H1 locs1 ls hI2 hm2 hW1 hS1 hl
      refine zz_iload_n hx hb hl 2 dX7_leaves_2 rfl rfl ?_
      refine zz_if_eq (tgt := 76) hx hb dX7_leaves_3 (by decide) ⟨by omega, by omega⟩ (fun hc3 => ?_) (fun hc3 => ?_)
      · refine zz_aload_n hx hb hl 0 dX7_leaves_76 rfl rfl ?_
        refine zz_iload_n hx hb hl 1 dX7_leaves_77 rfl rfl ?_
        refine zz_callV (T := TX7) (N := 42) (As := [.int (zi ((d : Nat) : Int))]) (rest := []) (v := ((0 : Nat) : Int)) (κ := 30) ⟨hx, hb, hml, hown, hts⟩ (c_X7_becomesFree l G ad A N0 σ1 hM d hd hI2.1) (cwV 1 hts gX7_leaves_X7_becomesFree rfl rfl rfl (by decide +kernel) ⟨Nat.le_of_ble_eq_true rfl, Nat.le_of_ble_eq_true rfl⟩) hK hW1 (zlN (hM 30 rfl)) rfl rfl (Nat.le_trans hsz hS1.1) hS1 rfl hl.1.1 rfl (Nat.le_of_ble_eq_true rfl) dX7_leaves_78 ⟨Nat.le_of_ble_eq_true rfl, Nat.le_of_ble_eq_true rfl⟩ (fun x2 σ2 H2 locs2 hp2 hW2 hz2 hS2 => ?_)
        refine W.eq (g2 := F0 m 81 ls []) rfl ?_
        refine W.eq (g2 := F0 m 81 ls []) rfl ?_
        refine zz_retv hx hb hr hlocks hW2 hS2 ?_ dX7_leaves_81
        rcases hI2.2 with ⟨h1, h2, h3⟩ | ⟨h1, h2⟩
        · have h4 := h2.1
          have h5 : n1 = 0 := by omega
          subst h5
          exact h3.symm.trans hp2
        · exact h2.symm.trans hp2
      · obtain ⟨hb1, hk, htg⟩ := hI2.2.resolve_right (fun h => hc3 (by omega))
        have hn1 := hk.1
        have hk9 := hk.2.2.1
        refine zz_aload_n hx hb hl 0 dX7_leaves_6 rfl rfl ?_
        refine zz_get (T := TX7) (N := 42) (k := 12) (κ := 30) (w := zr ad 52 ((0 : Nat) : Int)) hx hb hts hinX7 hown hK hW1 (zlN (hM 30 rfl)) rfl rfl rfl (by decide) (hts (.fieldLink RX7 36 "HailCityModel" "stops" "[I") (by decide +kernel)) (fun _ h9 => h9) rfl dX7_leaves_7 ?_
        refine zz_iload_n hx hb hl 1 dX7_leaves_10 rfl rfl ?_
        refine zz_iald (w := σ1 52 0 d) hx hb hK hW1 (zlN (hM 52 rfl)) rfl rfl rfl (by show (0 : Int) ≤ ((d : Nat) : Int); omega) (by show ((d : Nat) : Int) < (8 : Int); omega) rfl dX7_leaves_11 ?_
        refine zz_if_le (tgt := 76) hx hb dX7_leaves_12 (by decide) (hW1.2.2.1 _ _ _) (fun hc12 => ?_) (fun hc12 => ?_)
        · refine zz_aload_n hx hb hl 0 dX7_leaves_76 rfl rfl ?_
          refine zz_iload_n hx hb hl 1 dX7_leaves_77 rfl rfl ?_
          refine zz_callV (T := TX7) (N := 42) (As := [.int (zi ((d : Nat) : Int))]) (rest := []) (v := ((0 : Nat) : Int)) (κ := 30) ⟨hx, hb, hml, hown, hts⟩ (c_X7_becomesFree l G ad A N0 σ1 hM d hd hI2.1) (cwV 1 hts gX7_leaves_X7_becomesFree rfl rfl rfl (by decide +kernel) ⟨Nat.le_of_ble_eq_true rfl, Nat.le_of_ble_eq_true rfl⟩) hK hW1 (zlN (hM 30 rfl)) rfl rfl (Nat.le_trans hsz hS1.1) hS1 rfl hl.1.1 rfl (Nat.le_of_ble_eq_true rfl) dX7_leaves_78 ⟨Nat.le_of_ble_eq_true rfl, Nat.le_of_ble_eq_true rfl⟩ (fun x3 σ3 H3 locs3 hp3 hW3 hz3 hS3 => ?_)
          refine W.eq (g2 := F0 m 81 ls []) rfl ?_
          refine W.eq (g2 := F0 m 81 ls []) rfl ?_
          refine zz_retv hx hb hr hlocks hW3 hS3 ?_ dX7_leaves_81
          rcases hI2.2 with ⟨h1, h2, h3⟩ | ⟨h1, h2⟩
          · have h4 := h2.1
            have h5 : n1 = 0 := by omega
            subst h5
            exact h3.symm.trans hp3
          · exact h2.symm.trans hp3
        · obtain ⟨n2, rfl⟩ : ∃ n2, n1 = n2 + 1 := ⟨n1 - 1, by omega⟩
          have hk0 : (0 ≤ σ1 53 0 (8 * d) ∧ σ1 53 0 (8 * d) < 10) ∧ -1 ≤ σ1 54 0 (8 * d) ∧ σ1 54 0 (8 * d) < 160 ∧ (σ1 54 0 (8 * d) < 100 → σ1 54 0 (8 * d) < 60) ∧ (100 ≤ σ1 54 0 (8 * d) → 0 ≤ σ1 69 0 (σ1 54 0 (8 * d) - 100).toNat ∧ σ1 69 0 (σ1 54 0 (8 * d) - 100).toNat ≤ 3000000) := hk.2.2.2.1 0 (by omega)
          have hkw := hk.2.2.2.2.1 (σ1 49 0 d).toNat (σ1 53 0 (8 * d)).toNat (by omega) (by omega)
          have hkn := hk.2.2.2.2.2.1
          refine zz_aload_n hx hb hl 0 dX7_leaves_15 rfl rfl ?_
          refine zz_get (T := TX7) (N := 42) (k := 15) (κ := 30) (w := zr ad 55 ((0 : Nat) : Int)) hx hb hts hinX7 hown hK hW1 (zlN (hM 30 rfl)) rfl rfl rfl (by decide) (hts (.fieldLink RX7 45 "HailCityModel" "reached" "[I") (by decide +kernel)) (fun _ h9 => h9) rfl dX7_leaves_16 ?_
          refine zz_iload_n hx hb hl 1 dX7_leaves_19 rfl rfl ?_
          refine zz_aload_n hx hb hl 0 dX7_leaves_20 rfl rfl ?_
          refine zz_get (T := TX7) (N := 42) (k := 1) (κ := 30) (w := .int (zi (σ1 30 0 1))) hx hb hts hinX7 hown hK hW1 (zlN (hM 30 rfl)) rfl rfl rfl (by decide) (hts (.fieldLink RX7 161 "HailCityModel" "now" "I") (by decide +kernel)) (fun _ h9 => h9) rfl dX7_leaves_21 ?_
          refine zz_aload_n hx hb hl 0 dX7_leaves_24 rfl rfl ?_
          refine zz_aload_n hx hb hl 0 dX7_leaves_25 rfl rfl ?_
          refine zz_get (T := TX7) (N := 42) (k := 9) (κ := 30) (w := zr ad 49 ((0 : Nat) : Int)) hx hb hts hinX7 hown hK hW1 (zlN (hM 30 rfl)) rfl rfl rfl (by decide) (hts (.fieldLink RX7 26 "HailCityModel" "place" "[I") (by decide +kernel)) (fun _ h9 => h9) rfl dX7_leaves_26 ?_
          refine zz_iload_n hx hb hl 1 dX7_leaves_29 rfl rfl ?_
          refine zz_iald (w := (((σ1 49 0 d).toNat : Nat) : Int)) hx hb hK hW1 (zlN (hM 49 rfl)) rfl rfl rfl (by show (0 : Int) ≤ ((d : Nat) : Int); omega) (by show ((d : Nat) : Int) < (8 : Int); omega) (show σ1 49 0 d = (((σ1 49 0 d).toNat : Nat) : Int) from by omega) dX7_leaves_30 ?_
          refine zz_aload_n hx hb hl 0 dX7_leaves_31 rfl rfl ?_
          refine zz_get (T := TX7) (N := 42) (k := 13) (κ := 30) (w := zr ad 53 ((0 : Nat) : Int)) hx hb hts hinX7 hown hK hW1 (zlN (hM 30 rfl)) rfl rfl rfl (by decide) (hts (.fieldLink RX7 39 "HailCityModel" "stopAt" "[I") (by decide +kernel)) (fun _ h9 => h9) rfl dX7_leaves_32 ?_
          refine zz_bipush hx hb dX7_leaves_35 (by decide +kernel) ?_
          refine zz_iload_n hx hb hl 1 dX7_leaves_37 rfl rfl ?_
          refine zz_imul hx hb dX7_leaves_38 ?_
          refine zz_iald (w := (((σ1 53 0 (8 * d)).toNat : Nat) : Int)) hx hb hK hW1 (zlN (hM 53 rfl)) rfl rfl rfl (by show (0 : Int) ≤ ((8 * d : Nat) : Int); omega) (by show ((8 * d : Nat) : Int) < (64 : Int); omega) (show σ1 53 0 (8 * d) = (((σ1 53 0 (8 * d)).toNat : Nat) : Int) from by omega) dX7_leaves_39 ?_
          refine zz_callV (T := TX7) (N := 42) (As := [.int (zi (((σ1 49 0 d).toNat : Nat) : Int)), .int (zi (((σ1 53 0 (8 * d)).toNat : Nat) : Int))]) (rest := [.int (zi (σ1 30 0 1)), .int (zi ((d : Nat) : Int)), zr ad 55 ((0 : Nat) : Int)]) (v := ((0 : Nat) : Int)) (κ := 30) ⟨hx, hb, hml, hown, hts⟩ (c_X7_wayOf l G ad A N0 σ1 hM (σ1 49 0 d).toNat (σ1 53 0 (8 * d)).toNat (by omega) (by omega)) (cwV 2 hts gX7_leaves_X7_wayOf rfl rfl rfl (by decide +kernel) ⟨Nat.le_of_ble_eq_true rfl, Nat.le_of_ble_eq_true rfl⟩) hK hW1 (zlN (hM 30 rfl)) rfl rfl (Nat.le_trans hsz hS1.1) hS1 rfl hl.1.1 rfl (by simp [zr_cat, zcat_i]) dX7_leaves_40 ⟨Nat.le_of_ble_eq_true rfl, Nat.le_of_ble_eq_true rfl⟩ (fun x4 σ4 H4 locs4 hp4 hW4 hz4 hS4 => ?_)
          obtain ⟨rfl, rfl⟩ := hp4
          refine W.eq (g2 := F0 m 43 ls [.int (zi (σ1 47 0 (10 * (σ1 49 0 d).toNat + (σ1 53 0 (8 * d)).toNat))), .int (zi (σ1 30 0 1)), .int (zi ((d : Nat) : Int)), zr ad 55 ((0 : Nat) : Int)]) rfl ?_
          refine zz_iadd hx hb dX7_leaves_43 ?_
          refine zz_iast (y := ((σ1 30 0 1) + (σ1 47 0 (10 * (σ1 49 0 d).toNat + (σ1 53 0 (8 * d)).toNat)))) hx hb hK hW4 hS4 (zlN (hM 55 rfl)) rfl rfl rfl (by show (0 : Int) ≤ ((d : Nat) : Int); omega) (by show ((d : Nat) : Int) < (8 : Int); omega) ⟨by omega, by omega⟩ dX7_leaves_44 (fun H5 locs5 hW5' hS5 => ?_)
          obtain ⟨σ5, hs5⟩ : ∃ z, z = zu σ1 55 0 d ((σ1 30 0 1) + (σ1 47 0 (10 * (σ1 49 0 d).toNat + (σ1 53 0 (8 * d)).toNat))) := ⟨_, rfl⟩
          have hW5 : ZW G ad A σ5 H5 := by rw [hs5]; exact hW5'
          refine zz_aload_n hx hb hl 0 dX7_leaves_45 rfl rfl ?_
          refine zz_get (T := TX7) (N := 42) (k := 15) (κ := 30) (w := zr ad 55 ((0 : Nat) : Int)) hx hb hts hinX7 hown hK hW5 (zlN (hM 30 rfl)) rfl rfl rfl (by decide) (hts (.fieldLink RX7 45 "HailCityModel" "reached" "[I") (by decide +kernel)) (fun _ h9 => h9) rfl dX7_leaves_46 ?_
          refine zz_iload_n hx hb hl 1 dX7_leaves_49 rfl rfl ?_
          refine zz_iald (w := (σ1 30 0 1) + (σ1 47 0 (10 * (σ1 49 0 d).toNat + (σ1 53 0 (8 * d)).toNat))) hx hb hK hW5 (zlN (hM 55 rfl)) rfl rfl rfl (by show (0 : Int) ≤ ((d : Nat) : Int); omega) (by show ((d : Nat) : Int) < (8 : Int); omega) (show σ5 55 0 d = (σ1 30 0 1) + (σ1 47 0 (10 * (σ1 49 0 d).toNat + (σ1 53 0 (8 * d)).toNat)) from by rw [hs5, zu_same]) dX7_leaves_50 ?_
          refine zz_aload_n hx hb hl 0 dX7_leaves_51 rfl rfl ?_
          refine zz_get (T := TX7) (N := 42) (k := 1) (κ := 30) (w := .int (zi (σ1 30 0 1))) hx hb hts hinX7 hown hK hW5 (zlN (hM 30 rfl)) rfl rfl rfl (by decide) (hts (.fieldLink RX7 161 "HailCityModel" "now" "I") (by decide +kernel)) (fun _ h9 => h9) (congrArg (fun z => Value.int (zi z)) (show σ5 30 0 1 = σ1 30 0 1 from by rw [hs5, zu_k (by decide)])) dX7_leaves_52 ?_
          refine zz_icmp_ne (tgt := 62) hx hb dX7_leaves_55 (by decide) ⟨by omega, by omega⟩ (hW4.2.2.1 _ _ _) (fun hc55 => ?_) (fun hc55 => ?_)
          · refine zz_iconst hx hb dX7_leaves_62 ?_
            refine zz_istore_n (lv' := [(2, .int (zi 0)), (0, zr ad 30 ((0 : Nat) : Int)), (1, .int (zi ((d : Nat) : Int)))]) hx hb hl dX7_leaves_63 rfl (by decide) rfl (fun ls hl => ?_)
            refine zz_iload_n hx hb hl 0 dX7_leaves_64 rfl rfl ?_
            refine zz_if_eq (tgt := 2) hx hb dX7_leaves_65 (by decide) ⟨by decide, by decide⟩ (fun hc65 => ?_) (fun hc65 => ?_)
            · refine ih2 (n2 + 1) 0 σ5 H5 locs5 ls ?_ (by omega) hW5 hS5 (zh_sub hl [1, 2, 0] rfl)
              refine ⟨?_, Or.inr ⟨rfl, ?_⟩⟩
              · rw [hs5, zu_ne (by omega)]
                exact hI2.1
              · rw [← htg]
                show _ = ybf (if ywy σ1 d = 0 then _ else zu σ1 55 0 d (σ1 30 0 1 + ywy σ1 d)) d
                rw [if_neg (fun h => by
                  have h9 : σ1 47 0 (10 * (σ1 49 0 d).toNat + (σ1 53 0 (8 * d)).toNat) = 0 := h
                  omega), hs5]
                rfl
            · exact absurd rfl hc65
          · refine zz_iconst hx hb dX7_leaves_58 ?_
            refine zz_goto (tgt := 63) hx hb dX7_leaves_59 (by decide) ?_
            refine zz_istore_n (lv' := [(2, .int (zi 1)), (0, zr ad 30 ((0 : Nat) : Int)), (1, .int (zi ((d : Nat) : Int)))]) hx hb hl dX7_leaves_63 rfl (by decide) rfl (fun ls hl => ?_)
            refine zz_iload_n hx hb hl 0 dX7_leaves_64 rfl rfl ?_
            refine zz_if_eq (tgt := 2) hx hb dX7_leaves_65 (by decide) ⟨by decide, by decide⟩ (fun hc65 => ?_) (fun hc65 => ?_)
            · exact absurd hc65 (by decide)
            · have hwz : ywy σ1 d = 0 := by
                show σ1 47 0 (10 * (σ1 49 0 d).toNat + (σ1 53 0 (8 * d)).toNat) = 0
                omega
              have hr := yMok_r (σ1 30 0 1 + ywy σ1 d) hk
              have hr2 : yMok σ5 d (n2 + 1) := by rw [hs5]; exact hr
              obtain ⟨p1, p2, p3, p4, p5, p6, p7, p8⟩ := hr2
              have p40 : (0 ≤ σ5 53 0 (8 * d) ∧ σ5 53 0 (8 * d) < 10) ∧ -1 ≤ σ5 54 0 (8 * d) ∧ σ5 54 0 (8 * d) < 160 ∧ (σ5 54 0 (8 * d) < 100 → σ5 54 0 (8 * d) < 60) ∧ (100 ≤ σ5 54 0 (8 * d) → 0 ≤ σ5 69 0 (σ5 54 0 (8 * d) - 100).toNat ∧ σ5 69 0 (σ5 54 0 (8 * d) - 100).toNat ≤ 3000000) := p4 0 (by omega)
              refine zz_aload_n hx hb hl 1 dX7_leaves_68 rfl rfl ?_
              refine zz_iload_n hx hb hl 2 dX7_leaves_69 rfl rfl ?_
              refine zz_callV (T := TX7) (N := 42) (As := [.int (zi ((d : Nat) : Int))]) (rest := []) (v := ((0 : Nat) : Int)) (κ := 30) ⟨hx, hb, hml, hown, hts⟩ (c_X7_takeFirst l G ad A N0 σ5 hM d hd n2 p1 p2 p40.2.2.1 p40.2.2.2.1 ⟨p7.1, by omega⟩ ⟨p8.1, by omega⟩ p40.2.2.2.2) (cwV 1 hts gX7_leaves_X7_takeFirst rfl rfl rfl (by decide +kernel) ⟨Nat.le_of_ble_eq_true rfl, Nat.le_of_ble_eq_true rfl⟩) hK hW5 (zlN (hM 30 rfl)) rfl rfl (Nat.le_trans hsz hS5.1) hS5 rfl hl.1.1 rfl (Nat.le_of_ble_eq_true rfl) dX7_leaves_70 ⟨Nat.le_of_ble_eq_true rfl, Nat.le_of_ble_eq_true rfl⟩ (fun x6 σ6 H6 locs6 hp6 hW6 hz6 hS6 => ?_)
              refine W.eq (g2 := F0 m 73 ls []) rfl ?_
              refine zz_goto (tgt := 2) hx hb dX7_leaves_73 (by decide) ?_
              refine ih2 n2 1 σ6 H6 locs6 ls ?_ (by omega) hW6 hS6 (zh_sub hl [1, 2, 0] rfl)
              refine ⟨?_, Or.inl ⟨rfl, ?_, ?_⟩⟩
              · rw [← hp6, ymt_fr (by omega), hs5, zu_ne (by omega)]
                exact hI2.1
              · rw [← hp6]
                exact yMok_nx ⟨p1, p2, p3, p4, p5, p6, p7, p8⟩
              · rw [← htg]
                show _ = ybf (if ywy σ1 d = 0 then yLV d n2 (ymt (zu σ1 55 0 d (σ1 30 0 1 + ywy σ1 d)) d n2) else _) d
                rw [if_pos hwz, ← hp6, hs5]
                rfl
  refine hcut2 _ n 1 σ s.heap [] ls ?_ (Nat.lt_succ_self _) hW0 hS0 (zh_sub hl [1, 2, 0] rfl)
  exact ⟨hgo, Or.inl ⟨rfl, hok, rfl⟩⟩
