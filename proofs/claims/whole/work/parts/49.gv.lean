/-! the model's give -/
def ygp (σ : zS) (d q : Nat) : Int := σ 30 0 1 + σ 47 0 (10 * (σ 49 0 d).toNat + (σ 65 0 q).toNat) + σ 47 0 (10 * (σ 65 0 q).toNat + (σ 66 0 q).toNat) * 3 / 2
def ygm (σ : zS) (d q : Nat) : zS := zu (zu (zu (zu (zu (zu (zu (zu (zu (zu σ 64 0 q 1) 70 0 q (d : Int)) 73 0 q (σ 30 0 1)) 71 0 q (ygp σ d q)) 53 0 (8 * d) (σ 65 0 q)) 54 0 (8 * d) (q : Int)) 52 0 d 1) 53 0 (8 * d + 1) (σ 66 0 q)) 54 0 (8 * d + 1) ((100 + q : Nat) : Int)) 52 0 d 2
theorem yMok_gm {σ : zS} {d q : Nat} (hq : q < 60) (hpl : 0 ≤ σ 49 0 d ∧ σ 49 0 d < 10) (hf : 0 ≤ σ 65 0 q ∧ σ 65 0 q < 10) (ht : 0 ≤ σ 66 0 q ∧ σ 66 0 q < 10) (hww : ∀ a b, a < 10 → b < 10 → 0 ≤ σ 47 0 (10 * a + b) ∧ σ 47 0 (10 * a + b) ≤ 100000) (hnow : 0 ≤ σ 30 0 1 ∧ σ 30 0 1 ≤ 20000) (hdn : 0 ≤ σ 61 0 d ∧ σ 61 0 d ≤ 900) (her : 0 ≤ σ 62 0 d ∧ σ 62 0 d ≤ 900000000) (hpr : 0 ≤ σ 69 0 q ∧ σ 69 0 q ≤ 3000000) : yMok (ygm σ d q) d 2 := by
  have e : ∀ κ i k, κ ≠ 64 → κ ≠ 70 → κ ≠ 71 → κ ≠ 73 → κ ≠ 52 → κ ≠ 53 → κ ≠ 54 → ygm σ d q κ i k = σ κ i k := fun κ i k h1 h2 h3 h4 h5 h6 h7 => by
    unfold ygm
    rw [zu_ne (by omega), zu_ne (by omega), zu_ne (by omega), zu_ne (by omega), zu_ne (by omega), zu_ne (by omega), zu_ne (by omega), zu_ne (by omega), zu_ne (by omega), zu_ne (by omega)]
  have p0 : ygm σ d q 53 0 (8 * d) = σ 65 0 q := by
    unfold ygm
    rw [zu_ne (by omega), zu_ne (by omega), zu_ne (by omega), zu_ne (by omega), zu_ne (by omega), zu_same]
  have p1 : ygm σ d q 53 0 (8 * d + 1) = σ 66 0 q := by
    unfold ygm
    rw [zu_ne (by omega), zu_ne (by omega), zu_same]
  have w0 : ygm σ d q 54 0 (8 * d) = (q : Int) := by
    unfold ygm
    rw [zu_ne (by omega), zu_ne (by omega), zu_ne (by omega), zu_ne (by omega), zu_same]
  have w1 : ygm σ d q 54 0 (8 * d + 1) = ((100 + q : Nat) : Int) := by
    unfold ygm
    rw [zu_ne (by omega), zu_same]
  have n2 : ygm σ d q 52 0 d = 2 := by
    unfold ygm
    rw [zu_same]
  have E : ∀ κ i k, κ ≠ 64 ∧ κ ≠ 70 ∧ κ ≠ 71 ∧ κ ≠ 73 ∧ κ ≠ 52 ∧ κ ≠ 53 ∧ κ ≠ 54 → ygm σ d q κ i k = σ κ i k := fun κ i k h => e κ i k h.1 h.2.1 h.2.2.1 h.2.2.2.1 h.2.2.2.2.1 h.2.2.2.2.2.1 h.2.2.2.2.2.2
  refine ⟨n2, by decide, by rw [E 49 _ _ (by decide)]; exact hpl, fun j hj => ?_, fun a b ha hb => by rw [E 47 _ _ (by decide)]; exact hww a b ha hb, by rw [E 30 _ _ (by decide)]; exact hnow, by rw [E 61 _ _ (by decide)]; omega, by rw [E 62 _ _ (by decide)]; omega⟩
  rcases show j = 0 ∨ j = 1 by omega with rfl | rfl
  · rw [Nat.add_zero, p0, w0]
    exact ⟨hf, by omega, by omega, fun _ => by omega, fun h => absurd h (by omega)⟩
  · rw [p1, w1, E 69 _ _ (by decide)]
    refine ⟨ht, by omega, by omega, fun h => absurd h (by omega), fun _ => ?_⟩
    rw [show (((100 + q : Nat) : Int) - 100).toNat = q by omega]
    exact hpr

set_option maxHeartbeats 4000000 in
set_option maxRecDepth 100000 in
theorem c_X7_give (l : Launch) (G : zG) (ad : zA) (A : Nat → Prop) (N0 : Nat) (σ : zS) (hM : zMm ad) (d : Nat) (hd : d < 8) (q : Nat) (hq : q < 60) (h52 : σ 52 0 d = 0) (hpl : 0 ≤ σ 49 0 d ∧ σ 49 0 d < 10) (hf : 0 ≤ σ 65 0 q ∧ σ 65 0 q < 10) (ht : 0 ≤ σ 66 0 q ∧ σ 66 0 q < 10) (hww : ∀ a b, a < 10 → b < 10 → 0 ≤ σ 47 0 (10 * a + b) ∧ σ 47 0 (10 * a + b) ≤ 100000) (hnow : 0 ≤ σ 30 0 1 ∧ σ 30 0 1 ≤ 20000) (hdn : 0 ≤ σ 61 0 d ∧ σ 61 0 d ≤ 900) (her : 0 ≤ σ 62 0 d ∧ σ 62 0 d ≤ 900000000) (hpr : 0 ≤ σ 69 0 q ∧ σ 69 0 q ≤ 3000000) (hgo : 0 ≤ σ 30 0 17 ∧ σ 30 0 17 < 2000000000) : Met l yX7_give wsX7_give ({ frames := 3, cells := 0, slots := 0, locals := 64 }) (zP G ad A N0 σ [zr ad 30 ((0 : Nat) : Int), .int (zi ((q : Nat) : Int)), .int (zi ((d : Nat) : Int))]) (zQ G ad A zrv (fun _ u => ybf (yLV d 2 (ygm σ d q)) d = u)) 0 0 A := by
  refine zz_of (cc := cX7_give) (maxL := 3) (ret := none) (by decide) rfl ⟨rfl, rfl⟩ (List.forall_mem_cons.mpr ⟨zr_cat _ _ _, List.forall_mem_cons.mpr ⟨rfl, List.forall_mem_cons.mpr ⟨rfl, fun _ h => absurd h List.not_mem_nil⟩⟩⟩) (Nat.le_of_ble_eq_true rfl) ?_
  intro p e s m below meth c hx hb hr hml hts hown hlocks hsz hW0 hK ls hl
  have hS0 : va_S A s.heap s.heap [] := va_S.rf
  have hl : zh ls 3 [(0, zr ad 30 ((0 : Nat) : Int)), (1, .int (zi ((q : Nat) : Int))), (2, .int (zi ((d : Nat) : Int)))] := hl
  have hinX7 : ∀ w ∈ u_ws RX7 TX7 42, w ∈ wsX7_give := by decide +kernel
  have hw1 := hww (σ 49 0 d).toNat (σ 65 0 q).toNat (by omega) (by omega)
  have hw2 := hww (σ 65 0 q).toNat (σ 66 0 q).toNat (by omega) (by omega)
  refine zz_aload_n hx hb hl 0 dX7_give_0 rfl rfl ?_
  refine zz_get (T := TX7) (N := 42) (k := 24) (κ := 30) (w := zr ad 64 ((0 : Nat) : Int)) hx hb hts hinX7 hown hK hW0 (zlN (hM 30 rfl)) rfl rfl rfl (by decide) (hts (.fieldLink RX7 66 "HailCityModel" "state" "[I") (by decide +kernel)) (fun _ h9 => h9) rfl dX7_give_1 ?_
  refine zz_iload_n hx hb hl 1 dX7_give_4 rfl rfl ?_
  refine zz_iconst hx hb dX7_give_5 ?_
  refine zz_iast (y := 1) hx hb hK hW0 hS0 (zlN (hM 64 rfl)) rfl rfl rfl (by show (0 : Int) ≤ ((q : Nat) : Int); omega) (by show ((q : Nat) : Int) < (60 : Int); omega) ⟨by decide, by decide⟩ dX7_give_6 (fun H1 locs1 hW1' hS1 => ?_)
  obtain ⟨σ1, hs1⟩ : ∃ z, z = zu σ 64 0 q 1 := ⟨_, rfl⟩
  have hW1 : ZW G ad A σ1 H1 := by rw [hs1]; exact hW1'
  refine zz_aload_n hx hb hl 0 dX7_give_7 rfl rfl ?_
  refine zz_get (T := TX7) (N := 42) (k := 30) (κ := 30) (w := zr ad 70 ((0 : Nat) : Int)) hx hb hts hinX7 hown hK hW1 (zlN (hM 30 rfl)) rfl rfl rfl (by decide) (hts (.fieldLink RX7 84 "HailCityModel" "driverOf" "[I") (by decide +kernel)) (fun _ h9 => h9) rfl dX7_give_8 ?_
  refine zz_iload_n hx hb hl 1 dX7_give_11 rfl rfl ?_
  refine zz_iload_n hx hb hl 2 dX7_give_12 rfl rfl ?_
  refine zz_iast (y := ((d : Nat) : Int)) hx hb hK hW1 hS1 (zlN (hM 70 rfl)) rfl rfl rfl (by show (0 : Int) ≤ ((q : Nat) : Int); omega) (by show ((q : Nat) : Int) < (60 : Int); omega) ⟨by omega, by omega⟩ dX7_give_13 (fun H2 locs2 hW2' hS2 => ?_)
  obtain ⟨σ2, hs2⟩ : ∃ z, z = zu σ1 70 0 q ((d : Nat) : Int) := ⟨_, rfl⟩
  have hW2 : ZW G ad A σ2 H2 := by rw [hs2]; exact hW2'
  refine zz_aload_n hx hb hl 0 dX7_give_14 rfl rfl ?_
  refine zz_get (T := TX7) (N := 42) (k := 33) (κ := 30) (w := zr ad 73 ((0 : Nat) : Int)) hx hb hts hinX7 hown hK hW2 (zlN (hM 30 rfl)) rfl rfl rfl (by decide) (hts (.fieldLink RX7 93 "HailCityModel" "sentAt" "[I") (by decide +kernel)) (fun _ h9 => h9) rfl dX7_give_15 ?_
  refine zz_iload_n hx hb hl 1 dX7_give_18 rfl rfl ?_
  refine zz_aload_n hx hb hl 0 dX7_give_19 rfl rfl ?_
  refine zz_get (T := TX7) (N := 42) (k := 1) (κ := 30) (w := .int (zi (σ 30 0 1))) hx hb hts hinX7 hown hK hW2 (zlN (hM 30 rfl)) rfl rfl rfl (by decide) (hts (.fieldLink RX7 161 "HailCityModel" "now" "I") (by decide +kernel)) (fun _ h9 => h9) (congrArg (fun z => Value.int (zi z)) (show σ2 30 0 1 = σ 30 0 1 from by rw [hs2, zu_k (by decide), hs1, zu_k (by decide)])) dX7_give_20 ?_
  refine zz_iast (y := (σ 30 0 1)) hx hb hK hW2 hS2 (zlN (hM 73 rfl)) rfl rfl rfl (by show (0 : Int) ≤ ((q : Nat) : Int); omega) (by show ((q : Nat) : Int) < (60 : Int); omega) (hW0.2.2.1 _ _ _) dX7_give_23 (fun H3 locs3 hW3' hS3 => ?_)
  obtain ⟨σ3, hs3⟩ : ∃ z, z = zu σ2 73 0 q (σ 30 0 1) := ⟨_, rfl⟩
  have hW3 : ZW G ad A σ3 H3 := by rw [hs3]; exact hW3'
  refine zz_aload_n hx hb hl 0 dX7_give_24 rfl rfl ?_
  refine zz_get (T := TX7) (N := 42) (k := 31) (κ := 30) (w := zr ad 71 ((0 : Nat) : Int)) hx hb hts hinX7 hown hK hW3 (zlN (hM 30 rfl)) rfl rfl rfl (by decide) (hts (.fieldLink RX7 87 "HailCityModel" "promise" "[I") (by decide +kernel)) (fun _ h9 => h9) rfl dX7_give_25 ?_
  refine zz_iload_n hx hb hl 1 dX7_give_28 rfl rfl ?_
  refine zz_aload_n hx hb hl 0 dX7_give_29 rfl rfl ?_
  refine zz_get (T := TX7) (N := 42) (k := 1) (κ := 30) (w := .int (zi (σ 30 0 1))) hx hb hts hinX7 hown hK hW3 (zlN (hM 30 rfl)) rfl rfl rfl (by decide) (hts (.fieldLink RX7 161 "HailCityModel" "now" "I") (by decide +kernel)) (fun _ h9 => h9) (congrArg (fun z => Value.int (zi z)) (show σ3 30 0 1 = σ 30 0 1 from by rw [hs3, zu_k (by decide), hs2, zu_k (by decide), hs1, zu_k (by decide)])) dX7_give_30 ?_
  refine zz_aload_n hx hb hl 0 dX7_give_33 rfl rfl ?_
  refine zz_aload_n hx hb hl 0 dX7_give_34 rfl rfl ?_
  refine zz_get (T := TX7) (N := 42) (k := 9) (κ := 30) (w := zr ad 49 ((0 : Nat) : Int)) hx hb hts hinX7 hown hK hW3 (zlN (hM 30 rfl)) rfl rfl rfl (by decide) (hts (.fieldLink RX7 26 "HailCityModel" "place" "[I") (by decide +kernel)) (fun _ h9 => h9) rfl dX7_give_35 ?_
  refine zz_iload_n hx hb hl 2 dX7_give_38 rfl rfl ?_
  refine zz_iald (w := (((σ 49 0 d).toNat : Nat) : Int)) hx hb hK hW3 (zlN (hM 49 rfl)) rfl rfl rfl (by show (0 : Int) ≤ ((d : Nat) : Int); omega) (by show ((d : Nat) : Int) < (8 : Int); omega) (show σ3 49 0 d = (((σ 49 0 d).toNat : Nat) : Int) from by rw [hs3, zu_k (by decide), hs2, zu_k (by decide), hs1, zu_k (by decide)]; omega) dX7_give_39 ?_
  refine zz_aload_n hx hb hl 0 dX7_give_40 rfl rfl ?_
  refine zz_get (T := TX7) (N := 42) (k := 25) (κ := 30) (w := zr ad 65 ((0 : Nat) : Int)) hx hb hts hinX7 hown hK hW3 (zlN (hM 30 rfl)) rfl rfl rfl (by decide) (hts (.fieldLink RX7 69 "HailCityModel" "from" "[I") (by decide +kernel)) (fun _ h9 => h9) rfl dX7_give_41 ?_
  refine zz_iload_n hx hb hl 1 dX7_give_44 rfl rfl ?_
  refine zz_iald (w := (((σ 65 0 q).toNat : Nat) : Int)) hx hb hK hW3 (zlN (hM 65 rfl)) rfl rfl rfl (by show (0 : Int) ≤ ((q : Nat) : Int); omega) (by show ((q : Nat) : Int) < (60 : Int); omega) (show σ3 65 0 q = (((σ 65 0 q).toNat : Nat) : Int) from by rw [hs3, zu_k (by decide), hs2, zu_k (by decide), hs1, zu_k (by decide)]; omega) dX7_give_45 ?_
  refine zz_callV (T := TX7) (N := 42) (As := [.int (zi (((σ 49 0 d).toNat : Nat) : Int)), .int (zi (((σ 65 0 q).toNat : Nat) : Int))]) (rest := [.int (zi (σ 30 0 1)), .int (zi ((q : Nat) : Int)), zr ad 71 ((0 : Nat) : Int)]) (v := ((0 : Nat) : Int)) (κ := 30) ⟨hx, hb, hml, hown, hts⟩ (c_X7_wayOf l G ad A N0 σ3 hM (σ 49 0 d).toNat (σ 65 0 q).toNat (by omega) (by omega)) (cwV 2 hts gX7_give_X7_wayOf rfl rfl rfl (by decide +kernel) ⟨Nat.le_of_ble_eq_true rfl, Nat.le_of_ble_eq_true rfl⟩) hK hW3 (zlN (hM 30 rfl)) rfl rfl (Nat.le_trans hsz hS3.1) hS3 rfl hl.1.1 rfl (by simp [zr_cat, zcat_i]) dX7_give_46 ⟨Nat.le_of_ble_eq_true rfl, Nat.le_of_ble_eq_true rfl⟩ (fun x4 σ4 H4 locs4 hp4 hW4 hz4 hS4 => ?_)
  obtain ⟨rfl, hx9⟩ := hp4
  rw [hs3, zu_ne (by omega), hs2, zu_ne (by omega), hs1, zu_ne (by omega)] at hx9
  obtain rfl := hx9
  refine W.eq (g2 := F0 m 49 ls [.int (zi (σ 47 0 (10 * (σ 49 0 d).toNat + (σ 65 0 q).toNat))), .int (zi (σ 30 0 1)), .int (zi ((q : Nat) : Int)), zr ad 71 ((0 : Nat) : Int)]) rfl ?_
  refine zz_iadd hx hb dX7_give_49 ?_
  refine zz_aload_n hx hb hl 0 dX7_give_50 rfl rfl ?_
  refine zz_aload_n hx hb hl 0 dX7_give_51 rfl rfl ?_
  refine zz_get (T := TX7) (N := 42) (k := 25) (κ := 30) (w := zr ad 65 ((0 : Nat) : Int)) hx hb hts hinX7 hown hK hW4 (zlN (hM 30 rfl)) rfl rfl rfl (by decide) (hts (.fieldLink RX7 69 "HailCityModel" "from" "[I") (by decide +kernel)) (fun _ h9 => h9) rfl dX7_give_52 ?_
  refine zz_iload_n hx hb hl 1 dX7_give_55 rfl rfl ?_
  refine zz_iald (w := (((σ 65 0 q).toNat : Nat) : Int)) hx hb hK hW4 (zlN (hM 65 rfl)) rfl rfl rfl (by show (0 : Int) ≤ ((q : Nat) : Int); omega) (by show ((q : Nat) : Int) < (60 : Int); omega) (show σ3 65 0 q = (((σ 65 0 q).toNat : Nat) : Int) from by rw [hs3, zu_k (by decide), hs2, zu_k (by decide), hs1, zu_k (by decide)]; omega) dX7_give_56 ?_
  refine zz_aload_n hx hb hl 0 dX7_give_57 rfl rfl ?_
  refine zz_get (T := TX7) (N := 42) (k := 26) (κ := 30) (w := zr ad 66 ((0 : Nat) : Int)) hx hb hts hinX7 hown hK hW4 (zlN (hM 30 rfl)) rfl rfl rfl (by decide) (hts (.fieldLink RX7 72 "HailCityModel" "to" "[I") (by decide +kernel)) (fun _ h9 => h9) rfl dX7_give_58 ?_
  refine zz_iload_n hx hb hl 1 dX7_give_61 rfl rfl ?_
  refine zz_iald (w := (((σ 66 0 q).toNat : Nat) : Int)) hx hb hK hW4 (zlN (hM 66 rfl)) rfl rfl rfl (by show (0 : Int) ≤ ((q : Nat) : Int); omega) (by show ((q : Nat) : Int) < (60 : Int); omega) (show σ3 66 0 q = (((σ 66 0 q).toNat : Nat) : Int) from by rw [hs3, zu_k (by decide), hs2, zu_k (by decide), hs1, zu_k (by decide)]; omega) dX7_give_62 ?_
  refine zz_callV (T := TX7) (N := 42) (As := [.int (zi (((σ 65 0 q).toNat : Nat) : Int)), .int (zi (((σ 66 0 q).toNat : Nat) : Int))]) (rest := [.int (zi ((σ 30 0 1) + (σ 47 0 (10 * (σ 49 0 d).toNat + (σ 65 0 q).toNat)))), .int (zi ((q : Nat) : Int)), zr ad 71 ((0 : Nat) : Int)]) (v := ((0 : Nat) : Int)) (κ := 30) ⟨hx, hb, hml, hown, hts⟩ (c_X7_wayOf l G ad A N0 σ3 hM (σ 65 0 q).toNat (σ 66 0 q).toNat (by omega) (by omega)) (cwV 2 hts gX7_give_X7_wayOf rfl rfl rfl (by decide +kernel) ⟨Nat.le_of_ble_eq_true rfl, Nat.le_of_ble_eq_true rfl⟩) hK hW4 (zlN (hM 30 rfl)) rfl rfl (Nat.le_trans hsz hS4.1) hS4 rfl hl.1.1 rfl (by simp [zr_cat, zcat_i]) dX7_give_63 ⟨Nat.le_of_ble_eq_true rfl, Nat.le_of_ble_eq_true rfl⟩ (fun x5 σ5 H5 locs5 hp5 hW5 hz5 hS5 => ?_)
  obtain ⟨rfl, hx9⟩ := hp5
  rw [hs3, zu_ne (by omega), hs2, zu_ne (by omega), hs1, zu_ne (by omega)] at hx9
  obtain rfl := hx9
  refine W.eq (g2 := F0 m 66 ls [.int (zi (σ 47 0 (10 * (σ 65 0 q).toNat + (σ 66 0 q).toNat))), .int (zi ((σ 30 0 1) + (σ 47 0 (10 * (σ 49 0 d).toNat + (σ 65 0 q).toNat)))), .int (zi ((q : Nat) : Int)), zr ad 71 ((0 : Nat) : Int)]) rfl ?_
  refine zz_iconst hx hb dX7_give_66 ?_
  refine zz_imul hx hb dX7_give_67 ?_
  refine zz_iconst hx hb dX7_give_68 ?_
  refine zz_idiv hx hb dX7_give_69 ⟨by omega, by omega⟩ ⟨by decide, by decide⟩ (by omega) (by omega) ?_
  refine zz_iadd hx hb dX7_give_70 ?_
  refine zz_iast (y := (((σ 30 0 1) + (σ 47 0 (10 * (σ 49 0 d).toNat + (σ 65 0 q).toNat))) + (((σ 47 0 (10 * (σ 65 0 q).toNat + (σ 66 0 q).toNat)) * 3) / 2))) hx hb hK hW5 hS5 (zlN (hM 71 rfl)) rfl rfl rfl (by show (0 : Int) ≤ ((q : Nat) : Int); omega) (by show ((q : Nat) : Int) < (60 : Int); omega) ⟨by omega, by omega⟩ dX7_give_71 (fun H6 locs6 hW6' hS6 => ?_)
  obtain ⟨σ6, hs6⟩ : ∃ z, z = zu σ3 71 0 q (((σ 30 0 1) + (σ 47 0 (10 * (σ 49 0 d).toNat + (σ 65 0 q).toNat))) + (((σ 47 0 (10 * (σ 65 0 q).toNat + (σ 66 0 q).toNat)) * 3) / 2)) := ⟨_, rfl⟩
  have hW6 : ZW G ad A σ6 H6 := by rw [hs6]; exact hW6'
  refine zz_aload_n hx hb hl 0 dX7_give_72 rfl rfl ?_
  refine zz_iload_n hx hb hl 2 dX7_give_73 rfl rfl ?_
  refine zz_aload_n hx hb hl 0 dX7_give_74 rfl rfl ?_
  refine zz_get (T := TX7) (N := 42) (k := 25) (κ := 30) (w := zr ad 65 ((0 : Nat) : Int)) hx hb hts hinX7 hown hK hW6 (zlN (hM 30 rfl)) rfl rfl rfl (by decide) (hts (.fieldLink RX7 69 "HailCityModel" "from" "[I") (by decide +kernel)) (fun _ h9 => h9) rfl dX7_give_75 ?_
  refine zz_iload_n hx hb hl 1 dX7_give_78 rfl rfl ?_
  refine zz_iald (w := σ 65 0 q) hx hb hK hW6 (zlN (hM 65 rfl)) rfl rfl rfl (by show (0 : Int) ≤ ((q : Nat) : Int); omega) (by show ((q : Nat) : Int) < (60 : Int); omega) (show σ6 65 0 q = σ 65 0 q from by rw [hs6, zu_ne (by omega), hs3, zu_ne (by omega), hs2, zu_ne (by omega), hs1, zu_ne (by omega)]) dX7_give_79 ?_
  refine zz_iload_n hx hb hl 1 dX7_give_80 rfl rfl ?_
  refine zz_callV (T := TX7) (N := 42) (As := [.int (zi ((d : Nat) : Int)), .int (zi (σ 65 0 q)), .int (zi ((q : Nat) : Int))]) (rest := []) (v := ((0 : Nat) : Int)) (κ := 30) ⟨hx, hb, hml, hown, hts⟩ (c_X7_add l G ad A N0 σ6 hM d hd 0 (by rw [hs6, zu_ne (by omega), hs3, zu_ne (by omega), hs2, zu_ne (by omega), hs1, zu_ne (by omega)]; exact h52) (by decide) (σ 65 0 q) ((q : Nat) : Int) (hW0.2.2.1 _ _ _) ⟨by omega, by omega⟩) (cwV 3 hts gX7_give_X7_add rfl rfl rfl (by decide +kernel) ⟨Nat.le_of_ble_eq_true rfl, Nat.le_of_ble_eq_true rfl⟩) hK hW6 (zlN (hM 30 rfl)) rfl rfl (Nat.le_trans hsz hS6.1) hS6 rfl hl.1.1 rfl (Nat.le_of_ble_eq_true rfl) dX7_give_81 ⟨Nat.le_of_ble_eq_true rfl, Nat.le_of_ble_eq_true rfl⟩ (fun x7 σ7 H7 locs7 hp7 hW7 hz7 hS7 => ?_)
  have hadd1 := hp7
  refine W.eq (g2 := F0 m 84 ls []) rfl ?_
  refine zz_aload_n hx hb hl 0 dX7_give_84 rfl rfl ?_
  refine zz_iload_n hx hb hl 2 dX7_give_85 rfl rfl ?_
  refine zz_aload_n hx hb hl 0 dX7_give_86 rfl rfl ?_
  refine zz_get (T := TX7) (N := 42) (k := 26) (κ := 30) (w := zr ad 66 ((0 : Nat) : Int)) hx hb hts hinX7 hown hK hW7 (zlN (hM 30 rfl)) rfl rfl rfl (by decide) (hts (.fieldLink RX7 72 "HailCityModel" "to" "[I") (by decide +kernel)) (fun _ h9 => h9) rfl dX7_give_87 ?_
  refine zz_iload_n hx hb hl 1 dX7_give_90 rfl rfl ?_
  refine zz_iald (w := σ 66 0 q) hx hb hK hW7 (zlN (hM 66 rfl)) rfl rfl rfl (by show (0 : Int) ≤ ((q : Nat) : Int); omega) (by show ((q : Nat) : Int) < (60 : Int); omega) (show σ7 66 0 q = σ 66 0 q from by rw [← hp7, zu_ne (by omega), zu_ne (by omega), zu_ne (by omega), hs6, zu_ne (by omega), hs3, zu_ne (by omega), hs2, zu_ne (by omega), hs1, zu_ne (by omega)]) dX7_give_91 ?_
  refine zz_bipush hx hb dX7_give_92 (by decide +kernel) ?_
  refine zz_iload_n hx hb hl 1 dX7_give_94 rfl rfl ?_
  refine zz_iadd hx hb dX7_give_95 ?_
  refine zz_callV (T := TX7) (N := 42) (As := [.int (zi ((d : Nat) : Int)), .int (zi (σ 66 0 q)), .int (zi ((100 + q : Nat) : Int))]) (rest := []) (v := ((0 : Nat) : Int)) (κ := 30) ⟨hx, hb, hml, hown, hts⟩ (c_X7_add l G ad A N0 σ7 hM d hd 1 (by rw [← hp7, zu_same]; rfl) (by decide) (σ 66 0 q) ((100 + q : Nat) : Int) (hW0.2.2.1 _ _ _) ⟨by omega, by omega⟩) (cwV 3 hts gX7_give_X7_add rfl rfl rfl (by decide +kernel) ⟨Nat.le_of_ble_eq_true rfl, Nat.le_of_ble_eq_true rfl⟩) hK hW7 (zlN (hM 30 rfl)) rfl rfl (Nat.le_trans hsz hS7.1) hS7 rfl hl.1.1 rfl (Nat.le_of_ble_eq_true rfl) dX7_give_96 ⟨Nat.le_of_ble_eq_true rfl, Nat.le_of_ble_eq_true rfl⟩ (fun x8 σ8 H8 locs8 hp8 hW8 hz8 hS8 => ?_)
  have hgm : σ8 = ygm σ d q := by
    rw [← hp8, ← hadd1, hs6, hs3, hs2, hs1]
    rfl
  refine W.eq (g2 := F0 m 99 ls []) rfl ?_
  refine zz_aload_n hx hb hl 0 dX7_give_99 rfl rfl ?_
  refine zz_iload_n hx hb hl 2 dX7_give_100 rfl rfl ?_
  refine zz_callV (T := TX7) (N := 42) (As := [.int (zi ((d : Nat) : Int))]) (rest := []) (v := ((0 : Nat) : Int)) (κ := 30) ⟨hx, hb, hml, hown, hts⟩ (c_X7_leaves l G ad A N0 σ8 hM d hd 2 (by rw [hgm]; exact yMok_gm hq hpl hf ht hww hnow hdn her hpr) (by rw [hgm]; unfold ygm; rw [zu_ne (by omega), zu_ne (by omega), zu_ne (by omega), zu_ne (by omega), zu_ne (by omega), zu_ne (by omega), zu_ne (by omega), zu_ne (by omega), zu_ne (by omega), zu_ne (by omega)]; exact hgo)) (cwV 1 hts gX7_give_X7_leaves rfl rfl rfl (by decide +kernel) ⟨Nat.le_of_ble_eq_true rfl, Nat.le_of_ble_eq_true rfl⟩) hK hW8 (zlN (hM 30 rfl)) rfl rfl (Nat.le_trans hsz hS8.1) hS8 rfl hl.1.1 rfl (Nat.le_of_ble_eq_true rfl) dX7_give_101 ⟨Nat.le_of_ble_eq_true rfl, Nat.le_of_ble_eq_true rfl⟩ (fun x9 σ9 H9 locs9 hp9 hW9 hz9 hS9 => ?_)
  rw [hgm] at hp9
  refine W.eq (g2 := F0 m 104 ls []) rfl ?_
  refine W.eq (g2 := F0 m 104 ls []) rfl ?_
  refine zz_retv hx hb hr hlocks hW9 hS9 ?_ dX7_give_104
  exact hp9
