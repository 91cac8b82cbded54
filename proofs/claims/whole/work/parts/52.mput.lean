/-! the model's put -/
def ymp (σ u : zS) (d n f s9 q : Nat) : Prop := u 52 0 d = (n : Int) + 2 ∧ (∀ j, j < n + 2 → u 53 0 (8 * d + j) = (yQ (fun j => σ 53 0 (8 * d + j)) (σ 65 0 q) (σ 66 0 q) f s9) j ∧ u 54 0 (8 * d + j) = (yQ (fun j => σ 54 0 (8 * d + j)) (q : Int) (100 + (q : Int)) f s9) j) ∧ (u 64 0 q = 1 ∧ u 70 0 q = (d : Int) ∧ u 73 0 q = σ 30 0 1 ∧ u 71 0 q = (yT (fun a b => σ 47 0 (10 * a + b)) (σ 55 0 d) (yQ (fun j => σ 53 0 (8 * d + j)) (σ 65 0 q) (σ 66 0 q) f s9)) f + σ 47 0 (10 * (σ 65 0 q).toNat + (σ 66 0 q).toNat) * 3 / 2) ∧ zfr (fun κ _ k => κ = 79 ∨ κ = 80 ∨ κ = 81 ∨ ((κ = 53 ∨ κ = 54) ∧ 8 * d ≤ k ∧ k < 8 * d + n + 2) ∨ (κ = 52 ∧ k = d) ∨ ((κ = 64 ∨ κ = 70 ∨ κ = 71 ∨ κ = 73) ∧ k = q)) σ u

set_option maxHeartbeats 4000000 in
set_option maxRecDepth 100000 in
theorem c_X7_put (l : Launch) (G : zG) (ad : zA) (A : Nat → Prop) (N0 : Nat) (σ : zS) (hM : zMm ad) (d : Nat) (hd : d < 8) (n f s9 q : Nat) (hn : σ 52 0 d = (n : Int)) (hn6 : n ≤ 6) (hq : q < 60) (hf1 : 1 ≤ f) (hfn : f ≤ n) (hfs : f < s9) (hsn : s9 ≤ n + 1) (hP : ∀ j, j < n → 0 ≤ σ 53 0 (8 * d + j) ∧ σ 53 0 (8 * d + j) < 10) (hfr : 0 ≤ σ 65 0 q ∧ σ 65 0 q < 10) (hto : 0 ≤ σ 66 0 q ∧ σ 66 0 q < 10) (hww : ∀ a b, a < 10 → b < 10 → 0 ≤ σ 47 0 (10 * a + b) ∧ σ 47 0 (10 * a + b) ≤ 100000) (hre : 0 ≤ σ 55 0 d ∧ σ 55 0 d ≤ 200000) (hTf : 0 ≤ (yT (fun a b => σ 47 0 (10 * a + b)) (σ 55 0 d) (yQ (fun j => σ 53 0 (8 * d + j)) (σ 65 0 q) (σ 66 0 q) f s9)) f ∧ (yT (fun a b => σ 47 0 (10 * a + b)) (σ 55 0 d) (yQ (fun j => σ 53 0 (8 * d + j)) (σ 65 0 q) (σ 66 0 q) f s9)) f ≤ 2000000) : Met l yX7_put wsX7_put ({ frames := 2, cells := 0, slots := 0, locals := 50 }) (zP G ad A N0 σ [zr ad 30 ((0 : Nat) : Int), .int (zi ((d : Nat) : Int)), .int (zi ((q : Nat) : Int)), .int (zi ((f : Nat) : Int)), .int (zi ((s9 : Nat) : Int))]) (zQ G ad A zrv (fun _ u => ymp σ u d n f s9 q)) 0 0 A := by
  refine zz_of (cc := cX7_put) (maxL := 7) (ret := none) (by decide) rfl ⟨rfl, rfl⟩ (List.forall_mem_cons.mpr ⟨zr_cat _ _ _, List.forall_mem_cons.mpr ⟨rfl, List.forall_mem_cons.mpr ⟨rfl, List.forall_mem_cons.mpr ⟨rfl, List.forall_mem_cons.mpr ⟨rfl, fun _ h => absurd h List.not_mem_nil⟩⟩⟩⟩⟩) (Nat.le_of_ble_eq_true rfl) ?_
  intro p e s m below meth c hx hb hr hml hts hown hlocks hsz hW0 hK ls hl
  have hS0 : va_S A s.heap s.heap [] := va_S.rf
  have hl : zh ls 7 [(0, zr ad 30 ((0 : Nat) : Int)), (1, .int (zi ((d : Nat) : Int))), (2, .int (zi ((q : Nat) : Int))), (3, .int (zi ((f : Nat) : Int))), (4, .int (zi ((s9 : Nat) : Int)))] := hl
  have hinX7 : ∀ w ∈ u_ws RX7 TX7 42, w ∈ wsX7_put := by decide +kernel
  refine zz_aload_n hx hb hl 0 dX7_put_0 rfl rfl ?_
  refine zz_iload_n hx hb hl 1 dX7_put_1 rfl rfl ?_
  refine zz_iload_n hx hb hl 2 dX7_put_2 rfl rfl ?_
  refine zz_iload_n hx hb hl 3 dX7_put_3 rfl rfl ?_
  refine zz_iload hx hb hl 4 dX7_put_4 rfl ?_
  refine zz_callV (T := TX7) (N := 42) (As := [.int (zi ((d : Nat) : Int)), .int (zi ((q : Nat) : Int)), .int (zi ((f : Nat) : Int)), .int (zi ((s9 : Nat) : Int))]) (rest := []) (v := ((0 : Nat) : Int)) (κ := 30) ⟨hx, hb, hml, hown, hts⟩ (c_X7_tryRow l G ad A N0 σ hM d hd n (n + 2) f s9 f s9 ((q : Nat) : Int) hn (by omega) (Or.inr ⟨by omega, by omega, rfl, rfl, rfl, hn6, hf1, hfn, hfs, hsn⟩) hP (fun _ => ⟨hfr, hto⟩) hww hre) (cwV 4 hts gX7_put_X7_tryRow rfl rfl rfl (by decide +kernel) ⟨Nat.le_of_ble_eq_true rfl, Nat.le_of_ble_eq_true rfl⟩) hK hW0 (zlN (hM 30 rfl)) rfl rfl (Nat.le_trans hsz hS0.1) hS0 rfl hl.1.1 rfl (Nat.le_of_ble_eq_true rfl) dX7_put_6 ⟨Nat.le_of_ble_eq_true rfl, Nat.le_of_ble_eq_true rfl⟩ (fun x1 σ1 H1 locs1 hp1 hW1 hz1 hS1 => ?_)
  obtain ⟨hx9, hr1, hr2⟩ := hp1
  obtain rfl := hx9
  have hr1 : ∀ j, j < n + 2 → σ1 79 0 j = (yQ (fun j => σ 53 0 (8 * d + j)) (σ 65 0 q) (σ 66 0 q) f s9) j ∧ σ1 80 0 j = (yQ (fun j => σ 54 0 (8 * d + j)) (q : Int) (100 + (q : Int)) f s9) j ∧ σ1 81 0 j = (yT (fun a b => σ 47 0 (10 * a + b)) (σ 55 0 d) (yQ (fun j => σ 53 0 (8 * d + j)) (σ 65 0 q) (σ 66 0 q) f s9)) j := hr1
  refine W.eq (g2 := F0 m 9 ls [.int (zi ((n + 2 : Nat) : Int))]) rfl ?_
  refine zz_istore (lv' := [(5, .int (zi ((n + 2 : Nat) : Int))), (0, zr ad 30 ((0 : Nat) : Int)), (1, .int (zi ((d : Nat) : Int))), (2, .int (zi ((q : Nat) : Int))), (3, .int (zi ((f : Nat) : Int))), (4, .int (zi ((s9 : Nat) : Int)))]) hx hb hl dX7_put_9 (by decide) rfl (fun ls hl => ?_)
  refine zz_iconst hx hb dX7_put_11 ?_
  refine zz_istore (lv' := [(6, .int (zi 0)), (5, .int (zi ((n + 2 : Nat) : Int))), (0, zr ad 30 ((0 : Nat) : Int)), (1, .int (zi ((d : Nat) : Int))), (2, .int (zi ((q : Nat) : Int))), (3, .int (zi ((f : Nat) : Int))), (4, .int (zi ((s9 : Nat) : Int)))]) hx hb hl dX7_put_12 (by decide) rfl (fun ls hl => ?_)
  have hcut14 : ∀ (n9 : Nat) (i : Nat)  (σ9 : zS) (H9 : Heap) (locs9 : List Loc) (ls : Array Slot), (i ≤ n + 2 ∧ (∀ j, j < i → σ9 53 0 (8 * d + j) = (yQ (fun j => σ 53 0 (8 * d + j)) (σ 65 0 q) (σ 66 0 q) f s9) j ∧ σ9 54 0 (8 * d + j) = (yQ (fun j => σ 54 0 (8 * d + j)) (q : Int) (100 + (q : Int)) f s9) j) ∧ zfr (fun κ _ k => (κ = 53 ∨ κ = 54) ∧ 8 * d ≤ k ∧ k < 8 * d + n + 2) σ1 σ9) → (n + 2 - i) < n9 → ZW G ad A σ9 H9 → va_S A s.heap H9 locs9 → zh ls 7 [(0, zr ad 30 ((0 : Nat) : Int)), (1, .int (zi ((d : Nat) : Int))), (2, .int (zi ((q : Nat) : Int))), (3, .int (zi ((f : Nat) : Int))), (4, .int (zi ((s9 : Nat) : Int))), (5, .int (zi ((n + 2 : Nat) : Int))), (6, .int (zi ((i : Nat) : Int)))] → W p l e ({ frames := 2, cells := 0, slots := 0, locals := 50 }) s m ([zr ad 30 ((0 : Nat) : Int), .int (zi ((d : Nat) : Int)), .int (zi ((q : Nat) : Int)), .int (zi ((f : Nat) : Int)), .int (zi ((s9 : Nat) : Int))] : List Value).toArray below meth c H9 locs9 0 0 (MQ below (zQ G ad A zrv (fun _ u => ymp σ u d n f s9 q)) ([zr ad 30 ((0 : Nat) : Int), .int (zi ((d : Nat) : Int)), .int (zi ((q : Nat) : Int)), .int (zi ((f : Nat) : Int)), .int (zi ((s9 : Nat) : Int))] : List Value).toArray s 0 0 A) (F0 m 14 ls []) := by
    intro n9
    induction n9 with
    | zero =>
      intro i σ2 H2 locs2 ls hI14 hm14 hW2 hS2 hl
      exact absurd hm14 (Nat.not_lt_zero _)
    | succ n9 ih14 =>
      intro i σ2 H2 locs2 ls hI14 hm14 hW2 hS2 hl
      obtain ⟨hi1, hi2, hi3⟩ := hI14
      refine zz_iload hx hb hl 6 dX7_put_14 rfl ?_
      refine zz_iload hx hb hl 5 dX7_put_16 rfl ?_
      refine zz_icmp_ge (tgt := 65) hx hb dX7_put_18 (by decide) ⟨by omega, by omega⟩ ⟨by omega, by omega⟩ (fun hc18 => ?_) (fun hc18 => ?_)
      · have hTf9 := (hr1 f (by omega)).2.2
        have hwq := hww (σ 65 0 q).toNat (σ 66 0 q).toNat (by omega) (by omega)
        refine zz_aload_n hx hb hl 0 dX7_put_65 rfl rfl ?_
        refine zz_get (T := TX7) (N := 42) (k := 12) (κ := 30) (w := zr ad 52 ((0 : Nat) : Int)) hx hb hts hinX7 hown hK hW2 (zlN (hM 30 rfl)) rfl rfl rfl (by decide) (hts (.fieldLink RX7 36 "HailCityModel" "stops" "[I") (by decide +kernel)) (fun _ h9 => h9) rfl dX7_put_66 ?_
        refine zz_iload_n hx hb hl 1 dX7_put_69 rfl rfl ?_
        refine zz_iload hx hb hl 5 dX7_put_70 rfl ?_
        refine zz_iast (y := ((n + 2 : Nat) : Int)) hx hb hK hW2 hS2 (zlN (hM 52 rfl)) rfl rfl rfl (by show (0 : Int) ≤ ((d : Nat) : Int); omega) (by show ((d : Nat) : Int) < (8 : Int); omega) ⟨by omega, by omega⟩ dX7_put_72 (fun H3 locs3 hW3' hS3 => ?_)
        obtain ⟨σ3, hs3⟩ : ∃ z, z = zu σ2 52 0 d ((n + 2 : Nat) : Int) := ⟨_, rfl⟩
        have hW3 : ZW G ad A σ3 H3 := by rw [hs3]; exact hW3'
        refine zz_aload_n hx hb hl 0 dX7_put_73 rfl rfl ?_
        refine zz_get (T := TX7) (N := 42) (k := 24) (κ := 30) (w := zr ad 64 ((0 : Nat) : Int)) hx hb hts hinX7 hown hK hW3 (zlN (hM 30 rfl)) rfl rfl rfl (by decide) (hts (.fieldLink RX7 66 "HailCityModel" "state" "[I") (by decide +kernel)) (fun _ h9 => h9) rfl dX7_put_74 ?_
        refine zz_iload_n hx hb hl 2 dX7_put_77 rfl rfl ?_
        refine zz_iconst hx hb dX7_put_78 ?_
        refine zz_iast (y := 1) hx hb hK hW3 hS3 (zlN (hM 64 rfl)) rfl rfl rfl (by show (0 : Int) ≤ ((q : Nat) : Int); omega) (by show ((q : Nat) : Int) < (60 : Int); omega) ⟨by decide, by decide⟩ dX7_put_79 (fun H4 locs4 hW4' hS4 => ?_)
        obtain ⟨σ4, hs4⟩ : ∃ z, z = zu σ3 64 0 q 1 := ⟨_, rfl⟩
        have hW4 : ZW G ad A σ4 H4 := by rw [hs4]; exact hW4'
        refine zz_aload_n hx hb hl 0 dX7_put_80 rfl rfl ?_
        refine zz_get (T := TX7) (N := 42) (k := 30) (κ := 30) (w := zr ad 70 ((0 : Nat) : Int)) hx hb hts hinX7 hown hK hW4 (zlN (hM 30 rfl)) rfl rfl rfl (by decide) (hts (.fieldLink RX7 84 "HailCityModel" "driverOf" "[I") (by decide +kernel)) (fun _ h9 => h9) rfl dX7_put_81 ?_
        refine zz_iload_n hx hb hl 2 dX7_put_84 rfl rfl ?_
        refine zz_iload_n hx hb hl 1 dX7_put_85 rfl rfl ?_
        refine zz_iast (y := ((d : Nat) : Int)) hx hb hK hW4 hS4 (zlN (hM 70 rfl)) rfl rfl rfl (by show (0 : Int) ≤ ((q : Nat) : Int); omega) (by show ((q : Nat) : Int) < (60 : Int); omega) ⟨by omega, by omega⟩ dX7_put_86 (fun H5 locs5 hW5' hS5 => ?_)
        obtain ⟨σ5, hs5⟩ : ∃ z, z = zu σ4 70 0 q ((d : Nat) : Int) := ⟨_, rfl⟩
        have hW5 : ZW G ad A σ5 H5 := by rw [hs5]; exact hW5'
        refine zz_aload_n hx hb hl 0 dX7_put_87 rfl rfl ?_
        refine zz_get (T := TX7) (N := 42) (k := 33) (κ := 30) (w := zr ad 73 ((0 : Nat) : Int)) hx hb hts hinX7 hown hK hW5 (zlN (hM 30 rfl)) rfl rfl rfl (by decide) (hts (.fieldLink RX7 93 "HailCityModel" "sentAt" "[I") (by decide +kernel)) (fun _ h9 => h9) rfl dX7_put_88 ?_
        refine zz_iload_n hx hb hl 2 dX7_put_91 rfl rfl ?_
        refine zz_aload_n hx hb hl 0 dX7_put_92 rfl rfl ?_
        refine zz_get (T := TX7) (N := 42) (k := 1) (κ := 30) (w := .int (zi (σ 30 0 1))) hx hb hts hinX7 hown hK hW5 (zlN (hM 30 rfl)) rfl rfl rfl (by decide) (hts (.fieldLink RX7 161 "HailCityModel" "now" "I") (by decide +kernel)) (fun _ h9 => h9) (congrArg (fun z => Value.int (zi z)) (show σ5 30 0 1 = σ 30 0 1 from by rw [hs5, zu_k (by decide), hs4, zu_k (by decide), hs3, zu_k (by decide), hi3 30 0 1 (by omega), hr2 30 0 1 (by omega)])) dX7_put_93 ?_
        refine zz_iast (y := (σ 30 0 1)) hx hb hK hW5 hS5 (zlN (hM 73 rfl)) rfl rfl rfl (by show (0 : Int) ≤ ((q : Nat) : Int); omega) (by show ((q : Nat) : Int) < (60 : Int); omega) (hW0.2.2.1 _ _ _) dX7_put_96 (fun H6 locs6 hW6' hS6 => ?_)
        obtain ⟨σ6, hs6⟩ : ∃ z, z = zu σ5 73 0 q (σ 30 0 1) := ⟨_, rfl⟩
        have hW6 : ZW G ad A σ6 H6 := by rw [hs6]; exact hW6'
        refine zz_aload_n hx hb hl 0 dX7_put_97 rfl rfl ?_
        refine zz_get (T := TX7) (N := 42) (k := 31) (κ := 30) (w := zr ad 71 ((0 : Nat) : Int)) hx hb hts hinX7 hown hK hW6 (zlN (hM 30 rfl)) rfl rfl rfl (by decide) (hts (.fieldLink RX7 87 "HailCityModel" "promise" "[I") (by decide +kernel)) (fun _ h9 => h9) rfl dX7_put_98 ?_
        refine zz_iload_n hx hb hl 2 dX7_put_101 rfl rfl ?_
        refine zz_aload_n hx hb hl 0 dX7_put_102 rfl rfl ?_
        refine zz_get (T := TX7) (N := 42) (k := 41) (κ := 30) (w := zr ad 81 ((0 : Nat) : Int)) hx hb hts hinX7 hown hK hW6 (zlN (hM 30 rfl)) rfl rfl rfl (by decide) (hts (.fieldLink RX7 114 "HailCityModel" "tryTime" "[I") (by decide +kernel)) (fun _ h9 => h9) rfl dX7_put_103 ?_
        refine zz_iload_n hx hb hl 3 dX7_put_106 rfl rfl ?_
        refine zz_iald (w := σ1 81 0 f) hx hb hK hW6 (zlN (hM 81 rfl)) rfl rfl rfl (by show (0 : Int) ≤ ((f : Nat) : Int); omega) (by show ((f : Nat) : Int) < (10 : Int); omega) (show σ6 81 0 f = σ1 81 0 f from by rw [hs6, zu_k (by decide), hs5, zu_k (by decide), hs4, zu_k (by decide), hs3, zu_k (by decide), hi3 81 0 f (by omega)]) dX7_put_107 ?_
        refine zz_aload_n hx hb hl 0 dX7_put_108 rfl rfl ?_
        refine zz_aload_n hx hb hl 0 dX7_put_109 rfl rfl ?_
        refine zz_get (T := TX7) (N := 42) (k := 25) (κ := 30) (w := zr ad 65 ((0 : Nat) : Int)) hx hb hts hinX7 hown hK hW6 (zlN (hM 30 rfl)) rfl rfl rfl (by decide) (hts (.fieldLink RX7 69 "HailCityModel" "from" "[I") (by decide +kernel)) (fun _ h9 => h9) rfl dX7_put_110 ?_
        refine zz_iload_n hx hb hl 2 dX7_put_113 rfl rfl ?_
        refine zz_iald (w := (((σ 65 0 q).toNat : Nat) : Int)) hx hb hK hW6 (zlN (hM 65 rfl)) rfl rfl rfl (by show (0 : Int) ≤ ((q : Nat) : Int); omega) (by show ((q : Nat) : Int) < (60 : Int); omega) (show σ6 65 0 q = (((σ 65 0 q).toNat : Nat) : Int) from by rw [hs6, zu_k (by decide), hs5, zu_k (by decide), hs4, zu_k (by decide), hs3, zu_k (by decide), hi3 65 0 q (by omega), hr2 65 0 q (by omega)]; omega) dX7_put_114 ?_
        refine zz_aload_n hx hb hl 0 dX7_put_115 rfl rfl ?_
        refine zz_get (T := TX7) (N := 42) (k := 26) (κ := 30) (w := zr ad 66 ((0 : Nat) : Int)) hx hb hts hinX7 hown hK hW6 (zlN (hM 30 rfl)) rfl rfl rfl (by decide) (hts (.fieldLink RX7 72 "HailCityModel" "to" "[I") (by decide +kernel)) (fun _ h9 => h9) rfl dX7_put_116 ?_
        refine zz_iload_n hx hb hl 2 dX7_put_119 rfl rfl ?_
        refine zz_iald (w := (((σ 66 0 q).toNat : Nat) : Int)) hx hb hK hW6 (zlN (hM 66 rfl)) rfl rfl rfl (by show (0 : Int) ≤ ((q : Nat) : Int); omega) (by show ((q : Nat) : Int) < (60 : Int); omega) (show σ6 66 0 q = (((σ 66 0 q).toNat : Nat) : Int) from by rw [hs6, zu_k (by decide), hs5, zu_k (by decide), hs4, zu_k (by decide), hs3, zu_k (by decide), hi3 66 0 q (by omega), hr2 66 0 q (by omega)]; omega) dX7_put_120 ?_
        refine zz_callV (T := TX7) (N := 42) (As := [.int (zi (((σ 65 0 q).toNat : Nat) : Int)), .int (zi (((σ 66 0 q).toNat : Nat) : Int))]) (rest := [.int (zi (σ1 81 0 f)), .int (zi ((q : Nat) : Int)), zr ad 71 ((0 : Nat) : Int)]) (v := ((0 : Nat) : Int)) (κ := 30) ⟨hx, hb, hml, hown, hts⟩ (c_X7_wayOf l G ad A N0 σ6 hM (σ 65 0 q).toNat (σ 66 0 q).toNat (by omega) (by omega)) (cwV 2 hts gX7_put_X7_wayOf rfl rfl rfl (by decide +kernel) ⟨Nat.le_of_ble_eq_true rfl, Nat.le_of_ble_eq_true rfl⟩) hK hW6 (zlN (hM 30 rfl)) rfl rfl (Nat.le_trans hsz hS6.1) hS6 rfl hl.1.1 rfl (by simp [zr_cat, zcat_i]) dX7_put_121 ⟨Nat.le_of_ble_eq_true rfl, Nat.le_of_ble_eq_true rfl⟩ (fun x7 σ7 H7 locs7 hp7 hW7 hz7 hS7 => ?_)
        obtain ⟨rfl, hx9⟩ := hp7
        rw [hs6, zu_ne (by omega), hs5, zu_ne (by omega), hs4, zu_ne (by omega), hs3, zu_ne (by omega), hi3 47 _ _ (by omega), hr2 47 _ _ (by omega)] at hx9
        obtain rfl := hx9
        refine W.eq (g2 := F0 m 124 ls [.int (zi (σ 47 0 (10 * (σ 65 0 q).toNat + (σ 66 0 q).toNat))), .int (zi (σ1 81 0 f)), .int (zi ((q : Nat) : Int)), zr ad 71 ((0 : Nat) : Int)]) rfl ?_
        refine zz_iconst hx hb dX7_put_124 ?_
        refine zz_imul hx hb dX7_put_125 ?_
        refine zz_iconst hx hb dX7_put_126 ?_
        refine zz_idiv hx hb dX7_put_127 ⟨by omega, by omega⟩ ⟨by decide, by decide⟩ (by omega) (by omega) ?_
        refine zz_iadd hx hb dX7_put_128 ?_
        refine zz_iast (y := ((σ1 81 0 f) + (((σ 47 0 (10 * (σ 65 0 q).toNat + (σ 66 0 q).toNat)) * 3) / 2))) hx hb hK hW7 hS7 (zlN (hM 71 rfl)) rfl rfl rfl (by show (0 : Int) ≤ ((q : Nat) : Int); omega) (by show ((q : Nat) : Int) < (60 : Int); omega) ⟨by omega, by omega⟩ dX7_put_129 (fun H8 locs8 hW8' hS8 => ?_)
        obtain ⟨σ8, hs8⟩ : ∃ z, z = zu σ6 71 0 q ((σ1 81 0 f) + (((σ 47 0 (10 * (σ 65 0 q).toNat + (σ 66 0 q).toNat)) * 3) / 2)) := ⟨_, rfl⟩
        have hW8 : ZW G ad A σ8 H8 := by rw [hs8]; exact hW8'
        refine W.eq (g2 := F0 m 130 ls []) rfl ?_
        refine zz_retv hx hb hr hlocks hW8 hS8 ?_ dX7_put_130
        refine ⟨?_, fun j hj => ⟨?_, ?_⟩, ⟨?_, ?_, ?_, ?_⟩, fun κ' i' k' hz => ?_⟩
        · rw [hs8, hs6, hs5, hs4, hs3, zu_ne (by omega), zu_ne (by omega), zu_ne (by omega), zu_ne (by omega), zu_same]; omega
        · rw [hs8, zu_ne (by omega), hs6, zu_ne (by omega), hs5, zu_ne (by omega), hs4, zu_ne (by omega), hs3, zu_ne (by omega)]; exact (hi2 j (by omega)).1
        · rw [hs8, zu_ne (by omega), hs6, zu_ne (by omega), hs5, zu_ne (by omega), hs4, zu_ne (by omega), hs3, zu_ne (by omega)]; exact (hi2 j (by omega)).2
        · rw [hs8, hs6, hs5, hs4, hs3, zu_ne (by omega), zu_ne (by omega), zu_ne (by omega), zu_same]
        · rw [hs8, hs6, hs5, hs4, hs3, zu_ne (by omega), zu_ne (by omega), zu_same]
        · rw [hs8, hs6, hs5, hs4, hs3, zu_ne (by omega), zu_same]
        · rw [hs8, hs6, hs5, hs4, hs3, zu_same, (hr1 f (by omega)).2.2]
        · rw [hs8, zu_ne (by omega), hs6, zu_ne (by omega), hs5, zu_ne (by omega), hs4, zu_ne (by omega), hs3, zu_ne (by omega), hi3 _ _ _ (by omega), hr2 _ _ _ (by omega)]
      · refine zz_aload_n hx hb hl 0 dX7_put_21 rfl rfl ?_
        refine zz_get (T := TX7) (N := 42) (k := 13) (κ := 30) (w := zr ad 53 ((0 : Nat) : Int)) hx hb hts hinX7 hown hK hW2 (zlN (hM 30 rfl)) rfl rfl rfl (by decide) (hts (.fieldLink RX7 39 "HailCityModel" "stopAt" "[I") (by decide +kernel)) (fun _ h9 => h9) rfl dX7_put_22 ?_
        refine zz_bipush hx hb dX7_put_25 (by decide +kernel) ?_
        refine zz_iload_n hx hb hl 1 dX7_put_27 rfl rfl ?_
        refine zz_imul hx hb dX7_put_28 ?_
        refine zz_iload hx hb hl 6 dX7_put_29 rfl ?_
        refine zz_iadd hx hb dX7_put_31 ?_
        refine zz_aload_n hx hb hl 0 dX7_put_32 rfl rfl ?_
        refine zz_get (T := TX7) (N := 42) (k := 39) (κ := 30) (w := zr ad 79 ((0 : Nat) : Int)) hx hb hts hinX7 hown hK hW2 (zlN (hM 30 rfl)) rfl rfl rfl (by decide) (hts (.fieldLink RX7 108 "HailCityModel" "tryAt" "[I") (by decide +kernel)) (fun _ h9 => h9) rfl dX7_put_33 ?_
        refine zz_iload hx hb hl 6 dX7_put_36 rfl ?_
        refine zz_iald (w := σ1 79 0 i) hx hb hK hW2 (zlN (hM 79 rfl)) rfl rfl rfl (by show (0 : Int) ≤ ((i : Nat) : Int); omega) (by show ((i : Nat) : Int) < (10 : Int); omega) (show σ2 79 0 i = σ1 79 0 i from by rw [hi3 79 0 i (by omega)]) dX7_put_38 ?_
        refine zz_iast (y := (σ1 79 0 i)) hx hb hK hW2 hS2 (zlN (hM 53 rfl)) rfl rfl rfl (by show (0 : Int) ≤ (((8 * d) + i : Nat) : Int); omega) (by show (((8 * d) + i : Nat) : Int) < (64 : Int); omega) (hW1.2.2.1 _ _ _) dX7_put_39 (fun H9 locs9 hW9' hS9 => ?_)
        obtain ⟨σ9, hs9⟩ : ∃ z, z = zu σ2 53 0 ((8 * d) + i) (σ1 79 0 i) := ⟨_, rfl⟩
        have hW9 : ZW G ad A σ9 H9 := by rw [hs9]; exact hW9'
        refine zz_aload_n hx hb hl 0 dX7_put_40 rfl rfl ?_
        refine zz_get (T := TX7) (N := 42) (k := 14) (κ := 30) (w := zr ad 54 ((0 : Nat) : Int)) hx hb hts hinX7 hown hK hW9 (zlN (hM 30 rfl)) rfl rfl rfl (by decide) (hts (.fieldLink RX7 42 "HailCityModel" "stopWhom" "[I") (by decide +kernel)) (fun _ h9 => h9) rfl dX7_put_41 ?_
        refine zz_bipush hx hb dX7_put_44 (by decide +kernel) ?_
        refine zz_iload_n hx hb hl 1 dX7_put_46 rfl rfl ?_
        refine zz_imul hx hb dX7_put_47 ?_
        refine zz_iload hx hb hl 6 dX7_put_48 rfl ?_
        refine zz_iadd hx hb dX7_put_50 ?_
        refine zz_aload_n hx hb hl 0 dX7_put_51 rfl rfl ?_
        refine zz_get (T := TX7) (N := 42) (k := 40) (κ := 30) (w := zr ad 80 ((0 : Nat) : Int)) hx hb hts hinX7 hown hK hW9 (zlN (hM 30 rfl)) rfl rfl rfl (by decide) (hts (.fieldLink RX7 111 "HailCityModel" "tryWhom" "[I") (by decide +kernel)) (fun _ h9 => h9) rfl dX7_put_52 ?_
        refine zz_iload hx hb hl 6 dX7_put_55 rfl ?_
        refine zz_iald (w := σ1 80 0 i) hx hb hK hW9 (zlN (hM 80 rfl)) rfl rfl rfl (by show (0 : Int) ≤ ((i : Nat) : Int); omega) (by show ((i : Nat) : Int) < (10 : Int); omega) (show σ9 80 0 i = σ1 80 0 i from by rw [hs9, zu_k (by decide), hi3 80 0 i (by omega)]) dX7_put_57 ?_
        refine zz_iast (y := (σ1 80 0 i)) hx hb hK hW9 hS9 (zlN (hM 54 rfl)) rfl rfl rfl (by show (0 : Int) ≤ (((8 * d) + i : Nat) : Int); omega) (by show (((8 * d) + i : Nat) : Int) < (64 : Int); omega) (hW1.2.2.1 _ _ _) dX7_put_58 (fun H10 locs10 hW10' hS10 => ?_)
        obtain ⟨σ10, hs10⟩ : ∃ z, z = zu σ9 54 0 ((8 * d) + i) (σ1 80 0 i) := ⟨_, rfl⟩
        have hW10 : ZW G ad A σ10 H10 := by rw [hs10]; exact hW10'
        refine zz_iinc (lv' := [(6, .int (zi ((i + 1 : Nat) : Int))), (0, zr ad 30 ((0 : Nat) : Int)), (1, .int (zi ((d : Nat) : Int))), (2, .int (zi ((q : Nat) : Int))), (3, .int (zi ((f : Nat) : Int))), (4, .int (zi ((s9 : Nat) : Int))), (5, .int (zi ((n + 2 : Nat) : Int)))]) hx hb hl dX7_put_59 (k0 := 6) rfl (by decide) rfl (fun ls hl => ?_)
        refine zz_goto (tgt := 14) hx hb dX7_put_62 (by decide) ?_
        refine ih14 (i + 1) σ10 H10 locs10 ls ?_ (by omega) hW10 hS10 (zh_sub hl [1, 2, 3, 4, 5, 6, 0] rfl)
        refine ⟨by omega, fun j hj => ?_, fun κ' i' k' hz => ?_⟩
        · by_cases hji : j = i
          · subst hji
            refine ⟨?_, ?_⟩
            · rw [hs10, zu_k (by decide), hs9, zu_same]; exact (hr1 j (by omega)).1
            · rw [hs10, zu_same]; exact (hr1 j (by omega)).2.1
          · refine ⟨?_, ?_⟩
            · rw [hs10, zu_ne (by omega), hs9, zu_ne (by omega)]; exact (hi2 j (by omega)).1
            · rw [hs10, zu_ne (by omega), hs9, zu_ne (by omega)]; exact (hi2 j (by omega)).2
        · rw [hs10, zu_ne (by omega), hs9, zu_ne (by omega)]
          exact hi3 _ _ _ hz
  refine hcut14 _ 0 σ1 H1 locs1 ls ?_ (Nat.lt_succ_self _) hW1 hS1 (zh_sub hl [2, 3, 4, 5, 6, 1, 0] rfl)
  exact ⟨Nat.zero_le _, fun j hj => absurd hj (Nat.not_lt_zero _), fun _ _ _ _ => rfl⟩
