/-- minutes of the driver j to the request q for the matching, or -1 -/
noncomputable def yfm (σ : zS) (q j : Nat) : Int := @ite Int (yfr σ j ∧ σ 6 (σ 17 j 6).toNat (σ 23 q 1).toNat < 1000000 ∧ σ 6 (σ 17 j 6).toNat (σ 23 q 1).toNat ≤ σ 23 q 4 - σ 0 0 8) (Classical.propDecidable _) (σ 6 (σ 17 j 6).toNat (σ 23 q 1).toNat) (-1)
/-- the matching's own cells -/
def ysc (κ i k : Nat) : Prop := (κ = 7 ∧ (k = 4 ∨ k = 5)) ∨ κ = 8 ∨ κ = 10 ∨ κ = 12 ∨ κ = 13
theorem yfm_fr {σ u : zS} (h : zfr ysc σ u) (q j : Nat) : yfm u q j = yfm σ q j := by
  have h6 : u 6 = σ 6 := funext fun a => funext fun b => h 6 a b (by unfold ysc; omega)
  have h17 : u 17 = σ 17 := funext fun a => funext fun b => h 17 a b (by unfold ysc; omega)
  have h18 : u 18 = σ 18 := funext fun a => funext fun b => h 18 a b (by unfold ysc; omega)
  have h23 : u 23 = σ 23 := funext fun a => funext fun b => h 23 a b (by unfold ysc; omega)
  unfold yfm yfr
  rw [h 0 0 8 (by unfold ysc; omega), h6, h17, h18, h23]
def yw (σ : zS) (k : Nat) : Prop := σ 23 k 6 = 0 ∧ σ 23 k 1 ≠ 0
/-- how many requests below n WAIT for the matching -/
noncomputable def ywn (σ : zS) : Nat → Nat
  | 0 => 0
  | n + 1 => @ite Nat (yw σ n) (Classical.propDecidable _) (ywn σ n + 1) (ywn σ n)
theorem ywn_le (σ : zS) : ∀ {a b : Nat}, a ≤ b → ywn σ a ≤ ywn σ b := by
  intro a b h
  induction b with
  | zero => rw [Nat.le_zero.mp h]; exact Nat.le_refl _
  | succ b ih =>
    rcases Nat.lt_or_ge a (b + 1) with h1 | h1
    · refine Nat.le_trans (ih (by omega)) ?_
      show _ ≤ @ite Nat _ (Classical.propDecidable _) _ _
      split <;> omega
    · rw [show a = b + 1 by omega]; exact Nat.le_refl _
theorem ywn_y {σ : zS} {k : Nat} (h : yw σ k) : ywn σ (k + 1) = ywn σ k + 1 := by
  show @ite Nat _ (Classical.propDecidable _) _ _ = _
  rw [if_pos h]
theorem ywn_n {σ : zS} {k : Nat} (h : ¬ yw σ k) : ywn σ (k + 1) = ywn σ k := by
  show @ite Nat _ (Classical.propDecidable _) _ _ = _
  rw [if_neg h]
theorem ywn_lt {σ : zS} {k n : Nat} (h : yw σ k) (hk : k < n) : ywn σ k < ywn σ n := by
  have h1 := ywn_le σ (show k + 1 ≤ n by omega)
  rw [ywn_y h] at h1
  omega

set_option maxHeartbeats 4000000 in
set_option maxRecDepth 100000 in
theorem c_X6_fillMinutes (l : Launch) (G : zG) (ad : zA) (A : Nat → Prop) (N0 : Nat) (σ : zS) (nd nr : Nat) (hX : zX ad nd nr) (hnd : nd ≤ 8) (hnr : nr ≤ 60) (h5 : σ 0 0 5 = (nd : Int)) (h6 : σ 0 0 6 = (nr : Int)) (hD : ∀ i, i < nd → σ 15 0 i = (i : Int)) (hQ : ∀ i, i < nr → σ 16 0 i = (i : Int)) (q : Nat) (hq : q < nr) (n : Nat) (hcn : σ 7 0 5 = (n : Int) + 1) (hn5 : n < 5) (hfr : 0 ≤ σ 23 q 1 ∧ σ 23 q 1 < 10) (hpa : 0 ≤ σ 23 q 4 ∧ σ 23 q 4 ≤ 100000) (hpl : ∀ i, i < nd → 0 ≤ σ 17 i 6 ∧ σ 17 i 6 < 10) (hww : ∀ a b, a < 10 → b < 10 → 0 ≤ σ 6 a b) (hnow : 0 ≤ σ 0 0 8 ∧ σ 0 0 8 ≤ 20000) : Met l yX6_fillMinutes wsX6_fillMinutes ({ frames := 2, cells := 0, slots := 0, locals := 42 }) (zP G ad A N0 σ [zr ad 0 ((0 : Nat) : Int), zr ad 23 ((q : Nat) : Int)]) (zQ G ad A zrv (fun _ u => (∀ j, u 10 n j = if j < nd then yfm σ q j else σ 10 n j) ∧ zfr (fun κ i _ => κ = 10 ∧ i = n) σ u)) 0 0 A := by
  refine zz_of (cc := cX6_fillMinutes) (maxL := 6) (ret := none) (by decide) rfl ⟨rfl, rfl⟩ (List.forall_mem_cons.mpr ⟨zr_cat _ _ _, List.forall_mem_cons.mpr ⟨zr_cat _ _ _, fun _ h => absurd h List.not_mem_nil⟩⟩) (Nat.le_of_ble_eq_true rfl) ?_
  intro p e s m below meth c hx hb hr hml hts hown hlocks hsz hW0 hK ls hl
  have hS0 : va_S A s.heap s.heap [] := va_S.rf
  have hl : zh ls 6 [(0, zr ad 0 ((0 : Nat) : Int)), (1, zr ad 23 ((q : Nat) : Int))] := hl
  have hinX1 : ∀ w ∈ u_ws RX1 TX1 13, w ∈ wsX6_fillMinutes := by decide +kernel
  have hinX3 : ∀ w ∈ u_ws RX3 TX3 12, w ∈ wsX6_fillMinutes := by decide +kernel
  have hinX6 : ∀ w ∈ u_ws RX6 TX6 10, w ∈ wsX6_fillMinutes := by decide +kernel
  refine zz_aload_n hx hb hl 1 dX6_fillMinutes_0 rfl rfl ?_
  refine zz_getN (T := TX3) (N := 12) (k := 4) (κ := 23) (w := .int (zi (σ 23 q 4))) hx hb hts hinX3 hown hK hW0 (zlN (hX 23 q (decide_eq_true hq))) rfl rfl rfl (by decide) (host := "HailCity") (List.mem_of_getElem? (i := 33) rfl) (fun _ h9 => h9) rfl dX6_fillMinutes_1 ?_
  refine zz_aload_n hx hb hl 0 dX6_fillMinutes_4 rfl rfl ?_
  refine zz_get (T := TX6) (N := 10) (k := 8) (κ := 0) (w := .int (zi (σ 0 0 8))) hx hb hts hinX6 hown hK hW0 (zlN (hX 0 0 rfl)) rfl rfl rfl (by decide) (hts (.fieldLink RX6 134 "HailCity" "now" "I") (by decide +kernel)) (fun _ h9 => h9) rfl dX6_fillMinutes_5 ?_
  refine zz_isub hx hb dX6_fillMinutes_8 ?_
  refine zz_istore_n (lv' := [(2, .int (zi ((σ 23 q 4) - (σ 0 0 8)))), (0, zr ad 0 ((0 : Nat) : Int)), (1, zr ad 23 ((q : Nat) : Int))]) hx hb hl dX6_fillMinutes_9 rfl (by decide) rfl (fun ls hl => ?_)
  refine zz_iconst hx hb dX6_fillMinutes_10 ?_
  refine zz_istore_n (lv' := [(3, .int (zi 0)), (2, .int (zi ((σ 23 q 4) - (σ 0 0 8)))), (0, zr ad 0 ((0 : Nat) : Int)), (1, zr ad 23 ((q : Nat) : Int))]) hx hb hl dX6_fillMinutes_11 rfl (by decide) rfl (fun ls hl => ?_)
  have hcut12 : ∀ (n9 : Nat) (i : Nat)  (σ9 : zS) (H9 : Heap) (locs9 : List Loc) (ls : Array Slot), (i ≤ nd ∧ (∀ j, σ9 10 n j = if j < i then yfm σ q j else σ 10 n j) ∧ zfr (fun κ i _ => κ = 10 ∧ i = n) σ σ9) → (nd - i) < n9 → ZW G ad A σ9 H9 → va_S A s.heap H9 locs9 → zh ls 6 [(0, zr ad 0 ((0 : Nat) : Int)), (1, zr ad 23 ((q : Nat) : Int)), (2, .int (zi (σ 23 q 4 - σ 0 0 8))), (3, .int (zi ((i : Nat) : Int)))] → W p l e ({ frames := 2, cells := 0, slots := 0, locals := 42 }) s m ([zr ad 0 ((0 : Nat) : Int), zr ad 23 ((q : Nat) : Int)] : List Value).toArray below meth c H9 locs9 0 0 (MQ below (zQ G ad A zrv (fun _ u => (∀ j, u 10 n j = if j < nd then yfm σ q j else σ 10 n j) ∧ zfr (fun κ i _ => κ = 10 ∧ i = n) σ u)) ([zr ad 0 ((0 : Nat) : Int), zr ad 23 ((q : Nat) : Int)] : List Value).toArray s 0 0 A) (F0 m 12 ls []) := by
    intro n9
    induction n9 with
    | zero =>
      intro i σ1 H1 locs1 ls hI12 hm12 hW1 hS1 hl
      exact absurd hm12 (Nat.not_lt_zero _)
    | succ n9 ih12 =>
      intro i σ1 H1 locs1 ls hI12 hm12 hW1 hS1 hl
      obtain ⟨hi1, hi2, hi3⟩ := hI12
      refine zz_iload_n hx hb hl 3 dX6_fillMinutes_12 rfl rfl ?_
      refine zz_aload_n hx hb hl 0 dX6_fillMinutes_13 rfl rfl ?_
      refine zz_get (T := TX6) (N := 10) (k := 5) (κ := 0) (w := .int (zi ((nd : Nat) : Int))) hx hb hts hinX6 hown hK hW1 (zlN (hX 0 0 rfl)) rfl rfl rfl (by decide) (hts (.fieldLink RX6 87 "HailCity" "driverCount" "I") (by decide +kernel)) (fun _ h9 => h9) (congrArg (fun z => Value.int (zi z)) (show σ1 0 0 5 = ((nd : Nat) : Int) from by rw [hi3 0 0 5 (by omega), h5])) dX6_fillMinutes_14 ?_
      refine zz_icmp_ge (tgt := 98) hx hb dX6_fillMinutes_17 (by decide) ⟨by omega, by omega⟩ ⟨by omega, by omega⟩ (fun hc17 => ?_) (fun hc17 => ?_)
      · refine W.eq (g2 := F0 m 98 ls []) rfl ?_
        refine zz_retv hx hb hr hlocks hW1 hS1 ?_ dX6_fillMinutes_98
        refine ⟨fun j => ?_, hi3⟩
        rw [hi2 j, show i = nd by omega]
      · have hpi := hpl i (by omega)
        refine zz_aload_n hx hb hl 0 dX6_fillMinutes_20 rfl rfl ?_
        refine zz_get (T := TX6) (N := 10) (k := 0) (κ := 0) (w := zr ad 1 ((0 : Nat) : Int)) hx hb hts hinX6 hown hK hW1 (zlN (hX 0 0 rfl)) rfl rfl rfl (by decide) (hts (.fieldLink RX6 10 "HailCity" "map" "LHailCity$CityMap;") (by decide +kernel)) (fun _ h9 => h9) rfl dX6_fillMinutes_21 ?_
        refine zz_aload_n hx hb hl 0 dX6_fillMinutes_24 rfl rfl ?_
        refine zz_get (T := TX6) (N := 10) (k := 1) (κ := 0) (w := zr ad 15 ((0 : Nat) : Int)) hx hb hts hinX6 hown hK hW1 (zlN (hX 0 0 rfl)) rfl rfl rfl (by decide) (hts (.fieldLink RX6 18 "HailCity" "drivers" "[LHailCity$Driver;") (by decide +kernel)) (fun _ h9 => h9) rfl dX6_fillMinutes_25 ?_
        refine zz_iload_n hx hb hl 3 dX6_fillMinutes_28 rfl rfl ?_
        refine zz_aald (w := zr ad 17 ((i : Nat) : Int)) hx hb hK hW1 (zlN (hX 15 0 rfl)) rfl rfl (by show (0 : Int) ≤ ((i : Nat) : Int); omega) (by show ((i : Nat) : Int) < (8 : Int); omega) ((zv_r (Nat.le_of_ble_eq_true rfl) (Nat.le_of_ble_eq_true rfl)).trans (congrArg (zr ad 17) (show σ1 15 0 i = ((i : Nat) : Int) from by rw [hi3 15 0 i (by omega), hD i (by omega)]))) dX6_fillMinutes_29 ?_
        refine zz_getN (T := TX1) (N := 13) (k := 6) (κ := 17) (w := .int (zi (σ 17 i 6))) hx hb hts hinX1 hown hK hW1 (zlN (hX 17 i (decide_eq_true (by omega)))) rfl rfl rfl (by decide) (host := "HailCity") (List.mem_of_getElem? (i := 15) rfl) (fun _ h9 => h9) (congrArg (fun z => Value.int (zi z)) (show σ1 17 i 6 = σ 17 i 6 from by rw [hi3 17 i 6 (by omega)])) dX6_fillMinutes_30 ?_
        refine zz_aload_n hx hb hl 1 dX6_fillMinutes_33 rfl rfl ?_
        refine zz_getN (T := TX3) (N := 12) (k := 1) (κ := 23) (w := .int (zi (σ 23 q 1))) hx hb hts hinX3 hown hK hW1 (zlN (hX 23 q (decide_eq_true hq))) rfl rfl rfl (by decide) (host := "HailCity") (List.mem_of_getElem? (i := 26) rfl) (fun _ h9 => h9) (congrArg (fun z => Value.int (zi z)) (show σ1 23 q 1 = σ 23 q 1 from by rw [hi3 23 q 1 (by omega)])) dX6_fillMinutes_34 ?_
        refine zz_callV (T := TX0) (N := 5) (As := [.int (zi (σ 17 i 6)), .int (zi (σ 23 q 1))]) (rest := []) (v := ((0 : Nat) : Int)) (κ := 1) ⟨hx, hb, hml, hown, hts⟩ (c_X0_minutesBetween l G ad A N0 σ1 nd nr hX (σ 17 i 6) (σ 23 q 1) (hW0.2.2.1 _ _ _) (hW0.2.2.1 _ _ _)) (cwV 2 hts gX6_fillMinutes_X0_minutesBetween rfl rfl rfl (by decide +kernel) ⟨Nat.le_of_ble_eq_true rfl, Nat.le_of_ble_eq_true rfl⟩) hK hW1 (zlN (hX 1 0 rfl)) rfl rfl (Nat.le_trans hsz hS1.1) hS1 rfl hl.1.1 rfl (Nat.le_of_ble_eq_true rfl) dX6_fillMinutes_37 ⟨Nat.le_of_ble_eq_true rfl, Nat.le_of_ble_eq_true rfl⟩ (fun x2 σ2 H2 locs2 hp2 hW2 hz2 hS2 => ?_)
        obtain ⟨rfl, hx9⟩ := hp2
        rw [hi3 6 _ _ (by omega)] at hx9
        have hw0 := hww (σ 17 i 6).toNat (σ 23 q 1).toNat (by omega) (by omega)
        have hxx : (σ 6 (σ 17 i 6).toNat (σ 23 q 1).toNat < 1000000 → x2 = σ 6 (σ 17 i 6).toNat (σ 23 q 1).toNat) ∧ (¬ (σ 6 (σ 17 i 6).toNat (σ 23 q 1).toNat < 1000000) → x2 = -1) := by
          refine ⟨fun h => ?_, fun h => ?_⟩
          · rw [← hx9, if_pos ⟨hpl i (by omega), hfr, h⟩]
          · rw [← hx9, if_neg (fun q => h q.2.2)]
        have hgx : zg x2 := by
          by_cases h : σ 6 (σ 17 i 6).toNat (σ 23 q 1).toNat < 1000000
          · rw [hxx.1 h]; exact hW0.2.2.1 _ _ _
          · rw [hxx.2 h]; exact ⟨by decide, by decide⟩
        refine W.eq (g2 := F0 m 40 ls [.int (zi x2)]) rfl ?_
        refine zz_istore (lv' := [(4, .int (zi x2)), (0, zr ad 0 ((0 : Nat) : Int)), (1, zr ad 23 ((q : Nat) : Int)), (2, .int (zi (σ 23 q 4 - σ 0 0 8))), (3, .int (zi ((i : Nat) : Int)))]) hx hb hl dX6_fillMinutes_40 (by decide) rfl (fun ls hl => ?_)
        refine zz_aload_n hx hb hl 1 dX6_fillMinutes_42 rfl rfl ?_
        refine zz_get (T := TX6) (N := 10) (k := 1) (κ := 0) (w := zr ad 15 ((0 : Nat) : Int)) hx hb hts hinX6 hown hK hW2 (zlN (hX 0 0 rfl)) rfl rfl rfl (by decide) (hts (.fieldLink RX6 18 "HailCity" "drivers" "[LHailCity$Driver;") (by decide +kernel)) (fun _ h9 => h9) rfl dX6_fillMinutes_43 ?_
        refine zz_iload_n hx hb hl 4 dX6_fillMinutes_46 rfl rfl ?_
        refine zz_aald (w := zr ad 17 ((i : Nat) : Int)) hx hb hK hW2 (zlN (hX 15 0 rfl)) rfl rfl (by show (0 : Int) ≤ ((i : Nat) : Int); omega) (by show ((i : Nat) : Int) < (8 : Int); omega) ((zv_r (Nat.le_of_ble_eq_true rfl) (Nat.le_of_ble_eq_true rfl)).trans (congrArg (zr ad 17) (show σ1 15 0 i = ((i : Nat) : Int) from by rw [hi3 15 0 i (by omega), hD i (by omega)]))) dX6_fillMinutes_47 ?_
        refine zz_callV (T := TX1) (N := 13) (As := []) (rest := []) (v := ((i : Nat) : Int)) (κ := 17) ⟨hx, hb, hml, hown, hts⟩ (c_X1_isFree l G ad A N0 σ1 nd nr hX i (by omega)) (cwV 0 hts gX6_fillMinutes_X1_isFree rfl rfl rfl (by decide +kernel) ⟨Nat.le_of_ble_eq_true rfl, Nat.le_of_ble_eq_true rfl⟩) hK hW2 (zlN (hX 17 i (decide_eq_true (by omega)))) rfl rfl (Nat.le_trans hsz hS2.1) hS2 rfl hl.1.1 rfl (Nat.le_of_ble_eq_true rfl) dX6_fillMinutes_48 ⟨Nat.le_of_ble_eq_true rfl, Nat.le_of_ble_eq_true rfl⟩ (fun x3 σ3 H3 locs3 hp3 hW3 hz3 hS3 => ?_)
        obtain ⟨rfl, hx9⟩ := hp3
        rw [hi3 18 i 3 (by omega), hi3 17 i 7 (by omega), hi3 17 i 5 (by omega)] at hx9
        obtain rfl := hx9
        refine W.eq (g2 := F0 m 51 ls [.int (zi (zb (σ 18 i 3 = 0 ∧ σ 17 i 7 = 0 ∧ σ 17 i 5 = 0)))]) rfl ?_
        refine zz_if_eqb (tgt := 70) hx hb dX6_fillMinutes_51 (by decide) (fun hc51 => ?_) (fun hc51 => ?_)
        · refine zz_iconst hx hb dX6_fillMinutes_70 ?_
          refine zz_istore (lv' := [(5, .int (zi 0)), (4, .int (zi x2)), (0, zr ad 0 ((0 : Nat) : Int)), (1, zr ad 23 ((q : Nat) : Int)), (2, .int (zi (σ 23 q 4 - σ 0 0 8))), (3, .int (zi ((i : Nat) : Int)))]) hx hb hl dX6_fillMinutes_71 (by decide) rfl (fun ls hl => ?_)
          refine zz_aload_n hx hb hl 2 dX6_fillMinutes_73 rfl rfl ?_
          refine zz_get (T := TX6) (N := 10) (k := 3) (κ := 0) (w := zr ad 7 ((0 : Nat) : Int)) hx hb hts hinX6 hown hK hW3 (zlN (hX 0 0 rfl)) rfl rfl rfl (by decide) (hts (.fieldLink RX6 31 "HailCity" "matching" "LHailCity$Matching;") (by decide +kernel)) (fun _ h9 => h9) rfl dX6_fillMinutes_74 ?_
          refine zz_iload_n hx hb hl 5 dX6_fillMinutes_77 rfl rfl ?_
          refine zz_iload hx hb hl 0 dX6_fillMinutes_78 rfl ?_
          refine zz_if_eq (tgt := 88) hx hb dX6_fillMinutes_80 (by decide) ⟨by decide, by decide⟩ (fun hc80 => ?_) (fun hc80 => ?_)
          · refine zz_iconst hx hb dX6_fillMinutes_88 ?_
            refine zz_callV (T := TX2) (N := 6) (As := [.int (zi ((i : Nat) : Int)), .int (zi (-1))]) (rest := []) (v := ((0 : Nat) : Int)) (κ := 7) ⟨hx, hb, hml, hown, hts⟩ (c_X2_setMinutes l G ad A N0 σ1 nd nr hX i n (-1) ⟨by decide, by decide⟩ (by omega) (by rw [hi3 7 0 5 (by omega)]; exact hcn) hn5) (cwV 2 hts gX6_fillMinutes_X2_setMinutes rfl rfl rfl (by decide +kernel) ⟨Nat.le_of_ble_eq_true rfl, Nat.le_of_ble_eq_true rfl⟩) hK hW3 (zlN (hX 7 0 rfl)) rfl rfl (Nat.le_trans hsz hS3.1) hS3 rfl hl.1.1 rfl (Nat.le_of_ble_eq_true rfl) dX6_fillMinutes_89 ⟨Nat.le_of_ble_eq_true rfl, Nat.le_of_ble_eq_true rfl⟩ (fun x4 σ4 H4 locs4 hp4 hW4 hz4 hS4 => ?_)
            refine W.eq (g2 := F0 m 92 ls []) rfl ?_
            refine zz_iinc (lv' := [(3, .int (zi (((i : Nat) : Int) + 1))), (5, .int (zi 0)), (4, .int (zi x2)), (0, zr ad 0 ((0 : Nat) : Int)), (1, zr ad 23 ((q : Nat) : Int)), (2, .int (zi (σ 23 q 4 - σ 0 0 8)))]) hx hb hl dX6_fillMinutes_92 (k0 := 5) rfl (by decide) rfl (fun ls hl => ?_)
            refine zz_goto (tgt := 12) hx hb dX6_fillMinutes_95 (by decide) ?_
            refine ih12 (i + 1) σ4 H4 locs4 ls ?_ (by omega) hW4 hS4 (zh_sub hl [3, 4, 5, 0] rfl)
            refine ⟨by omega, fun j => ?_, fun κ' i' k' hn => ?_⟩
            · rw [← hp4]
              by_cases h : j = i
              · subst h
                rw [zu_same, if_pos (by omega)]
                unfold yfm
                exact (if_neg (fun h => by
                  have h1 := hxx.1 h.2.1
                  have h2 := h.2.2
                  first
                    | exact hc51 h.1
                    | omega)).symm
              · rw [zu_s h, hi2 j]
                by_cases h2 : j < i
                · rw [if_pos h2, if_pos (by omega)]
                · rw [if_neg h2, if_neg (by omega)]
            · rw [← hp4, zu_ne (by omega)]
              exact hi3 _ _ _ hn
          · exact absurd rfl hc80
        · refine zz_iload hx hb hl 0 dX6_fillMinutes_54 rfl ?_
          refine zz_iconst hx hb dX6_fillMinutes_56 ?_
          refine zz_icmp_eq (tgt := 70) hx hb dX6_fillMinutes_57 (by decide) hgx ⟨by decide, by decide⟩ (fun hc57 => ?_) (fun hc57 => ?_)
          · refine zz_iconst hx hb dX6_fillMinutes_70 ?_
            refine zz_istore (lv' := [(5, .int (zi 0)), (4, .int (zi x2)), (0, zr ad 0 ((0 : Nat) : Int)), (1, zr ad 23 ((q : Nat) : Int)), (2, .int (zi (σ 23 q 4 - σ 0 0 8))), (3, .int (zi ((i : Nat) : Int)))]) hx hb hl dX6_fillMinutes_71 (by decide) rfl (fun ls hl => ?_)
            refine zz_aload_n hx hb hl 2 dX6_fillMinutes_73 rfl rfl ?_
            refine zz_get (T := TX6) (N := 10) (k := 3) (κ := 0) (w := zr ad 7 ((0 : Nat) : Int)) hx hb hts hinX6 hown hK hW3 (zlN (hX 0 0 rfl)) rfl rfl rfl (by decide) (hts (.fieldLink RX6 31 "HailCity" "matching" "LHailCity$Matching;") (by decide +kernel)) (fun _ h9 => h9) rfl dX6_fillMinutes_74 ?_
            refine zz_iload_n hx hb hl 5 dX6_fillMinutes_77 rfl rfl ?_
            refine zz_iload hx hb hl 0 dX6_fillMinutes_78 rfl ?_
            refine zz_if_eq (tgt := 88) hx hb dX6_fillMinutes_80 (by decide) ⟨by decide, by decide⟩ (fun hc80 => ?_) (fun hc80 => ?_)
            · refine zz_iconst hx hb dX6_fillMinutes_88 ?_
              refine zz_callV (T := TX2) (N := 6) (As := [.int (zi ((i : Nat) : Int)), .int (zi (-1))]) (rest := []) (v := ((0 : Nat) : Int)) (κ := 7) ⟨hx, hb, hml, hown, hts⟩ (c_X2_setMinutes l G ad A N0 σ1 nd nr hX i n (-1) ⟨by decide, by decide⟩ (by omega) (by rw [hi3 7 0 5 (by omega)]; exact hcn) hn5) (cwV 2 hts gX6_fillMinutes_X2_setMinutes rfl rfl rfl (by decide +kernel) ⟨Nat.le_of_ble_eq_true rfl, Nat.le_of_ble_eq_true rfl⟩) hK hW3 (zlN (hX 7 0 rfl)) rfl rfl (Nat.le_trans hsz hS3.1) hS3 rfl hl.1.1 rfl (Nat.le_of_ble_eq_true rfl) dX6_fillMinutes_89 ⟨Nat.le_of_ble_eq_true rfl, Nat.le_of_ble_eq_true rfl⟩ (fun x5 σ5 H5 locs5 hp5 hW5 hz5 hS5 => ?_)
              refine W.eq (g2 := F0 m 92 ls []) rfl ?_
              refine zz_iinc (lv' := [(3, .int (zi (((i : Nat) : Int) + 1))), (5, .int (zi 0)), (4, .int (zi x2)), (0, zr ad 0 ((0 : Nat) : Int)), (1, zr ad 23 ((q : Nat) : Int)), (2, .int (zi (σ 23 q 4 - σ 0 0 8)))]) hx hb hl dX6_fillMinutes_92 (k0 := 5) rfl (by decide) rfl (fun ls hl => ?_)
              refine zz_goto (tgt := 12) hx hb dX6_fillMinutes_95 (by decide) ?_
              refine ih12 (i + 1) σ5 H5 locs5 ls ?_ (by omega) hW5 hS5 (zh_sub hl [3, 4, 5, 0] rfl)
              refine ⟨by omega, fun j => ?_, fun κ' i' k' hn => ?_⟩
              · rw [← hp5]
                by_cases h : j = i
                · subst h
                  rw [zu_same, if_pos (by omega)]
                  unfold yfm
                  exact (if_neg (fun h => by
                    have h1 := hxx.1 h.2.1
                    have h2 := h.2.2
                    first
                      | exact hc51 h.1
                      | omega)).symm
                · rw [zu_s h, hi2 j]
                  by_cases h2 : j < i
                  · rw [if_pos h2, if_pos (by omega)]
                  · rw [if_neg h2, if_neg (by omega)]
              · rw [← hp5, zu_ne (by omega)]
                exact hi3 _ _ _ hn
            · exact absurd rfl hc80
          · refine zz_iload hx hb hl 0 dX6_fillMinutes_60 rfl ?_
            refine zz_iload_n hx hb hl 3 dX6_fillMinutes_62 rfl rfl ?_
            refine zz_icmp_gt (tgt := 70) hx hb dX6_fillMinutes_63 (by decide) hgx ⟨by omega, by omega⟩ (fun hc63 => ?_) (fun hc63 => ?_)
            · refine zz_iconst hx hb dX6_fillMinutes_70 ?_
              refine zz_istore (lv' := [(5, .int (zi 0)), (4, .int (zi x2)), (0, zr ad 0 ((0 : Nat) : Int)), (1, zr ad 23 ((q : Nat) : Int)), (2, .int (zi (σ 23 q 4 - σ 0 0 8))), (3, .int (zi ((i : Nat) : Int)))]) hx hb hl dX6_fillMinutes_71 (by decide) rfl (fun ls hl => ?_)
              refine zz_aload_n hx hb hl 2 dX6_fillMinutes_73 rfl rfl ?_
              refine zz_get (T := TX6) (N := 10) (k := 3) (κ := 0) (w := zr ad 7 ((0 : Nat) : Int)) hx hb hts hinX6 hown hK hW3 (zlN (hX 0 0 rfl)) rfl rfl rfl (by decide) (hts (.fieldLink RX6 31 "HailCity" "matching" "LHailCity$Matching;") (by decide +kernel)) (fun _ h9 => h9) rfl dX6_fillMinutes_74 ?_
              refine zz_iload_n hx hb hl 5 dX6_fillMinutes_77 rfl rfl ?_
              refine zz_iload hx hb hl 0 dX6_fillMinutes_78 rfl ?_
              refine zz_if_eq (tgt := 88) hx hb dX6_fillMinutes_80 (by decide) ⟨by decide, by decide⟩ (fun hc80 => ?_) (fun hc80 => ?_)
              · refine zz_iconst hx hb dX6_fillMinutes_88 ?_
                refine zz_callV (T := TX2) (N := 6) (As := [.int (zi ((i : Nat) : Int)), .int (zi (-1))]) (rest := []) (v := ((0 : Nat) : Int)) (κ := 7) ⟨hx, hb, hml, hown, hts⟩ (c_X2_setMinutes l G ad A N0 σ1 nd nr hX i n (-1) ⟨by decide, by decide⟩ (by omega) (by rw [hi3 7 0 5 (by omega)]; exact hcn) hn5) (cwV 2 hts gX6_fillMinutes_X2_setMinutes rfl rfl rfl (by decide +kernel) ⟨Nat.le_of_ble_eq_true rfl, Nat.le_of_ble_eq_true rfl⟩) hK hW3 (zlN (hX 7 0 rfl)) rfl rfl (Nat.le_trans hsz hS3.1) hS3 rfl hl.1.1 rfl (Nat.le_of_ble_eq_true rfl) dX6_fillMinutes_89 ⟨Nat.le_of_ble_eq_true rfl, Nat.le_of_ble_eq_true rfl⟩ (fun x6 σ6 H6 locs6 hp6 hW6 hz6 hS6 => ?_)
                refine W.eq (g2 := F0 m 92 ls []) rfl ?_
                refine zz_iinc (lv' := [(3, .int (zi (((i : Nat) : Int) + 1))), (5, .int (zi 0)), (4, .int (zi x2)), (0, zr ad 0 ((0 : Nat) : Int)), (1, zr ad 23 ((q : Nat) : Int)), (2, .int (zi (σ 23 q 4 - σ 0 0 8)))]) hx hb hl dX6_fillMinutes_92 (k0 := 5) rfl (by decide) rfl (fun ls hl => ?_)
                refine zz_goto (tgt := 12) hx hb dX6_fillMinutes_95 (by decide) ?_
                refine ih12 (i + 1) σ6 H6 locs6 ls ?_ (by omega) hW6 hS6 (zh_sub hl [3, 4, 5, 0] rfl)
                refine ⟨by omega, fun j => ?_, fun κ' i' k' hn => ?_⟩
                · rw [← hp6]
                  by_cases h : j = i
                  · subst h
                    rw [zu_same, if_pos (by omega)]
                    unfold yfm
                    exact (if_neg (fun h => by
                      have h1 := hxx.1 h.2.1
                      have h2 := h.2.2
                      first
                        | exact hc51 h.1
                        | omega)).symm
                  · rw [zu_s h, hi2 j]
                    by_cases h2 : j < i
                    · rw [if_pos h2, if_pos (by omega)]
                    · rw [if_neg h2, if_neg (by omega)]
                · rw [← hp6, zu_ne (by omega)]
                  exact hi3 _ _ _ hn
              · exact absurd rfl hc80
            · refine zz_iconst hx hb dX6_fillMinutes_66 ?_
              refine zz_goto (tgt := 71) hx hb dX6_fillMinutes_67 (by decide) ?_
              refine zz_istore (lv' := [(5, .int (zi 1)), (4, .int (zi x2)), (0, zr ad 0 ((0 : Nat) : Int)), (1, zr ad 23 ((q : Nat) : Int)), (2, .int (zi (σ 23 q 4 - σ 0 0 8))), (3, .int (zi ((i : Nat) : Int)))]) hx hb hl dX6_fillMinutes_71 (by decide) rfl (fun ls hl => ?_)
              refine zz_aload_n hx hb hl 2 dX6_fillMinutes_73 rfl rfl ?_
              refine zz_get (T := TX6) (N := 10) (k := 3) (κ := 0) (w := zr ad 7 ((0 : Nat) : Int)) hx hb hts hinX6 hown hK hW3 (zlN (hX 0 0 rfl)) rfl rfl rfl (by decide) (hts (.fieldLink RX6 31 "HailCity" "matching" "LHailCity$Matching;") (by decide +kernel)) (fun _ h9 => h9) rfl dX6_fillMinutes_74 ?_
              refine zz_iload_n hx hb hl 5 dX6_fillMinutes_77 rfl rfl ?_
              refine zz_iload hx hb hl 0 dX6_fillMinutes_78 rfl ?_
              refine zz_if_eq (tgt := 88) hx hb dX6_fillMinutes_80 (by decide) ⟨by decide, by decide⟩ (fun hc80 => ?_) (fun hc80 => ?_)
              · exact absurd hc80 (by decide)
              · refine zz_iload hx hb hl 1 dX6_fillMinutes_83 rfl ?_
                refine zz_goto (tgt := 89) hx hb dX6_fillMinutes_85 (by decide) ?_
                refine zz_callV (T := TX2) (N := 6) (As := [.int (zi ((i : Nat) : Int)), .int (zi x2)]) (rest := []) (v := ((0 : Nat) : Int)) (κ := 7) ⟨hx, hb, hml, hown, hts⟩ (c_X2_setMinutes l G ad A N0 σ1 nd nr hX i n x2 hgx (by omega) (by rw [hi3 7 0 5 (by omega)]; exact hcn) hn5) (cwV 2 hts gX6_fillMinutes_X2_setMinutes rfl rfl rfl (by decide +kernel) ⟨Nat.le_of_ble_eq_true rfl, Nat.le_of_ble_eq_true rfl⟩) hK hW3 (zlN (hX 7 0 rfl)) rfl rfl (Nat.le_trans hsz hS3.1) hS3 rfl hl.1.1 rfl (Nat.le_of_ble_eq_true rfl) dX6_fillMinutes_89 ⟨Nat.le_of_ble_eq_true rfl, Nat.le_of_ble_eq_true rfl⟩ (fun x7 σ7 H7 locs7 hp7 hW7 hz7 hS7 => ?_)
                refine W.eq (g2 := F0 m 92 ls []) rfl ?_
                refine zz_iinc (lv' := [(3, .int (zi (((i : Nat) : Int) + 1))), (5, .int (zi 1)), (4, .int (zi x2)), (0, zr ad 0 ((0 : Nat) : Int)), (1, zr ad 23 ((q : Nat) : Int)), (2, .int (zi (σ 23 q 4 - σ 0 0 8)))]) hx hb hl dX6_fillMinutes_92 (k0 := 5) rfl (by decide) rfl (fun ls hl => ?_)
                refine zz_goto (tgt := 12) hx hb dX6_fillMinutes_95 (by decide) ?_
                refine ih12 (i + 1) σ7 H7 locs7 ls ?_ (by omega) hW7 hS7 (zh_sub hl [3, 4, 5, 0] rfl)
                refine ⟨by omega, fun j => ?_, fun κ' i' k' hn => ?_⟩
                · rw [← hp7]
                  by_cases h : j = i
                  · subst h
                    rw [zu_same, if_pos (by omega)]
                    unfold yfm
                    by_cases hw : σ 6 (σ 17 j 6).toNat (σ 23 q 1).toNat < 1000000
                    · have h9 := hxx.1 hw
                      rw [if_pos ⟨hc51, hw, by omega⟩]
                      exact h9
                    · exact absurd (hxx.2 hw) hc57
                  · rw [zu_s h, hi2 j]
                    by_cases h2 : j < i
                    · rw [if_pos h2, if_pos (by omega)]
                    · rw [if_neg h2, if_neg (by omega)]
                · rw [← hp7, zu_ne (by omega)]
                  exact hi3 _ _ _ hn
  refine hcut12 _ 0 σ s.heap [] ls ?_ (Nat.lt_succ_self _) hW0 hS0 (zh_sub hl [2, 3, 1, 0] rfl)
  exact ⟨Nat.zero_le _, fun j => by rw [if_neg (Nat.not_lt_zero _)], fun _ _ _ _ => rfl⟩

set_option maxHeartbeats 4000000 in
set_option maxRecDepth 100000 in
theorem c_X6_prepareMatching (l : Launch) (hst : l.stackTraces = false) (G : zG) (ad : zA) (A : Nat → Prop) (N0 : Nat) (σ : zS) (nd nr : Nat) (hX : zX ad nd nr) (hnd : nd ≤ 8) (hnr : nr ≤ 60) (h5 : σ 0 0 5 = (nd : Int)) (h6 : σ 0 0 6 = (nr : Int)) (hD : ∀ i, i < nd → σ 15 0 i = (i : Int)) (hQ : ∀ i, i < nr → σ 16 0 i = (i : Int)) (hpl : ∀ i, i < nd → 0 ≤ σ 17 i 6 ∧ σ 17 i 6 < 10) (hww : ∀ a b, a < 10 → b < 10 → 0 ≤ σ 6 a b) (hnow : 0 ≤ σ 0 0 8 ∧ σ 0 0 8 ≤ 20000) (hrq : ∀ k, k < nr → (0 ≤ σ 23 k 1 ∧ σ 23 k 1 < 10) ∧ 0 ≤ σ 23 k 4 ∧ σ 23 k 4 ≤ 100000) : vx_Met l yX6_prepareMatching wsX6_prepareMatching ({ frames := 6, cells := 1, slots := 6, locals := 200 }) (zPx G ad A N0 σ [zr ad 0 ((0 : Nat) : Int)]) (zQ G ad A zrv (fun _ u => u 7 0 4 = (nd : Int) ∧ u 7 0 5 = (ywn σ nr : Int) ∧ ywn σ nr ≤ 5 ∧ (∀ k, k < nr → yw σ k → u 8 0 (ywn σ k) = (k : Int) ∧ ∀ j, j < nd → u 10 (ywn σ k) j = yfm σ k j) ∧ zfr ysc σ u)) (zXC G ad A (fun E u => E = "java/lang/IllegalStateException" ∧ zfr ysc σ u ∧ 5 < ywn σ nr)) 1 6 A := by
  refine zx_of (cc := cX6_prepareMatching) (maxL := 3) (ret := none) (by decide) rfl (List.forall_mem_cons.mpr ⟨zr_cat _ _ _, fun _ h => absurd h List.not_mem_nil⟩) (Nat.le_of_ble_eq_true rfl) ?_
  intro p e s m below meth c hx hb hr hml hts hown hlocks hout hsz hW0 hK hE ls hl
  have hS0 : va_S A s.heap s.heap [] := va_S.rf
  have hl : zh ls 3 [(0, zr ad 0 ((0 : Nat) : Int))] := hl
  have hinX2 : ∀ w ∈ u_ws RX2 TX2 6, w ∈ wsX6_prepareMatching := by decide +kernel
  have hinX3 : ∀ w ∈ u_ws RX3 TX3 12, w ∈ wsX6_prepareMatching := by decide +kernel
  have hinX6 : ∀ w ∈ u_ws RX6 TX6 10, w ∈ wsX6_prepareMatching := by decide +kernel
  refine zz_aload_n hx hb hl 0 dX6_prepareMatching_0 rfl rfl ?_
  refine zz_get (T := TX6) (N := 10) (k := 3) (κ := 0) (w := zr ad 7 ((0 : Nat) : Int)) hx hb hts hinX6 hown hK hW0 (zlN (hX 0 0 rfl)) rfl rfl rfl (by decide) (hts (.fieldLink RX6 31 "HailCity" "matching" "LHailCity$Matching;") (by decide +kernel)) (fun _ h9 => h9) rfl dX6_prepareMatching_1 ?_
  refine zz_aload_n hx hb hl 0 dX6_prepareMatching_4 rfl rfl ?_
  refine zz_get (T := TX6) (N := 10) (k := 5) (κ := 0) (w := .int (zi ((nd : Nat) : Int))) hx hb hts hinX6 hown hK hW0 (zlN (hX 0 0 rfl)) rfl rfl rfl (by decide) (hts (.fieldLink RX6 87 "HailCity" "driverCount" "I") (by decide +kernel)) (fun _ h9 => h9) (congrArg (fun z => Value.int (zi z)) (show σ 0 0 5 = ((nd : Nat) : Int) from by rw [h5])) dX6_prepareMatching_5 ?_
  refine zz_callV (T := TX2) (N := 6) (As := [.int (zi ((nd : Nat) : Int))]) (rest := []) (v := ((0 : Nat) : Int)) (κ := 7) ⟨hx, hb, hml, hown, hts⟩ (c_X2_clear l G ad A N0 σ nd nr hX ((nd : Nat) : Int) ⟨by omega, by omega⟩) (cwV 1 hts gX6_prepareMatching_X2_clear rfl rfl rfl (by decide +kernel) ⟨Nat.le_of_ble_eq_true rfl, Nat.le_of_ble_eq_true rfl⟩) hK hW0 (zlN (hX 7 0 rfl)) rfl rfl (Nat.le_trans hsz hS0.1) hS0 rfl hl.1.1 rfl (Nat.le_of_ble_eq_true rfl) dX6_prepareMatching_8 ⟨Nat.le_of_ble_eq_true rfl, Nat.le_of_ble_eq_true rfl⟩ (fun x1 σ1 H1 locs1 hp1 hW1 hz1 hS1 => ?_)
  refine W.eq (g2 := F0 m 11 ls []) rfl ?_
  refine zz_iconst hx hb dX6_prepareMatching_11 ?_
  refine zz_istore_n (lv' := [(1, .int (zi 0)), (0, zr ad 0 ((0 : Nat) : Int))]) hx hb hl dX6_prepareMatching_12 rfl (by decide) rfl (fun ls hl => ?_)
  have hcut13 : ∀ (n9 : Nat) (i : Nat)  (σ9 : zS) (H9 : Heap) (locs9 : List Loc) (ls : Array Slot), (i ≤ nr ∧ σ9 7 0 4 = (nd : Int) ∧ σ9 7 0 5 = (ywn σ i : Int) ∧ ywn σ i ≤ 5 ∧ (∀ k, k < i → yw σ k → σ9 8 0 (ywn σ k) = (k : Int) ∧ ∀ j, j < nd → σ9 10 (ywn σ k) j = yfm σ k j) ∧ zfr ysc σ σ9) → (nr - i) < n9 → ZW G ad A σ9 H9 → va_S A s.heap H9 locs9 → zh ls 3 [(0, zr ad 0 ((0 : Nat) : Int)), (1, .int (zi ((i : Nat) : Int)))] → W p l e ({ frames := 6, cells := 1, slots := 6, locals := 200 }) s m ([zr ad 0 ((0 : Nat) : Int)] : List Value).toArray below meth c H9 locs9 0 0 (vx_MQ below (zQ G ad A zrv (fun _ u => u 7 0 4 = (nd : Int) ∧ u 7 0 5 = (ywn σ nr : Int) ∧ ywn σ nr ≤ 5 ∧ (∀ k, k < nr → yw σ k → u 8 0 (ywn σ k) = (k : Int) ∧ ∀ j, j < nd → u 10 (ywn σ k) j = yfm σ k j) ∧ zfr ysc σ u)) (zXC G ad A (fun E u => E = "java/lang/IllegalStateException" ∧ zfr ysc σ u ∧ 5 < ywn σ nr)) ([zr ad 0 ((0 : Nat) : Int)] : List Value).toArray s 1 6 A) (F0 m 13 ls []) := by
    intro n9
    induction n9 with
    | zero =>
      intro i σ2 H2 locs2 ls hI13 hm13 hW2 hS2 hl
      exact absurd hm13 (Nat.not_lt_zero _)
    | succ n9 ih13 =>
      intro i σ2 H2 locs2 ls hI13 hm13 hW2 hS2 hl
      obtain ⟨hi1, hi2, hi3, hi4, hi5, hi6⟩ := hI13
      refine zz_iload_n hx hb hl 1 dX6_prepareMatching_13 rfl rfl ?_
      refine zz_aload_n hx hb hl 0 dX6_prepareMatching_14 rfl rfl ?_
      refine zz_get (T := TX6) (N := 10) (k := 6) (κ := 0) (w := .int (zi ((nr : Nat) : Int))) hx hb hts hinX6 hown hK hW2 (zlN (hX 0 0 rfl)) rfl rfl rfl (by decide) (hts (.fieldLink RX6 146 "HailCity" "requestCount" "I") (by decide +kernel)) (fun _ h9 => h9) (congrArg (fun z => Value.int (zi z)) (show σ2 0 0 6 = ((nr : Nat) : Int) from by rw [hi6 0 0 6 (by unfold ysc; omega), h6])) dX6_prepareMatching_15 ?_
      refine zz_icmp_ge (tgt := 83) hx hb dX6_prepareMatching_18 (by decide) ⟨by omega, by omega⟩ ⟨by omega, by omega⟩ (fun hc18 => ?_) (fun hc18 => ?_)
      · refine W.eq (g2 := F0 m 83 ls []) rfl ?_
        refine zw_widen (k := 1) (n := 6) (Nat.le_of_ble_eq_true rfl) (Nat.le_of_ble_eq_true rfl) (vx_ret ?_)
        refine zz_retv hx hb hr hlocks hW2 hS2 ?_ dX6_prepareMatching_83
        obtain rfl : i = nr := by omega
        exact ⟨hi2, hi3, hi4, hi5, hi6⟩
      · have hqi := hrq i (by omega)
        refine zz_aload_n hx hb hl 0 dX6_prepareMatching_21 rfl rfl ?_
        refine zz_get (T := TX6) (N := 10) (k := 2) (κ := 0) (w := zr ad 16 ((0 : Nat) : Int)) hx hb hts hinX6 hown hK hW2 (zlN (hX 0 0 rfl)) rfl rfl rfl (by decide) (hts (.fieldLink RX6 24 "HailCity" "requests" "[LHailCity$Request;") (by decide +kernel)) (fun _ h9 => h9) rfl dX6_prepareMatching_22 ?_
        refine zz_iload_n hx hb hl 1 dX6_prepareMatching_25 rfl rfl ?_
        refine zz_aald (w := zr ad 23 ((i : Nat) : Int)) hx hb hK hW2 (zlN (hX 16 0 rfl)) rfl rfl (by show (0 : Int) ≤ ((i : Nat) : Int); omega) (by show ((i : Nat) : Int) < (60 : Int); omega) ((zv_r (Nat.le_of_ble_eq_true rfl) (Nat.le_of_ble_eq_true rfl)).trans (congrArg (zr ad 23) (show σ2 16 0 i = ((i : Nat) : Int) from by rw [hi6 16 0 i (by unfold ysc; omega)]; exact hQ i (by omega)))) dX6_prepareMatching_26 ?_
        refine zz_astore_n (lv' := [(2, zr ad 23 ((i : Nat) : Int)), (0, zr ad 0 ((0 : Nat) : Int)), (1, .int (zi ((i : Nat) : Int)))]) hx hb hl dX6_prepareMatching_27 rfl (by decide) rfl (fun ls hl => ?_)
        refine zz_aload_n hx hb hl 0 dX6_prepareMatching_28 rfl rfl ?_
        refine zz_getN (T := TX3) (N := 12) (k := 6) (κ := 23) (w := .int (zi (σ 23 i 6))) hx hb hts hinX3 hown hK hW2 (zlN (hX 23 i (decide_eq_true (by omega)))) rfl rfl rfl (by decide) (host := "HailCity") (List.mem_of_getElem? (i := 35) rfl) (fun _ h9 => h9) (congrArg (fun z => Value.int (zi z)) (show σ2 23 i 6 = σ 23 i 6 from by rw [hi6 23 i 6 (by unfold ysc; omega)])) dX6_prepareMatching_29 ?_
        refine zz_if_ne (tgt := 77) hx hb dX6_prepareMatching_32 (by decide) (hW0.2.2.1 _ _ _) (fun hc32 => ?_) (fun hc32 => ?_)
        · refine zz_iinc (lv' := [(1, .int (zi (((i : Nat) : Int) + 1))), (2, zr ad 23 ((i : Nat) : Int)), (0, zr ad 0 ((0 : Nat) : Int))]) hx hb hl dX6_prepareMatching_77 (k0 := 2) rfl (by decide) rfl (fun ls hl => ?_)
          refine zz_goto (tgt := 13) hx hb dX6_prepareMatching_80 (by decide) ?_
          refine ih13 (i + 1) σ2 H2 locs2 ls ?_ (by omega) hW2 hS2 (zh_sub hl [2, 0] rfl)
          have hny : ¬ yw σ i := fun h => by first | exact hc32 h.1 | exact h.2 hc39
          rw [ywn_n hny]
          exact ⟨by omega, hi2, hi3, hi4, fun k hk hy => hi5 k (by have : k ≠ i := fun h => hny (h ▸ hy); omega) hy, hi6⟩
        · refine zz_aload_n hx hb hl 0 dX6_prepareMatching_35 rfl rfl ?_
          refine zz_getN (T := TX3) (N := 12) (k := 1) (κ := 23) (w := .int (zi (σ 23 i 1))) hx hb hts hinX3 hown hK hW2 (zlN (hX 23 i (decide_eq_true (by omega)))) rfl rfl rfl (by decide) (host := "HailCity") (List.mem_of_getElem? (i := 26) rfl) (fun _ h9 => h9) (congrArg (fun z => Value.int (zi z)) (show σ2 23 i 1 = σ 23 i 1 from by rw [hi6 23 i 1 (by unfold ysc; omega)])) dX6_prepareMatching_36 ?_
          refine zz_if_eq (tgt := 77) hx hb dX6_prepareMatching_39 (by decide) (hW0.2.2.1 _ _ _) (fun hc39 => ?_) (fun hc39 => ?_)
          · refine zz_iinc (lv' := [(1, .int (zi (((i : Nat) : Int) + 1))), (2, zr ad 23 ((i : Nat) : Int)), (0, zr ad 0 ((0 : Nat) : Int))]) hx hb hl dX6_prepareMatching_77 (k0 := 2) rfl (by decide) rfl (fun ls hl => ?_)
            refine zz_goto (tgt := 13) hx hb dX6_prepareMatching_80 (by decide) ?_
            refine ih13 (i + 1) σ2 H2 locs2 ls ?_ (by omega) hW2 hS2 (zh_sub hl [2, 0] rfl)
            have hny : ¬ yw σ i := fun h => by first | exact hc32 h.1 | exact h.2 hc39
            rw [ywn_n hny]
            exact ⟨by omega, hi2, hi3, hi4, fun k hk hy => hi5 k (by have : k ≠ i := fun h => hny (h ▸ hy); omega) hy, hi6⟩
          · refine zz_aload_n hx hb hl 1 dX6_prepareMatching_42 rfl rfl ?_
            refine zz_get (T := TX6) (N := 10) (k := 3) (κ := 0) (w := zr ad 7 ((0 : Nat) : Int)) hx hb hts hinX6 hown hK hW2 (zlN (hX 0 0 rfl)) rfl rfl rfl (by decide) (hts (.fieldLink RX6 31 "HailCity" "matching" "LHailCity$Matching;") (by decide +kernel)) (fun _ h9 => h9) rfl dX6_prepareMatching_43 ?_
            refine zz_getN (T := TX2) (N := 6) (k := 5) (κ := 7) (w := .int (zi ((ywn σ i : Nat) : Int))) hx hb hts hinX2 hown hK hW2 (zlN (hX 7 0 rfl)) rfl rfl rfl (by decide) (host := "HailCity") (List.mem_of_getElem? (i := 2) rfl) (fun _ h9 => h9) (congrArg (fun z => Value.int (zi z)) (show σ2 7 0 5 = ((ywn σ i : Nat) : Int) from by rw [hi3])) dX6_prepareMatching_46 ?_
            refine zz_iconst hx hb dX6_prepareMatching_49 ?_
            refine zz_icmp_lt (tgt := 64) hx hb dX6_prepareMatching_50 (by decide) ⟨by omega, by omega⟩ ⟨by decide, by decide⟩ (fun hc50 => ?_) (fun hc50 => ?_)
            · refine zz_aload_n hx hb hl 1 dX6_prepareMatching_64 rfl rfl ?_
              refine zz_get (T := TX6) (N := 10) (k := 3) (κ := 0) (w := zr ad 7 ((0 : Nat) : Int)) hx hb hts hinX6 hown hK hW2 (zlN (hX 0 0 rfl)) rfl rfl rfl (by decide) (hts (.fieldLink RX6 31 "HailCity" "matching" "LHailCity$Matching;") (by decide +kernel)) (fun _ h9 => h9) rfl dX6_prepareMatching_65 ?_
              refine zz_aload_n hx hb hl 0 dX6_prepareMatching_68 rfl rfl ?_
              refine zz_callV (T := TX2) (N := 6) (As := [zr ad 23 ((i : Nat) : Int)]) (rest := []) (v := ((0 : Nat) : Int)) (κ := 7) ⟨hx, hb, hml, hown, hts⟩ (c_X2_addRequest l G ad A N0 σ2 nd nr hX i (ywn σ i) (by omega) hnr hi3 (by omega)) (cwV 1 hts gX6_prepareMatching_X2_addRequest rfl rfl rfl (by decide +kernel) ⟨Nat.le_of_ble_eq_true rfl, Nat.le_of_ble_eq_true rfl⟩) hK hW2 (zlN (hX 7 0 rfl)) rfl rfl (Nat.le_trans hsz hS2.1) hS2 rfl hl.1.1 rfl (Nat.le_of_ble_eq_true rfl) dX6_prepareMatching_69 ⟨Nat.le_of_ble_eq_true rfl, Nat.le_of_ble_eq_true rfl⟩ (fun x3 σ3 H3 locs3 hp3 hW3 hz3 hS3 => ?_)
              refine W.eq (g2 := F0 m 72 ls []) rfl ?_
              have ha : zfr ysc σ σ3 := fun κ i' k' hn => by
                rw [← hp3, zu_ne (by unfold ysc at hn; omega), zu_ne (by unfold ysc at hn; omega)]
                exact hi6 κ i' k' hn
              refine zz_aload_n hx hb hl 1 dX6_prepareMatching_72 rfl rfl ?_
              refine zz_aload_n hx hb hl 0 dX6_prepareMatching_73 rfl rfl ?_
              refine zz_callV (T := TX6) (N := 10) (As := [zr ad 23 ((i : Nat) : Int)]) (rest := []) (v := ((0 : Nat) : Int)) (κ := 0) ⟨hx, hb, hml, hown, hts⟩ (c_X6_fillMinutes l G ad A N0 σ3 nd nr hX hnd hnr (by rw [ha 0 0 5 (by unfold ysc; omega)]; exact h5) (by rw [ha 0 0 6 (by unfold ysc; omega)]; exact h6) (fun z hz => by rw [ha 15 0 z (by unfold ysc; omega)]; exact hD z hz) (fun z hz => by rw [ha 16 0 z (by unfold ysc; omega)]; exact hQ z hz) i (by omega) (ywn σ i) (by rw [← hp3, zu_same]) (by omega) (by rw [ha 23 i 1 (by unfold ysc; omega)]; exact (hrq i (by omega)).1) (by rw [ha 23 i 4 (by unfold ysc; omega)]; exact (hrq i (by omega)).2) (fun z hz => by rw [ha 17 z 6 (by unfold ysc; omega)]; exact hpl z hz) (fun a b h1 h2 => by rw [ha 6 a b (by unfold ysc; omega)]; exact hww a b h1 h2) (by rw [ha 0 0 8 (by unfold ysc; omega)]; exact hnow)) (cwV 1 hts gX6_prepareMatching_X6_fillMinutes rfl rfl rfl (by decide +kernel) ⟨Nat.le_of_ble_eq_true rfl, Nat.le_of_ble_eq_true rfl⟩) hK hW3 (zlN (hX 0 0 rfl)) rfl rfl (Nat.le_trans hsz hS3.1) hS3 rfl hl.1.1 rfl (Nat.le_of_ble_eq_true rfl) dX6_prepareMatching_74 ⟨Nat.le_of_ble_eq_true rfl, Nat.le_of_ble_eq_true rfl⟩ (fun x4 σ4 H4 locs4 hp4 hW4 hz4 hS4 => ?_)
              obtain ⟨hf1, hf2⟩ := hp4
              refine W.eq (g2 := F0 m 77 ls []) rfl ?_
              refine zz_iinc (lv' := [(1, .int (zi (((i : Nat) : Int) + 1))), (2, zr ad 23 ((i : Nat) : Int)), (0, zr ad 0 ((0 : Nat) : Int))]) hx hb hl dX6_prepareMatching_77 (k0 := 2) rfl (by decide) rfl (fun ls hl => ?_)
              refine zz_goto (tgt := 13) hx hb dX6_prepareMatching_80 (by decide) ?_
              refine ih13 (i + 1) σ4 H4 locs4 ls ?_ (by omega) hW4 hS4 (zh_sub hl [2, 0] rfl)
              have hy : yw σ i := ⟨hc32, hc39⟩
              rw [ywn_y hy]
              refine ⟨by omega, ?_, ?_, by omega, fun k hk hyk => ?_, fun κ i' k' hn => ?_⟩
              · rw [hf2 _ _ _ (by omega), ← hp3, zu_s (by decide), zu_k (by decide)]; exact hi2
              · rw [hf2 _ _ _ (by omega), ← hp3, zu_same]; omega
              · by_cases hki : k = i
                · subst hki
                  refine ⟨?_, fun j hj => ?_⟩
                  · rw [hf2 _ _ _ (by omega), ← hp3, zu_k (by decide), zu_same]
                  · rw [hf1 j, if_pos hj, yfm_fr ha]
                · have hlt := ywn_lt hyk (show k < i by omega)
                  have h5k := hi5 k (by omega) hyk
                  refine ⟨?_, fun j hj => ?_⟩
                  · rw [hf2 _ _ _ (by omega), ← hp3, zu_k (by decide), zu_s (by omega)]; exact h5k.1
                  · rw [hf2 _ _ _ (by omega), ← hp3, zu_k (by decide), zu_k (by decide)]; exact h5k.2 j hj
              · rw [hf2 _ _ _ (by unfold ysc at hn; omega)]
                exact ha _ _ _ hn
            · refine zx_throwW (ik := 66) (is := 293) (ic := 70) (cls := "java/lang/IllegalStateException") (text := "more than 5 WAIT") (rest := []) ⟨hx, hb, hml, hown, hts⟩ hst hlocks hout hE hW2 hS2 (by decide +kernel) (by decide) (by decide +kernel) (by decide +kernel) (by decide +kernel) zat2 zot2 (by decide) hl.1.1 dX6_prepareMatching_53 dX6_prepareMatching_56 dX6_prepareMatching_57 dX6_prepareMatching_60 dX6_prepareMatching_63 ⟨Nat.le_of_ble_eq_true rfl, (Nat.le_of_ble_eq_true rfl), Nat.le_of_ble_eq_true rfl, Nat.le_of_ble_eq_true rfl⟩ (Nat.le_of_ble_eq_true rfl) (Nat.le_of_ble_eq_true rfl) ?_
              have hge : 5 ≤ ywn σ i := by
                have h9 := hi3
                omega
              refine ⟨rfl, hi6, ?_⟩
              have h8 := ywn_lt (σ := σ) (k := i) (n := nr) ⟨hc32, hc39⟩ (by omega)
              omega
  refine hcut13 _ 0 σ1 H1 locs1 ls ?_ (Nat.lt_succ_self _) hW1 hS1 (zh_sub hl [1, 0] rfl)
  refine ⟨Nat.zero_le _, ?_, ?_, Nat.zero_le _, fun k hk => absurd hk (Nat.not_lt_zero _), fun κ i k hn => ?_⟩
  · rw [← hp1, zu_s (by decide), zu_same]
  · rw [← hp1, zu_same]; rfl
  · rw [← hp1, zu_ne (by unfold ysc at hn; omega), zu_ne (by unfold ysc at hn; omega)]
