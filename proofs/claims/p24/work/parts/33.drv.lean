def zsum (f : Nat → Int) : Nat → Int
  | 0 => 0
  | n + 1 => zsum f n + f n
theorem zsum_rg {f : Nat → Int} {N : Nat} (h : ∀ j, j < N → 0 ≤ f j ∧ f j ≤ 5) : ∀ n, n ≤ N → 0 ≤ zsum f n ∧ zsum f n ≤ 5 * n
  | 0, _ => ⟨Int.le_refl _, Int.le_refl _⟩
  | n + 1, hn => by
    have h1 := zsum_rg h n (by omega)
    have h2 := h n (by omega)
    show 0 ≤ zsum f n + f n ∧ zsum f n + f n ≤ _
    omega
theorem zsum_congr {f g : Nat → Int} : ∀ n, (∀ j, j < n → f j = g j) → zsum f n = zsum g n
  | 0, _ => rfl
  | n + 1, h => by
    show zsum f n + f n = zsum g n + g n
    rw [zsum_congr n (fun j hj => h j (by omega)), h n (by omega)]

set_option maxHeartbeats 4000000 in
set_option maxRecDepth 100000 in
theorem c_X1_isFree (l : Launch) (G : zG) (ad : zA) (A : Nat → Prop) (N0 : Nat) (σ : zS) (nd nr : Nat) (hX : zX ad nd nr) (d : Nat) (hd : d < nd) : Met l yX1_isFree wsX1_isFree ({ frames := 0, cells := 0, slots := 0, locals := 0 }) (zP G ad A N0 σ [zr ad 17 ((d : Nat) : Int)]) (zQ G ad A zri (fun r u => σ = u ∧ zb (σ 18 d 3 = 0 ∧ σ 17 d 7 = 0 ∧ σ 17 d 5 = 0) = r)) 0 0 A := by
  refine zz_of (cc := cX1_isFree) (maxL := 1) (ret := (some .boolean)) (by decide) rfl ⟨rfl, rfl⟩ (List.forall_mem_cons.mpr ⟨zr_cat _ _ _, fun _ h => absurd h List.not_mem_nil⟩) (Nat.le_of_ble_eq_true rfl) ?_
  intro p e s m below meth c hx hb hr hml hts hown hlocks hsz hW0 hK ls hl
  have hS0 : va_S A s.heap s.heap [] := va_S.rf
  have hl : zh ls 1 [(0, zr ad 17 ((d : Nat) : Int))] := hl
  have hinX1 : ∀ w ∈ u_ws RX1 TX1 13, w ∈ wsX1_isFree := by decide +kernel
  have hinX4 : ∀ w ∈ u_ws RX4 TX4 4, w ∈ wsX1_isFree := by decide +kernel
  refine zz_aload_n hx hb hl 0 dX1_isFree_0 rfl rfl ?_
  refine zz_get (T := TX1) (N := 13) (k := 1) (κ := 17) (w := zr ad 18 ((d : Nat) : Int)) hx hb hts hinX1 hown hK hW0 (zlN (hX 17 d (decide_eq_true hd))) rfl rfl rfl (by decide) (hts (.fieldLink RX1 19 "HailCity$Driver" "row" "LHailCity$Row;") (by decide +kernel)) (fun _ h9 => h9) rfl dX1_isFree_1 ?_
  refine zz_getN (T := TX4) (N := 4) (k := 3) (κ := 18) (w := .int (zi (σ 18 d 3))) hx hb hts hinX4 hown hK hW0 (zlN (hX 18 d (decide_eq_true hd))) rfl rfl rfl (by decide) (host := "HailCity") (List.mem_of_getElem? (i := 3) rfl) (fun _ h9 => h9) rfl dX1_isFree_4 ?_
  refine zz_if_ne (tgt := 28) hx hb dX1_isFree_7 (by decide) (hW0.2.2.1 _ _ _) (fun hc7 => ?_) (fun hc7 => ?_)
  · refine zz_iconst hx hb dX1_isFree_28 ?_
    refine W.eq (g2 := F0 m 29 ls [.int (zi 0)]) rfl ?_
    refine zz_retz hx hb hr hlocks hW0 hS0 (by decide) ?_ dX1_isFree_29
    first | exact ⟨rfl, zb_t (by omega)⟩ | exact ⟨rfl, zb_f (by omega)⟩
  · refine zz_aload_n hx hb hl 0 dX1_isFree_10 rfl rfl ?_
    refine zz_get (T := TX1) (N := 13) (k := 7) (κ := 17) (w := .int (zi (σ 17 d 7))) hx hb hts hinX1 hown hK hW0 (zlN (hX 17 d (decide_eq_true hd))) rfl rfl rfl (by decide) (hts (.fieldLink RX1 33 "HailCity$Driver" "isResting" "Z") (by decide +kernel)) (fun _ h9 => h9) rfl dX1_isFree_11 ?_
    refine zz_if_ne (tgt := 28) hx hb dX1_isFree_14 (by decide) (hW0.2.2.1 _ _ _) (fun hc14 => ?_) (fun hc14 => ?_)
    · refine zz_iconst hx hb dX1_isFree_28 ?_
      refine W.eq (g2 := F0 m 29 ls [.int (zi 0)]) rfl ?_
      refine zz_retz hx hb hr hlocks hW0 hS0 (by decide) ?_ dX1_isFree_29
      first | exact ⟨rfl, zb_t (by omega)⟩ | exact ⟨rfl, zb_f (by omega)⟩
    · refine zz_aload_n hx hb hl 0 dX1_isFree_17 rfl rfl ?_
      refine zz_get (T := TX1) (N := 13) (k := 5) (κ := 17) (w := .int (zi (σ 17 d 5))) hx hb hts hinX1 hown hK hW0 (zlN (hX 17 d (decide_eq_true hd))) rfl rfl rfl (by decide) (hts (.fieldLink RX1 37 "HailCity$Driver" "isBarred" "Z") (by decide +kernel)) (fun _ h9 => h9) rfl dX1_isFree_18 ?_
      refine zz_if_ne (tgt := 28) hx hb dX1_isFree_21 (by decide) (hW0.2.2.1 _ _ _) (fun hc21 => ?_) (fun hc21 => ?_)
      · refine zz_iconst hx hb dX1_isFree_28 ?_
        refine W.eq (g2 := F0 m 29 ls [.int (zi 0)]) rfl ?_
        refine zz_retz hx hb hr hlocks hW0 hS0 (by decide) ?_ dX1_isFree_29
        first | exact ⟨rfl, zb_t (by omega)⟩ | exact ⟨rfl, zb_f (by omega)⟩
      · refine zz_iconst hx hb dX1_isFree_24 ?_
        refine zz_goto (tgt := 29) hx hb dX1_isFree_25 (by decide) ?_
        refine W.eq (g2 := F0 m 29 ls [.int (zi 1)]) rfl ?_
        refine zz_retz hx hb hr hlocks hW0 hS0 (by decide) ?_ dX1_isFree_29
        first | exact ⟨rfl, zb_t (by omega)⟩ | exact ⟨rfl, zb_f (by omega)⟩

set_option maxHeartbeats 4000000 in
set_option maxRecDepth 100000 in
theorem c_X1_addStars (l : Launch) (G : zG) (ad : zA) (A : Nat → Prop) (N0 : Nat) (σ : zS) (nd nr : Nat) (hX : zX ad nd nr) (d : Nat) (hd : d < nd) (sc : Nat) (hsc : σ 17 d 3 = (sc : Int)) (hs60 : sc < 1000) (x : Int) (gx : zg x) (hx5 : 0 ≤ x ∧ x ≤ 5) (hst : ∀ j, j < 10 → 0 ≤ σ 19 d j ∧ σ 19 d j ≤ 5) : Met l yX1_addStars wsX1_addStars ({ frames := 1, cells := 0, slots := 0, locals := 21 }) (zP G ad A N0 σ [zr ad 17 ((d : Nat) : Int), .int (zi x)]) (zQ G ad A zrv (fun _ u => (∀ j, u 19 d j = if j = sc % 10 then x else σ 19 d j) ∧ u 17 d 3 = (sc : Int) + 1 ∧ u 17 d 4 = zsum (u 19 d) (min (sc + 1) 10) * 100 / ((min (sc + 1) 10 : Nat) : Int) ∧ u 17 d 5 = zb (4 ≤ sc ∧ u 17 d 4 < 350) ∧ zfr (fun κ i k => i = d ∧ (κ = 19 ∨ (κ = 17 ∧ (k = 3 ∨ k = 4 ∨ k = 5)))) σ u)) 0 0 A := by
  refine zz_of (cc := cX1_addStars) (maxL := 5) (ret := none) (by decide) rfl ⟨rfl, rfl⟩ (List.forall_mem_cons.mpr ⟨zr_cat _ _ _, List.forall_mem_cons.mpr ⟨rfl, fun _ h => absurd h List.not_mem_nil⟩⟩) (Nat.le_of_ble_eq_true rfl) ?_
  intro p e s m below meth c hx hb hr hml hts hown hlocks hsz hW0 hK ls hl
  have hS0 : va_S A s.heap s.heap [] := va_S.rf
  have hl : zh ls 5 [(0, zr ad 17 ((d : Nat) : Int)), (1, .int (zi x))] := hl
  have hinX1 : ∀ w ∈ u_ws RX1 TX1 13, w ∈ wsX1_addStars := by decide +kernel
  have hgs : zg (σ 17 d 3) := hW0.2.2.1 _ _ _
  refine zz_aload_n hx hb hl 0 dX1_addStars_0 rfl rfl ?_
  refine zz_get (T := TX1) (N := 13) (k := 2) (κ := 17) (w := zr ad 19 ((d : Nat) : Int)) hx hb hts hinX1 hown hK hW0 (zlN (hX 17 d (decide_eq_true hd))) rfl rfl rfl (by decide) (hts (.fieldLink RX1 23 "HailCity$Driver" "latestStars" "[I") (by decide +kernel)) (fun _ h9 => h9) rfl dX1_addStars_1 ?_
  refine zz_aload_n hx hb hl 0 dX1_addStars_4 rfl rfl ?_
  refine zz_get (T := TX1) (N := 13) (k := 3) (κ := 17) (w := .int (zi (σ 17 d 3))) hx hb hts hinX1 hown hK hW0 (zlN (hX 17 d (decide_eq_true hd))) rfl rfl rfl (by decide) (hts (.fieldLink RX1 40 "HailCity$Driver" "starCount" "I") (by decide +kernel)) (fun _ h9 => h9) rfl dX1_addStars_5 ?_
  refine zz_bipush hx hb dX1_addStars_8 (by decide +kernel) ?_
  refine zz_irem hx hb dX1_addStars_10 (hW0.2.2.1 _ _ _) ⟨by decide, by decide⟩ (by omega) (by omega) ?_
  refine zz_iload_n hx hb hl 1 dX1_addStars_11 rfl rfl ?_
  refine zz_iast (y := x) hx hb hK hW0 hS0 (zlN (hX 19 d (decide_eq_true hd))) rfl rfl rfl (by show (0 : Int) ≤ (σ 17 d 3) % 10; omega) (by show ((σ 17 d 3) % 10) < (10 : Int); omega) gx dX1_addStars_12 (fun H1 locs1 hW1' hS1 => ?_)
  obtain ⟨σ1, hs1⟩ : ∃ z, z = zu σ 19 d (((σ 17 d 3) % 10).toNat) x := ⟨_, rfl⟩
  have hW1 : ZW G ad A σ1 H1 := by rw [hs1]; exact hW1'
  refine zz_aload_n hx hb hl 0 dX1_addStars_13 rfl rfl ?_
  refine lv_dup hx hb dX1_addStars_14 (zr_cat _ _ _) ?_
  refine zz_get (T := TX1) (N := 13) (k := 3) (κ := 17) (w := .int (zi (σ 17 d 3))) hx hb hts hinX1 hown hK hW1 (zlN (hX 17 d (decide_eq_true hd))) rfl rfl rfl (by decide) (hts (.fieldLink RX1 40 "HailCity$Driver" "starCount" "I") (by decide +kernel)) (fun _ h9 => h9) (congrArg (fun z => Value.int (zi z)) (show σ1 17 d 3 = σ 17 d 3 from by rw [hs1, zu_k (by decide)])) dX1_addStars_15 ?_
  refine zz_iconst hx hb dX1_addStars_18 ?_
  refine zz_iadd hx hb dX1_addStars_19 ?_
  refine zz_put (T := TX1) (N := 13) (k := 3) (κ := 17) (v := ((d : Nat) : Int)) (x := ((σ 17 d 3) + 1)) (ty := .int) hx hb hts hinX1 tyX1 tyX1_ok nmX1 hown hK hW1 hS1 (zlN (hX 17 d (decide_eq_true hd))) rfl rfl rfl (by decide) (hts (.fieldLink RX1 40 "HailCity$Driver" "starCount" "I") (by decide +kernel)) (fun _ h9 => h9) rfl (by decide +kernel) rfl rfl rfl ⟨by omega, by omega⟩ (fun h9 _ => absurd h9 (by decide)) (fun h9 => absurd h9 (by decide)) dX1_addStars_20 (fun H2 locs2 hW2' hS2 => ?_)
  obtain ⟨σ2, hs2⟩ : ∃ z, z = zu σ1 17 d 3 ((σ 17 d 3) + 1) := ⟨_, rfl⟩
  have hW2 : ZW G ad A σ2 H2 := by rw [hs2]; exact hW2'
  have f19 : ∀ j, σ2 19 d j = if j = sc % 10 then x else σ 19 d j := fun j => by
    simp only [hs2, hs1, zu, true_and, Nat.reduceEqDiff, false_and, reduceIte]
    rw [show (σ 17 d 3 % 10).toNat = sc % 10 by omega]
  have hst2 : ∀ j, j < 10 → 0 ≤ σ2 19 d j ∧ σ2 19 d j ≤ 5 := fun j hj => by
    have := hst j hj
    rw [f19]
    split <;> omega
  refine zz_aload_n hx hb hl 0 dX1_addStars_23 rfl rfl ?_
  refine zz_get (T := TX1) (N := 13) (k := 3) (κ := 17) (w := .int (zi ((σ 17 d 3) + 1))) hx hb hts hinX1 hown hK hW2 (zlN (hX 17 d (decide_eq_true hd))) rfl rfl rfl (by decide) (hts (.fieldLink RX1 40 "HailCity$Driver" "starCount" "I") (by decide +kernel)) (fun _ h9 => h9) (congrArg (fun z => Value.int (zi z)) (show σ2 17 d 3 = (σ 17 d 3) + 1 from by rw [hs2, zu_same])) dX1_addStars_24 ?_
  refine zz_bipush hx hb dX1_addStars_27 (by decide +kernel) ?_
  refine zz_mmin hx hb (hml.trans hl.1.1.symm) hown (hts (.methodLink RX1 43 Lib.Math.min.name) (by decide +kernel)) (hts (.static Lib.Math.min.name) (by decide +kernel)) (hts (.initialized "java/lang/Math") (by decide +kernel)) (hts (.code Lib.Math.min.name Lib.Math.min.code 2 (some .int)) (by decide +kernel)) (Nat.le_of_ble_eq_true rfl) (Nat.le_of_ble_eq_true rfl) (Nat.le_of_ble_eq_true rfl) (Nat.le_of_ble_eq_true rfl) ⟨by omega, by omega⟩ ⟨by decide, by decide⟩ dX1_addStars_29 ?_
  refine zz_istore_n (lv' := [(2, .int (zi (min ((σ 17 d 3) + 1) 10))), (0, zr ad 17 ((d : Nat) : Int)), (1, .int (zi x))]) hx hb hl dX1_addStars_32 rfl (by decide) rfl (fun ls hl => ?_)
  refine zz_iconst hx hb dX1_addStars_33 ?_
  refine zz_istore_n (lv' := [(3, .int (zi 0)), (2, .int (zi (min ((σ 17 d 3) + 1) 10))), (0, zr ad 17 ((d : Nat) : Int)), (1, .int (zi x))]) hx hb hl dX1_addStars_34 rfl (by decide) rfl (fun ls hl => ?_)
  refine zz_iconst hx hb dX1_addStars_35 ?_
  refine zz_istore (lv' := [(4, .int (zi 0)), (3, .int (zi 0)), (2, .int (zi (min ((σ 17 d 3) + 1) 10))), (0, zr ad 17 ((d : Nat) : Int)), (1, .int (zi x))]) hx hb hl dX1_addStars_36 (by decide) rfl (fun ls hl => ?_)
  have hcut38 : ∀ (n9 : Nat) (i : Nat)  (H9 : Heap) (locs9 : List Loc) (ls : Array Slot), ((i : Int) ≤ min (σ 17 d 3 + 1) 10) → (10 - i) < n9 → ZW G ad A σ2 H9 → va_S A s.heap H9 locs9 → zh ls 5 [(0, zr ad 17 ((d : Nat) : Int)), (1, .int (zi x)), (2, .int (zi (min (σ 17 d 3 + 1) 10))), (3, .int (zi (zsum (σ2 19 d) i))), (4, .int (zi ((i : Nat) : Int)))] → W p l e ({ frames := 1, cells := 0, slots := 0, locals := 21 }) s m ([zr ad 17 ((d : Nat) : Int), .int (zi x)] : List Value).toArray below meth c H9 locs9 0 0 (MQ below (zQ G ad A zrv (fun _ u => (∀ j, u 19 d j = if j = sc % 10 then x else σ 19 d j) ∧ u 17 d 3 = (sc : Int) + 1 ∧ u 17 d 4 = zsum (u 19 d) (min (sc + 1) 10) * 100 / ((min (sc + 1) 10 : Nat) : Int) ∧ u 17 d 5 = zb (4 ≤ sc ∧ u 17 d 4 < 350) ∧ zfr (fun κ i k => i = d ∧ (κ = 19 ∨ (κ = 17 ∧ (k = 3 ∨ k = 4 ∨ k = 5)))) σ u)) ([zr ad 17 ((d : Nat) : Int), .int (zi x)] : List Value).toArray s 0 0 A) (F0 m 38 ls []) := by
    intro n9
    induction n9 with
    | zero =>
      intro i H3 locs3 ls hI38 hm38 hW3 hS3 hl
      exact absurd hm38 (Nat.not_lt_zero _)
    | succ n9 ih38 =>
      intro i H3 locs3 ls hI38 hm38 hW3 hS3 hl
      have hzr := zsum_rg hst2 i (by omega)
      
      refine zz_iload hx hb hl 4 dX1_addStars_38 rfl ?_
      refine zz_iload_n hx hb hl 2 dX1_addStars_40 rfl rfl ?_
      refine zz_icmp_ge (tgt := 60) hx hb dX1_addStars_41 (by decide) ⟨by omega, by omega⟩ ⟨by omega, by omega⟩ (fun hc41 => ?_) (fun hc41 => ?_)
      · refine zz_aload_n hx hb hl 0 dX1_addStars_60 rfl rfl ?_
        refine zz_iload_n hx hb hl 3 dX1_addStars_61 rfl rfl ?_
        refine zz_bipush hx hb dX1_addStars_62 (by decide +kernel) ?_
        refine zz_imul hx hb dX1_addStars_64 ?_
        refine zz_iload_n hx hb hl 2 dX1_addStars_65 rfl rfl ?_
        refine zz_idiv hx hb dX1_addStars_66 ⟨by omega, by omega⟩ ⟨by omega, by omega⟩ (by omega) (by omega) ?_
        have hzr := zsum_rg hst2 i (by omega)
        have hq0 : 0 ≤ zsum (σ2 19 d) i * 100 / min (σ 17 d 3 + 1) 10 := Int.ediv_nonneg (by omega) (by omega)
        have hq1 : zsum (σ2 19 d) i * 100 / min (σ 17 d 3 + 1) 10 ≤ zsum (σ2 19 d) i * 100 := Int.ediv_le_self _ (by omega)
        refine zz_put (T := TX1) (N := 13) (k := 4) (κ := 17) (v := ((d : Nat) : Int)) (x := (((zsum (σ2 19 d) i) * 100) / (min (σ 17 d 3 + 1) 10))) (ty := .int) hx hb hts hinX1 tyX1 tyX1_ok nmX1 hown hK hW3 hS3 (zlN (hX 17 d (decide_eq_true hd))) rfl rfl rfl (by decide) (hts (.fieldLink RX1 27 "HailCity$Driver" "rating" "I") (by decide +kernel)) (fun _ h9 => h9) rfl (by decide +kernel) rfl rfl rfl ⟨by omega, by omega⟩ (fun h9 _ => absurd h9 (by decide)) (fun h9 => absurd h9 (by decide)) dX1_addStars_67 (fun H4 locs4 hW4' hS4 => ?_)
        obtain ⟨σ4, hs4⟩ : ∃ z, z = zu σ2 17 d 4 (((zsum (σ2 19 d) i) * 100) / (min (σ 17 d 3 + 1) 10)) := ⟨_, rfl⟩
        have hW4 : ZW G ad A σ4 H4 := by rw [hs4]; exact hW4'
        refine zz_aload_n hx hb hl 0 dX1_addStars_70 rfl rfl ?_
        refine zz_aload_n hx hb hl 0 dX1_addStars_71 rfl rfl ?_
        refine zz_get (T := TX1) (N := 13) (k := 3) (κ := 17) (w := .int (zi ((σ 17 d 3) + 1))) hx hb hts hinX1 hown hK hW4 (zlN (hX 17 d (decide_eq_true hd))) rfl rfl rfl (by decide) (hts (.fieldLink RX1 40 "HailCity$Driver" "starCount" "I") (by decide +kernel)) (fun _ h9 => h9) (congrArg (fun z => Value.int (zi z)) (show σ4 17 d 3 = (σ 17 d 3) + 1 from by rw [hs4, zu_s (by decide), hs2, zu_same])) dX1_addStars_72 ?_
        refine zz_iconst hx hb dX1_addStars_75 ?_
        refine zz_icmp_lt (tgt := 93) hx hb dX1_addStars_76 (by decide) ⟨by omega, by omega⟩ ⟨by decide, by decide⟩ (fun hc76 => ?_) (fun hc76 => ?_)
        · refine zz_iconst hx hb dX1_addStars_93 ?_
          refine zz_put (T := TX1) (N := 13) (k := 5) (κ := 17) (v := ((d : Nat) : Int)) (x := 0) (ty := .boolean) hx hb hts hinX1 tyX1 tyX1_ok nmX1 hown hK hW4 hS4 (zlN (hX 17 d (decide_eq_true hd))) rfl rfl rfl (by decide) (hts (.fieldLink RX1 37 "HailCity$Driver" "isBarred" "Z") (by decide +kernel)) (fun _ h9 => h9) rfl (by decide +kernel) (znar_b (by decide)) rfl rfl (zg_01 (by decide)) (fun h9 _ => absurd h9 (by decide)) (fun _ => (by decide)) dX1_addStars_94 (fun H5 locs5 hW5' hS5 => ?_)
          obtain ⟨σ5, hs5⟩ : ∃ z, z = zu σ4 17 d 5 0 := ⟨_, rfl⟩
          have hW5 : ZW G ad A σ5 H5 := by rw [hs5]; exact hW5'
          refine W.eq (g2 := F0 m 97 ls []) rfl ?_
          refine zz_retv hx hb hr hlocks hW5 hS5 ?_ dX1_addStars_97
          have hi : i = min (sc + 1) 10 := by omega
          have he : zsum (σ2 19 d) i = zsum (σ5 19 d) i := zsum_congr i (fun j _ => by rw [hs5, zu_k (by decide), hs4, zu_k (by decide)])
          refine ⟨fun j => ?_, ?_, ?_, ?_, fun κ' i' k' hn => ?_⟩
          · rw [hs5, zu_k (by decide), hs4, zu_k (by decide), f19]
          · rw [hs5, zu_s (by decide), hs4, zu_s (by decide), hs2, zu_same]; omega
          · rw [hs5, zu_s (by decide), ← hs5, ← hi, ← he, hs4, zu_same, show min (σ 17 d 3 + 1) 10 = (i : Int) by omega]
          · rw [show σ5 17 d 4 = _ from by rw [hs5, zu_s (by decide), hs4, zu_same]]
            rw [hs5, zu_same]
            first | exact (zb_t (by omega)).symm | exact (zb_f (by omega)).symm
          · rw [hs5, zu_ne (by omega), hs4, zu_ne (by omega), hs2, zu_ne (by omega), hs1, zu_ne (by omega)]
        · refine zz_aload_n hx hb hl 0 dX1_addStars_79 rfl rfl ?_
          refine zz_get (T := TX1) (N := 13) (k := 4) (κ := 17) (w := .int (zi (((zsum (σ2 19 d) i) * 100) / (min (σ 17 d 3 + 1) 10)))) hx hb hts hinX1 hown hK hW4 (zlN (hX 17 d (decide_eq_true hd))) rfl rfl rfl (by decide) (hts (.fieldLink RX1 27 "HailCity$Driver" "rating" "I") (by decide +kernel)) (fun _ h9 => h9) (congrArg (fun z => Value.int (zi z)) (show σ4 17 d 4 = ((zsum (σ2 19 d) i) * 100) / (min (σ 17 d 3 + 1) 10) from by rw [hs4, zu_same])) dX1_addStars_80 ?_
          refine zz_sipush hx hb dX1_addStars_83 (by decide +kernel) ?_
          refine zz_icmp_ge (tgt := 93) hx hb dX1_addStars_86 (by decide) ⟨by omega, by omega⟩ ⟨by decide, by decide⟩ (fun hc86 => ?_) (fun hc86 => ?_)
          · refine zz_iconst hx hb dX1_addStars_93 ?_
            refine zz_put (T := TX1) (N := 13) (k := 5) (κ := 17) (v := ((d : Nat) : Int)) (x := 0) (ty := .boolean) hx hb hts hinX1 tyX1 tyX1_ok nmX1 hown hK hW4 hS4 (zlN (hX 17 d (decide_eq_true hd))) rfl rfl rfl (by decide) (hts (.fieldLink RX1 37 "HailCity$Driver" "isBarred" "Z") (by decide +kernel)) (fun _ h9 => h9) rfl (by decide +kernel) (znar_b (by decide)) rfl rfl (zg_01 (by decide)) (fun h9 _ => absurd h9 (by decide)) (fun _ => (by decide)) dX1_addStars_94 (fun H6 locs6 hW6' hS6 => ?_)
            obtain ⟨σ6, hs6⟩ : ∃ z, z = zu σ4 17 d 5 0 := ⟨_, rfl⟩
            have hW6 : ZW G ad A σ6 H6 := by rw [hs6]; exact hW6'
            refine W.eq (g2 := F0 m 97 ls []) rfl ?_
            refine zz_retv hx hb hr hlocks hW6 hS6 ?_ dX1_addStars_97
            have hi : i = min (sc + 1) 10 := by omega
            have he : zsum (σ2 19 d) i = zsum (σ6 19 d) i := zsum_congr i (fun j _ => by rw [hs6, zu_k (by decide), hs4, zu_k (by decide)])
            refine ⟨fun j => ?_, ?_, ?_, ?_, fun κ' i' k' hn => ?_⟩
            · rw [hs6, zu_k (by decide), hs4, zu_k (by decide), f19]
            · rw [hs6, zu_s (by decide), hs4, zu_s (by decide), hs2, zu_same]; omega
            · rw [hs6, zu_s (by decide), ← hs6, ← hi, ← he, hs4, zu_same, show min (σ 17 d 3 + 1) 10 = (i : Int) by omega]
            · rw [show σ6 17 d 4 = _ from by rw [hs6, zu_s (by decide), hs4, zu_same]]
              rw [hs6, zu_same]
              first | exact (zb_t (by omega)).symm | exact (zb_f (by omega)).symm
            · rw [hs6, zu_ne (by omega), hs4, zu_ne (by omega), hs2, zu_ne (by omega), hs1, zu_ne (by omega)]
          · refine zz_iconst hx hb dX1_addStars_89 ?_
            refine zz_goto (tgt := 94) hx hb dX1_addStars_90 (by decide) ?_
            refine zz_put (T := TX1) (N := 13) (k := 5) (κ := 17) (v := ((d : Nat) : Int)) (x := 1) (ty := .boolean) hx hb hts hinX1 tyX1 tyX1_ok nmX1 hown hK hW4 hS4 (zlN (hX 17 d (decide_eq_true hd))) rfl rfl rfl (by decide) (hts (.fieldLink RX1 37 "HailCity$Driver" "isBarred" "Z") (by decide +kernel)) (fun _ h9 => h9) rfl (by decide +kernel) (znar_b (by decide)) rfl rfl (zg_01 (by decide)) (fun h9 _ => absurd h9 (by decide)) (fun _ => (by decide)) dX1_addStars_94 (fun H7 locs7 hW7' hS7 => ?_)
            obtain ⟨σ7, hs7⟩ : ∃ z, z = zu σ4 17 d 5 1 := ⟨_, rfl⟩
            have hW7 : ZW G ad A σ7 H7 := by rw [hs7]; exact hW7'
            refine W.eq (g2 := F0 m 97 ls []) rfl ?_
            refine zz_retv hx hb hr hlocks hW7 hS7 ?_ dX1_addStars_97
            have hi : i = min (sc + 1) 10 := by omega
            have he : zsum (σ2 19 d) i = zsum (σ7 19 d) i := zsum_congr i (fun j _ => by rw [hs7, zu_k (by decide), hs4, zu_k (by decide)])
            refine ⟨fun j => ?_, ?_, ?_, ?_, fun κ' i' k' hn => ?_⟩
            · rw [hs7, zu_k (by decide), hs4, zu_k (by decide), f19]
            · rw [hs7, zu_s (by decide), hs4, zu_s (by decide), hs2, zu_same]; omega
            · rw [hs7, zu_s (by decide), ← hs7, ← hi, ← he, hs4, zu_same, show min (σ 17 d 3 + 1) 10 = (i : Int) by omega]
            · rw [show σ7 17 d 4 = _ from by rw [hs7, zu_s (by decide), hs4, zu_same]]
              rw [hs7, zu_same]
              first | exact (zb_t (by omega)).symm | exact (zb_f (by omega)).symm
            · rw [hs7, zu_ne (by omega), hs4, zu_ne (by omega), hs2, zu_ne (by omega), hs1, zu_ne (by omega)]
      · refine zz_iload_n hx hb hl 3 dX1_addStars_44 rfl rfl ?_
        have hz4 := hst2 i (by omega)
        refine zz_aload_n hx hb hl 0 dX1_addStars_45 rfl rfl ?_
        refine zz_get (T := TX1) (N := 13) (k := 2) (κ := 17) (w := zr ad 19 ((d : Nat) : Int)) hx hb hts hinX1 hown hK hW3 (zlN (hX 17 d (decide_eq_true hd))) rfl rfl rfl (by decide) (hts (.fieldLink RX1 23 "HailCity$Driver" "latestStars" "[I") (by decide +kernel)) (fun _ h9 => h9) rfl dX1_addStars_46 ?_
        refine zz_iload hx hb hl 4 dX1_addStars_49 rfl ?_
        refine zz_iald (w := σ1 19 d i) hx hb hK hW3 (zlN (hX 19 d (decide_eq_true hd))) rfl rfl rfl (by show (0 : Int) ≤ ((i : Nat) : Int); omega) (by show ((i : Nat) : Int) < (10 : Int); omega) (show σ2 19 d i = σ1 19 d i from by rw [hs2, zu_k (by decide)]) dX1_addStars_51 ?_
        refine zz_iadd hx hb dX1_addStars_52 ?_
        refine zz_istore_n (lv' := [(3, .int (zi ((zsum (σ2 19 d) i) + (σ1 19 d i)))), (0, zr ad 17 ((d : Nat) : Int)), (1, .int (zi x)), (2, .int (zi (min (σ 17 d 3 + 1) 10))), (4, .int (zi ((i : Nat) : Int)))]) hx hb hl dX1_addStars_53 rfl (by decide) rfl (fun ls hl => ?_)
        refine zz_iinc (lv' := [(4, .int (zi (((i : Nat) : Int) + 1))), (3, .int (zi ((zsum (σ2 19 d) i) + (σ1 19 d i)))), (0, zr ad 17 ((d : Nat) : Int)), (1, .int (zi x)), (2, .int (zi (min (σ 17 d 3 + 1) 10)))]) hx hb hl dX1_addStars_54 (k0 := 4) rfl (by decide) rfl (fun ls hl => ?_)
        refine zz_goto (tgt := 38) hx hb dX1_addStars_57 (by decide) ?_
        refine ih38 (i + 1) H3 locs3 ls ?_ (by omega) hW3 hS3 (zh_sub hl [2, 3, 4, 1, 0] (by rw [show zsum (σ2 19 d) (i + 1) = zsum (σ2 19 d) i + σ1 19 d i from by show _ + σ2 19 d i = _; rw [hs2, zu_k (by decide)]]; rfl))
        omega
  refine hcut38 _ 0 H2 locs2 ls ?_ (Nat.lt_succ_self _) hW2 hS2 (zh_sub hl [3, 4, 2, 1, 0] rfl)
  omega

set_option maxHeartbeats 4000000 in
set_option maxRecDepth 100000 in
theorem c_X3_isPromiseBroken (l : Launch) (G : zG) (ad : zA) (A : Nat → Prop) (N0 : Nat) (σ : zS) (nd nr : Nat) (hX : zX ad nd nr) (q : Nat) (hq : q < nr) : Met l yX3_isPromiseBroken wsX3_isPromiseBroken ({ frames := 0, cells := 0, slots := 0, locals := 0 }) (zP G ad A N0 σ [zr ad 23 ((q : Nat) : Int)]) (zQ G ad A zri (fun r u => σ = u ∧ zb (σ 23 q 10 ≠ -1 ∧ σ 23 q 9 < σ 23 q 10) = r)) 0 0 A := by
  refine zz_of (cc := cX3_isPromiseBroken) (maxL := 1) (ret := (some .boolean)) (by decide) rfl ⟨rfl, rfl⟩ (List.forall_mem_cons.mpr ⟨zr_cat _ _ _, fun _ h => absurd h List.not_mem_nil⟩) (Nat.le_of_ble_eq_true rfl) ?_
  intro p e s m below meth c hx hb hr hml hts hown hlocks hsz hW0 hK ls hl
  have hS0 : va_S A s.heap s.heap [] := va_S.rf
  have hl : zh ls 1 [(0, zr ad 23 ((q : Nat) : Int))] := hl
  have hinX3 : ∀ w ∈ u_ws RX3 TX3 12, w ∈ wsX3_isPromiseBroken := by decide +kernel
  refine zz_aload_n hx hb hl 0 dX3_isPromiseBroken_0 rfl rfl ?_
  refine zz_get (T := TX3) (N := 12) (k := 10) (κ := 23) (w := .int (zi (σ 23 q 10))) hx hb hts hinX3 hown hK hW0 (zlN (hX 23 q (decide_eq_true hq))) rfl rfl rfl (by decide) (hts (.fieldLink RX3 31 "HailCity$Request" "letOutAt" "I") (by decide +kernel)) (fun _ h9 => h9) rfl dX3_isPromiseBroken_1 ?_
  refine zz_iconst hx hb dX3_isPromiseBroken_4 ?_
  refine zz_icmp_eq (tgt := 23) hx hb dX3_isPromiseBroken_5 (by decide) (hW0.2.2.1 _ _ _) ⟨by decide, by decide⟩ (fun hc5 => ?_) (fun hc5 => ?_)
  · refine zz_iconst hx hb dX3_isPromiseBroken_23 ?_
    refine W.eq (g2 := F0 m 24 ls [.int (zi 0)]) rfl ?_
    refine zz_retz hx hb hr hlocks hW0 hS0 (by decide) ?_ dX3_isPromiseBroken_24
    first | exact ⟨rfl, zb_t (by omega)⟩ | exact ⟨rfl, zb_f (by omega)⟩
  · refine zz_aload_n hx hb hl 0 dX3_isPromiseBroken_8 rfl rfl ?_
    refine zz_get (T := TX3) (N := 12) (k := 10) (κ := 23) (w := .int (zi (σ 23 q 10))) hx hb hts hinX3 hown hK hW0 (zlN (hX 23 q (decide_eq_true hq))) rfl rfl rfl (by decide) (hts (.fieldLink RX3 31 "HailCity$Request" "letOutAt" "I") (by decide +kernel)) (fun _ h9 => h9) rfl dX3_isPromiseBroken_9 ?_
    refine zz_aload_n hx hb hl 0 dX3_isPromiseBroken_12 rfl rfl ?_
    refine zz_get (T := TX3) (N := 12) (k := 9) (κ := 23) (w := .int (zi (σ 23 q 9))) hx hb hts hinX3 hown hK hW0 (zlN (hX 23 q (decide_eq_true hq))) rfl rfl rfl (by decide) (hts (.fieldLink RX3 28 "HailCity$Request" "promise" "I") (by decide +kernel)) (fun _ h9 => h9) rfl dX3_isPromiseBroken_13 ?_
    refine zz_icmp_le (tgt := 23) hx hb dX3_isPromiseBroken_16 (by decide) (hW0.2.2.1 _ _ _) (hW0.2.2.1 _ _ _) (fun hc16 => ?_) (fun hc16 => ?_)
    · refine zz_iconst hx hb dX3_isPromiseBroken_23 ?_
      refine W.eq (g2 := F0 m 24 ls [.int (zi 0)]) rfl ?_
      refine zz_retz hx hb hr hlocks hW0 hS0 (by decide) ?_ dX3_isPromiseBroken_24
      first | exact ⟨rfl, zb_t (by omega)⟩ | exact ⟨rfl, zb_f (by omega)⟩
    · refine zz_iconst hx hb dX3_isPromiseBroken_19 ?_
      refine zz_goto (tgt := 24) hx hb dX3_isPromiseBroken_20 (by decide) ?_
      refine W.eq (g2 := F0 m 24 ls [.int (zi 1)]) rfl ?_
      refine zz_retz hx hb hr hlocks hW0 hS0 (by decide) ?_ dX3_isPromiseBroken_24
      first | exact ⟨rfl, zb_t (by omega)⟩ | exact ⟨rfl, zb_f (by omega)⟩
